/-! a decoding, as a whole -/
theorem watch_cls (s : Sg) (x y : Int32) : Kp [50, 51, 52] s (f_X5_watch s x y) ∧ (∀ k, k < 80 → (f_X5_watch s x y) 50 k = s 40 k) ∧ (¬ y = 0 → ∃ c : Sg, (∀ k, k < 80 → c 51 k = if i_abs (s 40 k - s 50 k) ≤ x then 0 else 1) ∧ ∀ n i, n < 8 → i < 10 → (f_X5_watch s x y) 52 (10 * n + i) = f_X5_kindOf c (nI n) (nI i)) := by
  rw [f_X5_watch_eq]
  dsimp only
  obtain ⟨c1, c2⟩ := chg_cls s x
  obtain ⟨d1, d2⟩ := kinds_cls (loopF (b_X5_watch_7 x) 80 s)
  have kk : Kp [50, 51, 52] s (if y = 0 then s else loopF b_X5_watch_54 8 (loopF (b_X5_watch_7 x) 80 s)) := by
    by_cases c : y = 0
    · rw [if_pos c]; exact Kp.rf _
    · rw [if_neg c]; exact (c2.up (by decide)).tr (d2.up (by decide))
  have k40 : (if y = 0 then s else loopF b_X5_watch_54 8 (loopF (b_X5_watch_7 x) 80 s)) 40 = s 40 := kk 40 (by decide)
  refine ⟨kk.tr (fun k hk => by rw [up_at, if_neg (fun q => hk (by rw [q]; decide))]), fun k hk => ?_, fun hy => ⟨loopF (b_X5_watch_7 x) 80 s, c1, fun n i hn hi => ?_⟩⟩
  · rw [up_at, if_pos rfl, k40]
    exact (pk_cpy_in (Nat.zero_le _) (by simpa using hk)).trans (by rw [show (0 : Int32).toNatClampNeg = 0 from rfl]; simp)
  · rw [up_at, if_neg (show ¬ (52 : Nat) = 50 by decide), if_neg hy]
    exact d1 n i hn hi
theorem dec_of {σ σ1 σ2 σ3 σ5 σ9 : Sg} {φ φ4 φ6 : Fl} {w : Int32} (h1 : f_X9_sendFrom σ = σ1) (h2 : f_X4_find σ1 = σ2) (h3 : f_X1_measure σ2 (f_X8_threshold σ2) = σ3) (hw : f_X8_standardTaken σ3 (f_X1_guessedStandard σ3) = w) (h4 : f_X6_follow σ3 φ w = φ4) (h5 : f_X3_separate σ3 w = σ5) (h6 : f_X2_turn σ5 φ4 w = φ6) (h9 : f_X5_watch σ5 (f_X8_limit σ5) (if σ5 0 10 ≤ 0 then 0 else 1) = σ9) : f_X10_decode σ φ = (f_X10_tally_29 (sw σ9 0 10 (σ9 0 10 + 1)), sw σ9 0 10 (σ9 0 10 + 1), φ6) := by
  subst h1 h2 h3 hw h4 h5 h6 h9
  rfl
/-- the standard that a decoding takes -/
def stdT (τ : Sg) : Int32 := if τ 14 3 = 2 then (if τ 30 4 ≤ τ 30 5 then 0 else 1) else τ 14 3
/-- what a decoding leaves -/
def DecOK (σ τ : Sg) (ψ : Fl) : Prop :=
  LnS τ (τ 14 0) ∧ (∀ n i, n < 8 → i < 10 → τ 39 (10 * n + i) = MS (f_L_at τ) (τ 27 n) n i) ∧ (∀ n i, n < 8 → i < 10 → SegOK (f_L_at τ) (τ 27) (τ 39) (τ 14 2) (τ 14 1) (stdT τ) τ n i) ∧
  (∃ φ4 : Fl, CR 45 46 47 48 (UF (φ4 36) (φ4 37) (τ 34) τ) (VF (stdT τ) (φ4 36) (φ4 37) (τ 34) τ) (avF (stdT τ)) φ4 ψ 80) ∧
  (∀ k, k < 80 → τ 50 k = τ 40 k) ∧ (¬ σ 0 10 ≤ 0 → ∃ c : Sg, (∀ k, k < 80 → c 51 k = if i_abs (τ 40 k - σ 50 k) ≤ τ 14 1 then 0 else 1) ∧ ∀ n i, n < 8 → i < 10 → τ 52 (10 * n + i) = f_X5_kindOf c (nI n) (nI i)) ∧
  τ 0 10 = σ 0 10 + 1 ∧ (∀ k, (1 ≤ k ∧ k ≤ 14) ∨ 53 ≤ k → τ k = σ k)
theorem dec_cls {σ : Sg} (φ : Fl) (hP : PR σ) (hc : vp_in (σ 14 2) 4) (hd : 1 ≤ σ 0 10 + 1) : (f_X10_decode σ φ).1 = f_X10_tally_29 (f_X10_decode σ φ).2.1 ∧ DecOK σ (f_X10_decode σ φ).2.1 (f_X10_decode σ φ).2.2 := by
  obtain ⟨σ1, h1⟩ : ∃ s, f_X9_sendFrom σ = s := ⟨_, rfl⟩
  obtain ⟨σ2, h2⟩ : ∃ s, f_X4_find σ1 = s := ⟨_, rfl⟩
  obtain ⟨σ3, h3⟩ : ∃ s, f_X1_measure σ2 (f_X8_threshold σ2) = s := ⟨_, rfl⟩
  obtain ⟨w, hw⟩ : ∃ s, f_X8_standardTaken σ3 (f_X1_guessedStandard σ3) = s := ⟨_, rfl⟩
  obtain ⟨φ4, h4⟩ : ∃ s, f_X6_follow σ3 φ w = s := ⟨_, rfl⟩
  obtain ⟨σ5, h5⟩ : ∃ s, f_X3_separate σ3 w = s := ⟨_, rfl⟩
  obtain ⟨φ6, h6⟩ : ∃ s, f_X2_turn σ5 φ4 w = s := ⟨_, rfl⟩
  obtain ⟨σ9, h9⟩ : ∃ s, f_X5_watch σ5 (f_X8_limit σ5) (if σ5 0 10 ≤ 0 then 0 else 1) = s := ⟨_, rfl⟩
  rw [dec_of h1 h2 h3 hw h4 h5 h6 h9]
  refine ⟨rfl, ?_⟩
  show DecOK σ (sw σ9 0 10 (σ9 0 10 + 1)) φ6
  obtain ⟨s1, s2⟩ := send_at σ
  rw [h1] at s1 s2
  have A1 : AT (f_L_at σ) σ1 := at_S s1
  obtain ⟨⟨H, M, f1, f2, f3⟩, f4, f5⟩ := find_cls A1
  rw [h2] at f3 f4 f5
  have A2 : AT (f_L_at σ) σ2 := A1.k (fun k a c => f5 k (fun q => by
    simp only [List.mem_cons, List.mem_nil_iff, or_false] at q
    omega))
  obtain ⟨m1, m2, m3, m4, m5, m6⟩ := measure_cls A2 (f_X8_threshold σ2) h3
  have A3 : AT (f_L_at σ) σ3 := A2.k (fun k a c => m6 k (fun q => by
    simp only [List.mem_cons, List.mem_nil_iff, or_false] at q
    omega))
  have k13 : ∀ k, k ≤ 16 ∨ 35 ≤ k → σ3 k = σ k := fun k hk => ((m6 k (fun q => by
    simp only [List.mem_cons, List.mem_nil_iff, or_false] at q
    omega)).trans (f5 k (fun q => by
    simp only [List.mem_cons, List.mem_nil_iff, or_false] at q
    omega))).trans (s2 k (fun q => by have := SL_le q; omega))
  obtain ⟨p1, p2, p3⟩ := sep_cls (w := w) A3 (by rw [k13 14 (by omega)]; exact hc) h5
  have cr := turn_at σ5 φ4 w
  rw [h6] at cr
  obtain ⟨w1, w2, w3⟩ := watch_cls σ5 (f_X8_limit σ5) (if σ5 0 10 ≤ 0 then 0 else 1)
  rw [h9] at w1 w2 w3
  generalize hτ : sw σ9 0 10 (σ9 0 10 + 1) = τ
  have t9 : ∀ k, ¬ k = 0 → τ k = σ9 k := fun k hk => by rw [← hτ, sw_row hk]
  have t5 : ∀ k, ¬ k = 0 → ¬ (50 ≤ k ∧ k ≤ 52) → τ k = σ5 k := fun k hk h => (t9 k hk).trans (w1 k (fun q => by
    simp only [List.mem_cons, List.mem_nil_iff, or_false] at q
    omega))
  have t3 : ∀ k, ¬ k = 0 → ¬ (39 ≤ k ∧ k ≤ 43) → ¬ (50 ≤ k ∧ k ≤ 52) → τ k = σ3 k := fun k hk h h' => (t5 k hk h').trans (p3 k (fun q => by
    simp only [List.mem_cons, List.mem_nil_iff, or_false] at q
    omega))
  have t2 : ∀ k, ¬ k = 0 → k ≤ 29 → τ k = σ2 k := fun k hk h => (t3 k hk (by omega) (by omega)).trans (m6 k (fun q => by
    simp only [List.mem_cons, List.mem_nil_iff, or_false] at q
    omega))
  have tσ : ∀ k, (1 ≤ k ∧ k ≤ 14) ∨ 53 ≤ k → τ k = σ k := fun k hk => (t3 k (by omega) (by omega) (by omega)).trans (k13 k (by omega))
  have eS : f_L_at τ = f_L_at σ := lat_congr (fun k a b => tσ k (by omega))
  have e0 : σ5 0 10 = σ 0 10 := by rw [p3 0 (by decide), k13 0 (by omega)]
  have d0 : τ 0 10 = σ 0 10 + 1 := by
    rw [← hτ, sw_same, w1 0 (by decide), e0]
  have thr : f_X8_threshold σ2 = τ 14 0 := by
    show σ2 14 (0 : Int32).toNatClampNeg = τ 14 0
    rw [t2 14 (by decide) (by decide)]
    rfl
  have e14 : σ3 14 = τ 14 := (t3 14 (by decide) (by decide) (by decide)).symm
  have ew : w = stdT τ := by
    rw [← hw, f_X8_standardTaken_eq, f_X1_guessedStandard_eq, e14, ← t3 30 (by decide) (by decide) (by decide)]
    dsimp only
    rw [oneIf_01 (zo_ite (.inl rfl) (.inr rfl))]
    rfl
  have hPτ : PR τ := by
    unfold PR
    rw [tσ 2 (by omega), tσ 3 (by omega), tσ 4 (by omega), tσ 6 (by omega), tσ 8 (by omega)]
    exact hP
  rw [thr] at m2 m5
  refine ⟨⟨⟨H, M, f1, f2, ?_⟩, ?_, ?_, ?_, ?_, ?_, ?_, rfl, ?_, hPτ⟩, ?_, ?_, ⟨φ4, ?_⟩, ?_, ?_, d0, tσ⟩
  · rw [eS, t2 26 (by decide) (by decide), t2 27 (by decide) (by decide), t2 28 (by decide) (by decide), t2 29 (by decide) (by decide)]
    exact f3
  · rw [t2 29 (by decide) (by decide)]; exact f4
  · rw [eS, t2 27 (by decide) (by decide), t3 31 (by decide) (by decide) (by decide), t3 32 (by decide) (by decide) (by decide)]
    exact m1
  · rw [t3 31 (by decide) (by decide) (by decide), t3 32 (by decide) (by decide) (by decide), t3 33 (by decide) (by decide) (by decide)]
    exact m2
  · rw [t3 33 (by decide) (by decide) (by decide), t3 34 (by decide) (by decide) (by decide)]
    exact m3
  · rw [t3 34 (by decide) (by decide) (by decide)]
    exact m4
  · rw [t3 30 (by decide) (by decide) (by decide), t3 32 (by decide) (by decide) (by decide), t3 33 (by decide) (by decide) (by decide)]
    exact m5
  · rw [d0]; exact hd
  · rw [eS, t5 39 (by decide) (by decide), t3 27 (by decide) (by decide) (by decide)]
    exact p1
  · intro n i hn hi
    have q := p2 n i hn hi
    rw [e14, ew, ← t3 27 (by decide) (by decide) (by decide), ← t5 39 (by decide) (by decide)] at q
    rw [eS]
    exact q.keep ⟨by rw [t5 41 (by decide) (by decide)], by rw [t5 40 (by decide) (by decide)], by rw [t5 42 (by decide) (by decide)], by rw [t5 43 (by decide) (by decide)]⟩
  · have e34 : σ5 34 = τ 34 := (t5 34 (by decide) (by decide)).symm
    have eU : UF (φ4 36) (φ4 37) (σ5 34) σ5 = UF (φ4 36) (φ4 37) (τ 34) τ := by
      funext k
      unfold UF
      rw [e34, t5 42 (by decide) (by decide), t5 43 (by decide) (by decide)]
    have eV : VF w (φ4 36) (φ4 37) (σ5 34) σ5 = VF w (φ4 36) (φ4 37) (τ 34) τ := by
      funext k
      unfold VF
      rw [e34, t5 42 (by decide) (by decide), t5 43 (by decide) (by decide)]
    rw [eU, eV, ew] at cr
    exact cr
  · intro k hk
    rw [t9 50 (by decide), w2 k hk, t5 40 (by decide) (by decide)]
  · intro h0
    rw [e0, if_neg h0] at w3
    obtain ⟨c, c1, c2⟩ := w3 (by decide)
    refine ⟨c, fun k hk => ?_, fun n i hn hi => ?_⟩
    · rw [c1 k hk, p3 50 (by decide), k13 50 (by omega), t5 40 (by decide) (by decide)]
      have : f_X8_limit σ5 = τ 14 1 := by
        show σ5 14 (1 : Int32).toNatClampNeg = τ 14 1
        rw [t5 14 (by decide) (by decide)]
        rfl
      rw [this]
    · rw [t9 52 (by decide)]; exact c2 n i hn hi
