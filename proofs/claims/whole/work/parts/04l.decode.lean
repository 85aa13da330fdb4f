section
/-! decode: motion -/
theorem motion_ref (u : Sg) : (∀ k, k < 80 → (f_X11_findMotion u) 83 k = if u 53 13 ≤ 1 then 0 else (if f_X11_size (u 75 k - u 76 k) ≤ u 62 1 then 0 else 1)) ∧ Kp [83] u (f_X11_findMotion u) := by
  rw [f_X11_findMotion_eq]
  refine loopF_inv (B := b_X11_findMotion_2) (N := 80) (I := u) (fun j s => (∀ k, k < j → s 83 k = if u 53 13 ≤ 1 then 0 else (if f_X11_size (u 75 k - u 76 k) ≤ u 62 1 then 0 else 1)) ∧ Kp [83] u s) ⟨fun k hk => absurd hk (by omega), Kp.rf _⟩ (fun j s hj hI => ?_)
  obtain ⟨i1, i2⟩ := hI
  rw [b_X11_findMotion_2_eq, i2 53 (by decide), i2 75 (by decide), i2 76 (by decide), i2 62 (by decide), nI_clamp (by omega)]
  dsimp only
  refine ⟨fun k hk => ?_, i2.tr (Kp.sw (by decide) _ _ _)⟩
  by_cases q : k = j
  · subst q
    rw [sw_same, (lv_narrowZ (zo_ite (.inl rfl) (zo_ite (.inl rfl) (.inr rfl)))).2.2]
    rfl
  · rw [sw_place q]; exact i1 k (by omega)
theorem chg_cls (s : Sg) (x : Int32) : (∀ k, k < 80 → (loopF (b_X5_watch_7 x) 80 s) 51 k = if i_abs (s 40 k - s 50 k) ≤ x then 0 else 1) ∧ Kp [51] s (loopF (b_X5_watch_7 x) 80 s) := by
  refine loopF_inv (B := b_X5_watch_7 x) (N := 80) (I := s) (fun j u => (∀ k, k < j → u 51 k = if i_abs (s 40 k - s 50 k) ≤ x then 0 else 1) ∧ Kp [51] s u) ⟨fun k hk => absurd hk (by omega), Kp.rf _⟩ (fun j u hj hI => ?_)
  obtain ⟨i1, i2⟩ := hI
  rw [b_X5_watch_7_eq, i2 40 (by decide), i2 50 (by decide), nI_clamp (by omega)]
  dsimp only
  refine ⟨fun k hk => ?_, i2.tr (Kp.sw (by decide) _ _ _)⟩
  by_cases q : k = j
  · subst q
    rw [sw_same, (lv_narrowZ (zo_ite (.inl rfl) (.inr rfl))).2.2]
  · rw [sw_place q]; exact i1 k (by omega)
theorem hc_in (s : Sg) {n i : Nat} (hn : n < 8) (hi : i < 10) : f_X5_hasChanged s (nI n) (nI i) = if s 51 (10 * n + i) = 0 then 0 else 1 := by
  rw [f_X5_hasChanged_eq, if_neg (ip_of (vp_in_nI hn (by decide)) (vp_in_nI hi (by decide))), pl_10, nI_clamp (by omega)]
theorem hc_out (s : Sg) {x y : Int32} (h : ¬ (vp_in x 8 ∧ vp_in y 10)) : f_X5_hasChanged s x y = 0 := by
  rw [f_X5_hasChanged_eq]
  dsimp only
  by_cases c : f_X10_isPlace x y = 0
  · rw [if_pos c]
  · exact absurd (ip_in c) h
theorem vp_no {a n : Nat} (h : n ≤ a) (ha : a < 2 ^ 31) : ¬ vp_in (nI a) n := fun q => by
  have := vp_lt q
  rw [nI_clamp ha] at this
  omega
theorem kind_eq {s u : Sg} (h : ∀ k, k < 80 → s 51 k = u 83 k) {n i : Nat} (hn : n < 8) (hi : i < 10) : f_X5_kindOf s (nI n) (nI i) = f_X11_motionAt u (nI (10 * n + i)) := by
  have hk : 10 * n + i < 80 := by omega
  have em : nI (10 * n + i) - nI (10 * n + i) / 10 * 10 = nI i := by
    have := nI_mod (j := 10 * n + i) (d := 10) (by omega) (by decide) (by decide)
    rw [show (10 * n + i) % 10 = i by omega] at this
    exact this
  have eL : f_X5_hasChanged s (nI n) (nI i - 1) = (if nI i ≤ 0 then 0 else (if u 83 (nI (10 * n + i) - 1).toNatClampNeg = 0 then 0 else 1)) := by
    rcases Nat.eq_zero_or_pos i with q | q
    · subst q
      rw [if_pos (show nI 0 ≤ 0 by decide)]
      exact hc_out s (fun z => absurd z.2 (fun z => z (.inl (by decide))))
    · have e1 : nI i - 1 = nI (i - 1) := pk_sub (a := i) (b := 1) q
      have e2 : nI (10 * n + i) - 1 = nI (10 * n + (i - 1)) := by
        rw [show nI (10 * n + i) - 1 = nI (10 * n + i - 1) from pk_sub (a := 10 * n + i) (b := 1) (by omega), show 10 * n + i - 1 = 10 * n + (i - 1) by omega]
      rw [if_neg (nI_nle q (by omega)), e1, e2, hc_in s hn (by omega), nI_clamp (by omega), h _ (by omega)]
  have eR : f_X5_hasChanged s (nI n) (nI i + 1) = (if 9 ≤ nI i then 0 else (if u 83 (nI (10 * n + i) + 1).toNatClampNeg = 0 then 0 else 1)) := by
    rw [nI_1, nI_1]
    by_cases q : i = 9
    · subst q
      rw [if_pos (show 9 ≤ nI 9 by decide)]
      exact hc_out s (fun z => vp_no (a := 10) (n := 10) (by decide) (by decide) z.2)
    · rw [if_neg (show ¬ 9 ≤ nI i from nI_ge (b := 9) (by omega) (by decide)), hc_in s hn (by omega), nI_clamp (by omega), h _ (by omega), show 10 * n + (i + 1) = 10 * n + i + 1 by omega]
  have eA : f_X5_hasChanged s (nI n - 1) (nI i) = (if nI (10 * n + i) ≤ 9 then 0 else (if u 83 (nI (10 * n + i) - 10).toNatClampNeg = 0 then 0 else 1)) := by
    rcases Nat.eq_zero_or_pos n with q | q
    · subst q
      rw [if_pos (show nI (10 * 0 + i) ≤ 9 from nI_le (b := 9) (by omega) (by decide))]
      exact hc_out s (fun z => absurd z.1 (fun z => z (.inl (by decide))))
    · have e1 : nI n - 1 = nI (n - 1) := pk_sub (a := n) (b := 1) q
      have e2 : nI (10 * n + i) - 10 = nI (10 * (n - 1) + i) := by
        rw [show nI (10 * n + i) - 10 = nI (10 * n + i - 10) from pk_sub (a := 10 * n + i) (b := 10) (by omega), show 10 * n + i - 10 = 10 * (n - 1) + i by omega]
      rw [if_neg (show ¬ nI (10 * n + i) ≤ 9 from nI_ge (a := 9) (by omega) (by omega)), e1, e2, hc_in s (by omega) hi, nI_clamp (by omega), h _ (by omega)]
  have eB : f_X5_hasChanged s (nI n + 1) (nI i) = (if 70 ≤ nI (10 * n + i) then 0 else (if u 83 (nI (10 * n + i) + 10).toNatClampNeg = 0 then 0 else 1)) := by
    rw [nI_1]
    by_cases q : n = 7
    · subst q
      rw [if_pos (show 70 ≤ nI (10 * 7 + i) from nI_le (a := 70) (by omega) (by omega))]
      exact hc_out s (fun z => vp_no (a := 8) (n := 8) (by decide) (by decide) z.1)
    · have e2 : nI (10 * n + i) + 10 = nI (10 * (n + 1) + i) := by
        rw [show nI (10 * n + i) + 10 = nI (10 * n + i + 10) from nI_add (10 * n + i) 10, show 10 * n + i + 10 = 10 * (n + 1) + i by omega]
      rw [if_neg (show ¬ 70 ≤ nI (10 * n + i) from nI_ge (b := 70) (by omega) (by decide)), e2, hc_in s (by omega) hi, nI_clamp (by omega), h _ (by omega)]
  rw [f_X5_kindOf_eq, f_X11_motionAt_eq, em, eL, eR, eA, eB, hc_in s hn hi, h _ hk, nI_clamp (by omega)]
  dsimp only
  by_cases c : u 83 (10 * n + i) = 0
  · rw [if_pos c, if_pos rfl, if_pos c]
  · rw [if_neg c, if_neg (show ¬ (1 : Int32) = 0 by decide), if_neg c]
    have z1 : (if nI i ≤ 0 then (0 : Int32) else (if u 83 (nI (10 * n + i) - 1).toNatClampNeg = 0 then 0 else 1)) = 0 ∨ (if nI i ≤ 0 then (0 : Int32) else (if u 83 (nI (10 * n + i) - 1).toNatClampNeg = 0 then 0 else 1)) = 1 := zo_ite (.inl rfl) (zo_ite (.inl rfl) (.inr rfl))
    have z2 : (if 9 ≤ nI i then (0 : Int32) else (if u 83 (nI (10 * n + i) + 1).toNatClampNeg = 0 then 0 else 1)) = 0 ∨ (if 9 ≤ nI i then (0 : Int32) else (if u 83 (nI (10 * n + i) + 1).toNatClampNeg = 0 then 0 else 1)) = 1 := zo_ite (.inl rfl) (zo_ite (.inl rfl) (.inr rfl))
    have z3 : (if nI (10 * n + i) ≤ 9 then (0 : Int32) else (if u 83 (nI (10 * n + i) - 10).toNatClampNeg = 0 then 0 else 1)) = 0 ∨ (if nI (10 * n + i) ≤ 9 then (0 : Int32) else (if u 83 (nI (10 * n + i) - 10).toNatClampNeg = 0 then 0 else 1)) = 1 := zo_ite (.inl rfl) (zo_ite (.inl rfl) (.inr rfl))
    have z4 : (if 70 ≤ nI (10 * n + i) then (0 : Int32) else (if u 83 (nI (10 * n + i) + 10).toNatClampNeg = 0 then 0 else 1)) = 0 ∨ (if 70 ≤ nI (10 * n + i) then (0 : Int32) else (if u 83 (nI (10 * n + i) + 10).toNatClampNeg = 0 then 0 else 1)) = 1 := zo_ite (.inl rfl) (zo_ite (.inl rfl) (.inr rfl))
    generalize (if nI i ≤ 0 then (0 : Int32) else (if u 83 (nI (10 * n + i) - 1).toNatClampNeg = 0 then 0 else 1)) = a at z1 ⊢
    generalize (if 9 ≤ nI i then (0 : Int32) else (if u 83 (nI (10 * n + i) + 1).toNatClampNeg = 0 then 0 else 1)) = b at z2 ⊢
    generalize (if nI (10 * n + i) ≤ 9 then (0 : Int32) else (if u 83 (nI (10 * n + i) - 10).toNatClampNeg = 0 then 0 else 1)) = d at z3 ⊢
    generalize (if 70 ≤ nI (10 * n + i) then (0 : Int32) else (if u 83 (nI (10 * n + i) + 10).toNatClampNeg = 0 then 0 else 1)) = e at z4 ⊢
    rcases z1 with rfl | rfl <;> rcases z2 with rfl | rfl <;> rcases z3 with rfl | rfl <;> rcases z4 with rfl | rfl <;> rfl
theorem kind_51 {s s' : Sg} (h : s' 51 = s 51) (x y : Int32) : f_X5_kindOf s' x y = f_X5_kindOf s x y := by
  have e : ∀ a b, f_X5_hasChanged s' a b = f_X5_hasChanged s a b := fun a b => by rw [f_X5_hasChanged_eq, f_X5_hasChanged_eq, h]
  rw [f_X5_kindOf_eq, f_X5_kindOf_eq]
  simp only [e]
theorem kinds_cls (s : Sg) : (∀ n i, n < 8 → i < 10 → (loopF b_X5_watch_54 8 s) 52 (10 * n + i) = f_X5_kindOf s (nI n) (nI i)) ∧ Kp [52] s (loopF b_X5_watch_54 8 s) := by
  refine loopF_inv (B := b_X5_watch_54) (N := 8) (I := s) (fun j w => (∀ n i, n < j → i < 10 → w 52 (10 * n + i) = f_X5_kindOf s (nI n) (nI i)) ∧ Kp [52] s w) ⟨fun n i hn => absurd hn (by omega), Kp.rf _⟩ (fun j w hj hI => ?_)
  obtain ⟨i1, i2⟩ := hI
  rw [b_X5_watch_54_eq]
  dsimp only
  have key := loopF_inv (B := b_X5_watch_64 j) (N := 10) (I := w) (fun m v => (∀ n i, n < j → i < 10 → v 52 (10 * n + i) = f_X5_kindOf s (nI n) (nI i)) ∧ (∀ i, i < m → v 52 (10 * j + i) = f_X5_kindOf s (nI j) (nI i)) ∧ Kp [52] s v) ⟨i1, fun i hi => absurd hi (by omega), i2⟩ (fun m v hm hJ => by
    obtain ⟨j1, j2, j3⟩ := hJ
    rw [b_X5_watch_64_eq, pl_10, nI_clamp (by omega), kind_51 (j3 51 (by decide))]
    dsimp only
    refine ⟨fun n i hn hi => ?_, fun i hi => ?_, j3.tr (Kp.sw (by decide) _ _ _)⟩
    · rw [sw_place (show ¬ 10 * n + i = 10 * j + m by omega)]; exact j1 n i hn hi
    · by_cases q : i = m
      · rw [q, sw_same]
      · rw [sw_place (show ¬ 10 * j + i = 10 * j + m by omega)]; exact j2 i (by omega))
  refine ⟨fun n i hn hi => ?_, key.2.2⟩
  by_cases q : n = j
  · rw [q]; exact key.2.1 i hi
  · exact key.1 n i (by omega) hi
theorem up_at (σ : Sg) (k : Nat) (f : Nat → Int32) (k' : Nat) : va_up σ k f k' = if k' = k then f else σ k' := rfl
theorem watch_at (s : Sg) (x y : Int32) : Kp [50, 51, 52] s (f_X5_watch s x y) ∧ (∀ k, k < 80 → (f_X5_watch s x y) 50 k = s 40 k) ∧ (¬ y = 0 → ∀ u : Sg, (∀ k, k < 80 → u 83 k = if i_abs (s 40 k - s 50 k) ≤ x then 0 else 1) → ∀ k, k < 80 → (f_X5_watch s x y) 52 k = f_X11_motionAt u (nI k)) := by
  rw [f_X5_watch_eq]
  dsimp only
  obtain ⟨c1, c2⟩ := chg_cls s x
  obtain ⟨d1, d2⟩ := kinds_cls (loopF (b_X5_watch_7 x) 80 s)
  have kk : Kp [50, 51, 52] s (if y = 0 then s else loopF b_X5_watch_54 8 (loopF (b_X5_watch_7 x) 80 s)) := by
    by_cases c : y = 0
    · rw [if_pos c]; exact Kp.rf _
    · rw [if_neg c]; exact (c2.up (by decide)).tr (d2.up (by decide))
  have k40 : (if y = 0 then s else loopF b_X5_watch_54 8 (loopF (b_X5_watch_7 x) 80 s)) 40 = s 40 := kk 40 (by decide)
  refine ⟨kk.tr (fun k hk => by rw [up_at, if_neg (fun q => hk (by rw [q]; decide))]), fun k hk => ?_, fun hy u hu k hk => ?_⟩
  · rw [up_at, if_pos rfl, k40]
    exact (pk_cpy_in (Nat.zero_le _) (by simpa using hk)).trans (by rw [show (0 : Int32).toNatClampNeg = 0 from rfl]; simp)
  · rw [up_at, if_neg (show ¬ (52 : Nat) = 50 by decide), if_neg hy]
    have := d1 (k / 10) (k % 10) (by omega) (by omega)
    rw [show 10 * (k / 10) + k % 10 = k by omega] at this
    rw [this, kind_eq (u := u) (fun k hk => by rw [c1 k hk, hu k hk]) (by omega) (by omega), show 10 * (k / 10) + k % 10 = k by omega]
/-! decode -/
theorem dec1_at (t : Sg) : (∀ k, k < 80 → (loopF b_X11_decode_2 80 t) 76 k = t 75 k) ∧ Kp [76] t (loopF b_X11_decode_2 80 t) := by
  refine loopF_inv (B := b_X11_decode_2) (N := 80) (I := t) (fun j s => (∀ k, k < j → s 76 k = t 75 k) ∧ Kp [76] t s) ⟨fun k hk => absurd hk (by omega), Kp.rf _⟩ (fun j s hj hI => ?_)
  obtain ⟨i1, i2⟩ := hI
  rw [b_X11_decode_2_eq, i2 75 (by decide), nI_clamp (by omega)]
  dsimp only
  refine ⟨fun k hk => ?_, i2.tr (Kp.sw (by decide) _ _ _)⟩
  by_cases q : k = j
  · rw [q, sw_same]
  · rw [sw_place q]; exact i1 k (by omega)
theorem dec10_of {σ σ1 σ2 σ3 σ5 σ9 : Sg} {φ φ4 φ6 : Fl} {w : Int32} (h1 : f_X9_sendFrom σ = σ1) (h2 : f_X4_find σ1 = σ2) (h3 : f_X1_measure σ2 (f_X8_threshold σ2) = σ3) (hw : f_X8_standardTaken σ3 (f_X1_guessedStandard σ3) = w) (h4 : f_X6_follow σ3 φ w = φ4) (h5 : f_X3_separate σ3 w = σ5) (h6 : f_X2_turn σ5 φ4 w = φ6) (h9 : f_X5_watch σ5 (f_X8_limit σ5) (if σ5 0 10 ≤ 0 then 0 else 1) = σ9) : f_X10_decode σ φ = (f_X10_tally_29 (sw σ9 0 10 (σ9 0 10 + 1)), sw σ9 0 10 (σ9 0 10 + 1), φ6) := by
  subst h1 h2 h3 hw h4 h5 h6 h9
  rfl
theorem dec11_of {t t1 t3 t5 t6 t10 t14 : Sg} {ψ ψ9 ψ10 : Fl} {v w : Int32} (h1 : loopF b_X11_decode_2 80 t = t1) (h3 : sw t1 53 13 (t1 53 13 + 1) = t3) (hv : (f_X11_findPulses t3).1 = v) (h5 : (f_X11_findPulses t3).2 = t5) (h6 : f_X11_findBursts t5 = t6) (hw : (if t6 62 (3 : Int32).toNatClampNeg = 2 then f_X11_guessed t6 else t6 62 (3 : Int32).toNatClampNeg) = w) (h9 : f_X11_findTurns t6 ψ w = ψ9) (hz : loopF (b_X11_decode_76 w) 8 (t6, ψ9) = (t10, ψ10)) (h14 : f_X11_findMotion t10 = t14) : f_X11_decode t ψ = (v, t14, ψ10) := by
  have e : f_X11_decode t ψ = (v, f_X11_findMotion (loopF (b_X11_decode_76 w) 8 (t6, ψ9)).1, (loopF (b_X11_decode_76 w) 8 (t6, ψ9)).2) := by
    subst h1 h3 hv h5 h6 hw h9
    rfl
  rw [e, hz, h14]
theorem q_decode {m : Nat} {σ t : Sg} {φ ψ : Fl} (h : Rel m σ φ t ψ) (hm : m < 2 ^ 30) : (f_X10_decode σ φ).1 = (f_X11_decode t ψ).1 ∧ Rel (m + 1) (f_X10_decode σ φ).2.1 (f_X10_decode σ φ).2.2 (f_X11_decode t ψ).2.1 (f_X11_decode t ψ).2.2 ∧ (KA σ (f_X10_decode σ φ).2.1 ∧ KA φ (f_X10_decode σ φ).2.2) ∧ (KB t (f_X11_decode t ψ).2.1 ∧ KB ψ (f_X11_decode t ψ).2.2) := by
  obtain ⟨hP, hB, hS, hT, ⟨hd1, d, hd, hd2⟩, ⟨i26, i27, i28, i29, i31, i32, i33, i34, i40, i41, i50, iL, i304, i305, i52⟩, ⟨f36, f37, f45, f46, f47, f48⟩⟩ := h
  obtain ⟨t1, n1⟩ : ∃ x, loopF b_X11_decode_2 80 t = x := ⟨_, rfl⟩
  obtain ⟨t3, n3⟩ : ∃ x, sw t1 53 13 (t1 53 13 + 1) = x := ⟨_, rfl⟩
  obtain ⟨t5, n5⟩ : ∃ x, (f_X11_findPulses t3).2 = x := ⟨_, rfl⟩
  obtain ⟨t6, n6⟩ : ∃ x, f_X11_findBursts t5 = x := ⟨_, rfl⟩
  obtain ⟨w, nw⟩ : ∃ x, (if t6 62 (3 : Int32).toNatClampNeg = 2 then f_X11_guessed t6 else t6 62 (3 : Int32).toNatClampNeg) = x := ⟨_, rfl⟩
  obtain ⟨ψ9, n9⟩ : ∃ x, f_X11_findTurns t6 ψ w = x := ⟨_, rfl⟩
  obtain ⟨⟨t10, ψ10⟩, nz⟩ : ∃ x, loopF (b_X11_decode_76 w) 8 (t6, ψ9) = x := ⟨_, rfl⟩
  obtain ⟨t14, n14'⟩ : ∃ x, f_X11_findMotion t10 = x := ⟨_, rfl⟩
  obtain ⟨σ1, o1⟩ : ∃ x, f_X9_sendFrom σ = x := ⟨_, rfl⟩
  obtain ⟨σ2, o2⟩ : ∃ x, f_X4_find σ1 = x := ⟨_, rfl⟩
  obtain ⟨σ3, o3⟩ : ∃ x, f_X1_measure σ2 (f_X8_threshold σ2) = x := ⟨_, rfl⟩
  obtain ⟨φ4, o4⟩ : ∃ x, f_X6_follow σ3 φ w = x := ⟨_, rfl⟩
  obtain ⟨σ5, o5⟩ : ∃ x, f_X3_separate σ3 w = x := ⟨_, rfl⟩
  obtain ⟨φ6, o6⟩ : ∃ x, f_X2_turn σ5 φ4 w = x := ⟨_, rfl⟩
  obtain ⟨σ9, o9⟩ : ∃ x, f_X5_watch σ5 (f_X8_limit σ5) (if σ5 0 10 ≤ 0 then 0 else 1) = x := ⟨_, rfl⟩
  -- the reference's start
  obtain ⟨a1, a2⟩ := dec1_at t
  rw [n1] at a1 a2
  have b3 : ∀ k i, ¬ (k = 53 ∧ i = 13) → ¬ k = 76 → (sw t1 53 13 (t1 53 13 + 1)) k i = t k i := fun k i q q2 => by
    rw [sw_get, if_neg q, a2 k (by simpa using q2)]
  have c3 : (sw t1 53 13 (t1 53 13 + 1)) 53 13 = nI (d + 1) := by rw [sw_same, a2 53 (by decide), hd2, nI_1]
  have d3 : ∀ k, k < 80 → (sw t1 53 13 (t1 53 13 + 1)) 76 k = t 75 k := fun k hk => by rw [sw_cell (show ¬ (76 : Nat) = 53 by decide)]; exact a1 k hk
  rw [n3] at b3 c3 d3
  have r3 : ∀ k, ¬ k = 53 → ¬ k = 76 → t3 k = t k := fun k q q2 => funext fun i => b3 k i (fun z => q z.1) q2
  have sk3 : SK t t3 := ⟨b3 53 8 (by decide) (by decide), fun k a b => r3 k (by omega) (by omega)⟩
  -- samples
  obtain ⟨s1, k1⟩ := send_at hP
  have A1 := at_S s1
  rw [o1] at k1 A1
  have m1 : ∀ k, (k ≤ 16 ∨ 25 ≤ k) → σ1 k = σ k := fun k q => k1 k (fun z => by have := SL_le z; omega)
  have es3 : f_X11_signal t3 = f_X11_signal t := funext fun x => funext fun y => sk3.sig x y
  -- starts
  obtain ⟨p26, p27, p28, p29, pc, k2, k5⟩ := find_at (σ := σ1) (t := t3) (by rw [es3]; exact A1) (fun i => by rw [m1 26 (by omega), r3 65 (by decide) (by decide)]; exact i26 i) (by rw [m1 27 (by omega), r3 66 (by decide) (by decide)]; exact i27) (by rw [m1 28 (by omega), r3 68 (by decide) (by decide)]; exact i28) (by rw [m1 29 (by omega), r3 67 (by decide) (by decide)]; exact i29)
  rw [o2] at p26 p27 p28 p29 k2 pc
  rw [n5] at p26 p27 p28 p29 k5
  have m2 : ∀ k, (k ≤ 16 ∨ 30 ≤ k) → σ2 k = σ k := fun k q => (k2 k (fun z => by
    simp only [List.mem_cons, List.mem_nil_iff, or_false] at z
    omega)).trans (m1 k (by omega))
  have A2 : AT (f_X11_signal t) σ2 := A1.k (fun k a b => k2 k (fun z => by
    simp only [List.mem_cons, List.mem_nil_iff, or_false] at z
    omega))
  have sk5 : SK t t5 := sk3.k k5 (by decide)
  have es5 : f_X11_signal t5 = f_X11_signal t := funext fun x => funext fun y => sk5.sig x y
  have g5 : ∀ k i, ¬ (k = 53 ∧ i = 13) → ¬ k ∈ [65, 66, 67, 68, 76] → t5 k i = t k i := fun k i q q2 => by
    rw [k5 k (fun z => q2 (by simp only [List.mem_cons, List.mem_nil_iff, or_false] at z ⊢; omega))]
    exact b3 k i q (fun z => q2 (by rw [z]; decide))
  have rr5 : ∀ k, ¬ k = 53 → ¬ k ∈ [65, 66, 67, 68, 76] → t5 k = t k := fun k q q2 => funext fun i => g5 k i (fun z => q z.1) q2
  have hB5 : bndP t5 := by
    unfold bndP
    rw [rr5 54 (by decide) (by decide), rr5 55 (by decide) (by decide), rr5 56 (by decide) (by decide), rr5 58 (by decide) (by decide), rr5 60 (by decide) (by decide)]
    exact hB
  -- bursts
  have ethr : f_X8_threshold σ2 = t5 62 0 := by
    rw [rr5 62 (by decide) (by decide), ← hS.1, ← m2 14 (by omega)]
    rfl
  have o3b : f_X1_measure σ2 (t5 62 0) = σ3 := by rw [← ethr]; exact o3
  obtain ⟨q31, q32, q33, q34, q304, q305, k3, g6⟩ := burst_at (σ := σ2) (t := t5) (thr := t5 62 0) (by rw [es5]; exact A2) hB5 p27 rfl (by rw [m2 31 (by omega), rr5 69 (by decide) (by decide)]; exact i31) (by rw [m2 32 (by omega), rr5 70 (by decide) (by decide)]; exact i32) (by rw [m2 33 (by omega), rr5 71 (by decide) (by decide)]; exact i33) (by rw [m2 34 (by omega), rr5 72 (by decide) (by decide)]; exact i34)
  rw [o3b] at q31 q32 q33 q34 q304 q305 k3
  rw [n6] at q31 q32 q33 q34 q304 q305 g6
  have m3 : ∀ k, (k ≤ 16 ∨ 35 ≤ k) → σ3 k = σ k := fun k q => (k3 k (fun z => by
    simp only [List.mem_cons, List.mem_nil_iff, or_false] at z
    omega)).trans (m2 k (by omega))
  have A3 : AT (f_X11_signal t) σ3 := A2.k (fun k a b => k3 k (fun z => by
    simp only [List.mem_cons, List.mem_nil_iff, or_false] at z
    omega))
  have rr6 : ∀ k, ¬ k = 53 → ¬ k ∈ [69, 70, 71, 72] → t6 k = t5 k := fun k q q2 => funext fun i => g6 k i (fun z => q z.1) q2
  have sk6 : SK t t6 := ⟨(g6 53 8 (by decide) (by decide)).trans sk5.1, fun k a b => (rr6 k (by omega) (fun z => by
    simp only [List.mem_cons, List.mem_nil_iff, or_false] at z
    omega)).trans (sk5.2 k a b)⟩
  have e62 : t6 62 = t 62 := sk6.2 62 (by decide) (by decide)
  have e14 : σ3 14 = t6 62 := by rw [m3 14 (by omega), e62]; exact hS.1
  -- the standard
  have eg : f_X1_guessedStandard σ3 = f_X11_guessed t6 := by
    rw [f_X1_guessedStandard_eq, f_X11_guessed_eq, q304, q305]
    exact oneIf_01 (zo_ite (.inl rfl) (.inr rfl))
  have ew : f_X8_standardTaken σ3 (f_X1_guessedStandard σ3) = (if t6 62 (3 : Int32).toNatClampNeg = 2 then f_X11_guessed t6 else t6 62 (3 : Int32).toNatClampNeg) := by
    rw [f_X8_standardTaken_eq, eg, e14]
  have ow := ew.trans nw
  have hw : (if t6 62 (3 : Int32).toNatClampNeg = 2 then f_X11_guessed t6 else t6 62 (3 : Int32).toNatClampNeg) = 0 ∨ (if t6 62 (3 : Int32).toNatClampNeg = 2 then f_X11_guessed t6 else t6 62 (3 : Int32).toNatClampNeg) = 1 := by
    rw [e62]
    show (if t 62 3 = 2 then f_X11_guessed t6 else t 62 3) = 0 ∨ (if t 62 3 = 2 then f_X11_guessed t6 else t 62 3) = 1
    by_cases c : t 62 3 = 2
    · rw [if_pos c, f_X11_guessed_eq]; exact zo_ite (.inl rfl) (.inr rfl)
    · rw [if_neg c]
      obtain ⟨k, hk, e⟩ := vp_in_of hS.2.2 (by decide)
      rw [e] at c ⊢
      have : k = 0 ∨ k = 1 ∨ k = 2 := by omega
      rcases this with rfl | rfl | rfl
      · exact .inl rfl
      · exact .inr rfl
      · exact absurd rfl c
  rw [nw] at hw
  -- turns
  obtain ⟨h36, h37, kf4, kf9⟩ := turns_at (φ := φ) (ψ := ψ) w q31 q32 q33 f36 f37
  rw [o4] at h36 h37 kf4
  rw [n9] at h36 h37 kf9
  -- combs
  have e75 : t6 75 = t 75 := (rr6 75 (by decide) (by decide)).trans (rr5 75 (by decide) (by decide))
  have e77 : t6 77 = t 77 := (rr6 77 (by decide) (by decide)).trans (rr5 77 (by decide) (by decide))
  obtain ⟨c40, c41, cL, kc, kd, ⟨c45, c46, c47, c48⟩, kf6, kf10⟩ := comb_at (σ := σ3) (t := t) (u := t6) (φ := φ4) (ψ := ψ9) A3 sk6 (by rw [k3 27 (by decide), p27, rr6 66 (by decide) (by decide)]) q34 e14 (by rw [e62]; exact hS.2.1) (by rw [m3 40 (by omega), e75]; exact i40) (by rw [m3 41 (by omega), e77]; exact i41) (by rw [e75]; exact iL) h36 h37 (by rw [kf4 45 (by decide), kf9 78 (by decide)]; exact f45) (by rw [kf4 46 (by decide), kf9 79 (by decide)]; exact f46) (by rw [kf4 47 (by decide), kf9 80 (by decide)]; exact f47) (by rw [kf4 48 (by decide), kf9 81 (by decide)]; exact f48) hw
  rw [o5] at c40 c41 kc c45 c46 c47 c48 kf6
  rw [o6] at c45 c46 c47 c48 kf6
  rw [nz] at c40 c41 cL kd c45 c46 c47 c48 kf10
  dsimp only at c40 c41 cL kd c45 c46 c47 c48 kf10
  have m5 : ∀ k, (k ≤ 16 ∨ (35 ≤ k ∧ k ≤ 38) ∨ 44 ≤ k) → σ5 k = σ k := fun k q => (kc k (fun z => by
    simp only [List.mem_cons, List.mem_nil_iff, or_false] at z
    omega)).trans (m3 k (by omega))
  -- motion
  obtain ⟨w1, w2, w3⟩ := watch_at σ5 (f_X8_limit σ5) (if σ5 0 10 ≤ 0 then 0 else 1)
  rw [o9] at w1 w2 w3
  obtain ⟨v1, v2⟩ := motion_ref t10
  rw [n14'] at v1 v2
  have m9 : ∀ k, (k ≤ 16 ∨ (35 ≤ k ∧ k ≤ 38) ∨ (44 ≤ k ∧ k ≤ 49) ∨ 53 ≤ k) → σ9 k = σ k := fun k q => (w1 k (fun z => by
    simp only [List.mem_cons, List.mem_nil_iff, or_false] at z
    omega)).trans (m5 k (by omega))
  have n14 : ∀ k i, ¬ (k = 53 ∧ (i = 13 ∨ i = 22 ∨ i = 23)) → ¬ k ∈ [65, 66, 67, 68, 69, 70, 71, 72, 75, 76, 77, 82, 83] → t14 k i = t k i := fun k i q q2 => by
    simp only [List.mem_cons, List.mem_nil_iff, or_false] at q2
    rw [v2 k (by simp only [List.mem_cons, List.mem_nil_iff, or_false]; omega), kd k (by simp only [List.mem_cons, List.mem_nil_iff, or_false]; omega), g6 k i (by omega) (by simp only [List.mem_cons, List.mem_nil_iff, or_false]; omega)]
    exact g5 k i (by omega) (by simp only [List.mem_cons, List.mem_nil_iff, or_false]; omega)
  have l14 : ∀ k, ¬ k = 53 → ¬ k ∈ [65, 66, 67, 68, 69, 70, 71, 72, 75, 76, 77, 82, 83] → t14 k = t k := fun k q q2 => funext fun i => n14 k i (fun z => q z.1) q2
  have e13 : t14 53 13 = nI (d + 1) := by
    rw [v2 53 (by decide), kd 53 (by decide), g6 53 13 (by decide) (by decide), k5 53 (by decide)]
    exact c3
  have e13b : t10 53 13 = nI (d + 1) := by rw [← e13, v2 53 (by decide)]
  have r29 : σ9 29 = t14 67 := by
    rw [w1 29 (by decide), kc 29 (by decide), k3 29 (by decide), p29, v2 67 (by decide), kd 67 (by decide), rr6 67 (by decide) (by decide)]
  have u0 : ∀ k, ¬ k = 0 → (sw σ9 0 10 (σ9 0 10 + 1)) k = σ9 k := fun k q => sw_row q
  rw [dec10_of o1 o2 o3 ow o4 o5 o6 o9, dec11_of n1 n3 rfl n5 n6 nw n9 nz n14']
  dsimp only
  refine ⟨?_, ⟨?_, ?_, ?_, ?_, ?_, ?_, ?_⟩, ⟨?_, ?_⟩, ⟨?_, ?_⟩⟩
  · rw [pc, q_tally29 (N := 0) (f := σ2 29) (by rw [u0 29 (by decide), w1 29 (by decide), kc 29 (by decide), k3 29 (by decide)])]
    rfl
  · unfold RP
    rw [u0 1 (by decide), u0 2 (by decide), u0 3 (by decide), u0 4 (by decide), u0 5 (by decide), u0 6 (by decide), u0 7 (by decide), u0 8 (by decide), u0 9 (by decide), m9 1 (by omega), m9 2 (by omega), m9 3 (by omega), m9 4 (by omega), m9 5 (by omega), m9 6 (by omega), m9 7 (by omega), m9 8 (by omega), m9 9 (by omega), l14 54 (by decide) (by decide), l14 55 (by decide) (by decide), l14 56 (by decide) (by decide), l14 57 (by decide) (by decide), l14 58 (by decide) (by decide), l14 59 (by decide) (by decide), l14 60 (by decide) (by decide), l14 61 (by decide) (by decide), n14 53 8 (by decide) (by decide)]
    exact hP
  · unfold bndP
    rw [l14 54 (by decide) (by decide), l14 55 (by decide) (by decide), l14 56 (by decide) (by decide), l14 58 (by decide) (by decide), l14 60 (by decide) (by decide)]
    exact hB
  · unfold RS
    rw [u0 14 (by decide), m9 14 (by omega), l14 62 (by decide) (by decide)]
    exact hS
  · unfold RT
    rw [u0 10 (by decide), u0 11 (by decide), m9 10 (by omega), m9 11 (by omega), l14 63 (by decide) (by decide), n14 53 10 (by decide) (by decide)]
    exact hT
  · refine ⟨?_, d + 1, by omega, e13⟩
    rw [sw_same, e13, m9 0 (by omega), hd1, hd2, nI_1]
  · refine ⟨?_, ?_, ?_, ?_, ?_, ?_, ?_, ?_, ?_, ?_, ?_, ?_, ?_, ?_, ?_⟩
    · intro i
      rw [u0 26 (by decide), w1 26 (by decide), kc 26 (by decide), k3 26 (by decide), v2 65 (by decide), kd 65 (by decide), rr6 65 (by decide) (by decide)]
      exact p26 i
    · rw [u0 27 (by decide), w1 27 (by decide), kc 27 (by decide), k3 27 (by decide), v2 66 (by decide), kd 66 (by decide), rr6 66 (by decide) (by decide)]
      exact p27
    · rw [u0 28 (by decide), w1 28 (by decide), kc 28 (by decide), k3 28 (by decide), v2 68 (by decide), kd 68 (by decide), rr6 68 (by decide) (by decide)]
      exact p28
    · rw [u0 29 (by decide)]; exact r29
    · rw [u0 31 (by decide), w1 31 (by decide), kc 31 (by decide), v2 69 (by decide), kd 69 (by decide)]; exact q31
    · rw [u0 32 (by decide), w1 32 (by decide), kc 32 (by decide), v2 70 (by decide), kd 70 (by decide)]; exact q32
    · rw [u0 33 (by decide), w1 33 (by decide), kc 33 (by decide), v2 71 (by decide), kd 71 (by decide)]; exact q33
    · rw [u0 34 (by decide), w1 34 (by decide), kc 34 (by decide), v2 72 (by decide), kd 72 (by decide)]; exact q34
    · rw [u0 40 (by decide), w1 40 (by decide), v2 75 (by decide)]; exact c40
    · rw [u0 41 (by decide), w1 41 (by decide), v2 77 (by decide)]; exact c41
    · intro k hk
      rw [u0 50 (by decide), w2 k hk, v2 75 (by decide), c40]
    · intro k
      rw [v2 75 (by decide)]; exact cL k
    · rw [u0 30 (by decide), w1 30 (by decide), kc 30 (by decide), v2 53 (by decide), kd 53 (by decide)]; exact q304
    · rw [u0 30 (by decide), w1 30 (by decide), kc 30 (by decide), v2 53 (by decide), kd 53 (by decide)]; exact q305
    · intro hn k hk
      rw [e13] at hn
      have d1 : 1 ≤ d := by
        rcases Nat.eq_zero_or_pos d with q | q
        · exact absurd (by rw [q]; decide) hn
        · exact q
      rw [u0 52 (by decide)]
      have e010 : σ5 0 10 = nI d := by rw [m5 0 (by omega), hd1, hd2]
      refine w3 (by rw [e010, if_neg (nI_nle d1 (by omega))]; decide) t14 (fun k hk => ?_) k hk
      rw [v1 k hk, e13b, if_neg hn, ← abs_size, ← c40, m5 50 (by omega), i50 k hk, kd 76 (by decide), rr6 76 (by decide) (by decide), k5 76 (by decide), d3 k hk, kd 62 (by decide), ← e14]
      show _ = (if i_abs (σ5 40 k - t 75 k) ≤ σ5 14 1 then 0 else 1)
      rw [m5 14 (by omega), m3 14 (by omega)]
  · exact ⟨by rw [kf6 36 (by decide), kf10 73 (by decide)]; exact h36, by rw [kf6 37 (by decide), kf10 74 (by decide)]; exact h37, c45, c46, c47, c48⟩
  · intro k hk
    rw [u0 k (by omega)]
    exact m9 k (by omega)
  · exact fun k hk => (kf6 k (by simp only [List.mem_cons, List.mem_nil_iff, or_false]; omega)).trans (kf4 k (by simp only [List.mem_cons, List.mem_nil_iff, or_false]; omega))
  · intro k hk
    exact funext fun i => n14 k i (by omega) (by simp only [List.mem_cons, List.mem_nil_iff, or_false]; omega)
  · exact fun k hk => (kf10 k (by simp only [List.mem_cons, List.mem_nil_iff, or_false]; omega)).trans (kf9 k (by simp only [List.mem_cons, List.mem_nil_iff, or_false]; omega))
end
