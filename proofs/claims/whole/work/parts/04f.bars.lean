section
/-! the bars of the text -/
theorem twoE {ρ ρ' τ τ' : Type} {B : Nat → τ → ρ ⊕ τ} {B' : Nat → τ' → ρ' ⊕ τ'} {N : Nat} {I : τ} {I' : τ'} (R : Nat → τ → τ' → Prop) (RR : ρ → ρ' → Prop) (h0 : R 0 I I') (hs : ∀ j s s', j < N → R j s s' → (∃ r r', B j s = .inl r ∧ B' j s' = .inl r' ∧ RR r r') ∨ (∃ u u', B j s = .inr u ∧ B' j s' = .inr u' ∧ R (j + 1) u u')) : (∃ r r', loopE B N 0 I = .inl r ∧ loopE B' N 0 I' = .inl r' ∧ RR r r') ∨ (∃ u u', loopE B N 0 I = .inr u ∧ loopE B' N 0 I' = .inr u' ∧ R N u u') := by
  have key : ∀ n j s s', j + n = N → R j s s' → (∃ r r', loopE B n j s = .inl r ∧ loopE B' n j s' = .inl r' ∧ RR r r') ∨ (∃ u u', loopE B n j s = .inr u ∧ loopE B' n j s' = .inr u' ∧ R N u u') := by
    intro n
    induction n with
    | zero => intro j s s' h hR; exact .inr ⟨s, s', rfl, rfl, by rw [show N = j by omega]; exact hR⟩
    | succ n ih =>
      intro j s s' h hR
      rcases hs j s s' (by omega) hR with ⟨r, r', e, e', q⟩ | ⟨u, u', e, e', q⟩
      · exact .inl ⟨r, r', loopE_inl n e, loopE_inl n e', q⟩
      · rw [loopE_inr n e, loopE_inr n e']
        exact ih (j + 1) u u' (by omega) q
  exact key N 0 I I' (by omega) h0
theorem bar_none {x : Int32} (h0 : ¬ x = 119) (h1 : ¬ x = 121) (h2 : ¬ x = 99) (h3 : ¬ x = 103) (h4 : ¬ x = 109) (h5 : ¬ x = 114) (h6 : ¬ x = 98) (h7 : ¬ x = 107) : f_X0_barOf x = -1 ∧ f_X11_barOf x = -100004 := by
  constructor
  · have s : ∀ (j : Nat) (c : Int32), sa_2 (nI j).toNatClampNeg = c → ¬ x = c → b_X0_barOf_2 x j () = .inr () := fun j c e h => by rw [b_X0_barOf_2_eq, e, if_neg (fun q => h q.symm)]
    rw [f_X0_barOf_eq]
    exact sumE_inr ((loopE_inr 7 (s 0 119 (by decide) h0)).trans ((loopE_inr 6 (s 1 121 (by decide) h1)).trans ((loopE_inr 5 (s 2 99 (by decide) h2)).trans ((loopE_inr 4 (s 3 103 (by decide) h3)).trans ((loopE_inr 3 (s 4 109 (by decide) h4)).trans ((loopE_inr 2 (s 5 114 (by decide) h5)).trans ((loopE_inr 1 (s 6 98 (by decide) h6)).trans (loopE_inr 0 (s 7 107 (by decide) h7)))))))))
  · simp only [f_X11_barOf_eq, if_neg h0, if_neg h1, if_neg h2, if_neg h3, if_neg h4, if_neg h5, if_neg h6, if_neg h7, ite_self]
theorem bar_eq (x : Int32) : (f_X0_barOf x = -1 ∧ f_X11_barOf x = -100004) ∨ (∃ b, b < 8 ∧ f_X0_barOf x = nI b ∧ f_X11_barOf x = nI b ∧ f_X11_in x 49 57 = 0) := by
  by_cases h0 : x = 119
  · subst h0; exact .inr ⟨0, by decide, by decide +kernel, by decide +kernel, by decide +kernel⟩
  by_cases h1 : x = 121
  · subst h1; exact .inr ⟨1, by decide, by decide +kernel, by decide +kernel, by decide +kernel⟩
  by_cases h2 : x = 99
  · subst h2; exact .inr ⟨2, by decide, by decide +kernel, by decide +kernel, by decide +kernel⟩
  by_cases h3 : x = 103
  · subst h3; exact .inr ⟨3, by decide, by decide +kernel, by decide +kernel, by decide +kernel⟩
  by_cases h4 : x = 109
  · subst h4; exact .inr ⟨4, by decide, by decide +kernel, by decide +kernel, by decide +kernel⟩
  by_cases h5 : x = 114
  · subst h5; exact .inr ⟨5, by decide, by decide +kernel, by decide +kernel, by decide +kernel⟩
  by_cases h6 : x = 98
  · subst h6; exact .inr ⟨6, by decide, by decide +kernel, by decide +kernel, by decide +kernel⟩
  by_cases h7 : x = 107
  · subst h7; exact .inr ⟨7, by decide, by decide +kernel, by decide +kernel, by decide +kernel⟩
  exact .inl (bar_none h0 h1 h2 h3 h4 h5 h6 h7)
theorem lt8 {b : Nat} (h : b < 8) : b = 0 ∨ b = 1 ∨ b = 2 ∨ b = 3 ∨ b = 4 ∨ b = 5 ∨ b = 6 ∨ b = 7 := by omega
theorem putbar_eq (t : Sg) (p : Int32) {b : Nat} (hb : b < 8) : f_X11_putBar t p (nI b) = f_X11_put t p (sa_3 b) (sa_4 b) (sa_5 b) := by
  rcases lt8 hb with rfl | rfl | rfl | rfl | rfl | rfl | rfl | rfl <;> rfl
theorem bar_bnd {b : Nat} (hb : b < 8) : (0 ≤ (sa_3 b).toInt ∧ (sa_3 b).toInt ≤ 200) ∧ (-60 ≤ (sa_4 b).toInt ∧ (sa_4 b).toInt ≤ 60) ∧ (-60 ≤ (sa_5 b).toInt ∧ (sa_5 b).toInt ≤ 60) := by
  rcases lt8 hb with rfl | rfl | rfl | rfl | rfl | rfl | rfl | rfl <;> decide +kernel
theorem le_none {k : Nat} (hk : k ≤ 10) : nI k + (-100004) ≤ 10 := by
  have : k = 0 ∨ k = 1 ∨ k = 2 ∨ k = 3 ∨ k = 4 ∨ k = 5 ∨ k = 6 ∨ k = 7 ∨ k = 8 ∨ k = 9 ∨ k = 10 := by omega
  rcases this with rfl | rfl | rfl | rfl | rfl | rfl | rfl | rfl | rfl | rfl | rfl <;> decide +kernel
theorem dig_0 {c : Int32} (h : f_X11_in c 49 57 = 0) : f_X0_digitOf c - 1 = -1 := by
  rw [f_X0_digitOf_eq]
  dsimp only
  rw [in0_iff, show (49 : Int32).toInt = 49 from rfl, show (57 : Int32).toInt = 57 from rfl] at h
  by_cases h1 : c < 49
  · rw [if_pos h1]; rfl
  · rw [if_neg h1]
    rw [i32_lt, show (49 : Int32).toInt = 49 from rfl] at h1
    rw [if_pos (show (57 : Int32) < c by rw [i32_lt, show (57 : Int32).toInt = 57 from rfl]; omega)]
    rfl
theorem dig_1 {c : Int32} (h : ¬ f_X11_in c 49 57 = 0) : ∃ d, d < 9 ∧ f_X0_digitOf c - 1 = nI d ∧ c - 49 = nI d := by
  have h' := h
  obtain ⟨h1, h2⟩ := in_ne.mp h
  rw [i32_le, show (49 : Int32).toInt = 49 from rfl] at h1
  rw [i32_le, show (57 : Int32).toInt = 57 from rfl] at h2
  obtain ⟨j, hj, rfl⟩ := nI_of (x := c) (by rw [i32_lt, show (0 : Int32).toInt = 0 from rfl]; omega)
  rw [nI_toInt hj] at h1 h2
  refine ⟨j - 49, by omega, ?_, ?_⟩
  · rw [f_X0_digitOf_eq]
    dsimp only
    rw [if_neg (show ¬ nI j < 49 from nI_nlt (b := 49) (by omega) (by omega)), if_neg (show ¬ 57 < nI j from nI_nlt (a := 57) (by omega) (by omega))]
    show nI j - nI 48 - nI 1 = _
    rw [pk_sub (by omega), pk_sub (by omega)]
    rfl
  · show nI j - nI 49 = _
    rw [pk_sub (by omega)]
/-- the letter repeated -/
def rpB (k : Nat) (j : Nat) (s : Sg) : Sg := sw s 12 (k + j) (s 12 (k + j - 1))
theorem rp_eq (σ : Sg) {k d : Nat} (hk : 1 ≤ k) (hd : k + d ≤ 10) : f_X0_repeatBar σ (nI k) (nI d) = (nI (k + d), loopF (rpB k) d σ) := by
  have key : ∀ n j, j + n = 11 → j ≤ d → loopE (b_X0_repeatBar_7 (nI k) (nI d)) n j (loopF (rpB k) j σ) = .inl (nI (k + d), loopF (rpB k) d σ) := by
    intro n
    induction n with
    | zero => intro j h1 h2; omega
    | succ n ih =>
      intro j h1 h2
      have e : (nI k + nI j : Int32) = nI (k + j) := nI_add k j
      have e2 : (nI k + nI d : Int32) = nI (k + d) := nI_add k d
      by_cases c : j = d
      · subst c
        refine loopE_inl n ?_
        rw [b_X0_repeatBar_7_eq, e, if_neg (nI_nle (by omega) (by omega)), if_pos (i32_refl _)]
      · have e3 : b_X0_repeatBar_7 (nI k) (nI d) j (loopF (rpB k) j σ) = .inr (rpB k j (loopF (rpB k) j σ)) := by
          rw [b_X0_repeatBar_7_eq, e, e2, if_neg (nI_nle (by omega) (by omega)), if_neg (nI_ge (by omega) (by omega)), if_neg (show ¬ 10 ≤ nI (k + j) from nI_ge (a := k + j) (b := 10) (by omega) (by decide))]
          dsimp only
          rw [nI_clamp (by omega), show nI (k + j) - 1 = nI (k + j - 1) from pk_sub (a := k + j) (b := 1) (by omega), nI_clamp (by omega)]
          rfl
        rw [loopE_inr n e3]
        exact ih (j + 1) (by omega) (by omega)
  rw [f_X0_repeatBar_eq]
  exact sumE_inl (key 11 0 rfl (Nat.zero_le _))
/-- what the text says so far, on both sides -/
def BR (k : Nat) (s s' : Sg) : Prop := ∀ i, i < k → s 12 i = s' 64 i ∧ ∃ b, b < 8 ∧ s' 64 i = nI b
theorem cp_eq {k d : Nat} {s s' : Sg} (hk : 1 ≤ k) (hd : k + d ≤ 10) (h : BR k s s') : (loopF b_X11_readBars_138 d (nI k, s')).1 = nI (k + d) ∧ BR (k + d) (loopF (rpB k) d s) (loopF b_X11_readBars_138 d (nI k, s')).2 ∧ Kp [12] s (loopF (rpB k) d s) ∧ Kp [64] s' (loopF b_X11_readBars_138 d (nI k, s')).2 :=
  two (B := rpB k) (B' := b_X11_readBars_138) (N := d) (I := s) (I' := (nI k, s')) (fun j u u' => u'.1 = nI (k + j) ∧ BR (k + j) u u'.2 ∧ Kp [12] s u ∧ Kp [64] s' u'.2) ⟨rfl, h, Kp.rf _, Kp.rf _⟩ (by
    intro j u u' hj hR
    obtain ⟨r1, r2, r3, r4⟩ := hR
    rw [b_X11_readBars_138_eq]
    dsimp only
    rw [r1, show nI (k + j) - 1 = nI (k + j - 1) from pk_sub (a := k + j) (b := 1) (by omega), nI_clamp (by omega), nI_clamp (by omega)]
    refine ⟨nI_1 _, ?_, r3.tr (Kp.sw (by decide) _ _ _), r4.tr (Kp.sw (by decide) _ _ _)⟩
    intro i hi
    unfold rpB
    rw [sw_at, if_pos rfl, sw_at, if_pos rfl, upd_at, upd_at]
    by_cases q : i = k + j
    · rw [if_pos q, if_pos q]; exact r2 (k + j - 1) (by omega)
    · rw [if_neg q, if_neg q]; exact r2 i (by omega))
/-- the class's cells but the bars and the count of letters -/
def KO (σ s : Sg) : Prop := ∀ k, ¬ k = 12 → ∀ i, ¬ (k = 10 ∧ i = 3) → s k i = σ k i
theorem KO.rf (σ : Sg) : KO σ σ := fun _ _ _ _ => rfl
theorem KO.k {σ s s' : Sg} (h : KO σ s) (h2 : Kp [12] s s') : KO σ s' := fun k a i b => (congrFun (h2 k (by simpa using a)) i).trans (h k a i b)
theorem KO.l {σ s : Sg} (h : KO σ s) (v : Int32) : KO σ (sw s 10 3 v) := fun k a i b => by rw [sw_get, if_neg b]; exact h k a i b
theorem KO.b {σ s : Sg} (h : KO σ s) (j : Nat) (v : Int32) : KO σ (sw s 12 j v) := fun k a i b => by rw [sw_cell a]; exact h k a i b
def RB (σ t : Sg) (s : Int32 × Int32 × Sg) (u : Int32 × Int32 × Int32 × Sg) : Prop := ∃ k, k ≤ 10 ∧ s.1 = nI k ∧ u.1 = nI k ∧ s.2.1 = u.2.2.1 ∧ (s.2.1 = 0 ∨ (s.2.1 = 1 ∧ 1 ≤ k)) ∧ u.2.1 = s.2.2 10 3 ∧ BR k s.2.2 u.2.2.2 ∧ KO σ s.2.2 ∧ Kp [64] t u.2.2.2
def RBX (σ t : Sg) (r : Int32 × Sg) (r' : Int32 × Sg) : Prop := ∃ j, j < 61 ∧ r.1 = nI j ∧ r'.1 = (-100) - nI j ∧ KO σ r.2 ∧ Kp [64] t r'.2
/-- a step over the letter c -/
def pB (c : Int32) (j2 : Nat) (s2 : Int32 × Int32 × Sg) : (Int32 × Sg) ⊕ (Int32 × Int32 × Sg) := if (f_X0_barOf c) < 0 then (let v3 : Int32 := (if (s2.2.1) = 0 then (-1) else ((f_X0_digitOf c) - 1)); if v3 < 0 then (.inl (nI j2, s2.2.2)) else (if ((s2.1) + v3) ≤ 10 then (let v5 : Int32 := (f_X0_repeatBar (s2.2.2) (s2.1) v3).1; let σ6 : Sg := (f_X0_repeatBar (s2.2.2) (s2.1) v3).2; .inr (v5, 0, σ6)) else (.inl (nI j2, s2.2.2)))) else (if (s2.1) < 10 then (let σ7 : Sg := sw (s2.2.2) 12 (s2.1).toNatClampNeg (f_X0_barOf c); let σ8 : Sg := sw σ7 10 3 ((σ7 10 3) + 1); .inr ((s2.1) + 1, 1, σ8)) else (.inl (nI j2, s2.2.2)))
theorem pB_eq (c : Int32) (j2 : Nat) (s2 : Int32 × Int32 × Sg) : pB c j2 s2 = (if (f_X0_barOf c) < 0 then (let v3 : Int32 := (if (s2.2.1) = 0 then (-1) else ((f_X0_digitOf c) - 1)); if v3 < 0 then (.inl (nI j2, s2.2.2)) else (if ((s2.1) + v3) ≤ 10 then (let v5 : Int32 := (f_X0_repeatBar (s2.2.2) (s2.1) v3).1; let σ6 : Sg := (f_X0_repeatBar (s2.2.2) (s2.1) v3).2; .inr (v5, 0, σ6)) else (.inl (nI j2, s2.2.2)))) else (if (s2.1) < 10 then (let σ7 : Sg := sw (s2.2.2) 12 (s2.1).toNatClampNeg (f_X0_barOf c); let σ8 : Sg := sw σ7 10 3 ((σ7 10 3) + 1); .inr ((s2.1) + 1, 1, σ8)) else (.inl (nI j2, s2.2.2)))) := rfl
def pM (c : Int32) (j1 : Nat) (s1 : Int32 × Int32 × Int32 × Sg) : (Int32 × Sg) ⊕ (Int32 × Int32 × Int32 × Sg) := let v2 : Int32 := f_X11_barOf c; let v3 : Int32 := (if (f_X11_in c 49 57) = 0 then (-100004) else (if (s1.2.2.1) = 0 then (-100004) else (c - 49))); if 0 ≤ v2 then (if (s1.1) = 10 then (.inl ((-100) - (nI j1), s1.2.2.2)) else (if ((s1.1) + v3) ≤ 10 then (let σ5 : Sg := sw (s1.2.2.2) 64 (s1.1).toNatClampNeg v2; let t6 : Int32 × Sg := loopF b_X11_readBars_138 ((v3).toNatClampNeg) ((s1.1) + 1, σ5); .inr (t6.1, (s1.2.1) + 1, 1, t6.2)) else (.inl ((-100) - (nI j1), s1.2.2.2)))) else (if v3 < 0 then (.inl ((-100) - (nI j1), s1.2.2.2)) else (if ((s1.1) + v3) ≤ 10 then (let t8 : Int32 × Sg := loopF b_X11_readBars_138 ((v3).toNatClampNeg) (s1.1, s1.2.2.2); .inr (t8.1, s1.2.1, 0, t8.2)) else (.inl ((-100) - (nI j1), s1.2.2.2))))
theorem pM_eq (c : Int32) (j1 : Nat) (s1 : Int32 × Int32 × Int32 × Sg) : pM c j1 s1 = (let v2 : Int32 := f_X11_barOf c; let v3 : Int32 := (if (f_X11_in c 49 57) = 0 then (-100004) else (if (s1.2.2.1) = 0 then (-100004) else (c - 49))); if 0 ≤ v2 then (if (s1.1) = 10 then (.inl ((-100) - (nI j1), s1.2.2.2)) else (if ((s1.1) + v3) ≤ 10 then (let σ5 : Sg := sw (s1.2.2.2) 64 (s1.1).toNatClampNeg v2; let t6 : Int32 × Sg := loopF b_X11_readBars_138 ((v3).toNatClampNeg) ((s1.1) + 1, σ5); .inr (t6.1, (s1.2.1) + 1, 1, t6.2)) else (.inl ((-100) - (nI j1), s1.2.2.2)))) else (if v3 < 0 then (.inl ((-100) - (nI j1), s1.2.2.2)) else (if ((s1.1) + v3) ≤ 10 then (let t8 : Int32 × Sg := loopF b_X11_readBars_138 ((v3).toNatClampNeg) (s1.1, s1.2.2.2); .inr (t8.1, s1.2.1, 0, t8.2)) else (.inl ((-100) - (nI j1), s1.2.2.2))))) := rfl
theorem pB_b (j : Nat) (s : Int32 × Int32 × Sg) : b_X0_parse_11 j s = pB (s.2.2 11 (nI j).toNatClampNeg) j s := rfl
theorem pM_b (j : Nat) (s : Int32 × Int32 × Int32 × Sg) : b_X11_readBars_20 j s = pM (s.2.2.2 63 (nI j).toNatClampNeg) j s := rfl
theorem parse_step {σ t : Sg} (hT : σ 11 = t 63) {N : Nat} (hN : N ≤ 61) (j : Nat) (s : Int32 × Int32 × Sg) (u : Int32 × Int32 × Int32 × Sg) (hj : j < N) (hR : RB σ t s u) : (∃ r r', b_X0_parse_11 j s = .inl r ∧ b_X11_readBars_20 j u = .inl r' ∧ RBX σ t r r') ∨ (∃ v v', b_X0_parse_11 j s = .inr v ∧ b_X11_readBars_20 j u = .inr v' ∧ RB σ t v v') := by
  obtain ⟨k, hk, r1, r2, r3, r4, r5, r6, r7, r8⟩ := hR
  obtain ⟨told, dm, a⟩ := s
  obtain ⟨seg, lt, dc, b⟩ := u
  dsimp only at r1 r2 r3 r4 r5 r6 r7 r8
  subst r1 r2 r3
  have ec : b 63 = a 11 := by
    rw [r8 63 (by decide), ← hT]
    exact funext fun i => (r7 11 (by decide) i (by omega)).symm
  rw [pB_b, pM_b]
  dsimp only
  rw [ec]
  generalize a 11 (nI j).toNatClampNeg = c
  rw [pB_eq, pM_eq]
  dsimp only
  have stop : RBX σ t (nI j, a) ((-100) - nI j, b) := ⟨j, by omega, rfl, rfl, r7, r8⟩
  rcases bar_eq c with ⟨e1, e2⟩ | ⟨bb, hb, e1, e2, e3⟩
  · rw [e1, e2, if_pos (show (-1 : Int32) < 0 by decide), if_neg (show ¬ (0 : Int32) ≤ -100004 by decide)]
    by_cases h : f_X11_in c 49 57 = 0
    · rw [if_pos h, if_pos (show (-100004 : Int32) < 0 by decide), dig_0 h, ite_self, if_pos (show (-1 : Int32) < 0 by decide)]
      exact .inl ⟨_, _, rfl, rfl, stop⟩
    · rw [if_neg h]
      rcases r4 with rfl | ⟨rfl, hk1⟩
      · rw [if_pos rfl, if_pos rfl, if_pos (show (-100004 : Int32) < 0 by decide), if_pos (show (-1 : Int32) < 0 by decide)]
        exact .inl ⟨_, _, rfl, rfl, stop⟩
      · obtain ⟨d, hd, d1, d2⟩ := dig_1 h
        rw [if_neg (show ¬ (1 : Int32) = 0 by decide), if_neg (show ¬ (1 : Int32) = 0 by decide), d1, d2, if_neg (nI_pos (by omega)), if_neg (nI_pos (by omega)), nI_add, nI_clamp (by omega)]
        by_cases c2 : k + d ≤ 10
        · rw [if_pos (show nI (k + d) ≤ 10 from nI_le (b := 10) c2 (by decide)), if_pos (show nI (k + d) ≤ 10 from nI_le (b := 10) c2 (by decide)), rp_eq a hk1 c2]
          obtain ⟨p1, p2, p3, p4⟩ := cp_eq hk1 c2 r6
          refine .inr ⟨_, _, rfl, rfl, k + d, c2, rfl, p1, rfl, .inl rfl, ?_, p2, r7.k p3, r8.tr p4⟩
          dsimp only
          rw [p3 10 (by decide)]
          exact r5
        · rw [if_neg (show ¬ nI (k + d) ≤ 10 from nI_ge (a := 10) (by omega) (by omega)), if_neg (show ¬ nI (k + d) ≤ 10 from nI_ge (a := 10) (by omega) (by omega))]
          exact .inl ⟨_, _, rfl, rfl, stop⟩
  · rw [e1, e2, e3, if_neg (nI_pos (by omega)), if_pos (nI_pos' (by omega)), if_pos rfl]
    by_cases c2 : k = 10
    · rw [if_neg (show ¬ nI k < 10 from nI_nlt (b := 10) (by omega) (by omega)), if_pos (show nI k = 10 by rw [c2]; rfl)]
      exact .inl ⟨_, _, rfl, rfl, stop⟩
    · rw [if_pos (show nI k < 10 from nI_lt (b := 10) (by omega) (by decide)), if_neg (show ¬ nI k = 10 from fun q => c2 ((nI_eq (b := 10) (by omega) (by decide)).mp q)), if_pos (le_none hk), nI_clamp (by omega)]
      refine .inr ⟨_, _, rfl, rfl, k + 1, by omega, nI_1 _, nI_1 _, rfl, .inr ⟨rfl, by omega⟩, ?_, ?_, (r7.b _ _).l _, r8.tr (Kp.sw (by decide) _ _ _)⟩
      · dsimp only
        rw [sw_same, sw_cell (show ¬ (10 : Nat) = 12 by decide), r5]
      · intro i hi
        dsimp only
        show sw (sw a 12 k (nI bb)) 10 3 _ 12 i = sw b 64 k (nI bb) 64 i ∧ ∃ z, z < 8 ∧ sw b 64 k (nI bb) 64 i = nI z
        rw [sw_cell (show ¬ (12 : Nat) = 10 by decide), sw_at, if_pos rfl, sw_at, if_pos rfl, upd_at, upd_at]
        by_cases q : i = k
        · rw [if_pos q, if_pos q]; exact ⟨rfl, bb, hb, rfl⟩
        · rw [if_neg q, if_neg q]; exact r6 i (by omega)
/-- the bars painted -/
theorem paint_bars {σ0 t0 σ t : Sg} {x : Int32} (h : RQ σ t) (hb : BR 10 σ t) (h1 : KO σ0 σ) (h2 : Kp [64] t0 t) : RQ (loopF (b_X10_readBars_30 x) 10 σ) (loopF (b_X11_readBars_203 x) 10 t) ∧ BR 10 (loopF (b_X10_readBars_30 x) 10 σ) (loopF (b_X11_readBars_203 x) 10 t) ∧ Kp [2, 3, 4] σ (loopF (b_X10_readBars_30 x) 10 σ) ∧ Kp [54, 55, 56] t (loopF (b_X11_readBars_203 x) 10 t) :=
  two (B := b_X10_readBars_30 x) (B' := b_X11_readBars_203 x) (N := 10) (I := σ) (I' := t) (fun _ u u' => RQ u u' ∧ BR 10 u u' ∧ Kp [2, 3, 4] σ u ∧ Kp [54, 55, 56] t u') ⟨h, hb, Kp.rf _, Kp.rf _⟩ (by
    intro j u u' hj hR
    obtain ⟨q1, q2, q3, q4⟩ := hR
    rw [b_X10_readBars_30_eq, b_X11_readBars_203_eq, pm_eq]
    dsimp only
    rw [f_X0_paintBar_eq]
    dsimp only
    rw [nI_clamp (by omega)]
    obtain ⟨e, b, hb8, e2⟩ := q2 j hj
    rw [e, e2, nI_clamp (by omega), putbar_eq _ _ hb8]
    refine ⟨RQ_paint q1 _ _ _ _ (bar_bnd hb8), ?_, q3.tr (kp_paint _ _ _ _ _), q4.tr (kp_put _ _ _ _ _)⟩
    intro i hi
    rw [kp_paint u (10 * x + nI j) (sa_3 b) (sa_4 b) (sa_5 b) 12 (by decide), kp_put u' (10 * x + nI j) (sa_3 b) (sa_4 b) (sa_5 b) 64 (by decide)]
    exact q2 i hi)
theorem q_readBars {m : Nat} {σ t : Sg} {φ ψ : Fl} (h : Rel m σ φ t ψ) (x : Int32) : (f_X10_readBars σ x).1 = (f_X11_readBars t x).1 ∧ Rel m (f_X10_readBars σ x).2 φ (f_X11_readBars t x).2 ψ ∧ KA σ (f_X10_readBars σ x).2 ∧ KB t (f_X11_readBars t x).2 := by
  rw [f_X10_readBars_eq, f_X11_readBars_eq, ln_if]
  by_cases c1 : f_X11_noLine x = 0
  · rw [if_pos c1, if_pos c1, f_X0_parse_eq]
    dsimp only
    obtain ⟨t1, t2, t3⟩ := h.2.2.2.1
    obtain ⟨n, hn, en⟩ := vp_in_of t3 (by decide)
    have en2 : σ 10 1 = nI n := t2.trans en
    rw [en, en2, nI_clamp (by omega)]
    have ko : ∀ {s : Sg}, KO σ s → KA σ s := fun q k hk => funext fun i => q k (by omega) i (by omega)
    have kb : ∀ {s : Sg}, Kp [64] t s → KB t s := fun q => q.B (by decide)
    have fin : ∀ {s u : Sg}, KO σ s → Kp [64] t u → Rel m s φ u ψ := fun {s u} q1 q2 => Rel_Q h (by
      have r := Rel_RQ h
      unfold RQ at *
      have e : ∀ k, ¬ k = 12 → ¬ k = 10 → s k = σ k := fun k a b => funext fun i => q1 k a i (fun z => b z.1)
      rw [e 2 (by decide) (by decide), e 3 (by decide) (by decide), e 4 (by decide) (by decide), q2 54 (by decide), q2 55 (by decide), q2 56 (by decide)]
      exact r) (fun k hk i hi => q1 k (fun z => hk (by rw [z]; decide)) i hi) (q2.up (by decide))
    rcases twoE (B := b_X0_parse_11) (B' := b_X11_readBars_20) (N := n) (I := (0, 0, sw σ 10 3 0)) (I' := (0, 0, 0, t)) (fun _ => RB σ t) (RBX σ t) ⟨0, by decide, rfl, rfl, rfl, .inl rfl, (sw_same σ 10 3 0).symm, fun i hi => absurd hi (by omega), (KO.rf σ).l 0, Kp.rf _⟩ (fun j s u hj hR => parse_step t1 (N := n) (by omega) j s u hj hR) with ⟨r, r', e, e', j, hj, p1, p2, p3, p4⟩ | ⟨u, u', e, e', k, hk, p1, p2, p3, p4, p5, p6, p7, p8⟩
    · rw [sumE_inl e, sumE_inl e', p1, if_neg (nI_nm1 (by omega))]
      exact ⟨p2.symm, fin p3 p4, ko p3, kb p4⟩
    · rw [sumE_inr e, sumE_inr e', p1, p2]
      have g1 : u.2.2 10 1 = nI n := (p7 10 (by decide) 1 (by decide)).trans en2
      have g2 : u'.2.2.2 53 10 = nI n := (congrFun (p8 53 (by decide)) 10).trans en
      by_cases c2 : 10 ≤ k
      · have ek : k = 10 := by omega
        subst ek
        rw [if_pos (show (10 : Int32) ≤ nI 10 by decide), if_pos (show (10 : Int32) ≤ nI 10 by decide)]
        dsimp only
        rw [if_pos rfl]
        obtain ⟨w1, w2, w3, w4⟩ := paint_bars (x := x) (Rel_RQ (fin p7 p8)) p6 p7 p8
        refine ⟨?_, Rel_Q h w1 (fun k hk i hi => ?_) ((p8.up (by decide)).tr (w4.up (by decide))), ?_, ?_⟩
        · dsimp only
          rw [w3 10 (by decide)]
          exact p5.symm
        · refine (congrFun (w3 k (fun z => hk ?_)) i).trans (p7 k (fun z => hk (by rw [z]; decide)) i hi)
          revert z
          simp only [List.mem_cons, List.mem_nil_iff, or_false]
          omega
        · exact (ko p7).tr (w3.A (by decide))
        · exact (kb p8).tr (w4.B (by decide))
      · rw [if_neg (show ¬ (10 : Int32) ≤ nI k from nI_ge (a := k) (b := 10) (by omega) (by decide)), if_neg (show ¬ (10 : Int32) ≤ nI k from nI_ge (a := k) (b := 10) (by omega) (by decide)), g1, g2]
        dsimp only
        rw [if_neg (nI_nm1 (by omega))]
        exact ⟨rfl, fin p7 p8, ko p7, kb p8⟩
  · rw [if_neg c1, if_neg c1]; exact ⟨rfl, h, KA.rf _, KB.rf _⟩
end
