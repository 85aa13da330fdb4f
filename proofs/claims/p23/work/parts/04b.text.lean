/-! the text stays within its room; what a reading of bars leaves -/
theorem tb_u {σ : Sg} (h : vp_in (σ 10 1) 61) : ¬ σ 10 1 < 0 := fun q => h (Or.inl q)
theorem tb_ite {c : Prop} [Decidable c] {a b : Sg} (ha : vp_in (a 10 1) 61) (hb : vp_in (b 10 1) 61) : vp_in ((if c then a else b) 10 1) 61 := by
  by_cases h : c
  · rw [if_pos h]; exact ha
  · rw [if_neg h]; exact hb
theorem tb_clearText {σ : Sg} (_ : vp_in (σ 10 1) 61) : vp_in ((f_X10_clearText σ).2 10 1) 61 := (vp_lit (by decide) : vp_in 0 61)
theorem tb_type {σ : Sg} {x : Int32} (h : vp_in (σ 10 1) 61) : vp_in ((f_X10_type σ x).2 10 1) 61 := by
  show vp_in ((f_X0_append σ x).2 10 1) 61
  rw [f_X0_append_eq]
  by_cases c : σ 10 1 < 60
  · rw [if_pos c]
    dsimp only
    rw [sw_same, sw_cell (show ¬ (10 : Nat) = 11 by decide)]
    obtain ⟨j, hj, e⟩ := vp_in_of h (by decide)
    rw [e] at c ⊢
    rw [nI_1]
    have := (nI_ltI (a := j) (b := 60) (by omega) (by decide)).mp c
    exact vp_in_nI (by omega) (by decide)
  · rw [if_neg c]; exact h
/-- the class's cells but the bars and the count of letters -/
def KO (σ s : Sg) : Prop := ∀ k, ¬ k = 12 → ∀ i, ¬ (k = 10 ∧ i = 3) → s k i = σ k i
theorem KO.rf (σ : Sg) : KO σ σ := fun _ _ _ _ => rfl
theorem KO.k {σ s s' : Sg} (h : KO σ s) (h2 : Kp [12] s s') : KO σ s' := fun k a i b => (congrFun (h2 k (by simpa using a)) i).trans (h k a i b)
theorem KO.l {σ s : Sg} (h : KO σ s) (v : Int32) : KO σ (sw s 10 3 v) := fun k a i b => by rw [sw_get, if_neg b]; exact h k a i b
theorem KO.b {σ s : Sg} (h : KO σ s) (j : Nat) (v : Int32) : KO σ (sw s 12 j v) := fun k a i b => by rw [sw_cell a]; exact h k a i b
theorem kp_repeat (σ : Sg) (x y : Int32) : Kp [12] σ (f_X0_repeatBar σ x y).2 := by
  rcases loopE_cases (B := b_X0_repeatBar_7 x y) (N := 11) (I := σ) (fun _ s => Kp [12] σ s) (Kp.rf _) (fun j s s' _ hI e => by
    rw [b_X0_repeatBar_7_eq] at e
    by_cases c1 : x + nI j ≤ 0
    · rw [if_pos c1] at e; exact absurd e (by simp)
    · rw [if_neg c1] at e
      by_cases c2 : x + y ≤ x + nI j
      · rw [if_pos c2] at e; exact absurd e (by simp)
      · rw [if_neg c2] at e
        by_cases c3 : 10 ≤ x + nI j
        · rw [if_pos c3] at e; exact absurd e (by simp)
        · rw [if_neg c3] at e
          obtain rfl := Sum.inr.inj e
          exact hI.tr (Kp.sw (by decide) _ _ _)) with ⟨j, s, r, _, hI, hb, hl⟩ | ⟨s, hI, hl⟩
  · have e := (f_X0_repeatBar_eq σ x y).trans (sumE_inl hl)
    rw [e]
    rw [b_X0_repeatBar_7_eq] at hb
    by_cases c1 : x + nI j ≤ 0
    · rw [if_pos c1] at hb; rw [← Sum.inl.inj hb]; exact hI
    · rw [if_neg c1] at hb
      by_cases c2 : x + y ≤ x + nI j
      · rw [if_pos c2] at hb; rw [← Sum.inl.inj hb]; exact hI
      · rw [if_neg c2] at hb
        by_cases c3 : 10 ≤ x + nI j
        · rw [if_pos c3] at hb; rw [← Sum.inl.inj hb]; exact hI
        · rw [if_neg c3] at hb; exact absurd hb (by simp)
  · have e := (f_X0_repeatBar_eq σ x y).trans (sumE_inr hl)
    rw [e]
    split
    · exact hI
    · split <;> exact hI
theorem ko_parse (σ : Sg) : KO σ (f_X0_parse σ).2 := by
  rcases loopE_cases (B := b_X0_parse_11) (N := (σ 10 1).toNatClampNeg) (I := (0, 0, sw σ 10 3 0)) (fun _ s => KO σ s.2.2) ((KO.rf σ).l 0) (fun j s s' _ hI e => by
    rw [b_X0_parse_11_eq] at e
    dsimp only at e
    by_cases c1 : f_X0_barOf (s.2.2 11 (nI j).toNatClampNeg) < 0
    · rw [if_pos c1] at e
      generalize (if s.2.1 = 0 then (-1) else ((f_X0_digitOf (s.2.2 11 (nI j).toNatClampNeg)) - 1)) = v at e
      by_cases c2 : v < 0
      · rw [if_pos c2] at e; exact absurd e (by simp)
      · rw [if_neg c2] at e
        by_cases c3 : s.1 + v ≤ 10
        · rw [if_pos c3] at e
          obtain rfl := Sum.inr.inj e
          exact hI.k (kp_repeat _ _ _)
        · rw [if_neg c3] at e; exact absurd e (by simp)
    · rw [if_neg c1] at e
      by_cases c2 : s.1 < 10
      · rw [if_pos c2] at e
        obtain rfl := Sum.inr.inj e
        exact (hI.b _ _).l _
      · rw [if_neg c2] at e; exact absurd e (by simp)) with ⟨j, s, r, _, hI, hb, hl⟩ | ⟨s, hI, hl⟩
  · have e := (f_X0_parse_eq σ).trans (sumE_inl hl)
    rw [e]
    rw [b_X0_parse_11_eq] at hb
    dsimp only at hb
    by_cases c1 : f_X0_barOf (s.2.2 11 (nI j).toNatClampNeg) < 0
    · rw [if_pos c1] at hb
      generalize (if s.2.1 = 0 then (-1) else ((f_X0_digitOf (s.2.2 11 (nI j).toNatClampNeg)) - 1)) = v at hb
      by_cases c2 : v < 0
      · rw [if_pos c2] at hb; rw [← Sum.inl.inj hb]; exact hI
      · rw [if_neg c2] at hb
        by_cases c3 : s.1 + v ≤ 10
        · rw [if_pos c3] at hb; exact absurd hb (by simp)
        · rw [if_neg c3] at hb; rw [← Sum.inl.inj hb]; exact hI
    · rw [if_neg c1] at hb
      by_cases c2 : s.1 < 10
      · rw [if_pos c2] at hb; exact absurd hb (by simp)
      · rw [if_neg c2] at hb; rw [← Sum.inl.inj hb]; exact hI
  · have e := (f_X0_parse_eq σ).trans (sumE_inr hl)
    rw [e]
    by_cases c : 10 ≤ s.1
    · rw [if_pos c]; exact hI
    · rw [if_neg c]; exact hI
theorem kp_bars (x : Int32) (s : Sg) : Kp [2, 3, 4] s (loopF (b_X10_readBars_30 x) 10 s) := Kp.loop s (fun j u _ => by
  rw [b_X10_readBars_30_eq]
  dsimp only
  rw [f_X0_paintBar_eq]
  exact kp_paint _ _ _ _ _)
theorem ko_read (σ : Sg) (x : Int32) : ∀ k, ¬ k ∈ [2, 3, 4, 12] → ∀ i, ¬ (k = 10 ∧ i = 3) → (f_X10_readBars σ x).2 k i = σ k i := by
  intro k hk i hi
  rw [f_X10_readBars_eq]
  by_cases c : f_X10_isLine x = 0
  · rw [if_pos c]
  · rw [if_neg c]
    dsimp only
    have h12 : ¬ k = 12 := fun q => hk (by rw [q]; decide)
    by_cases c2 : (f_X0_parse σ).1 = -1
    · rw [if_pos c2]
      dsimp only
      rw [kp_bars x _ k (fun q => hk (by simp only [List.mem_cons, List.mem_nil_iff, or_false] at q ⊢; omega))]
      exact ko_parse σ k h12 i hi
    · rw [if_neg c2]; exact ko_parse σ k h12 i hi
theorem tb_readBars {σ : Sg} {x : Int32} (h : vp_in (σ 10 1) 61) : vp_in ((f_X10_readBars σ x).2 10 1) 61 := by
  rw [ko_read σ x 10 (by decide) 1 (by decide)]
  exact h
