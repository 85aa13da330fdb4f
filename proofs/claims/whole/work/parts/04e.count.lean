/-! the counts -/
theorem oneIf_01 {w : Int32} (hw : w = 0 ∨ w = 1) : f_X10_oneIf w = w := by
  rcases hw with rfl | rfl <;> rfl
theorem loop_eq {τ : Type} {B B' : Nat → τ → τ} {N : Nat} (I : τ) (h : ∀ j s, j < N → B j s = B' j s) : loopF B N I = loopF B' N I := two (N := N) (I := I) (I' := I) (fun _ s s' => s = s') rfl (fun j s s' hj e => by rw [← e]; exact h j s hj)
theorem q_guess {m : Nat} {σ t : Sg} {φ ψ : Fl} (h : Rel m σ φ t ψ) : f_X1_guessedStandard σ = f_X11_guessed t := by
  obtain ⟨-, -, -, -, -, hI, -⟩ := h
  rw [f_X1_guessedStandard_eq, f_X11_guessed_eq, hI.2.2.2.2.2.2.2.2.2.2.2.2.1, hI.2.2.2.2.2.2.2.2.2.2.2.2.2.1]
  exact oneIf_01 (zo_ite (.inl rfl) (.inr rfl))
theorem q_tally34 {σ t : Sg} (h : σ 34 = t 72) : f_X10_tally_34 σ = f_X11_linesWithColor t := by
  rw [f_X10_tally_34_eq, f_X11_linesWithColor_eq]
  refine loop_eq _ (fun j s _ => ?_)
  rw [b_X10_tally_34_10_eq, b_X11_linesWithColor_4_eq, h]
  rfl
theorem q_tally29 {σ : Sg} {N : Nat} {f : Nat → Int32} (h : σ 29 = f) : f_X10_tally_29 σ = loopF (fun j s => s + (if f (nI j).toNatClampNeg = 0 then 0 else 1)) 8 0 := by
  rw [f_X10_tally_29_eq]
  refine loop_eq _ (fun j s _ => ?_)
  rw [b_X10_tally_29_10_eq, h]
  rfl
theorem far_iff {a b : Int32} (ha : bndL a) (hb : 0 ≤ b.toInt ∧ b.toInt ≤ 200) : 0 < f_X11_size (a - b) ↔ ¬ a = b := by
  obtain ⟨a1, a2⟩ := ha
  have e : (a - b).toInt = a.toInt - b.toInt := by
    rw [Int32.toInt_sub]
    exact tq_bm (by omega) (by omega)
  have k0 : (0 : Int32).toInt = 0 := rfl
  rw [f_X11_size_eq]
  dsimp only
  by_cases c : 0 ≤ a - b
  · rw [if_pos c, i32_lt, i32_eq, e, k0]
    rw [i32_le, e, k0] at c
    omega
  · rw [if_neg c, i32_lt, i32_eq, k0]
    rw [i32_le, e, k0] at c
    have e2 : (-(a - b)).toInt = -(a.toInt - b.toInt) := by
      rw [Int32.toInt_neg, e]
      exact tq_bm (by omega) (by omega)
    rw [e2]
    omega
theorem q_wrong {σ t : Sg} (h : σ 40 = t 75) (h2 : σ 2 = t 54) (hb : ∀ k, bndL (t 75 k)) (hc : ∀ k, 0 ≤ (t 54 k).toInt ∧ (t 54 k).toInt ≤ 200) : f_X10_wrongLumas σ = f_X11_segments t 5 := by
  rw [f_X10_wrongLumas_eq, f_X11_segments_eq]
  refine loop_eq _ (fun j s _ => ?_)
  rw [b_X10_wrongLumas_4_eq, h, h2]
  show s + f_X10_oneIf (if t 75 (nI j).toNatClampNeg = t 54 (nI j).toNatClampNeg then 0 else 1) = s + (if 0 < f_X11_size (t 75 (nI j).toNatClampNeg - t 54 (nI j).toNatClampNeg) then 1 else 0) + 0
  rw [Int32.add_zero, oneIf_01 (zo_ite (.inl rfl) (.inr rfl))]
  have q := far_iff (hb (nI j).toNatClampNeg) (hc (nI j).toNatClampNeg)
  by_cases c : t 75 (nI j).toNatClampNeg = t 54 (nI j).toNatClampNeg
  · rw [if_pos c, if_neg (fun r => q.mp r c)]
  · rw [if_neg c, if_pos (q.mpr c)]
theorem q_diff {σ t : Sg} (h : σ 40 = t 75) (h2 : σ 2 = t 54) : f_X10_lumaDifferences σ = f_X11_segments t 6 := by
  rw [f_X10_lumaDifferences_eq, f_X11_segments_eq]
  refine loop_eq _ (fun j s _ => ?_)
  rw [b_X10_lumaDifferences_4_eq, h, h2]
  dsimp only
  rw [abs_size]
  show s + f_X11_size (t 75 (nI j).toNatClampNeg - t 54 (nI j).toNatClampNeg) = s + 0 + f_X11_size (t 75 (nI j).toNatClampNeg - t 54 (nI j).toNatClampNeg)
  rw [Int32.add_zero]
theorem q_t52 {σ t : Sg} (h : ∀ k, k < 80 → σ 52 k = f_X11_motionAt t (nI k)) (x y : Int32) (hx : (x = 7 ∧ y = 2) ∨ (x = 8 ∧ y = 1)) : f_X10_tally__52 σ y = f_X11_segments t x := by
  rw [f_X10_tally__52_eq, f_X11_segments_eq]
  refine loop_eq _ (fun j s hj => ?_)
  rw [b_X10_tally__52_11_eq, nI_clamp (by omega), h j hj]
  dsimp only
  rw [oneIf_01 (zo_ite (.inr rfl) (.inl rfl))]
  rcases hx with ⟨rfl, rfl⟩ | ⟨rfl, rfl⟩
  · show s + (if f_X11_motionAt t (nI j) = 2 then 1 else 0) = s + (if f_X11_motionAt t (nI j) = 2 then 1 else 0) + 0
    rw [Int32.add_zero]
  · show s + (if f_X11_motionAt t (nI j) = 1 then 1 else 0) = s + (if f_X11_motionAt t (nI j) = 1 then 1 else 0) + 0
    rw [Int32.add_zero]
theorem q_t41 {σ t : Sg} (h : σ 41 = t 77) (x : Int32) (hx : x = 9 ∨ x = 10 ∨ x = 11 ∨ x = 12) : f_X10_tally__41 σ (x - 9) = f_X11_segments t x := by
  rw [f_X10_tally__41_eq, f_X11_segments_eq]
  refine loop_eq _ (fun j s hj => ?_)
  rw [b_X10_tally__41_11_eq, h]
  dsimp only
  rw [oneIf_01 (zo_ite (.inr rfl) (.inl rfl))]
  have key : b_X11_segments_4 t x j s = s + (if t 77 (nI j).toNatClampNeg = x - 9 then 1 else 0) + 0 := by
    rcases hx with rfl | rfl | rfl | rfl <;> rfl
  rw [key, Int32.add_zero]
theorem q_count {m : Nat} {σ t : Sg} {φ ψ : Fl} (h : Rel m σ φ t ψ) (hm : m < 2 ^ 30) (x : Int32) : f_X10_count σ x = f_X11_count t x := by
  have hg := q_guess h
  obtain ⟨h1, h2, h3, h4, ⟨d1, d, hd, ed⟩, hI, -⟩ := h
  obtain ⟨-, -, -, -, -, -, -, i34, i40, i41, -, ib, i30, i31, i52⟩ := hI
  by_cases c : f_X11_in x 0 18 = 0
  · rw [f_X10_count_eq, f_X11_count_eq, if_pos (show f_X10_isWithin x 0 18 = 0 from c), if_pos c]
  · obtain ⟨k, hk, rfl⟩ := vp_in_of (ii_in (m := 18) (n := 19) rfl c) (by decide)
    have p0 : d = 0 → t 53 13 = 0 := fun q => by rw [ed, q]; rfl
    have p1 : d = 1 → t 53 13 = 1 := fun q => by rw [ed, q]; rfl
    have n0 : ¬ d = 0 → ¬ t 53 13 = 0 := fun q r => q ((nI_eq (a := d) (b := 0) (by omega) (by decide)).mp (ed.symm.trans r))
    have n1 : ¬ d = 1 → ¬ t 53 13 = 1 := fun q r => q ((nI_eq (a := d) (b := 1) (by omega) (by decide)).mp (ed.symm.trans r))
    have g1 : (1 ≤ t 53 13) ↔ 1 ≤ d := by rw [ed]; exact nI_leI (a := 1) (by decide) (by omega)
    have g2 : (2 ≤ t 53 13) ↔ 2 ≤ d := by rw [ed]; exact nI_leI (a := 2) (by decide) (by omega)
    have one : ∀ (a b : Int32), a = b → (if 1 ≤ t 53 13 then a else -100004) = (if (if t 53 13 = 0 then (1 : Int32) else (if t 53 13 = 1 then 0 else 0)) = 0 then b else -100004) := by
      intro a b e
      rw [e]
      by_cases q : d = 0
      · rw [if_neg (fun r => by have := g1.mp r; omega), if_pos (p0 q), if_neg (by decide)]
      · rw [if_pos (g1.mpr (by omega)), if_neg (n0 q), if_pos (ite_self _)]
    have two' : ∀ (a b : Int32), (2 ≤ d → a = b) → (if 2 ≤ t 53 13 then a else -100004) = (if (if t 53 13 = 0 then (1 : Int32) else (if t 53 13 = 1 then 1 else 0)) = 0 then b else -100004) := by
      intro a b e
      by_cases q : d = 0
      · rw [if_neg (fun r => by have := g2.mp r; omega), if_pos (p0 q), if_neg (by decide)]
      · by_cases q1 : d = 1
        · rw [if_neg (fun r => by have := g2.mp r; omega), if_neg (n0 q), if_pos (p1 q1), if_neg (by decide)]
        · rw [if_pos (g2.mpr (by omega)), if_neg (n0 q), if_neg (n1 q1), if_pos rfl]
          exact e (by omega)
    have hmot : 2 ≤ d → ∀ k, k < 80 → σ 52 k = f_X11_motionAt t (nI k) := fun q => i52 (fun r => by
      rw [ed] at r
      have := (nI_leI (b := 1) (by omega) (by decide)).mp r
      omega)
    have hk' : k = 0 ∨ k = 1 ∨ k = 2 ∨ k = 3 ∨ k = 4 ∨ k = 5 ∨ k = 6 ∨ k = 7 ∨ k = 8 ∨ k = 9 ∨ k = 10 ∨ k = 11 ∨ k = 12 ∨ k = 13 ∨ k = 14 ∨ k = 15 ∨ k = 16 ∨ k = 17 ∨ k = 18 := by omega
    rcases hk' with rfl | rfl | rfl | rfl | rfl | rfl | rfl | rfl | rfl | rfl | rfl | rfl | rfl | rfl | rfl | rfl | rfl | rfl | rfl
    · exact d1
    · show (if 1 ≤ σ 0 10 then f_X1_guessedStandard σ else -100004) = _
      rw [d1]; exact one _ _ hg
    · show (if 1 ≤ σ 0 10 then σ 30 4 else -100004) = _
      rw [d1]; exact one _ _ i30
    · show (if 1 ≤ σ 0 10 then σ 30 5 else -100004) = _
      rw [d1]; exact one _ _ i31
    · show (if 1 ≤ σ 0 10 then f_X10_tally_34 σ else -100004) = _
      rw [d1]; exact one _ _ (q_tally34 i34)
    · show (if 1 ≤ σ 0 10 then f_X10_wrongLumas σ else -100004) = _
      rw [d1]; exact one _ _ (q_wrong i40 h1.1 ib h2.1)
    · show (if 1 ≤ σ 0 10 then f_X10_lumaDifferences σ else -100004) = _
      rw [d1]; exact one _ _ (q_diff i40 h1.1)
    · show (if 2 ≤ σ 0 10 then f_X10_tally__52 σ 2 else -100004) = _
      rw [d1]; exact two' _ _ (fun q => q_t52 (hmot q) 7 2 (.inl ⟨rfl, rfl⟩))
    · show (if 2 ≤ σ 0 10 then f_X10_tally__52 σ 1 else -100004) = _
      rw [d1]; exact two' _ _ (fun q => q_t52 (hmot q) 8 1 (.inr ⟨rfl, rfl⟩))
    · show (if 1 ≤ σ 0 10 then f_X10_tally__41 σ (9 - 9) else -100004) = _
      rw [d1]; exact one _ _ (q_t41 i41 9 (.inl rfl))
    · show (if 1 ≤ σ 0 10 then f_X10_tally__41 σ (10 - 9) else -100004) = _
      rw [d1]; exact one _ _ (q_t41 i41 10 (.inr (.inl rfl)))
    · show (if 1 ≤ σ 0 10 then f_X10_tally__41 σ (11 - 9) else -100004) = _
      rw [d1]; exact one _ _ (q_t41 i41 11 (.inr (.inr (.inl rfl))))
    · show (if 1 ≤ σ 0 10 then f_X10_tally__41 σ (12 - 9) else -100004) = _
      rw [d1]; exact one _ _ (q_t41 i41 12 (.inr (.inr (.inr rfl))))
    · exact h1.2.2.2.2.2.2.2.2
    · exact h4.2.1
    · show σ 14 0 = t 62 0
      rw [h3.1]
    · show σ 14 1 = t 62 1
      rw [h3.1]
    · show σ 14 2 = t 62 2
      rw [h3.1]
    · show σ 14 3 = t 62 3
      rw [h3.1]
