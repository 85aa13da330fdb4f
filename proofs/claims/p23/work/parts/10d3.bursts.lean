/-! bursts and pairs of the law; the whole of the lines -/
theorem col_law {on gg pv : Int32} {G B : Nat} (ho : on = 0 ∨ on = 1) (hg : gg = 0 ∨ gg = 1) (hp : pv = 0 ∨ pv = 1) (hG : G ≤ 8) (hB : B ≤ 8) (h0 : pv = 0 → G = 0 ∧ 1 ≤ B) (h1 : ¬ pv = 0 → B = 0 ∧ 1 ≤ G) : (if 2 ≤ (if gg = 0 then nI B + 1 else 0) then (0 : Int32) else (if on = 0 then (if (if gg = 0 then 0 else nI G + 1) ≤ 1 then 0 else 1) else 1)) = (if gg = pv then gg else on) := by
  rw [nI_1, nI_1]
  rcases hg with rfl | rfl
  · simp only [if_true]
    rcases hp with rfl | rfl
    · obtain ⟨rfl, b1⟩ := h0 rfl
      rw [if_pos (show 2 ≤ nI (B + 1) from nI_le (a := 2) (by omega) (by omega)), if_pos rfl]
    · obtain ⟨rfl, b1⟩ := h1 (by decide)
      rw [if_neg (show ¬ 2 ≤ nI (0 + 1) by decide), if_neg (show ¬ (0 : Int32) = 1 by decide)]
      rcases ho with rfl | rfl
      · rw [if_pos rfl, if_pos (by decide)]
      · rw [if_neg (by decide)]
  · simp only [if_neg (show ¬ (1 : Int32) = 0 by decide)]
    rw [if_neg (show ¬ (2 : Int32) ≤ 0 by decide)]
    rcases hp with rfl | rfl
    · obtain ⟨rfl, b1⟩ := h0 rfl
      rw [if_neg (show ¬ (1 : Int32) = 0 by decide), if_pos (show nI (0 + 1) ≤ 1 by decide)]
      rcases ho with rfl | rfl
      · rw [if_pos rfl]
      · rw [if_neg (by decide)]
    · obtain ⟨rfl, b1⟩ := h1 (by decide)
      rw [if_pos rfl, if_neg (show ¬ nI (G + 1) ≤ 1 from nI_ge (a := 1) (by omega) (by omega))]
      rcases ho with rfl | rfl
      · rw [if_pos rfl]
      · rw [if_neg (by decide)]
theorem col_law0 {gg : Int32} (hg : gg = 0 ∨ gg = 1) : (if 2 ≤ (if gg = 0 then nI 0 + 1 else 0) then (0 : Int32) else (if (1 : Int32) = 0 then (if (if gg = 0 then 0 else nI 0 + 1) ≤ 1 then 0 else 1) else 1)) = 1 := by
  rcases hg with rfl | rfl <;> decide +kernel
theorem opp_iff4 {a b : Int32} (ha : bd a 4000) (hb : bd b 4000) : 0 ≤ a * b ↔ ¬ ((a.toInt < 0 ∧ 0 < b.toInt) ∨ (0 < a.toInt ∧ b.toInt < 0)) := by
  obtain ⟨e, -⟩ := mul_toInt ha hb (by decide)
  rw [i32_le, e, show (0 : Int32).toInt = 0 from rfl]
  generalize a.toInt = x
  generalize b.toInt = y
  rcases Int.lt_trichotomy x 0 with h | h | h
  · rcases Int.lt_trichotomy y 0 with k | k | k
    · have := Int.mul_pos (show 0 < -x by omega) (show 0 < -y by omega)
      rw [Int.neg_mul_neg] at this
      omega
    · subst k; omega
    · have := Int.mul_pos (show 0 < -x by omega) k
      rw [Int.neg_mul] at this
      omega
  · subst h; rw [Int.zero_mul]; omega
  · rcases Int.lt_trichotomy y 0 with k | k | k
    · have := Int.mul_pos h (show 0 < -y by omega)
      rw [Int.mul_neg] at this
      omega
    · subst k; omega
    · have := Int.mul_pos h k
      omega
theorem opp_T {a b T : Int32} (ha : bd a 4000) (hb : bd b 4000) : (if 0 ≤ a then (if a ≤ 0 then (0 : Int32) else (if 0 ≤ b then 0 else T)) else (if 0 < b then T else (if a ≤ 0 then 0 else (if 0 ≤ b then 0 else T)))) = if 0 ≤ a * b then 0 else T := by
  have q := opp_iff4 ha hb
  have z : (0 : Int32).toInt = 0 := rfl
  by_cases c1 : 0 ≤ a
  · rw [if_pos c1]
    rw [i32_le, z] at c1
    by_cases c2 : a ≤ 0
    · rw [if_pos c2]
      rw [i32_le, z] at c2
      rw [if_pos (q.mpr (by omega))]
    · rw [if_neg c2]
      rw [i32_le, z] at c2
      by_cases c3 : 0 ≤ b
      · rw [if_pos c3]
        rw [i32_le, z] at c3
        rw [if_pos (q.mpr (by omega))]
      · rw [if_neg c3]
        rw [i32_le, z] at c3
        rw [if_neg (fun r => (q.mp r) (by omega))]
  · rw [if_neg c1]
    rw [i32_le, z] at c1
    by_cases c3 : 0 < b
    · rw [if_pos c3]
      rw [i32_lt, z] at c3
      rw [if_neg (fun r => (q.mp r) (by omega))]
    · rw [if_neg c3, if_pos (show a ≤ 0 by rw [i32_le, z]; omega)]
      rw [i32_lt, z] at c3
      rw [if_pos (q.mpr (by omega))]
theorem loopE_all {ρ τ : Type} {B : Nat → τ → ρ ⊕ τ} {N : Nat} {I : τ} (Inv : Nat → τ → Prop) (h0 : Inv 0 I) (hs : ∀ (j : Nat) (s : τ), j < N → Inv j s → ∃ s', B j s = .inr s' ∧ Inv (j + 1) s') : ∃ t, loopE B N 0 I = .inr t ∧ Inv N t := by
  have key : ∀ n j : Nat, ∀ s, j + n = N → Inv j s → ∃ t, loopE B n j s = .inr t ∧ Inv N t := by
    intro n
    induction n with
    | zero => intro j s h hi; rw [show j = N by omega] at hi; exact ⟨s, rfl, hi⟩
    | succ n ih =>
      intro j s h hi
      obtain ⟨s', e, hi'⟩ := hs j s (by omega) hi
      rw [loopE_inr n e]
      exact ih (j + 1) s' (by omega) hi'
  exact key N 0 I (by omega) h0
/-- what a decoding leaves, of its lines -/
def LnS (τ : Sg) (thr : Int32) : Prop :=
  (∃ H M : Nat → Int32, H 0 = 0 ∧ M 0 = 0 ∧ ∀ n, n < 8 → FindAt (f_L_at τ) n (τ 26 n) (τ 27 n) (τ 28 n) (τ 29 n) (posA (τ 28) n) (lckA (τ 29) n) (H n) (M n) (H (n + 1)) (M (n + 1))) ∧ (∀ n, n < 8 → τ 29 n = 0 ∨ τ 29 n = 1) ∧ (∀ n, n < 8 → (τ 31 n, τ 32 n) = burst (f_L_at τ) n (τ 27 n + 8)) ∧ (∀ n, n < 8 → τ 33 n = if i_abs (τ 31 n) + i_abs (τ 32 n) < 4 * thr then 0 else 1) ∧ (∀ n, n < 8 → τ 34 n = colA (τ 33) (τ 34) n) ∧ (∀ n, n < 8 → τ 34 n = 0 ∨ τ 34 n = 1) ∧ (τ 30 4, τ 30 5) = loopF (pst (τ 33) (τ 32) thr) 7 (0, 0) ∧ τ 14 0 = thr ∧ 1 ≤ τ 0 10 ∧ PR τ
theorem LnS.pos {τ : Sg} {thr : Int32} (h : LnS τ thr) : ∀ n, n ≤ 8 → ∃ k, k ≤ 80 ∧ posA (τ 28) n = nI k := by
  obtain ⟨⟨H, M, -, -, hF⟩, -⟩ := h
  intro n
  induction n with
  | zero => intro _; exact ⟨32, by omega, rfl⟩
  | succ n ih =>
    intro hn
    obtain ⟨k, hk, e⟩ := ih (by omega)
    obtain ⟨f1, f2, -⟩ := hF n (by omega)
    show ∃ k, k ≤ 80 ∧ τ 28 n = nI k
    rw [f2]
    refine pos_in e hk ?_
    rcases f1 with ⟨i, hi, -, -, e2⟩ | ⟨-, e2⟩
    · exact .inr ⟨i, hi, e2⟩
    · exact .inl e2
/-- the start of a line -/
theorem LnS.start {τ : Sg} {thr : Int32} (h : LnS τ thr) {n : Nat} (hn : n < 8) : ∃ k, k ≤ 20 ∧ τ 27 n = nI k := by
  obtain ⟨k, hk, e⟩ := h.pos (n + 1) (by omega)
  obtain ⟨⟨H, M, -, -, hF⟩, -⟩ := h
  obtain ⟨f1, f2, f3, f4, f5, f6⟩ := hF n hn
  have e2 : nI k + 2 = nI (k + 2) := nI_add k 2
  have e' : τ 28 n = nI k := e
  rw [f6, e', e2, (floor_nI (show k + 2 ≤ 1000 by omega)).1]
  have d : (k + 2) / 4 ≤ 20 := by omega
  by_cases c : τ 29 n = 0
  · rw [if_pos c]
    rcases f1 with ⟨i, hi, -, -, e3⟩ | ⟨-, e3⟩
    · rw [e3, if_neg (nI_nm1 (by omega))]; exact ⟨i, hi, rfl⟩
    · rw [if_pos e3]; exact ⟨_, d, rfl⟩
  · rw [if_neg c]; exact ⟨_, d, rfl⟩
def LInv (τ : Sg) (thr : Int32) (H M : Nat → Int32) (j : Nat) (s : Int32 × Int32 × Int32 × Int32 × Int32 × Int32 × Int32 × Int32 × Int32 × Int32 × Int32) : Prop :=
  s.1 = posA (τ 28) j ∧ s.2.1 = H j ∧ s.2.2.1 = M j ∧ s.2.2.2.1 = lckA (τ 29) j ∧ (∃ G B, G ≤ j ∧ B ≤ j ∧ s.2.2.2.2.1 = nI G ∧ s.2.2.2.2.2.1 = nI B ∧ (0 < j → (τ 33 (j - 1) = 0 → G = 0 ∧ 1 ≤ B) ∧ (¬ τ 33 (j - 1) = 0 → B = 0 ∧ 1 ≤ G)) ∧ (j = 0 → G = 0 ∧ B = 0)) ∧ s.2.2.2.2.2.2.1 = posO (τ 34) j ∧ s.2.2.2.2.2.2.2.1 = loopF (b_X10_tally_29_10 τ) j 0 ∧ s.2.2.2.2.2.2.2.2.1 = loopF (b_X10_tally_34_10 τ) j 0 ∧ (s.2.2.2.2.2.2.2.2.2.1, s.2.2.2.2.2.2.2.2.2.2) = loopF (pst (τ 33) (τ 32) thr) (j - 1) (0, 0)
/-- the law's count of a pair -/
theorem pair_law {τ : Sg} {thr : Int32} {i : Nat} (hi : i + 1 < 8) (hd : ¬ τ 0 10 = 0) (hthr : τ 14 0 = thr) (hb : ∀ n, n < 8 → bd (τ 32 n) 4000) (a b : Int32) : ((if (nI (i + 1)) ≤ 0 then a else (if τ 33 (i + 1) = 0 then a else (if (f_X10_line τ ((nI (i + 1)) - 1) 5) = 1 then (let v43 : Int32 := f_X10_line τ ((nI (i + 1)) - 1) 4; let v44 : Int32 := (if 0 ≤ τ 32 (i + 1) then (if τ 32 (i + 1) ≤ 0 then 0 else (if 0 ≤ v43 then 0 else (if (f_L_size (τ 32 (i + 1))) < (f_X10_count τ 15) then 0 else (if (f_L_size v43) < (f_X10_count τ 15) then 0 else 1)))) else (if 0 < v43 then (if (f_L_size (τ 32 (i + 1))) < (f_X10_count τ 15) then 0 else (if (f_L_size v43) < (f_X10_count τ 15) then 0 else 1)) else (if τ 32 (i + 1) ≤ 0 then 0 else (if 0 ≤ v43 then 0 else (if (f_L_size (τ 32 (i + 1))) < (f_X10_count τ 15) then 0 else (if (f_L_size v43) < (f_X10_count τ 15) then 0 else 1)))))); let v46 : Int32 := (if v44 = 0 then 0 else 1); let v48 : Int32 := a + v46; v48) else a))),
    (if (nI (i + 1)) ≤ 0 then b else (if τ 33 (i + 1) = 0 then b else (if (f_X10_line τ ((nI (i + 1)) - 1) 5) = 1 then (let v43 : Int32 := f_X10_line τ ((nI (i + 1)) - 1) 4; let v44 : Int32 := (if 0 ≤ τ 32 (i + 1) then (if τ 32 (i + 1) ≤ 0 then 0 else (if 0 ≤ v43 then 0 else (if (f_L_size (τ 32 (i + 1))) < (f_X10_count τ 15) then 0 else (if (f_L_size v43) < (f_X10_count τ 15) then 0 else 1)))) else (if 0 < v43 then (if (f_L_size (τ 32 (i + 1))) < (f_X10_count τ 15) then 0 else (if (f_L_size v43) < (f_X10_count τ 15) then 0 else 1)) else (if τ 32 (i + 1) ≤ 0 then 0 else (if 0 ≤ v43 then 0 else (if (f_L_size (τ 32 (i + 1))) < (f_X10_count τ 15) then 0 else (if (f_L_size v43) < (f_X10_count τ 15) then 0 else 1)))))); let v49 : Int32 := (if v44 = 0 then 1 else 0); let v51 : Int32 := b + v49; v51) else b)))) = pst (τ 33) (τ 32) thr i (a, b) := by
  rw [if_neg (show ¬ nI (i + 1) ≤ 0 from nI_nle (by omega) (by omega)), if_neg (show ¬ nI (i + 1) ≤ 0 from nI_nle (by omega) (by omega)), nI_pred, ln_5 (by omega) hd, ln_4 (by omega) hd, cn_15, hthr, show f_L_size = i_abs from funext size_abs]
  dsimp only
  rw [opp_T (hb (i + 1) hi) (hb i (by omega)), Int32.mul_comm (τ 32 (i + 1)) (τ 32 i)]
  unfold pst
  dsimp only
  by_cases c2 : τ 33 (i + 1) = 0
  · rw [if_pos c2, if_pos c2, if_pos c2, ite_self]
  · rw [if_neg c2, if_neg c2, if_neg c2]
    by_cases c1 : τ 33 i = 0
    · rw [if_pos c1, if_pos c1, if_neg (show ¬ (0 : Int32) = 1 by decide), if_neg (show ¬ (0 : Int32) = 1 by decide)]
    · rw [if_neg c1, if_neg c1, if_pos rfl, if_pos rfl]
      by_cases c3 : 0 ≤ τ 32 i * τ 32 (i + 1)
      · rw [if_pos c3, if_pos c3, if_pos rfl, if_pos rfl, Int32.add_zero]
      · rw [if_neg c3, if_neg c3]
        by_cases c4 : i_abs (τ 32 i) < thr
        · rw [if_pos c4, if_pos c4, ite_self, if_pos rfl, if_pos rfl, Int32.add_zero]
        · rw [if_neg c4, if_neg c4]
          by_cases c5 : i_abs (τ 32 (i + 1)) < thr
          · rw [if_pos c5, if_pos c5, if_pos rfl, if_pos rfl, Int32.add_zero]
          · rw [if_neg c5, if_neg c5, if_neg (by decide), if_neg (by decide), Int32.add_zero]
