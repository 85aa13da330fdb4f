/-! the lines: what the law tells is what the class told -/
theorem low4 (a b c d : Int32) : ((if (-20) < a then (0 : Int32) else (if (-20) < b then 0 else (if (-20) < c then 0 else (if (-20) < d then 0 else 1)))) = 1 ∧ a ≤ -20 ∧ b ≤ -20 ∧ c ≤ -20 ∧ d ≤ -20) ∨ ((if (-20) < a then (0 : Int32) else (if (-20) < b then 0 else (if (-20) < c then 0 else (if (-20) < d then 0 else 1)))) = 0 ∧ (¬ a ≤ -20 ∨ ¬ b ≤ -20 ∨ ¬ c ≤ -20 ∨ ¬ d ≤ -20)) := by
  by_cases ha : (-20) < a
  · rw [if_pos ha]; exact .inr ⟨rfl, .inl (i32_nle.mpr ha)⟩
  · rw [if_neg ha]
    by_cases hb : (-20) < b
    · rw [if_pos hb]; exact .inr ⟨rfl, .inr (.inl (i32_nle.mpr hb))⟩
    · rw [if_neg hb]
      by_cases hc : (-20) < c
      · rw [if_pos hc]; exact .inr ⟨rfl, .inr (.inr (.inl (i32_nle.mpr hc)))⟩
      · rw [if_neg hc]
        by_cases hd : (-20) < d
        · rw [if_pos hd]; exact .inr ⟨rfl, .inr (.inr (.inr (i32_nle.mpr hd)))⟩
        · rw [if_neg hd]
          have n : ∀ z : Int32, ¬ (-20) < z → z ≤ -20 := fun z hz => by
            rw [i32_lt] at hz; rw [i32_le]; omega
          exact .inl ⟨rfl, n a ha, n b hb, n c hc, n d hd⟩
theorem found_law (τ : Sg) (j : Nat) : FPl (fun k => f_L_at τ (nI j) (nI k) ≤ -20) (loopF (b_L_lines_50 τ j) 21 (-100004)) (-100004) := by
  have key := loopF_inv (B := b_L_lines_50 τ j) (N := 21) (I := -100004) (fun m v => (∃ k, 21 ≤ k + m ∧ k ≤ 20 ∧ (∀ i, i < 4 → f_L_at τ (nI j) (nI (k + i)) ≤ -20) ∧ (∀ k', 21 ≤ k' + m → k' < k → ∃ i, i < 4 ∧ ¬ f_L_at τ (nI j) (nI (k' + i)) ≤ -20) ∧ v = nI k) ∨ ((∀ k, 21 ≤ k + m → k ≤ 20 → ∃ i, i < 4 ∧ ¬ f_L_at τ (nI j) (nI (k + i)) ≤ -20) ∧ v = -100004)) (.inr ⟨fun k h1 h2 => absurd h1 (by omega), rfl⟩) (fun m v hm hI => by
    have ek : (20 : Int32) - nI m = nI (20 - m) := pk_sub (a := 20) (b := m) (by omega)
    have e1 : nI (20 - m) + 1 = nI (20 - m + 1) := nI_add _ 1
    have e2 : nI (20 - m) + 2 = nI (20 - m + 2) := nI_add _ 2
    have e3 : nI (20 - m) + 3 = nI (20 - m + 3) := nI_add _ 3
    rw [b_L_lines_50_eq]
    dsimp only
    rw [ek, e1, e2, e3]
    rcases low4 (f_L_at τ (nI j) (nI (20 - m))) (f_L_at τ (nI j) (nI (20 - m + 1))) (f_L_at τ (nI j) (nI (20 - m + 2))) (f_L_at τ (nI j) (nI (20 - m + 3))) with ⟨e, h0, h1, h2, h3⟩ | ⟨e, h⟩
    · rw [e, if_neg (show ¬ (1 : Int32) = 0 by decide)]
      refine .inl ⟨20 - m, by omega, by omega, fun i hi => ?_, fun k' a b => absurd b (by omega), rfl⟩
      have : i = 0 ∨ i = 1 ∨ i = 2 ∨ i = 3 := by omega
      rcases this with rfl | rfl | rfl | rfl
      · exact h0
      · exact h1
      · exact h2
      · exact h3
    · rw [e, if_pos rfl]
      have none : ∃ i, i < 4 ∧ ¬ f_L_at τ (nI j) (nI (20 - m + i)) ≤ -20 := by
        rcases h with h | h | h | h
        · exact ⟨0, by omega, h⟩
        · exact ⟨1, by omega, h⟩
        · exact ⟨2, by omega, h⟩
        · exact ⟨3, by omega, h⟩
      rcases hI with ⟨k, k1, k2, k3, k4, k5⟩ | ⟨k1, k2⟩
      · refine .inl ⟨k, by omega, k2, k3, fun k' a b => ?_, k5⟩
        by_cases q : k' = 20 - m
        · rw [q]; exact none
        · exact k4 k' (by omega) b
      · refine .inr ⟨fun k a b => ?_, k2⟩
        by_cases q : k = 20 - m
        · rw [q]; exact none
        · exact k1 k (by omega) b)
  rcases key with ⟨k, k1, k2, k3, k4, k5⟩ | ⟨k1, k2⟩
  · exact .inl ⟨k, k2, k3, fun k' h => k4 k' (by omega) h, k5⟩
  · exact .inr ⟨fun k h => k1 k (by omega) h, k2⟩
/-- both found the same pulse -/
theorem found_both {P : Nat → Prop} {v w : Int32} (h : FPl P v (-1)) (h2 : FPl P w (-100004)) : (v = -1 ∧ w = -100004) ∨ ∃ k, k ≤ 20 ∧ v = nI k ∧ w = nI k := by
  rcases h with ⟨k, k1, k2, k3, rfl⟩ | ⟨k1, rfl⟩
  · rcases h2 with ⟨j, j1, j2, j3, rfl⟩ | ⟨j1, rfl⟩
    · have e : k = j := by
        rcases Nat.lt_trichotomy k j with q | q | q
        · obtain ⟨i, a, b⟩ := j3 k q; exact absurd (k2 i a) b
        · exact q
        · obtain ⟨i, a, b⟩ := k3 j q; exact absurd (j2 i a) b
      exact .inr ⟨k, k1, rfl, by rw [e]⟩
    · obtain ⟨i, a, b⟩ := j1 k k1; exact absurd (k2 i a) b
  · rcases h2 with ⟨j, j1, j2, j3, rfl⟩ | ⟨j1, rfl⟩
    · obtain ⟨i, a, b⟩ := k1 j j1; exact absurd (j2 i a) b
    · exact .inl ⟨rfl, rfl⟩
/-- whether the pulse is near -/
def nearP (p pos : Int32) : Int32 := if p = -1 then 0 else f_X10_isWithin (4 * p - pos) (-12) 12
theorem near_v7 {p q pos : Int32} (h : (p = -1 ∧ q = -100004) ∨ ∃ k, k ≤ 20 ∧ p = nI k ∧ q = nI k) : (if q < 0 then (0 : Int32) else (if (4 * q - pos) < (-12) then 0 else (if 12 < (4 * q - pos) then 0 else 1))) = nearP p pos := by
  unfold nearP
  rcases h with ⟨rfl, rfl⟩ | ⟨k, hk, rfl, rfl⟩
  · rw [if_pos (by decide), if_pos rfl]
  · rw [if_neg (nI_pos (by omega)), if_neg (nI_nm1 (by omega))]
    rfl
theorem near_v10 {p q pos lck : Int32} (h : (p = -1 ∧ q = -100004) ∨ ∃ k, k ≤ 20 ∧ p = nI k ∧ q = nI k) : (if nearP p pos = 0 then (if q < 0 then pos else (if lck = 0 then 4 * q else pos)) else pos + (4 * q - pos) / 2) = (if p = -1 then pos else if f_X10_isWithin (4 * p - pos) (-12) 12 = 0 then (if lck = 0 then 4 * p else pos) else pos + (4 * p - pos) / 2) := by
  unfold nearP
  rcases h with ⟨rfl, rfl⟩ | ⟨k, hk, rfl, rfl⟩
  · rw [if_pos (show (-1 : Int32) = -1 from rfl), if_pos rfl, if_pos (by decide), if_pos (show (-1 : Int32) = -1 from rfl)]
  · rw [if_neg (nI_nm1 (by omega)), if_neg (nI_pos (by omega)), if_neg (nI_nm1 (by omega))]
theorem near_v12 (p pos h : Int32) : (if nearP p pos = 0 then (0 : Int32) else h + 1) = (if p = -1 then 0 else if f_X10_isWithin (4 * p - pos) (-12) 12 = 0 then 0 else h + 1) := by
  unfold nearP
  by_cases c : p = -1
  · rw [if_pos c, if_pos c, if_pos rfl]
  · rw [if_neg c, if_neg c]
theorem near_v14 (p pos m : Int32) : (if nearP p pos = 0 then m + 1 else (0 : Int32)) = (if p = -1 then m + 1 else if f_X10_isWithin (4 * p - pos) (-12) 12 = 0 then m + 1 else 0) := by
  unfold nearP
  by_cases c : p = -1
  · rw [if_pos c, if_pos c, if_pos rfl]
  · rw [if_neg c, if_neg c]
theorem lock_v16 {lck h m : Int32} (hl : lck = 0 ∨ lck = 1) : (if lck = 0 then (if h < 2 then (0 : Int32) else (if 4 ≤ m then 0 else 1)) else (if 4 ≤ m then 0 else 1)) = (if m < 4 then (if h < 2 then lck else 1) else 0) := by
  by_cases c : 4 ≤ m
  · rw [if_pos c, if_neg (fun q => i32_nle.mpr q c), ite_self, ite_self]
  · rw [if_neg c, if_pos (i32_nle.mp c)]
    rcases hl with rfl | rfl
    · rw [if_pos rfl]
    · rw [if_neg (show ¬ (1 : Int32) = 0 by decide), ite_self]
theorem floor_nI {m : Nat} (h : m ≤ 1000) : f_J9_floorDiv_7cf53 (nI m) 4 = nI (m / 4) ∧ f_L_floor (nI m) 4 = nI (m / 4) := by
  have hb : bd (nI m) 1000000 := by
    unfold bd
    rw [nI_toInt (by omega)]
    omega
  have e : f_J9_floorDiv_7cf53 (nI m) 4 = nI (m / 4) := by
    apply Int32.toInt_inj.mp
    rw [fd_4 hb, nI_toInt (by omega), nI_toInt (by omega)]
    omega
  exact ⟨e, (ff_4 hb).trans e⟩
theorem start_v21 {p q w lck : Int32} {k : Nat} (hw : w = nI k) (hk : k ≤ 80) (h : (p = -1 ∧ q = -100004) ∨ ∃ k, k ≤ 20 ∧ p = nI k ∧ q = nI k) : (if lck = 0 then (if 0 ≤ q then q else f_L_floor (w + 2) 4) else f_L_floor (w + 2) 4) = (if lck = 0 then (if p = -1 then f_J9_floorDiv_7cf53 (w + 2) 4 else p) else f_J9_floorDiv_7cf53 (w + 2) 4) := by
  subst hw
  have e : nI k + 2 = nI (k + 2) := nI_add k 2
  rw [e, (floor_nI (show k + 2 ≤ 1000 by omega)).1, (floor_nI (show k + 2 ≤ 1000 by omega)).2]
  rcases h with ⟨rfl, rfl⟩ | ⟨i, hi, rfl, rfl⟩
  · rw [if_neg (show ¬ (0 : Int32) ≤ -100004 by decide), if_pos (show (-1 : Int32) = -1 from rfl)]
  · rw [if_pos (nI_pos' (by omega)), if_neg (nI_nm1 (by omega))]
/-- the flywheel stays within its room -/
theorem pos_in {p w lck : Int32} {k : Nat} (hw : w = nI k) (hk : k ≤ 80) (h : p = -1 ∨ ∃ i, i ≤ 20 ∧ p = nI i) : ∃ k', k' ≤ 80 ∧ (if p = -1 then w else if f_X10_isWithin (4 * p - w) (-12) 12 = 0 then (if lck = 0 then 4 * p else w) else w + (4 * p - w) / 2) = nI k' := by
  subst hw
  rcases h with rfl | ⟨i, hi, rfl⟩
  · exact ⟨k, hk, if_pos rfl⟩
  · rw [if_neg (nI_nm1 (by omega))]
    have e4 : (4 : Int32) * nI i = nI (4 * i) := pk_mul 4 i
    rw [e4]
    by_cases c : f_X10_isWithin (nI (4 * i) - nI k) (-12) 12 = 0
    · rw [if_pos c]
      by_cases c2 : lck = 0
      · rw [if_pos c2]; exact ⟨4 * i, by omega, rfl⟩
      · rw [if_neg c2]; exact ⟨k, hk, rfl⟩
    · rw [if_neg c]
      have h1 : (nI (4 * i) - nI k).toInt = (4 * i : Nat) - (k : Int) := pk_sub_toInt (by omega) (by omega)
      have h2 : ((nI (4 * i) - nI k) / 2).toInt = ((4 * i : Nat) - (k : Int)).tdiv 2 := by
        rw [tq_div (n := 2) rfl (by decide), h1]
        rfl
      have h3 := td_ed ((4 * i : Nat) - (k : Int)) 2
      have h4 : (nI k + (nI (4 * i) - nI k) / 2).toInt = (k : Int) + ((4 * i : Nat) - (k : Int)).tdiv 2 := by
        rw [Int32.toInt_add, nI_toInt (by omega), h2, tq_bm]
        · rw [show ((2 : Nat) : Int) = 2 from rfl] at h3; rw [h3]; split <;> omega
        · rw [show ((2 : Nat) : Int) = 2 from rfl] at h3; rw [h3]; split <;> omega
      refine ⟨(nI k + (nI (4 * i) - nI k) / 2).toInt.toNat, ?_, ?_⟩
      · rw [h4]
        rw [show ((2 : Nat) : Int) = 2 from rfl] at h3
        rw [h3]
        split <;> omega
      · apply Int32.toInt_inj.mp
        rw [nI_toInt]
        · rw [h4]
          rw [show ((2 : Nat) : Int) = 2 from rfl] at h3
          rw [h3]
          split <;> omega
        · rw [h4]
          rw [show ((2 : Nat) : Int) = 2 from rfl] at h3
          rw [h3]
          split <;> omega
