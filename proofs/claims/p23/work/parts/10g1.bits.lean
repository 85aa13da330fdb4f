/-! bits of two long numbers -/
theorem abs_neg (x : Int32) : i_abs (-x) = i_abs x := by
  have z : (0 : Int32).toInt = 0 := rfl
  have a1 := Int32.le_toInt x
  have a2 := Int32.toInt_lt x
  unfold i_abs
  by_cases hm : x.toInt = -2147483648
  · have e : -x = x := by
      apply Int32.toInt_inj.mp
      rw [Int32.toInt_neg, hm]
      decide
    rw [e]
  · have en : (-x).toInt = -x.toInt := by rw [Int32.toInt_neg, tq_bm (by omega) (by omega)]
    rcases Int.lt_trichotomy x.toInt 0 with h | h | h
    · rw [if_neg (show ¬ 0 ≤ x by rw [i32_le, z]; omega), if_pos (show 0 ≤ -x by rw [i32_le, z, en]; omega), Int32.zero_sub]
    · have e0 : x = 0 := Int32.toInt_inj.mp (h.trans z.symm)
      subst e0
      decide
    · rw [if_pos (show 0 ≤ x by rw [i32_le, z]; omega), if_neg (show ¬ 0 ≤ -x by rw [i32_le, z, en]; omega), Int32.zero_sub, Int32.neg_neg]
theorem abs_swap (a b : Int32) : i_abs (a - b) = i_abs (b - a) := by
  rw [← abs_neg (a - b), Int32.neg_sub]
def bt (a : Int64) (k : Nat) : Bool := a.toBitVec.getLsbD k
theorem bt_or (a b : Int64) (k : Nat) : bt (a ||| b) k = (bt a k || bt b k) := by
  unfold bt
  rw [Int64.toBitVec_or, BitVec.getLsbD_or]
theorem bt_0 (k : Nat) : bt 0 k = false := by
  unfold bt
  simp
theorem bt_one : ∀ j : Fin 40, ∀ k : Fin 40, bt ((1 : Int64) <<< ((nI j).toInt64 &&& 63)) k = decide (k = j) := by decide +kernel
theorem bt_1 {j k : Nat} (hj : j < 40) (hk : k < 40) : bt ((1 : Int64) <<< ((nI j).toInt64 &&& 63)) k = decide (k = j) := by
  have := bt_one ⟨j, hj⟩ ⟨k, hk⟩
  simpa using this
theorem sh_k : ∀ k : Fin 40, (((nI k).toInt64 &&& 63).toBitVec.smod 64).toNat = k := by decide +kernel
theorem shr_bit (a : Int64) {k : Nat} (hk : k < 40) : (a >>> ((nI k).toInt64 &&& 63)).toBitVec.getLsbD 0 = bt a k := by
  rw [Int64.toBitVec_shiftRight]
  have e := sh_k ⟨k, hk⟩
  show (a.toBitVec.sshiftRight' _).getLsbD 0 = _
  unfold BitVec.sshiftRight'
  rw [e, BitVec.getLsbD_sshiftRight]
  unfold bt
  simp
  omega
theorem and1 (v : Int64) : v &&& 1 = if v.toBitVec.getLsbD 0 then 1 else 0 := by
  apply Int64.toBitVec_inj.mp
  rw [Int64.toBitVec_and]
  show v.toBitVec &&& 1#64 = _
  rw [BitVec.and_one_eq_setWidth_ofBool_getLsbD]
  cases v.toBitVec.getLsbD 0 <;> rfl
theorem is_bit (v : Int64) : (if lg_cmp (v &&& 1) 1 = 0 then (1 : Int32) else 0) = if v.toBitVec.getLsbD 0 then 1 else 0 := by
  rw [and1]
  cases v.toBitVec.getLsbD 0
  · rw [if_neg (by decide), if_neg (by decide)]
  · rw [if_pos rfl, if_pos rfl]; decide
theorem is_lo (a b : Int64) {k : Nat} (hk : k < 40) : f_L_is a b (nI k) = if bt a k then 1 else 0 := by
  rw [f_L_is_eq]
  dsimp only
  rw [if_neg (nI_pos (by omega)), if_neg (show ¬ 80 ≤ nI k from nI_ge (b := 80) (by omega) (by decide)), if_neg (show ¬ 40 ≤ nI k from nI_ge (b := 40) hk (by decide)), is_bit, shr_bit a hk]
theorem is_hi (a b : Int64) {k : Nat} (hk : 40 ≤ k) (hk2 : k < 80) : f_L_is a b (nI k) = if bt b (k - 40) then 1 else 0 := by
  rw [f_L_is_eq]
  dsimp only
  rw [if_neg (nI_pos (by omega)), if_neg (show ¬ 80 ≤ nI k from nI_ge (b := 80) hk2 (by decide)), if_pos (show 40 ≤ nI k from nI_le (a := 40) hk (by omega)), show nI k - 40 = nI (k - 40) from pk_sub (a := k) (b := 40) hk, is_bit, shr_bit b (by omega)]
theorem is_neg (a b : Int64) {x : Int32} (h : x < 0) : f_L_is a b x = 0 := by
  rw [f_L_is_eq]
  exact if_pos h
theorem is_big (a b : Int64) {k : Nat} (h : 80 ≤ k) (hk : k < 2 ^ 31) : f_L_is a b (nI k) = 0 := by
  rw [f_L_is_eq]
  exact (if_neg (nI_pos hk)).trans (if_pos (show 80 ≤ nI k from nI_le (a := 80) h hk))
