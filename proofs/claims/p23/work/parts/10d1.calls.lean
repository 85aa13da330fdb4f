/-! what the calls answer behind a decoding -/
theorem ln_0 {τ : Sg} {n : Nat} (hn : n < 8) (hd : ¬ τ 0 10 = 0) : f_X10_line τ (nI n) 0 = (if τ 26 n = -1 then -100004 else τ 26 n) := by
  rw [f_X10_line_eq, if_neg (il_of (vp_in_nI hn (by decide))), if_neg (show ¬ f_X10_isWithin 0 0 7 = 0 by decide +kernel), if_neg hd, if_pos rfl, nI_clamp (by omega)]
theorem ln_1 {τ : Sg} {n : Nat} (hn : n < 8) (hd : ¬ τ 0 10 = 0) : f_X10_line τ (nI n) 1 = τ 27 n := by
  rw [f_X10_line_eq, if_neg (il_of (vp_in_nI hn (by decide))), if_neg (show ¬ f_X10_isWithin 1 0 7 = 0 by decide +kernel), if_neg hd, if_neg (by decide), if_pos rfl, nI_clamp (by omega)]
theorem ln_2 {τ : Sg} {n : Nat} (hn : n < 8) (hd : ¬ τ 0 10 = 0) : f_X10_line τ (nI n) 2 = (if τ 29 n = 0 then 0 else 1) := by
  rw [f_X10_line_eq, if_neg (il_of (vp_in_nI hn (by decide))), if_neg (show ¬ f_X10_isWithin 2 0 7 = 0 by decide +kernel), if_neg hd, if_neg (by decide), if_neg (by decide), if_pos rfl, nI_clamp (by omega)]
  rfl
theorem ln_3 {τ : Sg} {n : Nat} (hn : n < 8) (hd : ¬ τ 0 10 = 0) : f_X10_line τ (nI n) 3 = τ 31 n := by
  rw [f_X10_line_eq, if_neg (il_of (vp_in_nI hn (by decide))), if_neg (show ¬ f_X10_isWithin 3 0 7 = 0 by decide +kernel), if_neg hd, if_neg (by decide), if_neg (by decide), if_neg (by decide), if_pos rfl, nI_clamp (by omega)]
theorem ln_4 {τ : Sg} {n : Nat} (hn : n < 8) (hd : ¬ τ 0 10 = 0) : f_X10_line τ (nI n) 4 = τ 32 n := by
  rw [f_X10_line_eq, if_neg (il_of (vp_in_nI hn (by decide))), if_neg (show ¬ f_X10_isWithin 4 0 7 = 0 by decide +kernel), if_neg hd, if_neg (by decide), if_neg (by decide), if_neg (by decide), if_neg (by decide), if_pos rfl, nI_clamp (by omega)]
theorem ln_5 {τ : Sg} {n : Nat} (hn : n < 8) (hd : ¬ τ 0 10 = 0) : f_X10_line τ (nI n) 5 = (if τ 33 n = 0 then 0 else 1) := by
  rw [f_X10_line_eq, if_neg (il_of (vp_in_nI hn (by decide))), if_neg (show ¬ f_X10_isWithin 5 0 7 = 0 by decide +kernel), if_neg hd, if_neg (by decide), if_neg (by decide), if_neg (by decide), if_neg (by decide), if_neg (by decide), if_pos rfl, nI_clamp (by omega)]
  rfl
theorem ln_6 {τ : Sg} {n : Nat} (hn : n < 8) (hd : ¬ τ 0 10 = 0) : f_X10_line τ (nI n) 6 = (if τ 34 n = 0 then 0 else 1) := by
  rw [f_X10_line_eq, if_neg (il_of (vp_in_nI hn (by decide))), if_neg (show ¬ f_X10_isWithin 6 0 7 = 0 by decide +kernel), if_neg hd, if_neg (by decide), if_neg (by decide), if_neg (by decide), if_neg (by decide), if_neg (by decide), if_neg (by decide), if_pos rfl, nI_clamp (by omega)]
  rfl
theorem ln_7 {τ : Sg} {n : Nat} (hn : n < 8) (hd : ¬ τ 0 10 = 0) : f_X10_line τ (nI n) 7 = τ 28 n := by
  rw [f_X10_line_eq, if_neg (il_of (vp_in_nI hn (by decide))), if_neg (show ¬ f_X10_isWithin 7 0 7 = 0 by decide +kernel), if_neg hd, if_neg (by decide), if_neg (by decide), if_neg (by decide), if_neg (by decide), if_neg (by decide), if_neg (by decide), if_neg (by decide), nI_clamp (by omega)]
theorem ln_8 {τ : Sg} {n : Nat} (hn : n < 8) : f_X10_line τ (nI n) 8 = -100002 := by
  rw [f_X10_line_eq, if_neg (il_of (vp_in_nI hn (by decide))), if_pos (show f_X10_isWithin 8 0 7 = 0 by decide +kernel)]
theorem cn_now {σ : Sg} {x : Int32} (k : Nat) (h1 : ¬ f_X10_isWithin x 0 18 = 0) (h2 : ¬ x = 0) (h3 : ¬ x ≤ 12) (h4 : ¬ x = 13) (h5 : ¬ x = 14) (h6 : ¬ f_X10_isWithin (x - 15) 0 3 = 0) (h7 : (x - 15).toNatClampNeg = k) : f_X10_count σ x = σ 14 k := by
  rw [f_X10_count_eq, if_neg h1, if_neg h2, if_neg h3, f_X10_countOfNow_eq, if_neg h4, if_neg h5]
  refine (if_neg h6).trans ?_
  rw [h7]
theorem cn_15 (σ : Sg) : f_X10_count σ 15 = σ 14 0 := cn_now 0 (by decide +kernel) (by decide) (by decide) (by decide) (by decide) (by decide +kernel) (by decide +kernel)
theorem cn_16 (σ : Sg) : f_X10_count σ 16 = σ 14 1 := cn_now 1 (by decide +kernel) (by decide) (by decide) (by decide) (by decide) (by decide +kernel) (by decide +kernel)
theorem cn_17 (σ : Sg) : f_X10_count σ 17 = σ 14 2 := cn_now 2 (by decide +kernel) (by decide) (by decide) (by decide) (by decide) (by decide +kernel) (by decide +kernel)
theorem cn_18 (σ : Sg) : f_X10_count σ 18 = σ 14 3 := cn_now 3 (by decide +kernel) (by decide) (by decide) (by decide) (by decide) (by decide +kernel) (by decide +kernel)
theorem cn_13 (σ : Sg) : f_X10_count σ 13 = σ 1 8 := by
  rw [f_X10_count_eq, if_neg (show ¬ f_X10_isWithin 13 0 18 = 0 by decide +kernel), if_neg (by decide), if_neg (by decide), f_X10_countOfNow_eq, if_pos rfl]
theorem cn_14 (σ : Sg) : f_X10_count σ 14 = σ 10 1 := by
  rw [f_X10_count_eq, if_neg (show ¬ f_X10_isWithin 14 0 18 = 0 by decide +kernel), if_neg (by decide), if_neg (by decide), f_X10_countOfNow_eq, if_neg (by decide), if_pos rfl]
theorem cn_0 (σ : Sg) : f_X10_count σ 0 = σ 0 10 := by
  rw [f_X10_count_eq, if_neg (show ¬ f_X10_isWithin 0 0 18 = 0 by decide +kernel), if_pos rfl]
theorem cn_dec {σ : Sg} {x : Int32} (v : Int32) (hv : (if x = 7 then (2 : Int32) else (if x = 8 then 2 else 1)) = v) (h1 : ¬ f_X10_isWithin x 0 18 = 0) (h2 : ¬ x = 0) (h3 : x ≤ 12) (h4 : v ≤ σ 0 10) : f_X10_count σ x = f_X10_countOfDecoding σ x := by
  rw [f_X10_count_eq, if_neg h1, if_neg h2, if_pos h3]
  dsimp only
  rw [hv, if_pos h4]
theorem cn_1 {σ : Sg} (h : 1 ≤ σ 0 10) : f_X10_count σ 1 = (if σ 30 4 ≤ σ 30 5 then 0 else 1) := by
  rw [cn_dec 1 (by decide +kernel) (by decide +kernel) (by decide +kernel) (by decide +kernel) h, f_X10_countOfDecoding_eq, if_pos rfl, f_X1_guessedStandard_eq]
  exact oneIf_01 (zo_ite (.inl rfl) (.inr rfl))
theorem cn_2 {σ : Sg} (h : 1 ≤ σ 0 10) : f_X10_count σ 2 = σ 30 4 := by
  rw [cn_dec 1 (by decide +kernel) (by decide +kernel) (by decide +kernel) (by decide +kernel) h, f_X10_countOfDecoding_eq, if_neg (by decide +kernel), if_pos rfl]
theorem cn_3 {σ : Sg} (h : 1 ≤ σ 0 10) : f_X10_count σ 3 = σ 30 5 := by
  rw [cn_dec 1 (by decide +kernel) (by decide +kernel) (by decide +kernel) (by decide +kernel) h, f_X10_countOfDecoding_eq, if_neg (by decide +kernel), if_neg (by decide +kernel), if_pos rfl]
theorem cn_4 {σ : Sg} (h : 1 ≤ σ 0 10) : f_X10_count σ 4 = f_X10_tally_34 σ := by
  rw [cn_dec 1 (by decide +kernel) (by decide +kernel) (by decide +kernel) (by decide +kernel) h, f_X10_countOfDecoding_eq, if_neg (by decide +kernel), if_neg (by decide +kernel), if_neg (by decide +kernel), if_pos rfl]
theorem cn_7 {σ : Sg} (h : 2 ≤ σ 0 10) : f_X10_count σ 7 = f_X10_tally__52 σ 2 := by
  rw [cn_dec 2 (by decide +kernel) (by decide +kernel) (by decide +kernel) (by decide +kernel) h, f_X10_countOfDecoding_eq, if_neg (by decide +kernel), if_neg (by decide +kernel), if_neg (by decide +kernel), if_neg (by decide +kernel), if_neg (by decide +kernel), if_neg (by decide +kernel), if_pos rfl]
theorem cn_8 {σ : Sg} (h : 2 ≤ σ 0 10) : f_X10_count σ 8 = f_X10_tally__52 σ 1 := by
  rw [cn_dec 2 (by decide +kernel) (by decide +kernel) (by decide +kernel) (by decide +kernel) h, f_X10_countOfDecoding_eq, if_neg (by decide +kernel), if_neg (by decide +kernel), if_neg (by decide +kernel), if_neg (by decide +kernel), if_neg (by decide +kernel), if_neg (by decide +kernel), if_neg (by decide +kernel), if_pos rfl]
theorem cn_9 {σ : Sg} (h : 1 ≤ σ 0 10) {x : Int32} (k : Int32) (hx : (x = 9 ∧ k = 0) ∨ (x = 10 ∧ k = 1) ∨ (x = 11 ∧ k = 2) ∨ (x = 12 ∧ k = 3)) : f_X10_count σ x = f_X10_tally__41 σ k := by
  have e : x - 9 = k := by rcases hx with ⟨rfl, rfl⟩ | ⟨rfl, rfl⟩ | ⟨rfl, rfl⟩ | ⟨rfl, rfl⟩ <;> decide +kernel
  have n : ¬ x = 1 ∧ ¬ x = 2 ∧ ¬ x = 3 ∧ ¬ x = 4 ∧ ¬ x = 5 ∧ ¬ x = 6 ∧ ¬ x = 7 ∧ ¬ x = 8 ∧ ¬ x = 0 ∧ x ≤ 12 ∧ ¬ f_X10_isWithin x 0 18 = 0 := by rcases hx with ⟨rfl, rfl⟩ | ⟨rfl, rfl⟩ | ⟨rfl, rfl⟩ | ⟨rfl, rfl⟩ <;> decide +kernel
  obtain ⟨n1, n2, n3, n4, n5, n6, n7, n8, n0, n12, n18⟩ := n
  rw [cn_dec 1 (by rw [if_neg n7, if_neg n8]) n18 n0 n12 h, f_X10_countOfDecoding_eq, if_neg n1, if_neg n2, if_neg n3, if_neg n4, if_neg n5, if_neg n6, if_neg n7, if_neg n8, e]
theorem size_abs (x : Int32) : f_L_size x = i_abs x := by
  rw [f_L_size_eq]
  show (if 0 ≤ x then x else -x) = (if 0 ≤ x then x else 0 - x)
  rw [Int32.zero_sub]
/-! whole numbers divided, rounded down -/
theorem tm_em (x : Int) (n : Nat) : x.tmod n = if 0 ≤ x then x % n else -((-x) % n) := by
  by_cases h : 0 ≤ x
  · rw [if_pos h, Int.tmod_eq_emod_of_nonneg h]
  · rw [if_neg h]
    have := Int.neg_tmod x n
    rw [Int.tmod_eq_emod_of_nonneg (by omega)] at this
    omega
theorem td_ed (x : Int) (n : Nat) : x.tdiv n = if 0 ≤ x then x / n else -((-x) / n) := by
  by_cases h : 0 ≤ x
  · rw [if_pos h, Int.tdiv_eq_ediv_of_nonneg h]
  · rw [if_neg h]
    have := Int.neg_tdiv x n
    rw [Int.tdiv_eq_ediv_of_nonneg (by omega)] at this
    omega
theorem fl_4 {x : Int32} (h : bd x 1000000) : (f_L_floor x 4).toInt = x.toInt / 4 := by
  unfold bd at h
  have hN : (4 : Int32).toInt = ((4 : Nat) : Int) := rfl
  have a1 : (x - x / 4 * 4).toInt = x.toInt.tmod (4 : Nat) := tq_rem (n := 4) hN (by decide)
  have b1 := tm_em x.toInt 4
  have a2 : ((x - x / 4 * 4) + 4).toInt = x.toInt.tmod (4 : Nat) + 4 := by
    rw [Int32.toInt_add, a1, hN, tq_bm]
    · rfl
    · rw [b1]; split <;> omega
    · rw [b1]; split <;> omega
  have a3 := tq_rem (x := (x - x / 4 * 4) + 4) (d := 4) (n := 4) hN (by decide)
  have b3 := tm_em ((x - x / 4 * 4) + 4).toInt 4
  rw [a2] at a3 b3
  have b0 : 0 ≤ x.toInt.tmod (4 : Nat) + 4 := by rw [b1]; split <;> omega
  rw [if_pos b0] at b3
  have e3 : (((x - x / 4 * 4) + 4) - ((x - x / 4 * 4) + 4) / 4 * 4).toInt = x.toInt % 4 := by
    rw [a3, b3, b1]
    split <;> omega
  have a4 : (x - (((x - x / 4 * 4) + 4) - ((x - x / 4 * 4) + 4) / 4 * 4)).toInt = x.toInt - x.toInt % 4 := by
    rw [Int32.toInt_sub, e3, tq_bm (by omega) (by omega)]
  rw [f_L_floor_eq]
  rw [tq_div (n := 4) hN (by decide), a4, td_ed]
  split <;> omega
theorem fd_4 {x : Int32} (h : bd x 1000000) : (f_J9_floorDiv_7cf53 x 4).toInt = x.toInt / 4 := by
  unfold bd at h
  have hN : (4 : Int32).toInt = ((4 : Nat) : Int) := rfl
  have d1 : (x / 4).toInt = x.toInt.tdiv (4 : Nat) := tq_div (n := 4) hN (by decide)
  have b1 := td_ed x.toInt 4
  rw [b1] at d1
  have hz : (0 : Int32).toInt = 0 := rfl
  rw [f_J9_floorDiv_7cf53_eq]
  by_cases c : 0 ≤ x
  · rw [if_pos ((xor_sg x (by decide)).mpr c), d1]
    rw [i32_le, hz] at c
    rw [if_pos c]
    rfl
  · rw [if_neg (fun q => c ((xor_sg x (by decide)).mp q))]
    rw [i32_le, hz] at c
    rw [if_neg c] at d1
    have m1 : (x / 4 * 4).toInt = -((-x.toInt) / (4 : Nat)) * 4 := by
      rw [Int32.toInt_mul, d1, hN, tq_bm]
      · rfl
      · omega
      · omega
    by_cases c2 : x / 4 * 4 = x
    · rw [if_pos c2, d1]
      have := congrArg Int32.toInt c2
      rw [m1] at this
      omega
    · rw [if_neg c2]
      have n2 : ¬ -((-x.toInt) / (4 : Nat)) * 4 = x.toInt := fun q => c2 (Int32.toInt_inj.mp (m1.trans q))
      have : (x / 4 - 1).toInt = -((-x.toInt) / (4 : Nat)) - 1 := by
        rw [Int32.toInt_sub, d1, show (1 : Int32).toInt = 1 from rfl, tq_bm (by omega) (by omega)]
      rw [this]
      omega
theorem ff_4 {x : Int32} (h : bd x 1000000) : f_L_floor x 4 = f_J9_floorDiv_7cf53 x 4 := Int32.toInt_inj.mp ((fl_4 h).trans (fd_4 h).symm)
theorem fl_32 {x : Int32} (h : bd x 1000000) : (f_L_floor x 32).toInt = x.toInt / 32 := by
  unfold bd at h
  have hN : (32 : Int32).toInt = ((32 : Nat) : Int) := rfl
  have a1 : (x - x / 32 * 32).toInt = x.toInt.tmod (32 : Nat) := tq_rem (n := 32) hN (by decide)
  have b1 := tm_em x.toInt 32
  have a2 : ((x - x / 32 * 32) + 32).toInt = x.toInt.tmod (32 : Nat) + 32 := by
    rw [Int32.toInt_add, a1, hN, tq_bm]
    · rfl
    · rw [b1]; split <;> omega
    · rw [b1]; split <;> omega
  have a3 := tq_rem (x := (x - x / 32 * 32) + 32) (d := 32) (n := 32) hN (by decide)
  have b3 := tm_em ((x - x / 32 * 32) + 32).toInt 32
  rw [a2] at a3 b3
  have b0 : 0 ≤ x.toInt.tmod (32 : Nat) + 32 := by rw [b1]; split <;> omega
  rw [if_pos b0] at b3
  have e3 : (((x - x / 32 * 32) + 32) - ((x - x / 32 * 32) + 32) / 32 * 32).toInt = x.toInt % 32 := by
    rw [a3, b3, b1]
    split <;> omega
  have a4 : (x - (((x - x / 32 * 32) + 32) - ((x - x / 32 * 32) + 32) / 32 * 32)).toInt = x.toInt - x.toInt % 32 := by
    rw [Int32.toInt_sub, e3, tq_bm (by omega) (by omega)]
  rw [f_L_floor_eq]
  rw [tq_div (n := 32) hN (by decide), a4, td_ed]
  split <;> omega
theorem fd_32 {x : Int32} (h : bd x 1000000) : (f_J9_floorDiv_7cf53 x 32).toInt = x.toInt / 32 := by
  unfold bd at h
  have hN : (32 : Int32).toInt = ((32 : Nat) : Int) := rfl
  have d1 : (x / 32).toInt = x.toInt.tdiv (32 : Nat) := tq_div (n := 32) hN (by decide)
  have b1 := td_ed x.toInt 32
  rw [b1] at d1
  have hz : (0 : Int32).toInt = 0 := rfl
  rw [f_J9_floorDiv_7cf53_eq]
  by_cases c : 0 ≤ x
  · rw [if_pos ((xor_sg x (by decide)).mpr c), d1]
    rw [i32_le, hz] at c
    rw [if_pos c]
    rfl
  · rw [if_neg (fun q => c ((xor_sg x (by decide)).mp q))]
    rw [i32_le, hz] at c
    rw [if_neg c] at d1
    have m1 : (x / 32 * 32).toInt = -((-x.toInt) / (32 : Nat)) * 32 := by
      rw [Int32.toInt_mul, d1, hN, tq_bm]
      · rfl
      · omega
      · omega
    by_cases c2 : x / 32 * 32 = x
    · rw [if_pos c2, d1]
      have := congrArg Int32.toInt c2
      rw [m1] at this
      omega
    · rw [if_neg c2]
      have n2 : ¬ -((-x.toInt) / (32 : Nat)) * 32 = x.toInt := fun q => c2 (Int32.toInt_inj.mp (m1.trans q))
      have : (x / 32 - 1).toInt = -((-x.toInt) / (32 : Nat)) - 1 := by
        rw [Int32.toInt_sub, d1, show (1 : Int32).toInt = 1 from rfl, tq_bm (by omega) (by omega)]
      rw [this]
      omega
theorem ff_32 {x : Int32} (h : bd x 1000000) : f_L_floor x 32 = f_J9_floorDiv_7cf53 x 32 := Int32.toInt_inj.mp ((fl_32 h).trans (fd_32 h).symm)
