/-! indexes that stay in their rows -/
theorem sm_abs : Cond.static Lib.Math.abs.name ∈ lw_all := sm_J9_abs_0f7a4
theorem co_abs : Cond.code Lib.Math.abs.name Lib.Math.abs.code 1 (some .int) ∈ lw_all := co_J9_abs_0f7a4
theorem i32_le {x y : Int32} : x ≤ y ↔ x.toInt ≤ y.toInt := Int32.le_iff_toInt_le
theorem i32_lt {x y : Int32} : x < y ↔ x.toInt < y.toInt := Int32.lt_iff_toInt_lt
theorem i32_eq {x y : Int32} : x = y ↔ x.toInt = y.toInt := Int32.toInt_inj.symm
theorem rg_ge {x m : Int32} {n : Nat} (h1 : ¬ x < 0) (h2 : ¬ m ≤ x) (hm : m.toInt = n) : vp_in x n := by
  rw [i32_lt, show (0 : Int32).toInt = 0 from rfl] at h1
  rw [i32_le] at h2
  rw [vp_in_iff]
  omega
theorem rg_lt {x m : Int32} {n : Nat} (h1 : ¬ x < 0) (h2 : x < m) (hm : m.toInt = n) : vp_in x n := by
  rw [i32_lt, show (0 : Int32).toInt = 0 from rfl] at h1
  rw [i32_lt] at h2
  rw [vp_in_iff]
  omega
theorem iw_ne {x a b : Int32} : ¬ f_X10_isWithin x a b = 0 ↔ a ≤ x ∧ x ≤ b := by
  unfold f_X10_isWithin
  simp only [i32_le, i32_lt]
  by_cases h1 : x.toInt < a.toInt
  · rw [if_pos h1]; simp; omega
  · rw [if_neg h1]
    by_cases h2 : b.toInt < x.toInt
    · rw [if_pos h2]; simp; omega
    · rw [if_neg h2]; simp; omega
theorem iw_in {x m : Int32} {n : Nat} (hm : m.toInt + 1 = n) (h : ¬ f_X10_isWithin x 0 m = 0) : vp_in x n := by
  obtain ⟨h1, h2⟩ := iw_ne.mp h
  rw [i32_le, show (0 : Int32).toInt = 0 from rfl] at h1
  rw [i32_le] at h2
  rw [vp_in_iff]
  omega
theorem iw_of {x m : Int32} {n : Nat} (hm : m.toInt + 1 = n) (h : vp_in x n) : ¬ f_X10_isWithin x 0 m = 0 := by
  rw [vp_in_iff] at h
  refine iw_ne.mpr ⟨?_, ?_⟩
  · rw [i32_le, show (0 : Int32).toInt = 0 from rfl]; omega
  · rw [i32_le]; omega
theorem il_in {x : Int32} (h : ¬ f_X10_isLine x = 0) : vp_in x 8 := iw_in (m := 7) rfl h
theorem il_of {x : Int32} (h : vp_in x 8) : ¬ f_X10_isLine x = 0 := iw_of (m := 7) rfl h
theorem ip_in {x y : Int32} (h : ¬ f_X10_isPlace x y = 0) : vp_in x 8 ∧ vp_in y 10 := by
  unfold f_X10_isPlace at h
  by_cases h1 : f_X10_isLine x = 0
  · exact absurd (if_pos h1) h
  · by_cases h2 : f_X10_isWithin y 0 9 = 0
    · exact absurd ((if_neg h1).trans (if_pos h2)) h
    · exact ⟨il_in h1, iw_in (m := 9) rfl h2⟩
theorem ip_of {x y : Int32} (hx : vp_in x 8) (hy : vp_in y 10) : ¬ f_X10_isPlace x y = 0 := by
  have e : f_X10_isPlace x y = 1 := (if_neg (il_of hx)).trans (if_neg (iw_of (m := 9) rfl hy))
  rw [e]
  decide
theorem pl_nI (j k : Nat) : f_X10_placeOf (nI j) (nI k) = nI (j * 10 + k) := by
  show nI j * nI 10 + nI k = _
  rw [pk_mul, nI_add]
theorem pl_in {x y : Int32} (hx : vp_in x 8) (hy : vp_in y 10) : vp_in (f_X10_placeOf x y) 80 := by
  obtain ⟨j, hj, rfl⟩ := vp_in_of hx (by decide)
  obtain ⟨k, hk, rfl⟩ := vp_in_of hy (by decide)
  rw [pl_nI]
  exact vp_in_nI (by omega) (by decide)
theorem ip_pl {x y : Int32} (h : ¬ f_X10_isPlace x y = 0) : vp_in (f_X10_placeOf x y) 80 := pl_in (ip_in h).1 (ip_in h).2
theorem tn_in (x k : Int32) : vp_in (f_X10_turnAt x k) 4 := pk_andIn _ 2 (by decide) (by decide)
theorem seg_in {d : Int32} (h1 : 16 ≤ d) (h2 : (d - 16) / 8 < 10) : vp_in ((d - 16) / 8) 10 := by
  have h1' : (16 : Int) ≤ d.toInt := by rw [i32_le] at h1; exact h1
  obtain ⟨j, hj, rfl⟩ := nI_of (x := d) (by rw [i32_lt, show (0 : Int32).toInt = 0 from rfl]; omega)
  rw [nI_toInt hj] at h1'
  have e : (nI j - 16) / 8 = nI ((j - 16) / 8) := by
    show (nI j - nI 16) / nI 8 = _
    rw [pk_sub (by omega), pk_div (by omega) (by decide) (by decide)]
  rw [e] at h2 ⊢
  have h3 : (j - 16) / 8 < 10 := (nI_ltI (by omega) (by decide)).mp h2
  exact vp_in_nI h3 (by decide)
theorem m1_in {x : Int32} {n : Nat} (hn : n < 2 ^ 31) (hx : vp_in x n) (h : ¬ x < 1) : vp_in (x - 1) n := by
  obtain ⟨j, hj, rfl⟩ := vp_in_of hx hn
  have h1 : ¬ j < 1 := fun q => h ((nI_ltI (a := j) (b := 1) (by omega) (by decide)).mpr q)
  have e : nI j - 1 = nI (j - 1) := by
    show nI j - nI 1 = _
    rw [pk_sub (by omega)]
  rw [e]
  exact vp_in_nI (by omega) hn
theorem m1_in2 {x : Int32} {n : Nat} (hn : n < 2 ^ 31) (hx : vp_in x n) (h : 1 ≤ x) : vp_in (x - 1) n := m1_in hn hx (by
  rw [i32_le] at h
  rw [i32_lt]
  omega)
theorem m10_in {x : Int32} (hx : vp_in x 80) (h : ¬ x - 10 < 0) : vp_in (x - 10) 80 := by
  obtain ⟨j, hj, rfl⟩ := vp_in_of hx (by decide)
  have h1 : 10 ≤ j := by
    rcases Nat.lt_or_ge j 10 with q | q
    · exact absurd (pk_sneg (a := j) (b := 10) (by decide) q) h
    · exact q
  have e : nI j - 10 = nI (j - 10) := by
    show nI j - nI 10 = _
    rw [pk_sub h1]
  rw [e]
  exact vp_in_nI (by omega) (by decide)
theorem pm_in {x y : Int32} (hx : vp_in x 8) (hy : vp_in y 10) : vp_in (10 * x + y) 80 := by
  have h := pl_in hx hy
  unfold f_X10_placeOf at h
  rw [Int32.mul_comm]
  exact h
theorem ty_in {x : Int32} (h : vp_in x 61) (h2 : ¬ x = 60) : vp_in x 60 := by
  rw [vp_in_iff] at h ⊢
  have := i32_ne (n := 60) rfl h2
  omega
theorem m1_in3 {x : Int32} {n : Nat} (hn : n < 2 ^ 31) (hx : vp_in x n) (h : ¬ x ≤ 0) : vp_in (x - 1) n := m1_in hn hx (by
  rw [i32_le, show (0 : Int32).toInt = 0 from rfl] at h
  rw [i32_lt, show (1 : Int32).toInt = 1 from rfl]
  omega)
theorem nI_mod {j d : Nat} (hj : j < 2 ^ 31) (h0 : 0 < d) (hd : d < 2 ^ 31) : nI j - nI j / nI d * nI d = nI (j % d) := pk_rem hj h0 hd
theorem mo_1 {x : Int32} (hx : vp_in x 80) (h : ¬ x - x / 10 * 10 ≤ 0) : vp_in (x - 1) 80 := by
  obtain ⟨j, hj, rfl⟩ := vp_in_of hx (by decide)
  have e : nI j - nI j / 10 * 10 = nI (j % 10) := nI_mod (by omega) (by decide) (by decide)
  rw [e] at h
  have h1 : ¬ j % 10 ≤ 0 := fun q => h (nI_le (b := 0) q (by decide))
  exact m1_in (by decide) hx (fun q => by
    have := (nI_ltI (a := j) (b := 1) (by omega) (by decide)).mp q
    omega)
theorem p1_in {j n : Nat} (hj : j + 1 < n) (hn : n < 2 ^ 31) : vp_in (nI j + 1) n := by
  rw [nI_1]
  exact vp_in_nI hj hn
theorem mo_2 {x : Int32} (hx : vp_in x 80) (h : ¬ 9 ≤ x - x / 10 * 10) : vp_in (x + 1) 80 := by
  obtain ⟨j, hj, rfl⟩ := vp_in_of hx (by decide)
  have e : nI j - nI j / 10 * 10 = nI (j % 10) := nI_mod (by omega) (by decide) (by decide)
  rw [e] at h
  have h1 : ¬ 9 ≤ j % 10 := fun q => h (nI_le (a := 9) q (by omega))
  exact p1_in (by omega) (by decide)
theorem mo_3 {x : Int32} (hx : vp_in x 80) (h : ¬ x ≤ 9) : vp_in (x - 10) 80 := by
  obtain ⟨j, hj, rfl⟩ := vp_in_of hx (by decide)
  have h1 : ¬ j ≤ 9 := fun q => h (nI_le (b := 9) q (by decide))
  have e : nI j - 10 = nI (j - 10) := by
    show nI j - nI 10 = _
    rw [pk_sub (by omega)]
  rw [e]
  exact vp_in_nI (by omega) (by decide)
theorem mo_4 {x : Int32} (hx : vp_in x 80) (h : ¬ 70 ≤ x) : vp_in (x + 10) 80 := by
  obtain ⟨j, hj, rfl⟩ := vp_in_of hx (by decide)
  have h1 : ¬ 70 ≤ j := fun q => h (nI_le (a := 70) q (by omega))
  have e : nI j + 10 = nI (j + 10) := nI_add j 10
  rw [e]
  exact vp_in_nI (by omega) (by decide)
theorem i32_eqn {x c : Int32} {n : Int} (hc : c.toInt = n) (h : x = c) : x.toInt = n := by rw [h]; exact hc