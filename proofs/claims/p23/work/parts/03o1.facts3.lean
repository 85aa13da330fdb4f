/-! facts -/
theorem sw_self (σ : Sg) (k i : Nat) (v : Int32) : sw σ k i v k i = v := by
  simp [sw, va_up, upd]
theorem at10_in {x y : Int32} (hx : vp_in x 8) (hy : vp_in y 10) (h : ¬ x = 0) : vp_in (10 * x + y - 10) 80 := by
  obtain ⟨j, hj, rfl⟩ := vp_in_of hx (by decide)
  obtain ⟨k, hk, rfl⟩ := vp_in_of hy (by decide)
  have h1 : ¬ j = 0 := fun q => h (by rw [q]; rfl)
  have e : (10 : Int32) * nI j + nI k - 10 = nI (10 * j + k - 10) := by
    show nI 10 * nI j + nI k - nI 10 = _
    rw [pk_mul, nI_add, pk_sub (by omega)]
  rw [e]
  exact vp_in_nI (by omega) (by decide)
theorem alone_ne {x w v : Int32} (e : (if w = 0 then 1 else (if x = 0 then 1 else 0)) = v) (h : v = 0) : ¬ x = 0 := by
  intro q
  subst h
  by_cases h1 : w = 0
  · rw [if_pos h1] at e; exact absurd e (by decide)
  · rw [if_neg h1, if_pos q] at e; exact absurd e (by decide)
