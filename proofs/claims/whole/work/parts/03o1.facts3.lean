/-! facts -/
theorem sw_self (σ : Sg) (k i : Nat) (v : Int32) : sw σ k i v k i = v := by
  simp [sw, va_up, upd]
theorem near_in {σ : Sg} {x y w : Int32} (h : ¬ f_X11_isNear σ x y w = 0) : vp_in y 8 := by
  by_cases h1 : f_X11_in y 0 7 = 0
  · exact absurd ((f_X11_isNear_eq σ x y w).trans (if_pos h1)) h
  · exact ii_in (m := 7) rfl h1
theorem way_ok {σ : Sg} {x y w : Int32} (hx : vp_in x 8) : wok x (f_X11_way σ x y w) := by
  have key : ∀ a b : Int32, (¬ a = 0 → vp_in (x - 1) 8) → (¬ b = 0 → vp_in (x + 1) 8) → wok x ((if a = 0 then 0 else 1) + (if b = 0 then 0 else 2)) := by
    intro a b ha hb
    by_cases h1 : a = 0
    · by_cases h2 : b = 0
      · rw [if_pos h1, if_pos h2]
        exact ⟨fun q => absurd q (by decide), fun q => absurd q (by decide), fun q => absurd (by decide) q⟩
      · rw [if_pos h1, if_neg h2]
        exact ⟨fun q => absurd q (by decide), fun _ => hb h2, fun _ _ q => absurd (by decide) q⟩
    · by_cases h2 : b = 0
      · rw [if_neg h1, if_pos h2]
        exact ⟨fun _ => ha h1, fun q => absurd q (by decide), fun _ q => absurd (by decide) q⟩
      · rw [if_neg h1, if_neg h2]
        exact ⟨fun q => absurd q (by decide), fun q => absurd q (by decide), fun _ _ _ => ⟨ha h1, hb h2⟩⟩
  have w0 : wok x 0 := ⟨fun q => absurd q (by decide), fun q => absurd q (by decide), fun q => absurd rfl q⟩
  have hL : ¬ (if x ≤ 0 then (0 : Int32) else 1) = 0 → vp_in (x - 1) 8 := fun q => m1_in3 (by decide) hx (fun z => q (if_pos z))
  have hR : ¬ (if 7 ≤ x then (0 : Int32) else 1) = 0 → vp_in (x + 1) 8 := fun q => p1_in2 hx (fun z => q (if_pos z))
  rw [f_X11_way_eq]
  by_cases h1 : w = 1
  · rw [if_pos h1]; exact w0
  · rw [if_neg h1]
    by_cases h2 : σ 62 (2 : Int32).toNatClampNeg = 0
    · rw [if_pos h2]; exact w0
    · rw [if_neg h2]
      by_cases h3 : σ 62 (2 : Int32).toNatClampNeg = 1
      · rw [if_pos h3]
        by_cases h4 : (if x ≤ 0 then (0 : Int32) else 1) = 0
        · show wok x (if (if x ≤ 0 then (0 : Int32) else 1) = 0 then 2 else 1)
          rw [if_pos h4]
          refine ⟨fun q => absurd q (by decide), fun _ => ?_, fun _ _ q => absurd rfl q⟩
          by_cases h5 : 7 ≤ x
          · by_cases h6 : x ≤ 0
            · rw [i32_le] at h5 h6
              have a : (7 : Int32).toInt = 7 := rfl
              have b : (0 : Int32).toInt = 0 := rfl
              omega
            · rw [if_neg h6] at h4
              exact absurd h4 (by decide)
          · exact p1_in2 hx h5
        · show wok x (if (if x ≤ 0 then (0 : Int32) else 1) = 0 then 2 else 1)
          rw [if_neg h4]
          exact ⟨fun _ => hL h4, fun q => absurd q (by decide), fun _ q => absurd rfl q⟩
      · rw [if_neg h3]
        refine key _ _ ?_ ?_
        · by_cases h4 : σ 62 (2 : Int32).toNatClampNeg = 3
          · rw [if_pos h4]; exact near_in
          · rw [if_neg h4]; exact hL
        · by_cases h4 : σ 62 (2 : Int32).toNatClampNeg = 3
          · rw [if_pos h4]; exact near_in
          · rw [if_neg h4]; exact hR
theorem comb_wok {σ σ1 s : Sg} {x y w : Int32} {i : Nat} (e : sw σ 77 i (f_X11_way σ x y w) = σ1) (hI : s 77 = σ1 77) (hx : vp_in x 8) : wok x (s 77 i) := by
  rw [hI, ← e, sw_self]
  exact way_ok hx
theorem at10_in {x y : Int32} (hx : vp_in x 8) (hy : vp_in y 10) (h : ¬ x = 0) : vp_in (10 * x + y - 10) 80 := by
  obtain ⟨j, hj, rfl⟩ := vp_in_of hx (by decide)
  obtain ⟨k, hk, rfl⟩ := vp_in_of hy (by decide)
  have h1 : ¬ j = 0 := fun q => h (by rw [q]; rfl)
  have e : (10 : Int32) * nI j + nI k - 10 = nI (10 * j + k - 10) := by
    show nI 10 * nI j + nI k - nI 10 = _
    rw [pk_mul, nI_add, pk_sub (by omega)]
  rw [e]
  exact vp_in_nI (by omega) (by decide)
theorem alone_ne {x w v : Int32} (e : (if w = 0 then 1 else (if x = 0 then 1 else 0)) = v) (h : v = 0) : ¬ x = 0 := by
  intro q
  subst h
  by_cases h1 : w = 0
  · rw [if_pos h1] at e; exact absurd e (by decide)
  · rw [if_neg h1, if_pos q] at e; exact absurd e (by decide)
