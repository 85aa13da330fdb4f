section
/-! decode: the lines' starts -/
def fB (p : Int32) (j5 : Nat) (s5 : Sg) : Sg := let σ6 : Sg := f_X4_steer s5 p; let σ7 : Sg := sw σ6 26 (nI j5).toNatClampNeg p; let σ8 : Sg := sw σ7 28 (nI j5).toNatClampNeg (σ7 25 4); let σ9 : Sg := sw σ8 29 (nI j5).toNatClampNeg (vp_nar .boolean (σ8 25 7)); let v10 : Int32 := (if (σ9 25 7) = 0 then (if p = (-1) then (f_J9_floorDiv_7cf53 ((σ9 25 4) + 2) 4) else p) else (f_J9_floorDiv_7cf53 ((σ9 25 4) + 2) 4)); let σ12 : Sg := sw σ9 27 (nI j5).toNatClampNeg v10; σ12
theorem fB_eq (p : Int32) (j5 : Nat) (s5 : Sg) : fB p j5 s5 = (let σ6 : Sg := f_X4_steer s5 p; let σ7 : Sg := sw σ6 26 (nI j5).toNatClampNeg p; let σ8 : Sg := sw σ7 28 (nI j5).toNatClampNeg (σ7 25 4); let σ9 : Sg := sw σ8 29 (nI j5).toNatClampNeg (vp_nar .boolean (σ8 25 7)); let v10 : Int32 := (if (σ9 25 7) = 0 then (if p = (-1) then (f_J9_floorDiv_7cf53 ((σ9 25 4) + 2) 4) else p) else (f_J9_floorDiv_7cf53 ((σ9 25 4) + 2) 4)); let σ12 : Sg := sw σ9 27 (nI j5).toNatClampNeg v10; σ12) := rfl
def fM (q : Int32) (j1 : Nat) (s1 : Int32 × Int32 × Int32 × Int32 × Int32 × Sg) : Int32 × Int32 × Int32 × Int32 × Int32 × Sg := let v2 : Int32 := (4 * q) - (s1.1); let v7 : Int32 := (if q < 0 then (let v3 : Int32 := (if q < 0 then (s1.1) else (if (s1.2.2.2.1) = 0 then (4 * q) else (s1.1))); v3) else (if (f_X11_in v2 (-12) 12) = 0 then (let v5 : Int32 := (if q < 0 then (s1.1) else (if (s1.2.2.2.1) = 0 then (4 * q) else (s1.1))); v5) else ((s1.1) + (v2 / 2)))); let v8 : Int32 := (if q < 0 then (let v3 : Int32 := (if q < 0 then (s1.1) else (if (s1.2.2.2.1) = 0 then (4 * q) else (s1.1))); 0) else (if (f_X11_in v2 (-12) 12) = 0 then (let v5 : Int32 := (if q < 0 then (s1.1) else (if (s1.2.2.2.1) = 0 then (4 * q) else (s1.1))); 0) else ((s1.2.1) + 1))); let v9 : Int32 := (if q < 0 then (let v3 : Int32 := (if q < 0 then (s1.1) else (if (s1.2.2.2.1) = 0 then (4 * q) else (s1.1))); (s1.2.2.1) + 1) else (if (f_X11_in v2 (-12) 12) = 0 then (let v5 : Int32 := (if q < 0 then (s1.1) else (if (s1.2.2.2.1) = 0 then (4 * q) else (s1.1))); (s1.2.2.1) + 1) else 0)); let v11 : Int32 := (if 2 ≤ v8 then 1 else (if (s1.2.2.2.1) = 0 then 0 else 1)); let v13 : Int32 := (if 4 ≤ v9 then 0 else (if v11 = 0 then 0 else 1)); let σ15 : Sg := sw (s1.2.2.2.2.2) 65 (nI j1).toNatClampNeg q; let v16 : Int32 := (if v13 = 0 then (if 0 ≤ q then q else (f_X11_quotient (v7 + 2) 4)) else (f_X11_quotient (v7 + 2) 4)); let σ18 : Sg := sw σ15 66 (nI j1).toNatClampNeg v16; let σ19 : Sg := sw σ18 67 (nI j1).toNatClampNeg (vp_nar .boolean v13); let σ20 : Sg := sw σ19 68 (nI j1).toNatClampNeg v7; let v21 : Int32 := (if v13 = 0 then 0 else 1); (v7, v8, v9, v13, (s1.2.2.2.2.1) + v21, σ20)
theorem fM_eq (q : Int32) (j1 : Nat) (s1 : Int32 × Int32 × Int32 × Int32 × Int32 × Sg) : fM q j1 s1 = (let v2 : Int32 := (4 * q) - (s1.1); let v7 : Int32 := (if q < 0 then (let v3 : Int32 := (if q < 0 then (s1.1) else (if (s1.2.2.2.1) = 0 then (4 * q) else (s1.1))); v3) else (if (f_X11_in v2 (-12) 12) = 0 then (let v5 : Int32 := (if q < 0 then (s1.1) else (if (s1.2.2.2.1) = 0 then (4 * q) else (s1.1))); v5) else ((s1.1) + (v2 / 2)))); let v8 : Int32 := (if q < 0 then (let v3 : Int32 := (if q < 0 then (s1.1) else (if (s1.2.2.2.1) = 0 then (4 * q) else (s1.1))); 0) else (if (f_X11_in v2 (-12) 12) = 0 then (let v5 : Int32 := (if q < 0 then (s1.1) else (if (s1.2.2.2.1) = 0 then (4 * q) else (s1.1))); 0) else ((s1.2.1) + 1))); let v9 : Int32 := (if q < 0 then (let v3 : Int32 := (if q < 0 then (s1.1) else (if (s1.2.2.2.1) = 0 then (4 * q) else (s1.1))); (s1.2.2.1) + 1) else (if (f_X11_in v2 (-12) 12) = 0 then (let v5 : Int32 := (if q < 0 then (s1.1) else (if (s1.2.2.2.1) = 0 then (4 * q) else (s1.1))); (s1.2.2.1) + 1) else 0)); let v11 : Int32 := (if 2 ≤ v8 then 1 else (if (s1.2.2.2.1) = 0 then 0 else 1)); let v13 : Int32 := (if 4 ≤ v9 then 0 else (if v11 = 0 then 0 else 1)); let σ15 : Sg := sw (s1.2.2.2.2.2) 65 (nI j1).toNatClampNeg q; let v16 : Int32 := (if v13 = 0 then (if 0 ≤ q then q else (f_X11_quotient (v7 + 2) 4)) else (f_X11_quotient (v7 + 2) 4)); let σ18 : Sg := sw σ15 66 (nI j1).toNatClampNeg v16; let σ19 : Sg := sw σ18 67 (nI j1).toNatClampNeg (vp_nar .boolean v13); let σ20 : Sg := sw σ19 68 (nI j1).toNatClampNeg v7; let v21 : Int32 := (if v13 = 0 then 0 else 1); (v7, v8, v9, v13, (s1.2.2.2.2.1) + v21, σ20)) := rfl
theorem fB_b (j : Nat) (s : Sg) : b_X4_find_23 j s = fB (f_X9_pulseOf s (nI j)) j s := rfl
theorem fM_b (j : Nat) (s : Int32 × Int32 × Int32 × Int32 × Int32 × Sg) : b_X11_findPulses_16 j s = fM (f_X11_findPulse s.2.2.2.2.2 (nI j)) j s := rfl
theorem lock_eq {M H lo : Int32} (h : lo = 0 ∨ lo = 1) : (if 4 ≤ M then (0 : Int32) else (if (if 2 ≤ H then (1 : Int32) else (if lo = 0 then 0 else 1)) = 0 then 0 else 1)) = (if M < 4 then (if H < 2 then lo else 1) else 0) := by
  by_cases c : 4 ≤ M
  · rw [if_pos c, if_neg (fun q => i32_nle.mpr q c)]
  · rw [if_neg c, if_pos (i32_nle.mp c)]
    by_cases c2 : 2 ≤ H
    · rw [if_pos c2, if_neg (fun q => i32_nle.mpr q c2), if_neg (by decide)]
    · rw [if_neg c2, if_pos (i32_nle.mp c2)]
      rcases h with rfl | rfl <;> rfl
/-- how many of the first n are set -/
def cntL (f : Nat → Int32) (n : Nat) : Int32 := loopF (fun j s => s + (if f (nI j).toNatClampNeg = 0 then 0 else 1)) n 0
theorem cntL_upd {f : Nat → Int32} {j : Nat} {v : Int32} (hj : j < 2 ^ 31) : cntL (upd f j v) (j + 1) = cntL f j + (if v = 0 then 0 else 1) := by
  have e : cntL (upd f j v) j = cntL f j := loop_eq _ (fun i s hi => by
    show s + (if upd f j v (nI i).toNatClampNeg = 0 then 0 else 1) = s + (if f (nI i).toNatClampNeg = 0 then 0 else 1)
    rw [nI_clamp (by omega), upd_at, if_neg (show ¬ i = j by omega)])
  show cntL (upd f j v) j + (if upd f j v (nI j).toNatClampNeg = 0 then 0 else 1) = _
  rw [e, nI_clamp hj, upd_self]
def RFi (σ t : Sg) (j : Nat) (s : Sg) (u : Int32 × Int32 × Int32 × Int32 × Int32 × Sg) : Prop := s 25 4 = u.1 ∧ s 25 5 = u.2.1 ∧ s 25 6 = u.2.2.1 ∧ s 25 7 = u.2.2.2.1 ∧ (u.2.2.2.1 = 0 ∨ u.2.2.2.1 = 1) ∧ (∀ i, prel (s 26 i) (u.2.2.2.2.2 65 i)) ∧ s 27 = u.2.2.2.2.2 66 ∧ s 28 = u.2.2.2.2.2 68 ∧ s 29 = u.2.2.2.2.2 67 ∧ u.2.2.2.2.1 = cntL (s 29) j ∧ Kp [25, 26, 27, 28, 29] σ s ∧ Kp [65, 66, 67, 68] t u.2.2.2.2.2
theorem find_step {σ t : Sg} (hA : AT (f_X11_signal t) σ) (j : Nat) (s : Sg) (u : Int32 × Int32 × Int32 × Int32 × Int32 × Sg) (hj : j < 8) (hR : RFi σ t j s u) : RFi σ t (j + 1) (b_X4_find_23 j s) (b_X11_findPulses_16 j u) := by
  obtain ⟨w, hi, mi, lo, mn, b⟩ := u
  obtain ⟨r1, r2, r3, r4, r5, r6, r7, r8, r9, r10, r11, r12⟩ := hR
  dsimp only at r1 r2 r3 r4 r5 r6 r7 r8 r9 r10 r11 r12
  subst r1 r2 r3 r4 r10
  rw [fB_b, fM_b]
  dsimp only
  have hp : prel (f_X9_pulseOf s (nI j)) (f_X11_findPulse b (nI j)) := pulse_rel (hA.k (fun k a c => r11 k (fun q => by
    simp only [List.mem_cons, List.mem_nil_iff, or_false] at q
    omega))) ((SK.rf t).k r12 (by decide)) (vp_in_nI hj (by decide))
  generalize f_X9_pulseOf s (nI j) = p at hp ⊢
  generalize f_X11_findPulse b (nI j) = q at hp ⊢
  obtain ⟨k0, k4, k5, k6, k7⟩ := steer_at s p
  have hz : (f_X4_steer s p) 25 7 = 0 ∨ (f_X4_steer s p) 25 7 = 1 := by
    rw [k7]
    exact zo_ite (zo_ite r5 (.inr rfl)) (.inl rfl)
  have EB : fB p j s = sw (sw (sw (sw (f_X4_steer s p) 26 j p) 28 j ((f_X4_steer s p) 25 4)) 29 j ((f_X4_steer s p) 25 7)) 27 j (if (f_X4_steer s p) 25 7 = 0 then (if p = -1 then f_J9_floorDiv_7cf53 ((f_X4_steer s p) 25 4 + 2) 4 else p) else f_J9_floorDiv_7cf53 ((f_X4_steer s p) 25 4 + 2) 4) := by
    rw [fB_eq]
    dsimp only
    simp only [sw_cell (show ¬ (25 : Nat) = 26 by decide), sw_cell (show ¬ (25 : Nat) = 28 by decide), sw_cell (show ¬ (25 : Nat) = 29 by decide), (lv_narrowZ hz).2.2]
    rw [nI_clamp (by omega)]
  have EM : fM q j (s 25 4, s 25 5, s 25 6, s 25 7, cntL (s 29) j, b) = ((f_X4_steer s p) 25 4, (f_X4_steer s p) 25 5, (f_X4_steer s p) 25 6, (f_X4_steer s p) 25 7, cntL (s 29) j + (if (f_X4_steer s p) 25 7 = 0 then 0 else 1), sw (sw (sw (sw b 65 j q) 66 j (if (f_X4_steer s p) 25 7 = 0 then (if p = -1 then f_J9_floorDiv_7cf53 ((f_X4_steer s p) 25 4 + 2) 4 else p) else f_J9_floorDiv_7cf53 ((f_X4_steer s p) 25 4 + 2) 4)) 67 j ((f_X4_steer s p) 25 7)) 68 j ((f_X4_steer s p) 25 4)) := by
    generalize f_X4_steer s p = a at *
    rw [fM_eq]
    dsimp only
    have hz' := (lv_narrowZ hz).2.2
    rw [k7] at hz'
    rcases hp with ⟨rfl, rfl⟩ | ⟨rfl, h0⟩
    · simp only [if_pos (show (-100004 : Int32) < 0 by decide), if_neg (show ¬ (0 : Int32) ≤ -100004 by decide), if_true] at k4 k5 k6 k7 hz' ⊢
      simp only [k4, k5, k6, k7, lock_eq r5, hz', fd_4]
      rw [nI_clamp (by omega)]
    · have n1 : ¬ p < 0 := fun q => i32_nle.mpr q h0
      have n2 : ¬ p = -1 := fun q => n1 (by rw [q]; decide)
      simp only [if_neg n1, if_neg n2, if_pos h0] at k4 k5 k6 k7 hz' ⊢
      by_cases c : f_X10_isWithin (4 * p - s 25 4) (-12) 12 = 0
      · have c' : f_X11_in (4 * p - s 25 4) (-12) 12 = 0 := c
        simp only [if_pos c, if_pos c'] at k4 k5 k6 k7 hz' ⊢
        simp only [k4, k5, k6, k7, lock_eq r5, hz', fd_4]
        rw [nI_clamp (by omega)]
      · have c' : ¬ f_X11_in (4 * p - s 25 4) (-12) 12 = 0 := c
        simp only [if_neg c, if_neg c'] at k4 k5 k6 k7 hz' ⊢
        simp only [k4, k5, k6, k7, lock_eq r5, hz', fd_4]
        rw [nI_clamp (by omega)]
  rw [EB, EM]
  generalize f_X4_steer s p = a at *
  have g : ∀ k, ¬ k = 25 → a k = s k := fun k hk => k0 k (by simpa using hk)
  refine ⟨?_, ?_, ?_, ?_, hz, ?_, ?_, ?_, ?_, ?_, ?_, ?_⟩
  · simp only [sw_cell (show ¬ (25 : Nat) = 26 by decide), sw_cell (show ¬ (25 : Nat) = 28 by decide), sw_cell (show ¬ (25 : Nat) = 29 by decide), sw_cell (show ¬ (25 : Nat) = 27 by decide)]
  · simp only [sw_cell (show ¬ (25 : Nat) = 26 by decide), sw_cell (show ¬ (25 : Nat) = 28 by decide), sw_cell (show ¬ (25 : Nat) = 29 by decide), sw_cell (show ¬ (25 : Nat) = 27 by decide)]
  · simp only [sw_cell (show ¬ (25 : Nat) = 26 by decide), sw_cell (show ¬ (25 : Nat) = 28 by decide), sw_cell (show ¬ (25 : Nat) = 29 by decide), sw_cell (show ¬ (25 : Nat) = 27 by decide)]
  · simp only [sw_cell (show ¬ (25 : Nat) = 26 by decide), sw_cell (show ¬ (25 : Nat) = 28 by decide), sw_cell (show ¬ (25 : Nat) = 29 by decide), sw_cell (show ¬ (25 : Nat) = 27 by decide)]
  · intro i
    dsimp only
    rw [sw_cell (show ¬ (26 : Nat) = 27 by decide), sw_cell (show ¬ (26 : Nat) = 29 by decide), sw_cell (show ¬ (26 : Nat) = 28 by decide), sw_cell (show ¬ (65 : Nat) = 68 by decide), sw_cell (show ¬ (65 : Nat) = 67 by decide), sw_cell (show ¬ (65 : Nat) = 66 by decide), sw_get, sw_get]
    by_cases ci : i = j
    · rw [if_pos ⟨rfl, ci⟩, if_pos ⟨rfl, ci⟩]; exact hp
    · rw [if_neg (fun z => ci z.2), if_neg (fun z => ci z.2), g 26 (by decide)]; exact r6 i
  · dsimp only
    rw [sw_at, if_pos rfl, sw_row (show ¬ (27 : Nat) = 29 by decide), sw_row (show ¬ (27 : Nat) = 28 by decide), sw_row (show ¬ (27 : Nat) = 26 by decide), g 27 (by decide), r7, sw_row (show ¬ (66 : Nat) = 68 by decide), sw_row (show ¬ (66 : Nat) = 67 by decide), sw_at, if_pos rfl, sw_row (show ¬ (66 : Nat) = 65 by decide)]
  · dsimp only
    rw [sw_row (show ¬ (28 : Nat) = 27 by decide), sw_row (show ¬ (28 : Nat) = 29 by decide), sw_at, if_pos rfl, sw_row (show ¬ (28 : Nat) = 26 by decide), g 28 (by decide), r8, sw_at, if_pos rfl, sw_row (show ¬ (68 : Nat) = 67 by decide), sw_row (show ¬ (68 : Nat) = 66 by decide), sw_row (show ¬ (68 : Nat) = 65 by decide)]
  · dsimp only
    rw [sw_row (show ¬ (29 : Nat) = 27 by decide), sw_at, if_pos rfl, sw_row (show ¬ (29 : Nat) = 28 by decide), sw_row (show ¬ (29 : Nat) = 26 by decide), g 29 (by decide), r9, sw_row (show ¬ (67 : Nat) = 68 by decide), sw_at, if_pos rfl, sw_row (show ¬ (67 : Nat) = 66 by decide), sw_row (show ¬ (67 : Nat) = 65 by decide)]
  · dsimp only
    rw [sw_row (show ¬ (29 : Nat) = 27 by decide), sw_at, if_pos rfl, sw_row (show ¬ (29 : Nat) = 28 by decide), sw_row (show ¬ (29 : Nat) = 26 by decide), g 29 (by decide), cntL_upd (by omega)]
  · exact r11.tr (((((k0.up (by decide)).tr (Kp.sw (by decide) _ _ _)).tr (Kp.sw (by decide) _ _ _)).tr (Kp.sw (by decide) _ _ _)).tr (Kp.sw (by decide) _ _ _))
  · exact r12.tr ((((Kp.sw (by decide) _ _ _).tr (Kp.sw (by decide) _ _ _)).tr (Kp.sw (by decide) _ _ _)).tr (Kp.sw (by decide) _ _ _))
theorem find_at {σ t : Sg} (hA : AT (f_X11_signal t) σ) (h26 : ∀ i, prel (σ 26 i) (t 65 i)) (h27 : σ 27 = t 66) (h28 : σ 28 = t 68) (h29 : σ 29 = t 67) : (∀ i, prel ((f_X4_find σ) 26 i) ((f_X11_findPulses t).2 65 i)) ∧ (f_X4_find σ) 27 = (f_X11_findPulses t).2 66 ∧ (f_X4_find σ) 28 = (f_X11_findPulses t).2 68 ∧ (f_X4_find σ) 29 = (f_X11_findPulses t).2 67 ∧ (f_X11_findPulses t).1 = cntL ((f_X4_find σ) 29) 8 ∧ Kp [25, 26, 27, 28, 29] σ (f_X4_find σ) ∧ Kp [65, 66, 67, 68] t (f_X11_findPulses t).2 := by
  rw [f_X4_find_eq, f_X11_findPulses_eq]
  dsimp only
  have k0 : Kp [25] σ (sw (sw (sw (sw σ 25 4 32) 25 5 0) 25 6 0) 25 7 0) := (((Kp.sw (by decide) _ _ _).tr (Kp.sw (by decide) _ _ _)).tr (Kp.sw (by decide) _ _ _)).tr (Kp.sw (by decide) _ _ _)
  have key := two (B := b_X4_find_23) (B' := b_X11_findPulses_16) (N := 8) (I := sw (sw (sw (sw σ 25 4 32) 25 5 0) 25 6 0) 25 7 0) (I' := (32, 0, 0, 0, 0, t)) (RFi (sw (sw (sw (sw σ 25 4 32) 25 5 0) 25 6 0) 25 7 0) t) ⟨by simp [sw_get], by simp [sw_get], by simp [sw_get], by simp [sw_get], .inl rfl, fun i => by rw [k0 26 (by decide)]; exact h26 i, by rw [k0 27 (by decide)]; exact h27, by rw [k0 28 (by decide)]; exact h28, by rw [k0 29 (by decide)]; exact h29, rfl, Kp.rf _, Kp.rf _⟩ (fun j s u hj hR => find_step (hA.k (fun k a c => k0 k (fun q => by
    simp only [List.mem_cons, List.mem_nil_iff, or_false] at q
    omega))) j s u hj hR)
  obtain ⟨r1, r2, r3, r4, r5, r6, r7, r8, r9, r10, r11, r12⟩ := key
  exact ⟨r6, r7, r8, r9, r10, (k0.up (by decide)).tr r11, r12⟩
end
