/-! setStandard, the text, the settings -/
theorem sw83 (t : Sg) (c i : Nat) (v : Int32) (h : ¬ 83 = c) (x : Int32) : f_X11_motionAt (sw t c i v) x = f_X11_motionAt t x := motionAt_congr (sw_row h) x
theorem ka_setStandard (σ : Sg) (x : Int32) : KA σ (f_X10_setStandard σ x).2 := by
  rw [f_X10_setStandard_eq]
  by_cases c1 : f_X10_isWithin x 0 1 = 0
  · rw [if_pos c1]; exact KA.rf _
  · rw [if_neg c1]; exact (Kp.sw (L := [1]) (by decide) _ _ _).A (by decide)
theorem kb_setStandard (σ : Sg) (x : Int32) : KB σ (f_X11_setStandard σ x).2 := by
  rw [f_X11_setStandard_eq]
  by_cases c1 : f_X11_in x 0 1 = 0
  · rw [if_pos c1]; exact KB.rf _
  · rw [if_neg c1]; exact (Kp.sw (L := [53]) (by decide) _ _ _).B (by decide)
theorem q_setStandard {m : Nat} {σ t : Sg} {φ ψ : Fl} (h : Rel m σ φ t ψ) (x : Int32) : (f_X10_setStandard σ x).1 = (f_X11_setStandard t x).1 ∧ Rel m (f_X10_setStandard σ x).2 φ (f_X11_setStandard t x).2 ψ := by
  rw [f_X10_setStandard_eq, f_X11_setStandard_eq, e_in]
  by_cases c1 : f_X11_in x 0 1 = 0
  · rw [if_pos c1, if_pos c1]; exact ⟨rfl, h⟩
  · rw [if_neg c1, if_neg c1]
    dsimp only
    obtain ⟨h1, h2, h3, h4, hD, hI, hF⟩ := h
    refine ⟨h1.2.2.2.2.2.2.2.2, ?_, ?_, ?_, ?_, ?_, ?_, hF⟩
    · obtain ⟨a1, a2, a3, a4, a5, a6, a7, a8, a9⟩ := h1
      simp [RP, sw_at, upd_at, *]
    · simpa [bndP, sw_at, upd_at] using h2
    · simpa [RS, sw_at, upd_at] using h3
    · simpa [RT, sw_at, upd_at] using h4
    · simpa [RD, sw_at, upd_at] using hD
    · simpa [RI, sw_at, upd_at, sw83] using hI
theorem Rel_T {m : Nat} {σ t σ' t' : Sg} {φ ψ : Fl} (h : Rel m σ φ t ψ) (hk : ∀ k, ¬ k = 10 → ¬ k = 11 → σ' k = σ k) (ht : ∀ k, ¬ k = 53 → ¬ k = 63 → t' k = t k) (ht2 : ∀ i, ¬ i = 10 → t' 53 i = t 53 i) (hT : RT σ' t') : Rel m σ' φ t' ψ := by
  have e := hk
  have f := ht
  obtain ⟨h1, h2, h3, h4, hD, hI, hF⟩ := h
  refine ⟨?_, ?_, ?_, hT, ?_, ?_, hF⟩
  · unfold RP at *
    simpa only [e 1 (by decide) (by decide), e 2 (by decide) (by decide), e 3 (by decide) (by decide), e 4 (by decide) (by decide), e 5 (by decide) (by decide), e 6 (by decide) (by decide), e 7 (by decide) (by decide), e 8 (by decide) (by decide), e 9 (by decide) (by decide), ht2 8 (by decide), f 54 (by decide) (by decide), f 55 (by decide) (by decide), f 56 (by decide) (by decide), f 57 (by decide) (by decide), f 58 (by decide) (by decide), f 59 (by decide) (by decide), f 60 (by decide) (by decide), f 61 (by decide) (by decide)] using h1
  · unfold bndP at *
    simpa only [f 54 (by decide) (by decide), f 55 (by decide) (by decide), f 56 (by decide) (by decide), f 58 (by decide) (by decide), f 60 (by decide) (by decide)] using h2
  · unfold RS at *
    simpa only [e 14 (by decide) (by decide), f 62 (by decide) (by decide)] using h3
  · unfold RD at *
    simpa only [e 0 (by decide) (by decide), ht2 13 (by decide)] using hD
  · unfold RI at *
    have q : ∀ x, f_X11_motionAt t' x = f_X11_motionAt t x := motionAt_congr (f 83 (by decide) (by decide))
    simpa only [q, e 26 (by decide) (by decide), e 27 (by decide) (by decide), e 28 (by decide) (by decide), e 29 (by decide) (by decide), e 30 (by decide) (by decide), e 31 (by decide) (by decide), e 32 (by decide) (by decide), e 33 (by decide) (by decide), e 34 (by decide) (by decide), e 40 (by decide) (by decide), e 41 (by decide) (by decide), e 50 (by decide) (by decide), e 52 (by decide) (by decide), ht2 13 (by decide), ht2 22 (by decide), ht2 23 (by decide), f 65 (by decide) (by decide), f 66 (by decide) (by decide), f 67 (by decide) (by decide), f 68 (by decide) (by decide), f 69 (by decide) (by decide), f 70 (by decide) (by decide), f 71 (by decide) (by decide), f 72 (by decide) (by decide), f 75 (by decide) (by decide), f 77 (by decide) (by decide)] using hI
theorem kp_append (σ : Sg) (x : Int32) : Kp [10, 11] σ (f_X0_append σ x).2 := by
  rw [f_X0_append_eq]
  by_cases c : σ 10 1 < 60
  · rw [if_pos c]; exact (Kp.sw (by decide) _ _ _).tr (Kp.sw (by decide) _ _ _)
  · rw [if_neg c]; exact Kp.rf _
theorem ka_type (σ : Sg) (x : Int32) : KA σ (f_X10_type σ x).2 := by
  rw [f_X10_type_eq]
  exact (kp_append σ x).A (by decide)
theorem kb_type (σ : Sg) (x : Int32) : KB σ (f_X11_type σ x).2 := by
  rw [f_X11_type_eq]
  by_cases c : σ 53 10 = 60
  · rw [if_pos c]; exact KB.rf _
  · rw [if_neg c]; exact ((Kp.sw (L := [53, 63]) (by decide) _ _ _).tr (Kp.sw (by decide) _ _ _)).B (by decide)
theorem q_type {m : Nat} {σ t : Sg} {φ ψ : Fl} (h : Rel m σ φ t ψ) (x : Int32) : (f_X10_type σ x).1 = (f_X11_type t x).1 ∧ Rel m (f_X10_type σ x).2 φ (f_X11_type t x).2 ψ := by
  obtain ⟨t1, t2, t3⟩ := h.2.2.2.1
  obtain ⟨n, hn, e⟩ := vp_in_of t3 (by decide)
  rw [f_X10_type_eq, f_X11_type_eq, f_X0_append_eq]
  dsimp only
  rw [t2, e]
  by_cases c : n = 60
  · have c3 : ¬ nI n < 60 := fun q => by have := (nI_ltI (a := n) (b := 60) (by omega) (by decide)).mp q; omega
    rw [if_neg c3, if_pos (show nI n = 60 by rw [c]; rfl)]
    exact ⟨rfl, h⟩
  · have c3 : ¬ nI n = 60 := fun q => c ((nI_eq (b := 60) (by omega) (by decide)).mp q)
    rw [if_pos (show nI n < 60 from nI_lt (b := 60) (by omega) (by decide)), if_neg c3]
    have a1 : (sw (sw σ 11 (nI n).toNatClampNeg (vp_nar .char x)) 10 1 ((sw σ 11 (nI n).toNatClampNeg (vp_nar .char x)) 10 1 + 1)) 10 1 = nI (n + 1) := by
      rw [sw_get, if_pos ⟨rfl, rfl⟩, sw_get, if_neg (by omega), t2, e, nI_1]
    have a2 : (sw (sw t 63 (nI n).toNatClampNeg (vp_nar .char x)) 53 10 ((sw t 63 (nI n).toNatClampNeg (vp_nar .char x)) 53 10 + 1)) 53 10 = nI (n + 1) := by
      rw [sw_get, if_pos ⟨rfl, rfl⟩, sw_get, if_neg (by omega), e, nI_1]
    refine ⟨?_, Rel_T h ?_ ?_ ?_ ⟨?_, ?_, ?_⟩⟩
    · dsimp only
      rw [if_neg (by decide), a1, a2]
    · intro k p q
      exact (sw_row p).trans (sw_row q)
    · intro k p q
      exact (sw_row p).trans (sw_row q)
    · intro i p
      dsimp only
      rw [sw_place p, sw_cell (show ¬ (53 : Nat) = 63 by decide)]
    · dsimp only
      rw [sw_row (show ¬ (11 : Nat) = 10 by decide), sw_row (show ¬ (63 : Nat) = 53 by decide), sw_at, if_pos rfl, sw_at, if_pos rfl, t1]
    · exact a1.trans a2.symm
    · refine (congrArg (fun z => vp_in z 61) a2).mpr ?_
      exact vp_in_nI (show n + 1 < 61 by omega) (by decide)
theorem ka_clearText (σ : Sg) : KA σ (f_X10_clearText σ).2 := (Kp.sw (L := [10]) (by decide) _ _ _).A (by decide)
theorem kb_clearText (σ : Sg) : KB σ (f_X11_clearText σ).2 := (Kp.sw (L := [53]) (by decide) _ _ _).B (by decide)
theorem q_clearText {m : Nat} {σ t : Sg} {φ ψ : Fl} (h : Rel m σ φ t ψ) : (f_X10_clearText σ).1 = (f_X11_clearText t).1 ∧ Rel m (f_X10_clearText σ).2 φ (f_X11_clearText t).2 ψ := by
  obtain ⟨t1, t2, t3⟩ := h.2.2.2.1
  rw [f_X10_clearText_eq, f_X11_clearText_eq]
  dsimp only
  refine ⟨t2, Rel_T h (fun k p q => sw_row p) (fun k p q => sw_row p) (fun i p => sw_place p _) ⟨?_, ?_, ?_⟩⟩
  · rw [sw_row (show ¬ (11 : Nat) = 10 by decide), sw_row (show ¬ (63 : Nat) = 53 by decide), t1]
  · rw [sw_same, sw_same]
  · rw [sw_same]; exact vp_lit (by decide)
theorem ka_set (σ : Sg) (x y : Int32) : KA σ (f_X10_set σ x y).2 := by
  rw [f_X10_set_eq]
  by_cases c1 : f_X10_isWithin x 0 3 = 0
  · rw [if_pos c1]; exact KA.rf _
  · rw [if_neg c1]
    by_cases c2 : f_X8_allows x y = 0
    · rw [if_pos c2]; exact KA.rf _
    · rw [if_neg c2]; exact (Kp.sw (L := [14]) (by decide) _ _ _).A (by decide)
theorem kb_set (σ : Sg) (x y : Int32) : KB σ (f_X11_set σ x y).2 := by
  rw [f_X11_set_eq]
  by_cases c1 : f_X11_in x 0 3 = 0
  · rw [if_pos c1]; exact KB.rf _
  · rw [if_neg c1]
    dsimp only
    by_cases c2 : f_X11_in y (if x = 0 then 1 else 0) (if x = 0 then 40 else (if x = 1 then 100 else (if x = 2 then 3 else 2))) = 0
    · rw [if_pos c2]; exact KB.rf _
    · rw [if_neg c2]; exact (Kp.sw (L := [62]) (by decide) _ _ _).B (by decide)
theorem set_lim {x : Int32} (h : ¬ f_X11_in x 0 3 = 0) (y : Int32) : f_X8_allows x y = f_X11_in y (if x = 0 then 1 else 0) (if x = 0 then 40 else (if x = 1 then 100 else (if x = 2 then 3 else 2))) := by
  obtain ⟨k, hk, rfl⟩ := vp_in_of (ii_in (m := 3) (n := 4) rfl h) (by decide)
  have : k = 0 ∨ k = 1 ∨ k = 2 ∨ k = 3 := by omega
  rcases this with rfl | rfl | rfl | rfl <;> rfl
theorem set_vp {x y : Int32} (h : ¬ f_X11_in x 0 3 = 0) (h2 : ¬ f_X11_in y (if x = 0 then 1 else 0) (if x = 0 then 40 else (if x = 1 then 100 else (if x = 2 then 3 else 2))) = 0) : (x.toNatClampNeg = 2 → vp_in y 4) ∧ (x.toNatClampNeg = 3 → vp_in y 3) := by
  obtain ⟨k, hk, rfl⟩ := vp_in_of (ii_in (m := 3) (n := 4) rfl h) (by decide)
  rw [nI_clamp (by omega)]
  refine ⟨fun q => ?_, fun q => ?_⟩
  · subst q
    exact ii_in (m := 3) rfl h2
  · subst q
    exact ii_in (m := 2) rfl h2
theorem q_set {m : Nat} {σ t : Sg} {φ ψ : Fl} (h : Rel m σ φ t ψ) (x y : Int32) : (f_X10_set σ x y).1 = (f_X11_set t x y).1 ∧ Rel m (f_X10_set σ x y).2 φ (f_X11_set t x y).2 ψ := by
  rw [f_X10_set_eq, f_X11_set_eq, e_in]
  by_cases c1 : f_X11_in x 0 3 = 0
  · rw [if_pos c1, if_pos c1]; exact ⟨rfl, h⟩
  · rw [if_neg c1, if_neg c1, set_lim c1]
    dsimp only
    by_cases c2 : f_X11_in y (if x = 0 then 1 else 0) (if x = 0 then 40 else (if x = 1 then 100 else (if x = 2 then 3 else 2))) = 0
    · rw [if_pos c2, if_pos c2]; exact ⟨rfl, h⟩
    · rw [if_neg c2, if_neg c2]
      obtain ⟨v2, v3⟩ := set_vp c1 c2
      obtain ⟨h1, h2, ⟨s1, s2, s3⟩, h4, hD, hI, hF⟩ := h
      refine ⟨by rw [s1], ?_, ?_, ⟨?_, ?_, ?_⟩, ?_, ?_, ?_, hF⟩
      · simpa [RP, sw_at] using h1
      · simpa [bndP, sw_at] using h2
      · simp [sw_at, s1]
      · dsimp only
        rw [sw_get]
        by_cases q : x.toNatClampNeg = 2
        · rw [if_pos ⟨rfl, q.symm⟩]; exact v2 q
        · rw [if_neg (fun r => q r.2.symm)]; exact s2
      · dsimp only
        rw [sw_get]
        by_cases q : x.toNatClampNeg = 3
        · rw [if_pos ⟨rfl, q.symm⟩]; exact v3 q
        · rw [if_neg (fun r => q r.2.symm)]; exact s3
      · simpa [RT, sw_at] using h4
      · simpa [RD, sw_at] using hD
      · simpa [RI, sw_at, sw83] using hI
