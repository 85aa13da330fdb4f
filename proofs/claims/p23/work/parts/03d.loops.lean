/-! loops of the class -/
def b_X9_sumFrom_5 (σ : Sg) (x : Int32) (y : Int32) (j1 : Nat) (s1 : Int32) : Int32 := let v2 : Int32 := s1 + (f_X9_at σ x (y + (nI j1))); v2
theorem b_X9_sumFrom_5_eq (σ : Sg) (x : Int32) (y : Int32) (j1 : Nat) (s1 : Int32) : b_X9_sumFrom_5 σ x y j1 s1 = (let v2 : Int32 := s1 + (f_X9_at σ x (y + (nI j1))); v2) := rfl
def f_X9_sumFrom (σ : Sg) (x : Int32) (y : Int32) : Int32 := let t1 : Int32 := loopF (b_X9_sumFrom_5 σ x y) 8 0; t1
theorem f_X9_sumFrom_eq (σ : Sg) (x : Int32) (y : Int32) : f_X9_sumFrom σ x y = (let t1 : Int32 := loopF (b_X9_sumFrom_5 σ x y) 8 0; t1) := rfl
set_option maxRecDepth 100000 in
set_option maxHeartbeats 4000000 in
theorem c_X9_sumFrom (l : Launch) (D : va_G) (ad : Nat → Nat) (dA : Nat → ClassId) (z0 : Nat) (tt : Nat → Nat) (σ : Sg) (φ : Fl) (x : Int32) (y : Int32)  : MC l D ad dA z0 tt yX9_sumFrom (Cond.code yX9_sumFrom cX9_sumFrom 5 (some .int) :: lw_all) { frames := 1, cells := 0, slots := 0, locals := 22 } [.ref (ad 15), .int x, .int y] σ φ (Fn (some (.int (f_X9_sumFrom σ x y))) σ φ) := by
  refine mk_MC (by decide) (Nat.le_of_ble_eq_true rfl) ?_
  intro K C hi hf hv
  change K σ φ 0 [(0, .ref (ad 15)), (1, .int x), (2, .int y)] []
  refine g_iconst C (v := 0) dX9_sumFrom_0 (by decide) ?_
  refine g_istore_n C (i := 3) (lv' := [(3, .int 0), (0, .ref (ad 15)), (1, .int x), (2, .int y)]) dX9_sumFrom_1 rfl (by decide) rfl ?_
  refine g_iconst C (v := 0) dX9_sumFrom_2 (by decide) ?_
  refine g_istore C (i := 4) (lv' := [(4, .int 0), (3, .int 0), (0, .ref (ad 15)), (1, .int x), (2, .int y)]) dX9_sumFrom_3 (by decide) rfl ?_
  refine g_loc C (lv' := [(0, .ref (ad 15)), (1, .int x), (2, .int y), (3, .int 0), (4, .int 0)]) [2, 3, 4, 1, 0] rfl ?_
  refine loopF_ind (b_X9_sumFrom_5 σ x y) 8 (fun (j1 : Nat) (s1 : Int32) => K σ φ 5 [(0, .ref (ad 15)), (1, .int x), (2, .int y), (3, .int s1), (4, .int (nI j1))] []) 0 ?_ ?_
  · intro j1 s1 hj1 kk
    change K σ φ 5 [(0, .ref (ad 15)), (1, .int x), (2, .int y), (3, .int s1), (4, .int (nI j1))] []
    refine g_iload C (i := 4) dX9_sumFrom_5 4 rfl ?_
    refine g_bipush C (v := 8) dX9_sumFrom_7 (by decide) ?_
    refine g_icmp_ge C (tgt := 30) dX9_sumFrom_9 (by decide) (fun h1 => ?_) (fun h1 => ?_)
    · exact absurd h1 (nI_ge hj1 (by decide))
    · refine g_iload_n C (i := 3) dX9_sumFrom_12 rfl 3 rfl ?_
      refine g_aload_n C (i := 0) dX9_sumFrom_13 rfl 0 rfl ?_
      refine g_iload_n C (i := 1) dX9_sumFrom_14 rfl 1 rfl ?_
      refine g_iload_n C (i := 2) dX9_sumFrom_15 rfl 2 rfl ?_
      refine g_iload C (i := 4) dX9_sumFrom_16 4 rfl ?_
      refine g_iadd C dX9_sumFrom_18 ?_
      refine g_callV C (st := [.int s1]) (c_X9_at l D ad dA z0 tt σ φ x (y + (nI j1))) rfl ml_X9_22 im_X9_at se_X9_at in_X9 co_X9_at dyV_X9_at rfl rfl ⟨(Nat.le_of_ble_eq_true rfl), (Nat.le_of_ble_eq_true rfl)⟩ 15 9 (fun f => at_15 ad dA σ f) rfl dX9_sumFrom_19 rfl (Nat.le_of_ble_eq_true rfl) (g_fni ?_)
      refine g_iadd C dX9_sumFrom_22 ?_
      refine g_nmi C (fun v2 ev2 => ?_)
      refine g_istore_n C (i := 3) (lv' := [(3, .int v2), (0, .ref (ad 15)), (1, .int x), (2, .int y), (4, .int (nI j1))]) dX9_sumFrom_23 rfl (by decide) rfl ?_
      refine g_iinc C (i := 4) (v := nI (j1 + 1)) (lv' := [(4, .int (nI (j1 + 1))), (3, .int v2), (0, .ref (ad 15)), (1, .int x), (2, .int y)]) dX9_sumFrom_24 4 rfl (nI_1 _) (by decide) rfl ?_
      refine g_goto C (tgt := 5) dX9_sumFrom_27 (by decide) ?_
      refine g_loc C [2, 3, 4, 1, 0] rfl ?_
      refine kk v2 ?_
      subst ev2
      exact b_X9_sumFrom_5_eq _ _ _ _ _
  · generalize et1 : loopF (b_X9_sumFrom_5 σ x y) 8 0 = t1
    change K σ φ 5 [(0, .ref (ad 15)), (1, .int x), (2, .int y), (3, .int t1), (4, .int (nI 8))] []
    refine g_iload C (i := 4) dX9_sumFrom_5 4 rfl ?_
    refine g_bipush C (v := 8) dX9_sumFrom_7 (by decide) ?_
    refine g_icmp_ge C (tgt := 30) dX9_sumFrom_9 (by decide) (fun h2 => ?_) (fun h2 => ?_)
    · refine g_iload_n C (i := 3) dX9_sumFrom_30 rfl 3 rfl ?_
      have e0 : f_X9_sumFrom σ x y = t1 := by
        subst et1
        exact f_X9_sumFrom_eq _ _ _
      exact hi _ _ _ _ _ _ rfl dX9_sumFrom_31 rfl ⟨(congrArg (fun z => some (Value.int z)) e0).symm, rfl, rfl⟩
    · exact absurd (nI_le (Nat.le_refl _) (by decide)) h2
def b_X9_pulseOf_4 (σ : Sg) (x : Int32) (j1 : Nat) (s1 : Int32) : (Int32) ⊕ (Int32) := let v2 : Int32 := (if (-20) < (f_X9_at σ x (nI j1)) then 0 else (s1 + 1)); if v2 = 4 then (.inl (((nI j1) - 4) + 1)) else (.inr v2)
theorem b_X9_pulseOf_4_eq (σ : Sg) (x : Int32) (j1 : Nat) (s1 : Int32) : b_X9_pulseOf_4 σ x j1 s1 = (let v2 : Int32 := (if (-20) < (f_X9_at σ x (nI j1)) then 0 else (s1 + 1)); if v2 = 4 then (.inl (((nI j1) - 4) + 1)) else (.inr v2)) := rfl
def f_X9_pulseOf (σ : Sg) (x : Int32) : Int32 := sumE (loopE (b_X9_pulseOf_4 σ x) 24 0 0) (fun t1 => (-1))
theorem f_X9_pulseOf_eq (σ : Sg) (x : Int32) : f_X9_pulseOf σ x = (sumE (loopE (b_X9_pulseOf_4 σ x) 24 0 0) (fun t1 => (-1))) := rfl
set_option maxRecDepth 100000 in
set_option maxHeartbeats 4000000 in
theorem c_X9_pulseOf (l : Launch) (D : va_G) (ad : Nat → Nat) (dA : Nat → ClassId) (z0 : Nat) (tt : Nat → Nat) (σ : Sg) (φ : Fl) (x : Int32)  : MC l D ad dA z0 tt yX9_pulseOf (Cond.code yX9_pulseOf cX9_pulseOf 4 (some .int) :: lw_all) { frames := 1, cells := 0, slots := 0, locals := 22 } [.ref (ad 15), .int x] σ φ (Fn (some (.int (f_X9_pulseOf σ x))) σ φ) := by
  refine mk_MC (by decide) (Nat.le_of_ble_eq_true rfl) ?_
  intro K C hi hf hv
  change K σ φ 0 [(0, .ref (ad 15)), (1, .int x)] []
  refine g_iconst C (v := 0) dX9_pulseOf_0 (by decide) ?_
  refine g_istore_n C (i := 2) (lv' := [(2, .int 0), (0, .ref (ad 15)), (1, .int x)]) dX9_pulseOf_1 rfl (by decide) rfl ?_
  refine g_iconst C (v := 0) dX9_pulseOf_2 (by decide) ?_
  refine g_istore_n C (i := 3) (lv' := [(3, .int 0), (2, .int 0), (0, .ref (ad 15)), (1, .int x)]) dX9_pulseOf_3 rfl (by decide) rfl ?_
  refine g_loc C (lv' := [(0, .ref (ad 15)), (1, .int x), (2, .int 0), (3, .int 0)]) [2, 3, 1, 0] rfl ?_
  refine loopE_ind (b_X9_pulseOf_4 σ x) 24 (fun (j1 : Nat) (s1 : Int32) => K σ φ 4 [(0, .ref (ad 15)), (1, .int x), (2, .int s1), (3, .int (nI j1))] []) 0 ?_ ?_
  · intro n1 j1 s1 hn hF1 kk
    have hj1 : j1 < 24 := by omega
    change K σ φ 4 [(0, .ref (ad 15)), (1, .int x), (2, .int s1), (3, .int (nI j1))] []
    refine g_iload_n C (i := 3) dX9_pulseOf_4 rfl 3 rfl ?_
    refine g_bipush C (v := 24) dX9_pulseOf_5 (by decide) ?_
    refine g_icmp_ge C (tgt := 46) dX9_pulseOf_7 (by decide) (fun h1 => ?_) (fun h1 => ?_)
    · exact absurd h1 (nI_ge hj1 (by decide))
    · refine g_aload_n C (i := 0) dX9_pulseOf_10 rfl 0 rfl ?_
      refine g_iload_n C (i := 1) dX9_pulseOf_11 rfl 1 rfl ?_
      refine g_iload_n C (i := 3) dX9_pulseOf_12 rfl 3 rfl ?_
      refine g_callV C (st := []) (c_X9_at l D ad dA z0 tt σ φ x (nI j1)) rfl ml_X9_22 im_X9_at se_X9_at in_X9 co_X9_at dyV_X9_at rfl rfl ⟨(Nat.le_of_ble_eq_true rfl), (Nat.le_of_ble_eq_true rfl)⟩ 15 9 (fun f => at_15 ad dA σ f) rfl dX9_pulseOf_13 rfl (Nat.le_of_ble_eq_true rfl) (g_fni ?_)
      refine g_bipush C (v := (-20)) dX9_pulseOf_16 (by decide) ?_
      have J3 : ∀ (v2 : Int32), (if (-20) < (f_X9_at σ x (nI j1)) then 0 else (s1 + 1)) = v2 → K σ φ 28 [(0, .ref (ad 15)), (1, .int x), (3, .int (nI j1))] [.int v2] := by
        intro v2 ev2
        refine g_istore_n C (i := 2) (lv' := [(2, .int v2), (0, .ref (ad 15)), (1, .int x), (3, .int (nI j1))]) dX9_pulseOf_28 rfl (by decide) rfl ?_
        refine g_iload_n C (i := 2) dX9_pulseOf_29 rfl 0 rfl ?_
        refine g_iconst C (v := 4) dX9_pulseOf_30 (by decide) ?_
        refine g_icmp_ne C (tgt := 40) dX9_pulseOf_31 (by decide) (fun h3 => ?_) (fun h3 => ?_)
        · refine g_iinc C (i := 3) (v := nI (j1 + 1)) (lv' := [(3, .int (nI (j1 + 1))), (2, .int v2), (0, .ref (ad 15)), (1, .int x)]) dX9_pulseOf_40 3 rfl (nI_1 _) (by decide) rfl ?_
          refine g_goto C (tgt := 4) dX9_pulseOf_43 (by decide) ?_
          refine g_loc C [2, 3, 1, 0] rfl ?_
          refine kk v2 ?_
          subst ev2
          exact ((b_X9_pulseOf_4_eq _ _ _ _).trans (if_neg h3))
        · refine g_iload_n C (i := 3) dX9_pulseOf_34 rfl 3 rfl ?_
          refine g_iconst C (v := 4) dX9_pulseOf_35 (by decide) ?_
          refine g_isub C dX9_pulseOf_36 ?_
          refine g_iconst C (v := 1) dX9_pulseOf_37 (by decide) ?_
          refine g_iadd C dX9_pulseOf_38 ?_
          have e0 : f_X9_pulseOf σ x = ((nI j1) - 4) + 1 := by
            subst ev2
            have eF := hF1.trans (loopE_inl n1 ((b_X9_pulseOf_4_eq _ _ _ _).trans (if_pos h3)))
            exact ((f_X9_pulseOf_eq _ _).trans (sumE_inl eF))
          exact hi _ _ _ _ _ _ rfl dX9_pulseOf_39 rfl ⟨(congrArg (fun z => some (Value.int z)) e0).symm, rfl, rfl⟩
      refine g_icmp_gt C (tgt := 27) dX9_pulseOf_18 (by decide) (fun h2 => ?_) (fun h2 => ?_)
      · refine g_iconst C (v := 0) dX9_pulseOf_27 (by decide) ?_
        refine g_loc C [0, 1, 3] rfl ?_
        exact J3 _ ((if_pos h2))
      · refine g_iload_n C (i := 2) dX9_pulseOf_21 rfl 2 rfl ?_
        refine g_iconst C (v := 1) dX9_pulseOf_22 (by decide) ?_
        refine g_iadd C dX9_pulseOf_23 ?_
        refine g_goto C (tgt := 28) dX9_pulseOf_24 (by decide) ?_
        refine g_loc C [0, 1, 3] rfl ?_
        exact J3 _ ((if_neg h2))
  · intro t1 hF1
    change K σ φ 4 [(0, .ref (ad 15)), (1, .int x), (2, .int t1), (3, .int (nI 24))] []
    refine g_iload_n C (i := 3) dX9_pulseOf_4 rfl 3 rfl ?_
    refine g_bipush C (v := 24) dX9_pulseOf_5 (by decide) ?_
    refine g_icmp_ge C (tgt := 46) dX9_pulseOf_7 (by decide) (fun h4 => ?_) (fun h4 => ?_)
    · refine g_iconst C (v := (-1)) dX9_pulseOf_46 (by decide) ?_
      have e0 : f_X9_pulseOf σ x = (-1) := by
        exact ((f_X9_pulseOf_eq _ _).trans (sumE_inr hF1))
      exact hi _ _ _ _ _ _ rfl dX9_pulseOf_47 rfl ⟨(congrArg (fun z => some (Value.int z)) e0).symm, rfl, rfl⟩
    · exact absurd (nI_le (Nat.le_refl _) (by decide)) h4
def b_X9_sendFrom_18 (j1 : Nat) (j2 : Nat) (s2 : Sg) : Sg := let σ3 : Sg := sw s2 (17 + (nI j1).toNatClampNeg) (nI j2).toNatClampNeg (f_X7_sampleAt s2 (nI j1) (nI j2)); σ3
theorem b_X9_sendFrom_18_eq (j1 : Nat) (j2 : Nat) (s2 : Sg) : b_X9_sendFrom_18 j1 j2 s2 = (let σ3 : Sg := sw s2 (17 + (nI j1).toNatClampNeg) (nI j2).toNatClampNeg (f_X7_sampleAt s2 (nI j1) (nI j2)); σ3) := rfl
def b_X9_sendFrom_2  (j1 : Nat) (s1 : Sg) : Sg := let t2 : Sg := loopF (b_X9_sendFrom_18 j1) 112 s1; t2
theorem b_X9_sendFrom_2_eq  (j1 : Nat) (s1 : Sg) : b_X9_sendFrom_2  j1 s1 = (let t2 : Sg := loopF (b_X9_sendFrom_18 j1) 112 s1; t2) := rfl
def f_X9_sendFrom (σ : Sg) : Sg := let t1 : Sg := loopF b_X9_sendFrom_2 8 σ; t1
theorem f_X9_sendFrom_eq (σ : Sg) : f_X9_sendFrom σ = (let t1 : Sg := loopF b_X9_sendFrom_2 8 σ; t1) := rfl
set_option maxRecDepth 100000 in
set_option maxHeartbeats 4000000 in
theorem c_X9_sendFrom (l : Launch) (D : va_G) (ad : Nat → Nat) (dA : Nat → ClassId) (z0 : Nat) (tt : Nat → Nat) (σ : Sg) (φ : Fl)   : MC l D ad dA z0 tt yX9_sendFrom (Cond.code yX9_sendFrom cX9_sendFrom 5 none :: lw_all) { frames := 4, cells := 0, slots := 0, locals := 93 } [.ref (ad 15), .ref (ad 1)] σ φ (Fn none (f_X9_sendFrom σ) φ) := by
  refine mk_MC (by decide) (Nat.le_of_ble_eq_true rfl) ?_
  intro K C hi hf hv
  change K σ φ 0 [(0, .ref (ad 15)), (1, .ref (ad 1))] []
  refine g_iconst C (v := 0) dX9_sendFrom_0 (by decide) ?_
  refine g_istore_n C (i := 2) (lv' := [(2, .int 0), (0, .ref (ad 15)), (1, .ref (ad 1))]) dX9_sendFrom_1 rfl (by decide) rfl ?_
  refine g_loc C (lv' := [(0, .ref (ad 15)), (1, .ref (ad 1)), (2, .int 0)]) [1, 2, 0] rfl ?_
  refine loopF_ind b_X9_sendFrom_2 8 (fun (j1 : Nat) (s1 : Sg) => K s1 φ 2 [(0, .ref (ad 15)), (1, .ref (ad 1)), (2, .int (nI j1))] []) σ ?_ ?_
  · intro j1 s1 hj1 kk
    change K s1 φ 2 [(0, .ref (ad 15)), (1, .ref (ad 1)), (2, .int (nI j1))] []
    refine g_iload_n C (i := 2) dX9_sendFrom_2 rfl 2 rfl ?_
    refine g_bipush C (v := 8) dX9_sendFrom_3 (by decide) ?_
    refine g_icmp_ge C (tgt := 48) dX9_sendFrom_5 (by decide) (fun h1 => ?_) (fun h1 => ?_)
    · exact absurd h1 (nI_ge hj1 (by decide))
    · refine g_aload_n C (i := 0) dX9_sendFrom_8 rfl 0 rfl ?_
      refine gg_15_0 C fl_X9_11 dX9_sendFrom_9 ?_
      refine g_iload_n C (i := 2) dX9_sendFrom_12 rfl 2 rfl ?_
      refine g_aald_rows C (vp_in_nI (Nat.lt_of_lt_of_le hj1 (by decide)) (by decide)) dX9_sendFrom_13 ?_
      refine g_astore_n C (i := 3) (lv' := [(3, .ref (ad (17 + (nI j1).toNatClampNeg))), (0, .ref (ad 15)), (1, .ref (ad 1)), (2, .int (nI j1))]) dX9_sendFrom_14 rfl (by decide) rfl ?_
      refine g_iconst C (v := 0) dX9_sendFrom_15 (by decide) ?_
      refine g_istore C (i := 4) (lv' := [(4, .int 0), (3, .ref (ad (17 + (nI j1).toNatClampNeg))), (0, .ref (ad 15)), (1, .ref (ad 1)), (2, .int (nI j1))]) dX9_sendFrom_16 (by decide) rfl ?_
      refine g_loc C (lv' := [(0, .ref (ad 15)), (1, .ref (ad 1)), (2, .int (nI j1)), (3, .ref (ad (17 + (nI j1).toNatClampNeg))), (4, .int 0)]) [2, 3, 4, 1, 0] rfl ?_
      refine loopF_ind (b_X9_sendFrom_18 j1) 112 (fun (j2 : Nat) (s2 : Sg) => K s2 φ 18 [(0, .ref (ad 15)), (1, .ref (ad 1)), (2, .int (nI j1)), (3, .ref (ad (17 + (nI j1).toNatClampNeg))), (4, .int (nI j2))] []) s1 ?_ ?_
      · intro j2 s2 hj2 kk
        change K s2 φ 18 [(0, .ref (ad 15)), (1, .ref (ad 1)), (2, .int (nI j1)), (3, .ref (ad (17 + (nI j1).toNatClampNeg))), (4, .int (nI j2))] []
        refine g_iload C (i := 4) dX9_sendFrom_18 4 rfl ?_
        refine g_bipush C (v := 112) dX9_sendFrom_20 (by decide) ?_
        refine g_icmp_ge C (tgt := 42) dX9_sendFrom_22 (by decide) (fun h2 => ?_) (fun h2 => ?_)
        · exact absurd h2 (nI_ge hj2 (by decide))
        · refine g_aload_n C (i := 3) dX9_sendFrom_25 rfl 3 rfl ?_
          refine g_iload C (i := 4) dX9_sendFrom_26 4 rfl ?_
          refine g_aload_n C (i := 1) dX9_sendFrom_28 rfl 1 rfl ?_
          refine g_iload_n C (i := 2) dX9_sendFrom_29 rfl 2 rfl ?_
          refine g_iload C (i := 4) dX9_sendFrom_30 4 rfl ?_
          refine g_callV C (st := [.int (nI j2), .ref (ad (17 + (nI j1).toNatClampNeg))]) (c_X7_sampleAt l D ad dA z0 tt s2 φ (nI j1) (nI j2) (vp_in_nI (Nat.lt_of_lt_of_le hj1 (by decide)) (by decide))) rfl ml_X9_16 im_X7_sampleAt se_X7_sampleAt in_X7 co_X7_sampleAt dyV_X7_sampleAt rfl rfl ⟨(Nat.le_of_ble_eq_true rfl), (Nat.le_of_ble_eq_true rfl)⟩ 1 7 (fun f => at_1 ad dA s2 f) rfl dX9_sendFrom_32 rfl (Nat.le_of_ble_eq_true rfl) (g_fni ?_)
          refine sd_row C (vp_lt (vp_in_nI (Nat.lt_of_lt_of_le hj1 (by decide)) (by decide))) (vp_in_nI (Nat.lt_of_lt_of_le hj2 (by decide)) (by decide)) dX9_sendFrom_35 ?_
          refine g_nms C (fun σ3 eσ3 => ?_)
          refine g_iinc C (i := 4) (v := nI (j2 + 1)) (lv' := [(4, .int (nI (j2 + 1))), (0, .ref (ad 15)), (1, .ref (ad 1)), (2, .int (nI j1)), (3, .ref (ad (17 + (nI j1).toNatClampNeg)))]) dX9_sendFrom_36 4 rfl (nI_1 _) (by decide) rfl ?_
          refine g_goto C (tgt := 18) dX9_sendFrom_39 (by decide) ?_
          refine g_loc C [1, 2, 3, 4, 0] rfl ?_
          refine kk σ3 ?_
          subst eσ3
          exact b_X9_sendFrom_18_eq _ _ _
      · generalize et2 : loopF (b_X9_sendFrom_18 j1) 112 s1 = t2
        change K t2 φ 18 [(0, .ref (ad 15)), (1, .ref (ad 1)), (2, .int (nI j1)), (3, .ref (ad (17 + (nI j1).toNatClampNeg))), (4, .int (nI 112))] []
        refine g_iload C (i := 4) dX9_sendFrom_18 4 rfl ?_
        refine g_bipush C (v := 112) dX9_sendFrom_20 (by decide) ?_
        refine g_icmp_ge C (tgt := 42) dX9_sendFrom_22 (by decide) (fun h3 => ?_) (fun h3 => ?_)
        · refine g_iinc C (i := 2) (v := nI (j1 + 1)) (lv' := [(2, .int (nI (j1 + 1))), (0, .ref (ad 15)), (1, .ref (ad 1)), (3, .ref (ad (17 + (nI j1).toNatClampNeg))), (4, .int (nI 112))]) dX9_sendFrom_42 2 rfl (nI_1 _) (by decide) rfl ?_
          refine g_goto C (tgt := 2) dX9_sendFrom_45 (by decide) ?_
          refine g_loc C [1, 2, 0] rfl ?_
          refine kk t2 ?_
          subst et2
          exact b_X9_sendFrom_2_eq _ _
        · exact absurd (nI_le (Nat.le_refl _) (by decide)) h3
  · generalize et1 : loopF b_X9_sendFrom_2 8 σ = t1
    change K t1 φ 2 [(0, .ref (ad 15)), (1, .ref (ad 1)), (2, .int (nI 8))] []
    refine g_iload_n C (i := 2) dX9_sendFrom_2 rfl 2 rfl ?_
    refine g_bipush C (v := 8) dX9_sendFrom_3 (by decide) ?_
    refine g_icmp_ge C (tgt := 48) dX9_sendFrom_5 (by decide) (fun h4 => ?_) (fun h4 => ?_)
    · have e0 : f_X9_sendFrom σ = t1 := by
        subst et1
        exact f_X9_sendFrom_eq _
      exact hv _ _ _ _ rfl dX9_sendFrom_48 ⟨rfl, (congrArg (fun z => z) e0).symm, rfl⟩
    · exact absurd (nI_le (Nat.le_refl _) (by decide)) h4
def b_X0_barOf_2 (x : Int32) (j1 : Nat) (s1 : Unit) : (Int32) ⊕ (Unit) := if (sa_2 (nI j1).toNatClampNeg) = x then (.inl (nI j1)) else (.inr ())
theorem b_X0_barOf_2_eq (x : Int32) (j1 : Nat) (s1 : Unit) : b_X0_barOf_2 x j1 s1 = (if (sa_2 (nI j1).toNatClampNeg) = x then (.inl (nI j1)) else (.inr ())) := rfl
def f_X0_barOf (x : Int32) : Int32 := sumE (loopE (b_X0_barOf_2 x) 8 0 ()) (fun t1 => (-1))
theorem f_X0_barOf_eq (x : Int32) : f_X0_barOf x = (sumE (loopE (b_X0_barOf_2 x) 8 0 ()) (fun t1 => (-1))) := rfl
set_option maxRecDepth 100000 in
set_option maxHeartbeats 4000000 in
theorem c_X0_barOf (l : Launch) (D : va_G) (ad : Nat → Nat) (dA : Nat → ClassId) (z0 : Nat) (tt : Nat → Nat) (σ : Sg) (φ : Fl) (x : Int32)  : MC l D ad dA z0 tt yX0_barOf (Cond.code yX0_barOf cX0_barOf 2 (some .int) :: lw_all) { frames := 0, cells := 0, slots := 0, locals := 0 } [.int x] σ φ (Fn (some (.int (f_X0_barOf x))) σ φ) := by
  refine mk_MC (by decide) (Nat.le_of_ble_eq_true rfl) ?_
  intro K C hi hf hv
  change K σ φ 0 [(0, .int x)] []
  refine g_iconst C (v := 0) dX0_barOf_0 (by decide) ?_
  refine g_istore_n C (i := 1) (lv' := [(1, .int 0), (0, .int x)]) dX0_barOf_1 rfl (by decide) rfl ?_
  refine g_loc C (lv' := [(0, .int x), (1, .int 0)]) [1, 0] rfl ?_
  refine loopE_ind (b_X0_barOf_2 x) 8 (fun (j1 : Nat) (s1 : Unit) => K σ φ 2 [(0, .int x), (1, .int (nI j1))] []) () ?_ ?_
  · intro n1 j1 s1 hn hF1 kk
    have hj1 : j1 < 8 := by omega
    change K σ φ 2 [(0, .int x), (1, .int (nI j1))] []
    refine g_iload_n C (i := 1) dX0_barOf_2 rfl 1 rfl ?_
    refine g_gets C (host := "CompositeDecoder") (C0 := "CompositeDecoder$BarText") (hZ2 (z0 := z0)) fl_X0_52 rfl dX0_barOf_3 ?_
    refine g_tlen C (hT2 (z0 := z0)) (v := 8) rfl dX0_barOf_6 ?_
    refine g_icmp_ge C (tgt := 27) dX0_barOf_7 (by decide) (fun h1 => ?_) (fun h1 => ?_)
    · exact absurd h1 (nI_ge hj1 (by decide))
    · refine g_gets C (host := "CompositeDecoder") (C0 := "CompositeDecoder$BarText") (hZ2 (z0 := z0)) fl_X0_52 rfl dX0_barOf_10 ?_
      refine g_iload_n C (i := 1) dX0_barOf_13 rfl 1 rfl ?_
      refine g_tc C (hT2 (z0 := z0)) (vp_in_nI (Nat.lt_of_lt_of_le hj1 (by decide)) (by decide)) dX0_barOf_14 ?_
      refine g_iload_n C (i := 0) dX0_barOf_15 rfl 0 rfl ?_
      refine g_icmp_ne C (tgt := 21) dX0_barOf_16 (by decide) (fun h2 => ?_) (fun h2 => ?_)
      · refine g_iinc C (i := 1) (v := nI (j1 + 1)) (lv' := [(1, .int (nI (j1 + 1))), (0, .int x)]) dX0_barOf_21 1 rfl (nI_1 _) (by decide) rfl ?_
        refine g_goto C (tgt := 2) dX0_barOf_24 (by decide) ?_
        refine g_loc C [1, 0] rfl ?_
        refine kk () ?_
        exact ((b_X0_barOf_2_eq _ _ _).trans (if_neg h2))
      · refine g_iload_n C (i := 1) dX0_barOf_19 rfl 1 rfl ?_
        have e0 : f_X0_barOf x = nI j1 := by
          have eF := hF1.trans (loopE_inl n1 ((b_X0_barOf_2_eq _ _ _).trans (if_pos h2)))
          exact ((f_X0_barOf_eq _).trans (sumE_inl eF))
        exact hi _ _ _ _ _ _ rfl dX0_barOf_20 rfl ⟨(congrArg (fun z => some (Value.int z)) e0).symm, rfl, rfl⟩
  · intro t1 hF1
    change K σ φ 2 [(0, .int x), (1, .int (nI 8))] []
    refine g_iload_n C (i := 1) dX0_barOf_2 rfl 1 rfl ?_
    refine g_gets C (host := "CompositeDecoder") (C0 := "CompositeDecoder$BarText") (hZ2 (z0 := z0)) fl_X0_52 rfl dX0_barOf_3 ?_
    refine g_tlen C (hT2 (z0 := z0)) (v := 8) rfl dX0_barOf_6 ?_
    refine g_icmp_ge C (tgt := 27) dX0_barOf_7 (by decide) (fun h3 => ?_) (fun h3 => ?_)
    · refine g_iconst C (v := (-1)) dX0_barOf_27 (by decide) ?_
      have e0 : f_X0_barOf x = (-1) := by
        exact ((f_X0_barOf_eq _).trans (sumE_inr hF1))
      exact hi _ _ _ _ _ _ rfl dX0_barOf_28 rfl ⟨(congrArg (fun z => some (Value.int z)) e0).symm, rfl, rfl⟩
    · exact absurd (nI_le (Nat.le_refl _) (by decide)) h3
def b_X10_tally_29_10 (σ : Sg) (j1 : Nat) (s1 : Int32) : Int32 := let v2 : Int32 := s1 + (f_X10_oneIf (σ 29 (nI j1).toNatClampNeg)); v2
theorem b_X10_tally_29_10_eq (σ : Sg) (j1 : Nat) (s1 : Int32) : b_X10_tally_29_10 σ j1 s1 = (let v2 : Int32 := s1 + (f_X10_oneIf (σ 29 (nI j1).toNatClampNeg)); v2) := rfl
def f_X10_tally_29 (σ : Sg) : Int32 := let t1 : Int32 := loopF (b_X10_tally_29_10 σ) 8 0; t1
theorem f_X10_tally_29_eq (σ : Sg) : f_X10_tally_29 σ = (let t1 : Int32 := loopF (b_X10_tally_29_10 σ) 8 0; t1) := rfl
set_option maxRecDepth 100000 in
set_option maxHeartbeats 4000000 in
theorem c_X10_tally_29 (l : Launch) (D : va_G) (ad : Nat → Nat) (dA : Nat → ClassId) (z0 : Nat) (tt : Nat → Nat) (σ : Sg) (φ : Fl)   : MC l D ad dA z0 tt yX10_tally (Cond.code yX10_tally cX10_tally 6 (some .int) :: lw_all) { frames := 1, cells := 0, slots := 0, locals := 20 } [.ref (ad 29)] σ φ (Fn (some (.int (f_X10_tally_29 σ))) σ φ) := by
  refine mk_MC (by decide) (Nat.le_of_ble_eq_true rfl) ?_
  intro K C hi hf hv
  change K σ φ 0 [(0, .ref (ad 29))] []
  refine g_iconst C (v := 0) dX10_tally_0 (by decide) ?_
  refine g_istore_n C (i := 1) (lv' := [(1, .int 0), (0, .ref (ad 29))]) dX10_tally_1 rfl (by decide) rfl ?_
  refine g_aload_n C (i := 0) dX10_tally_2 rfl 1 rfl ?_
  refine g_astore_n C (i := 2) (lv' := [(2, .ref (ad 29)), (1, .int 0), (0, .ref (ad 29))]) dX10_tally_3 rfl (by decide) rfl ?_
  refine g_aload_n C (i := 2) dX10_tally_4 rfl 0 rfl ?_
  refine g_alen C 29 1 (fun f => at_29 ad dA σ f) rfl (v := 8) rfl dX10_tally_5 ?_
  refine g_istore_n C (i := 3) (lv' := [(3, .int 8), (2, .ref (ad 29)), (1, .int 0), (0, .ref (ad 29))]) dX10_tally_6 rfl (by decide) rfl ?_
  refine g_iconst C (v := 0) dX10_tally_7 (by decide) ?_
  refine g_istore C (i := 4) (lv' := [(4, .int 0), (3, .int 8), (2, .ref (ad 29)), (1, .int 0), (0, .ref (ad 29))]) dX10_tally_8 (by decide) rfl ?_
  refine g_loc C (lv' := [(1, .int 0), (2, .ref (ad 29)), (3, .int 8), (4, .int 0)]) [3, 2, 1, 0] rfl ?_
  refine loopF_ind (b_X10_tally_29_10 σ) 8 (fun (j1 : Nat) (s1 : Int32) => K σ φ 10 [(1, .int s1), (2, .ref (ad 29)), (3, .int 8), (4, .int (nI j1))] []) 0 ?_ ?_
  · intro j1 s1 hj1 kk
    change K σ φ 10 [(1, .int s1), (2, .ref (ad 29)), (3, .int 8), (4, .int (nI j1))] []
    refine g_iload C (i := 4) dX10_tally_10 3 rfl ?_
    refine g_iload_n C (i := 3) dX10_tally_12 rfl 2 rfl ?_
    refine g_icmp_ge C (tgt := 36) dX10_tally_13 (by decide) (fun h1 => ?_) (fun h1 => ?_)
    · exact absurd h1 (nI_ge hj1 (by decide))
    · refine g_aload_n C (i := 2) dX10_tally_16 rfl 1 rfl ?_
      refine g_iload C (i := 4) dX10_tally_17 3 rfl ?_
      refine ld_29 C (vp_in_nI (Nat.lt_of_lt_of_le hj1 (by decide)) (by decide)) dX10_tally_19 ?_
      refine g_istore C (i := 5) (lv' := [(5, .int (σ 29 (nI j1).toNatClampNeg)), (1, .int s1), (2, .ref (ad 29)), (3, .int 8), (4, .int (nI j1))]) dX10_tally_20 (by decide) rfl ?_
      refine g_iload_n C (i := 1) dX10_tally_22 rfl 1 rfl ?_
      refine g_iload C (i := 5) dX10_tally_23 0 rfl ?_
      refine g_callS C (st := [.int s1]) (c_X10_oneIf l D ad dA z0 tt σ φ (σ 29 (nI j1).toNatClampNeg)) rfl ml_X10_123 sm_X10_oneIf in_X10 co_X10_oneIf dyS_X10_oneIf rfl rfl ⟨(Nat.le_of_ble_eq_true rfl), (Nat.le_of_ble_eq_true rfl)⟩ dX10_tally_25 rfl (Nat.le_of_ble_eq_true rfl) (g_fni ?_)
      refine g_iadd C dX10_tally_28 ?_
      refine g_nmi C (fun v2 ev2 => ?_)
      refine g_istore_n C (i := 1) (lv' := [(1, .int v2), (5, .int (σ 29 (nI j1).toNatClampNeg)), (2, .ref (ad 29)), (3, .int 8), (4, .int (nI j1))]) dX10_tally_29 rfl (by decide) rfl ?_
      refine g_iinc C (i := 4) (v := nI (j1 + 1)) (lv' := [(4, .int (nI (j1 + 1))), (1, .int v2), (5, .int (σ 29 (nI j1).toNatClampNeg)), (2, .ref (ad 29)), (3, .int 8)]) dX10_tally_30 4 rfl (nI_1 _) (by decide) rfl ?_
      refine g_goto C (tgt := 10) dX10_tally_33 (by decide) ?_
      refine g_loc C [1, 3, 4, 0] rfl ?_
      refine kk v2 ?_
      subst ev2
      exact b_X10_tally_29_10_eq _ _ _
  · generalize et1 : loopF (b_X10_tally_29_10 σ) 8 0 = t1
    change K σ φ 10 [(1, .int t1), (2, .ref (ad 29)), (3, .int 8), (4, .int (nI 8))] []
    refine g_iload C (i := 4) dX10_tally_10 3 rfl ?_
    refine g_iload_n C (i := 3) dX10_tally_12 rfl 2 rfl ?_
    refine g_icmp_ge C (tgt := 36) dX10_tally_13 (by decide) (fun h2 => ?_) (fun h2 => ?_)
    · refine g_iload_n C (i := 1) dX10_tally_36 rfl 0 rfl ?_
      have e0 : f_X10_tally_29 σ = t1 := by
        subst et1
        exact f_X10_tally_29_eq _
      exact hi _ _ _ _ _ _ rfl dX10_tally_37 rfl ⟨(congrArg (fun z => some (Value.int z)) e0).symm, rfl, rfl⟩
    · exact absurd (nI_le (Nat.le_refl _) (by decide)) h2
def b_X10_tally_34_10 (σ : Sg) (j1 : Nat) (s1 : Int32) : Int32 := let v2 : Int32 := s1 + (f_X10_oneIf (σ 34 (nI j1).toNatClampNeg)); v2
theorem b_X10_tally_34_10_eq (σ : Sg) (j1 : Nat) (s1 : Int32) : b_X10_tally_34_10 σ j1 s1 = (let v2 : Int32 := s1 + (f_X10_oneIf (σ 34 (nI j1).toNatClampNeg)); v2) := rfl
def f_X10_tally_34 (σ : Sg) : Int32 := let t1 : Int32 := loopF (b_X10_tally_34_10 σ) 8 0; t1
theorem f_X10_tally_34_eq (σ : Sg) : f_X10_tally_34 σ = (let t1 : Int32 := loopF (b_X10_tally_34_10 σ) 8 0; t1) := rfl
set_option maxRecDepth 100000 in
set_option maxHeartbeats 4000000 in
theorem c_X10_tally_34 (l : Launch) (D : va_G) (ad : Nat → Nat) (dA : Nat → ClassId) (z0 : Nat) (tt : Nat → Nat) (σ : Sg) (φ : Fl)   : MC l D ad dA z0 tt yX10_tally (Cond.code yX10_tally cX10_tally 6 (some .int) :: lw_all) { frames := 1, cells := 0, slots := 0, locals := 20 } [.ref (ad 34)] σ φ (Fn (some (.int (f_X10_tally_34 σ))) σ φ) := by
  refine mk_MC (by decide) (Nat.le_of_ble_eq_true rfl) ?_
  intro K C hi hf hv
  change K σ φ 0 [(0, .ref (ad 34))] []
  refine g_iconst C (v := 0) dX10_tally_0 (by decide) ?_
  refine g_istore_n C (i := 1) (lv' := [(1, .int 0), (0, .ref (ad 34))]) dX10_tally_1 rfl (by decide) rfl ?_
  refine g_aload_n C (i := 0) dX10_tally_2 rfl 1 rfl ?_
  refine g_astore_n C (i := 2) (lv' := [(2, .ref (ad 34)), (1, .int 0), (0, .ref (ad 34))]) dX10_tally_3 rfl (by decide) rfl ?_
  refine g_aload_n C (i := 2) dX10_tally_4 rfl 0 rfl ?_
  refine g_alen C 34 1 (fun f => at_34 ad dA σ f) rfl (v := 8) rfl dX10_tally_5 ?_
  refine g_istore_n C (i := 3) (lv' := [(3, .int 8), (2, .ref (ad 34)), (1, .int 0), (0, .ref (ad 34))]) dX10_tally_6 rfl (by decide) rfl ?_
  refine g_iconst C (v := 0) dX10_tally_7 (by decide) ?_
  refine g_istore C (i := 4) (lv' := [(4, .int 0), (3, .int 8), (2, .ref (ad 34)), (1, .int 0), (0, .ref (ad 34))]) dX10_tally_8 (by decide) rfl ?_
  refine g_loc C (lv' := [(1, .int 0), (2, .ref (ad 34)), (3, .int 8), (4, .int 0)]) [3, 2, 1, 0] rfl ?_
  refine loopF_ind (b_X10_tally_34_10 σ) 8 (fun (j1 : Nat) (s1 : Int32) => K σ φ 10 [(1, .int s1), (2, .ref (ad 34)), (3, .int 8), (4, .int (nI j1))] []) 0 ?_ ?_
  · intro j1 s1 hj1 kk
    change K σ φ 10 [(1, .int s1), (2, .ref (ad 34)), (3, .int 8), (4, .int (nI j1))] []
    refine g_iload C (i := 4) dX10_tally_10 3 rfl ?_
    refine g_iload_n C (i := 3) dX10_tally_12 rfl 2 rfl ?_
    refine g_icmp_ge C (tgt := 36) dX10_tally_13 (by decide) (fun h1 => ?_) (fun h1 => ?_)
    · exact absurd h1 (nI_ge hj1 (by decide))
    · refine g_aload_n C (i := 2) dX10_tally_16 rfl 1 rfl ?_
      refine g_iload C (i := 4) dX10_tally_17 3 rfl ?_
      refine ld_34 C (vp_in_nI (Nat.lt_of_lt_of_le hj1 (by decide)) (by decide)) dX10_tally_19 ?_
      refine g_istore C (i := 5) (lv' := [(5, .int (σ 34 (nI j1).toNatClampNeg)), (1, .int s1), (2, .ref (ad 34)), (3, .int 8), (4, .int (nI j1))]) dX10_tally_20 (by decide) rfl ?_
      refine g_iload_n C (i := 1) dX10_tally_22 rfl 1 rfl ?_
      refine g_iload C (i := 5) dX10_tally_23 0 rfl ?_
      refine g_callS C (st := [.int s1]) (c_X10_oneIf l D ad dA z0 tt σ φ (σ 34 (nI j1).toNatClampNeg)) rfl ml_X10_123 sm_X10_oneIf in_X10 co_X10_oneIf dyS_X10_oneIf rfl rfl ⟨(Nat.le_of_ble_eq_true rfl), (Nat.le_of_ble_eq_true rfl)⟩ dX10_tally_25 rfl (Nat.le_of_ble_eq_true rfl) (g_fni ?_)
      refine g_iadd C dX10_tally_28 ?_
      refine g_nmi C (fun v2 ev2 => ?_)
      refine g_istore_n C (i := 1) (lv' := [(1, .int v2), (5, .int (σ 34 (nI j1).toNatClampNeg)), (2, .ref (ad 34)), (3, .int 8), (4, .int (nI j1))]) dX10_tally_29 rfl (by decide) rfl ?_
      refine g_iinc C (i := 4) (v := nI (j1 + 1)) (lv' := [(4, .int (nI (j1 + 1))), (1, .int v2), (5, .int (σ 34 (nI j1).toNatClampNeg)), (2, .ref (ad 34)), (3, .int 8)]) dX10_tally_30 4 rfl (nI_1 _) (by decide) rfl ?_
      refine g_goto C (tgt := 10) dX10_tally_33 (by decide) ?_
      refine g_loc C [1, 3, 4, 0] rfl ?_
      refine kk v2 ?_
      subst ev2
      exact b_X10_tally_34_10_eq _ _ _
  · generalize et1 : loopF (b_X10_tally_34_10 σ) 8 0 = t1
    change K σ φ 10 [(1, .int t1), (2, .ref (ad 34)), (3, .int 8), (4, .int (nI 8))] []
    refine g_iload C (i := 4) dX10_tally_10 3 rfl ?_
    refine g_iload_n C (i := 3) dX10_tally_12 rfl 2 rfl ?_
    refine g_icmp_ge C (tgt := 36) dX10_tally_13 (by decide) (fun h2 => ?_) (fun h2 => ?_)
    · refine g_iload_n C (i := 1) dX10_tally_36 rfl 0 rfl ?_
      have e0 : f_X10_tally_34 σ = t1 := by
        subst et1
        exact f_X10_tally_34_eq _
      exact hi _ _ _ _ _ _ rfl dX10_tally_37 rfl ⟨(congrArg (fun z => some (Value.int z)) e0).symm, rfl, rfl⟩
    · exact absurd (nI_le (Nat.le_refl _) (by decide)) h2
def b_X10_tally__52_11 (σ : Sg) (x : Int32) (j1 : Nat) (s1 : Int32) : Int32 := let v2 : Int32 := (if (σ 52 (nI j1).toNatClampNeg) = x then 1 else 0); s1 + (f_X10_oneIf v2)
theorem b_X10_tally__52_11_eq (σ : Sg) (x : Int32) (j1 : Nat) (s1 : Int32) : b_X10_tally__52_11 σ x j1 s1 = (let v2 : Int32 := (if (σ 52 (nI j1).toNatClampNeg) = x then 1 else 0); s1 + (f_X10_oneIf v2)) := rfl
def f_X10_tally__52 (σ : Sg) (x : Int32) : Int32 := let t1 : Int32 := loopF (b_X10_tally__52_11 σ x) 80 0; t1
theorem f_X10_tally__52_eq (σ : Sg) (x : Int32) : f_X10_tally__52 σ x = (let t1 : Int32 := loopF (b_X10_tally__52_11 σ x) 80 0; t1) := rfl
set_option maxRecDepth 100000 in
set_option maxHeartbeats 4000000 in
theorem c_X10_tally__52 (l : Launch) (D : va_G) (ad : Nat → Nat) (dA : Nat → ClassId) (z0 : Nat) (tt : Nat → Nat) (σ : Sg) (φ : Fl) (x : Int32)  : MC l D ad dA z0 tt yX10_tally_ (Cond.code yX10_tally_ cX10_tally_ 7 (some .int) :: lw_all) { frames := 1, cells := 0, slots := 0, locals := 20 } [.ref (ad 52), .int x] σ φ (Fn (some (.int (f_X10_tally__52 σ x))) σ φ) := by
  refine mk_MC (by decide) (Nat.le_of_ble_eq_true rfl) ?_
  intro K C hi hf hv
  change K σ φ 0 [(0, .ref (ad 52)), (1, .int x)] []
  refine g_iconst C (v := 0) dX10_tally__0 (by decide) ?_
  refine g_istore_n C (i := 2) (lv' := [(2, .int 0), (0, .ref (ad 52)), (1, .int x)]) dX10_tally__1 rfl (by decide) rfl ?_
  refine g_aload_n C (i := 0) dX10_tally__2 rfl 1 rfl ?_
  refine g_astore_n C (i := 3) (lv' := [(3, .ref (ad 52)), (2, .int 0), (0, .ref (ad 52)), (1, .int x)]) dX10_tally__3 rfl (by decide) rfl ?_
  refine g_aload_n C (i := 3) dX10_tally__4 rfl 0 rfl ?_
  refine g_alen C 52 0 (fun f => at_52 ad dA σ f) rfl (v := 80) rfl dX10_tally__5 ?_
  refine g_istore C (i := 4) (lv' := [(4, .int 80), (3, .ref (ad 52)), (2, .int 0), (0, .ref (ad 52)), (1, .int x)]) dX10_tally__6 (by decide) rfl ?_
  refine g_iconst C (v := 0) dX10_tally__8 (by decide) ?_
  refine g_istore C (i := 5) (lv' := [(5, .int 0), (4, .int 80), (3, .ref (ad 52)), (2, .int 0), (0, .ref (ad 52)), (1, .int x)]) dX10_tally__9 (by decide) rfl ?_
  refine g_loc C (lv' := [(1, .int x), (2, .int 0), (3, .ref (ad 52)), (4, .int 80), (5, .int 0)]) [5, 3, 2, 1, 0] rfl ?_
  refine loopF_ind (b_X10_tally__52_11 σ x) 80 (fun (j1 : Nat) (s1 : Int32) => K σ φ 11 [(1, .int x), (2, .int s1), (3, .ref (ad 52)), (4, .int 80), (5, .int (nI j1))] []) 0 ?_ ?_
  · intro j1 s1 hj1 kk
    change K σ φ 11 [(1, .int x), (2, .int s1), (3, .ref (ad 52)), (4, .int 80), (5, .int (nI j1))] []
    refine g_iload C (i := 5) dX10_tally__11 4 rfl ?_
    refine g_iload C (i := 4) dX10_tally__13 3 rfl ?_
    refine g_icmp_ge C (tgt := 47) dX10_tally__15 (by decide) (fun h1 => ?_) (fun h1 => ?_)
    · exact absurd h1 (nI_ge hj1 (by decide))
    · refine g_aload_n C (i := 3) dX10_tally__18 rfl 2 rfl ?_
      refine g_iload C (i := 5) dX10_tally__19 4 rfl ?_
      refine ld_52 C (vp_in_nI (Nat.lt_of_lt_of_le hj1 (by decide)) (by decide)) dX10_tally__21 ?_
      refine g_istore C (i := 6) (lv' := [(6, .int (σ 52 (nI j1).toNatClampNeg)), (1, .int x), (2, .int s1), (3, .ref (ad 52)), (4, .int 80), (5, .int (nI j1))]) dX10_tally__22 (by decide) rfl ?_
      refine g_iload_n C (i := 2) dX10_tally__24 rfl 2 rfl ?_
      refine g_iload C (i := 6) dX10_tally__25 0 rfl ?_
      refine g_iload_n C (i := 1) dX10_tally__27 rfl 1 rfl ?_
      have J3 : ∀ (v2 : Int32), (if (σ 52 (nI j1).toNatClampNeg) = x then 1 else 0) = v2 → K σ φ 36 [(1, .int x), (3, .ref (ad 52)), (4, .int 80), (5, .int (nI j1))] [.int v2, .int s1] := by
        intro v2 ev2
        refine g_callS C (st := [.int s1]) (c_X10_oneIf l D ad dA z0 tt σ φ v2) rfl ml_X10_123 sm_X10_oneIf in_X10 co_X10_oneIf dyS_X10_oneIf rfl rfl ⟨(Nat.le_of_ble_eq_true rfl), (Nat.le_of_ble_eq_true rfl)⟩ dX10_tally__36 rfl (Nat.le_of_ble_eq_true rfl) (g_fni ?_)
        refine g_iadd C dX10_tally__39 ?_
        refine g_istore_n C (i := 2) (lv' := [(2, .int (s1 + (f_X10_oneIf v2))), (1, .int x), (3, .ref (ad 52)), (4, .int 80), (5, .int (nI j1))]) dX10_tally__40 rfl (by decide) rfl ?_
        refine g_iinc C (i := 5) (v := nI (j1 + 1)) (lv' := [(5, .int (nI (j1 + 1))), (2, .int (s1 + (f_X10_oneIf v2))), (1, .int x), (3, .ref (ad 52)), (4, .int 80)]) dX10_tally__41 4 rfl (nI_1 _) (by decide) rfl ?_
        refine g_goto C (tgt := 11) dX10_tally__44 (by decide) ?_
        refine g_loc C [2, 1, 3, 4, 0] rfl ?_
        refine kk (s1 + (f_X10_oneIf v2)) ?_
        subst ev2
        exact b_X10_tally__52_11_eq _ _ _ _
      refine g_icmp_ne C (tgt := 35) dX10_tally__28 (by decide) (fun h2 => ?_) (fun h2 => ?_)
      · refine g_iconst C (v := 0) dX10_tally__35 (by decide) ?_
        refine g_loc C [1, 3, 4, 5] rfl ?_
        exact J3 _ ((if_neg h2))
      · refine g_iconst C (v := 1) dX10_tally__31 (by decide) ?_
        refine g_goto C (tgt := 36) dX10_tally__32 (by decide) ?_
        refine g_loc C [1, 3, 4, 5] rfl ?_
        exact J3 _ ((if_pos h2))
  · generalize et1 : loopF (b_X10_tally__52_11 σ x) 80 0 = t1
    change K σ φ 11 [(1, .int x), (2, .int t1), (3, .ref (ad 52)), (4, .int 80), (5, .int (nI 80))] []
    refine g_iload C (i := 5) dX10_tally__11 4 rfl ?_
    refine g_iload C (i := 4) dX10_tally__13 3 rfl ?_
    refine g_icmp_ge C (tgt := 47) dX10_tally__15 (by decide) (fun h3 => ?_) (fun h3 => ?_)
    · refine g_iload_n C (i := 2) dX10_tally__47 rfl 1 rfl ?_
      have e0 : f_X10_tally__52 σ x = t1 := by
        subst et1
        exact f_X10_tally__52_eq _ _
      exact hi _ _ _ _ _ _ rfl dX10_tally__48 rfl ⟨(congrArg (fun z => some (Value.int z)) e0).symm, rfl, rfl⟩
    · exact absurd (nI_le (Nat.le_refl _) (by decide)) h3
def b_X10_tally__41_11 (σ : Sg) (x : Int32) (j1 : Nat) (s1 : Int32) : Int32 := let v2 : Int32 := (if (σ 41 (nI j1).toNatClampNeg) = x then 1 else 0); s1 + (f_X10_oneIf v2)
theorem b_X10_tally__41_11_eq (σ : Sg) (x : Int32) (j1 : Nat) (s1 : Int32) : b_X10_tally__41_11 σ x j1 s1 = (let v2 : Int32 := (if (σ 41 (nI j1).toNatClampNeg) = x then 1 else 0); s1 + (f_X10_oneIf v2)) := rfl
def f_X10_tally__41 (σ : Sg) (x : Int32) : Int32 := let t1 : Int32 := loopF (b_X10_tally__41_11 σ x) 80 0; t1
theorem f_X10_tally__41_eq (σ : Sg) (x : Int32) : f_X10_tally__41 σ x = (let t1 : Int32 := loopF (b_X10_tally__41_11 σ x) 80 0; t1) := rfl
set_option maxRecDepth 100000 in
set_option maxHeartbeats 4000000 in
theorem c_X10_tally__41 (l : Launch) (D : va_G) (ad : Nat → Nat) (dA : Nat → ClassId) (z0 : Nat) (tt : Nat → Nat) (σ : Sg) (φ : Fl) (x : Int32)  : MC l D ad dA z0 tt yX10_tally_ (Cond.code yX10_tally_ cX10_tally_ 7 (some .int) :: lw_all) { frames := 1, cells := 0, slots := 0, locals := 20 } [.ref (ad 41), .int x] σ φ (Fn (some (.int (f_X10_tally__41 σ x))) σ φ) := by
  refine mk_MC (by decide) (Nat.le_of_ble_eq_true rfl) ?_
  intro K C hi hf hv
  change K σ φ 0 [(0, .ref (ad 41)), (1, .int x)] []
  refine g_iconst C (v := 0) dX10_tally__0 (by decide) ?_
  refine g_istore_n C (i := 2) (lv' := [(2, .int 0), (0, .ref (ad 41)), (1, .int x)]) dX10_tally__1 rfl (by decide) rfl ?_
  refine g_aload_n C (i := 0) dX10_tally__2 rfl 1 rfl ?_
  refine g_astore_n C (i := 3) (lv' := [(3, .ref (ad 41)), (2, .int 0), (0, .ref (ad 41)), (1, .int x)]) dX10_tally__3 rfl (by decide) rfl ?_
  refine g_aload_n C (i := 3) dX10_tally__4 rfl 0 rfl ?_
  refine g_alen C 41 0 (fun f => at_41 ad dA σ f) rfl (v := 80) rfl dX10_tally__5 ?_
  refine g_istore C (i := 4) (lv' := [(4, .int 80), (3, .ref (ad 41)), (2, .int 0), (0, .ref (ad 41)), (1, .int x)]) dX10_tally__6 (by decide) rfl ?_
  refine g_iconst C (v := 0) dX10_tally__8 (by decide) ?_
  refine g_istore C (i := 5) (lv' := [(5, .int 0), (4, .int 80), (3, .ref (ad 41)), (2, .int 0), (0, .ref (ad 41)), (1, .int x)]) dX10_tally__9 (by decide) rfl ?_
  refine g_loc C (lv' := [(1, .int x), (2, .int 0), (3, .ref (ad 41)), (4, .int 80), (5, .int 0)]) [5, 3, 2, 1, 0] rfl ?_
  refine loopF_ind (b_X10_tally__41_11 σ x) 80 (fun (j1 : Nat) (s1 : Int32) => K σ φ 11 [(1, .int x), (2, .int s1), (3, .ref (ad 41)), (4, .int 80), (5, .int (nI j1))] []) 0 ?_ ?_
  · intro j1 s1 hj1 kk
    change K σ φ 11 [(1, .int x), (2, .int s1), (3, .ref (ad 41)), (4, .int 80), (5, .int (nI j1))] []
    refine g_iload C (i := 5) dX10_tally__11 4 rfl ?_
    refine g_iload C (i := 4) dX10_tally__13 3 rfl ?_
    refine g_icmp_ge C (tgt := 47) dX10_tally__15 (by decide) (fun h1 => ?_) (fun h1 => ?_)
    · exact absurd h1 (nI_ge hj1 (by decide))
    · refine g_aload_n C (i := 3) dX10_tally__18 rfl 2 rfl ?_
      refine g_iload C (i := 5) dX10_tally__19 4 rfl ?_
      refine ld_41 C (vp_in_nI (Nat.lt_of_lt_of_le hj1 (by decide)) (by decide)) dX10_tally__21 ?_
      refine g_istore C (i := 6) (lv' := [(6, .int (σ 41 (nI j1).toNatClampNeg)), (1, .int x), (2, .int s1), (3, .ref (ad 41)), (4, .int 80), (5, .int (nI j1))]) dX10_tally__22 (by decide) rfl ?_
      refine g_iload_n C (i := 2) dX10_tally__24 rfl 2 rfl ?_
      refine g_iload C (i := 6) dX10_tally__25 0 rfl ?_
      refine g_iload_n C (i := 1) dX10_tally__27 rfl 1 rfl ?_
      have J3 : ∀ (v2 : Int32), (if (σ 41 (nI j1).toNatClampNeg) = x then 1 else 0) = v2 → K σ φ 36 [(1, .int x), (3, .ref (ad 41)), (4, .int 80), (5, .int (nI j1))] [.int v2, .int s1] := by
        intro v2 ev2
        refine g_callS C (st := [.int s1]) (c_X10_oneIf l D ad dA z0 tt σ φ v2) rfl ml_X10_123 sm_X10_oneIf in_X10 co_X10_oneIf dyS_X10_oneIf rfl rfl ⟨(Nat.le_of_ble_eq_true rfl), (Nat.le_of_ble_eq_true rfl)⟩ dX10_tally__36 rfl (Nat.le_of_ble_eq_true rfl) (g_fni ?_)
        refine g_iadd C dX10_tally__39 ?_
        refine g_istore_n C (i := 2) (lv' := [(2, .int (s1 + (f_X10_oneIf v2))), (1, .int x), (3, .ref (ad 41)), (4, .int 80), (5, .int (nI j1))]) dX10_tally__40 rfl (by decide) rfl ?_
        refine g_iinc C (i := 5) (v := nI (j1 + 1)) (lv' := [(5, .int (nI (j1 + 1))), (2, .int (s1 + (f_X10_oneIf v2))), (1, .int x), (3, .ref (ad 41)), (4, .int 80)]) dX10_tally__41 4 rfl (nI_1 _) (by decide) rfl ?_
        refine g_goto C (tgt := 11) dX10_tally__44 (by decide) ?_
        refine g_loc C [2, 1, 3, 4, 0] rfl ?_
        refine kk (s1 + (f_X10_oneIf v2)) ?_
        subst ev2
        exact b_X10_tally__41_11_eq _ _ _ _
      refine g_icmp_ne C (tgt := 35) dX10_tally__28 (by decide) (fun h2 => ?_) (fun h2 => ?_)
      · refine g_iconst C (v := 0) dX10_tally__35 (by decide) ?_
        refine g_loc C [1, 3, 4, 5] rfl ?_
        exact J3 _ ((if_neg h2))
      · refine g_iconst C (v := 1) dX10_tally__31 (by decide) ?_
        refine g_goto C (tgt := 36) dX10_tally__32 (by decide) ?_
        refine g_loc C [1, 3, 4, 5] rfl ?_
        exact J3 _ ((if_pos h2))
  · generalize et1 : loopF (b_X10_tally__41_11 σ x) 80 0 = t1
    change K σ φ 11 [(1, .int x), (2, .int t1), (3, .ref (ad 41)), (4, .int 80), (5, .int (nI 80))] []
    refine g_iload C (i := 5) dX10_tally__11 4 rfl ?_
    refine g_iload C (i := 4) dX10_tally__13 3 rfl ?_
    refine g_icmp_ge C (tgt := 47) dX10_tally__15 (by decide) (fun h3 => ?_) (fun h3 => ?_)
    · refine g_iload_n C (i := 2) dX10_tally__47 rfl 1 rfl ?_
      have e0 : f_X10_tally__41 σ x = t1 := by
        subst et1
        exact f_X10_tally__41_eq _ _
      exact hi _ _ _ _ _ _ rfl dX10_tally__48 rfl ⟨(congrArg (fun z => some (Value.int z)) e0).symm, rfl, rfl⟩
    · exact absurd (nI_le (Nat.le_refl _) (by decide)) h3
def b_X6_follow_11 (σ : Sg) (x : Int32) (j1 : Nat) (s1 : UInt32 × UInt32 × Int32 × Fl) : UInt32 × UInt32 × Int32 × Fl := let v6 : UInt32 := (if (σ 33 (nI j1).toNatClampNeg) = 0 then (s1.1) else (let v2 : UInt32 := (if (s1.2.2.1) = 0 then (FP.fadd (s1.1) (FP.fmul (FP.fsub (f_X6_aimOf_31 σ (nI j1) x) (s1.1)) 1048576000)) else (f_X6_aimOf_31 σ (nI j1) x)); let v4 : UInt32 := (if (s1.2.2.1) = 0 then (FP.fadd (s1.2.1) (FP.fmul (FP.fsub (f_X6_aimOf_32 σ (nI j1) x) (s1.2.1)) 1048576000)) else (f_X6_aimOf_32 σ (nI j1) x)); v2)); let v7 : UInt32 := (if (σ 33 (nI j1).toNatClampNeg) = 0 then (s1.2.1) else (let v2 : UInt32 := (if (s1.2.2.1) = 0 then (FP.fadd (s1.1) (FP.fmul (FP.fsub (f_X6_aimOf_31 σ (nI j1) x) (s1.1)) 1048576000)) else (f_X6_aimOf_31 σ (nI j1) x)); let v4 : UInt32 := (if (s1.2.2.1) = 0 then (FP.fadd (s1.2.1) (FP.fmul (FP.fsub (f_X6_aimOf_32 σ (nI j1) x) (s1.2.1)) 1048576000)) else (f_X6_aimOf_32 σ (nI j1) x)); v4)); let v8 : Int32 := (if (σ 33 (nI j1).toNatClampNeg) = 0 then (s1.2.2.1) else (let v2 : UInt32 := (if (s1.2.2.1) = 0 then (FP.fadd (s1.1) (FP.fmul (FP.fsub (f_X6_aimOf_31 σ (nI j1) x) (s1.1)) 1048576000)) else (f_X6_aimOf_31 σ (nI j1) x)); let v4 : UInt32 := (if (s1.2.2.1) = 0 then (FP.fadd (s1.2.1) (FP.fmul (FP.fsub (f_X6_aimOf_32 σ (nI j1) x) (s1.2.1)) 1048576000)) else (f_X6_aimOf_32 σ (nI j1) x)); 0)); let φ10 : Fl := fw (s1.2.2.2) 36 (nI j1).toNatClampNeg v6; let φ11 : Fl := fw φ10 37 (nI j1).toNatClampNeg v7; (v6, v7, v8, φ11)
theorem b_X6_follow_11_eq (σ : Sg) (x : Int32) (j1 : Nat) (s1 : UInt32 × UInt32 × Int32 × Fl) : b_X6_follow_11 σ x j1 s1 = (let v6 : UInt32 := (if (σ 33 (nI j1).toNatClampNeg) = 0 then (s1.1) else (let v2 : UInt32 := (if (s1.2.2.1) = 0 then (FP.fadd (s1.1) (FP.fmul (FP.fsub (f_X6_aimOf_31 σ (nI j1) x) (s1.1)) 1048576000)) else (f_X6_aimOf_31 σ (nI j1) x)); let v4 : UInt32 := (if (s1.2.2.1) = 0 then (FP.fadd (s1.2.1) (FP.fmul (FP.fsub (f_X6_aimOf_32 σ (nI j1) x) (s1.2.1)) 1048576000)) else (f_X6_aimOf_32 σ (nI j1) x)); v2)); let v7 : UInt32 := (if (σ 33 (nI j1).toNatClampNeg) = 0 then (s1.2.1) else (let v2 : UInt32 := (if (s1.2.2.1) = 0 then (FP.fadd (s1.1) (FP.fmul (FP.fsub (f_X6_aimOf_31 σ (nI j1) x) (s1.1)) 1048576000)) else (f_X6_aimOf_31 σ (nI j1) x)); let v4 : UInt32 := (if (s1.2.2.1) = 0 then (FP.fadd (s1.2.1) (FP.fmul (FP.fsub (f_X6_aimOf_32 σ (nI j1) x) (s1.2.1)) 1048576000)) else (f_X6_aimOf_32 σ (nI j1) x)); v4)); let v8 : Int32 := (if (σ 33 (nI j1).toNatClampNeg) = 0 then (s1.2.2.1) else (let v2 : UInt32 := (if (s1.2.2.1) = 0 then (FP.fadd (s1.1) (FP.fmul (FP.fsub (f_X6_aimOf_31 σ (nI j1) x) (s1.1)) 1048576000)) else (f_X6_aimOf_31 σ (nI j1) x)); let v4 : UInt32 := (if (s1.2.2.1) = 0 then (FP.fadd (s1.2.1) (FP.fmul (FP.fsub (f_X6_aimOf_32 σ (nI j1) x) (s1.2.1)) 1048576000)) else (f_X6_aimOf_32 σ (nI j1) x)); 0)); let φ10 : Fl := fw (s1.2.2.2) 36 (nI j1).toNatClampNeg v6; let φ11 : Fl := fw φ10 37 (nI j1).toNatClampNeg v7; (v6, v7, v8, φ11)) := rfl
def f_X6_follow (σ : Sg) (φ : Fl) (x : Int32) : Fl := let t1 : UInt32 × UInt32 × Int32 × Fl := loopF (b_X6_follow_11 σ x) 8 (FP.fconst0, FP.fconst0, 1, φ); t1.2.2.2
theorem f_X6_follow_eq (σ : Sg) (φ : Fl) (x : Int32) : f_X6_follow σ φ x = (let t1 : UInt32 × UInt32 × Int32 × Fl := loopF (b_X6_follow_11 σ x) 8 (FP.fconst0, FP.fconst0, 1, φ); t1.2.2.2) := rfl
set_option maxRecDepth 100000 in
set_option maxHeartbeats 4000000 in
theorem c_X6_follow (l : Launch) (D : va_G) (ad : Nat → Nat) (dA : Nat → ClassId) (z0 : Nat) (tt : Nat → Nat) (σ : Sg) (φ : Fl) (x : Int32)  : MC l D ad dA z0 tt yX6_follow (Cond.code yX6_follow cX6_follow 9 none :: lw_all) { frames := 1, cells := 0, slots := 0, locals := 22 } [.ref (ad 35), .ref (ad 30), .int x] σ φ (Fn none σ (f_X6_follow σ φ x)) := by
  refine mk_MC (by decide) (Nat.le_of_ble_eq_true rfl) ?_
  intro K C hi hf hv
  change K σ φ 0 [(0, .ref (ad 35)), (1, .ref (ad 30)), (2, .int x)] []
  refine g_fconst0 C dX6_follow_0 ?_
  refine g_fstore_n C (i := 3) (lv' := [(3, .float (FP.fconst0)), (0, .ref (ad 35)), (1, .ref (ad 30)), (2, .int x)]) dX6_follow_1 rfl (by decide) rfl ?_
  refine g_fconst0 C dX6_follow_2 ?_
  refine g_fstore C (i := 4) (lv' := [(4, .float (FP.fconst0)), (3, .float (FP.fconst0)), (0, .ref (ad 35)), (1, .ref (ad 30)), (2, .int x)]) dX6_follow_3 (by decide) rfl ?_
  refine g_iconst C (v := 1) dX6_follow_5 (by decide) ?_
  refine g_istore C (i := 5) (lv' := [(5, .int 1), (4, .float (FP.fconst0)), (3, .float (FP.fconst0)), (0, .ref (ad 35)), (1, .ref (ad 30)), (2, .int x)]) dX6_follow_6 (by decide) rfl ?_
  refine g_iconst C (v := 0) dX6_follow_8 (by decide) ?_
  refine g_istore C (i := 6) (lv' := [(6, .int 0), (5, .int 1), (4, .float (FP.fconst0)), (3, .float (FP.fconst0)), (0, .ref (ad 35)), (1, .ref (ad 30)), (2, .int x)]) dX6_follow_9 (by decide) rfl ?_
  refine g_loc C (lv' := [(0, .ref (ad 35)), (1, .ref (ad 30)), (2, .int x), (3, .float (FP.fconst0)), (4, .float (FP.fconst0)), (5, .int 1), (6, .int 0)]) [4, 5, 6, 3, 2, 1, 0] rfl ?_
  refine loopF_ind (b_X6_follow_11 σ x) 8 (fun (j1 : Nat) (s1 : UInt32 × UInt32 × Int32 × Fl) => K σ (s1.2.2.2) 11 [(0, .ref (ad 35)), (1, .ref (ad 30)), (2, .int x), (3, .float (s1.1)), (4, .float (s1.2.1)), (5, .int (s1.2.2.1)), (6, .int (nI j1))] []) (FP.fconst0, FP.fconst0, 1, φ) ?_ ?_
  · intro j1 s1 hj1 kk
    change K σ (s1.2.2.2) 11 [(0, .ref (ad 35)), (1, .ref (ad 30)), (2, .int x), (3, .float (s1.1)), (4, .float (s1.2.1)), (5, .int (s1.2.2.1)), (6, .int (nI j1))] []
    refine g_iload C (i := 6) dX6_follow_11 6 rfl ?_
    refine g_bipush C (v := 8) dX6_follow_13 (by decide) ?_
    refine g_icmp_ge C (tgt := 121) dX6_follow_15 (by decide) (fun h1 => ?_) (fun h1 => ?_)
    · exact absurd h1 (nI_ge hj1 (by decide))
    · refine g_aload_n C (i := 1) dX6_follow_18 rfl 1 rfl ?_
      refine ggN_30_2 C fl_X6_18 dX6_follow_19 ?_
      refine g_iload C (i := 6) dX6_follow_22 6 rfl ?_
      refine ld_33 C (vp_in_nI (Nat.lt_of_lt_of_le hj1 (by decide)) (by decide)) dX6_follow_24 ?_
      have J9 : ∀ (v6 : UInt32), ∀ (v7 : UInt32), ∀ (v8 : Int32), (if (σ 33 (nI j1).toNatClampNeg) = 0 then (s1.1) else (let v2 : UInt32 := (if (s1.2.2.1) = 0 then (FP.fadd (s1.1) (FP.fmul (FP.fsub (f_X6_aimOf_31 σ (nI j1) x) (s1.1)) 1048576000)) else (f_X6_aimOf_31 σ (nI j1) x)); let v4 : UInt32 := (if (s1.2.2.1) = 0 then (FP.fadd (s1.2.1) (FP.fmul (FP.fsub (f_X6_aimOf_32 σ (nI j1) x) (s1.2.1)) 1048576000)) else (f_X6_aimOf_32 σ (nI j1) x)); v2)) = v6 → (if (σ 33 (nI j1).toNatClampNeg) = 0 then (s1.2.1) else (let v2 : UInt32 := (if (s1.2.2.1) = 0 then (FP.fadd (s1.1) (FP.fmul (FP.fsub (f_X6_aimOf_31 σ (nI j1) x) (s1.1)) 1048576000)) else (f_X6_aimOf_31 σ (nI j1) x)); let v4 : UInt32 := (if (s1.2.2.1) = 0 then (FP.fadd (s1.2.1) (FP.fmul (FP.fsub (f_X6_aimOf_32 σ (nI j1) x) (s1.2.1)) 1048576000)) else (f_X6_aimOf_32 σ (nI j1) x)); v4)) = v7 → (if (σ 33 (nI j1).toNatClampNeg) = 0 then (s1.2.2.1) else (let v2 : UInt32 := (if (s1.2.2.1) = 0 then (FP.fadd (s1.1) (FP.fmul (FP.fsub (f_X6_aimOf_31 σ (nI j1) x) (s1.1)) 1048576000)) else (f_X6_aimOf_31 σ (nI j1) x)); let v4 : UInt32 := (if (s1.2.2.1) = 0 then (FP.fadd (s1.2.1) (FP.fmul (FP.fsub (f_X6_aimOf_32 σ (nI j1) x) (s1.2.1)) 1048576000)) else (f_X6_aimOf_32 σ (nI j1) x)); 0)) = v8 → K σ (s1.2.2.2) 98 [(0, .ref (ad 35)), (1, .ref (ad 30)), (2, .int x), (3, .float v6), (4, .float v7), (5, .int v8), (6, .int (nI j1))] [] := by
        intro v6 v7 v8 ev6 ev7 ev8
        refine g_aload_n C (i := 0) dX6_follow_98 rfl 0 rfl ?_
        refine gg_35_0 C fl_X6_9 dX6_follow_99 ?_
        refine g_iload C (i := 6) dX6_follow_102 6 rfl ?_
        refine g_fload_n C (i := 3) dX6_follow_104 rfl 3 rfl ?_
        refine sd_36 C (vp_in_nI (Nat.lt_of_lt_of_le hj1 (by decide)) (by decide)) dX6_follow_105 ?_
        refine g_nmp C (fun φ10 eφ10 => ?_)
        refine g_aload_n C (i := 0) dX6_follow_106 rfl 0 rfl ?_
        refine gg_35_1 C fl_X6_15 dX6_follow_107 ?_
        refine g_iload C (i := 6) dX6_follow_110 6 rfl ?_
        refine g_fload C (i := 4) dX6_follow_112 4 rfl ?_
        refine sd_37 C (vp_in_nI (Nat.lt_of_lt_of_le hj1 (by decide)) (by decide)) dX6_follow_114 ?_
        refine g_nmp C (fun φ11 eφ11 => ?_)
        refine g_iinc C (i := 6) (v := nI (j1 + 1)) (lv' := [(6, .int (nI (j1 + 1))), (0, .ref (ad 35)), (1, .ref (ad 30)), (2, .int x), (3, .float v6), (4, .float v7), (5, .int v8)]) dX6_follow_115 6 rfl (nI_1 _) (by decide) rfl ?_
        refine g_goto C (tgt := 11) dX6_follow_118 (by decide) ?_
        refine g_loc C [1, 2, 3, 4, 5, 6, 0] rfl ?_
        refine kk (v6, v7, v8, φ11) ?_
        subst eφ11
        subst eφ10
        subst ev8
        subst ev7
        subst ev6
        exact b_X6_follow_11_eq _ _ _ _
      refine g_if_eq C (tgt := 98) dX6_follow_25 (by decide) (fun h2 => ?_) (fun h2 => ?_)
      · refine g_loc C [0, 1, 2, 3, 4, 5, 6] rfl ?_
        exact J9 _ _ _ ((if_pos h2)) ((if_pos h2)) ((if_pos h2))
      · refine g_aload_n C (i := 1) dX6_follow_28 rfl 1 rfl ?_
        refine ggN_30_0 C fl_X6_24 dX6_follow_29 ?_
        refine g_iload C (i := 6) dX6_follow_32 6 rfl ?_
        refine g_iload_n C (i := 2) dX6_follow_34 rfl 2 rfl ?_
        refine g_callS C (st := []) (c_X6_aimOf_31 l D ad dA z0 tt σ (s1.2.2.2) (nI j1) x (vp_in_nI (Nat.lt_of_lt_of_le hj1 (by decide)) (by decide))) rfl ml_X6_27 sm_X6_aimOf in_X6 co_X6_aimOf dyS_X6_aimOf rfl rfl ⟨(Nat.le_of_ble_eq_true rfl), (Nat.le_of_ble_eq_true rfl)⟩ dX6_follow_35 rfl (Nat.le_of_ble_eq_true rfl) (g_fnf ?_)
        refine g_fstore C (i := 7) (lv' := [(7, .float (f_X6_aimOf_31 σ (nI j1) x)), (0, .ref (ad 35)), (1, .ref (ad 30)), (2, .int x), (3, .float (s1.1)), (4, .float (s1.2.1)), (5, .int (s1.2.2.1)), (6, .int (nI j1))]) dX6_follow_38 (by decide) rfl ?_
        refine g_aload_n C (i := 1) dX6_follow_40 rfl 2 rfl ?_
        refine ggN_30_1 C fl_X6_31 dX6_follow_41 ?_
        refine g_iload C (i := 6) dX6_follow_44 7 rfl ?_
        refine g_iload_n C (i := 2) dX6_follow_46 rfl 3 rfl ?_
        refine g_callS C (st := []) (c_X6_aimOf_32 l D ad dA z0 tt σ (s1.2.2.2) (nI j1) x (vp_in_nI (Nat.lt_of_lt_of_le hj1 (by decide)) (by decide))) rfl ml_X6_27 sm_X6_aimOf in_X6 co_X6_aimOf dyS_X6_aimOf rfl rfl ⟨(Nat.le_of_ble_eq_true rfl), (Nat.le_of_ble_eq_true rfl)⟩ dX6_follow_47 rfl (Nat.le_of_ble_eq_true rfl) (g_fnf ?_)
        refine g_fstore C (i := 8) (lv' := [(8, .float (f_X6_aimOf_32 σ (nI j1) x)), (7, .float (f_X6_aimOf_31 σ (nI j1) x)), (0, .ref (ad 35)), (1, .ref (ad 30)), (2, .int x), (3, .float (s1.1)), (4, .float (s1.2.1)), (5, .int (s1.2.2.1)), (6, .int (nI j1))]) dX6_follow_50 (by decide) rfl ?_
        refine g_iload C (i := 5) dX6_follow_52 7 rfl ?_
        have J3 : ∀ (v2 : UInt32), (if (s1.2.2.1) = 0 then (FP.fadd (s1.1) (FP.fmul (FP.fsub (f_X6_aimOf_31 σ (nI j1) x) (s1.1)) 1048576000)) else (f_X6_aimOf_31 σ (nI j1) x)) = v2 → K σ (s1.2.2.2) 71 [(0, .ref (ad 35)), (1, .ref (ad 30)), (2, .int x), (4, .float (s1.2.1)), (5, .int (s1.2.2.1)), (6, .int (nI j1)), (8, .float (f_X6_aimOf_32 σ (nI j1) x))] [.float v2] := by
          intro v2 ev2
          refine g_fstore_n C (i := 3) (lv' := [(3, .float v2), (0, .ref (ad 35)), (1, .ref (ad 30)), (2, .int x), (4, .float (s1.2.1)), (5, .int (s1.2.2.1)), (6, .int (nI j1)), (8, .float (f_X6_aimOf_32 σ (nI j1) x))]) dX6_follow_71 rfl (by decide) rfl ?_
          refine g_iload C (i := 5) dX6_follow_72 5 rfl ?_
          have J5 : ∀ (v4 : UInt32), (if (s1.2.2.1) = 0 then (FP.fadd (s1.2.1) (FP.fmul (FP.fsub (f_X6_aimOf_32 σ (nI j1) x) (s1.2.1)) 1048576000)) else (f_X6_aimOf_32 σ (nI j1) x)) = v4 → K σ (s1.2.2.2) 93 [(0, .ref (ad 35)), (1, .ref (ad 30)), (2, .int x), (3, .float v2), (6, .int (nI j1))] [.float v4] := by
            intro v4 ev4
            refine g_fstore C (i := 4) (lv' := [(4, .float v4), (0, .ref (ad 35)), (1, .ref (ad 30)), (2, .int x), (3, .float v2), (6, .int (nI j1))]) dX6_follow_93 (by decide) rfl ?_
            refine g_iconst C (v := 0) dX6_follow_95 (by decide) ?_
            refine g_istore C (i := 5) (lv' := [(5, .int 0), (4, .float v4), (0, .ref (ad 35)), (1, .ref (ad 30)), (2, .int x), (3, .float v2), (6, .int (nI j1))]) dX6_follow_96 (by decide) rfl ?_
            refine g_loc C [2, 3, 4, 5, 1, 0, 6] rfl ?_
            subst ev4
            subst ev2
            exact J9 _ _ _ ((if_neg h2)) ((if_neg h2)) ((if_neg h2))
          refine g_if_eq C (tgt := 82) dX6_follow_74 (by decide) (fun h4 => ?_) (fun h4 => ?_)
          · refine g_fload C (i := 4) dX6_follow_82 4 rfl ?_
            refine g_fload C (i := 8) dX6_follow_84 7 rfl ?_
            refine g_fload C (i := 4) dX6_follow_86 4 rfl ?_
            refine g_fsub C dX6_follow_88 ?_
            refine g_ldcf C kf_X6_33 dX6_follow_89 ?_
            refine g_fmul C dX6_follow_91 ?_
            refine g_fadd C dX6_follow_92 ?_
            refine g_loc C [1, 2, 3, 0, 6] rfl ?_
            exact J5 _ ((if_pos h4))
          · refine g_fload C (i := 8) dX6_follow_77 7 rfl ?_
            refine g_goto C (tgt := 93) dX6_follow_79 (by decide) ?_
            refine g_loc C [1, 2, 3, 0, 6] rfl ?_
            exact J5 _ ((if_neg h4))
        refine g_if_eq C (tgt := 62) dX6_follow_54 (by decide) (fun h3 => ?_) (fun h3 => ?_)
        · refine g_fload_n C (i := 3) dX6_follow_62 rfl 5 rfl ?_
          refine g_fload C (i := 7) dX6_follow_63 1 rfl ?_
          refine g_fload_n C (i := 3) dX6_follow_65 rfl 5 rfl ?_
          refine g_fsub C dX6_follow_66 ?_
          refine g_ldcf C kf_X6_33 dX6_follow_67 ?_
          refine g_fmul C dX6_follow_69 ?_
          refine g_fadd C dX6_follow_70 ?_
          refine g_loc C [2, 3, 4, 6, 7, 8, 0] rfl ?_
          exact J3 _ ((if_pos h3))
        · refine g_fload C (i := 7) dX6_follow_57 1 rfl ?_
          refine g_goto C (tgt := 71) dX6_follow_59 (by decide) ?_
          refine g_loc C [2, 3, 4, 6, 7, 8, 0] rfl ?_
          exact J3 _ ((if_neg h3))
  · generalize et1 : loopF (b_X6_follow_11 σ x) 8 (FP.fconst0, FP.fconst0, 1, φ) = t1
    change K σ (t1.2.2.2) 11 [(0, .ref (ad 35)), (1, .ref (ad 30)), (2, .int x), (3, .float (t1.1)), (4, .float (t1.2.1)), (5, .int (t1.2.2.1)), (6, .int (nI 8))] []
    refine g_iload C (i := 6) dX6_follow_11 6 rfl ?_
    refine g_bipush C (v := 8) dX6_follow_13 (by decide) ?_
    refine g_icmp_ge C (tgt := 121) dX6_follow_15 (by decide) (fun h5 => ?_) (fun h5 => ?_)
    · have e0 : f_X6_follow σ φ x = t1.2.2.2 := by
        subst et1
        exact f_X6_follow_eq _ _ _
      exact hv _ _ _ _ rfl dX6_follow_121 ⟨rfl, rfl, (congrArg (fun z => z) e0).symm⟩
    · exact absurd (nI_le (Nat.le_refl _) (by decide)) h5
def b_X3_sumUp_19 (j1 : Nat) (v2 : Int32) (j3 : Nat) (s3 : Sg) : Sg := let σ4 : Sg := sw s3 39 (f_X10_placeOf (nI j1) (nI j3)).toNatClampNeg (f_X9_sumFrom s3 (nI j1) (v2 + (8 * (nI j3)))); σ4
theorem b_X3_sumUp_19_eq (j1 : Nat) (v2 : Int32) (j3 : Nat) (s3 : Sg) : b_X3_sumUp_19 j1 v2 j3 s3 = (let σ4 : Sg := sw s3 39 (f_X10_placeOf (nI j1) (nI j3)).toNatClampNeg (f_X9_sumFrom s3 (nI j1) (v2 + (8 * (nI j3)))); σ4) := rfl
def b_X3_sumUp_2  (j1 : Nat) (s1 : Sg) : Sg := let v2 : Int32 := (s1 27 (nI j1).toNatClampNeg) + 16; let t3 : Sg := loopF (b_X3_sumUp_19 j1 v2) 10 s1; t3
theorem b_X3_sumUp_2_eq  (j1 : Nat) (s1 : Sg) : b_X3_sumUp_2  j1 s1 = (let v2 : Int32 := (s1 27 (nI j1).toNatClampNeg) + 16; let t3 : Sg := loopF (b_X3_sumUp_19 j1 v2) 10 s1; t3) := rfl
def f_X3_sumUp (σ : Sg) : Sg := let t1 : Sg := loopF b_X3_sumUp_2 8 σ; t1
theorem f_X3_sumUp_eq (σ : Sg) : f_X3_sumUp σ = (let t1 : Sg := loopF b_X3_sumUp_2 8 σ; t1) := rfl
set_option maxRecDepth 100000 in
set_option maxHeartbeats 4000000 in
theorem c_X3_sumUp (l : Launch) (D : va_G) (ad : Nat → Nat) (dA : Nat → ClassId) (z0 : Nat) (tt : Nat → Nat) (σ : Sg) (φ : Fl)   : MC l D ad dA z0 tt yX3_sumUp (Cond.code yX3_sumUp cX3_sumUp 6 none :: lw_all) { frames := 2, cells := 0, slots := 0, locals := 46 } [.ref (ad 38), .ref (ad 15), .ref (ad 27)] σ φ (Fn none (f_X3_sumUp σ) φ) := by
  refine mk_MC (by decide) (Nat.le_of_ble_eq_true rfl) ?_
  intro K C hi hf hv
  change K σ φ 0 [(0, .ref (ad 38)), (1, .ref (ad 15)), (2, .ref (ad 27))] []
  refine g_iconst C (v := 0) dX3_sumUp_0 (by decide) ?_
  refine g_istore_n C (i := 3) (lv' := [(3, .int 0), (0, .ref (ad 38)), (1, .ref (ad 15)), (2, .ref (ad 27))]) dX3_sumUp_1 rfl (by decide) rfl ?_
  refine g_loc C (lv' := [(0, .ref (ad 38)), (1, .ref (ad 15)), (2, .ref (ad 27)), (3, .int 0)]) [1, 2, 3, 0] rfl ?_
  refine loopF_ind b_X3_sumUp_2 8 (fun (j1 : Nat) (s1 : Sg) => K s1 φ 2 [(0, .ref (ad 38)), (1, .ref (ad 15)), (2, .ref (ad 27)), (3, .int (nI j1))] []) σ ?_ ?_
  · intro j1 s1 hj1 kk
    change K s1 φ 2 [(0, .ref (ad 38)), (1, .ref (ad 15)), (2, .ref (ad 27)), (3, .int (nI j1))] []
    refine g_iload_n C (i := 3) dX3_sumUp_2 rfl 3 rfl ?_
    refine g_bipush C (v := 8) dX3_sumUp_3 (by decide) ?_
    refine g_icmp_ge C (tgt := 62) dX3_sumUp_5 (by decide) (fun h1 => ?_) (fun h1 => ?_)
    · exact absurd h1 (nI_ge hj1 (by decide))
    · refine g_aload_n C (i := 2) dX3_sumUp_8 rfl 2 rfl ?_
      refine g_iload_n C (i := 3) dX3_sumUp_9 rfl 3 rfl ?_
      refine ld_27 C (vp_in_nI (Nat.lt_of_lt_of_le hj1 (by decide)) (by decide)) dX3_sumUp_10 ?_
      refine g_bipush C (v := 16) dX3_sumUp_11 (by decide) ?_
      refine g_iadd C dX3_sumUp_13 ?_
      refine g_nmi C (fun v2 ev2 => ?_)
      refine g_istore C (i := 4) (lv' := [(4, .int v2), (0, .ref (ad 38)), (1, .ref (ad 15)), (2, .ref (ad 27)), (3, .int (nI j1))]) dX3_sumUp_14 (by decide) rfl ?_
      refine g_iconst C (v := 0) dX3_sumUp_16 (by decide) ?_
      refine g_istore C (i := 5) (lv' := [(5, .int 0), (4, .int v2), (0, .ref (ad 38)), (1, .ref (ad 15)), (2, .ref (ad 27)), (3, .int (nI j1))]) dX3_sumUp_17 (by decide) rfl ?_
      refine g_loc C (lv' := [(0, .ref (ad 38)), (1, .ref (ad 15)), (2, .ref (ad 27)), (3, .int (nI j1)), (4, .int v2), (5, .int 0)]) [2, 3, 4, 5, 1, 0] rfl ?_
      refine loopF_ind (b_X3_sumUp_19 j1 v2) 10 (fun (j3 : Nat) (s3 : Sg) => K s3 φ 19 [(0, .ref (ad 38)), (1, .ref (ad 15)), (2, .ref (ad 27)), (3, .int (nI j1)), (4, .int v2), (5, .int (nI j3))] []) s1 ?_ ?_
      · intro j3 s3 hj3 kk
        change K s3 φ 19 [(0, .ref (ad 38)), (1, .ref (ad 15)), (2, .ref (ad 27)), (3, .int (nI j1)), (4, .int v2), (5, .int (nI j3))] []
        refine g_iload C (i := 5) dX3_sumUp_19 5 rfl ?_
        refine g_bipush C (v := 10) dX3_sumUp_21 (by decide) ?_
        refine g_icmp_ge C (tgt := 56) dX3_sumUp_23 (by decide) (fun h2 => ?_) (fun h2 => ?_)
        · exact absurd h2 (nI_ge hj3 (by decide))
        · refine g_aload_n C (i := 0) dX3_sumUp_26 rfl 0 rfl ?_
          refine gg_38_0 C fl_X3_9 dX3_sumUp_27 ?_
          refine g_iload_n C (i := 3) dX3_sumUp_30 rfl 3 rfl ?_
          refine g_iload C (i := 5) dX3_sumUp_31 5 rfl ?_
          refine g_callSN C (st := [.ref (ad 39)]) (c_X10_placeOf l D ad dA z0 tt s3 φ (nI j1) (nI j3)) rfl ml_X3_40 sm_X10_placeOf in_X10 co_X10_placeOf dyS_X10_placeOf rfl rfl ⟨(Nat.le_of_ble_eq_true rfl), (Nat.le_of_ble_eq_true rfl)⟩ dX3_sumUp_33 rfl (Nat.le_of_ble_eq_true rfl) (g_fni ?_)
          refine g_aload_n C (i := 1) dX3_sumUp_36 rfl 1 rfl ?_
          refine g_iload_n C (i := 3) dX3_sumUp_37 rfl 3 rfl ?_
          refine g_iload C (i := 4) dX3_sumUp_38 4 rfl ?_
          refine g_bipush C (v := 8) dX3_sumUp_40 (by decide) ?_
          refine g_iload C (i := 5) dX3_sumUp_42 5 rfl ?_
          refine g_imul C dX3_sumUp_44 ?_
          refine g_iadd C dX3_sumUp_45 ?_
          refine g_callV C (st := [.int (f_X10_placeOf (nI j1) (nI j3)), .ref (ad 39)]) (c_X9_sumFrom l D ad dA z0 tt s3 φ (nI j1) (v2 + (8 * (nI j3)))) rfl ml_X3_52 im_X9_sumFrom se_X9_sumFrom in_X9 co_X9_sumFrom dyV_X9_sumFrom rfl rfl ⟨(Nat.le_of_ble_eq_true rfl), (Nat.le_of_ble_eq_true rfl)⟩ 15 9 (fun f => at_15 ad dA s3 f) rfl dX3_sumUp_46 rfl (Nat.le_of_ble_eq_true rfl) (g_fni ?_)
          refine sd_39 C (pl_in (vp_in_nI (Nat.lt_of_lt_of_le hj1 (by decide)) (by decide)) (vp_in_nI (Nat.lt_of_lt_of_le hj3 (by decide)) (by decide))) dX3_sumUp_49 ?_
          refine g_nms C (fun σ4 eσ4 => ?_)
          refine g_iinc C (i := 5) (v := nI (j3 + 1)) (lv' := [(5, .int (nI (j3 + 1))), (0, .ref (ad 38)), (1, .ref (ad 15)), (2, .ref (ad 27)), (3, .int (nI j1)), (4, .int v2)]) dX3_sumUp_50 5 rfl (nI_1 _) (by decide) rfl ?_
          refine g_goto C (tgt := 19) dX3_sumUp_53 (by decide) ?_
          refine g_loc C [1, 2, 3, 4, 5, 0] rfl ?_
          refine kk σ4 ?_
          subst eσ4
          exact b_X3_sumUp_19_eq _ _ _ _
      · generalize et3 : loopF (b_X3_sumUp_19 j1 v2) 10 s1 = t3
        change K t3 φ 19 [(0, .ref (ad 38)), (1, .ref (ad 15)), (2, .ref (ad 27)), (3, .int (nI j1)), (4, .int v2), (5, .int (nI 10))] []
        refine g_iload C (i := 5) dX3_sumUp_19 5 rfl ?_
        refine g_bipush C (v := 10) dX3_sumUp_21 (by decide) ?_
        refine g_icmp_ge C (tgt := 56) dX3_sumUp_23 (by decide) (fun h3 => ?_) (fun h3 => ?_)
        · refine g_iinc C (i := 3) (v := nI (j1 + 1)) (lv' := [(3, .int (nI (j1 + 1))), (0, .ref (ad 38)), (1, .ref (ad 15)), (2, .ref (ad 27)), (4, .int v2), (5, .int (nI 10))]) dX3_sumUp_56 3 rfl (nI_1 _) (by decide) rfl ?_
          refine g_goto C (tgt := 2) dX3_sumUp_59 (by decide) ?_
          refine g_loc C [1, 2, 3, 0] rfl ?_
          refine kk t3 ?_
          subst et3
          subst ev2
          exact b_X3_sumUp_2_eq _ _
        · exact absurd (nI_le (Nat.le_refl _) (by decide)) h3
  · generalize et1 : loopF b_X3_sumUp_2 8 σ = t1
    change K t1 φ 2 [(0, .ref (ad 38)), (1, .ref (ad 15)), (2, .ref (ad 27)), (3, .int (nI 8))] []
    refine g_iload_n C (i := 3) dX3_sumUp_2 rfl 3 rfl ?_
    refine g_bipush C (v := 8) dX3_sumUp_3 (by decide) ?_
    refine g_icmp_ge C (tgt := 62) dX3_sumUp_5 (by decide) (fun h4 => ?_) (fun h4 => ?_)
    · have e0 : f_X3_sumUp σ = t1 := by
        subst et1
        exact f_X3_sumUp_eq _
      exact hv _ _ _ _ rfl dX3_sumUp_62 ⟨rfl, (congrArg (fun z => z) e0).symm, rfl⟩
    · exact absurd (nI_le (Nat.le_refl _) (by decide)) h4
def b_X3_splitSegment_22 (σ : Sg) (x : Int32) (y : Int32) (w : Int32) (j1 : Nat) (s1 : Int32 × Int32 × Int32) : Int32 × Int32 × Int32 := let v2 : Int32 := f_X3_chromaAt σ x ((16 + (8 * y)) + (nI j1)) w; let v3 : Int32 := f_X10_turnAt x (((σ 27 x.toNatClampNeg) + (16 + (8 * y))) + (nI j1)); let v4 : Int32 := (s1.2.1) + (v2 * (sa_0 v3.toNatClampNeg)); let v5 : Int32 := (s1.2.2) + (v2 * (sa_1 v3.toNatClampNeg)); ((s1.1) + v2, v4, v5)
theorem b_X3_splitSegment_22_eq (σ : Sg) (x : Int32) (y : Int32) (w : Int32) (j1 : Nat) (s1 : Int32 × Int32 × Int32) : b_X3_splitSegment_22 σ x y w j1 s1 = (let v2 : Int32 := f_X3_chromaAt σ x ((16 + (8 * y)) + (nI j1)) w; let v3 : Int32 := f_X10_turnAt x (((σ 27 x.toNatClampNeg) + (16 + (8 * y))) + (nI j1)); let v4 : Int32 := (s1.2.1) + (v2 * (sa_0 v3.toNatClampNeg)); let v5 : Int32 := (s1.2.2) + (v2 * (sa_1 v3.toNatClampNeg)); ((s1.1) + v2, v4, v5)) := rfl
def f_X3_splitSegment (σ : Sg) (x : Int32) (y : Int32) (w : Int32) : Sg := let t1 : Int32 × Int32 × Int32 := loopF (b_X3_splitSegment_22 σ x y w) 8 (0, 0, 0); let σ6 : Sg := sw σ 40 (f_X10_placeOf x y).toNatClampNeg (f_J9_floorDiv_7cf53 ((4 * (σ 39 (f_X10_placeOf x y).toNatClampNeg)) - (t1.1)) 32); let σ7 : Sg := sw σ6 41 (f_X10_placeOf x y).toNatClampNeg w; let σ8 : Sg := sw σ7 42 (f_X10_placeOf x y).toNatClampNeg (t1.2.1); let σ9 : Sg := sw σ8 43 (f_X10_placeOf x y).toNatClampNeg (t1.2.2); σ9
theorem f_X3_splitSegment_eq (σ : Sg) (x : Int32) (y : Int32) (w : Int32) : f_X3_splitSegment σ x y w = (let t1 : Int32 × Int32 × Int32 := loopF (b_X3_splitSegment_22 σ x y w) 8 (0, 0, 0); let σ6 : Sg := sw σ 40 (f_X10_placeOf x y).toNatClampNeg (f_J9_floorDiv_7cf53 ((4 * (σ 39 (f_X10_placeOf x y).toNatClampNeg)) - (t1.1)) 32); let σ7 : Sg := sw σ6 41 (f_X10_placeOf x y).toNatClampNeg w; let σ8 : Sg := sw σ7 42 (f_X10_placeOf x y).toNatClampNeg (t1.2.1); let σ9 : Sg := sw σ8 43 (f_X10_placeOf x y).toNatClampNeg (t1.2.2); σ9) := rfl
set_option maxRecDepth 100000 in
set_option maxHeartbeats 4000000 in
theorem c_X3_splitSegment (l : Launch) (D : va_G) (ad : Nat → Nat) (dA : Nat → ClassId) (z0 : Nat) (tt : Nat → Nat) (σ : Sg) (φ : Fl) (x : Int32) (y : Int32) (w : Int32) (hx : vp_in x 8) (hy : vp_in y 10) : MC l D ad dA z0 tt yX3_splitSegment (Cond.code yX3_splitSegment cX3_splitSegment 13 none :: lw_all) { frames := 4, cells := 0, slots := 0, locals := 90 } [.ref (ad 38), .ref (ad 15), .ref (ad 27), .int x, .int y, .int w] σ φ (Fn none (f_X3_splitSegment σ x y w) φ) := by
  refine mk_MC (by decide) (Nat.le_of_ble_eq_true rfl) ?_
  intro K C hi hf hv
  change K σ φ 0 [(0, .ref (ad 38)), (1, .ref (ad 15)), (2, .ref (ad 27)), (3, .int x), (4, .int y), (5, .int w)] []
  refine g_iconst C (v := 0) dX3_splitSegment_0 (by decide) ?_
  refine g_istore C (i := 6) (lv' := [(6, .int 0), (0, .ref (ad 38)), (1, .ref (ad 15)), (2, .ref (ad 27)), (3, .int x), (4, .int y), (5, .int w)]) dX3_splitSegment_1 (by decide) rfl ?_
  refine g_iconst C (v := 0) dX3_splitSegment_3 (by decide) ?_
  refine g_istore C (i := 7) (lv' := [(7, .int 0), (6, .int 0), (0, .ref (ad 38)), (1, .ref (ad 15)), (2, .ref (ad 27)), (3, .int x), (4, .int y), (5, .int w)]) dX3_splitSegment_4 (by decide) rfl ?_
  refine g_iconst C (v := 0) dX3_splitSegment_6 (by decide) ?_
  refine g_istore C (i := 8) (lv' := [(8, .int 0), (7, .int 0), (6, .int 0), (0, .ref (ad 38)), (1, .ref (ad 15)), (2, .ref (ad 27)), (3, .int x), (4, .int y), (5, .int w)]) dX3_splitSegment_7 (by decide) rfl ?_
  refine g_bipush C (v := 16) dX3_splitSegment_9 (by decide) ?_
  refine g_bipush C (v := 8) dX3_splitSegment_11 (by decide) ?_
  refine g_iload C (i := 4) dX3_splitSegment_13 7 rfl ?_
  refine g_imul C dX3_splitSegment_15 ?_
  refine g_iadd C dX3_splitSegment_16 ?_
  refine g_istore C (i := 9) (lv' := [(9, .int (16 + (8 * y))), (8, .int 0), (7, .int 0), (6, .int 0), (0, .ref (ad 38)), (1, .ref (ad 15)), (2, .ref (ad 27)), (3, .int x), (4, .int y), (5, .int w)]) dX3_splitSegment_17 (by decide) rfl ?_
  refine g_iconst C (v := 0) dX3_splitSegment_19 (by decide) ?_
  refine g_istore C (i := 10) (lv' := [(10, .int 0), (9, .int (16 + (8 * y))), (8, .int 0), (7, .int 0), (6, .int 0), (0, .ref (ad 38)), (1, .ref (ad 15)), (2, .ref (ad 27)), (3, .int x), (4, .int y), (5, .int w)]) dX3_splitSegment_20 (by decide) rfl ?_
  refine g_loc C (lv' := [(0, .ref (ad 38)), (1, .ref (ad 15)), (2, .ref (ad 27)), (3, .int x), (4, .int y), (5, .int w), (6, .int 0), (7, .int 0), (8, .int 0), (9, .int (16 + (8 * y))), (10, .int 0)]) [5, 6, 7, 8, 9, 10, 4, 3, 2, 1, 0] rfl ?_
  refine loopF_ind (b_X3_splitSegment_22 σ x y w) 8 (fun (j1 : Nat) (s1 : Int32 × Int32 × Int32) => K σ φ 22 [(0, .ref (ad 38)), (1, .ref (ad 15)), (2, .ref (ad 27)), (3, .int x), (4, .int y), (5, .int w), (6, .int (s1.1)), (7, .int (s1.2.1)), (8, .int (s1.2.2)), (9, .int (16 + (8 * y))), (10, .int (nI j1))] []) (0, 0, 0) ?_ ?_
  · intro j1 s1 hj1 kk
    change K σ φ 22 [(0, .ref (ad 38)), (1, .ref (ad 15)), (2, .ref (ad 27)), (3, .int x), (4, .int y), (5, .int w), (6, .int (s1.1)), (7, .int (s1.2.1)), (8, .int (s1.2.2)), (9, .int (16 + (8 * y))), (10, .int (nI j1))] []
    refine g_iload C (i := 10) dX3_splitSegment_22 10 rfl ?_
    refine g_bipush C (v := 8) dX3_splitSegment_24 (by decide) ?_
    refine g_icmp_ge C (tgt := 100) dX3_splitSegment_26 (by decide) (fun h1 => ?_) (fun h1 => ?_)
    · exact absurd h1 (nI_ge hj1 (by decide))
    · refine g_aload_n C (i := 1) dX3_splitSegment_29 rfl 1 rfl ?_
      refine g_aload_n C (i := 2) dX3_splitSegment_30 rfl 2 rfl ?_
      refine g_iload_n C (i := 3) dX3_splitSegment_31 rfl 3 rfl ?_
      refine g_iload C (i := 9) dX3_splitSegment_32 9 rfl ?_
      refine g_iload C (i := 10) dX3_splitSegment_34 10 rfl ?_
      refine g_iadd C dX3_splitSegment_36 ?_
      refine g_iload C (i := 5) dX3_splitSegment_37 5 rfl ?_
      refine g_callS C (st := []) (c_X3_chromaAt l D ad dA z0 tt σ φ x ((16 + (8 * y)) + (nI j1)) w) rfl ml_X3_70 sm_X3_chromaAt in_X3 co_X3_chromaAt dyS_X3_chromaAt rfl rfl ⟨(Nat.le_of_ble_eq_true rfl), (Nat.le_of_ble_eq_true rfl)⟩ dX3_splitSegment_39 rfl (Nat.le_of_ble_eq_true rfl) (g_fni ?_)
      refine g_nmi C (fun v2 ev2 => ?_)
      refine g_istore C (i := 11) (lv' := [(11, .int v2), (0, .ref (ad 38)), (1, .ref (ad 15)), (2, .ref (ad 27)), (3, .int x), (4, .int y), (5, .int w), (6, .int (s1.1)), (7, .int (s1.2.1)), (8, .int (s1.2.2)), (9, .int (16 + (8 * y))), (10, .int (nI j1))]) dX3_splitSegment_42 (by decide) rfl ?_
      refine g_iload_n C (i := 3) dX3_splitSegment_44 rfl 4 rfl ?_
      refine g_aload_n C (i := 2) dX3_splitSegment_45 rfl 3 rfl ?_
      refine g_iload_n C (i := 3) dX3_splitSegment_46 rfl 4 rfl ?_
      refine ld_27 C hx dX3_splitSegment_47 ?_
      refine g_iload C (i := 9) dX3_splitSegment_48 10 rfl ?_
      refine g_iadd C dX3_splitSegment_50 ?_
      refine g_iload C (i := 10) dX3_splitSegment_51 11 rfl ?_
      refine g_iadd C dX3_splitSegment_53 ?_
      refine g_callSN C (st := []) (c_X10_turnAt l D ad dA z0 tt σ φ x (((σ 27 x.toNatClampNeg) + (16 + (8 * y))) + (nI j1))) rfl ml_X3_74 sm_X10_turnAt in_X10 co_X10_turnAt dyS_X10_turnAt rfl rfl ⟨(Nat.le_of_ble_eq_true rfl), (Nat.le_of_ble_eq_true rfl)⟩ dX3_splitSegment_54 rfl (Nat.le_of_ble_eq_true rfl) (g_fni ?_)
      refine g_nmi C (fun v3 ev3 => ?_)
      refine g_istore C (i := 12) (lv' := [(12, .int v3), (11, .int v2), (0, .ref (ad 38)), (1, .ref (ad 15)), (2, .ref (ad 27)), (3, .int x), (4, .int y), (5, .int w), (6, .int (s1.1)), (7, .int (s1.2.1)), (8, .int (s1.2.2)), (9, .int (16 + (8 * y))), (10, .int (nI j1))]) dX3_splitSegment_57 (by decide) rfl ?_
      refine g_iload C (i := 6) dX3_splitSegment_59 8 rfl ?_
      refine g_iload C (i := 11) dX3_splitSegment_61 1 rfl ?_
      refine g_iadd C dX3_splitSegment_63 ?_
      refine g_istore C (i := 6) (lv' := [(6, .int ((s1.1) + v2)), (12, .int v3), (11, .int v2), (0, .ref (ad 38)), (1, .ref (ad 15)), (2, .ref (ad 27)), (3, .int x), (4, .int y), (5, .int w), (7, .int (s1.2.1)), (8, .int (s1.2.2)), (9, .int (16 + (8 * y))), (10, .int (nI j1))]) dX3_splitSegment_64 (by decide) rfl ?_
      refine g_iload C (i := 7) dX3_splitSegment_66 9 rfl ?_
      refine g_iload C (i := 11) dX3_splitSegment_68 2 rfl ?_
      refine g_getsN C (host := "CompositeDecoder") (C0 := "CompositeDecoder") (hZ0 (z0 := z0)) fl_X3_77 rfl dX3_splitSegment_70 ?_
      refine g_iload C (i := 12) dX3_splitSegment_73 1 rfl ?_
      refine g_ti C (hT0 (z0 := z0)) (by rw [← ev3]; exact (tn_in _ _)) dX3_splitSegment_75 ?_
      refine g_imul C dX3_splitSegment_76 ?_
      refine g_iadd C dX3_splitSegment_77 ?_
      refine g_nmi C (fun v4 ev4 => ?_)
      refine g_istore C (i := 7) (lv' := [(7, .int v4), (6, .int ((s1.1) + v2)), (12, .int v3), (11, .int v2), (0, .ref (ad 38)), (1, .ref (ad 15)), (2, .ref (ad 27)), (3, .int x), (4, .int y), (5, .int w), (8, .int (s1.2.2)), (9, .int (16 + (8 * y))), (10, .int (nI j1))]) dX3_splitSegment_78 (by decide) rfl ?_
      refine g_iload C (i := 8) dX3_splitSegment_80 10 rfl ?_
      refine g_iload C (i := 11) dX3_splitSegment_82 3 rfl ?_
      refine g_getsN C (host := "CompositeDecoder") (C0 := "CompositeDecoder") (hZ1 (z0 := z0)) fl_X3_80 rfl dX3_splitSegment_84 ?_
      refine g_iload C (i := 12) dX3_splitSegment_87 2 rfl ?_
      refine g_ti C (hT1 (z0 := z0)) (by rw [← ev3]; exact (tn_in _ _)) dX3_splitSegment_89 ?_
      refine g_imul C dX3_splitSegment_90 ?_
      refine g_iadd C dX3_splitSegment_91 ?_
      refine g_nmi C (fun v5 ev5 => ?_)
      refine g_istore C (i := 8) (lv' := [(8, .int v5), (7, .int v4), (6, .int ((s1.1) + v2)), (12, .int v3), (11, .int v2), (0, .ref (ad 38)), (1, .ref (ad 15)), (2, .ref (ad 27)), (3, .int x), (4, .int y), (5, .int w), (9, .int (16 + (8 * y))), (10, .int (nI j1))]) dX3_splitSegment_92 (by decide) rfl ?_
      refine g_iinc C (i := 10) (v := nI (j1 + 1)) (lv' := [(10, .int (nI (j1 + 1))), (8, .int v5), (7, .int v4), (6, .int ((s1.1) + v2)), (12, .int v3), (11, .int v2), (0, .ref (ad 38)), (1, .ref (ad 15)), (2, .ref (ad 27)), (3, .int x), (4, .int y), (5, .int w), (9, .int (16 + (8 * y)))]) dX3_splitSegment_94 12 rfl (nI_1 _) (by decide) rfl ?_
      refine g_goto C (tgt := 22) dX3_splitSegment_97 (by decide) ?_
      refine g_loc C [6, 7, 8, 9, 10, 11, 3, 2, 1, 12, 0] rfl ?_
      refine kk ((s1.1) + v2, v4, v5) ?_
      subst ev5
      subst ev4
      subst ev3
      subst ev2
      exact b_X3_splitSegment_22_eq _ _ _ _ _ _
  · generalize et1 : loopF (b_X3_splitSegment_22 σ x y w) 8 (0, 0, 0) = t1
    change K σ φ 22 [(0, .ref (ad 38)), (1, .ref (ad 15)), (2, .ref (ad 27)), (3, .int x), (4, .int y), (5, .int w), (6, .int (t1.1)), (7, .int (t1.2.1)), (8, .int (t1.2.2)), (9, .int (16 + (8 * y))), (10, .int (nI 8))] []
    refine g_iload C (i := 10) dX3_splitSegment_22 10 rfl ?_
    refine g_bipush C (v := 8) dX3_splitSegment_24 (by decide) ?_
    refine g_icmp_ge C (tgt := 100) dX3_splitSegment_26 (by decide) (fun h2 => ?_) (fun h2 => ?_)
    · refine g_iload_n C (i := 3) dX3_splitSegment_100 rfl 3 rfl ?_
      refine g_iload C (i := 4) dX3_splitSegment_101 4 rfl ?_
      refine g_callSN C (st := []) (c_X10_placeOf l D ad dA z0 tt σ φ x y) rfl ml_X3_40 sm_X10_placeOf in_X10 co_X10_placeOf dyS_X10_placeOf rfl rfl ⟨(Nat.le_of_ble_eq_true rfl), (Nat.le_of_ble_eq_true rfl)⟩ dX3_splitSegment_103 rfl (Nat.le_of_ble_eq_true rfl) (g_fni ?_)
      refine g_istore C (i := 10) (lv' := [(10, .int (f_X10_placeOf x y)), (0, .ref (ad 38)), (1, .ref (ad 15)), (2, .ref (ad 27)), (3, .int x), (4, .int y), (5, .int w), (6, .int (t1.1)), (7, .int (t1.2.1)), (8, .int (t1.2.2)), (9, .int (16 + (8 * y)))]) dX3_splitSegment_106 (by decide) rfl ?_
      refine g_aload_n C (i := 0) dX3_splitSegment_108 rfl 1 rfl ?_
      refine gg_38_1 C fl_X3_15 dX3_splitSegment_109 ?_
      refine g_iload C (i := 10) dX3_splitSegment_112 0 rfl ?_
      refine g_iconst C (v := 4) dX3_splitSegment_114 (by decide) ?_
      refine g_aload_n C (i := 0) dX3_splitSegment_115 rfl 1 rfl ?_
      refine gg_38_0 C fl_X3_9 dX3_splitSegment_116 ?_
      refine g_iload C (i := 10) dX3_splitSegment_119 0 rfl ?_
      refine ld_39 C (pl_in hx hy) dX3_splitSegment_121 ?_
      refine g_imul C dX3_splitSegment_122 ?_
      refine g_iload C (i := 6) dX3_splitSegment_123 7 rfl ?_
      refine g_isub C dX3_splitSegment_125 ?_
      refine g_bipush C (v := 32) dX3_splitSegment_126 (by decide) ?_
      refine g_callS C (st := [.int (f_X10_placeOf x y), .ref (ad 40)]) (c_J9_floorDiv_7cf53 l D ad dA z0 tt σ φ ((4 * (σ 39 (f_X10_placeOf x y).toNatClampNeg)) - (t1.1)) 32 (by decide)) rfl ml_X3_83 sm_J9_floorDiv_7cf53 in_J9 co_J9_floorDiv_7cf53 dyS_J9_floorDiv_7cf53 rfl rfl ⟨(Nat.le_of_ble_eq_true rfl), (Nat.le_of_ble_eq_true rfl)⟩ dX3_splitSegment_128 rfl (Nat.le_of_ble_eq_true rfl) (g_fni ?_)
      refine sd_40 C (pl_in hx hy) dX3_splitSegment_131 ?_
      refine g_nms C (fun σ6 eσ6 => ?_)
      refine g_aload_n C (i := 0) dX3_splitSegment_132 rfl 1 rfl ?_
      refine gg_38_2 C fl_X3_18 dX3_splitSegment_133 ?_
      refine g_iload C (i := 10) dX3_splitSegment_136 0 rfl ?_
      refine g_iload C (i := 5) dX3_splitSegment_138 6 rfl ?_
      refine sd_41 C (pl_in hx hy) dX3_splitSegment_140 ?_
      refine g_nms C (fun σ7 eσ7 => ?_)
      refine g_aload_n C (i := 0) dX3_splitSegment_141 rfl 1 rfl ?_
      refine gg_38_3 C fl_X3_21 dX3_splitSegment_142 ?_
      refine g_iload C (i := 10) dX3_splitSegment_145 0 rfl ?_
      refine g_iload C (i := 7) dX3_splitSegment_147 8 rfl ?_
      refine sd_42 C (pl_in hx hy) dX3_splitSegment_149 ?_
      refine g_nms C (fun σ8 eσ8 => ?_)
      refine g_aload_n C (i := 0) dX3_splitSegment_150 rfl 1 rfl ?_
      refine gg_38_4 C fl_X3_24 dX3_splitSegment_151 ?_
      refine g_iload C (i := 10) dX3_splitSegment_154 0 rfl ?_
      refine g_iload C (i := 8) dX3_splitSegment_156 9 rfl ?_
      refine sd_43 C (pl_in hx hy) dX3_splitSegment_158 ?_
      refine g_nms C (fun σ9 eσ9 => ?_)
      have e0 : f_X3_splitSegment σ x y w = σ9 := by
        subst eσ9
        subst eσ8
        subst eσ7
        subst eσ6
        subst et1
        exact f_X3_splitSegment_eq _ _ _ _
      exact hv _ _ _ _ rfl dX3_splitSegment_159 ⟨rfl, (congrArg (fun z => z) e0).symm, rfl⟩
    · exact absurd (nI_le (Nat.le_refl _) (by decide)) h2
def b_X3_separate_44 (σ : Sg) (v1 : Int32) (j4 : Nat) (j5 : Nat) (s5 : Sg) : Sg := let v6 : Int32 := f_X3_wayFor s5 (nI j4) (f_X10_placeOf (nI j4) (nI j5)) v1 (8 * (f_X8_limit σ)); let σ7 : Sg := f_X3_splitSegment s5 (nI j4) (nI j5) v6; σ7
theorem b_X3_separate_44_eq (σ : Sg) (v1 : Int32) (j4 : Nat) (j5 : Nat) (s5 : Sg) : b_X3_separate_44 σ v1 j4 j5 s5 = (let v6 : Int32 := f_X3_wayFor s5 (nI j4) (f_X10_placeOf (nI j4) (nI j5)) v1 (8 * (f_X8_limit σ)); let σ7 : Sg := f_X3_splitSegment s5 (nI j4) (nI j5) v6; σ7) := rfl
def b_X3_separate_34 (σ : Sg) (v1 : Int32) (j4 : Nat) (s4 : Sg) : Sg := let t5 : Sg := loopF (b_X3_separate_44 σ v1 j4) 10 s4; t5
theorem b_X3_separate_34_eq (σ : Sg) (v1 : Int32) (j4 : Nat) (s4 : Sg) : b_X3_separate_34 σ v1 j4 s4 = (let t5 : Sg := loopF (b_X3_separate_44 σ v1 j4) 10 s4; t5) := rfl
def f_X3_separate (σ : Sg) (x : Int32) : Sg := let v1 : Int32 := (if x = 1 then 0 else (f_X8_comb σ)); let σ3 : Sg := f_X3_sumUp σ; let t4 : Sg := loopF (b_X3_separate_34 σ v1) 8 σ3; t4
theorem f_X3_separate_eq (σ : Sg) (x : Int32) : f_X3_separate σ x = (let v1 : Int32 := (if x = 1 then 0 else (f_X8_comb σ)); let σ3 : Sg := f_X3_sumUp σ; let t4 : Sg := loopF (b_X3_separate_34 σ v1) 8 σ3; t4) := rfl
set_option maxRecDepth 100000 in
set_option maxHeartbeats 4000000 in
theorem c_X3_separate (l : Launch) (D : va_G) (ad : Nat → Nat) (dA : Nat → ClassId) (z0 : Nat) (tt : Nat → Nat) (σ : Sg) (φ : Fl) (x : Int32)  : MC l D ad dA z0 tt yX3_separate (Cond.code yX3_separate cX3_separate 10 none :: lw_all) { frames := 5, cells := 0, slots := 0, locals := 122 } [.ref (ad 38), .ref (ad 15), .ref (ad 27), .ref (ad 13), .int x] σ φ (Fn none (f_X3_separate σ x) φ) := by
  refine mk_MC (by decide) (Nat.le_of_ble_eq_true rfl) ?_
  intro K C hi hf hv
  change K σ φ 0 [(0, .ref (ad 38)), (1, .ref (ad 15)), (2, .ref (ad 27)), (3, .ref (ad 13)), (4, .int x)] []
  refine g_iload C (i := 4) dX3_separate_0 4 rfl ?_
  refine g_iconst C (v := 1) dX3_separate_2 (by decide) ?_
  have J2 : ∀ (v1 : Int32), (if x = 1 then 0 else (f_X8_comb σ)) = v1 → K σ φ 14 [(0, .ref (ad 38)), (1, .ref (ad 15)), (2, .ref (ad 27)), (3, .ref (ad 13))] [.int v1] := by
    intro v1 ev1
    refine g_istore C (i := 5) (lv' := [(5, .int v1), (0, .ref (ad 38)), (1, .ref (ad 15)), (2, .ref (ad 27)), (3, .ref (ad 13))]) dX3_separate_14 (by decide) rfl ?_
    refine g_bipush C (v := 8) dX3_separate_16 (by decide) ?_
    refine g_aload_n C (i := 3) dX3_separate_18 rfl 4 rfl ?_
    refine g_callV C (st := [.int 8]) (c_X8_limit l D ad dA z0 tt σ φ ) rfl ml_X3_33 im_X8_limit se_X8_limit in_X8 co_X8_limit dyV_X8_limit rfl rfl ⟨(Nat.le_of_ble_eq_true rfl), (Nat.le_of_ble_eq_true rfl)⟩ 13 8 (fun f => at_13 ad dA σ f) rfl dX3_separate_19 rfl (Nat.le_of_ble_eq_true rfl) (g_fni ?_)
    refine g_imul C dX3_separate_22 ?_
    refine g_istore C (i := 6) (lv' := [(6, .int (8 * (f_X8_limit σ))), (5, .int v1), (0, .ref (ad 38)), (1, .ref (ad 15)), (2, .ref (ad 27)), (3, .ref (ad 13))]) dX3_separate_23 (by decide) rfl ?_
    refine g_aload_n C (i := 0) dX3_separate_25 rfl 2 rfl ?_
    refine g_aload_n C (i := 1) dX3_separate_26 rfl 3 rfl ?_
    refine g_aload_n C (i := 2) dX3_separate_27 rfl 4 rfl ?_
    refine g_callV C (st := []) (c_X3_sumUp l D ad dA z0 tt σ φ ) rfl ml_X3_36 im_X3_sumUp se_X3_sumUp in_X3 co_X3_sumUp dyV_X3_sumUp rfl rfl ⟨(Nat.le_of_ble_eq_true rfl), (Nat.le_of_ble_eq_true rfl)⟩ 38 3 (fun f => at_38 ad dA σ f) rfl dX3_separate_28 rfl (Nat.le_of_ble_eq_true rfl) (g_fnv ?_)
    refine g_nms C (fun σ3 eσ3 => ?_)
    refine g_iconst C (v := 0) dX3_separate_31 (by decide) ?_
    refine g_istore C (i := 7) (lv' := [(7, .int 0), (6, .int (8 * (f_X8_limit σ))), (5, .int v1), (0, .ref (ad 38)), (1, .ref (ad 15)), (2, .ref (ad 27)), (3, .ref (ad 13))]) dX3_separate_32 (by decide) rfl ?_
    refine g_loc C (lv' := [(0, .ref (ad 38)), (1, .ref (ad 15)), (2, .ref (ad 27)), (5, .int v1), (6, .int (8 * (f_X8_limit σ))), (7, .int 0)]) [3, 4, 5, 2, 1, 0] rfl ?_
    refine loopF_ind (b_X3_separate_34 σ v1) 8 (fun (j4 : Nat) (s4 : Sg) => K s4 φ 34 [(0, .ref (ad 38)), (1, .ref (ad 15)), (2, .ref (ad 27)), (5, .int v1), (6, .int (8 * (f_X8_limit σ))), (7, .int (nI j4))] []) σ3 ?_ ?_
    · intro j4 s4 hj4 kk
      change K s4 φ 34 [(0, .ref (ad 38)), (1, .ref (ad 15)), (2, .ref (ad 27)), (5, .int v1), (6, .int (8 * (f_X8_limit σ))), (7, .int (nI j4))] []
      refine g_iload C (i := 7) dX3_separate_34 5 rfl ?_
      refine g_bipush C (v := 8) dX3_separate_36 (by decide) ?_
      refine g_icmp_ge C (tgt := 94) dX3_separate_38 (by decide) (fun h2 => ?_) (fun h2 => ?_)
      · exact absurd h2 (nI_ge hj4 (by decide))
      · refine g_iconst C (v := 0) dX3_separate_41 (by decide) ?_
        refine g_istore C (i := 8) (lv' := [(8, .int 0), (0, .ref (ad 38)), (1, .ref (ad 15)), (2, .ref (ad 27)), (5, .int v1), (6, .int (8 * (f_X8_limit σ))), (7, .int (nI j4))]) dX3_separate_42 (by decide) rfl ?_
        refine g_loc C (lv' := [(0, .ref (ad 38)), (1, .ref (ad 15)), (2, .ref (ad 27)), (5, .int v1), (6, .int (8 * (f_X8_limit σ))), (7, .int (nI j4)), (8, .int 0)]) [1, 2, 3, 4, 5, 6, 0] rfl ?_
        refine loopF_ind (b_X3_separate_44 σ v1 j4) 10 (fun (j5 : Nat) (s5 : Sg) => K s5 φ 44 [(0, .ref (ad 38)), (1, .ref (ad 15)), (2, .ref (ad 27)), (5, .int v1), (6, .int (8 * (f_X8_limit σ))), (7, .int (nI j4)), (8, .int (nI j5))] []) s4 ?_ ?_
        · intro j5 s5 hj5 kk
          change K s5 φ 44 [(0, .ref (ad 38)), (1, .ref (ad 15)), (2, .ref (ad 27)), (5, .int v1), (6, .int (8 * (f_X8_limit σ))), (7, .int (nI j4)), (8, .int (nI j5))] []
          refine g_iload C (i := 8) dX3_separate_44 6 rfl ?_
          refine g_bipush C (v := 10) dX3_separate_46 (by decide) ?_
          refine g_icmp_ge C (tgt := 88) dX3_separate_48 (by decide) (fun h3 => ?_) (fun h3 => ?_)
          · exact absurd h3 (nI_ge hj5 (by decide))
          · refine g_aload_n C (i := 0) dX3_separate_51 rfl 0 rfl ?_
            refine g_iload C (i := 7) dX3_separate_52 5 rfl ?_
            refine g_iload C (i := 7) dX3_separate_54 5 rfl ?_
            refine g_iload C (i := 8) dX3_separate_56 6 rfl ?_
            refine g_callSN C (st := [.int (nI j4), .ref (ad 38)]) (c_X10_placeOf l D ad dA z0 tt s5 φ (nI j4) (nI j5)) rfl ml_X3_40 sm_X10_placeOf in_X10 co_X10_placeOf dyS_X10_placeOf rfl rfl ⟨(Nat.le_of_ble_eq_true rfl), (Nat.le_of_ble_eq_true rfl)⟩ dX3_separate_58 rfl (Nat.le_of_ble_eq_true rfl) (g_fni ?_)
            refine g_iload C (i := 5) dX3_separate_61 3 rfl ?_
            refine g_iload C (i := 6) dX3_separate_63 4 rfl ?_
            refine g_callV C (st := []) (c_X3_wayFor l D ad dA z0 tt s5 φ (nI j4) (f_X10_placeOf (nI j4) (nI j5)) v1 (8 * (f_X8_limit σ)) (pl_in (vp_in_nI (Nat.lt_of_lt_of_le hj4 (by decide)) (by decide)) (vp_in_nI (Nat.lt_of_lt_of_le hj5 (by decide)) (by decide)))) rfl ml_X3_44 im_X3_wayFor se_X3_wayFor in_X3 co_X3_wayFor dyV_X3_wayFor rfl rfl ⟨(Nat.le_of_ble_eq_true rfl), (Nat.le_of_ble_eq_true rfl)⟩ 38 3 (fun f => at_38 ad dA s5 f) rfl dX3_separate_65 rfl (Nat.le_of_ble_eq_true rfl) (g_fni ?_)
            refine g_nmi C (fun v6 ev6 => ?_)
            refine g_istore C (i := 9) (lv' := [(9, .int v6), (0, .ref (ad 38)), (1, .ref (ad 15)), (2, .ref (ad 27)), (5, .int v1), (6, .int (8 * (f_X8_limit σ))), (7, .int (nI j4)), (8, .int (nI j5))]) dX3_separate_68 (by decide) rfl ?_
            refine g_aload_n C (i := 0) dX3_separate_70 rfl 1 rfl ?_
            refine g_aload_n C (i := 1) dX3_separate_71 rfl 2 rfl ?_
            refine g_aload_n C (i := 2) dX3_separate_72 rfl 3 rfl ?_
            refine g_iload C (i := 7) dX3_separate_73 6 rfl ?_
            refine g_iload C (i := 8) dX3_separate_75 7 rfl ?_
            refine g_iload C (i := 9) dX3_separate_77 0 rfl ?_
            refine g_callV C (st := []) (c_X3_splitSegment l D ad dA z0 tt s5 φ (nI j4) (nI j5) v6 (vp_in_nI (Nat.lt_of_lt_of_le hj4 (by decide)) (by decide)) (vp_in_nI (Nat.lt_of_lt_of_le hj5 (by decide)) (by decide))) rfl ml_X3_48 im_X3_splitSegment se_X3_splitSegment in_X3 co_X3_splitSegment dyV_X3_splitSegment rfl rfl ⟨(Nat.le_of_ble_eq_true rfl), (Nat.le_of_ble_eq_true rfl)⟩ 38 3 (fun f => at_38 ad dA s5 f) rfl dX3_separate_79 rfl (Nat.le_of_ble_eq_true rfl) (g_fnv ?_)
            refine g_nms C (fun σ7 eσ7 => ?_)
            refine g_iinc C (i := 8) (v := nI (j5 + 1)) (lv' := [(8, .int (nI (j5 + 1))), (9, .int v6), (0, .ref (ad 38)), (1, .ref (ad 15)), (2, .ref (ad 27)), (5, .int v1), (6, .int (8 * (f_X8_limit σ))), (7, .int (nI j4))]) dX3_separate_82 7 rfl (nI_1 _) (by decide) rfl ?_
            refine g_goto C (tgt := 44) dX3_separate_85 (by decide) ?_
            refine g_loc C [2, 3, 4, 5, 6, 7, 0] rfl ?_
            refine kk σ7 ?_
            subst eσ7
            subst ev6
            exact b_X3_separate_44_eq _ _ _ _ _
        · generalize et5 : loopF (b_X3_separate_44 σ v1 j4) 10 s4 = t5
          change K t5 φ 44 [(0, .ref (ad 38)), (1, .ref (ad 15)), (2, .ref (ad 27)), (5, .int v1), (6, .int (8 * (f_X8_limit σ))), (7, .int (nI j4)), (8, .int (nI 10))] []
          refine g_iload C (i := 8) dX3_separate_44 6 rfl ?_
          refine g_bipush C (v := 10) dX3_separate_46 (by decide) ?_
          refine g_icmp_ge C (tgt := 88) dX3_separate_48 (by decide) (fun h4 => ?_) (fun h4 => ?_)
          · refine g_iinc C (i := 7) (v := nI (j4 + 1)) (lv' := [(7, .int (nI (j4 + 1))), (0, .ref (ad 38)), (1, .ref (ad 15)), (2, .ref (ad 27)), (5, .int v1), (6, .int (8 * (f_X8_limit σ))), (8, .int (nI 10))]) dX3_separate_88 5 rfl (nI_1 _) (by decide) rfl ?_
            refine g_goto C (tgt := 34) dX3_separate_91 (by decide) ?_
            refine g_loc C [1, 2, 3, 4, 5, 0] rfl ?_
            refine kk t5 ?_
            subst et5
            exact b_X3_separate_34_eq _ _ _ _
          · exact absurd (nI_le (Nat.le_refl _) (by decide)) h4
    · generalize et4 : loopF (b_X3_separate_34 σ v1) 8 σ3 = t4
      change K t4 φ 34 [(0, .ref (ad 38)), (1, .ref (ad 15)), (2, .ref (ad 27)), (5, .int v1), (6, .int (8 * (f_X8_limit σ))), (7, .int (nI 8))] []
      refine g_iload C (i := 7) dX3_separate_34 5 rfl ?_
      refine g_bipush C (v := 8) dX3_separate_36 (by decide) ?_
      refine g_icmp_ge C (tgt := 94) dX3_separate_38 (by decide) (fun h5 => ?_) (fun h5 => ?_)
      · have e0 : f_X3_separate σ x = t4 := by
          subst et4
          subst eσ3
          subst ev1
          exact f_X3_separate_eq _ _
        exact hv _ _ _ _ rfl dX3_separate_94 ⟨rfl, (congrArg (fun z => z) e0).symm, rfl⟩
      · exact absurd (nI_le (Nat.le_refl _) (by decide)) h5
  refine g_icmp_ne C (tgt := 10) dX3_separate_3 (by decide) (fun h1 => ?_) (fun h1 => ?_)
  · refine g_aload_n C (i := 3) dX3_separate_10 rfl 3 rfl ?_
    refine g_callV C (st := []) (c_X8_comb l D ad dA z0 tt σ φ ) rfl ml_X3_27 im_X8_comb se_X8_comb in_X8 co_X8_comb dyV_X8_comb rfl rfl ⟨(Nat.le_of_ble_eq_true rfl), (Nat.le_of_ble_eq_true rfl)⟩ 13 8 (fun f => at_13 ad dA σ f) rfl dX3_separate_11 rfl (Nat.le_of_ble_eq_true rfl) (g_fni ?_)
    refine g_loc C [0, 1, 2, 3] rfl ?_
    exact J2 _ ((if_neg h1))
  · refine g_iconst C (v := 0) dX3_separate_6 (by decide) ?_
    refine g_goto C (tgt := 14) dX3_separate_7 (by decide) ?_
    refine g_loc C [0, 1, 2, 3] rfl ?_
    exact J2 _ ((if_pos h1))
def f_X2_turnSegment (σ : Sg) (φ : Fl) (x : Int32) (p : UInt32) (q : UInt32) (y : Int32) : Fl := let v5 : UInt32 := (if (Op.cmpValue (FP.fcmp (FP.fadd (FP.fmul p p) (FP.fmul q q)) (FP.fconst0)) .l) = 0 then (FP.fconst0) else (let v1 : UInt32 := FP.fdiv (FP.i2f (σ 42 x.toNatClampNeg)) 1098907648; let v2 : UInt32 := FP.fdiv (FP.i2f (σ 43 x.toNatClampNeg)) 1098907648; let v3 : UInt32 := FP.fdiv (FP.fmul (FP.fadd (FP.fmul v1 p) (FP.fmul v2 q)) 1117782016) (FP.fadd (FP.fmul p p) (FP.fmul q q)); let v4 : UInt32 := FP.fdiv (FP.fmul (FP.fsub (FP.fmul v2 p) (FP.fmul v1 q)) 1117782016) (FP.fadd (FP.fmul p p) (FP.fmul q q)); if y = 0 then v3 else v3)); let v6 : UInt32 := (if (Op.cmpValue (FP.fcmp (FP.fadd (FP.fmul p p) (FP.fmul q q)) (FP.fconst0)) .l) = 0 then (FP.fconst0) else (let v1 : UInt32 := FP.fdiv (FP.i2f (σ 42 x.toNatClampNeg)) 1098907648; let v2 : UInt32 := FP.fdiv (FP.i2f (σ 43 x.toNatClampNeg)) 1098907648; let v3 : UInt32 := FP.fdiv (FP.fmul (FP.fadd (FP.fmul v1 p) (FP.fmul v2 q)) 1117782016) (FP.fadd (FP.fmul p p) (FP.fmul q q)); let v4 : UInt32 := FP.fdiv (FP.fmul (FP.fsub (FP.fmul v2 p) (FP.fmul v1 q)) 1117782016) (FP.fadd (FP.fmul p p) (FP.fmul q q)); if y = 0 then v4 else (FP.fsub (FP.fconst0) v4))); let φ8 : Fl := fw φ 45 x.toNatClampNeg v5; let φ9 : Fl := fw φ8 46 x.toNatClampNeg v6; φ9
theorem f_X2_turnSegment_eq (σ : Sg) (φ : Fl) (x : Int32) (p : UInt32) (q : UInt32) (y : Int32) : f_X2_turnSegment σ φ x p q y = (let v5 : UInt32 := (if (Op.cmpValue (FP.fcmp (FP.fadd (FP.fmul p p) (FP.fmul q q)) (FP.fconst0)) .l) = 0 then (FP.fconst0) else (let v1 : UInt32 := FP.fdiv (FP.i2f (σ 42 x.toNatClampNeg)) 1098907648; let v2 : UInt32 := FP.fdiv (FP.i2f (σ 43 x.toNatClampNeg)) 1098907648; let v3 : UInt32 := FP.fdiv (FP.fmul (FP.fadd (FP.fmul v1 p) (FP.fmul v2 q)) 1117782016) (FP.fadd (FP.fmul p p) (FP.fmul q q)); let v4 : UInt32 := FP.fdiv (FP.fmul (FP.fsub (FP.fmul v2 p) (FP.fmul v1 q)) 1117782016) (FP.fadd (FP.fmul p p) (FP.fmul q q)); if y = 0 then v3 else v3)); let v6 : UInt32 := (if (Op.cmpValue (FP.fcmp (FP.fadd (FP.fmul p p) (FP.fmul q q)) (FP.fconst0)) .l) = 0 then (FP.fconst0) else (let v1 : UInt32 := FP.fdiv (FP.i2f (σ 42 x.toNatClampNeg)) 1098907648; let v2 : UInt32 := FP.fdiv (FP.i2f (σ 43 x.toNatClampNeg)) 1098907648; let v3 : UInt32 := FP.fdiv (FP.fmul (FP.fadd (FP.fmul v1 p) (FP.fmul v2 q)) 1117782016) (FP.fadd (FP.fmul p p) (FP.fmul q q)); let v4 : UInt32 := FP.fdiv (FP.fmul (FP.fsub (FP.fmul v2 p) (FP.fmul v1 q)) 1117782016) (FP.fadd (FP.fmul p p) (FP.fmul q q)); if y = 0 then v4 else (FP.fsub (FP.fconst0) v4))); let φ8 : Fl := fw φ 45 x.toNatClampNeg v5; let φ9 : Fl := fw φ8 46 x.toNatClampNeg v6; φ9) := rfl
set_option maxRecDepth 100000 in
set_option maxHeartbeats 4000000 in
theorem c_X2_turnSegment (l : Launch) (D : va_G) (ad : Nat → Nat) (dA : Nat → ClassId) (z0 : Nat) (tt : Nat → Nat) (σ : Sg) (φ : Fl) (x : Int32) (p : UInt32) (q : UInt32) (y : Int32) (hx : vp_in x 80) : MC l D ad dA z0 tt yX2_turnSegment (Cond.code yX2_turnSegment cX2_turnSegment 11 none :: lw_all) { frames := 0, cells := 0, slots := 0, locals := 0 } [.ref (ad 44), .ref (ad 38), .int x, .float p, .float q, .int y] σ φ (Fn none σ (f_X2_turnSegment σ φ x p q y)) := by
  refine mk_MC (by decide) (Nat.le_of_ble_eq_true rfl) ?_
  intro K C hi hf hv
  change K σ φ 0 [(0, .ref (ad 44)), (1, .ref (ad 38)), (2, .int x), (3, .float p), (4, .float q), (5, .int y)] []
  refine g_fconst0 C dX2_turnSegment_0 ?_
  refine g_fstore C (i := 6) (lv' := [(6, .float (FP.fconst0)), (0, .ref (ad 44)), (1, .ref (ad 38)), (2, .int x), (3, .float p), (4, .float q), (5, .int y)]) dX2_turnSegment_1 (by decide) rfl ?_
  refine g_fconst0 C dX2_turnSegment_3 ?_
  refine g_fstore C (i := 7) (lv' := [(7, .float (FP.fconst0)), (6, .float (FP.fconst0)), (0, .ref (ad 44)), (1, .ref (ad 38)), (2, .int x), (3, .float p), (4, .float q), (5, .int y)]) dX2_turnSegment_4 (by decide) rfl ?_
  refine g_fload_n C (i := 3) dX2_turnSegment_6 rfl 5 rfl ?_
  refine g_fload_n C (i := 3) dX2_turnSegment_7 rfl 5 rfl ?_
  refine g_fmul C dX2_turnSegment_8 ?_
  refine g_fload C (i := 4) dX2_turnSegment_9 6 rfl ?_
  refine g_fload C (i := 4) dX2_turnSegment_11 6 rfl ?_
  refine g_fmul C dX2_turnSegment_13 ?_
  refine g_fadd C dX2_turnSegment_14 ?_
  refine g_fstore C (i := 8) (lv' := [(8, .float (FP.fadd (FP.fmul p p) (FP.fmul q q))), (7, .float (FP.fconst0)), (6, .float (FP.fconst0)), (0, .ref (ad 44)), (1, .ref (ad 38)), (2, .int x), (3, .float p), (4, .float q), (5, .int y)]) dX2_turnSegment_15 (by decide) rfl ?_
  refine g_fload C (i := 8) dX2_turnSegment_17 0 rfl ?_
  refine g_fconst0 C dX2_turnSegment_19 ?_
  refine g_fcmp C dX2_turnSegment_20 ?_
  have J7 : ∀ (v5 : UInt32), ∀ (v6 : UInt32), (if (Op.cmpValue (FP.fcmp (FP.fadd (FP.fmul p p) (FP.fmul q q)) (FP.fconst0)) .l) = 0 then (FP.fconst0) else (let v1 : UInt32 := FP.fdiv (FP.i2f (σ 42 x.toNatClampNeg)) 1098907648; let v2 : UInt32 := FP.fdiv (FP.i2f (σ 43 x.toNatClampNeg)) 1098907648; let v3 : UInt32 := FP.fdiv (FP.fmul (FP.fadd (FP.fmul v1 p) (FP.fmul v2 q)) 1117782016) (FP.fadd (FP.fmul p p) (FP.fmul q q)); let v4 : UInt32 := FP.fdiv (FP.fmul (FP.fsub (FP.fmul v2 p) (FP.fmul v1 q)) 1117782016) (FP.fadd (FP.fmul p p) (FP.fmul q q)); if y = 0 then v3 else v3)) = v5 → (if (Op.cmpValue (FP.fcmp (FP.fadd (FP.fmul p p) (FP.fmul q q)) (FP.fconst0)) .l) = 0 then (FP.fconst0) else (let v1 : UInt32 := FP.fdiv (FP.i2f (σ 42 x.toNatClampNeg)) 1098907648; let v2 : UInt32 := FP.fdiv (FP.i2f (σ 43 x.toNatClampNeg)) 1098907648; let v3 : UInt32 := FP.fdiv (FP.fmul (FP.fadd (FP.fmul v1 p) (FP.fmul v2 q)) 1117782016) (FP.fadd (FP.fmul p p) (FP.fmul q q)); let v4 : UInt32 := FP.fdiv (FP.fmul (FP.fsub (FP.fmul v2 p) (FP.fmul v1 q)) 1117782016) (FP.fadd (FP.fmul p p) (FP.fmul q q)); if y = 0 then v4 else (FP.fsub (FP.fconst0) v4))) = v6 → K σ φ 95 [(0, .ref (ad 44)), (2, .int x), (6, .float v5), (7, .float v6)] [] := by
    intro v5 v6 ev5 ev6
    refine g_aload_n C (i := 0) dX2_turnSegment_95 rfl 0 rfl ?_
    refine gg_44_0 C fl_X2_9 dX2_turnSegment_96 ?_
    refine g_iload_n C (i := 2) dX2_turnSegment_99 rfl 1 rfl ?_
    refine g_fload C (i := 6) dX2_turnSegment_100 2 rfl ?_
    refine sd_45 C hx dX2_turnSegment_102 ?_
    refine g_nmp C (fun φ8 eφ8 => ?_)
    refine g_aload_n C (i := 0) dX2_turnSegment_103 rfl 0 rfl ?_
    refine gg_44_1 C fl_X2_15 dX2_turnSegment_104 ?_
    refine g_iload_n C (i := 2) dX2_turnSegment_107 rfl 1 rfl ?_
    refine g_fload C (i := 7) dX2_turnSegment_108 3 rfl ?_
    refine sd_46 C hx dX2_turnSegment_110 ?_
    refine g_nmp C (fun φ9 eφ9 => ?_)
    have e0 : f_X2_turnSegment σ φ x p q y = φ9 := by
      subst eφ9
      subst eφ8
      subst ev6
      subst ev5
      exact f_X2_turnSegment_eq _ _ _ _ _ _
    exact hv _ _ _ _ rfl dX2_turnSegment_111 ⟨rfl, rfl, (congrArg (fun z => z) e0).symm⟩
  refine g_if_eq C (tgt := 95) dX2_turnSegment_21 (by decide) (fun h1 => ?_) (fun h1 => ?_)
  · refine g_loc C [3, 5, 2, 1] rfl ?_
    exact J7 _ _ ((if_pos h1)) ((if_pos h1))
  · refine g_aload_n C (i := 1) dX2_turnSegment_24 rfl 4 rfl ?_
    refine ggN_38_3 C fl_X2_50 dX2_turnSegment_25 ?_
    refine g_iload_n C (i := 2) dX2_turnSegment_28 rfl 5 rfl ?_
    refine ld_42 C hx dX2_turnSegment_29 ?_
    refine g_i2f C dX2_turnSegment_30 ?_
    refine g_ldcf C kf_X2_55 dX2_turnSegment_31 ?_
    refine g_fdiv C dX2_turnSegment_33 ?_
    refine g_nmf C (fun v1 ev1 => ?_)
    refine g_fstore C (i := 9) (lv' := [(9, .float v1), (8, .float (FP.fadd (FP.fmul p p) (FP.fmul q q))), (7, .float (FP.fconst0)), (6, .float (FP.fconst0)), (0, .ref (ad 44)), (1, .ref (ad 38)), (2, .int x), (3, .float p), (4, .float q), (5, .int y)]) dX2_turnSegment_34 (by decide) rfl ?_
    refine g_aload_n C (i := 1) dX2_turnSegment_36 rfl 5 rfl ?_
    refine ggN_38_4 C fl_X2_56 dX2_turnSegment_37 ?_
    refine g_iload_n C (i := 2) dX2_turnSegment_40 rfl 6 rfl ?_
    refine ld_43 C hx dX2_turnSegment_41 ?_
    refine g_i2f C dX2_turnSegment_42 ?_
    refine g_ldcf C kf_X2_55 dX2_turnSegment_43 ?_
    refine g_fdiv C dX2_turnSegment_45 ?_
    refine g_nmf C (fun v2 ev2 => ?_)
    refine g_fstore C (i := 10) (lv' := [(10, .float v2), (9, .float v1), (8, .float (FP.fadd (FP.fmul p p) (FP.fmul q q))), (7, .float (FP.fconst0)), (6, .float (FP.fconst0)), (0, .ref (ad 44)), (1, .ref (ad 38)), (2, .int x), (3, .float p), (4, .float q), (5, .int y)]) dX2_turnSegment_46 (by decide) rfl ?_
    refine g_fload C (i := 9) dX2_turnSegment_48 1 rfl ?_
    refine g_fload_n C (i := 3) dX2_turnSegment_50 rfl 8 rfl ?_
    refine g_fmul C dX2_turnSegment_51 ?_
    refine g_fload C (i := 10) dX2_turnSegment_52 0 rfl ?_
    refine g_fload C (i := 4) dX2_turnSegment_54 9 rfl ?_
    refine g_fmul C dX2_turnSegment_56 ?_
    refine g_fadd C dX2_turnSegment_57 ?_
    refine g_ldcf C kf_X2_58 dX2_turnSegment_58 ?_
    refine g_fmul C dX2_turnSegment_60 ?_
    refine g_fload C (i := 8) dX2_turnSegment_61 2 rfl ?_
    refine g_fdiv C dX2_turnSegment_63 ?_
    refine g_nmf C (fun v3 ev3 => ?_)
    refine g_fstore C (i := 6) (lv' := [(6, .float v3), (10, .float v2), (9, .float v1), (8, .float (FP.fadd (FP.fmul p p) (FP.fmul q q))), (7, .float (FP.fconst0)), (0, .ref (ad 44)), (1, .ref (ad 38)), (2, .int x), (3, .float p), (4, .float q), (5, .int y)]) dX2_turnSegment_64 (by decide) rfl ?_
    refine g_fload C (i := 10) dX2_turnSegment_66 1 rfl ?_
    refine g_fload_n C (i := 3) dX2_turnSegment_68 rfl 8 rfl ?_
    refine g_fmul C dX2_turnSegment_69 ?_
    refine g_fload C (i := 9) dX2_turnSegment_70 2 rfl ?_
    refine g_fload C (i := 4) dX2_turnSegment_72 9 rfl ?_
    refine g_fmul C dX2_turnSegment_74 ?_
    refine g_fsub C dX2_turnSegment_75 ?_
    refine g_ldcf C kf_X2_58 dX2_turnSegment_76 ?_
    refine g_fmul C dX2_turnSegment_78 ?_
    refine g_fload C (i := 8) dX2_turnSegment_79 3 rfl ?_
    refine g_fdiv C dX2_turnSegment_81 ?_
    refine g_nmf C (fun v4 ev4 => ?_)
    refine g_fstore C (i := 7) (lv' := [(7, .float v4), (6, .float v3), (10, .float v2), (9, .float v1), (8, .float (FP.fadd (FP.fmul p p) (FP.fmul q q))), (0, .ref (ad 44)), (1, .ref (ad 38)), (2, .int x), (3, .float p), (4, .float q), (5, .int y)]) dX2_turnSegment_82 (by decide) rfl ?_
    refine g_iload C (i := 5) dX2_turnSegment_84 10 rfl ?_
    refine g_if_eq C (tgt := 95) dX2_turnSegment_86 (by decide) (fun h2 => ?_) (fun h2 => ?_)
    · refine g_loc C [5, 7, 1, 0] rfl ?_
      subst ev4
      subst ev3
      subst ev2
      subst ev1
      exact J7 _ _ (((if_neg h1).trans (if_pos h2))) (((if_neg h1).trans (if_pos h2)))
    · refine g_fconst0 C dX2_turnSegment_89 ?_
      refine g_fload C (i := 7) dX2_turnSegment_90 0 rfl ?_
      refine g_fsub C dX2_turnSegment_92 ?_
      refine g_fstore C (i := 7) (lv' := [(7, .float (FP.fsub (FP.fconst0) v4)), (6, .float v3), (10, .float v2), (9, .float v1), (8, .float (FP.fadd (FP.fmul p p) (FP.fmul q q))), (0, .ref (ad 44)), (1, .ref (ad 38)), (2, .int x), (3, .float p), (4, .float q), (5, .int y)]) dX2_turnSegment_93 (by decide) rfl ?_
      refine g_loc C [5, 7, 1, 0] rfl ?_
      subst ev4
      subst ev3
      subst ev2
      subst ev1
      exact J7 _ _ (((if_neg h1).trans (if_neg h2))) (((if_neg h1).trans (if_neg h2)))
def f_X2_mixSegment (φ : Fl) (x : Int32) (y : Int32) : Fl := let φ7 : Fl := (if y = 0 then (let φ1 : Fl := fw φ 47 x.toNatClampNeg (φ 45 x.toNatClampNeg); let φ2 : Fl := fw φ1 48 x.toNatClampNeg (φ1 46 x.toNatClampNeg); φ2) else (if (x - 10) < 0 then (let φ3 : Fl := fw φ 47 x.toNatClampNeg (φ 45 x.toNatClampNeg); let φ4 : Fl := fw φ3 48 x.toNatClampNeg (φ3 46 x.toNatClampNeg); φ4) else (let φ5 : Fl := fw φ 47 x.toNatClampNeg (FP.fmul (FP.fadd (φ 45 x.toNatClampNeg) (φ 45 (x - 10).toNatClampNeg)) 1056964608); let φ6 : Fl := fw φ5 48 x.toNatClampNeg (FP.fmul (FP.fadd (φ5 46 x.toNatClampNeg) (φ5 46 (x - 10).toNatClampNeg)) 1056964608); φ6))); φ7
theorem f_X2_mixSegment_eq (φ : Fl) (x : Int32) (y : Int32) : f_X2_mixSegment φ x y = (let φ7 : Fl := (if y = 0 then (let φ1 : Fl := fw φ 47 x.toNatClampNeg (φ 45 x.toNatClampNeg); let φ2 : Fl := fw φ1 48 x.toNatClampNeg (φ1 46 x.toNatClampNeg); φ2) else (if (x - 10) < 0 then (let φ3 : Fl := fw φ 47 x.toNatClampNeg (φ 45 x.toNatClampNeg); let φ4 : Fl := fw φ3 48 x.toNatClampNeg (φ3 46 x.toNatClampNeg); φ4) else (let φ5 : Fl := fw φ 47 x.toNatClampNeg (FP.fmul (FP.fadd (φ 45 x.toNatClampNeg) (φ 45 (x - 10).toNatClampNeg)) 1056964608); let φ6 : Fl := fw φ5 48 x.toNatClampNeg (FP.fmul (FP.fadd (φ5 46 x.toNatClampNeg) (φ5 46 (x - 10).toNatClampNeg)) 1056964608); φ6))); φ7) := rfl
set_option maxRecDepth 100000 in
set_option maxHeartbeats 4000000 in
theorem c_X2_mixSegment (l : Launch) (D : va_G) (ad : Nat → Nat) (dA : Nat → ClassId) (z0 : Nat) (tt : Nat → Nat) (σ : Sg) (φ : Fl) (x : Int32) (y : Int32) (hx : vp_in x 80) : MC l D ad dA z0 tt yX2_mixSegment (Cond.code yX2_mixSegment cX2_mixSegment 4 none :: lw_all) { frames := 0, cells := 0, slots := 0, locals := 0 } [.ref (ad 44), .int x, .int y] σ φ (Fn none σ (f_X2_mixSegment φ x y)) := by
  refine mk_MC (by decide) (Nat.le_of_ble_eq_true rfl) ?_
  intro K C hi hf hv
  change K σ φ 0 [(0, .ref (ad 44)), (1, .int x), (2, .int y)] []
  refine g_iload_n C (i := 1) dX2_mixSegment_0 rfl 1 rfl ?_
  refine g_bipush C (v := 10) dX2_mixSegment_1 (by decide) ?_
  refine g_isub C dX2_mixSegment_3 ?_
  refine g_istore_n C (i := 3) (lv' := [(3, .int (x - 10)), (0, .ref (ad 44)), (1, .int x), (2, .int y)]) dX2_mixSegment_4 rfl (by decide) rfl ?_
  refine g_iload_n C (i := 2) dX2_mixSegment_5 rfl 3 rfl ?_
  have J8 : ∀ (φ7 : Fl), (if y = 0 then (let φ1 : Fl := fw φ 47 x.toNatClampNeg (φ 45 x.toNatClampNeg); let φ2 : Fl := fw φ1 48 x.toNatClampNeg (φ1 46 x.toNatClampNeg); φ2) else (if (x - 10) < 0 then (let φ3 : Fl := fw φ 47 x.toNatClampNeg (φ 45 x.toNatClampNeg); let φ4 : Fl := fw φ3 48 x.toNatClampNeg (φ3 46 x.toNatClampNeg); φ4) else (let φ5 : Fl := fw φ 47 x.toNatClampNeg (FP.fmul (FP.fadd (φ 45 x.toNatClampNeg) (φ 45 (x - 10).toNatClampNeg)) 1056964608); let φ6 : Fl := fw φ5 48 x.toNatClampNeg (FP.fmul (FP.fadd (φ5 46 x.toNatClampNeg) (φ5 46 (x - 10).toNatClampNeg)) 1056964608); φ6))) = φ7 → K σ φ7 84 [] [] := by
    intro φ7 eφ7
    have e0 : f_X2_mixSegment φ x y = φ7 := by
      subst eφ7
      exact f_X2_mixSegment_eq _ _ _
    exact hv _ _ _ _ rfl dX2_mixSegment_84 ⟨rfl, rfl, (congrArg (fun z => z) e0).symm⟩
  refine g_if_eq C (tgt := 60) dX2_mixSegment_6 (by decide) (fun h1 => ?_) (fun h1 => ?_)
  · refine g_aload_n C (i := 0) dX2_mixSegment_60 rfl 1 rfl ?_
    refine gg_44_2 C fl_X2_18 dX2_mixSegment_61 ?_
    refine g_iload_n C (i := 1) dX2_mixSegment_64 rfl 2 rfl ?_
    refine g_aload_n C (i := 0) dX2_mixSegment_65 rfl 1 rfl ?_
    refine gg_44_0 C fl_X2_9 dX2_mixSegment_66 ?_
    refine g_iload_n C (i := 1) dX2_mixSegment_69 rfl 2 rfl ?_
    refine ld_45 C hx dX2_mixSegment_70 ?_
    refine sd_47 C hx dX2_mixSegment_71 ?_
    refine g_nmp C (fun φ1 eφ1 => ?_)
    refine g_aload_n C (i := 0) dX2_mixSegment_72 rfl 1 rfl ?_
    refine gg_44_3 C fl_X2_21 dX2_mixSegment_73 ?_
    refine g_iload_n C (i := 1) dX2_mixSegment_76 rfl 2 rfl ?_
    refine g_aload_n C (i := 0) dX2_mixSegment_77 rfl 1 rfl ?_
    refine gg_44_1 C fl_X2_15 dX2_mixSegment_78 ?_
    refine g_iload_n C (i := 1) dX2_mixSegment_81 rfl 2 rfl ?_
    refine ld_46 C hx dX2_mixSegment_82 ?_
    refine sd_48 C hx dX2_mixSegment_83 ?_
    refine g_nmp C (fun φ2 eφ2 => ?_)
    refine g_loc C [] rfl ?_
    subst eφ2
    subst eφ1
    exact J8 _ ((if_pos h1))
  · refine g_iload_n C (i := 3) dX2_mixSegment_9 rfl 0 rfl ?_
    refine g_if_lt C (tgt := 60) dX2_mixSegment_10 (by decide) (fun h2 => ?_) (fun h2 => ?_)
    · refine g_aload_n C (i := 0) dX2_mixSegment_60 rfl 1 rfl ?_
      refine gg_44_2 C fl_X2_18 dX2_mixSegment_61 ?_
      refine g_iload_n C (i := 1) dX2_mixSegment_64 rfl 2 rfl ?_
      refine g_aload_n C (i := 0) dX2_mixSegment_65 rfl 1 rfl ?_
      refine gg_44_0 C fl_X2_9 dX2_mixSegment_66 ?_
      refine g_iload_n C (i := 1) dX2_mixSegment_69 rfl 2 rfl ?_
      refine ld_45 C hx dX2_mixSegment_70 ?_
      refine sd_47 C hx dX2_mixSegment_71 ?_
      refine g_nmp C (fun φ3 eφ3 => ?_)
      refine g_aload_n C (i := 0) dX2_mixSegment_72 rfl 1 rfl ?_
      refine gg_44_3 C fl_X2_21 dX2_mixSegment_73 ?_
      refine g_iload_n C (i := 1) dX2_mixSegment_76 rfl 2 rfl ?_
      refine g_aload_n C (i := 0) dX2_mixSegment_77 rfl 1 rfl ?_
      refine gg_44_1 C fl_X2_15 dX2_mixSegment_78 ?_
      refine g_iload_n C (i := 1) dX2_mixSegment_81 rfl 2 rfl ?_
      refine ld_46 C hx dX2_mixSegment_82 ?_
      refine sd_48 C hx dX2_mixSegment_83 ?_
      refine g_nmp C (fun φ4 eφ4 => ?_)
      refine g_loc C [] rfl ?_
      subst eφ4
      subst eφ3
      exact J8 _ (((if_neg h1).trans (if_pos h2)))
    · refine g_aload_n C (i := 0) dX2_mixSegment_13 rfl 1 rfl ?_
      refine gg_44_2 C fl_X2_18 dX2_mixSegment_14 ?_
      refine g_iload_n C (i := 1) dX2_mixSegment_17 rfl 2 rfl ?_
      refine g_aload_n C (i := 0) dX2_mixSegment_18 rfl 1 rfl ?_
      refine gg_44_0 C fl_X2_9 dX2_mixSegment_19 ?_
      refine g_iload_n C (i := 1) dX2_mixSegment_22 rfl 2 rfl ?_
      refine ld_45 C hx dX2_mixSegment_23 ?_
      refine g_aload_n C (i := 0) dX2_mixSegment_24 rfl 1 rfl ?_
      refine gg_44_0 C fl_X2_9 dX2_mixSegment_25 ?_
      refine g_iload_n C (i := 3) dX2_mixSegment_28 rfl 0 rfl ?_
      refine ld_45 C (m10_in hx h2) dX2_mixSegment_29 ?_
      refine g_fadd C dX2_mixSegment_30 ?_
      refine g_ldcf C kf_X2_59 dX2_mixSegment_31 ?_
      refine g_fmul C dX2_mixSegment_33 ?_
      refine sd_47 C hx dX2_mixSegment_34 ?_
      refine g_nmp C (fun φ5 eφ5 => ?_)
      refine g_aload_n C (i := 0) dX2_mixSegment_35 rfl 1 rfl ?_
      refine gg_44_3 C fl_X2_21 dX2_mixSegment_36 ?_
      refine g_iload_n C (i := 1) dX2_mixSegment_39 rfl 2 rfl ?_
      refine g_aload_n C (i := 0) dX2_mixSegment_40 rfl 1 rfl ?_
      refine gg_44_1 C fl_X2_15 dX2_mixSegment_41 ?_
      refine g_iload_n C (i := 1) dX2_mixSegment_44 rfl 2 rfl ?_
      refine ld_46 C hx dX2_mixSegment_45 ?_
      refine g_aload_n C (i := 0) dX2_mixSegment_46 rfl 1 rfl ?_
      refine gg_44_1 C fl_X2_15 dX2_mixSegment_47 ?_
      refine g_iload_n C (i := 3) dX2_mixSegment_50 rfl 0 rfl ?_
      refine ld_46 C (m10_in hx h2) dX2_mixSegment_51 ?_
      refine g_fadd C dX2_mixSegment_52 ?_
      refine g_ldcf C kf_X2_59 dX2_mixSegment_53 ?_
      refine g_fmul C dX2_mixSegment_55 ?_
      refine sd_48 C hx dX2_mixSegment_56 ?_
      refine g_nmp C (fun φ6 eφ6 => ?_)
      refine g_goto C (tgt := 84) dX2_mixSegment_57 (by decide) ?_
      refine g_loc C [] rfl ?_
      subst eφ6
      subst eφ5
      exact J8 _ (((if_neg h1).trans (if_neg h2)))
def b_X2_turn_98 (σ : Sg) (j1 : Nat) (v2 : UInt32) (v4 : UInt32) (v6 : Int32) (v8 : Int32) (j10 : Nat) (s10 : Fl) : Fl := let φ11 : Fl := f_X2_turnSegment σ s10 (f_X10_placeOf (nI j1) (nI j10)) v2 v4 v6; let φ12 : Fl := f_X2_mixSegment φ11 (f_X10_placeOf (nI j1) (nI j10)) v8; φ12
theorem b_X2_turn_98_eq (σ : Sg) (j1 : Nat) (v2 : UInt32) (v4 : UInt32) (v6 : Int32) (v8 : Int32) (j10 : Nat) (s10 : Fl) : b_X2_turn_98 σ j1 v2 v4 v6 v8 j10 s10 = (let φ11 : Fl := f_X2_turnSegment σ s10 (f_X10_placeOf (nI j1) (nI j10)) v2 v4 v6; let φ12 : Fl := f_X2_mixSegment φ11 (f_X10_placeOf (nI j1) (nI j10)) v8; φ12) := rfl
def b_X2_turn_3 (σ : Sg) (x : Int32) (j1 : Nat) (s1 : Fl) : Fl := let v2 : UInt32 := (if (σ 34 (nI j1).toNatClampNeg) = 0 then (FP.fconst0) else (s1 36 (nI j1).toNatClampNeg)); let v4 : UInt32 := (if (σ 34 (nI j1).toNatClampNeg) = 0 then (FP.fconst0) else (s1 37 (nI j1).toNatClampNeg)); let v6 : Int32 := (if x = 1 then (if ((nI j1) &&& 1) = 1 then 1 else 0) else 0); let v8 : Int32 := (if x = 1 then (if (nI j1) ≤ 0 then 0 else 1) else 0); let t10 : Fl := loopF (b_X2_turn_98 σ j1 v2 v4 v6 v8) 10 s1; t10
theorem b_X2_turn_3_eq (σ : Sg) (x : Int32) (j1 : Nat) (s1 : Fl) : b_X2_turn_3 σ x j1 s1 = (let v2 : UInt32 := (if (σ 34 (nI j1).toNatClampNeg) = 0 then (FP.fconst0) else (s1 36 (nI j1).toNatClampNeg)); let v4 : UInt32 := (if (σ 34 (nI j1).toNatClampNeg) = 0 then (FP.fconst0) else (s1 37 (nI j1).toNatClampNeg)); let v6 : Int32 := (if x = 1 then (if ((nI j1) &&& 1) = 1 then 1 else 0) else 0); let v8 : Int32 := (if x = 1 then (if (nI j1) ≤ 0 then 0 else 1) else 0); let t10 : Fl := loopF (b_X2_turn_98 σ j1 v2 v4 v6 v8) 10 s1; t10) := rfl
def f_X2_turn (σ : Sg) (φ : Fl) (x : Int32) : Fl := let t1 : Fl := loopF (b_X2_turn_3 σ x) 8 φ; t1
theorem f_X2_turn_eq (σ : Sg) (φ : Fl) (x : Int32) : f_X2_turn σ φ x = (let t1 : Fl := loopF (b_X2_turn_3 σ x) 8 φ; t1) := rfl
set_option maxRecDepth 100000 in
set_option maxHeartbeats 4000000 in
theorem c_X2_turn (l : Launch) (D : va_G) (ad : Nat → Nat) (dA : Nat → ClassId) (z0 : Nat) (tt : Nat → Nat) (σ : Sg) (φ : Fl) (x : Int32)  : MC l D ad dA z0 tt yX2_turn (Cond.code yX2_turn cX2_turn 12 none :: lw_all) { frames := 1, cells := 0, slots := 0, locals := 30 } [.ref (ad 44), .ref (ad 38), .ref (ad 30), .ref (ad 35), .int x] σ φ (Fn none σ (f_X2_turn σ φ x)) := by
  refine mk_MC (by decide) (Nat.le_of_ble_eq_true rfl) ?_
  intro K C hi hf hv
  change K σ φ 0 [(0, .ref (ad 44)), (1, .ref (ad 38)), (2, .ref (ad 30)), (3, .ref (ad 35)), (4, .int x)] []
  refine g_iconst C (v := 0) dX2_turn_0 (by decide) ?_
  refine g_istore C (i := 5) (lv' := [(5, .int 0), (0, .ref (ad 44)), (1, .ref (ad 38)), (2, .ref (ad 30)), (3, .ref (ad 35)), (4, .int x)]) dX2_turn_1 (by decide) rfl ?_
  refine g_loc C (lv' := [(0, .ref (ad 44)), (1, .ref (ad 38)), (2, .ref (ad 30)), (3, .ref (ad 35)), (4, .int x), (5, .int 0)]) [1, 2, 3, 4, 5, 0] rfl ?_
  refine loopF_ind (b_X2_turn_3 σ x) 8 (fun (j1 : Nat) (s1 : Fl) => K σ s1 3 [(0, .ref (ad 44)), (1, .ref (ad 38)), (2, .ref (ad 30)), (3, .ref (ad 35)), (4, .int x), (5, .int (nI j1))] []) φ ?_ ?_
  · intro j1 s1 hj1 kk
    change K σ s1 3 [(0, .ref (ad 44)), (1, .ref (ad 38)), (2, .ref (ad 30)), (3, .ref (ad 35)), (4, .int x), (5, .int (nI j1))] []
    refine g_iload C (i := 5) dX2_turn_3 5 rfl ?_
    refine g_bipush C (v := 8) dX2_turn_5 (by decide) ?_
    refine g_icmp_ge C (tgt := 147) dX2_turn_7 (by decide) (fun h1 => ?_) (fun h1 => ?_)
    · exact absurd h1 (nI_ge hj1 (by decide))
    · refine g_aload_n C (i := 2) dX2_turn_10 rfl 2 rfl ?_
      refine ggN_30_3 C fl_X2_24 dX2_turn_11 ?_
      refine g_iload C (i := 5) dX2_turn_14 5 rfl ?_
      refine ld_34 C (vp_in_nI (Nat.lt_of_lt_of_le hj1 (by decide)) (by decide)) dX2_turn_16 ?_
      have J3 : ∀ (v2 : UInt32), (if (σ 34 (nI j1).toNatClampNeg) = 0 then (FP.fconst0) else (s1 36 (nI j1).toNatClampNeg)) = v2 → K σ s1 31 [(0, .ref (ad 44)), (1, .ref (ad 38)), (2, .ref (ad 30)), (3, .ref (ad 35)), (4, .int x), (5, .int (nI j1))] [.float v2] := by
        intro v2 ev2
        refine g_fstore C (i := 6) (lv' := [(6, .float v2), (0, .ref (ad 44)), (1, .ref (ad 38)), (2, .ref (ad 30)), (3, .ref (ad 35)), (4, .int x), (5, .int (nI j1))]) dX2_turn_31 (by decide) rfl ?_
        refine g_aload_n C (i := 2) dX2_turn_33 rfl 3 rfl ?_
        refine ggN_30_3 C fl_X2_24 dX2_turn_34 ?_
        refine g_iload C (i := 5) dX2_turn_37 6 rfl ?_
        refine ld_34 C (vp_in_nI (Nat.lt_of_lt_of_le hj1 (by decide)) (by decide)) dX2_turn_39 ?_
        have J5 : ∀ (v4 : UInt32), (if (σ 34 (nI j1).toNatClampNeg) = 0 then (FP.fconst0) else (s1 37 (nI j1).toNatClampNeg)) = v4 → K σ s1 54 [(0, .ref (ad 44)), (1, .ref (ad 38)), (2, .ref (ad 30)), (3, .ref (ad 35)), (4, .int x), (5, .int (nI j1)), (6, .float v2)] [.float v4] := by
          intro v4 ev4
          refine g_fstore C (i := 7) (lv' := [(7, .float v4), (0, .ref (ad 44)), (1, .ref (ad 38)), (2, .ref (ad 30)), (3, .ref (ad 35)), (4, .int x), (5, .int (nI j1)), (6, .float v2)]) dX2_turn_54 (by decide) rfl ?_
          refine g_iload C (i := 4) dX2_turn_56 5 rfl ?_
          refine g_iconst C (v := 1) dX2_turn_58 (by decide) ?_
          have J7 : ∀ (v6 : Int32), (if x = 1 then (if ((nI j1) &&& 1) = 1 then 1 else 0) else 0) = v6 → K σ s1 75 [(0, .ref (ad 44)), (1, .ref (ad 38)), (2, .ref (ad 30)), (3, .ref (ad 35)), (4, .int x), (5, .int (nI j1)), (6, .float v2), (7, .float v4)] [.int v6] := by
            intro v6 ev6
            refine g_istore C (i := 8) (lv' := [(8, .int v6), (0, .ref (ad 44)), (1, .ref (ad 38)), (2, .ref (ad 30)), (3, .ref (ad 35)), (4, .int x), (5, .int (nI j1)), (6, .float v2), (7, .float v4)]) dX2_turn_75 (by decide) rfl ?_
            refine g_iload C (i := 4) dX2_turn_77 5 rfl ?_
            refine g_iconst C (v := 1) dX2_turn_79 (by decide) ?_
            have J9 : ∀ (v8 : Int32), (if x = 1 then (if (nI j1) ≤ 0 then 0 else 1) else 0) = v8 → K σ s1 93 [(0, .ref (ad 44)), (1, .ref (ad 38)), (2, .ref (ad 30)), (3, .ref (ad 35)), (4, .int x), (5, .int (nI j1)), (6, .float v2), (7, .float v4), (8, .int v6)] [.int v8] := by
              intro v8 ev8
              refine g_istore C (i := 9) (lv' := [(9, .int v8), (0, .ref (ad 44)), (1, .ref (ad 38)), (2, .ref (ad 30)), (3, .ref (ad 35)), (4, .int x), (5, .int (nI j1)), (6, .float v2), (7, .float v4), (8, .int v6)]) dX2_turn_93 (by decide) rfl ?_
              refine g_iconst C (v := 0) dX2_turn_95 (by decide) ?_
              refine g_istore C (i := 10) (lv' := [(10, .int 0), (9, .int v8), (0, .ref (ad 44)), (1, .ref (ad 38)), (2, .ref (ad 30)), (3, .ref (ad 35)), (4, .int x), (5, .int (nI j1)), (6, .float v2), (7, .float v4), (8, .int v6)]) dX2_turn_96 (by decide) rfl ?_
              refine g_loc C (lv' := [(0, .ref (ad 44)), (1, .ref (ad 38)), (2, .ref (ad 30)), (3, .ref (ad 35)), (4, .int x), (5, .int (nI j1)), (6, .float v2), (7, .float v4), (8, .int v6), (9, .int v8), (10, .int 0)]) [2, 3, 4, 5, 6, 7, 8, 9, 10, 1, 0] rfl ?_
              refine loopF_ind (b_X2_turn_98 σ j1 v2 v4 v6 v8) 10 (fun (j10 : Nat) (s10 : Fl) => K σ s10 98 [(0, .ref (ad 44)), (1, .ref (ad 38)), (2, .ref (ad 30)), (3, .ref (ad 35)), (4, .int x), (5, .int (nI j1)), (6, .float v2), (7, .float v4), (8, .int v6), (9, .int v8), (10, .int (nI j10))] []) s1 ?_ ?_
              · intro j10 s10 hj10 kk
                change K σ s10 98 [(0, .ref (ad 44)), (1, .ref (ad 38)), (2, .ref (ad 30)), (3, .ref (ad 35)), (4, .int x), (5, .int (nI j1)), (6, .float v2), (7, .float v4), (8, .int v6), (9, .int v8), (10, .int (nI j10))] []
                refine g_iload C (i := 10) dX2_turn_98 10 rfl ?_
                refine g_bipush C (v := 10) dX2_turn_100 (by decide) ?_
                refine g_icmp_ge C (tgt := 141) dX2_turn_102 (by decide) (fun h8 => ?_) (fun h8 => ?_)
                · exact absurd h8 (nI_ge hj10 (by decide))
                · refine g_iload C (i := 5) dX2_turn_105 5 rfl ?_
                  refine g_iload C (i := 10) dX2_turn_107 10 rfl ?_
                  refine g_callSN C (st := []) (c_X10_placeOf l D ad dA z0 tt σ s10 (nI j1) (nI j10)) rfl ml_X2_38 sm_X10_placeOf in_X10 co_X10_placeOf dyS_X10_placeOf rfl rfl ⟨(Nat.le_of_ble_eq_true rfl), (Nat.le_of_ble_eq_true rfl)⟩ dX2_turn_109 rfl (Nat.le_of_ble_eq_true rfl) (g_fni ?_)
                  refine g_istore C (i := 11) (lv' := [(11, .int (f_X10_placeOf (nI j1) (nI j10))), (0, .ref (ad 44)), (1, .ref (ad 38)), (2, .ref (ad 30)), (3, .ref (ad 35)), (4, .int x), (5, .int (nI j1)), (6, .float v2), (7, .float v4), (8, .int v6), (9, .int v8), (10, .int (nI j10))]) dX2_turn_112 (by decide) rfl ?_
                  refine g_aload_n C (i := 0) dX2_turn_114 rfl 1 rfl ?_
                  refine g_aload_n C (i := 1) dX2_turn_115 rfl 2 rfl ?_
                  refine g_iload C (i := 11) dX2_turn_116 0 rfl ?_
                  refine g_fload C (i := 6) dX2_turn_118 7 rfl ?_
                  refine g_fload C (i := 7) dX2_turn_120 8 rfl ?_
                  refine g_iload C (i := 8) dX2_turn_122 9 rfl ?_
                  refine g_callV C (st := []) (c_X2_turnSegment l D ad dA z0 tt σ s10 (f_X10_placeOf (nI j1) (nI j10)) v2 v4 v6 (pl_in (vp_in_nI (Nat.lt_of_lt_of_le hj1 (by decide)) (by decide)) (vp_in_nI (Nat.lt_of_lt_of_le hj10 (by decide)) (by decide)))) rfl ml_X2_42 im_X2_turnSegment se_X2_turnSegment in_X2 co_X2_turnSegment dyV_X2_turnSegment rfl rfl ⟨(Nat.le_of_ble_eq_true rfl), (Nat.le_of_ble_eq_true rfl)⟩ 44 2 (fun f => at_44 ad dA σ f) rfl dX2_turn_124 rfl (Nat.le_of_ble_eq_true rfl) (g_fnv ?_)
                  refine g_nmp C (fun φ11 eφ11 => ?_)
                  refine g_aload_n C (i := 0) dX2_turn_127 rfl 1 rfl ?_
                  refine g_iload C (i := 11) dX2_turn_128 0 rfl ?_
                  refine g_iload C (i := 9) dX2_turn_130 10 rfl ?_
                  refine g_callV C (st := []) (c_X2_mixSegment l D ad dA z0 tt σ φ11 (f_X10_placeOf (nI j1) (nI j10)) v8 (pl_in (vp_in_nI (Nat.lt_of_lt_of_le hj1 (by decide)) (by decide)) (vp_in_nI (Nat.lt_of_lt_of_le hj10 (by decide)) (by decide)))) rfl ml_X2_46 im_X2_mixSegment se_X2_mixSegment in_X2 co_X2_mixSegment dyV_X2_mixSegment rfl rfl ⟨(Nat.le_of_ble_eq_true rfl), (Nat.le_of_ble_eq_true rfl)⟩ 44 2 (fun f => at_44 ad dA σ f) rfl dX2_turn_132 rfl (Nat.le_of_ble_eq_true rfl) (g_fnv ?_)
                  refine g_nmp C (fun φ12 eφ12 => ?_)
                  refine g_iinc C (i := 10) (v := nI (j10 + 1)) (lv' := [(10, .int (nI (j10 + 1))), (11, .int (f_X10_placeOf (nI j1) (nI j10))), (0, .ref (ad 44)), (1, .ref (ad 38)), (2, .ref (ad 30)), (3, .ref (ad 35)), (4, .int x), (5, .int (nI j1)), (6, .float v2), (7, .float v4), (8, .int v6), (9, .int v8)]) dX2_turn_135 11 rfl (nI_1 _) (by decide) rfl ?_
                  refine g_goto C (tgt := 98) dX2_turn_138 (by decide) ?_
                  refine g_loc C [2, 3, 4, 5, 6, 7, 8, 9, 10, 11, 0] rfl ?_
                  refine kk φ12 ?_
                  subst eφ12
                  subst eφ11
                  exact b_X2_turn_98_eq _ _ _ _ _ _ _ _
              · generalize et10 : loopF (b_X2_turn_98 σ j1 v2 v4 v6 v8) 10 s1 = t10
                change K σ t10 98 [(0, .ref (ad 44)), (1, .ref (ad 38)), (2, .ref (ad 30)), (3, .ref (ad 35)), (4, .int x), (5, .int (nI j1)), (6, .float v2), (7, .float v4), (8, .int v6), (9, .int v8), (10, .int (nI 10))] []
                refine g_iload C (i := 10) dX2_turn_98 10 rfl ?_
                refine g_bipush C (v := 10) dX2_turn_100 (by decide) ?_
                refine g_icmp_ge C (tgt := 141) dX2_turn_102 (by decide) (fun h9 => ?_) (fun h9 => ?_)
                · refine g_iinc C (i := 5) (v := nI (j1 + 1)) (lv' := [(5, .int (nI (j1 + 1))), (0, .ref (ad 44)), (1, .ref (ad 38)), (2, .ref (ad 30)), (3, .ref (ad 35)), (4, .int x), (6, .float v2), (7, .float v4), (8, .int v6), (9, .int v8), (10, .int (nI 10))]) dX2_turn_141 5 rfl (nI_1 _) (by decide) rfl ?_
                  refine g_goto C (tgt := 3) dX2_turn_144 (by decide) ?_
                  refine g_loc C [1, 2, 3, 4, 5, 0] rfl ?_
                  refine kk t10 ?_
                  subst et10
                  subst ev8
                  subst ev6
                  subst ev4
                  subst ev2
                  exact b_X2_turn_3_eq _ _ _ _
                · exact absurd (nI_le (Nat.le_refl _) (by decide)) h9
            refine g_icmp_ne C (tgt := 92) dX2_turn_80 (by decide) (fun h6 => ?_) (fun h6 => ?_)
            · refine g_iconst C (v := 0) dX2_turn_92 (by decide) ?_
              refine g_loc C [1, 2, 3, 4, 5, 6, 7, 8, 0] rfl ?_
              exact J9 _ ((if_neg h6))
            · refine g_iload C (i := 5) dX2_turn_83 6 rfl ?_
              refine g_if_le C (tgt := 92) dX2_turn_85 (by decide) (fun h7 => ?_) (fun h7 => ?_)
              · refine g_iconst C (v := 0) dX2_turn_92 (by decide) ?_
                refine g_loc C [1, 2, 3, 4, 5, 6, 7, 8, 0] rfl ?_
                exact J9 _ (((if_pos h6).trans (if_pos h7)))
              · refine g_iconst C (v := 1) dX2_turn_88 (by decide) ?_
                refine g_goto C (tgt := 93) dX2_turn_89 (by decide) ?_
                refine g_loc C [1, 2, 3, 4, 5, 6, 7, 8, 0] rfl ?_
                exact J9 _ (((if_pos h6).trans (if_neg h7)))
          refine g_icmp_ne C (tgt := 74) dX2_turn_59 (by decide) (fun h4 => ?_) (fun h4 => ?_)
          · refine g_iconst C (v := 0) dX2_turn_74 (by decide) ?_
            refine g_loc C [1, 2, 3, 4, 5, 6, 7, 0] rfl ?_
            exact J7 _ ((if_neg h4))
          · refine g_iload C (i := 5) dX2_turn_62 6 rfl ?_
            refine g_iconst C (v := 1) dX2_turn_64 (by decide) ?_
            refine g_iand C dX2_turn_65 ?_
            refine g_iconst C (v := 1) dX2_turn_66 (by decide) ?_
            refine g_icmp_ne C (tgt := 74) dX2_turn_67 (by decide) (fun h5 => ?_) (fun h5 => ?_)
            · refine g_iconst C (v := 0) dX2_turn_74 (by decide) ?_
              refine g_loc C [1, 2, 3, 4, 5, 6, 7, 0] rfl ?_
              exact J7 _ (((if_pos h4).trans (if_neg h5)))
            · refine g_iconst C (v := 1) dX2_turn_70 (by decide) ?_
              refine g_goto C (tgt := 75) dX2_turn_71 (by decide) ?_
              refine g_loc C [1, 2, 3, 4, 5, 6, 7, 0] rfl ?_
              exact J7 _ (((if_pos h4).trans (if_pos h5)))
        refine g_if_eq C (tgt := 53) dX2_turn_40 (by decide) (fun h3 => ?_) (fun h3 => ?_)
        · refine g_fconst0 C dX2_turn_53 ?_
          refine g_loc C [1, 2, 3, 4, 5, 6, 0] rfl ?_
          exact J5 _ ((if_pos h3))
        · refine g_aload_n C (i := 3) dX2_turn_43 rfl 4 rfl ?_
          refine ggN_35_1 C fl_X2_35 dX2_turn_44 ?_
          refine g_iload C (i := 5) dX2_turn_47 6 rfl ?_
          refine ld_37 C (vp_in_nI (Nat.lt_of_lt_of_le hj1 (by decide)) (by decide)) dX2_turn_49 ?_
          refine g_goto C (tgt := 54) dX2_turn_50 (by decide) ?_
          refine g_loc C [1, 2, 3, 4, 5, 6, 0] rfl ?_
          exact J5 _ ((if_neg h3))
      refine g_if_eq C (tgt := 30) dX2_turn_17 (by decide) (fun h2 => ?_) (fun h2 => ?_)
      · refine g_fconst0 C dX2_turn_30 ?_
        refine g_loc C [0, 1, 2, 3, 4, 5] rfl ?_
        exact J3 _ ((if_pos h2))
      · refine g_aload_n C (i := 3) dX2_turn_20 rfl 3 rfl ?_
        refine ggN_35_0 C fl_X2_30 dX2_turn_21 ?_
        refine g_iload C (i := 5) dX2_turn_24 5 rfl ?_
        refine ld_36 C (vp_in_nI (Nat.lt_of_lt_of_le hj1 (by decide)) (by decide)) dX2_turn_26 ?_
        refine g_goto C (tgt := 31) dX2_turn_27 (by decide) ?_
        refine g_loc C [0, 1, 2, 3, 4, 5] rfl ?_
        exact J3 _ ((if_neg h2))
  · generalize et1 : loopF (b_X2_turn_3 σ x) 8 φ = t1
    change K σ t1 3 [(0, .ref (ad 44)), (1, .ref (ad 38)), (2, .ref (ad 30)), (3, .ref (ad 35)), (4, .int x), (5, .int (nI 8))] []
    refine g_iload C (i := 5) dX2_turn_3 5 rfl ?_
    refine g_bipush C (v := 8) dX2_turn_5 (by decide) ?_
    refine g_icmp_ge C (tgt := 147) dX2_turn_7 (by decide) (fun h10 => ?_) (fun h10 => ?_)
    · have e0 : f_X2_turn σ φ x = t1 := by
        subst et1
        exact f_X2_turn_eq _ _ _
      exact hv _ _ _ _ rfl dX2_turn_147 ⟨rfl, rfl, (congrArg (fun z => z) e0).symm⟩
    · exact absurd (nI_le (Nat.le_refl _) (by decide)) h10
def b_X5_watch_7 (x : Int32) (j1 : Nat) (s1 : Sg) : Sg := let v2 : Int32 := (if (i_abs ((s1 40 (nI j1).toNatClampNeg) - (s1 50 (nI j1).toNatClampNeg))) ≤ x then 0 else 1); let σ4 : Sg := sw s1 51 (nI j1).toNatClampNeg (vp_nar .boolean v2); σ4
theorem b_X5_watch_7_eq (x : Int32) (j1 : Nat) (s1 : Sg) : b_X5_watch_7 x j1 s1 = (let v2 : Int32 := (if (i_abs ((s1 40 (nI j1).toNatClampNeg) - (s1 50 (nI j1).toNatClampNeg))) ≤ x then 0 else 1); let σ4 : Sg := sw s1 51 (nI j1).toNatClampNeg (vp_nar .boolean v2); σ4) := rfl
def b_X5_watch_64 (j5 : Nat) (j6 : Nat) (s6 : Sg) : Sg := let σ7 : Sg := sw s6 52 (f_X10_placeOf (nI j5) (nI j6)).toNatClampNeg (f_X5_kindOf s6 (nI j5) (nI j6)); σ7
theorem b_X5_watch_64_eq (j5 : Nat) (j6 : Nat) (s6 : Sg) : b_X5_watch_64 j5 j6 s6 = (let σ7 : Sg := sw s6 52 (f_X10_placeOf (nI j5) (nI j6)).toNatClampNeg (f_X5_kindOf s6 (nI j5) (nI j6)); σ7) := rfl
def b_X5_watch_54  (j5 : Nat) (s5 : Sg) : Sg := let t6 : Sg := loopF (b_X5_watch_64 j5) 10 s5; t6
theorem b_X5_watch_54_eq  (j5 : Nat) (s5 : Sg) : b_X5_watch_54  j5 s5 = (let t6 : Sg := loopF (b_X5_watch_64 j5) 10 s5; t6) := rfl
def f_X5_watch (σ : Sg) (x : Int32) (y : Int32) : Sg := let σ8 : Sg := (if y = 0 then σ else (let t1 : Sg := loopF (b_X5_watch_7 x) 80 σ; let t5 : Sg := loopF b_X5_watch_54 8 t1; t5)); let σ10 : Sg := va_up σ8 50 (va_cpy (σ8 40) (σ8 50) (0 : Int32).toNatClampNeg (0 : Int32).toNatClampNeg (80 : Int32).toNatClampNeg); σ10
theorem f_X5_watch_eq (σ : Sg) (x : Int32) (y : Int32) : f_X5_watch σ x y = (let σ8 : Sg := (if y = 0 then σ else (let t1 : Sg := loopF (b_X5_watch_7 x) 80 σ; let t5 : Sg := loopF b_X5_watch_54 8 t1; t5)); let σ10 : Sg := va_up σ8 50 (va_cpy (σ8 40) (σ8 50) (0 : Int32).toNatClampNeg (0 : Int32).toNatClampNeg (80 : Int32).toNatClampNeg); σ10) := rfl
set_option maxRecDepth 100000 in
set_option maxHeartbeats 4000000 in
theorem c_X5_watch (l : Launch) (D : va_G) (ad : Nat → Nat) (dA : Nat → ClassId) (z0 : Nat) (tt : Nat → Nat) (σ : Sg) (φ : Fl) (x : Int32) (y : Int32)  : MC l D ad dA z0 tt yX5_watch (Cond.code yX5_watch cX5_watch 6 none :: lw_all) { frames := 5, cells := 0, slots := 0, locals := 109 } [.ref (ad 49), .ref (ad 40), .int x, .int y] σ φ (Fn none (f_X5_watch σ x y) φ) := by
  refine mk_MC (by decide) (Nat.le_of_ble_eq_true rfl) ?_
  intro K C hi hf hv
  change K σ φ 0 [(0, .ref (ad 49)), (1, .ref (ad 40)), (2, .int x), (3, .int y)] []
  refine g_iload_n C (i := 3) dX5_watch_0 rfl 3 rfl ?_
  have J9 : ∀ (σ8 : Sg), (if y = 0 then σ else (let t1 : Sg := loopF (b_X5_watch_7 x) 80 σ; let t5 : Sg := loopF b_X5_watch_54 8 t1; t5)) = σ8 → K σ8 φ 103 [(0, .ref (ad 49)), (1, .ref (ad 40))] [] := by
    intro σ8 eσ8
    refine g_aload_n C (i := 1) dX5_watch_103 rfl 1 rfl ?_
    refine g_iconst C (v := 0) dX5_watch_104 (by decide) ?_
    refine g_aload_n C (i := 0) dX5_watch_105 rfl 0 rfl ?_
    refine gg_49_0 C fl_X5_9 dX5_watch_106 ?_
    refine g_iconst C (v := 0) dX5_watch_109 (by decide) ?_
    refine g_bipush C (v := 80) dX5_watch_110 (by decide) ?_
    refine g_copyi C ml_X5_35 na_arraycopy sm_arraycopy in_J10 40 50 (fun f => at_40 ad dA _ f) (fun f => at_50 ad dA _ f) (by decide) (by decide) (by decide) (by decide) (by decide) (Nat.le_of_ble_eq_true rfl) (by decide) (fun f => set_50 ad dA _ f _) dX5_watch_112 ?_
    refine g_nms C (fun σ10 eσ10 => ?_)
    have e0 : f_X5_watch σ x y = σ10 := by
      subst eσ10
      subst eσ8
      exact f_X5_watch_eq _ _ _
    exact hv _ _ _ _ rfl dX5_watch_115 ⟨rfl, (congrArg (fun z => z) e0).symm, rfl⟩
  refine g_if_eq C (tgt := 103) dX5_watch_1 (by decide) (fun h1 => ?_) (fun h1 => ?_)
  · refine g_loc C [0, 1] rfl ?_
    exact J9 _ ((if_pos h1))
  · refine g_iconst C (v := 0) dX5_watch_4 (by decide) ?_
    refine g_istore C (i := 4) (lv' := [(4, .int 0), (0, .ref (ad 49)), (1, .ref (ad 40)), (2, .int x), (3, .int y)]) dX5_watch_5 (by decide) rfl ?_
    refine g_loc C (lv' := [(0, .ref (ad 49)), (1, .ref (ad 40)), (2, .int x), (4, .int 0)]) [1, 2, 3, 0] rfl ?_
    refine loopF_ind (b_X5_watch_7 x) 80 (fun (j1 : Nat) (s1 : Sg) => K s1 φ 7 [(0, .ref (ad 49)), (1, .ref (ad 40)), (2, .int x), (4, .int (nI j1))] []) σ ?_ ?_
    · intro j1 s1 hj1 kk
      change K s1 φ 7 [(0, .ref (ad 49)), (1, .ref (ad 40)), (2, .int x), (4, .int (nI j1))] []
      refine g_iload C (i := 4) dX5_watch_7 3 rfl ?_
      refine g_bipush C (v := 80) dX5_watch_9 (by decide) ?_
      refine g_icmp_ge C (tgt := 51) dX5_watch_11 (by decide) (fun h2 => ?_) (fun h2 => ?_)
      · exact absurd h2 (nI_ge hj1 (by decide))
      · refine g_aload_n C (i := 0) dX5_watch_14 rfl 0 rfl ?_
        refine gg_49_1 C fl_X5_15 dX5_watch_15 ?_
        refine g_iload C (i := 4) dX5_watch_18 3 rfl ?_
        refine g_aload_n C (i := 1) dX5_watch_20 rfl 1 rfl ?_
        refine g_iload C (i := 4) dX5_watch_21 3 rfl ?_
        refine ld_40 C (vp_in_nI (Nat.lt_of_lt_of_le hj1 (by decide)) (by decide)) dX5_watch_23 ?_
        refine g_aload_n C (i := 0) dX5_watch_24 rfl 0 rfl ?_
        refine gg_49_0 C fl_X5_9 dX5_watch_25 ?_
        refine g_iload C (i := 4) dX5_watch_28 3 rfl ?_
        refine ld_50 C (vp_in_nI (Nat.lt_of_lt_of_le hj1 (by decide)) (by decide)) dX5_watch_30 ?_
        refine g_isub C dX5_watch_31 ?_
        refine g_abs C ml_X5_22 sm_abs in_J9 co_abs (Nat.le_of_ble_eq_true rfl) (Nat.le_of_ble_eq_true rfl) dX5_watch_32 ?_
        refine g_absn C ?_
        refine g_iload_n C (i := 2) dX5_watch_35 rfl 2 rfl ?_
        have J3 : ∀ (v2 : Int32), (if (i_abs ((s1 40 (nI j1).toNatClampNeg) - (s1 50 (nI j1).toNatClampNeg))) ≤ x then 0 else 1) = v2 → K s1 φ 44 [(0, .ref (ad 49)), (1, .ref (ad 40)), (2, .int x), (4, .int (nI j1))] [.int v2, .int (nI j1), .ref (ad 51)] := by
          intro v2 ev2
          refine sd_51 C (vp_in_nI (Nat.lt_of_lt_of_le hj1 (by decide)) (by decide)) dX5_watch_44 ?_
          refine g_nms C (fun σ4 eσ4 => ?_)
          refine g_iinc C (i := 4) (v := nI (j1 + 1)) (lv' := [(4, .int (nI (j1 + 1))), (0, .ref (ad 49)), (1, .ref (ad 40)), (2, .int x)]) dX5_watch_45 3 rfl (nI_1 _) (by decide) rfl ?_
          refine g_goto C (tgt := 7) dX5_watch_48 (by decide) ?_
          refine g_loc C [1, 2, 3, 0] rfl ?_
          refine kk σ4 ?_
          subst eσ4
          subst ev2
          exact b_X5_watch_7_eq _ _ _
        refine g_icmp_le C (tgt := 43) dX5_watch_36 (by decide) (fun h3 => ?_) (fun h3 => ?_)
        · refine g_iconst C (v := 0) dX5_watch_43 (by decide) ?_
          refine g_loc C [0, 1, 2, 3] rfl ?_
          exact J3 _ ((if_pos h3))
        · refine g_iconst C (v := 1) dX5_watch_39 (by decide) ?_
          refine g_goto C (tgt := 44) dX5_watch_40 (by decide) ?_
          refine g_loc C [0, 1, 2, 3] rfl ?_
          exact J3 _ ((if_neg h3))
    · generalize et1 : loopF (b_X5_watch_7 x) 80 σ = t1
      change K t1 φ 7 [(0, .ref (ad 49)), (1, .ref (ad 40)), (2, .int x), (4, .int (nI 80))] []
      refine g_iload C (i := 4) dX5_watch_7 3 rfl ?_
      refine g_bipush C (v := 80) dX5_watch_9 (by decide) ?_
      refine g_icmp_ge C (tgt := 51) dX5_watch_11 (by decide) (fun h4 => ?_) (fun h4 => ?_)
      · refine g_iconst C (v := 0) dX5_watch_51 (by decide) ?_
        refine g_istore C (i := 4) (lv' := [(4, .int 0), (0, .ref (ad 49)), (1, .ref (ad 40)), (2, .int x)]) dX5_watch_52 (by decide) rfl ?_
        refine g_loc C (lv' := [(0, .ref (ad 49)), (1, .ref (ad 40)), (4, .int 0)]) [1, 2, 0] rfl ?_
        refine loopF_ind b_X5_watch_54 8 (fun (j5 : Nat) (s5 : Sg) => K s5 φ 54 [(0, .ref (ad 49)), (1, .ref (ad 40)), (4, .int (nI j5))] []) t1 ?_ ?_
        · intro j5 s5 hj5 kk
          change K s5 φ 54 [(0, .ref (ad 49)), (1, .ref (ad 40)), (4, .int (nI j5))] []
          refine g_iload C (i := 4) dX5_watch_54 2 rfl ?_
          refine g_bipush C (v := 8) dX5_watch_56 (by decide) ?_
          refine g_icmp_ge C (tgt := 103) dX5_watch_58 (by decide) (fun h5 => ?_) (fun h5 => ?_)
          · exact absurd h5 (nI_ge hj5 (by decide))
          · refine g_iconst C (v := 0) dX5_watch_61 (by decide) ?_
            refine g_istore C (i := 5) (lv' := [(5, .int 0), (0, .ref (ad 49)), (1, .ref (ad 40)), (4, .int (nI j5))]) dX5_watch_62 (by decide) rfl ?_
            refine g_loc C (lv' := [(0, .ref (ad 49)), (1, .ref (ad 40)), (4, .int (nI j5)), (5, .int 0)]) [1, 2, 3, 0] rfl ?_
            refine loopF_ind (b_X5_watch_64 j5) 10 (fun (j6 : Nat) (s6 : Sg) => K s6 φ 64 [(0, .ref (ad 49)), (1, .ref (ad 40)), (4, .int (nI j5)), (5, .int (nI j6))] []) s5 ?_ ?_
            · intro j6 s6 hj6 kk
              change K s6 φ 64 [(0, .ref (ad 49)), (1, .ref (ad 40)), (4, .int (nI j5)), (5, .int (nI j6))] []
              refine g_iload C (i := 5) dX5_watch_64 3 rfl ?_
              refine g_bipush C (v := 10) dX5_watch_66 (by decide) ?_
              refine g_icmp_ge C (tgt := 97) dX5_watch_68 (by decide) (fun h6 => ?_) (fun h6 => ?_)
              · exact absurd h6 (nI_ge hj6 (by decide))
              · refine g_aload_n C (i := 0) dX5_watch_71 rfl 0 rfl ?_
                refine gg_49_2 C fl_X5_19 dX5_watch_72 ?_
                refine g_iload C (i := 4) dX5_watch_75 2 rfl ?_
                refine g_iload C (i := 5) dX5_watch_77 3 rfl ?_
                refine g_callSN C (st := [.ref (ad 52)]) (c_X10_placeOf l D ad dA z0 tt s6 φ (nI j5) (nI j6)) rfl ml_X5_28 sm_X10_placeOf in_X10 co_X10_placeOf dyS_X10_placeOf rfl rfl ⟨(Nat.le_of_ble_eq_true rfl), (Nat.le_of_ble_eq_true rfl)⟩ dX5_watch_79 rfl (Nat.le_of_ble_eq_true rfl) (g_fni ?_)
                refine g_aload_n C (i := 0) dX5_watch_82 rfl 0 rfl ?_
                refine g_iload C (i := 4) dX5_watch_83 2 rfl ?_
                refine g_iload C (i := 5) dX5_watch_85 3 rfl ?_
                refine g_callV C (st := [.int (f_X10_placeOf (nI j5) (nI j6)), .ref (ad 52)]) (c_X5_kindOf l D ad dA z0 tt s6 φ (nI j5) (nI j6)) rfl ml_X5_32 im_X5_kindOf se_X5_kindOf in_X5 co_X5_kindOf dyV_X5_kindOf rfl rfl ⟨(Nat.le_of_ble_eq_true rfl), (Nat.le_of_ble_eq_true rfl)⟩ 49 5 (fun f => at_49 ad dA s6 f) rfl dX5_watch_87 rfl (Nat.le_of_ble_eq_true rfl) (g_fni ?_)
                refine sd_52 C (pl_in (vp_in_nI (Nat.lt_of_lt_of_le hj5 (by decide)) (by decide)) (vp_in_nI (Nat.lt_of_lt_of_le hj6 (by decide)) (by decide))) dX5_watch_90 ?_
                refine g_nms C (fun σ7 eσ7 => ?_)
                refine g_iinc C (i := 5) (v := nI (j6 + 1)) (lv' := [(5, .int (nI (j6 + 1))), (0, .ref (ad 49)), (1, .ref (ad 40)), (4, .int (nI j5))]) dX5_watch_91 3 rfl (nI_1 _) (by decide) rfl ?_
                refine g_goto C (tgt := 64) dX5_watch_94 (by decide) ?_
                refine g_loc C [1, 2, 3, 0] rfl ?_
                refine kk σ7 ?_
                subst eσ7
                exact b_X5_watch_64_eq _ _ _
            · generalize et6 : loopF (b_X5_watch_64 j5) 10 s5 = t6
              change K t6 φ 64 [(0, .ref (ad 49)), (1, .ref (ad 40)), (4, .int (nI j5)), (5, .int (nI 10))] []
              refine g_iload C (i := 5) dX5_watch_64 3 rfl ?_
              refine g_bipush C (v := 10) dX5_watch_66 (by decide) ?_
              refine g_icmp_ge C (tgt := 97) dX5_watch_68 (by decide) (fun h7 => ?_) (fun h7 => ?_)
              · refine g_iinc C (i := 4) (v := nI (j5 + 1)) (lv' := [(4, .int (nI (j5 + 1))), (0, .ref (ad 49)), (1, .ref (ad 40)), (5, .int (nI 10))]) dX5_watch_97 2 rfl (nI_1 _) (by decide) rfl ?_
                refine g_goto C (tgt := 54) dX5_watch_100 (by decide) ?_
                refine g_loc C [1, 2, 0] rfl ?_
                refine kk t6 ?_
                subst et6
                exact b_X5_watch_54_eq _ _
              · exact absurd (nI_le (Nat.le_refl _) (by decide)) h7
        · generalize et5 : loopF b_X5_watch_54 8 t1 = t5
          change K t5 φ 54 [(0, .ref (ad 49)), (1, .ref (ad 40)), (4, .int (nI 8))] []
          refine g_iload C (i := 4) dX5_watch_54 2 rfl ?_
          refine g_bipush C (v := 8) dX5_watch_56 (by decide) ?_
          refine g_icmp_ge C (tgt := 103) dX5_watch_58 (by decide) (fun h8 => ?_) (fun h8 => ?_)
          · refine g_loc C [0, 1] rfl ?_
            subst et5
            subst et1
            exact J9 _ ((if_neg h1))
          · exact absurd (nI_le (Nat.le_refl _) (by decide)) h8
      · exact absurd (nI_le (Nat.le_refl _) (by decide)) h4
def b_X4_find_23  (j5 : Nat) (s5 : Sg) : Sg := let σ6 : Sg := f_X4_steer s5 (f_X9_pulseOf s5 (nI j5)); let σ7 : Sg := sw σ6 26 (nI j5).toNatClampNeg (f_X9_pulseOf s5 (nI j5)); let σ8 : Sg := sw σ7 28 (nI j5).toNatClampNeg (σ7 25 4); let σ9 : Sg := sw σ8 29 (nI j5).toNatClampNeg (vp_nar .boolean (σ8 25 7)); let v10 : Int32 := (if (σ9 25 7) = 0 then (if (f_X9_pulseOf s5 (nI j5)) = (-1) then (f_J9_floorDiv_7cf53 ((σ9 25 4) + 2) 4) else (f_X9_pulseOf s5 (nI j5))) else (f_J9_floorDiv_7cf53 ((σ9 25 4) + 2) 4)); let σ12 : Sg := sw σ9 27 (nI j5).toNatClampNeg v10; σ12
theorem b_X4_find_23_eq  (j5 : Nat) (s5 : Sg) : b_X4_find_23  j5 s5 = (let σ6 : Sg := f_X4_steer s5 (f_X9_pulseOf s5 (nI j5)); let σ7 : Sg := sw σ6 26 (nI j5).toNatClampNeg (f_X9_pulseOf s5 (nI j5)); let σ8 : Sg := sw σ7 28 (nI j5).toNatClampNeg (σ7 25 4); let σ9 : Sg := sw σ8 29 (nI j5).toNatClampNeg (vp_nar .boolean (σ8 25 7)); let v10 : Int32 := (if (σ9 25 7) = 0 then (if (f_X9_pulseOf s5 (nI j5)) = (-1) then (f_J9_floorDiv_7cf53 ((σ9 25 4) + 2) 4) else (f_X9_pulseOf s5 (nI j5))) else (f_J9_floorDiv_7cf53 ((σ9 25 4) + 2) 4)); let σ12 : Sg := sw σ9 27 (nI j5).toNatClampNeg v10; σ12) := rfl
def f_X4_find (σ : Sg) : Sg := let σ1 : Sg := sw σ 25 4 32; let σ2 : Sg := sw σ1 25 5 0; let σ3 : Sg := sw σ2 25 6 0; let σ4 : Sg := sw σ3 25 7 0; let t5 : Sg := loopF b_X4_find_23 8 σ4; t5
theorem f_X4_find_eq (σ : Sg) : f_X4_find σ = (let σ1 : Sg := sw σ 25 4 32; let σ2 : Sg := sw σ1 25 5 0; let σ3 : Sg := sw σ2 25 6 0; let σ4 : Sg := sw σ3 25 7 0; let t5 : Sg := loopF b_X4_find_23 8 σ4; t5) := rfl
set_option maxRecDepth 100000 in
set_option maxHeartbeats 4000000 in
theorem c_X4_find (l : Launch) (D : va_G) (ad : Nat → Nat) (dA : Nat → ClassId) (z0 : Nat) (tt : Nat → Nat) (σ : Sg) (φ : Fl)   : MC l D ad dA z0 tt yX4_find (Cond.code yX4_find cX4_find 4 none :: lw_all) { frames := 2, cells := 0, slots := 0, locals := 45 } [.ref (ad 25), .ref (ad 15)] σ φ (Fn none (f_X4_find σ) φ) := by
  refine mk_MC (by decide) (Nat.le_of_ble_eq_true rfl) ?_
  intro K C hi hf hv
  change K σ φ 0 [(0, .ref (ad 25)), (1, .ref (ad 15))] []
  refine g_aload_n C (i := 0) dX4_find_0 rfl 0 rfl ?_
  refine g_bipush C (v := 32) dX4_find_1 (by decide) ?_
  refine gp_25_4 C fl_X4_25 dX4_find_3 ?_
  refine g_nms C (fun σ1 eσ1 => ?_)
  refine g_aload_n C (i := 0) dX4_find_6 rfl 0 rfl ?_
  refine g_iconst C (v := 0) dX4_find_7 (by decide) ?_
  refine gp_25_5 C fl_X4_29 dX4_find_8 ?_
  refine g_nms C (fun σ2 eσ2 => ?_)
  refine g_aload_n C (i := 0) dX4_find_11 rfl 0 rfl ?_
  refine g_iconst C (v := 0) dX4_find_12 (by decide) ?_
  refine gp_25_6 C fl_X4_32 dX4_find_13 ?_
  refine g_nms C (fun σ3 eσ3 => ?_)
  refine g_aload_n C (i := 0) dX4_find_16 rfl 0 rfl ?_
  refine g_iconst C (v := 0) dX4_find_17 (by decide) ?_
  refine gp_25_7 C fl_X4_35 (Or.inl rfl) dX4_find_18 ?_
  refine g_nms C (fun σ4 eσ4 => ?_)
  refine g_iconst C (v := 0) dX4_find_21 (by decide) ?_
  refine g_istore_n C (i := 2) (lv' := [(2, .int 0), (0, .ref (ad 25)), (1, .ref (ad 15))]) dX4_find_22 rfl (by decide) rfl ?_
  refine g_loc C (lv' := [(0, .ref (ad 25)), (1, .ref (ad 15)), (2, .int 0)]) [1, 2, 0] rfl ?_
  refine loopF_ind b_X4_find_23 8 (fun (j5 : Nat) (s5 : Sg) => K s5 φ 23 [(0, .ref (ad 25)), (1, .ref (ad 15)), (2, .int (nI j5))] []) σ4 ?_ ?_
  · intro j5 s5 hj5 kk
    change K s5 φ 23 [(0, .ref (ad 25)), (1, .ref (ad 15)), (2, .int (nI j5))] []
    refine g_iload_n C (i := 2) dX4_find_23 rfl 2 rfl ?_
    refine g_bipush C (v := 8) dX4_find_24 (by decide) ?_
    refine g_icmp_ge C (tgt := 105) dX4_find_26 (by decide) (fun h1 => ?_) (fun h1 => ?_)
    · exact absurd h1 (nI_ge hj5 (by decide))
    · refine g_aload_n C (i := 1) dX4_find_29 rfl 1 rfl ?_
      refine g_iload_n C (i := 2) dX4_find_30 rfl 2 rfl ?_
      refine g_callV C (st := []) (c_X9_pulseOf l D ad dA z0 tt s5 φ (nI j5)) rfl ml_X4_39 im_X9_pulseOf se_X9_pulseOf in_X9 co_X9_pulseOf dyV_X9_pulseOf rfl rfl ⟨(Nat.le_of_ble_eq_true rfl), (Nat.le_of_ble_eq_true rfl)⟩ 15 9 (fun f => at_15 ad dA s5 f) rfl dX4_find_31 rfl (Nat.le_of_ble_eq_true rfl) (g_fni ?_)
      refine g_istore_n C (i := 3) (lv' := [(3, .int (f_X9_pulseOf s5 (nI j5))), (0, .ref (ad 25)), (1, .ref (ad 15)), (2, .int (nI j5))]) dX4_find_34 rfl (by decide) rfl ?_
      refine g_aload_n C (i := 0) dX4_find_35 rfl 1 rfl ?_
      refine g_iload_n C (i := 3) dX4_find_36 rfl 0 rfl ?_
      refine g_callV C (st := []) (c_X4_steer l D ad dA z0 tt s5 φ (f_X9_pulseOf s5 (nI j5))) rfl ml_X4_45 im_X4_steer se_X4_steer in_X4 co_X4_steer dyV_X4_steer rfl rfl ⟨(Nat.le_of_ble_eq_true rfl), (Nat.le_of_ble_eq_true rfl)⟩ 25 4 (fun f => at_25 ad dA s5 f) rfl dX4_find_37 rfl (Nat.le_of_ble_eq_true rfl) (g_fnv ?_)
      refine g_nms C (fun σ6 eσ6 => ?_)
      refine g_aload_n C (i := 0) dX4_find_40 rfl 1 rfl ?_
      refine gg_25_0 C fl_X4_9 dX4_find_41 ?_
      refine g_iload_n C (i := 2) dX4_find_44 rfl 3 rfl ?_
      refine g_iload_n C (i := 3) dX4_find_45 rfl 0 rfl ?_
      refine sd_26 C (vp_in_nI (Nat.lt_of_lt_of_le hj5 (by decide)) (by decide)) dX4_find_46 ?_
      refine g_nms C (fun σ7 eσ7 => ?_)
      refine g_aload_n C (i := 0) dX4_find_47 rfl 1 rfl ?_
      refine gg_25_2 C fl_X4_18 dX4_find_48 ?_
      refine g_iload_n C (i := 2) dX4_find_51 rfl 3 rfl ?_
      refine g_aload_n C (i := 0) dX4_find_52 rfl 1 rfl ?_
      refine gg_25_4 C fl_X4_25 dX4_find_53 ?_
      refine sd_28 C (vp_in_nI (Nat.lt_of_lt_of_le hj5 (by decide)) (by decide)) dX4_find_56 ?_
      refine g_nms C (fun σ8 eσ8 => ?_)
      refine g_aload_n C (i := 0) dX4_find_57 rfl 1 rfl ?_
      refine gg_25_3 C fl_X4_21 dX4_find_58 ?_
      refine g_iload_n C (i := 2) dX4_find_61 rfl 3 rfl ?_
      refine g_aload_n C (i := 0) dX4_find_62 rfl 1 rfl ?_
      refine gg_25_7 C fl_X4_35 dX4_find_63 ?_
      refine sd_29 C (vp_in_nI (Nat.lt_of_lt_of_le hj5 (by decide)) (by decide)) dX4_find_66 ?_
      refine g_nms C (fun σ9 eσ9 => ?_)
      refine g_aload_n C (i := 0) dX4_find_67 rfl 1 rfl ?_
      refine gg_25_1 C fl_X4_15 dX4_find_68 ?_
      refine g_iload_n C (i := 2) dX4_find_71 rfl 3 rfl ?_
      refine g_aload_n C (i := 0) dX4_find_72 rfl 1 rfl ?_
      refine gg_25_7 C fl_X4_35 dX4_find_73 ?_
      have J11 : ∀ (v10 : Int32), (if (σ9 25 7) = 0 then (if (f_X9_pulseOf s5 (nI j5)) = (-1) then (f_J9_floorDiv_7cf53 ((σ9 25 4) + 2) 4) else (f_X9_pulseOf s5 (nI j5))) else (f_J9_floorDiv_7cf53 ((σ9 25 4) + 2) 4)) = v10 → K σ9 φ 98 [(0, .ref (ad 25)), (1, .ref (ad 15)), (2, .int (nI j5))] [.int v10, .int (nI j5), .ref (ad 27)] := by
        intro v10 ev10
        refine sd_27 C (vp_in_nI (Nat.lt_of_lt_of_le hj5 (by decide)) (by decide)) dX4_find_98 ?_
        refine g_nms C (fun σ12 eσ12 => ?_)
        refine g_iinc C (i := 2) (v := nI (j5 + 1)) (lv' := [(2, .int (nI (j5 + 1))), (0, .ref (ad 25)), (1, .ref (ad 15))]) dX4_find_99 2 rfl (nI_1 _) (by decide) rfl ?_
        refine g_goto C (tgt := 23) dX4_find_102 (by decide) ?_
        refine g_loc C [1, 2, 0] rfl ?_
        refine kk σ12 ?_
        subst eσ12
        subst ev10
        subst eσ9
        subst eσ8
        subst eσ7
        subst eσ6
        exact b_X4_find_23_eq _ _
      refine g_if_ne C (tgt := 84) dX4_find_76 (by decide) (fun h2 => ?_) (fun h2 => ?_)
      · refine g_aload_n C (i := 0) dX4_find_84 rfl 1 rfl ?_
        refine gg_25_4 C fl_X4_25 dX4_find_85 ?_
        refine g_iconst C (v := 2) dX4_find_88 (by decide) ?_
        refine g_iadd C dX4_find_89 ?_
        refine g_iconst C (v := 4) dX4_find_90 (by decide) ?_
        refine g_callS C (st := [.int (nI j5), .ref (ad 27)]) (c_J9_floorDiv_7cf53 l D ad dA z0 tt σ9 φ ((σ9 25 4) + 2) 4 (by decide)) rfl ml_X4_49 sm_J9_floorDiv_7cf53 in_J9 co_J9_floorDiv_7cf53 dyS_J9_floorDiv_7cf53 rfl rfl ⟨(Nat.le_of_ble_eq_true rfl), (Nat.le_of_ble_eq_true rfl)⟩ dX4_find_91 rfl (Nat.le_of_ble_eq_true rfl) (g_fni ?_)
        refine g_goto C (tgt := 98) dX4_find_94 (by decide) ?_
        refine g_loc C [1, 2, 3] rfl ?_
        exact J11 _ ((if_neg h2))
      · refine g_iload_n C (i := 3) dX4_find_79 rfl 0 rfl ?_
        refine g_iconst C (v := (-1)) dX4_find_80 (by decide) ?_
        refine g_icmp_ne C (tgt := 97) dX4_find_81 (by decide) (fun h3 => ?_) (fun h3 => ?_)
        · refine g_iload_n C (i := 3) dX4_find_97 rfl 0 rfl ?_
          refine g_loc C [1, 2, 3] rfl ?_
          exact J11 _ (((if_pos h2).trans (if_neg h3)))
        · refine g_aload_n C (i := 0) dX4_find_84 rfl 1 rfl ?_
          refine gg_25_4 C fl_X4_25 dX4_find_85 ?_
          refine g_iconst C (v := 2) dX4_find_88 (by decide) ?_
          refine g_iadd C dX4_find_89 ?_
          refine g_iconst C (v := 4) dX4_find_90 (by decide) ?_
          refine g_callS C (st := [.int (nI j5), .ref (ad 27)]) (c_J9_floorDiv_7cf53 l D ad dA z0 tt σ9 φ ((σ9 25 4) + 2) 4 (by decide)) rfl ml_X4_49 sm_J9_floorDiv_7cf53 in_J9 co_J9_floorDiv_7cf53 dyS_J9_floorDiv_7cf53 rfl rfl ⟨(Nat.le_of_ble_eq_true rfl), (Nat.le_of_ble_eq_true rfl)⟩ dX4_find_91 rfl (Nat.le_of_ble_eq_true rfl) (g_fni ?_)
          refine g_goto C (tgt := 98) dX4_find_94 (by decide) ?_
          refine g_loc C [1, 2, 3] rfl ?_
          exact J11 _ (((if_pos h2).trans (if_pos h3)))
  · generalize et5 : loopF b_X4_find_23 8 σ4 = t5
    change K t5 φ 23 [(0, .ref (ad 25)), (1, .ref (ad 15)), (2, .int (nI 8))] []
    refine g_iload_n C (i := 2) dX4_find_23 rfl 2 rfl ?_
    refine g_bipush C (v := 8) dX4_find_24 (by decide) ?_
    refine g_icmp_ge C (tgt := 105) dX4_find_26 (by decide) (fun h4 => ?_) (fun h4 => ?_)
    · have e0 : f_X4_find σ = t5 := by
        subst et5
        subst eσ4
        subst eσ3
        subst eσ2
        subst eσ1
        exact f_X4_find_eq _
      exact hv _ _ _ _ rfl dX4_find_105 ⟨rfl, (congrArg (fun z => z) e0).symm, rfl⟩
    · exact absurd (nI_le (Nat.le_refl _) (by decide)) h4
