/-! loops of another kind -/
def b_X1_sumUp_9 (σ : Sg) (x : Int32) (y : Int32) (j1 : Nat) (s1 : Int32 × Int32) : Int32 × Int32 := let v2 : Int32 := f_X10_turnAt x (y + nI j1); let v3 : Int32 := (s1.1) + ((f_X9_at σ x (y + nI j1)) * (sa_0 v2.toNatClampNeg)); let v4 : Int32 := (s1.2) + ((f_X9_at σ x (y + nI j1)) * (sa_1 v2.toNatClampNeg)); (v3, v4)
theorem b_X1_sumUp_9_eq (σ : Sg) (x : Int32) (y : Int32) (j1 : Nat) (s1 : Int32 × Int32) : b_X1_sumUp_9 σ x y j1 s1 = (let v2 : Int32 := f_X10_turnAt x (y + nI j1); let v3 : Int32 := (s1.1) + ((f_X9_at σ x (y + nI j1)) * (sa_0 v2.toNatClampNeg)); let v4 : Int32 := (s1.2) + ((f_X9_at σ x (y + nI j1)) * (sa_1 v2.toNatClampNeg)); (v3, v4)) := rfl
def f_X1_sumUp (σ : Sg) (x : Int32) (y : Int32) : Sg := let t1 : Int32 × Int32 := loopF (b_X1_sumUp_9 σ x y) (cnt8 y) (0, 0); let σ5 : Sg := sw σ 31 x.toNatClampNeg (t1.1); let σ6 : Sg := sw σ5 32 x.toNatClampNeg (t1.2); σ6
theorem f_X1_sumUp_eq (σ : Sg) (x : Int32) (y : Int32) : f_X1_sumUp σ x y = (let t1 : Int32 × Int32 := loopF (b_X1_sumUp_9 σ x y) (cnt8 y) (0, 0); let σ5 : Sg := sw σ 31 x.toNatClampNeg (t1.1); let σ6 : Sg := sw σ5 32 x.toNatClampNeg (t1.2); σ6) := rfl
set_option maxRecDepth 100000 in
set_option maxHeartbeats 4000000 in
theorem c_X1_sumUp (l : Launch) (D : va_G) (ad : Nat → Nat) (dA : Nat → ClassId) (z0 : Nat) (tt : Nat → Nat) (σ : Sg) (φ : Fl) (x : Int32) (y : Int32) (hx : vp_in x 8) : MC l D ad dA z0 tt yX1_sumUp (Cond.code yX1_sumUp cX1_sumUp 9 none :: lw_all) { frames := 1, cells := 0, slots := 0, locals := 22 } [.ref (ad 30), .ref (ad 15), .int x, .int y] σ φ (Fn none (f_X1_sumUp σ x y) φ) := by
  refine mk_MC (by decide) (Nat.le_of_ble_eq_true rfl) ?_
  intro K C hi hf hv
  change K σ φ 0 [(0, .ref (ad 30)), (1, .ref (ad 15)), (2, .int x), (3, .int y)] []
  refine g_iconst C (v := 0) dX1_sumUp_0 (by decide) ?_
  refine g_istore C (i := 4) (lv' := [(4, .int 0), (0, .ref (ad 30)), (1, .ref (ad 15)), (2, .int x), (3, .int y)]) dX1_sumUp_1 (by decide) rfl ?_
  refine g_iconst C (v := 0) dX1_sumUp_3 (by decide) ?_
  refine g_istore C (i := 5) (lv' := [(5, .int 0), (4, .int 0), (0, .ref (ad 30)), (1, .ref (ad 15)), (2, .int x), (3, .int y)]) dX1_sumUp_4 (by decide) rfl ?_
  refine g_iload_n C (i := 3) dX1_sumUp_6 rfl 5 rfl ?_
  refine g_istore C (i := 6) (lv' := [(6, .int y), (5, .int 0), (4, .int 0), (0, .ref (ad 30)), (1, .ref (ad 15)), (2, .int x), (3, .int y)]) dX1_sumUp_7 (by decide) rfl ?_
  refine g_loc C (lv' := [(0, .ref (ad 30)), (1, .ref (ad 15)), (2, .int x), (3, .int y), (4, .int 0), (5, .int 0), (6, .int y)]) [3, 4, 5, 6, 2, 1, 0] rfl ?_
  refine g_lvq C (lv' := [(0, .ref (ad 30)), (1, .ref (ad 15)), (2, .int x), (3, .int y), (4, .int 0), (5, .int 0), (6, .int (y + nI 0))]) (by rw [nI_s0]) ?_
  refine loopF_ind (b_X1_sumUp_9 σ x y) (cnt8 y) (fun (j1 : Nat) (s1 : Int32 × Int32) => K σ φ 9 [(0, .ref (ad 30)), (1, .ref (ad 15)), (2, .int x), (3, .int y), (4, .int (s1.1)), (5, .int (s1.2)), (6, .int (y + nI j1))] []) (0, 0) ?_ ?_
  · intro j1 s1 hj1 kk
    change K σ φ 9 [(0, .ref (ad 30)), (1, .ref (ad 15)), (2, .int x), (3, .int y), (4, .int (s1.1)), (5, .int (s1.2)), (6, .int (y + nI j1))] []
    refine g_iload C (i := 6) dX1_sumUp_9 6 rfl ?_
    refine g_iload_n C (i := 3) dX1_sumUp_11 rfl 3 rfl ?_
    refine g_bipush C (v := 8) dX1_sumUp_12 (by decide) ?_
    refine g_iadd C dX1_sumUp_14 ?_
    refine g_icmp_ge C (tgt := 69) dX1_sumUp_15 (by decide) (fun h1 => ?_) (fun h1 => ?_)
    · exact absurd h1 (c8_step hj1)
    · refine g_aload_n C (i := 1) dX1_sumUp_18 rfl 1 rfl ?_
      refine g_iload_n C (i := 2) dX1_sumUp_19 rfl 2 rfl ?_
      refine g_iload C (i := 6) dX1_sumUp_20 6 rfl ?_
      refine g_callV C (st := []) (c_X9_at l D ad dA z0 tt σ φ x (y + nI j1)) rfl ml_X1_46 im_X9_at se_X9_at in_X9 co_X9_at dyV_X9_at rfl rfl ⟨(Nat.le_of_ble_eq_true rfl), (Nat.le_of_ble_eq_true rfl)⟩ 15 9 (fun f => at_15 ad dA σ f) rfl dX1_sumUp_22 rfl (Nat.le_of_ble_eq_true rfl) (g_fni ?_)
      refine g_istore C (i := 7) (lv' := [(7, .int (f_X9_at σ x (y + nI j1))), (0, .ref (ad 30)), (1, .ref (ad 15)), (2, .int x), (3, .int y), (4, .int (s1.1)), (5, .int (s1.2)), (6, .int (y + nI j1))]) dX1_sumUp_25 (by decide) rfl ?_
      refine g_iload_n C (i := 2) dX1_sumUp_27 rfl 3 rfl ?_
      refine g_iload C (i := 6) dX1_sumUp_28 7 rfl ?_
      refine g_callSN C (st := []) (c_X10_turnAt l D ad dA z0 tt σ φ x (y + nI j1)) rfl ml_X1_52 sm_X10_turnAt in_X10 co_X10_turnAt dyS_X10_turnAt rfl rfl ⟨(Nat.le_of_ble_eq_true rfl), (Nat.le_of_ble_eq_true rfl)⟩ dX1_sumUp_30 rfl (Nat.le_of_ble_eq_true rfl) (g_fni ?_)
      refine g_nmi C (fun v2 ev2 => ?_)
      refine g_istore C (i := 8) (lv' := [(8, .int v2), (7, .int (f_X9_at σ x (y + nI j1))), (0, .ref (ad 30)), (1, .ref (ad 15)), (2, .int x), (3, .int y), (4, .int (s1.1)), (5, .int (s1.2)), (6, .int (y + nI j1))]) dX1_sumUp_33 (by decide) rfl ?_
      refine g_iload C (i := 4) dX1_sumUp_35 6 rfl ?_
      refine g_iload C (i := 7) dX1_sumUp_37 1 rfl ?_
      refine g_getsN C (host := "CompositeDecoder") (C0 := "CompositeDecoder") (hZ0 (z0 := z0)) fl_X1_55 rfl dX1_sumUp_39 ?_
      refine g_iload C (i := 8) dX1_sumUp_42 0 rfl ?_
      refine g_ti C (hT0 (z0 := z0)) (by rw [← ev2]; exact (tn_in _ _)) dX1_sumUp_44 ?_
      refine g_imul C dX1_sumUp_45 ?_
      refine g_iadd C dX1_sumUp_46 ?_
      refine g_nmi C (fun v3 ev3 => ?_)
      refine g_istore C (i := 4) (lv' := [(4, .int v3), (8, .int v2), (7, .int (f_X9_at σ x (y + nI j1))), (0, .ref (ad 30)), (1, .ref (ad 15)), (2, .int x), (3, .int y), (5, .int (s1.2)), (6, .int (y + nI j1))]) dX1_sumUp_47 (by decide) rfl ?_
      refine g_iload C (i := 5) dX1_sumUp_49 7 rfl ?_
      refine g_iload C (i := 7) dX1_sumUp_51 2 rfl ?_
      refine g_getsN C (host := "CompositeDecoder") (C0 := "CompositeDecoder") (hZ1 (z0 := z0)) fl_X1_58 rfl dX1_sumUp_53 ?_
      refine g_iload C (i := 8) dX1_sumUp_56 1 rfl ?_
      refine g_ti C (hT1 (z0 := z0)) (by rw [← ev2]; exact (tn_in _ _)) dX1_sumUp_58 ?_
      refine g_imul C dX1_sumUp_59 ?_
      refine g_iadd C dX1_sumUp_60 ?_
      refine g_nmi C (fun v4 ev4 => ?_)
      refine g_istore C (i := 5) (lv' := [(5, .int v4), (4, .int v3), (8, .int v2), (7, .int (f_X9_at σ x (y + nI j1))), (0, .ref (ad 30)), (1, .ref (ad 15)), (2, .int x), (3, .int y), (6, .int (y + nI j1))]) dX1_sumUp_61 (by decide) rfl ?_
      refine g_iinc C (i := 6) (v := y + nI (j1 + 1)) (lv' := [(6, .int (y + nI (j1 + 1))), (5, .int v4), (4, .int v3), (8, .int v2), (7, .int (f_X9_at σ x (y + nI j1))), (0, .ref (ad 30)), (1, .ref (ad 15)), (2, .int x), (3, .int y)]) dX1_sumUp_63 8 rfl (nI_1s _ _) (by decide) rfl ?_
      refine g_goto C (tgt := 9) dX1_sumUp_66 (by decide) ?_
      refine g_loc C [5, 6, 7, 8, 2, 1, 0] rfl ?_
      refine kk (v3, v4) ?_
      subst ev4
      subst ev3
      subst ev2
      exact b_X1_sumUp_9_eq _ _ _ _ _
  · generalize et1 : loopF (b_X1_sumUp_9 σ x y) (cnt8 y) (0, 0) = t1
    change K σ φ 9 [(0, .ref (ad 30)), (1, .ref (ad 15)), (2, .int x), (3, .int y), (4, .int (t1.1)), (5, .int (t1.2)), (6, .int (y + nI (cnt8 y)))] []
    refine g_iload C (i := 6) dX1_sumUp_9 6 rfl ?_
    refine g_iload_n C (i := 3) dX1_sumUp_11 rfl 3 rfl ?_
    refine g_bipush C (v := 8) dX1_sumUp_12 (by decide) ?_
    refine g_iadd C dX1_sumUp_14 ?_
    refine g_icmp_ge C (tgt := 69) dX1_sumUp_15 (by decide) (fun h2 => ?_) (fun h2 => ?_)
    · refine g_aload_n C (i := 0) dX1_sumUp_69 rfl 0 rfl ?_
      refine gg_30_0 C fl_X1_9 dX1_sumUp_70 ?_
      refine g_iload_n C (i := 2) dX1_sumUp_73 rfl 2 rfl ?_
      refine g_iload C (i := 4) dX1_sumUp_74 4 rfl ?_
      refine sd_31 C hx dX1_sumUp_76 ?_
      refine g_nms C (fun σ5 eσ5 => ?_)
      refine g_aload_n C (i := 0) dX1_sumUp_77 rfl 0 rfl ?_
      refine gg_30_1 C fl_X1_15 dX1_sumUp_78 ?_
      refine g_iload_n C (i := 2) dX1_sumUp_81 rfl 2 rfl ?_
      refine g_iload C (i := 5) dX1_sumUp_82 5 rfl ?_
      refine sd_32 C hx dX1_sumUp_84 ?_
      refine g_nms C (fun σ6 eσ6 => ?_)
      subst eσ6
      subst eσ5
      subst et1
      have e0 := (show f_X1_sumUp σ x y = _ from rfl)
      exact hv _ _ _ _ rfl dX1_sumUp_85 ⟨rfl, (congrArg (fun z => z) e0).symm, rfl⟩
    · exact absurd (c8_exit _) h2
def b_X1_measure_16 (x : Int32) (j3 : Nat) (s3 : Int32 × Sg) : Int32 × Sg := let σ4 : Sg := f_X1_sumUp (s3.2) (nI j3) (((s3.2) 27 (nI j3).toNatClampNeg) + 8); let v5 : Int32 := (if ((i_abs (σ4 31 (nI j3).toNatClampNeg)) + (i_abs (σ4 32 (nI j3).toNatClampNeg))) < (4 * x) then 0 else 1); let σ7 : Sg := sw σ4 33 (nI j3).toNatClampNeg (vp_nar .boolean v5); let v9 : Int32 := (if (nI j3) ≤ 0 then (s3.1) else (if (σ7 33 (nI j3).toNatClampNeg) = (σ7 33 ((nI j3) - 1).toNatClampNeg) then (let σ8 : Sg := f_X1_countPair σ7 (nI j3) x; σ7 33 (nI j3).toNatClampNeg) else (s3.1))); let σ10 : Sg := (if (nI j3) ≤ 0 then σ7 else (if (σ7 33 (nI j3).toNatClampNeg) = (σ7 33 ((nI j3) - 1).toNatClampNeg) then (let σ8 : Sg := f_X1_countPair σ7 (nI j3) x; σ8) else σ7)); let σ12 : Sg := sw σ10 34 (nI j3).toNatClampNeg (vp_nar .boolean v9); (v9, σ12)
theorem b_X1_measure_16_eq (x : Int32) (j3 : Nat) (s3 : Int32 × Sg) : b_X1_measure_16 x j3 s3 = (let σ4 : Sg := f_X1_sumUp (s3.2) (nI j3) (((s3.2) 27 (nI j3).toNatClampNeg) + 8); let v5 : Int32 := (if ((i_abs (σ4 31 (nI j3).toNatClampNeg)) + (i_abs (σ4 32 (nI j3).toNatClampNeg))) < (4 * x) then 0 else 1); let σ7 : Sg := sw σ4 33 (nI j3).toNatClampNeg (vp_nar .boolean v5); let v9 : Int32 := (if (nI j3) ≤ 0 then (s3.1) else (if (σ7 33 (nI j3).toNatClampNeg) = (σ7 33 ((nI j3) - 1).toNatClampNeg) then (let σ8 : Sg := f_X1_countPair σ7 (nI j3) x; σ7 33 (nI j3).toNatClampNeg) else (s3.1))); let σ10 : Sg := (if (nI j3) ≤ 0 then σ7 else (if (σ7 33 (nI j3).toNatClampNeg) = (σ7 33 ((nI j3) - 1).toNatClampNeg) then (let σ8 : Sg := f_X1_countPair σ7 (nI j3) x; σ8) else σ7)); let σ12 : Sg := sw σ10 34 (nI j3).toNatClampNeg (vp_nar .boolean v9); (v9, σ12)) := rfl
def f_X1_measure (σ : Sg) (x : Int32) : Sg := let σ1 : Sg := sw σ 30 4 0; let σ2 : Sg := sw σ1 30 5 0; let t3 : Int32 × Sg := loopF (b_X1_measure_16 x) 8 (1, σ2); t3.2
theorem f_X1_measure_eq (σ : Sg) (x : Int32) : f_X1_measure σ x = (let σ1 : Sg := sw σ 30 4 0; let σ2 : Sg := sw σ1 30 5 0; let t3 : Int32 × Sg := loopF (b_X1_measure_16 x) 8 (1, σ2); t3.2) := rfl
set_option maxRecDepth 100000 in
set_option maxHeartbeats 4000000 in
theorem c_X1_measure (l : Launch) (D : va_G) (ad : Nat → Nat) (dA : Nat → ClassId) (z0 : Nat) (tt : Nat → Nat) (σ : Sg) (φ : Fl) (x : Int32)  : MC l D ad dA z0 tt yX1_measure (Cond.code yX1_measure cX1_measure 6 none :: lw_all) { frames := 2, cells := 0, slots := 0, locals := 64 } [.ref (ad 30), .ref (ad 15), .ref (ad 27), .int x] σ φ (Fn none (f_X1_measure σ x) φ) := by
  refine mk_MC (by decide) (Nat.le_of_ble_eq_true rfl) ?_
  intro K C hi hf hv
  change K σ φ 0 [(0, .ref (ad 30)), (1, .ref (ad 15)), (2, .ref (ad 27)), (3, .int x)] []
  refine g_aload_n C (i := 0) dX1_measure_0 rfl 0 rfl ?_
  refine g_iconst C (v := 0) dX1_measure_1 (by decide) ?_
  refine gp_30_4 C fl_X1_25 dX1_measure_2 ?_
  refine g_nms C (fun σ1 eσ1 => ?_)
  refine g_aload_n C (i := 0) dX1_measure_5 rfl 0 rfl ?_
  refine g_iconst C (v := 0) dX1_measure_6 (by decide) ?_
  refine gp_30_5 C fl_X1_29 dX1_measure_7 ?_
  refine g_nms C (fun σ2 eσ2 => ?_)
  refine g_iconst C (v := 1) dX1_measure_10 (by decide) ?_
  refine g_istore C (i := 4) (lv' := [(4, .int 1), (0, .ref (ad 30)), (1, .ref (ad 15)), (2, .ref (ad 27)), (3, .int x)]) dX1_measure_11 (by decide) rfl ?_
  refine g_iconst C (v := 0) dX1_measure_13 (by decide) ?_
  refine g_istore C (i := 5) (lv' := [(5, .int 0), (4, .int 1), (0, .ref (ad 30)), (1, .ref (ad 15)), (2, .ref (ad 27)), (3, .int x)]) dX1_measure_14 (by decide) rfl ?_
  refine g_loc C (lv' := [(0, .ref (ad 30)), (1, .ref (ad 15)), (2, .ref (ad 27)), (3, .int x), (4, .int 1), (5, .int 0)]) [2, 3, 4, 5, 1, 0] rfl ?_
  refine loopF_ind (b_X1_measure_16 x) 8 (fun (j3 : Nat) (s3 : Int32 × Sg) => K (s3.2) φ 16 [(0, .ref (ad 30)), (1, .ref (ad 15)), (2, .ref (ad 27)), (3, .int x), (4, .int (s3.1)), (5, .int (nI j3))] []) (1, σ2) ?_ ?_
  · intro j3 s3 hj3 kk
    change K (s3.2) φ 16 [(0, .ref (ad 30)), (1, .ref (ad 15)), (2, .ref (ad 27)), (3, .int x), (4, .int (s3.1)), (5, .int (nI j3))] []
    refine g_iload C (i := 5) dX1_measure_16 5 rfl ?_
    refine g_bipush C (v := 8) dX1_measure_18 (by decide) ?_
    refine g_icmp_ge C (tgt := 131) dX1_measure_20 (by decide) (fun h1 => ?_) (fun h1 => ?_)
    · exact absurd h1 (nI_ge hj3 (by decide))
    · refine g_aload_n C (i := 0) dX1_measure_23 rfl 0 rfl ?_
      refine g_aload_n C (i := 1) dX1_measure_24 rfl 1 rfl ?_
      refine g_iload C (i := 5) dX1_measure_25 5 rfl ?_
      refine g_aload_n C (i := 2) dX1_measure_27 rfl 2 rfl ?_
      refine g_iload C (i := 5) dX1_measure_28 5 rfl ?_
      refine ld_27 C (vp_in_nI (Nat.lt_of_lt_of_le hj3 (by decide)) (by decide)) dX1_measure_30 ?_
      refine g_bipush C (v := 8) dX1_measure_31 (by decide) ?_
      refine g_iadd C dX1_measure_33 ?_
      refine g_callV C (st := []) (c_X1_sumUp l D ad dA z0 tt (s3.2) φ (nI j3) (((s3.2) 27 (nI j3).toNatClampNeg) + 8) (vp_in_nI (Nat.lt_of_lt_of_le hj3 (by decide)) (by decide))) rfl ml_X1_32 im_X1_sumUp se_X1_sumUp in_X1 co_X1_sumUp dyV_X1_sumUp rfl rfl ⟨(Nat.le_of_ble_eq_true rfl), (Nat.le_of_ble_eq_true rfl)⟩ 30 1 (fun f => at_30 ad dA (s3.2) f) rfl dX1_measure_34 rfl (Nat.le_of_ble_eq_true rfl) (g_fnv ?_)
      refine g_nms C (fun σ4 eσ4 => ?_)
      refine g_aload_n C (i := 0) dX1_measure_37 rfl 0 rfl ?_
      refine gg_30_2 C fl_X1_18 dX1_measure_38 ?_
      refine g_iload C (i := 5) dX1_measure_41 5 rfl ?_
      refine g_aload_n C (i := 0) dX1_measure_43 rfl 0 rfl ?_
      refine gg_30_0 C fl_X1_9 dX1_measure_44 ?_
      refine g_iload C (i := 5) dX1_measure_47 5 rfl ?_
      refine ld_31 C (vp_in_nI (Nat.lt_of_lt_of_le hj3 (by decide)) (by decide)) dX1_measure_49 ?_
      refine g_abs C ml_X1_36 sm_abs in_J9 co_abs (Nat.le_of_ble_eq_true rfl) (Nat.le_of_ble_eq_true rfl) dX1_measure_50 ?_
      refine g_absn C ?_
      refine g_aload_n C (i := 0) dX1_measure_53 rfl 0 rfl ?_
      refine gg_30_1 C fl_X1_15 dX1_measure_54 ?_
      refine g_iload C (i := 5) dX1_measure_57 5 rfl ?_
      refine ld_32 C (vp_in_nI (Nat.lt_of_lt_of_le hj3 (by decide)) (by decide)) dX1_measure_59 ?_
      refine g_abs C ml_X1_36 sm_abs in_J9 co_abs (Nat.le_of_ble_eq_true rfl) (Nat.le_of_ble_eq_true rfl) dX1_measure_60 ?_
      refine g_absn C ?_
      refine g_iadd C dX1_measure_63 ?_
      refine g_iconst C (v := 4) dX1_measure_64 (by decide) ?_
      refine g_iload_n C (i := 3) dX1_measure_65 rfl 3 rfl ?_
      refine g_imul C dX1_measure_66 ?_
      have J6 : ∀ (v5 : Int32), (if ((i_abs (σ4 31 (nI j3).toNatClampNeg)) + (i_abs (σ4 32 (nI j3).toNatClampNeg))) < (4 * x) then 0 else 1) = v5 → K σ4 φ 75 [(0, .ref (ad 30)), (1, .ref (ad 15)), (2, .ref (ad 27)), (3, .int x), (4, .int (s3.1)), (5, .int (nI j3))] [.int v5, .int (nI j3), .ref (ad 33)] := by
        intro v5 ev5
        refine sd_33 C (vp_in_nI (Nat.lt_of_lt_of_le hj3 (by decide)) (by decide)) dX1_measure_75 ?_
        refine g_nms C (fun σ7 eσ7 => ?_)
        refine g_iload C (i := 5) dX1_measure_76 5 rfl ?_
        have J11 : ∀ (v9 : Int32), ∀ (σ10 : Sg), (if (nI j3) ≤ 0 then (s3.1) else (if (σ7 33 (nI j3).toNatClampNeg) = (σ7 33 ((nI j3) - 1).toNatClampNeg) then (let σ8 : Sg := f_X1_countPair σ7 (nI j3) x; σ7 33 (nI j3).toNatClampNeg) else (s3.1))) = v9 → (if (nI j3) ≤ 0 then σ7 else (if (σ7 33 (nI j3).toNatClampNeg) = (σ7 33 ((nI j3) - 1).toNatClampNeg) then (let σ8 : Sg := f_X1_countPair σ7 (nI j3) x; σ8) else σ7)) = σ10 → K σ10 φ 116 [(0, .ref (ad 30)), (1, .ref (ad 15)), (2, .ref (ad 27)), (3, .int x), (4, .int v9), (5, .int (nI j3))] [] := by
          intro v9 σ10 ev9 eσ10
          refine g_aload_n C (i := 0) dX1_measure_116 rfl 0 rfl ?_
          refine gg_30_3 C fl_X1_22 dX1_measure_117 ?_
          refine g_iload C (i := 5) dX1_measure_120 5 rfl ?_
          refine g_iload C (i := 4) dX1_measure_122 4 rfl ?_
          refine sd_34 C (vp_in_nI (Nat.lt_of_lt_of_le hj3 (by decide)) (by decide)) dX1_measure_124 ?_
          refine g_nms C (fun σ12 eσ12 => ?_)
          refine g_iinc C (i := 5) (v := nI (j3 + 1)) (lv' := [(5, .int (nI (j3 + 1))), (0, .ref (ad 30)), (1, .ref (ad 15)), (2, .ref (ad 27)), (3, .int x), (4, .int v9)]) dX1_measure_125 5 rfl (nI_1 _) (by decide) rfl ?_
          refine g_goto C (tgt := 16) dX1_measure_128 (by decide) ?_
          refine g_loc C [1, 2, 3, 4, 5, 0] rfl ?_
          refine kk (v9, σ12) ?_
          subst eσ12
          subst eσ10
          subst ev9
          subst eσ7
          subst ev5
          subst eσ4
          exact b_X1_measure_16_eq _ _ _
        refine g_if_le C (tgt := 116) dX1_measure_78 (by decide) (fun h3 => ?_) (fun h3 => ?_)
        · refine g_loc C [0, 1, 2, 3, 4, 5] rfl ?_
          exact J11 _ _ ((if_pos h3)) ((if_pos h3))
        · refine g_aload_n C (i := 0) dX1_measure_81 rfl 0 rfl ?_
          refine gg_30_2 C fl_X1_18 dX1_measure_82 ?_
          refine g_iload C (i := 5) dX1_measure_85 5 rfl ?_
          refine ld_33 C (vp_in_nI (Nat.lt_of_lt_of_le hj3 (by decide)) (by decide)) dX1_measure_87 ?_
          refine g_aload_n C (i := 0) dX1_measure_88 rfl 0 rfl ?_
          refine gg_30_2 C fl_X1_18 dX1_measure_89 ?_
          refine g_iload C (i := 5) dX1_measure_92 5 rfl ?_
          refine g_iconst C (v := 1) dX1_measure_94 (by decide) ?_
          refine g_isub C dX1_measure_95 ?_
          refine ld_33 C (m1_in3 (by decide) (vp_in_nI (Nat.lt_of_lt_of_le hj3 (by decide)) (by decide)) h3) dX1_measure_96 ?_
          refine g_icmp_ne C (tgt := 116) dX1_measure_97 (by decide) (fun h4 => ?_) (fun h4 => ?_)
          · refine g_loc C [0, 1, 2, 3, 4, 5] rfl ?_
            exact J11 _ _ (((if_neg h3).trans (if_neg h4))) (((if_neg h3).trans (if_neg h4)))
          · refine g_aload_n C (i := 0) dX1_measure_100 rfl 0 rfl ?_
            refine gg_30_2 C fl_X1_18 dX1_measure_101 ?_
            refine g_iload C (i := 5) dX1_measure_104 5 rfl ?_
            refine ld_33 C (vp_in_nI (Nat.lt_of_lt_of_le hj3 (by decide)) (by decide)) dX1_measure_106 ?_
            refine g_istore C (i := 4) (lv' := [(4, .int (σ7 33 (nI j3).toNatClampNeg)), (0, .ref (ad 30)), (1, .ref (ad 15)), (2, .ref (ad 27)), (3, .int x), (5, .int (nI j3))]) dX1_measure_107 (by decide) rfl ?_
            refine g_aload_n C (i := 0) dX1_measure_109 rfl 1 rfl ?_
            refine g_iload C (i := 5) dX1_measure_110 5 rfl ?_
            refine g_iload_n C (i := 3) dX1_measure_112 rfl 4 rfl ?_
            refine g_callV C (st := []) (c_X1_countPair l D ad dA z0 tt σ7 φ (nI j3) x (vp_in_nI (Nat.lt_of_lt_of_le hj3 (by decide)) (by decide))) rfl ml_X1_42 im_X1_countPair se_X1_countPair in_X1 co_X1_countPair dyV_X1_countPair rfl rfl ⟨(Nat.le_of_ble_eq_true rfl), (Nat.le_of_ble_eq_true rfl)⟩ 30 1 (fun f => at_30 ad dA σ7 f) rfl dX1_measure_113 rfl (Nat.le_of_ble_eq_true rfl) (g_fnv ?_)
            refine g_nms C (fun σ8 eσ8 => ?_)
            refine g_loc C [1, 2, 3, 4, 0, 5] rfl ?_
            subst eσ8
            exact J11 _ _ (((if_neg h3).trans (if_pos h4))) (((if_neg h3).trans (if_pos h4)))
      refine g_icmp_lt C (tgt := 74) dX1_measure_67 (by decide) (fun h2 => ?_) (fun h2 => ?_)
      · refine g_iconst C (v := 0) dX1_measure_74 (by decide) ?_
        refine g_loc C [0, 1, 2, 3, 4, 5] rfl ?_
        exact J6 _ ((if_pos h2))
      · refine g_iconst C (v := 1) dX1_measure_70 (by decide) ?_
        refine g_goto C (tgt := 75) dX1_measure_71 (by decide) ?_
        refine g_loc C [0, 1, 2, 3, 4, 5] rfl ?_
        exact J6 _ ((if_neg h2))
  · generalize et3 : loopF (b_X1_measure_16 x) 8 (1, σ2) = t3
    change K (t3.2) φ 16 [(0, .ref (ad 30)), (1, .ref (ad 15)), (2, .ref (ad 27)), (3, .int x), (4, .int (t3.1)), (5, .int (nI 8))] []
    refine g_iload C (i := 5) dX1_measure_16 5 rfl ?_
    refine g_bipush C (v := 8) dX1_measure_18 (by decide) ?_
    refine g_icmp_ge C (tgt := 131) dX1_measure_20 (by decide) (fun h5 => ?_) (fun h5 => ?_)
    · subst et3
      subst eσ2
      subst eσ1
      have e0 := (show f_X1_measure σ x = _ from rfl)
      exact hv _ _ _ _ rfl dX1_measure_131 ⟨rfl, (congrArg (fun z => z) e0).symm, rfl⟩
    · exact absurd (nI_le (Nat.le_refl _) (by decide)) h5
def b_X11_fill_32 (x : Int32) (a : Int32) (b : Int32) (c : Int32) (j1 : Nat) (s1 : Int32 × Sg) : Int32 × Sg := let v2 : Int32 := (if ((s1.2) 54 ((10 * x) + nI j1).toNatClampNeg) = a then (if ((s1.2) 55 ((10 * x) + nI j1).toNatClampNeg) = b then (if ((s1.2) 56 ((10 * x) + nI j1).toNatClampNeg) = c then 0 else 1) else 1) else 1); let σ4 : Sg := f_X11_put (s1.2) ((10 * x) + nI j1) a b c; ((s1.1) + v2, σ4)
theorem b_X11_fill_32_eq (x : Int32) (a : Int32) (b : Int32) (c : Int32) (j1 : Nat) (s1 : Int32 × Sg) : b_X11_fill_32 x a b c j1 s1 = (let v2 : Int32 := (if ((s1.2) 54 ((10 * x) + nI j1).toNatClampNeg) = a then (if ((s1.2) 55 ((10 * x) + nI j1).toNatClampNeg) = b then (if ((s1.2) 56 ((10 * x) + nI j1).toNatClampNeg) = c then 0 else 1) else 1) else 1); let σ4 : Sg := f_X11_put (s1.2) ((10 * x) + nI j1) a b c; ((s1.1) + v2, σ4)) := rfl
def f_X11_fill (σ : Sg) (x : Int32) (a : Int32) (b : Int32) (c : Int32) : Int32 × Sg := if (f_X11_noLine x) = 0 then (if (f_X11_isColor a b c) = 0 then ((-100002), σ) else (let t1 : Int32 × Sg := loopF (b_X11_fill_32 x a b c) 10 (0, σ); (t1.1, t1.2))) else ((-100001), σ)
theorem f_X11_fill_eq (σ : Sg) (x : Int32) (a : Int32) (b : Int32) (c : Int32) : f_X11_fill σ x a b c = (if (f_X11_noLine x) = 0 then (if (f_X11_isColor a b c) = 0 then ((-100002), σ) else (let t1 : Int32 × Sg := loopF (b_X11_fill_32 x a b c) 10 (0, σ); (t1.1, t1.2))) else ((-100001), σ)) := rfl
set_option maxRecDepth 100000 in
set_option maxHeartbeats 4000000 in
theorem c_X11_fill (l : Launch) (D : va_G) (ad : Nat → Nat) (dA : Nat → ClassId) (z0 : Nat) (tt : Nat → Nat) (σ : Sg) (φ : Fl) (x : Int32) (a : Int32) (b : Int32) (c : Int32)  : MC l D ad dA z0 tt yX11_fill (Cond.code yX11_fill cX11_fill 7 (some .int) :: lw_all) { frames := 2, cells := 0, slots := 0, locals := 44 } [.ref (ad 53), .int x, .int a, .int b, .int c] σ φ (Fn (some (.int (f_X11_fill σ x a b c).1)) (f_X11_fill σ x a b c).2 φ) := by
  refine mk_MC (by decide) (Nat.le_of_ble_eq_true rfl) ?_
  intro K C hi hf hv
  change K σ φ 0 [(0, .ref (ad 53)), (1, .int x), (2, .int a), (3, .int b), (4, .int c)] []
  refine g_iload_n C (i := 1) dX11_fill_0 rfl 1 rfl ?_
  refine g_callS C (st := []) (c_X11_noLine l D ad dA z0 tt σ φ x) rfl ml_X11_107 sm_X11_noLine in_X11 co_X11_noLine dyS_X11_noLine rfl rfl ⟨(Nat.le_of_ble_eq_true rfl), (Nat.le_of_ble_eq_true rfl)⟩ dX11_fill_1 rfl (Nat.le_of_ble_eq_true rfl) (g_fni ?_)
  refine g_if_eq C (tgt := 10) dX11_fill_4 (by decide) (fun h1 => ?_) (fun h1 => ?_)
  · refine g_iload_n C (i := 2) dX11_fill_10 rfl 2 rfl ?_
    refine g_iload_n C (i := 3) dX11_fill_11 rfl 3 rfl ?_
    refine g_iload C (i := 4) dX11_fill_12 4 rfl ?_
    refine g_callS C (st := []) (c_X11_isColor l D ad dA z0 tt σ φ a b c) rfl ml_X11_116 sm_X11_isColor in_X11 co_X11_isColor dyS_X11_isColor rfl rfl ⟨(Nat.le_of_ble_eq_true rfl), (Nat.le_of_ble_eq_true rfl)⟩ dX11_fill_14 rfl (Nat.le_of_ble_eq_true rfl) (g_fni ?_)
    refine g_if_ne C (tgt := 23) dX11_fill_17 (by decide) (fun h2 => ?_) (fun h2 => ?_)
    · refine g_iconst C (v := 0) dX11_fill_23 (by decide) ?_
      refine g_istore C (i := 5) (lv' := [(5, .int 0), (0, .ref (ad 53)), (1, .int x), (2, .int a), (3, .int b), (4, .int c)]) dX11_fill_24 (by decide) rfl ?_
      refine g_bipush C (v := 10) dX11_fill_26 (by decide) ?_
      refine g_iload_n C (i := 1) dX11_fill_28 rfl 2 rfl ?_
      refine g_imul C dX11_fill_29 ?_
      refine g_istore C (i := 6) (lv' := [(6, .int (10 * x)), (5, .int 0), (0, .ref (ad 53)), (1, .int x), (2, .int a), (3, .int b), (4, .int c)]) dX11_fill_30 (by decide) rfl ?_
      refine g_loc C (lv' := [(0, .ref (ad 53)), (1, .int x), (2, .int a), (3, .int b), (4, .int c), (5, .int 0), (6, .int (10 * x))]) [2, 3, 4, 5, 6, 1, 0] rfl ?_
      refine g_lvq C (lv' := [(0, .ref (ad 53)), (1, .int x), (2, .int a), (3, .int b), (4, .int c), (5, .int 0), (6, .int ((10 * x) + nI 0))]) (by rw [nI_s0]) ?_
      refine loopF_ind (b_X11_fill_32 x a b c) 10 (fun (j1 : Nat) (s1 : Int32 × Sg) => K (s1.2) φ 32 [(0, .ref (ad 53)), (1, .int x), (2, .int a), (3, .int b), (4, .int c), (5, .int (s1.1)), (6, .int ((10 * x) + nI j1))] []) (0, σ) ?_ ?_
      · intro j1 s1 hj1 kk
        change K (s1.2) φ 32 [(0, .ref (ad 53)), (1, .int x), (2, .int a), (3, .int b), (4, .int c), (5, .int (s1.1)), (6, .int ((10 * x) + nI j1))] []
        refine g_iload C (i := 6) dX11_fill_32 6 rfl ?_
        refine g_bipush C (v := 10) dX11_fill_34 (by decide) ?_
        refine g_iload_n C (i := 1) dX11_fill_36 rfl 1 rfl ?_
        refine g_imul C dX11_fill_37 ?_
        refine g_bipush C (v := 10) dX11_fill_38 (by decide) ?_
        refine g_iadd C dX11_fill_40 ?_
        refine g_icmp_ge C (tgt := 104) dX11_fill_41 (by decide) (fun h3 => ?_) (fun h3 => ?_)
        · exact absurd h3 (f10_step (nl_in h1) hj1)
        · refine g_iload C (i := 5) dX11_fill_44 5 rfl ?_
          refine g_aload_n C (i := 0) dX11_fill_46 rfl 0 rfl ?_
          refine gg_53_0 C fl_X11_7 dX11_fill_47 ?_
          refine g_iload C (i := 6) dX11_fill_50 6 rfl ?_
          refine ld_54 C (pm_in (nl_in h1) (vp_in_nI (Nat.lt_of_lt_of_le hj1 (by decide)) (by decide))) dX11_fill_52 ?_
          refine g_iload_n C (i := 2) dX11_fill_53 rfl 2 rfl ?_
          have J3 : ∀ (v2 : Int32), (if ((s1.2) 54 ((10 * x) + nI j1).toNatClampNeg) = a then (if ((s1.2) 55 ((10 * x) + nI j1).toNatClampNeg) = b then (if ((s1.2) 56 ((10 * x) + nI j1).toNatClampNeg) = c then 0 else 1) else 1) else 1) = v2 → K (s1.2) φ 85 [(0, .ref (ad 53)), (1, .int x), (2, .int a), (3, .int b), (4, .int c), (6, .int ((10 * x) + nI j1))] [.int v2, .int (s1.1)] := by
            intro v2 ev2
            refine g_iadd C dX11_fill_85 ?_
            refine g_istore C (i := 5) (lv' := [(5, .int ((s1.1) + v2)), (0, .ref (ad 53)), (1, .int x), (2, .int a), (3, .int b), (4, .int c), (6, .int ((10 * x) + nI j1))]) dX11_fill_86 (by decide) rfl ?_
            refine g_aload_n C (i := 0) dX11_fill_88 rfl 1 rfl ?_
            refine g_iload C (i := 6) dX11_fill_89 6 rfl ?_
            refine g_iload_n C (i := 2) dX11_fill_91 rfl 3 rfl ?_
            refine g_iload_n C (i := 3) dX11_fill_92 rfl 4 rfl ?_
            refine g_iload C (i := 4) dX11_fill_93 5 rfl ?_
            refine g_callV C (st := []) (c_X11_put l D ad dA z0 tt (s1.2) φ ((10 * x) + nI j1) a b c (pm_in (nl_in h1) (vp_in_nI (Nat.lt_of_lt_of_le hj1 (by decide)) (by decide)))) rfl ml_X11_120 im_X11_put se_X11_put in_X11 co_X11_put dyV_X11_put rfl rfl ⟨(Nat.le_of_ble_eq_true rfl), (Nat.le_of_ble_eq_true rfl)⟩ 53 11 (fun f => at_53 ad dA (s1.2) f) rfl dX11_fill_95 rfl (Nat.le_of_ble_eq_true rfl) (g_fnv ?_)
            refine g_nms C (fun σ4 eσ4 => ?_)
            refine g_iinc C (i := 6) (v := (10 * x) + nI (j1 + 1)) (lv' := [(6, .int ((10 * x) + nI (j1 + 1))), (5, .int ((s1.1) + v2)), (0, .ref (ad 53)), (1, .int x), (2, .int a), (3, .int b), (4, .int c)]) dX11_fill_98 6 rfl (nI_1s _ _) (by decide) rfl ?_
            refine g_goto C (tgt := 32) dX11_fill_101 (by decide) ?_
            refine g_loc C [2, 3, 4, 5, 6, 1, 0] rfl ?_
            refine kk ((s1.1) + v2, σ4) ?_
            subst eσ4
            subst ev2
            exact b_X11_fill_32_eq _ _ _ _ _ _
          refine g_icmp_ne C (tgt := 80) dX11_fill_54 (by decide) (fun h4 => ?_) (fun h4 => ?_)
          · refine g_iconst C (v := 1) dX11_fill_80 (by decide) ?_
            refine g_goto C (tgt := 85) dX11_fill_81 (by decide) ?_
            refine g_loc C [0, 1, 2, 3, 4, 6] rfl ?_
            exact J3 _ ((if_neg h4))
          · refine g_aload_n C (i := 0) dX11_fill_57 rfl 0 rfl ?_
            refine gg_53_1 C fl_X11_13 dX11_fill_58 ?_
            refine g_iload C (i := 6) dX11_fill_61 6 rfl ?_
            refine ld_55 C (pm_in (nl_in h1) (vp_in_nI (Nat.lt_of_lt_of_le hj1 (by decide)) (by decide))) dX11_fill_63 ?_
            refine g_iload_n C (i := 3) dX11_fill_64 rfl 3 rfl ?_
            refine g_icmp_ne C (tgt := 80) dX11_fill_65 (by decide) (fun h5 => ?_) (fun h5 => ?_)
            · refine g_iconst C (v := 1) dX11_fill_80 (by decide) ?_
              refine g_goto C (tgt := 85) dX11_fill_81 (by decide) ?_
              refine g_loc C [0, 1, 2, 3, 4, 6] rfl ?_
              exact J3 _ (((if_pos h4).trans (if_neg h5)))
            · refine g_aload_n C (i := 0) dX11_fill_68 rfl 0 rfl ?_
              refine gg_53_2 C fl_X11_16 dX11_fill_69 ?_
              refine g_iload C (i := 6) dX11_fill_72 6 rfl ?_
              refine ld_56 C (pm_in (nl_in h1) (vp_in_nI (Nat.lt_of_lt_of_le hj1 (by decide)) (by decide))) dX11_fill_74 ?_
              refine g_iload C (i := 4) dX11_fill_75 4 rfl ?_
              refine g_icmp_eq C (tgt := 84) dX11_fill_77 (by decide) (fun h6 => ?_) (fun h6 => ?_)
              · refine g_iconst C (v := 0) dX11_fill_84 (by decide) ?_
                refine g_loc C [0, 1, 2, 3, 4, 6] rfl ?_
                exact J3 _ (((if_pos h4).trans ((if_pos h5).trans (if_pos h6))))
              · refine g_iconst C (v := 1) dX11_fill_80 (by decide) ?_
                refine g_goto C (tgt := 85) dX11_fill_81 (by decide) ?_
                refine g_loc C [0, 1, 2, 3, 4, 6] rfl ?_
                exact J3 _ (((if_pos h4).trans ((if_pos h5).trans (if_neg h6))))
      · generalize et1 : loopF (b_X11_fill_32 x a b c) 10 (0, σ) = t1
        change K (t1.2) φ 32 [(0, .ref (ad 53)), (1, .int x), (2, .int a), (3, .int b), (4, .int c), (5, .int (t1.1)), (6, .int ((10 * x) + nI 10))] []
        refine g_iload C (i := 6) dX11_fill_32 6 rfl ?_
        refine g_bipush C (v := 10) dX11_fill_34 (by decide) ?_
        refine g_iload_n C (i := 1) dX11_fill_36 rfl 1 rfl ?_
        refine g_imul C dX11_fill_37 ?_
        refine g_bipush C (v := 10) dX11_fill_38 (by decide) ?_
        refine g_iadd C dX11_fill_40 ?_
        refine g_icmp_ge C (tgt := 104) dX11_fill_41 (by decide) (fun h7 => ?_) (fun h7 => ?_)
        · refine g_iload C (i := 5) dX11_fill_104 5 rfl ?_
          subst et1
          have e0 := (show f_X11_fill σ x a b c = _ from ((f_X11_fill_eq _ _ _ _ _).trans ((if_pos h1).trans (if_neg h2))))
          exact hi _ _ _ _ _ _ rfl dX11_fill_106 rfl ⟨(congrArg (fun z => some (Value.int z.1)) e0).symm, (congrArg (fun z => z.2) e0).symm, rfl⟩
        · exact absurd (i32_refl _) h7
    · refine g_ldc C kc_X11_119 dX11_fill_20 ?_
      have e0 := (show f_X11_fill σ x a b c = _ from ((f_X11_fill_eq _ _ _ _ _).trans ((if_pos h1).trans (if_pos h2))))
      exact hi _ _ _ _ _ _ rfl dX11_fill_22 rfl ⟨(congrArg (fun z => some (Value.int z.1)) e0).symm, (congrArg (fun z => z.2) e0).symm, rfl⟩
  · refine g_ldc C kc_X11_115 dX11_fill_7 ?_
    have e0 := (show f_X11_fill σ x a b c = _ from ((f_X11_fill_eq _ _ _ _ _).trans (if_neg h1)))
    exact hi _ _ _ _ _ _ rfl dX11_fill_9 rfl ⟨(congrArg (fun z => some (Value.int z.1)) e0).symm, (congrArg (fun z => z.2) e0).symm, rfl⟩
def b_X11_findPulse_13 (σ : Sg) (x : Int32) (j1 : Nat) (j2 : Nat) (s2 : Int32) : Int32 := let v3 : Int32 := (if s2 = 0 then 0 else (if (-20) < (f_X11_signal σ x (nI (j1 + j2))) then 0 else 1)); v3
theorem b_X11_findPulse_13_eq (σ : Sg) (x : Int32) (j1 : Nat) (j2 : Nat) (s2 : Int32) : b_X11_findPulse_13 σ x j1 j2 s2 = (let v3 : Int32 := (if s2 = 0 then 0 else (if (-20) < (f_X11_signal σ x (nI (j1 + j2))) then 0 else 1)); v3) := rfl
def b_X11_findPulse_2 (σ : Sg) (x : Int32) (j1 : Nat) (s1 : Unit) : (Int32) ⊕ (Unit) := let t2 : Int32 := loopF (b_X11_findPulse_13 σ x j1) 4 1; if t2 = 0 then (.inr ()) else (.inl (nI j1))
theorem b_X11_findPulse_2_eq (σ : Sg) (x : Int32) (j1 : Nat) (s1 : Unit) : b_X11_findPulse_2 σ x j1 s1 = (let t2 : Int32 := loopF (b_X11_findPulse_13 σ x j1) 4 1; if t2 = 0 then (.inr ()) else (.inl (nI j1))) := rfl
def f_X11_findPulse (σ : Sg) (x : Int32) : Int32 := sumE (loopE (b_X11_findPulse_2 σ x) 21 0 ()) (fun t1 => (-100004))
theorem f_X11_findPulse_eq (σ : Sg) (x : Int32) : f_X11_findPulse σ x = (sumE (loopE (b_X11_findPulse_2 σ x) 21 0 ()) (fun t1 => (-100004))) := rfl
set_option maxRecDepth 100000 in
set_option maxHeartbeats 4000000 in
theorem c_X11_findPulse (l : Launch) (D : va_G) (ad : Nat → Nat) (dA : Nat → ClassId) (z0 : Nat) (tt : Nat → Nat) (σ : Sg) (φ : Fl) (x : Int32) (hx : vp_in x 8) : MC l D ad dA z0 tt yX11_findPulse (Cond.code yX11_findPulse cX11_findPulse 5 (some .int) :: lw_all) { frames := 2, cells := 0, slots := 0, locals := 49 } [.ref (ad 53), .int x] σ φ (Fn (some (.int (f_X11_findPulse σ x))) σ φ) := by
  refine mk_MC (by decide) (Nat.le_of_ble_eq_true rfl) ?_
  intro K C hi hf hv
  change K σ φ 0 [(0, .ref (ad 53)), (1, .int x)] []
  refine g_iconst C (v := 0) dX11_findPulse_0 (by decide) ?_
  refine g_istore_n C (i := 2) (lv' := [(2, .int 0), (0, .ref (ad 53)), (1, .int x)]) dX11_findPulse_1 rfl (by decide) rfl ?_
  refine g_loc C (lv' := [(0, .ref (ad 53)), (1, .int x), (2, .int 0)]) [1, 2, 0] rfl ?_
  refine loopE_ind (b_X11_findPulse_2 σ x) 21 (fun (j1 : Nat) (s1 : Unit) => K σ φ 2 [(0, .ref (ad 53)), (1, .int x), (2, .int (nI j1))] []) () ?_ ?_
  · intro n j1 s1 hn hF1 kk
    have hj1 : j1 < 21 := by omega
    change K σ φ 2 [(0, .ref (ad 53)), (1, .int x), (2, .int (nI j1))] []
    refine g_iload_n C (i := 2) dX11_findPulse_2 rfl 2 rfl ?_
    refine g_bipush C (v := 20) dX11_findPulse_3 (by decide) ?_
    refine g_icmp_gt C (tgt := 61) dX11_findPulse_5 (by decide) (fun h1 => ?_) (fun h1 => ?_)
    · exact absurd h1 (nI_nlt (a := 20) (Nat.le_of_lt_succ hj1) (by decide))
    · refine g_iconst C (v := 1) dX11_findPulse_8 (by decide) ?_
      refine g_istore_n C (i := 3) (lv' := [(3, .int 1), (0, .ref (ad 53)), (1, .int x), (2, .int (nI j1))]) dX11_findPulse_9 rfl (by decide) rfl ?_
      refine g_iload_n C (i := 2) dX11_findPulse_10 rfl 3 rfl ?_
      refine g_istore C (i := 4) (lv' := [(4, .int (nI j1)), (3, .int 1), (0, .ref (ad 53)), (1, .int x), (2, .int (nI j1))]) dX11_findPulse_11 (by decide) rfl ?_
      refine g_loc C (lv' := [(0, .ref (ad 53)), (1, .int x), (2, .int (nI j1)), (3, .int 1), (4, .int (nI j1))]) [2, 3, 4, 1, 0] rfl ?_
      refine loopF_ind (b_X11_findPulse_13 σ x j1) 4 (fun (j2 : Nat) (s2 : Int32) => K σ φ 13 [(0, .ref (ad 53)), (1, .int x), (2, .int (nI j1)), (3, .int s2), (4, .int (nI (j1 + j2)))] []) 1 ?_ ?_
      · intro j2 s2 hj2 kk
        change K σ φ 13 [(0, .ref (ad 53)), (1, .int x), (2, .int (nI j1)), (3, .int s2), (4, .int (nI (j1 + j2)))] []
        refine g_iload C (i := 4) dX11_findPulse_13 4 rfl ?_
        refine g_iload_n C (i := 2) dX11_findPulse_15 rfl 2 rfl ?_
        refine g_iconst C (v := 4) dX11_findPulse_16 (by decide) ?_
        refine g_iadd C dX11_findPulse_17 ?_
        refine g_icmp_ge C (tgt := 49) dX11_findPulse_18 (by decide) (fun h2 => ?_) (fun h2 => ?_)
        · exact absurd h2 (fp_step (Nat.lt_of_lt_of_le hj1 (by decide)) hj2)
        · refine g_iload_n C (i := 3) dX11_findPulse_21 rfl 3 rfl ?_
          have J4 : ∀ (v3 : Int32), (if s2 = 0 then 0 else (if (-20) < (f_X11_signal σ x (nI (j1 + j2))) then 0 else 1)) = v3 → K σ φ 42 [(0, .ref (ad 53)), (1, .int x), (2, .int (nI j1)), (4, .int (nI (j1 + j2)))] [.int v3] := by
            intro v3 ev3
            refine g_istore_n C (i := 3) (lv' := [(3, .int v3), (0, .ref (ad 53)), (1, .int x), (2, .int (nI j1)), (4, .int (nI (j1 + j2)))]) dX11_findPulse_42 rfl (by decide) rfl ?_
            refine g_iinc C (i := 4) (v := nI (j1 + (j2 + 1))) (lv' := [(4, .int (nI (j1 + (j2 + 1)))), (3, .int v3), (0, .ref (ad 53)), (1, .int x), (2, .int (nI j1))]) dX11_findPulse_43 4 rfl (nI_1 _) (by decide) rfl ?_
            refine g_goto C (tgt := 13) dX11_findPulse_46 (by decide) ?_
            refine g_loc C [2, 3, 4, 1, 0] rfl ?_
            refine kk v3 ?_
            subst ev3
            exact b_X11_findPulse_13_eq _ _ _ _ _
          refine g_if_eq C (tgt := 41) dX11_findPulse_22 (by decide) (fun h3 => ?_) (fun h3 => ?_)
          · refine g_iconst C (v := 0) dX11_findPulse_41 (by decide) ?_
            refine g_loc C [0, 1, 2, 4] rfl ?_
            exact J4 _ ((if_pos h3))
          · refine g_aload_n C (i := 0) dX11_findPulse_25 rfl 0 rfl ?_
            refine g_iload_n C (i := 1) dX11_findPulse_26 rfl 1 rfl ?_
            refine g_iload C (i := 4) dX11_findPulse_27 4 rfl ?_
            refine g_callV C (st := []) (c_X11_signal l D ad dA z0 tt σ φ x (nI (j1 + j2)) hx) rfl ml_X11_151 im_X11_signal se_X11_signal in_X11 co_X11_signal dyV_X11_signal rfl rfl ⟨(Nat.le_of_ble_eq_true rfl), (Nat.le_of_ble_eq_true rfl)⟩ 53 11 (fun f => at_53 ad dA σ f) rfl dX11_findPulse_29 rfl (Nat.le_of_ble_eq_true rfl) (g_fni ?_)
            refine g_bipush C (v := (-20)) dX11_findPulse_32 (by decide) ?_
            refine g_icmp_gt C (tgt := 41) dX11_findPulse_34 (by decide) (fun h4 => ?_) (fun h4 => ?_)
            · refine g_iconst C (v := 0) dX11_findPulse_41 (by decide) ?_
              refine g_loc C [0, 1, 2, 4] rfl ?_
              exact J4 _ (((if_neg h3).trans (if_pos h4)))
            · refine g_iconst C (v := 1) dX11_findPulse_37 (by decide) ?_
              refine g_goto C (tgt := 42) dX11_findPulse_38 (by decide) ?_
              refine g_loc C [0, 1, 2, 4] rfl ?_
              exact J4 _ (((if_neg h3).trans (if_neg h4)))
      · generalize et2 : loopF (b_X11_findPulse_13 σ x j1) 4 1 = t2
        change K σ φ 13 [(0, .ref (ad 53)), (1, .int x), (2, .int (nI j1)), (3, .int t2), (4, .int (nI (j1 + 4)))] []
        refine g_iload C (i := 4) dX11_findPulse_13 4 rfl ?_
        refine g_iload_n C (i := 2) dX11_findPulse_15 rfl 2 rfl ?_
        refine g_iconst C (v := 4) dX11_findPulse_16 (by decide) ?_
        refine g_iadd C dX11_findPulse_17 ?_
        refine g_icmp_ge C (tgt := 49) dX11_findPulse_18 (by decide) (fun h5 => ?_) (fun h5 => ?_)
        · refine g_iload_n C (i := 3) dX11_findPulse_49 rfl 3 rfl ?_
          refine g_if_eq C (tgt := 55) dX11_findPulse_50 (by decide) (fun h6 => ?_) (fun h6 => ?_)
          · refine g_iinc C (i := 2) (v := nI (j1 + 1)) (lv' := [(2, .int (nI (j1 + 1))), (0, .ref (ad 53)), (1, .int x), (3, .int t2), (4, .int (nI (j1 + 4)))]) dX11_findPulse_55 2 rfl (nI_1 _) (by decide) rfl ?_
            refine g_goto C (tgt := 2) dX11_findPulse_58 (by decide) ?_
            refine g_loc C [1, 2, 0] rfl ?_
            refine kk () ?_
            subst et2
            exact ((b_X11_findPulse_2_eq _ _ _ _).trans (if_pos h6))
          · refine g_iload_n C (i := 2) dX11_findPulse_53 rfl 2 rfl ?_
            subst et2
            have eF := hF1.trans (loopE_inl n ((b_X11_findPulse_2_eq _ _ _ _).trans (if_neg h6)))
            have e0 := (show f_X11_findPulse σ x = _ from ((f_X11_findPulse_eq _ _).trans (sumE_inl eF)))
            exact hi _ _ _ _ _ _ rfl dX11_findPulse_54 rfl ⟨(congrArg (fun z => some (Value.int z)) e0).symm, rfl, rfl⟩
        · exact absurd (fp_exit _) h5
  · intro t1 hF1
    change K σ φ 2 [(0, .ref (ad 53)), (1, .int x), (2, .int (nI 21))] []
    refine g_iload_n C (i := 2) dX11_findPulse_2 rfl 2 rfl ?_
    refine g_bipush C (v := 20) dX11_findPulse_3 (by decide) ?_
    refine g_icmp_gt C (tgt := 61) dX11_findPulse_5 (by decide) (fun h7 => ?_) (fun h7 => ?_)
    · refine g_ldc C kc_X11_132 dX11_findPulse_61 ?_
      have e0 := (show f_X11_findPulse σ x = _ from ((f_X11_findPulse_eq _ _).trans (sumE_inr hF1)))
      exact hi _ _ _ _ _ _ rfl dX11_findPulse_63 rfl ⟨(congrArg (fun z => some (Value.int z)) e0).symm, rfl, rfl⟩
    · exact absurd (nI_lt (a := 20) (b := 21) (by decide) (by decide)) h7
def b_X11_findPulses_16  (j1 : Nat) (s1 : Int32 × Int32 × Int32 × Int32 × Int32 × Sg) : Int32 × Int32 × Int32 × Int32 × Int32 × Sg := let v2 : Int32 := (4 * (f_X11_findPulse (s1.2.2.2.2.2) (nI j1))) - (s1.1); let v7 : Int32 := (if (f_X11_findPulse (s1.2.2.2.2.2) (nI j1)) < 0 then (let v3 : Int32 := (if (f_X11_findPulse (s1.2.2.2.2.2) (nI j1)) < 0 then (s1.1) else (if (s1.2.2.2.1) = 0 then (4 * (f_X11_findPulse (s1.2.2.2.2.2) (nI j1))) else (s1.1))); v3) else (if (f_X11_in v2 (-12) 12) = 0 then (let v5 : Int32 := (if (f_X11_findPulse (s1.2.2.2.2.2) (nI j1)) < 0 then (s1.1) else (if (s1.2.2.2.1) = 0 then (4 * (f_X11_findPulse (s1.2.2.2.2.2) (nI j1))) else (s1.1))); v5) else ((s1.1) + (v2 / 2)))); let v8 : Int32 := (if (f_X11_findPulse (s1.2.2.2.2.2) (nI j1)) < 0 then (let v3 : Int32 := (if (f_X11_findPulse (s1.2.2.2.2.2) (nI j1)) < 0 then (s1.1) else (if (s1.2.2.2.1) = 0 then (4 * (f_X11_findPulse (s1.2.2.2.2.2) (nI j1))) else (s1.1))); 0) else (if (f_X11_in v2 (-12) 12) = 0 then (let v5 : Int32 := (if (f_X11_findPulse (s1.2.2.2.2.2) (nI j1)) < 0 then (s1.1) else (if (s1.2.2.2.1) = 0 then (4 * (f_X11_findPulse (s1.2.2.2.2.2) (nI j1))) else (s1.1))); 0) else ((s1.2.1) + 1))); let v9 : Int32 := (if (f_X11_findPulse (s1.2.2.2.2.2) (nI j1)) < 0 then (let v3 : Int32 := (if (f_X11_findPulse (s1.2.2.2.2.2) (nI j1)) < 0 then (s1.1) else (if (s1.2.2.2.1) = 0 then (4 * (f_X11_findPulse (s1.2.2.2.2.2) (nI j1))) else (s1.1))); (s1.2.2.1) + 1) else (if (f_X11_in v2 (-12) 12) = 0 then (let v5 : Int32 := (if (f_X11_findPulse (s1.2.2.2.2.2) (nI j1)) < 0 then (s1.1) else (if (s1.2.2.2.1) = 0 then (4 * (f_X11_findPulse (s1.2.2.2.2.2) (nI j1))) else (s1.1))); (s1.2.2.1) + 1) else 0)); let v11 : Int32 := (if 2 ≤ v8 then 1 else (if (s1.2.2.2.1) = 0 then 0 else 1)); let v13 : Int32 := (if 4 ≤ v9 then 0 else (if v11 = 0 then 0 else 1)); let σ15 : Sg := sw (s1.2.2.2.2.2) 65 (nI j1).toNatClampNeg (f_X11_findPulse (s1.2.2.2.2.2) (nI j1)); let v16 : Int32 := (if v13 = 0 then (if 0 ≤ (f_X11_findPulse (s1.2.2.2.2.2) (nI j1)) then (f_X11_findPulse (s1.2.2.2.2.2) (nI j1)) else (f_X11_quotient (v7 + 2) 4)) else (f_X11_quotient (v7 + 2) 4)); let σ18 : Sg := sw σ15 66 (nI j1).toNatClampNeg v16; let σ19 : Sg := sw σ18 67 (nI j1).toNatClampNeg (vp_nar .boolean v13); let σ20 : Sg := sw σ19 68 (nI j1).toNatClampNeg v7; let v21 : Int32 := (if v13 = 0 then 0 else 1); (v7, v8, v9, v13, (s1.2.2.2.2.1) + v21, σ20)
theorem b_X11_findPulses_16_eq  (j1 : Nat) (s1 : Int32 × Int32 × Int32 × Int32 × Int32 × Sg) : b_X11_findPulses_16  j1 s1 = (let v2 : Int32 := (4 * (f_X11_findPulse (s1.2.2.2.2.2) (nI j1))) - (s1.1); let v7 : Int32 := (if (f_X11_findPulse (s1.2.2.2.2.2) (nI j1)) < 0 then (let v3 : Int32 := (if (f_X11_findPulse (s1.2.2.2.2.2) (nI j1)) < 0 then (s1.1) else (if (s1.2.2.2.1) = 0 then (4 * (f_X11_findPulse (s1.2.2.2.2.2) (nI j1))) else (s1.1))); v3) else (if (f_X11_in v2 (-12) 12) = 0 then (let v5 : Int32 := (if (f_X11_findPulse (s1.2.2.2.2.2) (nI j1)) < 0 then (s1.1) else (if (s1.2.2.2.1) = 0 then (4 * (f_X11_findPulse (s1.2.2.2.2.2) (nI j1))) else (s1.1))); v5) else ((s1.1) + (v2 / 2)))); let v8 : Int32 := (if (f_X11_findPulse (s1.2.2.2.2.2) (nI j1)) < 0 then (let v3 : Int32 := (if (f_X11_findPulse (s1.2.2.2.2.2) (nI j1)) < 0 then (s1.1) else (if (s1.2.2.2.1) = 0 then (4 * (f_X11_findPulse (s1.2.2.2.2.2) (nI j1))) else (s1.1))); 0) else (if (f_X11_in v2 (-12) 12) = 0 then (let v5 : Int32 := (if (f_X11_findPulse (s1.2.2.2.2.2) (nI j1)) < 0 then (s1.1) else (if (s1.2.2.2.1) = 0 then (4 * (f_X11_findPulse (s1.2.2.2.2.2) (nI j1))) else (s1.1))); 0) else ((s1.2.1) + 1))); let v9 : Int32 := (if (f_X11_findPulse (s1.2.2.2.2.2) (nI j1)) < 0 then (let v3 : Int32 := (if (f_X11_findPulse (s1.2.2.2.2.2) (nI j1)) < 0 then (s1.1) else (if (s1.2.2.2.1) = 0 then (4 * (f_X11_findPulse (s1.2.2.2.2.2) (nI j1))) else (s1.1))); (s1.2.2.1) + 1) else (if (f_X11_in v2 (-12) 12) = 0 then (let v5 : Int32 := (if (f_X11_findPulse (s1.2.2.2.2.2) (nI j1)) < 0 then (s1.1) else (if (s1.2.2.2.1) = 0 then (4 * (f_X11_findPulse (s1.2.2.2.2.2) (nI j1))) else (s1.1))); (s1.2.2.1) + 1) else 0)); let v11 : Int32 := (if 2 ≤ v8 then 1 else (if (s1.2.2.2.1) = 0 then 0 else 1)); let v13 : Int32 := (if 4 ≤ v9 then 0 else (if v11 = 0 then 0 else 1)); let σ15 : Sg := sw (s1.2.2.2.2.2) 65 (nI j1).toNatClampNeg (f_X11_findPulse (s1.2.2.2.2.2) (nI j1)); let v16 : Int32 := (if v13 = 0 then (if 0 ≤ (f_X11_findPulse (s1.2.2.2.2.2) (nI j1)) then (f_X11_findPulse (s1.2.2.2.2.2) (nI j1)) else (f_X11_quotient (v7 + 2) 4)) else (f_X11_quotient (v7 + 2) 4)); let σ18 : Sg := sw σ15 66 (nI j1).toNatClampNeg v16; let σ19 : Sg := sw σ18 67 (nI j1).toNatClampNeg (vp_nar .boolean v13); let σ20 : Sg := sw σ19 68 (nI j1).toNatClampNeg v7; let v21 : Int32 := (if v13 = 0 then 0 else 1); (v7, v8, v9, v13, (s1.2.2.2.2.1) + v21, σ20)) := rfl
def f_X11_findPulses (σ : Sg) : Int32 × Sg := let t1 : Int32 × Int32 × Int32 × Int32 × Int32 × Sg := loopF b_X11_findPulses_16 8 (32, 0, 0, 0, 0, σ); (t1.2.2.2.2.1, t1.2.2.2.2.2)
theorem f_X11_findPulses_eq (σ : Sg) : f_X11_findPulses σ = (let t1 : Int32 × Int32 × Int32 × Int32 × Int32 × Sg := loopF b_X11_findPulses_16 8 (32, 0, 0, 0, 0, σ); (t1.2.2.2.2.1, t1.2.2.2.2.2)) := rfl
set_option maxRecDepth 100000 in
set_option maxHeartbeats 4000000 in
theorem c_X11_findPulses (l : Launch) (D : va_G) (ad : Nat → Nat) (dA : Nat → ClassId) (z0 : Nat) (tt : Nat → Nat) (σ : Sg) (φ : Fl)   : MC l D ad dA z0 tt yX11_findPulses (Cond.code yX11_findPulses cX11_findPulses 9 (some .int) :: lw_all) { frames := 3, cells := 0, slots := 0, locals := 73 } [.ref (ad 53)] σ φ (Fn (some (.int (f_X11_findPulses σ).1)) (f_X11_findPulses σ).2 φ) := by
  refine mk_MC (by decide) (Nat.le_of_ble_eq_true rfl) ?_
  intro K C hi hf hv
  change K σ φ 0 [(0, .ref (ad 53))] []
  refine g_bipush C (v := 32) dX11_findPulses_0 (by decide) ?_
  refine g_istore_n C (i := 1) (lv' := [(1, .int 32), (0, .ref (ad 53))]) dX11_findPulses_2 rfl (by decide) rfl ?_
  refine g_iconst C (v := 0) dX11_findPulses_3 (by decide) ?_
  refine g_istore_n C (i := 2) (lv' := [(2, .int 0), (1, .int 32), (0, .ref (ad 53))]) dX11_findPulses_4 rfl (by decide) rfl ?_
  refine g_iconst C (v := 0) dX11_findPulses_5 (by decide) ?_
  refine g_istore_n C (i := 3) (lv' := [(3, .int 0), (2, .int 0), (1, .int 32), (0, .ref (ad 53))]) dX11_findPulses_6 rfl (by decide) rfl ?_
  refine g_iconst C (v := 0) dX11_findPulses_7 (by decide) ?_
  refine g_istore C (i := 4) (lv' := [(4, .int 0), (3, .int 0), (2, .int 0), (1, .int 32), (0, .ref (ad 53))]) dX11_findPulses_8 (by decide) rfl ?_
  refine g_iconst C (v := 0) dX11_findPulses_10 (by decide) ?_
  refine g_istore C (i := 5) (lv' := [(5, .int 0), (4, .int 0), (3, .int 0), (2, .int 0), (1, .int 32), (0, .ref (ad 53))]) dX11_findPulses_11 (by decide) rfl ?_
  refine g_iconst C (v := 0) dX11_findPulses_13 (by decide) ?_
  refine g_istore C (i := 6) (lv' := [(6, .int 0), (5, .int 0), (4, .int 0), (3, .int 0), (2, .int 0), (1, .int 32), (0, .ref (ad 53))]) dX11_findPulses_14 (by decide) rfl ?_
  refine g_loc C (lv' := [(0, .ref (ad 53)), (1, .int 32), (2, .int 0), (3, .int 0), (4, .int 0), (5, .int 0), (6, .int 0)]) [6, 5, 4, 3, 2, 1, 0] rfl ?_
  refine loopF_ind b_X11_findPulses_16 8 (fun (j1 : Nat) (s1 : Int32 × Int32 × Int32 × Int32 × Int32 × Sg) => K (s1.2.2.2.2.2) φ 16 [(0, .ref (ad 53)), (1, .int (s1.1)), (2, .int (s1.2.1)), (3, .int (s1.2.2.1)), (4, .int (s1.2.2.2.1)), (5, .int (s1.2.2.2.2.1)), (6, .int (nI j1))] []) (32, 0, 0, 0, 0, σ) ?_ ?_
  · intro j1 s1 hj1 kk
    change K (s1.2.2.2.2.2) φ 16 [(0, .ref (ad 53)), (1, .int (s1.1)), (2, .int (s1.2.1)), (3, .int (s1.2.2.1)), (4, .int (s1.2.2.2.1)), (5, .int (s1.2.2.2.2.1)), (6, .int (nI j1))] []
    refine g_iload C (i := 6) dX11_findPulses_16 6 rfl ?_
    refine g_bipush C (v := 8) dX11_findPulses_18 (by decide) ?_
    refine g_icmp_ge C (tgt := 205) dX11_findPulses_20 (by decide) (fun h1 => ?_) (fun h1 => ?_)
    · exact absurd h1 (nI_ge hj1 (by decide))
    · refine g_aload_n C (i := 0) dX11_findPulses_23 rfl 0 rfl ?_
      refine g_iload C (i := 6) dX11_findPulses_24 6 rfl ?_
      refine g_callV C (st := []) (c_X11_findPulse l D ad dA z0 tt (s1.2.2.2.2.2) φ (nI j1) (vp_in_nI (Nat.lt_of_lt_of_le hj1 (by decide)) (by decide))) rfl ml_X11_154 im_X11_findPulse se_X11_findPulse in_X11 co_X11_findPulse dyV_X11_findPulse rfl rfl ⟨(Nat.le_of_ble_eq_true rfl), (Nat.le_of_ble_eq_true rfl)⟩ 53 11 (fun f => at_53 ad dA (s1.2.2.2.2.2) f) rfl dX11_findPulses_26 rfl (Nat.le_of_ble_eq_true rfl) (g_fni ?_)
      refine g_istore C (i := 7) (lv' := [(7, .int (f_X11_findPulse (s1.2.2.2.2.2) (nI j1))), (0, .ref (ad 53)), (1, .int (s1.1)), (2, .int (s1.2.1)), (3, .int (s1.2.2.1)), (4, .int (s1.2.2.2.1)), (5, .int (s1.2.2.2.2.1)), (6, .int (nI j1))]) dX11_findPulses_29 (by decide) rfl ?_
      refine g_iconst C (v := 4) dX11_findPulses_31 (by decide) ?_
      refine g_iload C (i := 7) dX11_findPulses_32 0 rfl ?_
      refine g_imul C dX11_findPulses_34 ?_
      refine g_iload_n C (i := 1) dX11_findPulses_35 rfl 2 rfl ?_
      refine g_isub C dX11_findPulses_36 ?_
      refine g_nmi C (fun v2 ev2 => ?_)
      refine g_istore C (i := 8) (lv' := [(8, .int v2), (7, .int (f_X11_findPulse (s1.2.2.2.2.2) (nI j1))), (0, .ref (ad 53)), (1, .int (s1.1)), (2, .int (s1.2.1)), (3, .int (s1.2.2.1)), (4, .int (s1.2.2.2.1)), (5, .int (s1.2.2.2.2.1)), (6, .int (nI j1))]) dX11_findPulses_37 (by decide) rfl ?_
      refine g_iload C (i := 7) dX11_findPulses_39 1 rfl ?_
      have J10 : ∀ (v7 : Int32), ∀ (v8 : Int32), ∀ (v9 : Int32), (if (f_X11_findPulse (s1.2.2.2.2.2) (nI j1)) < 0 then (let v3 : Int32 := (if (f_X11_findPulse (s1.2.2.2.2.2) (nI j1)) < 0 then (s1.1) else (if (s1.2.2.2.1) = 0 then (4 * (f_X11_findPulse (s1.2.2.2.2.2) (nI j1))) else (s1.1))); v3) else (if (f_X11_in v2 (-12) 12) = 0 then (let v5 : Int32 := (if (f_X11_findPulse (s1.2.2.2.2.2) (nI j1)) < 0 then (s1.1) else (if (s1.2.2.2.1) = 0 then (4 * (f_X11_findPulse (s1.2.2.2.2.2) (nI j1))) else (s1.1))); v5) else ((s1.1) + (v2 / 2)))) = v7 → (if (f_X11_findPulse (s1.2.2.2.2.2) (nI j1)) < 0 then (let v3 : Int32 := (if (f_X11_findPulse (s1.2.2.2.2.2) (nI j1)) < 0 then (s1.1) else (if (s1.2.2.2.1) = 0 then (4 * (f_X11_findPulse (s1.2.2.2.2.2) (nI j1))) else (s1.1))); 0) else (if (f_X11_in v2 (-12) 12) = 0 then (let v5 : Int32 := (if (f_X11_findPulse (s1.2.2.2.2.2) (nI j1)) < 0 then (s1.1) else (if (s1.2.2.2.1) = 0 then (4 * (f_X11_findPulse (s1.2.2.2.2.2) (nI j1))) else (s1.1))); 0) else ((s1.2.1) + 1))) = v8 → (if (f_X11_findPulse (s1.2.2.2.2.2) (nI j1)) < 0 then (let v3 : Int32 := (if (f_X11_findPulse (s1.2.2.2.2.2) (nI j1)) < 0 then (s1.1) else (if (s1.2.2.2.1) = 0 then (4 * (f_X11_findPulse (s1.2.2.2.2.2) (nI j1))) else (s1.1))); (s1.2.2.1) + 1) else (if (f_X11_in v2 (-12) 12) = 0 then (let v5 : Int32 := (if (f_X11_findPulse (s1.2.2.2.2.2) (nI j1)) < 0 then (s1.1) else (if (s1.2.2.2.1) = 0 then (4 * (f_X11_findPulse (s1.2.2.2.2.2) (nI j1))) else (s1.1))); (s1.2.2.1) + 1) else 0)) = v9 → K (s1.2.2.2.2.2) φ 95 [(0, .ref (ad 53)), (1, .int v7), (2, .int v8), (3, .int v9), (4, .int (s1.2.2.2.1)), (5, .int (s1.2.2.2.2.1)), (6, .int (nI j1)), (7, .int (f_X11_findPulse (s1.2.2.2.2.2) (nI j1)))] [] := by
        intro v7 v8 v9 ev7 ev8 ev9
        refine g_iload_n C (i := 2) dX11_findPulses_95 rfl 2 rfl ?_
        refine g_iconst C (v := 2) dX11_findPulses_96 (by decide) ?_
        have J12 : ∀ (v11 : Int32), (if 2 ≤ v8 then 1 else (if (s1.2.2.2.1) = 0 then 0 else 1)) = v11 → K (s1.2.2.2.2.2) φ 110 [(0, .ref (ad 53)), (1, .int v7), (2, .int v8), (3, .int v9), (5, .int (s1.2.2.2.2.1)), (6, .int (nI j1)), (7, .int (f_X11_findPulse (s1.2.2.2.2.2) (nI j1)))] [.int v11] := by
          intro v11 ev11
          refine g_istore C (i := 4) (lv' := [(4, .int v11), (0, .ref (ad 53)), (1, .int v7), (2, .int v8), (3, .int v9), (5, .int (s1.2.2.2.2.1)), (6, .int (nI j1)), (7, .int (f_X11_findPulse (s1.2.2.2.2.2) (nI j1)))]) dX11_findPulses_110 (by decide) rfl ?_
          refine g_iload_n C (i := 3) dX11_findPulses_112 rfl 4 rfl ?_
          refine g_iconst C (v := 4) dX11_findPulses_113 (by decide) ?_
          have J14 : ∀ (v13 : Int32), (if 4 ≤ v9 then 0 else (if v11 = 0 then 0 else 1)) = v13 → K (s1.2.2.2.2.2) φ 127 [(0, .ref (ad 53)), (1, .int v7), (2, .int v8), (3, .int v9), (5, .int (s1.2.2.2.2.1)), (6, .int (nI j1)), (7, .int (f_X11_findPulse (s1.2.2.2.2.2) (nI j1)))] [.int v13] := by
            intro v13 ev13
            refine g_istore C (i := 4) (lv' := [(4, .int v13), (0, .ref (ad 53)), (1, .int v7), (2, .int v8), (3, .int v9), (5, .int (s1.2.2.2.2.1)), (6, .int (nI j1)), (7, .int (f_X11_findPulse (s1.2.2.2.2.2) (nI j1)))]) dX11_findPulses_127 (by decide) rfl ?_
            refine g_aload_n C (i := 0) dX11_findPulses_129 rfl 1 rfl ?_
            refine gg_53_14 C fl_X11_45 dX11_findPulses_130 ?_
            refine g_iload C (i := 6) dX11_findPulses_133 6 rfl ?_
            refine g_iload C (i := 7) dX11_findPulses_135 7 rfl ?_
            refine sd_65 C (vp_in_nI (Nat.lt_of_lt_of_le hj1 (by decide)) (by decide)) dX11_findPulses_137 ?_
            refine g_nms C (fun σ15 eσ15 => ?_)
            refine g_aload_n C (i := 0) dX11_findPulses_138 rfl 1 rfl ?_
            refine gg_53_15 C fl_X11_48 dX11_findPulses_139 ?_
            refine g_iload C (i := 6) dX11_findPulses_142 6 rfl ?_
            refine g_iload C (i := 4) dX11_findPulses_144 0 rfl ?_
            have J17 : ∀ (v16 : Int32), (if v13 = 0 then (if 0 ≤ (f_X11_findPulse (s1.2.2.2.2.2) (nI j1)) then (f_X11_findPulse (s1.2.2.2.2.2) (nI j1)) else (f_X11_quotient (v7 + 2) 4)) else (f_X11_quotient (v7 + 2) 4)) = v16 → K σ15 φ 166 [(0, .ref (ad 53)), (1, .int v7), (2, .int v8), (3, .int v9), (4, .int v13), (5, .int (s1.2.2.2.2.1)), (6, .int (nI j1))] [.int v16, .int (nI j1), .ref (ad 66)] := by
              intro v16 ev16
              refine sd_66 C (vp_in_nI (Nat.lt_of_lt_of_le hj1 (by decide)) (by decide)) dX11_findPulses_166 ?_
              refine g_nms C (fun σ18 eσ18 => ?_)
              refine g_aload_n C (i := 0) dX11_findPulses_167 rfl 0 rfl ?_
              refine gg_53_16 C fl_X11_51 dX11_findPulses_168 ?_
              refine g_iload C (i := 6) dX11_findPulses_171 6 rfl ?_
              refine g_iload C (i := 4) dX11_findPulses_173 4 rfl ?_
              refine sd_67 C (vp_in_nI (Nat.lt_of_lt_of_le hj1 (by decide)) (by decide)) dX11_findPulses_175 ?_
              refine g_nms C (fun σ19 eσ19 => ?_)
              refine g_aload_n C (i := 0) dX11_findPulses_176 rfl 0 rfl ?_
              refine gg_53_17 C fl_X11_54 dX11_findPulses_177 ?_
              refine g_iload C (i := 6) dX11_findPulses_180 6 rfl ?_
              refine g_iload_n C (i := 1) dX11_findPulses_182 rfl 1 rfl ?_
              refine sd_68 C (vp_in_nI (Nat.lt_of_lt_of_le hj1 (by decide)) (by decide)) dX11_findPulses_183 ?_
              refine g_nms C (fun σ20 eσ20 => ?_)
              refine g_iload C (i := 5) dX11_findPulses_184 5 rfl ?_
              refine g_iload C (i := 4) dX11_findPulses_186 4 rfl ?_
              have J22 : ∀ (v21 : Int32), (if v13 = 0 then 0 else 1) = v21 → K σ20 φ 196 [(0, .ref (ad 53)), (1, .int v7), (2, .int v8), (3, .int v9), (4, .int v13), (6, .int (nI j1))] [.int v21, .int (s1.2.2.2.2.1)] := by
                intro v21 ev21
                refine g_iadd C dX11_findPulses_196 ?_
                refine g_istore C (i := 5) (lv' := [(5, .int ((s1.2.2.2.2.1) + v21)), (0, .ref (ad 53)), (1, .int v7), (2, .int v8), (3, .int v9), (4, .int v13), (6, .int (nI j1))]) dX11_findPulses_197 (by decide) rfl ?_
                refine g_iinc C (i := 6) (v := nI (j1 + 1)) (lv' := [(6, .int (nI (j1 + 1))), (5, .int ((s1.2.2.2.2.1) + v21)), (0, .ref (ad 53)), (1, .int v7), (2, .int v8), (3, .int v9), (4, .int v13)]) dX11_findPulses_199 6 rfl (nI_1 _) (by decide) rfl ?_
                refine g_goto C (tgt := 16) dX11_findPulses_202 (by decide) ?_
                refine g_loc C [2, 3, 4, 5, 6, 1, 0] rfl ?_
                refine kk (v7, v8, v9, v13, (s1.2.2.2.2.1) + v21, σ20) ?_
                subst ev21
                subst eσ20
                subst eσ19
                subst eσ18
                subst ev16
                subst eσ15
                subst ev13
                subst ev11
                subst ev9
                subst ev8
                subst ev7
                subst ev2
                exact b_X11_findPulses_16_eq _ _
              refine g_if_eq C (tgt := 195) dX11_findPulses_188 (by decide) (fun h14 => ?_) (fun h14 => ?_)
              · refine g_iconst C (v := 0) dX11_findPulses_195 (by decide) ?_
                refine g_loc C [0, 1, 2, 3, 4, 6] rfl ?_
                exact J22 _ ((if_pos h14))
              · refine g_iconst C (v := 1) dX11_findPulses_191 (by decide) ?_
                refine g_goto C (tgt := 196) dX11_findPulses_192 (by decide) ?_
                refine g_loc C [0, 1, 2, 3, 4, 6] rfl ?_
                exact J22 _ ((if_neg h14))
            refine g_if_ne C (tgt := 154) dX11_findPulses_146 (by decide) (fun h12 => ?_) (fun h12 => ?_)
            · refine g_iload_n C (i := 1) dX11_findPulses_154 rfl 2 rfl ?_
              refine g_iconst C (v := 2) dX11_findPulses_155 (by decide) ?_
              refine g_iadd C dX11_findPulses_156 ?_
              refine g_iconst C (v := 4) dX11_findPulses_157 (by decide) ?_
              refine g_callS C (st := [.int (nI j1), .ref (ad 66)]) (c_X11_quotient l D ad dA z0 tt σ15 φ (v7 + 2) 4 (by decide)) rfl ml_X11_157 sm_X11_quotient in_X11 co_X11_quotient dyS_X11_quotient rfl rfl ⟨(Nat.le_of_ble_eq_true rfl), (Nat.le_of_ble_eq_true rfl)⟩ dX11_findPulses_158 rfl (Nat.le_of_ble_eq_true rfl) (g_fni ?_)
              refine g_goto C (tgt := 166) dX11_findPulses_161 (by decide) ?_
              refine g_loc C [1, 2, 3, 4, 0, 5, 6] rfl ?_
              exact J17 _ ((if_neg h12))
            · refine g_iload C (i := 7) dX11_findPulses_149 7 rfl ?_
              refine g_if_ge C (tgt := 164) dX11_findPulses_151 (by decide) (fun h13 => ?_) (fun h13 => ?_)
              · refine g_iload C (i := 7) dX11_findPulses_164 7 rfl ?_
                refine g_loc C [1, 2, 3, 4, 0, 5, 6] rfl ?_
                exact J17 _ (((if_pos h12).trans (if_pos h13)))
              · refine g_iload_n C (i := 1) dX11_findPulses_154 rfl 2 rfl ?_
                refine g_iconst C (v := 2) dX11_findPulses_155 (by decide) ?_
                refine g_iadd C dX11_findPulses_156 ?_
                refine g_iconst C (v := 4) dX11_findPulses_157 (by decide) ?_
                refine g_callS C (st := [.int (nI j1), .ref (ad 66)]) (c_X11_quotient l D ad dA z0 tt σ15 φ (v7 + 2) 4 (by decide)) rfl ml_X11_157 sm_X11_quotient in_X11 co_X11_quotient dyS_X11_quotient rfl rfl ⟨(Nat.le_of_ble_eq_true rfl), (Nat.le_of_ble_eq_true rfl)⟩ dX11_findPulses_158 rfl (Nat.le_of_ble_eq_true rfl) (g_fni ?_)
                refine g_goto C (tgt := 166) dX11_findPulses_161 (by decide) ?_
                refine g_loc C [1, 2, 3, 4, 0, 5, 6] rfl ?_
                exact J17 _ (((if_pos h12).trans (if_neg h13)))
          refine g_icmp_ge C (tgt := 126) dX11_findPulses_114 (by decide) (fun h10 => ?_) (fun h10 => ?_)
          · refine g_iconst C (v := 0) dX11_findPulses_126 (by decide) ?_
            refine g_loc C [1, 2, 3, 4, 5, 6, 7] rfl ?_
            exact J14 _ ((if_pos h10))
          · refine g_iload C (i := 4) dX11_findPulses_117 0 rfl ?_
            refine g_if_eq C (tgt := 126) dX11_findPulses_119 (by decide) (fun h11 => ?_) (fun h11 => ?_)
            · refine g_iconst C (v := 0) dX11_findPulses_126 (by decide) ?_
              refine g_loc C [1, 2, 3, 4, 5, 6, 7] rfl ?_
              exact J14 _ (((if_neg h10).trans (if_pos h11)))
            · refine g_iconst C (v := 1) dX11_findPulses_122 (by decide) ?_
              refine g_goto C (tgt := 127) dX11_findPulses_123 (by decide) ?_
              refine g_loc C [1, 2, 3, 4, 5, 6, 7] rfl ?_
              exact J14 _ (((if_neg h10).trans (if_neg h11)))
        refine g_icmp_ge C (tgt := 105) dX11_findPulses_97 (by decide) (fun h8 => ?_) (fun h8 => ?_)
        · refine g_iconst C (v := 1) dX11_findPulses_105 (by decide) ?_
          refine g_goto C (tgt := 110) dX11_findPulses_106 (by decide) ?_
          refine g_loc C [0, 1, 2, 3, 5, 6, 7] rfl ?_
          exact J12 _ ((if_pos h8))
        · refine g_iload C (i := 4) dX11_findPulses_100 4 rfl ?_
          refine g_if_eq C (tgt := 109) dX11_findPulses_102 (by decide) (fun h9 => ?_) (fun h9 => ?_)
          · refine g_iconst C (v := 0) dX11_findPulses_109 (by decide) ?_
            refine g_loc C [0, 1, 2, 3, 5, 6, 7] rfl ?_
            exact J12 _ (((if_neg h8).trans (if_pos h9)))
          · refine g_iconst C (v := 1) dX11_findPulses_105 (by decide) ?_
            refine g_goto C (tgt := 110) dX11_findPulses_106 (by decide) ?_
            refine g_loc C [0, 1, 2, 3, 5, 6, 7] rfl ?_
            exact J12 _ (((if_neg h8).trans (if_neg h9)))
      refine g_if_lt C (tgt := 71) dX11_findPulses_41 (by decide) (fun h2 => ?_) (fun h2 => ?_)
      · refine g_iinc C (i := 3) (v := (s1.2.2.1) + 1) (lv' := [(3, .int ((s1.2.2.1) + 1)), (8, .int v2), (7, .int (f_X11_findPulse (s1.2.2.2.2.2) (nI j1))), (0, .ref (ad 53)), (1, .int (s1.1)), (2, .int (s1.2.1)), (4, .int (s1.2.2.2.1)), (5, .int (s1.2.2.2.2.1)), (6, .int (nI j1))]) dX11_findPulses_71 5 rfl rfl (by decide) rfl ?_
        refine g_iconst C (v := 0) dX11_findPulses_74 (by decide) ?_
        refine g_istore_n C (i := 2) (lv' := [(2, .int 0), (3, .int ((s1.2.2.1) + 1)), (8, .int v2), (7, .int (f_X11_findPulse (s1.2.2.2.2.2) (nI j1))), (0, .ref (ad 53)), (1, .int (s1.1)), (4, .int (s1.2.2.2.1)), (5, .int (s1.2.2.2.2.1)), (6, .int (nI j1))]) dX11_findPulses_75 rfl (by decide) rfl ?_
        refine g_iload C (i := 7) dX11_findPulses_76 3 rfl ?_
        have J4 : ∀ (v3 : Int32), (if (f_X11_findPulse (s1.2.2.2.2.2) (nI j1)) < 0 then (s1.1) else (if (s1.2.2.2.1) = 0 then (4 * (f_X11_findPulse (s1.2.2.2.2.2) (nI j1))) else (s1.1))) = v3 → K (s1.2.2.2.2.2) φ 94 [(0, .ref (ad 53)), (2, .int 0), (3, .int ((s1.2.2.1) + 1)), (4, .int (s1.2.2.2.1)), (5, .int (s1.2.2.2.2.1)), (6, .int (nI j1)), (7, .int (f_X11_findPulse (s1.2.2.2.2.2) (nI j1)))] [.int v3] := by
          intro v3 ev3
          refine g_istore_n C (i := 1) (lv' := [(1, .int v3), (0, .ref (ad 53)), (2, .int 0), (3, .int ((s1.2.2.1) + 1)), (4, .int (s1.2.2.2.1)), (5, .int (s1.2.2.2.2.1)), (6, .int (nI j1)), (7, .int (f_X11_findPulse (s1.2.2.2.2.2) (nI j1)))]) dX11_findPulses_94 rfl (by decide) rfl ?_
          refine g_loc C [1, 0, 2, 3, 4, 5, 6, 7] rfl ?_
          subst ev3
          exact J10 _ _ _ ((if_pos h2)) ((if_pos h2)) ((if_pos h2))
        refine g_if_lt C (tgt := 93) dX11_findPulses_78 (by decide) (fun h3 => ?_) (fun h3 => ?_)
        · refine g_iload_n C (i := 1) dX11_findPulses_93 rfl 5 rfl ?_
          refine g_loc C [4, 0, 1, 6, 7, 8, 3] rfl ?_
          exact J4 _ ((if_pos h3))
        · refine g_iload C (i := 4) dX11_findPulses_81 6 rfl ?_
          refine g_if_ne C (tgt := 93) dX11_findPulses_83 (by decide) (fun h4 => ?_) (fun h4 => ?_)
          · refine g_iload_n C (i := 1) dX11_findPulses_93 rfl 5 rfl ?_
            refine g_loc C [4, 0, 1, 6, 7, 8, 3] rfl ?_
            exact J4 _ (((if_neg h3).trans (if_neg h4)))
          · refine g_iconst C (v := 4) dX11_findPulses_86 (by decide) ?_
            refine g_iload C (i := 7) dX11_findPulses_87 3 rfl ?_
            refine g_imul C dX11_findPulses_89 ?_
            refine g_goto C (tgt := 94) dX11_findPulses_90 (by decide) ?_
            refine g_loc C [4, 0, 1, 6, 7, 8, 3] rfl ?_
            exact J4 _ (((if_neg h3).trans (if_pos h4)))
      · refine g_iload C (i := 8) dX11_findPulses_44 0 rfl ?_
        refine g_bipush C (v := (-12)) dX11_findPulses_46 (by decide) ?_
        refine g_bipush C (v := 12) dX11_findPulses_48 (by decide) ?_
        refine g_callS C (st := []) (c_X11_in l D ad dA z0 tt (s1.2.2.2.2.2) φ v2 (-12) 12) rfl ml_X11_103 sm_X11_in in_X11 co_X11_in dyS_X11_in rfl rfl ⟨(Nat.le_of_ble_eq_true rfl), (Nat.le_of_ble_eq_true rfl)⟩ dX11_findPulses_50 rfl (Nat.le_of_ble_eq_true rfl) (g_fni ?_)
        refine g_if_eq C (tgt := 71) dX11_findPulses_53 (by decide) (fun h5 => ?_) (fun h5 => ?_)
        · refine g_iinc C (i := 3) (v := (s1.2.2.1) + 1) (lv' := [(3, .int ((s1.2.2.1) + 1)), (8, .int v2), (7, .int (f_X11_findPulse (s1.2.2.2.2.2) (nI j1))), (0, .ref (ad 53)), (1, .int (s1.1)), (2, .int (s1.2.1)), (4, .int (s1.2.2.2.1)), (5, .int (s1.2.2.2.2.1)), (6, .int (nI j1))]) dX11_findPulses_71 5 rfl rfl (by decide) rfl ?_
          refine g_iconst C (v := 0) dX11_findPulses_74 (by decide) ?_
          refine g_istore_n C (i := 2) (lv' := [(2, .int 0), (3, .int ((s1.2.2.1) + 1)), (8, .int v2), (7, .int (f_X11_findPulse (s1.2.2.2.2.2) (nI j1))), (0, .ref (ad 53)), (1, .int (s1.1)), (4, .int (s1.2.2.2.1)), (5, .int (s1.2.2.2.2.1)), (6, .int (nI j1))]) dX11_findPulses_75 rfl (by decide) rfl ?_
          refine g_iload C (i := 7) dX11_findPulses_76 3 rfl ?_
          have J6 : ∀ (v5 : Int32), (if (f_X11_findPulse (s1.2.2.2.2.2) (nI j1)) < 0 then (s1.1) else (if (s1.2.2.2.1) = 0 then (4 * (f_X11_findPulse (s1.2.2.2.2.2) (nI j1))) else (s1.1))) = v5 → K (s1.2.2.2.2.2) φ 94 [(0, .ref (ad 53)), (2, .int 0), (3, .int ((s1.2.2.1) + 1)), (4, .int (s1.2.2.2.1)), (5, .int (s1.2.2.2.2.1)), (6, .int (nI j1)), (7, .int (f_X11_findPulse (s1.2.2.2.2.2) (nI j1)))] [.int v5] := by
            intro v5 ev5
            refine g_istore_n C (i := 1) (lv' := [(1, .int v5), (0, .ref (ad 53)), (2, .int 0), (3, .int ((s1.2.2.1) + 1)), (4, .int (s1.2.2.2.1)), (5, .int (s1.2.2.2.2.1)), (6, .int (nI j1)), (7, .int (f_X11_findPulse (s1.2.2.2.2.2) (nI j1)))]) dX11_findPulses_94 rfl (by decide) rfl ?_
            refine g_loc C [1, 0, 2, 3, 4, 5, 6, 7] rfl ?_
            subst ev5
            exact J10 _ _ _ (((if_neg h2).trans (if_pos h5))) (((if_neg h2).trans (if_pos h5))) (((if_neg h2).trans (if_pos h5)))
          refine g_if_lt C (tgt := 93) dX11_findPulses_78 (by decide) (fun h6 => ?_) (fun h6 => ?_)
          · refine g_iload_n C (i := 1) dX11_findPulses_93 rfl 5 rfl ?_
            refine g_loc C [4, 0, 1, 6, 7, 8, 3] rfl ?_
            exact J6 _ ((if_pos h6))
          · refine g_iload C (i := 4) dX11_findPulses_81 6 rfl ?_
            refine g_if_ne C (tgt := 93) dX11_findPulses_83 (by decide) (fun h7 => ?_) (fun h7 => ?_)
            · refine g_iload_n C (i := 1) dX11_findPulses_93 rfl 5 rfl ?_
              refine g_loc C [4, 0, 1, 6, 7, 8, 3] rfl ?_
              exact J6 _ (((if_neg h6).trans (if_neg h7)))
            · refine g_iconst C (v := 4) dX11_findPulses_86 (by decide) ?_
              refine g_iload C (i := 7) dX11_findPulses_87 3 rfl ?_
              refine g_imul C dX11_findPulses_89 ?_
              refine g_goto C (tgt := 94) dX11_findPulses_90 (by decide) ?_
              refine g_loc C [4, 0, 1, 6, 7, 8, 3] rfl ?_
              exact J6 _ (((if_neg h6).trans (if_pos h7)))
        · refine g_iload_n C (i := 1) dX11_findPulses_56 rfl 3 rfl ?_
          refine g_iload C (i := 8) dX11_findPulses_57 0 rfl ?_
          refine g_iconst C (v := 2) dX11_findPulses_59 (by decide) ?_
          refine g_idiv C dX11_findPulses_60 (by decide) ?_
          refine g_iadd C dX11_findPulses_61 ?_
          refine g_istore_n C (i := 1) (lv' := [(1, .int ((s1.1) + (v2 / 2))), (8, .int v2), (7, .int (f_X11_findPulse (s1.2.2.2.2.2) (nI j1))), (0, .ref (ad 53)), (2, .int (s1.2.1)), (3, .int (s1.2.2.1)), (4, .int (s1.2.2.2.1)), (5, .int (s1.2.2.2.2.1)), (6, .int (nI j1))]) dX11_findPulses_62 rfl (by decide) rfl ?_
          refine g_iinc C (i := 2) (v := (s1.2.1) + 1) (lv' := [(2, .int ((s1.2.1) + 1)), (1, .int ((s1.1) + (v2 / 2))), (8, .int v2), (7, .int (f_X11_findPulse (s1.2.2.2.2.2) (nI j1))), (0, .ref (ad 53)), (3, .int (s1.2.2.1)), (4, .int (s1.2.2.2.1)), (5, .int (s1.2.2.2.2.1)), (6, .int (nI j1))]) dX11_findPulses_63 4 rfl rfl (by decide) rfl ?_
          refine g_iconst C (v := 0) dX11_findPulses_66 (by decide) ?_
          refine g_istore_n C (i := 3) (lv' := [(3, .int 0), (2, .int ((s1.2.1) + 1)), (1, .int ((s1.1) + (v2 / 2))), (8, .int v2), (7, .int (f_X11_findPulse (s1.2.2.2.2.2) (nI j1))), (0, .ref (ad 53)), (4, .int (s1.2.2.2.1)), (5, .int (s1.2.2.2.2.1)), (6, .int (nI j1))]) dX11_findPulses_67 rfl (by decide) rfl ?_
          refine g_goto C (tgt := 95) dX11_findPulses_68 (by decide) ?_
          refine g_loc C [5, 2, 1, 0, 6, 7, 8, 4] rfl ?_
          exact J10 _ _ _ (((if_neg h2).trans (if_neg h5))) (((if_neg h2).trans (if_neg h5))) (((if_neg h2).trans (if_neg h5)))
  · generalize et1 : loopF b_X11_findPulses_16 8 (32, 0, 0, 0, 0, σ) = t1
    change K (t1.2.2.2.2.2) φ 16 [(0, .ref (ad 53)), (1, .int (t1.1)), (2, .int (t1.2.1)), (3, .int (t1.2.2.1)), (4, .int (t1.2.2.2.1)), (5, .int (t1.2.2.2.2.1)), (6, .int (nI 8))] []
    refine g_iload C (i := 6) dX11_findPulses_16 6 rfl ?_
    refine g_bipush C (v := 8) dX11_findPulses_18 (by decide) ?_
    refine g_icmp_ge C (tgt := 205) dX11_findPulses_20 (by decide) (fun h15 => ?_) (fun h15 => ?_)
    · refine g_iload C (i := 5) dX11_findPulses_205 5 rfl ?_
      subst et1
      have e0 := (show f_X11_findPulses σ = _ from rfl)
      exact hi _ _ _ _ _ _ rfl dX11_findPulses_207 rfl ⟨(congrArg (fun z => some (Value.int z.1)) e0).symm, (congrArg (fun z => z.2) e0).symm, rfl⟩
    · exact absurd (nI_le (Nat.le_refl _) (by decide)) h15
def b_X11_findBursts_44 (j1 : Nat) (v4 : Int32) (j5 : Nat) (s5 : Sg) : Sg := let σ6 : Sg := sw s5 69 (nI j1).toNatClampNeg ((s5 69 (nI j1).toNatClampNeg) + ((f_X11_signal s5 (nI j1) (v4 + nI j5)) * (f_X11_a (f_X11_rest ((v4 + nI j5) + (2 * (nI j1))))))); let σ7 : Sg := sw σ6 70 (nI j1).toNatClampNeg ((σ6 70 (nI j1).toNatClampNeg) + ((f_X11_signal σ6 (nI j1) (v4 + nI j5)) * (f_X11_b (f_X11_rest ((v4 + nI j5) + (2 * (nI j1))))))); σ7
theorem b_X11_findBursts_44_eq (j1 : Nat) (v4 : Int32) (j5 : Nat) (s5 : Sg) : b_X11_findBursts_44 j1 v4 j5 s5 = (let σ6 : Sg := sw s5 69 (nI j1).toNatClampNeg ((s5 69 (nI j1).toNatClampNeg) + ((f_X11_signal s5 (nI j1) (v4 + nI j5)) * (f_X11_a (f_X11_rest ((v4 + nI j5) + (2 * (nI j1))))))); let σ7 : Sg := sw σ6 70 (nI j1).toNatClampNeg ((σ6 70 (nI j1).toNatClampNeg) + ((f_X11_signal σ6 (nI j1) (v4 + nI j5)) * (f_X11_b (f_X11_rest ((v4 + nI j5) + (2 * (nI j1))))))); σ7) := rfl
def b_X11_findBursts_9  (j1 : Nat) (s1 : Int32 × Int32 × Int32 × Sg) : Int32 × Int32 × Int32 × Sg := let σ2 : Sg := sw (s1.2.2.2) 69 (nI j1).toNatClampNeg 0; let σ3 : Sg := sw σ2 70 (nI j1).toNatClampNeg 0; let v4 : Int32 := (σ3 66 (nI j1).toNatClampNeg) + 8; let t5 : Sg := loopF (b_X11_findBursts_44 j1 v4) (cnt8 v4) σ3; let v8 : Int32 := (if ((f_X11_size (t5 69 (nI j1).toNatClampNeg)) + (f_X11_size (t5 70 (nI j1).toNatClampNeg))) < (4 * (t5 62 (0 : Int32).toNatClampNeg)) then 0 else 1); let σ10 : Sg := sw t5 71 (nI j1).toNatClampNeg (vp_nar .boolean v8); let v11 : Int32 := (if (σ10 71 (nI j1).toNatClampNeg) = 0 then 0 else ((s1.1) + 1)); let v13 : Int32 := (if (σ10 71 (nI j1).toNatClampNeg) = 0 then ((s1.2.1) + 1) else 0); let v15 : Int32 := (if v13 < 2 then (if 2 ≤ v11 then 1 else (if (s1.2.2.1) = 0 then 0 else 1)) else 0); let σ17 : Sg := sw σ10 72 (nI j1).toNatClampNeg (vp_nar .boolean v15); (v11, v13, v15, σ17)
theorem b_X11_findBursts_9_eq  (j1 : Nat) (s1 : Int32 × Int32 × Int32 × Sg) : b_X11_findBursts_9  j1 s1 = (let σ2 : Sg := sw (s1.2.2.2) 69 (nI j1).toNatClampNeg 0; let σ3 : Sg := sw σ2 70 (nI j1).toNatClampNeg 0; let v4 : Int32 := (σ3 66 (nI j1).toNatClampNeg) + 8; let t5 : Sg := loopF (b_X11_findBursts_44 j1 v4) (cnt8 v4) σ3; let v8 : Int32 := (if ((f_X11_size (t5 69 (nI j1).toNatClampNeg)) + (f_X11_size (t5 70 (nI j1).toNatClampNeg))) < (4 * (t5 62 (0 : Int32).toNatClampNeg)) then 0 else 1); let σ10 : Sg := sw t5 71 (nI j1).toNatClampNeg (vp_nar .boolean v8); let v11 : Int32 := (if (σ10 71 (nI j1).toNatClampNeg) = 0 then 0 else ((s1.1) + 1)); let v13 : Int32 := (if (σ10 71 (nI j1).toNatClampNeg) = 0 then ((s1.2.1) + 1) else 0); let v15 : Int32 := (if v13 < 2 then (if 2 ≤ v11 then 1 else (if (s1.2.2.1) = 0 then 0 else 1)) else 0); let σ17 : Sg := sw σ10 72 (nI j1).toNatClampNeg (vp_nar .boolean v15); (v11, v13, v15, σ17)) := rfl
def b_X11_findBursts_260  (j20 : Nat) (s20 : Sg) : Sg := let σ31 : Sg := (if (s20 71 ((nI (j20 + 1)) - 1).toNatClampNeg) = 0 then s20 else (if (s20 71 (nI (j20 + 1)).toNatClampNeg) = 0 then s20 else (let v21 : Int32 := (if 0 ≤ (s20 70 ((nI (j20 + 1)) - 1).toNatClampNeg) then (if (s20 70 ((nI (j20 + 1)) - 1).toNatClampNeg) ≤ 0 then 0 else (if 0 ≤ (s20 70 (nI (j20 + 1)).toNatClampNeg) then 0 else 1)) else (if 0 < (s20 70 (nI (j20 + 1)).toNatClampNeg) then 1 else (if (s20 70 ((nI (j20 + 1)) - 1).toNatClampNeg) ≤ 0 then 0 else (if 0 ≤ (s20 70 (nI (j20 + 1)).toNatClampNeg) then 0 else 1)))); let v23 : Int32 := (if v21 = 0 then 0 else (if (f_X11_size (s20 70 ((nI (j20 + 1)) - 1).toNatClampNeg)) < (s20 62 (0 : Int32).toNatClampNeg) then 0 else (if (f_X11_size (s20 70 (nI (j20 + 1)).toNatClampNeg)) < (s20 62 (0 : Int32).toNatClampNeg) then 0 else 1))); let v25 : Int32 := (if v23 = 0 then 0 else 1); let σ27 : Sg := sw s20 53 22 ((s20 53 22) + v25); let v28 : Int32 := (if v23 = 0 then 1 else 0); let σ30 : Sg := sw σ27 53 23 ((σ27 53 23) + v28); σ30))); σ31
theorem b_X11_findBursts_260_eq  (j20 : Nat) (s20 : Sg) : b_X11_findBursts_260  j20 s20 = (let σ31 : Sg := (if (s20 71 ((nI (j20 + 1)) - 1).toNatClampNeg) = 0 then s20 else (if (s20 71 (nI (j20 + 1)).toNatClampNeg) = 0 then s20 else (let v21 : Int32 := (if 0 ≤ (s20 70 ((nI (j20 + 1)) - 1).toNatClampNeg) then (if (s20 70 ((nI (j20 + 1)) - 1).toNatClampNeg) ≤ 0 then 0 else (if 0 ≤ (s20 70 (nI (j20 + 1)).toNatClampNeg) then 0 else 1)) else (if 0 < (s20 70 (nI (j20 + 1)).toNatClampNeg) then 1 else (if (s20 70 ((nI (j20 + 1)) - 1).toNatClampNeg) ≤ 0 then 0 else (if 0 ≤ (s20 70 (nI (j20 + 1)).toNatClampNeg) then 0 else 1)))); let v23 : Int32 := (if v21 = 0 then 0 else (if (f_X11_size (s20 70 ((nI (j20 + 1)) - 1).toNatClampNeg)) < (s20 62 (0 : Int32).toNatClampNeg) then 0 else (if (f_X11_size (s20 70 (nI (j20 + 1)).toNatClampNeg)) < (s20 62 (0 : Int32).toNatClampNeg) then 0 else 1))); let v25 : Int32 := (if v23 = 0 then 0 else 1); let σ27 : Sg := sw s20 53 22 ((s20 53 22) + v25); let v28 : Int32 := (if v23 = 0 then 1 else 0); let σ30 : Sg := sw σ27 53 23 ((σ27 53 23) + v28); σ30))); σ31) := rfl
def f_X11_findBursts (σ : Sg) : Sg := let t1 : Int32 × Int32 × Int32 × Sg := loopF b_X11_findBursts_9 8 (0, 0, 1, σ); let σ18 : Sg := sw (t1.2.2.2) 53 22 0; let σ19 : Sg := sw σ18 53 23 0; let t20 : Sg := loopF b_X11_findBursts_260 7 σ19; t20
theorem f_X11_findBursts_eq (σ : Sg) : f_X11_findBursts σ = (let t1 : Int32 × Int32 × Int32 × Sg := loopF b_X11_findBursts_9 8 (0, 0, 1, σ); let σ18 : Sg := sw (t1.2.2.2) 53 22 0; let σ19 : Sg := sw σ18 53 23 0; let t20 : Sg := loopF b_X11_findBursts_260 7 σ19; t20) := rfl
set_option maxRecDepth 100000 in
set_option maxHeartbeats 4000000 in
theorem c_X11_findBursts (l : Launch) (D : va_G) (ad : Nat → Nat) (dA : Nat → ClassId) (z0 : Nat) (tt : Nat → Nat) (σ : Sg) (φ : Fl)   : MC l D ad dA z0 tt yX11_findBursts (Cond.code yX11_findBursts cX11_findBursts 7 none :: lw_all) { frames := 2, cells := 0, slots := 0, locals := 49 } [.ref (ad 53)] σ φ (Fn none (f_X11_findBursts σ) φ) := by
  refine mk_MC (by decide) (Nat.le_of_ble_eq_true rfl) ?_
  intro K C hi hf hv
  change K σ φ 0 [(0, .ref (ad 53))] []
  refine g_iconst C (v := 0) dX11_findBursts_0 (by decide) ?_
  refine g_istore_n C (i := 1) (lv' := [(1, .int 0), (0, .ref (ad 53))]) dX11_findBursts_1 rfl (by decide) rfl ?_
  refine g_iconst C (v := 0) dX11_findBursts_2 (by decide) ?_
  refine g_istore_n C (i := 2) (lv' := [(2, .int 0), (1, .int 0), (0, .ref (ad 53))]) dX11_findBursts_3 rfl (by decide) rfl ?_
  refine g_iconst C (v := 1) dX11_findBursts_4 (by decide) ?_
  refine g_istore_n C (i := 3) (lv' := [(3, .int 1), (2, .int 0), (1, .int 0), (0, .ref (ad 53))]) dX11_findBursts_5 rfl (by decide) rfl ?_
  refine g_iconst C (v := 0) dX11_findBursts_6 (by decide) ?_
  refine g_istore C (i := 4) (lv' := [(4, .int 0), (3, .int 1), (2, .int 0), (1, .int 0), (0, .ref (ad 53))]) dX11_findBursts_7 (by decide) rfl ?_
  refine g_loc C (lv' := [(0, .ref (ad 53)), (1, .int 0), (2, .int 0), (3, .int 1), (4, .int 0)]) [4, 3, 2, 1, 0] rfl ?_
  refine loopF_ind b_X11_findBursts_9 8 (fun (j1 : Nat) (s1 : Int32 × Int32 × Int32 × Sg) => K (s1.2.2.2) φ 9 [(0, .ref (ad 53)), (1, .int (s1.1)), (2, .int (s1.2.1)), (3, .int (s1.2.2.1)), (4, .int (nI j1))] []) (0, 0, 1, σ) ?_ ?_
  · intro j1 s1 hj1 kk
    change K (s1.2.2.2) φ 9 [(0, .ref (ad 53)), (1, .int (s1.1)), (2, .int (s1.2.1)), (3, .int (s1.2.2.1)), (4, .int (nI j1))] []
    refine g_iload C (i := 4) dX11_findBursts_9 4 rfl ?_
    refine g_bipush C (v := 8) dX11_findBursts_11 (by decide) ?_
    refine g_icmp_ge C (tgt := 247) dX11_findBursts_13 (by decide) (fun h1 => ?_) (fun h1 => ?_)
    · exact absurd h1 (nI_ge hj1 (by decide))
    · refine g_aload_n C (i := 0) dX11_findBursts_16 rfl 0 rfl ?_
      refine gg_53_18 C fl_X11_57 dX11_findBursts_17 ?_
      refine g_iload C (i := 4) dX11_findBursts_20 4 rfl ?_
      refine g_iconst C (v := 0) dX11_findBursts_22 (by decide) ?_
      refine sd_69 C (vp_in_nI (Nat.lt_of_lt_of_le hj1 (by decide)) (by decide)) dX11_findBursts_23 ?_
      refine g_nms C (fun σ2 eσ2 => ?_)
      refine g_aload_n C (i := 0) dX11_findBursts_24 rfl 0 rfl ?_
      refine gg_53_19 C fl_X11_60 dX11_findBursts_25 ?_
      refine g_iload C (i := 4) dX11_findBursts_28 4 rfl ?_
      refine g_iconst C (v := 0) dX11_findBursts_30 (by decide) ?_
      refine sd_70 C (vp_in_nI (Nat.lt_of_lt_of_le hj1 (by decide)) (by decide)) dX11_findBursts_31 ?_
      refine g_nms C (fun σ3 eσ3 => ?_)
      refine g_aload_n C (i := 0) dX11_findBursts_32 rfl 0 rfl ?_
      refine gg_53_15 C fl_X11_48 dX11_findBursts_33 ?_
      refine g_iload C (i := 4) dX11_findBursts_36 4 rfl ?_
      refine ld_66 C (vp_in_nI (Nat.lt_of_lt_of_le hj1 (by decide)) (by decide)) dX11_findBursts_38 ?_
      refine g_bipush C (v := 8) dX11_findBursts_39 (by decide) ?_
      refine g_iadd C dX11_findBursts_41 ?_
      refine g_nmi C (fun v4 ev4 => ?_)
      refine g_istore C (i := 5) (lv' := [(5, .int v4), (0, .ref (ad 53)), (1, .int (s1.1)), (2, .int (s1.2.1)), (3, .int (s1.2.2.1)), (4, .int (nI j1))]) dX11_findBursts_42 (by decide) rfl ?_
      refine g_loc C (lv' := [(0, .ref (ad 53)), (1, .int (s1.1)), (2, .int (s1.2.1)), (3, .int (s1.2.2.1)), (4, .int (nI j1)), (5, .int v4)]) [1, 2, 3, 4, 5, 0] rfl ?_
      refine g_lvq C (lv' := [(0, .ref (ad 53)), (1, .int (s1.1)), (2, .int (s1.2.1)), (3, .int (s1.2.2.1)), (4, .int (nI j1)), (5, .int (v4 + nI 0))]) (by rw [nI_s0]) ?_
      refine loopF_indI (b_X11_findBursts_44 j1 v4) (cnt8 v4) (fun (j5 : Nat) (s5 : Sg) => K s5 φ 44 [(0, .ref (ad 53)), (1, .int (s1.1)), (2, .int (s1.2.1)), (3, .int (s1.2.2.1)), (4, .int (nI j1)), (5, .int (v4 + nI j5))] []) σ3 (fun (j5 : Nat) (s5 : Sg) => s5 66 = σ3 66) rfl (fun _ _ _ h => h) ?_ ?_
      · intro j5 s5 hj5 hI5 kk
        change K s5 φ 44 [(0, .ref (ad 53)), (1, .int (s1.1)), (2, .int (s1.2.1)), (3, .int (s1.2.2.1)), (4, .int (nI j1)), (5, .int (v4 + nI j5))] []
        refine g_iload C (i := 5) dX11_findBursts_44 5 rfl ?_
        refine g_aload_n C (i := 0) dX11_findBursts_46 rfl 0 rfl ?_
        refine gg_53_15 C fl_X11_48 dX11_findBursts_47 ?_
        refine g_iload C (i := 4) dX11_findBursts_50 4 rfl ?_
        refine ld_66 C (vp_in_nI (Nat.lt_of_lt_of_le hj1 (by decide)) (by decide)) dX11_findBursts_52 ?_
        refine g_bipush C (v := 16) dX11_findBursts_53 (by decide) ?_
        refine g_iadd C dX11_findBursts_55 ?_
        refine g_icmp_ge C (tgt := 129) dX11_findBursts_56 (by decide) (fun h2 => ?_) (fun h2 => ?_)
        · have q := h2; rw [hI5, c16_eq, ev4] at q; exact absurd q (c8_step hj5)
        · refine g_aload_n C (i := 0) dX11_findBursts_59 rfl 0 rfl ?_
          refine gg_53_18 C fl_X11_57 dX11_findBursts_60 ?_
          refine g_iload C (i := 4) dX11_findBursts_63 4 rfl ?_
          refine g_dup2 C dX11_findBursts_65 rfl rfl ?_
          refine ld_69 C (vp_in_nI (Nat.lt_of_lt_of_le hj1 (by decide)) (by decide)) dX11_findBursts_66 ?_
          refine g_aload_n C (i := 0) dX11_findBursts_67 rfl 0 rfl ?_
          refine g_iload C (i := 4) dX11_findBursts_68 4 rfl ?_
          refine g_iload C (i := 5) dX11_findBursts_70 5 rfl ?_
          refine g_callV C (st := [.int (s5 69 (nI j1).toNatClampNeg), .int (nI j1), .ref (ad 69)]) (c_X11_signal l D ad dA z0 tt s5 φ (nI j1) (v4 + nI j5) (vp_in_nI (Nat.lt_of_lt_of_le hj1 (by decide)) (by decide))) rfl ml_X11_151 im_X11_signal se_X11_signal in_X11 co_X11_signal dyV_X11_signal rfl rfl ⟨(Nat.le_of_ble_eq_true rfl), (Nat.le_of_ble_eq_true rfl)⟩ 53 11 (fun f => at_53 ad dA s5 f) rfl dX11_findBursts_72 rfl (Nat.le_of_ble_eq_true rfl) (g_fni ?_)
          refine g_iload C (i := 5) dX11_findBursts_75 5 rfl ?_
          refine g_iconst C (v := 2) dX11_findBursts_77 (by decide) ?_
          refine g_iload C (i := 4) dX11_findBursts_78 4 rfl ?_
          refine g_imul C dX11_findBursts_80 ?_
          refine g_iadd C dX11_findBursts_81 ?_
          refine g_callS C (st := [.int (f_X11_signal s5 (nI j1) (v4 + nI j5)), .int (s5 69 (nI j1).toNatClampNeg), .int (nI j1), .ref (ad 69)]) (c_X11_rest l D ad dA z0 tt s5 φ ((v4 + nI j5) + (2 * (nI j1)))) rfl ml_X11_141 sm_X11_rest in_X11 co_X11_rest dyS_X11_rest rfl rfl ⟨(Nat.le_of_ble_eq_true rfl), (Nat.le_of_ble_eq_true rfl)⟩ dX11_findBursts_82 rfl (Nat.le_of_ble_eq_true rfl) (g_fni ?_)
          refine g_callS C (st := [.int (f_X11_signal s5 (nI j1) (v4 + nI j5)), .int (s5 69 (nI j1).toNatClampNeg), .int (nI j1), .ref (ad 69)]) (c_X11_a l D ad dA z0 tt s5 φ (f_X11_rest ((v4 + nI j5) + (2 * (nI j1))))) rfl ml_X11_145 sm_X11_a in_X11 co_X11_a dyS_X11_a rfl rfl ⟨(Nat.le_of_ble_eq_true rfl), (Nat.le_of_ble_eq_true rfl)⟩ dX11_findBursts_85 rfl (Nat.le_of_ble_eq_true rfl) (g_fni ?_)
          refine g_imul C dX11_findBursts_88 ?_
          refine g_iadd C dX11_findBursts_89 ?_
          refine sd_69 C (vp_in_nI (Nat.lt_of_lt_of_le hj1 (by decide)) (by decide)) dX11_findBursts_90 ?_
          refine g_nms C (fun σ6 eσ6 => ?_)
          refine g_aload_n C (i := 0) dX11_findBursts_91 rfl 0 rfl ?_
          refine gg_53_19 C fl_X11_60 dX11_findBursts_92 ?_
          refine g_iload C (i := 4) dX11_findBursts_95 4 rfl ?_
          refine g_dup2 C dX11_findBursts_97 rfl rfl ?_
          refine ld_70 C (vp_in_nI (Nat.lt_of_lt_of_le hj1 (by decide)) (by decide)) dX11_findBursts_98 ?_
          refine g_aload_n C (i := 0) dX11_findBursts_99 rfl 0 rfl ?_
          refine g_iload C (i := 4) dX11_findBursts_100 4 rfl ?_
          refine g_iload C (i := 5) dX11_findBursts_102 5 rfl ?_
          refine g_callV C (st := [.int (σ6 70 (nI j1).toNatClampNeg), .int (nI j1), .ref (ad 70)]) (c_X11_signal l D ad dA z0 tt σ6 φ (nI j1) (v4 + nI j5) (vp_in_nI (Nat.lt_of_lt_of_le hj1 (by decide)) (by decide))) rfl ml_X11_151 im_X11_signal se_X11_signal in_X11 co_X11_signal dyV_X11_signal rfl rfl ⟨(Nat.le_of_ble_eq_true rfl), (Nat.le_of_ble_eq_true rfl)⟩ 53 11 (fun f => at_53 ad dA σ6 f) rfl dX11_findBursts_104 rfl (Nat.le_of_ble_eq_true rfl) (g_fni ?_)
          refine g_iload C (i := 5) dX11_findBursts_107 5 rfl ?_
          refine g_iconst C (v := 2) dX11_findBursts_109 (by decide) ?_
          refine g_iload C (i := 4) dX11_findBursts_110 4 rfl ?_
          refine g_imul C dX11_findBursts_112 ?_
          refine g_iadd C dX11_findBursts_113 ?_
          refine g_callS C (st := [.int (f_X11_signal σ6 (nI j1) (v4 + nI j5)), .int (σ6 70 (nI j1).toNatClampNeg), .int (nI j1), .ref (ad 70)]) (c_X11_rest l D ad dA z0 tt σ6 φ ((v4 + nI j5) + (2 * (nI j1)))) rfl ml_X11_141 sm_X11_rest in_X11 co_X11_rest dyS_X11_rest rfl rfl ⟨(Nat.le_of_ble_eq_true rfl), (Nat.le_of_ble_eq_true rfl)⟩ dX11_findBursts_114 rfl (Nat.le_of_ble_eq_true rfl) (g_fni ?_)
          refine g_callS C (st := [.int (f_X11_signal σ6 (nI j1) (v4 + nI j5)), .int (σ6 70 (nI j1).toNatClampNeg), .int (nI j1), .ref (ad 70)]) (c_X11_b l D ad dA z0 tt σ6 φ (f_X11_rest ((v4 + nI j5) + (2 * (nI j1))))) rfl ml_X11_148 sm_X11_b in_X11 co_X11_b dyS_X11_b rfl rfl ⟨(Nat.le_of_ble_eq_true rfl), (Nat.le_of_ble_eq_true rfl)⟩ dX11_findBursts_117 rfl (Nat.le_of_ble_eq_true rfl) (g_fni ?_)
          refine g_imul C dX11_findBursts_120 ?_
          refine g_iadd C dX11_findBursts_121 ?_
          refine sd_70 C (vp_in_nI (Nat.lt_of_lt_of_le hj1 (by decide)) (by decide)) dX11_findBursts_122 ?_
          refine g_nms C (fun σ7 eσ7 => ?_)
          refine g_iinc C (i := 5) (v := v4 + nI (j5 + 1)) (lv' := [(5, .int (v4 + nI (j5 + 1))), (0, .ref (ad 53)), (1, .int (s1.1)), (2, .int (s1.2.1)), (3, .int (s1.2.2.1)), (4, .int (nI j1))]) dX11_findBursts_123 5 rfl (nI_1s _ _) (by decide) rfl ?_
          refine g_goto C (tgt := 44) dX11_findBursts_126 (by decide) ?_
          refine g_loc C [1, 2, 3, 4, 5, 0] rfl ?_
          refine kk σ7 ?_
          subst eσ7
          subst eσ6
          exact b_X11_findBursts_44_eq _ _ _ _
      · intro hI5
        generalize et5 : loopF (b_X11_findBursts_44 j1 v4) (cnt8 v4) σ3 = t5 at hI5 ⊢
        change K t5 φ 44 [(0, .ref (ad 53)), (1, .int (s1.1)), (2, .int (s1.2.1)), (3, .int (s1.2.2.1)), (4, .int (nI j1)), (5, .int (v4 + nI (cnt8 v4)))] []
        refine g_iload C (i := 5) dX11_findBursts_44 5 rfl ?_
        refine g_aload_n C (i := 0) dX11_findBursts_46 rfl 0 rfl ?_
        refine gg_53_15 C fl_X11_48 dX11_findBursts_47 ?_
        refine g_iload C (i := 4) dX11_findBursts_50 4 rfl ?_
        refine ld_66 C (vp_in_nI (Nat.lt_of_lt_of_le hj1 (by decide)) (by decide)) dX11_findBursts_52 ?_
        refine g_bipush C (v := 16) dX11_findBursts_53 (by decide) ?_
        refine g_iadd C dX11_findBursts_55 ?_
        refine g_icmp_ge C (tgt := 129) dX11_findBursts_56 (by decide) (fun h3 => ?_) (fun h3 => ?_)
        · refine g_aload_n C (i := 0) dX11_findBursts_129 rfl 0 rfl ?_
          refine gg_53_20 C fl_X11_63 dX11_findBursts_130 ?_
          refine g_iload C (i := 4) dX11_findBursts_133 4 rfl ?_
          refine g_aload_n C (i := 0) dX11_findBursts_135 rfl 0 rfl ?_
          refine gg_53_18 C fl_X11_57 dX11_findBursts_136 ?_
          refine g_iload C (i := 4) dX11_findBursts_139 4 rfl ?_
          refine ld_69 C (vp_in_nI (Nat.lt_of_lt_of_le hj1 (by decide)) (by decide)) dX11_findBursts_141 ?_
          refine g_callS C (st := [.int (nI j1), .ref (ad 71)]) (c_X11_size l D ad dA z0 tt t5 φ (t5 69 (nI j1).toNatClampNeg)) rfl ml_X11_160 sm_X11_size in_X11 co_X11_size dyS_X11_size rfl rfl ⟨(Nat.le_of_ble_eq_true rfl), (Nat.le_of_ble_eq_true rfl)⟩ dX11_findBursts_142 rfl (Nat.le_of_ble_eq_true rfl) (g_fni ?_)
          refine g_aload_n C (i := 0) dX11_findBursts_145 rfl 0 rfl ?_
          refine gg_53_19 C fl_X11_60 dX11_findBursts_146 ?_
          refine g_iload C (i := 4) dX11_findBursts_149 4 rfl ?_
          refine ld_70 C (vp_in_nI (Nat.lt_of_lt_of_le hj1 (by decide)) (by decide)) dX11_findBursts_151 ?_
          refine g_callS C (st := [.int (f_X11_size (t5 69 (nI j1).toNatClampNeg)), .int (nI j1), .ref (ad 71)]) (c_X11_size l D ad dA z0 tt t5 φ (t5 70 (nI j1).toNatClampNeg)) rfl ml_X11_160 sm_X11_size in_X11 co_X11_size dyS_X11_size rfl rfl ⟨(Nat.le_of_ble_eq_true rfl), (Nat.le_of_ble_eq_true rfl)⟩ dX11_findBursts_152 rfl (Nat.le_of_ble_eq_true rfl) (g_fni ?_)
          refine g_iadd C dX11_findBursts_155 ?_
          refine g_iconst C (v := 4) dX11_findBursts_156 (by decide) ?_
          refine g_aload_n C (i := 0) dX11_findBursts_157 rfl 0 rfl ?_
          refine gg_53_9 C fl_X11_35 dX11_findBursts_158 ?_
          refine g_iconst C (v := 0) dX11_findBursts_161 (by decide) ?_
          refine ld_62 C (vp_lit (by decide)) dX11_findBursts_162 ?_
          refine g_imul C dX11_findBursts_163 ?_
          have J9 : ∀ (v8 : Int32), (if ((f_X11_size (t5 69 (nI j1).toNatClampNeg)) + (f_X11_size (t5 70 (nI j1).toNatClampNeg))) < (4 * (t5 62 (0 : Int32).toNatClampNeg)) then 0 else 1) = v8 → K t5 φ 172 [(0, .ref (ad 53)), (1, .int (s1.1)), (2, .int (s1.2.1)), (3, .int (s1.2.2.1)), (4, .int (nI j1))] [.int v8, .int (nI j1), .ref (ad 71)] := by
            intro v8 ev8
            refine sd_71 C (vp_in_nI (Nat.lt_of_lt_of_le hj1 (by decide)) (by decide)) dX11_findBursts_172 ?_
            refine g_nms C (fun σ10 eσ10 => ?_)
            refine g_aload_n C (i := 0) dX11_findBursts_173 rfl 0 rfl ?_
            refine gg_53_20 C fl_X11_63 dX11_findBursts_174 ?_
            refine g_iload C (i := 4) dX11_findBursts_177 4 rfl ?_
            refine ld_71 C (vp_in_nI (Nat.lt_of_lt_of_le hj1 (by decide)) (by decide)) dX11_findBursts_179 ?_
            have J12 : ∀ (v11 : Int32), (if (σ10 71 (nI j1).toNatClampNeg) = 0 then 0 else ((s1.1) + 1)) = v11 → K σ10 φ 190 [(0, .ref (ad 53)), (2, .int (s1.2.1)), (3, .int (s1.2.2.1)), (4, .int (nI j1))] [.int v11] := by
              intro v11 ev11
              refine g_istore_n C (i := 1) (lv' := [(1, .int v11), (0, .ref (ad 53)), (2, .int (s1.2.1)), (3, .int (s1.2.2.1)), (4, .int (nI j1))]) dX11_findBursts_190 rfl (by decide) rfl ?_
              refine g_aload_n C (i := 0) dX11_findBursts_191 rfl 1 rfl ?_
              refine gg_53_20 C fl_X11_63 dX11_findBursts_192 ?_
              refine g_iload C (i := 4) dX11_findBursts_195 4 rfl ?_
              refine ld_71 C (vp_in_nI (Nat.lt_of_lt_of_le hj1 (by decide)) (by decide)) dX11_findBursts_197 ?_
              have J14 : ∀ (v13 : Int32), (if (σ10 71 (nI j1).toNatClampNeg) = 0 then ((s1.2.1) + 1) else 0) = v13 → K σ10 φ 208 [(0, .ref (ad 53)), (1, .int v11), (3, .int (s1.2.2.1)), (4, .int (nI j1))] [.int v13] := by
                intro v13 ev13
                refine g_istore_n C (i := 2) (lv' := [(2, .int v13), (0, .ref (ad 53)), (1, .int v11), (3, .int (s1.2.2.1)), (4, .int (nI j1))]) dX11_findBursts_208 rfl (by decide) rfl ?_
                refine g_iload_n C (i := 2) dX11_findBursts_209 rfl 0 rfl ?_
                refine g_iconst C (v := 2) dX11_findBursts_210 (by decide) ?_
                have J16 : ∀ (v15 : Int32), (if v13 < 2 then (if 2 ≤ v11 then 1 else (if (s1.2.2.1) = 0 then 0 else 1)) else 0) = v15 → K σ10 φ 232 [(0, .ref (ad 53)), (1, .int v11), (2, .int v13), (4, .int (nI j1))] [.int v15] := by
                  intro v15 ev15
                  refine g_istore_n C (i := 3) (lv' := [(3, .int v15), (0, .ref (ad 53)), (1, .int v11), (2, .int v13), (4, .int (nI j1))]) dX11_findBursts_232 rfl (by decide) rfl ?_
                  refine g_aload_n C (i := 0) dX11_findBursts_233 rfl 1 rfl ?_
                  refine gg_53_21 C fl_X11_66 dX11_findBursts_234 ?_
                  refine g_iload C (i := 4) dX11_findBursts_237 4 rfl ?_
                  refine g_iload_n C (i := 3) dX11_findBursts_239 rfl 0 rfl ?_
                  refine sd_72 C (vp_in_nI (Nat.lt_of_lt_of_le hj1 (by decide)) (by decide)) dX11_findBursts_240 ?_
                  refine g_nms C (fun σ17 eσ17 => ?_)
                  refine g_iinc C (i := 4) (v := nI (j1 + 1)) (lv' := [(4, .int (nI (j1 + 1))), (3, .int v15), (0, .ref (ad 53)), (1, .int v11), (2, .int v13)]) dX11_findBursts_241 4 rfl (nI_1 _) (by decide) rfl ?_
                  refine g_goto C (tgt := 9) dX11_findBursts_244 (by decide) ?_
                  refine g_loc C [2, 3, 4, 1, 0] rfl ?_
                  refine kk (v11, v13, v15, σ17) ?_
                  subst eσ17
                  subst ev15
                  subst ev13
                  subst ev11
                  subst eσ10
                  subst ev8
                  subst et5
                  subst ev4
                  subst eσ3
                  subst eσ2
                  exact b_X11_findBursts_9_eq _ _
                refine g_icmp_lt C (tgt := 218) dX11_findBursts_211 (by decide) (fun h7 => ?_) (fun h7 => ?_)
                · refine g_iload_n C (i := 1) dX11_findBursts_218 rfl 2 rfl ?_
                  refine g_iconst C (v := 2) dX11_findBursts_219 (by decide) ?_
                  refine g_icmp_ge C (tgt := 227) dX11_findBursts_220 (by decide) (fun h8 => ?_) (fun h8 => ?_)
                  · refine g_iconst C (v := 1) dX11_findBursts_227 (by decide) ?_
                    refine g_goto C (tgt := 232) dX11_findBursts_228 (by decide) ?_
                    refine g_loc C [1, 2, 0, 4] rfl ?_
                    exact J16 _ (((if_pos h7).trans (if_pos h8)))
                  · refine g_iload_n C (i := 3) dX11_findBursts_223 rfl 3 rfl ?_
                    refine g_if_eq C (tgt := 231) dX11_findBursts_224 (by decide) (fun h9 => ?_) (fun h9 => ?_)
                    · refine g_iconst C (v := 0) dX11_findBursts_231 (by decide) ?_
                      refine g_loc C [1, 2, 0, 4] rfl ?_
                      exact J16 _ (((if_pos h7).trans ((if_neg h8).trans (if_pos h9))))
                    · refine g_iconst C (v := 1) dX11_findBursts_227 (by decide) ?_
                      refine g_goto C (tgt := 232) dX11_findBursts_228 (by decide) ?_
                      refine g_loc C [1, 2, 0, 4] rfl ?_
                      exact J16 _ (((if_pos h7).trans ((if_neg h8).trans (if_neg h9))))
                · refine g_iconst C (v := 0) dX11_findBursts_214 (by decide) ?_
                  refine g_goto C (tgt := 232) dX11_findBursts_215 (by decide) ?_
                  refine g_loc C [1, 2, 0, 4] rfl ?_
                  exact J16 _ ((if_neg h7))
              refine g_if_eq C (tgt := 205) dX11_findBursts_198 (by decide) (fun h6 => ?_) (fun h6 => ?_)
              · refine g_iload_n C (i := 2) dX11_findBursts_205 rfl 2 rfl ?_
                refine g_iconst C (v := 1) dX11_findBursts_206 (by decide) ?_
                refine g_iadd C dX11_findBursts_207 ?_
                refine g_loc C [1, 0, 3, 4] rfl ?_
                exact J14 _ ((if_pos h6))
              · refine g_iconst C (v := 0) dX11_findBursts_201 (by decide) ?_
                refine g_goto C (tgt := 208) dX11_findBursts_202 (by decide) ?_
                refine g_loc C [1, 0, 3, 4] rfl ?_
                exact J14 _ ((if_neg h6))
            refine g_if_eq C (tgt := 189) dX11_findBursts_180 (by decide) (fun h5 => ?_) (fun h5 => ?_)
            · refine g_iconst C (v := 0) dX11_findBursts_189 (by decide) ?_
              refine g_loc C [0, 2, 3, 4] rfl ?_
              exact J12 _ ((if_pos h5))
            · refine g_iload_n C (i := 1) dX11_findBursts_183 rfl 1 rfl ?_
              refine g_iconst C (v := 1) dX11_findBursts_184 (by decide) ?_
              refine g_iadd C dX11_findBursts_185 ?_
              refine g_goto C (tgt := 190) dX11_findBursts_186 (by decide) ?_
              refine g_loc C [0, 2, 3, 4] rfl ?_
              exact J12 _ ((if_neg h5))
          refine g_icmp_lt C (tgt := 171) dX11_findBursts_164 (by decide) (fun h4 => ?_) (fun h4 => ?_)
          · refine g_iconst C (v := 0) dX11_findBursts_171 (by decide) ?_
            refine g_loc C [0, 1, 2, 3, 4] rfl ?_
            exact J9 _ ((if_pos h4))
          · refine g_iconst C (v := 1) dX11_findBursts_167 (by decide) ?_
            refine g_goto C (tgt := 172) dX11_findBursts_168 (by decide) ?_
            refine g_loc C [0, 1, 2, 3, 4] rfl ?_
            exact J9 _ ((if_neg h4))
        · refine absurd ?_ h3; rw [hI5, c16_eq, ev4]; exact c8_exit _
  · generalize et1 : loopF b_X11_findBursts_9 8 (0, 0, 1, σ) = t1
    change K (t1.2.2.2) φ 9 [(0, .ref (ad 53)), (1, .int (t1.1)), (2, .int (t1.2.1)), (3, .int (t1.2.2.1)), (4, .int (nI 8))] []
    refine g_iload C (i := 4) dX11_findBursts_9 4 rfl ?_
    refine g_bipush C (v := 8) dX11_findBursts_11 (by decide) ?_
    refine g_icmp_ge C (tgt := 247) dX11_findBursts_13 (by decide) (fun h10 => ?_) (fun h10 => ?_)
    · refine g_aload_n C (i := 0) dX11_findBursts_247 rfl 0 rfl ?_
      refine g_iconst C (v := 0) dX11_findBursts_248 (by decide) ?_
      refine gp_53_22 C fl_X11_163 dX11_findBursts_249 ?_
      refine g_nms C (fun σ18 eσ18 => ?_)
      refine g_aload_n C (i := 0) dX11_findBursts_252 rfl 0 rfl ?_
      refine g_iconst C (v := 0) dX11_findBursts_253 (by decide) ?_
      refine gp_53_23 C fl_X11_166 dX11_findBursts_254 ?_
      refine g_nms C (fun σ19 eσ19 => ?_)
      refine g_iconst C (v := 1) dX11_findBursts_257 (by decide) ?_
      refine g_istore C (i := 4) (lv' := [(4, .int 1), (0, .ref (ad 53)), (1, .int (t1.1)), (2, .int (t1.2.1)), (3, .int (t1.2.2.1))]) dX11_findBursts_258 (by decide) rfl ?_
      refine g_loc C (lv' := [(0, .ref (ad 53)), (4, .int 1)]) [1, 0] rfl ?_
      refine loopF_ind b_X11_findBursts_260 7 (fun (j20 : Nat) (s20 : Sg) => K s20 φ 260 [(0, .ref (ad 53)), (4, .int (nI (j20 + 1)))] []) σ19 ?_ ?_
      · intro j20 s20 hj20 kk
        change K s20 φ 260 [(0, .ref (ad 53)), (4, .int (nI (j20 + 1)))] []
        refine g_iload C (i := 4) dX11_findBursts_260 1 rfl ?_
        refine g_bipush C (v := 8) dX11_findBursts_262 (by decide) ?_
        refine g_icmp_ge C (tgt := 436) dX11_findBursts_264 (by decide) (fun h11 => ?_) (fun h11 => ?_)
        · exact absurd h11 (nI_ge (Nat.succ_lt_succ hj20) (by decide))
        · refine g_aload_n C (i := 0) dX11_findBursts_267 rfl 0 rfl ?_
          refine gg_53_20 C fl_X11_63 dX11_findBursts_268 ?_
          refine g_iload C (i := 4) dX11_findBursts_271 1 rfl ?_
          refine g_iconst C (v := 1) dX11_findBursts_273 (by decide) ?_
          refine g_isub C dX11_findBursts_274 ?_
          refine ld_71 C (by rw [nI_pred]; exact vp_in_nI (Nat.lt_of_lt_of_le hj20 (by decide)) (by decide)) dX11_findBursts_275 ?_
          have J32 : ∀ (σ31 : Sg), (if (s20 71 ((nI (j20 + 1)) - 1).toNatClampNeg) = 0 then s20 else (if (s20 71 (nI (j20 + 1)).toNatClampNeg) = 0 then s20 else (let v21 : Int32 := (if 0 ≤ (s20 70 ((nI (j20 + 1)) - 1).toNatClampNeg) then (if (s20 70 ((nI (j20 + 1)) - 1).toNatClampNeg) ≤ 0 then 0 else (if 0 ≤ (s20 70 (nI (j20 + 1)).toNatClampNeg) then 0 else 1)) else (if 0 < (s20 70 (nI (j20 + 1)).toNatClampNeg) then 1 else (if (s20 70 ((nI (j20 + 1)) - 1).toNatClampNeg) ≤ 0 then 0 else (if 0 ≤ (s20 70 (nI (j20 + 1)).toNatClampNeg) then 0 else 1)))); let v23 : Int32 := (if v21 = 0 then 0 else (if (f_X11_size (s20 70 ((nI (j20 + 1)) - 1).toNatClampNeg)) < (s20 62 (0 : Int32).toNatClampNeg) then 0 else (if (f_X11_size (s20 70 (nI (j20 + 1)).toNatClampNeg)) < (s20 62 (0 : Int32).toNatClampNeg) then 0 else 1))); let v25 : Int32 := (if v23 = 0 then 0 else 1); let σ27 : Sg := sw s20 53 22 ((s20 53 22) + v25); let v28 : Int32 := (if v23 = 0 then 1 else 0); let σ30 : Sg := sw σ27 53 23 ((σ27 53 23) + v28); σ30))) = σ31 → K σ31 φ 430 [(0, .ref (ad 53)), (4, .int (nI (j20 + 1)))] [] := by
            intro σ31 eσ31
            refine g_iinc C (i := 4) (v := nI (j20 + 1 + 1)) (lv' := [(4, .int (nI (j20 + 1 + 1))), (0, .ref (ad 53))]) dX11_findBursts_430 1 rfl (nI_1 _) (by decide) rfl ?_
            refine g_goto C (tgt := 260) dX11_findBursts_433 (by decide) ?_
            refine g_loc C [1, 0] rfl ?_
            refine kk σ31 ?_
            subst eσ31
            exact b_X11_findBursts_260_eq _ _
          refine g_if_eq C (tgt := 430) dX11_findBursts_276 (by decide) (fun h12 => ?_) (fun h12 => ?_)
          · refine g_loc C [0, 1] rfl ?_
            exact J32 _ ((if_pos h12))
          · refine g_aload_n C (i := 0) dX11_findBursts_279 rfl 0 rfl ?_
            refine gg_53_20 C fl_X11_63 dX11_findBursts_280 ?_
            refine g_iload C (i := 4) dX11_findBursts_283 1 rfl ?_
            refine ld_71 C (vp_in_nI (Nat.succ_lt_succ hj20) (by decide)) dX11_findBursts_285 ?_
            refine g_if_eq C (tgt := 430) dX11_findBursts_286 (by decide) (fun h13 => ?_) (fun h13 => ?_)
            · refine g_loc C [0, 1] rfl ?_
              exact J32 _ (((if_neg h12).trans (if_pos h13)))
            · refine g_aload_n C (i := 0) dX11_findBursts_289 rfl 0 rfl ?_
              refine gg_53_19 C fl_X11_60 dX11_findBursts_290 ?_
              refine g_iload C (i := 4) dX11_findBursts_293 1 rfl ?_
              refine g_iconst C (v := 1) dX11_findBursts_295 (by decide) ?_
              refine g_isub C dX11_findBursts_296 ?_
              refine ld_70 C (by rw [nI_pred]; exact vp_in_nI (Nat.lt_of_lt_of_le hj20 (by decide)) (by decide)) dX11_findBursts_297 ?_
              have J22 : ∀ (v21 : Int32), (if 0 ≤ (s20 70 ((nI (j20 + 1)) - 1).toNatClampNeg) then (if (s20 70 ((nI (j20 + 1)) - 1).toNatClampNeg) ≤ 0 then 0 else (if 0 ≤ (s20 70 (nI (j20 + 1)).toNatClampNeg) then 0 else 1)) else (if 0 < (s20 70 (nI (j20 + 1)).toNatClampNeg) then 1 else (if (s20 70 ((nI (j20 + 1)) - 1).toNatClampNeg) ≤ 0 then 0 else (if 0 ≤ (s20 70 (nI (j20 + 1)).toNatClampNeg) then 0 else 1)))) = v21 → K s20 φ 338 [(0, .ref (ad 53)), (4, .int (nI (j20 + 1)))] [.int v21] := by
                intro v21 ev21
                refine g_istore C (i := 5) (lv' := [(5, .int v21), (0, .ref (ad 53)), (4, .int (nI (j20 + 1)))]) dX11_findBursts_338 (by decide) rfl ?_
                refine g_iload C (i := 5) dX11_findBursts_340 0 rfl ?_
                have J24 : ∀ (v23 : Int32), (if v21 = 0 then 0 else (if (f_X11_size (s20 70 ((nI (j20 + 1)) - 1).toNatClampNeg)) < (s20 62 (0 : Int32).toNatClampNeg) then 0 else (if (f_X11_size (s20 70 (nI (j20 + 1)).toNatClampNeg)) < (s20 62 (0 : Int32).toNatClampNeg) then 0 else 1))) = v23 → K s20 φ 390 [(0, .ref (ad 53)), (4, .int (nI (j20 + 1)))] [.int v23] := by
                  intro v23 ev23
                  refine g_istore C (i := 6) (lv' := [(6, .int v23), (0, .ref (ad 53)), (4, .int (nI (j20 + 1)))]) dX11_findBursts_390 (by decide) rfl ?_
                  refine g_aload_n C (i := 0) dX11_findBursts_392 rfl 1 rfl ?_
                  refine g_dup C dX11_findBursts_393 rfl ?_
                  refine gg_53_22 C fl_X11_163 dX11_findBursts_394 ?_
                  refine g_iload C (i := 6) dX11_findBursts_397 0 rfl ?_
                  have J26 : ∀ (v25 : Int32), (if v23 = 0 then 0 else 1) = v25 → K s20 φ 407 [(0, .ref (ad 53)), (4, .int (nI (j20 + 1))), (6, .int v23)] [.int v25, .int (s20 53 22), .ref (ad 53)] := by
                    intro v25 ev25
                    refine g_iadd C dX11_findBursts_407 ?_
                    refine gp_53_22 C fl_X11_163 dX11_findBursts_408 ?_
                    refine g_nms C (fun σ27 eσ27 => ?_)
                    refine g_aload_n C (i := 0) dX11_findBursts_411 rfl 0 rfl ?_
                    refine g_dup C dX11_findBursts_412 rfl ?_
                    refine gg_53_23 C fl_X11_166 dX11_findBursts_413 ?_
                    refine g_iload C (i := 6) dX11_findBursts_416 2 rfl ?_
                    have J29 : ∀ (v28 : Int32), (if v23 = 0 then 1 else 0) = v28 → K σ27 φ 426 [(0, .ref (ad 53)), (4, .int (nI (j20 + 1)))] [.int v28, .int (σ27 53 23), .ref (ad 53)] := by
                      intro v28 ev28
                      refine g_iadd C dX11_findBursts_426 ?_
                      refine gp_53_23 C fl_X11_166 dX11_findBursts_427 ?_
                      refine g_nms C (fun σ30 eσ30 => ?_)
                      refine g_loc C [0, 1] rfl ?_
                      subst eσ30
                      subst ev28
                      subst eσ27
                      subst ev25
                      subst ev23
                      subst ev21
                      exact J32 _ (((if_neg h12).trans (if_neg h13)))
                    refine g_if_eq C (tgt := 425) dX11_findBursts_418 (by decide) (fun h24 => ?_) (fun h24 => ?_)
                    · refine g_iconst C (v := 1) dX11_findBursts_425 (by decide) ?_
                      refine g_loc C [0, 1] rfl ?_
                      exact J29 _ ((if_pos h24))
                    · refine g_iconst C (v := 0) dX11_findBursts_421 (by decide) ?_
                      refine g_goto C (tgt := 426) dX11_findBursts_422 (by decide) ?_
                      refine g_loc C [0, 1] rfl ?_
                      exact J29 _ ((if_neg h24))
                  refine g_if_eq C (tgt := 406) dX11_findBursts_399 (by decide) (fun h23 => ?_) (fun h23 => ?_)
                  · refine g_iconst C (v := 0) dX11_findBursts_406 (by decide) ?_
                    refine g_loc C [1, 2, 0] rfl ?_
                    exact J26 _ ((if_pos h23))
                  · refine g_iconst C (v := 1) dX11_findBursts_402 (by decide) ?_
                    refine g_goto C (tgt := 407) dX11_findBursts_403 (by decide) ?_
                    refine g_loc C [1, 2, 0] rfl ?_
                    exact J26 _ ((if_neg h23))
                refine g_if_eq C (tgt := 389) dX11_findBursts_342 (by decide) (fun h20 => ?_) (fun h20 => ?_)
                · refine g_iconst C (v := 0) dX11_findBursts_389 (by decide) ?_
                  refine g_loc C [1, 2] rfl ?_
                  exact J24 _ ((if_pos h20))
                · refine g_aload_n C (i := 0) dX11_findBursts_345 rfl 1 rfl ?_
                  refine gg_53_19 C fl_X11_60 dX11_findBursts_346 ?_
                  refine g_iload C (i := 4) dX11_findBursts_349 2 rfl ?_
                  refine g_iconst C (v := 1) dX11_findBursts_351 (by decide) ?_
                  refine g_isub C dX11_findBursts_352 ?_
                  refine ld_70 C (by rw [nI_pred]; exact vp_in_nI (Nat.lt_of_lt_of_le hj20 (by decide)) (by decide)) dX11_findBursts_353 ?_
                  refine g_callS C (st := []) (c_X11_size l D ad dA z0 tt s20 φ (s20 70 ((nI (j20 + 1)) - 1).toNatClampNeg)) rfl ml_X11_160 sm_X11_size in_X11 co_X11_size dyS_X11_size rfl rfl ⟨(Nat.le_of_ble_eq_true rfl), (Nat.le_of_ble_eq_true rfl)⟩ dX11_findBursts_354 rfl (Nat.le_of_ble_eq_true rfl) (g_fni ?_)
                  refine g_aload_n C (i := 0) dX11_findBursts_357 rfl 1 rfl ?_
                  refine gg_53_9 C fl_X11_35 dX11_findBursts_358 ?_
                  refine g_iconst C (v := 0) dX11_findBursts_361 (by decide) ?_
                  refine ld_62 C (vp_lit (by decide)) dX11_findBursts_362 ?_
                  refine g_icmp_lt C (tgt := 389) dX11_findBursts_363 (by decide) (fun h21 => ?_) (fun h21 => ?_)
                  · refine g_iconst C (v := 0) dX11_findBursts_389 (by decide) ?_
                    refine g_loc C [1, 2] rfl ?_
                    exact J24 _ (((if_neg h20).trans (if_pos h21)))
                  · refine g_aload_n C (i := 0) dX11_findBursts_366 rfl 1 rfl ?_
                    refine gg_53_19 C fl_X11_60 dX11_findBursts_367 ?_
                    refine g_iload C (i := 4) dX11_findBursts_370 2 rfl ?_
                    refine ld_70 C (vp_in_nI (Nat.succ_lt_succ hj20) (by decide)) dX11_findBursts_372 ?_
                    refine g_callS C (st := []) (c_X11_size l D ad dA z0 tt s20 φ (s20 70 (nI (j20 + 1)).toNatClampNeg)) rfl ml_X11_160 sm_X11_size in_X11 co_X11_size dyS_X11_size rfl rfl ⟨(Nat.le_of_ble_eq_true rfl), (Nat.le_of_ble_eq_true rfl)⟩ dX11_findBursts_373 rfl (Nat.le_of_ble_eq_true rfl) (g_fni ?_)
                    refine g_aload_n C (i := 0) dX11_findBursts_376 rfl 1 rfl ?_
                    refine gg_53_9 C fl_X11_35 dX11_findBursts_377 ?_
                    refine g_iconst C (v := 0) dX11_findBursts_380 (by decide) ?_
                    refine ld_62 C (vp_lit (by decide)) dX11_findBursts_381 ?_
                    refine g_icmp_lt C (tgt := 389) dX11_findBursts_382 (by decide) (fun h22 => ?_) (fun h22 => ?_)
                    · refine g_iconst C (v := 0) dX11_findBursts_389 (by decide) ?_
                      refine g_loc C [1, 2] rfl ?_
                      exact J24 _ (((if_neg h20).trans ((if_neg h21).trans (if_pos h22))))
                    · refine g_iconst C (v := 1) dX11_findBursts_385 (by decide) ?_
                      refine g_goto C (tgt := 390) dX11_findBursts_386 (by decide) ?_
                      refine g_loc C [1, 2] rfl ?_
                      exact J24 _ (((if_neg h20).trans ((if_neg h21).trans (if_neg h22))))
              refine g_if_ge C (tgt := 311) dX11_findBursts_298 (by decide) (fun h14 => ?_) (fun h14 => ?_)
              · refine g_aload_n C (i := 0) dX11_findBursts_311 rfl 0 rfl ?_
                refine gg_53_19 C fl_X11_60 dX11_findBursts_312 ?_
                refine g_iload C (i := 4) dX11_findBursts_315 1 rfl ?_
                refine g_iconst C (v := 1) dX11_findBursts_317 (by decide) ?_
                refine g_isub C dX11_findBursts_318 ?_
                refine ld_70 C (by rw [nI_pred]; exact vp_in_nI (Nat.lt_of_lt_of_le hj20 (by decide)) (by decide)) dX11_findBursts_319 ?_
                refine g_if_le C (tgt := 337) dX11_findBursts_320 (by decide) (fun h15 => ?_) (fun h15 => ?_)
                · refine g_iconst C (v := 0) dX11_findBursts_337 (by decide) ?_
                  refine g_loc C [0, 1] rfl ?_
                  exact J22 _ (((if_pos h14).trans (if_pos h15)))
                · refine g_aload_n C (i := 0) dX11_findBursts_323 rfl 0 rfl ?_
                  refine gg_53_19 C fl_X11_60 dX11_findBursts_324 ?_
                  refine g_iload C (i := 4) dX11_findBursts_327 1 rfl ?_
                  refine ld_70 C (vp_in_nI (Nat.succ_lt_succ hj20) (by decide)) dX11_findBursts_329 ?_
                  refine g_if_ge C (tgt := 337) dX11_findBursts_330 (by decide) (fun h16 => ?_) (fun h16 => ?_)
                  · refine g_iconst C (v := 0) dX11_findBursts_337 (by decide) ?_
                    refine g_loc C [0, 1] rfl ?_
                    exact J22 _ (((if_pos h14).trans ((if_neg h15).trans (if_pos h16))))
                  · refine g_iconst C (v := 1) dX11_findBursts_333 (by decide) ?_
                    refine g_goto C (tgt := 338) dX11_findBursts_334 (by decide) ?_
                    refine g_loc C [0, 1] rfl ?_
                    exact J22 _ (((if_pos h14).trans ((if_neg h15).trans (if_neg h16))))
              · refine g_aload_n C (i := 0) dX11_findBursts_301 rfl 0 rfl ?_
                refine gg_53_19 C fl_X11_60 dX11_findBursts_302 ?_
                refine g_iload C (i := 4) dX11_findBursts_305 1 rfl ?_
                refine ld_70 C (vp_in_nI (Nat.succ_lt_succ hj20) (by decide)) dX11_findBursts_307 ?_
                refine g_if_gt C (tgt := 333) dX11_findBursts_308 (by decide) (fun h17 => ?_) (fun h17 => ?_)
                · refine g_iconst C (v := 1) dX11_findBursts_333 (by decide) ?_
                  refine g_goto C (tgt := 338) dX11_findBursts_334 (by decide) ?_
                  refine g_loc C [0, 1] rfl ?_
                  exact J22 _ (((if_neg h14).trans (if_pos h17)))
                · refine g_aload_n C (i := 0) dX11_findBursts_311 rfl 0 rfl ?_
                  refine gg_53_19 C fl_X11_60 dX11_findBursts_312 ?_
                  refine g_iload C (i := 4) dX11_findBursts_315 1 rfl ?_
                  refine g_iconst C (v := 1) dX11_findBursts_317 (by decide) ?_
                  refine g_isub C dX11_findBursts_318 ?_
                  refine ld_70 C (by rw [nI_pred]; exact vp_in_nI (Nat.lt_of_lt_of_le hj20 (by decide)) (by decide)) dX11_findBursts_319 ?_
                  refine g_if_le C (tgt := 337) dX11_findBursts_320 (by decide) (fun h18 => ?_) (fun h18 => ?_)
                  · refine g_iconst C (v := 0) dX11_findBursts_337 (by decide) ?_
                    refine g_loc C [0, 1] rfl ?_
                    exact J22 _ (((if_neg h14).trans ((if_neg h17).trans (if_pos h18))))
                  · refine g_aload_n C (i := 0) dX11_findBursts_323 rfl 0 rfl ?_
                    refine gg_53_19 C fl_X11_60 dX11_findBursts_324 ?_
                    refine g_iload C (i := 4) dX11_findBursts_327 1 rfl ?_
                    refine ld_70 C (vp_in_nI (Nat.succ_lt_succ hj20) (by decide)) dX11_findBursts_329 ?_
                    refine g_if_ge C (tgt := 337) dX11_findBursts_330 (by decide) (fun h19 => ?_) (fun h19 => ?_)
                    · refine g_iconst C (v := 0) dX11_findBursts_337 (by decide) ?_
                      refine g_loc C [0, 1] rfl ?_
                      exact J22 _ (((if_neg h14).trans ((if_neg h17).trans ((if_neg h18).trans (if_pos h19)))))
                    · refine g_iconst C (v := 1) dX11_findBursts_333 (by decide) ?_
                      refine g_goto C (tgt := 338) dX11_findBursts_334 (by decide) ?_
                      refine g_loc C [0, 1] rfl ?_
                      exact J22 _ (((if_neg h14).trans ((if_neg h17).trans ((if_neg h18).trans (if_neg h19)))))
      · generalize et20 : loopF b_X11_findBursts_260 7 σ19 = t20
        change K t20 φ 260 [(0, .ref (ad 53)), (4, .int (nI (7 + 1)))] []
        refine g_iload C (i := 4) dX11_findBursts_260 1 rfl ?_
        refine g_bipush C (v := 8) dX11_findBursts_262 (by decide) ?_
        refine g_icmp_ge C (tgt := 436) dX11_findBursts_264 (by decide) (fun h25 => ?_) (fun h25 => ?_)
        · subst et20
          subst eσ19
          subst eσ18
          subst et1
          have e0 := (show f_X11_findBursts σ = _ from rfl)
          exact hv _ _ _ _ rfl dX11_findBursts_436 ⟨rfl, (congrArg (fun z => z) e0).symm, rfl⟩
        · exact absurd (nI_le (Nat.le_refl _) (by decide)) h25
    · exact absurd (nI_le (Nat.le_refl _) (by decide)) h10
def f_X11_chromaAt (σ : Sg) (x : Int32) (y : Int32) (w : Int32) : Int32 := if w = 0 then (((2 * (f_X11_from σ x y)) - (f_X11_from σ x (y - 2))) - (f_X11_from σ x (y + 2))) else (if w = 1 then (2 * ((f_X11_from σ x y) - (f_X11_from σ (x - 1) y))) else (if w = 2 then (2 * ((f_X11_from σ x y) - (f_X11_from σ (x + 1) y))) else (((2 * (f_X11_from σ x y)) - (f_X11_from σ (x - 1) y)) - (f_X11_from σ (x + 1) y))))
theorem f_X11_chromaAt_eq (σ : Sg) (x : Int32) (y : Int32) (w : Int32) : f_X11_chromaAt σ x y w = (if w = 0 then (((2 * (f_X11_from σ x y)) - (f_X11_from σ x (y - 2))) - (f_X11_from σ x (y + 2))) else (if w = 1 then (2 * ((f_X11_from σ x y) - (f_X11_from σ (x - 1) y))) else (if w = 2 then (2 * ((f_X11_from σ x y) - (f_X11_from σ (x + 1) y))) else (((2 * (f_X11_from σ x y)) - (f_X11_from σ (x - 1) y)) - (f_X11_from σ (x + 1) y))))) := rfl
set_option maxRecDepth 100000 in
set_option maxHeartbeats 4000000 in
theorem c_X11_chromaAt (l : Launch) (D : va_G) (ad : Nat → Nat) (dA : Nat → ClassId) (z0 : Nat) (tt : Nat → Nat) (σ : Sg) (φ : Fl) (x : Int32) (y : Int32) (w : Int32) (hx : vp_in x 8) (hw : wok x w) : MC l D ad dA z0 tt yX11_chromaAt (Cond.code yX11_chromaAt cX11_chromaAt 5 (some .int) :: lw_all) { frames := 3, cells := 0, slots := 0, locals := 71 } [.ref (ad 53), .int x, .int y, .int w] σ φ (Fn (some (.int (f_X11_chromaAt σ x y w))) σ φ) := by
  refine mk_MC (by decide) (Nat.le_of_ble_eq_true rfl) ?_
  intro K C hi hf hv
  change K σ φ 0 [(0, .ref (ad 53)), (1, .int x), (2, .int y), (3, .int w)] []
  refine g_aload_n C (i := 0) dX11_chromaAt_0 rfl 0 rfl ?_
  refine g_iload_n C (i := 1) dX11_chromaAt_1 rfl 1 rfl ?_
  refine g_iload_n C (i := 2) dX11_chromaAt_2 rfl 2 rfl ?_
  refine g_callV C (st := []) (c_X11_from l D ad dA z0 tt σ φ x y hx) rfl ml_X11_170 im_X11_from se_X11_from in_X11 co_X11_from dyV_X11_from rfl rfl ⟨(Nat.le_of_ble_eq_true rfl), (Nat.le_of_ble_eq_true rfl)⟩ 53 11 (fun f => at_53 ad dA σ f) rfl dX11_chromaAt_3 rfl (Nat.le_of_ble_eq_true rfl) (g_fni ?_)
  refine g_istore C (i := 4) (lv' := [(4, .int (f_X11_from σ x y)), (0, .ref (ad 53)), (1, .int x), (2, .int y), (3, .int w)]) dX11_chromaAt_6 (by decide) rfl ?_
  refine g_iload_n C (i := 3) dX11_chromaAt_8 rfl 4 rfl ?_
  by_cases h1 : w = 0
  · refine g_tableIn C (tgt := 36) (off := 27) dX11_chromaAt_9 (by rw [h1]; decide) (by rw [h1]; decide) (by rw [h1]; rfl) (by decide) ?_
    refine g_iconst C (v := 2) dX11_chromaAt_36 (by decide) ?_
    refine g_iload C (i := 4) dX11_chromaAt_37 0 rfl ?_
    refine g_imul C dX11_chromaAt_39 ?_
    refine g_aload_n C (i := 0) dX11_chromaAt_40 rfl 1 rfl ?_
    refine g_iload_n C (i := 1) dX11_chromaAt_41 rfl 2 rfl ?_
    refine g_iload_n C (i := 2) dX11_chromaAt_42 rfl 3 rfl ?_
    refine g_iconst C (v := 2) dX11_chromaAt_43 (by decide) ?_
    refine g_isub C dX11_chromaAt_44 ?_
    refine g_callV C (st := [.int (2 * (f_X11_from σ x y))]) (c_X11_from l D ad dA z0 tt σ φ x (y - 2) hx) rfl ml_X11_170 im_X11_from se_X11_from in_X11 co_X11_from dyV_X11_from rfl rfl ⟨(Nat.le_of_ble_eq_true rfl), (Nat.le_of_ble_eq_true rfl)⟩ 53 11 (fun f => at_53 ad dA σ f) rfl dX11_chromaAt_45 rfl (Nat.le_of_ble_eq_true rfl) (g_fni ?_)
    refine g_isub C dX11_chromaAt_48 ?_
    refine g_aload_n C (i := 0) dX11_chromaAt_49 rfl 1 rfl ?_
    refine g_iload_n C (i := 1) dX11_chromaAt_50 rfl 2 rfl ?_
    refine g_iload_n C (i := 2) dX11_chromaAt_51 rfl 3 rfl ?_
    refine g_iconst C (v := 2) dX11_chromaAt_52 (by decide) ?_
    refine g_iadd C dX11_chromaAt_53 ?_
    refine g_callV C (st := [.int ((2 * (f_X11_from σ x y)) - (f_X11_from σ x (y - 2)))]) (c_X11_from l D ad dA z0 tt σ φ x (y + 2) hx) rfl ml_X11_170 im_X11_from se_X11_from in_X11 co_X11_from dyV_X11_from rfl rfl ⟨(Nat.le_of_ble_eq_true rfl), (Nat.le_of_ble_eq_true rfl)⟩ 53 11 (fun f => at_53 ad dA σ f) rfl dX11_chromaAt_54 rfl (Nat.le_of_ble_eq_true rfl) (g_fni ?_)
    refine g_isub C dX11_chromaAt_57 ?_
    have e0 := (show f_X11_chromaAt σ x y w = _ from ((f_X11_chromaAt_eq _ _ _ _).trans (if_pos h1)))
    exact hi _ _ _ _ _ _ rfl dX11_chromaAt_58 rfl ⟨(congrArg (fun z => some (Value.int z)) e0).symm, rfl, rfl⟩
  · skip
    by_cases h2 : w = 1
    · refine g_tableIn C (tgt := 59) (off := 50) dX11_chromaAt_9 (by rw [h2]; decide) (by rw [h2]; decide) (by rw [h2]; rfl) (by decide) ?_
      refine g_iconst C (v := 2) dX11_chromaAt_59 (by decide) ?_
      refine g_iload C (i := 4) dX11_chromaAt_60 0 rfl ?_
      refine g_aload_n C (i := 0) dX11_chromaAt_62 rfl 1 rfl ?_
      refine g_iload_n C (i := 1) dX11_chromaAt_63 rfl 2 rfl ?_
      refine g_iconst C (v := 1) dX11_chromaAt_64 (by decide) ?_
      refine g_isub C dX11_chromaAt_65 ?_
      refine g_iload_n C (i := 2) dX11_chromaAt_66 rfl 3 rfl ?_
      refine g_callV C (st := [.int (f_X11_from σ x y), .int 2]) (c_X11_from l D ad dA z0 tt σ φ (x - 1) y (hw.1 h2)) rfl ml_X11_170 im_X11_from se_X11_from in_X11 co_X11_from dyV_X11_from rfl rfl ⟨(Nat.le_of_ble_eq_true rfl), (Nat.le_of_ble_eq_true rfl)⟩ 53 11 (fun f => at_53 ad dA σ f) rfl dX11_chromaAt_67 rfl (Nat.le_of_ble_eq_true rfl) (g_fni ?_)
      refine g_isub C dX11_chromaAt_70 ?_
      refine g_imul C dX11_chromaAt_71 ?_
      have e0 := (show f_X11_chromaAt σ x y w = _ from ((f_X11_chromaAt_eq _ _ _ _).trans ((if_neg h1).trans (if_pos h2))))
      exact hi _ _ _ _ _ _ rfl dX11_chromaAt_72 rfl ⟨(congrArg (fun z => some (Value.int z)) e0).symm, rfl, rfl⟩
    · skip
      by_cases h3 : w = 2
      · refine g_tableIn C (tgt := 73) (off := 64) dX11_chromaAt_9 (by rw [h3]; decide) (by rw [h3]; decide) (by rw [h3]; rfl) (by decide) ?_
        refine g_iconst C (v := 2) dX11_chromaAt_73 (by decide) ?_
        refine g_iload C (i := 4) dX11_chromaAt_74 0 rfl ?_
        refine g_aload_n C (i := 0) dX11_chromaAt_76 rfl 1 rfl ?_
        refine g_iload_n C (i := 1) dX11_chromaAt_77 rfl 2 rfl ?_
        refine g_iconst C (v := 1) dX11_chromaAt_78 (by decide) ?_
        refine g_iadd C dX11_chromaAt_79 ?_
        refine g_iload_n C (i := 2) dX11_chromaAt_80 rfl 3 rfl ?_
        refine g_callV C (st := [.int (f_X11_from σ x y), .int 2]) (c_X11_from l D ad dA z0 tt σ φ (x + 1) y (hw.2.1 h3)) rfl ml_X11_170 im_X11_from se_X11_from in_X11 co_X11_from dyV_X11_from rfl rfl ⟨(Nat.le_of_ble_eq_true rfl), (Nat.le_of_ble_eq_true rfl)⟩ 53 11 (fun f => at_53 ad dA σ f) rfl dX11_chromaAt_81 rfl (Nat.le_of_ble_eq_true rfl) (g_fni ?_)
        refine g_isub C dX11_chromaAt_84 ?_
        refine g_imul C dX11_chromaAt_85 ?_
        have e0 := (show f_X11_chromaAt σ x y w = _ from ((f_X11_chromaAt_eq _ _ _ _).trans ((if_neg h1).trans ((if_neg h2).trans (if_pos h3)))))
        exact hi _ _ _ _ _ _ rfl dX11_chromaAt_86 rfl ⟨(congrArg (fun z => some (Value.int z)) e0).symm, rfl, rfl⟩
      · skip
        refine g_tableOut C (tgt := 87) dX11_chromaAt_9 (by have nh1 := i32_ne (c := 0) (n := 0) rfl h1; have nh2 := i32_ne (c := 1) (n := 1) rfl h2; have nh3 := i32_ne (c := 2) (n := 2) rfl h3; omega) (by decide) ?_
        refine g_iconst C (v := 2) dX11_chromaAt_87 (by decide) ?_
        refine g_iload C (i := 4) dX11_chromaAt_88 0 rfl ?_
        refine g_imul C dX11_chromaAt_90 ?_
        refine g_aload_n C (i := 0) dX11_chromaAt_91 rfl 1 rfl ?_
        refine g_iload_n C (i := 1) dX11_chromaAt_92 rfl 2 rfl ?_
        refine g_iconst C (v := 1) dX11_chromaAt_93 (by decide) ?_
        refine g_isub C dX11_chromaAt_94 ?_
        refine g_iload_n C (i := 2) dX11_chromaAt_95 rfl 3 rfl ?_
        refine g_callV C (st := [.int (2 * (f_X11_from σ x y))]) (c_X11_from l D ad dA z0 tt σ φ (x - 1) y (hw.2.2 h1 h2 h3).1) rfl ml_X11_170 im_X11_from se_X11_from in_X11 co_X11_from dyV_X11_from rfl rfl ⟨(Nat.le_of_ble_eq_true rfl), (Nat.le_of_ble_eq_true rfl)⟩ 53 11 (fun f => at_53 ad dA σ f) rfl dX11_chromaAt_96 rfl (Nat.le_of_ble_eq_true rfl) (g_fni ?_)
        refine g_isub C dX11_chromaAt_99 ?_
        refine g_aload_n C (i := 0) dX11_chromaAt_100 rfl 1 rfl ?_
        refine g_iload_n C (i := 1) dX11_chromaAt_101 rfl 2 rfl ?_
        refine g_iconst C (v := 1) dX11_chromaAt_102 (by decide) ?_
        refine g_iadd C dX11_chromaAt_103 ?_
        refine g_iload_n C (i := 2) dX11_chromaAt_104 rfl 3 rfl ?_
        refine g_callV C (st := [.int ((2 * (f_X11_from σ x y)) - (f_X11_from σ (x - 1) y))]) (c_X11_from l D ad dA z0 tt σ φ (x + 1) y (hw.2.2 h1 h2 h3).2) rfl ml_X11_170 im_X11_from se_X11_from in_X11 co_X11_from dyV_X11_from rfl rfl ⟨(Nat.le_of_ble_eq_true rfl), (Nat.le_of_ble_eq_true rfl)⟩ 53 11 (fun f => at_53 ad dA σ f) rfl dX11_chromaAt_105 rfl (Nat.le_of_ble_eq_true rfl) (g_fni ?_)
        refine g_isub C dX11_chromaAt_108 ?_
        have e0 := (show f_X11_chromaAt σ x y w = _ from ((f_X11_chromaAt_eq _ _ _ _).trans ((if_neg h1).trans ((if_neg h2).trans (if_neg h3)))))
        exact hi _ _ _ _ _ _ rfl dX11_chromaAt_109 rfl ⟨(congrArg (fun z => some (Value.int z)) e0).symm, rfl, rfl⟩
