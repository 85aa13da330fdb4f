/-! loops of another kind -/
def b_X1_sumUp_9 (σ : Sg) (x : Int32) (y : Int32) (j1 : Nat) (s1 : Int32 × Int32) : Int32 × Int32 := let v2 : Int32 := f_X10_turnAt x (y + nI j1); let v3 : Int32 := (s1.1) + ((f_X9_at σ x (y + nI j1)) * (sa_0 v2.toNatClampNeg)); let v4 : Int32 := (s1.2) + ((f_X9_at σ x (y + nI j1)) * (sa_1 v2.toNatClampNeg)); (v3, v4)
theorem b_X1_sumUp_9_eq (σ : Sg) (x : Int32) (y : Int32) (j1 : Nat) (s1 : Int32 × Int32) : b_X1_sumUp_9 σ x y j1 s1 = (let v2 : Int32 := f_X10_turnAt x (y + nI j1); let v3 : Int32 := (s1.1) + ((f_X9_at σ x (y + nI j1)) * (sa_0 v2.toNatClampNeg)); let v4 : Int32 := (s1.2) + ((f_X9_at σ x (y + nI j1)) * (sa_1 v2.toNatClampNeg)); (v3, v4)) := rfl
def f_X1_sumUp (σ : Sg) (x : Int32) (y : Int32) : Sg := let t1 : Int32 × Int32 := loopF (b_X1_sumUp_9 σ x y) (cnt8 y) (0, 0); let σ5 : Sg := sw σ 31 x.toNatClampNeg (t1.1); let σ6 : Sg := sw σ5 32 x.toNatClampNeg (t1.2); σ6
theorem f_X1_sumUp_eq (σ : Sg) (x : Int32) (y : Int32) : f_X1_sumUp σ x y = (let t1 : Int32 × Int32 := loopF (b_X1_sumUp_9 σ x y) (cnt8 y) (0, 0); let σ5 : Sg := sw σ 31 x.toNatClampNeg (t1.1); let σ6 : Sg := sw σ5 32 x.toNatClampNeg (t1.2); σ6) := rfl
set_option maxRecDepth 100000 in
set_option maxHeartbeats 4000000 in
theorem c_X1_sumUp (l : Launch) (D : va_G) (ad : Nat → Nat) (dA : Nat → ClassId) (z0 : Nat) (tt : Nat → Nat) (σ : Sg) (φ : Fl) (x : Int32) (y : Int32) (hx : vp_in x 8) : MC l D ad dA z0 tt yX1_sumUp (Cond.code yX1_sumUp cX1_sumUp 9 none :: lw_all) { frames := 1, cells := 0, slots := 0, locals := 22 } [.ref (ad 30), .ref (ad 15), .int x, .int y] σ φ (Fn none (f_X1_sumUp σ x y) φ) := by
  refine mk_MC (by decide) (Nat.le_of_ble_eq_true rfl) ?_
  intro K C hi hf hv
  change K σ φ 0 [(0, .ref (ad 30)), (1, .ref (ad 15)), (2, .int x), (3, .int y)] []
  refine g_iconst C (v := 0) dX1_sumUp_0 (by decide) ?_
  refine g_istore C (i := 4) (lv' := [(4, .int 0), (0, .ref (ad 30)), (1, .ref (ad 15)), (2, .int x), (3, .int y)]) dX1_sumUp_1 (by decide) rfl ?_
  refine g_iconst C (v := 0) dX1_sumUp_3 (by decide) ?_
  refine g_istore C (i := 5) (lv' := [(5, .int 0), (4, .int 0), (0, .ref (ad 30)), (1, .ref (ad 15)), (2, .int x), (3, .int y)]) dX1_sumUp_4 (by decide) rfl ?_
  refine g_iload_n C (i := 3) dX1_sumUp_6 rfl 5 rfl ?_
  refine g_istore C (i := 6) (lv' := [(6, .int y), (5, .int 0), (4, .int 0), (0, .ref (ad 30)), (1, .ref (ad 15)), (2, .int x), (3, .int y)]) dX1_sumUp_7 (by decide) rfl ?_
  refine g_loc C (lv' := [(0, .ref (ad 30)), (1, .ref (ad 15)), (2, .int x), (3, .int y), (4, .int 0), (5, .int 0), (6, .int y)]) [3, 4, 5, 6, 2, 1, 0] rfl ?_
  refine g_lvq C (lv' := [(0, .ref (ad 30)), (1, .ref (ad 15)), (2, .int x), (3, .int y), (4, .int 0), (5, .int 0), (6, .int (y + nI 0))]) (by rw [nI_s0]) ?_
  refine loopF_ind (b_X1_sumUp_9 σ x y) (cnt8 y) (fun (j1 : Nat) (s1 : Int32 × Int32) => K σ φ 9 [(0, .ref (ad 30)), (1, .ref (ad 15)), (2, .int x), (3, .int y), (4, .int (s1.1)), (5, .int (s1.2)), (6, .int (y + nI j1))] []) (0, 0) ?_ ?_
  · intro j1 s1 hj1 kk
    change K σ φ 9 [(0, .ref (ad 30)), (1, .ref (ad 15)), (2, .int x), (3, .int y), (4, .int (s1.1)), (5, .int (s1.2)), (6, .int (y + nI j1))] []
    refine g_iload C (i := 6) dX1_sumUp_9 6 rfl ?_
    refine g_iload_n C (i := 3) dX1_sumUp_11 rfl 3 rfl ?_
    refine g_bipush C (v := 8) dX1_sumUp_12 (by decide) ?_
    refine g_iadd C dX1_sumUp_14 ?_
    refine g_icmp_ge C (tgt := 69) dX1_sumUp_15 (by decide) (fun h1 => ?_) (fun h1 => ?_)
    · exact absurd h1 (c8_step hj1)
    · refine g_aload_n C (i := 1) dX1_sumUp_18 rfl 1 rfl ?_
      refine g_iload_n C (i := 2) dX1_sumUp_19 rfl 2 rfl ?_
      refine g_iload C (i := 6) dX1_sumUp_20 6 rfl ?_
      refine g_callV C (st := []) (c_X9_at l D ad dA z0 tt σ φ x (y + nI j1)) rfl ml_X1_46 im_X9_at se_X9_at in_X9 co_X9_at dyV_X9_at rfl rfl ⟨(Nat.le_of_ble_eq_true rfl), (Nat.le_of_ble_eq_true rfl)⟩ 15 9 (fun f => at_15 ad dA σ f) rfl dX1_sumUp_22 rfl (Nat.le_of_ble_eq_true rfl) (g_fni ?_)
      refine g_istore C (i := 7) (lv' := [(7, .int (f_X9_at σ x (y + nI j1))), (0, .ref (ad 30)), (1, .ref (ad 15)), (2, .int x), (3, .int y), (4, .int (s1.1)), (5, .int (s1.2)), (6, .int (y + nI j1))]) dX1_sumUp_25 (by decide) rfl ?_
      refine g_iload_n C (i := 2) dX1_sumUp_27 rfl 3 rfl ?_
      refine g_iload C (i := 6) dX1_sumUp_28 7 rfl ?_
      refine g_callSN C (st := []) (c_X10_turnAt l D ad dA z0 tt σ φ x (y + nI j1)) rfl ml_X1_52 sm_X10_turnAt in_X10 co_X10_turnAt dyS_X10_turnAt rfl rfl ⟨(Nat.le_of_ble_eq_true rfl), (Nat.le_of_ble_eq_true rfl)⟩ dX1_sumUp_30 rfl (Nat.le_of_ble_eq_true rfl) (g_fni ?_)
      refine g_nmi C (fun v2 ev2 => ?_)
      refine g_istore C (i := 8) (lv' := [(8, .int v2), (7, .int (f_X9_at σ x (y + nI j1))), (0, .ref (ad 30)), (1, .ref (ad 15)), (2, .int x), (3, .int y), (4, .int (s1.1)), (5, .int (s1.2)), (6, .int (y + nI j1))]) dX1_sumUp_33 (by decide) rfl ?_
      refine g_iload C (i := 4) dX1_sumUp_35 6 rfl ?_
      refine g_iload C (i := 7) dX1_sumUp_37 1 rfl ?_
      refine g_getsN C (host := "CompositeDecoder") (C0 := "CompositeDecoder") (hZ0 (z0 := z0)) fl_X1_55 rfl dX1_sumUp_39 ?_
      refine g_iload C (i := 8) dX1_sumUp_42 0 rfl ?_
      refine g_ti C (hT0 (z0 := z0)) (by rw [← ev2]; exact (tn_in _ _)) dX1_sumUp_44 ?_
      refine g_imul C dX1_sumUp_45 ?_
      refine g_iadd C dX1_sumUp_46 ?_
      refine g_nmi C (fun v3 ev3 => ?_)
      refine g_istore C (i := 4) (lv' := [(4, .int v3), (8, .int v2), (7, .int (f_X9_at σ x (y + nI j1))), (0, .ref (ad 30)), (1, .ref (ad 15)), (2, .int x), (3, .int y), (5, .int (s1.2)), (6, .int (y + nI j1))]) dX1_sumUp_47 (by decide) rfl ?_
      refine g_iload C (i := 5) dX1_sumUp_49 7 rfl ?_
      refine g_iload C (i := 7) dX1_sumUp_51 2 rfl ?_
      refine g_getsN C (host := "CompositeDecoder") (C0 := "CompositeDecoder") (hZ1 (z0 := z0)) fl_X1_58 rfl dX1_sumUp_53 ?_
      refine g_iload C (i := 8) dX1_sumUp_56 1 rfl ?_
      refine g_ti C (hT1 (z0 := z0)) (by rw [← ev2]; exact (tn_in _ _)) dX1_sumUp_58 ?_
      refine g_imul C dX1_sumUp_59 ?_
      refine g_iadd C dX1_sumUp_60 ?_
      refine g_nmi C (fun v4 ev4 => ?_)
      refine g_istore C (i := 5) (lv' := [(5, .int v4), (4, .int v3), (8, .int v2), (7, .int (f_X9_at σ x (y + nI j1))), (0, .ref (ad 30)), (1, .ref (ad 15)), (2, .int x), (3, .int y), (6, .int (y + nI j1))]) dX1_sumUp_61 (by decide) rfl ?_
      refine g_iinc C (i := 6) (v := y + nI (j1 + 1)) (lv' := [(6, .int (y + nI (j1 + 1))), (5, .int v4), (4, .int v3), (8, .int v2), (7, .int (f_X9_at σ x (y + nI j1))), (0, .ref (ad 30)), (1, .ref (ad 15)), (2, .int x), (3, .int y)]) dX1_sumUp_63 8 rfl (nI_1s _ _) (by decide) rfl ?_
      refine g_goto C (tgt := 9) dX1_sumUp_66 (by decide) ?_
      refine g_loc C [5, 6, 7, 8, 2, 1, 0] rfl ?_
      refine kk (v3, v4) ?_
      subst ev4
      subst ev3
      subst ev2
      exact b_X1_sumUp_9_eq _ _ _ _ _
  · generalize et1 : loopF (b_X1_sumUp_9 σ x y) (cnt8 y) (0, 0) = t1
    change K σ φ 9 [(0, .ref (ad 30)), (1, .ref (ad 15)), (2, .int x), (3, .int y), (4, .int (t1.1)), (5, .int (t1.2)), (6, .int (y + nI (cnt8 y)))] []
    refine g_iload C (i := 6) dX1_sumUp_9 6 rfl ?_
    refine g_iload_n C (i := 3) dX1_sumUp_11 rfl 3 rfl ?_
    refine g_bipush C (v := 8) dX1_sumUp_12 (by decide) ?_
    refine g_iadd C dX1_sumUp_14 ?_
    refine g_icmp_ge C (tgt := 69) dX1_sumUp_15 (by decide) (fun h2 => ?_) (fun h2 => ?_)
    · refine g_aload_n C (i := 0) dX1_sumUp_69 rfl 0 rfl ?_
      refine gg_30_0 C fl_X1_9 dX1_sumUp_70 ?_
      refine g_iload_n C (i := 2) dX1_sumUp_73 rfl 2 rfl ?_
      refine g_iload C (i := 4) dX1_sumUp_74 4 rfl ?_
      refine sd_31 C hx dX1_sumUp_76 ?_
      refine g_nms C (fun σ5 eσ5 => ?_)
      refine g_aload_n C (i := 0) dX1_sumUp_77 rfl 0 rfl ?_
      refine gg_30_1 C fl_X1_15 dX1_sumUp_78 ?_
      refine g_iload_n C (i := 2) dX1_sumUp_81 rfl 2 rfl ?_
      refine g_iload C (i := 5) dX1_sumUp_82 5 rfl ?_
      refine sd_32 C hx dX1_sumUp_84 ?_
      refine g_nms C (fun σ6 eσ6 => ?_)
      have e0 : f_X1_sumUp σ x y = σ6 := by
        subst eσ6
        subst eσ5
        subst et1
        exact f_X1_sumUp_eq _ _ _
      exact hv _ _ _ _ rfl dX1_sumUp_85 ⟨rfl, (congrArg (fun z => z) e0).symm, rfl⟩
    · exact absurd (c8_exit _) h2
def b_X1_measure_16 (x : Int32) (j3 : Nat) (s3 : Int32 × Sg) : Int32 × Sg := let σ4 : Sg := f_X1_sumUp (s3.2) (nI j3) (((s3.2) 27 (nI j3).toNatClampNeg) + 8); let v5 : Int32 := (if ((i_abs (σ4 31 (nI j3).toNatClampNeg)) + (i_abs (σ4 32 (nI j3).toNatClampNeg))) < (4 * x) then 0 else 1); let σ7 : Sg := sw σ4 33 (nI j3).toNatClampNeg (vp_nar .boolean v5); let v9 : Int32 := (if (nI j3) ≤ 0 then (s3.1) else (if (σ7 33 (nI j3).toNatClampNeg) = (σ7 33 ((nI j3) - 1).toNatClampNeg) then (let σ8 : Sg := f_X1_countPair σ7 (nI j3) x; σ7 33 (nI j3).toNatClampNeg) else (s3.1))); let σ10 : Sg := (if (nI j3) ≤ 0 then σ7 else (if (σ7 33 (nI j3).toNatClampNeg) = (σ7 33 ((nI j3) - 1).toNatClampNeg) then (let σ8 : Sg := f_X1_countPair σ7 (nI j3) x; σ8) else σ7)); let σ12 : Sg := sw σ10 34 (nI j3).toNatClampNeg (vp_nar .boolean v9); (v9, σ12)
theorem b_X1_measure_16_eq (x : Int32) (j3 : Nat) (s3 : Int32 × Sg) : b_X1_measure_16 x j3 s3 = (let σ4 : Sg := f_X1_sumUp (s3.2) (nI j3) (((s3.2) 27 (nI j3).toNatClampNeg) + 8); let v5 : Int32 := (if ((i_abs (σ4 31 (nI j3).toNatClampNeg)) + (i_abs (σ4 32 (nI j3).toNatClampNeg))) < (4 * x) then 0 else 1); let σ7 : Sg := sw σ4 33 (nI j3).toNatClampNeg (vp_nar .boolean v5); let v9 : Int32 := (if (nI j3) ≤ 0 then (s3.1) else (if (σ7 33 (nI j3).toNatClampNeg) = (σ7 33 ((nI j3) - 1).toNatClampNeg) then (let σ8 : Sg := f_X1_countPair σ7 (nI j3) x; σ7 33 (nI j3).toNatClampNeg) else (s3.1))); let σ10 : Sg := (if (nI j3) ≤ 0 then σ7 else (if (σ7 33 (nI j3).toNatClampNeg) = (σ7 33 ((nI j3) - 1).toNatClampNeg) then (let σ8 : Sg := f_X1_countPair σ7 (nI j3) x; σ8) else σ7)); let σ12 : Sg := sw σ10 34 (nI j3).toNatClampNeg (vp_nar .boolean v9); (v9, σ12)) := rfl
def f_X1_measure (σ : Sg) (x : Int32) : Sg := let σ1 : Sg := sw σ 30 4 0; let σ2 : Sg := sw σ1 30 5 0; let t3 : Int32 × Sg := loopF (b_X1_measure_16 x) 8 (1, σ2); t3.2
theorem f_X1_measure_eq (σ : Sg) (x : Int32) : f_X1_measure σ x = (let σ1 : Sg := sw σ 30 4 0; let σ2 : Sg := sw σ1 30 5 0; let t3 : Int32 × Sg := loopF (b_X1_measure_16 x) 8 (1, σ2); t3.2) := rfl
set_option maxRecDepth 100000 in
set_option maxHeartbeats 4000000 in
theorem c_X1_measure (l : Launch) (D : va_G) (ad : Nat → Nat) (dA : Nat → ClassId) (z0 : Nat) (tt : Nat → Nat) (σ : Sg) (φ : Fl) (x : Int32)  : MC l D ad dA z0 tt yX1_measure (Cond.code yX1_measure cX1_measure 6 none :: lw_all) { frames := 2, cells := 0, slots := 0, locals := 64 } [.ref (ad 30), .ref (ad 15), .ref (ad 27), .int x] σ φ (Fn none (f_X1_measure σ x) φ) := by
  refine mk_MC (by decide) (Nat.le_of_ble_eq_true rfl) ?_
  intro K C hi hf hv
  change K σ φ 0 [(0, .ref (ad 30)), (1, .ref (ad 15)), (2, .ref (ad 27)), (3, .int x)] []
  refine g_aload_n C (i := 0) dX1_measure_0 rfl 0 rfl ?_
  refine g_iconst C (v := 0) dX1_measure_1 (by decide) ?_
  refine gp_30_4 C fl_X1_25 dX1_measure_2 ?_
  refine g_nms C (fun σ1 eσ1 => ?_)
  refine g_aload_n C (i := 0) dX1_measure_5 rfl 0 rfl ?_
  refine g_iconst C (v := 0) dX1_measure_6 (by decide) ?_
  refine gp_30_5 C fl_X1_29 dX1_measure_7 ?_
  refine g_nms C (fun σ2 eσ2 => ?_)
  refine g_iconst C (v := 1) dX1_measure_10 (by decide) ?_
  refine g_istore C (i := 4) (lv' := [(4, .int 1), (0, .ref (ad 30)), (1, .ref (ad 15)), (2, .ref (ad 27)), (3, .int x)]) dX1_measure_11 (by decide) rfl ?_
  refine g_iconst C (v := 0) dX1_measure_13 (by decide) ?_
  refine g_istore C (i := 5) (lv' := [(5, .int 0), (4, .int 1), (0, .ref (ad 30)), (1, .ref (ad 15)), (2, .ref (ad 27)), (3, .int x)]) dX1_measure_14 (by decide) rfl ?_
  refine g_loc C (lv' := [(0, .ref (ad 30)), (1, .ref (ad 15)), (2, .ref (ad 27)), (3, .int x), (4, .int 1), (5, .int 0)]) [2, 3, 4, 5, 1, 0] rfl ?_
  refine loopF_ind (b_X1_measure_16 x) 8 (fun (j3 : Nat) (s3 : Int32 × Sg) => K (s3.2) φ 16 [(0, .ref (ad 30)), (1, .ref (ad 15)), (2, .ref (ad 27)), (3, .int x), (4, .int (s3.1)), (5, .int (nI j3))] []) (1, σ2) ?_ ?_
  · intro j3 s3 hj3 kk
    change K (s3.2) φ 16 [(0, .ref (ad 30)), (1, .ref (ad 15)), (2, .ref (ad 27)), (3, .int x), (4, .int (s3.1)), (5, .int (nI j3))] []
    refine g_iload C (i := 5) dX1_measure_16 5 rfl ?_
    refine g_bipush C (v := 8) dX1_measure_18 (by decide) ?_
    refine g_icmp_ge C (tgt := 131) dX1_measure_20 (by decide) (fun h1 => ?_) (fun h1 => ?_)
    · exact absurd h1 (nI_ge hj3 (by decide))
    · refine g_aload_n C (i := 0) dX1_measure_23 rfl 0 rfl ?_
      refine g_aload_n C (i := 1) dX1_measure_24 rfl 1 rfl ?_
      refine g_iload C (i := 5) dX1_measure_25 5 rfl ?_
      refine g_aload_n C (i := 2) dX1_measure_27 rfl 2 rfl ?_
      refine g_iload C (i := 5) dX1_measure_28 5 rfl ?_
      refine ld_27 C (vp_in_nI (Nat.lt_of_lt_of_le hj3 (by decide)) (by decide)) dX1_measure_30 ?_
      refine g_bipush C (v := 8) dX1_measure_31 (by decide) ?_
      refine g_iadd C dX1_measure_33 ?_
      refine g_callV C (st := []) (c_X1_sumUp l D ad dA z0 tt (s3.2) φ (nI j3) (((s3.2) 27 (nI j3).toNatClampNeg) + 8) (vp_in_nI (Nat.lt_of_lt_of_le hj3 (by decide)) (by decide))) rfl ml_X1_32 im_X1_sumUp se_X1_sumUp in_X1 co_X1_sumUp dyV_X1_sumUp rfl rfl ⟨(Nat.le_of_ble_eq_true rfl), (Nat.le_of_ble_eq_true rfl)⟩ 30 1 (fun f => at_30 ad dA (s3.2) f) rfl dX1_measure_34 rfl (Nat.le_of_ble_eq_true rfl) (g_fnv ?_)
      refine g_nms C (fun σ4 eσ4 => ?_)
      refine g_aload_n C (i := 0) dX1_measure_37 rfl 0 rfl ?_
      refine gg_30_2 C fl_X1_18 dX1_measure_38 ?_
      refine g_iload C (i := 5) dX1_measure_41 5 rfl ?_
      refine g_aload_n C (i := 0) dX1_measure_43 rfl 0 rfl ?_
      refine gg_30_0 C fl_X1_9 dX1_measure_44 ?_
      refine g_iload C (i := 5) dX1_measure_47 5 rfl ?_
      refine ld_31 C (vp_in_nI (Nat.lt_of_lt_of_le hj3 (by decide)) (by decide)) dX1_measure_49 ?_
      refine g_abs C ml_X1_36 sm_abs in_J9 co_abs (Nat.le_of_ble_eq_true rfl) (Nat.le_of_ble_eq_true rfl) dX1_measure_50 ?_
      refine g_absn C ?_
      refine g_aload_n C (i := 0) dX1_measure_53 rfl 0 rfl ?_
      refine gg_30_1 C fl_X1_15 dX1_measure_54 ?_
      refine g_iload C (i := 5) dX1_measure_57 5 rfl ?_
      refine ld_32 C (vp_in_nI (Nat.lt_of_lt_of_le hj3 (by decide)) (by decide)) dX1_measure_59 ?_
      refine g_abs C ml_X1_36 sm_abs in_J9 co_abs (Nat.le_of_ble_eq_true rfl) (Nat.le_of_ble_eq_true rfl) dX1_measure_60 ?_
      refine g_absn C ?_
      refine g_iadd C dX1_measure_63 ?_
      refine g_iconst C (v := 4) dX1_measure_64 (by decide) ?_
      refine g_iload_n C (i := 3) dX1_measure_65 rfl 3 rfl ?_
      refine g_imul C dX1_measure_66 ?_
      have J6 : ∀ (v5 : Int32), (if ((i_abs (σ4 31 (nI j3).toNatClampNeg)) + (i_abs (σ4 32 (nI j3).toNatClampNeg))) < (4 * x) then 0 else 1) = v5 → K σ4 φ 75 [(0, .ref (ad 30)), (1, .ref (ad 15)), (2, .ref (ad 27)), (3, .int x), (4, .int (s3.1)), (5, .int (nI j3))] [.int v5, .int (nI j3), .ref (ad 33)] := by
        intro v5 ev5
        refine sd_33 C (vp_in_nI (Nat.lt_of_lt_of_le hj3 (by decide)) (by decide)) dX1_measure_75 ?_
        refine g_nms C (fun σ7 eσ7 => ?_)
        refine g_iload C (i := 5) dX1_measure_76 5 rfl ?_
        have J11 : ∀ (v9 : Int32), ∀ (σ10 : Sg), (if (nI j3) ≤ 0 then (s3.1) else (if (σ7 33 (nI j3).toNatClampNeg) = (σ7 33 ((nI j3) - 1).toNatClampNeg) then (let σ8 : Sg := f_X1_countPair σ7 (nI j3) x; σ7 33 (nI j3).toNatClampNeg) else (s3.1))) = v9 → (if (nI j3) ≤ 0 then σ7 else (if (σ7 33 (nI j3).toNatClampNeg) = (σ7 33 ((nI j3) - 1).toNatClampNeg) then (let σ8 : Sg := f_X1_countPair σ7 (nI j3) x; σ8) else σ7)) = σ10 → K σ10 φ 116 [(0, .ref (ad 30)), (1, .ref (ad 15)), (2, .ref (ad 27)), (3, .int x), (4, .int v9), (5, .int (nI j3))] [] := by
          intro v9 σ10 ev9 eσ10
          refine g_aload_n C (i := 0) dX1_measure_116 rfl 0 rfl ?_
          refine gg_30_3 C fl_X1_22 dX1_measure_117 ?_
          refine g_iload C (i := 5) dX1_measure_120 5 rfl ?_
          refine g_iload C (i := 4) dX1_measure_122 4 rfl ?_
          refine sd_34 C (vp_in_nI (Nat.lt_of_lt_of_le hj3 (by decide)) (by decide)) dX1_measure_124 ?_
          refine g_nms C (fun σ12 eσ12 => ?_)
          refine g_iinc C (i := 5) (v := nI (j3 + 1)) (lv' := [(5, .int (nI (j3 + 1))), (0, .ref (ad 30)), (1, .ref (ad 15)), (2, .ref (ad 27)), (3, .int x), (4, .int v9)]) dX1_measure_125 5 rfl (nI_1 _) (by decide) rfl ?_
          refine g_goto C (tgt := 16) dX1_measure_128 (by decide) ?_
          refine g_loc C [1, 2, 3, 4, 5, 0] rfl ?_
          refine kk (v9, σ12) ?_
          subst eσ12
          subst eσ10
          subst ev9
          subst eσ7
          subst ev5
          subst eσ4
          exact b_X1_measure_16_eq _ _ _
        refine g_if_le C (tgt := 116) dX1_measure_78 (by decide) (fun h3 => ?_) (fun h3 => ?_)
        · refine g_loc C [0, 1, 2, 3, 4, 5] rfl ?_
          exact J11 _ _ ((if_pos h3)) ((if_pos h3))
        · refine g_aload_n C (i := 0) dX1_measure_81 rfl 0 rfl ?_
          refine gg_30_2 C fl_X1_18 dX1_measure_82 ?_
          refine g_iload C (i := 5) dX1_measure_85 5 rfl ?_
          refine ld_33 C (vp_in_nI (Nat.lt_of_lt_of_le hj3 (by decide)) (by decide)) dX1_measure_87 ?_
          refine g_aload_n C (i := 0) dX1_measure_88 rfl 0 rfl ?_
          refine gg_30_2 C fl_X1_18 dX1_measure_89 ?_
          refine g_iload C (i := 5) dX1_measure_92 5 rfl ?_
          refine g_iconst C (v := 1) dX1_measure_94 (by decide) ?_
          refine g_isub C dX1_measure_95 ?_
          refine ld_33 C (m1_in3 (by decide) (vp_in_nI (Nat.lt_of_lt_of_le hj3 (by decide)) (by decide)) h3) dX1_measure_96 ?_
          refine g_icmp_ne C (tgt := 116) dX1_measure_97 (by decide) (fun h4 => ?_) (fun h4 => ?_)
          · refine g_loc C [0, 1, 2, 3, 4, 5] rfl ?_
            exact J11 _ _ (((if_neg h3).trans (if_neg h4))) (((if_neg h3).trans (if_neg h4)))
          · refine g_aload_n C (i := 0) dX1_measure_100 rfl 0 rfl ?_
            refine gg_30_2 C fl_X1_18 dX1_measure_101 ?_
            refine g_iload C (i := 5) dX1_measure_104 5 rfl ?_
            refine ld_33 C (vp_in_nI (Nat.lt_of_lt_of_le hj3 (by decide)) (by decide)) dX1_measure_106 ?_
            refine g_istore C (i := 4) (lv' := [(4, .int (σ7 33 (nI j3).toNatClampNeg)), (0, .ref (ad 30)), (1, .ref (ad 15)), (2, .ref (ad 27)), (3, .int x), (5, .int (nI j3))]) dX1_measure_107 (by decide) rfl ?_
            refine g_aload_n C (i := 0) dX1_measure_109 rfl 1 rfl ?_
            refine g_iload C (i := 5) dX1_measure_110 5 rfl ?_
            refine g_iload_n C (i := 3) dX1_measure_112 rfl 4 rfl ?_
            refine g_callV C (st := []) (c_X1_countPair l D ad dA z0 tt σ7 φ (nI j3) x (vp_in_nI (Nat.lt_of_lt_of_le hj3 (by decide)) (by decide))) rfl ml_X1_42 im_X1_countPair se_X1_countPair in_X1 co_X1_countPair dyV_X1_countPair rfl rfl ⟨(Nat.le_of_ble_eq_true rfl), (Nat.le_of_ble_eq_true rfl)⟩ 30 1 (fun f => at_30 ad dA σ7 f) rfl dX1_measure_113 rfl (Nat.le_of_ble_eq_true rfl) (g_fnv ?_)
            refine g_nms C (fun σ8 eσ8 => ?_)
            refine g_loc C [1, 2, 3, 4, 0, 5] rfl ?_
            subst eσ8
            exact J11 _ _ (((if_neg h3).trans (if_pos h4))) (((if_neg h3).trans (if_pos h4)))
      refine g_icmp_lt C (tgt := 74) dX1_measure_67 (by decide) (fun h2 => ?_) (fun h2 => ?_)
      · refine g_iconst C (v := 0) dX1_measure_74 (by decide) ?_
        refine g_loc C [0, 1, 2, 3, 4, 5] rfl ?_
        exact J6 _ ((if_pos h2))
      · refine g_iconst C (v := 1) dX1_measure_70 (by decide) ?_
        refine g_goto C (tgt := 75) dX1_measure_71 (by decide) ?_
        refine g_loc C [0, 1, 2, 3, 4, 5] rfl ?_
        exact J6 _ ((if_neg h2))
  · generalize et3 : loopF (b_X1_measure_16 x) 8 (1, σ2) = t3
    change K (t3.2) φ 16 [(0, .ref (ad 30)), (1, .ref (ad 15)), (2, .ref (ad 27)), (3, .int x), (4, .int (t3.1)), (5, .int (nI 8))] []
    refine g_iload C (i := 5) dX1_measure_16 5 rfl ?_
    refine g_bipush C (v := 8) dX1_measure_18 (by decide) ?_
    refine g_icmp_ge C (tgt := 131) dX1_measure_20 (by decide) (fun h5 => ?_) (fun h5 => ?_)
    · have e0 : f_X1_measure σ x = t3.2 := by
        subst et3
        subst eσ2
        subst eσ1
        exact f_X1_measure_eq _ _
      exact hv _ _ _ _ rfl dX1_measure_131 ⟨rfl, (congrArg (fun z => z) e0).symm, rfl⟩
    · exact absurd (nI_le (Nat.le_refl _) (by decide)) h5
