/-! the law's errors -/
def f_L_errors (σ : Sg) (φ : Fl) : Int32 × Sg := let v1 : Int32 := (f_X10_setSegment σ 8 0 0 0 0).1; let σ2 : Sg := (f_X10_setSegment σ 8 0 0 0 0).2; let v15 : Int32 := (if v1 = (-100001) then (let v3 : Int32 := (f_X10_setSegment σ2 0 10 0 0 0).1; let σ4 : Sg := (f_X10_setSegment σ2 0 10 0 0 0).2; if v3 = (-100001) then (let v5 : Int32 := (f_X10_setSegment σ4 0 0 201 0 0).1; let σ6 : Sg := (f_X10_setSegment σ4 0 0 201 0 0).2; if v5 = (-100002) then (let v7 : Int32 := (f_X10_setSegment σ6 0 0 0 61 0).1; let σ8 : Sg := (f_X10_setSegment σ6 0 0 0 61 0).2; if v7 = (-100002) then (let v9 : Int32 := (f_X10_setSegment σ8 0 0 0 0 (-61)).1; let σ10 : Sg := (f_X10_setSegment σ8 0 0 0 0 (-61)).2; if v9 = (-100002) then (let v11 : Int32 := (f_X10_fill σ10 (-1) 0 0 0).1; let σ12 : Sg := (f_X10_fill σ10 (-1) 0 0 0).2; if v11 = (-100001) then (let v13 : Int32 := (f_X10_fill σ12 0 (-1) 0 0).1; let σ14 : Sg := (f_X10_fill σ12 0 (-1) 0 0).2; if v13 = (-100002) then 1 else 0) else 0) else 0) else 0) else 0) else 0) else 0); let σ16 : Sg := (if v1 = (-100001) then (let v3 : Int32 := (f_X10_setSegment σ2 0 10 0 0 0).1; let σ4 : Sg := (f_X10_setSegment σ2 0 10 0 0 0).2; if v3 = (-100001) then (let v5 : Int32 := (f_X10_setSegment σ4 0 0 201 0 0).1; let σ6 : Sg := (f_X10_setSegment σ4 0 0 201 0 0).2; if v5 = (-100002) then (let v7 : Int32 := (f_X10_setSegment σ6 0 0 0 61 0).1; let σ8 : Sg := (f_X10_setSegment σ6 0 0 0 61 0).2; if v7 = (-100002) then (let v9 : Int32 := (f_X10_setSegment σ8 0 0 0 0 (-61)).1; let σ10 : Sg := (f_X10_setSegment σ8 0 0 0 0 (-61)).2; if v9 = (-100002) then (let v11 : Int32 := (f_X10_fill σ10 (-1) 0 0 0).1; let σ12 : Sg := (f_X10_fill σ10 (-1) 0 0 0).2; if v11 = (-100001) then (let v13 : Int32 := (f_X10_fill σ12 0 (-1) 0 0).1; let σ14 : Sg := (f_X10_fill σ12 0 (-1) 0 0).2; if v13 = (-100002) then σ14 else σ14) else σ12) else σ10) else σ8) else σ6) else σ4) else σ2); let v32 : Int32 := (if v15 = 0 then 0 else (let v18 : Int32 := (f_X10_setLine σ16 8 0 0 0 0).1; let σ19 : Sg := (f_X10_setLine σ16 8 0 0 0 0).2; if v18 = (-100001) then (let v20 : Int32 := (f_X10_setLine σ19 0 5 0 0 0).1; let σ21 : Sg := (f_X10_setLine σ19 0 5 0 0 0).2; if v20 = (-100002) then (let v22 : Int32 := (f_X10_setLine σ21 0 0 41 0 0).1; let σ23 : Sg := (f_X10_setLine σ21 0 0 41 0 0).2; if v22 = (-100002) then (let v24 : Int32 := (f_X10_setLine σ23 0 0 0 4 0).1; let σ25 : Sg := (f_X10_setLine σ23 0 0 0 4 0).2; if v24 = (-100002) then (let v26 : Int32 := (f_X10_setLine σ25 0 0 0 0 10).1; let σ27 : Sg := (f_X10_setLine σ25 0 0 0 0 10).2; if v26 = (-100002) then (let v28 : Int32 := (f_X10_miss σ27 8 1).1; let σ29 : Sg := (f_X10_miss σ27 8 1).2; if v28 = (-100001) then (let v30 : Int32 := (f_X10_setStandard σ29 2).1; let σ31 : Sg := (f_X10_setStandard σ29 2).2; if v30 = (-100002) then (if (f_X10_sample σ31 8 0) = (-100001) then (if (f_X10_sample σ31 0 112) = (-100002) then 1 else 0) else 0) else 0) else 0) else 0) else 0) else 0) else 0) else 0)); let σ33 : Sg := (if v15 = 0 then σ16 else (let v18 : Int32 := (f_X10_setLine σ16 8 0 0 0 0).1; let σ19 : Sg := (f_X10_setLine σ16 8 0 0 0 0).2; if v18 = (-100001) then (let v20 : Int32 := (f_X10_setLine σ19 0 5 0 0 0).1; let σ21 : Sg := (f_X10_setLine σ19 0 5 0 0 0).2; if v20 = (-100002) then (let v22 : Int32 := (f_X10_setLine σ21 0 0 41 0 0).1; let σ23 : Sg := (f_X10_setLine σ21 0 0 41 0 0).2; if v22 = (-100002) then (let v24 : Int32 := (f_X10_setLine σ23 0 0 0 4 0).1; let σ25 : Sg := (f_X10_setLine σ23 0 0 0 4 0).2; if v24 = (-100002) then (let v26 : Int32 := (f_X10_setLine σ25 0 0 0 0 10).1; let σ27 : Sg := (f_X10_setLine σ25 0 0 0 0 10).2; if v26 = (-100002) then (let v28 : Int32 := (f_X10_miss σ27 8 1).1; let σ29 : Sg := (f_X10_miss σ27 8 1).2; if v28 = (-100001) then (let v30 : Int32 := (f_X10_setStandard σ29 2).1; let σ31 : Sg := (f_X10_setStandard σ29 2).2; if v30 = (-100002) then (if (f_X10_sample σ31 8 0) = (-100001) then (if (f_X10_sample σ31 0 112) = (-100002) then σ31 else σ31) else σ31) else σ31) else σ29) else σ27) else σ25) else σ23) else σ21) else σ19)); let v47 : Int32 := (if v32 = 0 then 0 else (let v35 : Int32 := (f_X10_set σ33 4 0).1; let σ36 : Sg := (f_X10_set σ33 4 0).2; if v35 = (-100001) then (let v37 : Int32 := (f_X10_set σ36 0 0).1; let σ38 : Sg := (f_X10_set σ36 0 0).2; if v37 = (-100002) then (let v39 : Int32 := (f_X10_set σ38 0 41).1; let σ40 : Sg := (f_X10_set σ38 0 41).2; if v39 = (-100002) then (let v41 : Int32 := (f_X10_set σ40 1 101).1; let σ42 : Sg := (f_X10_set σ40 1 101).2; if v41 = (-100002) then (let v43 : Int32 := (f_X10_set σ42 2 4).1; let σ44 : Sg := (f_X10_set σ42 2 4).2; if v43 = (-100002) then (let v45 : Int32 := (f_X10_set σ44 3 3).1; let σ46 : Sg := (f_X10_set σ44 3 3).2; if v45 = (-100002) then (if (f_X10_line σ46 8 0) = (-100001) then (if (f_X10_luma σ46 0 10) = (-100001) then (if (f_X10_combed σ46 (-1) 0) = (-100001) then 1 else 0) else 0) else 0) else 0) else 0) else 0) else 0) else 0) else 0)); let σ48 : Sg := (if v32 = 0 then σ33 else (let v35 : Int32 := (f_X10_set σ33 4 0).1; let σ36 : Sg := (f_X10_set σ33 4 0).2; if v35 = (-100001) then (let v37 : Int32 := (f_X10_set σ36 0 0).1; let σ38 : Sg := (f_X10_set σ36 0 0).2; if v37 = (-100002) then (let v39 : Int32 := (f_X10_set σ38 0 41).1; let σ40 : Sg := (f_X10_set σ38 0 41).2; if v39 = (-100002) then (let v41 : Int32 := (f_X10_set σ40 1 101).1; let σ42 : Sg := (f_X10_set σ40 1 101).2; if v41 = (-100002) then (let v43 : Int32 := (f_X10_set σ42 2 4).1; let σ44 : Sg := (f_X10_set σ42 2 4).2; if v43 = (-100002) then (let v45 : Int32 := (f_X10_set σ44 3 3).1; let σ46 : Sg := (f_X10_set σ44 3 3).2; if v45 = (-100002) then (if (f_X10_line σ46 8 0) = (-100001) then (if (f_X10_luma σ46 0 10) = (-100001) then (if (f_X10_combed σ46 (-1) 0) = (-100001) then σ46 else σ46) else σ46) else σ46) else σ46) else σ44) else σ42) else σ40) else σ38) else σ36)); let v50 : Int32 := (if v47 = 0 then 0 else (if (f_X10_thousandths σ48 φ 0 10 0) = (-100001) then (if (f_X10_thousandths σ48 φ 0 0 2) = (-100002) then (if (f_X10_motion σ48 8 0) = (-100001) then (if (f_X10_count σ48 19) = (-100002) then 1 else 0) else 0) else 0) else 0)); (v50, σ48)
theorem f_L_errors_eq (σ : Sg) (φ : Fl) : f_L_errors σ φ = (let v1 : Int32 := (f_X10_setSegment σ 8 0 0 0 0).1; let σ2 : Sg := (f_X10_setSegment σ 8 0 0 0 0).2; let v15 : Int32 := (if v1 = (-100001) then (let v3 : Int32 := (f_X10_setSegment σ2 0 10 0 0 0).1; let σ4 : Sg := (f_X10_setSegment σ2 0 10 0 0 0).2; if v3 = (-100001) then (let v5 : Int32 := (f_X10_setSegment σ4 0 0 201 0 0).1; let σ6 : Sg := (f_X10_setSegment σ4 0 0 201 0 0).2; if v5 = (-100002) then (let v7 : Int32 := (f_X10_setSegment σ6 0 0 0 61 0).1; let σ8 : Sg := (f_X10_setSegment σ6 0 0 0 61 0).2; if v7 = (-100002) then (let v9 : Int32 := (f_X10_setSegment σ8 0 0 0 0 (-61)).1; let σ10 : Sg := (f_X10_setSegment σ8 0 0 0 0 (-61)).2; if v9 = (-100002) then (let v11 : Int32 := (f_X10_fill σ10 (-1) 0 0 0).1; let σ12 : Sg := (f_X10_fill σ10 (-1) 0 0 0).2; if v11 = (-100001) then (let v13 : Int32 := (f_X10_fill σ12 0 (-1) 0 0).1; let σ14 : Sg := (f_X10_fill σ12 0 (-1) 0 0).2; if v13 = (-100002) then 1 else 0) else 0) else 0) else 0) else 0) else 0) else 0); let σ16 : Sg := (if v1 = (-100001) then (let v3 : Int32 := (f_X10_setSegment σ2 0 10 0 0 0).1; let σ4 : Sg := (f_X10_setSegment σ2 0 10 0 0 0).2; if v3 = (-100001) then (let v5 : Int32 := (f_X10_setSegment σ4 0 0 201 0 0).1; let σ6 : Sg := (f_X10_setSegment σ4 0 0 201 0 0).2; if v5 = (-100002) then (let v7 : Int32 := (f_X10_setSegment σ6 0 0 0 61 0).1; let σ8 : Sg := (f_X10_setSegment σ6 0 0 0 61 0).2; if v7 = (-100002) then (let v9 : Int32 := (f_X10_setSegment σ8 0 0 0 0 (-61)).1; let σ10 : Sg := (f_X10_setSegment σ8 0 0 0 0 (-61)).2; if v9 = (-100002) then (let v11 : Int32 := (f_X10_fill σ10 (-1) 0 0 0).1; let σ12 : Sg := (f_X10_fill σ10 (-1) 0 0 0).2; if v11 = (-100001) then (let v13 : Int32 := (f_X10_fill σ12 0 (-1) 0 0).1; let σ14 : Sg := (f_X10_fill σ12 0 (-1) 0 0).2; if v13 = (-100002) then σ14 else σ14) else σ12) else σ10) else σ8) else σ6) else σ4) else σ2); let v32 : Int32 := (if v15 = 0 then 0 else (let v18 : Int32 := (f_X10_setLine σ16 8 0 0 0 0).1; let σ19 : Sg := (f_X10_setLine σ16 8 0 0 0 0).2; if v18 = (-100001) then (let v20 : Int32 := (f_X10_setLine σ19 0 5 0 0 0).1; let σ21 : Sg := (f_X10_setLine σ19 0 5 0 0 0).2; if v20 = (-100002) then (let v22 : Int32 := (f_X10_setLine σ21 0 0 41 0 0).1; let σ23 : Sg := (f_X10_setLine σ21 0 0 41 0 0).2; if v22 = (-100002) then (let v24 : Int32 := (f_X10_setLine σ23 0 0 0 4 0).1; let σ25 : Sg := (f_X10_setLine σ23 0 0 0 4 0).2; if v24 = (-100002) then (let v26 : Int32 := (f_X10_setLine σ25 0 0 0 0 10).1; let σ27 : Sg := (f_X10_setLine σ25 0 0 0 0 10).2; if v26 = (-100002) then (let v28 : Int32 := (f_X10_miss σ27 8 1).1; let σ29 : Sg := (f_X10_miss σ27 8 1).2; if v28 = (-100001) then (let v30 : Int32 := (f_X10_setStandard σ29 2).1; let σ31 : Sg := (f_X10_setStandard σ29 2).2; if v30 = (-100002) then (if (f_X10_sample σ31 8 0) = (-100001) then (if (f_X10_sample σ31 0 112) = (-100002) then 1 else 0) else 0) else 0) else 0) else 0) else 0) else 0) else 0) else 0)); let σ33 : Sg := (if v15 = 0 then σ16 else (let v18 : Int32 := (f_X10_setLine σ16 8 0 0 0 0).1; let σ19 : Sg := (f_X10_setLine σ16 8 0 0 0 0).2; if v18 = (-100001) then (let v20 : Int32 := (f_X10_setLine σ19 0 5 0 0 0).1; let σ21 : Sg := (f_X10_setLine σ19 0 5 0 0 0).2; if v20 = (-100002) then (let v22 : Int32 := (f_X10_setLine σ21 0 0 41 0 0).1; let σ23 : Sg := (f_X10_setLine σ21 0 0 41 0 0).2; if v22 = (-100002) then (let v24 : Int32 := (f_X10_setLine σ23 0 0 0 4 0).1; let σ25 : Sg := (f_X10_setLine σ23 0 0 0 4 0).2; if v24 = (-100002) then (let v26 : Int32 := (f_X10_setLine σ25 0 0 0 0 10).1; let σ27 : Sg := (f_X10_setLine σ25 0 0 0 0 10).2; if v26 = (-100002) then (let v28 : Int32 := (f_X10_miss σ27 8 1).1; let σ29 : Sg := (f_X10_miss σ27 8 1).2; if v28 = (-100001) then (let v30 : Int32 := (f_X10_setStandard σ29 2).1; let σ31 : Sg := (f_X10_setStandard σ29 2).2; if v30 = (-100002) then (if (f_X10_sample σ31 8 0) = (-100001) then (if (f_X10_sample σ31 0 112) = (-100002) then σ31 else σ31) else σ31) else σ31) else σ29) else σ27) else σ25) else σ23) else σ21) else σ19)); let v47 : Int32 := (if v32 = 0 then 0 else (let v35 : Int32 := (f_X10_set σ33 4 0).1; let σ36 : Sg := (f_X10_set σ33 4 0).2; if v35 = (-100001) then (let v37 : Int32 := (f_X10_set σ36 0 0).1; let σ38 : Sg := (f_X10_set σ36 0 0).2; if v37 = (-100002) then (let v39 : Int32 := (f_X10_set σ38 0 41).1; let σ40 : Sg := (f_X10_set σ38 0 41).2; if v39 = (-100002) then (let v41 : Int32 := (f_X10_set σ40 1 101).1; let σ42 : Sg := (f_X10_set σ40 1 101).2; if v41 = (-100002) then (let v43 : Int32 := (f_X10_set σ42 2 4).1; let σ44 : Sg := (f_X10_set σ42 2 4).2; if v43 = (-100002) then (let v45 : Int32 := (f_X10_set σ44 3 3).1; let σ46 : Sg := (f_X10_set σ44 3 3).2; if v45 = (-100002) then (if (f_X10_line σ46 8 0) = (-100001) then (if (f_X10_luma σ46 0 10) = (-100001) then (if (f_X10_combed σ46 (-1) 0) = (-100001) then 1 else 0) else 0) else 0) else 0) else 0) else 0) else 0) else 0) else 0)); let σ48 : Sg := (if v32 = 0 then σ33 else (let v35 : Int32 := (f_X10_set σ33 4 0).1; let σ36 : Sg := (f_X10_set σ33 4 0).2; if v35 = (-100001) then (let v37 : Int32 := (f_X10_set σ36 0 0).1; let σ38 : Sg := (f_X10_set σ36 0 0).2; if v37 = (-100002) then (let v39 : Int32 := (f_X10_set σ38 0 41).1; let σ40 : Sg := (f_X10_set σ38 0 41).2; if v39 = (-100002) then (let v41 : Int32 := (f_X10_set σ40 1 101).1; let σ42 : Sg := (f_X10_set σ40 1 101).2; if v41 = (-100002) then (let v43 : Int32 := (f_X10_set σ42 2 4).1; let σ44 : Sg := (f_X10_set σ42 2 4).2; if v43 = (-100002) then (let v45 : Int32 := (f_X10_set σ44 3 3).1; let σ46 : Sg := (f_X10_set σ44 3 3).2; if v45 = (-100002) then (if (f_X10_line σ46 8 0) = (-100001) then (if (f_X10_luma σ46 0 10) = (-100001) then (if (f_X10_combed σ46 (-1) 0) = (-100001) then σ46 else σ46) else σ46) else σ46) else σ46) else σ44) else σ42) else σ40) else σ38) else σ36)); let v50 : Int32 := (if v47 = 0 then 0 else (if (f_X10_thousandths σ48 φ 0 10 0) = (-100001) then (if (f_X10_thousandths σ48 φ 0 0 2) = (-100002) then (if (f_X10_motion σ48 8 0) = (-100001) then (if (f_X10_count σ48 19) = (-100002) then 1 else 0) else 0) else 0) else 0)); (v50, σ48)) := rfl
set_option maxRecDepth 100000 in
set_option maxHeartbeats 4000000 in
theorem c_L_errors (l : Launch) (D : va_G) (ad : Nat → Nat) (dA : Nat → ClassId) (z0 : Nat) (tt : Nat → Nat) (σ : Sg) (φ : Fl)   : MC l D ad dA z0 tt yL_errors (Cond.code yL_errors cL_errors 4 (some .boolean) :: lw_all) { frames := 5, cells := 0, slots := 0, locals := 115 } [.ref (ad 0)] σ φ (Fn (some (.int (f_L_errors σ φ).1)) (f_L_errors σ φ).2 φ) := by
  refine mk_MC (by decide) (Nat.le_of_ble_eq_true rfl) ?_
  intro K C hi hf hv
  change K σ φ 0 [(0, .ref (ad 0))] []
  refine g_ldc C kc_L_73 dL_errors_0 ?_
  refine g_istore_n C (i := 1) (lv' := [(1, .int (-100001)), (0, .ref (ad 0))]) dL_errors_2 rfl (by decide) rfl ?_
  refine g_ldc C kc_L_41 dL_errors_3 ?_
  refine g_istore_n C (i := 2) (lv' := [(2, .int (-100002)), (1, .int (-100001)), (0, .ref (ad 0))]) dL_errors_5 rfl (by decide) rfl ?_
  refine g_aload_n C (i := 0) dL_errors_6 rfl 2 rfl ?_
  refine g_bipush C (v := 8) dL_errors_7 (by decide) ?_
  refine g_iconst C (v := 0) dL_errors_9 (by decide) ?_
  refine g_iconst C (v := 0) dL_errors_10 (by decide) ?_
  refine g_iconst C (v := 0) dL_errors_11 (by decide) ?_
  refine g_iconst C (v := 0) dL_errors_12 (by decide) ?_
  refine g_callV C (st := []) (c_X10_setSegment l D ad dA z0 tt σ φ 8 0 0 0 0) rfl ml_L_81 im_X10_setSegment se_X10_setSegment in_X10 co_X10_setSegment dyV_X10_setSegment rfl rfl ⟨(Nat.le_of_ble_eq_true rfl), (Nat.le_of_ble_eq_true rfl)⟩ 0 10 (fun f => at_0 ad dA σ f) rfl dL_errors_13 rfl (Nat.le_of_ble_eq_true rfl) (g_fni ?_)
  refine g_nmi C (fun v1 ev1 => ?_)
  refine g_nms C (fun σ2 eσ2 => ?_)
  refine g_iload_n C (i := 1) dL_errors_16 rfl 1 rfl ?_
  have J17 : ∀ (v15 : Int32), ∀ (σ16 : Sg), (if v1 = (-100001) then (let v3 : Int32 := (f_X10_setSegment σ2 0 10 0 0 0).1; let σ4 : Sg := (f_X10_setSegment σ2 0 10 0 0 0).2; if v3 = (-100001) then (let v5 : Int32 := (f_X10_setSegment σ4 0 0 201 0 0).1; let σ6 : Sg := (f_X10_setSegment σ4 0 0 201 0 0).2; if v5 = (-100002) then (let v7 : Int32 := (f_X10_setSegment σ6 0 0 0 61 0).1; let σ8 : Sg := (f_X10_setSegment σ6 0 0 0 61 0).2; if v7 = (-100002) then (let v9 : Int32 := (f_X10_setSegment σ8 0 0 0 0 (-61)).1; let σ10 : Sg := (f_X10_setSegment σ8 0 0 0 0 (-61)).2; if v9 = (-100002) then (let v11 : Int32 := (f_X10_fill σ10 (-1) 0 0 0).1; let σ12 : Sg := (f_X10_fill σ10 (-1) 0 0 0).2; if v11 = (-100001) then (let v13 : Int32 := (f_X10_fill σ12 0 (-1) 0 0).1; let σ14 : Sg := (f_X10_fill σ12 0 (-1) 0 0).2; if v13 = (-100002) then 1 else 0) else 0) else 0) else 0) else 0) else 0) else 0) = v15 → (if v1 = (-100001) then (let v3 : Int32 := (f_X10_setSegment σ2 0 10 0 0 0).1; let σ4 : Sg := (f_X10_setSegment σ2 0 10 0 0 0).2; if v3 = (-100001) then (let v5 : Int32 := (f_X10_setSegment σ4 0 0 201 0 0).1; let σ6 : Sg := (f_X10_setSegment σ4 0 0 201 0 0).2; if v5 = (-100002) then (let v7 : Int32 := (f_X10_setSegment σ6 0 0 0 61 0).1; let σ8 : Sg := (f_X10_setSegment σ6 0 0 0 61 0).2; if v7 = (-100002) then (let v9 : Int32 := (f_X10_setSegment σ8 0 0 0 0 (-61)).1; let σ10 : Sg := (f_X10_setSegment σ8 0 0 0 0 (-61)).2; if v9 = (-100002) then (let v11 : Int32 := (f_X10_fill σ10 (-1) 0 0 0).1; let σ12 : Sg := (f_X10_fill σ10 (-1) 0 0 0).2; if v11 = (-100001) then (let v13 : Int32 := (f_X10_fill σ12 0 (-1) 0 0).1; let σ14 : Sg := (f_X10_fill σ12 0 (-1) 0 0).2; if v13 = (-100002) then σ14 else σ14) else σ12) else σ10) else σ8) else σ6) else σ4) else σ2) = σ16 → K σ16 φ 106 [(0, .ref (ad 0)), (1, .int (-100001)), (2, .int (-100002))] [.int v15] := by
    intro v15 σ16 ev15 eσ16
    refine g_istore_n C (i := 3) (lv' := [(3, .int v15), (0, .ref (ad 0)), (1, .int (-100001)), (2, .int (-100002))]) dL_errors_106 rfl (by decide) rfl ?_
    refine g_iload_n C (i := 3) dL_errors_107 rfl 0 rfl ?_
    have J34 : ∀ (v32 : Int32), ∀ (σ33 : Sg), (if v15 = 0 then 0 else (let v18 : Int32 := (f_X10_setLine σ16 8 0 0 0 0).1; let σ19 : Sg := (f_X10_setLine σ16 8 0 0 0 0).2; if v18 = (-100001) then (let v20 : Int32 := (f_X10_setLine σ19 0 5 0 0 0).1; let σ21 : Sg := (f_X10_setLine σ19 0 5 0 0 0).2; if v20 = (-100002) then (let v22 : Int32 := (f_X10_setLine σ21 0 0 41 0 0).1; let σ23 : Sg := (f_X10_setLine σ21 0 0 41 0 0).2; if v22 = (-100002) then (let v24 : Int32 := (f_X10_setLine σ23 0 0 0 4 0).1; let σ25 : Sg := (f_X10_setLine σ23 0 0 0 4 0).2; if v24 = (-100002) then (let v26 : Int32 := (f_X10_setLine σ25 0 0 0 0 10).1; let σ27 : Sg := (f_X10_setLine σ25 0 0 0 0 10).2; if v26 = (-100002) then (let v28 : Int32 := (f_X10_miss σ27 8 1).1; let σ29 : Sg := (f_X10_miss σ27 8 1).2; if v28 = (-100001) then (let v30 : Int32 := (f_X10_setStandard σ29 2).1; let σ31 : Sg := (f_X10_setStandard σ29 2).2; if v30 = (-100002) then (if (f_X10_sample σ31 8 0) = (-100001) then (if (f_X10_sample σ31 0 112) = (-100002) then 1 else 0) else 0) else 0) else 0) else 0) else 0) else 0) else 0) else 0)) = v32 → (if v15 = 0 then σ16 else (let v18 : Int32 := (f_X10_setLine σ16 8 0 0 0 0).1; let σ19 : Sg := (f_X10_setLine σ16 8 0 0 0 0).2; if v18 = (-100001) then (let v20 : Int32 := (f_X10_setLine σ19 0 5 0 0 0).1; let σ21 : Sg := (f_X10_setLine σ19 0 5 0 0 0).2; if v20 = (-100002) then (let v22 : Int32 := (f_X10_setLine σ21 0 0 41 0 0).1; let σ23 : Sg := (f_X10_setLine σ21 0 0 41 0 0).2; if v22 = (-100002) then (let v24 : Int32 := (f_X10_setLine σ23 0 0 0 4 0).1; let σ25 : Sg := (f_X10_setLine σ23 0 0 0 4 0).2; if v24 = (-100002) then (let v26 : Int32 := (f_X10_setLine σ25 0 0 0 0 10).1; let σ27 : Sg := (f_X10_setLine σ25 0 0 0 0 10).2; if v26 = (-100002) then (let v28 : Int32 := (f_X10_miss σ27 8 1).1; let σ29 : Sg := (f_X10_miss σ27 8 1).2; if v28 = (-100001) then (let v30 : Int32 := (f_X10_setStandard σ29 2).1; let σ31 : Sg := (f_X10_setStandard σ29 2).2; if v30 = (-100002) then (if (f_X10_sample σ31 8 0) = (-100001) then (if (f_X10_sample σ31 0 112) = (-100002) then σ31 else σ31) else σ31) else σ31) else σ29) else σ27) else σ25) else σ23) else σ21) else σ19)) = σ33 → K σ33 φ 226 [(0, .ref (ad 0)), (1, .int (-100001)), (2, .int (-100002))] [.int v32] := by
      intro v32 σ33 ev32 eσ33
      refine g_istore_n C (i := 3) (lv' := [(3, .int v32), (0, .ref (ad 0)), (1, .int (-100001)), (2, .int (-100002))]) dL_errors_226 rfl (by decide) rfl ?_
      refine g_iload_n C (i := 3) dL_errors_227 rfl 0 rfl ?_
      have J49 : ∀ (v47 : Int32), ∀ (σ48 : Sg), (if v32 = 0 then 0 else (let v35 : Int32 := (f_X10_set σ33 4 0).1; let σ36 : Sg := (f_X10_set σ33 4 0).2; if v35 = (-100001) then (let v37 : Int32 := (f_X10_set σ36 0 0).1; let σ38 : Sg := (f_X10_set σ36 0 0).2; if v37 = (-100002) then (let v39 : Int32 := (f_X10_set σ38 0 41).1; let σ40 : Sg := (f_X10_set σ38 0 41).2; if v39 = (-100002) then (let v41 : Int32 := (f_X10_set σ40 1 101).1; let σ42 : Sg := (f_X10_set σ40 1 101).2; if v41 = (-100002) then (let v43 : Int32 := (f_X10_set σ42 2 4).1; let σ44 : Sg := (f_X10_set σ42 2 4).2; if v43 = (-100002) then (let v45 : Int32 := (f_X10_set σ44 3 3).1; let σ46 : Sg := (f_X10_set σ44 3 3).2; if v45 = (-100002) then (if (f_X10_line σ46 8 0) = (-100001) then (if (f_X10_luma σ46 0 10) = (-100001) then (if (f_X10_combed σ46 (-1) 0) = (-100001) then 1 else 0) else 0) else 0) else 0) else 0) else 0) else 0) else 0) else 0)) = v47 → (if v32 = 0 then σ33 else (let v35 : Int32 := (f_X10_set σ33 4 0).1; let σ36 : Sg := (f_X10_set σ33 4 0).2; if v35 = (-100001) then (let v37 : Int32 := (f_X10_set σ36 0 0).1; let σ38 : Sg := (f_X10_set σ36 0 0).2; if v37 = (-100002) then (let v39 : Int32 := (f_X10_set σ38 0 41).1; let σ40 : Sg := (f_X10_set σ38 0 41).2; if v39 = (-100002) then (let v41 : Int32 := (f_X10_set σ40 1 101).1; let σ42 : Sg := (f_X10_set σ40 1 101).2; if v41 = (-100002) then (let v43 : Int32 := (f_X10_set σ42 2 4).1; let σ44 : Sg := (f_X10_set σ42 2 4).2; if v43 = (-100002) then (let v45 : Int32 := (f_X10_set σ44 3 3).1; let σ46 : Sg := (f_X10_set σ44 3 3).2; if v45 = (-100002) then (if (f_X10_line σ46 8 0) = (-100001) then (if (f_X10_luma σ46 0 10) = (-100001) then (if (f_X10_combed σ46 (-1) 0) = (-100001) then σ46 else σ46) else σ46) else σ46) else σ46) else σ44) else σ42) else σ40) else σ38) else σ36)) = σ48 → K σ48 φ 330 [(0, .ref (ad 0)), (1, .int (-100001)), (2, .int (-100002))] [.int v47] := by
        intro v47 σ48 ev47 eσ48
        refine g_istore_n C (i := 3) (lv' := [(3, .int v47), (0, .ref (ad 0)), (1, .int (-100001)), (2, .int (-100002))]) dL_errors_330 rfl (by decide) rfl ?_
        refine g_iload_n C (i := 3) dL_errors_331 rfl 0 rfl ?_
        have J51 : ∀ (v50 : Int32), (if v47 = 0 then 0 else (if (f_X10_thousandths σ48 φ 0 10 0) = (-100001) then (if (f_X10_thousandths σ48 φ 0 0 2) = (-100002) then (if (f_X10_motion σ48 8 0) = (-100001) then (if (f_X10_count σ48 19) = (-100002) then 1 else 0) else 0) else 0) else 0)) = v50 → K σ48 φ 384 [] [.int v50] := by
          intro v50 ev50
          have e0 : f_L_errors σ φ = (v50, σ48) := by
            subst ev50
            subst eσ48
            subst ev47
            subst eσ33
            subst ev32
            subst eσ16
            subst ev15
            subst eσ2
            subst ev1
            exact f_L_errors_eq _ _
          exact hi _ _ _ _ _ _ rfl dL_errors_384 (lv_narrowZ (show v50 = 0 ∨ v50 = 1 by rw [← ev50]; exact (zo_ite (Or.inl rfl) (zo_ite (zo_ite (zo_ite (zo_ite (Or.inr rfl) (Or.inl rfl)) (Or.inl rfl)) (Or.inl rfl)) (Or.inl rfl))))).1 ⟨(congrArg (fun z => some (Value.int z.1)) e0).symm, (congrArg (fun z => z.2) e0).symm, rfl⟩
        refine g_if_eq C (tgt := 383) dL_errors_332 (by decide) (fun h28 => ?_) (fun h28 => ?_)
        · refine g_iconst C (v := 0) dL_errors_383 (by decide) ?_
          refine g_loc C [] rfl ?_
          exact J51 _ ((if_pos h28))
        · refine g_aload_n C (i := 0) dL_errors_335 rfl 1 rfl ?_
          refine g_iconst C (v := 0) dL_errors_336 (by decide) ?_
          refine g_bipush C (v := 10) dL_errors_337 (by decide) ?_
          refine g_iconst C (v := 0) dL_errors_339 (by decide) ?_
          refine g_callV C (st := []) (c_X10_thousandths l D ad dA z0 tt σ48 φ 0 10 0) rfl ml_L_55 im_X10_thousandths se_X10_thousandths in_X10 co_X10_thousandths dyV_X10_thousandths rfl rfl ⟨(Nat.le_of_ble_eq_true rfl), (Nat.le_of_ble_eq_true rfl)⟩ 0 10 (fun f => at_0 ad dA σ48 f) rfl dL_errors_340 rfl (Nat.le_of_ble_eq_true rfl) (g_fni ?_)
          refine g_iload_n C (i := 1) dL_errors_343 rfl 2 rfl ?_
          refine g_icmp_ne C (tgt := 383) dL_errors_344 (by decide) (fun h29 => ?_) (fun h29 => ?_)
          · refine g_iconst C (v := 0) dL_errors_383 (by decide) ?_
            refine g_loc C [] rfl ?_
            exact J51 _ (((if_neg h28).trans (if_neg h29)))
          · refine g_aload_n C (i := 0) dL_errors_347 rfl 1 rfl ?_
            refine g_iconst C (v := 0) dL_errors_348 (by decide) ?_
            refine g_iconst C (v := 0) dL_errors_349 (by decide) ?_
            refine g_iconst C (v := 2) dL_errors_350 (by decide) ?_
            refine g_callV C (st := []) (c_X10_thousandths l D ad dA z0 tt σ48 φ 0 0 2) rfl ml_L_55 im_X10_thousandths se_X10_thousandths in_X10 co_X10_thousandths dyV_X10_thousandths rfl rfl ⟨(Nat.le_of_ble_eq_true rfl), (Nat.le_of_ble_eq_true rfl)⟩ 0 10 (fun f => at_0 ad dA σ48 f) rfl dL_errors_351 rfl (Nat.le_of_ble_eq_true rfl) (g_fni ?_)
            refine g_iload_n C (i := 2) dL_errors_354 rfl 3 rfl ?_
            refine g_icmp_ne C (tgt := 383) dL_errors_355 (by decide) (fun h30 => ?_) (fun h30 => ?_)
            · refine g_iconst C (v := 0) dL_errors_383 (by decide) ?_
              refine g_loc C [] rfl ?_
              exact J51 _ (((if_neg h28).trans ((if_pos h29).trans (if_neg h30))))
            · refine g_aload_n C (i := 0) dL_errors_358 rfl 1 rfl ?_
              refine g_bipush C (v := 8) dL_errors_359 (by decide) ?_
              refine g_iconst C (v := 0) dL_errors_361 (by decide) ?_
              refine g_callV C (st := []) (c_X10_motion l D ad dA z0 tt σ48 φ 8 0) rfl ml_L_63 im_X10_motion se_X10_motion in_X10 co_X10_motion dyV_X10_motion rfl rfl ⟨(Nat.le_of_ble_eq_true rfl), (Nat.le_of_ble_eq_true rfl)⟩ 0 10 (fun f => at_0 ad dA σ48 f) rfl dL_errors_362 rfl (Nat.le_of_ble_eq_true rfl) (g_fni ?_)
              refine g_iload_n C (i := 1) dL_errors_365 rfl 2 rfl ?_
              refine g_icmp_ne C (tgt := 383) dL_errors_366 (by decide) (fun h31 => ?_) (fun h31 => ?_)
              · refine g_iconst C (v := 0) dL_errors_383 (by decide) ?_
                refine g_loc C [] rfl ?_
                exact J51 _ (((if_neg h28).trans ((if_pos h29).trans ((if_pos h30).trans (if_neg h31)))))
              · refine g_aload_n C (i := 0) dL_errors_369 rfl 1 rfl ?_
                refine g_bipush C (v := 19) dL_errors_370 (by decide) ?_
                refine g_callV C (st := []) (c_X10_count l D ad dA z0 tt σ48 φ 19) rfl ml_L_35 im_X10_count se_X10_count in_X10 co_X10_count dyV_X10_count rfl rfl ⟨(Nat.le_of_ble_eq_true rfl), (Nat.le_of_ble_eq_true rfl)⟩ 0 10 (fun f => at_0 ad dA σ48 f) rfl dL_errors_372 rfl (Nat.le_of_ble_eq_true rfl) (g_fni ?_)
                refine g_iload_n C (i := 2) dL_errors_375 rfl 3 rfl ?_
                refine g_icmp_ne C (tgt := 383) dL_errors_376 (by decide) (fun h32 => ?_) (fun h32 => ?_)
                · refine g_iconst C (v := 0) dL_errors_383 (by decide) ?_
                  refine g_loc C [] rfl ?_
                  exact J51 _ (((if_neg h28).trans ((if_pos h29).trans ((if_pos h30).trans ((if_pos h31).trans (if_neg h32))))))
                · refine g_iconst C (v := 1) dL_errors_379 (by decide) ?_
                  refine g_goto C (tgt := 384) dL_errors_380 (by decide) ?_
                  refine g_loc C [] rfl ?_
                  exact J51 _ (((if_neg h28).trans ((if_pos h29).trans ((if_pos h30).trans ((if_pos h31).trans (if_pos h32))))))
      refine g_if_eq C (tgt := 329) dL_errors_228 (by decide) (fun h18 => ?_) (fun h18 => ?_)
      · refine g_iconst C (v := 0) dL_errors_329 (by decide) ?_
        refine g_loc C [1, 2, 3] rfl ?_
        exact J49 _ _ ((if_pos h18)) ((if_pos h18))
      · refine g_aload_n C (i := 0) dL_errors_231 rfl 1 rfl ?_
        refine g_iconst C (v := 4) dL_errors_232 (by decide) ?_
        refine g_iconst C (v := 0) dL_errors_233 (by decide) ?_
        refine g_callV C (st := []) (c_X10_set l D ad dA z0 tt σ33 φ 4 0) rfl ml_L_99 im_X10_set se_X10_set in_X10 co_X10_set dyV_X10_set rfl rfl ⟨(Nat.le_of_ble_eq_true rfl), (Nat.le_of_ble_eq_true rfl)⟩ 0 10 (fun f => at_0 ad dA σ33 f) rfl dL_errors_234 rfl (Nat.le_of_ble_eq_true rfl) (g_fni ?_)
        refine g_nmi C (fun v35 ev35 => ?_)
        refine g_nms C (fun σ36 eσ36 => ?_)
        refine g_iload_n C (i := 1) dL_errors_237 rfl 2 rfl ?_
        refine g_icmp_ne C (tgt := 329) dL_errors_238 (by decide) (fun h19 => ?_) (fun h19 => ?_)
        · refine g_iconst C (v := 0) dL_errors_329 (by decide) ?_
          refine g_loc C [1, 2, 3] rfl ?_
          subst eσ36
          subst ev35
          exact J49 _ _ (((if_neg h18).trans (if_neg h19))) (((if_neg h18).trans (if_neg h19)))
        · refine g_aload_n C (i := 0) dL_errors_241 rfl 1 rfl ?_
          refine g_iconst C (v := 0) dL_errors_242 (by decide) ?_
          refine g_iconst C (v := 0) dL_errors_243 (by decide) ?_
          refine g_callV C (st := []) (c_X10_set l D ad dA z0 tt σ36 φ 0 0) rfl ml_L_99 im_X10_set se_X10_set in_X10 co_X10_set dyV_X10_set rfl rfl ⟨(Nat.le_of_ble_eq_true rfl), (Nat.le_of_ble_eq_true rfl)⟩ 0 10 (fun f => at_0 ad dA σ36 f) rfl dL_errors_244 rfl (Nat.le_of_ble_eq_true rfl) (g_fni ?_)
          refine g_nmi C (fun v37 ev37 => ?_)
          refine g_nms C (fun σ38 eσ38 => ?_)
          refine g_iload_n C (i := 2) dL_errors_247 rfl 3 rfl ?_
          refine g_icmp_ne C (tgt := 329) dL_errors_248 (by decide) (fun h20 => ?_) (fun h20 => ?_)
          · refine g_iconst C (v := 0) dL_errors_329 (by decide) ?_
            refine g_loc C [1, 2, 3] rfl ?_
            subst eσ38
            subst ev37
            subst eσ36
            subst ev35
            exact J49 _ _ (((if_neg h18).trans ((if_pos h19).trans (if_neg h20)))) (((if_neg h18).trans ((if_pos h19).trans (if_neg h20))))
          · refine g_aload_n C (i := 0) dL_errors_251 rfl 1 rfl ?_
            refine g_iconst C (v := 0) dL_errors_252 (by decide) ?_
            refine g_bipush C (v := 41) dL_errors_253 (by decide) ?_
            refine g_callV C (st := []) (c_X10_set l D ad dA z0 tt σ38 φ 0 41) rfl ml_L_99 im_X10_set se_X10_set in_X10 co_X10_set dyV_X10_set rfl rfl ⟨(Nat.le_of_ble_eq_true rfl), (Nat.le_of_ble_eq_true rfl)⟩ 0 10 (fun f => at_0 ad dA σ38 f) rfl dL_errors_255 rfl (Nat.le_of_ble_eq_true rfl) (g_fni ?_)
            refine g_nmi C (fun v39 ev39 => ?_)
            refine g_nms C (fun σ40 eσ40 => ?_)
            refine g_iload_n C (i := 2) dL_errors_258 rfl 3 rfl ?_
            refine g_icmp_ne C (tgt := 329) dL_errors_259 (by decide) (fun h21 => ?_) (fun h21 => ?_)
            · refine g_iconst C (v := 0) dL_errors_329 (by decide) ?_
              refine g_loc C [1, 2, 3] rfl ?_
              subst eσ40
              subst ev39
              subst eσ38
              subst ev37
              subst eσ36
              subst ev35
              exact J49 _ _ (((if_neg h18).trans ((if_pos h19).trans ((if_pos h20).trans (if_neg h21))))) (((if_neg h18).trans ((if_pos h19).trans ((if_pos h20).trans (if_neg h21)))))
            · refine g_aload_n C (i := 0) dL_errors_262 rfl 1 rfl ?_
              refine g_iconst C (v := 1) dL_errors_263 (by decide) ?_
              refine g_bipush C (v := 101) dL_errors_264 (by decide) ?_
              refine g_callV C (st := []) (c_X10_set l D ad dA z0 tt σ40 φ 1 101) rfl ml_L_99 im_X10_set se_X10_set in_X10 co_X10_set dyV_X10_set rfl rfl ⟨(Nat.le_of_ble_eq_true rfl), (Nat.le_of_ble_eq_true rfl)⟩ 0 10 (fun f => at_0 ad dA σ40 f) rfl dL_errors_266 rfl (Nat.le_of_ble_eq_true rfl) (g_fni ?_)
              refine g_nmi C (fun v41 ev41 => ?_)
              refine g_nms C (fun σ42 eσ42 => ?_)
              refine g_iload_n C (i := 2) dL_errors_269 rfl 3 rfl ?_
              refine g_icmp_ne C (tgt := 329) dL_errors_270 (by decide) (fun h22 => ?_) (fun h22 => ?_)
              · refine g_iconst C (v := 0) dL_errors_329 (by decide) ?_
                refine g_loc C [1, 2, 3] rfl ?_
                subst eσ42
                subst ev41
                subst eσ40
                subst ev39
                subst eσ38
                subst ev37
                subst eσ36
                subst ev35
                exact J49 _ _ (((if_neg h18).trans ((if_pos h19).trans ((if_pos h20).trans ((if_pos h21).trans (if_neg h22)))))) (((if_neg h18).trans ((if_pos h19).trans ((if_pos h20).trans ((if_pos h21).trans (if_neg h22))))))
              · refine g_aload_n C (i := 0) dL_errors_273 rfl 1 rfl ?_
                refine g_iconst C (v := 2) dL_errors_274 (by decide) ?_
                refine g_iconst C (v := 4) dL_errors_275 (by decide) ?_
                refine g_callV C (st := []) (c_X10_set l D ad dA z0 tt σ42 φ 2 4) rfl ml_L_99 im_X10_set se_X10_set in_X10 co_X10_set dyV_X10_set rfl rfl ⟨(Nat.le_of_ble_eq_true rfl), (Nat.le_of_ble_eq_true rfl)⟩ 0 10 (fun f => at_0 ad dA σ42 f) rfl dL_errors_276 rfl (Nat.le_of_ble_eq_true rfl) (g_fni ?_)
                refine g_nmi C (fun v43 ev43 => ?_)
                refine g_nms C (fun σ44 eσ44 => ?_)
                refine g_iload_n C (i := 2) dL_errors_279 rfl 3 rfl ?_
                refine g_icmp_ne C (tgt := 329) dL_errors_280 (by decide) (fun h23 => ?_) (fun h23 => ?_)
                · refine g_iconst C (v := 0) dL_errors_329 (by decide) ?_
                  refine g_loc C [1, 2, 3] rfl ?_
                  subst eσ44
                  subst ev43
                  subst eσ42
                  subst ev41
                  subst eσ40
                  subst ev39
                  subst eσ38
                  subst ev37
                  subst eσ36
                  subst ev35
                  exact J49 _ _ (((if_neg h18).trans ((if_pos h19).trans ((if_pos h20).trans ((if_pos h21).trans ((if_pos h22).trans (if_neg h23))))))) (((if_neg h18).trans ((if_pos h19).trans ((if_pos h20).trans ((if_pos h21).trans ((if_pos h22).trans (if_neg h23)))))))
                · refine g_aload_n C (i := 0) dL_errors_283 rfl 1 rfl ?_
                  refine g_iconst C (v := 3) dL_errors_284 (by decide) ?_
                  refine g_iconst C (v := 3) dL_errors_285 (by decide) ?_
                  refine g_callV C (st := []) (c_X10_set l D ad dA z0 tt σ44 φ 3 3) rfl ml_L_99 im_X10_set se_X10_set in_X10 co_X10_set dyV_X10_set rfl rfl ⟨(Nat.le_of_ble_eq_true rfl), (Nat.le_of_ble_eq_true rfl)⟩ 0 10 (fun f => at_0 ad dA σ44 f) rfl dL_errors_286 rfl (Nat.le_of_ble_eq_true rfl) (g_fni ?_)
                  refine g_nmi C (fun v45 ev45 => ?_)
                  refine g_nms C (fun σ46 eσ46 => ?_)
                  refine g_iload_n C (i := 2) dL_errors_289 rfl 3 rfl ?_
                  refine g_icmp_ne C (tgt := 329) dL_errors_290 (by decide) (fun h24 => ?_) (fun h24 => ?_)
                  · refine g_iconst C (v := 0) dL_errors_329 (by decide) ?_
                    refine g_loc C [1, 2, 3] rfl ?_
                    subst eσ46
                    subst ev45
                    subst eσ44
                    subst ev43
                    subst eσ42
                    subst ev41
                    subst eσ40
                    subst ev39
                    subst eσ38
                    subst ev37
                    subst eσ36
                    subst ev35
                    exact J49 _ _ (((if_neg h18).trans ((if_pos h19).trans ((if_pos h20).trans ((if_pos h21).trans ((if_pos h22).trans ((if_pos h23).trans (if_neg h24)))))))) (((if_neg h18).trans ((if_pos h19).trans ((if_pos h20).trans ((if_pos h21).trans ((if_pos h22).trans ((if_pos h23).trans (if_neg h24))))))))
                  · refine g_aload_n C (i := 0) dL_errors_293 rfl 1 rfl ?_
                    refine g_bipush C (v := 8) dL_errors_294 (by decide) ?_
                    refine g_iconst C (v := 0) dL_errors_296 (by decide) ?_
                    refine g_callV C (st := []) (c_X10_line l D ad dA z0 tt σ46 φ 8 0) rfl ml_L_38 im_X10_line se_X10_line in_X10 co_X10_line dyV_X10_line rfl rfl ⟨(Nat.le_of_ble_eq_true rfl), (Nat.le_of_ble_eq_true rfl)⟩ 0 10 (fun f => at_0 ad dA σ46 f) rfl dL_errors_297 rfl (Nat.le_of_ble_eq_true rfl) (g_fni ?_)
                    refine g_iload_n C (i := 1) dL_errors_300 rfl 2 rfl ?_
                    refine g_icmp_ne C (tgt := 329) dL_errors_301 (by decide) (fun h25 => ?_) (fun h25 => ?_)
                    · refine g_iconst C (v := 0) dL_errors_329 (by decide) ?_
                      refine g_loc C [1, 2, 3] rfl ?_
                      subst eσ46
                      subst ev45
                      subst eσ44
                      subst ev43
                      subst eσ42
                      subst ev41
                      subst eσ40
                      subst ev39
                      subst eσ38
                      subst ev37
                      subst eσ36
                      subst ev35
                      exact J49 _ _ (((if_neg h18).trans ((if_pos h19).trans ((if_pos h20).trans ((if_pos h21).trans ((if_pos h22).trans ((if_pos h23).trans ((if_pos h24).trans (if_neg h25))))))))) (((if_neg h18).trans ((if_pos h19).trans ((if_pos h20).trans ((if_pos h21).trans ((if_pos h22).trans ((if_pos h23).trans ((if_pos h24).trans (if_neg h25)))))))))
                    · refine g_aload_n C (i := 0) dL_errors_304 rfl 1 rfl ?_
                      refine g_iconst C (v := 0) dL_errors_305 (by decide) ?_
                      refine g_bipush C (v := 10) dL_errors_306 (by decide) ?_
                      refine g_callV C (st := []) (c_X10_luma l D ad dA z0 tt σ46 φ 0 10) rfl ml_L_52 im_X10_luma se_X10_luma in_X10 co_X10_luma dyV_X10_luma rfl rfl ⟨(Nat.le_of_ble_eq_true rfl), (Nat.le_of_ble_eq_true rfl)⟩ 0 10 (fun f => at_0 ad dA σ46 f) rfl dL_errors_308 rfl (Nat.le_of_ble_eq_true rfl) (g_fni ?_)
                      refine g_iload_n C (i := 1) dL_errors_311 rfl 2 rfl ?_
                      refine g_icmp_ne C (tgt := 329) dL_errors_312 (by decide) (fun h26 => ?_) (fun h26 => ?_)
                      · refine g_iconst C (v := 0) dL_errors_329 (by decide) ?_
                        refine g_loc C [1, 2, 3] rfl ?_
                        subst eσ46
                        subst ev45
                        subst eσ44
                        subst ev43
                        subst eσ42
                        subst ev41
                        subst eσ40
                        subst ev39
                        subst eσ38
                        subst ev37
                        subst eσ36
                        subst ev35
                        exact J49 _ _ (((if_neg h18).trans ((if_pos h19).trans ((if_pos h20).trans ((if_pos h21).trans ((if_pos h22).trans ((if_pos h23).trans ((if_pos h24).trans ((if_pos h25).trans (if_neg h26)))))))))) (((if_neg h18).trans ((if_pos h19).trans ((if_pos h20).trans ((if_pos h21).trans ((if_pos h22).trans ((if_pos h23).trans ((if_pos h24).trans ((if_pos h25).trans (if_neg h26))))))))))
                      · refine g_aload_n C (i := 0) dL_errors_315 rfl 1 rfl ?_
                        refine g_iconst C (v := (-1)) dL_errors_316 (by decide) ?_
                        refine g_iconst C (v := 0) dL_errors_317 (by decide) ?_
                        refine g_callV C (st := []) (c_X10_combed l D ad dA z0 tt σ46 φ (-1) 0) rfl ml_L_49 im_X10_combed se_X10_combed in_X10 co_X10_combed dyV_X10_combed rfl rfl ⟨(Nat.le_of_ble_eq_true rfl), (Nat.le_of_ble_eq_true rfl)⟩ 0 10 (fun f => at_0 ad dA σ46 f) rfl dL_errors_318 rfl (Nat.le_of_ble_eq_true rfl) (g_fni ?_)
                        refine g_iload_n C (i := 1) dL_errors_321 rfl 2 rfl ?_
                        refine g_icmp_ne C (tgt := 329) dL_errors_322 (by decide) (fun h27 => ?_) (fun h27 => ?_)
                        · refine g_iconst C (v := 0) dL_errors_329 (by decide) ?_
                          refine g_loc C [1, 2, 3] rfl ?_
                          subst eσ46
                          subst ev45
                          subst eσ44
                          subst ev43
                          subst eσ42
                          subst ev41
                          subst eσ40
                          subst ev39
                          subst eσ38
                          subst ev37
                          subst eσ36
                          subst ev35
                          exact J49 _ _ (((if_neg h18).trans ((if_pos h19).trans ((if_pos h20).trans ((if_pos h21).trans ((if_pos h22).trans ((if_pos h23).trans ((if_pos h24).trans ((if_pos h25).trans ((if_pos h26).trans (if_neg h27))))))))))) (((if_neg h18).trans ((if_pos h19).trans ((if_pos h20).trans ((if_pos h21).trans ((if_pos h22).trans ((if_pos h23).trans ((if_pos h24).trans ((if_pos h25).trans ((if_pos h26).trans (if_neg h27)))))))))))
                        · refine g_iconst C (v := 1) dL_errors_325 (by decide) ?_
                          refine g_goto C (tgt := 330) dL_errors_326 (by decide) ?_
                          refine g_loc C [1, 2, 3] rfl ?_
                          subst eσ46
                          subst ev45
                          subst eσ44
                          subst ev43
                          subst eσ42
                          subst ev41
                          subst eσ40
                          subst ev39
                          subst eσ38
                          subst ev37
                          subst eσ36
                          subst ev35
                          exact J49 _ _ (((if_neg h18).trans ((if_pos h19).trans ((if_pos h20).trans ((if_pos h21).trans ((if_pos h22).trans ((if_pos h23).trans ((if_pos h24).trans ((if_pos h25).trans ((if_pos h26).trans (if_pos h27))))))))))) (((if_neg h18).trans ((if_pos h19).trans ((if_pos h20).trans ((if_pos h21).trans ((if_pos h22).trans ((if_pos h23).trans ((if_pos h24).trans ((if_pos h25).trans ((if_pos h26).trans (if_pos h27)))))))))))
    refine g_if_eq C (tgt := 225) dL_errors_108 (by decide) (fun h8 => ?_) (fun h8 => ?_)
    · refine g_iconst C (v := 0) dL_errors_225 (by decide) ?_
      refine g_loc C [1, 2, 3] rfl ?_
      exact J34 _ _ ((if_pos h8)) ((if_pos h8))
    · refine g_aload_n C (i := 0) dL_errors_111 rfl 1 rfl ?_
      refine g_bipush C (v := 8) dL_errors_112 (by decide) ?_
      refine g_iconst C (v := 0) dL_errors_114 (by decide) ?_
      refine g_iconst C (v := 0) dL_errors_115 (by decide) ?_
      refine g_iconst C (v := 0) dL_errors_116 (by decide) ?_
      refine g_iconst C (v := 0) dL_errors_117 (by decide) ?_
      refine g_callV C (st := []) (c_X10_setLine l D ad dA z0 tt σ16 φ 8 0 0 0 0) rfl ml_L_89 im_X10_setLine se_X10_setLine in_X10 co_X10_setLine dyV_X10_setLine rfl rfl ⟨(Nat.le_of_ble_eq_true rfl), (Nat.le_of_ble_eq_true rfl)⟩ 0 10 (fun f => at_0 ad dA σ16 f) rfl dL_errors_118 rfl (Nat.le_of_ble_eq_true rfl) (g_fni ?_)
      refine g_nmi C (fun v18 ev18 => ?_)
      refine g_nms C (fun σ19 eσ19 => ?_)
      refine g_iload_n C (i := 1) dL_errors_121 rfl 2 rfl ?_
      refine g_icmp_ne C (tgt := 225) dL_errors_122 (by decide) (fun h9 => ?_) (fun h9 => ?_)
      · refine g_iconst C (v := 0) dL_errors_225 (by decide) ?_
        refine g_loc C [1, 2, 3] rfl ?_
        subst eσ19
        subst ev18
        exact J34 _ _ (((if_neg h8).trans (if_neg h9))) (((if_neg h8).trans (if_neg h9)))
      · refine g_aload_n C (i := 0) dL_errors_125 rfl 1 rfl ?_
        refine g_iconst C (v := 0) dL_errors_126 (by decide) ?_
        refine g_iconst C (v := 5) dL_errors_127 (by decide) ?_
        refine g_iconst C (v := 0) dL_errors_128 (by decide) ?_
        refine g_iconst C (v := 0) dL_errors_129 (by decide) ?_
        refine g_iconst C (v := 0) dL_errors_130 (by decide) ?_
        refine g_callV C (st := []) (c_X10_setLine l D ad dA z0 tt σ19 φ 0 5 0 0 0) rfl ml_L_89 im_X10_setLine se_X10_setLine in_X10 co_X10_setLine dyV_X10_setLine rfl rfl ⟨(Nat.le_of_ble_eq_true rfl), (Nat.le_of_ble_eq_true rfl)⟩ 0 10 (fun f => at_0 ad dA σ19 f) rfl dL_errors_131 rfl (Nat.le_of_ble_eq_true rfl) (g_fni ?_)
        refine g_nmi C (fun v20 ev20 => ?_)
        refine g_nms C (fun σ21 eσ21 => ?_)
        refine g_iload_n C (i := 2) dL_errors_134 rfl 3 rfl ?_
        refine g_icmp_ne C (tgt := 225) dL_errors_135 (by decide) (fun h10 => ?_) (fun h10 => ?_)
        · refine g_iconst C (v := 0) dL_errors_225 (by decide) ?_
          refine g_loc C [1, 2, 3] rfl ?_
          subst eσ21
          subst ev20
          subst eσ19
          subst ev18
          exact J34 _ _ (((if_neg h8).trans ((if_pos h9).trans (if_neg h10)))) (((if_neg h8).trans ((if_pos h9).trans (if_neg h10))))
        · refine g_aload_n C (i := 0) dL_errors_138 rfl 1 rfl ?_
          refine g_iconst C (v := 0) dL_errors_139 (by decide) ?_
          refine g_iconst C (v := 0) dL_errors_140 (by decide) ?_
          refine g_bipush C (v := 41) dL_errors_141 (by decide) ?_
          refine g_iconst C (v := 0) dL_errors_143 (by decide) ?_
          refine g_iconst C (v := 0) dL_errors_144 (by decide) ?_
          refine g_callV C (st := []) (c_X10_setLine l D ad dA z0 tt σ21 φ 0 0 41 0 0) rfl ml_L_89 im_X10_setLine se_X10_setLine in_X10 co_X10_setLine dyV_X10_setLine rfl rfl ⟨(Nat.le_of_ble_eq_true rfl), (Nat.le_of_ble_eq_true rfl)⟩ 0 10 (fun f => at_0 ad dA σ21 f) rfl dL_errors_145 rfl (Nat.le_of_ble_eq_true rfl) (g_fni ?_)
          refine g_nmi C (fun v22 ev22 => ?_)
          refine g_nms C (fun σ23 eσ23 => ?_)
          refine g_iload_n C (i := 2) dL_errors_148 rfl 3 rfl ?_
          refine g_icmp_ne C (tgt := 225) dL_errors_149 (by decide) (fun h11 => ?_) (fun h11 => ?_)
          · refine g_iconst C (v := 0) dL_errors_225 (by decide) ?_
            refine g_loc C [1, 2, 3] rfl ?_
            subst eσ23
            subst ev22
            subst eσ21
            subst ev20
            subst eσ19
            subst ev18
            exact J34 _ _ (((if_neg h8).trans ((if_pos h9).trans ((if_pos h10).trans (if_neg h11))))) (((if_neg h8).trans ((if_pos h9).trans ((if_pos h10).trans (if_neg h11)))))
          · refine g_aload_n C (i := 0) dL_errors_152 rfl 1 rfl ?_
            refine g_iconst C (v := 0) dL_errors_153 (by decide) ?_
            refine g_iconst C (v := 0) dL_errors_154 (by decide) ?_
            refine g_iconst C (v := 0) dL_errors_155 (by decide) ?_
            refine g_iconst C (v := 4) dL_errors_156 (by decide) ?_
            refine g_iconst C (v := 0) dL_errors_157 (by decide) ?_
            refine g_callV C (st := []) (c_X10_setLine l D ad dA z0 tt σ23 φ 0 0 0 4 0) rfl ml_L_89 im_X10_setLine se_X10_setLine in_X10 co_X10_setLine dyV_X10_setLine rfl rfl ⟨(Nat.le_of_ble_eq_true rfl), (Nat.le_of_ble_eq_true rfl)⟩ 0 10 (fun f => at_0 ad dA σ23 f) rfl dL_errors_158 rfl (Nat.le_of_ble_eq_true rfl) (g_fni ?_)
            refine g_nmi C (fun v24 ev24 => ?_)
            refine g_nms C (fun σ25 eσ25 => ?_)
            refine g_iload_n C (i := 2) dL_errors_161 rfl 3 rfl ?_
            refine g_icmp_ne C (tgt := 225) dL_errors_162 (by decide) (fun h12 => ?_) (fun h12 => ?_)
            · refine g_iconst C (v := 0) dL_errors_225 (by decide) ?_
              refine g_loc C [1, 2, 3] rfl ?_
              subst eσ25
              subst ev24
              subst eσ23
              subst ev22
              subst eσ21
              subst ev20
              subst eσ19
              subst ev18
              exact J34 _ _ (((if_neg h8).trans ((if_pos h9).trans ((if_pos h10).trans ((if_pos h11).trans (if_neg h12)))))) (((if_neg h8).trans ((if_pos h9).trans ((if_pos h10).trans ((if_pos h11).trans (if_neg h12))))))
            · refine g_aload_n C (i := 0) dL_errors_165 rfl 1 rfl ?_
              refine g_iconst C (v := 0) dL_errors_166 (by decide) ?_
              refine g_iconst C (v := 0) dL_errors_167 (by decide) ?_
              refine g_iconst C (v := 0) dL_errors_168 (by decide) ?_
              refine g_iconst C (v := 0) dL_errors_169 (by decide) ?_
              refine g_bipush C (v := 10) dL_errors_170 (by decide) ?_
              refine g_callV C (st := []) (c_X10_setLine l D ad dA z0 tt σ25 φ 0 0 0 0 10) rfl ml_L_89 im_X10_setLine se_X10_setLine in_X10 co_X10_setLine dyV_X10_setLine rfl rfl ⟨(Nat.le_of_ble_eq_true rfl), (Nat.le_of_ble_eq_true rfl)⟩ 0 10 (fun f => at_0 ad dA σ25 f) rfl dL_errors_172 rfl (Nat.le_of_ble_eq_true rfl) (g_fni ?_)
              refine g_nmi C (fun v26 ev26 => ?_)
              refine g_nms C (fun σ27 eσ27 => ?_)
              refine g_iload_n C (i := 2) dL_errors_175 rfl 3 rfl ?_
              refine g_icmp_ne C (tgt := 225) dL_errors_176 (by decide) (fun h13 => ?_) (fun h13 => ?_)
              · refine g_iconst C (v := 0) dL_errors_225 (by decide) ?_
                refine g_loc C [1, 2, 3] rfl ?_
                subst eσ27
                subst ev26
                subst eσ25
                subst ev24
                subst eσ23
                subst ev22
                subst eσ21
                subst ev20
                subst eσ19
                subst ev18
                exact J34 _ _ (((if_neg h8).trans ((if_pos h9).trans ((if_pos h10).trans ((if_pos h11).trans ((if_pos h12).trans (if_neg h13))))))) (((if_neg h8).trans ((if_pos h9).trans ((if_pos h10).trans ((if_pos h11).trans ((if_pos h12).trans (if_neg h13)))))))
              · refine g_aload_n C (i := 0) dL_errors_179 rfl 1 rfl ?_
                refine g_bipush C (v := 8) dL_errors_180 (by decide) ?_
                refine g_iconst C (v := 1) dL_errors_182 (by decide) ?_
                refine g_callV C (st := []) (c_X10_miss l D ad dA z0 tt σ27 φ 8 1) rfl ml_L_92 im_X10_miss se_X10_miss in_X10 co_X10_miss dyV_X10_miss rfl rfl ⟨(Nat.le_of_ble_eq_true rfl), (Nat.le_of_ble_eq_true rfl)⟩ 0 10 (fun f => at_0 ad dA σ27 f) rfl dL_errors_183 rfl (Nat.le_of_ble_eq_true rfl) (g_fni ?_)
                refine g_nmi C (fun v28 ev28 => ?_)
                refine g_nms C (fun σ29 eσ29 => ?_)
                refine g_iload_n C (i := 1) dL_errors_186 rfl 2 rfl ?_
                refine g_icmp_ne C (tgt := 225) dL_errors_187 (by decide) (fun h14 => ?_) (fun h14 => ?_)
                · refine g_iconst C (v := 0) dL_errors_225 (by decide) ?_
                  refine g_loc C [1, 2, 3] rfl ?_
                  subst eσ29
                  subst ev28
                  subst eσ27
                  subst ev26
                  subst eσ25
                  subst ev24
                  subst eσ23
                  subst ev22
                  subst eσ21
                  subst ev20
                  subst eσ19
                  subst ev18
                  exact J34 _ _ (((if_neg h8).trans ((if_pos h9).trans ((if_pos h10).trans ((if_pos h11).trans ((if_pos h12).trans ((if_pos h13).trans (if_neg h14)))))))) (((if_neg h8).trans ((if_pos h9).trans ((if_pos h10).trans ((if_pos h11).trans ((if_pos h12).trans ((if_pos h13).trans (if_neg h14))))))))
                · refine g_aload_n C (i := 0) dL_errors_190 rfl 1 rfl ?_
                  refine g_iconst C (v := 2) dL_errors_191 (by decide) ?_
                  refine g_callV C (st := []) (c_X10_setStandard l D ad dA z0 tt σ29 φ 2) rfl ml_L_96 im_X10_setStandard se_X10_setStandard in_X10 co_X10_setStandard dyV_X10_setStandard rfl rfl ⟨(Nat.le_of_ble_eq_true rfl), (Nat.le_of_ble_eq_true rfl)⟩ 0 10 (fun f => at_0 ad dA σ29 f) rfl dL_errors_192 rfl (Nat.le_of_ble_eq_true rfl) (g_fni ?_)
                  refine g_nmi C (fun v30 ev30 => ?_)
                  refine g_nms C (fun σ31 eσ31 => ?_)
                  refine g_iload_n C (i := 2) dL_errors_195 rfl 3 rfl ?_
                  refine g_icmp_ne C (tgt := 225) dL_errors_196 (by decide) (fun h15 => ?_) (fun h15 => ?_)
                  · refine g_iconst C (v := 0) dL_errors_225 (by decide) ?_
                    refine g_loc C [1, 2, 3] rfl ?_
                    subst eσ31
                    subst ev30
                    subst eσ29
                    subst ev28
                    subst eσ27
                    subst ev26
                    subst eσ25
                    subst ev24
                    subst eσ23
                    subst ev22
                    subst eσ21
                    subst ev20
                    subst eσ19
                    subst ev18
                    exact J34 _ _ (((if_neg h8).trans ((if_pos h9).trans ((if_pos h10).trans ((if_pos h11).trans ((if_pos h12).trans ((if_pos h13).trans ((if_pos h14).trans (if_neg h15))))))))) (((if_neg h8).trans ((if_pos h9).trans ((if_pos h10).trans ((if_pos h11).trans ((if_pos h12).trans ((if_pos h13).trans ((if_pos h14).trans (if_neg h15)))))))))
                  · refine g_aload_n C (i := 0) dL_errors_199 rfl 1 rfl ?_
                    refine g_bipush C (v := 8) dL_errors_200 (by decide) ?_
                    refine g_iconst C (v := 0) dL_errors_202 (by decide) ?_
                    refine g_callV C (st := []) (c_X10_sample l D ad dA z0 tt σ31 φ 8 0) rfl ml_L_9 im_X10_sample se_X10_sample in_X10 co_X10_sample dyV_X10_sample rfl rfl ⟨(Nat.le_of_ble_eq_true rfl), (Nat.le_of_ble_eq_true rfl)⟩ 0 10 (fun f => at_0 ad dA σ31 f) rfl dL_errors_203 rfl (Nat.le_of_ble_eq_true rfl) (g_fni ?_)
                    refine g_iload_n C (i := 1) dL_errors_206 rfl 2 rfl ?_
                    refine g_icmp_ne C (tgt := 225) dL_errors_207 (by decide) (fun h16 => ?_) (fun h16 => ?_)
                    · refine g_iconst C (v := 0) dL_errors_225 (by decide) ?_
                      refine g_loc C [1, 2, 3] rfl ?_
                      subst eσ31
                      subst ev30
                      subst eσ29
                      subst ev28
                      subst eσ27
                      subst ev26
                      subst eσ25
                      subst ev24
                      subst eσ23
                      subst ev22
                      subst eσ21
                      subst ev20
                      subst eσ19
                      subst ev18
                      exact J34 _ _ (((if_neg h8).trans ((if_pos h9).trans ((if_pos h10).trans ((if_pos h11).trans ((if_pos h12).trans ((if_pos h13).trans ((if_pos h14).trans ((if_pos h15).trans (if_neg h16)))))))))) (((if_neg h8).trans ((if_pos h9).trans ((if_pos h10).trans ((if_pos h11).trans ((if_pos h12).trans ((if_pos h13).trans ((if_pos h14).trans ((if_pos h15).trans (if_neg h16))))))))))
                    · refine g_aload_n C (i := 0) dL_errors_210 rfl 1 rfl ?_
                      refine g_iconst C (v := 0) dL_errors_211 (by decide) ?_
                      refine g_bipush C (v := 112) dL_errors_212 (by decide) ?_
                      refine g_callV C (st := []) (c_X10_sample l D ad dA z0 tt σ31 φ 0 112) rfl ml_L_9 im_X10_sample se_X10_sample in_X10 co_X10_sample dyV_X10_sample rfl rfl ⟨(Nat.le_of_ble_eq_true rfl), (Nat.le_of_ble_eq_true rfl)⟩ 0 10 (fun f => at_0 ad dA σ31 f) rfl dL_errors_214 rfl (Nat.le_of_ble_eq_true rfl) (g_fni ?_)
                      refine g_iload_n C (i := 2) dL_errors_217 rfl 3 rfl ?_
                      refine g_icmp_ne C (tgt := 225) dL_errors_218 (by decide) (fun h17 => ?_) (fun h17 => ?_)
                      · refine g_iconst C (v := 0) dL_errors_225 (by decide) ?_
                        refine g_loc C [1, 2, 3] rfl ?_
                        subst eσ31
                        subst ev30
                        subst eσ29
                        subst ev28
                        subst eσ27
                        subst ev26
                        subst eσ25
                        subst ev24
                        subst eσ23
                        subst ev22
                        subst eσ21
                        subst ev20
                        subst eσ19
                        subst ev18
                        exact J34 _ _ (((if_neg h8).trans ((if_pos h9).trans ((if_pos h10).trans ((if_pos h11).trans ((if_pos h12).trans ((if_pos h13).trans ((if_pos h14).trans ((if_pos h15).trans ((if_pos h16).trans (if_neg h17))))))))))) (((if_neg h8).trans ((if_pos h9).trans ((if_pos h10).trans ((if_pos h11).trans ((if_pos h12).trans ((if_pos h13).trans ((if_pos h14).trans ((if_pos h15).trans ((if_pos h16).trans (if_neg h17)))))))))))
                      · refine g_iconst C (v := 1) dL_errors_221 (by decide) ?_
                        refine g_goto C (tgt := 226) dL_errors_222 (by decide) ?_
                        refine g_loc C [1, 2, 3] rfl ?_
                        subst eσ31
                        subst ev30
                        subst eσ29
                        subst ev28
                        subst eσ27
                        subst ev26
                        subst eσ25
                        subst ev24
                        subst eσ23
                        subst ev22
                        subst eσ21
                        subst ev20
                        subst eσ19
                        subst ev18
                        exact J34 _ _ (((if_neg h8).trans ((if_pos h9).trans ((if_pos h10).trans ((if_pos h11).trans ((if_pos h12).trans ((if_pos h13).trans ((if_pos h14).trans ((if_pos h15).trans ((if_pos h16).trans (if_pos h17))))))))))) (((if_neg h8).trans ((if_pos h9).trans ((if_pos h10).trans ((if_pos h11).trans ((if_pos h12).trans ((if_pos h13).trans ((if_pos h14).trans ((if_pos h15).trans ((if_pos h16).trans (if_pos h17)))))))))))
  refine g_icmp_ne C (tgt := 105) dL_errors_17 (by decide) (fun h1 => ?_) (fun h1 => ?_)
  · refine g_iconst C (v := 0) dL_errors_105 (by decide) ?_
    refine g_loc C [2, 1, 0] rfl ?_
    exact J17 _ _ ((if_neg h1)) ((if_neg h1))
  · refine g_aload_n C (i := 0) dL_errors_20 rfl 2 rfl ?_
    refine g_iconst C (v := 0) dL_errors_21 (by decide) ?_
    refine g_bipush C (v := 10) dL_errors_22 (by decide) ?_
    refine g_iconst C (v := 0) dL_errors_24 (by decide) ?_
    refine g_iconst C (v := 0) dL_errors_25 (by decide) ?_
    refine g_iconst C (v := 0) dL_errors_26 (by decide) ?_
    refine g_callV C (st := []) (c_X10_setSegment l D ad dA z0 tt σ2 φ 0 10 0 0 0) rfl ml_L_81 im_X10_setSegment se_X10_setSegment in_X10 co_X10_setSegment dyV_X10_setSegment rfl rfl ⟨(Nat.le_of_ble_eq_true rfl), (Nat.le_of_ble_eq_true rfl)⟩ 0 10 (fun f => at_0 ad dA σ2 f) rfl dL_errors_27 rfl (Nat.le_of_ble_eq_true rfl) (g_fni ?_)
    refine g_nmi C (fun v3 ev3 => ?_)
    refine g_nms C (fun σ4 eσ4 => ?_)
    refine g_iload_n C (i := 1) dL_errors_30 rfl 1 rfl ?_
    refine g_icmp_ne C (tgt := 105) dL_errors_31 (by decide) (fun h2 => ?_) (fun h2 => ?_)
    · refine g_iconst C (v := 0) dL_errors_105 (by decide) ?_
      refine g_loc C [2, 1, 0] rfl ?_
      subst eσ4
      subst ev3
      exact J17 _ _ (((if_pos h1).trans (if_neg h2))) (((if_pos h1).trans (if_neg h2)))
    · refine g_aload_n C (i := 0) dL_errors_34 rfl 2 rfl ?_
      refine g_iconst C (v := 0) dL_errors_35 (by decide) ?_
      refine g_iconst C (v := 0) dL_errors_36 (by decide) ?_
      refine g_sipush C (v := 201) dL_errors_37 (by decide) ?_
      refine g_iconst C (v := 0) dL_errors_40 (by decide) ?_
      refine g_iconst C (v := 0) dL_errors_41 (by decide) ?_
      refine g_callV C (st := []) (c_X10_setSegment l D ad dA z0 tt σ4 φ 0 0 201 0 0) rfl ml_L_81 im_X10_setSegment se_X10_setSegment in_X10 co_X10_setSegment dyV_X10_setSegment rfl rfl ⟨(Nat.le_of_ble_eq_true rfl), (Nat.le_of_ble_eq_true rfl)⟩ 0 10 (fun f => at_0 ad dA σ4 f) rfl dL_errors_42 rfl (Nat.le_of_ble_eq_true rfl) (g_fni ?_)
      refine g_nmi C (fun v5 ev5 => ?_)
      refine g_nms C (fun σ6 eσ6 => ?_)
      refine g_iload_n C (i := 2) dL_errors_45 rfl 0 rfl ?_
      refine g_icmp_ne C (tgt := 105) dL_errors_46 (by decide) (fun h3 => ?_) (fun h3 => ?_)
      · refine g_iconst C (v := 0) dL_errors_105 (by decide) ?_
        refine g_loc C [2, 1, 0] rfl ?_
        subst eσ6
        subst ev5
        subst eσ4
        subst ev3
        exact J17 _ _ (((if_pos h1).trans ((if_pos h2).trans (if_neg h3)))) (((if_pos h1).trans ((if_pos h2).trans (if_neg h3))))
      · refine g_aload_n C (i := 0) dL_errors_49 rfl 2 rfl ?_
        refine g_iconst C (v := 0) dL_errors_50 (by decide) ?_
        refine g_iconst C (v := 0) dL_errors_51 (by decide) ?_
        refine g_iconst C (v := 0) dL_errors_52 (by decide) ?_
        refine g_bipush C (v := 61) dL_errors_53 (by decide) ?_
        refine g_iconst C (v := 0) dL_errors_55 (by decide) ?_
        refine g_callV C (st := []) (c_X10_setSegment l D ad dA z0 tt σ6 φ 0 0 0 61 0) rfl ml_L_81 im_X10_setSegment se_X10_setSegment in_X10 co_X10_setSegment dyV_X10_setSegment rfl rfl ⟨(Nat.le_of_ble_eq_true rfl), (Nat.le_of_ble_eq_true rfl)⟩ 0 10 (fun f => at_0 ad dA σ6 f) rfl dL_errors_56 rfl (Nat.le_of_ble_eq_true rfl) (g_fni ?_)
        refine g_nmi C (fun v7 ev7 => ?_)
        refine g_nms C (fun σ8 eσ8 => ?_)
        refine g_iload_n C (i := 2) dL_errors_59 rfl 0 rfl ?_
        refine g_icmp_ne C (tgt := 105) dL_errors_60 (by decide) (fun h4 => ?_) (fun h4 => ?_)
        · refine g_iconst C (v := 0) dL_errors_105 (by decide) ?_
          refine g_loc C [2, 1, 0] rfl ?_
          subst eσ8
          subst ev7
          subst eσ6
          subst ev5
          subst eσ4
          subst ev3
          exact J17 _ _ (((if_pos h1).trans ((if_pos h2).trans ((if_pos h3).trans (if_neg h4))))) (((if_pos h1).trans ((if_pos h2).trans ((if_pos h3).trans (if_neg h4)))))
        · refine g_aload_n C (i := 0) dL_errors_63 rfl 2 rfl ?_
          refine g_iconst C (v := 0) dL_errors_64 (by decide) ?_
          refine g_iconst C (v := 0) dL_errors_65 (by decide) ?_
          refine g_iconst C (v := 0) dL_errors_66 (by decide) ?_
          refine g_iconst C (v := 0) dL_errors_67 (by decide) ?_
          refine g_bipush C (v := (-61)) dL_errors_68 (by decide) ?_
          refine g_callV C (st := []) (c_X10_setSegment l D ad dA z0 tt σ8 φ 0 0 0 0 (-61)) rfl ml_L_81 im_X10_setSegment se_X10_setSegment in_X10 co_X10_setSegment dyV_X10_setSegment rfl rfl ⟨(Nat.le_of_ble_eq_true rfl), (Nat.le_of_ble_eq_true rfl)⟩ 0 10 (fun f => at_0 ad dA σ8 f) rfl dL_errors_70 rfl (Nat.le_of_ble_eq_true rfl) (g_fni ?_)
          refine g_nmi C (fun v9 ev9 => ?_)
          refine g_nms C (fun σ10 eσ10 => ?_)
          refine g_iload_n C (i := 2) dL_errors_73 rfl 0 rfl ?_
          refine g_icmp_ne C (tgt := 105) dL_errors_74 (by decide) (fun h5 => ?_) (fun h5 => ?_)
          · refine g_iconst C (v := 0) dL_errors_105 (by decide) ?_
            refine g_loc C [2, 1, 0] rfl ?_
            subst eσ10
            subst ev9
            subst eσ8
            subst ev7
            subst eσ6
            subst ev5
            subst eσ4
            subst ev3
            exact J17 _ _ (((if_pos h1).trans ((if_pos h2).trans ((if_pos h3).trans ((if_pos h4).trans (if_neg h5)))))) (((if_pos h1).trans ((if_pos h2).trans ((if_pos h3).trans ((if_pos h4).trans (if_neg h5))))))
          · refine g_aload_n C (i := 0) dL_errors_77 rfl 2 rfl ?_
            refine g_iconst C (v := (-1)) dL_errors_78 (by decide) ?_
            refine g_iconst C (v := 0) dL_errors_79 (by decide) ?_
            refine g_iconst C (v := 0) dL_errors_80 (by decide) ?_
            refine g_iconst C (v := 0) dL_errors_81 (by decide) ?_
            refine g_callV C (st := []) (c_X10_fill l D ad dA z0 tt σ10 φ (-1) 0 0 0) rfl ml_L_85 im_X10_fill se_X10_fill in_X10 co_X10_fill dyV_X10_fill rfl rfl ⟨(Nat.le_of_ble_eq_true rfl), (Nat.le_of_ble_eq_true rfl)⟩ 0 10 (fun f => at_0 ad dA σ10 f) rfl dL_errors_82 rfl (Nat.le_of_ble_eq_true rfl) (g_fni ?_)
            refine g_nmi C (fun v11 ev11 => ?_)
            refine g_nms C (fun σ12 eσ12 => ?_)
            refine g_iload_n C (i := 1) dL_errors_85 rfl 1 rfl ?_
            refine g_icmp_ne C (tgt := 105) dL_errors_86 (by decide) (fun h6 => ?_) (fun h6 => ?_)
            · refine g_iconst C (v := 0) dL_errors_105 (by decide) ?_
              refine g_loc C [2, 1, 0] rfl ?_
              subst eσ12
              subst ev11
              subst eσ10
              subst ev9
              subst eσ8
              subst ev7
              subst eσ6
              subst ev5
              subst eσ4
              subst ev3
              exact J17 _ _ (((if_pos h1).trans ((if_pos h2).trans ((if_pos h3).trans ((if_pos h4).trans ((if_pos h5).trans (if_neg h6))))))) (((if_pos h1).trans ((if_pos h2).trans ((if_pos h3).trans ((if_pos h4).trans ((if_pos h5).trans (if_neg h6)))))))
            · refine g_aload_n C (i := 0) dL_errors_89 rfl 2 rfl ?_
              refine g_iconst C (v := 0) dL_errors_90 (by decide) ?_
              refine g_iconst C (v := (-1)) dL_errors_91 (by decide) ?_
              refine g_iconst C (v := 0) dL_errors_92 (by decide) ?_
              refine g_iconst C (v := 0) dL_errors_93 (by decide) ?_
              refine g_callV C (st := []) (c_X10_fill l D ad dA z0 tt σ12 φ 0 (-1) 0 0) rfl ml_L_85 im_X10_fill se_X10_fill in_X10 co_X10_fill dyV_X10_fill rfl rfl ⟨(Nat.le_of_ble_eq_true rfl), (Nat.le_of_ble_eq_true rfl)⟩ 0 10 (fun f => at_0 ad dA σ12 f) rfl dL_errors_94 rfl (Nat.le_of_ble_eq_true rfl) (g_fni ?_)
              refine g_nmi C (fun v13 ev13 => ?_)
              refine g_nms C (fun σ14 eσ14 => ?_)
              refine g_iload_n C (i := 2) dL_errors_97 rfl 0 rfl ?_
              refine g_icmp_ne C (tgt := 105) dL_errors_98 (by decide) (fun h7 => ?_) (fun h7 => ?_)
              · refine g_iconst C (v := 0) dL_errors_105 (by decide) ?_
                refine g_loc C [2, 1, 0] rfl ?_
                subst eσ14
                subst ev13
                subst eσ12
                subst ev11
                subst eσ10
                subst ev9
                subst eσ8
                subst ev7
                subst eσ6
                subst ev5
                subst eσ4
                subst ev3
                exact J17 _ _ (((if_pos h1).trans ((if_pos h2).trans ((if_pos h3).trans ((if_pos h4).trans ((if_pos h5).trans ((if_pos h6).trans (if_neg h7)))))))) (((if_pos h1).trans ((if_pos h2).trans ((if_pos h3).trans ((if_pos h4).trans ((if_pos h5).trans ((if_pos h6).trans (if_neg h7))))))))
              · refine g_iconst C (v := 1) dL_errors_101 (by decide) ?_
                refine g_goto C (tgt := 106) dL_errors_102 (by decide) ?_
                refine g_loc C [2, 1, 0] rfl ?_
                subst eσ14
                subst ev13
                subst eσ12
                subst ev11
                subst eσ10
                subst ev9
                subst eσ8
                subst ev7
                subst eσ6
                subst ev5
                subst eσ4
                subst ev3
                exact J17 _ _ (((if_pos h1).trans ((if_pos h2).trans ((if_pos h3).trans ((if_pos h4).trans ((if_pos h5).trans ((if_pos h6).trans (if_pos h7)))))))) (((if_pos h1).trans ((if_pos h2).trans ((if_pos h3).trans ((if_pos h4).trans ((if_pos h5).trans ((if_pos h6).trans (if_pos h7))))))))
