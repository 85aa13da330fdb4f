/-! the law's bars -/
def f_L_bars (σ : Sg) (x : Int32) (y : Int32) (w : Int32) : Int32 × Sg := let v1 : Int32 := (f_X10_clearText σ).1; let σ2 : Sg := (f_X10_clearText σ).2; let v3 : Int32 := (f_X10_readBars σ2 x).1; let σ4 : Sg := (f_X10_readBars σ2 x).2; if v3 = (-100) then (let v5 : Int32 := (f_X10_readBars σ4 8).1; let σ6 : Sg := (f_X10_readBars σ4 8).2; if v5 = (-100001) then (let v7 : Int32 := (f_X10_type σ6 114).1; let σ8 : Sg := (f_X10_type σ6 114).2; let v9 : Int32 := (f_X10_type σ8 (((48 + (1 + (f_L_low y 9))).toUInt32 % 65536).toInt32)).1; let σ10 : Sg := (f_X10_type σ8 (((48 + (1 + (f_L_low y 9))).toUInt32 % 65536).toInt32)).2; let v13 : Int32 := (if 10 ≤ (1 + (f_L_low y 9)) then 0 else (let v11 : Int32 := (f_X10_readBars σ10 x).1; let σ12 : Sg := (f_X10_readBars σ10 x).2; if v11 = (-102) then 1 else 0)); let σ14 : Sg := (if 10 ≤ (1 + (f_L_low y 9)) then σ10 else (let v11 : Int32 := (f_X10_readBars σ10 x).1; let σ12 : Sg := (f_X10_readBars σ10 x).2; if v11 = (-102) then σ12 else σ12)); let v16 : Int32 := (f_X10_type σ14 121).1; let σ17 : Sg := (f_X10_type σ14 121).2; let v20 : Int32 := (if (10 - (1 + (f_L_low y 9))) ≤ 1 then 3 else (let v18 : Int32 := (f_X10_type σ17 (((58 - (1 + (f_L_low y 9))).toUInt32 % 65536).toInt32)).1; let σ19 : Sg := (f_X10_type σ17 (((58 - (1 + (f_L_low y 9))).toUInt32 % 65536).toInt32)).2; 4)); let σ21 : Sg := (if (10 - (1 + (f_L_low y 9))) ≤ 1 then σ17 else (let v18 : Int32 := (f_X10_type σ17 (((58 - (1 + (f_L_low y 9))).toUInt32 % 65536).toInt32)).1; let σ19 : Sg := (f_X10_type σ17 (((58 - (1 + (f_L_low y 9))).toUInt32 % 65536).toInt32)).2; σ19)); if v13 = 0 then (0, σ21) else (let v23 : Int32 := (f_X10_readBars σ21 x).1; let σ24 : Sg := (f_X10_readBars σ21 x).2; if v23 = 2 then (let v25 : Int32 := (f_X10_type σ24 98).1; let σ26 : Sg := (f_X10_type σ24 98).2; let v27 : Int32 := (f_X10_readBars σ26 x).1; let σ28 : Sg := (f_X10_readBars σ26 x).2; let v29 : Int32 := (if v27 = ((-100) - v20) then 1 else 0); let v31 : Int32 := (f_X10_clearText σ28).1; let σ32 : Sg := (f_X10_clearText σ28).2; let v33 : Int32 := (f_X10_type σ32 107).1; let σ34 : Sg := (f_X10_type σ32 107).2; let v35 : Int32 := (f_X10_type σ34 53).1; let σ36 : Sg := (f_X10_type σ34 53).2; let v37 : Int32 := (f_X10_type σ36 109).1; let σ38 : Sg := (f_X10_type σ36 109).2; let v39 : Int32 := (f_X10_type σ38 54).1; let σ40 : Sg := (f_X10_type σ38 54).2; let v41 : Int32 := (f_X10_readBars σ40 x).1; let σ42 : Sg := (f_X10_readBars σ40 x).2; let v43 : Int32 := (if v41 = (-103) then 1 else 0); let v45 : Int32 := (f_X10_clearText σ42).1; let σ46 : Sg := (f_X10_clearText σ42).2; let v47 : Int32 := (if (w &&& 1) = 0 then 51 else 120); let v49 : Int32 := (f_X10_type σ46 v47).1; let σ50 : Sg := (f_X10_type σ46 v47).2; let v53 : Int32 := (if v29 = 0 then 0 else (if v43 = 0 then 0 else (let v51 : Int32 := (f_X10_readBars σ50 x).1; let σ52 : Sg := (f_X10_readBars σ50 x).2; if v51 = (-100) then (if (f_X10_count σ52 14) = 1 then 1 else 0) else 0))); let σ54 : Sg := (if v29 = 0 then σ50 else (if v43 = 0 then σ50 else (let v51 : Int32 := (f_X10_readBars σ50 x).1; let σ52 : Sg := (f_X10_readBars σ50 x).2; if v51 = (-100) then (if (f_X10_count σ52 14) = 1 then σ52 else σ52) else σ52))); (v53, σ54)) else (0, σ24))) else (0, σ6)) else (0, σ4)
theorem f_L_bars_eq (σ : Sg) (x : Int32) (y : Int32) (w : Int32) : f_L_bars σ x y w = (let v1 : Int32 := (f_X10_clearText σ).1; let σ2 : Sg := (f_X10_clearText σ).2; let v3 : Int32 := (f_X10_readBars σ2 x).1; let σ4 : Sg := (f_X10_readBars σ2 x).2; if v3 = (-100) then (let v5 : Int32 := (f_X10_readBars σ4 8).1; let σ6 : Sg := (f_X10_readBars σ4 8).2; if v5 = (-100001) then (let v7 : Int32 := (f_X10_type σ6 114).1; let σ8 : Sg := (f_X10_type σ6 114).2; let v9 : Int32 := (f_X10_type σ8 (((48 + (1 + (f_L_low y 9))).toUInt32 % 65536).toInt32)).1; let σ10 : Sg := (f_X10_type σ8 (((48 + (1 + (f_L_low y 9))).toUInt32 % 65536).toInt32)).2; let v13 : Int32 := (if 10 ≤ (1 + (f_L_low y 9)) then 0 else (let v11 : Int32 := (f_X10_readBars σ10 x).1; let σ12 : Sg := (f_X10_readBars σ10 x).2; if v11 = (-102) then 1 else 0)); let σ14 : Sg := (if 10 ≤ (1 + (f_L_low y 9)) then σ10 else (let v11 : Int32 := (f_X10_readBars σ10 x).1; let σ12 : Sg := (f_X10_readBars σ10 x).2; if v11 = (-102) then σ12 else σ12)); let v16 : Int32 := (f_X10_type σ14 121).1; let σ17 : Sg := (f_X10_type σ14 121).2; let v20 : Int32 := (if (10 - (1 + (f_L_low y 9))) ≤ 1 then 3 else (let v18 : Int32 := (f_X10_type σ17 (((58 - (1 + (f_L_low y 9))).toUInt32 % 65536).toInt32)).1; let σ19 : Sg := (f_X10_type σ17 (((58 - (1 + (f_L_low y 9))).toUInt32 % 65536).toInt32)).2; 4)); let σ21 : Sg := (if (10 - (1 + (f_L_low y 9))) ≤ 1 then σ17 else (let v18 : Int32 := (f_X10_type σ17 (((58 - (1 + (f_L_low y 9))).toUInt32 % 65536).toInt32)).1; let σ19 : Sg := (f_X10_type σ17 (((58 - (1 + (f_L_low y 9))).toUInt32 % 65536).toInt32)).2; σ19)); if v13 = 0 then (0, σ21) else (let v23 : Int32 := (f_X10_readBars σ21 x).1; let σ24 : Sg := (f_X10_readBars σ21 x).2; if v23 = 2 then (let v25 : Int32 := (f_X10_type σ24 98).1; let σ26 : Sg := (f_X10_type σ24 98).2; let v27 : Int32 := (f_X10_readBars σ26 x).1; let σ28 : Sg := (f_X10_readBars σ26 x).2; let v29 : Int32 := (if v27 = ((-100) - v20) then 1 else 0); let v31 : Int32 := (f_X10_clearText σ28).1; let σ32 : Sg := (f_X10_clearText σ28).2; let v33 : Int32 := (f_X10_type σ32 107).1; let σ34 : Sg := (f_X10_type σ32 107).2; let v35 : Int32 := (f_X10_type σ34 53).1; let σ36 : Sg := (f_X10_type σ34 53).2; let v37 : Int32 := (f_X10_type σ36 109).1; let σ38 : Sg := (f_X10_type σ36 109).2; let v39 : Int32 := (f_X10_type σ38 54).1; let σ40 : Sg := (f_X10_type σ38 54).2; let v41 : Int32 := (f_X10_readBars σ40 x).1; let σ42 : Sg := (f_X10_readBars σ40 x).2; let v43 : Int32 := (if v41 = (-103) then 1 else 0); let v45 : Int32 := (f_X10_clearText σ42).1; let σ46 : Sg := (f_X10_clearText σ42).2; let v47 : Int32 := (if (w &&& 1) = 0 then 51 else 120); let v49 : Int32 := (f_X10_type σ46 v47).1; let σ50 : Sg := (f_X10_type σ46 v47).2; let v53 : Int32 := (if v29 = 0 then 0 else (if v43 = 0 then 0 else (let v51 : Int32 := (f_X10_readBars σ50 x).1; let σ52 : Sg := (f_X10_readBars σ50 x).2; if v51 = (-100) then (if (f_X10_count σ52 14) = 1 then 1 else 0) else 0))); let σ54 : Sg := (if v29 = 0 then σ50 else (if v43 = 0 then σ50 else (let v51 : Int32 := (f_X10_readBars σ50 x).1; let σ52 : Sg := (f_X10_readBars σ50 x).2; if v51 = (-100) then (if (f_X10_count σ52 14) = 1 then σ52 else σ52) else σ52))); (v53, σ54)) else (0, σ24))) else (0, σ6)) else (0, σ4)) := rfl
set_option maxRecDepth 100000 in
set_option maxHeartbeats 4000000 in
theorem c_L_bars (l : Launch) (D : va_G) (ad : Nat → Nat) (dA : Nat → ClassId) (z0 : Nat) (tt : Nat → Nat) (σ : Sg) (φ : Fl) (x : Int32) (y : Int32) (w : Int32) (hu : vp_in (σ 10 1) 61) : MC l D ad dA z0 tt yL_bars (Cond.code yL_bars cL_bars 9 (some .boolean) :: lw_all) { frames := 4, cells := 0, slots := 0, locals := 105 } [.ref (ad 0), .int x, .int y, .int w] σ φ (Fn (some (.int (f_L_bars σ x y w).1)) (f_L_bars σ x y w).2 φ) := by
  refine mk_MC (by decide) (Nat.le_of_ble_eq_true rfl) ?_
  intro K C hi hf hv
  change K σ φ 0 [(0, .ref (ad 0)), (1, .int x), (2, .int y), (3, .int w)] []
  refine g_aload_n C (i := 0) dL_bars_0 rfl 0 rfl ?_
  refine g_callV C (st := []) (c_X10_clearText l D ad dA z0 tt σ φ ) rfl ml_L_66 im_X10_clearText se_X10_clearText in_X10 co_X10_clearText dyV_X10_clearText rfl rfl ⟨(Nat.le_of_ble_eq_true rfl), (Nat.le_of_ble_eq_true rfl)⟩ 0 10 (fun f => at_0 ad dA σ f) rfl dL_bars_1 rfl (Nat.le_of_ble_eq_true rfl) (g_fni ?_)
  refine g_nmi C (fun v1 ev1 => ?_)
  refine g_nms C (fun σ2 eσ2 => ?_)
  refine g_pop C dL_bars_4 rfl ?_
  refine g_aload_n C (i := 0) dL_bars_5 rfl 0 rfl ?_
  refine g_iload_n C (i := 1) dL_bars_6 rfl 1 rfl ?_
  refine g_callV C (st := []) (c_X10_readBars l D ad dA z0 tt σ2 φ x (by rw [← eσ2]; exact (tb_clearText hu))) rfl ml_L_70 im_X10_readBars se_X10_readBars in_X10 co_X10_readBars dyV_X10_readBars rfl rfl ⟨(Nat.le_of_ble_eq_true rfl), (Nat.le_of_ble_eq_true rfl)⟩ 0 10 (fun f => at_0 ad dA σ2 f) rfl dL_bars_7 rfl (Nat.le_of_ble_eq_true rfl) (g_fni ?_)
  refine g_nmi C (fun v3 ev3 => ?_)
  refine g_nms C (fun σ4 eσ4 => ?_)
  refine g_bipush C (v := (-100)) dL_bars_10 (by decide) ?_
  refine g_icmp_ne C (tgt := 26) dL_bars_12 (by decide) (fun h1 => ?_) (fun h1 => ?_)
  · refine g_iconst C (v := 0) dL_bars_26 (by decide) ?_
    have e0 : f_L_bars σ x y w = (0, σ4) := by
      subst eσ4
      subst ev3
      subst eσ2
      subst ev1
      exact ((f_L_bars_eq _ _ _ _).trans (if_neg h1))
    exact hi _ _ _ _ _ _ rfl dL_bars_27 (lv_narrowZ (Or.inl rfl)).1 ⟨(congrArg (fun z => some (Value.int z.1)) e0).symm, (congrArg (fun z => z.2) e0).symm, rfl⟩
  · refine g_aload_n C (i := 0) dL_bars_15 rfl 0 rfl ?_
    refine g_bipush C (v := 8) dL_bars_16 (by decide) ?_
    refine g_callV C (st := []) (c_X10_readBars l D ad dA z0 tt σ4 φ 8 (by rw [← eσ4]; exact (tb_readBars (by rw [← eσ2]; exact (tb_clearText hu))))) rfl ml_L_70 im_X10_readBars se_X10_readBars in_X10 co_X10_readBars dyV_X10_readBars rfl rfl ⟨(Nat.le_of_ble_eq_true rfl), (Nat.le_of_ble_eq_true rfl)⟩ 0 10 (fun f => at_0 ad dA σ4 f) rfl dL_bars_18 rfl (Nat.le_of_ble_eq_true rfl) (g_fni ?_)
    refine g_nmi C (fun v5 ev5 => ?_)
    refine g_nms C (fun σ6 eσ6 => ?_)
    refine g_ldc C kc_L_73 dL_bars_21 ?_
    refine g_icmp_eq C (tgt := 28) dL_bars_23 (by decide) (fun h2 => ?_) (fun h2 => ?_)
    · refine g_iconst C (v := 1) dL_bars_28 (by decide) ?_
      refine g_iload_n C (i := 2) dL_bars_29 rfl 2 rfl ?_
      refine g_bipush C (v := 9) dL_bars_30 (by decide) ?_
      refine g_callS C (st := [.int 1]) (c_L_low l D ad dA z0 tt σ6 φ y 9 (by decide)) rfl ml_L_74 sm_L_low in_L co_L_low dyS_L_low rfl rfl ⟨(Nat.le_of_ble_eq_true rfl), (Nat.le_of_ble_eq_true rfl)⟩ dL_bars_32 rfl (Nat.le_of_ble_eq_true rfl) (g_fni ?_)
      refine g_iadd C dL_bars_35 ?_
      refine g_istore C (i := 4) (lv' := [(4, .int (1 + (f_L_low y 9))), (0, .ref (ad 0)), (1, .int x), (2, .int y), (3, .int w)]) dL_bars_36 (by decide) rfl ?_
      refine g_aload_n C (i := 0) dL_bars_38 rfl 1 rfl ?_
      refine g_bipush C (v := 114) dL_bars_39 (by decide) ?_
      refine g_callV C (st := []) (c_X10_type l D ad dA z0 tt σ6 φ 114 (tb_u (by rw [← eσ6]; exact (tb_readBars (by rw [← eσ4]; exact (tb_readBars (by rw [← eσ2]; exact (tb_clearText hu)))))))) rfl ml_L_77 im_X10_type se_X10_type in_X10 co_X10_type dyV_X10_type rfl rfl ⟨(Nat.le_of_ble_eq_true rfl), (Nat.le_of_ble_eq_true rfl)⟩ 0 10 (fun f => at_0 ad dA σ6 f) rfl dL_bars_41 rfl (Nat.le_of_ble_eq_true rfl) (g_fni ?_)
      refine g_nmi C (fun v7 ev7 => ?_)
      refine g_nms C (fun σ8 eσ8 => ?_)
      refine g_pop C dL_bars_44 rfl ?_
      refine g_aload_n C (i := 0) dL_bars_45 rfl 1 rfl ?_
      refine g_bipush C (v := 48) dL_bars_46 (by decide) ?_
      refine g_iload C (i := 4) dL_bars_48 0 rfl ?_
      refine g_iadd C dL_bars_50 ?_
      refine g_i2c C (v := ((48 + (1 + (f_L_low y 9))).toUInt32 % 65536).toInt32) dL_bars_51 rfl ?_
      refine g_callV C (st := []) (c_X10_type l D ad dA z0 tt σ8 φ (((48 + (1 + (f_L_low y 9))).toUInt32 % 65536).toInt32) (tb_u (by rw [← eσ8]; exact (tb_type (by rw [← eσ6]; exact (tb_readBars (by rw [← eσ4]; exact (tb_readBars (by rw [← eσ2]; exact (tb_clearText hu)))))))))) rfl ml_L_77 im_X10_type se_X10_type in_X10 co_X10_type dyV_X10_type rfl rfl ⟨(Nat.le_of_ble_eq_true rfl), (Nat.le_of_ble_eq_true rfl)⟩ 0 10 (fun f => at_0 ad dA σ8 f) rfl dL_bars_52 rfl (Nat.le_of_ble_eq_true rfl) (g_fni ?_)
      refine g_nmi C (fun v9 ev9 => ?_)
      refine g_nms C (fun σ10 eσ10 => ?_)
      refine g_pop C dL_bars_55 rfl ?_
      refine g_iload C (i := 4) dL_bars_56 0 rfl ?_
      refine g_bipush C (v := 10) dL_bars_58 (by decide) ?_
      have J15 : ∀ (v13 : Int32), ∀ (σ14 : Sg), (if 10 ≤ (1 + (f_L_low y 9)) then 0 else (let v11 : Int32 := (f_X10_readBars σ10 x).1; let σ12 : Sg := (f_X10_readBars σ10 x).2; if v11 = (-102) then 1 else 0)) = v13 → (if 10 ≤ (1 + (f_L_low y 9)) then σ10 else (let v11 : Int32 := (f_X10_readBars σ10 x).1; let σ12 : Sg := (f_X10_readBars σ10 x).2; if v11 = (-102) then σ12 else σ12)) = σ14 → K σ14 φ 78 [(0, .ref (ad 0)), (1, .int x), (3, .int w), (4, .int (1 + (f_L_low y 9)))] [.int v13] := by
        intro v13 σ14 ev13 eσ14
        refine g_istore C (i := 5) (lv' := [(5, .int v13), (0, .ref (ad 0)), (1, .int x), (3, .int w), (4, .int (1 + (f_L_low y 9)))]) dL_bars_78 (by decide) rfl ?_
        refine g_aload_n C (i := 0) dL_bars_80 rfl 1 rfl ?_
        refine g_bipush C (v := 121) dL_bars_81 (by decide) ?_
        refine g_callV C (st := []) (c_X10_type l D ad dA z0 tt σ14 φ 121 (tb_u (by rw [← eσ14]; exact (tb_ite (by rw [← eσ10]; exact (tb_type (by rw [← eσ8]; exact (tb_type (by rw [← eσ6]; exact (tb_readBars (by rw [← eσ4]; exact (tb_readBars (by rw [← eσ2]; exact (tb_clearText hu)))))))))) (tb_ite (tb_readBars (by rw [← eσ10]; exact (tb_type (by rw [← eσ8]; exact (tb_type (by rw [← eσ6]; exact (tb_readBars (by rw [← eσ4]; exact (tb_readBars (by rw [← eσ2]; exact (tb_clearText hu))))))))))) (tb_readBars (by rw [← eσ10]; exact (tb_type (by rw [← eσ8]; exact (tb_type (by rw [← eσ6]; exact (tb_readBars (by rw [← eσ4]; exact (tb_readBars (by rw [← eσ2]; exact (tb_clearText hu)))))))))))))))) rfl ml_L_77 im_X10_type se_X10_type in_X10 co_X10_type dyV_X10_type rfl rfl ⟨(Nat.le_of_ble_eq_true rfl), (Nat.le_of_ble_eq_true rfl)⟩ 0 10 (fun f => at_0 ad dA σ14 f) rfl dL_bars_83 rfl (Nat.le_of_ble_eq_true rfl) (g_fni ?_)
        refine g_nmi C (fun v16 ev16 => ?_)
        refine g_nms C (fun σ17 eσ17 => ?_)
        refine g_pop C dL_bars_86 rfl ?_
        refine g_iconst C (v := 3) dL_bars_87 (by decide) ?_
        refine g_istore C (i := 6) (lv' := [(6, .int 3), (5, .int v13), (0, .ref (ad 0)), (1, .int x), (3, .int w), (4, .int (1 + (f_L_low y 9)))]) dL_bars_88 (by decide) rfl ?_
        refine g_bipush C (v := 10) dL_bars_90 (by decide) ?_
        refine g_iload C (i := 4) dL_bars_92 5 rfl ?_
        refine g_isub C dL_bars_94 ?_
        refine g_iconst C (v := 1) dL_bars_95 (by decide) ?_
        have J22 : ∀ (v20 : Int32), ∀ (σ21 : Sg), (if (10 - (1 + (f_L_low y 9))) ≤ 1 then 3 else (let v18 : Int32 := (f_X10_type σ17 (((58 - (1 + (f_L_low y 9))).toUInt32 % 65536).toInt32)).1; let σ19 : Sg := (f_X10_type σ17 (((58 - (1 + (f_L_low y 9))).toUInt32 % 65536).toInt32)).2; 4)) = v20 → (if (10 - (1 + (f_L_low y 9))) ≤ 1 then σ17 else (let v18 : Int32 := (f_X10_type σ17 (((58 - (1 + (f_L_low y 9))).toUInt32 % 65536).toInt32)).1; let σ19 : Sg := (f_X10_type σ17 (((58 - (1 + (f_L_low y 9))).toUInt32 % 65536).toInt32)).2; σ19)) = σ21 → K σ21 φ 113 [(0, .ref (ad 0)), (1, .int x), (3, .int w), (5, .int v13), (6, .int v20)] [] := by
          intro v20 σ21 ev20 eσ21
          refine g_iload C (i := 5) dL_bars_113 3 rfl ?_
          refine g_if_eq C (tgt := 127) dL_bars_115 (by decide) (fun h6 => ?_) (fun h6 => ?_)
          · refine g_iconst C (v := 0) dL_bars_127 (by decide) ?_
            have e0 : f_L_bars σ x y w = (0, σ21) := by
              subst eσ21
              subst ev20
              subst eσ17
              subst ev16
              subst eσ14
              subst ev13
              subst eσ10
              subst ev9
              subst eσ8
              subst ev7
              subst eσ6
              subst ev5
              subst eσ4
              subst ev3
              subst eσ2
              subst ev1
              exact ((f_L_bars_eq _ _ _ _).trans ((if_pos h1).trans ((if_pos h2).trans (if_pos h6))))
            exact hi _ _ _ _ _ _ rfl dL_bars_128 (lv_narrowZ (Or.inl rfl)).1 ⟨(congrArg (fun z => some (Value.int z.1)) e0).symm, (congrArg (fun z => z.2) e0).symm, rfl⟩
          · refine g_aload_n C (i := 0) dL_bars_118 rfl 0 rfl ?_
            refine g_iload_n C (i := 1) dL_bars_119 rfl 1 rfl ?_
            refine g_callV C (st := []) (c_X10_readBars l D ad dA z0 tt σ21 φ x (by rw [← eσ21]; exact (tb_ite (by rw [← eσ17]; exact (tb_type (by rw [← eσ14]; exact (tb_ite (by rw [← eσ10]; exact (tb_type (by rw [← eσ8]; exact (tb_type (by rw [← eσ6]; exact (tb_readBars (by rw [← eσ4]; exact (tb_readBars (by rw [← eσ2]; exact (tb_clearText hu)))))))))) (tb_ite (tb_readBars (by rw [← eσ10]; exact (tb_type (by rw [← eσ8]; exact (tb_type (by rw [← eσ6]; exact (tb_readBars (by rw [← eσ4]; exact (tb_readBars (by rw [← eσ2]; exact (tb_clearText hu))))))))))) (tb_readBars (by rw [← eσ10]; exact (tb_type (by rw [← eσ8]; exact (tb_type (by rw [← eσ6]; exact (tb_readBars (by rw [← eσ4]; exact (tb_readBars (by rw [← eσ2]; exact (tb_clearText hu)))))))))))))))) (tb_type (by rw [← eσ17]; exact (tb_type (by rw [← eσ14]; exact (tb_ite (by rw [← eσ10]; exact (tb_type (by rw [← eσ8]; exact (tb_type (by rw [← eσ6]; exact (tb_readBars (by rw [← eσ4]; exact (tb_readBars (by rw [← eσ2]; exact (tb_clearText hu)))))))))) (tb_ite (tb_readBars (by rw [← eσ10]; exact (tb_type (by rw [← eσ8]; exact (tb_type (by rw [← eσ6]; exact (tb_readBars (by rw [← eσ4]; exact (tb_readBars (by rw [← eσ2]; exact (tb_clearText hu))))))))))) (tb_readBars (by rw [← eσ10]; exact (tb_type (by rw [← eσ8]; exact (tb_type (by rw [← eσ6]; exact (tb_readBars (by rw [← eσ4]; exact (tb_readBars (by rw [← eσ2]; exact (tb_clearText hu)))))))))))))))))))) rfl ml_L_70 im_X10_readBars se_X10_readBars in_X10 co_X10_readBars dyV_X10_readBars rfl rfl ⟨(Nat.le_of_ble_eq_true rfl), (Nat.le_of_ble_eq_true rfl)⟩ 0 10 (fun f => at_0 ad dA σ21 f) rfl dL_bars_120 rfl (Nat.le_of_ble_eq_true rfl) (g_fni ?_)
            refine g_nmi C (fun v23 ev23 => ?_)
            refine g_nms C (fun σ24 eσ24 => ?_)
            refine g_iconst C (v := 2) dL_bars_123 (by decide) ?_
            refine g_icmp_eq C (tgt := 129) dL_bars_124 (by decide) (fun h7 => ?_) (fun h7 => ?_)
            · refine g_aload_n C (i := 0) dL_bars_129 rfl 0 rfl ?_
              refine g_bipush C (v := 98) dL_bars_130 (by decide) ?_
              refine g_callV C (st := []) (c_X10_type l D ad dA z0 tt σ24 φ 98 (tb_u (by rw [← eσ24]; exact (tb_readBars (by rw [← eσ21]; exact (tb_ite (by rw [← eσ17]; exact (tb_type (by rw [← eσ14]; exact (tb_ite (by rw [← eσ10]; exact (tb_type (by rw [← eσ8]; exact (tb_type (by rw [← eσ6]; exact (tb_readBars (by rw [← eσ4]; exact (tb_readBars (by rw [← eσ2]; exact (tb_clearText hu)))))))))) (tb_ite (tb_readBars (by rw [← eσ10]; exact (tb_type (by rw [← eσ8]; exact (tb_type (by rw [← eσ6]; exact (tb_readBars (by rw [← eσ4]; exact (tb_readBars (by rw [← eσ2]; exact (tb_clearText hu))))))))))) (tb_readBars (by rw [← eσ10]; exact (tb_type (by rw [← eσ8]; exact (tb_type (by rw [← eσ6]; exact (tb_readBars (by rw [← eσ4]; exact (tb_readBars (by rw [← eσ2]; exact (tb_clearText hu)))))))))))))))) (tb_type (by rw [← eσ17]; exact (tb_type (by rw [← eσ14]; exact (tb_ite (by rw [← eσ10]; exact (tb_type (by rw [← eσ8]; exact (tb_type (by rw [← eσ6]; exact (tb_readBars (by rw [← eσ4]; exact (tb_readBars (by rw [← eσ2]; exact (tb_clearText hu)))))))))) (tb_ite (tb_readBars (by rw [← eσ10]; exact (tb_type (by rw [← eσ8]; exact (tb_type (by rw [← eσ6]; exact (tb_readBars (by rw [← eσ4]; exact (tb_readBars (by rw [← eσ2]; exact (tb_clearText hu))))))))))) (tb_readBars (by rw [← eσ10]; exact (tb_type (by rw [← eσ8]; exact (tb_type (by rw [← eσ6]; exact (tb_readBars (by rw [← eσ4]; exact (tb_readBars (by rw [← eσ2]; exact (tb_clearText hu))))))))))))))))))))))) rfl ml_L_77 im_X10_type se_X10_type in_X10 co_X10_type dyV_X10_type rfl rfl ⟨(Nat.le_of_ble_eq_true rfl), (Nat.le_of_ble_eq_true rfl)⟩ 0 10 (fun f => at_0 ad dA σ24 f) rfl dL_bars_132 rfl (Nat.le_of_ble_eq_true rfl) (g_fni ?_)
              refine g_nmi C (fun v25 ev25 => ?_)
              refine g_nms C (fun σ26 eσ26 => ?_)
              refine g_pop C dL_bars_135 rfl ?_
              refine g_aload_n C (i := 0) dL_bars_136 rfl 0 rfl ?_
              refine g_iload_n C (i := 1) dL_bars_137 rfl 1 rfl ?_
              refine g_callV C (st := []) (c_X10_readBars l D ad dA z0 tt σ26 φ x (by rw [← eσ26]; exact (tb_type (by rw [← eσ24]; exact (tb_readBars (by rw [← eσ21]; exact (tb_ite (by rw [← eσ17]; exact (tb_type (by rw [← eσ14]; exact (tb_ite (by rw [← eσ10]; exact (tb_type (by rw [← eσ8]; exact (tb_type (by rw [← eσ6]; exact (tb_readBars (by rw [← eσ4]; exact (tb_readBars (by rw [← eσ2]; exact (tb_clearText hu)))))))))) (tb_ite (tb_readBars (by rw [← eσ10]; exact (tb_type (by rw [← eσ8]; exact (tb_type (by rw [← eσ6]; exact (tb_readBars (by rw [← eσ4]; exact (tb_readBars (by rw [← eσ2]; exact (tb_clearText hu))))))))))) (tb_readBars (by rw [← eσ10]; exact (tb_type (by rw [← eσ8]; exact (tb_type (by rw [← eσ6]; exact (tb_readBars (by rw [← eσ4]; exact (tb_readBars (by rw [← eσ2]; exact (tb_clearText hu)))))))))))))))) (tb_type (by rw [← eσ17]; exact (tb_type (by rw [← eσ14]; exact (tb_ite (by rw [← eσ10]; exact (tb_type (by rw [← eσ8]; exact (tb_type (by rw [← eσ6]; exact (tb_readBars (by rw [← eσ4]; exact (tb_readBars (by rw [← eσ2]; exact (tb_clearText hu)))))))))) (tb_ite (tb_readBars (by rw [← eσ10]; exact (tb_type (by rw [← eσ8]; exact (tb_type (by rw [← eσ6]; exact (tb_readBars (by rw [← eσ4]; exact (tb_readBars (by rw [← eσ2]; exact (tb_clearText hu))))))))))) (tb_readBars (by rw [← eσ10]; exact (tb_type (by rw [← eσ8]; exact (tb_type (by rw [← eσ6]; exact (tb_readBars (by rw [← eσ4]; exact (tb_readBars (by rw [← eσ2]; exact (tb_clearText hu)))))))))))))))))))))))) rfl ml_L_70 im_X10_readBars se_X10_readBars in_X10 co_X10_readBars dyV_X10_readBars rfl rfl ⟨(Nat.le_of_ble_eq_true rfl), (Nat.le_of_ble_eq_true rfl)⟩ 0 10 (fun f => at_0 ad dA σ26 f) rfl dL_bars_138 rfl (Nat.le_of_ble_eq_true rfl) (g_fni ?_)
              refine g_nmi C (fun v27 ev27 => ?_)
              refine g_nms C (fun σ28 eσ28 => ?_)
              refine g_bipush C (v := (-100)) dL_bars_141 (by decide) ?_
              refine g_iload C (i := 6) dL_bars_143 4 rfl ?_
              refine g_isub C dL_bars_145 ?_
              have J30 : ∀ (v29 : Int32), (if v27 = ((-100) - v20) then 1 else 0) = v29 → K σ28 φ 154 [(0, .ref (ad 0)), (1, .int x), (3, .int w)] [.int v29] := by
                intro v29 ev29
                refine g_istore C (i := 7) (lv' := [(7, .int v29), (0, .ref (ad 0)), (1, .int x), (3, .int w)]) dL_bars_154 (by decide) rfl ?_
                refine g_aload_n C (i := 0) dL_bars_156 rfl 1 rfl ?_
                refine g_callV C (st := []) (c_X10_clearText l D ad dA z0 tt σ28 φ ) rfl ml_L_66 im_X10_clearText se_X10_clearText in_X10 co_X10_clearText dyV_X10_clearText rfl rfl ⟨(Nat.le_of_ble_eq_true rfl), (Nat.le_of_ble_eq_true rfl)⟩ 0 10 (fun f => at_0 ad dA σ28 f) rfl dL_bars_157 rfl (Nat.le_of_ble_eq_true rfl) (g_fni ?_)
                refine g_nmi C (fun v31 ev31 => ?_)
                refine g_nms C (fun σ32 eσ32 => ?_)
                refine g_pop C dL_bars_160 rfl ?_
                refine g_aload_n C (i := 0) dL_bars_161 rfl 1 rfl ?_
                refine g_bipush C (v := 107) dL_bars_162 (by decide) ?_
                refine g_callV C (st := []) (c_X10_type l D ad dA z0 tt σ32 φ 107 (tb_u (by rw [← eσ32]; exact (tb_clearText (by rw [← eσ28]; exact (tb_readBars (by rw [← eσ26]; exact (tb_type (by rw [← eσ24]; exact (tb_readBars (by rw [← eσ21]; exact (tb_ite (by rw [← eσ17]; exact (tb_type (by rw [← eσ14]; exact (tb_ite (by rw [← eσ10]; exact (tb_type (by rw [← eσ8]; exact (tb_type (by rw [← eσ6]; exact (tb_readBars (by rw [← eσ4]; exact (tb_readBars (by rw [← eσ2]; exact (tb_clearText hu)))))))))) (tb_ite (tb_readBars (by rw [← eσ10]; exact (tb_type (by rw [← eσ8]; exact (tb_type (by rw [← eσ6]; exact (tb_readBars (by rw [← eσ4]; exact (tb_readBars (by rw [← eσ2]; exact (tb_clearText hu))))))))))) (tb_readBars (by rw [← eσ10]; exact (tb_type (by rw [← eσ8]; exact (tb_type (by rw [← eσ6]; exact (tb_readBars (by rw [← eσ4]; exact (tb_readBars (by rw [← eσ2]; exact (tb_clearText hu)))))))))))))))) (tb_type (by rw [← eσ17]; exact (tb_type (by rw [← eσ14]; exact (tb_ite (by rw [← eσ10]; exact (tb_type (by rw [← eσ8]; exact (tb_type (by rw [← eσ6]; exact (tb_readBars (by rw [← eσ4]; exact (tb_readBars (by rw [← eσ2]; exact (tb_clearText hu)))))))))) (tb_ite (tb_readBars (by rw [← eσ10]; exact (tb_type (by rw [← eσ8]; exact (tb_type (by rw [← eσ6]; exact (tb_readBars (by rw [← eσ4]; exact (tb_readBars (by rw [← eσ2]; exact (tb_clearText hu))))))))))) (tb_readBars (by rw [← eσ10]; exact (tb_type (by rw [← eσ8]; exact (tb_type (by rw [← eσ6]; exact (tb_readBars (by rw [← eσ4]; exact (tb_readBars (by rw [← eσ2]; exact (tb_clearText hu))))))))))))))))))))))))))))) rfl ml_L_77 im_X10_type se_X10_type in_X10 co_X10_type dyV_X10_type rfl rfl ⟨(Nat.le_of_ble_eq_true rfl), (Nat.le_of_ble_eq_true rfl)⟩ 0 10 (fun f => at_0 ad dA σ32 f) rfl dL_bars_164 rfl (Nat.le_of_ble_eq_true rfl) (g_fni ?_)
                refine g_nmi C (fun v33 ev33 => ?_)
                refine g_nms C (fun σ34 eσ34 => ?_)
                refine g_pop C dL_bars_167 rfl ?_
                refine g_aload_n C (i := 0) dL_bars_168 rfl 1 rfl ?_
                refine g_bipush C (v := 53) dL_bars_169 (by decide) ?_
                refine g_callV C (st := []) (c_X10_type l D ad dA z0 tt σ34 φ 53 (tb_u (by rw [← eσ34]; exact (tb_type (by rw [← eσ32]; exact (tb_clearText (by rw [← eσ28]; exact (tb_readBars (by rw [← eσ26]; exact (tb_type (by rw [← eσ24]; exact (tb_readBars (by rw [← eσ21]; exact (tb_ite (by rw [← eσ17]; exact (tb_type (by rw [← eσ14]; exact (tb_ite (by rw [← eσ10]; exact (tb_type (by rw [← eσ8]; exact (tb_type (by rw [← eσ6]; exact (tb_readBars (by rw [← eσ4]; exact (tb_readBars (by rw [← eσ2]; exact (tb_clearText hu)))))))))) (tb_ite (tb_readBars (by rw [← eσ10]; exact (tb_type (by rw [← eσ8]; exact (tb_type (by rw [← eσ6]; exact (tb_readBars (by rw [← eσ4]; exact (tb_readBars (by rw [← eσ2]; exact (tb_clearText hu))))))))))) (tb_readBars (by rw [← eσ10]; exact (tb_type (by rw [← eσ8]; exact (tb_type (by rw [← eσ6]; exact (tb_readBars (by rw [← eσ4]; exact (tb_readBars (by rw [← eσ2]; exact (tb_clearText hu)))))))))))))))) (tb_type (by rw [← eσ17]; exact (tb_type (by rw [← eσ14]; exact (tb_ite (by rw [← eσ10]; exact (tb_type (by rw [← eσ8]; exact (tb_type (by rw [← eσ6]; exact (tb_readBars (by rw [← eσ4]; exact (tb_readBars (by rw [← eσ2]; exact (tb_clearText hu)))))))))) (tb_ite (tb_readBars (by rw [← eσ10]; exact (tb_type (by rw [← eσ8]; exact (tb_type (by rw [← eσ6]; exact (tb_readBars (by rw [← eσ4]; exact (tb_readBars (by rw [← eσ2]; exact (tb_clearText hu))))))))))) (tb_readBars (by rw [← eσ10]; exact (tb_type (by rw [← eσ8]; exact (tb_type (by rw [← eσ6]; exact (tb_readBars (by rw [← eσ4]; exact (tb_readBars (by rw [← eσ2]; exact (tb_clearText hu))))))))))))))))))))))))))))))) rfl ml_L_77 im_X10_type se_X10_type in_X10 co_X10_type dyV_X10_type rfl rfl ⟨(Nat.le_of_ble_eq_true rfl), (Nat.le_of_ble_eq_true rfl)⟩ 0 10 (fun f => at_0 ad dA σ34 f) rfl dL_bars_171 rfl (Nat.le_of_ble_eq_true rfl) (g_fni ?_)
                refine g_nmi C (fun v35 ev35 => ?_)
                refine g_nms C (fun σ36 eσ36 => ?_)
                refine g_pop C dL_bars_174 rfl ?_
                refine g_aload_n C (i := 0) dL_bars_175 rfl 1 rfl ?_
                refine g_bipush C (v := 109) dL_bars_176 (by decide) ?_
                refine g_callV C (st := []) (c_X10_type l D ad dA z0 tt σ36 φ 109 (tb_u (by rw [← eσ36]; exact (tb_type (by rw [← eσ34]; exact (tb_type (by rw [← eσ32]; exact (tb_clearText (by rw [← eσ28]; exact (tb_readBars (by rw [← eσ26]; exact (tb_type (by rw [← eσ24]; exact (tb_readBars (by rw [← eσ21]; exact (tb_ite (by rw [← eσ17]; exact (tb_type (by rw [← eσ14]; exact (tb_ite (by rw [← eσ10]; exact (tb_type (by rw [← eσ8]; exact (tb_type (by rw [← eσ6]; exact (tb_readBars (by rw [← eσ4]; exact (tb_readBars (by rw [← eσ2]; exact (tb_clearText hu)))))))))) (tb_ite (tb_readBars (by rw [← eσ10]; exact (tb_type (by rw [← eσ8]; exact (tb_type (by rw [← eσ6]; exact (tb_readBars (by rw [← eσ4]; exact (tb_readBars (by rw [← eσ2]; exact (tb_clearText hu))))))))))) (tb_readBars (by rw [← eσ10]; exact (tb_type (by rw [← eσ8]; exact (tb_type (by rw [← eσ6]; exact (tb_readBars (by rw [← eσ4]; exact (tb_readBars (by rw [← eσ2]; exact (tb_clearText hu)))))))))))))))) (tb_type (by rw [← eσ17]; exact (tb_type (by rw [← eσ14]; exact (tb_ite (by rw [← eσ10]; exact (tb_type (by rw [← eσ8]; exact (tb_type (by rw [← eσ6]; exact (tb_readBars (by rw [← eσ4]; exact (tb_readBars (by rw [← eσ2]; exact (tb_clearText hu)))))))))) (tb_ite (tb_readBars (by rw [← eσ10]; exact (tb_type (by rw [← eσ8]; exact (tb_type (by rw [← eσ6]; exact (tb_readBars (by rw [← eσ4]; exact (tb_readBars (by rw [← eσ2]; exact (tb_clearText hu))))))))))) (tb_readBars (by rw [← eσ10]; exact (tb_type (by rw [← eσ8]; exact (tb_type (by rw [← eσ6]; exact (tb_readBars (by rw [← eσ4]; exact (tb_readBars (by rw [← eσ2]; exact (tb_clearText hu))))))))))))))))))))))))))))))))) rfl ml_L_77 im_X10_type se_X10_type in_X10 co_X10_type dyV_X10_type rfl rfl ⟨(Nat.le_of_ble_eq_true rfl), (Nat.le_of_ble_eq_true rfl)⟩ 0 10 (fun f => at_0 ad dA σ36 f) rfl dL_bars_178 rfl (Nat.le_of_ble_eq_true rfl) (g_fni ?_)
                refine g_nmi C (fun v37 ev37 => ?_)
                refine g_nms C (fun σ38 eσ38 => ?_)
                refine g_pop C dL_bars_181 rfl ?_
                refine g_aload_n C (i := 0) dL_bars_182 rfl 1 rfl ?_
                refine g_bipush C (v := 54) dL_bars_183 (by decide) ?_
                refine g_callV C (st := []) (c_X10_type l D ad dA z0 tt σ38 φ 54 (tb_u (by rw [← eσ38]; exact (tb_type (by rw [← eσ36]; exact (tb_type (by rw [← eσ34]; exact (tb_type (by rw [← eσ32]; exact (tb_clearText (by rw [← eσ28]; exact (tb_readBars (by rw [← eσ26]; exact (tb_type (by rw [← eσ24]; exact (tb_readBars (by rw [← eσ21]; exact (tb_ite (by rw [← eσ17]; exact (tb_type (by rw [← eσ14]; exact (tb_ite (by rw [← eσ10]; exact (tb_type (by rw [← eσ8]; exact (tb_type (by rw [← eσ6]; exact (tb_readBars (by rw [← eσ4]; exact (tb_readBars (by rw [← eσ2]; exact (tb_clearText hu)))))))))) (tb_ite (tb_readBars (by rw [← eσ10]; exact (tb_type (by rw [← eσ8]; exact (tb_type (by rw [← eσ6]; exact (tb_readBars (by rw [← eσ4]; exact (tb_readBars (by rw [← eσ2]; exact (tb_clearText hu))))))))))) (tb_readBars (by rw [← eσ10]; exact (tb_type (by rw [← eσ8]; exact (tb_type (by rw [← eσ6]; exact (tb_readBars (by rw [← eσ4]; exact (tb_readBars (by rw [← eσ2]; exact (tb_clearText hu)))))))))))))))) (tb_type (by rw [← eσ17]; exact (tb_type (by rw [← eσ14]; exact (tb_ite (by rw [← eσ10]; exact (tb_type (by rw [← eσ8]; exact (tb_type (by rw [← eσ6]; exact (tb_readBars (by rw [← eσ4]; exact (tb_readBars (by rw [← eσ2]; exact (tb_clearText hu)))))))))) (tb_ite (tb_readBars (by rw [← eσ10]; exact (tb_type (by rw [← eσ8]; exact (tb_type (by rw [← eσ6]; exact (tb_readBars (by rw [← eσ4]; exact (tb_readBars (by rw [← eσ2]; exact (tb_clearText hu))))))))))) (tb_readBars (by rw [← eσ10]; exact (tb_type (by rw [← eσ8]; exact (tb_type (by rw [← eσ6]; exact (tb_readBars (by rw [← eσ4]; exact (tb_readBars (by rw [← eσ2]; exact (tb_clearText hu))))))))))))))))))))))))))))))))))) rfl ml_L_77 im_X10_type se_X10_type in_X10 co_X10_type dyV_X10_type rfl rfl ⟨(Nat.le_of_ble_eq_true rfl), (Nat.le_of_ble_eq_true rfl)⟩ 0 10 (fun f => at_0 ad dA σ38 f) rfl dL_bars_185 rfl (Nat.le_of_ble_eq_true rfl) (g_fni ?_)
                refine g_nmi C (fun v39 ev39 => ?_)
                refine g_nms C (fun σ40 eσ40 => ?_)
                refine g_pop C dL_bars_188 rfl ?_
                refine g_aload_n C (i := 0) dL_bars_189 rfl 1 rfl ?_
                refine g_iload_n C (i := 1) dL_bars_190 rfl 2 rfl ?_
                refine g_callV C (st := []) (c_X10_readBars l D ad dA z0 tt σ40 φ x (by rw [← eσ40]; exact (tb_type (by rw [← eσ38]; exact (tb_type (by rw [← eσ36]; exact (tb_type (by rw [← eσ34]; exact (tb_type (by rw [← eσ32]; exact (tb_clearText (by rw [← eσ28]; exact (tb_readBars (by rw [← eσ26]; exact (tb_type (by rw [← eσ24]; exact (tb_readBars (by rw [← eσ21]; exact (tb_ite (by rw [← eσ17]; exact (tb_type (by rw [← eσ14]; exact (tb_ite (by rw [← eσ10]; exact (tb_type (by rw [← eσ8]; exact (tb_type (by rw [← eσ6]; exact (tb_readBars (by rw [← eσ4]; exact (tb_readBars (by rw [← eσ2]; exact (tb_clearText hu)))))))))) (tb_ite (tb_readBars (by rw [← eσ10]; exact (tb_type (by rw [← eσ8]; exact (tb_type (by rw [← eσ6]; exact (tb_readBars (by rw [← eσ4]; exact (tb_readBars (by rw [← eσ2]; exact (tb_clearText hu))))))))))) (tb_readBars (by rw [← eσ10]; exact (tb_type (by rw [← eσ8]; exact (tb_type (by rw [← eσ6]; exact (tb_readBars (by rw [← eσ4]; exact (tb_readBars (by rw [← eσ2]; exact (tb_clearText hu)))))))))))))))) (tb_type (by rw [← eσ17]; exact (tb_type (by rw [← eσ14]; exact (tb_ite (by rw [← eσ10]; exact (tb_type (by rw [← eσ8]; exact (tb_type (by rw [← eσ6]; exact (tb_readBars (by rw [← eσ4]; exact (tb_readBars (by rw [← eσ2]; exact (tb_clearText hu)))))))))) (tb_ite (tb_readBars (by rw [← eσ10]; exact (tb_type (by rw [← eσ8]; exact (tb_type (by rw [← eσ6]; exact (tb_readBars (by rw [← eσ4]; exact (tb_readBars (by rw [← eσ2]; exact (tb_clearText hu))))))))))) (tb_readBars (by rw [← eσ10]; exact (tb_type (by rw [← eσ8]; exact (tb_type (by rw [← eσ6]; exact (tb_readBars (by rw [← eσ4]; exact (tb_readBars (by rw [← eσ2]; exact (tb_clearText hu)))))))))))))))))))))))))))))))))))) rfl ml_L_70 im_X10_readBars se_X10_readBars in_X10 co_X10_readBars dyV_X10_readBars rfl rfl ⟨(Nat.le_of_ble_eq_true rfl), (Nat.le_of_ble_eq_true rfl)⟩ 0 10 (fun f => at_0 ad dA σ40 f) rfl dL_bars_191 rfl (Nat.le_of_ble_eq_true rfl) (g_fni ?_)
                refine g_nmi C (fun v41 ev41 => ?_)
                refine g_nms C (fun σ42 eσ42 => ?_)
                refine g_bipush C (v := (-103)) dL_bars_194 (by decide) ?_
                have J44 : ∀ (v43 : Int32), (if v41 = (-103) then 1 else 0) = v43 → K σ42 φ 204 [(0, .ref (ad 0)), (1, .int x), (3, .int w), (7, .int v29)] [.int v43] := by
                  intro v43 ev43
                  refine g_istore C (i := 8) (lv' := [(8, .int v43), (0, .ref (ad 0)), (1, .int x), (3, .int w), (7, .int v29)]) dL_bars_204 (by decide) rfl ?_
                  refine g_aload_n C (i := 0) dL_bars_206 rfl 1 rfl ?_
                  refine g_callV C (st := []) (c_X10_clearText l D ad dA z0 tt σ42 φ ) rfl ml_L_66 im_X10_clearText se_X10_clearText in_X10 co_X10_clearText dyV_X10_clearText rfl rfl ⟨(Nat.le_of_ble_eq_true rfl), (Nat.le_of_ble_eq_true rfl)⟩ 0 10 (fun f => at_0 ad dA σ42 f) rfl dL_bars_207 rfl (Nat.le_of_ble_eq_true rfl) (g_fni ?_)
                  refine g_nmi C (fun v45 ev45 => ?_)
                  refine g_nms C (fun σ46 eσ46 => ?_)
                  refine g_pop C dL_bars_210 rfl ?_
                  refine g_aload_n C (i := 0) dL_bars_211 rfl 1 rfl ?_
                  refine g_iload_n C (i := 3) dL_bars_212 rfl 3 rfl ?_
                  refine g_iconst C (v := 1) dL_bars_213 (by decide) ?_
                  refine g_iand C dL_bars_214 ?_
                  have J48 : ∀ (v47 : Int32), (if (w &&& 1) = 0 then 51 else 120) = v47 → K σ46 φ 225 [(0, .ref (ad 0)), (1, .int x), (7, .int v29), (8, .int v43)] [.int v47, .ref (ad 0)] := by
                    intro v47 ev47
                    refine g_callV C (st := []) (c_X10_type l D ad dA z0 tt σ46 φ v47 (tb_u (by rw [← eσ46]; exact (tb_clearText (by rw [← eσ42]; exact (tb_readBars (by rw [← eσ40]; exact (tb_type (by rw [← eσ38]; exact (tb_type (by rw [← eσ36]; exact (tb_type (by rw [← eσ34]; exact (tb_type (by rw [← eσ32]; exact (tb_clearText (by rw [← eσ28]; exact (tb_readBars (by rw [← eσ26]; exact (tb_type (by rw [← eσ24]; exact (tb_readBars (by rw [← eσ21]; exact (tb_ite (by rw [← eσ17]; exact (tb_type (by rw [← eσ14]; exact (tb_ite (by rw [← eσ10]; exact (tb_type (by rw [← eσ8]; exact (tb_type (by rw [← eσ6]; exact (tb_readBars (by rw [← eσ4]; exact (tb_readBars (by rw [← eσ2]; exact (tb_clearText hu)))))))))) (tb_ite (tb_readBars (by rw [← eσ10]; exact (tb_type (by rw [← eσ8]; exact (tb_type (by rw [← eσ6]; exact (tb_readBars (by rw [← eσ4]; exact (tb_readBars (by rw [← eσ2]; exact (tb_clearText hu))))))))))) (tb_readBars (by rw [← eσ10]; exact (tb_type (by rw [← eσ8]; exact (tb_type (by rw [← eσ6]; exact (tb_readBars (by rw [← eσ4]; exact (tb_readBars (by rw [← eσ2]; exact (tb_clearText hu)))))))))))))))) (tb_type (by rw [← eσ17]; exact (tb_type (by rw [← eσ14]; exact (tb_ite (by rw [← eσ10]; exact (tb_type (by rw [← eσ8]; exact (tb_type (by rw [← eσ6]; exact (tb_readBars (by rw [← eσ4]; exact (tb_readBars (by rw [← eσ2]; exact (tb_clearText hu)))))))))) (tb_ite (tb_readBars (by rw [← eσ10]; exact (tb_type (by rw [← eσ8]; exact (tb_type (by rw [← eσ6]; exact (tb_readBars (by rw [← eσ4]; exact (tb_readBars (by rw [← eσ2]; exact (tb_clearText hu))))))))))) (tb_readBars (by rw [← eσ10]; exact (tb_type (by rw [← eσ8]; exact (tb_type (by rw [← eσ6]; exact (tb_readBars (by rw [← eσ4]; exact (tb_readBars (by rw [← eσ2]; exact (tb_clearText hu))))))))))))))))))))))))))))))))))))))))) rfl ml_L_77 im_X10_type se_X10_type in_X10 co_X10_type dyV_X10_type rfl rfl ⟨(Nat.le_of_ble_eq_true rfl), (Nat.le_of_ble_eq_true rfl)⟩ 0 10 (fun f => at_0 ad dA σ46 f) rfl dL_bars_225 rfl (Nat.le_of_ble_eq_true rfl) (g_fni ?_)
                    refine g_nmi C (fun v49 ev49 => ?_)
                    refine g_nms C (fun σ50 eσ50 => ?_)
                    refine g_pop C dL_bars_228 rfl ?_
                    refine g_iload C (i := 7) dL_bars_229 2 rfl ?_
                    have J55 : ∀ (v53 : Int32), ∀ (σ54 : Sg), (if v29 = 0 then 0 else (if v43 = 0 then 0 else (let v51 : Int32 := (f_X10_readBars σ50 x).1; let σ52 : Sg := (f_X10_readBars σ50 x).2; if v51 = (-100) then (if (f_X10_count σ52 14) = 1 then 1 else 0) else 0))) = v53 → (if v29 = 0 then σ50 else (if v43 = 0 then σ50 else (let v51 : Int32 := (f_X10_readBars σ50 x).1; let σ52 : Sg := (f_X10_readBars σ50 x).2; if v51 = (-100) then (if (f_X10_count σ52 14) = 1 then σ52 else σ52) else σ52))) = σ54 → K σ54 φ 264 [] [.int v53] := by
                      intro v53 σ54 ev53 eσ54
                      have e0 : f_L_bars σ x y w = (v53, σ54) := by
                        subst eσ54
                        subst ev53
                        subst eσ50
                        subst ev49
                        subst ev47
                        subst eσ46
                        subst ev45
                        subst ev43
                        subst eσ42
                        subst ev41
                        subst eσ40
                        subst ev39
                        subst eσ38
                        subst ev37
                        subst eσ36
                        subst ev35
                        subst eσ34
                        subst ev33
                        subst eσ32
                        subst ev31
                        subst ev29
                        subst eσ28
                        subst ev27
                        subst eσ26
                        subst ev25
                        subst eσ24
                        subst ev23
                        subst eσ21
                        subst ev20
                        subst eσ17
                        subst ev16
                        subst eσ14
                        subst ev13
                        subst eσ10
                        subst ev9
                        subst eσ8
                        subst ev7
                        subst eσ6
                        subst ev5
                        subst eσ4
                        subst ev3
                        subst eσ2
                        subst ev1
                        exact ((f_L_bars_eq _ _ _ _).trans ((if_pos h1).trans ((if_pos h2).trans ((if_neg h6).trans (if_pos h7)))))
                      exact hi _ _ _ _ _ _ rfl dL_bars_264 (lv_narrowZ (show v53 = 0 ∨ v53 = 1 by rw [← ev53]; exact (zo_ite (Or.inl rfl) (zo_ite (Or.inl rfl) (zo_ite (zo_ite (Or.inr rfl) (Or.inl rfl)) (Or.inl rfl)))))).1 ⟨(congrArg (fun z => some (Value.int z.1)) e0).symm, (congrArg (fun z => z.2) e0).symm, rfl⟩
                    refine g_if_eq C (tgt := 263) dL_bars_231 (by decide) (fun h11 => ?_) (fun h11 => ?_)
                    · refine g_iconst C (v := 0) dL_bars_263 (by decide) ?_
                      refine g_loc C [] rfl ?_
                      exact J55 _ _ ((if_pos h11)) ((if_pos h11))
                    · refine g_iload C (i := 8) dL_bars_234 3 rfl ?_
                      refine g_if_eq C (tgt := 263) dL_bars_236 (by decide) (fun h12 => ?_) (fun h12 => ?_)
                      · refine g_iconst C (v := 0) dL_bars_263 (by decide) ?_
                        refine g_loc C [] rfl ?_
                        exact J55 _ _ (((if_neg h11).trans (if_pos h12))) (((if_neg h11).trans (if_pos h12)))
                      · refine g_aload_n C (i := 0) dL_bars_239 rfl 0 rfl ?_
                        refine g_iload_n C (i := 1) dL_bars_240 rfl 1 rfl ?_
                        refine g_callV C (st := []) (c_X10_readBars l D ad dA z0 tt σ50 φ x (by rw [← eσ50]; exact (tb_type (by rw [← eσ46]; exact (tb_clearText (by rw [← eσ42]; exact (tb_readBars (by rw [← eσ40]; exact (tb_type (by rw [← eσ38]; exact (tb_type (by rw [← eσ36]; exact (tb_type (by rw [← eσ34]; exact (tb_type (by rw [← eσ32]; exact (tb_clearText (by rw [← eσ28]; exact (tb_readBars (by rw [← eσ26]; exact (tb_type (by rw [← eσ24]; exact (tb_readBars (by rw [← eσ21]; exact (tb_ite (by rw [← eσ17]; exact (tb_type (by rw [← eσ14]; exact (tb_ite (by rw [← eσ10]; exact (tb_type (by rw [← eσ8]; exact (tb_type (by rw [← eσ6]; exact (tb_readBars (by rw [← eσ4]; exact (tb_readBars (by rw [← eσ2]; exact (tb_clearText hu)))))))))) (tb_ite (tb_readBars (by rw [← eσ10]; exact (tb_type (by rw [← eσ8]; exact (tb_type (by rw [← eσ6]; exact (tb_readBars (by rw [← eσ4]; exact (tb_readBars (by rw [← eσ2]; exact (tb_clearText hu))))))))))) (tb_readBars (by rw [← eσ10]; exact (tb_type (by rw [← eσ8]; exact (tb_type (by rw [← eσ6]; exact (tb_readBars (by rw [← eσ4]; exact (tb_readBars (by rw [← eσ2]; exact (tb_clearText hu)))))))))))))))) (tb_type (by rw [← eσ17]; exact (tb_type (by rw [← eσ14]; exact (tb_ite (by rw [← eσ10]; exact (tb_type (by rw [← eσ8]; exact (tb_type (by rw [← eσ6]; exact (tb_readBars (by rw [← eσ4]; exact (tb_readBars (by rw [← eσ2]; exact (tb_clearText hu)))))))))) (tb_ite (tb_readBars (by rw [← eσ10]; exact (tb_type (by rw [← eσ8]; exact (tb_type (by rw [← eσ6]; exact (tb_readBars (by rw [← eσ4]; exact (tb_readBars (by rw [← eσ2]; exact (tb_clearText hu))))))))))) (tb_readBars (by rw [← eσ10]; exact (tb_type (by rw [← eσ8]; exact (tb_type (by rw [← eσ6]; exact (tb_readBars (by rw [← eσ4]; exact (tb_readBars (by rw [← eσ2]; exact (tb_clearText hu)))))))))))))))))))))))))))))))))))))))))) rfl ml_L_70 im_X10_readBars se_X10_readBars in_X10 co_X10_readBars dyV_X10_readBars rfl rfl ⟨(Nat.le_of_ble_eq_true rfl), (Nat.le_of_ble_eq_true rfl)⟩ 0 10 (fun f => at_0 ad dA σ50 f) rfl dL_bars_241 rfl (Nat.le_of_ble_eq_true rfl) (g_fni ?_)
                        refine g_nmi C (fun v51 ev51 => ?_)
                        refine g_nms C (fun σ52 eσ52 => ?_)
                        refine g_bipush C (v := (-100)) dL_bars_244 (by decide) ?_
                        refine g_icmp_ne C (tgt := 263) dL_bars_246 (by decide) (fun h13 => ?_) (fun h13 => ?_)
                        · refine g_iconst C (v := 0) dL_bars_263 (by decide) ?_
                          refine g_loc C [] rfl ?_
                          subst eσ52
                          subst ev51
                          exact J55 _ _ (((if_neg h11).trans ((if_neg h12).trans (if_neg h13)))) (((if_neg h11).trans ((if_neg h12).trans (if_neg h13))))
                        · refine g_aload_n C (i := 0) dL_bars_249 rfl 0 rfl ?_
                          refine g_bipush C (v := 14) dL_bars_250 (by decide) ?_
                          refine g_callV C (st := []) (c_X10_count l D ad dA z0 tt σ52 φ 14) rfl ml_L_35 im_X10_count se_X10_count in_X10 co_X10_count dyV_X10_count rfl rfl ⟨(Nat.le_of_ble_eq_true rfl), (Nat.le_of_ble_eq_true rfl)⟩ 0 10 (fun f => at_0 ad dA σ52 f) rfl dL_bars_252 rfl (Nat.le_of_ble_eq_true rfl) (g_fni ?_)
                          refine g_iconst C (v := 1) dL_bars_255 (by decide) ?_
                          refine g_icmp_ne C (tgt := 263) dL_bars_256 (by decide) (fun h14 => ?_) (fun h14 => ?_)
                          · refine g_iconst C (v := 0) dL_bars_263 (by decide) ?_
                            refine g_loc C [] rfl ?_
                            subst eσ52
                            subst ev51
                            exact J55 _ _ (((if_neg h11).trans ((if_neg h12).trans ((if_pos h13).trans (if_neg h14))))) (((if_neg h11).trans ((if_neg h12).trans ((if_pos h13).trans (if_neg h14)))))
                          · refine g_iconst C (v := 1) dL_bars_259 (by decide) ?_
                            refine g_goto C (tgt := 264) dL_bars_260 (by decide) ?_
                            refine g_loc C [] rfl ?_
                            subst eσ52
                            subst ev51
                            exact J55 _ _ (((if_neg h11).trans ((if_neg h12).trans ((if_pos h13).trans (if_pos h14))))) (((if_neg h11).trans ((if_neg h12).trans ((if_pos h13).trans (if_pos h14)))))
                  refine g_if_ne C (tgt := 223) dL_bars_215 (by decide) (fun h10 => ?_) (fun h10 => ?_)
                  · refine g_bipush C (v := 120) dL_bars_223 (by decide) ?_
                    refine g_loc C [1, 2, 4, 0] rfl ?_
                    exact J48 _ ((if_neg h10))
                  · refine g_bipush C (v := 51) dL_bars_218 (by decide) ?_
                    refine g_goto C (tgt := 225) dL_bars_220 (by decide) ?_
                    refine g_loc C [1, 2, 4, 0] rfl ?_
                    exact J48 _ ((if_pos h10))
                refine g_icmp_ne C (tgt := 203) dL_bars_196 (by decide) (fun h9 => ?_) (fun h9 => ?_)
                · refine g_iconst C (v := 0) dL_bars_203 (by decide) ?_
                  refine g_loc C [1, 2, 3, 0] rfl ?_
                  exact J44 _ ((if_neg h9))
                · refine g_iconst C (v := 1) dL_bars_199 (by decide) ?_
                  refine g_goto C (tgt := 204) dL_bars_200 (by decide) ?_
                  refine g_loc C [1, 2, 3, 0] rfl ?_
                  exact J44 _ ((if_pos h9))
              refine g_icmp_ne C (tgt := 153) dL_bars_146 (by decide) (fun h8 => ?_) (fun h8 => ?_)
              · refine g_iconst C (v := 0) dL_bars_153 (by decide) ?_
                refine g_loc C [0, 1, 2] rfl ?_
                exact J30 _ ((if_neg h8))
              · refine g_iconst C (v := 1) dL_bars_149 (by decide) ?_
                refine g_goto C (tgt := 154) dL_bars_150 (by decide) ?_
                refine g_loc C [0, 1, 2] rfl ?_
                exact J30 _ ((if_pos h8))
            · refine g_iconst C (v := 0) dL_bars_127 (by decide) ?_
              have e0 : f_L_bars σ x y w = (0, σ24) := by
                subst eσ24
                subst ev23
                subst eσ21
                subst ev20
                subst eσ17
                subst ev16
                subst eσ14
                subst ev13
                subst eσ10
                subst ev9
                subst eσ8
                subst ev7
                subst eσ6
                subst ev5
                subst eσ4
                subst ev3
                subst eσ2
                subst ev1
                exact ((f_L_bars_eq _ _ _ _).trans ((if_pos h1).trans ((if_pos h2).trans ((if_neg h6).trans (if_neg h7)))))
              exact hi _ _ _ _ _ _ rfl dL_bars_128 (lv_narrowZ (Or.inl rfl)).1 ⟨(congrArg (fun z => some (Value.int z.1)) e0).symm, (congrArg (fun z => z.2) e0).symm, rfl⟩
        refine g_icmp_le C (tgt := 113) dL_bars_96 (by decide) (fun h5 => ?_) (fun h5 => ?_)
        · refine g_loc C [2, 3, 4, 1, 0] rfl ?_
          exact J22 _ _ ((if_pos h5)) ((if_pos h5))
        · refine g_aload_n C (i := 0) dL_bars_99 rfl 2 rfl ?_
          refine g_bipush C (v := 58) dL_bars_100 (by decide) ?_
          refine g_iload C (i := 4) dL_bars_102 5 rfl ?_
          refine g_isub C dL_bars_104 ?_
          refine g_i2c C (v := ((58 - (1 + (f_L_low y 9))).toUInt32 % 65536).toInt32) dL_bars_105 rfl ?_
          refine g_callV C (st := []) (c_X10_type l D ad dA z0 tt σ17 φ (((58 - (1 + (f_L_low y 9))).toUInt32 % 65536).toInt32) (tb_u (by rw [← eσ17]; exact (tb_type (by rw [← eσ14]; exact (tb_ite (by rw [← eσ10]; exact (tb_type (by rw [← eσ8]; exact (tb_type (by rw [← eσ6]; exact (tb_readBars (by rw [← eσ4]; exact (tb_readBars (by rw [← eσ2]; exact (tb_clearText hu)))))))))) (tb_ite (tb_readBars (by rw [← eσ10]; exact (tb_type (by rw [← eσ8]; exact (tb_type (by rw [← eσ6]; exact (tb_readBars (by rw [← eσ4]; exact (tb_readBars (by rw [← eσ2]; exact (tb_clearText hu))))))))))) (tb_readBars (by rw [← eσ10]; exact (tb_type (by rw [← eσ8]; exact (tb_type (by rw [← eσ6]; exact (tb_readBars (by rw [← eσ4]; exact (tb_readBars (by rw [← eσ2]; exact (tb_clearText hu)))))))))))))))))) rfl ml_L_77 im_X10_type se_X10_type in_X10 co_X10_type dyV_X10_type rfl rfl ⟨(Nat.le_of_ble_eq_true rfl), (Nat.le_of_ble_eq_true rfl)⟩ 0 10 (fun f => at_0 ad dA σ17 f) rfl dL_bars_106 rfl (Nat.le_of_ble_eq_true rfl) (g_fni ?_)
          refine g_nmi C (fun v18 ev18 => ?_)
          refine g_nms C (fun σ19 eσ19 => ?_)
          refine g_pop C dL_bars_109 rfl ?_
          refine g_iconst C (v := 4) dL_bars_110 (by decide) ?_
          refine g_istore C (i := 6) (lv' := [(6, .int 4), (5, .int v13), (0, .ref (ad 0)), (1, .int x), (3, .int w), (4, .int (1 + (f_L_low y 9)))]) dL_bars_111 (by decide) rfl ?_
          refine g_loc C [2, 3, 4, 1, 0] rfl ?_
          subst eσ19
          subst ev18
          exact J22 _ _ ((if_neg h5)) ((if_neg h5))
      refine g_icmp_ge C (tgt := 77) dL_bars_60 (by decide) (fun h3 => ?_) (fun h3 => ?_)
      · refine g_iconst C (v := 0) dL_bars_77 (by decide) ?_
        refine g_loc C [1, 2, 4, 0] rfl ?_
        exact J15 _ _ ((if_pos h3)) ((if_pos h3))
      · refine g_aload_n C (i := 0) dL_bars_63 rfl 1 rfl ?_
        refine g_iload_n C (i := 1) dL_bars_64 rfl 2 rfl ?_
        refine g_callV C (st := []) (c_X10_readBars l D ad dA z0 tt σ10 φ x (by rw [← eσ10]; exact (tb_type (by rw [← eσ8]; exact (tb_type (by rw [← eσ6]; exact (tb_readBars (by rw [← eσ4]; exact (tb_readBars (by rw [← eσ2]; exact (tb_clearText hu))))))))))) rfl ml_L_70 im_X10_readBars se_X10_readBars in_X10 co_X10_readBars dyV_X10_readBars rfl rfl ⟨(Nat.le_of_ble_eq_true rfl), (Nat.le_of_ble_eq_true rfl)⟩ 0 10 (fun f => at_0 ad dA σ10 f) rfl dL_bars_65 rfl (Nat.le_of_ble_eq_true rfl) (g_fni ?_)
        refine g_nmi C (fun v11 ev11 => ?_)
        refine g_nms C (fun σ12 eσ12 => ?_)
        refine g_bipush C (v := (-102)) dL_bars_68 (by decide) ?_
        refine g_icmp_ne C (tgt := 77) dL_bars_70 (by decide) (fun h4 => ?_) (fun h4 => ?_)
        · refine g_iconst C (v := 0) dL_bars_77 (by decide) ?_
          refine g_loc C [1, 2, 4, 0] rfl ?_
          subst eσ12
          subst ev11
          exact J15 _ _ (((if_neg h3).trans (if_neg h4))) (((if_neg h3).trans (if_neg h4)))
        · refine g_iconst C (v := 1) dL_bars_73 (by decide) ?_
          refine g_goto C (tgt := 78) dL_bars_74 (by decide) ?_
          refine g_loc C [1, 2, 4, 0] rfl ?_
          subst eσ12
          subst ev11
          exact J15 _ _ (((if_neg h3).trans (if_pos h4))) (((if_neg h3).trans (if_pos h4)))
    · refine g_iconst C (v := 0) dL_bars_26 (by decide) ?_
      have e0 : f_L_bars σ x y w = (0, σ6) := by
        subst eσ6
        subst ev5
        subst eσ4
        subst ev3
        subst eσ2
        subst ev1
        exact ((f_L_bars_eq _ _ _ _).trans ((if_pos h1).trans (if_neg h2)))
      exact hi _ _ _ _ _ _ rfl dL_bars_27 (lv_narrowZ (Or.inl rfl)).1 ⟨(congrArg (fun z => some (Value.int z.1)) e0).symm, (congrArg (fun z => z.2) e0).symm, rfl⟩
