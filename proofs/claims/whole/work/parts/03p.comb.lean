/-! the comb -/
def b_X11_comb_34 (x : Int32) (y : Int32) (j2 : Nat) (s2 : Int32 × Int32 × Int32 × Sg) : Int32 × Int32 × Int32 × Sg := let σ3 : Sg := sw (s2.2.2.2) 82 (nI j2).toNatClampNeg (f_X11_chromaAt (s2.2.2.2) x ((16 + (8 * y)) + (nI j2)) ((s2.2.2.2) 77 ((10 * x) + y).toNatClampNeg)); let v4 : Int32 := f_X11_rest (((σ3 66 x.toNatClampNeg) + ((16 + (8 * y)) + (nI j2))) + (2 * x)); let v5 : Int32 := (s2.1) + (σ3 82 (nI j2).toNatClampNeg); let v6 : Int32 := (s2.2.1) + ((σ3 82 (nI j2).toNatClampNeg) * (f_X11_a v4)); let v7 : Int32 := (s2.2.2.1) + ((σ3 82 (nI j2).toNatClampNeg) * (f_X11_b v4)); (v5, v6, v7, σ3)
theorem b_X11_comb_34_eq (x : Int32) (y : Int32) (j2 : Nat) (s2 : Int32 × Int32 × Int32 × Sg) : b_X11_comb_34 x y j2 s2 = (let σ3 : Sg := sw (s2.2.2.2) 82 (nI j2).toNatClampNeg (f_X11_chromaAt (s2.2.2.2) x ((16 + (8 * y)) + (nI j2)) ((s2.2.2.2) 77 ((10 * x) + y).toNatClampNeg)); let v4 : Int32 := f_X11_rest (((σ3 66 x.toNatClampNeg) + ((16 + (8 * y)) + (nI j2))) + (2 * x)); let v5 : Int32 := (s2.1) + (σ3 82 (nI j2).toNatClampNeg); let v6 : Int32 := (s2.2.1) + ((σ3 82 (nI j2).toNatClampNeg) * (f_X11_a v4)); let v7 : Int32 := (s2.2.2.1) + ((σ3 82 (nI j2).toNatClampNeg) * (f_X11_b v4)); (v5, v6, v7, σ3)) := rfl
def f_X11_comb (σ : Sg) (φ : Fl) (x : Int32) (y : Int32) (w : Int32) : Sg × Fl := let σ1 : Sg := sw σ 77 ((10 * x) + y).toNatClampNeg (f_X11_way σ x y w); let t2 : Int32 × Int32 × Int32 × Sg := loopF (b_X11_comb_34 x y) 8 (0, 0, 0, σ1); let σ8 : Sg := sw (t2.2.2.2) 75 ((10 * x) + y).toNatClampNeg (f_X11_quotient ((4 * (f_X11_sumOf (t2.2.2.2) x y)) - (t2.1)) 32); let v9 : UInt32 := FP.fadd (FP.fmul (φ 73 x.toNatClampNeg) (φ 73 x.toNatClampNeg)) (FP.fmul (φ 74 x.toNatClampNeg) (φ 74 x.toNatClampNeg)); let v10 : Int32 := (if (σ8 72 x.toNatClampNeg) = 0 then 0 else (if (Op.cmpValue (FP.fcmp v9 (FP.fconst0)) .l) = 0 then 0 else 1)); let v12 : UInt32 := (if v10 = 0 then (FP.fconst0) else (FP.fdiv (FP.fmul (FP.fadd (FP.fmul (FP.fdiv (FP.i2f (t2.2.1)) 1098907648) (φ 73 x.toNatClampNeg)) (FP.fmul (FP.fdiv (FP.i2f (t2.2.2.1)) 1098907648) (φ 74 x.toNatClampNeg))) 1117782016) v9)); let v14 : UInt32 := (if v10 = 0 then (FP.fconst0) else (FP.fdiv (FP.fmul (FP.fsub (FP.fmul (FP.fdiv (FP.i2f (t2.2.2.1)) 1098907648) (φ 73 x.toNatClampNeg)) (FP.fmul (FP.fdiv (FP.i2f (t2.2.1)) 1098907648) (φ 74 x.toNatClampNeg))) 1117782016) v9)); let φ16 : Fl := fw φ 78 ((10 * x) + y).toNatClampNeg v12; let v17 : UInt32 := (if w = 1 then (if (x - x / 2 * 2) = 1 then (FP.fsub (FP.fconst0) v14) else v14) else v14); let φ19 : Fl := fw φ16 79 ((10 * x) + y).toNatClampNeg v17; let v20 : Int32 := (if w = 0 then 1 else (if x = 0 then 1 else 0)); let v22 : UInt32 := (if v20 = 0 then (FP.fmul (FP.fadd (φ19 78 ((10 * x) + y).toNatClampNeg) (φ19 78 (((10 * x) + y) - 10).toNatClampNeg)) 1056964608) else (φ19 78 ((10 * x) + y).toNatClampNeg)); let φ24 : Fl := fw φ19 80 ((10 * x) + y).toNatClampNeg v22; let v25 : UInt32 := (if v20 = 0 then (FP.fmul (FP.fadd (φ24 79 ((10 * x) + y).toNatClampNeg) (φ24 79 (((10 * x) + y) - 10).toNatClampNeg)) 1056964608) else (φ24 79 ((10 * x) + y).toNatClampNeg)); let φ27 : Fl := fw φ24 81 ((10 * x) + y).toNatClampNeg v25; (σ8, φ27)
theorem f_X11_comb_eq (σ : Sg) (φ : Fl) (x : Int32) (y : Int32) (w : Int32) : f_X11_comb σ φ x y w = (let σ1 : Sg := sw σ 77 ((10 * x) + y).toNatClampNeg (f_X11_way σ x y w); let t2 : Int32 × Int32 × Int32 × Sg := loopF (b_X11_comb_34 x y) 8 (0, 0, 0, σ1); let σ8 : Sg := sw (t2.2.2.2) 75 ((10 * x) + y).toNatClampNeg (f_X11_quotient ((4 * (f_X11_sumOf (t2.2.2.2) x y)) - (t2.1)) 32); let v9 : UInt32 := FP.fadd (FP.fmul (φ 73 x.toNatClampNeg) (φ 73 x.toNatClampNeg)) (FP.fmul (φ 74 x.toNatClampNeg) (φ 74 x.toNatClampNeg)); let v10 : Int32 := (if (σ8 72 x.toNatClampNeg) = 0 then 0 else (if (Op.cmpValue (FP.fcmp v9 (FP.fconst0)) .l) = 0 then 0 else 1)); let v12 : UInt32 := (if v10 = 0 then (FP.fconst0) else (FP.fdiv (FP.fmul (FP.fadd (FP.fmul (FP.fdiv (FP.i2f (t2.2.1)) 1098907648) (φ 73 x.toNatClampNeg)) (FP.fmul (FP.fdiv (FP.i2f (t2.2.2.1)) 1098907648) (φ 74 x.toNatClampNeg))) 1117782016) v9)); let v14 : UInt32 := (if v10 = 0 then (FP.fconst0) else (FP.fdiv (FP.fmul (FP.fsub (FP.fmul (FP.fdiv (FP.i2f (t2.2.2.1)) 1098907648) (φ 73 x.toNatClampNeg)) (FP.fmul (FP.fdiv (FP.i2f (t2.2.1)) 1098907648) (φ 74 x.toNatClampNeg))) 1117782016) v9)); let φ16 : Fl := fw φ 78 ((10 * x) + y).toNatClampNeg v12; let v17 : UInt32 := (if w = 1 then (if (x - x / 2 * 2) = 1 then (FP.fsub (FP.fconst0) v14) else v14) else v14); let φ19 : Fl := fw φ16 79 ((10 * x) + y).toNatClampNeg v17; let v20 : Int32 := (if w = 0 then 1 else (if x = 0 then 1 else 0)); let v22 : UInt32 := (if v20 = 0 then (FP.fmul (FP.fadd (φ19 78 ((10 * x) + y).toNatClampNeg) (φ19 78 (((10 * x) + y) - 10).toNatClampNeg)) 1056964608) else (φ19 78 ((10 * x) + y).toNatClampNeg)); let φ24 : Fl := fw φ19 80 ((10 * x) + y).toNatClampNeg v22; let v25 : UInt32 := (if v20 = 0 then (FP.fmul (FP.fadd (φ24 79 ((10 * x) + y).toNatClampNeg) (φ24 79 (((10 * x) + y) - 10).toNatClampNeg)) 1056964608) else (φ24 79 ((10 * x) + y).toNatClampNeg)); let φ27 : Fl := fw φ24 81 ((10 * x) + y).toNatClampNeg v25; (σ8, φ27)) := rfl
set_option maxRecDepth 100000 in
set_option maxHeartbeats 4000000 in
theorem c_X11_comb (l : Launch) (D : va_G) (ad : Nat → Nat) (dA : Nat → ClassId) (z0 : Nat) (tt : Nat → Nat) (σ : Sg) (φ : Fl) (x : Int32) (y : Int32) (w : Int32) (hx : vp_in x 8) (hy : vp_in y 10) : MC l D ad dA z0 tt yX11_comb (Cond.code yX11_comb cX11_comb 17 none :: lw_all) { frames := 6, cells := 0, slots := 0, locals := 144 } [.ref (ad 53), .int x, .int y, .int w] σ φ (Fn none (f_X11_comb σ φ x y w).1 (f_X11_comb σ φ x y w).2) := by
  refine mk_MC (by decide) (Nat.le_of_ble_eq_true rfl) ?_
  intro K C hi hf hv
  change K σ φ 0 [(0, .ref (ad 53)), (1, .int x), (2, .int y), (3, .int w)] []
  refine g_bipush C (v := 10) dX11_comb_0 (by decide) ?_
  refine g_iload_n C (i := 1) dX11_comb_2 rfl 1 rfl ?_
  refine g_imul C dX11_comb_3 ?_
  refine g_iload_n C (i := 2) dX11_comb_4 rfl 2 rfl ?_
  refine g_iadd C dX11_comb_5 ?_
  refine g_istore C (i := 4) (lv' := [(4, .int ((10 * x) + y)), (0, .ref (ad 53)), (1, .int x), (2, .int y), (3, .int w)]) dX11_comb_6 (by decide) rfl ?_
  refine g_aload_n C (i := 0) dX11_comb_8 rfl 1 rfl ?_
  refine gg_53_28 C fl_X11_82 dX11_comb_9 ?_
  refine g_iload C (i := 4) dX11_comb_12 0 rfl ?_
  refine g_aload_n C (i := 0) dX11_comb_14 rfl 1 rfl ?_
  refine g_iload_n C (i := 1) dX11_comb_15 rfl 2 rfl ?_
  refine g_iload_n C (i := 2) dX11_comb_16 rfl 3 rfl ?_
  refine g_iload_n C (i := 3) dX11_comb_17 rfl 4 rfl ?_
  refine g_callV C (st := [.int ((10 * x) + y), .ref (ad 77)]) (c_X11_way l D ad dA z0 tt σ φ x y w hx) rfl ml_X11_179 im_X11_way se_X11_way in_X11 co_X11_way dyV_X11_way rfl rfl ⟨(Nat.le_of_ble_eq_true rfl), (Nat.le_of_ble_eq_true rfl)⟩ 53 11 (fun f => at_53 ad dA σ f) rfl dX11_comb_18 rfl (Nat.le_of_ble_eq_true rfl) (g_fni ?_)
  refine sd_77 C (pm_in hx hy) dX11_comb_21 ?_
  refine g_nms C (fun σ1 eσ1 => ?_)
  refine g_iconst C (v := 0) dX11_comb_22 (by decide) ?_
  refine g_istore C (i := 5) (lv' := [(5, .int 0), (4, .int ((10 * x) + y)), (0, .ref (ad 53)), (1, .int x), (2, .int y), (3, .int w)]) dX11_comb_23 (by decide) rfl ?_
  refine g_iconst C (v := 0) dX11_comb_25 (by decide) ?_
  refine g_istore C (i := 6) (lv' := [(6, .int 0), (5, .int 0), (4, .int ((10 * x) + y)), (0, .ref (ad 53)), (1, .int x), (2, .int y), (3, .int w)]) dX11_comb_26 (by decide) rfl ?_
  refine g_iconst C (v := 0) dX11_comb_28 (by decide) ?_
  refine g_istore C (i := 7) (lv' := [(7, .int 0), (6, .int 0), (5, .int 0), (4, .int ((10 * x) + y)), (0, .ref (ad 53)), (1, .int x), (2, .int y), (3, .int w)]) dX11_comb_29 (by decide) rfl ?_
  refine g_iconst C (v := 0) dX11_comb_31 (by decide) ?_
  refine g_istore C (i := 8) (lv' := [(8, .int 0), (7, .int 0), (6, .int 0), (5, .int 0), (4, .int ((10 * x) + y)), (0, .ref (ad 53)), (1, .int x), (2, .int y), (3, .int w)]) dX11_comb_32 (by decide) rfl ?_
  refine g_loc C (lv' := [(0, .ref (ad 53)), (1, .int x), (2, .int y), (3, .int w), (4, .int ((10 * x) + y)), (5, .int 0), (6, .int 0), (7, .int 0), (8, .int 0)]) [5, 6, 7, 8, 4, 3, 2, 1, 0] rfl ?_
  refine loopF_indI (b_X11_comb_34 x y) 8 (fun (j2 : Nat) (s2 : Int32 × Int32 × Int32 × Sg) => K (s2.2.2.2) φ 34 [(0, .ref (ad 53)), (1, .int x), (2, .int y), (3, .int w), (4, .int ((10 * x) + y)), (5, .int (s2.1)), (6, .int (s2.2.1)), (7, .int (s2.2.2.1)), (8, .int (nI j2))] []) (0, 0, 0, σ1) (fun (j2 : Nat) (s2 : Int32 × Int32 × Int32 × Sg) => (s2.2.2.2) 77 = σ1 77) rfl (fun _ _ _ h => h) ?_ ?_
  · intro j2 s2 hj2 hI2 kk
    change K (s2.2.2.2) φ 34 [(0, .ref (ad 53)), (1, .int x), (2, .int y), (3, .int w), (4, .int ((10 * x) + y)), (5, .int (s2.1)), (6, .int (s2.2.1)), (7, .int (s2.2.2.1)), (8, .int (nI j2))] []
    refine g_iload C (i := 8) dX11_comb_34 8 rfl ?_
    refine g_bipush C (v := 8) dX11_comb_36 (by decide) ?_
    refine g_icmp_ge C (tgt := 146) dX11_comb_38 (by decide) (fun h1 => ?_) (fun h1 => ?_)
    · exact absurd h1 (nI_ge hj2 (by decide))
    · refine g_bipush C (v := 16) dX11_comb_41 (by decide) ?_
      refine g_bipush C (v := 8) dX11_comb_43 (by decide) ?_
      refine g_iload_n C (i := 2) dX11_comb_45 rfl 2 rfl ?_
      refine g_imul C dX11_comb_46 ?_
      refine g_iadd C dX11_comb_47 ?_
      refine g_iload C (i := 8) dX11_comb_48 8 rfl ?_
      refine g_iadd C dX11_comb_50 ?_
      refine g_istore C (i := 9) (lv' := [(9, .int ((16 + (8 * y)) + (nI j2))), (0, .ref (ad 53)), (1, .int x), (2, .int y), (3, .int w), (4, .int ((10 * x) + y)), (5, .int (s2.1)), (6, .int (s2.2.1)), (7, .int (s2.2.2.1)), (8, .int (nI j2))]) dX11_comb_51 (by decide) rfl ?_
      refine g_aload_n C (i := 0) dX11_comb_53 rfl 1 rfl ?_
      refine gg_53_33 C fl_X11_97 dX11_comb_54 ?_
      refine g_iload C (i := 8) dX11_comb_57 9 rfl ?_
      refine g_aload_n C (i := 0) dX11_comb_59 rfl 1 rfl ?_
      refine g_iload_n C (i := 1) dX11_comb_60 rfl 2 rfl ?_
      refine g_iload C (i := 9) dX11_comb_61 0 rfl ?_
      refine g_aload_n C (i := 0) dX11_comb_63 rfl 1 rfl ?_
      refine gg_53_28 C fl_X11_82 dX11_comb_64 ?_
      refine g_iload C (i := 4) dX11_comb_67 5 rfl ?_
      refine ld_77 C (pm_in hx hy) dX11_comb_69 ?_
      refine g_callV C (st := [.int (nI j2), .ref (ad 82)]) (c_X11_chromaAt l D ad dA z0 tt (s2.2.2.2) φ x ((16 + (8 * y)) + (nI j2)) ((s2.2.2.2) 77 ((10 * x) + y).toNatClampNeg) hx (comb_wok eσ1 hI2 hx)) rfl ml_X11_183 im_X11_chromaAt se_X11_chromaAt in_X11 co_X11_chromaAt dyV_X11_chromaAt rfl rfl ⟨(Nat.le_of_ble_eq_true rfl), (Nat.le_of_ble_eq_true rfl)⟩ 53 11 (fun f => at_53 ad dA (s2.2.2.2) f) rfl dX11_comb_70 rfl (Nat.le_of_ble_eq_true rfl) (g_fni ?_)
      refine sd_82 C (vp_in_nI (Nat.lt_of_lt_of_le hj2 (by decide)) (by decide)) dX11_comb_73 ?_
      refine g_nms C (fun σ3 eσ3 => ?_)
      refine g_aload_n C (i := 0) dX11_comb_74 rfl 1 rfl ?_
      refine gg_53_15 C fl_X11_48 dX11_comb_75 ?_
      refine g_iload_n C (i := 1) dX11_comb_78 rfl 2 rfl ?_
      refine ld_66 C hx dX11_comb_79 ?_
      refine g_iload C (i := 9) dX11_comb_80 0 rfl ?_
      refine g_iadd C dX11_comb_82 ?_
      refine g_iconst C (v := 2) dX11_comb_83 (by decide) ?_
      refine g_iload_n C (i := 1) dX11_comb_84 rfl 2 rfl ?_
      refine g_imul C dX11_comb_85 ?_
      refine g_iadd C dX11_comb_86 ?_
      refine g_callS C (st := []) (c_X11_rest l D ad dA z0 tt σ3 φ (((σ3 66 x.toNatClampNeg) + ((16 + (8 * y)) + (nI j2))) + (2 * x))) rfl ml_X11_141 sm_X11_rest in_X11 co_X11_rest dyS_X11_rest rfl rfl ⟨(Nat.le_of_ble_eq_true rfl), (Nat.le_of_ble_eq_true rfl)⟩ dX11_comb_87 rfl (Nat.le_of_ble_eq_true rfl) (g_fni ?_)
      refine g_nmi C (fun v4 ev4 => ?_)
      refine g_istore C (i := 10) (lv' := [(10, .int v4), (9, .int ((16 + (8 * y)) + (nI j2))), (0, .ref (ad 53)), (1, .int x), (2, .int y), (3, .int w), (4, .int ((10 * x) + y)), (5, .int (s2.1)), (6, .int (s2.2.1)), (7, .int (s2.2.2.1)), (8, .int (nI j2))]) dX11_comb_90 (by decide) rfl ?_
      refine g_iload C (i := 5) dX11_comb_92 7 rfl ?_
      refine g_aload_n C (i := 0) dX11_comb_94 rfl 2 rfl ?_
      refine gg_53_33 C fl_X11_97 dX11_comb_95 ?_
      refine g_iload C (i := 8) dX11_comb_98 10 rfl ?_
      refine ld_82 C (vp_in_nI (Nat.lt_of_lt_of_le hj2 (by decide)) (by decide)) dX11_comb_100 ?_
      refine g_iadd C dX11_comb_101 ?_
      refine g_nmi C (fun v5 ev5 => ?_)
      refine g_istore C (i := 5) (lv' := [(5, .int v5), (10, .int v4), (9, .int ((16 + (8 * y)) + (nI j2))), (0, .ref (ad 53)), (1, .int x), (2, .int y), (3, .int w), (4, .int ((10 * x) + y)), (6, .int (s2.2.1)), (7, .int (s2.2.2.1)), (8, .int (nI j2))]) dX11_comb_102 (by decide) rfl ?_
      refine g_iload C (i := 6) dX11_comb_104 8 rfl ?_
      refine g_aload_n C (i := 0) dX11_comb_106 rfl 3 rfl ?_
      refine gg_53_33 C fl_X11_97 dX11_comb_107 ?_
      refine g_iload C (i := 8) dX11_comb_110 10 rfl ?_
      refine ld_82 C (vp_in_nI (Nat.lt_of_lt_of_le hj2 (by decide)) (by decide)) dX11_comb_112 ?_
      refine g_iload C (i := 10) dX11_comb_113 1 rfl ?_
      refine g_callS C (st := [.int (σ3 82 (nI j2).toNatClampNeg), .int (s2.2.1)]) (c_X11_a l D ad dA z0 tt σ3 φ v4) rfl ml_X11_145 sm_X11_a in_X11 co_X11_a dyS_X11_a rfl rfl ⟨(Nat.le_of_ble_eq_true rfl), (Nat.le_of_ble_eq_true rfl)⟩ dX11_comb_115 rfl (Nat.le_of_ble_eq_true rfl) (g_fni ?_)
      refine g_imul C dX11_comb_118 ?_
      refine g_iadd C dX11_comb_119 ?_
      refine g_nmi C (fun v6 ev6 => ?_)
      refine g_istore C (i := 6) (lv' := [(6, .int v6), (5, .int v5), (10, .int v4), (9, .int ((16 + (8 * y)) + (nI j2))), (0, .ref (ad 53)), (1, .int x), (2, .int y), (3, .int w), (4, .int ((10 * x) + y)), (7, .int (s2.2.2.1)), (8, .int (nI j2))]) dX11_comb_120 (by decide) rfl ?_
      refine g_iload C (i := 7) dX11_comb_122 9 rfl ?_
      refine g_aload_n C (i := 0) dX11_comb_124 rfl 4 rfl ?_
      refine gg_53_33 C fl_X11_97 dX11_comb_125 ?_
      refine g_iload C (i := 8) dX11_comb_128 10 rfl ?_
      refine ld_82 C (vp_in_nI (Nat.lt_of_lt_of_le hj2 (by decide)) (by decide)) dX11_comb_130 ?_
      refine g_iload C (i := 10) dX11_comb_131 2 rfl ?_
      refine g_callS C (st := [.int (σ3 82 (nI j2).toNatClampNeg), .int (s2.2.2.1)]) (c_X11_b l D ad dA z0 tt σ3 φ v4) rfl ml_X11_148 sm_X11_b in_X11 co_X11_b dyS_X11_b rfl rfl ⟨(Nat.le_of_ble_eq_true rfl), (Nat.le_of_ble_eq_true rfl)⟩ dX11_comb_133 rfl (Nat.le_of_ble_eq_true rfl) (g_fni ?_)
      refine g_imul C dX11_comb_136 ?_
      refine g_iadd C dX11_comb_137 ?_
      refine g_nmi C (fun v7 ev7 => ?_)
      refine g_istore C (i := 7) (lv' := [(7, .int v7), (6, .int v6), (5, .int v5), (10, .int v4), (9, .int ((16 + (8 * y)) + (nI j2))), (0, .ref (ad 53)), (1, .int x), (2, .int y), (3, .int w), (4, .int ((10 * x) + y)), (8, .int (nI j2))]) dX11_comb_138 (by decide) rfl ?_
      refine g_iinc C (i := 8) (v := nI (j2 + 1)) (lv' := [(8, .int (nI (j2 + 1))), (7, .int v7), (6, .int v6), (5, .int v5), (10, .int v4), (9, .int ((16 + (8 * y)) + (nI j2))), (0, .ref (ad 53)), (1, .int x), (2, .int y), (3, .int w), (4, .int ((10 * x) + y))]) dX11_comb_140 10 rfl (nI_1 _) (by decide) rfl ?_
      refine g_goto C (tgt := 34) dX11_comb_143 (by decide) ?_
      refine g_loc C [6, 7, 8, 9, 10, 3, 2, 1, 0] rfl ?_
      refine kk (v5, v6, v7, σ3) ?_
      subst ev7
      subst ev6
      subst ev5
      subst ev4
      subst eσ3
      exact b_X11_comb_34_eq _ _ _ _
  · intro hI2
    generalize et2 : loopF (b_X11_comb_34 x y) 8 (0, 0, 0, σ1) = t2 at hI2 ⊢
    change K (t2.2.2.2) φ 34 [(0, .ref (ad 53)), (1, .int x), (2, .int y), (3, .int w), (4, .int ((10 * x) + y)), (5, .int (t2.1)), (6, .int (t2.2.1)), (7, .int (t2.2.2.1)), (8, .int (nI 8))] []
    refine g_iload C (i := 8) dX11_comb_34 8 rfl ?_
    refine g_bipush C (v := 8) dX11_comb_36 (by decide) ?_
    refine g_icmp_ge C (tgt := 146) dX11_comb_38 (by decide) (fun h2 => ?_) (fun h2 => ?_)
    · refine g_aload_n C (i := 0) dX11_comb_146 rfl 0 rfl ?_
      refine gg_53_26 C fl_X11_76 dX11_comb_147 ?_
      refine g_iload C (i := 4) dX11_comb_150 4 rfl ?_
      refine g_iconst C (v := 4) dX11_comb_152 (by decide) ?_
      refine g_aload_n C (i := 0) dX11_comb_153 rfl 0 rfl ?_
      refine g_iload_n C (i := 1) dX11_comb_154 rfl 1 rfl ?_
      refine g_iload_n C (i := 2) dX11_comb_155 rfl 2 rfl ?_
      refine g_callV C (st := [.int 4, .int ((10 * x) + y), .ref (ad 75)]) (c_X11_sumOf l D ad dA z0 tt (t2.2.2.2) φ x y hx) rfl ml_X11_173 im_X11_sumOf se_X11_sumOf in_X11 co_X11_sumOf dyV_X11_sumOf rfl rfl ⟨(Nat.le_of_ble_eq_true rfl), (Nat.le_of_ble_eq_true rfl)⟩ 53 11 (fun f => at_53 ad dA (t2.2.2.2) f) rfl dX11_comb_156 rfl (Nat.le_of_ble_eq_true rfl) (g_fni ?_)
      refine g_imul C dX11_comb_159 ?_
      refine g_iload C (i := 5) dX11_comb_160 5 rfl ?_
      refine g_isub C dX11_comb_162 ?_
      refine g_bipush C (v := 32) dX11_comb_163 (by decide) ?_
      refine g_callS C (st := [.int ((10 * x) + y), .ref (ad 75)]) (c_X11_quotient l D ad dA z0 tt (t2.2.2.2) φ ((4 * (f_X11_sumOf (t2.2.2.2) x y)) - (t2.1)) 32 (by decide)) rfl ml_X11_157 sm_X11_quotient in_X11 co_X11_quotient dyS_X11_quotient rfl rfl ⟨(Nat.le_of_ble_eq_true rfl), (Nat.le_of_ble_eq_true rfl)⟩ dX11_comb_165 rfl (Nat.le_of_ble_eq_true rfl) (g_fni ?_)
      refine sd_75 C (pm_in hx hy) dX11_comb_168 ?_
      refine g_nms C (fun σ8 eσ8 => ?_)
      refine g_iload C (i := 6) dX11_comb_169 6 rfl ?_
      refine g_i2f C dX11_comb_171 ?_
      refine g_ldcf C kf_X11_186 dX11_comb_172 ?_
      refine g_fdiv C dX11_comb_174 ?_
      refine g_fstore C (i := 8) (lv' := [(8, .float (FP.fdiv (FP.i2f (t2.2.1)) 1098907648)), (0, .ref (ad 53)), (1, .int x), (2, .int y), (3, .int w), (4, .int ((10 * x) + y)), (5, .int (t2.1)), (6, .int (t2.2.1)), (7, .int (t2.2.2.1))]) dX11_comb_175 (by decide) rfl ?_
      refine g_iload C (i := 7) dX11_comb_177 8 rfl ?_
      refine g_i2f C dX11_comb_179 ?_
      refine g_ldcf C kf_X11_186 dX11_comb_180 ?_
      refine g_fdiv C dX11_comb_182 ?_
      refine g_fstore C (i := 9) (lv' := [(9, .float (FP.fdiv (FP.i2f (t2.2.2.1)) 1098907648)), (8, .float (FP.fdiv (FP.i2f (t2.2.1)) 1098907648)), (0, .ref (ad 53)), (1, .int x), (2, .int y), (3, .int w), (4, .int ((10 * x) + y)), (5, .int (t2.1)), (6, .int (t2.2.1)), (7, .int (t2.2.2.1))]) dX11_comb_183 (by decide) rfl ?_
      refine g_aload_n C (i := 0) dX11_comb_185 rfl 2 rfl ?_
      refine gg_53_24 C fl_X11_69 dX11_comb_186 ?_
      refine g_iload_n C (i := 1) dX11_comb_189 rfl 3 rfl ?_
      refine ld_73 C hx dX11_comb_190 ?_
      refine g_fstore C (i := 10) (lv' := [(10, .float (φ 73 x.toNatClampNeg)), (9, .float (FP.fdiv (FP.i2f (t2.2.2.1)) 1098907648)), (8, .float (FP.fdiv (FP.i2f (t2.2.1)) 1098907648)), (0, .ref (ad 53)), (1, .int x), (2, .int y), (3, .int w), (4, .int ((10 * x) + y)), (5, .int (t2.1)), (6, .int (t2.2.1)), (7, .int (t2.2.2.1))]) dX11_comb_191 (by decide) rfl ?_
      refine g_aload_n C (i := 0) dX11_comb_193 rfl 3 rfl ?_
      refine gg_53_25 C fl_X11_73 dX11_comb_194 ?_
      refine g_iload_n C (i := 1) dX11_comb_197 rfl 4 rfl ?_
      refine ld_74 C hx dX11_comb_198 ?_
      refine g_fstore C (i := 11) (lv' := [(11, .float (φ 74 x.toNatClampNeg)), (10, .float (φ 73 x.toNatClampNeg)), (9, .float (FP.fdiv (FP.i2f (t2.2.2.1)) 1098907648)), (8, .float (FP.fdiv (FP.i2f (t2.2.1)) 1098907648)), (0, .ref (ad 53)), (1, .int x), (2, .int y), (3, .int w), (4, .int ((10 * x) + y)), (5, .int (t2.1)), (6, .int (t2.2.1)), (7, .int (t2.2.2.1))]) dX11_comb_199 (by decide) rfl ?_
      refine g_fload C (i := 10) dX11_comb_201 1 rfl ?_
      refine g_fload C (i := 10) dX11_comb_203 1 rfl ?_
      refine g_fmul C dX11_comb_205 ?_
      refine g_fload C (i := 11) dX11_comb_206 0 rfl ?_
      refine g_fload C (i := 11) dX11_comb_208 0 rfl ?_
      refine g_fmul C dX11_comb_210 ?_
      refine g_fadd C dX11_comb_211 ?_
      refine g_nmf C (fun v9 ev9 => ?_)
      refine g_fstore C (i := 12) (lv' := [(12, .float v9), (11, .float (φ 74 x.toNatClampNeg)), (10, .float (φ 73 x.toNatClampNeg)), (9, .float (FP.fdiv (FP.i2f (t2.2.2.1)) 1098907648)), (8, .float (FP.fdiv (FP.i2f (t2.2.1)) 1098907648)), (0, .ref (ad 53)), (1, .int x), (2, .int y), (3, .int w), (4, .int ((10 * x) + y)), (5, .int (t2.1)), (6, .int (t2.2.1)), (7, .int (t2.2.2.1))]) dX11_comb_212 (by decide) rfl ?_
      refine g_aload_n C (i := 0) dX11_comb_214 rfl 5 rfl ?_
      refine gg_53_21 C fl_X11_66 dX11_comb_215 ?_
      refine g_iload_n C (i := 1) dX11_comb_218 rfl 6 rfl ?_
      refine ld_72 C hx dX11_comb_219 ?_
      have J11 : ∀ (v10 : Int32), (if (σ8 72 x.toNatClampNeg) = 0 then 0 else (if (Op.cmpValue (FP.fcmp v9 (FP.fconst0)) .l) = 0 then 0 else 1)) = v10 → K σ8 φ 235 [(0, .ref (ad 53)), (1, .int x), (3, .int w), (4, .int ((10 * x) + y)), (8, .float (FP.fdiv (FP.i2f (t2.2.1)) 1098907648)), (9, .float (FP.fdiv (FP.i2f (t2.2.2.1)) 1098907648)), (10, .float (φ 73 x.toNatClampNeg)), (11, .float (φ 74 x.toNatClampNeg)), (12, .float v9)] [.int v10] := by
        intro v10 ev10
        refine g_istore C (i := 13) (lv' := [(13, .int v10), (0, .ref (ad 53)), (1, .int x), (3, .int w), (4, .int ((10 * x) + y)), (8, .float (FP.fdiv (FP.i2f (t2.2.1)) 1098907648)), (9, .float (FP.fdiv (FP.i2f (t2.2.2.1)) 1098907648)), (10, .float (φ 73 x.toNatClampNeg)), (11, .float (φ 74 x.toNatClampNeg)), (12, .float v9)]) dX11_comb_235 (by decide) rfl ?_
        refine g_iload C (i := 13) dX11_comb_237 0 rfl ?_
        have J13 : ∀ (v12 : UInt32), (if v10 = 0 then (FP.fconst0) else (FP.fdiv (FP.fmul (FP.fadd (FP.fmul (FP.fdiv (FP.i2f (t2.2.1)) 1098907648) (φ 73 x.toNatClampNeg)) (FP.fmul (FP.fdiv (FP.i2f (t2.2.2.1)) 1098907648) (φ 74 x.toNatClampNeg))) 1117782016) v9)) = v12 → K σ8 φ 263 [(0, .ref (ad 53)), (1, .int x), (3, .int w), (4, .int ((10 * x) + y)), (8, .float (FP.fdiv (FP.i2f (t2.2.1)) 1098907648)), (9, .float (FP.fdiv (FP.i2f (t2.2.2.1)) 1098907648)), (10, .float (φ 73 x.toNatClampNeg)), (11, .float (φ 74 x.toNatClampNeg)), (12, .float v9), (13, .int v10)] [.float v12] := by
          intro v12 ev12
          refine g_fstore C (i := 14) (lv' := [(14, .float v12), (0, .ref (ad 53)), (1, .int x), (3, .int w), (4, .int ((10 * x) + y)), (8, .float (FP.fdiv (FP.i2f (t2.2.1)) 1098907648)), (9, .float (FP.fdiv (FP.i2f (t2.2.2.1)) 1098907648)), (10, .float (φ 73 x.toNatClampNeg)), (11, .float (φ 74 x.toNatClampNeg)), (12, .float v9), (13, .int v10)]) dX11_comb_263 (by decide) rfl ?_
          refine g_iload C (i := 13) dX11_comb_265 10 rfl ?_
          have J15 : ∀ (v14 : UInt32), (if v10 = 0 then (FP.fconst0) else (FP.fdiv (FP.fmul (FP.fsub (FP.fmul (FP.fdiv (FP.i2f (t2.2.2.1)) 1098907648) (φ 73 x.toNatClampNeg)) (FP.fmul (FP.fdiv (FP.i2f (t2.2.1)) 1098907648) (φ 74 x.toNatClampNeg))) 1117782016) v9)) = v14 → K σ8 φ 291 [(0, .ref (ad 53)), (1, .int x), (3, .int w), (4, .int ((10 * x) + y)), (14, .float v12)] [.float v14] := by
            intro v14 ev14
            refine g_fstore C (i := 15) (lv' := [(15, .float v14), (0, .ref (ad 53)), (1, .int x), (3, .int w), (4, .int ((10 * x) + y)), (14, .float v12)]) dX11_comb_291 (by decide) rfl ?_
            refine g_aload_n C (i := 0) dX11_comb_293 rfl 1 rfl ?_
            refine gg_53_29 C fl_X11_85 dX11_comb_294 ?_
            refine g_iload C (i := 4) dX11_comb_297 4 rfl ?_
            refine g_fload C (i := 14) dX11_comb_299 5 rfl ?_
            refine sd_78 C (pm_in hx hy) dX11_comb_301 ?_
            refine g_nmp C (fun φ16 eφ16 => ?_)
            refine g_aload_n C (i := 0) dX11_comb_302 rfl 1 rfl ?_
            refine gg_53_30 C fl_X11_88 dX11_comb_303 ?_
            refine g_iload C (i := 4) dX11_comb_306 4 rfl ?_
            refine g_iload_n C (i := 3) dX11_comb_308 rfl 3 rfl ?_
            refine g_iconst C (v := 1) dX11_comb_309 (by decide) ?_
            have J18 : ∀ (v17 : UInt32), (if w = 1 then (if (x - x / 2 * 2) = 1 then (FP.fsub (FP.fconst0) v14) else v14) else v14) = v17 → K σ8 φ16 329 [(0, .ref (ad 53)), (1, .int x), (3, .int w), (4, .int ((10 * x) + y))] [.float v17, .int ((10 * x) + y), .ref (ad 79)] := by
              intro v17 ev17
              refine sd_79 C (pm_in hx hy) dX11_comb_329 ?_
              refine g_nmp C (fun φ19 eφ19 => ?_)
              refine g_iload_n C (i := 3) dX11_comb_330 rfl 2 rfl ?_
              have J21 : ∀ (v20 : Int32), (if w = 0 then 1 else (if x = 0 then 1 else 0)) = v20 → K σ8 φ19 343 [(0, .ref (ad 53)), (4, .int ((10 * x) + y))] [.int v20] := by
                intro v20 ev20
                refine g_istore C (i := 16) (lv' := [(16, .int v20), (0, .ref (ad 53)), (4, .int ((10 * x) + y))]) dX11_comb_343 (by decide) rfl ?_
                refine g_aload_n C (i := 0) dX11_comb_345 rfl 1 rfl ?_
                refine gg_53_31 C fl_X11_91 dX11_comb_346 ?_
                refine g_iload C (i := 4) dX11_comb_349 2 rfl ?_
                refine g_iload C (i := 16) dX11_comb_351 0 rfl ?_
                have J23 : ∀ (v22 : UInt32), (if v20 = 0 then (FP.fmul (FP.fadd (φ19 78 ((10 * x) + y).toNatClampNeg) (φ19 78 (((10 * x) + y) - 10).toNatClampNeg)) 1056964608) else (φ19 78 ((10 * x) + y).toNatClampNeg)) = v22 → K σ8 φ19 387 [(0, .ref (ad 53)), (4, .int ((10 * x) + y)), (16, .int v20)] [.float v22, .int ((10 * x) + y), .ref (ad 80)] := by
                  intro v22 ev22
                  refine sd_80 C (pm_in hx hy) dX11_comb_387 ?_
                  refine g_nmp C (fun φ24 eφ24 => ?_)
                  refine g_aload_n C (i := 0) dX11_comb_388 rfl 0 rfl ?_
                  refine gg_53_32 C fl_X11_94 dX11_comb_389 ?_
                  refine g_iload C (i := 4) dX11_comb_392 1 rfl ?_
                  refine g_iload C (i := 16) dX11_comb_394 2 rfl ?_
                  have J26 : ∀ (v25 : UInt32), (if v20 = 0 then (FP.fmul (FP.fadd (φ24 79 ((10 * x) + y).toNatClampNeg) (φ24 79 (((10 * x) + y) - 10).toNatClampNeg)) 1056964608) else (φ24 79 ((10 * x) + y).toNatClampNeg)) = v25 → K σ8 φ24 430 [] [.float v25, .int ((10 * x) + y), .ref (ad 81)] := by
                    intro v25 ev25
                    refine sd_81 C (pm_in hx hy) dX11_comb_430 ?_
                    refine g_nmp C (fun φ27 eφ27 => ?_)
                    have e0 : f_X11_comb σ φ x y w = (σ8, φ27) := by
                      subst eφ27
                      subst ev25
                      subst eφ24
                      subst ev22
                      subst ev20
                      subst eφ19
                      subst ev17
                      subst eφ16
                      subst ev14
                      subst ev12
                      subst ev10
                      subst ev9
                      subst eσ8
                      subst et2
                      subst eσ1
                      exact f_X11_comb_eq _ _ _ _ _
                    exact hv _ _ _ _ rfl dX11_comb_431 ⟨rfl, (congrArg (fun z => z.1) e0).symm, (congrArg (fun z => z.2) e0).symm⟩
                  refine g_if_eq C (tgt := 409) dX11_comb_396 (by decide) (fun h12 => ?_) (fun h12 => ?_)
                  · refine g_aload_n C (i := 0) dX11_comb_409 rfl 0 rfl ?_
                    refine gg_53_30 C fl_X11_88 dX11_comb_410 ?_
                    refine g_iload C (i := 4) dX11_comb_413 1 rfl ?_
                    refine ld_79 C (pm_in hx hy) dX11_comb_415 ?_
                    refine g_aload_n C (i := 0) dX11_comb_416 rfl 0 rfl ?_
                    refine gg_53_30 C fl_X11_88 dX11_comb_417 ?_
                    refine g_iload C (i := 4) dX11_comb_420 1 rfl ?_
                    refine g_bipush C (v := 10) dX11_comb_422 (by decide) ?_
                    refine g_isub C dX11_comb_424 ?_
                    refine ld_79 C (at10_in hx hy (alone_ne ev20 h12)) dX11_comb_425 ?_
                    refine g_fadd C dX11_comb_426 ?_
                    refine g_ldcf C kf_X11_188 dX11_comb_427 ?_
                    refine g_fmul C dX11_comb_429 ?_
                    refine g_loc C [] rfl ?_
                    exact J26 _ ((if_pos h12))
                  · refine g_aload_n C (i := 0) dX11_comb_399 rfl 0 rfl ?_
                    refine gg_53_30 C fl_X11_88 dX11_comb_400 ?_
                    refine g_iload C (i := 4) dX11_comb_403 1 rfl ?_
                    refine ld_79 C (pm_in hx hy) dX11_comb_405 ?_
                    refine g_goto C (tgt := 430) dX11_comb_406 (by decide) ?_
                    refine g_loc C [] rfl ?_
                    exact J26 _ ((if_neg h12))
                refine g_if_eq C (tgt := 366) dX11_comb_353 (by decide) (fun h11 => ?_) (fun h11 => ?_)
                · refine g_aload_n C (i := 0) dX11_comb_366 rfl 1 rfl ?_
                  refine gg_53_29 C fl_X11_85 dX11_comb_367 ?_
                  refine g_iload C (i := 4) dX11_comb_370 2 rfl ?_
                  refine ld_78 C (pm_in hx hy) dX11_comb_372 ?_
                  refine g_aload_n C (i := 0) dX11_comb_373 rfl 1 rfl ?_
                  refine gg_53_29 C fl_X11_85 dX11_comb_374 ?_
                  refine g_iload C (i := 4) dX11_comb_377 2 rfl ?_
                  refine g_bipush C (v := 10) dX11_comb_379 (by decide) ?_
                  refine g_isub C dX11_comb_381 ?_
                  refine ld_78 C (at10_in hx hy (alone_ne ev20 h11)) dX11_comb_382 ?_
                  refine g_fadd C dX11_comb_383 ?_
                  refine g_ldcf C kf_X11_188 dX11_comb_384 ?_
                  refine g_fmul C dX11_comb_386 ?_
                  refine g_loc C [1, 2, 0] rfl ?_
                  exact J23 _ ((if_pos h11))
                · refine g_aload_n C (i := 0) dX11_comb_356 rfl 1 rfl ?_
                  refine gg_53_29 C fl_X11_85 dX11_comb_357 ?_
                  refine g_iload C (i := 4) dX11_comb_360 2 rfl ?_
                  refine ld_78 C (pm_in hx hy) dX11_comb_362 ?_
                  refine g_goto C (tgt := 387) dX11_comb_363 (by decide) ?_
                  refine g_loc C [1, 2, 0] rfl ?_
                  exact J23 _ ((if_neg h11))
              refine g_if_eq C (tgt := 338) dX11_comb_331 (by decide) (fun h9 => ?_) (fun h9 => ?_)
              · refine g_iconst C (v := 1) dX11_comb_338 (by decide) ?_
                refine g_goto C (tgt := 343) dX11_comb_339 (by decide) ?_
                refine g_loc C [0, 3] rfl ?_
                exact J21 _ ((if_pos h9))
              · refine g_iload_n C (i := 1) dX11_comb_334 rfl 1 rfl ?_
                refine g_if_ne C (tgt := 342) dX11_comb_335 (by decide) (fun h10 => ?_) (fun h10 => ?_)
                · refine g_iconst C (v := 0) dX11_comb_342 (by decide) ?_
                  refine g_loc C [0, 3] rfl ?_
                  exact J21 _ (((if_neg h9).trans (if_neg h10)))
                · refine g_iconst C (v := 1) dX11_comb_338 (by decide) ?_
                  refine g_goto C (tgt := 343) dX11_comb_339 (by decide) ?_
                  refine g_loc C [0, 3] rfl ?_
                  exact J21 _ (((if_neg h9).trans (if_pos h10)))
            refine g_icmp_ne C (tgt := 327) dX11_comb_310 (by decide) (fun h7 => ?_) (fun h7 => ?_)
            · refine g_fload C (i := 15) dX11_comb_327 0 rfl ?_
              refine g_loc C [1, 2, 3, 4] rfl ?_
              exact J18 _ ((if_neg h7))
            · refine g_iload_n C (i := 1) dX11_comb_313 rfl 2 rfl ?_
              refine g_iconst C (v := 2) dX11_comb_314 (by decide) ?_
              refine g_irem C dX11_comb_315 (by decide) ?_
              refine g_iconst C (v := 1) dX11_comb_316 (by decide) ?_
              refine g_icmp_ne C (tgt := 327) dX11_comb_317 (by decide) (fun h8 => ?_) (fun h8 => ?_)
              · refine g_fload C (i := 15) dX11_comb_327 0 rfl ?_
                refine g_loc C [1, 2, 3, 4] rfl ?_
                exact J18 _ (((if_pos h7).trans (if_neg h8)))
              · refine g_fconst0 C dX11_comb_320 ?_
                refine g_fload C (i := 15) dX11_comb_321 0 rfl ?_
                refine g_fsub C dX11_comb_323 ?_
                refine g_goto C (tgt := 329) dX11_comb_324 (by decide) ?_
                refine g_loc C [1, 2, 3, 4] rfl ?_
                exact J18 _ (((if_pos h7).trans (if_pos h8)))
          refine g_if_eq C (tgt := 290) dX11_comb_267 (by decide) (fun h6 => ?_) (fun h6 => ?_)
          · refine g_fconst0 C dX11_comb_290 ?_
            refine g_loc C [1, 2, 3, 4, 0] rfl ?_
            exact J15 _ ((if_pos h6))
          · refine g_fload C (i := 9) dX11_comb_270 6 rfl ?_
            refine g_fload C (i := 10) dX11_comb_272 7 rfl ?_
            refine g_fmul C dX11_comb_274 ?_
            refine g_fload C (i := 8) dX11_comb_275 5 rfl ?_
            refine g_fload C (i := 11) dX11_comb_277 8 rfl ?_
            refine g_fmul C dX11_comb_279 ?_
            refine g_fsub C dX11_comb_280 ?_
            refine g_ldcf C kf_X11_187 dX11_comb_281 ?_
            refine g_fmul C dX11_comb_283 ?_
            refine g_fload C (i := 12) dX11_comb_284 9 rfl ?_
            refine g_fdiv C dX11_comb_286 ?_
            refine g_goto C (tgt := 291) dX11_comb_287 (by decide) ?_
            refine g_loc C [1, 2, 3, 4, 0] rfl ?_
            exact J15 _ ((if_neg h6))
        refine g_if_eq C (tgt := 262) dX11_comb_239 (by decide) (fun h5 => ?_) (fun h5 => ?_)
        · refine g_fconst0 C dX11_comb_262 ?_
          refine g_loc C [1, 2, 3, 4, 5, 6, 7, 8, 9, 0] rfl ?_
          exact J13 _ ((if_pos h5))
        · refine g_fload C (i := 8) dX11_comb_242 5 rfl ?_
          refine g_fload C (i := 10) dX11_comb_244 7 rfl ?_
          refine g_fmul C dX11_comb_246 ?_
          refine g_fload C (i := 9) dX11_comb_247 6 rfl ?_
          refine g_fload C (i := 11) dX11_comb_249 8 rfl ?_
          refine g_fmul C dX11_comb_251 ?_
          refine g_fadd C dX11_comb_252 ?_
          refine g_ldcf C kf_X11_187 dX11_comb_253 ?_
          refine g_fmul C dX11_comb_255 ?_
          refine g_fload C (i := 12) dX11_comb_256 9 rfl ?_
          refine g_fdiv C dX11_comb_258 ?_
          refine g_goto C (tgt := 263) dX11_comb_259 (by decide) ?_
          refine g_loc C [1, 2, 3, 4, 5, 6, 7, 8, 9, 0] rfl ?_
          exact J13 _ ((if_neg h5))
      refine g_if_eq C (tgt := 234) dX11_comb_220 (by decide) (fun h3 => ?_) (fun h3 => ?_)
      · refine g_iconst C (v := 0) dX11_comb_234 (by decide) ?_
        refine g_loc C [5, 6, 8, 9, 4, 3, 2, 1, 0] rfl ?_
        exact J11 _ ((if_pos h3))
      · refine g_fload C (i := 12) dX11_comb_223 0 rfl ?_
        refine g_fconst0 C dX11_comb_225 ?_
        refine g_fcmp C dX11_comb_226 ?_
        refine g_if_eq C (tgt := 234) dX11_comb_227 (by decide) (fun h4 => ?_) (fun h4 => ?_)
        · refine g_iconst C (v := 0) dX11_comb_234 (by decide) ?_
          refine g_loc C [5, 6, 8, 9, 4, 3, 2, 1, 0] rfl ?_
          exact J11 _ (((if_neg h3).trans (if_pos h4)))
        · refine g_iconst C (v := 1) dX11_comb_230 (by decide) ?_
          refine g_goto C (tgt := 235) dX11_comb_231 (by decide) ?_
          refine g_loc C [5, 6, 8, 9, 4, 3, 2, 1, 0] rfl ?_
          exact J11 _ (((if_neg h3).trans (if_neg h4)))
    · exact absurd (nI_le (Nat.le_refl _) (by decide)) h2
