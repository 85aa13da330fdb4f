/-! the reference -/
def f_X11_put (σ : Sg) (x : Int32) (y : Int32) (u : Int32) (v : Int32) : Sg := let σ1 : Sg := sw σ 54 x.toNatClampNeg y; let σ2 : Sg := sw σ1 55 x.toNatClampNeg u; let σ3 : Sg := sw σ2 56 x.toNatClampNeg v; σ3
theorem f_X11_put_eq (σ : Sg) (x : Int32) (y : Int32) (u : Int32) (v : Int32) : f_X11_put σ x y u v = (let σ1 : Sg := sw σ 54 x.toNatClampNeg y; let σ2 : Sg := sw σ1 55 x.toNatClampNeg u; let σ3 : Sg := sw σ2 56 x.toNatClampNeg v; σ3) := rfl
set_option maxRecDepth 100000 in
set_option maxHeartbeats 4000000 in
theorem c_X11_put (l : Launch) (D : va_G) (ad : Nat → Nat) (dA : Nat → ClassId) (z0 : Nat) (tt : Nat → Nat) (σ : Sg) (φ : Fl) (x : Int32) (y : Int32) (u : Int32) (v : Int32) (hx : vp_in x 80) : MC l D ad dA z0 tt yX11_put (Cond.code yX11_put cX11_put 5 none :: lw_all) { frames := 0, cells := 0, slots := 0, locals := 0 } [.ref (ad 53), .int x, .int y, .int u, .int v] σ φ (Fn none (f_X11_put σ x y u v) φ) := by
  refine mk_MC (by decide) (Nat.le_of_ble_eq_true rfl) ?_
  intro K C hi hf hv
  change K σ φ 0 [(0, .ref (ad 53)), (1, .int x), (2, .int y), (3, .int u), (4, .int v)] []
  refine g_aload_n C (i := 0) dX11_put_0 rfl 0 rfl ?_
  refine gg_53_0 C fl_X11_7 dX11_put_1 ?_
  refine g_iload_n C (i := 1) dX11_put_4 rfl 1 rfl ?_
  refine g_iload_n C (i := 2) dX11_put_5 rfl 2 rfl ?_
  refine sd_54 C hx dX11_put_6 ?_
  refine g_nms C (fun σ1 eσ1 => ?_)
  refine g_aload_n C (i := 0) dX11_put_7 rfl 0 rfl ?_
  refine gg_53_1 C fl_X11_13 dX11_put_8 ?_
  refine g_iload_n C (i := 1) dX11_put_11 rfl 1 rfl ?_
  refine g_iload_n C (i := 3) dX11_put_12 rfl 3 rfl ?_
  refine sd_55 C hx dX11_put_13 ?_
  refine g_nms C (fun σ2 eσ2 => ?_)
  refine g_aload_n C (i := 0) dX11_put_14 rfl 0 rfl ?_
  refine gg_53_2 C fl_X11_16 dX11_put_15 ?_
  refine g_iload_n C (i := 1) dX11_put_18 rfl 1 rfl ?_
  refine g_iload C (i := 4) dX11_put_19 4 rfl ?_
  refine sd_56 C hx dX11_put_21 ?_
  refine g_nms C (fun σ3 eσ3 => ?_)
  subst eσ3
  subst eσ2
  subst eσ1
  have e0 := (show f_X11_put σ x y u v = _ from rfl)
  exact hv _ _ _ _ rfl dX11_put_22 ⟨rfl, (congrArg (fun z => z) e0).symm, rfl⟩
def f_X11_setSegment (σ : Sg) (x : Int32) (y : Int32) (a : Int32) (b : Int32) (c : Int32) : Int32 × Sg := if (f_X11_noSegment x y) = 0 then (if (f_X11_isColor a b c) = 0 then ((-100002), σ) else (let v1 : Int32 := σ 54 ((10 * x) + y).toNatClampNeg; let σ2 : Sg := f_X11_put σ ((10 * x) + y) a b c; (v1, σ2))) else ((-100001), σ)
theorem f_X11_setSegment_eq (σ : Sg) (x : Int32) (y : Int32) (a : Int32) (b : Int32) (c : Int32) : f_X11_setSegment σ x y a b c = (if (f_X11_noSegment x y) = 0 then (if (f_X11_isColor a b c) = 0 then ((-100002), σ) else (let v1 : Int32 := σ 54 ((10 * x) + y).toNatClampNeg; let σ2 : Sg := f_X11_put σ ((10 * x) + y) a b c; (v1, σ2))) else ((-100001), σ)) := rfl
set_option maxRecDepth 100000 in
set_option maxHeartbeats 4000000 in
theorem c_X11_setSegment (l : Launch) (D : va_G) (ad : Nat → Nat) (dA : Nat → ClassId) (z0 : Nat) (tt : Nat → Nat) (σ : Sg) (φ : Fl) (x : Int32) (y : Int32) (a : Int32) (b : Int32) (c : Int32)  : MC l D ad dA z0 tt yX11_setSegment (Cond.code yX11_setSegment cX11_setSegment 7 (some .int) :: lw_all) { frames := 3, cells := 0, slots := 0, locals := 63 } [.ref (ad 53), .int x, .int y, .int a, .int b, .int c] σ φ (Fn (some (.int (f_X11_setSegment σ x y a b c).1)) (f_X11_setSegment σ x y a b c).2 φ) := by
  refine mk_MC (by decide) (Nat.le_of_ble_eq_true rfl) ?_
  intro K C hi hf hv
  change K σ φ 0 [(0, .ref (ad 53)), (1, .int x), (2, .int y), (3, .int a), (4, .int b), (5, .int c)] []
  refine g_iload_n C (i := 1) dX11_setSegment_0 rfl 1 rfl ?_
  refine g_iload_n C (i := 2) dX11_setSegment_1 rfl 2 rfl ?_
  refine g_callS C (st := []) (c_X11_noSegment l D ad dA z0 tt σ φ x y) rfl ml_X11_111 sm_X11_noSegment in_X11 co_X11_noSegment dyS_X11_noSegment rfl rfl ⟨(Nat.le_of_ble_eq_true rfl), (Nat.le_of_ble_eq_true rfl)⟩ dX11_setSegment_2 rfl (Nat.le_of_ble_eq_true rfl) (g_fni ?_)
  refine g_if_eq C (tgt := 11) dX11_setSegment_5 (by decide) (fun h1 => ?_) (fun h1 => ?_)
  · refine g_iload_n C (i := 3) dX11_setSegment_11 rfl 3 rfl ?_
    refine g_iload C (i := 4) dX11_setSegment_12 4 rfl ?_
    refine g_iload C (i := 5) dX11_setSegment_14 5 rfl ?_
    refine g_callS C (st := []) (c_X11_isColor l D ad dA z0 tt σ φ a b c) rfl ml_X11_116 sm_X11_isColor in_X11 co_X11_isColor dyS_X11_isColor rfl rfl ⟨(Nat.le_of_ble_eq_true rfl), (Nat.le_of_ble_eq_true rfl)⟩ dX11_setSegment_16 rfl (Nat.le_of_ble_eq_true rfl) (g_fni ?_)
    refine g_if_ne C (tgt := 25) dX11_setSegment_19 (by decide) (fun h2 => ?_) (fun h2 => ?_)
    · refine g_aload_n C (i := 0) dX11_setSegment_25 rfl 0 rfl ?_
      refine gg_53_0 C fl_X11_7 dX11_setSegment_26 ?_
      refine g_bipush C (v := 10) dX11_setSegment_29 (by decide) ?_
      refine g_iload_n C (i := 1) dX11_setSegment_31 rfl 1 rfl ?_
      refine g_imul C dX11_setSegment_32 ?_
      refine g_iload_n C (i := 2) dX11_setSegment_33 rfl 2 rfl ?_
      refine g_iadd C dX11_setSegment_34 ?_
      refine ld_54 C (pm_in (ns_in h1).1 (ns_in h1).2) dX11_setSegment_35 ?_
      refine g_nmi C (fun v1 ev1 => ?_)
      refine g_istore C (i := 6) (lv' := [(6, .int v1), (0, .ref (ad 53)), (1, .int x), (2, .int y), (3, .int a), (4, .int b), (5, .int c)]) dX11_setSegment_36 (by decide) rfl ?_
      refine g_aload_n C (i := 0) dX11_setSegment_38 rfl 1 rfl ?_
      refine g_bipush C (v := 10) dX11_setSegment_39 (by decide) ?_
      refine g_iload_n C (i := 1) dX11_setSegment_41 rfl 2 rfl ?_
      refine g_imul C dX11_setSegment_42 ?_
      refine g_iload_n C (i := 2) dX11_setSegment_43 rfl 3 rfl ?_
      refine g_iadd C dX11_setSegment_44 ?_
      refine g_iload_n C (i := 3) dX11_setSegment_45 rfl 4 rfl ?_
      refine g_iload C (i := 4) dX11_setSegment_46 5 rfl ?_
      refine g_iload C (i := 5) dX11_setSegment_48 6 rfl ?_
      refine g_callV C (st := []) (c_X11_put l D ad dA z0 tt σ φ ((10 * x) + y) a b c (pm_in (ns_in h1).1 (ns_in h1).2)) rfl ml_X11_120 im_X11_put se_X11_put in_X11 co_X11_put dyV_X11_put rfl rfl ⟨(Nat.le_of_ble_eq_true rfl), (Nat.le_of_ble_eq_true rfl)⟩ 53 11 (fun f => at_53 ad dA σ f) rfl dX11_setSegment_50 rfl (Nat.le_of_ble_eq_true rfl) (g_fnv ?_)
      refine g_nms C (fun σ2 eσ2 => ?_)
      refine g_iload C (i := 6) dX11_setSegment_53 0 rfl ?_
      subst eσ2
      subst ev1
      have e0 := (show f_X11_setSegment σ x y a b c = _ from ((f_X11_setSegment_eq _ _ _ _ _ _).trans ((if_pos h1).trans (if_neg h2))))
      exact hi _ _ _ _ _ _ rfl dX11_setSegment_55 rfl ⟨(congrArg (fun z => some (Value.int z.1)) e0).symm, (congrArg (fun z => z.2) e0).symm, rfl⟩
    · refine g_ldc C kc_X11_119 dX11_setSegment_22 ?_
      have e0 := (show f_X11_setSegment σ x y a b c = _ from ((f_X11_setSegment_eq _ _ _ _ _ _).trans ((if_pos h1).trans (if_pos h2))))
      exact hi _ _ _ _ _ _ rfl dX11_setSegment_24 rfl ⟨(congrArg (fun z => some (Value.int z.1)) e0).symm, (congrArg (fun z => z.2) e0).symm, rfl⟩
  · refine g_ldc C kc_X11_115 dX11_setSegment_8 ?_
    have e0 := (show f_X11_setSegment σ x y a b c = _ from ((f_X11_setSegment_eq _ _ _ _ _ _).trans (if_neg h1)))
    exact hi _ _ _ _ _ _ rfl dX11_setSegment_10 rfl ⟨(congrArg (fun z => some (Value.int z.1)) e0).symm, (congrArg (fun z => z.2) e0).symm, rfl⟩
def f_X11_setLine (σ : Sg) (x : Int32) (a : Int32) (b : Int32) (c : Int32) (d : Int32) : Int32 × Sg := if (f_X11_noLine x) = 0 then (if (f_X11_in a (-4) 4) = 0 then ((-100002), σ) else (if (f_X11_in b 0 40) = 0 then ((-100002), σ) else (if (f_X11_in c 0 3) = 0 then ((-100002), σ) else (if (f_X11_in d 0 9) = 0 then ((-100002), σ) else (let σ1 : Sg := sw σ 57 x.toNatClampNeg a; let σ2 : Sg := sw σ1 58 x.toNatClampNeg b; let σ3 : Sg := sw σ2 59 x.toNatClampNeg c; let σ4 : Sg := sw σ3 60 x.toNatClampNeg d; let σ5 : Sg := sw σ4 61 x.toNatClampNeg (vp_nar .boolean 0); (σ 57 x.toNatClampNeg, σ5)))))) else ((-100001), σ)
theorem f_X11_setLine_eq (σ : Sg) (x : Int32) (a : Int32) (b : Int32) (c : Int32) (d : Int32) : f_X11_setLine σ x a b c d = (if (f_X11_noLine x) = 0 then (if (f_X11_in a (-4) 4) = 0 then ((-100002), σ) else (if (f_X11_in b 0 40) = 0 then ((-100002), σ) else (if (f_X11_in c 0 3) = 0 then ((-100002), σ) else (if (f_X11_in d 0 9) = 0 then ((-100002), σ) else (let σ1 : Sg := sw σ 57 x.toNatClampNeg a; let σ2 : Sg := sw σ1 58 x.toNatClampNeg b; let σ3 : Sg := sw σ2 59 x.toNatClampNeg c; let σ4 : Sg := sw σ3 60 x.toNatClampNeg d; let σ5 : Sg := sw σ4 61 x.toNatClampNeg (vp_nar .boolean 0); (σ 57 x.toNatClampNeg, σ5)))))) else ((-100001), σ)) := rfl
set_option maxRecDepth 100000 in
set_option maxHeartbeats 4000000 in
theorem c_X11_setLine (l : Launch) (D : va_G) (ad : Nat → Nat) (dA : Nat → ClassId) (z0 : Nat) (tt : Nat → Nat) (σ : Sg) (φ : Fl) (x : Int32) (a : Int32) (b : Int32) (c : Int32) (d : Int32)  : MC l D ad dA z0 tt yX11_setLine (Cond.code yX11_setLine cX11_setLine 7 (some .int) :: lw_all) { frames := 2, cells := 0, slots := 0, locals := 42 } [.ref (ad 53), .int x, .int a, .int b, .int c, .int d] σ φ (Fn (some (.int (f_X11_setLine σ x a b c d).1)) (f_X11_setLine σ x a b c d).2 φ) := by
  refine mk_MC (by decide) (Nat.le_of_ble_eq_true rfl) ?_
  intro K C hi hf hv
  change K σ φ 0 [(0, .ref (ad 53)), (1, .int x), (2, .int a), (3, .int b), (4, .int c), (5, .int d)] []
  refine g_iload_n C (i := 1) dX11_setLine_0 rfl 1 rfl ?_
  refine g_callS C (st := []) (c_X11_noLine l D ad dA z0 tt σ φ x) rfl ml_X11_107 sm_X11_noLine in_X11 co_X11_noLine dyS_X11_noLine rfl rfl ⟨(Nat.le_of_ble_eq_true rfl), (Nat.le_of_ble_eq_true rfl)⟩ dX11_setLine_1 rfl (Nat.le_of_ble_eq_true rfl) (g_fni ?_)
  refine g_if_eq C (tgt := 10) dX11_setLine_4 (by decide) (fun h1 => ?_) (fun h1 => ?_)
  · refine g_iload_n C (i := 2) dX11_setLine_10 rfl 2 rfl ?_
    refine g_bipush C (v := (-4)) dX11_setLine_11 (by decide) ?_
    refine g_iconst C (v := 4) dX11_setLine_13 (by decide) ?_
    refine g_callS C (st := []) (c_X11_in l D ad dA z0 tt σ φ a (-4) 4) rfl ml_X11_103 sm_X11_in in_X11 co_X11_in dyS_X11_in rfl rfl ⟨(Nat.le_of_ble_eq_true rfl), (Nat.le_of_ble_eq_true rfl)⟩ dX11_setLine_14 rfl (Nat.le_of_ble_eq_true rfl) (g_fni ?_)
    refine g_if_eq C (tgt := 51) dX11_setLine_17 (by decide) (fun h2 => ?_) (fun h2 => ?_)
    · refine g_ldc C kc_X11_119 dX11_setLine_51 ?_
      have e0 := (show f_X11_setLine σ x a b c d = _ from ((f_X11_setLine_eq _ _ _ _ _ _).trans ((if_pos h1).trans (if_pos h2))))
      exact hi _ _ _ _ _ _ rfl dX11_setLine_53 rfl ⟨(congrArg (fun z => some (Value.int z.1)) e0).symm, (congrArg (fun z => z.2) e0).symm, rfl⟩
    · refine g_iload_n C (i := 3) dX11_setLine_20 rfl 3 rfl ?_
      refine g_iconst C (v := 0) dX11_setLine_21 (by decide) ?_
      refine g_bipush C (v := 40) dX11_setLine_22 (by decide) ?_
      refine g_callS C (st := []) (c_X11_in l D ad dA z0 tt σ φ b 0 40) rfl ml_X11_103 sm_X11_in in_X11 co_X11_in dyS_X11_in rfl rfl ⟨(Nat.le_of_ble_eq_true rfl), (Nat.le_of_ble_eq_true rfl)⟩ dX11_setLine_24 rfl (Nat.le_of_ble_eq_true rfl) (g_fni ?_)
      refine g_if_eq C (tgt := 51) dX11_setLine_27 (by decide) (fun h3 => ?_) (fun h3 => ?_)
      · refine g_ldc C kc_X11_119 dX11_setLine_51 ?_
        have e0 := (show f_X11_setLine σ x a b c d = _ from ((f_X11_setLine_eq _ _ _ _ _ _).trans ((if_pos h1).trans ((if_neg h2).trans (if_pos h3)))))
        exact hi _ _ _ _ _ _ rfl dX11_setLine_53 rfl ⟨(congrArg (fun z => some (Value.int z.1)) e0).symm, (congrArg (fun z => z.2) e0).symm, rfl⟩
      · refine g_iload C (i := 4) dX11_setLine_30 4 rfl ?_
        refine g_iconst C (v := 0) dX11_setLine_32 (by decide) ?_
        refine g_iconst C (v := 3) dX11_setLine_33 (by decide) ?_
        refine g_callS C (st := []) (c_X11_in l D ad dA z0 tt σ φ c 0 3) rfl ml_X11_103 sm_X11_in in_X11 co_X11_in dyS_X11_in rfl rfl ⟨(Nat.le_of_ble_eq_true rfl), (Nat.le_of_ble_eq_true rfl)⟩ dX11_setLine_34 rfl (Nat.le_of_ble_eq_true rfl) (g_fni ?_)
        refine g_if_eq C (tgt := 51) dX11_setLine_37 (by decide) (fun h4 => ?_) (fun h4 => ?_)
        · refine g_ldc C kc_X11_119 dX11_setLine_51 ?_
          have e0 := (show f_X11_setLine σ x a b c d = _ from ((f_X11_setLine_eq _ _ _ _ _ _).trans ((if_pos h1).trans ((if_neg h2).trans ((if_neg h3).trans (if_pos h4))))))
          exact hi _ _ _ _ _ _ rfl dX11_setLine_53 rfl ⟨(congrArg (fun z => some (Value.int z.1)) e0).symm, (congrArg (fun z => z.2) e0).symm, rfl⟩
        · refine g_iload C (i := 5) dX11_setLine_40 5 rfl ?_
          refine g_iconst C (v := 0) dX11_setLine_42 (by decide) ?_
          refine g_bipush C (v := 9) dX11_setLine_43 (by decide) ?_
          refine g_callS C (st := []) (c_X11_in l D ad dA z0 tt σ φ d 0 9) rfl ml_X11_103 sm_X11_in in_X11 co_X11_in dyS_X11_in rfl rfl ⟨(Nat.le_of_ble_eq_true rfl), (Nat.le_of_ble_eq_true rfl)⟩ dX11_setLine_45 rfl (Nat.le_of_ble_eq_true rfl) (g_fni ?_)
          refine g_if_ne C (tgt := 54) dX11_setLine_48 (by decide) (fun h5 => ?_) (fun h5 => ?_)
          · refine g_aload_n C (i := 0) dX11_setLine_54 rfl 0 rfl ?_
            refine gg_53_3 C fl_X11_19 dX11_setLine_55 ?_
            refine g_iload_n C (i := 1) dX11_setLine_58 rfl 1 rfl ?_
            refine ld_57 C (nl_in h1) dX11_setLine_59 ?_
            refine g_istore C (i := 6) (lv' := [(6, .int (σ 57 x.toNatClampNeg)), (0, .ref (ad 53)), (1, .int x), (2, .int a), (3, .int b), (4, .int c), (5, .int d)]) dX11_setLine_60 (by decide) rfl ?_
            refine g_aload_n C (i := 0) dX11_setLine_62 rfl 1 rfl ?_
            refine gg_53_3 C fl_X11_19 dX11_setLine_63 ?_
            refine g_iload_n C (i := 1) dX11_setLine_66 rfl 2 rfl ?_
            refine g_iload_n C (i := 2) dX11_setLine_67 rfl 3 rfl ?_
            refine sd_57 C (nl_in h1) dX11_setLine_68 ?_
            refine g_nms C (fun σ1 eσ1 => ?_)
            refine g_aload_n C (i := 0) dX11_setLine_69 rfl 1 rfl ?_
            refine gg_53_4 C fl_X11_22 dX11_setLine_70 ?_
            refine g_iload_n C (i := 1) dX11_setLine_73 rfl 2 rfl ?_
            refine g_iload_n C (i := 3) dX11_setLine_74 rfl 4 rfl ?_
            refine sd_58 C (nl_in h1) dX11_setLine_75 ?_
            refine g_nms C (fun σ2 eσ2 => ?_)
            refine g_aload_n C (i := 0) dX11_setLine_76 rfl 1 rfl ?_
            refine gg_53_5 C fl_X11_25 dX11_setLine_77 ?_
            refine g_iload_n C (i := 1) dX11_setLine_80 rfl 2 rfl ?_
            refine g_iload C (i := 4) dX11_setLine_81 5 rfl ?_
            refine sd_59 C (nl_in h1) dX11_setLine_83 ?_
            refine g_nms C (fun σ3 eσ3 => ?_)
            refine g_aload_n C (i := 0) dX11_setLine_84 rfl 1 rfl ?_
            refine gg_53_6 C fl_X11_28 dX11_setLine_85 ?_
            refine g_iload_n C (i := 1) dX11_setLine_88 rfl 2 rfl ?_
            refine g_iload C (i := 5) dX11_setLine_89 6 rfl ?_
            refine sd_60 C (nl_in h1) dX11_setLine_91 ?_
            refine g_nms C (fun σ4 eσ4 => ?_)
            refine g_aload_n C (i := 0) dX11_setLine_92 rfl 1 rfl ?_
            refine gg_53_7 C fl_X11_31 dX11_setLine_93 ?_
            refine g_iload_n C (i := 1) dX11_setLine_96 rfl 2 rfl ?_
            refine g_iconst C (v := 0) dX11_setLine_97 (by decide) ?_
            refine sd_61 C (nl_in h1) dX11_setLine_98 ?_
            refine g_nms C (fun σ5 eσ5 => ?_)
            refine g_iload C (i := 6) dX11_setLine_99 0 rfl ?_
            subst eσ5
            subst eσ4
            subst eσ3
            subst eσ2
            subst eσ1
            have e0 := (show f_X11_setLine σ x a b c d = _ from ((f_X11_setLine_eq _ _ _ _ _ _).trans ((if_pos h1).trans ((if_neg h2).trans ((if_neg h3).trans ((if_neg h4).trans (if_neg h5)))))))
            exact hi _ _ _ _ _ _ rfl dX11_setLine_101 rfl ⟨(congrArg (fun z => some (Value.int z.1)) e0).symm, (congrArg (fun z => z.2) e0).symm, rfl⟩
          · refine g_ldc C kc_X11_119 dX11_setLine_51 ?_
            have e0 := (show f_X11_setLine σ x a b c d = _ from ((f_X11_setLine_eq _ _ _ _ _ _).trans ((if_pos h1).trans ((if_neg h2).trans ((if_neg h3).trans ((if_neg h4).trans (if_pos h5)))))))
            exact hi _ _ _ _ _ _ rfl dX11_setLine_53 rfl ⟨(congrArg (fun z => some (Value.int z.1)) e0).symm, (congrArg (fun z => z.2) e0).symm, rfl⟩
  · refine g_ldc C kc_X11_115 dX11_setLine_7 ?_
    have e0 := (show f_X11_setLine σ x a b c d = _ from ((f_X11_setLine_eq _ _ _ _ _ _).trans (if_neg h1)))
    exact hi _ _ _ _ _ _ rfl dX11_setLine_9 rfl ⟨(congrArg (fun z => some (Value.int z.1)) e0).symm, (congrArg (fun z => z.2) e0).symm, rfl⟩
def f_X11_miss (σ : Sg) (x : Int32) (a : Int32) : Int32 × Sg := if (f_X11_noLine x) = 0 then (let v1 : Int32 := (if (σ 61 x.toNatClampNeg) = 0 then 0 else 1); let σ3 : Sg := sw σ 61 x.toNatClampNeg (vp_nar .boolean a); (v1, σ3)) else ((-100001), σ)
theorem f_X11_miss_eq (σ : Sg) (x : Int32) (a : Int32) : f_X11_miss σ x a = (if (f_X11_noLine x) = 0 then (let v1 : Int32 := (if (σ 61 x.toNatClampNeg) = 0 then 0 else 1); let σ3 : Sg := sw σ 61 x.toNatClampNeg (vp_nar .boolean a); (v1, σ3)) else ((-100001), σ)) := rfl
set_option maxRecDepth 100000 in
set_option maxHeartbeats 4000000 in
theorem c_X11_miss (l : Launch) (D : va_G) (ad : Nat → Nat) (dA : Nat → ClassId) (z0 : Nat) (tt : Nat → Nat) (σ : Sg) (φ : Fl) (x : Int32) (a : Int32)  : MC l D ad dA z0 tt yX11_miss (Cond.code yX11_miss cX11_miss 4 (some .int) :: lw_all) { frames := 2, cells := 0, slots := 0, locals := 42 } [.ref (ad 53), .int x, .int a] σ φ (Fn (some (.int (f_X11_miss σ x a).1)) (f_X11_miss σ x a).2 φ) := by
  refine mk_MC (by decide) (Nat.le_of_ble_eq_true rfl) ?_
  intro K C hi hf hv
  change K σ φ 0 [(0, .ref (ad 53)), (1, .int x), (2, .int a)] []
  refine g_iload_n C (i := 1) dX11_miss_0 rfl 1 rfl ?_
  refine g_callS C (st := []) (c_X11_noLine l D ad dA z0 tt σ φ x) rfl ml_X11_107 sm_X11_noLine in_X11 co_X11_noLine dyS_X11_noLine rfl rfl ⟨(Nat.le_of_ble_eq_true rfl), (Nat.le_of_ble_eq_true rfl)⟩ dX11_miss_1 rfl (Nat.le_of_ble_eq_true rfl) (g_fni ?_)
  refine g_if_eq C (tgt := 10) dX11_miss_4 (by decide) (fun h1 => ?_) (fun h1 => ?_)
  · refine g_aload_n C (i := 0) dX11_miss_10 rfl 0 rfl ?_
    refine gg_53_7 C fl_X11_31 dX11_miss_11 ?_
    refine g_iload_n C (i := 1) dX11_miss_14 rfl 1 rfl ?_
    refine ld_61 C (nl_in h1) dX11_miss_15 ?_
    have J2 : ∀ (v1 : Int32), (if (σ 61 x.toNatClampNeg) = 0 then 0 else 1) = v1 → K σ φ 24 [(0, .ref (ad 53)), (1, .int x), (2, .int a)] [.int v1] := by
      intro v1 ev1
      refine g_istore_n C (i := 3) (lv' := [(3, .int v1), (0, .ref (ad 53)), (1, .int x), (2, .int a)]) dX11_miss_24 rfl (by decide) rfl ?_
      refine g_aload_n C (i := 0) dX11_miss_25 rfl 1 rfl ?_
      refine gg_53_7 C fl_X11_31 dX11_miss_26 ?_
      refine g_iload_n C (i := 1) dX11_miss_29 rfl 2 rfl ?_
      refine g_iload_n C (i := 2) dX11_miss_30 rfl 3 rfl ?_
      refine sd_61 C (nl_in h1) dX11_miss_31 ?_
      refine g_nms C (fun σ3 eσ3 => ?_)
      refine g_iload_n C (i := 3) dX11_miss_32 rfl 0 rfl ?_
      subst eσ3
      subst ev1
      have e0 := (show f_X11_miss σ x a = _ from ((f_X11_miss_eq _ _ _).trans (if_pos h1)))
      exact hi _ _ _ _ _ _ rfl dX11_miss_33 rfl ⟨(congrArg (fun z => some (Value.int z.1)) e0).symm, (congrArg (fun z => z.2) e0).symm, rfl⟩
    refine g_if_eq C (tgt := 23) dX11_miss_16 (by decide) (fun h2 => ?_) (fun h2 => ?_)
    · refine g_iconst C (v := 0) dX11_miss_23 (by decide) ?_
      refine g_loc C [0, 1, 2] rfl ?_
      exact J2 _ ((if_pos h2))
    · refine g_iconst C (v := 1) dX11_miss_19 (by decide) ?_
      refine g_goto C (tgt := 24) dX11_miss_20 (by decide) ?_
      refine g_loc C [0, 1, 2] rfl ?_
      exact J2 _ ((if_neg h2))
  · refine g_ldc C kc_X11_115 dX11_miss_7 ?_
    have e0 := (show f_X11_miss σ x a = _ from ((f_X11_miss_eq _ _ _).trans (if_neg h1)))
    exact hi _ _ _ _ _ _ rfl dX11_miss_9 rfl ⟨(congrArg (fun z => some (Value.int z.1)) e0).symm, (congrArg (fun z => z.2) e0).symm, rfl⟩
def f_X11_setStandard (σ : Sg) (x : Int32) : Int32 × Sg := if (f_X11_in x 0 1) = 0 then ((-100002), σ) else (let σ1 : Sg := sw σ 53 8 x; (σ 53 8, σ1))
theorem f_X11_setStandard_eq (σ : Sg) (x : Int32) : f_X11_setStandard σ x = (if (f_X11_in x 0 1) = 0 then ((-100002), σ) else (let σ1 : Sg := sw σ 53 8 x; (σ 53 8, σ1))) := rfl
set_option maxRecDepth 100000 in
set_option maxHeartbeats 4000000 in
theorem c_X11_setStandard (l : Launch) (D : va_G) (ad : Nat → Nat) (dA : Nat → ClassId) (z0 : Nat) (tt : Nat → Nat) (σ : Sg) (φ : Fl) (x : Int32)  : MC l D ad dA z0 tt yX11_setStandard (Cond.code yX11_setStandard cX11_setStandard 3 (some .int) :: lw_all) { frames := 1, cells := 0, slots := 0, locals := 22 } [.ref (ad 53), .int x] σ φ (Fn (some (.int (f_X11_setStandard σ x).1)) (f_X11_setStandard σ x).2 φ) := by
  refine mk_MC (by decide) (Nat.le_of_ble_eq_true rfl) ?_
  intro K C hi hf hv
  change K σ φ 0 [(0, .ref (ad 53)), (1, .int x)] []
  refine g_iload_n C (i := 1) dX11_setStandard_0 rfl 1 rfl ?_
  refine g_iconst C (v := 0) dX11_setStandard_1 (by decide) ?_
  refine g_iconst C (v := 1) dX11_setStandard_2 (by decide) ?_
  refine g_callS C (st := []) (c_X11_in l D ad dA z0 tt σ φ x 0 1) rfl ml_X11_103 sm_X11_in in_X11 co_X11_in dyS_X11_in rfl rfl ⟨(Nat.le_of_ble_eq_true rfl), (Nat.le_of_ble_eq_true rfl)⟩ dX11_setStandard_3 rfl (Nat.le_of_ble_eq_true rfl) (g_fni ?_)
  refine g_if_ne C (tgt := 12) dX11_setStandard_6 (by decide) (fun h1 => ?_) (fun h1 => ?_)
  · refine g_aload_n C (i := 0) dX11_setStandard_12 rfl 0 rfl ?_
    refine gg_53_8 C fl_X11_124 dX11_setStandard_13 ?_
    refine g_istore_n C (i := 2) (lv' := [(2, .int (σ 53 8)), (0, .ref (ad 53)), (1, .int x)]) dX11_setStandard_16 rfl (by decide) rfl ?_
    refine g_aload_n C (i := 0) dX11_setStandard_17 rfl 1 rfl ?_
    refine g_iload_n C (i := 1) dX11_setStandard_18 rfl 2 rfl ?_
    refine gp_53_8 C fl_X11_124 dX11_setStandard_19 ?_
    refine g_nms C (fun σ1 eσ1 => ?_)
    refine g_iload_n C (i := 2) dX11_setStandard_22 rfl 0 rfl ?_
    subst eσ1
    have e0 := (show f_X11_setStandard σ x = _ from ((f_X11_setStandard_eq _ _).trans (if_neg h1)))
    exact hi _ _ _ _ _ _ rfl dX11_setStandard_23 rfl ⟨(congrArg (fun z => some (Value.int z.1)) e0).symm, (congrArg (fun z => z.2) e0).symm, rfl⟩
  · refine g_ldc C kc_X11_119 dX11_setStandard_9 ?_
    have e0 := (show f_X11_setStandard σ x = _ from ((f_X11_setStandard_eq _ _).trans (if_pos h1)))
    exact hi _ _ _ _ _ _ rfl dX11_setStandard_11 rfl ⟨(congrArg (fun z => some (Value.int z.1)) e0).symm, (congrArg (fun z => z.2) e0).symm, rfl⟩
def f_X11_type (σ : Sg) (x : Int32) : Int32 × Sg := if (σ 53 10) = 60 then ((-100003), σ) else (let σ1 : Sg := sw σ 63 (σ 53 10).toNatClampNeg (vp_nar .char x); let σ2 : Sg := sw σ1 53 10 ((σ1 53 10) + 1); (σ2 53 10, σ2))
theorem f_X11_type_eq (σ : Sg) (x : Int32) : f_X11_type σ x = (if (σ 53 10) = 60 then ((-100003), σ) else (let σ1 : Sg := sw σ 63 (σ 53 10).toNatClampNeg (vp_nar .char x); let σ2 : Sg := sw σ1 53 10 ((σ1 53 10) + 1); (σ2 53 10, σ2))) := rfl
set_option maxRecDepth 100000 in
set_option maxHeartbeats 4000000 in
theorem c_X11_type (l : Launch) (D : va_G) (ad : Nat → Nat) (dA : Nat → ClassId) (z0 : Nat) (tt : Nat → Nat) (σ : Sg) (φ : Fl) (x : Int32) (hu : vp_in (σ 53 10) 61) : MC l D ad dA z0 tt yX11_type (Cond.code yX11_type cX11_type 2 (some .int) :: lw_all) { frames := 0, cells := 0, slots := 0, locals := 0 } [.ref (ad 53), .int x] σ φ (Fn (some (.int (f_X11_type σ x).1)) (f_X11_type σ x).2 φ) := by
  refine mk_MC (by decide) (Nat.le_of_ble_eq_true rfl) ?_
  intro K C hi hf hv
  change K σ φ 0 [(0, .ref (ad 53)), (1, .int x)] []
  refine g_aload_n C (i := 0) dX11_type_0 rfl 0 rfl ?_
  refine gg_53_10 C fl_X11_128 dX11_type_1 ?_
  refine g_bipush C (v := 60) dX11_type_4 (by decide) ?_
  refine g_icmp_ne C (tgt := 12) dX11_type_6 (by decide) (fun h1 => ?_) (fun h1 => ?_)
  · refine g_aload_n C (i := 0) dX11_type_12 rfl 0 rfl ?_
    refine gg_53_11 C fl_X11_38 dX11_type_13 ?_
    refine g_aload_n C (i := 0) dX11_type_16 rfl 0 rfl ?_
    refine gg_53_10 C fl_X11_128 dX11_type_17 ?_
    refine g_iload_n C (i := 1) dX11_type_20 rfl 1 rfl ?_
    refine sd_63 C (ty_in hu h1) dX11_type_21 ?_
    refine g_nms C (fun σ1 eσ1 => ?_)
    refine g_aload_n C (i := 0) dX11_type_22 rfl 0 rfl ?_
    refine g_dup C dX11_type_23 rfl ?_
    refine gg_53_10 C fl_X11_128 dX11_type_24 ?_
    refine g_iconst C (v := 1) dX11_type_27 (by decide) ?_
    refine g_iadd C dX11_type_28 ?_
    refine gp_53_10 C fl_X11_128 dX11_type_29 ?_
    refine g_nms C (fun σ2 eσ2 => ?_)
    refine g_aload_n C (i := 0) dX11_type_32 rfl 0 rfl ?_
    refine gg_53_10 C fl_X11_128 dX11_type_33 ?_
    subst eσ2
    subst eσ1
    have e0 := (show f_X11_type σ x = _ from ((f_X11_type_eq _ _).trans (if_neg h1)))
    exact hi _ _ _ _ _ _ rfl dX11_type_36 rfl ⟨(congrArg (fun z => some (Value.int z.1)) e0).symm, (congrArg (fun z => z.2) e0).symm, rfl⟩
  · refine g_ldc C kc_X11_131 dX11_type_9 ?_
    have e0 := (show f_X11_type σ x = _ from ((f_X11_type_eq _ _).trans (if_pos h1)))
    exact hi _ _ _ _ _ _ rfl dX11_type_11 rfl ⟨(congrArg (fun z => some (Value.int z.1)) e0).symm, (congrArg (fun z => z.2) e0).symm, rfl⟩
def f_X11_clearText (σ : Sg) : Int32 × Sg := let σ1 : Sg := sw σ 53 10 0; (σ 53 10, σ1)
theorem f_X11_clearText_eq (σ : Sg) : f_X11_clearText σ = (let σ1 : Sg := sw σ 53 10 0; (σ 53 10, σ1)) := rfl
set_option maxRecDepth 100000 in
set_option maxHeartbeats 4000000 in
theorem c_X11_clearText (l : Launch) (D : va_G) (ad : Nat → Nat) (dA : Nat → ClassId) (z0 : Nat) (tt : Nat → Nat) (σ : Sg) (φ : Fl)   : MC l D ad dA z0 tt yX11_clearText (Cond.code yX11_clearText cX11_clearText 2 (some .int) :: lw_all) { frames := 0, cells := 0, slots := 0, locals := 0 } [.ref (ad 53)] σ φ (Fn (some (.int (f_X11_clearText σ).1)) (f_X11_clearText σ).2 φ) := by
  refine mk_MC (by decide) (Nat.le_of_ble_eq_true rfl) ?_
  intro K C hi hf hv
  change K σ φ 0 [(0, .ref (ad 53))] []
  refine g_aload_n C (i := 0) dX11_clearText_0 rfl 0 rfl ?_
  refine gg_53_10 C fl_X11_128 dX11_clearText_1 ?_
  refine g_istore_n C (i := 1) (lv' := [(1, .int (σ 53 10)), (0, .ref (ad 53))]) dX11_clearText_4 rfl (by decide) rfl ?_
  refine g_aload_n C (i := 0) dX11_clearText_5 rfl 1 rfl ?_
  refine g_iconst C (v := 0) dX11_clearText_6 (by decide) ?_
  refine gp_53_10 C fl_X11_128 dX11_clearText_7 ?_
  refine g_nms C (fun σ1 eσ1 => ?_)
  refine g_iload_n C (i := 1) dX11_clearText_10 rfl 0 rfl ?_
  subst eσ1
  have e0 := (show f_X11_clearText σ = _ from rfl)
  exact hi _ _ _ _ _ _ rfl dX11_clearText_11 rfl ⟨(congrArg (fun z => some (Value.int z.1)) e0).symm, (congrArg (fun z => z.2) e0).symm, rfl⟩
def f_X11_barOf (x : Int32) : Int32 := if x = 98 then 6 else (if x = 99 then 2 else (if x = 100 then (-100004) else (if x = 101 then (-100004) else (if x = 102 then (-100004) else (if x = 103 then 3 else (if x = 104 then (-100004) else (if x = 105 then (-100004) else (if x = 106 then (-100004) else (if x = 107 then 7 else (if x = 108 then (-100004) else (if x = 109 then 4 else (if x = 110 then (-100004) else (if x = 111 then (-100004) else (if x = 112 then (-100004) else (if x = 113 then (-100004) else (if x = 114 then 5 else (if x = 115 then (-100004) else (if x = 116 then (-100004) else (if x = 117 then (-100004) else (if x = 118 then (-100004) else (if x = 119 then 0 else (if x = 120 then (-100004) else (if x = 121 then 1 else (-100004))))))))))))))))))))))))
theorem f_X11_barOf_eq (x : Int32) : f_X11_barOf x = (if x = 98 then 6 else (if x = 99 then 2 else (if x = 100 then (-100004) else (if x = 101 then (-100004) else (if x = 102 then (-100004) else (if x = 103 then 3 else (if x = 104 then (-100004) else (if x = 105 then (-100004) else (if x = 106 then (-100004) else (if x = 107 then 7 else (if x = 108 then (-100004) else (if x = 109 then 4 else (if x = 110 then (-100004) else (if x = 111 then (-100004) else (if x = 112 then (-100004) else (if x = 113 then (-100004) else (if x = 114 then 5 else (if x = 115 then (-100004) else (if x = 116 then (-100004) else (if x = 117 then (-100004) else (if x = 118 then (-100004) else (if x = 119 then 0 else (if x = 120 then (-100004) else (if x = 121 then 1 else (-100004))))))))))))))))))))))))) := rfl
set_option maxRecDepth 100000 in
set_option maxHeartbeats 4000000 in
theorem c_X11_barOf (l : Launch) (D : va_G) (ad : Nat → Nat) (dA : Nat → ClassId) (z0 : Nat) (tt : Nat → Nat) (σ : Sg) (φ : Fl) (x : Int32)  : MC l D ad dA z0 tt yX11_barOf (Cond.code yX11_barOf cX11_barOf 1 (some .int) :: lw_all) { frames := 0, cells := 0, slots := 0, locals := 0 } [.int x] σ φ (Fn (some (.int (f_X11_barOf x))) σ φ) := by
  refine mk_MC (by decide) (Nat.le_of_ble_eq_true rfl) ?_
  intro K C hi hf hv
  change K σ φ 0 [(0, .int x)] []
  refine g_iload_n C (i := 0) dX11_barOf_0 rfl 0 rfl ?_
  by_cases h1 : x = 98
  · refine g_tableIn C (tgt := 124) (off := 123) dX11_barOf_1 (by rw [h1]; decide) (by rw [h1]; decide) (by rw [h1]; rfl) (by decide) ?_
    refine g_bipush C (v := 6) dX11_barOf_124 (by decide) ?_
    have e0 := (show f_X11_barOf x = _ from ((f_X11_barOf_eq _).trans (if_pos h1)))
    exact hi _ _ _ _ _ _ rfl dX11_barOf_126 rfl ⟨(congrArg (fun z => some (Value.int z)) e0).symm, rfl, rfl⟩
  · skip
    by_cases h2 : x = 99
    · refine g_tableIn C (tgt := 116) (off := 115) dX11_barOf_1 (by rw [h2]; decide) (by rw [h2]; decide) (by rw [h2]; rfl) (by decide) ?_
      refine g_iconst C (v := 2) dX11_barOf_116 (by decide) ?_
      have e0 := (show f_X11_barOf x = _ from ((f_X11_barOf_eq _).trans ((if_neg h1).trans (if_pos h2))))
      exact hi _ _ _ _ _ _ rfl dX11_barOf_117 rfl ⟨(congrArg (fun z => some (Value.int z)) e0).symm, rfl, rfl⟩
    · skip
      by_cases h3 : x = 100
      · refine g_tableIn C (tgt := 130) (off := 129) dX11_barOf_1 (by rw [h3]; decide) (by rw [h3]; decide) (by rw [h3]; rfl) (by decide) ?_
        refine g_ldc C kc_X11_132 dX11_barOf_130 ?_
        have e0 := (show f_X11_barOf x = _ from ((f_X11_barOf_eq _).trans ((if_neg h1).trans ((if_neg h2).trans (if_pos h3)))))
        exact hi _ _ _ _ _ _ rfl dX11_barOf_132 rfl ⟨(congrArg (fun z => some (Value.int z)) e0).symm, rfl, rfl⟩
      · skip
        by_cases h4 : x = 101
        · refine g_tableIn C (tgt := 130) (off := 129) dX11_barOf_1 (by rw [h4]; decide) (by rw [h4]; decide) (by rw [h4]; rfl) (by decide) ?_
          refine g_ldc C kc_X11_132 dX11_barOf_130 ?_
          have e0 := (show f_X11_barOf x = _ from ((f_X11_barOf_eq _).trans ((if_neg h1).trans ((if_neg h2).trans ((if_neg h3).trans (if_pos h4))))))
          exact hi _ _ _ _ _ _ rfl dX11_barOf_132 rfl ⟨(congrArg (fun z => some (Value.int z)) e0).symm, rfl, rfl⟩
        · skip
          by_cases h5 : x = 102
          · refine g_tableIn C (tgt := 130) (off := 129) dX11_barOf_1 (by rw [h5]; decide) (by rw [h5]; decide) (by rw [h5]; rfl) (by decide) ?_
            refine g_ldc C kc_X11_132 dX11_barOf_130 ?_
            have e0 := (show f_X11_barOf x = _ from ((f_X11_barOf_eq _).trans ((if_neg h1).trans ((if_neg h2).trans ((if_neg h3).trans ((if_neg h4).trans (if_pos h5)))))))
            exact hi _ _ _ _ _ _ rfl dX11_barOf_132 rfl ⟨(congrArg (fun z => some (Value.int z)) e0).symm, rfl, rfl⟩
          · skip
            by_cases h6 : x = 103
            · refine g_tableIn C (tgt := 118) (off := 117) dX11_barOf_1 (by rw [h6]; decide) (by rw [h6]; decide) (by rw [h6]; rfl) (by decide) ?_
              refine g_iconst C (v := 3) dX11_barOf_118 (by decide) ?_
              have e0 := (show f_X11_barOf x = _ from ((f_X11_barOf_eq _).trans ((if_neg h1).trans ((if_neg h2).trans ((if_neg h3).trans ((if_neg h4).trans ((if_neg h5).trans (if_pos h6))))))))
              exact hi _ _ _ _ _ _ rfl dX11_barOf_119 rfl ⟨(congrArg (fun z => some (Value.int z)) e0).symm, rfl, rfl⟩
            · skip
              by_cases h7 : x = 104
              · refine g_tableIn C (tgt := 130) (off := 129) dX11_barOf_1 (by rw [h7]; decide) (by rw [h7]; decide) (by rw [h7]; rfl) (by decide) ?_
                refine g_ldc C kc_X11_132 dX11_barOf_130 ?_
                have e0 := (show f_X11_barOf x = _ from ((f_X11_barOf_eq _).trans ((if_neg h1).trans ((if_neg h2).trans ((if_neg h3).trans ((if_neg h4).trans ((if_neg h5).trans ((if_neg h6).trans (if_pos h7)))))))))
                exact hi _ _ _ _ _ _ rfl dX11_barOf_132 rfl ⟨(congrArg (fun z => some (Value.int z)) e0).symm, rfl, rfl⟩
              · skip
                by_cases h8 : x = 105
                · refine g_tableIn C (tgt := 130) (off := 129) dX11_barOf_1 (by rw [h8]; decide) (by rw [h8]; decide) (by rw [h8]; rfl) (by decide) ?_
                  refine g_ldc C kc_X11_132 dX11_barOf_130 ?_
                  have e0 := (show f_X11_barOf x = _ from ((f_X11_barOf_eq _).trans ((if_neg h1).trans ((if_neg h2).trans ((if_neg h3).trans ((if_neg h4).trans ((if_neg h5).trans ((if_neg h6).trans ((if_neg h7).trans (if_pos h8))))))))))
                  exact hi _ _ _ _ _ _ rfl dX11_barOf_132 rfl ⟨(congrArg (fun z => some (Value.int z)) e0).symm, rfl, rfl⟩
                · skip
                  by_cases h9 : x = 106
                  · refine g_tableIn C (tgt := 130) (off := 129) dX11_barOf_1 (by rw [h9]; decide) (by rw [h9]; decide) (by rw [h9]; rfl) (by decide) ?_
                    refine g_ldc C kc_X11_132 dX11_barOf_130 ?_
                    have e0 := (show f_X11_barOf x = _ from ((f_X11_barOf_eq _).trans ((if_neg h1).trans ((if_neg h2).trans ((if_neg h3).trans ((if_neg h4).trans ((if_neg h5).trans ((if_neg h6).trans ((if_neg h7).trans ((if_neg h8).trans (if_pos h9)))))))))))
                    exact hi _ _ _ _ _ _ rfl dX11_barOf_132 rfl ⟨(congrArg (fun z => some (Value.int z)) e0).symm, rfl, rfl⟩
                  · skip
                    by_cases h10 : x = 107
                    · refine g_tableIn C (tgt := 127) (off := 126) dX11_barOf_1 (by rw [h10]; decide) (by rw [h10]; decide) (by rw [h10]; rfl) (by decide) ?_
                      refine g_bipush C (v := 7) dX11_barOf_127 (by decide) ?_
                      have e0 := (show f_X11_barOf x = _ from ((f_X11_barOf_eq _).trans ((if_neg h1).trans ((if_neg h2).trans ((if_neg h3).trans ((if_neg h4).trans ((if_neg h5).trans ((if_neg h6).trans ((if_neg h7).trans ((if_neg h8).trans ((if_neg h9).trans (if_pos h10))))))))))))
                      exact hi _ _ _ _ _ _ rfl dX11_barOf_129 rfl ⟨(congrArg (fun z => some (Value.int z)) e0).symm, rfl, rfl⟩
                    · skip
                      by_cases h11 : x = 108
                      · refine g_tableIn C (tgt := 130) (off := 129) dX11_barOf_1 (by rw [h11]; decide) (by rw [h11]; decide) (by rw [h11]; rfl) (by decide) ?_
                        refine g_ldc C kc_X11_132 dX11_barOf_130 ?_
                        have e0 := (show f_X11_barOf x = _ from ((f_X11_barOf_eq _).trans ((if_neg h1).trans ((if_neg h2).trans ((if_neg h3).trans ((if_neg h4).trans ((if_neg h5).trans ((if_neg h6).trans ((if_neg h7).trans ((if_neg h8).trans ((if_neg h9).trans ((if_neg h10).trans (if_pos h11)))))))))))))
                        exact hi _ _ _ _ _ _ rfl dX11_barOf_132 rfl ⟨(congrArg (fun z => some (Value.int z)) e0).symm, rfl, rfl⟩
                      · skip
                        by_cases h12 : x = 109
                        · refine g_tableIn C (tgt := 120) (off := 119) dX11_barOf_1 (by rw [h12]; decide) (by rw [h12]; decide) (by rw [h12]; rfl) (by decide) ?_
                          refine g_iconst C (v := 4) dX11_barOf_120 (by decide) ?_
                          have e0 := (show f_X11_barOf x = _ from ((f_X11_barOf_eq _).trans ((if_neg h1).trans ((if_neg h2).trans ((if_neg h3).trans ((if_neg h4).trans ((if_neg h5).trans ((if_neg h6).trans ((if_neg h7).trans ((if_neg h8).trans ((if_neg h9).trans ((if_neg h10).trans ((if_neg h11).trans (if_pos h12))))))))))))))
                          exact hi _ _ _ _ _ _ rfl dX11_barOf_121 rfl ⟨(congrArg (fun z => some (Value.int z)) e0).symm, rfl, rfl⟩
                        · skip
                          by_cases h13 : x = 110
                          · refine g_tableIn C (tgt := 130) (off := 129) dX11_barOf_1 (by rw [h13]; decide) (by rw [h13]; decide) (by rw [h13]; rfl) (by decide) ?_
                            refine g_ldc C kc_X11_132 dX11_barOf_130 ?_
                            have e0 := (show f_X11_barOf x = _ from ((f_X11_barOf_eq _).trans ((if_neg h1).trans ((if_neg h2).trans ((if_neg h3).trans ((if_neg h4).trans ((if_neg h5).trans ((if_neg h6).trans ((if_neg h7).trans ((if_neg h8).trans ((if_neg h9).trans ((if_neg h10).trans ((if_neg h11).trans ((if_neg h12).trans (if_pos h13)))))))))))))))
                            exact hi _ _ _ _ _ _ rfl dX11_barOf_132 rfl ⟨(congrArg (fun z => some (Value.int z)) e0).symm, rfl, rfl⟩
                          · skip
                            by_cases h14 : x = 111
                            · refine g_tableIn C (tgt := 130) (off := 129) dX11_barOf_1 (by rw [h14]; decide) (by rw [h14]; decide) (by rw [h14]; rfl) (by decide) ?_
                              refine g_ldc C kc_X11_132 dX11_barOf_130 ?_
                              have e0 := (show f_X11_barOf x = _ from ((f_X11_barOf_eq _).trans ((if_neg h1).trans ((if_neg h2).trans ((if_neg h3).trans ((if_neg h4).trans ((if_neg h5).trans ((if_neg h6).trans ((if_neg h7).trans ((if_neg h8).trans ((if_neg h9).trans ((if_neg h10).trans ((if_neg h11).trans ((if_neg h12).trans ((if_neg h13).trans (if_pos h14))))))))))))))))
                              exact hi _ _ _ _ _ _ rfl dX11_barOf_132 rfl ⟨(congrArg (fun z => some (Value.int z)) e0).symm, rfl, rfl⟩
                            · skip
                              by_cases h15 : x = 112
                              · refine g_tableIn C (tgt := 130) (off := 129) dX11_barOf_1 (by rw [h15]; decide) (by rw [h15]; decide) (by rw [h15]; rfl) (by decide) ?_
                                refine g_ldc C kc_X11_132 dX11_barOf_130 ?_
                                have e0 := (show f_X11_barOf x = _ from ((f_X11_barOf_eq _).trans ((if_neg h1).trans ((if_neg h2).trans ((if_neg h3).trans ((if_neg h4).trans ((if_neg h5).trans ((if_neg h6).trans ((if_neg h7).trans ((if_neg h8).trans ((if_neg h9).trans ((if_neg h10).trans ((if_neg h11).trans ((if_neg h12).trans ((if_neg h13).trans ((if_neg h14).trans (if_pos h15)))))))))))))))))
                                exact hi _ _ _ _ _ _ rfl dX11_barOf_132 rfl ⟨(congrArg (fun z => some (Value.int z)) e0).symm, rfl, rfl⟩
                              · skip
                                by_cases h16 : x = 113
                                · refine g_tableIn C (tgt := 130) (off := 129) dX11_barOf_1 (by rw [h16]; decide) (by rw [h16]; decide) (by rw [h16]; rfl) (by decide) ?_
                                  refine g_ldc C kc_X11_132 dX11_barOf_130 ?_
                                  have e0 := (show f_X11_barOf x = _ from ((f_X11_barOf_eq _).trans ((if_neg h1).trans ((if_neg h2).trans ((if_neg h3).trans ((if_neg h4).trans ((if_neg h5).trans ((if_neg h6).trans ((if_neg h7).trans ((if_neg h8).trans ((if_neg h9).trans ((if_neg h10).trans ((if_neg h11).trans ((if_neg h12).trans ((if_neg h13).trans ((if_neg h14).trans ((if_neg h15).trans (if_pos h16))))))))))))))))))
                                  exact hi _ _ _ _ _ _ rfl dX11_barOf_132 rfl ⟨(congrArg (fun z => some (Value.int z)) e0).symm, rfl, rfl⟩
                                · skip
                                  by_cases h17 : x = 114
                                  · refine g_tableIn C (tgt := 122) (off := 121) dX11_barOf_1 (by rw [h17]; decide) (by rw [h17]; decide) (by rw [h17]; rfl) (by decide) ?_
                                    refine g_iconst C (v := 5) dX11_barOf_122 (by decide) ?_
                                    have e0 := (show f_X11_barOf x = _ from ((f_X11_barOf_eq _).trans ((if_neg h1).trans ((if_neg h2).trans ((if_neg h3).trans ((if_neg h4).trans ((if_neg h5).trans ((if_neg h6).trans ((if_neg h7).trans ((if_neg h8).trans ((if_neg h9).trans ((if_neg h10).trans ((if_neg h11).trans ((if_neg h12).trans ((if_neg h13).trans ((if_neg h14).trans ((if_neg h15).trans ((if_neg h16).trans (if_pos h17)))))))))))))))))))
                                    exact hi _ _ _ _ _ _ rfl dX11_barOf_123 rfl ⟨(congrArg (fun z => some (Value.int z)) e0).symm, rfl, rfl⟩
                                  · skip
                                    by_cases h18 : x = 115
                                    · refine g_tableIn C (tgt := 130) (off := 129) dX11_barOf_1 (by rw [h18]; decide) (by rw [h18]; decide) (by rw [h18]; rfl) (by decide) ?_
                                      refine g_ldc C kc_X11_132 dX11_barOf_130 ?_
                                      have e0 := (show f_X11_barOf x = _ from ((f_X11_barOf_eq _).trans ((if_neg h1).trans ((if_neg h2).trans ((if_neg h3).trans ((if_neg h4).trans ((if_neg h5).trans ((if_neg h6).trans ((if_neg h7).trans ((if_neg h8).trans ((if_neg h9).trans ((if_neg h10).trans ((if_neg h11).trans ((if_neg h12).trans ((if_neg h13).trans ((if_neg h14).trans ((if_neg h15).trans ((if_neg h16).trans ((if_neg h17).trans (if_pos h18))))))))))))))))))))
                                      exact hi _ _ _ _ _ _ rfl dX11_barOf_132 rfl ⟨(congrArg (fun z => some (Value.int z)) e0).symm, rfl, rfl⟩
                                    · skip
                                      by_cases h19 : x = 116
                                      · refine g_tableIn C (tgt := 130) (off := 129) dX11_barOf_1 (by rw [h19]; decide) (by rw [h19]; decide) (by rw [h19]; rfl) (by decide) ?_
                                        refine g_ldc C kc_X11_132 dX11_barOf_130 ?_
                                        have e0 := (show f_X11_barOf x = _ from ((f_X11_barOf_eq _).trans ((if_neg h1).trans ((if_neg h2).trans ((if_neg h3).trans ((if_neg h4).trans ((if_neg h5).trans ((if_neg h6).trans ((if_neg h7).trans ((if_neg h8).trans ((if_neg h9).trans ((if_neg h10).trans ((if_neg h11).trans ((if_neg h12).trans ((if_neg h13).trans ((if_neg h14).trans ((if_neg h15).trans ((if_neg h16).trans ((if_neg h17).trans ((if_neg h18).trans (if_pos h19)))))))))))))))))))))
                                        exact hi _ _ _ _ _ _ rfl dX11_barOf_132 rfl ⟨(congrArg (fun z => some (Value.int z)) e0).symm, rfl, rfl⟩
                                      · skip
                                        by_cases h20 : x = 117
                                        · refine g_tableIn C (tgt := 130) (off := 129) dX11_barOf_1 (by rw [h20]; decide) (by rw [h20]; decide) (by rw [h20]; rfl) (by decide) ?_
                                          refine g_ldc C kc_X11_132 dX11_barOf_130 ?_
                                          have e0 := (show f_X11_barOf x = _ from ((f_X11_barOf_eq _).trans ((if_neg h1).trans ((if_neg h2).trans ((if_neg h3).trans ((if_neg h4).trans ((if_neg h5).trans ((if_neg h6).trans ((if_neg h7).trans ((if_neg h8).trans ((if_neg h9).trans ((if_neg h10).trans ((if_neg h11).trans ((if_neg h12).trans ((if_neg h13).trans ((if_neg h14).trans ((if_neg h15).trans ((if_neg h16).trans ((if_neg h17).trans ((if_neg h18).trans ((if_neg h19).trans (if_pos h20))))))))))))))))))))))
                                          exact hi _ _ _ _ _ _ rfl dX11_barOf_132 rfl ⟨(congrArg (fun z => some (Value.int z)) e0).symm, rfl, rfl⟩
                                        · skip
                                          by_cases h21 : x = 118
                                          · refine g_tableIn C (tgt := 130) (off := 129) dX11_barOf_1 (by rw [h21]; decide) (by rw [h21]; decide) (by rw [h21]; rfl) (by decide) ?_
                                            refine g_ldc C kc_X11_132 dX11_barOf_130 ?_
                                            have e0 := (show f_X11_barOf x = _ from ((f_X11_barOf_eq _).trans ((if_neg h1).trans ((if_neg h2).trans ((if_neg h3).trans ((if_neg h4).trans ((if_neg h5).trans ((if_neg h6).trans ((if_neg h7).trans ((if_neg h8).trans ((if_neg h9).trans ((if_neg h10).trans ((if_neg h11).trans ((if_neg h12).trans ((if_neg h13).trans ((if_neg h14).trans ((if_neg h15).trans ((if_neg h16).trans ((if_neg h17).trans ((if_neg h18).trans ((if_neg h19).trans ((if_neg h20).trans (if_pos h21)))))))))))))))))))))))
                                            exact hi _ _ _ _ _ _ rfl dX11_barOf_132 rfl ⟨(congrArg (fun z => some (Value.int z)) e0).symm, rfl, rfl⟩
                                          · skip
                                            by_cases h22 : x = 119
                                            · refine g_tableIn C (tgt := 112) (off := 111) dX11_barOf_1 (by rw [h22]; decide) (by rw [h22]; decide) (by rw [h22]; rfl) (by decide) ?_
                                              refine g_iconst C (v := 0) dX11_barOf_112 (by decide) ?_
                                              have e0 := (show f_X11_barOf x = _ from ((f_X11_barOf_eq _).trans ((if_neg h1).trans ((if_neg h2).trans ((if_neg h3).trans ((if_neg h4).trans ((if_neg h5).trans ((if_neg h6).trans ((if_neg h7).trans ((if_neg h8).trans ((if_neg h9).trans ((if_neg h10).trans ((if_neg h11).trans ((if_neg h12).trans ((if_neg h13).trans ((if_neg h14).trans ((if_neg h15).trans ((if_neg h16).trans ((if_neg h17).trans ((if_neg h18).trans ((if_neg h19).trans ((if_neg h20).trans ((if_neg h21).trans (if_pos h22))))))))))))))))))))))))
                                              exact hi _ _ _ _ _ _ rfl dX11_barOf_113 rfl ⟨(congrArg (fun z => some (Value.int z)) e0).symm, rfl, rfl⟩
                                            · skip
                                              by_cases h23 : x = 120
                                              · refine g_tableIn C (tgt := 130) (off := 129) dX11_barOf_1 (by rw [h23]; decide) (by rw [h23]; decide) (by rw [h23]; rfl) (by decide) ?_
                                                refine g_ldc C kc_X11_132 dX11_barOf_130 ?_
                                                have e0 := (show f_X11_barOf x = _ from ((f_X11_barOf_eq _).trans ((if_neg h1).trans ((if_neg h2).trans ((if_neg h3).trans ((if_neg h4).trans ((if_neg h5).trans ((if_neg h6).trans ((if_neg h7).trans ((if_neg h8).trans ((if_neg h9).trans ((if_neg h10).trans ((if_neg h11).trans ((if_neg h12).trans ((if_neg h13).trans ((if_neg h14).trans ((if_neg h15).trans ((if_neg h16).trans ((if_neg h17).trans ((if_neg h18).trans ((if_neg h19).trans ((if_neg h20).trans ((if_neg h21).trans ((if_neg h22).trans (if_pos h23)))))))))))))))))))))))))
                                                exact hi _ _ _ _ _ _ rfl dX11_barOf_132 rfl ⟨(congrArg (fun z => some (Value.int z)) e0).symm, rfl, rfl⟩
                                              · skip
                                                by_cases h24 : x = 121
                                                · refine g_tableIn C (tgt := 114) (off := 113) dX11_barOf_1 (by rw [h24]; decide) (by rw [h24]; decide) (by rw [h24]; rfl) (by decide) ?_
                                                  refine g_iconst C (v := 1) dX11_barOf_114 (by decide) ?_
                                                  have e0 := (show f_X11_barOf x = _ from ((f_X11_barOf_eq _).trans ((if_neg h1).trans ((if_neg h2).trans ((if_neg h3).trans ((if_neg h4).trans ((if_neg h5).trans ((if_neg h6).trans ((if_neg h7).trans ((if_neg h8).trans ((if_neg h9).trans ((if_neg h10).trans ((if_neg h11).trans ((if_neg h12).trans ((if_neg h13).trans ((if_neg h14).trans ((if_neg h15).trans ((if_neg h16).trans ((if_neg h17).trans ((if_neg h18).trans ((if_neg h19).trans ((if_neg h20).trans ((if_neg h21).trans ((if_neg h22).trans ((if_neg h23).trans (if_pos h24))))))))))))))))))))))))))
                                                  exact hi _ _ _ _ _ _ rfl dX11_barOf_115 rfl ⟨(congrArg (fun z => some (Value.int z)) e0).symm, rfl, rfl⟩
                                                · skip
                                                  refine g_tableOut C (tgt := 130) dX11_barOf_1 (by have nh1 := i32_ne (c := 98) (n := 98) rfl h1; have nh2 := i32_ne (c := 99) (n := 99) rfl h2; have nh3 := i32_ne (c := 100) (n := 100) rfl h3; have nh4 := i32_ne (c := 101) (n := 101) rfl h4; have nh5 := i32_ne (c := 102) (n := 102) rfl h5; have nh6 := i32_ne (c := 103) (n := 103) rfl h6; have nh7 := i32_ne (c := 104) (n := 104) rfl h7; have nh8 := i32_ne (c := 105) (n := 105) rfl h8; have nh9 := i32_ne (c := 106) (n := 106) rfl h9; have nh10 := i32_ne (c := 107) (n := 107) rfl h10; have nh11 := i32_ne (c := 108) (n := 108) rfl h11; have nh12 := i32_ne (c := 109) (n := 109) rfl h12; have nh13 := i32_ne (c := 110) (n := 110) rfl h13; have nh14 := i32_ne (c := 111) (n := 111) rfl h14; have nh15 := i32_ne (c := 112) (n := 112) rfl h15; have nh16 := i32_ne (c := 113) (n := 113) rfl h16; have nh17 := i32_ne (c := 114) (n := 114) rfl h17; have nh18 := i32_ne (c := 115) (n := 115) rfl h18; have nh19 := i32_ne (c := 116) (n := 116) rfl h19; have nh20 := i32_ne (c := 117) (n := 117) rfl h20; have nh21 := i32_ne (c := 118) (n := 118) rfl h21; have nh22 := i32_ne (c := 119) (n := 119) rfl h22; have nh23 := i32_ne (c := 120) (n := 120) rfl h23; have nh24 := i32_ne (c := 121) (n := 121) rfl h24; omega) (by decide) ?_
                                                  refine g_ldc C kc_X11_132 dX11_barOf_130 ?_
                                                  have e0 := (show f_X11_barOf x = _ from ((f_X11_barOf_eq _).trans ((if_neg h1).trans ((if_neg h2).trans ((if_neg h3).trans ((if_neg h4).trans ((if_neg h5).trans ((if_neg h6).trans ((if_neg h7).trans ((if_neg h8).trans ((if_neg h9).trans ((if_neg h10).trans ((if_neg h11).trans ((if_neg h12).trans ((if_neg h13).trans ((if_neg h14).trans ((if_neg h15).trans ((if_neg h16).trans ((if_neg h17).trans ((if_neg h18).trans ((if_neg h19).trans ((if_neg h20).trans ((if_neg h21).trans ((if_neg h22).trans ((if_neg h23).trans (if_neg h24))))))))))))))))))))))))))
                                                  exact hi _ _ _ _ _ _ rfl dX11_barOf_132 rfl ⟨(congrArg (fun z => some (Value.int z)) e0).symm, rfl, rfl⟩
def f_X11_putBar (σ : Sg) (x : Int32) (y : Int32) : Sg := let σ9 : Sg := (if y = 0 then (let σ1 : Sg := f_X11_put σ x 180 0 0; σ1) else (if y = 1 then (let σ2 : Sg := f_X11_put σ x 160 (-50) 10; σ2) else (if y = 2 then (let σ3 : Sg := f_X11_put σ x 140 20 (-50); σ3) else (if y = 3 then (let σ4 : Sg := f_X11_put σ x 120 (-40) (-40); σ4) else (if y = 4 then (let σ5 : Sg := f_X11_put σ x 80 40 40; σ5) else (if y = 5 then (let σ6 : Sg := f_X11_put σ x 60 (-20) 60; σ6) else (if y = 6 then (let σ7 : Sg := f_X11_put σ x 30 60 (-10); σ7) else (let σ8 : Sg := f_X11_put σ x 10 0 0; σ8)))))))); σ9
theorem f_X11_putBar_eq (σ : Sg) (x : Int32) (y : Int32) : f_X11_putBar σ x y = (let σ9 : Sg := (if y = 0 then (let σ1 : Sg := f_X11_put σ x 180 0 0; σ1) else (if y = 1 then (let σ2 : Sg := f_X11_put σ x 160 (-50) 10; σ2) else (if y = 2 then (let σ3 : Sg := f_X11_put σ x 140 20 (-50); σ3) else (if y = 3 then (let σ4 : Sg := f_X11_put σ x 120 (-40) (-40); σ4) else (if y = 4 then (let σ5 : Sg := f_X11_put σ x 80 40 40; σ5) else (if y = 5 then (let σ6 : Sg := f_X11_put σ x 60 (-20) 60; σ6) else (if y = 6 then (let σ7 : Sg := f_X11_put σ x 30 60 (-10); σ7) else (let σ8 : Sg := f_X11_put σ x 10 0 0; σ8)))))))); σ9) := rfl
set_option maxRecDepth 100000 in
set_option maxHeartbeats 4000000 in
theorem c_X11_putBar (l : Launch) (D : va_G) (ad : Nat → Nat) (dA : Nat → ClassId) (z0 : Nat) (tt : Nat → Nat) (σ : Sg) (φ : Fl) (x : Int32) (y : Int32) (hx : vp_in x 80) : MC l D ad dA z0 tt yX11_putBar (Cond.code yX11_putBar cX11_putBar 3 none :: lw_all) { frames := 1, cells := 0, slots := 0, locals := 24 } [.ref (ad 53), .int x, .int y] σ φ (Fn none (f_X11_putBar σ x y) φ) := by
  refine mk_MC (by decide) (Nat.le_of_ble_eq_true rfl) ?_
  intro K C hi hf hv
  change K σ φ 0 [(0, .ref (ad 53)), (1, .int x), (2, .int y)] []
  refine g_iload_n C (i := 2) dX11_putBar_0 rfl 2 rfl ?_
  have J10 : ∀ (σ9 : Sg), (if y = 0 then (let σ1 : Sg := f_X11_put σ x 180 0 0; σ1) else (if y = 1 then (let σ2 : Sg := f_X11_put σ x 160 (-50) 10; σ2) else (if y = 2 then (let σ3 : Sg := f_X11_put σ x 140 20 (-50); σ3) else (if y = 3 then (let σ4 : Sg := f_X11_put σ x 120 (-40) (-40); σ4) else (if y = 4 then (let σ5 : Sg := f_X11_put σ x 80 40 40; σ5) else (if y = 5 then (let σ6 : Sg := f_X11_put σ x 60 (-20) 60; σ6) else (if y = 6 then (let σ7 : Sg := f_X11_put σ x 30 60 (-10); σ7) else (let σ8 : Sg := f_X11_put σ x 10 0 0; σ8)))))))) = σ9 → K σ9 φ 152 [] [] := by
    intro σ9 eσ9
    subst eσ9
    have e0 := (show f_X11_putBar σ x y = _ from rfl)
    exact hv _ _ _ _ rfl dX11_putBar_152 ⟨rfl, (congrArg (fun z => z) e0).symm, rfl⟩
  by_cases h1 : y = 0
  · refine g_tableIn C (tgt := 44) (off := 43) dX11_putBar_1 (by rw [h1]; decide) (by rw [h1]; decide) (by rw [h1]; rfl) (by decide) ?_
    refine g_aload_n C (i := 0) dX11_putBar_44 rfl 0 rfl ?_
    refine g_iload_n C (i := 1) dX11_putBar_45 rfl 1 rfl ?_
    refine g_sipush C (v := 180) dX11_putBar_46 (by decide) ?_
    refine g_iconst C (v := 0) dX11_putBar_49 (by decide) ?_
    refine g_iconst C (v := 0) dX11_putBar_50 (by decide) ?_
    refine g_callV C (st := []) (c_X11_put l D ad dA z0 tt σ φ x 180 0 0 hx) rfl ml_X11_120 im_X11_put se_X11_put in_X11 co_X11_put dyV_X11_put rfl rfl ⟨(Nat.le_of_ble_eq_true rfl), (Nat.le_of_ble_eq_true rfl)⟩ 53 11 (fun f => at_53 ad dA σ f) rfl dX11_putBar_51 rfl (Nat.le_of_ble_eq_true rfl) (g_fnv ?_)
    refine g_nms C (fun σ1 eσ1 => ?_)
    refine g_goto C (tgt := 152) dX11_putBar_54 (by decide) ?_
    refine g_loc C [] rfl ?_
    subst eσ1
    exact J10 _ ((if_pos h1))
  · skip
    by_cases h2 : y = 1
    · refine g_tableIn C (tgt := 57) (off := 56) dX11_putBar_1 (by rw [h2]; decide) (by rw [h2]; decide) (by rw [h2]; rfl) (by decide) ?_
      refine g_aload_n C (i := 0) dX11_putBar_57 rfl 0 rfl ?_
      refine g_iload_n C (i := 1) dX11_putBar_58 rfl 1 rfl ?_
      refine g_sipush C (v := 160) dX11_putBar_59 (by decide) ?_
      refine g_bipush C (v := (-50)) dX11_putBar_62 (by decide) ?_
      refine g_bipush C (v := 10) dX11_putBar_64 (by decide) ?_
      refine g_callV C (st := []) (c_X11_put l D ad dA z0 tt σ φ x 160 (-50) 10 hx) rfl ml_X11_120 im_X11_put se_X11_put in_X11 co_X11_put dyV_X11_put rfl rfl ⟨(Nat.le_of_ble_eq_true rfl), (Nat.le_of_ble_eq_true rfl)⟩ 53 11 (fun f => at_53 ad dA σ f) rfl dX11_putBar_66 rfl (Nat.le_of_ble_eq_true rfl) (g_fnv ?_)
      refine g_nms C (fun σ2 eσ2 => ?_)
      refine g_goto C (tgt := 152) dX11_putBar_69 (by decide) ?_
      refine g_loc C [] rfl ?_
      subst eσ2
      exact J10 _ (((if_neg h1).trans (if_pos h2)))
    · skip
      by_cases h3 : y = 2
      · refine g_tableIn C (tgt := 72) (off := 71) dX11_putBar_1 (by rw [h3]; decide) (by rw [h3]; decide) (by rw [h3]; rfl) (by decide) ?_
        refine g_aload_n C (i := 0) dX11_putBar_72 rfl 0 rfl ?_
        refine g_iload_n C (i := 1) dX11_putBar_73 rfl 1 rfl ?_
        refine g_sipush C (v := 140) dX11_putBar_74 (by decide) ?_
        refine g_bipush C (v := 20) dX11_putBar_77 (by decide) ?_
        refine g_bipush C (v := (-50)) dX11_putBar_79 (by decide) ?_
        refine g_callV C (st := []) (c_X11_put l D ad dA z0 tt σ φ x 140 20 (-50) hx) rfl ml_X11_120 im_X11_put se_X11_put in_X11 co_X11_put dyV_X11_put rfl rfl ⟨(Nat.le_of_ble_eq_true rfl), (Nat.le_of_ble_eq_true rfl)⟩ 53 11 (fun f => at_53 ad dA σ f) rfl dX11_putBar_81 rfl (Nat.le_of_ble_eq_true rfl) (g_fnv ?_)
        refine g_nms C (fun σ3 eσ3 => ?_)
        refine g_goto C (tgt := 152) dX11_putBar_84 (by decide) ?_
        refine g_loc C [] rfl ?_
        subst eσ3
        exact J10 _ (((if_neg h1).trans ((if_neg h2).trans (if_pos h3))))
      · skip
        by_cases h4 : y = 3
        · refine g_tableIn C (tgt := 87) (off := 86) dX11_putBar_1 (by rw [h4]; decide) (by rw [h4]; decide) (by rw [h4]; rfl) (by decide) ?_
          refine g_aload_n C (i := 0) dX11_putBar_87 rfl 0 rfl ?_
          refine g_iload_n C (i := 1) dX11_putBar_88 rfl 1 rfl ?_
          refine g_bipush C (v := 120) dX11_putBar_89 (by decide) ?_
          refine g_bipush C (v := (-40)) dX11_putBar_91 (by decide) ?_
          refine g_bipush C (v := (-40)) dX11_putBar_93 (by decide) ?_
          refine g_callV C (st := []) (c_X11_put l D ad dA z0 tt σ φ x 120 (-40) (-40) hx) rfl ml_X11_120 im_X11_put se_X11_put in_X11 co_X11_put dyV_X11_put rfl rfl ⟨(Nat.le_of_ble_eq_true rfl), (Nat.le_of_ble_eq_true rfl)⟩ 53 11 (fun f => at_53 ad dA σ f) rfl dX11_putBar_95 rfl (Nat.le_of_ble_eq_true rfl) (g_fnv ?_)
          refine g_nms C (fun σ4 eσ4 => ?_)
          refine g_goto C (tgt := 152) dX11_putBar_98 (by decide) ?_
          refine g_loc C [] rfl ?_
          subst eσ4
          exact J10 _ (((if_neg h1).trans ((if_neg h2).trans ((if_neg h3).trans (if_pos h4)))))
        · skip
          by_cases h5 : y = 4
          · refine g_tableIn C (tgt := 101) (off := 100) dX11_putBar_1 (by rw [h5]; decide) (by rw [h5]; decide) (by rw [h5]; rfl) (by decide) ?_
            refine g_aload_n C (i := 0) dX11_putBar_101 rfl 0 rfl ?_
            refine g_iload_n C (i := 1) dX11_putBar_102 rfl 1 rfl ?_
            refine g_bipush C (v := 80) dX11_putBar_103 (by decide) ?_
            refine g_bipush C (v := 40) dX11_putBar_105 (by decide) ?_
            refine g_bipush C (v := 40) dX11_putBar_107 (by decide) ?_
            refine g_callV C (st := []) (c_X11_put l D ad dA z0 tt σ φ x 80 40 40 hx) rfl ml_X11_120 im_X11_put se_X11_put in_X11 co_X11_put dyV_X11_put rfl rfl ⟨(Nat.le_of_ble_eq_true rfl), (Nat.le_of_ble_eq_true rfl)⟩ 53 11 (fun f => at_53 ad dA σ f) rfl dX11_putBar_109 rfl (Nat.le_of_ble_eq_true rfl) (g_fnv ?_)
            refine g_nms C (fun σ5 eσ5 => ?_)
            refine g_goto C (tgt := 152) dX11_putBar_112 (by decide) ?_
            refine g_loc C [] rfl ?_
            subst eσ5
            exact J10 _ (((if_neg h1).trans ((if_neg h2).trans ((if_neg h3).trans ((if_neg h4).trans (if_pos h5))))))
          · skip
            by_cases h6 : y = 5
            · refine g_tableIn C (tgt := 115) (off := 114) dX11_putBar_1 (by rw [h6]; decide) (by rw [h6]; decide) (by rw [h6]; rfl) (by decide) ?_
              refine g_aload_n C (i := 0) dX11_putBar_115 rfl 0 rfl ?_
              refine g_iload_n C (i := 1) dX11_putBar_116 rfl 1 rfl ?_
              refine g_bipush C (v := 60) dX11_putBar_117 (by decide) ?_
              refine g_bipush C (v := (-20)) dX11_putBar_119 (by decide) ?_
              refine g_bipush C (v := 60) dX11_putBar_121 (by decide) ?_
              refine g_callV C (st := []) (c_X11_put l D ad dA z0 tt σ φ x 60 (-20) 60 hx) rfl ml_X11_120 im_X11_put se_X11_put in_X11 co_X11_put dyV_X11_put rfl rfl ⟨(Nat.le_of_ble_eq_true rfl), (Nat.le_of_ble_eq_true rfl)⟩ 53 11 (fun f => at_53 ad dA σ f) rfl dX11_putBar_123 rfl (Nat.le_of_ble_eq_true rfl) (g_fnv ?_)
              refine g_nms C (fun σ6 eσ6 => ?_)
              refine g_goto C (tgt := 152) dX11_putBar_126 (by decide) ?_
              refine g_loc C [] rfl ?_
              subst eσ6
              exact J10 _ (((if_neg h1).trans ((if_neg h2).trans ((if_neg h3).trans ((if_neg h4).trans ((if_neg h5).trans (if_pos h6)))))))
            · skip
              by_cases h7 : y = 6
              · refine g_tableIn C (tgt := 129) (off := 128) dX11_putBar_1 (by rw [h7]; decide) (by rw [h7]; decide) (by rw [h7]; rfl) (by decide) ?_
                refine g_aload_n C (i := 0) dX11_putBar_129 rfl 0 rfl ?_
                refine g_iload_n C (i := 1) dX11_putBar_130 rfl 1 rfl ?_
                refine g_bipush C (v := 30) dX11_putBar_131 (by decide) ?_
                refine g_bipush C (v := 60) dX11_putBar_133 (by decide) ?_
                refine g_bipush C (v := (-10)) dX11_putBar_135 (by decide) ?_
                refine g_callV C (st := []) (c_X11_put l D ad dA z0 tt σ φ x 30 60 (-10) hx) rfl ml_X11_120 im_X11_put se_X11_put in_X11 co_X11_put dyV_X11_put rfl rfl ⟨(Nat.le_of_ble_eq_true rfl), (Nat.le_of_ble_eq_true rfl)⟩ 53 11 (fun f => at_53 ad dA σ f) rfl dX11_putBar_137 rfl (Nat.le_of_ble_eq_true rfl) (g_fnv ?_)
                refine g_nms C (fun σ7 eσ7 => ?_)
                refine g_goto C (tgt := 152) dX11_putBar_140 (by decide) ?_
                refine g_loc C [] rfl ?_
                subst eσ7
                exact J10 _ (((if_neg h1).trans ((if_neg h2).trans ((if_neg h3).trans ((if_neg h4).trans ((if_neg h5).trans ((if_neg h6).trans (if_pos h7))))))))
              · skip
                refine g_tableOut C (tgt := 143) dX11_putBar_1 (by have nh1 := i32_ne (c := 0) (n := 0) rfl h1; have nh2 := i32_ne (c := 1) (n := 1) rfl h2; have nh3 := i32_ne (c := 2) (n := 2) rfl h3; have nh4 := i32_ne (c := 3) (n := 3) rfl h4; have nh5 := i32_ne (c := 4) (n := 4) rfl h5; have nh6 := i32_ne (c := 5) (n := 5) rfl h6; have nh7 := i32_ne (c := 6) (n := 6) rfl h7; omega) (by decide) ?_
                refine g_aload_n C (i := 0) dX11_putBar_143 rfl 0 rfl ?_
                refine g_iload_n C (i := 1) dX11_putBar_144 rfl 1 rfl ?_
                refine g_bipush C (v := 10) dX11_putBar_145 (by decide) ?_
                refine g_iconst C (v := 0) dX11_putBar_147 (by decide) ?_
                refine g_iconst C (v := 0) dX11_putBar_148 (by decide) ?_
                refine g_callV C (st := []) (c_X11_put l D ad dA z0 tt σ φ x 10 0 0 hx) rfl ml_X11_120 im_X11_put se_X11_put in_X11 co_X11_put dyV_X11_put rfl rfl ⟨(Nat.le_of_ble_eq_true rfl), (Nat.le_of_ble_eq_true rfl)⟩ 53 11 (fun f => at_53 ad dA σ f) rfl dX11_putBar_149 rfl (Nat.le_of_ble_eq_true rfl) (g_fnv ?_)
                refine g_nms C (fun σ8 eσ8 => ?_)
                refine g_loc C [] rfl ?_
                subst eσ8
                exact J10 _ (((if_neg h1).trans ((if_neg h2).trans ((if_neg h3).trans ((if_neg h4).trans ((if_neg h5).trans ((if_neg h6).trans (if_neg h7))))))))
def f_X11_signal (σ : Sg) (x : Int32) (y : Int32) : Int32 := if (f_X11_in y 0 111) = 0 then 0 else (let v1 : Int32 := f_X11_rest ((y + (2 * x)) + (σ 59 x.toNatClampNeg)); let v2 : Int32 := (if (σ 53 8) = 1 then (if (x - x / 2 * 2) = 1 then (-1) else 1) else 1); let v4 : Int32 := (y - 8) - (σ 57 x.toNatClampNeg); let v5 : Int32 := (σ 60 x.toNatClampNeg) * ((((7 * y) + (13 * x)) - ((7 * y) + (13 * x)) / 5 * 5) - 2); let v13 : Int32 := (if (f_X11_in v4 0 7) = 0 then (if (f_X11_in v4 8 15) = 0 then (if (f_X11_in v4 16 95) = 0 then v5 else (let v6 : Int32 := (10 * x) + ((v4 - 16) / 8); let v7 : Int32 := v5 + (((σ 54 v6.toNatClampNeg) + ((σ 55 v6.toNatClampNeg) * (f_X11_a v1))) + ((v2 * (σ 56 v6.toNatClampNeg)) * (f_X11_b v1))); v7)) else (let v8 : Int32 := (if (σ 53 8) = 1 then ((v2 * (σ 58 x.toNatClampNeg)) * (f_X11_b v1)) else 0); let v10 : Int32 := v5 + (((-(σ 58 x.toNatClampNeg)) * (f_X11_a v1)) + v8); v10)) else (let v11 : Int32 := (if (σ 61 x.toNatClampNeg) = 0 then 40 else 0); v5 - v11)); v13)
theorem f_X11_signal_eq (σ : Sg) (x : Int32) (y : Int32) : f_X11_signal σ x y = (if (f_X11_in y 0 111) = 0 then 0 else (let v1 : Int32 := f_X11_rest ((y + (2 * x)) + (σ 59 x.toNatClampNeg)); let v2 : Int32 := (if (σ 53 8) = 1 then (if (x - x / 2 * 2) = 1 then (-1) else 1) else 1); let v4 : Int32 := (y - 8) - (σ 57 x.toNatClampNeg); let v5 : Int32 := (σ 60 x.toNatClampNeg) * ((((7 * y) + (13 * x)) - ((7 * y) + (13 * x)) / 5 * 5) - 2); let v13 : Int32 := (if (f_X11_in v4 0 7) = 0 then (if (f_X11_in v4 8 15) = 0 then (if (f_X11_in v4 16 95) = 0 then v5 else (let v6 : Int32 := (10 * x) + ((v4 - 16) / 8); let v7 : Int32 := v5 + (((σ 54 v6.toNatClampNeg) + ((σ 55 v6.toNatClampNeg) * (f_X11_a v1))) + ((v2 * (σ 56 v6.toNatClampNeg)) * (f_X11_b v1))); v7)) else (let v8 : Int32 := (if (σ 53 8) = 1 then ((v2 * (σ 58 x.toNatClampNeg)) * (f_X11_b v1)) else 0); let v10 : Int32 := v5 + (((-(σ 58 x.toNatClampNeg)) * (f_X11_a v1)) + v8); v10)) else (let v11 : Int32 := (if (σ 61 x.toNatClampNeg) = 0 then 40 else 0); v5 - v11)); v13)) := rfl
set_option maxRecDepth 100000 in
set_option maxHeartbeats 4000000 in
theorem c_X11_signal (l : Launch) (D : va_G) (ad : Nat → Nat) (dA : Nat → ClassId) (z0 : Nat) (tt : Nat → Nat) (σ : Sg) (φ : Fl) (x : Int32) (y : Int32) (hx : vp_in x 8) : MC l D ad dA z0 tt yX11_signal (Cond.code yX11_signal cX11_signal 8 (some .int) :: lw_all) { frames := 1, cells := 0, slots := 0, locals := 22 } [.ref (ad 53), .int x, .int y] σ φ (Fn (some (.int (f_X11_signal σ x y))) σ φ) := by
  refine mk_MC (by decide) (Nat.le_of_ble_eq_true rfl) ?_
  intro K C hi hf hv
  change K σ φ 0 [(0, .ref (ad 53)), (1, .int x), (2, .int y)] []
  refine g_iload_n C (i := 2) dX11_signal_0 rfl 2 rfl ?_
  refine g_iconst C (v := 0) dX11_signal_1 (by decide) ?_
  refine g_bipush C (v := 111) dX11_signal_2 (by decide) ?_
  refine g_callS C (st := []) (c_X11_in l D ad dA z0 tt σ φ y 0 111) rfl ml_X11_103 sm_X11_in in_X11 co_X11_in dyS_X11_in rfl rfl ⟨(Nat.le_of_ble_eq_true rfl), (Nat.le_of_ble_eq_true rfl)⟩ dX11_signal_4 rfl (Nat.le_of_ble_eq_true rfl) (g_fni ?_)
  refine g_if_ne C (tgt := 12) dX11_signal_7 (by decide) (fun h1 => ?_) (fun h1 => ?_)
  · refine g_iload_n C (i := 2) dX11_signal_12 rfl 2 rfl ?_
    refine g_iconst C (v := 2) dX11_signal_13 (by decide) ?_
    refine g_iload_n C (i := 1) dX11_signal_14 rfl 1 rfl ?_
    refine g_imul C dX11_signal_15 ?_
    refine g_iadd C dX11_signal_16 ?_
    refine g_aload_n C (i := 0) dX11_signal_17 rfl 0 rfl ?_
    refine gg_53_5 C fl_X11_25 dX11_signal_18 ?_
    refine g_iload_n C (i := 1) dX11_signal_21 rfl 1 rfl ?_
    refine ld_59 C hx dX11_signal_22 ?_
    refine g_iadd C dX11_signal_23 ?_
    refine g_callS C (st := []) (c_X11_rest l D ad dA z0 tt σ φ ((y + (2 * x)) + (σ 59 x.toNatClampNeg))) rfl ml_X11_141 sm_X11_rest in_X11 co_X11_rest dyS_X11_rest rfl rfl ⟨(Nat.le_of_ble_eq_true rfl), (Nat.le_of_ble_eq_true rfl)⟩ dX11_signal_24 rfl (Nat.le_of_ble_eq_true rfl) (g_fni ?_)
    refine g_nmi C (fun v1 ev1 => ?_)
    refine g_istore_n C (i := 3) (lv' := [(3, .int v1), (0, .ref (ad 53)), (1, .int x), (2, .int y)]) dX11_signal_27 rfl (by decide) rfl ?_
    refine g_aload_n C (i := 0) dX11_signal_28 rfl 1 rfl ?_
    refine gg_53_8 C fl_X11_124 dX11_signal_29 ?_
    refine g_iconst C (v := 1) dX11_signal_32 (by decide) ?_
    have J3 : ∀ (v2 : Int32), (if (σ 53 8) = 1 then (if (x - x / 2 * 2) = 1 then (-1) else 1) else 1) = v2 → K σ φ 48 [(0, .ref (ad 53)), (1, .int x), (2, .int y), (3, .int v1)] [.int v2] := by
      intro v2 ev2
      refine g_istore C (i := 4) (lv' := [(4, .int v2), (0, .ref (ad 53)), (1, .int x), (2, .int y), (3, .int v1)]) dX11_signal_48 (by decide) rfl ?_
      refine g_iload_n C (i := 2) dX11_signal_50 rfl 3 rfl ?_
      refine g_bipush C (v := 8) dX11_signal_51 (by decide) ?_
      refine g_isub C dX11_signal_53 ?_
      refine g_aload_n C (i := 0) dX11_signal_54 rfl 1 rfl ?_
      refine gg_53_3 C fl_X11_19 dX11_signal_55 ?_
      refine g_iload_n C (i := 1) dX11_signal_58 rfl 2 rfl ?_
      refine ld_57 C hx dX11_signal_59 ?_
      refine g_isub C dX11_signal_60 ?_
      refine g_nmi C (fun v4 ev4 => ?_)
      refine g_istore C (i := 5) (lv' := [(5, .int v4), (4, .int v2), (0, .ref (ad 53)), (1, .int x), (2, .int y), (3, .int v1)]) dX11_signal_61 (by decide) rfl ?_
      refine g_aload_n C (i := 0) dX11_signal_63 rfl 2 rfl ?_
      refine gg_53_6 C fl_X11_28 dX11_signal_64 ?_
      refine g_iload_n C (i := 1) dX11_signal_67 rfl 3 rfl ?_
      refine ld_60 C hx dX11_signal_68 ?_
      refine g_bipush C (v := 7) dX11_signal_69 (by decide) ?_
      refine g_iload_n C (i := 2) dX11_signal_71 rfl 4 rfl ?_
      refine g_imul C dX11_signal_72 ?_
      refine g_bipush C (v := 13) dX11_signal_73 (by decide) ?_
      refine g_iload_n C (i := 1) dX11_signal_75 rfl 3 rfl ?_
      refine g_imul C dX11_signal_76 ?_
      refine g_iadd C dX11_signal_77 ?_
      refine g_iconst C (v := 5) dX11_signal_78 (by decide) ?_
      refine g_irem C dX11_signal_79 (by decide) ?_
      refine g_iconst C (v := 2) dX11_signal_80 (by decide) ?_
      refine g_isub C dX11_signal_81 ?_
      refine g_imul C dX11_signal_82 ?_
      refine g_nmi C (fun v5 ev5 => ?_)
      refine g_istore C (i := 6) (lv' := [(6, .int v5), (5, .int v4), (4, .int v2), (0, .ref (ad 53)), (1, .int x), (2, .int y), (3, .int v1)]) dX11_signal_83 (by decide) rfl ?_
      refine g_iload C (i := 5) dX11_signal_85 1 rfl ?_
      refine g_iconst C (v := 0) dX11_signal_87 (by decide) ?_
      refine g_bipush C (v := 7) dX11_signal_88 (by decide) ?_
      refine g_callS C (st := []) (c_X11_in l D ad dA z0 tt σ φ v4 0 7) rfl ml_X11_103 sm_X11_in in_X11 co_X11_in dyS_X11_in rfl rfl ⟨(Nat.le_of_ble_eq_true rfl), (Nat.le_of_ble_eq_true rfl)⟩ dX11_signal_90 rfl (Nat.le_of_ble_eq_true rfl) (g_fni ?_)
      have J14 : ∀ (v13 : Int32), (if (f_X11_in v4 0 7) = 0 then (if (f_X11_in v4 8 15) = 0 then (if (f_X11_in v4 16 95) = 0 then v5 else (let v6 : Int32 := (10 * x) + ((v4 - 16) / 8); let v7 : Int32 := v5 + (((σ 54 v6.toNatClampNeg) + ((σ 55 v6.toNatClampNeg) * (f_X11_a v1))) + ((v2 * (σ 56 v6.toNatClampNeg)) * (f_X11_b v1))); v7)) else (let v8 : Int32 := (if (σ 53 8) = 1 then ((v2 * (σ 58 x.toNatClampNeg)) * (f_X11_b v1)) else 0); let v10 : Int32 := v5 + (((-(σ 58 x.toNatClampNeg)) * (f_X11_a v1)) + v8); v10)) else (let v11 : Int32 := (if (σ 61 x.toNatClampNeg) = 0 then 40 else 0); v5 - v11)) = v13 → K σ φ 246 [(6, .int v13)] [] := by
        intro v13 ev13
        refine g_iload C (i := 6) dX11_signal_246 0 rfl ?_
        subst ev13
        subst ev5
        subst ev4
        subst ev2
        subst ev1
        have e0 := (show f_X11_signal σ x y = _ from ((f_X11_signal_eq _ _ _).trans (if_neg h1)))
        exact hi _ _ _ _ _ _ rfl dX11_signal_248 rfl ⟨(congrArg (fun z => some (Value.int z)) e0).symm, rfl, rfl⟩
      refine g_if_eq C (tgt := 119) dX11_signal_93 (by decide) (fun h4 => ?_) (fun h4 => ?_)
      · refine g_iload C (i := 5) dX11_signal_119 1 rfl ?_
        refine g_bipush C (v := 8) dX11_signal_121 (by decide) ?_
        refine g_bipush C (v := 15) dX11_signal_123 (by decide) ?_
        refine g_callS C (st := []) (c_X11_in l D ad dA z0 tt σ φ v4 8 15) rfl ml_X11_103 sm_X11_in in_X11 co_X11_in dyS_X11_in rfl rfl ⟨(Nat.le_of_ble_eq_true rfl), (Nat.le_of_ble_eq_true rfl)⟩ dX11_signal_125 rfl (Nat.le_of_ble_eq_true rfl) (g_fni ?_)
        refine g_if_eq C (tgt := 178) dX11_signal_128 (by decide) (fun h5 => ?_) (fun h5 => ?_)
        · refine g_iload C (i := 5) dX11_signal_178 1 rfl ?_
          refine g_bipush C (v := 16) dX11_signal_180 (by decide) ?_
          refine g_bipush C (v := 95) dX11_signal_182 (by decide) ?_
          refine g_callS C (st := []) (c_X11_in l D ad dA z0 tt σ φ v4 16 95) rfl ml_X11_103 sm_X11_in in_X11 co_X11_in dyS_X11_in rfl rfl ⟨(Nat.le_of_ble_eq_true rfl), (Nat.le_of_ble_eq_true rfl)⟩ dX11_signal_184 rfl (Nat.le_of_ble_eq_true rfl) (g_fni ?_)
          refine g_if_eq C (tgt := 246) dX11_signal_187 (by decide) (fun h6 => ?_) (fun h6 => ?_)
          · refine g_loc C [0] rfl ?_
            exact J14 _ (((if_pos h4).trans ((if_pos h5).trans (if_pos h6))))
          · refine g_bipush C (v := 10) dX11_signal_190 (by decide) ?_
            refine g_iload_n C (i := 1) dX11_signal_192 rfl 4 rfl ?_
            refine g_imul C dX11_signal_193 ?_
            refine g_iload C (i := 5) dX11_signal_194 1 rfl ?_
            refine g_bipush C (v := 16) dX11_signal_196 (by decide) ?_
            refine g_isub C dX11_signal_198 ?_
            refine g_bipush C (v := 8) dX11_signal_199 (by decide) ?_
            refine g_idiv C dX11_signal_201 (by decide) ?_
            refine g_iadd C dX11_signal_202 ?_
            refine g_nmi C (fun v6 ev6 => ?_)
            refine g_istore C (i := 7) (lv' := [(7, .int v6), (6, .int v5), (5, .int v4), (4, .int v2), (0, .ref (ad 53)), (1, .int x), (2, .int y), (3, .int v1)]) dX11_signal_203 (by decide) rfl ?_
            refine g_iload C (i := 6) dX11_signal_205 1 rfl ?_
            refine g_aload_n C (i := 0) dX11_signal_207 rfl 4 rfl ?_
            refine gg_53_0 C fl_X11_7 dX11_signal_208 ?_
            refine g_iload C (i := 7) dX11_signal_211 0 rfl ?_
            refine ld_54 C (by rw [← ev6]; exact sg_in hx h6) dX11_signal_213 ?_
            refine g_aload_n C (i := 0) dX11_signal_214 rfl 4 rfl ?_
            refine gg_53_1 C fl_X11_13 dX11_signal_215 ?_
            refine g_iload C (i := 7) dX11_signal_218 0 rfl ?_
            refine ld_55 C (by rw [← ev6]; exact sg_in hx h6) dX11_signal_220 ?_
            refine g_iload_n C (i := 3) dX11_signal_221 rfl 7 rfl ?_
            refine g_callS C (st := [.int (σ 55 v6.toNatClampNeg), .int (σ 54 v6.toNatClampNeg), .int v5]) (c_X11_a l D ad dA z0 tt σ φ v1) rfl ml_X11_145 sm_X11_a in_X11 co_X11_a dyS_X11_a rfl rfl ⟨(Nat.le_of_ble_eq_true rfl), (Nat.le_of_ble_eq_true rfl)⟩ dX11_signal_222 rfl (Nat.le_of_ble_eq_true rfl) (g_fni ?_)
            refine g_imul C dX11_signal_225 ?_
            refine g_iadd C dX11_signal_226 ?_
            refine g_iload C (i := 4) dX11_signal_227 3 rfl ?_
            refine g_aload_n C (i := 0) dX11_signal_229 rfl 4 rfl ?_
            refine gg_53_2 C fl_X11_16 dX11_signal_230 ?_
            refine g_iload C (i := 7) dX11_signal_233 0 rfl ?_
            refine ld_56 C (by rw [← ev6]; exact sg_in hx h6) dX11_signal_235 ?_
            refine g_imul C dX11_signal_236 ?_
            refine g_iload_n C (i := 3) dX11_signal_237 rfl 7 rfl ?_
            refine g_callS C (st := [.int (v2 * (σ 56 v6.toNatClampNeg)), .int ((σ 54 v6.toNatClampNeg) + ((σ 55 v6.toNatClampNeg) * (f_X11_a v1))), .int v5]) (c_X11_b l D ad dA z0 tt σ φ v1) rfl ml_X11_148 sm_X11_b in_X11 co_X11_b dyS_X11_b rfl rfl ⟨(Nat.le_of_ble_eq_true rfl), (Nat.le_of_ble_eq_true rfl)⟩ dX11_signal_238 rfl (Nat.le_of_ble_eq_true rfl) (g_fni ?_)
            refine g_imul C dX11_signal_241 ?_
            refine g_iadd C dX11_signal_242 ?_
            refine g_iadd C dX11_signal_243 ?_
            refine g_nmi C (fun v7 ev7 => ?_)
            refine g_istore C (i := 6) (lv' := [(6, .int v7), (7, .int v6), (5, .int v4), (4, .int v2), (0, .ref (ad 53)), (1, .int x), (2, .int y), (3, .int v1)]) dX11_signal_244 (by decide) rfl ?_
            refine g_loc C [0] rfl ?_
            subst ev7
            subst ev6
            exact J14 _ (((if_pos h4).trans ((if_pos h5).trans (if_neg h6))))
        · refine g_iload C (i := 6) dX11_signal_131 0 rfl ?_
          refine g_aload_n C (i := 0) dX11_signal_133 rfl 3 rfl ?_
          refine gg_53_4 C fl_X11_22 dX11_signal_134 ?_
          refine g_iload_n C (i := 1) dX11_signal_137 rfl 4 rfl ?_
          refine ld_58 C hx dX11_signal_138 ?_
          refine g_ineg C dX11_signal_139 ?_
          refine g_iload_n C (i := 3) dX11_signal_140 rfl 6 rfl ?_
          refine g_callS C (st := [.int (-(σ 58 x.toNatClampNeg)), .int v5]) (c_X11_a l D ad dA z0 tt σ φ v1) rfl ml_X11_145 sm_X11_a in_X11 co_X11_a dyS_X11_a rfl rfl ⟨(Nat.le_of_ble_eq_true rfl), (Nat.le_of_ble_eq_true rfl)⟩ dX11_signal_141 rfl (Nat.le_of_ble_eq_true rfl) (g_fni ?_)
          refine g_imul C dX11_signal_144 ?_
          refine g_aload_n C (i := 0) dX11_signal_145 rfl 3 rfl ?_
          refine gg_53_8 C fl_X11_124 dX11_signal_146 ?_
          refine g_iconst C (v := 1) dX11_signal_149 (by decide) ?_
          have J9 : ∀ (v8 : Int32), (if (σ 53 8) = 1 then ((v2 * (σ 58 x.toNatClampNeg)) * (f_X11_b v1)) else 0) = v8 → K σ φ 171 [] [.int v8, .int ((-(σ 58 x.toNatClampNeg)) * (f_X11_a v1)), .int v5] := by
            intro v8 ev8
            refine g_iadd C dX11_signal_171 ?_
            refine g_iadd C dX11_signal_172 ?_
            refine g_nmi C (fun v10 ev10 => ?_)
            refine g_istore C (i := 6) (lv' := [(6, .int v10)]) dX11_signal_173 (by decide) rfl ?_
            refine g_goto C (tgt := 246) dX11_signal_175 (by decide) ?_
            refine g_loc C [0] rfl ?_
            subst ev10
            subst ev8
            exact J14 _ (((if_pos h4).trans (if_neg h5)))
          refine g_icmp_ne C (tgt := 170) dX11_signal_150 (by decide) (fun h7 => ?_) (fun h7 => ?_)
          · refine g_iconst C (v := 0) dX11_signal_170 (by decide) ?_
            refine g_loc C [] rfl ?_
            exact J9 _ ((if_neg h7))
          · refine g_iload C (i := 4) dX11_signal_153 2 rfl ?_
            refine g_aload_n C (i := 0) dX11_signal_155 rfl 3 rfl ?_
            refine gg_53_4 C fl_X11_22 dX11_signal_156 ?_
            refine g_iload_n C (i := 1) dX11_signal_159 rfl 4 rfl ?_
            refine ld_58 C hx dX11_signal_160 ?_
            refine g_imul C dX11_signal_161 ?_
            refine g_iload_n C (i := 3) dX11_signal_162 rfl 6 rfl ?_
            refine g_callS C (st := [.int (v2 * (σ 58 x.toNatClampNeg)), .int ((-(σ 58 x.toNatClampNeg)) * (f_X11_a v1)), .int v5]) (c_X11_b l D ad dA z0 tt σ φ v1) rfl ml_X11_148 sm_X11_b in_X11 co_X11_b dyS_X11_b rfl rfl ⟨(Nat.le_of_ble_eq_true rfl), (Nat.le_of_ble_eq_true rfl)⟩ dX11_signal_163 rfl (Nat.le_of_ble_eq_true rfl) (g_fni ?_)
            refine g_imul C dX11_signal_166 ?_
            refine g_goto C (tgt := 171) dX11_signal_167 (by decide) ?_
            refine g_loc C [] rfl ?_
            exact J9 _ ((if_pos h7))
      · refine g_iload C (i := 6) dX11_signal_96 0 rfl ?_
        refine g_aload_n C (i := 0) dX11_signal_98 rfl 3 rfl ?_
        refine gg_53_7 C fl_X11_31 dX11_signal_99 ?_
        refine g_iload_n C (i := 1) dX11_signal_102 rfl 4 rfl ?_
        refine ld_61 C hx dX11_signal_103 ?_
        have J12 : ∀ (v11 : Int32), (if (σ 61 x.toNatClampNeg) = 0 then 40 else 0) = v11 → K σ φ 113 [] [.int v11, .int v5] := by
          intro v11 ev11
          refine g_isub C dX11_signal_113 ?_
          refine g_istore C (i := 6) (lv' := [(6, .int (v5 - v11))]) dX11_signal_114 (by decide) rfl ?_
          refine g_goto C (tgt := 246) dX11_signal_116 (by decide) ?_
          refine g_loc C [0] rfl ?_
          subst ev11
          exact J14 _ ((if_neg h4))
        refine g_if_eq C (tgt := 111) dX11_signal_104 (by decide) (fun h8 => ?_) (fun h8 => ?_)
        · refine g_bipush C (v := 40) dX11_signal_111 (by decide) ?_
          refine g_loc C [] rfl ?_
          exact J12 _ ((if_pos h8))
        · refine g_iconst C (v := 0) dX11_signal_107 (by decide) ?_
          refine g_goto C (tgt := 113) dX11_signal_108 (by decide) ?_
          refine g_loc C [] rfl ?_
          exact J12 _ ((if_neg h8))
    refine g_icmp_ne C (tgt := 47) dX11_signal_33 (by decide) (fun h2 => ?_) (fun h2 => ?_)
    · refine g_iconst C (v := 1) dX11_signal_47 (by decide) ?_
      refine g_loc C [1, 2, 3, 0] rfl ?_
      exact J3 _ ((if_neg h2))
    · refine g_iload_n C (i := 1) dX11_signal_36 rfl 2 rfl ?_
      refine g_iconst C (v := 2) dX11_signal_37 (by decide) ?_
      refine g_irem C dX11_signal_38 (by decide) ?_
      refine g_iconst C (v := 1) dX11_signal_39 (by decide) ?_
      refine g_icmp_ne C (tgt := 47) dX11_signal_40 (by decide) (fun h3 => ?_) (fun h3 => ?_)
      · refine g_iconst C (v := 1) dX11_signal_47 (by decide) ?_
        refine g_loc C [1, 2, 3, 0] rfl ?_
        exact J3 _ (((if_pos h2).trans (if_neg h3)))
      · refine g_iconst C (v := (-1)) dX11_signal_43 (by decide) ?_
        refine g_goto C (tgt := 48) dX11_signal_44 (by decide) ?_
        refine g_loc C [1, 2, 3, 0] rfl ?_
        exact J3 _ (((if_pos h2).trans (if_pos h3)))
  · refine g_iconst C (v := 0) dX11_signal_10 (by decide) ?_
    have e0 := (show f_X11_signal σ x y = _ from ((f_X11_signal_eq _ _ _).trans (if_pos h1)))
    exact hi _ _ _ _ _ _ rfl dX11_signal_11 rfl ⟨(congrArg (fun z => some (Value.int z)) e0).symm, rfl, rfl⟩
def f_X11_sample (σ : Sg) (x : Int32) (y : Int32) : Int32 := if (f_X11_noLine x) = 0 then (let v1 : Int32 := (if (f_X11_in y 0 111) = 0 then (-100002) else (f_X11_signal σ x y)); v1) else (-100001)
theorem f_X11_sample_eq (σ : Sg) (x : Int32) (y : Int32) : f_X11_sample σ x y = (if (f_X11_noLine x) = 0 then (let v1 : Int32 := (if (f_X11_in y 0 111) = 0 then (-100002) else (f_X11_signal σ x y)); v1) else (-100001)) := rfl
set_option maxRecDepth 100000 in
set_option maxHeartbeats 4000000 in
theorem c_X11_sample (l : Launch) (D : va_G) (ad : Nat → Nat) (dA : Nat → ClassId) (z0 : Nat) (tt : Nat → Nat) (σ : Sg) (φ : Fl) (x : Int32) (y : Int32)  : MC l D ad dA z0 tt yX11_sample (Cond.code yX11_sample cX11_sample 3 (some .int) :: lw_all) { frames := 2, cells := 0, slots := 0, locals := 49 } [.ref (ad 53), .int x, .int y] σ φ (Fn (some (.int (f_X11_sample σ x y))) σ φ) := by
  refine mk_MC (by decide) (Nat.le_of_ble_eq_true rfl) ?_
  intro K C hi hf hv
  change K σ φ 0 [(0, .ref (ad 53)), (1, .int x), (2, .int y)] []
  refine g_iload_n C (i := 1) dX11_sample_0 rfl 1 rfl ?_
  refine g_callS C (st := []) (c_X11_noLine l D ad dA z0 tt σ φ x) rfl ml_X11_107 sm_X11_noLine in_X11 co_X11_noLine dyS_X11_noLine rfl rfl ⟨(Nat.le_of_ble_eq_true rfl), (Nat.le_of_ble_eq_true rfl)⟩ dX11_sample_1 rfl (Nat.le_of_ble_eq_true rfl) (g_fni ?_)
  refine g_if_eq C (tgt := 10) dX11_sample_4 (by decide) (fun h1 => ?_) (fun h1 => ?_)
  · refine g_iload_n C (i := 2) dX11_sample_10 rfl 2 rfl ?_
    refine g_iconst C (v := 0) dX11_sample_11 (by decide) ?_
    refine g_bipush C (v := 111) dX11_sample_12 (by decide) ?_
    refine g_callS C (st := []) (c_X11_in l D ad dA z0 tt σ φ y 0 111) rfl ml_X11_103 sm_X11_in in_X11 co_X11_in dyS_X11_in rfl rfl ⟨(Nat.le_of_ble_eq_true rfl), (Nat.le_of_ble_eq_true rfl)⟩ dX11_sample_14 rfl (Nat.le_of_ble_eq_true rfl) (g_fni ?_)
    have J2 : ∀ (v1 : Int32), (if (f_X11_in y 0 111) = 0 then (-100002) else (f_X11_signal σ x y)) = v1 → K σ φ 31 [] [.int v1] := by
      intro v1 ev1
      subst ev1
      have e0 := (show f_X11_sample σ x y = _ from ((f_X11_sample_eq _ _ _).trans (if_pos h1)))
      exact hi _ _ _ _ _ _ rfl dX11_sample_31 rfl ⟨(congrArg (fun z => some (Value.int z)) e0).symm, rfl, rfl⟩
    refine g_if_eq C (tgt := 29) dX11_sample_17 (by decide) (fun h2 => ?_) (fun h2 => ?_)
    · refine g_ldc C kc_X11_119 dX11_sample_29 ?_
      refine g_loc C [] rfl ?_
      exact J2 _ ((if_pos h2))
    · refine g_aload_n C (i := 0) dX11_sample_20 rfl 0 rfl ?_
      refine g_iload_n C (i := 1) dX11_sample_21 rfl 1 rfl ?_
      refine g_iload_n C (i := 2) dX11_sample_22 rfl 2 rfl ?_
      refine g_callV C (st := []) (c_X11_signal l D ad dA z0 tt σ φ x y (nl_in h1)) rfl ml_X11_151 im_X11_signal se_X11_signal in_X11 co_X11_signal dyV_X11_signal rfl rfl ⟨(Nat.le_of_ble_eq_true rfl), (Nat.le_of_ble_eq_true rfl)⟩ 53 11 (fun f => at_53 ad dA σ f) rfl dX11_sample_23 rfl (Nat.le_of_ble_eq_true rfl) (g_fni ?_)
      refine g_goto C (tgt := 31) dX11_sample_26 (by decide) ?_
      refine g_loc C [] rfl ?_
      exact J2 _ ((if_neg h2))
  · refine g_ldc C kc_X11_115 dX11_sample_7 ?_
    have e0 := (show f_X11_sample σ x y = _ from ((f_X11_sample_eq _ _ _).trans (if_neg h1)))
    exact hi _ _ _ _ _ _ rfl dX11_sample_9 rfl ⟨(congrArg (fun z => some (Value.int z)) e0).symm, rfl, rfl⟩
def f_X11_set (σ : Sg) (x : Int32) (y : Int32) : Int32 × Sg := if (f_X11_in x 0 3) = 0 then ((-100001), σ) else (let v1 : Int32 := (if x = 0 then 1 else 0); let v3 : Int32 := (if x = 0 then 40 else (if x = 1 then 100 else (if x = 2 then 3 else 2))); if (f_X11_in y v1 v3) = 0 then ((-100002), σ) else (let σ5 : Sg := sw σ 62 x.toNatClampNeg y; (σ 62 x.toNatClampNeg, σ5)))
theorem f_X11_set_eq (σ : Sg) (x : Int32) (y : Int32) : f_X11_set σ x y = (if (f_X11_in x 0 3) = 0 then ((-100001), σ) else (let v1 : Int32 := (if x = 0 then 1 else 0); let v3 : Int32 := (if x = 0 then 40 else (if x = 1 then 100 else (if x = 2 then 3 else 2))); if (f_X11_in y v1 v3) = 0 then ((-100002), σ) else (let σ5 : Sg := sw σ 62 x.toNatClampNeg y; (σ 62 x.toNatClampNeg, σ5)))) := rfl
set_option maxRecDepth 100000 in
set_option maxHeartbeats 4000000 in
theorem c_X11_set (l : Launch) (D : va_G) (ad : Nat → Nat) (dA : Nat → ClassId) (z0 : Nat) (tt : Nat → Nat) (σ : Sg) (φ : Fl) (x : Int32) (y : Int32)  : MC l D ad dA z0 tt yX11_set (Cond.code yX11_set cX11_set 6 (some .int) :: lw_all) { frames := 1, cells := 0, slots := 0, locals := 22 } [.ref (ad 53), .int x, .int y] σ φ (Fn (some (.int (f_X11_set σ x y).1)) (f_X11_set σ x y).2 φ) := by
  refine mk_MC (by decide) (Nat.le_of_ble_eq_true rfl) ?_
  intro K C hi hf hv
  change K σ φ 0 [(0, .ref (ad 53)), (1, .int x), (2, .int y)] []
  refine g_iload_n C (i := 1) dX11_set_0 rfl 1 rfl ?_
  refine g_iconst C (v := 0) dX11_set_1 (by decide) ?_
  refine g_iconst C (v := 3) dX11_set_2 (by decide) ?_
  refine g_callS C (st := []) (c_X11_in l D ad dA z0 tt σ φ x 0 3) rfl ml_X11_103 sm_X11_in in_X11 co_X11_in dyS_X11_in rfl rfl ⟨(Nat.le_of_ble_eq_true rfl), (Nat.le_of_ble_eq_true rfl)⟩ dX11_set_3 rfl (Nat.le_of_ble_eq_true rfl) (g_fni ?_)
  refine g_if_ne C (tgt := 12) dX11_set_6 (by decide) (fun h1 => ?_) (fun h1 => ?_)
  · refine g_iload_n C (i := 1) dX11_set_12 rfl 1 rfl ?_
    have J2 : ∀ (v1 : Int32), (if x = 0 then 1 else 0) = v1 → K σ φ 21 [(0, .ref (ad 53)), (1, .int x), (2, .int y)] [.int v1] := by
      intro v1 ev1
      refine g_istore_n C (i := 3) (lv' := [(3, .int v1), (0, .ref (ad 53)), (1, .int x), (2, .int y)]) dX11_set_21 rfl (by decide) rfl ?_
      refine g_iload_n C (i := 1) dX11_set_22 rfl 2 rfl ?_
      have J4 : ∀ (v3 : Int32), (if x = 0 then 40 else (if x = 1 then 100 else (if x = 2 then 3 else 2))) = v3 → K σ φ 51 [(0, .ref (ad 53)), (1, .int x), (2, .int y), (3, .int v1)] [.int v3] := by
        intro v3 ev3
        refine g_istore C (i := 4) (lv' := [(4, .int v3), (0, .ref (ad 53)), (1, .int x), (2, .int y), (3, .int v1)]) dX11_set_51 (by decide) rfl ?_
        refine g_iload_n C (i := 2) dX11_set_53 rfl 3 rfl ?_
        refine g_iload_n C (i := 3) dX11_set_54 rfl 4 rfl ?_
        refine g_iload C (i := 4) dX11_set_55 0 rfl ?_
        refine g_callS C (st := []) (c_X11_in l D ad dA z0 tt σ φ y v1 v3) rfl ml_X11_103 sm_X11_in in_X11 co_X11_in dyS_X11_in rfl rfl ⟨(Nat.le_of_ble_eq_true rfl), (Nat.le_of_ble_eq_true rfl)⟩ dX11_set_57 rfl (Nat.le_of_ble_eq_true rfl) (g_fni ?_)
        refine g_if_ne C (tgt := 66) dX11_set_60 (by decide) (fun h6 => ?_) (fun h6 => ?_)
        · refine g_aload_n C (i := 0) dX11_set_66 rfl 1 rfl ?_
          refine gg_53_9 C fl_X11_35 dX11_set_67 ?_
          refine g_iload_n C (i := 1) dX11_set_70 rfl 2 rfl ?_
          refine ld_62 C (ii_in (m := 3) rfl h1) dX11_set_71 ?_
          refine g_istore C (i := 5) (lv' := [(5, .int (σ 62 x.toNatClampNeg)), (4, .int v3), (0, .ref (ad 53)), (1, .int x), (2, .int y), (3, .int v1)]) dX11_set_72 (by decide) rfl ?_
          refine g_aload_n C (i := 0) dX11_set_74 rfl 2 rfl ?_
          refine gg_53_9 C fl_X11_35 dX11_set_75 ?_
          refine g_iload_n C (i := 1) dX11_set_78 rfl 3 rfl ?_
          refine g_iload_n C (i := 2) dX11_set_79 rfl 4 rfl ?_
          refine sd_62 C (ii_in (m := 3) rfl h1) dX11_set_80 ?_
          refine g_nms C (fun σ5 eσ5 => ?_)
          refine g_iload C (i := 5) dX11_set_81 0 rfl ?_
          subst eσ5
          subst ev3
          subst ev1
          have e0 := (show f_X11_set σ x y = _ from ((f_X11_set_eq _ _ _).trans ((if_neg h1).trans (if_neg h6))))
          exact hi _ _ _ _ _ _ rfl dX11_set_83 rfl ⟨(congrArg (fun z => some (Value.int z.1)) e0).symm, (congrArg (fun z => z.2) e0).symm, rfl⟩
        · refine g_ldc C kc_X11_119 dX11_set_63 ?_
          subst ev3
          subst ev1
          have e0 := (show f_X11_set σ x y = _ from ((f_X11_set_eq _ _ _).trans ((if_neg h1).trans (if_pos h6))))
          exact hi _ _ _ _ _ _ rfl dX11_set_65 rfl ⟨(congrArg (fun z => some (Value.int z.1)) e0).symm, (congrArg (fun z => z.2) e0).symm, rfl⟩
      refine g_if_ne C (tgt := 31) dX11_set_23 (by decide) (fun h3 => ?_) (fun h3 => ?_)
      · refine g_iload_n C (i := 1) dX11_set_31 rfl 2 rfl ?_
        refine g_iconst C (v := 1) dX11_set_32 (by decide) ?_
        refine g_icmp_ne C (tgt := 41) dX11_set_33 (by decide) (fun h4 => ?_) (fun h4 => ?_)
        · refine g_iload_n C (i := 1) dX11_set_41 rfl 2 rfl ?_
          refine g_iconst C (v := 2) dX11_set_42 (by decide) ?_
          refine g_icmp_ne C (tgt := 50) dX11_set_43 (by decide) (fun h5 => ?_) (fun h5 => ?_)
          · refine g_iconst C (v := 2) dX11_set_50 (by decide) ?_
            refine g_loc C [1, 2, 3, 0] rfl ?_
            exact J4 _ (((if_neg h3).trans ((if_neg h4).trans (if_neg h5))))
          · refine g_iconst C (v := 3) dX11_set_46 (by decide) ?_
            refine g_goto C (tgt := 51) dX11_set_47 (by decide) ?_
            refine g_loc C [1, 2, 3, 0] rfl ?_
            exact J4 _ (((if_neg h3).trans ((if_neg h4).trans (if_pos h5))))
        · refine g_bipush C (v := 100) dX11_set_36 (by decide) ?_
          refine g_goto C (tgt := 51) dX11_set_38 (by decide) ?_
          refine g_loc C [1, 2, 3, 0] rfl ?_
          exact J4 _ (((if_neg h3).trans (if_pos h4)))
      · refine g_bipush C (v := 40) dX11_set_26 (by decide) ?_
        refine g_goto C (tgt := 51) dX11_set_28 (by decide) ?_
        refine g_loc C [1, 2, 3, 0] rfl ?_
        exact J4 _ ((if_pos h3))
    refine g_if_ne C (tgt := 20) dX11_set_13 (by decide) (fun h2 => ?_) (fun h2 => ?_)
    · refine g_iconst C (v := 0) dX11_set_20 (by decide) ?_
      refine g_loc C [0, 1, 2] rfl ?_
      exact J2 _ ((if_neg h2))
    · refine g_iconst C (v := 1) dX11_set_16 (by decide) ?_
      refine g_goto C (tgt := 21) dX11_set_17 (by decide) ?_
      refine g_loc C [0, 1, 2] rfl ?_
      exact J2 _ ((if_pos h2))
  · refine g_ldc C kc_X11_115 dX11_set_9 ?_
    have e0 := (show f_X11_set σ x y = _ from ((f_X11_set_eq _ _ _).trans (if_pos h1)))
    exact hi _ _ _ _ _ _ rfl dX11_set_11 rfl ⟨(congrArg (fun z => some (Value.int z.1)) e0).symm, (congrArg (fun z => z.2) e0).symm, rfl⟩
def f_X11_guessed (σ : Sg) : Int32 := let v1 : Int32 := (if (σ 53 22) ≤ (σ 53 23) then 0 else 1); v1
theorem f_X11_guessed_eq (σ : Sg) : f_X11_guessed σ = (let v1 : Int32 := (if (σ 53 22) ≤ (σ 53 23) then 0 else 1); v1) := rfl
set_option maxRecDepth 100000 in
set_option maxHeartbeats 4000000 in
theorem c_X11_guessed (l : Launch) (D : va_G) (ad : Nat → Nat) (dA : Nat → ClassId) (z0 : Nat) (tt : Nat → Nat) (σ : Sg) (φ : Fl)   : MC l D ad dA z0 tt yX11_guessed (Cond.code yX11_guessed cX11_guessed 1 (some .int) :: lw_all) { frames := 0, cells := 0, slots := 0, locals := 0 } [.ref (ad 53)] σ φ (Fn (some (.int (f_X11_guessed σ))) σ φ) := by
  refine mk_MC (by decide) (Nat.le_of_ble_eq_true rfl) ?_
  intro K C hi hf hv
  change K σ φ 0 [(0, .ref (ad 53))] []
  refine g_aload_n C (i := 0) dX11_guessed_0 rfl 0 rfl ?_
  refine gg_53_22 C fl_X11_163 dX11_guessed_1 ?_
  refine g_aload_n C (i := 0) dX11_guessed_4 rfl 0 rfl ?_
  refine gg_53_23 C fl_X11_166 dX11_guessed_5 ?_
  have J2 : ∀ (v1 : Int32), (if (σ 53 22) ≤ (σ 53 23) then 0 else 1) = v1 → K σ φ 16 [] [.int v1] := by
    intro v1 ev1
    subst ev1
    have e0 := (show f_X11_guessed σ = _ from rfl)
    exact hi _ _ _ _ _ _ rfl dX11_guessed_16 rfl ⟨(congrArg (fun z => some (Value.int z)) e0).symm, rfl, rfl⟩
  refine g_icmp_le C (tgt := 15) dX11_guessed_8 (by decide) (fun h1 => ?_) (fun h1 => ?_)
  · refine g_iconst C (v := 0) dX11_guessed_15 (by decide) ?_
    refine g_loc C [] rfl ?_
    exact J2 _ ((if_pos h1))
  · refine g_iconst C (v := 1) dX11_guessed_11 (by decide) ?_
    refine g_goto C (tgt := 16) dX11_guessed_12 (by decide) ?_
    refine g_loc C [] rfl ?_
    exact J2 _ ((if_neg h1))
def f_X11_from (σ : Sg) (x : Int32) (y : Int32) : Int32 := f_X11_signal σ x ((σ 66 x.toNatClampNeg) + y)
theorem f_X11_from_eq (σ : Sg) (x : Int32) (y : Int32) : f_X11_from σ x y = (f_X11_signal σ x ((σ 66 x.toNatClampNeg) + y)) := rfl
set_option maxRecDepth 100000 in
set_option maxHeartbeats 4000000 in
theorem c_X11_from (l : Launch) (D : va_G) (ad : Nat → Nat) (dA : Nat → ClassId) (z0 : Nat) (tt : Nat → Nat) (σ : Sg) (φ : Fl) (x : Int32) (y : Int32) (hx : vp_in x 8) : MC l D ad dA z0 tt yX11_from (Cond.code yX11_from cX11_from 3 (some .int) :: lw_all) { frames := 2, cells := 0, slots := 0, locals := 49 } [.ref (ad 53), .int x, .int y] σ φ (Fn (some (.int (f_X11_from σ x y))) σ φ) := by
  refine mk_MC (by decide) (Nat.le_of_ble_eq_true rfl) ?_
  intro K C hi hf hv
  change K σ φ 0 [(0, .ref (ad 53)), (1, .int x), (2, .int y)] []
  refine g_aload_n C (i := 0) dX11_from_0 rfl 0 rfl ?_
  refine g_iload_n C (i := 1) dX11_from_1 rfl 1 rfl ?_
  refine g_aload_n C (i := 0) dX11_from_2 rfl 0 rfl ?_
  refine gg_53_15 C fl_X11_48 dX11_from_3 ?_
  refine g_iload_n C (i := 1) dX11_from_6 rfl 1 rfl ?_
  refine ld_66 C hx dX11_from_7 ?_
  refine g_iload_n C (i := 2) dX11_from_8 rfl 2 rfl ?_
  refine g_iadd C dX11_from_9 ?_
  refine g_callV C (st := []) (c_X11_signal l D ad dA z0 tt σ φ x ((σ 66 x.toNatClampNeg) + y) hx) rfl ml_X11_151 im_X11_signal se_X11_signal in_X11 co_X11_signal dyV_X11_signal rfl rfl ⟨(Nat.le_of_ble_eq_true rfl), (Nat.le_of_ble_eq_true rfl)⟩ 53 11 (fun f => at_53 ad dA σ f) rfl dX11_from_10 rfl (Nat.le_of_ble_eq_true rfl) (g_fni ?_)
  have e0 := (show f_X11_from σ x y = _ from rfl)
  exact hi _ _ _ _ _ _ rfl dX11_from_13 rfl ⟨(congrArg (fun z => some (Value.int z)) e0).symm, rfl, rfl⟩
def b_X11_sumOf_5 (σ : Sg) (x : Int32) (y : Int32) (j1 : Nat) (s1 : Int32) : Int32 := let v2 : Int32 := s1 + (f_X11_from σ x ((16 + (8 * y)) + (nI j1))); v2
theorem b_X11_sumOf_5_eq (σ : Sg) (x : Int32) (y : Int32) (j1 : Nat) (s1 : Int32) : b_X11_sumOf_5 σ x y j1 s1 = (let v2 : Int32 := s1 + (f_X11_from σ x ((16 + (8 * y)) + (nI j1))); v2) := rfl
def f_X11_sumOf (σ : Sg) (x : Int32) (y : Int32) : Int32 := let t1 : Int32 := loopF (b_X11_sumOf_5 σ x y) 8 0; t1
theorem f_X11_sumOf_eq (σ : Sg) (x : Int32) (y : Int32) : f_X11_sumOf σ x y = (let t1 : Int32 := loopF (b_X11_sumOf_5 σ x y) 8 0; t1) := rfl
set_option maxRecDepth 100000 in
set_option maxHeartbeats 4000000 in
theorem c_X11_sumOf (l : Launch) (D : va_G) (ad : Nat → Nat) (dA : Nat → ClassId) (z0 : Nat) (tt : Nat → Nat) (σ : Sg) (φ : Fl) (x : Int32) (y : Int32) (hx : vp_in x 8) : MC l D ad dA z0 tt yX11_sumOf (Cond.code yX11_sumOf cX11_sumOf 5 (some .int) :: lw_all) { frames := 3, cells := 0, slots := 0, locals := 71 } [.ref (ad 53), .int x, .int y] σ φ (Fn (some (.int (f_X11_sumOf σ x y))) σ φ) := by
  refine mk_MC (by decide) (Nat.le_of_ble_eq_true rfl) ?_
  intro K C hi hf hv
  change K σ φ 0 [(0, .ref (ad 53)), (1, .int x), (2, .int y)] []
  refine g_iconst C (v := 0) dX11_sumOf_0 (by decide) ?_
  refine g_istore_n C (i := 3) (lv' := [(3, .int 0), (0, .ref (ad 53)), (1, .int x), (2, .int y)]) dX11_sumOf_1 rfl (by decide) rfl ?_
  refine g_iconst C (v := 0) dX11_sumOf_2 (by decide) ?_
  refine g_istore C (i := 4) (lv' := [(4, .int 0), (3, .int 0), (0, .ref (ad 53)), (1, .int x), (2, .int y)]) dX11_sumOf_3 (by decide) rfl ?_
  refine g_loc C (lv' := [(0, .ref (ad 53)), (1, .int x), (2, .int y), (3, .int 0), (4, .int 0)]) [2, 3, 4, 1, 0] rfl ?_
  refine loopF_ind (b_X11_sumOf_5 σ x y) 8 (fun (j1 : Nat) (s1 : Int32) => K σ φ 5 [(0, .ref (ad 53)), (1, .int x), (2, .int y), (3, .int s1), (4, .int (nI j1))] []) 0 ?_ ?_
  · intro j1 s1 hj1 kk
    change K σ φ 5 [(0, .ref (ad 53)), (1, .int x), (2, .int y), (3, .int s1), (4, .int (nI j1))] []
    refine g_iload C (i := 4) dX11_sumOf_5 4 rfl ?_
    refine g_bipush C (v := 8) dX11_sumOf_7 (by decide) ?_
    refine g_icmp_ge C (tgt := 36) dX11_sumOf_9 (by decide) (fun h1 => ?_) (fun h1 => ?_)
    · exact absurd h1 (nI_ge hj1 (by decide))
    · refine g_iload_n C (i := 3) dX11_sumOf_12 rfl 3 rfl ?_
      refine g_aload_n C (i := 0) dX11_sumOf_13 rfl 0 rfl ?_
      refine g_iload_n C (i := 1) dX11_sumOf_14 rfl 1 rfl ?_
      refine g_bipush C (v := 16) dX11_sumOf_15 (by decide) ?_
      refine g_bipush C (v := 8) dX11_sumOf_17 (by decide) ?_
      refine g_iload_n C (i := 2) dX11_sumOf_19 rfl 2 rfl ?_
      refine g_imul C dX11_sumOf_20 ?_
      refine g_iadd C dX11_sumOf_21 ?_
      refine g_iload C (i := 4) dX11_sumOf_22 4 rfl ?_
      refine g_iadd C dX11_sumOf_24 ?_
      refine g_callV C (st := [.int s1]) (c_X11_from l D ad dA z0 tt σ φ x ((16 + (8 * y)) + (nI j1)) hx) rfl ml_X11_170 im_X11_from se_X11_from in_X11 co_X11_from dyV_X11_from rfl rfl ⟨(Nat.le_of_ble_eq_true rfl), (Nat.le_of_ble_eq_true rfl)⟩ 53 11 (fun f => at_53 ad dA σ f) rfl dX11_sumOf_25 rfl (Nat.le_of_ble_eq_true rfl) (g_fni ?_)
      refine g_iadd C dX11_sumOf_28 ?_
      refine g_nmi C (fun v2 ev2 => ?_)
      refine g_istore_n C (i := 3) (lv' := [(3, .int v2), (0, .ref (ad 53)), (1, .int x), (2, .int y), (4, .int (nI j1))]) dX11_sumOf_29 rfl (by decide) rfl ?_
      refine g_iinc C (i := 4) (v := nI (j1 + 1)) (lv' := [(4, .int (nI (j1 + 1))), (3, .int v2), (0, .ref (ad 53)), (1, .int x), (2, .int y)]) dX11_sumOf_30 4 rfl (nI_1 _) (by decide) rfl ?_
      refine g_goto C (tgt := 5) dX11_sumOf_33 (by decide) ?_
      refine g_loc C [2, 3, 4, 1, 0] rfl ?_
      refine kk v2 ?_
      subst ev2
      exact b_X11_sumOf_5_eq _ _ _ _ _
  · generalize et1 : loopF (b_X11_sumOf_5 σ x y) 8 0 = t1
    change K σ φ 5 [(0, .ref (ad 53)), (1, .int x), (2, .int y), (3, .int t1), (4, .int (nI 8))] []
    refine g_iload C (i := 4) dX11_sumOf_5 4 rfl ?_
    refine g_bipush C (v := 8) dX11_sumOf_7 (by decide) ?_
    refine g_icmp_ge C (tgt := 36) dX11_sumOf_9 (by decide) (fun h2 => ?_) (fun h2 => ?_)
    · refine g_iload_n C (i := 3) dX11_sumOf_36 rfl 3 rfl ?_
      subst et1
      have e0 := (show f_X11_sumOf σ x y = _ from rfl)
      exact hi _ _ _ _ _ _ rfl dX11_sumOf_37 rfl ⟨(congrArg (fun z => some (Value.int z)) e0).symm, rfl, rfl⟩
    · exact absurd (nI_le (Nat.le_refl _) (by decide)) h2
def f_X11_isNear (σ : Sg) (x : Int32) (y : Int32) (w : Int32) : Int32 := let v1 : Int32 := (if (f_X11_in y 0 7) = 0 then 0 else (if (8 * (σ 62 (1 : Int32).toNatClampNeg)) < (f_X11_size ((f_X11_sumOf σ y w) - (f_X11_sumOf σ x w))) then 0 else 1)); v1
theorem f_X11_isNear_eq (σ : Sg) (x : Int32) (y : Int32) (w : Int32) : f_X11_isNear σ x y w = (let v1 : Int32 := (if (f_X11_in y 0 7) = 0 then 0 else (if (8 * (σ 62 (1 : Int32).toNatClampNeg)) < (f_X11_size ((f_X11_sumOf σ y w) - (f_X11_sumOf σ x w))) then 0 else 1)); v1) := rfl
theorem z_X11_isNear (σ : Sg) (x : Int32) (y : Int32) (w : Int32) : f_X11_isNear σ x y w = 0 ∨ f_X11_isNear σ x y w = 1 := (zo_ite (Or.inl rfl) (zo_ite (Or.inl rfl) (Or.inr rfl)))
set_option maxRecDepth 100000 in
set_option maxHeartbeats 4000000 in
theorem c_X11_isNear (l : Launch) (D : va_G) (ad : Nat → Nat) (dA : Nat → ClassId) (z0 : Nat) (tt : Nat → Nat) (σ : Sg) (φ : Fl) (x : Int32) (y : Int32) (w : Int32) (hx : vp_in x 8) : MC l D ad dA z0 tt yX11_isNear (Cond.code yX11_isNear cX11_isNear 4 (some .boolean) :: lw_all) { frames := 4, cells := 0, slots := 0, locals := 95 } [.ref (ad 53), .int x, .int y, .int w] σ φ (Fn (some (.int (f_X11_isNear σ x y w))) σ φ) := by
  refine mk_MC (by decide) (Nat.le_of_ble_eq_true rfl) ?_
  intro K C hi hf hv
  change K σ φ 0 [(0, .ref (ad 53)), (1, .int x), (2, .int y), (3, .int w)] []
  refine g_iload_n C (i := 2) dX11_isNear_0 rfl 2 rfl ?_
  refine g_iconst C (v := 0) dX11_isNear_1 (by decide) ?_
  refine g_bipush C (v := 7) dX11_isNear_2 (by decide) ?_
  refine g_callS C (st := []) (c_X11_in l D ad dA z0 tt σ φ y 0 7) rfl ml_X11_103 sm_X11_in in_X11 co_X11_in dyS_X11_in rfl rfl ⟨(Nat.le_of_ble_eq_true rfl), (Nat.le_of_ble_eq_true rfl)⟩ dX11_isNear_4 rfl (Nat.le_of_ble_eq_true rfl) (g_fni ?_)
  have J2 : ∀ (v1 : Int32), (if (f_X11_in y 0 7) = 0 then 0 else (if (8 * (σ 62 (1 : Int32).toNatClampNeg)) < (f_X11_size ((f_X11_sumOf σ y w) - (f_X11_sumOf σ x w))) then 0 else 1)) = v1 → K σ φ 43 [] [.int v1] := by
    intro v1 ev1
    subst ev1
    have e0 := (show f_X11_isNear σ x y w = _ from rfl)
    exact hi _ _ _ _ _ _ rfl dX11_isNear_43 (lv_narrowZ (zo_ite (Or.inl rfl) (zo_ite (Or.inl rfl) (Or.inr rfl)))).1 ⟨(congrArg (fun z => some (Value.int z)) e0).symm, rfl, rfl⟩
  refine g_if_eq C (tgt := 42) dX11_isNear_7 (by decide) (fun h1 => ?_) (fun h1 => ?_)
  · refine g_iconst C (v := 0) dX11_isNear_42 (by decide) ?_
    refine g_loc C [] rfl ?_
    exact J2 _ ((if_pos h1))
  · refine g_aload_n C (i := 0) dX11_isNear_10 rfl 0 rfl ?_
    refine g_iload_n C (i := 2) dX11_isNear_11 rfl 2 rfl ?_
    refine g_iload_n C (i := 3) dX11_isNear_12 rfl 3 rfl ?_
    refine g_callV C (st := []) (c_X11_sumOf l D ad dA z0 tt σ φ y w (ii_in (m := 7) rfl h1)) rfl ml_X11_173 im_X11_sumOf se_X11_sumOf in_X11 co_X11_sumOf dyV_X11_sumOf rfl rfl ⟨(Nat.le_of_ble_eq_true rfl), (Nat.le_of_ble_eq_true rfl)⟩ 53 11 (fun f => at_53 ad dA σ f) rfl dX11_isNear_13 rfl (Nat.le_of_ble_eq_true rfl) (g_fni ?_)
    refine g_aload_n C (i := 0) dX11_isNear_16 rfl 0 rfl ?_
    refine g_iload_n C (i := 1) dX11_isNear_17 rfl 1 rfl ?_
    refine g_iload_n C (i := 3) dX11_isNear_18 rfl 3 rfl ?_
    refine g_callV C (st := [.int (f_X11_sumOf σ y w)]) (c_X11_sumOf l D ad dA z0 tt σ φ x w hx) rfl ml_X11_173 im_X11_sumOf se_X11_sumOf in_X11 co_X11_sumOf dyV_X11_sumOf rfl rfl ⟨(Nat.le_of_ble_eq_true rfl), (Nat.le_of_ble_eq_true rfl)⟩ 53 11 (fun f => at_53 ad dA σ f) rfl dX11_isNear_19 rfl (Nat.le_of_ble_eq_true rfl) (g_fni ?_)
    refine g_isub C dX11_isNear_22 ?_
    refine g_callS C (st := []) (c_X11_size l D ad dA z0 tt σ φ ((f_X11_sumOf σ y w) - (f_X11_sumOf σ x w))) rfl ml_X11_160 sm_X11_size in_X11 co_X11_size dyS_X11_size rfl rfl ⟨(Nat.le_of_ble_eq_true rfl), (Nat.le_of_ble_eq_true rfl)⟩ dX11_isNear_23 rfl (Nat.le_of_ble_eq_true rfl) (g_fni ?_)
    refine g_bipush C (v := 8) dX11_isNear_26 (by decide) ?_
    refine g_aload_n C (i := 0) dX11_isNear_28 rfl 0 rfl ?_
    refine gg_53_9 C fl_X11_35 dX11_isNear_29 ?_
    refine g_iconst C (v := 1) dX11_isNear_32 (by decide) ?_
    refine ld_62 C (vp_lit (by decide)) dX11_isNear_33 ?_
    refine g_imul C dX11_isNear_34 ?_
    refine g_icmp_gt C (tgt := 42) dX11_isNear_35 (by decide) (fun h2 => ?_) (fun h2 => ?_)
    · refine g_iconst C (v := 0) dX11_isNear_42 (by decide) ?_
      refine g_loc C [] rfl ?_
      exact J2 _ (((if_neg h1).trans (if_pos h2)))
    · refine g_iconst C (v := 1) dX11_isNear_38 (by decide) ?_
      refine g_goto C (tgt := 43) dX11_isNear_39 (by decide) ?_
      refine g_loc C [] rfl ?_
      exact J2 _ (((if_neg h1).trans (if_neg h2)))
def f_X11_way (σ : Sg) (x : Int32) (y : Int32) (w : Int32) : Int32 := let v1 : Int32 := σ 62 (2 : Int32).toNatClampNeg; let v2 : Int32 := (if x ≤ 0 then 0 else 1); let v4 : Int32 := (if 7 ≤ x then 0 else 1); if w = 1 then 0 else (if v1 = 0 then 0 else (if v1 = 1 then (let v15 : Int32 := (if v2 = 0 then 2 else 1); v15) else (let v8 : Int32 := (if v1 = 3 then (let v6 : Int32 := f_X11_isNear σ x (x - 1) y; let v7 : Int32 := f_X11_isNear σ x (x + 1) y; v6) else v2); let v9 : Int32 := (if v1 = 3 then (let v6 : Int32 := f_X11_isNear σ x (x - 1) y; let v7 : Int32 := f_X11_isNear σ x (x + 1) y; v7) else v4); let v11 : Int32 := (if v8 = 0 then 0 else 1); let v13 : Int32 := (if v9 = 0 then 0 else 2); v11 + v13)))
theorem f_X11_way_eq (σ : Sg) (x : Int32) (y : Int32) (w : Int32) : f_X11_way σ x y w = (let v1 : Int32 := σ 62 (2 : Int32).toNatClampNeg; let v2 : Int32 := (if x ≤ 0 then 0 else 1); let v4 : Int32 := (if 7 ≤ x then 0 else 1); if w = 1 then 0 else (if v1 = 0 then 0 else (if v1 = 1 then (let v15 : Int32 := (if v2 = 0 then 2 else 1); v15) else (let v8 : Int32 := (if v1 = 3 then (let v6 : Int32 := f_X11_isNear σ x (x - 1) y; let v7 : Int32 := f_X11_isNear σ x (x + 1) y; v6) else v2); let v9 : Int32 := (if v1 = 3 then (let v6 : Int32 := f_X11_isNear σ x (x - 1) y; let v7 : Int32 := f_X11_isNear σ x (x + 1) y; v7) else v4); let v11 : Int32 := (if v8 = 0 then 0 else 1); let v13 : Int32 := (if v9 = 0 then 0 else 2); v11 + v13)))) := rfl
set_option maxRecDepth 100000 in
set_option maxHeartbeats 4000000 in
theorem c_X11_way (l : Launch) (D : va_G) (ad : Nat → Nat) (dA : Nat → ClassId) (z0 : Nat) (tt : Nat → Nat) (σ : Sg) (φ : Fl) (x : Int32) (y : Int32) (w : Int32) (hx : vp_in x 8) : MC l D ad dA z0 tt yX11_way (Cond.code yX11_way cX11_way 7 (some .int) :: lw_all) { frames := 5, cells := 0, slots := 0, locals := 118 } [.ref (ad 53), .int x, .int y, .int w] σ φ (Fn (some (.int (f_X11_way σ x y w))) σ φ) := by
  refine mk_MC (by decide) (Nat.le_of_ble_eq_true rfl) ?_
  intro K C hi hf hv
  change K σ φ 0 [(0, .ref (ad 53)), (1, .int x), (2, .int y), (3, .int w)] []
  refine g_aload_n C (i := 0) dX11_way_0 rfl 0 rfl ?_
  refine gg_53_9 C fl_X11_35 dX11_way_1 ?_
  refine g_iconst C (v := 2) dX11_way_4 (by decide) ?_
  refine ld_62 C (vp_lit (by decide)) dX11_way_5 ?_
  refine g_nmi C (fun v1 ev1 => ?_)
  refine g_istore C (i := 4) (lv' := [(4, .int v1), (0, .ref (ad 53)), (1, .int x), (2, .int y), (3, .int w)]) dX11_way_6 (by decide) rfl ?_
  refine g_iload_n C (i := 1) dX11_way_8 rfl 2 rfl ?_
  have J3 : ∀ (v2 : Int32), (if x ≤ 0 then 0 else 1) = v2 → K σ φ 17 [(0, .ref (ad 53)), (1, .int x), (2, .int y), (3, .int w), (4, .int v1)] [.int v2] := by
    intro v2 ev2
    refine g_istore C (i := 5) (lv' := [(5, .int v2), (0, .ref (ad 53)), (1, .int x), (2, .int y), (3, .int w), (4, .int v1)]) dX11_way_17 (by decide) rfl ?_
    refine g_iload_n C (i := 1) dX11_way_19 rfl 2 rfl ?_
    refine g_bipush C (v := 7) dX11_way_20 (by decide) ?_
    have J5 : ∀ (v4 : Int32), (if 7 ≤ x then 0 else 1) = v4 → K σ φ 30 [(0, .ref (ad 53)), (1, .int x), (2, .int y), (3, .int w), (4, .int v1), (5, .int v2)] [.int v4] := by
      intro v4 ev4
      refine g_istore C (i := 6) (lv' := [(6, .int v4), (0, .ref (ad 53)), (1, .int x), (2, .int y), (3, .int w), (4, .int v1), (5, .int v2)]) dX11_way_30 (by decide) rfl ?_
      refine g_iload_n C (i := 3) dX11_way_32 rfl 4 rfl ?_
      refine g_iconst C (v := 1) dX11_way_33 (by decide) ?_
      refine g_icmp_eq C (tgt := 42) dX11_way_34 (by decide) (fun h3 => ?_) (fun h3 => ?_)
      · refine g_iconst C (v := 0) dX11_way_42 (by decide) ?_
        subst ev4
        subst ev2
        subst ev1
        have e0 := (show f_X11_way σ x y w = _ from ((f_X11_way_eq _ _ _ _).trans (if_pos h3)))
        exact hi _ _ _ _ _ _ rfl dX11_way_43 rfl ⟨(congrArg (fun z => some (Value.int z)) e0).symm, rfl, rfl⟩
      · refine g_iload C (i := 4) dX11_way_37 5 rfl ?_
        refine g_if_ne C (tgt := 44) dX11_way_39 (by decide) (fun h4 => ?_) (fun h4 => ?_)
        · refine g_iload C (i := 4) dX11_way_44 5 rfl ?_
          refine g_iconst C (v := 1) dX11_way_46 (by decide) ?_
          refine g_icmp_ne C (tgt := 61) dX11_way_47 (by decide) (fun h5 => ?_) (fun h5 => ?_)
          · refine g_iload C (i := 4) dX11_way_61 5 rfl ?_
            refine g_iconst C (v := 3) dX11_way_63 (by decide) ?_
            have J10 : ∀ (v8 : Int32), ∀ (v9 : Int32), (if v1 = 3 then (let v6 : Int32 := f_X11_isNear σ x (x - 1) y; let v7 : Int32 := f_X11_isNear σ x (x + 1) y; v6) else v2) = v8 → (if v1 = 3 then (let v6 : Int32 := f_X11_isNear σ x (x - 1) y; let v7 : Int32 := f_X11_isNear σ x (x + 1) y; v7) else v4) = v9 → K σ φ 89 [(5, .int v8), (6, .int v9)] [] := by
              intro v8 v9 ev8 ev9
              refine g_iload C (i := 5) dX11_way_89 0 rfl ?_
              have J12 : ∀ (v11 : Int32), (if v8 = 0 then 0 else 1) = v11 → K σ φ 99 [(6, .int v9)] [.int v11] := by
                intro v11 ev11
                refine g_iload C (i := 6) dX11_way_99 0 rfl ?_
                have J14 : ∀ (v13 : Int32), (if v9 = 0 then 0 else 2) = v13 → K σ φ 109 [] [.int v13, .int v11] := by
                  intro v13 ev13
                  refine g_iadd C dX11_way_109 ?_
                  subst ev13
                  subst ev11
                  subst ev9
                  subst ev8
                  subst ev4
                  subst ev2
                  subst ev1
                  have e0 := (show f_X11_way σ x y w = _ from ((f_X11_way_eq _ _ _ _).trans ((if_neg h3).trans ((if_neg h4).trans (if_neg h5)))))
                  exact hi _ _ _ _ _ _ rfl dX11_way_110 rfl ⟨(congrArg (fun z => some (Value.int z)) e0).symm, rfl, rfl⟩
                refine g_if_eq C (tgt := 108) dX11_way_101 (by decide) (fun h8 => ?_) (fun h8 => ?_)
                · refine g_iconst C (v := 0) dX11_way_108 (by decide) ?_
                  refine g_loc C [] rfl ?_
                  exact J14 _ ((if_pos h8))
                · refine g_iconst C (v := 2) dX11_way_104 (by decide) ?_
                  refine g_goto C (tgt := 109) dX11_way_105 (by decide) ?_
                  refine g_loc C [] rfl ?_
                  exact J14 _ ((if_neg h8))
              refine g_if_eq C (tgt := 98) dX11_way_91 (by decide) (fun h7 => ?_) (fun h7 => ?_)
              · refine g_iconst C (v := 0) dX11_way_98 (by decide) ?_
                refine g_loc C [1] rfl ?_
                exact J12 _ ((if_pos h7))
              · refine g_iconst C (v := 1) dX11_way_94 (by decide) ?_
                refine g_goto C (tgt := 99) dX11_way_95 (by decide) ?_
                refine g_loc C [1] rfl ?_
                exact J12 _ ((if_neg h7))
            refine g_icmp_ne C (tgt := 89) dX11_way_64 (by decide) (fun h6 => ?_) (fun h6 => ?_)
            · refine g_loc C [6, 0] rfl ?_
              exact J10 _ _ ((if_neg h6)) ((if_neg h6))
            · refine g_aload_n C (i := 0) dX11_way_67 rfl 1 rfl ?_
              refine g_iload_n C (i := 1) dX11_way_68 rfl 2 rfl ?_
              refine g_iload_n C (i := 1) dX11_way_69 rfl 2 rfl ?_
              refine g_iconst C (v := 1) dX11_way_70 (by decide) ?_
              refine g_isub C dX11_way_71 ?_
              refine g_iload_n C (i := 2) dX11_way_72 rfl 3 rfl ?_
              refine g_callV C (st := []) (c_X11_isNear l D ad dA z0 tt σ φ x (x - 1) y hx) rfl ml_X11_176 im_X11_isNear se_X11_isNear in_X11 co_X11_isNear dyV_X11_isNear rfl rfl ⟨(Nat.le_of_ble_eq_true rfl), (Nat.le_of_ble_eq_true rfl)⟩ 53 11 (fun f => at_53 ad dA σ f) rfl dX11_way_73 rfl (Nat.le_of_ble_eq_true rfl) (g_fni ?_)
              refine g_nmi C (fun v6 ev6 => ?_)
              refine g_istore C (i := 5) (lv' := [(5, .int v6), (6, .int v4), (0, .ref (ad 53)), (1, .int x), (2, .int y), (3, .int w), (4, .int v1)]) dX11_way_76 (by decide) rfl ?_
              refine g_aload_n C (i := 0) dX11_way_78 rfl 2 rfl ?_
              refine g_iload_n C (i := 1) dX11_way_79 rfl 3 rfl ?_
              refine g_iload_n C (i := 1) dX11_way_80 rfl 3 rfl ?_
              refine g_iconst C (v := 1) dX11_way_81 (by decide) ?_
              refine g_iadd C dX11_way_82 ?_
              refine g_iload_n C (i := 2) dX11_way_83 rfl 4 rfl ?_
              refine g_callV C (st := []) (c_X11_isNear l D ad dA z0 tt σ φ x (x + 1) y hx) rfl ml_X11_176 im_X11_isNear se_X11_isNear in_X11 co_X11_isNear dyV_X11_isNear rfl rfl ⟨(Nat.le_of_ble_eq_true rfl), (Nat.le_of_ble_eq_true rfl)⟩ 53 11 (fun f => at_53 ad dA σ f) rfl dX11_way_84 rfl (Nat.le_of_ble_eq_true rfl) (g_fni ?_)
              refine g_nmi C (fun v7 ev7 => ?_)
              refine g_istore C (i := 6) (lv' := [(6, .int v7), (5, .int v6), (0, .ref (ad 53)), (1, .int x), (2, .int y), (3, .int w), (4, .int v1)]) dX11_way_87 (by decide) rfl ?_
              refine g_loc C [1, 0] rfl ?_
              subst ev7
              subst ev6
              exact J10 _ _ ((if_pos h6)) ((if_pos h6))
          · refine g_iload C (i := 5) dX11_way_50 6 rfl ?_
            have J16 : ∀ (v15 : Int32), (if v2 = 0 then 2 else 1) = v15 → K σ φ 60 [] [.int v15] := by
              intro v15 ev15
              subst ev15
              subst ev4
              subst ev2
              subst ev1
              have e0 := (show f_X11_way σ x y w = _ from ((f_X11_way_eq _ _ _ _).trans ((if_neg h3).trans ((if_neg h4).trans (if_pos h5)))))
              exact hi _ _ _ _ _ _ rfl dX11_way_60 rfl ⟨(congrArg (fun z => some (Value.int z)) e0).symm, rfl, rfl⟩
            refine g_if_eq C (tgt := 59) dX11_way_52 (by decide) (fun h9 => ?_) (fun h9 => ?_)
            · refine g_iconst C (v := 2) dX11_way_59 (by decide) ?_
              refine g_loc C [] rfl ?_
              exact J16 _ ((if_pos h9))
            · refine g_iconst C (v := 1) dX11_way_55 (by decide) ?_
              refine g_goto C (tgt := 60) dX11_way_56 (by decide) ?_
              refine g_loc C [] rfl ?_
              exact J16 _ ((if_neg h9))
        · refine g_iconst C (v := 0) dX11_way_42 (by decide) ?_
          subst ev4
          subst ev2
          subst ev1
          have e0 := (show f_X11_way σ x y w = _ from ((f_X11_way_eq _ _ _ _).trans ((if_neg h3).trans (if_pos h4))))
          exact hi _ _ _ _ _ _ rfl dX11_way_43 rfl ⟨(congrArg (fun z => some (Value.int z)) e0).symm, rfl, rfl⟩
    refine g_icmp_ge C (tgt := 29) dX11_way_22 (by decide) (fun h2 => ?_) (fun h2 => ?_)
    · refine g_iconst C (v := 0) dX11_way_29 (by decide) ?_
      refine g_loc C [1, 2, 3, 4, 5, 0] rfl ?_
      exact J5 _ ((if_pos h2))
    · refine g_iconst C (v := 1) dX11_way_25 (by decide) ?_
      refine g_goto C (tgt := 30) dX11_way_26 (by decide) ?_
      refine g_loc C [1, 2, 3, 4, 5, 0] rfl ?_
      exact J5 _ ((if_neg h2))
  refine g_if_le C (tgt := 16) dX11_way_9 (by decide) (fun h1 => ?_) (fun h1 => ?_)
  · refine g_iconst C (v := 0) dX11_way_16 (by decide) ?_
    refine g_loc C [1, 2, 3, 4, 0] rfl ?_
    exact J3 _ ((if_pos h1))
  · refine g_iconst C (v := 1) dX11_way_12 (by decide) ?_
    refine g_goto C (tgt := 17) dX11_way_13 (by decide) ?_
    refine g_loc C [1, 2, 3, 4, 0] rfl ?_
    exact J3 _ ((if_neg h1))
def f_X11_motionAt (σ : Sg) (x : Int32) : Int32 := if (σ 83 x.toNatClampNeg) = 0 then 0 else (let v1 : Int32 := (if (x - x / 10 * 10) ≤ 0 then 0 else (if (σ 83 (x - 1).toNatClampNeg) = 0 then 0 else 1)); let v3 : Int32 := (if 9 ≤ (x - x / 10 * 10) then 0 else (if (σ 83 (x + 1).toNatClampNeg) = 0 then 0 else 1)); let v5 : Int32 := (if x ≤ 9 then 0 else (if (σ 83 (x - 10).toNatClampNeg) = 0 then 0 else 1)); let v7 : Int32 := (if 70 ≤ x then 0 else (if (σ 83 (x + 10).toNatClampNeg) = 0 then 0 else 1)); let v9 : Int32 := (if v1 = 0 then (if v3 = 0 then (if v5 = 0 then (if v7 = 0 then 1 else 2) else 2) else 2) else 2); v9)
theorem f_X11_motionAt_eq (σ : Sg) (x : Int32) : f_X11_motionAt σ x = (if (σ 83 x.toNatClampNeg) = 0 then 0 else (let v1 : Int32 := (if (x - x / 10 * 10) ≤ 0 then 0 else (if (σ 83 (x - 1).toNatClampNeg) = 0 then 0 else 1)); let v3 : Int32 := (if 9 ≤ (x - x / 10 * 10) then 0 else (if (σ 83 (x + 1).toNatClampNeg) = 0 then 0 else 1)); let v5 : Int32 := (if x ≤ 9 then 0 else (if (σ 83 (x - 10).toNatClampNeg) = 0 then 0 else 1)); let v7 : Int32 := (if 70 ≤ x then 0 else (if (σ 83 (x + 10).toNatClampNeg) = 0 then 0 else 1)); let v9 : Int32 := (if v1 = 0 then (if v3 = 0 then (if v5 = 0 then (if v7 = 0 then 1 else 2) else 2) else 2) else 2); v9)) := rfl
set_option maxRecDepth 100000 in
set_option maxHeartbeats 4000000 in
theorem c_X11_motionAt (l : Launch) (D : va_G) (ad : Nat → Nat) (dA : Nat → ClassId) (z0 : Nat) (tt : Nat → Nat) (σ : Sg) (φ : Fl) (x : Int32) (hx : vp_in x 80) : MC l D ad dA z0 tt yX11_motionAt (Cond.code yX11_motionAt cX11_motionAt 6 (some .int) :: lw_all) { frames := 0, cells := 0, slots := 0, locals := 0 } [.ref (ad 53), .int x] σ φ (Fn (some (.int (f_X11_motionAt σ x))) σ φ) := by
  refine mk_MC (by decide) (Nat.le_of_ble_eq_true rfl) ?_
  intro K C hi hf hv
  change K σ φ 0 [(0, .ref (ad 53)), (1, .int x)] []
  refine g_aload_n C (i := 0) dX11_motionAt_0 rfl 0 rfl ?_
  refine gg_53_34 C fl_X11_100 dX11_motionAt_1 ?_
  refine g_iload_n C (i := 1) dX11_motionAt_4 rfl 1 rfl ?_
  refine ld_83 C hx dX11_motionAt_5 ?_
  refine g_if_ne C (tgt := 11) dX11_motionAt_6 (by decide) (fun h1 => ?_) (fun h1 => ?_)
  · refine g_iload_n C (i := 1) dX11_motionAt_11 rfl 1 rfl ?_
    refine g_bipush C (v := 10) dX11_motionAt_12 (by decide) ?_
    refine g_irem C dX11_motionAt_14 (by decide) ?_
    have J2 : ∀ (v1 : Int32), (if (x - x / 10 * 10) ≤ 0 then 0 else (if (σ 83 (x - 1).toNatClampNeg) = 0 then 0 else 1)) = v1 → K σ φ 34 [(0, .ref (ad 53)), (1, .int x)] [.int v1] := by
      intro v1 ev1
      refine g_istore_n C (i := 2) (lv' := [(2, .int v1), (0, .ref (ad 53)), (1, .int x)]) dX11_motionAt_34 rfl (by decide) rfl ?_
      refine g_iload_n C (i := 1) dX11_motionAt_35 rfl 2 rfl ?_
      refine g_bipush C (v := 10) dX11_motionAt_36 (by decide) ?_
      refine g_irem C dX11_motionAt_38 (by decide) ?_
      refine g_bipush C (v := 9) dX11_motionAt_39 (by decide) ?_
      have J4 : ∀ (v3 : Int32), (if 9 ≤ (x - x / 10 * 10) then 0 else (if (σ 83 (x + 1).toNatClampNeg) = 0 then 0 else 1)) = v3 → K σ φ 60 [(0, .ref (ad 53)), (1, .int x), (2, .int v1)] [.int v3] := by
        intro v3 ev3
        refine g_istore_n C (i := 3) (lv' := [(3, .int v3), (0, .ref (ad 53)), (1, .int x), (2, .int v1)]) dX11_motionAt_60 rfl (by decide) rfl ?_
        refine g_iload_n C (i := 1) dX11_motionAt_61 rfl 2 rfl ?_
        refine g_bipush C (v := 9) dX11_motionAt_62 (by decide) ?_
        have J6 : ∀ (v5 : Int32), (if x ≤ 9 then 0 else (if (σ 83 (x - 10).toNatClampNeg) = 0 then 0 else 1)) = v5 → K σ φ 84 [(0, .ref (ad 53)), (1, .int x), (2, .int v1), (3, .int v3)] [.int v5] := by
          intro v5 ev5
          refine g_istore C (i := 4) (lv' := [(4, .int v5), (0, .ref (ad 53)), (1, .int x), (2, .int v1), (3, .int v3)]) dX11_motionAt_84 (by decide) rfl ?_
          refine g_iload_n C (i := 1) dX11_motionAt_86 rfl 2 rfl ?_
          refine g_bipush C (v := 70) dX11_motionAt_87 (by decide) ?_
          have J8 : ∀ (v7 : Int32), (if 70 ≤ x then 0 else (if (σ 83 (x + 10).toNatClampNeg) = 0 then 0 else 1)) = v7 → K σ φ 109 [(2, .int v1), (3, .int v3), (4, .int v5)] [.int v7] := by
            intro v7 ev7
            refine g_istore C (i := 5) (lv' := [(5, .int v7), (2, .int v1), (3, .int v3), (4, .int v5)]) dX11_motionAt_109 (by decide) rfl ?_
            refine g_iload_n C (i := 2) dX11_motionAt_111 rfl 1 rfl ?_
            have J10 : ∀ (v9 : Int32), (if v1 = 0 then (if v3 = 0 then (if v5 = 0 then (if v7 = 0 then 1 else 2) else 2) else 2) else 2) = v9 → K σ φ 134 [] [.int v9] := by
              intro v9 ev9
              subst ev9
              subst ev7
              subst ev5
              subst ev3
              subst ev1
              have e0 := (show f_X11_motionAt σ x = _ from ((f_X11_motionAt_eq _ _).trans (if_neg h1)))
              exact hi _ _ _ _ _ _ rfl dX11_motionAt_134 rfl ⟨(congrArg (fun z => some (Value.int z)) e0).symm, rfl, rfl⟩
            refine g_if_ne C (tgt := 129) dX11_motionAt_112 (by decide) (fun h10 => ?_) (fun h10 => ?_)
            · refine g_iconst C (v := 2) dX11_motionAt_129 (by decide) ?_
              refine g_goto C (tgt := 134) dX11_motionAt_130 (by decide) ?_
              refine g_loc C [] rfl ?_
              exact J10 _ ((if_neg h10))
            · refine g_iload_n C (i := 3) dX11_motionAt_115 rfl 2 rfl ?_
              refine g_if_ne C (tgt := 129) dX11_motionAt_116 (by decide) (fun h11 => ?_) (fun h11 => ?_)
              · refine g_iconst C (v := 2) dX11_motionAt_129 (by decide) ?_
                refine g_goto C (tgt := 134) dX11_motionAt_130 (by decide) ?_
                refine g_loc C [] rfl ?_
                exact J10 _ (((if_pos h10).trans (if_neg h11)))
              · refine g_iload C (i := 4) dX11_motionAt_119 3 rfl ?_
                refine g_if_ne C (tgt := 129) dX11_motionAt_121 (by decide) (fun h12 => ?_) (fun h12 => ?_)
                · refine g_iconst C (v := 2) dX11_motionAt_129 (by decide) ?_
                  refine g_goto C (tgt := 134) dX11_motionAt_130 (by decide) ?_
                  refine g_loc C [] rfl ?_
                  exact J10 _ (((if_pos h10).trans ((if_pos h11).trans (if_neg h12))))
                · refine g_iload C (i := 5) dX11_motionAt_124 0 rfl ?_
                  refine g_if_eq C (tgt := 133) dX11_motionAt_126 (by decide) (fun h13 => ?_) (fun h13 => ?_)
                  · refine g_iconst C (v := 1) dX11_motionAt_133 (by decide) ?_
                    refine g_loc C [] rfl ?_
                    exact J10 _ (((if_pos h10).trans ((if_pos h11).trans ((if_pos h12).trans (if_pos h13)))))
                  · refine g_iconst C (v := 2) dX11_motionAt_129 (by decide) ?_
                    refine g_goto C (tgt := 134) dX11_motionAt_130 (by decide) ?_
                    refine g_loc C [] rfl ?_
                    exact J10 _ (((if_pos h10).trans ((if_pos h11).trans ((if_pos h12).trans (if_neg h13)))))
          refine g_icmp_ge C (tgt := 108) dX11_motionAt_89 (by decide) (fun h8 => ?_) (fun h8 => ?_)
          · refine g_iconst C (v := 0) dX11_motionAt_108 (by decide) ?_
            refine g_loc C [3, 4, 0] rfl ?_
            exact J8 _ ((if_pos h8))
          · refine g_aload_n C (i := 0) dX11_motionAt_92 rfl 1 rfl ?_
            refine gg_53_34 C fl_X11_100 dX11_motionAt_93 ?_
            refine g_iload_n C (i := 1) dX11_motionAt_96 rfl 2 rfl ?_
            refine g_bipush C (v := 10) dX11_motionAt_97 (by decide) ?_
            refine g_iadd C dX11_motionAt_99 ?_
            refine ld_83 C (mo_4 hx h8) dX11_motionAt_100 ?_
            refine g_if_eq C (tgt := 108) dX11_motionAt_101 (by decide) (fun h9 => ?_) (fun h9 => ?_)
            · refine g_iconst C (v := 0) dX11_motionAt_108 (by decide) ?_
              refine g_loc C [3, 4, 0] rfl ?_
              exact J8 _ (((if_neg h8).trans (if_pos h9)))
            · refine g_iconst C (v := 1) dX11_motionAt_104 (by decide) ?_
              refine g_goto C (tgt := 109) dX11_motionAt_105 (by decide) ?_
              refine g_loc C [3, 4, 0] rfl ?_
              exact J8 _ (((if_neg h8).trans (if_neg h9)))
        refine g_icmp_le C (tgt := 83) dX11_motionAt_64 (by decide) (fun h6 => ?_) (fun h6 => ?_)
        · refine g_iconst C (v := 0) dX11_motionAt_83 (by decide) ?_
          refine g_loc C [1, 2, 3, 0] rfl ?_
          exact J6 _ ((if_pos h6))
        · refine g_aload_n C (i := 0) dX11_motionAt_67 rfl 1 rfl ?_
          refine gg_53_34 C fl_X11_100 dX11_motionAt_68 ?_
          refine g_iload_n C (i := 1) dX11_motionAt_71 rfl 2 rfl ?_
          refine g_bipush C (v := 10) dX11_motionAt_72 (by decide) ?_
          refine g_isub C dX11_motionAt_74 ?_
          refine ld_83 C (mo_3 hx h6) dX11_motionAt_75 ?_
          refine g_if_eq C (tgt := 83) dX11_motionAt_76 (by decide) (fun h7 => ?_) (fun h7 => ?_)
          · refine g_iconst C (v := 0) dX11_motionAt_83 (by decide) ?_
            refine g_loc C [1, 2, 3, 0] rfl ?_
            exact J6 _ (((if_neg h6).trans (if_pos h7)))
          · refine g_iconst C (v := 1) dX11_motionAt_79 (by decide) ?_
            refine g_goto C (tgt := 84) dX11_motionAt_80 (by decide) ?_
            refine g_loc C [1, 2, 3, 0] rfl ?_
            exact J6 _ (((if_neg h6).trans (if_neg h7)))
      refine g_icmp_ge C (tgt := 59) dX11_motionAt_41 (by decide) (fun h4 => ?_) (fun h4 => ?_)
      · refine g_iconst C (v := 0) dX11_motionAt_59 (by decide) ?_
        refine g_loc C [1, 2, 0] rfl ?_
        exact J4 _ ((if_pos h4))
      · refine g_aload_n C (i := 0) dX11_motionAt_44 rfl 1 rfl ?_
        refine gg_53_34 C fl_X11_100 dX11_motionAt_45 ?_
        refine g_iload_n C (i := 1) dX11_motionAt_48 rfl 2 rfl ?_
        refine g_iconst C (v := 1) dX11_motionAt_49 (by decide) ?_
        refine g_iadd C dX11_motionAt_50 ?_
        refine ld_83 C (mo_2 hx h4) dX11_motionAt_51 ?_
        refine g_if_eq C (tgt := 59) dX11_motionAt_52 (by decide) (fun h5 => ?_) (fun h5 => ?_)
        · refine g_iconst C (v := 0) dX11_motionAt_59 (by decide) ?_
          refine g_loc C [1, 2, 0] rfl ?_
          exact J4 _ (((if_neg h4).trans (if_pos h5)))
        · refine g_iconst C (v := 1) dX11_motionAt_55 (by decide) ?_
          refine g_goto C (tgt := 60) dX11_motionAt_56 (by decide) ?_
          refine g_loc C [1, 2, 0] rfl ?_
          exact J4 _ (((if_neg h4).trans (if_neg h5)))
    refine g_if_le C (tgt := 33) dX11_motionAt_15 (by decide) (fun h2 => ?_) (fun h2 => ?_)
    · refine g_iconst C (v := 0) dX11_motionAt_33 (by decide) ?_
      refine g_loc C [0, 1] rfl ?_
      exact J2 _ ((if_pos h2))
    · refine g_aload_n C (i := 0) dX11_motionAt_18 rfl 0 rfl ?_
      refine gg_53_34 C fl_X11_100 dX11_motionAt_19 ?_
      refine g_iload_n C (i := 1) dX11_motionAt_22 rfl 1 rfl ?_
      refine g_iconst C (v := 1) dX11_motionAt_23 (by decide) ?_
      refine g_isub C dX11_motionAt_24 ?_
      refine ld_83 C (mo_1 hx h2) dX11_motionAt_25 ?_
      refine g_if_eq C (tgt := 33) dX11_motionAt_26 (by decide) (fun h3 => ?_) (fun h3 => ?_)
      · refine g_iconst C (v := 0) dX11_motionAt_33 (by decide) ?_
        refine g_loc C [0, 1] rfl ?_
        exact J2 _ (((if_neg h2).trans (if_pos h3)))
      · refine g_iconst C (v := 1) dX11_motionAt_29 (by decide) ?_
        refine g_goto C (tgt := 34) dX11_motionAt_30 (by decide) ?_
        refine g_loc C [0, 1] rfl ?_
        exact J2 _ (((if_neg h2).trans (if_neg h3)))
  · refine g_iconst C (v := 0) dX11_motionAt_9 (by decide) ?_
    have e0 := (show f_X11_motionAt σ x = _ from ((f_X11_motionAt_eq _ _).trans (if_pos h1)))
    exact hi _ _ _ _ _ _ rfl dX11_motionAt_10 rfl ⟨(congrArg (fun z => some (Value.int z)) e0).symm, rfl, rfl⟩
def f_X11_line (σ : Sg) (x : Int32) (y : Int32) : Int32 := if (f_X11_noLine x) = 0 then (if (f_X11_in y 0 7) = 0 then (-100002) else (if (σ 53 13) = 0 then (-100004) else (if y = 0 then (σ 65 x.toNatClampNeg) else (if y = 1 then (σ 66 x.toNatClampNeg) else (if y = 2 then (let v1 : Int32 := (if (σ 67 x.toNatClampNeg) = 0 then 0 else 1); v1) else (if y = 3 then (σ 69 x.toNatClampNeg) else (if y = 4 then (σ 70 x.toNatClampNeg) else (if y = 5 then (let v3 : Int32 := (if (σ 71 x.toNatClampNeg) = 0 then 0 else 1); v3) else (if y = 6 then (let v5 : Int32 := (if (σ 72 x.toNatClampNeg) = 0 then 0 else 1); v5) else (σ 68 x.toNatClampNeg)))))))))) else (-100001)
theorem f_X11_line_eq (σ : Sg) (x : Int32) (y : Int32) : f_X11_line σ x y = (if (f_X11_noLine x) = 0 then (if (f_X11_in y 0 7) = 0 then (-100002) else (if (σ 53 13) = 0 then (-100004) else (if y = 0 then (σ 65 x.toNatClampNeg) else (if y = 1 then (σ 66 x.toNatClampNeg) else (if y = 2 then (let v1 : Int32 := (if (σ 67 x.toNatClampNeg) = 0 then 0 else 1); v1) else (if y = 3 then (σ 69 x.toNatClampNeg) else (if y = 4 then (σ 70 x.toNatClampNeg) else (if y = 5 then (let v3 : Int32 := (if (σ 71 x.toNatClampNeg) = 0 then 0 else 1); v3) else (if y = 6 then (let v5 : Int32 := (if (σ 72 x.toNatClampNeg) = 0 then 0 else 1); v5) else (σ 68 x.toNatClampNeg)))))))))) else (-100001)) := rfl
set_option maxRecDepth 100000 in
set_option maxHeartbeats 4000000 in
theorem c_X11_line (l : Launch) (D : va_G) (ad : Nat → Nat) (dA : Nat → ClassId) (z0 : Nat) (tt : Nat → Nat) (σ : Sg) (φ : Fl) (x : Int32) (y : Int32)  : MC l D ad dA z0 tt yX11_line (Cond.code yX11_line cX11_line 3 (some .int) :: lw_all) { frames := 2, cells := 0, slots := 0, locals := 42 } [.ref (ad 53), .int x, .int y] σ φ (Fn (some (.int (f_X11_line σ x y))) σ φ) := by
  refine mk_MC (by decide) (Nat.le_of_ble_eq_true rfl) ?_
  intro K C hi hf hv
  change K σ φ 0 [(0, .ref (ad 53)), (1, .int x), (2, .int y)] []
  refine g_iload_n C (i := 1) dX11_line_0 rfl 1 rfl ?_
  refine g_callS C (st := []) (c_X11_noLine l D ad dA z0 tt σ φ x) rfl ml_X11_107 sm_X11_noLine in_X11 co_X11_noLine dyS_X11_noLine rfl rfl ⟨(Nat.le_of_ble_eq_true rfl), (Nat.le_of_ble_eq_true rfl)⟩ dX11_line_1 rfl (Nat.le_of_ble_eq_true rfl) (g_fni ?_)
  refine g_if_eq C (tgt := 10) dX11_line_4 (by decide) (fun h1 => ?_) (fun h1 => ?_)
  · refine g_iload_n C (i := 2) dX11_line_10 rfl 2 rfl ?_
    refine g_iconst C (v := 0) dX11_line_11 (by decide) ?_
    refine g_bipush C (v := 7) dX11_line_12 (by decide) ?_
    refine g_callS C (st := []) (c_X11_in l D ad dA z0 tt σ φ y 0 7) rfl ml_X11_103 sm_X11_in in_X11 co_X11_in dyS_X11_in rfl rfl ⟨(Nat.le_of_ble_eq_true rfl), (Nat.le_of_ble_eq_true rfl)⟩ dX11_line_14 rfl (Nat.le_of_ble_eq_true rfl) (g_fni ?_)
    refine g_if_ne C (tgt := 23) dX11_line_17 (by decide) (fun h2 => ?_) (fun h2 => ?_)
    · refine g_aload_n C (i := 0) dX11_line_23 rfl 0 rfl ?_
      refine gg_53_13 C fl_X11_189 dX11_line_24 ?_
      refine g_if_ne C (tgt := 33) dX11_line_27 (by decide) (fun h3 => ?_) (fun h3 => ?_)
      · refine g_iload_n C (i := 2) dX11_line_33 rfl 2 rfl ?_
        by_cases h4 : y = 0
        · refine g_tableIn C (tgt := 76) (off := 42) dX11_line_34 (by rw [h4]; decide) (by rw [h4]; decide) (by rw [h4]; rfl) (by decide) ?_
          refine g_aload_n C (i := 0) dX11_line_76 rfl 0 rfl ?_
          refine gg_53_14 C fl_X11_45 dX11_line_77 ?_
          refine g_iload_n C (i := 1) dX11_line_80 rfl 1 rfl ?_
          refine ld_65 C (nl_in h1) dX11_line_81 ?_
          have e0 := (show f_X11_line σ x y = _ from ((f_X11_line_eq _ _ _).trans ((if_pos h1).trans ((if_neg h2).trans ((if_neg h3).trans (if_pos h4))))))
          exact hi _ _ _ _ _ _ rfl dX11_line_82 rfl ⟨(congrArg (fun z => some (Value.int z)) e0).symm, rfl, rfl⟩
        · skip
          by_cases h5 : y = 1
          · refine g_tableIn C (tgt := 83) (off := 49) dX11_line_34 (by rw [h5]; decide) (by rw [h5]; decide) (by rw [h5]; rfl) (by decide) ?_
            refine g_aload_n C (i := 0) dX11_line_83 rfl 0 rfl ?_
            refine gg_53_15 C fl_X11_48 dX11_line_84 ?_
            refine g_iload_n C (i := 1) dX11_line_87 rfl 1 rfl ?_
            refine ld_66 C (nl_in h1) dX11_line_88 ?_
            have e0 := (show f_X11_line σ x y = _ from ((f_X11_line_eq _ _ _).trans ((if_pos h1).trans ((if_neg h2).trans ((if_neg h3).trans ((if_neg h4).trans (if_pos h5)))))))
            exact hi _ _ _ _ _ _ rfl dX11_line_89 rfl ⟨(congrArg (fun z => some (Value.int z)) e0).symm, rfl, rfl⟩
          · skip
            by_cases h6 : y = 2
            · refine g_tableIn C (tgt := 90) (off := 56) dX11_line_34 (by rw [h6]; decide) (by rw [h6]; decide) (by rw [h6]; rfl) (by decide) ?_
              refine g_aload_n C (i := 0) dX11_line_90 rfl 0 rfl ?_
              refine gg_53_16 C fl_X11_51 dX11_line_91 ?_
              refine g_iload_n C (i := 1) dX11_line_94 rfl 1 rfl ?_
              refine ld_67 C (nl_in h1) dX11_line_95 ?_
              have J2 : ∀ (v1 : Int32), (if (σ 67 x.toNatClampNeg) = 0 then 0 else 1) = v1 → K σ φ 104 [] [.int v1] := by
                intro v1 ev1
                subst ev1
                have e0 := (show f_X11_line σ x y = _ from ((f_X11_line_eq _ _ _).trans ((if_pos h1).trans ((if_neg h2).trans ((if_neg h3).trans ((if_neg h4).trans ((if_neg h5).trans (if_pos h6))))))))
                exact hi _ _ _ _ _ _ rfl dX11_line_104 rfl ⟨(congrArg (fun z => some (Value.int z)) e0).symm, rfl, rfl⟩
              refine g_if_eq C (tgt := 103) dX11_line_96 (by decide) (fun h7 => ?_) (fun h7 => ?_)
              · refine g_iconst C (v := 0) dX11_line_103 (by decide) ?_
                refine g_loc C [] rfl ?_
                exact J2 _ ((if_pos h7))
              · refine g_iconst C (v := 1) dX11_line_99 (by decide) ?_
                refine g_goto C (tgt := 104) dX11_line_100 (by decide) ?_
                refine g_loc C [] rfl ?_
                exact J2 _ ((if_neg h7))
            · skip
              by_cases h8 : y = 3
              · refine g_tableIn C (tgt := 105) (off := 71) dX11_line_34 (by rw [h8]; decide) (by rw [h8]; decide) (by rw [h8]; rfl) (by decide) ?_
                refine g_aload_n C (i := 0) dX11_line_105 rfl 0 rfl ?_
                refine gg_53_18 C fl_X11_57 dX11_line_106 ?_
                refine g_iload_n C (i := 1) dX11_line_109 rfl 1 rfl ?_
                refine ld_69 C (nl_in h1) dX11_line_110 ?_
                have e0 := (show f_X11_line σ x y = _ from ((f_X11_line_eq _ _ _).trans ((if_pos h1).trans ((if_neg h2).trans ((if_neg h3).trans ((if_neg h4).trans ((if_neg h5).trans ((if_neg h6).trans (if_pos h8)))))))))
                exact hi _ _ _ _ _ _ rfl dX11_line_111 rfl ⟨(congrArg (fun z => some (Value.int z)) e0).symm, rfl, rfl⟩
              · skip
                by_cases h9 : y = 4
                · refine g_tableIn C (tgt := 112) (off := 78) dX11_line_34 (by rw [h9]; decide) (by rw [h9]; decide) (by rw [h9]; rfl) (by decide) ?_
                  refine g_aload_n C (i := 0) dX11_line_112 rfl 0 rfl ?_
                  refine gg_53_19 C fl_X11_60 dX11_line_113 ?_
                  refine g_iload_n C (i := 1) dX11_line_116 rfl 1 rfl ?_
                  refine ld_70 C (nl_in h1) dX11_line_117 ?_
                  have e0 := (show f_X11_line σ x y = _ from ((f_X11_line_eq _ _ _).trans ((if_pos h1).trans ((if_neg h2).trans ((if_neg h3).trans ((if_neg h4).trans ((if_neg h5).trans ((if_neg h6).trans ((if_neg h8).trans (if_pos h9))))))))))
                  exact hi _ _ _ _ _ _ rfl dX11_line_118 rfl ⟨(congrArg (fun z => some (Value.int z)) e0).symm, rfl, rfl⟩
                · skip
                  by_cases h10 : y = 5
                  · refine g_tableIn C (tgt := 119) (off := 85) dX11_line_34 (by rw [h10]; decide) (by rw [h10]; decide) (by rw [h10]; rfl) (by decide) ?_
                    refine g_aload_n C (i := 0) dX11_line_119 rfl 0 rfl ?_
                    refine gg_53_20 C fl_X11_63 dX11_line_120 ?_
                    refine g_iload_n C (i := 1) dX11_line_123 rfl 1 rfl ?_
                    refine ld_71 C (nl_in h1) dX11_line_124 ?_
                    have J4 : ∀ (v3 : Int32), (if (σ 71 x.toNatClampNeg) = 0 then 0 else 1) = v3 → K σ φ 133 [] [.int v3] := by
                      intro v3 ev3
                      subst ev3
                      have e0 := (show f_X11_line σ x y = _ from ((f_X11_line_eq _ _ _).trans ((if_pos h1).trans ((if_neg h2).trans ((if_neg h3).trans ((if_neg h4).trans ((if_neg h5).trans ((if_neg h6).trans ((if_neg h8).trans ((if_neg h9).trans (if_pos h10)))))))))))
                      exact hi _ _ _ _ _ _ rfl dX11_line_133 rfl ⟨(congrArg (fun z => some (Value.int z)) e0).symm, rfl, rfl⟩
                    refine g_if_eq C (tgt := 132) dX11_line_125 (by decide) (fun h11 => ?_) (fun h11 => ?_)
                    · refine g_iconst C (v := 0) dX11_line_132 (by decide) ?_
                      refine g_loc C [] rfl ?_
                      exact J4 _ ((if_pos h11))
                    · refine g_iconst C (v := 1) dX11_line_128 (by decide) ?_
                      refine g_goto C (tgt := 133) dX11_line_129 (by decide) ?_
                      refine g_loc C [] rfl ?_
                      exact J4 _ ((if_neg h11))
                  · skip
                    by_cases h12 : y = 6
                    · refine g_tableIn C (tgt := 134) (off := 100) dX11_line_34 (by rw [h12]; decide) (by rw [h12]; decide) (by rw [h12]; rfl) (by decide) ?_
                      refine g_aload_n C (i := 0) dX11_line_134 rfl 0 rfl ?_
                      refine gg_53_21 C fl_X11_66 dX11_line_135 ?_
                      refine g_iload_n C (i := 1) dX11_line_138 rfl 1 rfl ?_
                      refine ld_72 C (nl_in h1) dX11_line_139 ?_
                      have J6 : ∀ (v5 : Int32), (if (σ 72 x.toNatClampNeg) = 0 then 0 else 1) = v5 → K σ φ 148 [] [.int v5] := by
                        intro v5 ev5
                        subst ev5
                        have e0 := (show f_X11_line σ x y = _ from ((f_X11_line_eq _ _ _).trans ((if_pos h1).trans ((if_neg h2).trans ((if_neg h3).trans ((if_neg h4).trans ((if_neg h5).trans ((if_neg h6).trans ((if_neg h8).trans ((if_neg h9).trans ((if_neg h10).trans (if_pos h12))))))))))))
                        exact hi _ _ _ _ _ _ rfl dX11_line_148 rfl ⟨(congrArg (fun z => some (Value.int z)) e0).symm, rfl, rfl⟩
                      refine g_if_eq C (tgt := 147) dX11_line_140 (by decide) (fun h13 => ?_) (fun h13 => ?_)
                      · refine g_iconst C (v := 0) dX11_line_147 (by decide) ?_
                        refine g_loc C [] rfl ?_
                        exact J6 _ ((if_pos h13))
                      · refine g_iconst C (v := 1) dX11_line_143 (by decide) ?_
                        refine g_goto C (tgt := 148) dX11_line_144 (by decide) ?_
                        refine g_loc C [] rfl ?_
                        exact J6 _ ((if_neg h13))
                    · skip
                      refine g_tableOut C (tgt := 149) dX11_line_34 (by have nh4 := i32_ne (c := 0) (n := 0) rfl h4; have nh5 := i32_ne (c := 1) (n := 1) rfl h5; have nh6 := i32_ne (c := 2) (n := 2) rfl h6; have nh8 := i32_ne (c := 3) (n := 3) rfl h8; have nh9 := i32_ne (c := 4) (n := 4) rfl h9; have nh10 := i32_ne (c := 5) (n := 5) rfl h10; have nh12 := i32_ne (c := 6) (n := 6) rfl h12; omega) (by decide) ?_
                      refine g_aload_n C (i := 0) dX11_line_149 rfl 0 rfl ?_
                      refine gg_53_17 C fl_X11_54 dX11_line_150 ?_
                      refine g_iload_n C (i := 1) dX11_line_153 rfl 1 rfl ?_
                      refine ld_68 C (nl_in h1) dX11_line_154 ?_
                      have e0 := (show f_X11_line σ x y = _ from ((f_X11_line_eq _ _ _).trans ((if_pos h1).trans ((if_neg h2).trans ((if_neg h3).trans ((if_neg h4).trans ((if_neg h5).trans ((if_neg h6).trans ((if_neg h8).trans ((if_neg h9).trans ((if_neg h10).trans (if_neg h12))))))))))))
                      exact hi _ _ _ _ _ _ rfl dX11_line_155 rfl ⟨(congrArg (fun z => some (Value.int z)) e0).symm, rfl, rfl⟩
      · refine g_ldc C kc_X11_132 dX11_line_30 ?_
        have e0 := (show f_X11_line σ x y = _ from ((f_X11_line_eq _ _ _).trans ((if_pos h1).trans ((if_neg h2).trans (if_pos h3)))))
        exact hi _ _ _ _ _ _ rfl dX11_line_32 rfl ⟨(congrArg (fun z => some (Value.int z)) e0).symm, rfl, rfl⟩
    · refine g_ldc C kc_X11_119 dX11_line_20 ?_
      have e0 := (show f_X11_line σ x y = _ from ((f_X11_line_eq _ _ _).trans ((if_pos h1).trans (if_pos h2))))
      exact hi _ _ _ _ _ _ rfl dX11_line_22 rfl ⟨(congrArg (fun z => some (Value.int z)) e0).symm, rfl, rfl⟩
  · refine g_ldc C kc_X11_115 dX11_line_7 ?_
    have e0 := (show f_X11_line σ x y = _ from ((f_X11_line_eq _ _ _).trans (if_neg h1)))
    exact hi _ _ _ _ _ _ rfl dX11_line_9 rfl ⟨(congrArg (fun z => some (Value.int z)) e0).symm, rfl, rfl⟩
def f_X11_luma (σ : Sg) (x : Int32) (y : Int32) : Int32 := if (f_X11_noSegment x y) = 0 then (let v1 : Int32 := (if (σ 53 13) = 0 then (-100004) else (σ 75 ((10 * x) + y).toNatClampNeg)); v1) else (-100001)
theorem f_X11_luma_eq (σ : Sg) (x : Int32) (y : Int32) : f_X11_luma σ x y = (if (f_X11_noSegment x y) = 0 then (let v1 : Int32 := (if (σ 53 13) = 0 then (-100004) else (σ 75 ((10 * x) + y).toNatClampNeg)); v1) else (-100001)) := rfl
set_option maxRecDepth 100000 in
set_option maxHeartbeats 4000000 in
theorem c_X11_luma (l : Launch) (D : va_G) (ad : Nat → Nat) (dA : Nat → ClassId) (z0 : Nat) (tt : Nat → Nat) (σ : Sg) (φ : Fl) (x : Int32) (y : Int32)  : MC l D ad dA z0 tt yX11_luma (Cond.code yX11_luma cX11_luma 3 (some .int) :: lw_all) { frames := 3, cells := 0, slots := 0, locals := 63 } [.ref (ad 53), .int x, .int y] σ φ (Fn (some (.int (f_X11_luma σ x y))) σ φ) := by
  refine mk_MC (by decide) (Nat.le_of_ble_eq_true rfl) ?_
  intro K C hi hf hv
  change K σ φ 0 [(0, .ref (ad 53)), (1, .int x), (2, .int y)] []
  refine g_iload_n C (i := 1) dX11_luma_0 rfl 1 rfl ?_
  refine g_iload_n C (i := 2) dX11_luma_1 rfl 2 rfl ?_
  refine g_callS C (st := []) (c_X11_noSegment l D ad dA z0 tt σ φ x y) rfl ml_X11_111 sm_X11_noSegment in_X11 co_X11_noSegment dyS_X11_noSegment rfl rfl ⟨(Nat.le_of_ble_eq_true rfl), (Nat.le_of_ble_eq_true rfl)⟩ dX11_luma_2 rfl (Nat.le_of_ble_eq_true rfl) (g_fni ?_)
  refine g_if_eq C (tgt := 11) dX11_luma_5 (by decide) (fun h1 => ?_) (fun h1 => ?_)
  · refine g_aload_n C (i := 0) dX11_luma_11 rfl 0 rfl ?_
    refine gg_53_13 C fl_X11_189 dX11_luma_12 ?_
    have J2 : ∀ (v1 : Int32), (if (σ 53 13) = 0 then (-100004) else (σ 75 ((10 * x) + y).toNatClampNeg)) = v1 → K σ φ 34 [] [.int v1] := by
      intro v1 ev1
      subst ev1
      have e0 := (show f_X11_luma σ x y = _ from ((f_X11_luma_eq _ _ _).trans (if_pos h1)))
      exact hi _ _ _ _ _ _ rfl dX11_luma_34 rfl ⟨(congrArg (fun z => some (Value.int z)) e0).symm, rfl, rfl⟩
    refine g_if_ne C (tgt := 23) dX11_luma_15 (by decide) (fun h2 => ?_) (fun h2 => ?_)
    · refine g_aload_n C (i := 0) dX11_luma_23 rfl 0 rfl ?_
      refine gg_53_26 C fl_X11_76 dX11_luma_24 ?_
      refine g_bipush C (v := 10) dX11_luma_27 (by decide) ?_
      refine g_iload_n C (i := 1) dX11_luma_29 rfl 1 rfl ?_
      refine g_imul C dX11_luma_30 ?_
      refine g_iload_n C (i := 2) dX11_luma_31 rfl 2 rfl ?_
      refine g_iadd C dX11_luma_32 ?_
      refine ld_75 C (pm_in (ns_in h1).1 (ns_in h1).2) dX11_luma_33 ?_
      refine g_loc C [] rfl ?_
      exact J2 _ ((if_neg h2))
    · refine g_ldc C kc_X11_132 dX11_luma_18 ?_
      refine g_goto C (tgt := 34) dX11_luma_20 (by decide) ?_
      refine g_loc C [] rfl ?_
      exact J2 _ ((if_pos h2))
  · refine g_ldc C kc_X11_115 dX11_luma_8 ?_
    have e0 := (show f_X11_luma σ x y = _ from ((f_X11_luma_eq _ _ _).trans (if_neg h1)))
    exact hi _ _ _ _ _ _ rfl dX11_luma_10 rfl ⟨(congrArg (fun z => some (Value.int z)) e0).symm, rfl, rfl⟩
def f_X11_combed (σ : Sg) (x : Int32) (y : Int32) : Int32 := if (f_X11_noSegment x y) = 0 then (let v1 : Int32 := (if (σ 53 13) = 0 then (-100004) else (σ 77 ((10 * x) + y).toNatClampNeg)); v1) else (-100001)
theorem f_X11_combed_eq (σ : Sg) (x : Int32) (y : Int32) : f_X11_combed σ x y = (if (f_X11_noSegment x y) = 0 then (let v1 : Int32 := (if (σ 53 13) = 0 then (-100004) else (σ 77 ((10 * x) + y).toNatClampNeg)); v1) else (-100001)) := rfl
set_option maxRecDepth 100000 in
set_option maxHeartbeats 4000000 in
theorem c_X11_combed (l : Launch) (D : va_G) (ad : Nat → Nat) (dA : Nat → ClassId) (z0 : Nat) (tt : Nat → Nat) (σ : Sg) (φ : Fl) (x : Int32) (y : Int32)  : MC l D ad dA z0 tt yX11_combed (Cond.code yX11_combed cX11_combed 3 (some .int) :: lw_all) { frames := 3, cells := 0, slots := 0, locals := 63 } [.ref (ad 53), .int x, .int y] σ φ (Fn (some (.int (f_X11_combed σ x y))) σ φ) := by
  refine mk_MC (by decide) (Nat.le_of_ble_eq_true rfl) ?_
  intro K C hi hf hv
  change K σ φ 0 [(0, .ref (ad 53)), (1, .int x), (2, .int y)] []
  refine g_iload_n C (i := 1) dX11_combed_0 rfl 1 rfl ?_
  refine g_iload_n C (i := 2) dX11_combed_1 rfl 2 rfl ?_
  refine g_callS C (st := []) (c_X11_noSegment l D ad dA z0 tt σ φ x y) rfl ml_X11_111 sm_X11_noSegment in_X11 co_X11_noSegment dyS_X11_noSegment rfl rfl ⟨(Nat.le_of_ble_eq_true rfl), (Nat.le_of_ble_eq_true rfl)⟩ dX11_combed_2 rfl (Nat.le_of_ble_eq_true rfl) (g_fni ?_)
  refine g_if_eq C (tgt := 11) dX11_combed_5 (by decide) (fun h1 => ?_) (fun h1 => ?_)
  · refine g_aload_n C (i := 0) dX11_combed_11 rfl 0 rfl ?_
    refine gg_53_13 C fl_X11_189 dX11_combed_12 ?_
    have J2 : ∀ (v1 : Int32), (if (σ 53 13) = 0 then (-100004) else (σ 77 ((10 * x) + y).toNatClampNeg)) = v1 → K σ φ 34 [] [.int v1] := by
      intro v1 ev1
      subst ev1
      have e0 := (show f_X11_combed σ x y = _ from ((f_X11_combed_eq _ _ _).trans (if_pos h1)))
      exact hi _ _ _ _ _ _ rfl dX11_combed_34 rfl ⟨(congrArg (fun z => some (Value.int z)) e0).symm, rfl, rfl⟩
    refine g_if_ne C (tgt := 23) dX11_combed_15 (by decide) (fun h2 => ?_) (fun h2 => ?_)
    · refine g_aload_n C (i := 0) dX11_combed_23 rfl 0 rfl ?_
      refine gg_53_28 C fl_X11_82 dX11_combed_24 ?_
      refine g_bipush C (v := 10) dX11_combed_27 (by decide) ?_
      refine g_iload_n C (i := 1) dX11_combed_29 rfl 1 rfl ?_
      refine g_imul C dX11_combed_30 ?_
      refine g_iload_n C (i := 2) dX11_combed_31 rfl 2 rfl ?_
      refine g_iadd C dX11_combed_32 ?_
      refine ld_77 C (pm_in (ns_in h1).1 (ns_in h1).2) dX11_combed_33 ?_
      refine g_loc C [] rfl ?_
      exact J2 _ ((if_neg h2))
    · refine g_ldc C kc_X11_132 dX11_combed_18 ?_
      refine g_goto C (tgt := 34) dX11_combed_20 (by decide) ?_
      refine g_loc C [] rfl ?_
      exact J2 _ ((if_pos h2))
  · refine g_ldc C kc_X11_115 dX11_combed_8 ?_
    have e0 := (show f_X11_combed σ x y = _ from ((f_X11_combed_eq _ _ _).trans (if_neg h1)))
    exact hi _ _ _ _ _ _ rfl dX11_combed_10 rfl ⟨(congrArg (fun z => some (Value.int z)) e0).symm, rfl, rfl⟩
def f_X11_u (φ : Fl) (x : Int32) (y : Int32) : UInt32 := let v1 : UInt32 := (if (f_X11_noSegment x y) = 0 then (φ 80 ((10 * x) + y).toNatClampNeg) else (FP.fconst0)); v1
theorem f_X11_u_eq (φ : Fl) (x : Int32) (y : Int32) : f_X11_u φ x y = (let v1 : UInt32 := (if (f_X11_noSegment x y) = 0 then (φ 80 ((10 * x) + y).toNatClampNeg) else (FP.fconst0)); v1) := rfl
set_option maxRecDepth 100000 in
set_option maxHeartbeats 4000000 in
theorem c_X11_u (l : Launch) (D : va_G) (ad : Nat → Nat) (dA : Nat → ClassId) (z0 : Nat) (tt : Nat → Nat) (σ : Sg) (φ : Fl) (x : Int32) (y : Int32)  : MC l D ad dA z0 tt yX11_u (Cond.code yX11_u cX11_u 3 (some .float) :: lw_all) { frames := 3, cells := 0, slots := 0, locals := 63 } [.ref (ad 53), .int x, .int y] σ φ (Fn (some (.float (f_X11_u φ x y))) σ φ) := by
  refine mk_MC (by decide) (Nat.le_of_ble_eq_true rfl) ?_
  intro K C hi hf hv
  change K σ φ 0 [(0, .ref (ad 53)), (1, .int x), (2, .int y)] []
  refine g_iload_n C (i := 1) dX11_u_0 rfl 1 rfl ?_
  refine g_iload_n C (i := 2) dX11_u_1 rfl 2 rfl ?_
  refine g_callS C (st := []) (c_X11_noSegment l D ad dA z0 tt σ φ x y) rfl ml_X11_111 sm_X11_noSegment in_X11 co_X11_noSegment dyS_X11_noSegment rfl rfl ⟨(Nat.le_of_ble_eq_true rfl), (Nat.le_of_ble_eq_true rfl)⟩ dX11_u_2 rfl (Nat.le_of_ble_eq_true rfl) (g_fni ?_)
  have J2 : ∀ (v1 : UInt32), (if (f_X11_noSegment x y) = 0 then (φ 80 ((10 * x) + y).toNatClampNeg) else (FP.fconst0)) = v1 → K σ φ 23 [] [.float v1] := by
    intro v1 ev1
    subst ev1
    have e0 := (show f_X11_u φ x y = _ from rfl)
    exact hf _ _ _ _ _ rfl dX11_u_23 ⟨(congrArg (fun z => some (Value.float z)) e0).symm, rfl, rfl⟩
  refine g_if_eq C (tgt := 12) dX11_u_5 (by decide) (fun h1 => ?_) (fun h1 => ?_)
  · refine g_aload_n C (i := 0) dX11_u_12 rfl 0 rfl ?_
    refine gg_53_31 C fl_X11_91 dX11_u_13 ?_
    refine g_bipush C (v := 10) dX11_u_16 (by decide) ?_
    refine g_iload_n C (i := 1) dX11_u_18 rfl 1 rfl ?_
    refine g_imul C dX11_u_19 ?_
    refine g_iload_n C (i := 2) dX11_u_20 rfl 2 rfl ?_
    refine g_iadd C dX11_u_21 ?_
    refine ld_80 C (pm_in (ns_in h1).1 (ns_in h1).2) dX11_u_22 ?_
    refine g_loc C [] rfl ?_
    exact J2 _ ((if_pos h1))
  · refine g_fconst0 C dX11_u_8 ?_
    refine g_goto C (tgt := 23) dX11_u_9 (by decide) ?_
    refine g_loc C [] rfl ?_
    exact J2 _ ((if_neg h1))
def f_X11_v (φ : Fl) (x : Int32) (y : Int32) : UInt32 := let v1 : UInt32 := (if (f_X11_noSegment x y) = 0 then (φ 81 ((10 * x) + y).toNatClampNeg) else (FP.fconst0)); v1
theorem f_X11_v_eq (φ : Fl) (x : Int32) (y : Int32) : f_X11_v φ x y = (let v1 : UInt32 := (if (f_X11_noSegment x y) = 0 then (φ 81 ((10 * x) + y).toNatClampNeg) else (FP.fconst0)); v1) := rfl
set_option maxRecDepth 100000 in
set_option maxHeartbeats 4000000 in
theorem c_X11_v (l : Launch) (D : va_G) (ad : Nat → Nat) (dA : Nat → ClassId) (z0 : Nat) (tt : Nat → Nat) (σ : Sg) (φ : Fl) (x : Int32) (y : Int32)  : MC l D ad dA z0 tt yX11_v (Cond.code yX11_v cX11_v 3 (some .float) :: lw_all) { frames := 3, cells := 0, slots := 0, locals := 63 } [.ref (ad 53), .int x, .int y] σ φ (Fn (some (.float (f_X11_v φ x y))) σ φ) := by
  refine mk_MC (by decide) (Nat.le_of_ble_eq_true rfl) ?_
  intro K C hi hf hv
  change K σ φ 0 [(0, .ref (ad 53)), (1, .int x), (2, .int y)] []
  refine g_iload_n C (i := 1) dX11_v_0 rfl 1 rfl ?_
  refine g_iload_n C (i := 2) dX11_v_1 rfl 2 rfl ?_
  refine g_callS C (st := []) (c_X11_noSegment l D ad dA z0 tt σ φ x y) rfl ml_X11_111 sm_X11_noSegment in_X11 co_X11_noSegment dyS_X11_noSegment rfl rfl ⟨(Nat.le_of_ble_eq_true rfl), (Nat.le_of_ble_eq_true rfl)⟩ dX11_v_2 rfl (Nat.le_of_ble_eq_true rfl) (g_fni ?_)
  have J2 : ∀ (v1 : UInt32), (if (f_X11_noSegment x y) = 0 then (φ 81 ((10 * x) + y).toNatClampNeg) else (FP.fconst0)) = v1 → K σ φ 23 [] [.float v1] := by
    intro v1 ev1
    subst ev1
    have e0 := (show f_X11_v φ x y = _ from rfl)
    exact hf _ _ _ _ _ rfl dX11_v_23 ⟨(congrArg (fun z => some (Value.float z)) e0).symm, rfl, rfl⟩
  refine g_if_eq C (tgt := 12) dX11_v_5 (by decide) (fun h1 => ?_) (fun h1 => ?_)
  · refine g_aload_n C (i := 0) dX11_v_12 rfl 0 rfl ?_
    refine gg_53_32 C fl_X11_94 dX11_v_13 ?_
    refine g_bipush C (v := 10) dX11_v_16 (by decide) ?_
    refine g_iload_n C (i := 1) dX11_v_18 rfl 1 rfl ?_
    refine g_imul C dX11_v_19 ?_
    refine g_iload_n C (i := 2) dX11_v_20 rfl 2 rfl ?_
    refine g_iadd C dX11_v_21 ?_
    refine ld_81 C (pm_in (ns_in h1).1 (ns_in h1).2) dX11_v_22 ?_
    refine g_loc C [] rfl ?_
    exact J2 _ ((if_pos h1))
  · refine g_fconst0 C dX11_v_8 ?_
    refine g_goto C (tgt := 23) dX11_v_9 (by decide) ?_
    refine g_loc C [] rfl ?_
    exact J2 _ ((if_neg h1))
def f_X11_motion (σ : Sg) (x : Int32) (y : Int32) : Int32 := if (f_X11_noSegment x y) = 0 then (let v1 : Int32 := (if 2 ≤ (σ 53 13) then (f_X11_motionAt σ ((10 * x) + y)) else (-100004)); v1) else (-100001)
theorem f_X11_motion_eq (σ : Sg) (x : Int32) (y : Int32) : f_X11_motion σ x y = (if (f_X11_noSegment x y) = 0 then (let v1 : Int32 := (if 2 ≤ (σ 53 13) then (f_X11_motionAt σ ((10 * x) + y)) else (-100004)); v1) else (-100001)) := rfl
set_option maxRecDepth 100000 in
set_option maxHeartbeats 4000000 in
theorem c_X11_motion (l : Launch) (D : va_G) (ad : Nat → Nat) (dA : Nat → ClassId) (z0 : Nat) (tt : Nat → Nat) (σ : Sg) (φ : Fl) (x : Int32) (y : Int32)  : MC l D ad dA z0 tt yX11_motion (Cond.code yX11_motion cX11_motion 3 (some .int) :: lw_all) { frames := 3, cells := 0, slots := 0, locals := 63 } [.ref (ad 53), .int x, .int y] σ φ (Fn (some (.int (f_X11_motion σ x y))) σ φ) := by
  refine mk_MC (by decide) (Nat.le_of_ble_eq_true rfl) ?_
  intro K C hi hf hv
  change K σ φ 0 [(0, .ref (ad 53)), (1, .int x), (2, .int y)] []
  refine g_iload_n C (i := 1) dX11_motion_0 rfl 1 rfl ?_
  refine g_iload_n C (i := 2) dX11_motion_1 rfl 2 rfl ?_
  refine g_callS C (st := []) (c_X11_noSegment l D ad dA z0 tt σ φ x y) rfl ml_X11_111 sm_X11_noSegment in_X11 co_X11_noSegment dyS_X11_noSegment rfl rfl ⟨(Nat.le_of_ble_eq_true rfl), (Nat.le_of_ble_eq_true rfl)⟩ dX11_motion_2 rfl (Nat.le_of_ble_eq_true rfl) (g_fni ?_)
  refine g_if_eq C (tgt := 11) dX11_motion_5 (by decide) (fun h1 => ?_) (fun h1 => ?_)
  · refine g_aload_n C (i := 0) dX11_motion_11 rfl 0 rfl ?_
    refine gg_53_13 C fl_X11_189 dX11_motion_12 ?_
    refine g_iconst C (v := 2) dX11_motion_15 (by decide) ?_
    have J2 : ∀ (v1 : Int32), (if 2 ≤ (σ 53 13) then (f_X11_motionAt σ ((10 * x) + y)) else (-100004)) = v1 → K σ φ 34 [] [.int v1] := by
      intro v1 ev1
      subst ev1
      have e0 := (show f_X11_motion σ x y = _ from ((f_X11_motion_eq _ _ _).trans (if_pos h1)))
      exact hi _ _ _ _ _ _ rfl dX11_motion_34 rfl ⟨(congrArg (fun z => some (Value.int z)) e0).symm, rfl, rfl⟩
    refine g_icmp_ge C (tgt := 24) dX11_motion_16 (by decide) (fun h2 => ?_) (fun h2 => ?_)
    · refine g_aload_n C (i := 0) dX11_motion_24 rfl 0 rfl ?_
      refine g_bipush C (v := 10) dX11_motion_25 (by decide) ?_
      refine g_iload_n C (i := 1) dX11_motion_27 rfl 1 rfl ?_
      refine g_imul C dX11_motion_28 ?_
      refine g_iload_n C (i := 2) dX11_motion_29 rfl 2 rfl ?_
      refine g_iadd C dX11_motion_30 ?_
      refine g_callV C (st := []) (c_X11_motionAt l D ad dA z0 tt σ φ ((10 * x) + y) (pm_in (ns_in h1).1 (ns_in h1).2)) rfl ml_X11_214 im_X11_motionAt se_X11_motionAt in_X11 co_X11_motionAt dyV_X11_motionAt rfl rfl ⟨(Nat.le_of_ble_eq_true rfl), (Nat.le_of_ble_eq_true rfl)⟩ 53 11 (fun f => at_53 ad dA σ f) rfl dX11_motion_31 rfl (Nat.le_of_ble_eq_true rfl) (g_fni ?_)
      refine g_loc C [] rfl ?_
      exact J2 _ ((if_pos h2))
    · refine g_ldc C kc_X11_132 dX11_motion_19 ?_
      refine g_goto C (tgt := 34) dX11_motion_21 (by decide) ?_
      refine g_loc C [] rfl ?_
      exact J2 _ ((if_neg h2))
  · refine g_ldc C kc_X11_115 dX11_motion_8 ?_
    have e0 := (show f_X11_motion σ x y = _ from ((f_X11_motion_eq _ _ _).trans (if_neg h1)))
    exact hi _ _ _ _ _ _ rfl dX11_motion_10 rfl ⟨(congrArg (fun z => some (Value.int z)) e0).symm, rfl, rfl⟩
def f_X11_thousandths (σ : Sg) (φ : Fl) (x : Int32) (y : Int32) (w : Int32) : Int32 := if (f_X11_noSegment x y) = 0 then (if (f_X11_in w 0 1) = 0 then (-100002) else (if (σ 53 13) = 0 then (-100004) else (let v1 : UInt32 := (if w = 0 then (φ 80 ((10 * x) + y).toNatClampNeg) else (φ 81 ((10 * x) + y).toNatClampNeg)); FP.f2i (FP.fmul v1 1148846080)))) else (-100001)
theorem f_X11_thousandths_eq (σ : Sg) (φ : Fl) (x : Int32) (y : Int32) (w : Int32) : f_X11_thousandths σ φ x y w = (if (f_X11_noSegment x y) = 0 then (if (f_X11_in w 0 1) = 0 then (-100002) else (if (σ 53 13) = 0 then (-100004) else (let v1 : UInt32 := (if w = 0 then (φ 80 ((10 * x) + y).toNatClampNeg) else (φ 81 ((10 * x) + y).toNatClampNeg)); FP.f2i (FP.fmul v1 1148846080)))) else (-100001)) := rfl
set_option maxRecDepth 100000 in
set_option maxHeartbeats 4000000 in
theorem c_X11_thousandths (l : Launch) (D : va_G) (ad : Nat → Nat) (dA : Nat → ClassId) (z0 : Nat) (tt : Nat → Nat) (σ : Sg) (φ : Fl) (x : Int32) (y : Int32) (w : Int32)  : MC l D ad dA z0 tt yX11_thousandths (Cond.code yX11_thousandths cX11_thousandths 5 (some .int) :: lw_all) { frames := 3, cells := 0, slots := 0, locals := 63 } [.ref (ad 53), .int x, .int y, .int w] σ φ (Fn (some (.int (f_X11_thousandths σ φ x y w))) σ φ) := by
  refine mk_MC (by decide) (Nat.le_of_ble_eq_true rfl) ?_
  intro K C hi hf hv
  change K σ φ 0 [(0, .ref (ad 53)), (1, .int x), (2, .int y), (3, .int w)] []
  refine g_iload_n C (i := 1) dX11_thousandths_0 rfl 1 rfl ?_
  refine g_iload_n C (i := 2) dX11_thousandths_1 rfl 2 rfl ?_
  refine g_callS C (st := []) (c_X11_noSegment l D ad dA z0 tt σ φ x y) rfl ml_X11_111 sm_X11_noSegment in_X11 co_X11_noSegment dyS_X11_noSegment rfl rfl ⟨(Nat.le_of_ble_eq_true rfl), (Nat.le_of_ble_eq_true rfl)⟩ dX11_thousandths_2 rfl (Nat.le_of_ble_eq_true rfl) (g_fni ?_)
  refine g_if_eq C (tgt := 11) dX11_thousandths_5 (by decide) (fun h1 => ?_) (fun h1 => ?_)
  · refine g_iload_n C (i := 3) dX11_thousandths_11 rfl 3 rfl ?_
    refine g_iconst C (v := 0) dX11_thousandths_12 (by decide) ?_
    refine g_iconst C (v := 1) dX11_thousandths_13 (by decide) ?_
    refine g_callS C (st := []) (c_X11_in l D ad dA z0 tt σ φ w 0 1) rfl ml_X11_103 sm_X11_in in_X11 co_X11_in dyS_X11_in rfl rfl ⟨(Nat.le_of_ble_eq_true rfl), (Nat.le_of_ble_eq_true rfl)⟩ dX11_thousandths_14 rfl (Nat.le_of_ble_eq_true rfl) (g_fni ?_)
    refine g_if_ne C (tgt := 23) dX11_thousandths_17 (by decide) (fun h2 => ?_) (fun h2 => ?_)
    · refine g_aload_n C (i := 0) dX11_thousandths_23 rfl 0 rfl ?_
      refine gg_53_13 C fl_X11_189 dX11_thousandths_24 ?_
      refine g_if_ne C (tgt := 33) dX11_thousandths_27 (by decide) (fun h3 => ?_) (fun h3 => ?_)
      · refine g_iload_n C (i := 3) dX11_thousandths_33 rfl 3 rfl ?_
        have J2 : ∀ (v1 : UInt32), (if w = 0 then (φ 80 ((10 * x) + y).toNatClampNeg) else (φ 81 ((10 * x) + y).toNatClampNeg)) = v1 → K σ φ 62 [] [.float v1] := by
          intro v1 ev1
          refine g_fstore C (i := 4) (lv' := [(4, .float v1)]) dX11_thousandths_62 (by decide) rfl ?_
          refine g_fload C (i := 4) dX11_thousandths_64 0 rfl ?_
          refine g_ldcf C kf_X11_213 dX11_thousandths_66 ?_
          refine g_fmul C dX11_thousandths_68 ?_
          refine g_f2i C dX11_thousandths_69 ?_
          subst ev1
          have e0 := (show f_X11_thousandths σ φ x y w = _ from ((f_X11_thousandths_eq _ _ _ _ _).trans ((if_pos h1).trans ((if_neg h2).trans (if_neg h3)))))
          exact hi _ _ _ _ _ _ rfl dX11_thousandths_70 rfl ⟨(congrArg (fun z => some (Value.int z)) e0).symm, rfl, rfl⟩
        refine g_if_ne C (tgt := 51) dX11_thousandths_34 (by decide) (fun h4 => ?_) (fun h4 => ?_)
        · refine g_aload_n C (i := 0) dX11_thousandths_51 rfl 0 rfl ?_
          refine gg_53_32 C fl_X11_94 dX11_thousandths_52 ?_
          refine g_bipush C (v := 10) dX11_thousandths_55 (by decide) ?_
          refine g_iload_n C (i := 1) dX11_thousandths_57 rfl 1 rfl ?_
          refine g_imul C dX11_thousandths_58 ?_
          refine g_iload_n C (i := 2) dX11_thousandths_59 rfl 2 rfl ?_
          refine g_iadd C dX11_thousandths_60 ?_
          refine ld_81 C (pm_in (ns_in h1).1 (ns_in h1).2) dX11_thousandths_61 ?_
          refine g_loc C [] rfl ?_
          exact J2 _ ((if_neg h4))
        · refine g_aload_n C (i := 0) dX11_thousandths_37 rfl 0 rfl ?_
          refine gg_53_31 C fl_X11_91 dX11_thousandths_38 ?_
          refine g_bipush C (v := 10) dX11_thousandths_41 (by decide) ?_
          refine g_iload_n C (i := 1) dX11_thousandths_43 rfl 1 rfl ?_
          refine g_imul C dX11_thousandths_44 ?_
          refine g_iload_n C (i := 2) dX11_thousandths_45 rfl 2 rfl ?_
          refine g_iadd C dX11_thousandths_46 ?_
          refine ld_80 C (pm_in (ns_in h1).1 (ns_in h1).2) dX11_thousandths_47 ?_
          refine g_goto C (tgt := 62) dX11_thousandths_48 (by decide) ?_
          refine g_loc C [] rfl ?_
          exact J2 _ ((if_pos h4))
      · refine g_ldc C kc_X11_132 dX11_thousandths_30 ?_
        have e0 := (show f_X11_thousandths σ φ x y w = _ from ((f_X11_thousandths_eq _ _ _ _ _).trans ((if_pos h1).trans ((if_neg h2).trans (if_pos h3)))))
        exact hi _ _ _ _ _ _ rfl dX11_thousandths_32 rfl ⟨(congrArg (fun z => some (Value.int z)) e0).symm, rfl, rfl⟩
    · refine g_ldc C kc_X11_119 dX11_thousandths_20 ?_
      have e0 := (show f_X11_thousandths σ φ x y w = _ from ((f_X11_thousandths_eq _ _ _ _ _).trans ((if_pos h1).trans (if_pos h2))))
      exact hi _ _ _ _ _ _ rfl dX11_thousandths_22 rfl ⟨(congrArg (fun z => some (Value.int z)) e0).symm, rfl, rfl⟩
  · refine g_ldc C kc_X11_115 dX11_thousandths_8 ?_
    have e0 := (show f_X11_thousandths σ φ x y w = _ from ((f_X11_thousandths_eq _ _ _ _ _).trans (if_neg h1)))
    exact hi _ _ _ _ _ _ rfl dX11_thousandths_10 rfl ⟨(congrArg (fun z => some (Value.int z)) e0).symm, rfl, rfl⟩
def f_X11_reference (φ : Fl) (x : Int32) (y : Int32) : UInt32 := let v1 : UInt32 := (if (f_X11_noLine x) = 0 then (if (f_X11_in y 0 1) = 0 then (FP.fconst0) else (if y = 0 then (φ 73 x.toNatClampNeg) else (φ 74 x.toNatClampNeg))) else (FP.fconst0)); v1
theorem f_X11_reference_eq (φ : Fl) (x : Int32) (y : Int32) : f_X11_reference φ x y = (let v1 : UInt32 := (if (f_X11_noLine x) = 0 then (if (f_X11_in y 0 1) = 0 then (FP.fconst0) else (if y = 0 then (φ 73 x.toNatClampNeg) else (φ 74 x.toNatClampNeg))) else (FP.fconst0)); v1) := rfl
set_option maxRecDepth 100000 in
set_option maxHeartbeats 4000000 in
theorem c_X11_reference (l : Launch) (D : va_G) (ad : Nat → Nat) (dA : Nat → ClassId) (z0 : Nat) (tt : Nat → Nat) (σ : Sg) (φ : Fl) (x : Int32) (y : Int32)  : MC l D ad dA z0 tt yX11_reference (Cond.code yX11_reference cX11_reference 3 (some .float) :: lw_all) { frames := 2, cells := 0, slots := 0, locals := 42 } [.ref (ad 53), .int x, .int y] σ φ (Fn (some (.float (f_X11_reference φ x y))) σ φ) := by
  refine mk_MC (by decide) (Nat.le_of_ble_eq_true rfl) ?_
  intro K C hi hf hv
  change K σ φ 0 [(0, .ref (ad 53)), (1, .int x), (2, .int y)] []
  refine g_iload_n C (i := 1) dX11_reference_0 rfl 1 rfl ?_
  refine g_callS C (st := []) (c_X11_noLine l D ad dA z0 tt σ φ x) rfl ml_X11_107 sm_X11_noLine in_X11 co_X11_noLine dyS_X11_noLine rfl rfl ⟨(Nat.le_of_ble_eq_true rfl), (Nat.le_of_ble_eq_true rfl)⟩ dX11_reference_1 rfl (Nat.le_of_ble_eq_true rfl) (g_fni ?_)
  have J2 : ∀ (v1 : UInt32), (if (f_X11_noLine x) = 0 then (if (f_X11_in y 0 1) = 0 then (FP.fconst0) else (if y = 0 then (φ 73 x.toNatClampNeg) else (φ 74 x.toNatClampNeg))) else (FP.fconst0)) = v1 → K σ φ 39 [] [.float v1] := by
    intro v1 ev1
    subst ev1
    have e0 := (show f_X11_reference φ x y = _ from rfl)
    exact hf _ _ _ _ _ rfl dX11_reference_39 ⟨(congrArg (fun z => some (Value.float z)) e0).symm, rfl, rfl⟩
  refine g_if_ne C (tgt := 16) dX11_reference_4 (by decide) (fun h1 => ?_) (fun h1 => ?_)
  · refine g_fconst0 C dX11_reference_16 ?_
    refine g_goto C (tgt := 39) dX11_reference_17 (by decide) ?_
    refine g_loc C [] rfl ?_
    exact J2 _ ((if_neg h1))
  · refine g_iload_n C (i := 2) dX11_reference_7 rfl 2 rfl ?_
    refine g_iconst C (v := 0) dX11_reference_8 (by decide) ?_
    refine g_iconst C (v := 1) dX11_reference_9 (by decide) ?_
    refine g_callS C (st := []) (c_X11_in l D ad dA z0 tt σ φ y 0 1) rfl ml_X11_103 sm_X11_in in_X11 co_X11_in dyS_X11_in rfl rfl ⟨(Nat.le_of_ble_eq_true rfl), (Nat.le_of_ble_eq_true rfl)⟩ dX11_reference_10 rfl (Nat.le_of_ble_eq_true rfl) (g_fni ?_)
    refine g_if_ne C (tgt := 20) dX11_reference_13 (by decide) (fun h2 => ?_) (fun h2 => ?_)
    · refine g_iload_n C (i := 2) dX11_reference_20 rfl 2 rfl ?_
      refine g_if_ne C (tgt := 33) dX11_reference_21 (by decide) (fun h3 => ?_) (fun h3 => ?_)
      · refine g_aload_n C (i := 0) dX11_reference_33 rfl 0 rfl ?_
        refine gg_53_25 C fl_X11_73 dX11_reference_34 ?_
        refine g_iload_n C (i := 1) dX11_reference_37 rfl 1 rfl ?_
        refine ld_74 C (nl_in h1) dX11_reference_38 ?_
        refine g_loc C [] rfl ?_
        exact J2 _ (((if_pos h1).trans ((if_neg h2).trans (if_neg h3))))
      · refine g_aload_n C (i := 0) dX11_reference_24 rfl 0 rfl ?_
        refine gg_53_24 C fl_X11_69 dX11_reference_25 ?_
        refine g_iload_n C (i := 1) dX11_reference_28 rfl 1 rfl ?_
        refine ld_73 C (nl_in h1) dX11_reference_29 ?_
        refine g_goto C (tgt := 39) dX11_reference_30 (by decide) ?_
        refine g_loc C [] rfl ?_
        exact J2 _ (((if_pos h1).trans ((if_neg h2).trans (if_pos h3))))
    · refine g_fconst0 C dX11_reference_16 ?_
      refine g_goto C (tgt := 39) dX11_reference_17 (by decide) ?_
      refine g_loc C [] rfl ?_
      exact J2 _ (((if_pos h1).trans (if_pos h2)))
def b_X11_linesWithColor_4 (σ : Sg) (j1 : Nat) (s1 : Int32) : Int32 := let v2 : Int32 := (if (σ 72 (nI j1).toNatClampNeg) = 0 then 0 else 1); s1 + v2
theorem b_X11_linesWithColor_4_eq (σ : Sg) (j1 : Nat) (s1 : Int32) : b_X11_linesWithColor_4 σ j1 s1 = (let v2 : Int32 := (if (σ 72 (nI j1).toNatClampNeg) = 0 then 0 else 1); s1 + v2) := rfl
def f_X11_linesWithColor (σ : Sg) : Int32 := let t1 : Int32 := loopF (b_X11_linesWithColor_4 σ) 8 0; t1
theorem f_X11_linesWithColor_eq (σ : Sg) : f_X11_linesWithColor σ = (let t1 : Int32 := loopF (b_X11_linesWithColor_4 σ) 8 0; t1) := rfl
set_option maxRecDepth 100000 in
set_option maxHeartbeats 4000000 in
theorem c_X11_linesWithColor (l : Launch) (D : va_G) (ad : Nat → Nat) (dA : Nat → ClassId) (z0 : Nat) (tt : Nat → Nat) (σ : Sg) (φ : Fl)   : MC l D ad dA z0 tt yX11_linesWithColor (Cond.code yX11_linesWithColor cX11_linesWithColor 3 (some .int) :: lw_all) { frames := 0, cells := 0, slots := 0, locals := 0 } [.ref (ad 53)] σ φ (Fn (some (.int (f_X11_linesWithColor σ))) σ φ) := by
  refine mk_MC (by decide) (Nat.le_of_ble_eq_true rfl) ?_
  intro K C hi hf hv
  change K σ φ 0 [(0, .ref (ad 53))] []
  refine g_iconst C (v := 0) dX11_linesWithColor_0 (by decide) ?_
  refine g_istore_n C (i := 1) (lv' := [(1, .int 0), (0, .ref (ad 53))]) dX11_linesWithColor_1 rfl (by decide) rfl ?_
  refine g_iconst C (v := 0) dX11_linesWithColor_2 (by decide) ?_
  refine g_istore_n C (i := 2) (lv' := [(2, .int 0), (1, .int 0), (0, .ref (ad 53))]) dX11_linesWithColor_3 rfl (by decide) rfl ?_
  refine g_loc C (lv' := [(0, .ref (ad 53)), (1, .int 0), (2, .int 0)]) [2, 1, 0] rfl ?_
  refine loopF_ind (b_X11_linesWithColor_4 σ) 8 (fun (j1 : Nat) (s1 : Int32) => K σ φ 4 [(0, .ref (ad 53)), (1, .int s1), (2, .int (nI j1))] []) 0 ?_ ?_
  · intro j1 s1 hj1 kk
    change K σ φ 4 [(0, .ref (ad 53)), (1, .int s1), (2, .int (nI j1))] []
    refine g_iload_n C (i := 2) dX11_linesWithColor_4 rfl 2 rfl ?_
    refine g_bipush C (v := 8) dX11_linesWithColor_5 (by decide) ?_
    refine g_icmp_ge C (tgt := 33) dX11_linesWithColor_7 (by decide) (fun h1 => ?_) (fun h1 => ?_)
    · exact absurd h1 (nI_ge hj1 (by decide))
    · refine g_iload_n C (i := 1) dX11_linesWithColor_10 rfl 1 rfl ?_
      refine g_aload_n C (i := 0) dX11_linesWithColor_11 rfl 0 rfl ?_
      refine gg_53_21 C fl_X11_66 dX11_linesWithColor_12 ?_
      refine g_iload_n C (i := 2) dX11_linesWithColor_15 rfl 2 rfl ?_
      refine ld_72 C (vp_in_nI (Nat.lt_of_lt_of_le hj1 (by decide)) (by decide)) dX11_linesWithColor_16 ?_
      have J3 : ∀ (v2 : Int32), (if (σ 72 (nI j1).toNatClampNeg) = 0 then 0 else 1) = v2 → K σ φ 25 [(0, .ref (ad 53)), (2, .int (nI j1))] [.int v2, .int s1] := by
        intro v2 ev2
        refine g_iadd C dX11_linesWithColor_25 ?_
        refine g_istore_n C (i := 1) (lv' := [(1, .int (s1 + v2)), (0, .ref (ad 53)), (2, .int (nI j1))]) dX11_linesWithColor_26 rfl (by decide) rfl ?_
        refine g_iinc C (i := 2) (v := nI (j1 + 1)) (lv' := [(2, .int (nI (j1 + 1))), (1, .int (s1 + v2)), (0, .ref (ad 53))]) dX11_linesWithColor_27 2 rfl (nI_1 _) (by decide) rfl ?_
        refine g_goto C (tgt := 4) dX11_linesWithColor_30 (by decide) ?_
        refine g_loc C [2, 1, 0] rfl ?_
        refine kk (s1 + v2) ?_
        subst ev2
        exact b_X11_linesWithColor_4_eq _ _ _
      refine g_if_eq C (tgt := 24) dX11_linesWithColor_17 (by decide) (fun h2 => ?_) (fun h2 => ?_)
      · refine g_iconst C (v := 0) dX11_linesWithColor_24 (by decide) ?_
        refine g_loc C [0, 2] rfl ?_
        exact J3 _ ((if_pos h2))
      · refine g_iconst C (v := 1) dX11_linesWithColor_20 (by decide) ?_
        refine g_goto C (tgt := 25) dX11_linesWithColor_21 (by decide) ?_
        refine g_loc C [0, 2] rfl ?_
        exact J3 _ ((if_neg h2))
  · generalize et1 : loopF (b_X11_linesWithColor_4 σ) 8 0 = t1
    change K σ φ 4 [(0, .ref (ad 53)), (1, .int t1), (2, .int (nI 8))] []
    refine g_iload_n C (i := 2) dX11_linesWithColor_4 rfl 2 rfl ?_
    refine g_bipush C (v := 8) dX11_linesWithColor_5 (by decide) ?_
    refine g_icmp_ge C (tgt := 33) dX11_linesWithColor_7 (by decide) (fun h3 => ?_) (fun h3 => ?_)
    · refine g_iload_n C (i := 1) dX11_linesWithColor_33 rfl 1 rfl ?_
      subst et1
      have e0 := (show f_X11_linesWithColor σ = _ from rfl)
      exact hi _ _ _ _ _ _ rfl dX11_linesWithColor_34 rfl ⟨(congrArg (fun z => some (Value.int z)) e0).symm, rfl, rfl⟩
    · exact absurd (nI_le (Nat.le_refl _) (by decide)) h3
def b_X11_segments_4 (σ : Sg) (x : Int32) (j1 : Nat) (s1 : Int32) : Int32 := let v2 : Int32 := f_X11_size ((σ 75 (nI j1).toNatClampNeg) - (σ 54 (nI j1).toNatClampNeg)); let v3 : Int32 := (if x = 5 then (if 0 < v2 then 1 else (if x = 7 then (if (f_X11_motionAt σ (nI j1)) = 2 then 1 else (if x = 8 then (if (f_X11_motionAt σ (nI j1)) = 1 then 1 else (if x ≤ 8 then 0 else (if (σ 77 (nI j1).toNatClampNeg) = (x - 9) then 1 else 0))) else (if x ≤ 8 then 0 else (if (σ 77 (nI j1).toNatClampNeg) = (x - 9) then 1 else 0)))) else (if x = 8 then (if (f_X11_motionAt σ (nI j1)) = 1 then 1 else (if x ≤ 8 then 0 else (if (σ 77 (nI j1).toNatClampNeg) = (x - 9) then 1 else 0))) else (if x ≤ 8 then 0 else (if (σ 77 (nI j1).toNatClampNeg) = (x - 9) then 1 else 0))))) else (if x = 7 then (if (f_X11_motionAt σ (nI j1)) = 2 then 1 else (if x = 8 then (if (f_X11_motionAt σ (nI j1)) = 1 then 1 else (if x ≤ 8 then 0 else (if (σ 77 (nI j1).toNatClampNeg) = (x - 9) then 1 else 0))) else (if x ≤ 8 then 0 else (if (σ 77 (nI j1).toNatClampNeg) = (x - 9) then 1 else 0)))) else (if x = 8 then (if (f_X11_motionAt σ (nI j1)) = 1 then 1 else (if x ≤ 8 then 0 else (if (σ 77 (nI j1).toNatClampNeg) = (x - 9) then 1 else 0))) else (if x ≤ 8 then 0 else (if (σ 77 (nI j1).toNatClampNeg) = (x - 9) then 1 else 0))))); let v5 : Int32 := (if x = 6 then v2 else 0); (s1 + v3) + v5
theorem b_X11_segments_4_eq (σ : Sg) (x : Int32) (j1 : Nat) (s1 : Int32) : b_X11_segments_4 σ x j1 s1 = (let v2 : Int32 := f_X11_size ((σ 75 (nI j1).toNatClampNeg) - (σ 54 (nI j1).toNatClampNeg)); let v3 : Int32 := (if x = 5 then (if 0 < v2 then 1 else (if x = 7 then (if (f_X11_motionAt σ (nI j1)) = 2 then 1 else (if x = 8 then (if (f_X11_motionAt σ (nI j1)) = 1 then 1 else (if x ≤ 8 then 0 else (if (σ 77 (nI j1).toNatClampNeg) = (x - 9) then 1 else 0))) else (if x ≤ 8 then 0 else (if (σ 77 (nI j1).toNatClampNeg) = (x - 9) then 1 else 0)))) else (if x = 8 then (if (f_X11_motionAt σ (nI j1)) = 1 then 1 else (if x ≤ 8 then 0 else (if (σ 77 (nI j1).toNatClampNeg) = (x - 9) then 1 else 0))) else (if x ≤ 8 then 0 else (if (σ 77 (nI j1).toNatClampNeg) = (x - 9) then 1 else 0))))) else (if x = 7 then (if (f_X11_motionAt σ (nI j1)) = 2 then 1 else (if x = 8 then (if (f_X11_motionAt σ (nI j1)) = 1 then 1 else (if x ≤ 8 then 0 else (if (σ 77 (nI j1).toNatClampNeg) = (x - 9) then 1 else 0))) else (if x ≤ 8 then 0 else (if (σ 77 (nI j1).toNatClampNeg) = (x - 9) then 1 else 0)))) else (if x = 8 then (if (f_X11_motionAt σ (nI j1)) = 1 then 1 else (if x ≤ 8 then 0 else (if (σ 77 (nI j1).toNatClampNeg) = (x - 9) then 1 else 0))) else (if x ≤ 8 then 0 else (if (σ 77 (nI j1).toNatClampNeg) = (x - 9) then 1 else 0))))); let v5 : Int32 := (if x = 6 then v2 else 0); (s1 + v3) + v5) := rfl
def f_X11_segments (σ : Sg) (x : Int32) : Int32 := let t1 : Int32 := loopF (b_X11_segments_4 σ x) 80 0; t1
theorem f_X11_segments_eq (σ : Sg) (x : Int32) : f_X11_segments σ x = (let t1 : Int32 := loopF (b_X11_segments_4 σ x) 80 0; t1) := rfl
set_option maxRecDepth 100000 in
set_option maxHeartbeats 4000000 in
theorem c_X11_segments (l : Launch) (D : va_G) (ad : Nat → Nat) (dA : Nat → ClassId) (z0 : Nat) (tt : Nat → Nat) (σ : Sg) (φ : Fl) (x : Int32)  : MC l D ad dA z0 tt yX11_segments (Cond.code yX11_segments cX11_segments 6 (some .int) :: lw_all) { frames := 1, cells := 0, slots := 0, locals := 25 } [.ref (ad 53), .int x] σ φ (Fn (some (.int (f_X11_segments σ x))) σ φ) := by
  refine mk_MC (by decide) (Nat.le_of_ble_eq_true rfl) ?_
  intro K C hi hf hv
  change K σ φ 0 [(0, .ref (ad 53)), (1, .int x)] []
  refine g_iconst C (v := 0) dX11_segments_0 (by decide) ?_
  refine g_istore_n C (i := 2) (lv' := [(2, .int 0), (0, .ref (ad 53)), (1, .int x)]) dX11_segments_1 rfl (by decide) rfl ?_
  refine g_iconst C (v := 0) dX11_segments_2 (by decide) ?_
  refine g_istore_n C (i := 3) (lv' := [(3, .int 0), (2, .int 0), (0, .ref (ad 53)), (1, .int x)]) dX11_segments_3 rfl (by decide) rfl ?_
  refine g_loc C (lv' := [(0, .ref (ad 53)), (1, .int x), (2, .int 0), (3, .int 0)]) [2, 3, 1, 0] rfl ?_
  refine loopF_ind (b_X11_segments_4 σ x) 80 (fun (j1 : Nat) (s1 : Int32) => K σ φ 4 [(0, .ref (ad 53)), (1, .int x), (2, .int s1), (3, .int (nI j1))] []) 0 ?_ ?_
  · intro j1 s1 hj1 kk
    change K σ φ 4 [(0, .ref (ad 53)), (1, .int x), (2, .int s1), (3, .int (nI j1))] []
    refine g_iload_n C (i := 3) dX11_segments_4 rfl 3 rfl ?_
    refine g_bipush C (v := 80) dX11_segments_5 (by decide) ?_
    refine g_icmp_ge C (tgt := 117) dX11_segments_7 (by decide) (fun h1 => ?_) (fun h1 => ?_)
    · exact absurd h1 (nI_ge hj1 (by decide))
    · refine g_aload_n C (i := 0) dX11_segments_10 rfl 0 rfl ?_
      refine gg_53_26 C fl_X11_76 dX11_segments_11 ?_
      refine g_iload_n C (i := 3) dX11_segments_14 rfl 3 rfl ?_
      refine ld_75 C (vp_in_nI (Nat.lt_of_lt_of_le hj1 (by decide)) (by decide)) dX11_segments_15 ?_
      refine g_aload_n C (i := 0) dX11_segments_16 rfl 0 rfl ?_
      refine gg_53_0 C fl_X11_7 dX11_segments_17 ?_
      refine g_iload_n C (i := 3) dX11_segments_20 rfl 3 rfl ?_
      refine ld_54 C (vp_in_nI (Nat.lt_of_lt_of_le hj1 (by decide)) (by decide)) dX11_segments_21 ?_
      refine g_isub C dX11_segments_22 ?_
      refine g_callS C (st := []) (c_X11_size l D ad dA z0 tt σ φ ((σ 75 (nI j1).toNatClampNeg) - (σ 54 (nI j1).toNatClampNeg))) rfl ml_X11_160 sm_X11_size in_X11 co_X11_size dyS_X11_size rfl rfl ⟨(Nat.le_of_ble_eq_true rfl), (Nat.le_of_ble_eq_true rfl)⟩ dX11_segments_23 rfl (Nat.le_of_ble_eq_true rfl) (g_fni ?_)
      refine g_nmi C (fun v2 ev2 => ?_)
      refine g_istore C (i := 4) (lv' := [(4, .int v2), (0, .ref (ad 53)), (1, .int x), (2, .int s1), (3, .int (nI j1))]) dX11_segments_26 (by decide) rfl ?_
      refine g_aload_n C (i := 0) dX11_segments_28 rfl 1 rfl ?_
      refine g_iload_n C (i := 3) dX11_segments_29 rfl 4 rfl ?_
      refine g_callV C (st := []) (c_X11_motionAt l D ad dA z0 tt σ φ (nI j1) (vp_in_nI (Nat.lt_of_lt_of_le hj1 (by decide)) (by decide))) rfl ml_X11_214 im_X11_motionAt se_X11_motionAt in_X11 co_X11_motionAt dyV_X11_motionAt rfl rfl ⟨(Nat.le_of_ble_eq_true rfl), (Nat.le_of_ble_eq_true rfl)⟩ 53 11 (fun f => at_53 ad dA σ f) rfl dX11_segments_30 rfl (Nat.le_of_ble_eq_true rfl) (g_fni ?_)
      refine g_istore C (i := 5) (lv' := [(5, .int (f_X11_motionAt σ (nI j1))), (4, .int v2), (0, .ref (ad 53)), (1, .int x), (2, .int s1), (3, .int (nI j1))]) dX11_segments_33 (by decide) rfl ?_
      refine g_iload_n C (i := 2) dX11_segments_35 rfl 4 rfl ?_
      refine g_iload_n C (i := 1) dX11_segments_36 rfl 3 rfl ?_
      refine g_iconst C (v := 5) dX11_segments_37 (by decide) ?_
      have J4 : ∀ (v3 : Int32), (if x = 5 then (if 0 < v2 then 1 else (if x = 7 then (if (f_X11_motionAt σ (nI j1)) = 2 then 1 else (if x = 8 then (if (f_X11_motionAt σ (nI j1)) = 1 then 1 else (if x ≤ 8 then 0 else (if (σ 77 (nI j1).toNatClampNeg) = (x - 9) then 1 else 0))) else (if x ≤ 8 then 0 else (if (σ 77 (nI j1).toNatClampNeg) = (x - 9) then 1 else 0)))) else (if x = 8 then (if (f_X11_motionAt σ (nI j1)) = 1 then 1 else (if x ≤ 8 then 0 else (if (σ 77 (nI j1).toNatClampNeg) = (x - 9) then 1 else 0))) else (if x ≤ 8 then 0 else (if (σ 77 (nI j1).toNatClampNeg) = (x - 9) then 1 else 0))))) else (if x = 7 then (if (f_X11_motionAt σ (nI j1)) = 2 then 1 else (if x = 8 then (if (f_X11_motionAt σ (nI j1)) = 1 then 1 else (if x ≤ 8 then 0 else (if (σ 77 (nI j1).toNatClampNeg) = (x - 9) then 1 else 0))) else (if x ≤ 8 then 0 else (if (σ 77 (nI j1).toNatClampNeg) = (x - 9) then 1 else 0)))) else (if x = 8 then (if (f_X11_motionAt σ (nI j1)) = 1 then 1 else (if x ≤ 8 then 0 else (if (σ 77 (nI j1).toNatClampNeg) = (x - 9) then 1 else 0))) else (if x ≤ 8 then 0 else (if (σ 77 (nI j1).toNatClampNeg) = (x - 9) then 1 else 0))))) = v3 → K σ φ 94 [(0, .ref (ad 53)), (1, .int x), (3, .int (nI j1)), (4, .int v2)] [.int v3, .int s1] := by
        intro v3 ev3
        refine g_iadd C dX11_segments_94 ?_
        refine g_istore_n C (i := 2) (lv' := [(2, .int (s1 + v3)), (0, .ref (ad 53)), (1, .int x), (3, .int (nI j1)), (4, .int v2)]) dX11_segments_95 rfl (by decide) rfl ?_
        refine g_iload_n C (i := 2) dX11_segments_96 rfl 0 rfl ?_
        refine g_iload_n C (i := 1) dX11_segments_97 rfl 2 rfl ?_
        refine g_bipush C (v := 6) dX11_segments_98 (by decide) ?_
        have J6 : ∀ (v5 : Int32), (if x = 6 then v2 else 0) = v5 → K σ φ 109 [(0, .ref (ad 53)), (1, .int x), (3, .int (nI j1))] [.int v5, .int (s1 + v3)] := by
          intro v5 ev5
          refine g_iadd C dX11_segments_109 ?_
          refine g_istore_n C (i := 2) (lv' := [(2, .int ((s1 + v3) + v5)), (0, .ref (ad 53)), (1, .int x), (3, .int (nI j1))]) dX11_segments_110 rfl (by decide) rfl ?_
          refine g_iinc C (i := 3) (v := nI (j1 + 1)) (lv' := [(3, .int (nI (j1 + 1))), (2, .int ((s1 + v3) + v5)), (0, .ref (ad 53)), (1, .int x)]) dX11_segments_111 3 rfl (nI_1 _) (by decide) rfl ?_
          refine g_goto C (tgt := 4) dX11_segments_114 (by decide) ?_
          refine g_loc C [2, 3, 1, 0] rfl ?_
          refine kk ((s1 + v3) + v5) ?_
          subst ev5
          subst ev3
          subst ev2
          exact b_X11_segments_4_eq _ _ _ _
        refine g_icmp_ne C (tgt := 108) dX11_segments_100 (by decide) (fun h32 => ?_) (fun h32 => ?_)
        · refine g_iconst C (v := 0) dX11_segments_108 (by decide) ?_
          refine g_loc C [1, 2, 3] rfl ?_
          exact J6 _ ((if_neg h32))
        · refine g_iload C (i := 4) dX11_segments_103 4 rfl ?_
          refine g_goto C (tgt := 109) dX11_segments_105 (by decide) ?_
          refine g_loc C [1, 2, 3] rfl ?_
          exact J6 _ ((if_pos h32))
      refine g_icmp_ne C (tgt := 46) dX11_segments_38 (by decide) (fun h2 => ?_) (fun h2 => ?_)
      · refine g_iload_n C (i := 1) dX11_segments_46 rfl 3 rfl ?_
        refine g_bipush C (v := 7) dX11_segments_47 (by decide) ?_
        refine g_icmp_ne C (tgt := 58) dX11_segments_49 (by decide) (fun h3 => ?_) (fun h3 => ?_)
        · refine g_iload_n C (i := 1) dX11_segments_58 rfl 3 rfl ?_
          refine g_bipush C (v := 8) dX11_segments_59 (by decide) ?_
          refine g_icmp_ne C (tgt := 70) dX11_segments_61 (by decide) (fun h4 => ?_) (fun h4 => ?_)
          · refine g_iload_n C (i := 1) dX11_segments_70 rfl 3 rfl ?_
            refine g_bipush C (v := 8) dX11_segments_71 (by decide) ?_
            refine g_icmp_le C (tgt := 93) dX11_segments_73 (by decide) (fun h5 => ?_) (fun h5 => ?_)
            · refine g_iconst C (v := 0) dX11_segments_93 (by decide) ?_
              refine g_loc C [2, 3, 5, 1] rfl ?_
              exact J4 _ (((if_neg h2).trans ((if_neg h3).trans ((if_neg h4).trans (if_pos h5)))))
            · refine g_aload_n C (i := 0) dX11_segments_76 rfl 2 rfl ?_
              refine gg_53_28 C fl_X11_82 dX11_segments_77 ?_
              refine g_iload_n C (i := 3) dX11_segments_80 rfl 5 rfl ?_
              refine ld_77 C (vp_in_nI (Nat.lt_of_lt_of_le hj1 (by decide)) (by decide)) dX11_segments_81 ?_
              refine g_iload_n C (i := 1) dX11_segments_82 rfl 3 rfl ?_
              refine g_bipush C (v := 9) dX11_segments_83 (by decide) ?_
              refine g_isub C dX11_segments_85 ?_
              refine g_icmp_ne C (tgt := 93) dX11_segments_86 (by decide) (fun h6 => ?_) (fun h6 => ?_)
              · refine g_iconst C (v := 0) dX11_segments_93 (by decide) ?_
                refine g_loc C [2, 3, 5, 1] rfl ?_
                exact J4 _ (((if_neg h2).trans ((if_neg h3).trans ((if_neg h4).trans ((if_neg h5).trans (if_neg h6))))))
              · refine g_iconst C (v := 1) dX11_segments_89 (by decide) ?_
                refine g_goto C (tgt := 94) dX11_segments_90 (by decide) ?_
                refine g_loc C [2, 3, 5, 1] rfl ?_
                exact J4 _ (((if_neg h2).trans ((if_neg h3).trans ((if_neg h4).trans ((if_neg h5).trans (if_pos h6))))))
          · refine g_iload C (i := 5) dX11_segments_64 0 rfl ?_
            refine g_iconst C (v := 1) dX11_segments_66 (by decide) ?_
            refine g_icmp_eq C (tgt := 89) dX11_segments_67 (by decide) (fun h7 => ?_) (fun h7 => ?_)
            · refine g_iconst C (v := 1) dX11_segments_89 (by decide) ?_
              refine g_goto C (tgt := 94) dX11_segments_90 (by decide) ?_
              refine g_loc C [2, 3, 5, 1] rfl ?_
              exact J4 _ (((if_neg h2).trans ((if_neg h3).trans ((if_pos h4).trans (if_pos h7)))))
            · refine g_iload_n C (i := 1) dX11_segments_70 rfl 3 rfl ?_
              refine g_bipush C (v := 8) dX11_segments_71 (by decide) ?_
              refine g_icmp_le C (tgt := 93) dX11_segments_73 (by decide) (fun h8 => ?_) (fun h8 => ?_)
              · refine g_iconst C (v := 0) dX11_segments_93 (by decide) ?_
                refine g_loc C [2, 3, 5, 1] rfl ?_
                exact J4 _ (((if_neg h2).trans ((if_neg h3).trans ((if_pos h4).trans ((if_neg h7).trans (if_pos h8))))))
              · refine g_aload_n C (i := 0) dX11_segments_76 rfl 2 rfl ?_
                refine gg_53_28 C fl_X11_82 dX11_segments_77 ?_
                refine g_iload_n C (i := 3) dX11_segments_80 rfl 5 rfl ?_
                refine ld_77 C (vp_in_nI (Nat.lt_of_lt_of_le hj1 (by decide)) (by decide)) dX11_segments_81 ?_
                refine g_iload_n C (i := 1) dX11_segments_82 rfl 3 rfl ?_
                refine g_bipush C (v := 9) dX11_segments_83 (by decide) ?_
                refine g_isub C dX11_segments_85 ?_
                refine g_icmp_ne C (tgt := 93) dX11_segments_86 (by decide) (fun h9 => ?_) (fun h9 => ?_)
                · refine g_iconst C (v := 0) dX11_segments_93 (by decide) ?_
                  refine g_loc C [2, 3, 5, 1] rfl ?_
                  exact J4 _ (((if_neg h2).trans ((if_neg h3).trans ((if_pos h4).trans ((if_neg h7).trans ((if_neg h8).trans (if_neg h9)))))))
                · refine g_iconst C (v := 1) dX11_segments_89 (by decide) ?_
                  refine g_goto C (tgt := 94) dX11_segments_90 (by decide) ?_
                  refine g_loc C [2, 3, 5, 1] rfl ?_
                  exact J4 _ (((if_neg h2).trans ((if_neg h3).trans ((if_pos h4).trans ((if_neg h7).trans ((if_neg h8).trans (if_pos h9)))))))
        · refine g_iload C (i := 5) dX11_segments_52 0 rfl ?_
          refine g_iconst C (v := 2) dX11_segments_54 (by decide) ?_
          refine g_icmp_eq C (tgt := 89) dX11_segments_55 (by decide) (fun h10 => ?_) (fun h10 => ?_)
          · refine g_iconst C (v := 1) dX11_segments_89 (by decide) ?_
            refine g_goto C (tgt := 94) dX11_segments_90 (by decide) ?_
            refine g_loc C [2, 3, 5, 1] rfl ?_
            exact J4 _ (((if_neg h2).trans ((if_pos h3).trans (if_pos h10))))
          · refine g_iload_n C (i := 1) dX11_segments_58 rfl 3 rfl ?_
            refine g_bipush C (v := 8) dX11_segments_59 (by decide) ?_
            refine g_icmp_ne C (tgt := 70) dX11_segments_61 (by decide) (fun h11 => ?_) (fun h11 => ?_)
            · refine g_iload_n C (i := 1) dX11_segments_70 rfl 3 rfl ?_
              refine g_bipush C (v := 8) dX11_segments_71 (by decide) ?_
              refine g_icmp_le C (tgt := 93) dX11_segments_73 (by decide) (fun h12 => ?_) (fun h12 => ?_)
              · refine g_iconst C (v := 0) dX11_segments_93 (by decide) ?_
                refine g_loc C [2, 3, 5, 1] rfl ?_
                exact J4 _ (((if_neg h2).trans ((if_pos h3).trans ((if_neg h10).trans ((if_neg h11).trans (if_pos h12))))))
              · refine g_aload_n C (i := 0) dX11_segments_76 rfl 2 rfl ?_
                refine gg_53_28 C fl_X11_82 dX11_segments_77 ?_
                refine g_iload_n C (i := 3) dX11_segments_80 rfl 5 rfl ?_
                refine ld_77 C (vp_in_nI (Nat.lt_of_lt_of_le hj1 (by decide)) (by decide)) dX11_segments_81 ?_
                refine g_iload_n C (i := 1) dX11_segments_82 rfl 3 rfl ?_
                refine g_bipush C (v := 9) dX11_segments_83 (by decide) ?_
                refine g_isub C dX11_segments_85 ?_
                refine g_icmp_ne C (tgt := 93) dX11_segments_86 (by decide) (fun h13 => ?_) (fun h13 => ?_)
                · refine g_iconst C (v := 0) dX11_segments_93 (by decide) ?_
                  refine g_loc C [2, 3, 5, 1] rfl ?_
                  exact J4 _ (((if_neg h2).trans ((if_pos h3).trans ((if_neg h10).trans ((if_neg h11).trans ((if_neg h12).trans (if_neg h13)))))))
                · refine g_iconst C (v := 1) dX11_segments_89 (by decide) ?_
                  refine g_goto C (tgt := 94) dX11_segments_90 (by decide) ?_
                  refine g_loc C [2, 3, 5, 1] rfl ?_
                  exact J4 _ (((if_neg h2).trans ((if_pos h3).trans ((if_neg h10).trans ((if_neg h11).trans ((if_neg h12).trans (if_pos h13)))))))
            · refine g_iload C (i := 5) dX11_segments_64 0 rfl ?_
              refine g_iconst C (v := 1) dX11_segments_66 (by decide) ?_
              refine g_icmp_eq C (tgt := 89) dX11_segments_67 (by decide) (fun h14 => ?_) (fun h14 => ?_)
              · refine g_iconst C (v := 1) dX11_segments_89 (by decide) ?_
                refine g_goto C (tgt := 94) dX11_segments_90 (by decide) ?_
                refine g_loc C [2, 3, 5, 1] rfl ?_
                exact J4 _ (((if_neg h2).trans ((if_pos h3).trans ((if_neg h10).trans ((if_pos h11).trans (if_pos h14))))))
              · refine g_iload_n C (i := 1) dX11_segments_70 rfl 3 rfl ?_
                refine g_bipush C (v := 8) dX11_segments_71 (by decide) ?_
                refine g_icmp_le C (tgt := 93) dX11_segments_73 (by decide) (fun h15 => ?_) (fun h15 => ?_)
                · refine g_iconst C (v := 0) dX11_segments_93 (by decide) ?_
                  refine g_loc C [2, 3, 5, 1] rfl ?_
                  exact J4 _ (((if_neg h2).trans ((if_pos h3).trans ((if_neg h10).trans ((if_pos h11).trans ((if_neg h14).trans (if_pos h15)))))))
                · refine g_aload_n C (i := 0) dX11_segments_76 rfl 2 rfl ?_
                  refine gg_53_28 C fl_X11_82 dX11_segments_77 ?_
                  refine g_iload_n C (i := 3) dX11_segments_80 rfl 5 rfl ?_
                  refine ld_77 C (vp_in_nI (Nat.lt_of_lt_of_le hj1 (by decide)) (by decide)) dX11_segments_81 ?_
                  refine g_iload_n C (i := 1) dX11_segments_82 rfl 3 rfl ?_
                  refine g_bipush C (v := 9) dX11_segments_83 (by decide) ?_
                  refine g_isub C dX11_segments_85 ?_
                  refine g_icmp_ne C (tgt := 93) dX11_segments_86 (by decide) (fun h16 => ?_) (fun h16 => ?_)
                  · refine g_iconst C (v := 0) dX11_segments_93 (by decide) ?_
                    refine g_loc C [2, 3, 5, 1] rfl ?_
                    exact J4 _ (((if_neg h2).trans ((if_pos h3).trans ((if_neg h10).trans ((if_pos h11).trans ((if_neg h14).trans ((if_neg h15).trans (if_neg h16))))))))
                  · refine g_iconst C (v := 1) dX11_segments_89 (by decide) ?_
                    refine g_goto C (tgt := 94) dX11_segments_90 (by decide) ?_
                    refine g_loc C [2, 3, 5, 1] rfl ?_
                    exact J4 _ (((if_neg h2).trans ((if_pos h3).trans ((if_neg h10).trans ((if_pos h11).trans ((if_neg h14).trans ((if_neg h15).trans (if_pos h16))))))))
      · refine g_iload C (i := 4) dX11_segments_41 1 rfl ?_
        refine g_if_gt C (tgt := 89) dX11_segments_43 (by decide) (fun h17 => ?_) (fun h17 => ?_)
        · refine g_iconst C (v := 1) dX11_segments_89 (by decide) ?_
          refine g_goto C (tgt := 94) dX11_segments_90 (by decide) ?_
          refine g_loc C [2, 3, 5, 1] rfl ?_
          exact J4 _ (((if_pos h2).trans (if_pos h17)))
        · refine g_iload_n C (i := 1) dX11_segments_46 rfl 3 rfl ?_
          refine g_bipush C (v := 7) dX11_segments_47 (by decide) ?_
          refine g_icmp_ne C (tgt := 58) dX11_segments_49 (by decide) (fun h18 => ?_) (fun h18 => ?_)
          · refine g_iload_n C (i := 1) dX11_segments_58 rfl 3 rfl ?_
            refine g_bipush C (v := 8) dX11_segments_59 (by decide) ?_
            refine g_icmp_ne C (tgt := 70) dX11_segments_61 (by decide) (fun h19 => ?_) (fun h19 => ?_)
            · refine g_iload_n C (i := 1) dX11_segments_70 rfl 3 rfl ?_
              refine g_bipush C (v := 8) dX11_segments_71 (by decide) ?_
              refine g_icmp_le C (tgt := 93) dX11_segments_73 (by decide) (fun h20 => ?_) (fun h20 => ?_)
              · refine g_iconst C (v := 0) dX11_segments_93 (by decide) ?_
                refine g_loc C [2, 3, 5, 1] rfl ?_
                exact J4 _ (((if_pos h2).trans ((if_neg h17).trans ((if_neg h18).trans ((if_neg h19).trans (if_pos h20))))))
              · refine g_aload_n C (i := 0) dX11_segments_76 rfl 2 rfl ?_
                refine gg_53_28 C fl_X11_82 dX11_segments_77 ?_
                refine g_iload_n C (i := 3) dX11_segments_80 rfl 5 rfl ?_
                refine ld_77 C (vp_in_nI (Nat.lt_of_lt_of_le hj1 (by decide)) (by decide)) dX11_segments_81 ?_
                refine g_iload_n C (i := 1) dX11_segments_82 rfl 3 rfl ?_
                refine g_bipush C (v := 9) dX11_segments_83 (by decide) ?_
                refine g_isub C dX11_segments_85 ?_
                refine g_icmp_ne C (tgt := 93) dX11_segments_86 (by decide) (fun h21 => ?_) (fun h21 => ?_)
                · refine g_iconst C (v := 0) dX11_segments_93 (by decide) ?_
                  refine g_loc C [2, 3, 5, 1] rfl ?_
                  exact J4 _ (((if_pos h2).trans ((if_neg h17).trans ((if_neg h18).trans ((if_neg h19).trans ((if_neg h20).trans (if_neg h21)))))))
                · refine g_iconst C (v := 1) dX11_segments_89 (by decide) ?_
                  refine g_goto C (tgt := 94) dX11_segments_90 (by decide) ?_
                  refine g_loc C [2, 3, 5, 1] rfl ?_
                  exact J4 _ (((if_pos h2).trans ((if_neg h17).trans ((if_neg h18).trans ((if_neg h19).trans ((if_neg h20).trans (if_pos h21)))))))
            · refine g_iload C (i := 5) dX11_segments_64 0 rfl ?_
              refine g_iconst C (v := 1) dX11_segments_66 (by decide) ?_
              refine g_icmp_eq C (tgt := 89) dX11_segments_67 (by decide) (fun h22 => ?_) (fun h22 => ?_)
              · refine g_iconst C (v := 1) dX11_segments_89 (by decide) ?_
                refine g_goto C (tgt := 94) dX11_segments_90 (by decide) ?_
                refine g_loc C [2, 3, 5, 1] rfl ?_
                exact J4 _ (((if_pos h2).trans ((if_neg h17).trans ((if_neg h18).trans ((if_pos h19).trans (if_pos h22))))))
              · refine g_iload_n C (i := 1) dX11_segments_70 rfl 3 rfl ?_
                refine g_bipush C (v := 8) dX11_segments_71 (by decide) ?_
                refine g_icmp_le C (tgt := 93) dX11_segments_73 (by decide) (fun h23 => ?_) (fun h23 => ?_)
                · refine g_iconst C (v := 0) dX11_segments_93 (by decide) ?_
                  refine g_loc C [2, 3, 5, 1] rfl ?_
                  exact J4 _ (((if_pos h2).trans ((if_neg h17).trans ((if_neg h18).trans ((if_pos h19).trans ((if_neg h22).trans (if_pos h23)))))))
                · refine g_aload_n C (i := 0) dX11_segments_76 rfl 2 rfl ?_
                  refine gg_53_28 C fl_X11_82 dX11_segments_77 ?_
                  refine g_iload_n C (i := 3) dX11_segments_80 rfl 5 rfl ?_
                  refine ld_77 C (vp_in_nI (Nat.lt_of_lt_of_le hj1 (by decide)) (by decide)) dX11_segments_81 ?_
                  refine g_iload_n C (i := 1) dX11_segments_82 rfl 3 rfl ?_
                  refine g_bipush C (v := 9) dX11_segments_83 (by decide) ?_
                  refine g_isub C dX11_segments_85 ?_
                  refine g_icmp_ne C (tgt := 93) dX11_segments_86 (by decide) (fun h24 => ?_) (fun h24 => ?_)
                  · refine g_iconst C (v := 0) dX11_segments_93 (by decide) ?_
                    refine g_loc C [2, 3, 5, 1] rfl ?_
                    exact J4 _ (((if_pos h2).trans ((if_neg h17).trans ((if_neg h18).trans ((if_pos h19).trans ((if_neg h22).trans ((if_neg h23).trans (if_neg h24))))))))
                  · refine g_iconst C (v := 1) dX11_segments_89 (by decide) ?_
                    refine g_goto C (tgt := 94) dX11_segments_90 (by decide) ?_
                    refine g_loc C [2, 3, 5, 1] rfl ?_
                    exact J4 _ (((if_pos h2).trans ((if_neg h17).trans ((if_neg h18).trans ((if_pos h19).trans ((if_neg h22).trans ((if_neg h23).trans (if_pos h24))))))))
          · refine g_iload C (i := 5) dX11_segments_52 0 rfl ?_
            refine g_iconst C (v := 2) dX11_segments_54 (by decide) ?_
            refine g_icmp_eq C (tgt := 89) dX11_segments_55 (by decide) (fun h25 => ?_) (fun h25 => ?_)
            · refine g_iconst C (v := 1) dX11_segments_89 (by decide) ?_
              refine g_goto C (tgt := 94) dX11_segments_90 (by decide) ?_
              refine g_loc C [2, 3, 5, 1] rfl ?_
              exact J4 _ (((if_pos h2).trans ((if_neg h17).trans ((if_pos h18).trans (if_pos h25)))))
            · refine g_iload_n C (i := 1) dX11_segments_58 rfl 3 rfl ?_
              refine g_bipush C (v := 8) dX11_segments_59 (by decide) ?_
              refine g_icmp_ne C (tgt := 70) dX11_segments_61 (by decide) (fun h26 => ?_) (fun h26 => ?_)
              · refine g_iload_n C (i := 1) dX11_segments_70 rfl 3 rfl ?_
                refine g_bipush C (v := 8) dX11_segments_71 (by decide) ?_
                refine g_icmp_le C (tgt := 93) dX11_segments_73 (by decide) (fun h27 => ?_) (fun h27 => ?_)
                · refine g_iconst C (v := 0) dX11_segments_93 (by decide) ?_
                  refine g_loc C [2, 3, 5, 1] rfl ?_
                  exact J4 _ (((if_pos h2).trans ((if_neg h17).trans ((if_pos h18).trans ((if_neg h25).trans ((if_neg h26).trans (if_pos h27)))))))
                · refine g_aload_n C (i := 0) dX11_segments_76 rfl 2 rfl ?_
                  refine gg_53_28 C fl_X11_82 dX11_segments_77 ?_
                  refine g_iload_n C (i := 3) dX11_segments_80 rfl 5 rfl ?_
                  refine ld_77 C (vp_in_nI (Nat.lt_of_lt_of_le hj1 (by decide)) (by decide)) dX11_segments_81 ?_
                  refine g_iload_n C (i := 1) dX11_segments_82 rfl 3 rfl ?_
                  refine g_bipush C (v := 9) dX11_segments_83 (by decide) ?_
                  refine g_isub C dX11_segments_85 ?_
                  refine g_icmp_ne C (tgt := 93) dX11_segments_86 (by decide) (fun h28 => ?_) (fun h28 => ?_)
                  · refine g_iconst C (v := 0) dX11_segments_93 (by decide) ?_
                    refine g_loc C [2, 3, 5, 1] rfl ?_
                    exact J4 _ (((if_pos h2).trans ((if_neg h17).trans ((if_pos h18).trans ((if_neg h25).trans ((if_neg h26).trans ((if_neg h27).trans (if_neg h28))))))))
                  · refine g_iconst C (v := 1) dX11_segments_89 (by decide) ?_
                    refine g_goto C (tgt := 94) dX11_segments_90 (by decide) ?_
                    refine g_loc C [2, 3, 5, 1] rfl ?_
                    exact J4 _ (((if_pos h2).trans ((if_neg h17).trans ((if_pos h18).trans ((if_neg h25).trans ((if_neg h26).trans ((if_neg h27).trans (if_pos h28))))))))
              · refine g_iload C (i := 5) dX11_segments_64 0 rfl ?_
                refine g_iconst C (v := 1) dX11_segments_66 (by decide) ?_
                refine g_icmp_eq C (tgt := 89) dX11_segments_67 (by decide) (fun h29 => ?_) (fun h29 => ?_)
                · refine g_iconst C (v := 1) dX11_segments_89 (by decide) ?_
                  refine g_goto C (tgt := 94) dX11_segments_90 (by decide) ?_
                  refine g_loc C [2, 3, 5, 1] rfl ?_
                  exact J4 _ (((if_pos h2).trans ((if_neg h17).trans ((if_pos h18).trans ((if_neg h25).trans ((if_pos h26).trans (if_pos h29)))))))
                · refine g_iload_n C (i := 1) dX11_segments_70 rfl 3 rfl ?_
                  refine g_bipush C (v := 8) dX11_segments_71 (by decide) ?_
                  refine g_icmp_le C (tgt := 93) dX11_segments_73 (by decide) (fun h30 => ?_) (fun h30 => ?_)
                  · refine g_iconst C (v := 0) dX11_segments_93 (by decide) ?_
                    refine g_loc C [2, 3, 5, 1] rfl ?_
                    exact J4 _ (((if_pos h2).trans ((if_neg h17).trans ((if_pos h18).trans ((if_neg h25).trans ((if_pos h26).trans ((if_neg h29).trans (if_pos h30))))))))
                  · refine g_aload_n C (i := 0) dX11_segments_76 rfl 2 rfl ?_
                    refine gg_53_28 C fl_X11_82 dX11_segments_77 ?_
                    refine g_iload_n C (i := 3) dX11_segments_80 rfl 5 rfl ?_
                    refine ld_77 C (vp_in_nI (Nat.lt_of_lt_of_le hj1 (by decide)) (by decide)) dX11_segments_81 ?_
                    refine g_iload_n C (i := 1) dX11_segments_82 rfl 3 rfl ?_
                    refine g_bipush C (v := 9) dX11_segments_83 (by decide) ?_
                    refine g_isub C dX11_segments_85 ?_
                    refine g_icmp_ne C (tgt := 93) dX11_segments_86 (by decide) (fun h31 => ?_) (fun h31 => ?_)
                    · refine g_iconst C (v := 0) dX11_segments_93 (by decide) ?_
                      refine g_loc C [2, 3, 5, 1] rfl ?_
                      exact J4 _ (((if_pos h2).trans ((if_neg h17).trans ((if_pos h18).trans ((if_neg h25).trans ((if_pos h26).trans ((if_neg h29).trans ((if_neg h30).trans (if_neg h31)))))))))
                    · refine g_iconst C (v := 1) dX11_segments_89 (by decide) ?_
                      refine g_goto C (tgt := 94) dX11_segments_90 (by decide) ?_
                      refine g_loc C [2, 3, 5, 1] rfl ?_
                      exact J4 _ (((if_pos h2).trans ((if_neg h17).trans ((if_pos h18).trans ((if_neg h25).trans ((if_pos h26).trans ((if_neg h29).trans ((if_neg h30).trans (if_pos h31)))))))))
  · generalize et1 : loopF (b_X11_segments_4 σ x) 80 0 = t1
    change K σ φ 4 [(0, .ref (ad 53)), (1, .int x), (2, .int t1), (3, .int (nI 80))] []
    refine g_iload_n C (i := 3) dX11_segments_4 rfl 3 rfl ?_
    refine g_bipush C (v := 80) dX11_segments_5 (by decide) ?_
    refine g_icmp_ge C (tgt := 117) dX11_segments_7 (by decide) (fun h33 => ?_) (fun h33 => ?_)
    · refine g_iload_n C (i := 2) dX11_segments_117 rfl 2 rfl ?_
      subst et1
      have e0 := (show f_X11_segments σ x = _ from rfl)
      exact hi _ _ _ _ _ _ rfl dX11_segments_118 rfl ⟨(congrArg (fun z => some (Value.int z)) e0).symm, rfl, rfl⟩
    · exact absurd (nI_le (Nat.le_refl _) (by decide)) h33
def f_X11_count (σ : Sg) (x : Int32) : Int32 := if (f_X11_in x 0 18) = 0 then (-100002) else (let v1 : Int32 := (if (f_X11_in x 1 12) = 0 then 0 else (if (σ 53 13) = 0 then 1 else (if (σ 53 13) = 1 then (if (f_X11_in x 7 8) = 0 then 0 else 1) else 0))); if v1 = 0 then (if (f_X11_in x 5 12) = 0 then (if x = 0 then (σ 53 13) else (if x = 1 then (f_X11_guessed σ) else (if x = 2 then (σ 53 22) else (if x = 3 then (σ 53 23) else (if x = 4 then (f_X11_linesWithColor σ) else (if x = 5 then (σ 62 (x - 15).toNatClampNeg) else (if x = 6 then (σ 62 (x - 15).toNatClampNeg) else (if x = 7 then (σ 62 (x - 15).toNatClampNeg) else (if x = 8 then (σ 62 (x - 15).toNatClampNeg) else (if x = 9 then (σ 62 (x - 15).toNatClampNeg) else (if x = 10 then (σ 62 (x - 15).toNatClampNeg) else (if x = 11 then (σ 62 (x - 15).toNatClampNeg) else (if x = 12 then (σ 62 (x - 15).toNatClampNeg) else (if x = 13 then (σ 53 8) else (if x = 14 then (σ 53 10) else (σ 62 (x - 15).toNatClampNeg)))))))))))))))) else (f_X11_segments σ x)) else (-100004))
theorem f_X11_count_eq (σ : Sg) (x : Int32) : f_X11_count σ x = (if (f_X11_in x 0 18) = 0 then (-100002) else (let v1 : Int32 := (if (f_X11_in x 1 12) = 0 then 0 else (if (σ 53 13) = 0 then 1 else (if (σ 53 13) = 1 then (if (f_X11_in x 7 8) = 0 then 0 else 1) else 0))); if v1 = 0 then (if (f_X11_in x 5 12) = 0 then (if x = 0 then (σ 53 13) else (if x = 1 then (f_X11_guessed σ) else (if x = 2 then (σ 53 22) else (if x = 3 then (σ 53 23) else (if x = 4 then (f_X11_linesWithColor σ) else (if x = 5 then (σ 62 (x - 15).toNatClampNeg) else (if x = 6 then (σ 62 (x - 15).toNatClampNeg) else (if x = 7 then (σ 62 (x - 15).toNatClampNeg) else (if x = 8 then (σ 62 (x - 15).toNatClampNeg) else (if x = 9 then (σ 62 (x - 15).toNatClampNeg) else (if x = 10 then (σ 62 (x - 15).toNatClampNeg) else (if x = 11 then (σ 62 (x - 15).toNatClampNeg) else (if x = 12 then (σ 62 (x - 15).toNatClampNeg) else (if x = 13 then (σ 53 8) else (if x = 14 then (σ 53 10) else (σ 62 (x - 15).toNatClampNeg)))))))))))))))) else (f_X11_segments σ x)) else (-100004))) := rfl
set_option maxRecDepth 100000 in
set_option maxHeartbeats 4000000 in
theorem c_X11_count (l : Launch) (D : va_G) (ad : Nat → Nat) (dA : Nat → ClassId) (z0 : Nat) (tt : Nat → Nat) (σ : Sg) (φ : Fl) (x : Int32)  : MC l D ad dA z0 tt yX11_count (Cond.code yX11_count cX11_count 3 (some .int) :: lw_all) { frames := 2, cells := 0, slots := 0, locals := 50 } [.ref (ad 53), .int x] σ φ (Fn (some (.int (f_X11_count σ x))) σ φ) := by
  refine mk_MC (by decide) (Nat.le_of_ble_eq_true rfl) ?_
  intro K C hi hf hv
  change K σ φ 0 [(0, .ref (ad 53)), (1, .int x)] []
  refine g_iload_n C (i := 1) dX11_count_0 rfl 1 rfl ?_
  refine g_iconst C (v := 0) dX11_count_1 (by decide) ?_
  refine g_bipush C (v := 18) dX11_count_2 (by decide) ?_
  refine g_callS C (st := []) (c_X11_in l D ad dA z0 tt σ φ x 0 18) rfl ml_X11_103 sm_X11_in in_X11 co_X11_in dyS_X11_in rfl rfl ⟨(Nat.le_of_ble_eq_true rfl), (Nat.le_of_ble_eq_true rfl)⟩ dX11_count_4 rfl (Nat.le_of_ble_eq_true rfl) (g_fni ?_)
  refine g_if_ne C (tgt := 13) dX11_count_7 (by decide) (fun h1 => ?_) (fun h1 => ?_)
  · refine g_iload_n C (i := 1) dX11_count_13 rfl 1 rfl ?_
    refine g_iconst C (v := 1) dX11_count_14 (by decide) ?_
    refine g_bipush C (v := 12) dX11_count_15 (by decide) ?_
    refine g_callS C (st := []) (c_X11_in l D ad dA z0 tt σ φ x 1 12) rfl ml_X11_103 sm_X11_in in_X11 co_X11_in dyS_X11_in rfl rfl ⟨(Nat.le_of_ble_eq_true rfl), (Nat.le_of_ble_eq_true rfl)⟩ dX11_count_17 rfl (Nat.le_of_ble_eq_true rfl) (g_fni ?_)
    have J2 : ∀ (v1 : Int32), (if (f_X11_in x 1 12) = 0 then 0 else (if (σ 53 13) = 0 then 1 else (if (σ 53 13) = 1 then (if (f_X11_in x 7 8) = 0 then 0 else 1) else 0))) = v1 → K σ φ 54 [(0, .ref (ad 53)), (1, .int x)] [.int v1] := by
      intro v1 ev1
      refine g_istore_n C (i := 2) (lv' := [(2, .int v1), (0, .ref (ad 53)), (1, .int x)]) dX11_count_54 rfl (by decide) rfl ?_
      refine g_iload_n C (i := 2) dX11_count_55 rfl 0 rfl ?_
      refine g_if_eq C (tgt := 62) dX11_count_56 (by decide) (fun h6 => ?_) (fun h6 => ?_)
      · refine g_iload_n C (i := 1) dX11_count_62 rfl 2 rfl ?_
        refine g_iconst C (v := 5) dX11_count_63 (by decide) ?_
        refine g_bipush C (v := 12) dX11_count_64 (by decide) ?_
        refine g_callS C (st := []) (c_X11_in l D ad dA z0 tt σ φ x 5 12) rfl ml_X11_103 sm_X11_in in_X11 co_X11_in dyS_X11_in rfl rfl ⟨(Nat.le_of_ble_eq_true rfl), (Nat.le_of_ble_eq_true rfl)⟩ dX11_count_66 rfl (Nat.le_of_ble_eq_true rfl) (g_fni ?_)
        refine g_if_eq C (tgt := 78) dX11_count_69 (by decide) (fun h7 => ?_) (fun h7 => ?_)
        · refine g_iload_n C (i := 1) dX11_count_78 rfl 2 rfl ?_
          by_cases h8 : x = 0
          · refine g_tableIn C (tgt := 152) (off := 73) dX11_count_79 (by rw [h8]; decide) (by rw [h8]; decide) (by rw [h8]; rfl) (by decide) ?_
            refine g_aload_n C (i := 0) dX11_count_152 rfl 1 rfl ?_
            refine gg_53_13 C fl_X11_189 dX11_count_153 ?_
            subst ev1
            have e0 := (show f_X11_count σ x = _ from ((f_X11_count_eq _ _).trans ((if_neg h1).trans ((if_pos h6).trans ((if_pos h7).trans (if_pos h8))))))
            exact hi _ _ _ _ _ _ rfl dX11_count_156 rfl ⟨(congrArg (fun z => some (Value.int z)) e0).symm, rfl, rfl⟩
          · skip
            by_cases h9 : x = 1
            · refine g_tableIn C (tgt := 157) (off := 78) dX11_count_79 (by rw [h9]; decide) (by rw [h9]; decide) (by rw [h9]; rfl) (by decide) ?_
              refine g_aload_n C (i := 0) dX11_count_157 rfl 1 rfl ?_
              refine g_callV C (st := []) (c_X11_guessed l D ad dA z0 tt σ φ ) rfl ml_X11_199 im_X11_guessed se_X11_guessed in_X11 co_X11_guessed dyV_X11_guessed rfl rfl ⟨(Nat.le_of_ble_eq_true rfl), (Nat.le_of_ble_eq_true rfl)⟩ 53 11 (fun f => at_53 ad dA σ f) rfl dX11_count_158 rfl (Nat.le_of_ble_eq_true rfl) (g_fni ?_)
              subst ev1
              have e0 := (show f_X11_count σ x = _ from ((f_X11_count_eq _ _).trans ((if_neg h1).trans ((if_pos h6).trans ((if_pos h7).trans ((if_neg h8).trans (if_pos h9)))))))
              exact hi _ _ _ _ _ _ rfl dX11_count_161 rfl ⟨(congrArg (fun z => some (Value.int z)) e0).symm, rfl, rfl⟩
            · skip
              by_cases h10 : x = 2
              · refine g_tableIn C (tgt := 162) (off := 83) dX11_count_79 (by rw [h10]; decide) (by rw [h10]; decide) (by rw [h10]; rfl) (by decide) ?_
                refine g_aload_n C (i := 0) dX11_count_162 rfl 1 rfl ?_
                refine gg_53_22 C fl_X11_163 dX11_count_163 ?_
                subst ev1
                have e0 := (show f_X11_count σ x = _ from ((f_X11_count_eq _ _).trans ((if_neg h1).trans ((if_pos h6).trans ((if_pos h7).trans ((if_neg h8).trans ((if_neg h9).trans (if_pos h10))))))))
                exact hi _ _ _ _ _ _ rfl dX11_count_166 rfl ⟨(congrArg (fun z => some (Value.int z)) e0).symm, rfl, rfl⟩
              · skip
                by_cases h11 : x = 3
                · refine g_tableIn C (tgt := 167) (off := 88) dX11_count_79 (by rw [h11]; decide) (by rw [h11]; decide) (by rw [h11]; rfl) (by decide) ?_
                  refine g_aload_n C (i := 0) dX11_count_167 rfl 1 rfl ?_
                  refine gg_53_23 C fl_X11_166 dX11_count_168 ?_
                  subst ev1
                  have e0 := (show f_X11_count σ x = _ from ((f_X11_count_eq _ _).trans ((if_neg h1).trans ((if_pos h6).trans ((if_pos h7).trans ((if_neg h8).trans ((if_neg h9).trans ((if_neg h10).trans (if_pos h11)))))))))
                  exact hi _ _ _ _ _ _ rfl dX11_count_171 rfl ⟨(congrArg (fun z => some (Value.int z)) e0).symm, rfl, rfl⟩
                · skip
                  by_cases h12 : x = 4
                  · refine g_tableIn C (tgt := 172) (off := 93) dX11_count_79 (by rw [h12]; decide) (by rw [h12]; decide) (by rw [h12]; rfl) (by decide) ?_
                    refine g_aload_n C (i := 0) dX11_count_172 rfl 1 rfl ?_
                    refine g_callV C (st := []) (c_X11_linesWithColor l D ad dA z0 tt σ φ ) rfl ml_X11_220 im_X11_linesWithColor se_X11_linesWithColor in_X11 co_X11_linesWithColor dyV_X11_linesWithColor rfl rfl ⟨(Nat.le_of_ble_eq_true rfl), (Nat.le_of_ble_eq_true rfl)⟩ 53 11 (fun f => at_53 ad dA σ f) rfl dX11_count_173 rfl (Nat.le_of_ble_eq_true rfl) (g_fni ?_)
                    subst ev1
                    have e0 := (show f_X11_count σ x = _ from ((f_X11_count_eq _ _).trans ((if_neg h1).trans ((if_pos h6).trans ((if_pos h7).trans ((if_neg h8).trans ((if_neg h9).trans ((if_neg h10).trans ((if_neg h11).trans (if_pos h12))))))))))
                    exact hi _ _ _ _ _ _ rfl dX11_count_176 rfl ⟨(congrArg (fun z => some (Value.int z)) e0).symm, rfl, rfl⟩
                  · skip
                    by_cases h13 : x = 5
                    · refine g_tableIn C (tgt := 187) (off := 108) dX11_count_79 (by rw [h13]; decide) (by rw [h13]; decide) (by rw [h13]; rfl) (by decide) ?_
                      refine g_aload_n C (i := 0) dX11_count_187 rfl 1 rfl ?_
                      refine gg_53_9 C fl_X11_35 dX11_count_188 ?_
                      refine g_iload_n C (i := 1) dX11_count_191 rfl 2 rfl ?_
                      refine g_bipush C (v := 15) dX11_count_192 (by decide) ?_
                      refine g_isub C dX11_count_194 ?_
                      refine ld_62 C (cn_fin h1 h7 (by have ah8 := i32_ne (c := 0) (n := 0) rfl h8; have ah9 := i32_ne (c := 1) (n := 1) rfl h9; have ah10 := i32_ne (c := 2) (n := 2) rfl h10; have ah11 := i32_ne (c := 3) (n := 3) rfl h11; have ah12 := i32_ne (c := 4) (n := 4) rfl h12; have ah13 := i32_eqn (c := 5) (n := 5) rfl h13; omega)) dX11_count_195 ?_
                      subst ev1
                      have e0 := (show f_X11_count σ x = _ from ((f_X11_count_eq _ _).trans ((if_neg h1).trans ((if_pos h6).trans ((if_pos h7).trans ((if_neg h8).trans ((if_neg h9).trans ((if_neg h10).trans ((if_neg h11).trans ((if_neg h12).trans (if_pos h13)))))))))))
                      exact hi _ _ _ _ _ _ rfl dX11_count_196 rfl ⟨(congrArg (fun z => some (Value.int z)) e0).symm, rfl, rfl⟩
                    · skip
                      by_cases h14 : x = 6
                      · refine g_tableIn C (tgt := 187) (off := 108) dX11_count_79 (by rw [h14]; decide) (by rw [h14]; decide) (by rw [h14]; rfl) (by decide) ?_
                        refine g_aload_n C (i := 0) dX11_count_187 rfl 1 rfl ?_
                        refine gg_53_9 C fl_X11_35 dX11_count_188 ?_
                        refine g_iload_n C (i := 1) dX11_count_191 rfl 2 rfl ?_
                        refine g_bipush C (v := 15) dX11_count_192 (by decide) ?_
                        refine g_isub C dX11_count_194 ?_
                        refine ld_62 C (cn_fin h1 h7 (by have ah8 := i32_ne (c := 0) (n := 0) rfl h8; have ah9 := i32_ne (c := 1) (n := 1) rfl h9; have ah10 := i32_ne (c := 2) (n := 2) rfl h10; have ah11 := i32_ne (c := 3) (n := 3) rfl h11; have ah12 := i32_ne (c := 4) (n := 4) rfl h12; have ah13 := i32_ne (c := 5) (n := 5) rfl h13; have ah14 := i32_eqn (c := 6) (n := 6) rfl h14; omega)) dX11_count_195 ?_
                        subst ev1
                        have e0 := (show f_X11_count σ x = _ from ((f_X11_count_eq _ _).trans ((if_neg h1).trans ((if_pos h6).trans ((if_pos h7).trans ((if_neg h8).trans ((if_neg h9).trans ((if_neg h10).trans ((if_neg h11).trans ((if_neg h12).trans ((if_neg h13).trans (if_pos h14))))))))))))
                        exact hi _ _ _ _ _ _ rfl dX11_count_196 rfl ⟨(congrArg (fun z => some (Value.int z)) e0).symm, rfl, rfl⟩
                      · skip
                        by_cases h15 : x = 7
                        · refine g_tableIn C (tgt := 187) (off := 108) dX11_count_79 (by rw [h15]; decide) (by rw [h15]; decide) (by rw [h15]; rfl) (by decide) ?_
                          refine g_aload_n C (i := 0) dX11_count_187 rfl 1 rfl ?_
                          refine gg_53_9 C fl_X11_35 dX11_count_188 ?_
                          refine g_iload_n C (i := 1) dX11_count_191 rfl 2 rfl ?_
                          refine g_bipush C (v := 15) dX11_count_192 (by decide) ?_
                          refine g_isub C dX11_count_194 ?_
                          refine ld_62 C (cn_fin h1 h7 (by have ah8 := i32_ne (c := 0) (n := 0) rfl h8; have ah9 := i32_ne (c := 1) (n := 1) rfl h9; have ah10 := i32_ne (c := 2) (n := 2) rfl h10; have ah11 := i32_ne (c := 3) (n := 3) rfl h11; have ah12 := i32_ne (c := 4) (n := 4) rfl h12; have ah13 := i32_ne (c := 5) (n := 5) rfl h13; have ah14 := i32_ne (c := 6) (n := 6) rfl h14; have ah15 := i32_eqn (c := 7) (n := 7) rfl h15; omega)) dX11_count_195 ?_
                          subst ev1
                          have e0 := (show f_X11_count σ x = _ from ((f_X11_count_eq _ _).trans ((if_neg h1).trans ((if_pos h6).trans ((if_pos h7).trans ((if_neg h8).trans ((if_neg h9).trans ((if_neg h10).trans ((if_neg h11).trans ((if_neg h12).trans ((if_neg h13).trans ((if_neg h14).trans (if_pos h15)))))))))))))
                          exact hi _ _ _ _ _ _ rfl dX11_count_196 rfl ⟨(congrArg (fun z => some (Value.int z)) e0).symm, rfl, rfl⟩
                        · skip
                          by_cases h16 : x = 8
                          · refine g_tableIn C (tgt := 187) (off := 108) dX11_count_79 (by rw [h16]; decide) (by rw [h16]; decide) (by rw [h16]; rfl) (by decide) ?_
                            refine g_aload_n C (i := 0) dX11_count_187 rfl 1 rfl ?_
                            refine gg_53_9 C fl_X11_35 dX11_count_188 ?_
                            refine g_iload_n C (i := 1) dX11_count_191 rfl 2 rfl ?_
                            refine g_bipush C (v := 15) dX11_count_192 (by decide) ?_
                            refine g_isub C dX11_count_194 ?_
                            refine ld_62 C (cn_fin h1 h7 (by have ah8 := i32_ne (c := 0) (n := 0) rfl h8; have ah9 := i32_ne (c := 1) (n := 1) rfl h9; have ah10 := i32_ne (c := 2) (n := 2) rfl h10; have ah11 := i32_ne (c := 3) (n := 3) rfl h11; have ah12 := i32_ne (c := 4) (n := 4) rfl h12; have ah13 := i32_ne (c := 5) (n := 5) rfl h13; have ah14 := i32_ne (c := 6) (n := 6) rfl h14; have ah15 := i32_ne (c := 7) (n := 7) rfl h15; have ah16 := i32_eqn (c := 8) (n := 8) rfl h16; omega)) dX11_count_195 ?_
                            subst ev1
                            have e0 := (show f_X11_count σ x = _ from ((f_X11_count_eq _ _).trans ((if_neg h1).trans ((if_pos h6).trans ((if_pos h7).trans ((if_neg h8).trans ((if_neg h9).trans ((if_neg h10).trans ((if_neg h11).trans ((if_neg h12).trans ((if_neg h13).trans ((if_neg h14).trans ((if_neg h15).trans (if_pos h16))))))))))))))
                            exact hi _ _ _ _ _ _ rfl dX11_count_196 rfl ⟨(congrArg (fun z => some (Value.int z)) e0).symm, rfl, rfl⟩
                          · skip
                            by_cases h17 : x = 9
                            · refine g_tableIn C (tgt := 187) (off := 108) dX11_count_79 (by rw [h17]; decide) (by rw [h17]; decide) (by rw [h17]; rfl) (by decide) ?_
                              refine g_aload_n C (i := 0) dX11_count_187 rfl 1 rfl ?_
                              refine gg_53_9 C fl_X11_35 dX11_count_188 ?_
                              refine g_iload_n C (i := 1) dX11_count_191 rfl 2 rfl ?_
                              refine g_bipush C (v := 15) dX11_count_192 (by decide) ?_
                              refine g_isub C dX11_count_194 ?_
                              refine ld_62 C (cn_fin h1 h7 (by have ah8 := i32_ne (c := 0) (n := 0) rfl h8; have ah9 := i32_ne (c := 1) (n := 1) rfl h9; have ah10 := i32_ne (c := 2) (n := 2) rfl h10; have ah11 := i32_ne (c := 3) (n := 3) rfl h11; have ah12 := i32_ne (c := 4) (n := 4) rfl h12; have ah13 := i32_ne (c := 5) (n := 5) rfl h13; have ah14 := i32_ne (c := 6) (n := 6) rfl h14; have ah15 := i32_ne (c := 7) (n := 7) rfl h15; have ah16 := i32_ne (c := 8) (n := 8) rfl h16; have ah17 := i32_eqn (c := 9) (n := 9) rfl h17; omega)) dX11_count_195 ?_
                              subst ev1
                              have e0 := (show f_X11_count σ x = _ from ((f_X11_count_eq _ _).trans ((if_neg h1).trans ((if_pos h6).trans ((if_pos h7).trans ((if_neg h8).trans ((if_neg h9).trans ((if_neg h10).trans ((if_neg h11).trans ((if_neg h12).trans ((if_neg h13).trans ((if_neg h14).trans ((if_neg h15).trans ((if_neg h16).trans (if_pos h17)))))))))))))))
                              exact hi _ _ _ _ _ _ rfl dX11_count_196 rfl ⟨(congrArg (fun z => some (Value.int z)) e0).symm, rfl, rfl⟩
                            · skip
                              by_cases h18 : x = 10
                              · refine g_tableIn C (tgt := 187) (off := 108) dX11_count_79 (by rw [h18]; decide) (by rw [h18]; decide) (by rw [h18]; rfl) (by decide) ?_
                                refine g_aload_n C (i := 0) dX11_count_187 rfl 1 rfl ?_
                                refine gg_53_9 C fl_X11_35 dX11_count_188 ?_
                                refine g_iload_n C (i := 1) dX11_count_191 rfl 2 rfl ?_
                                refine g_bipush C (v := 15) dX11_count_192 (by decide) ?_
                                refine g_isub C dX11_count_194 ?_
                                refine ld_62 C (cn_fin h1 h7 (by have ah8 := i32_ne (c := 0) (n := 0) rfl h8; have ah9 := i32_ne (c := 1) (n := 1) rfl h9; have ah10 := i32_ne (c := 2) (n := 2) rfl h10; have ah11 := i32_ne (c := 3) (n := 3) rfl h11; have ah12 := i32_ne (c := 4) (n := 4) rfl h12; have ah13 := i32_ne (c := 5) (n := 5) rfl h13; have ah14 := i32_ne (c := 6) (n := 6) rfl h14; have ah15 := i32_ne (c := 7) (n := 7) rfl h15; have ah16 := i32_ne (c := 8) (n := 8) rfl h16; have ah17 := i32_ne (c := 9) (n := 9) rfl h17; have ah18 := i32_eqn (c := 10) (n := 10) rfl h18; omega)) dX11_count_195 ?_
                                subst ev1
                                have e0 := (show f_X11_count σ x = _ from ((f_X11_count_eq _ _).trans ((if_neg h1).trans ((if_pos h6).trans ((if_pos h7).trans ((if_neg h8).trans ((if_neg h9).trans ((if_neg h10).trans ((if_neg h11).trans ((if_neg h12).trans ((if_neg h13).trans ((if_neg h14).trans ((if_neg h15).trans ((if_neg h16).trans ((if_neg h17).trans (if_pos h18))))))))))))))))
                                exact hi _ _ _ _ _ _ rfl dX11_count_196 rfl ⟨(congrArg (fun z => some (Value.int z)) e0).symm, rfl, rfl⟩
                              · skip
                                by_cases h19 : x = 11
                                · refine g_tableIn C (tgt := 187) (off := 108) dX11_count_79 (by rw [h19]; decide) (by rw [h19]; decide) (by rw [h19]; rfl) (by decide) ?_
                                  refine g_aload_n C (i := 0) dX11_count_187 rfl 1 rfl ?_
                                  refine gg_53_9 C fl_X11_35 dX11_count_188 ?_
                                  refine g_iload_n C (i := 1) dX11_count_191 rfl 2 rfl ?_
                                  refine g_bipush C (v := 15) dX11_count_192 (by decide) ?_
                                  refine g_isub C dX11_count_194 ?_
                                  refine ld_62 C (cn_fin h1 h7 (by have ah8 := i32_ne (c := 0) (n := 0) rfl h8; have ah9 := i32_ne (c := 1) (n := 1) rfl h9; have ah10 := i32_ne (c := 2) (n := 2) rfl h10; have ah11 := i32_ne (c := 3) (n := 3) rfl h11; have ah12 := i32_ne (c := 4) (n := 4) rfl h12; have ah13 := i32_ne (c := 5) (n := 5) rfl h13; have ah14 := i32_ne (c := 6) (n := 6) rfl h14; have ah15 := i32_ne (c := 7) (n := 7) rfl h15; have ah16 := i32_ne (c := 8) (n := 8) rfl h16; have ah17 := i32_ne (c := 9) (n := 9) rfl h17; have ah18 := i32_ne (c := 10) (n := 10) rfl h18; have ah19 := i32_eqn (c := 11) (n := 11) rfl h19; omega)) dX11_count_195 ?_
                                  subst ev1
                                  have e0 := (show f_X11_count σ x = _ from ((f_X11_count_eq _ _).trans ((if_neg h1).trans ((if_pos h6).trans ((if_pos h7).trans ((if_neg h8).trans ((if_neg h9).trans ((if_neg h10).trans ((if_neg h11).trans ((if_neg h12).trans ((if_neg h13).trans ((if_neg h14).trans ((if_neg h15).trans ((if_neg h16).trans ((if_neg h17).trans ((if_neg h18).trans (if_pos h19)))))))))))))))))
                                  exact hi _ _ _ _ _ _ rfl dX11_count_196 rfl ⟨(congrArg (fun z => some (Value.int z)) e0).symm, rfl, rfl⟩
                                · skip
                                  by_cases h20 : x = 12
                                  · refine g_tableIn C (tgt := 187) (off := 108) dX11_count_79 (by rw [h20]; decide) (by rw [h20]; decide) (by rw [h20]; rfl) (by decide) ?_
                                    refine g_aload_n C (i := 0) dX11_count_187 rfl 1 rfl ?_
                                    refine gg_53_9 C fl_X11_35 dX11_count_188 ?_
                                    refine g_iload_n C (i := 1) dX11_count_191 rfl 2 rfl ?_
                                    refine g_bipush C (v := 15) dX11_count_192 (by decide) ?_
                                    refine g_isub C dX11_count_194 ?_
                                    refine ld_62 C (cn_fin h1 h7 (by have ah8 := i32_ne (c := 0) (n := 0) rfl h8; have ah9 := i32_ne (c := 1) (n := 1) rfl h9; have ah10 := i32_ne (c := 2) (n := 2) rfl h10; have ah11 := i32_ne (c := 3) (n := 3) rfl h11; have ah12 := i32_ne (c := 4) (n := 4) rfl h12; have ah13 := i32_ne (c := 5) (n := 5) rfl h13; have ah14 := i32_ne (c := 6) (n := 6) rfl h14; have ah15 := i32_ne (c := 7) (n := 7) rfl h15; have ah16 := i32_ne (c := 8) (n := 8) rfl h16; have ah17 := i32_ne (c := 9) (n := 9) rfl h17; have ah18 := i32_ne (c := 10) (n := 10) rfl h18; have ah19 := i32_ne (c := 11) (n := 11) rfl h19; have ah20 := i32_eqn (c := 12) (n := 12) rfl h20; omega)) dX11_count_195 ?_
                                    subst ev1
                                    have e0 := (show f_X11_count σ x = _ from ((f_X11_count_eq _ _).trans ((if_neg h1).trans ((if_pos h6).trans ((if_pos h7).trans ((if_neg h8).trans ((if_neg h9).trans ((if_neg h10).trans ((if_neg h11).trans ((if_neg h12).trans ((if_neg h13).trans ((if_neg h14).trans ((if_neg h15).trans ((if_neg h16).trans ((if_neg h17).trans ((if_neg h18).trans ((if_neg h19).trans (if_pos h20))))))))))))))))))
                                    exact hi _ _ _ _ _ _ rfl dX11_count_196 rfl ⟨(congrArg (fun z => some (Value.int z)) e0).symm, rfl, rfl⟩
                                  · skip
                                    by_cases h21 : x = 13
                                    · refine g_tableIn C (tgt := 177) (off := 98) dX11_count_79 (by rw [h21]; decide) (by rw [h21]; decide) (by rw [h21]; rfl) (by decide) ?_
                                      refine g_aload_n C (i := 0) dX11_count_177 rfl 1 rfl ?_
                                      refine gg_53_8 C fl_X11_124 dX11_count_178 ?_
                                      subst ev1
                                      have e0 := (show f_X11_count σ x = _ from ((f_X11_count_eq _ _).trans ((if_neg h1).trans ((if_pos h6).trans ((if_pos h7).trans ((if_neg h8).trans ((if_neg h9).trans ((if_neg h10).trans ((if_neg h11).trans ((if_neg h12).trans ((if_neg h13).trans ((if_neg h14).trans ((if_neg h15).trans ((if_neg h16).trans ((if_neg h17).trans ((if_neg h18).trans ((if_neg h19).trans ((if_neg h20).trans (if_pos h21)))))))))))))))))))
                                      exact hi _ _ _ _ _ _ rfl dX11_count_181 rfl ⟨(congrArg (fun z => some (Value.int z)) e0).symm, rfl, rfl⟩
                                    · skip
                                      by_cases h22 : x = 14
                                      · refine g_tableIn C (tgt := 182) (off := 103) dX11_count_79 (by rw [h22]; decide) (by rw [h22]; decide) (by rw [h22]; rfl) (by decide) ?_
                                        refine g_aload_n C (i := 0) dX11_count_182 rfl 1 rfl ?_
                                        refine gg_53_10 C fl_X11_128 dX11_count_183 ?_
                                        subst ev1
                                        have e0 := (show f_X11_count σ x = _ from ((f_X11_count_eq _ _).trans ((if_neg h1).trans ((if_pos h6).trans ((if_pos h7).trans ((if_neg h8).trans ((if_neg h9).trans ((if_neg h10).trans ((if_neg h11).trans ((if_neg h12).trans ((if_neg h13).trans ((if_neg h14).trans ((if_neg h15).trans ((if_neg h16).trans ((if_neg h17).trans ((if_neg h18).trans ((if_neg h19).trans ((if_neg h20).trans ((if_neg h21).trans (if_pos h22))))))))))))))))))))
                                        exact hi _ _ _ _ _ _ rfl dX11_count_186 rfl ⟨(congrArg (fun z => some (Value.int z)) e0).symm, rfl, rfl⟩
                                      · skip
                                        refine g_tableOut C (tgt := 187) dX11_count_79 (by have nh8 := i32_ne (c := 0) (n := 0) rfl h8; have nh9 := i32_ne (c := 1) (n := 1) rfl h9; have nh10 := i32_ne (c := 2) (n := 2) rfl h10; have nh11 := i32_ne (c := 3) (n := 3) rfl h11; have nh12 := i32_ne (c := 4) (n := 4) rfl h12; have nh13 := i32_ne (c := 5) (n := 5) rfl h13; have nh14 := i32_ne (c := 6) (n := 6) rfl h14; have nh15 := i32_ne (c := 7) (n := 7) rfl h15; have nh16 := i32_ne (c := 8) (n := 8) rfl h16; have nh17 := i32_ne (c := 9) (n := 9) rfl h17; have nh18 := i32_ne (c := 10) (n := 10) rfl h18; have nh19 := i32_ne (c := 11) (n := 11) rfl h19; have nh20 := i32_ne (c := 12) (n := 12) rfl h20; have nh21 := i32_ne (c := 13) (n := 13) rfl h21; have nh22 := i32_ne (c := 14) (n := 14) rfl h22; omega) (by decide) ?_
                                        refine g_aload_n C (i := 0) dX11_count_187 rfl 1 rfl ?_
                                        refine gg_53_9 C fl_X11_35 dX11_count_188 ?_
                                        refine g_iload_n C (i := 1) dX11_count_191 rfl 2 rfl ?_
                                        refine g_bipush C (v := 15) dX11_count_192 (by decide) ?_
                                        refine g_isub C dX11_count_194 ?_
                                        refine ld_62 C (cn_fin h1 h7 (by have ah8 := i32_ne (c := 0) (n := 0) rfl h8; have ah9 := i32_ne (c := 1) (n := 1) rfl h9; have ah10 := i32_ne (c := 2) (n := 2) rfl h10; have ah11 := i32_ne (c := 3) (n := 3) rfl h11; have ah12 := i32_ne (c := 4) (n := 4) rfl h12; have ah13 := i32_ne (c := 5) (n := 5) rfl h13; have ah14 := i32_ne (c := 6) (n := 6) rfl h14; have ah15 := i32_ne (c := 7) (n := 7) rfl h15; have ah16 := i32_ne (c := 8) (n := 8) rfl h16; have ah17 := i32_ne (c := 9) (n := 9) rfl h17; have ah18 := i32_ne (c := 10) (n := 10) rfl h18; have ah19 := i32_ne (c := 11) (n := 11) rfl h19; have ah20 := i32_ne (c := 12) (n := 12) rfl h20; have ah21 := i32_ne (c := 13) (n := 13) rfl h21; have ah22 := i32_ne (c := 14) (n := 14) rfl h22; omega)) dX11_count_195 ?_
                                        subst ev1
                                        have e0 := (show f_X11_count σ x = _ from ((f_X11_count_eq _ _).trans ((if_neg h1).trans ((if_pos h6).trans ((if_pos h7).trans ((if_neg h8).trans ((if_neg h9).trans ((if_neg h10).trans ((if_neg h11).trans ((if_neg h12).trans ((if_neg h13).trans ((if_neg h14).trans ((if_neg h15).trans ((if_neg h16).trans ((if_neg h17).trans ((if_neg h18).trans ((if_neg h19).trans ((if_neg h20).trans ((if_neg h21).trans (if_neg h22))))))))))))))))))))
                                        exact hi _ _ _ _ _ _ rfl dX11_count_196 rfl ⟨(congrArg (fun z => some (Value.int z)) e0).symm, rfl, rfl⟩
        · refine g_aload_n C (i := 0) dX11_count_72 rfl 1 rfl ?_
          refine g_iload_n C (i := 1) dX11_count_73 rfl 2 rfl ?_
          refine g_callV C (st := []) (c_X11_segments l D ad dA z0 tt σ φ x) rfl ml_X11_217 im_X11_segments se_X11_segments in_X11 co_X11_segments dyV_X11_segments rfl rfl ⟨(Nat.le_of_ble_eq_true rfl), (Nat.le_of_ble_eq_true rfl)⟩ 53 11 (fun f => at_53 ad dA σ f) rfl dX11_count_74 rfl (Nat.le_of_ble_eq_true rfl) (g_fni ?_)
          subst ev1
          have e0 := (show f_X11_count σ x = _ from ((f_X11_count_eq _ _).trans ((if_neg h1).trans ((if_pos h6).trans (if_neg h7)))))
          exact hi _ _ _ _ _ _ rfl dX11_count_77 rfl ⟨(congrArg (fun z => some (Value.int z)) e0).symm, rfl, rfl⟩
      · refine g_ldc C kc_X11_132 dX11_count_59 ?_
        subst ev1
        have e0 := (show f_X11_count σ x = _ from ((f_X11_count_eq _ _).trans ((if_neg h1).trans (if_neg h6))))
        exact hi _ _ _ _ _ _ rfl dX11_count_61 rfl ⟨(congrArg (fun z => some (Value.int z)) e0).symm, rfl, rfl⟩
    refine g_if_eq C (tgt := 53) dX11_count_20 (by decide) (fun h2 => ?_) (fun h2 => ?_)
    · refine g_iconst C (v := 0) dX11_count_53 (by decide) ?_
      refine g_loc C [0, 1] rfl ?_
      exact J2 _ ((if_pos h2))
    · refine g_aload_n C (i := 0) dX11_count_23 rfl 0 rfl ?_
      refine gg_53_13 C fl_X11_189 dX11_count_24 ?_
      refine g_if_eq C (tgt := 49) dX11_count_27 (by decide) (fun h3 => ?_) (fun h3 => ?_)
      · refine g_iconst C (v := 1) dX11_count_49 (by decide) ?_
        refine g_goto C (tgt := 54) dX11_count_50 (by decide) ?_
        refine g_loc C [0, 1] rfl ?_
        exact J2 _ (((if_neg h2).trans (if_pos h3)))
      · refine g_aload_n C (i := 0) dX11_count_30 rfl 0 rfl ?_
        refine gg_53_13 C fl_X11_189 dX11_count_31 ?_
        refine g_iconst C (v := 1) dX11_count_34 (by decide) ?_
        refine g_icmp_ne C (tgt := 53) dX11_count_35 (by decide) (fun h4 => ?_) (fun h4 => ?_)
        · refine g_iconst C (v := 0) dX11_count_53 (by decide) ?_
          refine g_loc C [0, 1] rfl ?_
          exact J2 _ (((if_neg h2).trans ((if_neg h3).trans (if_neg h4))))
        · refine g_iload_n C (i := 1) dX11_count_38 rfl 1 rfl ?_
          refine g_bipush C (v := 7) dX11_count_39 (by decide) ?_
          refine g_bipush C (v := 8) dX11_count_41 (by decide) ?_
          refine g_callS C (st := []) (c_X11_in l D ad dA z0 tt σ φ x 7 8) rfl ml_X11_103 sm_X11_in in_X11 co_X11_in dyS_X11_in rfl rfl ⟨(Nat.le_of_ble_eq_true rfl), (Nat.le_of_ble_eq_true rfl)⟩ dX11_count_43 rfl (Nat.le_of_ble_eq_true rfl) (g_fni ?_)
          refine g_if_eq C (tgt := 53) dX11_count_46 (by decide) (fun h5 => ?_) (fun h5 => ?_)
          · refine g_iconst C (v := 0) dX11_count_53 (by decide) ?_
            refine g_loc C [0, 1] rfl ?_
            exact J2 _ (((if_neg h2).trans ((if_neg h3).trans ((if_pos h4).trans (if_pos h5)))))
          · refine g_iconst C (v := 1) dX11_count_49 (by decide) ?_
            refine g_goto C (tgt := 54) dX11_count_50 (by decide) ?_
            refine g_loc C [0, 1] rfl ?_
            exact J2 _ (((if_neg h2).trans ((if_neg h3).trans ((if_pos h4).trans (if_neg h5)))))
  · refine g_ldc C kc_X11_119 dX11_count_10 ?_
    have e0 := (show f_X11_count σ x = _ from ((f_X11_count_eq _ _).trans (if_pos h1)))
    exact hi _ _ _ _ _ _ rfl dX11_count_12 rfl ⟨(congrArg (fun z => some (Value.int z)) e0).symm, rfl, rfl⟩
def b_X11_findMotion_2  (j1 : Nat) (s1 : Sg) : Sg := let v2 : Int32 := (if (s1 53 13) ≤ 1 then 0 else (if (f_X11_size ((s1 75 (nI j1).toNatClampNeg) - (s1 76 (nI j1).toNatClampNeg))) ≤ (s1 62 (1 : Int32).toNatClampNeg) then 0 else 1)); let σ4 : Sg := sw s1 83 (nI j1).toNatClampNeg (vp_nar .boolean v2); σ4
theorem b_X11_findMotion_2_eq  (j1 : Nat) (s1 : Sg) : b_X11_findMotion_2  j1 s1 = (let v2 : Int32 := (if (s1 53 13) ≤ 1 then 0 else (if (f_X11_size ((s1 75 (nI j1).toNatClampNeg) - (s1 76 (nI j1).toNatClampNeg))) ≤ (s1 62 (1 : Int32).toNatClampNeg) then 0 else 1)); let σ4 : Sg := sw s1 83 (nI j1).toNatClampNeg (vp_nar .boolean v2); σ4) := rfl
def f_X11_findMotion (σ : Sg) : Sg := let t1 : Sg := loopF b_X11_findMotion_2 80 σ; t1
theorem f_X11_findMotion_eq (σ : Sg) : f_X11_findMotion σ = (let t1 : Sg := loopF b_X11_findMotion_2 80 σ; t1) := rfl
set_option maxRecDepth 100000 in
set_option maxHeartbeats 4000000 in
theorem c_X11_findMotion (l : Launch) (D : va_G) (ad : Nat → Nat) (dA : Nat → ClassId) (z0 : Nat) (tt : Nat → Nat) (σ : Sg) (φ : Fl)   : MC l D ad dA z0 tt yX11_findMotion (Cond.code yX11_findMotion cX11_findMotion 2 none :: lw_all) { frames := 1, cells := 0, slots := 0, locals := 20 } [.ref (ad 53)] σ φ (Fn none (f_X11_findMotion σ) φ) := by
  refine mk_MC (by decide) (Nat.le_of_ble_eq_true rfl) ?_
  intro K C hi hf hv
  change K σ φ 0 [(0, .ref (ad 53))] []
  refine g_iconst C (v := 0) dX11_findMotion_0 (by decide) ?_
  refine g_istore_n C (i := 1) (lv' := [(1, .int 0), (0, .ref (ad 53))]) dX11_findMotion_1 rfl (by decide) rfl ?_
  refine g_loc C (lv' := [(0, .ref (ad 53)), (1, .int 0)]) [1, 0] rfl ?_
  refine loopF_ind b_X11_findMotion_2 80 (fun (j1 : Nat) (s1 : Sg) => K s1 φ 2 [(0, .ref (ad 53)), (1, .int (nI j1))] []) σ ?_ ?_
  · intro j1 s1 hj1 kk
    change K s1 φ 2 [(0, .ref (ad 53)), (1, .int (nI j1))] []
    refine g_iload_n C (i := 1) dX11_findMotion_2 rfl 1 rfl ?_
    refine g_bipush C (v := 80) dX11_findMotion_3 (by decide) ?_
    refine g_icmp_ge C (tgt := 58) dX11_findMotion_5 (by decide) (fun h1 => ?_) (fun h1 => ?_)
    · exact absurd h1 (nI_ge hj1 (by decide))
    · refine g_aload_n C (i := 0) dX11_findMotion_8 rfl 0 rfl ?_
      refine gg_53_34 C fl_X11_100 dX11_findMotion_9 ?_
      refine g_iload_n C (i := 1) dX11_findMotion_12 rfl 1 rfl ?_
      refine g_aload_n C (i := 0) dX11_findMotion_13 rfl 0 rfl ?_
      refine gg_53_13 C fl_X11_189 dX11_findMotion_14 ?_
      refine g_iconst C (v := 1) dX11_findMotion_17 (by decide) ?_
      have J3 : ∀ (v2 : Int32), (if (s1 53 13) ≤ 1 then 0 else (if (f_X11_size ((s1 75 (nI j1).toNatClampNeg) - (s1 76 (nI j1).toNatClampNeg))) ≤ (s1 62 (1 : Int32).toNatClampNeg) then 0 else 1)) = v2 → K s1 φ 51 [(0, .ref (ad 53)), (1, .int (nI j1))] [.int v2, .int (nI j1), .ref (ad 83)] := by
        intro v2 ev2
        refine sd_83 C (vp_in_nI (Nat.lt_of_lt_of_le hj1 (by decide)) (by decide)) dX11_findMotion_51 ?_
        refine g_nms C (fun σ4 eσ4 => ?_)
        refine g_iinc C (i := 1) (v := nI (j1 + 1)) (lv' := [(1, .int (nI (j1 + 1))), (0, .ref (ad 53))]) dX11_findMotion_52 1 rfl (nI_1 _) (by decide) rfl ?_
        refine g_goto C (tgt := 2) dX11_findMotion_55 (by decide) ?_
        refine g_loc C [1, 0] rfl ?_
        refine kk σ4 ?_
        subst eσ4
        subst ev2
        exact b_X11_findMotion_2_eq _ _
      refine g_icmp_le C (tgt := 50) dX11_findMotion_18 (by decide) (fun h2 => ?_) (fun h2 => ?_)
      · refine g_iconst C (v := 0) dX11_findMotion_50 (by decide) ?_
        refine g_loc C [0, 1] rfl ?_
        exact J3 _ ((if_pos h2))
      · refine g_aload_n C (i := 0) dX11_findMotion_21 rfl 0 rfl ?_
        refine gg_53_26 C fl_X11_76 dX11_findMotion_22 ?_
        refine g_iload_n C (i := 1) dX11_findMotion_25 rfl 1 rfl ?_
        refine ld_75 C (vp_in_nI (Nat.lt_of_lt_of_le hj1 (by decide)) (by decide)) dX11_findMotion_26 ?_
        refine g_aload_n C (i := 0) dX11_findMotion_27 rfl 0 rfl ?_
        refine gg_53_27 C fl_X11_79 dX11_findMotion_28 ?_
        refine g_iload_n C (i := 1) dX11_findMotion_31 rfl 1 rfl ?_
        refine ld_76 C (vp_in_nI (Nat.lt_of_lt_of_le hj1 (by decide)) (by decide)) dX11_findMotion_32 ?_
        refine g_isub C dX11_findMotion_33 ?_
        refine g_callS C (st := [.int (nI j1), .ref (ad 83)]) (c_X11_size l D ad dA z0 tt s1 φ ((s1 75 (nI j1).toNatClampNeg) - (s1 76 (nI j1).toNatClampNeg))) rfl ml_X11_160 sm_X11_size in_X11 co_X11_size dyS_X11_size rfl rfl ⟨(Nat.le_of_ble_eq_true rfl), (Nat.le_of_ble_eq_true rfl)⟩ dX11_findMotion_34 rfl (Nat.le_of_ble_eq_true rfl) (g_fni ?_)
        refine g_aload_n C (i := 0) dX11_findMotion_37 rfl 0 rfl ?_
        refine gg_53_9 C fl_X11_35 dX11_findMotion_38 ?_
        refine g_iconst C (v := 1) dX11_findMotion_41 (by decide) ?_
        refine ld_62 C (vp_lit (by decide)) dX11_findMotion_42 ?_
        refine g_icmp_le C (tgt := 50) dX11_findMotion_43 (by decide) (fun h3 => ?_) (fun h3 => ?_)
        · refine g_iconst C (v := 0) dX11_findMotion_50 (by decide) ?_
          refine g_loc C [0, 1] rfl ?_
          exact J3 _ (((if_neg h2).trans (if_pos h3)))
        · refine g_iconst C (v := 1) dX11_findMotion_46 (by decide) ?_
          refine g_goto C (tgt := 51) dX11_findMotion_47 (by decide) ?_
          refine g_loc C [0, 1] rfl ?_
          exact J3 _ (((if_neg h2).trans (if_neg h3)))
  · generalize et1 : loopF b_X11_findMotion_2 80 σ = t1
    change K t1 φ 2 [(0, .ref (ad 53)), (1, .int (nI 80))] []
    refine g_iload_n C (i := 1) dX11_findMotion_2 rfl 1 rfl ?_
    refine g_bipush C (v := 80) dX11_findMotion_3 (by decide) ?_
    refine g_icmp_ge C (tgt := 58) dX11_findMotion_5 (by decide) (fun h4 => ?_) (fun h4 => ?_)
    · subst et1
      have e0 := (show f_X11_findMotion σ = _ from rfl)
      exact hv _ _ _ _ rfl dX11_findMotion_58 ⟨rfl, (congrArg (fun z => z) e0).symm, rfl⟩
    · exact absurd (nI_le (Nat.le_refl _) (by decide)) h4
def b_X11_findTurns_10 (σ : Sg) (x : Int32) (j1 : Nat) (s1 : UInt32 × UInt32 × Int32 × Fl) : UInt32 × UInt32 × Int32 × Fl := let v13 : UInt32 := (if (σ 71 (nI j1).toNatClampNeg) = 0 then (s1.1) else (let v2 : UInt32 := FP.i2f (-(σ 69 (nI j1).toNatClampNeg)); let v3 : UInt32 := FP.i2f (-(σ 70 (nI j1).toNatClampNeg)); let v6 : UInt32 := (if x = 1 then (if (nI j1) ≤ 0 then v2 else (let v4 : UInt32 := FP.fdiv (FP.i2f (-((σ 69 (nI j1).toNatClampNeg) + (σ 69 ((nI j1) - 1).toNatClampNeg)))) (FP.fconst2); let v5 : UInt32 := FP.fdiv (FP.i2f (-((σ 70 (nI j1).toNatClampNeg) + (σ 70 ((nI j1) - 1).toNatClampNeg)))) (FP.fconst2); v4)) else v2); let v7 : UInt32 := (if x = 1 then (if (nI j1) ≤ 0 then v3 else (let v4 : UInt32 := FP.fdiv (FP.i2f (-((σ 69 (nI j1).toNatClampNeg) + (σ 69 ((nI j1) - 1).toNatClampNeg)))) (FP.fconst2); let v5 : UInt32 := FP.fdiv (FP.i2f (-((σ 70 (nI j1).toNatClampNeg) + (σ 70 ((nI j1) - 1).toNatClampNeg)))) (FP.fconst2); v5)) else v3); let v9 : UInt32 := (if (s1.2.2.1) = 0 then (FP.fadd (s1.1) (FP.fmul (FP.fsub v6 (s1.1)) 1048576000)) else v6); let v11 : UInt32 := (if (s1.2.2.1) = 0 then (FP.fadd (s1.2.1) (FP.fmul (FP.fsub v7 (s1.2.1)) 1048576000)) else v7); v9)); let v14 : UInt32 := (if (σ 71 (nI j1).toNatClampNeg) = 0 then (s1.2.1) else (let v2 : UInt32 := FP.i2f (-(σ 69 (nI j1).toNatClampNeg)); let v3 : UInt32 := FP.i2f (-(σ 70 (nI j1).toNatClampNeg)); let v6 : UInt32 := (if x = 1 then (if (nI j1) ≤ 0 then v2 else (let v4 : UInt32 := FP.fdiv (FP.i2f (-((σ 69 (nI j1).toNatClampNeg) + (σ 69 ((nI j1) - 1).toNatClampNeg)))) (FP.fconst2); let v5 : UInt32 := FP.fdiv (FP.i2f (-((σ 70 (nI j1).toNatClampNeg) + (σ 70 ((nI j1) - 1).toNatClampNeg)))) (FP.fconst2); v4)) else v2); let v7 : UInt32 := (if x = 1 then (if (nI j1) ≤ 0 then v3 else (let v4 : UInt32 := FP.fdiv (FP.i2f (-((σ 69 (nI j1).toNatClampNeg) + (σ 69 ((nI j1) - 1).toNatClampNeg)))) (FP.fconst2); let v5 : UInt32 := FP.fdiv (FP.i2f (-((σ 70 (nI j1).toNatClampNeg) + (σ 70 ((nI j1) - 1).toNatClampNeg)))) (FP.fconst2); v5)) else v3); let v9 : UInt32 := (if (s1.2.2.1) = 0 then (FP.fadd (s1.1) (FP.fmul (FP.fsub v6 (s1.1)) 1048576000)) else v6); let v11 : UInt32 := (if (s1.2.2.1) = 0 then (FP.fadd (s1.2.1) (FP.fmul (FP.fsub v7 (s1.2.1)) 1048576000)) else v7); v11)); let v15 : Int32 := (if (σ 71 (nI j1).toNatClampNeg) = 0 then (s1.2.2.1) else (let v2 : UInt32 := FP.i2f (-(σ 69 (nI j1).toNatClampNeg)); let v3 : UInt32 := FP.i2f (-(σ 70 (nI j1).toNatClampNeg)); let v6 : UInt32 := (if x = 1 then (if (nI j1) ≤ 0 then v2 else (let v4 : UInt32 := FP.fdiv (FP.i2f (-((σ 69 (nI j1).toNatClampNeg) + (σ 69 ((nI j1) - 1).toNatClampNeg)))) (FP.fconst2); let v5 : UInt32 := FP.fdiv (FP.i2f (-((σ 70 (nI j1).toNatClampNeg) + (σ 70 ((nI j1) - 1).toNatClampNeg)))) (FP.fconst2); v4)) else v2); let v7 : UInt32 := (if x = 1 then (if (nI j1) ≤ 0 then v3 else (let v4 : UInt32 := FP.fdiv (FP.i2f (-((σ 69 (nI j1).toNatClampNeg) + (σ 69 ((nI j1) - 1).toNatClampNeg)))) (FP.fconst2); let v5 : UInt32 := FP.fdiv (FP.i2f (-((σ 70 (nI j1).toNatClampNeg) + (σ 70 ((nI j1) - 1).toNatClampNeg)))) (FP.fconst2); v5)) else v3); let v9 : UInt32 := (if (s1.2.2.1) = 0 then (FP.fadd (s1.1) (FP.fmul (FP.fsub v6 (s1.1)) 1048576000)) else v6); let v11 : UInt32 := (if (s1.2.2.1) = 0 then (FP.fadd (s1.2.1) (FP.fmul (FP.fsub v7 (s1.2.1)) 1048576000)) else v7); 0)); let φ17 : Fl := fw (s1.2.2.2) 73 (nI j1).toNatClampNeg v13; let φ18 : Fl := fw φ17 74 (nI j1).toNatClampNeg v14; (v13, v14, v15, φ18)
theorem b_X11_findTurns_10_eq (σ : Sg) (x : Int32) (j1 : Nat) (s1 : UInt32 × UInt32 × Int32 × Fl) : b_X11_findTurns_10 σ x j1 s1 = (let v13 : UInt32 := (if (σ 71 (nI j1).toNatClampNeg) = 0 then (s1.1) else (let v2 : UInt32 := FP.i2f (-(σ 69 (nI j1).toNatClampNeg)); let v3 : UInt32 := FP.i2f (-(σ 70 (nI j1).toNatClampNeg)); let v6 : UInt32 := (if x = 1 then (if (nI j1) ≤ 0 then v2 else (let v4 : UInt32 := FP.fdiv (FP.i2f (-((σ 69 (nI j1).toNatClampNeg) + (σ 69 ((nI j1) - 1).toNatClampNeg)))) (FP.fconst2); let v5 : UInt32 := FP.fdiv (FP.i2f (-((σ 70 (nI j1).toNatClampNeg) + (σ 70 ((nI j1) - 1).toNatClampNeg)))) (FP.fconst2); v4)) else v2); let v7 : UInt32 := (if x = 1 then (if (nI j1) ≤ 0 then v3 else (let v4 : UInt32 := FP.fdiv (FP.i2f (-((σ 69 (nI j1).toNatClampNeg) + (σ 69 ((nI j1) - 1).toNatClampNeg)))) (FP.fconst2); let v5 : UInt32 := FP.fdiv (FP.i2f (-((σ 70 (nI j1).toNatClampNeg) + (σ 70 ((nI j1) - 1).toNatClampNeg)))) (FP.fconst2); v5)) else v3); let v9 : UInt32 := (if (s1.2.2.1) = 0 then (FP.fadd (s1.1) (FP.fmul (FP.fsub v6 (s1.1)) 1048576000)) else v6); let v11 : UInt32 := (if (s1.2.2.1) = 0 then (FP.fadd (s1.2.1) (FP.fmul (FP.fsub v7 (s1.2.1)) 1048576000)) else v7); v9)); let v14 : UInt32 := (if (σ 71 (nI j1).toNatClampNeg) = 0 then (s1.2.1) else (let v2 : UInt32 := FP.i2f (-(σ 69 (nI j1).toNatClampNeg)); let v3 : UInt32 := FP.i2f (-(σ 70 (nI j1).toNatClampNeg)); let v6 : UInt32 := (if x = 1 then (if (nI j1) ≤ 0 then v2 else (let v4 : UInt32 := FP.fdiv (FP.i2f (-((σ 69 (nI j1).toNatClampNeg) + (σ 69 ((nI j1) - 1).toNatClampNeg)))) (FP.fconst2); let v5 : UInt32 := FP.fdiv (FP.i2f (-((σ 70 (nI j1).toNatClampNeg) + (σ 70 ((nI j1) - 1).toNatClampNeg)))) (FP.fconst2); v4)) else v2); let v7 : UInt32 := (if x = 1 then (if (nI j1) ≤ 0 then v3 else (let v4 : UInt32 := FP.fdiv (FP.i2f (-((σ 69 (nI j1).toNatClampNeg) + (σ 69 ((nI j1) - 1).toNatClampNeg)))) (FP.fconst2); let v5 : UInt32 := FP.fdiv (FP.i2f (-((σ 70 (nI j1).toNatClampNeg) + (σ 70 ((nI j1) - 1).toNatClampNeg)))) (FP.fconst2); v5)) else v3); let v9 : UInt32 := (if (s1.2.2.1) = 0 then (FP.fadd (s1.1) (FP.fmul (FP.fsub v6 (s1.1)) 1048576000)) else v6); let v11 : UInt32 := (if (s1.2.2.1) = 0 then (FP.fadd (s1.2.1) (FP.fmul (FP.fsub v7 (s1.2.1)) 1048576000)) else v7); v11)); let v15 : Int32 := (if (σ 71 (nI j1).toNatClampNeg) = 0 then (s1.2.2.1) else (let v2 : UInt32 := FP.i2f (-(σ 69 (nI j1).toNatClampNeg)); let v3 : UInt32 := FP.i2f (-(σ 70 (nI j1).toNatClampNeg)); let v6 : UInt32 := (if x = 1 then (if (nI j1) ≤ 0 then v2 else (let v4 : UInt32 := FP.fdiv (FP.i2f (-((σ 69 (nI j1).toNatClampNeg) + (σ 69 ((nI j1) - 1).toNatClampNeg)))) (FP.fconst2); let v5 : UInt32 := FP.fdiv (FP.i2f (-((σ 70 (nI j1).toNatClampNeg) + (σ 70 ((nI j1) - 1).toNatClampNeg)))) (FP.fconst2); v4)) else v2); let v7 : UInt32 := (if x = 1 then (if (nI j1) ≤ 0 then v3 else (let v4 : UInt32 := FP.fdiv (FP.i2f (-((σ 69 (nI j1).toNatClampNeg) + (σ 69 ((nI j1) - 1).toNatClampNeg)))) (FP.fconst2); let v5 : UInt32 := FP.fdiv (FP.i2f (-((σ 70 (nI j1).toNatClampNeg) + (σ 70 ((nI j1) - 1).toNatClampNeg)))) (FP.fconst2); v5)) else v3); let v9 : UInt32 := (if (s1.2.2.1) = 0 then (FP.fadd (s1.1) (FP.fmul (FP.fsub v6 (s1.1)) 1048576000)) else v6); let v11 : UInt32 := (if (s1.2.2.1) = 0 then (FP.fadd (s1.2.1) (FP.fmul (FP.fsub v7 (s1.2.1)) 1048576000)) else v7); 0)); let φ17 : Fl := fw (s1.2.2.2) 73 (nI j1).toNatClampNeg v13; let φ18 : Fl := fw φ17 74 (nI j1).toNatClampNeg v14; (v13, v14, v15, φ18)) := rfl
def f_X11_findTurns (σ : Sg) (φ : Fl) (x : Int32) : Fl := let t1 : UInt32 × UInt32 × Int32 × Fl := loopF (b_X11_findTurns_10 σ x) 8 (FP.fconst0, FP.fconst0, 1, φ); t1.2.2.2
theorem f_X11_findTurns_eq (σ : Sg) (φ : Fl) (x : Int32) : f_X11_findTurns σ φ x = (let t1 : UInt32 × UInt32 × Int32 × Fl := loopF (b_X11_findTurns_10 σ x) 8 (FP.fconst0, FP.fconst0, 1, φ); t1.2.2.2) := rfl
set_option maxRecDepth 100000 in
set_option maxHeartbeats 4000000 in
theorem c_X11_findTurns (l : Launch) (D : va_G) (ad : Nat → Nat) (dA : Nat → ClassId) (z0 : Nat) (tt : Nat → Nat) (σ : Sg) (φ : Fl) (x : Int32)  : MC l D ad dA z0 tt yX11_findTurns (Cond.code yX11_findTurns cX11_findTurns 8 none :: lw_all) { frames := 0, cells := 0, slots := 0, locals := 0 } [.ref (ad 53), .int x] σ φ (Fn none σ (f_X11_findTurns σ φ x)) := by
  refine mk_MC (by decide) (Nat.le_of_ble_eq_true rfl) ?_
  intro K C hi hf hv
  change K σ φ 0 [(0, .ref (ad 53)), (1, .int x)] []
  refine g_fconst0 C dX11_findTurns_0 ?_
  refine g_fstore_n C (i := 2) (lv' := [(2, .float (FP.fconst0)), (0, .ref (ad 53)), (1, .int x)]) dX11_findTurns_1 rfl (by decide) rfl ?_
  refine g_fconst0 C dX11_findTurns_2 ?_
  refine g_fstore_n C (i := 3) (lv' := [(3, .float (FP.fconst0)), (2, .float (FP.fconst0)), (0, .ref (ad 53)), (1, .int x)]) dX11_findTurns_3 rfl (by decide) rfl ?_
  refine g_iconst C (v := 1) dX11_findTurns_4 (by decide) ?_
  refine g_istore C (i := 4) (lv' := [(4, .int 1), (3, .float (FP.fconst0)), (2, .float (FP.fconst0)), (0, .ref (ad 53)), (1, .int x)]) dX11_findTurns_5 (by decide) rfl ?_
  refine g_iconst C (v := 0) dX11_findTurns_7 (by decide) ?_
  refine g_istore C (i := 5) (lv' := [(5, .int 0), (4, .int 1), (3, .float (FP.fconst0)), (2, .float (FP.fconst0)), (0, .ref (ad 53)), (1, .int x)]) dX11_findTurns_8 (by decide) rfl ?_
  refine g_loc C (lv' := [(0, .ref (ad 53)), (1, .int x), (2, .float (FP.fconst0)), (3, .float (FP.fconst0)), (4, .int 1), (5, .int 0)]) [4, 5, 3, 2, 1, 0] rfl ?_
  refine loopF_ind (b_X11_findTurns_10 σ x) 8 (fun (j1 : Nat) (s1 : UInt32 × UInt32 × Int32 × Fl) => K σ (s1.2.2.2) 10 [(0, .ref (ad 53)), (1, .int x), (2, .float (s1.1)), (3, .float (s1.2.1)), (4, .int (s1.2.2.1)), (5, .int (nI j1))] []) (FP.fconst0, FP.fconst0, 1, φ) ?_ ?_
  · intro j1 s1 hj1 kk
    change K σ (s1.2.2.2) 10 [(0, .ref (ad 53)), (1, .int x), (2, .float (s1.1)), (3, .float (s1.2.1)), (4, .int (s1.2.2.1)), (5, .int (nI j1))] []
    refine g_iload C (i := 5) dX11_findTurns_10 5 rfl ?_
    refine g_bipush C (v := 8) dX11_findTurns_12 (by decide) ?_
    refine g_icmp_ge C (tgt := 170) dX11_findTurns_14 (by decide) (fun h1 => ?_) (fun h1 => ?_)
    · exact absurd h1 (nI_ge hj1 (by decide))
    · refine g_aload_n C (i := 0) dX11_findTurns_17 rfl 0 rfl ?_
      refine gg_53_20 C fl_X11_63 dX11_findTurns_18 ?_
      refine g_iload C (i := 5) dX11_findTurns_21 5 rfl ?_
      refine ld_71 C (vp_in_nI (Nat.lt_of_lt_of_le hj1 (by decide)) (by decide)) dX11_findTurns_23 ?_
      have J16 : ∀ (v13 : UInt32), ∀ (v14 : UInt32), ∀ (v15 : Int32), (if (σ 71 (nI j1).toNatClampNeg) = 0 then (s1.1) else (let v2 : UInt32 := FP.i2f (-(σ 69 (nI j1).toNatClampNeg)); let v3 : UInt32 := FP.i2f (-(σ 70 (nI j1).toNatClampNeg)); let v6 : UInt32 := (if x = 1 then (if (nI j1) ≤ 0 then v2 else (let v4 : UInt32 := FP.fdiv (FP.i2f (-((σ 69 (nI j1).toNatClampNeg) + (σ 69 ((nI j1) - 1).toNatClampNeg)))) (FP.fconst2); let v5 : UInt32 := FP.fdiv (FP.i2f (-((σ 70 (nI j1).toNatClampNeg) + (σ 70 ((nI j1) - 1).toNatClampNeg)))) (FP.fconst2); v4)) else v2); let v7 : UInt32 := (if x = 1 then (if (nI j1) ≤ 0 then v3 else (let v4 : UInt32 := FP.fdiv (FP.i2f (-((σ 69 (nI j1).toNatClampNeg) + (σ 69 ((nI j1) - 1).toNatClampNeg)))) (FP.fconst2); let v5 : UInt32 := FP.fdiv (FP.i2f (-((σ 70 (nI j1).toNatClampNeg) + (σ 70 ((nI j1) - 1).toNatClampNeg)))) (FP.fconst2); v5)) else v3); let v9 : UInt32 := (if (s1.2.2.1) = 0 then (FP.fadd (s1.1) (FP.fmul (FP.fsub v6 (s1.1)) 1048576000)) else v6); let v11 : UInt32 := (if (s1.2.2.1) = 0 then (FP.fadd (s1.2.1) (FP.fmul (FP.fsub v7 (s1.2.1)) 1048576000)) else v7); v9)) = v13 → (if (σ 71 (nI j1).toNatClampNeg) = 0 then (s1.2.1) else (let v2 : UInt32 := FP.i2f (-(σ 69 (nI j1).toNatClampNeg)); let v3 : UInt32 := FP.i2f (-(σ 70 (nI j1).toNatClampNeg)); let v6 : UInt32 := (if x = 1 then (if (nI j1) ≤ 0 then v2 else (let v4 : UInt32 := FP.fdiv (FP.i2f (-((σ 69 (nI j1).toNatClampNeg) + (σ 69 ((nI j1) - 1).toNatClampNeg)))) (FP.fconst2); let v5 : UInt32 := FP.fdiv (FP.i2f (-((σ 70 (nI j1).toNatClampNeg) + (σ 70 ((nI j1) - 1).toNatClampNeg)))) (FP.fconst2); v4)) else v2); let v7 : UInt32 := (if x = 1 then (if (nI j1) ≤ 0 then v3 else (let v4 : UInt32 := FP.fdiv (FP.i2f (-((σ 69 (nI j1).toNatClampNeg) + (σ 69 ((nI j1) - 1).toNatClampNeg)))) (FP.fconst2); let v5 : UInt32 := FP.fdiv (FP.i2f (-((σ 70 (nI j1).toNatClampNeg) + (σ 70 ((nI j1) - 1).toNatClampNeg)))) (FP.fconst2); v5)) else v3); let v9 : UInt32 := (if (s1.2.2.1) = 0 then (FP.fadd (s1.1) (FP.fmul (FP.fsub v6 (s1.1)) 1048576000)) else v6); let v11 : UInt32 := (if (s1.2.2.1) = 0 then (FP.fadd (s1.2.1) (FP.fmul (FP.fsub v7 (s1.2.1)) 1048576000)) else v7); v11)) = v14 → (if (σ 71 (nI j1).toNatClampNeg) = 0 then (s1.2.2.1) else (let v2 : UInt32 := FP.i2f (-(σ 69 (nI j1).toNatClampNeg)); let v3 : UInt32 := FP.i2f (-(σ 70 (nI j1).toNatClampNeg)); let v6 : UInt32 := (if x = 1 then (if (nI j1) ≤ 0 then v2 else (let v4 : UInt32 := FP.fdiv (FP.i2f (-((σ 69 (nI j1).toNatClampNeg) + (σ 69 ((nI j1) - 1).toNatClampNeg)))) (FP.fconst2); let v5 : UInt32 := FP.fdiv (FP.i2f (-((σ 70 (nI j1).toNatClampNeg) + (σ 70 ((nI j1) - 1).toNatClampNeg)))) (FP.fconst2); v4)) else v2); let v7 : UInt32 := (if x = 1 then (if (nI j1) ≤ 0 then v3 else (let v4 : UInt32 := FP.fdiv (FP.i2f (-((σ 69 (nI j1).toNatClampNeg) + (σ 69 ((nI j1) - 1).toNatClampNeg)))) (FP.fconst2); let v5 : UInt32 := FP.fdiv (FP.i2f (-((σ 70 (nI j1).toNatClampNeg) + (σ 70 ((nI j1) - 1).toNatClampNeg)))) (FP.fconst2); v5)) else v3); let v9 : UInt32 := (if (s1.2.2.1) = 0 then (FP.fadd (s1.1) (FP.fmul (FP.fsub v6 (s1.1)) 1048576000)) else v6); let v11 : UInt32 := (if (s1.2.2.1) = 0 then (FP.fadd (s1.2.1) (FP.fmul (FP.fsub v7 (s1.2.1)) 1048576000)) else v7); 0)) = v15 → K σ (s1.2.2.2) 148 [(0, .ref (ad 53)), (1, .int x), (2, .float v13), (3, .float v14), (4, .int v15), (5, .int (nI j1))] [] := by
        intro v13 v14 v15 ev13 ev14 ev15
        refine g_aload_n C (i := 0) dX11_findTurns_148 rfl 0 rfl ?_
        refine gg_53_24 C fl_X11_69 dX11_findTurns_149 ?_
        refine g_iload C (i := 5) dX11_findTurns_152 5 rfl ?_
        refine g_fload_n C (i := 2) dX11_findTurns_154 rfl 2 rfl ?_
        refine sd_73 C (vp_in_nI (Nat.lt_of_lt_of_le hj1 (by decide)) (by decide)) dX11_findTurns_155 ?_
        refine g_nmp C (fun φ17 eφ17 => ?_)
        refine g_aload_n C (i := 0) dX11_findTurns_156 rfl 0 rfl ?_
        refine gg_53_25 C fl_X11_73 dX11_findTurns_157 ?_
        refine g_iload C (i := 5) dX11_findTurns_160 5 rfl ?_
        refine g_fload_n C (i := 3) dX11_findTurns_162 rfl 3 rfl ?_
        refine sd_74 C (vp_in_nI (Nat.lt_of_lt_of_le hj1 (by decide)) (by decide)) dX11_findTurns_163 ?_
        refine g_nmp C (fun φ18 eφ18 => ?_)
        refine g_iinc C (i := 5) (v := nI (j1 + 1)) (lv' := [(5, .int (nI (j1 + 1))), (0, .ref (ad 53)), (1, .int x), (2, .float v13), (3, .float v14), (4, .int v15)]) dX11_findTurns_164 5 rfl (nI_1 _) (by decide) rfl ?_
        refine g_goto C (tgt := 10) dX11_findTurns_167 (by decide) ?_
        refine g_loc C [1, 2, 3, 4, 5, 0] rfl ?_
        refine kk (v13, v14, v15, φ18) ?_
        subst eφ18
        subst eφ17
        subst ev15
        subst ev14
        subst ev13
        exact b_X11_findTurns_10_eq _ _ _ _
      refine g_if_eq C (tgt := 148) dX11_findTurns_24 (by decide) (fun h2 => ?_) (fun h2 => ?_)
      · refine g_loc C [0, 1, 2, 3, 4, 5] rfl ?_
        exact J16 _ _ _ ((if_pos h2)) ((if_pos h2)) ((if_pos h2))
      · refine g_aload_n C (i := 0) dX11_findTurns_27 rfl 0 rfl ?_
        refine gg_53_18 C fl_X11_57 dX11_findTurns_28 ?_
        refine g_iload C (i := 5) dX11_findTurns_31 5 rfl ?_
        refine ld_69 C (vp_in_nI (Nat.lt_of_lt_of_le hj1 (by decide)) (by decide)) dX11_findTurns_33 ?_
        refine g_ineg C dX11_findTurns_34 ?_
        refine g_i2f C dX11_findTurns_35 ?_
        refine g_nmf C (fun v2 ev2 => ?_)
        refine g_fstore C (i := 6) (lv' := [(6, .float v2), (0, .ref (ad 53)), (1, .int x), (2, .float (s1.1)), (3, .float (s1.2.1)), (4, .int (s1.2.2.1)), (5, .int (nI j1))]) dX11_findTurns_36 (by decide) rfl ?_
        refine g_aload_n C (i := 0) dX11_findTurns_38 rfl 1 rfl ?_
        refine gg_53_19 C fl_X11_60 dX11_findTurns_39 ?_
        refine g_iload C (i := 5) dX11_findTurns_42 6 rfl ?_
        refine ld_70 C (vp_in_nI (Nat.lt_of_lt_of_le hj1 (by decide)) (by decide)) dX11_findTurns_44 ?_
        refine g_ineg C dX11_findTurns_45 ?_
        refine g_i2f C dX11_findTurns_46 ?_
        refine g_nmf C (fun v3 ev3 => ?_)
        refine g_fstore C (i := 7) (lv' := [(7, .float v3), (6, .float v2), (0, .ref (ad 53)), (1, .int x), (2, .float (s1.1)), (3, .float (s1.2.1)), (4, .int (s1.2.2.1)), (5, .int (nI j1))]) dX11_findTurns_47 (by decide) rfl ?_
        refine g_iload_n C (i := 1) dX11_findTurns_49 rfl 3 rfl ?_
        refine g_iconst C (v := 1) dX11_findTurns_50 (by decide) ?_
        have J8 : ∀ (v6 : UInt32), ∀ (v7 : UInt32), (if x = 1 then (if (nI j1) ≤ 0 then v2 else (let v4 : UInt32 := FP.fdiv (FP.i2f (-((σ 69 (nI j1).toNatClampNeg) + (σ 69 ((nI j1) - 1).toNatClampNeg)))) (FP.fconst2); let v5 : UInt32 := FP.fdiv (FP.i2f (-((σ 70 (nI j1).toNatClampNeg) + (σ 70 ((nI j1) - 1).toNatClampNeg)))) (FP.fconst2); v4)) else v2) = v6 → (if x = 1 then (if (nI j1) ≤ 0 then v3 else (let v4 : UInt32 := FP.fdiv (FP.i2f (-((σ 69 (nI j1).toNatClampNeg) + (σ 69 ((nI j1) - 1).toNatClampNeg)))) (FP.fconst2); let v5 : UInt32 := FP.fdiv (FP.i2f (-((σ 70 (nI j1).toNatClampNeg) + (σ 70 ((nI j1) - 1).toNatClampNeg)))) (FP.fconst2); v5)) else v3) = v7 → K σ (s1.2.2.2) 105 [(0, .ref (ad 53)), (1, .int x), (2, .float (s1.1)), (3, .float (s1.2.1)), (4, .int (s1.2.2.1)), (5, .int (nI j1)), (6, .float v6), (7, .float v7)] [] := by
          intro v6 v7 ev6 ev7
          refine g_iload C (i := 4) dX11_findTurns_105 4 rfl ?_
          have J10 : ∀ (v9 : UInt32), (if (s1.2.2.1) = 0 then (FP.fadd (s1.1) (FP.fmul (FP.fsub v6 (s1.1)) 1048576000)) else v6) = v9 → K σ (s1.2.2.2) 124 [(0, .ref (ad 53)), (1, .int x), (3, .float (s1.2.1)), (4, .int (s1.2.2.1)), (5, .int (nI j1)), (7, .float v7)] [.float v9] := by
            intro v9 ev9
            refine g_fstore_n C (i := 2) (lv' := [(2, .float v9), (0, .ref (ad 53)), (1, .int x), (3, .float (s1.2.1)), (4, .int (s1.2.2.1)), (5, .int (nI j1)), (7, .float v7)]) dX11_findTurns_124 rfl (by decide) rfl ?_
            refine g_iload C (i := 4) dX11_findTurns_125 4 rfl ?_
            have J12 : ∀ (v11 : UInt32), (if (s1.2.2.1) = 0 then (FP.fadd (s1.2.1) (FP.fmul (FP.fsub v7 (s1.2.1)) 1048576000)) else v7) = v11 → K σ (s1.2.2.2) 144 [(0, .ref (ad 53)), (1, .int x), (2, .float v9), (5, .int (nI j1))] [.float v11] := by
              intro v11 ev11
              refine g_fstore_n C (i := 3) (lv' := [(3, .float v11), (0, .ref (ad 53)), (1, .int x), (2, .float v9), (5, .int (nI j1))]) dX11_findTurns_144 rfl (by decide) rfl ?_
              refine g_iconst C (v := 0) dX11_findTurns_145 (by decide) ?_
              refine g_istore C (i := 4) (lv' := [(4, .int 0), (3, .float v11), (0, .ref (ad 53)), (1, .int x), (2, .float v9), (5, .int (nI j1))]) dX11_findTurns_146 (by decide) rfl ?_
              refine g_loc C [2, 3, 4, 1, 0, 5] rfl ?_
              subst ev11
              subst ev9
              subst ev7
              subst ev6
              subst ev3
              subst ev2
              exact J16 _ _ _ ((if_neg h2)) ((if_neg h2)) ((if_neg h2))
            refine g_if_eq C (tgt := 135) dX11_findTurns_127 (by decide) (fun h6 => ?_) (fun h6 => ?_)
            · refine g_fload_n C (i := 3) dX11_findTurns_135 rfl 3 rfl ?_
              refine g_fload C (i := 7) dX11_findTurns_136 6 rfl ?_
              refine g_fload_n C (i := 3) dX11_findTurns_138 rfl 3 rfl ?_
              refine g_fsub C dX11_findTurns_139 ?_
              refine g_ldcf C kf_X11_169 dX11_findTurns_140 ?_
              refine g_fmul C dX11_findTurns_142 ?_
              refine g_fadd C dX11_findTurns_143 ?_
              refine g_loc C [1, 2, 0, 5] rfl ?_
              exact J12 _ ((if_pos h6))
            · refine g_fload C (i := 7) dX11_findTurns_130 6 rfl ?_
              refine g_goto C (tgt := 144) dX11_findTurns_132 (by decide) ?_
              refine g_loc C [1, 2, 0, 5] rfl ?_
              exact J12 _ ((if_neg h6))
          refine g_if_eq C (tgt := 115) dX11_findTurns_107 (by decide) (fun h5 => ?_) (fun h5 => ?_)
          · refine g_fload_n C (i := 2) dX11_findTurns_115 rfl 2 rfl ?_
            refine g_fload C (i := 6) dX11_findTurns_116 6 rfl ?_
            refine g_fload_n C (i := 2) dX11_findTurns_118 rfl 2 rfl ?_
            refine g_fsub C dX11_findTurns_119 ?_
            refine g_ldcf C kf_X11_169 dX11_findTurns_120 ?_
            refine g_fmul C dX11_findTurns_122 ?_
            refine g_fadd C dX11_findTurns_123 ?_
            refine g_loc C [0, 1, 3, 4, 5, 7] rfl ?_
            exact J10 _ ((if_pos h5))
          · refine g_fload C (i := 6) dX11_findTurns_110 6 rfl ?_
            refine g_goto C (tgt := 124) dX11_findTurns_112 (by decide) ?_
            refine g_loc C [0, 1, 3, 4, 5, 7] rfl ?_
            exact J10 _ ((if_neg h5))
        refine g_icmp_ne C (tgt := 105) dX11_findTurns_51 (by decide) (fun h3 => ?_) (fun h3 => ?_)
        · refine g_loc C [2, 3, 4, 5, 6, 7, 1, 0] rfl ?_
          exact J8 _ _ ((if_neg h3)) ((if_neg h3))
        · refine g_iload C (i := 5) dX11_findTurns_54 7 rfl ?_
          refine g_if_le C (tgt := 105) dX11_findTurns_56 (by decide) (fun h4 => ?_) (fun h4 => ?_)
          · refine g_loc C [2, 3, 4, 5, 6, 7, 1, 0] rfl ?_
            exact J8 _ _ (((if_pos h3).trans (if_pos h4))) (((if_pos h3).trans (if_pos h4)))
          · refine g_aload_n C (i := 0) dX11_findTurns_59 rfl 2 rfl ?_
            refine gg_53_18 C fl_X11_57 dX11_findTurns_60 ?_
            refine g_iload C (i := 5) dX11_findTurns_63 7 rfl ?_
            refine ld_69 C (vp_in_nI (Nat.lt_of_lt_of_le hj1 (by decide)) (by decide)) dX11_findTurns_65 ?_
            refine g_aload_n C (i := 0) dX11_findTurns_66 rfl 2 rfl ?_
            refine gg_53_18 C fl_X11_57 dX11_findTurns_67 ?_
            refine g_iload C (i := 5) dX11_findTurns_70 7 rfl ?_
            refine g_iconst C (v := 1) dX11_findTurns_72 (by decide) ?_
            refine g_isub C dX11_findTurns_73 ?_
            refine ld_69 C (m1_in3 (by decide) (vp_in_nI (Nat.lt_of_lt_of_le hj1 (by decide)) (by decide)) h4) dX11_findTurns_74 ?_
            refine g_iadd C dX11_findTurns_75 ?_
            refine g_ineg C dX11_findTurns_76 ?_
            refine g_i2f C dX11_findTurns_77 ?_
            refine g_fconst2 C dX11_findTurns_78 ?_
            refine g_fdiv C dX11_findTurns_79 ?_
            refine g_nmf C (fun v4 ev4 => ?_)
            refine g_fstore C (i := 6) (lv' := [(6, .float v4), (7, .float v3), (0, .ref (ad 53)), (1, .int x), (2, .float (s1.1)), (3, .float (s1.2.1)), (4, .int (s1.2.2.1)), (5, .int (nI j1))]) dX11_findTurns_80 (by decide) rfl ?_
            refine g_aload_n C (i := 0) dX11_findTurns_82 rfl 2 rfl ?_
            refine gg_53_19 C fl_X11_60 dX11_findTurns_83 ?_
            refine g_iload C (i := 5) dX11_findTurns_86 7 rfl ?_
            refine ld_70 C (vp_in_nI (Nat.lt_of_lt_of_le hj1 (by decide)) (by decide)) dX11_findTurns_88 ?_
            refine g_aload_n C (i := 0) dX11_findTurns_89 rfl 2 rfl ?_
            refine gg_53_19 C fl_X11_60 dX11_findTurns_90 ?_
            refine g_iload C (i := 5) dX11_findTurns_93 7 rfl ?_
            refine g_iconst C (v := 1) dX11_findTurns_95 (by decide) ?_
            refine g_isub C dX11_findTurns_96 ?_
            refine ld_70 C (m1_in3 (by decide) (vp_in_nI (Nat.lt_of_lt_of_le hj1 (by decide)) (by decide)) h4) dX11_findTurns_97 ?_
            refine g_iadd C dX11_findTurns_98 ?_
            refine g_ineg C dX11_findTurns_99 ?_
            refine g_i2f C dX11_findTurns_100 ?_
            refine g_fconst2 C dX11_findTurns_101 ?_
            refine g_fdiv C dX11_findTurns_102 ?_
            refine g_nmf C (fun v5 ev5 => ?_)
            refine g_fstore C (i := 7) (lv' := [(7, .float v5), (6, .float v4), (0, .ref (ad 53)), (1, .int x), (2, .float (s1.1)), (3, .float (s1.2.1)), (4, .int (s1.2.2.1)), (5, .int (nI j1))]) dX11_findTurns_103 (by decide) rfl ?_
            refine g_loc C [2, 3, 4, 5, 6, 7, 1, 0] rfl ?_
            subst ev5
            subst ev4
            exact J8 _ _ (((if_pos h3).trans (if_neg h4))) (((if_pos h3).trans (if_neg h4)))
  · generalize et1 : loopF (b_X11_findTurns_10 σ x) 8 (FP.fconst0, FP.fconst0, 1, φ) = t1
    change K σ (t1.2.2.2) 10 [(0, .ref (ad 53)), (1, .int x), (2, .float (t1.1)), (3, .float (t1.2.1)), (4, .int (t1.2.2.1)), (5, .int (nI 8))] []
    refine g_iload C (i := 5) dX11_findTurns_10 5 rfl ?_
    refine g_bipush C (v := 8) dX11_findTurns_12 (by decide) ?_
    refine g_icmp_ge C (tgt := 170) dX11_findTurns_14 (by decide) (fun h7 => ?_) (fun h7 => ?_)
    · subst et1
      have e0 := (show f_X11_findTurns σ φ x = _ from rfl)
      exact hv _ _ _ _ rfl dX11_findTurns_170 ⟨rfl, rfl, (congrArg (fun z => z) e0).symm⟩
    · exact absurd (nI_le (Nat.le_refl _) (by decide)) h7
