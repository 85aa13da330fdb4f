/-! the face of the class -/
def f_X10_setSegment (σ : Sg) (x : Int32) (y : Int32) (a : Int32) (b : Int32) (c : Int32) : Int32 × Sg := if (f_X10_isPlace x y) = 0 then ((-100001), σ) else (if (f_X10_isPaint a b c) = 0 then ((-100002), σ) else (let v1 : Int32 := (f_X7_paint σ (f_X10_placeOf x y) a b c).1; let σ2 : Sg := (f_X7_paint σ (f_X10_placeOf x y) a b c).2; (σ 2 (f_X10_placeOf x y).toNatClampNeg, σ2)))
theorem f_X10_setSegment_eq (σ : Sg) (x : Int32) (y : Int32) (a : Int32) (b : Int32) (c : Int32) : f_X10_setSegment σ x y a b c = (if (f_X10_isPlace x y) = 0 then ((-100001), σ) else (if (f_X10_isPaint a b c) = 0 then ((-100002), σ) else (let v1 : Int32 := (f_X7_paint σ (f_X10_placeOf x y) a b c).1; let σ2 : Sg := (f_X7_paint σ (f_X10_placeOf x y) a b c).2; (σ 2 (f_X10_placeOf x y).toNatClampNeg, σ2)))) := rfl
set_option maxRecDepth 100000 in
set_option maxHeartbeats 4000000 in
theorem c_X10_setSegment (l : Launch) (D : va_G) (ad : Nat → Nat) (dA : Nat → ClassId) (z0 : Nat) (tt : Nat → Nat) (σ : Sg) (φ : Fl) (x : Int32) (y : Int32) (a : Int32) (b : Int32) (c : Int32)  : MC l D ad dA z0 tt yX10_setSegment (Cond.code yX10_setSegment cX10_setSegment 8 (some .int) :: lw_all) { frames := 3, cells := 0, slots := 0, locals := 63 } [.ref (ad 0), .int x, .int y, .int a, .int b, .int c] σ φ (Fn (some (.int (f_X10_setSegment σ x y a b c).1)) (f_X10_setSegment σ x y a b c).2 φ) := by
  refine mk_MC (by decide) (Nat.le_of_ble_eq_true rfl) ?_
  intro K C hi hf hv
  change K σ φ 0 [(0, .ref (ad 0)), (1, .int x), (2, .int y), (3, .int a), (4, .int b), (5, .int c)] []
  refine g_iload_n C (i := 1) dX10_setSegment_0 rfl 1 rfl ?_
  refine g_iload_n C (i := 2) dX10_setSegment_1 rfl 2 rfl ?_
  refine g_callS C (st := []) (c_X10_isPlace l D ad dA z0 tt σ φ x y) rfl ml_X10_79 sm_X10_isPlace in_X10 co_X10_isPlace dyS_X10_isPlace rfl rfl ⟨(Nat.le_of_ble_eq_true rfl), (Nat.le_of_ble_eq_true rfl)⟩ dX10_setSegment_2 rfl (Nat.le_of_ble_eq_true rfl) (g_fni ?_)
  refine g_if_ne C (tgt := 11) dX10_setSegment_5 (by decide) (fun h1 => ?_) (fun h1 => ?_)
  · refine g_iload_n C (i := 3) dX10_setSegment_11 rfl 3 rfl ?_
    refine g_iload C (i := 4) dX10_setSegment_12 4 rfl ?_
    refine g_iload C (i := 5) dX10_setSegment_14 5 rfl ?_
    refine g_callS C (st := []) (c_X10_isPaint l D ad dA z0 tt σ φ a b c) rfl ml_X10_84 sm_X10_isPaint in_X10 co_X10_isPaint dyS_X10_isPaint rfl rfl ⟨(Nat.le_of_ble_eq_true rfl), (Nat.le_of_ble_eq_true rfl)⟩ dX10_setSegment_16 rfl (Nat.le_of_ble_eq_true rfl) (g_fni ?_)
    refine g_if_ne C (tgt := 25) dX10_setSegment_19 (by decide) (fun h2 => ?_) (fun h2 => ?_)
    · refine g_iload_n C (i := 1) dX10_setSegment_25 rfl 1 rfl ?_
      refine g_iload_n C (i := 2) dX10_setSegment_26 rfl 2 rfl ?_
      refine g_callS C (st := []) (c_X10_placeOf l D ad dA z0 tt σ φ x y) rfl ml_X10_89 sm_X10_placeOf in_X10 co_X10_placeOf dyS_X10_placeOf rfl rfl ⟨(Nat.le_of_ble_eq_true rfl), (Nat.le_of_ble_eq_true rfl)⟩ dX10_setSegment_27 rfl (Nat.le_of_ble_eq_true rfl) (g_fni ?_)
      refine g_istore C (i := 6) (lv' := [(6, .int (f_X10_placeOf x y)), (0, .ref (ad 0)), (1, .int x), (2, .int y), (3, .int a), (4, .int b), (5, .int c)]) dX10_setSegment_30 (by decide) rfl ?_
      refine g_aload_n C (i := 0) dX10_setSegment_32 rfl 1 rfl ?_
      refine gg_0_0 C fl_X10_10 dX10_setSegment_33 ?_
      refine ggN_1_0 C fl_X10_93 dX10_setSegment_36 ?_
      refine g_iload C (i := 6) dX10_setSegment_39 0 rfl ?_
      refine ld_2 C (ip_pl h1) dX10_setSegment_41 ?_
      refine g_istore C (i := 7) (lv' := [(7, .int (σ 2 (f_X10_placeOf x y).toNatClampNeg)), (6, .int (f_X10_placeOf x y)), (0, .ref (ad 0)), (1, .int x), (2, .int y), (3, .int a), (4, .int b), (5, .int c)]) dX10_setSegment_42 (by decide) rfl ?_
      refine g_aload_n C (i := 0) dX10_setSegment_44 rfl 2 rfl ?_
      refine gg_0_0 C fl_X10_10 dX10_setSegment_45 ?_
      refine g_iload C (i := 6) dX10_setSegment_48 1 rfl ?_
      refine g_iload_n C (i := 3) dX10_setSegment_50 rfl 5 rfl ?_
      refine g_iload C (i := 4) dX10_setSegment_51 6 rfl ?_
      refine g_iload C (i := 5) dX10_setSegment_53 7 rfl ?_
      refine g_callV C (st := []) (c_X7_paint l D ad dA z0 tt σ φ (f_X10_placeOf x y) a b c (ip_pl h1)) rfl ml_X10_97 im_X7_paint se_X7_paint in_X7 co_X7_paint dyV_X7_paint rfl rfl ⟨(Nat.le_of_ble_eq_true rfl), (Nat.le_of_ble_eq_true rfl)⟩ 1 7 (fun f => at_1 ad dA σ f) rfl dX10_setSegment_55 rfl (Nat.le_of_ble_eq_true rfl) (g_fni ?_)
      refine g_nmi C (fun v1 ev1 => ?_)
      refine g_nms C (fun σ2 eσ2 => ?_)
      refine g_pop C dX10_setSegment_58 rfl ?_
      refine g_iload C (i := 7) dX10_setSegment_59 0 rfl ?_
      have e0 : f_X10_setSegment σ x y a b c = (σ 2 (f_X10_placeOf x y).toNatClampNeg, σ2) := by
        subst eσ2
        subst ev1
        exact ((f_X10_setSegment_eq _ _ _ _ _ _).trans ((if_neg h1).trans (if_neg h2)))
      exact hi _ _ _ _ _ _ rfl dX10_setSegment_61 rfl ⟨(congrArg (fun z => some (Value.int z.1)) e0).symm, (congrArg (fun z => z.2) e0).symm, rfl⟩
    · refine g_ldc C kc_X10_88 dX10_setSegment_22 ?_
      have e0 : f_X10_setSegment σ x y a b c = ((-100002), σ) := by
        exact ((f_X10_setSegment_eq _ _ _ _ _ _).trans ((if_neg h1).trans (if_pos h2)))
      exact hi _ _ _ _ _ _ rfl dX10_setSegment_24 rfl ⟨(congrArg (fun z => some (Value.int z.1)) e0).symm, (congrArg (fun z => z.2) e0).symm, rfl⟩
  · refine g_ldc C kc_X10_83 dX10_setSegment_8 ?_
    have e0 : f_X10_setSegment σ x y a b c = ((-100001), σ) := by
      exact ((f_X10_setSegment_eq _ _ _ _ _ _).trans (if_pos h1))
    exact hi _ _ _ _ _ _ rfl dX10_setSegment_10 rfl ⟨(congrArg (fun z => some (Value.int z.1)) e0).symm, (congrArg (fun z => z.2) e0).symm, rfl⟩
def b_X10_fill_29 (x : Int32) (a : Int32) (b : Int32) (c : Int32) (j1 : Nat) (s1 : Int32 × Sg) : Int32 × Sg := let v2 : Int32 := (f_X7_paint (s1.2) (f_X10_placeOf x (nI j1)) a b c).1; let σ3 : Sg := (f_X7_paint (s1.2) (f_X10_placeOf x (nI j1)) a b c).2; let v4 : Int32 := (if v2 = 0 then (s1.1) else ((s1.1) + 1)); (v4, σ3)
theorem b_X10_fill_29_eq (x : Int32) (a : Int32) (b : Int32) (c : Int32) (j1 : Nat) (s1 : Int32 × Sg) : b_X10_fill_29 x a b c j1 s1 = (let v2 : Int32 := (f_X7_paint (s1.2) (f_X10_placeOf x (nI j1)) a b c).1; let σ3 : Sg := (f_X7_paint (s1.2) (f_X10_placeOf x (nI j1)) a b c).2; let v4 : Int32 := (if v2 = 0 then (s1.1) else ((s1.1) + 1)); (v4, σ3)) := rfl
def f_X10_fill (σ : Sg) (x : Int32) (a : Int32) (b : Int32) (c : Int32) : Int32 × Sg := if (f_X10_isLine x) = 0 then ((-100001), σ) else (if (f_X10_isPaint a b c) = 0 then ((-100002), σ) else (let t1 : Int32 × Sg := loopF (b_X10_fill_29 x a b c) 10 (0, σ); (t1.1, t1.2)))
theorem f_X10_fill_eq (σ : Sg) (x : Int32) (a : Int32) (b : Int32) (c : Int32) : f_X10_fill σ x a b c = (if (f_X10_isLine x) = 0 then ((-100001), σ) else (if (f_X10_isPaint a b c) = 0 then ((-100002), σ) else (let t1 : Int32 × Sg := loopF (b_X10_fill_29 x a b c) 10 (0, σ); (t1.1, t1.2)))) := rfl
set_option maxRecDepth 100000 in
set_option maxHeartbeats 4000000 in
theorem c_X10_fill (l : Launch) (D : va_G) (ad : Nat → Nat) (dA : Nat → ClassId) (z0 : Nat) (tt : Nat → Nat) (σ : Sg) (φ : Fl) (x : Int32) (a : Int32) (b : Int32) (c : Int32)  : MC l D ad dA z0 tt yX10_fill (Cond.code yX10_fill cX10_fill 7 (some .int) :: lw_all) { frames := 2, cells := 0, slots := 0, locals := 44 } [.ref (ad 0), .int x, .int a, .int b, .int c] σ φ (Fn (some (.int (f_X10_fill σ x a b c).1)) (f_X10_fill σ x a b c).2 φ) := by
  refine mk_MC (by decide) (Nat.le_of_ble_eq_true rfl) ?_
  intro K C hi hf hv
  change K σ φ 0 [(0, .ref (ad 0)), (1, .int x), (2, .int a), (3, .int b), (4, .int c)] []
  refine g_iload_n C (i := 1) dX10_fill_0 rfl 1 rfl ?_
  refine g_callS C (st := []) (c_X10_isLine l D ad dA z0 tt σ φ x) rfl ml_X10_101 sm_X10_isLine in_X10 co_X10_isLine dyS_X10_isLine rfl rfl ⟨(Nat.le_of_ble_eq_true rfl), (Nat.le_of_ble_eq_true rfl)⟩ dX10_fill_1 rfl (Nat.le_of_ble_eq_true rfl) (g_fni ?_)
  refine g_if_ne C (tgt := 10) dX10_fill_4 (by decide) (fun h1 => ?_) (fun h1 => ?_)
  · refine g_iload_n C (i := 2) dX10_fill_10 rfl 2 rfl ?_
    refine g_iload_n C (i := 3) dX10_fill_11 rfl 3 rfl ?_
    refine g_iload C (i := 4) dX10_fill_12 4 rfl ?_
    refine g_callS C (st := []) (c_X10_isPaint l D ad dA z0 tt σ φ a b c) rfl ml_X10_84 sm_X10_isPaint in_X10 co_X10_isPaint dyS_X10_isPaint rfl rfl ⟨(Nat.le_of_ble_eq_true rfl), (Nat.le_of_ble_eq_true rfl)⟩ dX10_fill_14 rfl (Nat.le_of_ble_eq_true rfl) (g_fni ?_)
    refine g_if_ne C (tgt := 23) dX10_fill_17 (by decide) (fun h2 => ?_) (fun h2 => ?_)
    · refine g_iconst C (v := 0) dX10_fill_23 (by decide) ?_
      refine g_istore C (i := 5) (lv' := [(5, .int 0), (0, .ref (ad 0)), (1, .int x), (2, .int a), (3, .int b), (4, .int c)]) dX10_fill_24 (by decide) rfl ?_
      refine g_iconst C (v := 0) dX10_fill_26 (by decide) ?_
      refine g_istore C (i := 6) (lv' := [(6, .int 0), (5, .int 0), (0, .ref (ad 0)), (1, .int x), (2, .int a), (3, .int b), (4, .int c)]) dX10_fill_27 (by decide) rfl ?_
      refine g_loc C (lv' := [(0, .ref (ad 0)), (1, .int x), (2, .int a), (3, .int b), (4, .int c), (5, .int 0), (6, .int 0)]) [2, 3, 4, 5, 6, 1, 0] rfl ?_
      refine loopF_ind (b_X10_fill_29 x a b c) 10 (fun (j1 : Nat) (s1 : Int32 × Sg) => K (s1.2) φ 29 [(0, .ref (ad 0)), (1, .int x), (2, .int a), (3, .int b), (4, .int c), (5, .int (s1.1)), (6, .int (nI j1))] []) (0, σ) ?_ ?_
      · intro j1 s1 hj1 kk
        change K (s1.2) φ 29 [(0, .ref (ad 0)), (1, .int x), (2, .int a), (3, .int b), (4, .int c), (5, .int (s1.1)), (6, .int (nI j1))] []
        refine g_iload C (i := 6) dX10_fill_29 6 rfl ?_
        refine g_bipush C (v := 10) dX10_fill_31 (by decide) ?_
        refine g_icmp_ge C (tgt := 65) dX10_fill_33 (by decide) (fun h3 => ?_) (fun h3 => ?_)
        · exact absurd h3 (nI_ge hj1 (by decide))
        · refine g_aload_n C (i := 0) dX10_fill_36 rfl 0 rfl ?_
          refine gg_0_0 C fl_X10_10 dX10_fill_37 ?_
          refine g_iload_n C (i := 1) dX10_fill_40 rfl 1 rfl ?_
          refine g_iload C (i := 6) dX10_fill_41 6 rfl ?_
          refine g_callS C (st := [.ref (ad 1)]) (c_X10_placeOf l D ad dA z0 tt (s1.2) φ x (nI j1)) rfl ml_X10_89 sm_X10_placeOf in_X10 co_X10_placeOf dyS_X10_placeOf rfl rfl ⟨(Nat.le_of_ble_eq_true rfl), (Nat.le_of_ble_eq_true rfl)⟩ dX10_fill_43 rfl (Nat.le_of_ble_eq_true rfl) (g_fni ?_)
          refine g_iload_n C (i := 2) dX10_fill_46 rfl 2 rfl ?_
          refine g_iload_n C (i := 3) dX10_fill_47 rfl 3 rfl ?_
          refine g_iload C (i := 4) dX10_fill_48 4 rfl ?_
          refine g_callV C (st := []) (c_X7_paint l D ad dA z0 tt (s1.2) φ (f_X10_placeOf x (nI j1)) a b c (pl_in (il_in h1) (vp_in_nI (Nat.lt_of_lt_of_le hj1 (by decide)) (by decide)))) rfl ml_X10_97 im_X7_paint se_X7_paint in_X7 co_X7_paint dyV_X7_paint rfl rfl ⟨(Nat.le_of_ble_eq_true rfl), (Nat.le_of_ble_eq_true rfl)⟩ 1 7 (fun f => at_1 ad dA (s1.2) f) rfl dX10_fill_50 rfl (Nat.le_of_ble_eq_true rfl) (g_fni ?_)
          refine g_nmi C (fun v2 ev2 => ?_)
          refine g_nms C (fun σ3 eσ3 => ?_)
          have J5 : ∀ (v4 : Int32), (if v2 = 0 then (s1.1) else ((s1.1) + 1)) = v4 → K σ3 φ 59 [(0, .ref (ad 0)), (1, .int x), (2, .int a), (3, .int b), (4, .int c), (5, .int v4), (6, .int (nI j1))] [] := by
            intro v4 ev4
            refine g_iinc C (i := 6) (v := nI (j1 + 1)) (lv' := [(6, .int (nI (j1 + 1))), (0, .ref (ad 0)), (1, .int x), (2, .int a), (3, .int b), (4, .int c), (5, .int v4)]) dX10_fill_59 6 rfl (nI_1 _) (by decide) rfl ?_
            refine g_goto C (tgt := 29) dX10_fill_62 (by decide) ?_
            refine g_loc C [1, 2, 3, 4, 5, 6, 0] rfl ?_
            refine kk (v4, σ3) ?_
            subst ev4
            subst eσ3
            subst ev2
            exact b_X10_fill_29_eq _ _ _ _ _ _
          refine g_if_eq C (tgt := 59) dX10_fill_53 (by decide) (fun h4 => ?_) (fun h4 => ?_)
          · refine g_loc C [0, 1, 2, 3, 4, 5, 6] rfl ?_
            exact J5 _ ((if_pos h4))
          · refine g_iinc C (i := 5) (v := (s1.1) + 1) (lv' := [(5, .int ((s1.1) + 1)), (0, .ref (ad 0)), (1, .int x), (2, .int a), (3, .int b), (4, .int c), (6, .int (nI j1))]) dX10_fill_56 5 rfl rfl (by decide) rfl ?_
            refine g_loc C [1, 2, 3, 4, 5, 0, 6] rfl ?_
            exact J5 _ ((if_neg h4))
      · generalize et1 : loopF (b_X10_fill_29 x a b c) 10 (0, σ) = t1
        change K (t1.2) φ 29 [(0, .ref (ad 0)), (1, .int x), (2, .int a), (3, .int b), (4, .int c), (5, .int (t1.1)), (6, .int (nI 10))] []
        refine g_iload C (i := 6) dX10_fill_29 6 rfl ?_
        refine g_bipush C (v := 10) dX10_fill_31 (by decide) ?_
        refine g_icmp_ge C (tgt := 65) dX10_fill_33 (by decide) (fun h5 => ?_) (fun h5 => ?_)
        · refine g_iload C (i := 5) dX10_fill_65 5 rfl ?_
          have e0 : f_X10_fill σ x a b c = (t1.1, t1.2) := by
            subst et1
            exact ((f_X10_fill_eq _ _ _ _ _).trans ((if_neg h1).trans (if_neg h2)))
          exact hi _ _ _ _ _ _ rfl dX10_fill_67 rfl ⟨(congrArg (fun z => some (Value.int z.1)) e0).symm, (congrArg (fun z => z.2) e0).symm, rfl⟩
        · exact absurd (nI_le (Nat.le_refl _) (by decide)) h5
    · refine g_ldc C kc_X10_88 dX10_fill_20 ?_
      have e0 : f_X10_fill σ x a b c = ((-100002), σ) := by
        exact ((f_X10_fill_eq _ _ _ _ _).trans ((if_neg h1).trans (if_pos h2)))
      exact hi _ _ _ _ _ _ rfl dX10_fill_22 rfl ⟨(congrArg (fun z => some (Value.int z.1)) e0).symm, (congrArg (fun z => z.2) e0).symm, rfl⟩
  · refine g_ldc C kc_X10_83 dX10_fill_7 ?_
    have e0 : f_X10_fill σ x a b c = ((-100001), σ) := by
      exact ((f_X10_fill_eq _ _ _ _ _).trans (if_pos h1))
    exact hi _ _ _ _ _ _ rfl dX10_fill_9 rfl ⟨(congrArg (fun z => some (Value.int z.1)) e0).symm, (congrArg (fun z => z.2) e0).symm, rfl⟩
def f_X10_setLine (σ : Sg) (x : Int32) (a : Int32) (b : Int32) (c : Int32) (d : Int32) : Int32 × Sg := if (f_X10_isLine x) = 0 then ((-100001), σ) else (if (f_X10_isWithin a (-4) 4) = 0 then ((-100002), σ) else (if (f_X10_isWithin b 0 40) = 0 then ((-100002), σ) else (if (f_X10_isWithin c 0 3) = 0 then ((-100002), σ) else (if (f_X10_isWithin d 0 9) = 0 then ((-100002), σ) else (let σ1 : Sg := sw σ 5 x.toNatClampNeg a; let σ2 : Sg := sw σ1 6 x.toNatClampNeg b; let σ3 : Sg := sw σ2 7 x.toNatClampNeg c; let σ4 : Sg := sw σ3 8 x.toNatClampNeg d; let σ5 : Sg := sw σ4 9 x.toNatClampNeg (vp_nar .boolean 0); (σ 5 x.toNatClampNeg, σ5))))))
theorem f_X10_setLine_eq (σ : Sg) (x : Int32) (a : Int32) (b : Int32) (c : Int32) (d : Int32) : f_X10_setLine σ x a b c d = (if (f_X10_isLine x) = 0 then ((-100001), σ) else (if (f_X10_isWithin a (-4) 4) = 0 then ((-100002), σ) else (if (f_X10_isWithin b 0 40) = 0 then ((-100002), σ) else (if (f_X10_isWithin c 0 3) = 0 then ((-100002), σ) else (if (f_X10_isWithin d 0 9) = 0 then ((-100002), σ) else (let σ1 : Sg := sw σ 5 x.toNatClampNeg a; let σ2 : Sg := sw σ1 6 x.toNatClampNeg b; let σ3 : Sg := sw σ2 7 x.toNatClampNeg c; let σ4 : Sg := sw σ3 8 x.toNatClampNeg d; let σ5 : Sg := sw σ4 9 x.toNatClampNeg (vp_nar .boolean 0); (σ 5 x.toNatClampNeg, σ5))))))) := rfl
set_option maxRecDepth 100000 in
set_option maxHeartbeats 4000000 in
theorem c_X10_setLine (l : Launch) (D : va_G) (ad : Nat → Nat) (dA : Nat → ClassId) (z0 : Nat) (tt : Nat → Nat) (σ : Sg) (φ : Fl) (x : Int32) (a : Int32) (b : Int32) (c : Int32) (d : Int32)  : MC l D ad dA z0 tt yX10_setLine (Cond.code yX10_setLine cX10_setLine 7 (some .int) :: lw_all) { frames := 2, cells := 0, slots := 0, locals := 42 } [.ref (ad 0), .int x, .int a, .int b, .int c, .int d] σ φ (Fn (some (.int (f_X10_setLine σ x a b c d).1)) (f_X10_setLine σ x a b c d).2 φ) := by
  refine mk_MC (by decide) (Nat.le_of_ble_eq_true rfl) ?_
  intro K C hi hf hv
  change K σ φ 0 [(0, .ref (ad 0)), (1, .int x), (2, .int a), (3, .int b), (4, .int c), (5, .int d)] []
  refine g_iload_n C (i := 1) dX10_setLine_0 rfl 1 rfl ?_
  refine g_callS C (st := []) (c_X10_isLine l D ad dA z0 tt σ φ x) rfl ml_X10_101 sm_X10_isLine in_X10 co_X10_isLine dyS_X10_isLine rfl rfl ⟨(Nat.le_of_ble_eq_true rfl), (Nat.le_of_ble_eq_true rfl)⟩ dX10_setLine_1 rfl (Nat.le_of_ble_eq_true rfl) (g_fni ?_)
  refine g_if_ne C (tgt := 10) dX10_setLine_4 (by decide) (fun h1 => ?_) (fun h1 => ?_)
  · refine g_iload_n C (i := 2) dX10_setLine_10 rfl 2 rfl ?_
    refine g_bipush C (v := (-4)) dX10_setLine_11 (by decide) ?_
    refine g_iconst C (v := 4) dX10_setLine_13 (by decide) ?_
    refine g_callS C (st := []) (c_X10_isWithin l D ad dA z0 tt σ φ a (-4) 4) rfl ml_X10_105 sm_X10_isWithin in_X10 co_X10_isWithin dyS_X10_isWithin rfl rfl ⟨(Nat.le_of_ble_eq_true rfl), (Nat.le_of_ble_eq_true rfl)⟩ dX10_setLine_14 rfl (Nat.le_of_ble_eq_true rfl) (g_fni ?_)
    refine g_if_eq C (tgt := 51) dX10_setLine_17 (by decide) (fun h2 => ?_) (fun h2 => ?_)
    · refine g_ldc C kc_X10_88 dX10_setLine_51 ?_
      have e0 : f_X10_setLine σ x a b c d = ((-100002), σ) := by
        exact ((f_X10_setLine_eq _ _ _ _ _ _).trans ((if_neg h1).trans (if_pos h2)))
      exact hi _ _ _ _ _ _ rfl dX10_setLine_53 rfl ⟨(congrArg (fun z => some (Value.int z.1)) e0).symm, (congrArg (fun z => z.2) e0).symm, rfl⟩
    · refine g_iload_n C (i := 3) dX10_setLine_20 rfl 3 rfl ?_
      refine g_iconst C (v := 0) dX10_setLine_21 (by decide) ?_
      refine g_bipush C (v := 40) dX10_setLine_22 (by decide) ?_
      refine g_callS C (st := []) (c_X10_isWithin l D ad dA z0 tt σ φ b 0 40) rfl ml_X10_105 sm_X10_isWithin in_X10 co_X10_isWithin dyS_X10_isWithin rfl rfl ⟨(Nat.le_of_ble_eq_true rfl), (Nat.le_of_ble_eq_true rfl)⟩ dX10_setLine_24 rfl (Nat.le_of_ble_eq_true rfl) (g_fni ?_)
      refine g_if_eq C (tgt := 51) dX10_setLine_27 (by decide) (fun h3 => ?_) (fun h3 => ?_)
      · refine g_ldc C kc_X10_88 dX10_setLine_51 ?_
        have e0 : f_X10_setLine σ x a b c d = ((-100002), σ) := by
          exact ((f_X10_setLine_eq _ _ _ _ _ _).trans ((if_neg h1).trans ((if_neg h2).trans (if_pos h3))))
        exact hi _ _ _ _ _ _ rfl dX10_setLine_53 rfl ⟨(congrArg (fun z => some (Value.int z.1)) e0).symm, (congrArg (fun z => z.2) e0).symm, rfl⟩
      · refine g_iload C (i := 4) dX10_setLine_30 4 rfl ?_
        refine g_iconst C (v := 0) dX10_setLine_32 (by decide) ?_
        refine g_iconst C (v := 3) dX10_setLine_33 (by decide) ?_
        refine g_callS C (st := []) (c_X10_isWithin l D ad dA z0 tt σ φ c 0 3) rfl ml_X10_105 sm_X10_isWithin in_X10 co_X10_isWithin dyS_X10_isWithin rfl rfl ⟨(Nat.le_of_ble_eq_true rfl), (Nat.le_of_ble_eq_true rfl)⟩ dX10_setLine_34 rfl (Nat.le_of_ble_eq_true rfl) (g_fni ?_)
        refine g_if_eq C (tgt := 51) dX10_setLine_37 (by decide) (fun h4 => ?_) (fun h4 => ?_)
        · refine g_ldc C kc_X10_88 dX10_setLine_51 ?_
          have e0 : f_X10_setLine σ x a b c d = ((-100002), σ) := by
            exact ((f_X10_setLine_eq _ _ _ _ _ _).trans ((if_neg h1).trans ((if_neg h2).trans ((if_neg h3).trans (if_pos h4)))))
          exact hi _ _ _ _ _ _ rfl dX10_setLine_53 rfl ⟨(congrArg (fun z => some (Value.int z.1)) e0).symm, (congrArg (fun z => z.2) e0).symm, rfl⟩
        · refine g_iload C (i := 5) dX10_setLine_40 5 rfl ?_
          refine g_iconst C (v := 0) dX10_setLine_42 (by decide) ?_
          refine g_bipush C (v := 9) dX10_setLine_43 (by decide) ?_
          refine g_callS C (st := []) (c_X10_isWithin l D ad dA z0 tt σ φ d 0 9) rfl ml_X10_105 sm_X10_isWithin in_X10 co_X10_isWithin dyS_X10_isWithin rfl rfl ⟨(Nat.le_of_ble_eq_true rfl), (Nat.le_of_ble_eq_true rfl)⟩ dX10_setLine_45 rfl (Nat.le_of_ble_eq_true rfl) (g_fni ?_)
          refine g_if_ne C (tgt := 54) dX10_setLine_48 (by decide) (fun h5 => ?_) (fun h5 => ?_)
          · refine g_aload_n C (i := 0) dX10_setLine_54 rfl 0 rfl ?_
            refine gg_0_0 C fl_X10_10 dX10_setLine_55 ?_
            refine ggN_1_3 C fl_X10_108 dX10_setLine_58 ?_
            refine g_iload_n C (i := 1) dX10_setLine_61 rfl 1 rfl ?_
            refine ld_5 C (il_in h1) dX10_setLine_62 ?_
            refine g_istore C (i := 6) (lv' := [(6, .int (σ 5 x.toNatClampNeg)), (0, .ref (ad 0)), (1, .int x), (2, .int a), (3, .int b), (4, .int c), (5, .int d)]) dX10_setLine_63 (by decide) rfl ?_
            refine g_aload_n C (i := 0) dX10_setLine_65 rfl 1 rfl ?_
            refine gg_0_0 C fl_X10_10 dX10_setLine_66 ?_
            refine ggN_1_3 C fl_X10_108 dX10_setLine_69 ?_
            refine g_iload_n C (i := 1) dX10_setLine_72 rfl 2 rfl ?_
            refine g_iload_n C (i := 2) dX10_setLine_73 rfl 3 rfl ?_
            refine sd_5 C (il_in h1) dX10_setLine_74 ?_
            refine g_nms C (fun σ1 eσ1 => ?_)
            refine g_aload_n C (i := 0) dX10_setLine_75 rfl 1 rfl ?_
            refine gg_0_0 C fl_X10_10 dX10_setLine_76 ?_
            refine ggN_1_4 C fl_X10_111 dX10_setLine_79 ?_
            refine g_iload_n C (i := 1) dX10_setLine_82 rfl 2 rfl ?_
            refine g_iload_n C (i := 3) dX10_setLine_83 rfl 4 rfl ?_
            refine sd_6 C (il_in h1) dX10_setLine_84 ?_
            refine g_nms C (fun σ2 eσ2 => ?_)
            refine g_aload_n C (i := 0) dX10_setLine_85 rfl 1 rfl ?_
            refine gg_0_0 C fl_X10_10 dX10_setLine_86 ?_
            refine ggN_1_5 C fl_X10_114 dX10_setLine_89 ?_
            refine g_iload_n C (i := 1) dX10_setLine_92 rfl 2 rfl ?_
            refine g_iload C (i := 4) dX10_setLine_93 5 rfl ?_
            refine sd_7 C (il_in h1) dX10_setLine_95 ?_
            refine g_nms C (fun σ3 eσ3 => ?_)
            refine g_aload_n C (i := 0) dX10_setLine_96 rfl 1 rfl ?_
            refine gg_0_0 C fl_X10_10 dX10_setLine_97 ?_
            refine ggN_1_6 C fl_X10_116 dX10_setLine_100 ?_
            refine g_iload_n C (i := 1) dX10_setLine_103 rfl 2 rfl ?_
            refine g_iload C (i := 5) dX10_setLine_104 6 rfl ?_
            refine sd_8 C (il_in h1) dX10_setLine_106 ?_
            refine g_nms C (fun σ4 eσ4 => ?_)
            refine g_aload_n C (i := 0) dX10_setLine_107 rfl 1 rfl ?_
            refine gg_0_0 C fl_X10_10 dX10_setLine_108 ?_
            refine ggN_1_7 C fl_X10_119 dX10_setLine_111 ?_
            refine g_iload_n C (i := 1) dX10_setLine_114 rfl 2 rfl ?_
            refine g_iconst C (v := 0) dX10_setLine_115 (by decide) ?_
            refine sd_9 C (il_in h1) dX10_setLine_116 ?_
            refine g_nms C (fun σ5 eσ5 => ?_)
            refine g_iload C (i := 6) dX10_setLine_117 0 rfl ?_
            have e0 : f_X10_setLine σ x a b c d = (σ 5 x.toNatClampNeg, σ5) := by
              subst eσ5
              subst eσ4
              subst eσ3
              subst eσ2
              subst eσ1
              exact ((f_X10_setLine_eq _ _ _ _ _ _).trans ((if_neg h1).trans ((if_neg h2).trans ((if_neg h3).trans ((if_neg h4).trans (if_neg h5))))))
            exact hi _ _ _ _ _ _ rfl dX10_setLine_119 rfl ⟨(congrArg (fun z => some (Value.int z.1)) e0).symm, (congrArg (fun z => z.2) e0).symm, rfl⟩
          · refine g_ldc C kc_X10_88 dX10_setLine_51 ?_
            have e0 : f_X10_setLine σ x a b c d = ((-100002), σ) := by
              exact ((f_X10_setLine_eq _ _ _ _ _ _).trans ((if_neg h1).trans ((if_neg h2).trans ((if_neg h3).trans ((if_neg h4).trans (if_pos h5))))))
            exact hi _ _ _ _ _ _ rfl dX10_setLine_53 rfl ⟨(congrArg (fun z => some (Value.int z.1)) e0).symm, (congrArg (fun z => z.2) e0).symm, rfl⟩
  · refine g_ldc C kc_X10_83 dX10_setLine_7 ?_
    have e0 : f_X10_setLine σ x a b c d = ((-100001), σ) := by
      exact ((f_X10_setLine_eq _ _ _ _ _ _).trans (if_pos h1))
    exact hi _ _ _ _ _ _ rfl dX10_setLine_9 rfl ⟨(congrArg (fun z => some (Value.int z.1)) e0).symm, (congrArg (fun z => z.2) e0).symm, rfl⟩
def f_X10_miss (σ : Sg) (x : Int32) (a : Int32) : Int32 × Sg := if (f_X10_isLine x) = 0 then ((-100001), σ) else (let σ1 : Sg := sw σ 9 x.toNatClampNeg (vp_nar .boolean a); (f_X10_oneIf (σ 9 x.toNatClampNeg), σ1))
theorem f_X10_miss_eq (σ : Sg) (x : Int32) (a : Int32) : f_X10_miss σ x a = (if (f_X10_isLine x) = 0 then ((-100001), σ) else (let σ1 : Sg := sw σ 9 x.toNatClampNeg (vp_nar .boolean a); (f_X10_oneIf (σ 9 x.toNatClampNeg), σ1))) := rfl
set_option maxRecDepth 100000 in
set_option maxHeartbeats 4000000 in
theorem c_X10_miss (l : Launch) (D : va_G) (ad : Nat → Nat) (dA : Nat → ClassId) (z0 : Nat) (tt : Nat → Nat) (σ : Sg) (φ : Fl) (x : Int32) (a : Int32)  : MC l D ad dA z0 tt yX10_miss (Cond.code yX10_miss cX10_miss 4 (some .int) :: lw_all) { frames := 2, cells := 0, slots := 0, locals := 42 } [.ref (ad 0), .int x, .int a] σ φ (Fn (some (.int (f_X10_miss σ x a).1)) (f_X10_miss σ x a).2 φ) := by
  refine mk_MC (by decide) (Nat.le_of_ble_eq_true rfl) ?_
  intro K C hi hf hv
  change K σ φ 0 [(0, .ref (ad 0)), (1, .int x), (2, .int a)] []
  refine g_iload_n C (i := 1) dX10_miss_0 rfl 1 rfl ?_
  refine g_callS C (st := []) (c_X10_isLine l D ad dA z0 tt σ φ x) rfl ml_X10_101 sm_X10_isLine in_X10 co_X10_isLine dyS_X10_isLine rfl rfl ⟨(Nat.le_of_ble_eq_true rfl), (Nat.le_of_ble_eq_true rfl)⟩ dX10_miss_1 rfl (Nat.le_of_ble_eq_true rfl) (g_fni ?_)
  refine g_if_ne C (tgt := 10) dX10_miss_4 (by decide) (fun h1 => ?_) (fun h1 => ?_)
  · refine g_aload_n C (i := 0) dX10_miss_10 rfl 0 rfl ?_
    refine gg_0_0 C fl_X10_10 dX10_miss_11 ?_
    refine ggN_1_7 C fl_X10_119 dX10_miss_14 ?_
    refine g_iload_n C (i := 1) dX10_miss_17 rfl 1 rfl ?_
    refine ld_9 C (il_in h1) dX10_miss_18 ?_
    refine g_callS C (st := []) (c_X10_oneIf l D ad dA z0 tt σ φ (σ 9 x.toNatClampNeg)) rfl ml_X10_123 sm_X10_oneIf in_X10 co_X10_oneIf dyS_X10_oneIf rfl rfl ⟨(Nat.le_of_ble_eq_true rfl), (Nat.le_of_ble_eq_true rfl)⟩ dX10_miss_19 rfl (Nat.le_of_ble_eq_true rfl) (g_fni ?_)
    refine g_istore_n C (i := 3) (lv' := [(3, .int (f_X10_oneIf (σ 9 x.toNatClampNeg))), (0, .ref (ad 0)), (1, .int x), (2, .int a)]) dX10_miss_22 rfl (by decide) rfl ?_
    refine g_aload_n C (i := 0) dX10_miss_23 rfl 1 rfl ?_
    refine gg_0_0 C fl_X10_10 dX10_miss_24 ?_
    refine ggN_1_7 C fl_X10_119 dX10_miss_27 ?_
    refine g_iload_n C (i := 1) dX10_miss_30 rfl 2 rfl ?_
    refine g_iload_n C (i := 2) dX10_miss_31 rfl 3 rfl ?_
    refine sd_9 C (il_in h1) dX10_miss_32 ?_
    refine g_nms C (fun σ1 eσ1 => ?_)
    refine g_iload_n C (i := 3) dX10_miss_33 rfl 0 rfl ?_
    have e0 : f_X10_miss σ x a = (f_X10_oneIf (σ 9 x.toNatClampNeg), σ1) := by
      subst eσ1
      exact ((f_X10_miss_eq _ _ _).trans (if_neg h1))
    exact hi _ _ _ _ _ _ rfl dX10_miss_34 rfl ⟨(congrArg (fun z => some (Value.int z.1)) e0).symm, (congrArg (fun z => z.2) e0).symm, rfl⟩
  · refine g_ldc C kc_X10_83 dX10_miss_7 ?_
    have e0 : f_X10_miss σ x a = ((-100001), σ) := by
      exact ((f_X10_miss_eq _ _ _).trans (if_pos h1))
    exact hi _ _ _ _ _ _ rfl dX10_miss_9 rfl ⟨(congrArg (fun z => some (Value.int z.1)) e0).symm, (congrArg (fun z => z.2) e0).symm, rfl⟩
def f_X10_setStandard (σ : Sg) (x : Int32) : Int32 × Sg := if (f_X10_isWithin x 0 1) = 0 then ((-100002), σ) else (let σ1 : Sg := sw σ 1 8 x; (σ 1 8, σ1))
theorem f_X10_setStandard_eq (σ : Sg) (x : Int32) : f_X10_setStandard σ x = (if (f_X10_isWithin x 0 1) = 0 then ((-100002), σ) else (let σ1 : Sg := sw σ 1 8 x; (σ 1 8, σ1))) := rfl
set_option maxRecDepth 100000 in
set_option maxHeartbeats 4000000 in
theorem c_X10_setStandard (l : Launch) (D : va_G) (ad : Nat → Nat) (dA : Nat → ClassId) (z0 : Nat) (tt : Nat → Nat) (σ : Sg) (φ : Fl) (x : Int32)  : MC l D ad dA z0 tt yX10_setStandard (Cond.code yX10_setStandard cX10_setStandard 3 (some .int) :: lw_all) { frames := 1, cells := 0, slots := 0, locals := 22 } [.ref (ad 0), .int x] σ φ (Fn (some (.int (f_X10_setStandard σ x).1)) (f_X10_setStandard σ x).2 φ) := by
  refine mk_MC (by decide) (Nat.le_of_ble_eq_true rfl) ?_
  intro K C hi hf hv
  change K σ φ 0 [(0, .ref (ad 0)), (1, .int x)] []
  refine g_iload_n C (i := 1) dX10_setStandard_0 rfl 1 rfl ?_
  refine g_iconst C (v := 0) dX10_setStandard_1 (by decide) ?_
  refine g_iconst C (v := 1) dX10_setStandard_2 (by decide) ?_
  refine g_callS C (st := []) (c_X10_isWithin l D ad dA z0 tt σ φ x 0 1) rfl ml_X10_105 sm_X10_isWithin in_X10 co_X10_isWithin dyS_X10_isWithin rfl rfl ⟨(Nat.le_of_ble_eq_true rfl), (Nat.le_of_ble_eq_true rfl)⟩ dX10_setStandard_3 rfl (Nat.le_of_ble_eq_true rfl) (g_fni ?_)
  refine g_if_ne C (tgt := 12) dX10_setStandard_6 (by decide) (fun h1 => ?_) (fun h1 => ?_)
  · refine g_aload_n C (i := 0) dX10_setStandard_12 rfl 0 rfl ?_
    refine gg_0_0 C fl_X10_10 dX10_setStandard_13 ?_
    refine ggN_1_8 C fl_X10_127 dX10_setStandard_16 ?_
    refine g_istore_n C (i := 2) (lv' := [(2, .int (σ 1 8)), (0, .ref (ad 0)), (1, .int x)]) dX10_setStandard_19 rfl (by decide) rfl ?_
    refine g_aload_n C (i := 0) dX10_setStandard_20 rfl 1 rfl ?_
    refine gg_0_0 C fl_X10_10 dX10_setStandard_21 ?_
    refine g_iload_n C (i := 1) dX10_setStandard_24 rfl 2 rfl ?_
    refine gpN_1_8 C fl_X10_127 dX10_setStandard_25 ?_
    refine g_nms C (fun σ1 eσ1 => ?_)
    refine g_iload_n C (i := 2) dX10_setStandard_28 rfl 0 rfl ?_
    have e0 : f_X10_setStandard σ x = (σ 1 8, σ1) := by
      subst eσ1
      exact ((f_X10_setStandard_eq _ _).trans (if_neg h1))
    exact hi _ _ _ _ _ _ rfl dX10_setStandard_29 rfl ⟨(congrArg (fun z => some (Value.int z.1)) e0).symm, (congrArg (fun z => z.2) e0).symm, rfl⟩
  · refine g_ldc C kc_X10_88 dX10_setStandard_9 ?_
    have e0 : f_X10_setStandard σ x = ((-100002), σ) := by
      exact ((f_X10_setStandard_eq _ _).trans (if_pos h1))
    exact hi _ _ _ _ _ _ rfl dX10_setStandard_11 rfl ⟨(congrArg (fun z => some (Value.int z.1)) e0).symm, (congrArg (fun z => z.2) e0).symm, rfl⟩
def f_X10_type (σ : Sg) (x : Int32) : Int32 × Sg := let v1 : Int32 := (f_X0_append σ x).1; let σ2 : Sg := (f_X0_append σ x).2; let v3 : Int32 := (if v1 = 0 then (-100003) else (σ2 10 1)); (v3, σ2)
theorem f_X10_type_eq (σ : Sg) (x : Int32) : f_X10_type σ x = (let v1 : Int32 := (f_X0_append σ x).1; let σ2 : Sg := (f_X0_append σ x).2; let v3 : Int32 := (if v1 = 0 then (-100003) else (σ2 10 1)); (v3, σ2)) := rfl
set_option maxRecDepth 100000 in
set_option maxHeartbeats 4000000 in
theorem c_X10_type (l : Launch) (D : va_G) (ad : Nat → Nat) (dA : Nat → ClassId) (z0 : Nat) (tt : Nat → Nat) (σ : Sg) (φ : Fl) (x : Int32) (hu : ¬ σ 10 1 < 0) : MC l D ad dA z0 tt yX10_type (Cond.code yX10_type cX10_type 2 (some .int) :: lw_all) { frames := 1, cells := 0, slots := 0, locals := 21 } [.ref (ad 0), .int x] σ φ (Fn (some (.int (f_X10_type σ x).1)) (f_X10_type σ x).2 φ) := by
  refine mk_MC (by decide) (Nat.le_of_ble_eq_true rfl) ?_
  intro K C hi hf hv
  change K σ φ 0 [(0, .ref (ad 0)), (1, .int x)] []
  refine g_aload_n C (i := 0) dX10_type_0 rfl 0 rfl ?_
  refine gg_0_1 C fl_X10_19 dX10_type_1 ?_
  refine g_iload_n C (i := 1) dX10_type_4 rfl 1 rfl ?_
  refine g_callV C (st := []) (c_X0_append l D ad dA z0 tt σ φ x hu) rfl ml_X10_131 im_X0_append se_X0_append in_X0 co_X0_append dyV_X0_append rfl rfl ⟨(Nat.le_of_ble_eq_true rfl), (Nat.le_of_ble_eq_true rfl)⟩ 10 0 (fun f => at_10 ad dA σ f) rfl dX10_type_5 rfl (Nat.le_of_ble_eq_true rfl) (g_fni ?_)
  refine g_nmi C (fun v1 ev1 => ?_)
  refine g_nms C (fun σ2 eσ2 => ?_)
  have J4 : ∀ (v3 : Int32), (if v1 = 0 then (-100003) else (σ2 10 1)) = v3 → K σ2 φ 23 [] [.int v3] := by
    intro v3 ev3
    have e0 : f_X10_type σ x = (v3, σ2) := by
      subst ev3
      subst eσ2
      subst ev1
      exact f_X10_type_eq _ _
    exact hi _ _ _ _ _ _ rfl dX10_type_23 rfl ⟨(congrArg (fun z => some (Value.int z.1)) e0).symm, (congrArg (fun z => z.2) e0).symm, rfl⟩
  refine g_if_eq C (tgt := 21) dX10_type_8 (by decide) (fun h1 => ?_) (fun h1 => ?_)
  · refine g_ldc C kc_X10_138 dX10_type_21 ?_
    refine g_loc C [] rfl ?_
    exact J4 _ ((if_pos h1))
  · refine g_aload_n C (i := 0) dX10_type_11 rfl 0 rfl ?_
    refine gg_0_1 C fl_X10_19 dX10_type_12 ?_
    refine ggN_10_1 C fl_X10_135 dX10_type_15 ?_
    refine g_goto C (tgt := 23) dX10_type_18 (by decide) ?_
    refine g_loc C [] rfl ?_
    exact J4 _ ((if_neg h1))
def f_X10_clearText (σ : Sg) : Int32 × Sg := let σ1 : Sg := sw σ 10 1 0; (σ 10 1, σ1)
theorem f_X10_clearText_eq (σ : Sg) : f_X10_clearText σ = (let σ1 : Sg := sw σ 10 1 0; (σ 10 1, σ1)) := rfl
set_option maxRecDepth 100000 in
set_option maxHeartbeats 4000000 in
theorem c_X10_clearText (l : Launch) (D : va_G) (ad : Nat → Nat) (dA : Nat → ClassId) (z0 : Nat) (tt : Nat → Nat) (σ : Sg) (φ : Fl)   : MC l D ad dA z0 tt yX10_clearText (Cond.code yX10_clearText cX10_clearText 2 (some .int) :: lw_all) { frames := 0, cells := 0, slots := 0, locals := 0 } [.ref (ad 0)] σ φ (Fn (some (.int (f_X10_clearText σ).1)) (f_X10_clearText σ).2 φ) := by
  refine mk_MC (by decide) (Nat.le_of_ble_eq_true rfl) ?_
  intro K C hi hf hv
  change K σ φ 0 [(0, .ref (ad 0))] []
  refine g_aload_n C (i := 0) dX10_clearText_0 rfl 0 rfl ?_
  refine gg_0_1 C fl_X10_19 dX10_clearText_1 ?_
  refine ggN_10_1 C fl_X10_135 dX10_clearText_4 ?_
  refine g_istore_n C (i := 1) (lv' := [(1, .int (σ 10 1)), (0, .ref (ad 0))]) dX10_clearText_7 rfl (by decide) rfl ?_
  refine g_aload_n C (i := 0) dX10_clearText_8 rfl 1 rfl ?_
  refine gg_0_1 C fl_X10_19 dX10_clearText_9 ?_
  refine g_iconst C (v := 0) dX10_clearText_12 (by decide) ?_
  refine gpN_10_1 C fl_X10_135 dX10_clearText_13 ?_
  refine g_nms C (fun σ1 eσ1 => ?_)
  refine g_iload_n C (i := 1) dX10_clearText_16 rfl 0 rfl ?_
  have e0 : f_X10_clearText σ = (σ 10 1, σ1) := by
    subst eσ1
    exact f_X10_clearText_eq _
  exact hi _ _ _ _ _ _ rfl dX10_clearText_17 rfl ⟨(congrArg (fun z => some (Value.int z.1)) e0).symm, (congrArg (fun z => z.2) e0).symm, rfl⟩
def f_X10_sample (σ : Sg) (x : Int32) (y : Int32) : Int32 := if (f_X10_isLine x) = 0 then (-100001) else (if (f_X10_isWithin y 0 111) = 0 then (-100002) else (f_X7_sampleAt σ x y))
theorem f_X10_sample_eq (σ : Sg) (x : Int32) (y : Int32) : f_X10_sample σ x y = (if (f_X10_isLine x) = 0 then (-100001) else (if (f_X10_isWithin y 0 111) = 0 then (-100002) else (f_X7_sampleAt σ x y))) := rfl
set_option maxRecDepth 100000 in
set_option maxHeartbeats 4000000 in
theorem c_X10_sample (l : Launch) (D : va_G) (ad : Nat → Nat) (dA : Nat → ClassId) (z0 : Nat) (tt : Nat → Nat) (σ : Sg) (φ : Fl) (x : Int32) (y : Int32)  : MC l D ad dA z0 tt yX10_sample (Cond.code yX10_sample cX10_sample 3 (some .int) :: lw_all) { frames := 4, cells := 0, slots := 0, locals := 93 } [.ref (ad 0), .int x, .int y] σ φ (Fn (some (.int (f_X10_sample σ x y))) σ φ) := by
  refine mk_MC (by decide) (Nat.le_of_ble_eq_true rfl) ?_
  intro K C hi hf hv
  change K σ φ 0 [(0, .ref (ad 0)), (1, .int x), (2, .int y)] []
  refine g_iload_n C (i := 1) dX10_sample_0 rfl 1 rfl ?_
  refine g_callS C (st := []) (c_X10_isLine l D ad dA z0 tt σ φ x) rfl ml_X10_101 sm_X10_isLine in_X10 co_X10_isLine dyS_X10_isLine rfl rfl ⟨(Nat.le_of_ble_eq_true rfl), (Nat.le_of_ble_eq_true rfl)⟩ dX10_sample_1 rfl (Nat.le_of_ble_eq_true rfl) (g_fni ?_)
  refine g_if_ne C (tgt := 10) dX10_sample_4 (by decide) (fun h1 => ?_) (fun h1 => ?_)
  · refine g_iload_n C (i := 2) dX10_sample_10 rfl 2 rfl ?_
    refine g_iconst C (v := 0) dX10_sample_11 (by decide) ?_
    refine g_bipush C (v := 111) dX10_sample_12 (by decide) ?_
    refine g_callS C (st := []) (c_X10_isWithin l D ad dA z0 tt σ φ y 0 111) rfl ml_X10_105 sm_X10_isWithin in_X10 co_X10_isWithin dyS_X10_isWithin rfl rfl ⟨(Nat.le_of_ble_eq_true rfl), (Nat.le_of_ble_eq_true rfl)⟩ dX10_sample_14 rfl (Nat.le_of_ble_eq_true rfl) (g_fni ?_)
    refine g_if_ne C (tgt := 23) dX10_sample_17 (by decide) (fun h2 => ?_) (fun h2 => ?_)
    · refine g_aload_n C (i := 0) dX10_sample_23 rfl 0 rfl ?_
      refine gg_0_0 C fl_X10_10 dX10_sample_24 ?_
      refine g_iload_n C (i := 1) dX10_sample_27 rfl 1 rfl ?_
      refine g_iload_n C (i := 2) dX10_sample_28 rfl 2 rfl ?_
      refine g_callV C (st := []) (c_X7_sampleAt l D ad dA z0 tt σ φ x y (il_in h1)) rfl ml_X10_150 im_X7_sampleAt se_X7_sampleAt in_X7 co_X7_sampleAt dyV_X7_sampleAt rfl rfl ⟨(Nat.le_of_ble_eq_true rfl), (Nat.le_of_ble_eq_true rfl)⟩ 1 7 (fun f => at_1 ad dA σ f) rfl dX10_sample_29 rfl (Nat.le_of_ble_eq_true rfl) (g_fni ?_)
      have e0 : f_X10_sample σ x y = f_X7_sampleAt σ x y := by
        exact ((f_X10_sample_eq _ _ _).trans ((if_neg h1).trans (if_neg h2)))
      exact hi _ _ _ _ _ _ rfl dX10_sample_32 rfl ⟨(congrArg (fun z => some (Value.int z)) e0).symm, rfl, rfl⟩
    · refine g_ldc C kc_X10_88 dX10_sample_20 ?_
      have e0 : f_X10_sample σ x y = (-100002) := by
        exact ((f_X10_sample_eq _ _ _).trans ((if_neg h1).trans (if_pos h2)))
      exact hi _ _ _ _ _ _ rfl dX10_sample_22 rfl ⟨(congrArg (fun z => some (Value.int z)) e0).symm, rfl, rfl⟩
  · refine g_ldc C kc_X10_83 dX10_sample_7 ?_
    have e0 : f_X10_sample σ x y = (-100001) := by
      exact ((f_X10_sample_eq _ _ _).trans (if_pos h1))
    exact hi _ _ _ _ _ _ rfl dX10_sample_9 rfl ⟨(congrArg (fun z => some (Value.int z)) e0).symm, rfl, rfl⟩
def f_X10_set (σ : Sg) (x : Int32) (y : Int32) : Int32 × Sg := if (f_X10_isWithin x 0 3) = 0 then ((-100001), σ) else (if (f_X8_allows x y) = 0 then ((-100002), σ) else (let σ1 : Sg := sw σ 14 x.toNatClampNeg y; (σ 14 x.toNatClampNeg, σ1)))
theorem f_X10_set_eq (σ : Sg) (x : Int32) (y : Int32) : f_X10_set σ x y = (if (f_X10_isWithin x 0 3) = 0 then ((-100001), σ) else (if (f_X8_allows x y) = 0 then ((-100002), σ) else (let σ1 : Sg := sw σ 14 x.toNatClampNeg y; (σ 14 x.toNatClampNeg, σ1)))) := rfl
set_option maxRecDepth 100000 in
set_option maxHeartbeats 4000000 in
theorem c_X10_set (l : Launch) (D : va_G) (ad : Nat → Nat) (dA : Nat → ClassId) (z0 : Nat) (tt : Nat → Nat) (σ : Sg) (φ : Fl) (x : Int32) (y : Int32)  : MC l D ad dA z0 tt yX10_set (Cond.code yX10_set cX10_set 4 (some .int) :: lw_all) { frames := 2, cells := 0, slots := 0, locals := 44 } [.ref (ad 0), .int x, .int y] σ φ (Fn (some (.int (f_X10_set σ x y).1)) (f_X10_set σ x y).2 φ) := by
  refine mk_MC (by decide) (Nat.le_of_ble_eq_true rfl) ?_
  intro K C hi hf hv
  change K σ φ 0 [(0, .ref (ad 0)), (1, .int x), (2, .int y)] []
  refine g_iload_n C (i := 1) dX10_set_0 rfl 1 rfl ?_
  refine g_iconst C (v := 0) dX10_set_1 (by decide) ?_
  refine g_iconst C (v := 3) dX10_set_2 (by decide) ?_
  refine g_callS C (st := []) (c_X10_isWithin l D ad dA z0 tt σ φ x 0 3) rfl ml_X10_105 sm_X10_isWithin in_X10 co_X10_isWithin dyS_X10_isWithin rfl rfl ⟨(Nat.le_of_ble_eq_true rfl), (Nat.le_of_ble_eq_true rfl)⟩ dX10_set_3 rfl (Nat.le_of_ble_eq_true rfl) (g_fni ?_)
  refine g_if_ne C (tgt := 12) dX10_set_6 (by decide) (fun h1 => ?_) (fun h1 => ?_)
  · refine g_aload_n C (i := 0) dX10_set_12 rfl 0 rfl ?_
    refine gg_0_2 C fl_X10_26 dX10_set_13 ?_
    refine g_iload_n C (i := 1) dX10_set_16 rfl 1 rfl ?_
    refine g_iload_n C (i := 2) dX10_set_17 rfl 2 rfl ?_
    refine g_callV C (st := []) (c_X8_allows l D ad dA z0 tt σ φ x y (iw_in (m := 3) rfl h1)) rfl ml_X10_153 im_X8_allows se_X8_allows in_X8 co_X8_allows dyV_X8_allows rfl rfl ⟨(Nat.le_of_ble_eq_true rfl), (Nat.le_of_ble_eq_true rfl)⟩ 13 8 (fun f => at_13 ad dA σ f) rfl dX10_set_18 rfl (Nat.le_of_ble_eq_true rfl) (g_fni ?_)
    refine g_if_ne C (tgt := 27) dX10_set_21 (by decide) (fun h2 => ?_) (fun h2 => ?_)
    · refine g_aload_n C (i := 0) dX10_set_27 rfl 0 rfl ?_
      refine gg_0_2 C fl_X10_26 dX10_set_28 ?_
      refine ggN_13_0 C fl_X10_156 dX10_set_31 ?_
      refine g_iload_n C (i := 1) dX10_set_34 rfl 1 rfl ?_
      refine ld_14 C (iw_in (m := 3) rfl h1) dX10_set_35 ?_
      refine g_istore_n C (i := 3) (lv' := [(3, .int (σ 14 x.toNatClampNeg)), (0, .ref (ad 0)), (1, .int x), (2, .int y)]) dX10_set_36 rfl (by decide) rfl ?_
      refine g_aload_n C (i := 0) dX10_set_37 rfl 1 rfl ?_
      refine gg_0_2 C fl_X10_26 dX10_set_38 ?_
      refine ggN_13_0 C fl_X10_156 dX10_set_41 ?_
      refine g_iload_n C (i := 1) dX10_set_44 rfl 2 rfl ?_
      refine g_iload_n C (i := 2) dX10_set_45 rfl 3 rfl ?_
      refine sd_14 C (iw_in (m := 3) rfl h1) dX10_set_46 ?_
      refine g_nms C (fun σ1 eσ1 => ?_)
      refine g_iload_n C (i := 3) dX10_set_47 rfl 0 rfl ?_
      have e0 : f_X10_set σ x y = (σ 14 x.toNatClampNeg, σ1) := by
        subst eσ1
        exact ((f_X10_set_eq _ _ _).trans ((if_neg h1).trans (if_neg h2)))
      exact hi _ _ _ _ _ _ rfl dX10_set_48 rfl ⟨(congrArg (fun z => some (Value.int z.1)) e0).symm, (congrArg (fun z => z.2) e0).symm, rfl⟩
    · refine g_ldc C kc_X10_88 dX10_set_24 ?_
      have e0 : f_X10_set σ x y = ((-100002), σ) := by
        exact ((f_X10_set_eq _ _ _).trans ((if_neg h1).trans (if_pos h2)))
      exact hi _ _ _ _ _ _ rfl dX10_set_26 rfl ⟨(congrArg (fun z => some (Value.int z.1)) e0).symm, (congrArg (fun z => z.2) e0).symm, rfl⟩
  · refine g_ldc C kc_X10_83 dX10_set_9 ?_
    have e0 : f_X10_set σ x y = ((-100001), σ) := by
      exact ((f_X10_set_eq _ _ _).trans (if_pos h1))
    exact hi _ _ _ _ _ _ rfl dX10_set_11 rfl ⟨(congrArg (fun z => some (Value.int z.1)) e0).symm, (congrArg (fun z => z.2) e0).symm, rfl⟩
def f_X10_line (σ : Sg) (x : Int32) (y : Int32) : Int32 := if (f_X10_isLine x) = 0 then (-100001) else (if (f_X10_isWithin y 0 7) = 0 then (-100002) else (if (σ 0 10) = 0 then (-100004) else (if y = 0 then (let v1 : Int32 := (if (σ 26 x.toNatClampNeg) = (-1) then (-100004) else (σ 26 x.toNatClampNeg)); v1) else (if y = 1 then (σ 27 x.toNatClampNeg) else (if y = 2 then (f_X10_oneIf (σ 29 x.toNatClampNeg)) else (if y = 3 then (σ 31 x.toNatClampNeg) else (if y = 4 then (σ 32 x.toNatClampNeg) else (if y = 5 then (f_X10_oneIf (σ 33 x.toNatClampNeg)) else (if y = 6 then (f_X10_oneIf (σ 34 x.toNatClampNeg)) else (σ 28 x.toNatClampNeg))))))))))
theorem f_X10_line_eq (σ : Sg) (x : Int32) (y : Int32) : f_X10_line σ x y = (if (f_X10_isLine x) = 0 then (-100001) else (if (f_X10_isWithin y 0 7) = 0 then (-100002) else (if (σ 0 10) = 0 then (-100004) else (if y = 0 then (let v1 : Int32 := (if (σ 26 x.toNatClampNeg) = (-1) then (-100004) else (σ 26 x.toNatClampNeg)); v1) else (if y = 1 then (σ 27 x.toNatClampNeg) else (if y = 2 then (f_X10_oneIf (σ 29 x.toNatClampNeg)) else (if y = 3 then (σ 31 x.toNatClampNeg) else (if y = 4 then (σ 32 x.toNatClampNeg) else (if y = 5 then (f_X10_oneIf (σ 33 x.toNatClampNeg)) else (if y = 6 then (f_X10_oneIf (σ 34 x.toNatClampNeg)) else (σ 28 x.toNatClampNeg))))))))))) := rfl
set_option maxRecDepth 100000 in
set_option maxHeartbeats 4000000 in
theorem c_X10_line (l : Launch) (D : va_G) (ad : Nat → Nat) (dA : Nat → ClassId) (z0 : Nat) (tt : Nat → Nat) (σ : Sg) (φ : Fl) (x : Int32) (y : Int32)  : MC l D ad dA z0 tt yX10_line (Cond.code yX10_line cX10_line 3 (some .int) :: lw_all) { frames := 2, cells := 0, slots := 0, locals := 42 } [.ref (ad 0), .int x, .int y] σ φ (Fn (some (.int (f_X10_line σ x y))) σ φ) := by
  refine mk_MC (by decide) (Nat.le_of_ble_eq_true rfl) ?_
  intro K C hi hf hv
  change K σ φ 0 [(0, .ref (ad 0)), (1, .int x), (2, .int y)] []
  refine g_iload_n C (i := 1) dX10_line_0 rfl 1 rfl ?_
  refine g_callS C (st := []) (c_X10_isLine l D ad dA z0 tt σ φ x) rfl ml_X10_101 sm_X10_isLine in_X10 co_X10_isLine dyS_X10_isLine rfl rfl ⟨(Nat.le_of_ble_eq_true rfl), (Nat.le_of_ble_eq_true rfl)⟩ dX10_line_1 rfl (Nat.le_of_ble_eq_true rfl) (g_fni ?_)
  refine g_if_ne C (tgt := 10) dX10_line_4 (by decide) (fun h1 => ?_) (fun h1 => ?_)
  · refine g_iload_n C (i := 2) dX10_line_10 rfl 2 rfl ?_
    refine g_iconst C (v := 0) dX10_line_11 (by decide) ?_
    refine g_bipush C (v := 7) dX10_line_12 (by decide) ?_
    refine g_callS C (st := []) (c_X10_isWithin l D ad dA z0 tt σ φ y 0 7) rfl ml_X10_105 sm_X10_isWithin in_X10 co_X10_isWithin dyS_X10_isWithin rfl rfl ⟨(Nat.le_of_ble_eq_true rfl), (Nat.le_of_ble_eq_true rfl)⟩ dX10_line_14 rfl (Nat.le_of_ble_eq_true rfl) (g_fni ?_)
    refine g_if_ne C (tgt := 23) dX10_line_17 (by decide) (fun h2 => ?_) (fun h2 => ?_)
    · refine g_aload_n C (i := 0) dX10_line_23 rfl 0 rfl ?_
      refine gg_0_10 C fl_X10_200 dX10_line_24 ?_
      refine g_if_ne C (tgt := 33) dX10_line_27 (by decide) (fun h3 => ?_) (fun h3 => ?_)
      · refine g_iload_n C (i := 2) dX10_line_33 rfl 2 rfl ?_
        by_cases h4 : y = 0
        · refine g_tableIn C (tgt := 76) (off := 42) dX10_line_34 (by rw [h4]; decide) (by rw [h4]; decide) (by rw [h4]; rfl) (by decide) ?_
          refine g_aload_n C (i := 0) dX10_line_76 rfl 0 rfl ?_
          refine gg_0_4 C fl_X10_40 dX10_line_77 ?_
          refine ggN_25_0 C fl_X10_215 dX10_line_80 ?_
          refine g_iload_n C (i := 1) dX10_line_83 rfl 1 rfl ?_
          refine ld_26 C (il_in h1) dX10_line_84 ?_
          refine g_iconst C (v := (-1)) dX10_line_85 (by decide) ?_
          have J2 : ∀ (v1 : Int32), (if (σ 26 x.toNatClampNeg) = (-1) then (-100004) else (σ 26 x.toNatClampNeg)) = v1 → K σ φ 103 [] [.int v1] := by
            intro v1 ev1
            have e0 : f_X10_line σ x y = v1 := by
              subst ev1
              exact ((f_X10_line_eq _ _ _).trans ((if_neg h1).trans ((if_neg h2).trans ((if_neg h3).trans (if_pos h4)))))
            exact hi _ _ _ _ _ _ rfl dX10_line_103 rfl ⟨(congrArg (fun z => some (Value.int z)) e0).symm, rfl, rfl⟩
          refine g_icmp_ne C (tgt := 94) dX10_line_86 (by decide) (fun h5 => ?_) (fun h5 => ?_)
          · refine g_aload_n C (i := 0) dX10_line_94 rfl 0 rfl ?_
            refine gg_0_4 C fl_X10_40 dX10_line_95 ?_
            refine ggN_25_0 C fl_X10_215 dX10_line_98 ?_
            refine g_iload_n C (i := 1) dX10_line_101 rfl 1 rfl ?_
            refine ld_26 C (il_in h1) dX10_line_102 ?_
            refine g_loc C [] rfl ?_
            exact J2 _ ((if_neg h5))
          · refine g_ldc C kc_X10_214 dX10_line_89 ?_
            refine g_goto C (tgt := 103) dX10_line_91 (by decide) ?_
            refine g_loc C [] rfl ?_
            exact J2 _ ((if_pos h5))
        · skip
          by_cases h6 : y = 1
          · refine g_tableIn C (tgt := 104) (off := 70) dX10_line_34 (by rw [h6]; decide) (by rw [h6]; decide) (by rw [h6]; rfl) (by decide) ?_
            refine g_aload_n C (i := 0) dX10_line_104 rfl 0 rfl ?_
            refine gg_0_4 C fl_X10_40 dX10_line_105 ?_
            refine ggN_25_1 C fl_X10_167 dX10_line_108 ?_
            refine g_iload_n C (i := 1) dX10_line_111 rfl 1 rfl ?_
            refine ld_27 C (il_in h1) dX10_line_112 ?_
            have e0 : f_X10_line σ x y = σ 27 x.toNatClampNeg := by
              exact ((f_X10_line_eq _ _ _).trans ((if_neg h1).trans ((if_neg h2).trans ((if_neg h3).trans ((if_neg h4).trans (if_pos h6))))))
            exact hi _ _ _ _ _ _ rfl dX10_line_113 rfl ⟨(congrArg (fun z => some (Value.int z)) e0).symm, rfl, rfl⟩
          · skip
            by_cases h7 : y = 2
            · refine g_tableIn C (tgt := 114) (off := 80) dX10_line_34 (by rw [h7]; decide) (by rw [h7]; decide) (by rw [h7]; rfl) (by decide) ?_
              refine g_aload_n C (i := 0) dX10_line_114 rfl 0 rfl ?_
              refine gg_0_4 C fl_X10_40 dX10_line_115 ?_
              refine ggN_25_3 C fl_X10_207 dX10_line_118 ?_
              refine g_iload_n C (i := 1) dX10_line_121 rfl 1 rfl ?_
              refine ld_29 C (il_in h1) dX10_line_122 ?_
              refine g_callS C (st := []) (c_X10_oneIf l D ad dA z0 tt σ φ (σ 29 x.toNatClampNeg)) rfl ml_X10_123 sm_X10_oneIf in_X10 co_X10_oneIf dyS_X10_oneIf rfl rfl ⟨(Nat.le_of_ble_eq_true rfl), (Nat.le_of_ble_eq_true rfl)⟩ dX10_line_123 rfl (Nat.le_of_ble_eq_true rfl) (g_fni ?_)
              have e0 : f_X10_line σ x y = f_X10_oneIf (σ 29 x.toNatClampNeg) := by
                exact ((f_X10_line_eq _ _ _).trans ((if_neg h1).trans ((if_neg h2).trans ((if_neg h3).trans ((if_neg h4).trans ((if_neg h6).trans (if_pos h7)))))))
              exact hi _ _ _ _ _ _ rfl dX10_line_126 rfl ⟨(congrArg (fun z => some (Value.int z)) e0).symm, rfl, rfl⟩
            · skip
              by_cases h8 : y = 3
              · refine g_tableIn C (tgt := 127) (off := 93) dX10_line_34 (by rw [h8]; decide) (by rw [h8]; decide) (by rw [h8]; rfl) (by decide) ?_
                refine g_aload_n C (i := 0) dX10_line_127 rfl 0 rfl ?_
                refine gg_0_5 C fl_X10_47 dX10_line_128 ?_
                refine ggN_30_0 C fl_X10_218 dX10_line_131 ?_
                refine g_iload_n C (i := 1) dX10_line_134 rfl 1 rfl ?_
                refine ld_31 C (il_in h1) dX10_line_135 ?_
                have e0 : f_X10_line σ x y = σ 31 x.toNatClampNeg := by
                  exact ((f_X10_line_eq _ _ _).trans ((if_neg h1).trans ((if_neg h2).trans ((if_neg h3).trans ((if_neg h4).trans ((if_neg h6).trans ((if_neg h7).trans (if_pos h8))))))))
                exact hi _ _ _ _ _ _ rfl dX10_line_136 rfl ⟨(congrArg (fun z => some (Value.int z)) e0).symm, rfl, rfl⟩
              · skip
                by_cases h9 : y = 4
                · refine g_tableIn C (tgt := 137) (off := 103) dX10_line_34 (by rw [h9]; decide) (by rw [h9]; decide) (by rw [h9]; rfl) (by decide) ?_
                  refine g_aload_n C (i := 0) dX10_line_137 rfl 0 rfl ?_
                  refine gg_0_5 C fl_X10_47 dX10_line_138 ?_
                  refine ggN_30_1 C fl_X10_221 dX10_line_141 ?_
                  refine g_iload_n C (i := 1) dX10_line_144 rfl 1 rfl ?_
                  refine ld_32 C (il_in h1) dX10_line_145 ?_
                  have e0 : f_X10_line σ x y = σ 32 x.toNatClampNeg := by
                    exact ((f_X10_line_eq _ _ _).trans ((if_neg h1).trans ((if_neg h2).trans ((if_neg h3).trans ((if_neg h4).trans ((if_neg h6).trans ((if_neg h7).trans ((if_neg h8).trans (if_pos h9)))))))))
                  exact hi _ _ _ _ _ _ rfl dX10_line_146 rfl ⟨(congrArg (fun z => some (Value.int z)) e0).symm, rfl, rfl⟩
                · skip
                  by_cases h10 : y = 5
                  · refine g_tableIn C (tgt := 147) (off := 113) dX10_line_34 (by rw [h10]; decide) (by rw [h10]; decide) (by rw [h10]; rfl) (by decide) ?_
                    refine g_aload_n C (i := 0) dX10_line_147 rfl 0 rfl ?_
                    refine gg_0_5 C fl_X10_47 dX10_line_148 ?_
                    refine ggN_30_2 C fl_X10_224 dX10_line_151 ?_
                    refine g_iload_n C (i := 1) dX10_line_154 rfl 1 rfl ?_
                    refine ld_33 C (il_in h1) dX10_line_155 ?_
                    refine g_callS C (st := []) (c_X10_oneIf l D ad dA z0 tt σ φ (σ 33 x.toNatClampNeg)) rfl ml_X10_123 sm_X10_oneIf in_X10 co_X10_oneIf dyS_X10_oneIf rfl rfl ⟨(Nat.le_of_ble_eq_true rfl), (Nat.le_of_ble_eq_true rfl)⟩ dX10_line_156 rfl (Nat.le_of_ble_eq_true rfl) (g_fni ?_)
                    have e0 : f_X10_line σ x y = f_X10_oneIf (σ 33 x.toNatClampNeg) := by
                      exact ((f_X10_line_eq _ _ _).trans ((if_neg h1).trans ((if_neg h2).trans ((if_neg h3).trans ((if_neg h4).trans ((if_neg h6).trans ((if_neg h7).trans ((if_neg h8).trans ((if_neg h9).trans (if_pos h10))))))))))
                    exact hi _ _ _ _ _ _ rfl dX10_line_159 rfl ⟨(congrArg (fun z => some (Value.int z)) e0).symm, rfl, rfl⟩
                  · skip
                    by_cases h11 : y = 6
                    · refine g_tableIn C (tgt := 160) (off := 126) dX10_line_34 (by rw [h11]; decide) (by rw [h11]; decide) (by rw [h11]; rfl) (by decide) ?_
                      refine g_aload_n C (i := 0) dX10_line_160 rfl 0 rfl ?_
                      refine gg_0_5 C fl_X10_47 dX10_line_161 ?_
                      refine ggN_30_3 C fl_X10_227 dX10_line_164 ?_
                      refine g_iload_n C (i := 1) dX10_line_167 rfl 1 rfl ?_
                      refine ld_34 C (il_in h1) dX10_line_168 ?_
                      refine g_callS C (st := []) (c_X10_oneIf l D ad dA z0 tt σ φ (σ 34 x.toNatClampNeg)) rfl ml_X10_123 sm_X10_oneIf in_X10 co_X10_oneIf dyS_X10_oneIf rfl rfl ⟨(Nat.le_of_ble_eq_true rfl), (Nat.le_of_ble_eq_true rfl)⟩ dX10_line_169 rfl (Nat.le_of_ble_eq_true rfl) (g_fni ?_)
                      have e0 : f_X10_line σ x y = f_X10_oneIf (σ 34 x.toNatClampNeg) := by
                        exact ((f_X10_line_eq _ _ _).trans ((if_neg h1).trans ((if_neg h2).trans ((if_neg h3).trans ((if_neg h4).trans ((if_neg h6).trans ((if_neg h7).trans ((if_neg h8).trans ((if_neg h9).trans ((if_neg h10).trans (if_pos h11)))))))))))
                      exact hi _ _ _ _ _ _ rfl dX10_line_172 rfl ⟨(congrArg (fun z => some (Value.int z)) e0).symm, rfl, rfl⟩
                    · skip
                      refine g_tableOut C (tgt := 173) dX10_line_34 (by have nh4 := i32_ne (c := 0) (n := 0) rfl h4; have nh6 := i32_ne (c := 1) (n := 1) rfl h6; have nh7 := i32_ne (c := 2) (n := 2) rfl h7; have nh8 := i32_ne (c := 3) (n := 3) rfl h8; have nh9 := i32_ne (c := 4) (n := 4) rfl h9; have nh10 := i32_ne (c := 5) (n := 5) rfl h10; have nh11 := i32_ne (c := 6) (n := 6) rfl h11; omega) (by decide) ?_
                      refine g_aload_n C (i := 0) dX10_line_173 rfl 0 rfl ?_
                      refine gg_0_4 C fl_X10_40 dX10_line_174 ?_
                      refine ggN_25_2 C fl_X10_230 dX10_line_177 ?_
                      refine g_iload_n C (i := 1) dX10_line_180 rfl 1 rfl ?_
                      refine ld_28 C (il_in h1) dX10_line_181 ?_
                      have e0 : f_X10_line σ x y = σ 28 x.toNatClampNeg := by
                        exact ((f_X10_line_eq _ _ _).trans ((if_neg h1).trans ((if_neg h2).trans ((if_neg h3).trans ((if_neg h4).trans ((if_neg h6).trans ((if_neg h7).trans ((if_neg h8).trans ((if_neg h9).trans ((if_neg h10).trans (if_neg h11)))))))))))
                      exact hi _ _ _ _ _ _ rfl dX10_line_182 rfl ⟨(congrArg (fun z => some (Value.int z)) e0).symm, rfl, rfl⟩
      · refine g_ldc C kc_X10_214 dX10_line_30 ?_
        have e0 : f_X10_line σ x y = (-100004) := by
          exact ((f_X10_line_eq _ _ _).trans ((if_neg h1).trans ((if_neg h2).trans (if_pos h3))))
        exact hi _ _ _ _ _ _ rfl dX10_line_32 rfl ⟨(congrArg (fun z => some (Value.int z)) e0).symm, rfl, rfl⟩
    · refine g_ldc C kc_X10_88 dX10_line_20 ?_
      have e0 : f_X10_line σ x y = (-100002) := by
        exact ((f_X10_line_eq _ _ _).trans ((if_neg h1).trans (if_pos h2)))
      exact hi _ _ _ _ _ _ rfl dX10_line_22 rfl ⟨(congrArg (fun z => some (Value.int z)) e0).symm, rfl, rfl⟩
  · refine g_ldc C kc_X10_83 dX10_line_7 ?_
    have e0 : f_X10_line σ x y = (-100001) := by
      exact ((f_X10_line_eq _ _ _).trans (if_pos h1))
    exact hi _ _ _ _ _ _ rfl dX10_line_9 rfl ⟨(congrArg (fun z => some (Value.int z)) e0).symm, rfl, rfl⟩
def f_X10_luma (σ : Sg) (x : Int32) (y : Int32) : Int32 := if (f_X10_isPlace x y) = 0 then (-100001) else (let v1 : Int32 := (if (σ 0 10) = 0 then (-100004) else (σ 40 (f_X10_placeOf x y).toNatClampNeg)); v1)
theorem f_X10_luma_eq (σ : Sg) (x : Int32) (y : Int32) : f_X10_luma σ x y = (if (f_X10_isPlace x y) = 0 then (-100001) else (let v1 : Int32 := (if (σ 0 10) = 0 then (-100004) else (σ 40 (f_X10_placeOf x y).toNatClampNeg)); v1)) := rfl
set_option maxRecDepth 100000 in
set_option maxHeartbeats 4000000 in
theorem c_X10_luma (l : Launch) (D : va_G) (ad : Nat → Nat) (dA : Nat → ClassId) (z0 : Nat) (tt : Nat → Nat) (σ : Sg) (φ : Fl) (x : Int32) (y : Int32)  : MC l D ad dA z0 tt yX10_luma (Cond.code yX10_luma cX10_luma 3 (some .int) :: lw_all) { frames := 3, cells := 0, slots := 0, locals := 63 } [.ref (ad 0), .int x, .int y] σ φ (Fn (some (.int (f_X10_luma σ x y))) σ φ) := by
  refine mk_MC (by decide) (Nat.le_of_ble_eq_true rfl) ?_
  intro K C hi hf hv
  change K σ φ 0 [(0, .ref (ad 0)), (1, .int x), (2, .int y)] []
  refine g_iload_n C (i := 1) dX10_luma_0 rfl 1 rfl ?_
  refine g_iload_n C (i := 2) dX10_luma_1 rfl 2 rfl ?_
  refine g_callS C (st := []) (c_X10_isPlace l D ad dA z0 tt σ φ x y) rfl ml_X10_79 sm_X10_isPlace in_X10 co_X10_isPlace dyS_X10_isPlace rfl rfl ⟨(Nat.le_of_ble_eq_true rfl), (Nat.le_of_ble_eq_true rfl)⟩ dX10_luma_2 rfl (Nat.le_of_ble_eq_true rfl) (g_fni ?_)
  refine g_if_ne C (tgt := 11) dX10_luma_5 (by decide) (fun h1 => ?_) (fun h1 => ?_)
  · refine g_aload_n C (i := 0) dX10_luma_11 rfl 0 rfl ?_
    refine gg_0_10 C fl_X10_200 dX10_luma_12 ?_
    have J2 : ∀ (v1 : Int32), (if (σ 0 10) = 0 then (-100004) else (σ 40 (f_X10_placeOf x y).toNatClampNeg)) = v1 → K σ φ 36 [] [.int v1] := by
      intro v1 ev1
      have e0 : f_X10_luma σ x y = v1 := by
        subst ev1
        exact ((f_X10_luma_eq _ _ _).trans (if_neg h1))
      exact hi _ _ _ _ _ _ rfl dX10_luma_36 rfl ⟨(congrArg (fun z => some (Value.int z)) e0).symm, rfl, rfl⟩
    refine g_if_ne C (tgt := 23) dX10_luma_15 (by decide) (fun h2 => ?_) (fun h2 => ?_)
    · refine g_aload_n C (i := 0) dX10_luma_23 rfl 0 rfl ?_
      refine gg_0_7 C fl_X10_61 dX10_luma_24 ?_
      refine ggN_38_1 C fl_X10_196 dX10_luma_27 ?_
      refine g_iload_n C (i := 1) dX10_luma_30 rfl 1 rfl ?_
      refine g_iload_n C (i := 2) dX10_luma_31 rfl 2 rfl ?_
      refine g_callS C (st := [.ref (ad 40)]) (c_X10_placeOf l D ad dA z0 tt σ φ x y) rfl ml_X10_89 sm_X10_placeOf in_X10 co_X10_placeOf dyS_X10_placeOf rfl rfl ⟨(Nat.le_of_ble_eq_true rfl), (Nat.le_of_ble_eq_true rfl)⟩ dX10_luma_32 rfl (Nat.le_of_ble_eq_true rfl) (g_fni ?_)
      refine ld_40 C (ip_pl h1) dX10_luma_35 ?_
      refine g_loc C [] rfl ?_
      exact J2 _ ((if_neg h2))
    · refine g_ldc C kc_X10_214 dX10_luma_18 ?_
      refine g_goto C (tgt := 36) dX10_luma_20 (by decide) ?_
      refine g_loc C [] rfl ?_
      exact J2 _ ((if_pos h2))
  · refine g_ldc C kc_X10_83 dX10_luma_8 ?_
    have e0 : f_X10_luma σ x y = (-100001) := by
      exact ((f_X10_luma_eq _ _ _).trans (if_pos h1))
    exact hi _ _ _ _ _ _ rfl dX10_luma_10 rfl ⟨(congrArg (fun z => some (Value.int z)) e0).symm, rfl, rfl⟩
def f_X10_combed (σ : Sg) (x : Int32) (y : Int32) : Int32 := if (f_X10_isPlace x y) = 0 then (-100001) else (let v1 : Int32 := (if (σ 0 10) = 0 then (-100004) else (σ 41 (f_X10_placeOf x y).toNatClampNeg)); v1)
theorem f_X10_combed_eq (σ : Sg) (x : Int32) (y : Int32) : f_X10_combed σ x y = (if (f_X10_isPlace x y) = 0 then (-100001) else (let v1 : Int32 := (if (σ 0 10) = 0 then (-100004) else (σ 41 (f_X10_placeOf x y).toNatClampNeg)); v1)) := rfl
set_option maxRecDepth 100000 in
set_option maxHeartbeats 4000000 in
theorem c_X10_combed (l : Launch) (D : va_G) (ad : Nat → Nat) (dA : Nat → ClassId) (z0 : Nat) (tt : Nat → Nat) (σ : Sg) (φ : Fl) (x : Int32) (y : Int32)  : MC l D ad dA z0 tt yX10_combed (Cond.code yX10_combed cX10_combed 3 (some .int) :: lw_all) { frames := 3, cells := 0, slots := 0, locals := 63 } [.ref (ad 0), .int x, .int y] σ φ (Fn (some (.int (f_X10_combed σ x y))) σ φ) := by
  refine mk_MC (by decide) (Nat.le_of_ble_eq_true rfl) ?_
  intro K C hi hf hv
  change K σ φ 0 [(0, .ref (ad 0)), (1, .int x), (2, .int y)] []
  refine g_iload_n C (i := 1) dX10_combed_0 rfl 1 rfl ?_
  refine g_iload_n C (i := 2) dX10_combed_1 rfl 2 rfl ?_
  refine g_callS C (st := []) (c_X10_isPlace l D ad dA z0 tt σ φ x y) rfl ml_X10_79 sm_X10_isPlace in_X10 co_X10_isPlace dyS_X10_isPlace rfl rfl ⟨(Nat.le_of_ble_eq_true rfl), (Nat.le_of_ble_eq_true rfl)⟩ dX10_combed_2 rfl (Nat.le_of_ble_eq_true rfl) (g_fni ?_)
  refine g_if_ne C (tgt := 11) dX10_combed_5 (by decide) (fun h1 => ?_) (fun h1 => ?_)
  · refine g_aload_n C (i := 0) dX10_combed_11 rfl 0 rfl ?_
    refine gg_0_10 C fl_X10_200 dX10_combed_12 ?_
    have J2 : ∀ (v1 : Int32), (if (σ 0 10) = 0 then (-100004) else (σ 41 (f_X10_placeOf x y).toNatClampNeg)) = v1 → K σ φ 36 [] [.int v1] := by
      intro v1 ev1
      have e0 : f_X10_combed σ x y = v1 := by
        subst ev1
        exact ((f_X10_combed_eq _ _ _).trans (if_neg h1))
      exact hi _ _ _ _ _ _ rfl dX10_combed_36 rfl ⟨(congrArg (fun z => some (Value.int z)) e0).symm, rfl, rfl⟩
    refine g_if_ne C (tgt := 23) dX10_combed_15 (by decide) (fun h2 => ?_) (fun h2 => ?_)
    · refine g_aload_n C (i := 0) dX10_combed_23 rfl 0 rfl ?_
      refine gg_0_7 C fl_X10_61 dX10_combed_24 ?_
      refine ggN_38_2 C fl_X10_233 dX10_combed_27 ?_
      refine g_iload_n C (i := 1) dX10_combed_30 rfl 1 rfl ?_
      refine g_iload_n C (i := 2) dX10_combed_31 rfl 2 rfl ?_
      refine g_callS C (st := [.ref (ad 41)]) (c_X10_placeOf l D ad dA z0 tt σ φ x y) rfl ml_X10_89 sm_X10_placeOf in_X10 co_X10_placeOf dyS_X10_placeOf rfl rfl ⟨(Nat.le_of_ble_eq_true rfl), (Nat.le_of_ble_eq_true rfl)⟩ dX10_combed_32 rfl (Nat.le_of_ble_eq_true rfl) (g_fni ?_)
      refine ld_41 C (ip_pl h1) dX10_combed_35 ?_
      refine g_loc C [] rfl ?_
      exact J2 _ ((if_neg h2))
    · refine g_ldc C kc_X10_214 dX10_combed_18 ?_
      refine g_goto C (tgt := 36) dX10_combed_20 (by decide) ?_
      refine g_loc C [] rfl ?_
      exact J2 _ ((if_pos h2))
  · refine g_ldc C kc_X10_83 dX10_combed_8 ?_
    have e0 : f_X10_combed σ x y = (-100001) := by
      exact ((f_X10_combed_eq _ _ _).trans (if_pos h1))
    exact hi _ _ _ _ _ _ rfl dX10_combed_10 rfl ⟨(congrArg (fun z => some (Value.int z)) e0).symm, rfl, rfl⟩
def f_X10_motion (σ : Sg) (x : Int32) (y : Int32) : Int32 := if (f_X10_isPlace x y) = 0 then (-100001) else (let v1 : Int32 := (if 2 ≤ (σ 0 10) then (σ 52 (f_X10_placeOf x y).toNatClampNeg) else (-100004)); v1)
theorem f_X10_motion_eq (σ : Sg) (x : Int32) (y : Int32) : f_X10_motion σ x y = (if (f_X10_isPlace x y) = 0 then (-100001) else (let v1 : Int32 := (if 2 ≤ (σ 0 10) then (σ 52 (f_X10_placeOf x y).toNatClampNeg) else (-100004)); v1)) := rfl
set_option maxRecDepth 100000 in
set_option maxHeartbeats 4000000 in
theorem c_X10_motion (l : Launch) (D : va_G) (ad : Nat → Nat) (dA : Nat → ClassId) (z0 : Nat) (tt : Nat → Nat) (σ : Sg) (φ : Fl) (x : Int32) (y : Int32)  : MC l D ad dA z0 tt yX10_motion (Cond.code yX10_motion cX10_motion 3 (some .int) :: lw_all) { frames := 3, cells := 0, slots := 0, locals := 63 } [.ref (ad 0), .int x, .int y] σ φ (Fn (some (.int (f_X10_motion σ x y))) σ φ) := by
  refine mk_MC (by decide) (Nat.le_of_ble_eq_true rfl) ?_
  intro K C hi hf hv
  change K σ φ 0 [(0, .ref (ad 0)), (1, .int x), (2, .int y)] []
  refine g_iload_n C (i := 1) dX10_motion_0 rfl 1 rfl ?_
  refine g_iload_n C (i := 2) dX10_motion_1 rfl 2 rfl ?_
  refine g_callS C (st := []) (c_X10_isPlace l D ad dA z0 tt σ φ x y) rfl ml_X10_79 sm_X10_isPlace in_X10 co_X10_isPlace dyS_X10_isPlace rfl rfl ⟨(Nat.le_of_ble_eq_true rfl), (Nat.le_of_ble_eq_true rfl)⟩ dX10_motion_2 rfl (Nat.le_of_ble_eq_true rfl) (g_fni ?_)
  refine g_if_ne C (tgt := 11) dX10_motion_5 (by decide) (fun h1 => ?_) (fun h1 => ?_)
  · refine g_aload_n C (i := 0) dX10_motion_11 rfl 0 rfl ?_
    refine gg_0_10 C fl_X10_200 dX10_motion_12 ?_
    refine g_iconst C (v := 2) dX10_motion_15 (by decide) ?_
    have J2 : ∀ (v1 : Int32), (if 2 ≤ (σ 0 10) then (σ 52 (f_X10_placeOf x y).toNatClampNeg) else (-100004)) = v1 → K σ φ 37 [] [.int v1] := by
      intro v1 ev1
      have e0 : f_X10_motion σ x y = v1 := by
        subst ev1
        exact ((f_X10_motion_eq _ _ _).trans (if_neg h1))
      exact hi _ _ _ _ _ _ rfl dX10_motion_37 rfl ⟨(congrArg (fun z => some (Value.int z)) e0).symm, rfl, rfl⟩
    refine g_icmp_ge C (tgt := 24) dX10_motion_16 (by decide) (fun h2 => ?_) (fun h2 => ?_)
    · refine g_aload_n C (i := 0) dX10_motion_24 rfl 0 rfl ?_
      refine gg_0_9 C fl_X10_75 dX10_motion_25 ?_
      refine ggN_49_2 C fl_X10_248 dX10_motion_28 ?_
      refine g_iload_n C (i := 1) dX10_motion_31 rfl 1 rfl ?_
      refine g_iload_n C (i := 2) dX10_motion_32 rfl 2 rfl ?_
      refine g_callS C (st := [.ref (ad 52)]) (c_X10_placeOf l D ad dA z0 tt σ φ x y) rfl ml_X10_89 sm_X10_placeOf in_X10 co_X10_placeOf dyS_X10_placeOf rfl rfl ⟨(Nat.le_of_ble_eq_true rfl), (Nat.le_of_ble_eq_true rfl)⟩ dX10_motion_33 rfl (Nat.le_of_ble_eq_true rfl) (g_fni ?_)
      refine ld_52 C (ip_pl h1) dX10_motion_36 ?_
      refine g_loc C [] rfl ?_
      exact J2 _ ((if_pos h2))
    · refine g_ldc C kc_X10_214 dX10_motion_19 ?_
      refine g_goto C (tgt := 37) dX10_motion_21 (by decide) ?_
      refine g_loc C [] rfl ?_
      exact J2 _ ((if_neg h2))
  · refine g_ldc C kc_X10_83 dX10_motion_8 ?_
    have e0 : f_X10_motion σ x y = (-100001) := by
      exact ((f_X10_motion_eq _ _ _).trans (if_pos h1))
    exact hi _ _ _ _ _ _ rfl dX10_motion_10 rfl ⟨(congrArg (fun z => some (Value.int z)) e0).symm, rfl, rfl⟩
def f_X10_thousandths (σ : Sg) (φ : Fl) (x : Int32) (y : Int32) (w : Int32) : Int32 := if (f_X10_isPlace x y) = 0 then (-100001) else (if (f_X10_isWithin w 0 1) = 0 then (-100002) else (if (σ 0 10) = 0 then (-100004) else (let v1 : UInt32 := (if w = 0 then (φ 47 (f_X10_placeOf x y).toNatClampNeg) else (φ 48 (f_X10_placeOf x y).toNatClampNeg)); FP.f2i (FP.fmul v1 1148846080))))
theorem f_X10_thousandths_eq (σ : Sg) (φ : Fl) (x : Int32) (y : Int32) (w : Int32) : f_X10_thousandths σ φ x y w = (if (f_X10_isPlace x y) = 0 then (-100001) else (if (f_X10_isWithin w 0 1) = 0 then (-100002) else (if (σ 0 10) = 0 then (-100004) else (let v1 : UInt32 := (if w = 0 then (φ 47 (f_X10_placeOf x y).toNatClampNeg) else (φ 48 (f_X10_placeOf x y).toNatClampNeg)); FP.f2i (FP.fmul v1 1148846080))))) := rfl
set_option maxRecDepth 100000 in
set_option maxHeartbeats 4000000 in
theorem c_X10_thousandths (l : Launch) (D : va_G) (ad : Nat → Nat) (dA : Nat → ClassId) (z0 : Nat) (tt : Nat → Nat) (σ : Sg) (φ : Fl) (x : Int32) (y : Int32) (w : Int32)  : MC l D ad dA z0 tt yX10_thousandths (Cond.code yX10_thousandths cX10_thousandths 6 (some .int) :: lw_all) { frames := 3, cells := 0, slots := 0, locals := 63 } [.ref (ad 0), .int x, .int y, .int w] σ φ (Fn (some (.int (f_X10_thousandths σ φ x y w))) σ φ) := by
  refine mk_MC (by decide) (Nat.le_of_ble_eq_true rfl) ?_
  intro K C hi hf hv
  change K σ φ 0 [(0, .ref (ad 0)), (1, .int x), (2, .int y), (3, .int w)] []
  refine g_iload_n C (i := 1) dX10_thousandths_0 rfl 1 rfl ?_
  refine g_iload_n C (i := 2) dX10_thousandths_1 rfl 2 rfl ?_
  refine g_callS C (st := []) (c_X10_isPlace l D ad dA z0 tt σ φ x y) rfl ml_X10_79 sm_X10_isPlace in_X10 co_X10_isPlace dyS_X10_isPlace rfl rfl ⟨(Nat.le_of_ble_eq_true rfl), (Nat.le_of_ble_eq_true rfl)⟩ dX10_thousandths_2 rfl (Nat.le_of_ble_eq_true rfl) (g_fni ?_)
  refine g_if_ne C (tgt := 11) dX10_thousandths_5 (by decide) (fun h1 => ?_) (fun h1 => ?_)
  · refine g_iload_n C (i := 3) dX10_thousandths_11 rfl 3 rfl ?_
    refine g_iconst C (v := 0) dX10_thousandths_12 (by decide) ?_
    refine g_iconst C (v := 1) dX10_thousandths_13 (by decide) ?_
    refine g_callS C (st := []) (c_X10_isWithin l D ad dA z0 tt σ φ w 0 1) rfl ml_X10_105 sm_X10_isWithin in_X10 co_X10_isWithin dyS_X10_isWithin rfl rfl ⟨(Nat.le_of_ble_eq_true rfl), (Nat.le_of_ble_eq_true rfl)⟩ dX10_thousandths_14 rfl (Nat.le_of_ble_eq_true rfl) (g_fni ?_)
    refine g_if_ne C (tgt := 23) dX10_thousandths_17 (by decide) (fun h2 => ?_) (fun h2 => ?_)
    · refine g_aload_n C (i := 0) dX10_thousandths_23 rfl 0 rfl ?_
      refine gg_0_10 C fl_X10_200 dX10_thousandths_24 ?_
      refine g_if_ne C (tgt := 33) dX10_thousandths_27 (by decide) (fun h3 => ?_) (fun h3 => ?_)
      · refine g_iload_n C (i := 1) dX10_thousandths_33 rfl 1 rfl ?_
        refine g_iload_n C (i := 2) dX10_thousandths_34 rfl 2 rfl ?_
        refine g_callS C (st := []) (c_X10_placeOf l D ad dA z0 tt σ φ x y) rfl ml_X10_89 sm_X10_placeOf in_X10 co_X10_placeOf dyS_X10_placeOf rfl rfl ⟨(Nat.le_of_ble_eq_true rfl), (Nat.le_of_ble_eq_true rfl)⟩ dX10_thousandths_35 rfl (Nat.le_of_ble_eq_true rfl) (g_fni ?_)
        refine g_istore C (i := 4) (lv' := [(4, .int (f_X10_placeOf x y)), (0, .ref (ad 0)), (1, .int x), (2, .int y), (3, .int w)]) dX10_thousandths_38 (by decide) rfl ?_
        refine g_iload_n C (i := 3) dX10_thousandths_40 rfl 4 rfl ?_
        have J2 : ∀ (v1 : UInt32), (if w = 0 then (φ 47 (f_X10_placeOf x y).toNatClampNeg) else (φ 48 (f_X10_placeOf x y).toNatClampNeg)) = v1 → K σ φ 67 [] [.float v1] := by
          intro v1 ev1
          refine g_fstore C (i := 5) (lv' := [(5, .float v1)]) dX10_thousandths_67 (by decide) rfl ?_
          refine g_fload C (i := 5) dX10_thousandths_69 0 rfl ?_
          refine g_ldcf C kf_X10_243 dX10_thousandths_71 ?_
          refine g_fmul C dX10_thousandths_73 ?_
          refine g_f2i C dX10_thousandths_74 ?_
          have e0 : f_X10_thousandths σ φ x y w = FP.f2i (FP.fmul v1 1148846080) := by
            subst ev1
            exact ((f_X10_thousandths_eq _ _ _ _ _).trans ((if_neg h1).trans ((if_neg h2).trans (if_neg h3))))
          exact hi _ _ _ _ _ _ rfl dX10_thousandths_75 rfl ⟨(congrArg (fun z => some (Value.int z)) e0).symm, rfl, rfl⟩
        refine g_if_ne C (tgt := 57) dX10_thousandths_41 (by decide) (fun h4 => ?_) (fun h4 => ?_)
        · refine g_aload_n C (i := 0) dX10_thousandths_57 rfl 1 rfl ?_
          refine gg_0_8 C fl_X10_68 dX10_thousandths_58 ?_
          refine ggN_44_3 C fl_X10_240 dX10_thousandths_61 ?_
          refine g_iload C (i := 4) dX10_thousandths_64 0 rfl ?_
          refine ld_48 C (ip_pl h1) dX10_thousandths_66 ?_
          refine g_loc C [] rfl ?_
          exact J2 _ ((if_neg h4))
        · refine g_aload_n C (i := 0) dX10_thousandths_44 rfl 1 rfl ?_
          refine gg_0_8 C fl_X10_68 dX10_thousandths_45 ?_
          refine ggN_44_2 C fl_X10_236 dX10_thousandths_48 ?_
          refine g_iload C (i := 4) dX10_thousandths_51 0 rfl ?_
          refine ld_47 C (ip_pl h1) dX10_thousandths_53 ?_
          refine g_goto C (tgt := 67) dX10_thousandths_54 (by decide) ?_
          refine g_loc C [] rfl ?_
          exact J2 _ ((if_pos h4))
      · refine g_ldc C kc_X10_214 dX10_thousandths_30 ?_
        have e0 : f_X10_thousandths σ φ x y w = (-100004) := by
          exact ((f_X10_thousandths_eq _ _ _ _ _).trans ((if_neg h1).trans ((if_neg h2).trans (if_pos h3))))
        exact hi _ _ _ _ _ _ rfl dX10_thousandths_32 rfl ⟨(congrArg (fun z => some (Value.int z)) e0).symm, rfl, rfl⟩
    · refine g_ldc C kc_X10_88 dX10_thousandths_20 ?_
      have e0 : f_X10_thousandths σ φ x y w = (-100002) := by
        exact ((f_X10_thousandths_eq _ _ _ _ _).trans ((if_neg h1).trans (if_pos h2)))
      exact hi _ _ _ _ _ _ rfl dX10_thousandths_22 rfl ⟨(congrArg (fun z => some (Value.int z)) e0).symm, rfl, rfl⟩
  · refine g_ldc C kc_X10_83 dX10_thousandths_8 ?_
    have e0 : f_X10_thousandths σ φ x y w = (-100001) := by
      exact ((f_X10_thousandths_eq _ _ _ _ _).trans (if_pos h1))
    exact hi _ _ _ _ _ _ rfl dX10_thousandths_10 rfl ⟨(congrArg (fun z => some (Value.int z)) e0).symm, rfl, rfl⟩
def f_X10_countOfNow (σ : Sg) (x : Int32) : Int32 := if x = 13 then (σ 1 8) else (if x = 14 then (σ 10 1) else (let v1 : Int32 := (if (f_X10_isWithin (x - 15) 0 3) = 0 then (-100002) else (σ 14 (x - 15).toNatClampNeg)); v1))
theorem f_X10_countOfNow_eq (σ : Sg) (x : Int32) : f_X10_countOfNow σ x = (if x = 13 then (σ 1 8) else (if x = 14 then (σ 10 1) else (let v1 : Int32 := (if (f_X10_isWithin (x - 15) 0 3) = 0 then (-100002) else (σ 14 (x - 15).toNatClampNeg)); v1))) := rfl
set_option maxRecDepth 100000 in
set_option maxHeartbeats 4000000 in
theorem c_X10_countOfNow (l : Launch) (D : va_G) (ad : Nat → Nat) (dA : Nat → ClassId) (z0 : Nat) (tt : Nat → Nat) (σ : Sg) (φ : Fl) (x : Int32)  : MC l D ad dA z0 tt yX10_countOfNow (Cond.code yX10_countOfNow cX10_countOfNow 3 (some .int) :: lw_all) { frames := 1, cells := 0, slots := 0, locals := 22 } [.ref (ad 0), .int x] σ φ (Fn (some (.int (f_X10_countOfNow σ x))) σ φ) := by
  refine mk_MC (by decide) (Nat.le_of_ble_eq_true rfl) ?_
  intro K C hi hf hv
  change K σ φ 0 [(0, .ref (ad 0)), (1, .int x)] []
  refine g_iload_n C (i := 1) dX10_countOfNow_0 rfl 1 rfl ?_
  refine g_bipush C (v := 13) dX10_countOfNow_1 (by decide) ?_
  refine g_icmp_ne C (tgt := 14) dX10_countOfNow_3 (by decide) (fun h1 => ?_) (fun h1 => ?_)
  · refine g_iload_n C (i := 1) dX10_countOfNow_14 rfl 1 rfl ?_
    refine g_bipush C (v := 14) dX10_countOfNow_15 (by decide) ?_
    refine g_icmp_ne C (tgt := 28) dX10_countOfNow_17 (by decide) (fun h2 => ?_) (fun h2 => ?_)
    · refine g_iload_n C (i := 1) dX10_countOfNow_28 rfl 1 rfl ?_
      refine g_bipush C (v := 15) dX10_countOfNow_29 (by decide) ?_
      refine g_isub C dX10_countOfNow_31 ?_
      refine g_istore_n C (i := 2) (lv' := [(2, .int (x - 15)), (0, .ref (ad 0)), (1, .int x)]) dX10_countOfNow_32 rfl (by decide) rfl ?_
      refine g_iload_n C (i := 2) dX10_countOfNow_33 rfl 0 rfl ?_
      refine g_iconst C (v := 0) dX10_countOfNow_34 (by decide) ?_
      refine g_iconst C (v := 3) dX10_countOfNow_35 (by decide) ?_
      refine g_callS C (st := []) (c_X10_isWithin l D ad dA z0 tt σ φ (x - 15) 0 3) rfl ml_X10_105 sm_X10_isWithin in_X10 co_X10_isWithin dyS_X10_isWithin rfl rfl ⟨(Nat.le_of_ble_eq_true rfl), (Nat.le_of_ble_eq_true rfl)⟩ dX10_countOfNow_36 rfl (Nat.le_of_ble_eq_true rfl) (g_fni ?_)
      have J2 : ∀ (v1 : Int32), (if (f_X10_isWithin (x - 15) 0 3) = 0 then (-100002) else (σ 14 (x - 15).toNatClampNeg)) = v1 → K σ φ 56 [] [.int v1] := by
        intro v1 ev1
        have e0 : f_X10_countOfNow σ x = v1 := by
          subst ev1
          exact ((f_X10_countOfNow_eq _ _).trans ((if_neg h1).trans (if_neg h2)))
        exact hi _ _ _ _ _ _ rfl dX10_countOfNow_56 rfl ⟨(congrArg (fun z => some (Value.int z)) e0).symm, rfl, rfl⟩
      refine g_if_eq C (tgt := 54) dX10_countOfNow_39 (by decide) (fun h3 => ?_) (fun h3 => ?_)
      · refine g_ldc C kc_X10_88 dX10_countOfNow_54 ?_
        refine g_loc C [] rfl ?_
        exact J2 _ ((if_pos h3))
      · refine g_aload_n C (i := 0) dX10_countOfNow_42 rfl 1 rfl ?_
        refine gg_0_2 C fl_X10_26 dX10_countOfNow_43 ?_
        refine ggN_13_0 C fl_X10_156 dX10_countOfNow_46 ?_
        refine g_iload_n C (i := 2) dX10_countOfNow_49 rfl 0 rfl ?_
        refine ld_14 C (iw_in (m := 3) rfl h3) dX10_countOfNow_50 ?_
        refine g_goto C (tgt := 56) dX10_countOfNow_51 (by decide) ?_
        refine g_loc C [] rfl ?_
        exact J2 _ ((if_neg h3))
    · refine g_aload_n C (i := 0) dX10_countOfNow_20 rfl 0 rfl ?_
      refine gg_0_1 C fl_X10_19 dX10_countOfNow_21 ?_
      refine ggN_10_1 C fl_X10_135 dX10_countOfNow_24 ?_
      have e0 : f_X10_countOfNow σ x = σ 10 1 := by
        exact ((f_X10_countOfNow_eq _ _).trans ((if_neg h1).trans (if_pos h2)))
      exact hi _ _ _ _ _ _ rfl dX10_countOfNow_27 rfl ⟨(congrArg (fun z => some (Value.int z)) e0).symm, rfl, rfl⟩
  · refine g_aload_n C (i := 0) dX10_countOfNow_6 rfl 0 rfl ?_
    refine gg_0_0 C fl_X10_10 dX10_countOfNow_7 ?_
    refine ggN_1_8 C fl_X10_127 dX10_countOfNow_10 ?_
    have e0 : f_X10_countOfNow σ x = σ 1 8 := by
      exact ((f_X10_countOfNow_eq _ _).trans (if_pos h1))
    exact hi _ _ _ _ _ _ rfl dX10_countOfNow_13 rfl ⟨(congrArg (fun z => some (Value.int z)) e0).symm, rfl, rfl⟩
def b_X10_wrongLumas_4 (σ : Sg) (j1 : Nat) (s1 : Int32) : Int32 := let v2 : Int32 := (if (σ 40 (nI j1).toNatClampNeg) = (σ 2 (nI j1).toNatClampNeg) then 0 else 1); s1 + (f_X10_oneIf v2)
theorem b_X10_wrongLumas_4_eq (σ : Sg) (j1 : Nat) (s1 : Int32) : b_X10_wrongLumas_4 σ j1 s1 = (let v2 : Int32 := (if (σ 40 (nI j1).toNatClampNeg) = (σ 2 (nI j1).toNatClampNeg) then 0 else 1); s1 + (f_X10_oneIf v2)) := rfl
def f_X10_wrongLumas (σ : Sg) : Int32 := let t1 : Int32 := loopF (b_X10_wrongLumas_4 σ) 80 0; t1
theorem f_X10_wrongLumas_eq (σ : Sg) : f_X10_wrongLumas σ = (let t1 : Int32 := loopF (b_X10_wrongLumas_4 σ) 80 0; t1) := rfl
set_option maxRecDepth 100000 in
set_option maxHeartbeats 4000000 in
theorem c_X10_wrongLumas (l : Launch) (D : va_G) (ad : Nat → Nat) (dA : Nat → ClassId) (z0 : Nat) (tt : Nat → Nat) (σ : Sg) (φ : Fl)   : MC l D ad dA z0 tt yX10_wrongLumas (Cond.code yX10_wrongLumas cX10_wrongLumas 3 (some .int) :: lw_all) { frames := 1, cells := 0, slots := 0, locals := 20 } [.ref (ad 0)] σ φ (Fn (some (.int (f_X10_wrongLumas σ))) σ φ) := by
  refine mk_MC (by decide) (Nat.le_of_ble_eq_true rfl) ?_
  intro K C hi hf hv
  change K σ φ 0 [(0, .ref (ad 0))] []
  refine g_iconst C (v := 0) dX10_wrongLumas_0 (by decide) ?_
  refine g_istore_n C (i := 1) (lv' := [(1, .int 0), (0, .ref (ad 0))]) dX10_wrongLumas_1 rfl (by decide) rfl ?_
  refine g_iconst C (v := 0) dX10_wrongLumas_2 (by decide) ?_
  refine g_istore_n C (i := 2) (lv' := [(2, .int 0), (1, .int 0), (0, .ref (ad 0))]) dX10_wrongLumas_3 rfl (by decide) rfl ?_
  refine g_loc C (lv' := [(0, .ref (ad 0)), (1, .int 0), (2, .int 0)]) [2, 1, 0] rfl ?_
  refine loopF_ind (b_X10_wrongLumas_4 σ) 80 (fun (j1 : Nat) (s1 : Int32) => K σ φ 4 [(0, .ref (ad 0)), (1, .int s1), (2, .int (nI j1))] []) 0 ?_ ?_
  · intro j1 s1 hj1 kk
    change K σ φ 4 [(0, .ref (ad 0)), (1, .int s1), (2, .int (nI j1))] []
    refine g_iload_n C (i := 2) dX10_wrongLumas_4 rfl 2 rfl ?_
    refine g_bipush C (v := 80) dX10_wrongLumas_5 (by decide) ?_
    refine g_icmp_ge C (tgt := 48) dX10_wrongLumas_7 (by decide) (fun h1 => ?_) (fun h1 => ?_)
    · exact absurd h1 (nI_ge hj1 (by decide))
    · refine g_iload_n C (i := 1) dX10_wrongLumas_10 rfl 1 rfl ?_
      refine g_aload_n C (i := 0) dX10_wrongLumas_11 rfl 0 rfl ?_
      refine gg_0_7 C fl_X10_61 dX10_wrongLumas_12 ?_
      refine ggN_38_1 C fl_X10_196 dX10_wrongLumas_15 ?_
      refine g_iload_n C (i := 2) dX10_wrongLumas_18 rfl 2 rfl ?_
      refine ld_40 C (vp_in_nI (Nat.lt_of_lt_of_le hj1 (by decide)) (by decide)) dX10_wrongLumas_19 ?_
      refine g_aload_n C (i := 0) dX10_wrongLumas_20 rfl 0 rfl ?_
      refine gg_0_0 C fl_X10_10 dX10_wrongLumas_21 ?_
      refine ggN_1_0 C fl_X10_93 dX10_wrongLumas_24 ?_
      refine g_iload_n C (i := 2) dX10_wrongLumas_27 rfl 2 rfl ?_
      refine ld_2 C (vp_in_nI (Nat.lt_of_lt_of_le hj1 (by decide)) (by decide)) dX10_wrongLumas_28 ?_
      have J3 : ∀ (v2 : Int32), (if (σ 40 (nI j1).toNatClampNeg) = (σ 2 (nI j1).toNatClampNeg) then 0 else 1) = v2 → K σ φ 37 [(0, .ref (ad 0)), (2, .int (nI j1))] [.int v2, .int s1] := by
        intro v2 ev2
        refine g_callS C (st := [.int s1]) (c_X10_oneIf l D ad dA z0 tt σ φ v2) rfl ml_X10_123 sm_X10_oneIf in_X10 co_X10_oneIf dyS_X10_oneIf rfl rfl ⟨(Nat.le_of_ble_eq_true rfl), (Nat.le_of_ble_eq_true rfl)⟩ dX10_wrongLumas_37 rfl (Nat.le_of_ble_eq_true rfl) (g_fni ?_)
        refine g_iadd C dX10_wrongLumas_40 ?_
        refine g_istore_n C (i := 1) (lv' := [(1, .int (s1 + (f_X10_oneIf v2))), (0, .ref (ad 0)), (2, .int (nI j1))]) dX10_wrongLumas_41 rfl (by decide) rfl ?_
        refine g_iinc C (i := 2) (v := nI (j1 + 1)) (lv' := [(2, .int (nI (j1 + 1))), (1, .int (s1 + (f_X10_oneIf v2))), (0, .ref (ad 0))]) dX10_wrongLumas_42 2 rfl (nI_1 _) (by decide) rfl ?_
        refine g_goto C (tgt := 4) dX10_wrongLumas_45 (by decide) ?_
        refine g_loc C [2, 1, 0] rfl ?_
        refine kk (s1 + (f_X10_oneIf v2)) ?_
        subst ev2
        exact b_X10_wrongLumas_4_eq _ _ _
      refine g_icmp_eq C (tgt := 36) dX10_wrongLumas_29 (by decide) (fun h2 => ?_) (fun h2 => ?_)
      · refine g_iconst C (v := 0) dX10_wrongLumas_36 (by decide) ?_
        refine g_loc C [0, 2] rfl ?_
        exact J3 _ ((if_pos h2))
      · refine g_iconst C (v := 1) dX10_wrongLumas_32 (by decide) ?_
        refine g_goto C (tgt := 37) dX10_wrongLumas_33 (by decide) ?_
        refine g_loc C [0, 2] rfl ?_
        exact J3 _ ((if_neg h2))
  · generalize et1 : loopF (b_X10_wrongLumas_4 σ) 80 0 = t1
    change K σ φ 4 [(0, .ref (ad 0)), (1, .int t1), (2, .int (nI 80))] []
    refine g_iload_n C (i := 2) dX10_wrongLumas_4 rfl 2 rfl ?_
    refine g_bipush C (v := 80) dX10_wrongLumas_5 (by decide) ?_
    refine g_icmp_ge C (tgt := 48) dX10_wrongLumas_7 (by decide) (fun h3 => ?_) (fun h3 => ?_)
    · refine g_iload_n C (i := 1) dX10_wrongLumas_48 rfl 1 rfl ?_
      have e0 : f_X10_wrongLumas σ = t1 := by
        subst et1
        exact f_X10_wrongLumas_eq _
      exact hi _ _ _ _ _ _ rfl dX10_wrongLumas_49 rfl ⟨(congrArg (fun z => some (Value.int z)) e0).symm, rfl, rfl⟩
    · exact absurd (nI_le (Nat.le_refl _) (by decide)) h3
def b_X10_lumaDifferences_4 (σ : Sg) (j1 : Nat) (s1 : Int32) : Int32 := let v2 : Int32 := s1 + (i_abs ((σ 40 (nI j1).toNatClampNeg) - (σ 2 (nI j1).toNatClampNeg))); v2
theorem b_X10_lumaDifferences_4_eq (σ : Sg) (j1 : Nat) (s1 : Int32) : b_X10_lumaDifferences_4 σ j1 s1 = (let v2 : Int32 := s1 + (i_abs ((σ 40 (nI j1).toNatClampNeg) - (σ 2 (nI j1).toNatClampNeg))); v2) := rfl
def f_X10_lumaDifferences (σ : Sg) : Int32 := let t1 : Int32 := loopF (b_X10_lumaDifferences_4 σ) 80 0; t1
theorem f_X10_lumaDifferences_eq (σ : Sg) : f_X10_lumaDifferences σ = (let t1 : Int32 := loopF (b_X10_lumaDifferences_4 σ) 80 0; t1) := rfl
set_option maxRecDepth 100000 in
set_option maxHeartbeats 4000000 in
theorem c_X10_lumaDifferences (l : Launch) (D : va_G) (ad : Nat → Nat) (dA : Nat → ClassId) (z0 : Nat) (tt : Nat → Nat) (σ : Sg) (φ : Fl)   : MC l D ad dA z0 tt yX10_lumaDifferences (Cond.code yX10_lumaDifferences cX10_lumaDifferences 3 (some .int) :: lw_all) { frames := 1, cells := 0, slots := 0, locals := 40 } [.ref (ad 0)] σ φ (Fn (some (.int (f_X10_lumaDifferences σ))) σ φ) := by
  refine mk_MC (by decide) (Nat.le_of_ble_eq_true rfl) ?_
  intro K C hi hf hv
  change K σ φ 0 [(0, .ref (ad 0))] []
  refine g_iconst C (v := 0) dX10_lumaDifferences_0 (by decide) ?_
  refine g_istore_n C (i := 1) (lv' := [(1, .int 0), (0, .ref (ad 0))]) dX10_lumaDifferences_1 rfl (by decide) rfl ?_
  refine g_iconst C (v := 0) dX10_lumaDifferences_2 (by decide) ?_
  refine g_istore_n C (i := 2) (lv' := [(2, .int 0), (1, .int 0), (0, .ref (ad 0))]) dX10_lumaDifferences_3 rfl (by decide) rfl ?_
  refine g_loc C (lv' := [(0, .ref (ad 0)), (1, .int 0), (2, .int 0)]) [2, 1, 0] rfl ?_
  refine loopF_ind (b_X10_lumaDifferences_4 σ) 80 (fun (j1 : Nat) (s1 : Int32) => K σ φ 4 [(0, .ref (ad 0)), (1, .int s1), (2, .int (nI j1))] []) 0 ?_ ?_
  · intro j1 s1 hj1 kk
    change K σ φ 4 [(0, .ref (ad 0)), (1, .int s1), (2, .int (nI j1))] []
    refine g_iload_n C (i := 2) dX10_lumaDifferences_4 rfl 2 rfl ?_
    refine g_bipush C (v := 80) dX10_lumaDifferences_5 (by decide) ?_
    refine g_icmp_ge C (tgt := 41) dX10_lumaDifferences_7 (by decide) (fun h1 => ?_) (fun h1 => ?_)
    · exact absurd h1 (nI_ge hj1 (by decide))
    · refine g_iload_n C (i := 1) dX10_lumaDifferences_10 rfl 1 rfl ?_
      refine g_aload_n C (i := 0) dX10_lumaDifferences_11 rfl 0 rfl ?_
      refine gg_0_7 C fl_X10_61 dX10_lumaDifferences_12 ?_
      refine ggN_38_1 C fl_X10_196 dX10_lumaDifferences_15 ?_
      refine g_iload_n C (i := 2) dX10_lumaDifferences_18 rfl 2 rfl ?_
      refine ld_40 C (vp_in_nI (Nat.lt_of_lt_of_le hj1 (by decide)) (by decide)) dX10_lumaDifferences_19 ?_
      refine g_aload_n C (i := 0) dX10_lumaDifferences_20 rfl 0 rfl ?_
      refine gg_0_0 C fl_X10_10 dX10_lumaDifferences_21 ?_
      refine ggN_1_0 C fl_X10_93 dX10_lumaDifferences_24 ?_
      refine g_iload_n C (i := 2) dX10_lumaDifferences_27 rfl 2 rfl ?_
      refine ld_2 C (vp_in_nI (Nat.lt_of_lt_of_le hj1 (by decide)) (by decide)) dX10_lumaDifferences_28 ?_
      refine g_isub C dX10_lumaDifferences_29 ?_
      refine g_abs C ml_X10_272 sm_abs in_J9 co_abs (Nat.le_of_ble_eq_true rfl) (Nat.le_of_ble_eq_true rfl) dX10_lumaDifferences_30 ?_
      refine g_absn C ?_
      refine g_iadd C dX10_lumaDifferences_33 ?_
      refine g_nmi C (fun v2 ev2 => ?_)
      refine g_istore_n C (i := 1) (lv' := [(1, .int v2), (0, .ref (ad 0)), (2, .int (nI j1))]) dX10_lumaDifferences_34 rfl (by decide) rfl ?_
      refine g_iinc C (i := 2) (v := nI (j1 + 1)) (lv' := [(2, .int (nI (j1 + 1))), (1, .int v2), (0, .ref (ad 0))]) dX10_lumaDifferences_35 2 rfl (nI_1 _) (by decide) rfl ?_
      refine g_goto C (tgt := 4) dX10_lumaDifferences_38 (by decide) ?_
      refine g_loc C [2, 1, 0] rfl ?_
      refine kk v2 ?_
      subst ev2
      exact b_X10_lumaDifferences_4_eq _ _ _
  · generalize et1 : loopF (b_X10_lumaDifferences_4 σ) 80 0 = t1
    change K σ φ 4 [(0, .ref (ad 0)), (1, .int t1), (2, .int (nI 80))] []
    refine g_iload_n C (i := 2) dX10_lumaDifferences_4 rfl 2 rfl ?_
    refine g_bipush C (v := 80) dX10_lumaDifferences_5 (by decide) ?_
    refine g_icmp_ge C (tgt := 41) dX10_lumaDifferences_7 (by decide) (fun h2 => ?_) (fun h2 => ?_)
    · refine g_iload_n C (i := 1) dX10_lumaDifferences_41 rfl 1 rfl ?_
      have e0 : f_X10_lumaDifferences σ = t1 := by
        subst et1
        exact f_X10_lumaDifferences_eq _
      exact hi _ _ _ _ _ _ rfl dX10_lumaDifferences_42 rfl ⟨(congrArg (fun z => some (Value.int z)) e0).symm, rfl, rfl⟩
    · exact absurd (nI_le (Nat.le_refl _) (by decide)) h2
def f_X10_countOfDecoding (σ : Sg) (x : Int32) : Int32 := if x = 1 then (f_X1_guessedStandard σ) else (if x = 2 then (σ 30 4) else (if x = 3 then (σ 30 5) else (if x = 4 then (f_X10_tally_34 σ) else (if x = 5 then (f_X10_wrongLumas σ) else (if x = 6 then (f_X10_lumaDifferences σ) else (if x = 7 then (f_X10_tally__52 σ 2) else (if x = 8 then (f_X10_tally__52 σ 1) else (f_X10_tally__41 σ (x - 9)))))))))
theorem f_X10_countOfDecoding_eq (σ : Sg) (x : Int32) : f_X10_countOfDecoding σ x = (if x = 1 then (f_X1_guessedStandard σ) else (if x = 2 then (σ 30 4) else (if x = 3 then (σ 30 5) else (if x = 4 then (f_X10_tally_34 σ) else (if x = 5 then (f_X10_wrongLumas σ) else (if x = 6 then (f_X10_lumaDifferences σ) else (if x = 7 then (f_X10_tally__52 σ 2) else (if x = 8 then (f_X10_tally__52 σ 1) else (f_X10_tally__41 σ (x - 9)))))))))) := rfl
set_option maxRecDepth 100000 in
set_option maxHeartbeats 4000000 in
theorem c_X10_countOfDecoding (l : Launch) (D : va_G) (ad : Nat → Nat) (dA : Nat → ClassId) (z0 : Nat) (tt : Nat → Nat) (σ : Sg) (φ : Fl) (x : Int32)  : MC l D ad dA z0 tt yX10_countOfDecoding (Cond.code yX10_countOfDecoding cX10_countOfDecoding 2 (some .int) :: lw_all) { frames := 2, cells := 0, slots := 0, locals := 62 } [.ref (ad 0), .int x] σ φ (Fn (some (.int (f_X10_countOfDecoding σ x))) σ φ) := by
  refine mk_MC (by decide) (Nat.le_of_ble_eq_true rfl) ?_
  intro K C hi hf hv
  change K σ φ 0 [(0, .ref (ad 0)), (1, .int x)] []
  refine g_iload_n C (i := 1) dX10_countOfDecoding_0 rfl 1 rfl ?_
  by_cases h1 : x = 1
  · refine g_tableIn C (tgt := 48) (off := 47) dX10_countOfDecoding_1 (by rw [h1]; decide) (by rw [h1]; decide) (by rw [h1]; rfl) (by decide) ?_
    refine g_aload_n C (i := 0) dX10_countOfDecoding_48 rfl 0 rfl ?_
    refine gg_0_5 C fl_X10_47 dX10_countOfDecoding_49 ?_
    refine g_callV C (st := []) (c_X1_guessedStandard l D ad dA z0 tt σ φ ) rfl ml_X10_177 im_X1_guessedStandard se_X1_guessedStandard in_X1 co_X1_guessedStandard dyV_X1_guessedStandard rfl rfl ⟨(Nat.le_of_ble_eq_true rfl), (Nat.le_of_ble_eq_true rfl)⟩ 30 1 (fun f => at_30 ad dA σ f) rfl dX10_countOfDecoding_52 rfl (Nat.le_of_ble_eq_true rfl) (g_fni ?_)
    have e0 : f_X10_countOfDecoding σ x = f_X1_guessedStandard σ := by
      exact ((f_X10_countOfDecoding_eq _ _).trans (if_pos h1))
    exact hi _ _ _ _ _ _ rfl dX10_countOfDecoding_55 rfl ⟨(congrArg (fun z => some (Value.int z)) e0).symm, rfl, rfl⟩
  · skip
    by_cases h2 : x = 2
    · refine g_tableIn C (tgt := 56) (off := 55) dX10_countOfDecoding_1 (by rw [h2]; decide) (by rw [h2]; decide) (by rw [h2]; rfl) (by decide) ?_
      refine g_aload_n C (i := 0) dX10_countOfDecoding_56 rfl 0 rfl ?_
      refine gg_0_5 C fl_X10_47 dX10_countOfDecoding_57 ?_
      refine ggN_30_4 C fl_X10_257 dX10_countOfDecoding_60 ?_
      have e0 : f_X10_countOfDecoding σ x = σ 30 4 := by
        exact ((f_X10_countOfDecoding_eq _ _).trans ((if_neg h1).trans (if_pos h2)))
      exact hi _ _ _ _ _ _ rfl dX10_countOfDecoding_63 rfl ⟨(congrArg (fun z => some (Value.int z)) e0).symm, rfl, rfl⟩
    · skip
      by_cases h3 : x = 3
      · refine g_tableIn C (tgt := 64) (off := 63) dX10_countOfDecoding_1 (by rw [h3]; decide) (by rw [h3]; decide) (by rw [h3]; rfl) (by decide) ?_
        refine g_aload_n C (i := 0) dX10_countOfDecoding_64 rfl 0 rfl ?_
        refine gg_0_5 C fl_X10_47 dX10_countOfDecoding_65 ?_
        refine ggN_30_5 C fl_X10_260 dX10_countOfDecoding_68 ?_
        have e0 : f_X10_countOfDecoding σ x = σ 30 5 := by
          exact ((f_X10_countOfDecoding_eq _ _).trans ((if_neg h1).trans ((if_neg h2).trans (if_pos h3))))
        exact hi _ _ _ _ _ _ rfl dX10_countOfDecoding_71 rfl ⟨(congrArg (fun z => some (Value.int z)) e0).symm, rfl, rfl⟩
      · skip
        by_cases h4 : x = 4
        · refine g_tableIn C (tgt := 72) (off := 71) dX10_countOfDecoding_1 (by rw [h4]; decide) (by rw [h4]; decide) (by rw [h4]; rfl) (by decide) ?_
          refine g_aload_n C (i := 0) dX10_countOfDecoding_72 rfl 0 rfl ?_
          refine gg_0_5 C fl_X10_47 dX10_countOfDecoding_73 ?_
          refine ggN_30_3 C fl_X10_227 dX10_countOfDecoding_76 ?_
          refine g_callS C (st := []) (c_X10_tally_34 l D ad dA z0 tt σ φ ) rfl ml_X10_210 sm_X10_tally in_X10 co_X10_tally dyS_X10_tally rfl rfl ⟨(Nat.le_of_ble_eq_true rfl), (Nat.le_of_ble_eq_true rfl)⟩ dX10_countOfDecoding_79 rfl (Nat.le_of_ble_eq_true rfl) (g_fni ?_)
          have e0 : f_X10_countOfDecoding σ x = f_X10_tally_34 σ := by
            exact ((f_X10_countOfDecoding_eq _ _).trans ((if_neg h1).trans ((if_neg h2).trans ((if_neg h3).trans (if_pos h4)))))
          exact hi _ _ _ _ _ _ rfl dX10_countOfDecoding_82 rfl ⟨(congrArg (fun z => some (Value.int z)) e0).symm, rfl, rfl⟩
        · skip
          by_cases h5 : x = 5
          · refine g_tableIn C (tgt := 83) (off := 82) dX10_countOfDecoding_1 (by rw [h5]; decide) (by rw [h5]; decide) (by rw [h5]; rfl) (by decide) ?_
            refine g_aload_n C (i := 0) dX10_countOfDecoding_83 rfl 0 rfl ?_
            refine g_callV C (st := []) (c_X10_wrongLumas l D ad dA z0 tt σ φ ) rfl ml_X10_263 im_X10_wrongLumas se_X10_wrongLumas in_X10 co_X10_wrongLumas dyV_X10_wrongLumas rfl rfl ⟨(Nat.le_of_ble_eq_true rfl), (Nat.le_of_ble_eq_true rfl)⟩ 0 10 (fun f => at_0 ad dA σ f) rfl dX10_countOfDecoding_84 rfl (Nat.le_of_ble_eq_true rfl) (g_fni ?_)
            have e0 : f_X10_countOfDecoding σ x = f_X10_wrongLumas σ := by
              exact ((f_X10_countOfDecoding_eq _ _).trans ((if_neg h1).trans ((if_neg h2).trans ((if_neg h3).trans ((if_neg h4).trans (if_pos h5))))))
            exact hi _ _ _ _ _ _ rfl dX10_countOfDecoding_87 rfl ⟨(congrArg (fun z => some (Value.int z)) e0).symm, rfl, rfl⟩
          · skip
            by_cases h6 : x = 6
            · refine g_tableIn C (tgt := 88) (off := 87) dX10_countOfDecoding_1 (by rw [h6]; decide) (by rw [h6]; decide) (by rw [h6]; rfl) (by decide) ?_
              refine g_aload_n C (i := 0) dX10_countOfDecoding_88 rfl 0 rfl ?_
              refine g_callV C (st := []) (c_X10_lumaDifferences l D ad dA z0 tt σ φ ) rfl ml_X10_266 im_X10_lumaDifferences se_X10_lumaDifferences in_X10 co_X10_lumaDifferences dyV_X10_lumaDifferences rfl rfl ⟨(Nat.le_of_ble_eq_true rfl), (Nat.le_of_ble_eq_true rfl)⟩ 0 10 (fun f => at_0 ad dA σ f) rfl dX10_countOfDecoding_89 rfl (Nat.le_of_ble_eq_true rfl) (g_fni ?_)
              have e0 : f_X10_countOfDecoding σ x = f_X10_lumaDifferences σ := by
                exact ((f_X10_countOfDecoding_eq _ _).trans ((if_neg h1).trans ((if_neg h2).trans ((if_neg h3).trans ((if_neg h4).trans ((if_neg h5).trans (if_pos h6)))))))
              exact hi _ _ _ _ _ _ rfl dX10_countOfDecoding_92 rfl ⟨(congrArg (fun z => some (Value.int z)) e0).symm, rfl, rfl⟩
            · skip
              by_cases h7 : x = 7
              · refine g_tableIn C (tgt := 93) (off := 92) dX10_countOfDecoding_1 (by rw [h7]; decide) (by rw [h7]; decide) (by rw [h7]; rfl) (by decide) ?_
                refine g_aload_n C (i := 0) dX10_countOfDecoding_93 rfl 0 rfl ?_
                refine gg_0_9 C fl_X10_75 dX10_countOfDecoding_94 ?_
                refine ggN_49_2 C fl_X10_248 dX10_countOfDecoding_97 ?_
                refine g_iconst C (v := 2) dX10_countOfDecoding_100 (by decide) ?_
                refine g_callS C (st := []) (c_X10_tally__52 l D ad dA z0 tt σ φ 2) rfl ml_X10_269 sm_X10_tally_ in_X10 co_X10_tally_ dyS_X10_tally_ rfl rfl ⟨(Nat.le_of_ble_eq_true rfl), (Nat.le_of_ble_eq_true rfl)⟩ dX10_countOfDecoding_101 rfl (Nat.le_of_ble_eq_true rfl) (g_fni ?_)
                have e0 : f_X10_countOfDecoding σ x = f_X10_tally__52 σ 2 := by
                  exact ((f_X10_countOfDecoding_eq _ _).trans ((if_neg h1).trans ((if_neg h2).trans ((if_neg h3).trans ((if_neg h4).trans ((if_neg h5).trans ((if_neg h6).trans (if_pos h7))))))))
                exact hi _ _ _ _ _ _ rfl dX10_countOfDecoding_104 rfl ⟨(congrArg (fun z => some (Value.int z)) e0).symm, rfl, rfl⟩
              · skip
                by_cases h8 : x = 8
                · refine g_tableIn C (tgt := 105) (off := 104) dX10_countOfDecoding_1 (by rw [h8]; decide) (by rw [h8]; decide) (by rw [h8]; rfl) (by decide) ?_
                  refine g_aload_n C (i := 0) dX10_countOfDecoding_105 rfl 0 rfl ?_
                  refine gg_0_9 C fl_X10_75 dX10_countOfDecoding_106 ?_
                  refine ggN_49_2 C fl_X10_248 dX10_countOfDecoding_109 ?_
                  refine g_iconst C (v := 1) dX10_countOfDecoding_112 (by decide) ?_
                  refine g_callS C (st := []) (c_X10_tally__52 l D ad dA z0 tt σ φ 1) rfl ml_X10_269 sm_X10_tally_ in_X10 co_X10_tally_ dyS_X10_tally_ rfl rfl ⟨(Nat.le_of_ble_eq_true rfl), (Nat.le_of_ble_eq_true rfl)⟩ dX10_countOfDecoding_113 rfl (Nat.le_of_ble_eq_true rfl) (g_fni ?_)
                  have e0 : f_X10_countOfDecoding σ x = f_X10_tally__52 σ 1 := by
                    exact ((f_X10_countOfDecoding_eq _ _).trans ((if_neg h1).trans ((if_neg h2).trans ((if_neg h3).trans ((if_neg h4).trans ((if_neg h5).trans ((if_neg h6).trans ((if_neg h7).trans (if_pos h8)))))))))
                  exact hi _ _ _ _ _ _ rfl dX10_countOfDecoding_116 rfl ⟨(congrArg (fun z => some (Value.int z)) e0).symm, rfl, rfl⟩
                · skip
                  refine g_tableOut C (tgt := 117) dX10_countOfDecoding_1 (by have nh1 := i32_ne (c := 1) (n := 1) rfl h1; have nh2 := i32_ne (c := 2) (n := 2) rfl h2; have nh3 := i32_ne (c := 3) (n := 3) rfl h3; have nh4 := i32_ne (c := 4) (n := 4) rfl h4; have nh5 := i32_ne (c := 5) (n := 5) rfl h5; have nh6 := i32_ne (c := 6) (n := 6) rfl h6; have nh7 := i32_ne (c := 7) (n := 7) rfl h7; have nh8 := i32_ne (c := 8) (n := 8) rfl h8; omega) (by decide) ?_
                  refine g_aload_n C (i := 0) dX10_countOfDecoding_117 rfl 0 rfl ?_
                  refine gg_0_7 C fl_X10_61 dX10_countOfDecoding_118 ?_
                  refine ggN_38_2 C fl_X10_233 dX10_countOfDecoding_121 ?_
                  refine g_iload_n C (i := 1) dX10_countOfDecoding_124 rfl 1 rfl ?_
                  refine g_bipush C (v := 9) dX10_countOfDecoding_125 (by decide) ?_
                  refine g_isub C dX10_countOfDecoding_127 ?_
                  refine g_callS C (st := []) (c_X10_tally__41 l D ad dA z0 tt σ φ (x - 9)) rfl ml_X10_269 sm_X10_tally_ in_X10 co_X10_tally_ dyS_X10_tally_ rfl rfl ⟨(Nat.le_of_ble_eq_true rfl), (Nat.le_of_ble_eq_true rfl)⟩ dX10_countOfDecoding_128 rfl (Nat.le_of_ble_eq_true rfl) (g_fni ?_)
                  have e0 : f_X10_countOfDecoding σ x = f_X10_tally__41 σ (x - 9) := by
                    exact ((f_X10_countOfDecoding_eq _ _).trans ((if_neg h1).trans ((if_neg h2).trans ((if_neg h3).trans ((if_neg h4).trans ((if_neg h5).trans ((if_neg h6).trans ((if_neg h7).trans (if_neg h8)))))))))
                  exact hi _ _ _ _ _ _ rfl dX10_countOfDecoding_131 rfl ⟨(congrArg (fun z => some (Value.int z)) e0).symm, rfl, rfl⟩
def f_X10_count (σ : Sg) (x : Int32) : Int32 := if (f_X10_isWithin x 0 18) = 0 then (-100002) else (if x = 0 then (σ 0 10) else (if x ≤ 12 then (let v1 : Int32 := (if x = 7 then 2 else (if x = 8 then 2 else 1)); let v3 : Int32 := (if v1 ≤ (σ 0 10) then (f_X10_countOfDecoding σ x) else (-100004)); v3) else (f_X10_countOfNow σ x)))
theorem f_X10_count_eq (σ : Sg) (x : Int32) : f_X10_count σ x = (if (f_X10_isWithin x 0 18) = 0 then (-100002) else (if x = 0 then (σ 0 10) else (if x ≤ 12 then (let v1 : Int32 := (if x = 7 then 2 else (if x = 8 then 2 else 1)); let v3 : Int32 := (if v1 ≤ (σ 0 10) then (f_X10_countOfDecoding σ x) else (-100004)); v3) else (f_X10_countOfNow σ x)))) := rfl
set_option maxRecDepth 100000 in
set_option maxHeartbeats 4000000 in
theorem c_X10_count (l : Launch) (D : va_G) (ad : Nat → Nat) (dA : Nat → ClassId) (z0 : Nat) (tt : Nat → Nat) (σ : Sg) (φ : Fl) (x : Int32)  : MC l D ad dA z0 tt yX10_count (Cond.code yX10_count cX10_count 3 (some .int) :: lw_all) { frames := 3, cells := 0, slots := 0, locals := 83 } [.ref (ad 0), .int x] σ φ (Fn (some (.int (f_X10_count σ x))) σ φ) := by
  refine mk_MC (by decide) (Nat.le_of_ble_eq_true rfl) ?_
  intro K C hi hf hv
  change K σ φ 0 [(0, .ref (ad 0)), (1, .int x)] []
  refine g_iload_n C (i := 1) dX10_count_0 rfl 1 rfl ?_
  refine g_iconst C (v := 0) dX10_count_1 (by decide) ?_
  refine g_bipush C (v := 18) dX10_count_2 (by decide) ?_
  refine g_callS C (st := []) (c_X10_isWithin l D ad dA z0 tt σ φ x 0 18) rfl ml_X10_105 sm_X10_isWithin in_X10 co_X10_isWithin dyS_X10_isWithin rfl rfl ⟨(Nat.le_of_ble_eq_true rfl), (Nat.le_of_ble_eq_true rfl)⟩ dX10_count_4 rfl (Nat.le_of_ble_eq_true rfl) (g_fni ?_)
  refine g_if_ne C (tgt := 13) dX10_count_7 (by decide) (fun h1 => ?_) (fun h1 => ?_)
  · refine g_iload_n C (i := 1) dX10_count_13 rfl 1 rfl ?_
    refine g_if_ne C (tgt := 22) dX10_count_14 (by decide) (fun h2 => ?_) (fun h2 => ?_)
    · refine g_iload_n C (i := 1) dX10_count_22 rfl 1 rfl ?_
      refine g_bipush C (v := 12) dX10_count_23 (by decide) ?_
      refine g_icmp_le C (tgt := 34) dX10_count_25 (by decide) (fun h3 => ?_) (fun h3 => ?_)
      · refine g_iload_n C (i := 1) dX10_count_34 rfl 1 rfl ?_
        refine g_bipush C (v := 7) dX10_count_35 (by decide) ?_
        have J2 : ∀ (v1 : Int32), (if x = 7 then 2 else (if x = 8 then 2 else 1)) = v1 → K σ φ 51 [(0, .ref (ad 0)), (1, .int x)] [.int v1] := by
          intro v1 ev1
          refine g_istore_n C (i := 2) (lv' := [(2, .int v1), (0, .ref (ad 0)), (1, .int x)]) dX10_count_51 rfl (by decide) rfl ?_
          refine g_aload_n C (i := 0) dX10_count_52 rfl 1 rfl ?_
          refine gg_0_10 C fl_X10_200 dX10_count_53 ?_
          refine g_iload_n C (i := 2) dX10_count_56 rfl 0 rfl ?_
          have J4 : ∀ (v3 : Int32), (if v1 ≤ (σ 0 10) then (f_X10_countOfDecoding σ x) else (-100004)) = v3 → K σ φ 70 [] [.int v3] := by
            intro v3 ev3
            have e0 : f_X10_count σ x = v3 := by
              subst ev3
              subst ev1
              exact ((f_X10_count_eq _ _).trans ((if_neg h1).trans ((if_neg h2).trans (if_pos h3))))
            exact hi _ _ _ _ _ _ rfl dX10_count_70 rfl ⟨(congrArg (fun z => some (Value.int z)) e0).symm, rfl, rfl⟩
          refine g_icmp_ge C (tgt := 65) dX10_count_57 (by decide) (fun h6 => ?_) (fun h6 => ?_)
          · refine g_aload_n C (i := 0) dX10_count_65 rfl 1 rfl ?_
            refine g_iload_n C (i := 1) dX10_count_66 rfl 2 rfl ?_
            refine g_callV C (st := []) (c_X10_countOfDecoding l D ad dA z0 tt σ φ x) rfl ml_X10_254 im_X10_countOfDecoding se_X10_countOfDecoding in_X10 co_X10_countOfDecoding dyV_X10_countOfDecoding rfl rfl ⟨(Nat.le_of_ble_eq_true rfl), (Nat.le_of_ble_eq_true rfl)⟩ 0 10 (fun f => at_0 ad dA σ f) rfl dX10_count_67 rfl (Nat.le_of_ble_eq_true rfl) (g_fni ?_)
            refine g_loc C [] rfl ?_
            exact J4 _ ((if_pos h6))
          · refine g_ldc C kc_X10_214 dX10_count_60 ?_
            refine g_goto C (tgt := 70) dX10_count_62 (by decide) ?_
            refine g_loc C [] rfl ?_
            exact J4 _ ((if_neg h6))
        refine g_icmp_eq C (tgt := 46) dX10_count_37 (by decide) (fun h4 => ?_) (fun h4 => ?_)
        · refine g_iconst C (v := 2) dX10_count_46 (by decide) ?_
          refine g_goto C (tgt := 51) dX10_count_47 (by decide) ?_
          refine g_loc C [0, 1] rfl ?_
          exact J2 _ ((if_pos h4))
        · refine g_iload_n C (i := 1) dX10_count_40 rfl 1 rfl ?_
          refine g_bipush C (v := 8) dX10_count_41 (by decide) ?_
          refine g_icmp_ne C (tgt := 50) dX10_count_43 (by decide) (fun h5 => ?_) (fun h5 => ?_)
          · refine g_iconst C (v := 1) dX10_count_50 (by decide) ?_
            refine g_loc C [0, 1] rfl ?_
            exact J2 _ (((if_neg h4).trans (if_neg h5)))
          · refine g_iconst C (v := 2) dX10_count_46 (by decide) ?_
            refine g_goto C (tgt := 51) dX10_count_47 (by decide) ?_
            refine g_loc C [0, 1] rfl ?_
            exact J2 _ (((if_neg h4).trans (if_pos h5)))
      · refine g_aload_n C (i := 0) dX10_count_28 rfl 0 rfl ?_
        refine g_iload_n C (i := 1) dX10_count_29 rfl 1 rfl ?_
        refine g_callV C (st := []) (c_X10_countOfNow l D ad dA z0 tt σ φ x) rfl ml_X10_251 im_X10_countOfNow se_X10_countOfNow in_X10 co_X10_countOfNow dyV_X10_countOfNow rfl rfl ⟨(Nat.le_of_ble_eq_true rfl), (Nat.le_of_ble_eq_true rfl)⟩ 0 10 (fun f => at_0 ad dA σ f) rfl dX10_count_30 rfl (Nat.le_of_ble_eq_true rfl) (g_fni ?_)
        have e0 : f_X10_count σ x = f_X10_countOfNow σ x := by
          exact ((f_X10_count_eq _ _).trans ((if_neg h1).trans ((if_neg h2).trans (if_neg h3))))
        exact hi _ _ _ _ _ _ rfl dX10_count_33 rfl ⟨(congrArg (fun z => some (Value.int z)) e0).symm, rfl, rfl⟩
    · refine g_aload_n C (i := 0) dX10_count_17 rfl 0 rfl ?_
      refine gg_0_10 C fl_X10_200 dX10_count_18 ?_
      have e0 : f_X10_count σ x = σ 0 10 := by
        exact ((f_X10_count_eq _ _).trans ((if_neg h1).trans (if_pos h2)))
      exact hi _ _ _ _ _ _ rfl dX10_count_21 rfl ⟨(congrArg (fun z => some (Value.int z)) e0).symm, rfl, rfl⟩
  · refine g_ldc C kc_X10_88 dX10_count_10 ?_
    have e0 : f_X10_count σ x = (-100002) := by
      exact ((f_X10_count_eq _ _).trans (if_pos h1))
    exact hi _ _ _ _ _ _ rfl dX10_count_12 rfl ⟨(congrArg (fun z => some (Value.int z)) e0).symm, rfl, rfl⟩
