/-! small methods of the class -/
def f_X7_paint (σ : Sg) (x : Int32) (y : Int32) (u : Int32) (v : Int32) : Int32 × Sg := let v1 : Int32 := (if (σ 2 x.toNatClampNeg) = y then (if (σ 3 x.toNatClampNeg) = u then (if (σ 4 x.toNatClampNeg) = v then 0 else 1) else 1) else 1); let σ3 : Sg := sw σ 2 x.toNatClampNeg y; let σ4 : Sg := sw σ3 3 x.toNatClampNeg u; let σ5 : Sg := sw σ4 4 x.toNatClampNeg v; (v1, σ5)
theorem f_X7_paint_eq (σ : Sg) (x : Int32) (y : Int32) (u : Int32) (v : Int32) : f_X7_paint σ x y u v = (let v1 : Int32 := (if (σ 2 x.toNatClampNeg) = y then (if (σ 3 x.toNatClampNeg) = u then (if (σ 4 x.toNatClampNeg) = v then 0 else 1) else 1) else 1); let σ3 : Sg := sw σ 2 x.toNatClampNeg y; let σ4 : Sg := sw σ3 3 x.toNatClampNeg u; let σ5 : Sg := sw σ4 4 x.toNatClampNeg v; (v1, σ5)) := rfl
set_option maxRecDepth 100000 in
set_option maxHeartbeats 4000000 in
theorem c_X7_paint (l : Launch) (D : va_G) (ad : Nat → Nat) (dA : Nat → ClassId) (z0 : Nat) (tt : Nat → Nat) (σ : Sg) (φ : Fl) (x : Int32) (y : Int32) (u : Int32) (v : Int32) (hx : vp_in x 80) : MC l D ad dA z0 tt yX7_paint (Cond.code yX7_paint cX7_paint 6 (some .boolean) :: lw_all) { frames := 0, cells := 0, slots := 0, locals := 0 } [.ref (ad 1), .int x, .int y, .int u, .int v] σ φ (Fn (some (.int (f_X7_paint σ x y u v).1)) (f_X7_paint σ x y u v).2 φ) := by
  refine mk_MC (by decide) (Nat.le_of_ble_eq_true rfl) ?_
  intro K C hi hf hv
  change K σ φ 0 [(0, .ref (ad 1)), (1, .int x), (2, .int y), (3, .int u), (4, .int v)] []
  refine g_aload_n C (i := 0) dX7_paint_0 rfl 0 rfl ?_
  refine gg_1_0 C fl_X7_9 dX7_paint_1 ?_
  refine g_iload_n C (i := 1) dX7_paint_4 rfl 1 rfl ?_
  refine ld_2 C hx dX7_paint_5 ?_
  refine g_iload_n C (i := 2) dX7_paint_6 rfl 2 rfl ?_
  have J2 : ∀ (v1 : Int32), (if (σ 2 x.toNatClampNeg) = y then (if (σ 3 x.toNatClampNeg) = u then (if (σ 4 x.toNatClampNeg) = v then 0 else 1) else 1) else 1) = v1 → K σ φ 36 [(0, .ref (ad 1)), (1, .int x), (2, .int y), (3, .int u), (4, .int v)] [.int v1] := by
    intro v1 ev1
    refine g_istore C (i := 5) (lv' := [(5, .int v1), (0, .ref (ad 1)), (1, .int x), (2, .int y), (3, .int u), (4, .int v)]) dX7_paint_36 (by decide) rfl ?_
    refine g_aload_n C (i := 0) dX7_paint_38 rfl 1 rfl ?_
    refine gg_1_0 C fl_X7_9 dX7_paint_39 ?_
    refine g_iload_n C (i := 1) dX7_paint_42 rfl 2 rfl ?_
    refine g_iload_n C (i := 2) dX7_paint_43 rfl 3 rfl ?_
    refine sd_2 C hx dX7_paint_44 ?_
    refine g_nms C (fun σ3 eσ3 => ?_)
    refine g_aload_n C (i := 0) dX7_paint_45 rfl 1 rfl ?_
    refine gg_1_1 C fl_X7_15 dX7_paint_46 ?_
    refine g_iload_n C (i := 1) dX7_paint_49 rfl 2 rfl ?_
    refine g_iload_n C (i := 3) dX7_paint_50 rfl 4 rfl ?_
    refine sd_3 C hx dX7_paint_51 ?_
    refine g_nms C (fun σ4 eσ4 => ?_)
    refine g_aload_n C (i := 0) dX7_paint_52 rfl 1 rfl ?_
    refine gg_1_2 C fl_X7_18 dX7_paint_53 ?_
    refine g_iload_n C (i := 1) dX7_paint_56 rfl 2 rfl ?_
    refine g_iload C (i := 4) dX7_paint_57 5 rfl ?_
    refine sd_4 C hx dX7_paint_59 ?_
    refine g_nms C (fun σ5 eσ5 => ?_)
    refine g_iload C (i := 5) dX7_paint_60 0 rfl ?_
    have e0 : f_X7_paint σ x y u v = (v1, σ5) := by
      subst eσ5
      subst eσ4
      subst eσ3
      subst ev1
      exact f_X7_paint_eq _ _ _ _ _
    exact hi _ _ _ _ _ _ rfl dX7_paint_62 (lv_narrowZ (show v1 = 0 ∨ v1 = 1 by rw [← ev1]; exact (zo_ite (zo_ite (zo_ite (Or.inl rfl) (Or.inr rfl)) (Or.inr rfl)) (Or.inr rfl)))).1 ⟨(congrArg (fun z => some (Value.int z.1)) e0).symm, (congrArg (fun z => z.2) e0).symm, rfl⟩
  refine g_icmp_ne C (tgt := 31) dX7_paint_7 (by decide) (fun h1 => ?_) (fun h1 => ?_)
  · refine g_iconst C (v := 1) dX7_paint_31 (by decide) ?_
    refine g_goto C (tgt := 36) dX7_paint_32 (by decide) ?_
    refine g_loc C [0, 1, 2, 3, 4] rfl ?_
    exact J2 _ ((if_neg h1))
  · refine g_aload_n C (i := 0) dX7_paint_10 rfl 0 rfl ?_
    refine gg_1_1 C fl_X7_15 dX7_paint_11 ?_
    refine g_iload_n C (i := 1) dX7_paint_14 rfl 1 rfl ?_
    refine ld_3 C hx dX7_paint_15 ?_
    refine g_iload_n C (i := 3) dX7_paint_16 rfl 3 rfl ?_
    refine g_icmp_ne C (tgt := 31) dX7_paint_17 (by decide) (fun h2 => ?_) (fun h2 => ?_)
    · refine g_iconst C (v := 1) dX7_paint_31 (by decide) ?_
      refine g_goto C (tgt := 36) dX7_paint_32 (by decide) ?_
      refine g_loc C [0, 1, 2, 3, 4] rfl ?_
      exact J2 _ (((if_pos h1).trans (if_neg h2)))
    · refine g_aload_n C (i := 0) dX7_paint_20 rfl 0 rfl ?_
      refine gg_1_2 C fl_X7_18 dX7_paint_21 ?_
      refine g_iload_n C (i := 1) dX7_paint_24 rfl 1 rfl ?_
      refine ld_4 C hx dX7_paint_25 ?_
      refine g_iload C (i := 4) dX7_paint_26 4 rfl ?_
      refine g_icmp_eq C (tgt := 35) dX7_paint_28 (by decide) (fun h3 => ?_) (fun h3 => ?_)
      · refine g_iconst C (v := 0) dX7_paint_35 (by decide) ?_
        refine g_loc C [0, 1, 2, 3, 4] rfl ?_
        exact J2 _ (((if_pos h1).trans ((if_pos h2).trans (if_pos h3))))
      · refine g_iconst C (v := 1) dX7_paint_31 (by decide) ?_
        refine g_goto C (tgt := 36) dX7_paint_32 (by decide) ?_
        refine g_loc C [0, 1, 2, 3, 4] rfl ?_
        exact J2 _ (((if_pos h1).trans ((if_pos h2).trans (if_neg h3))))
def f_X7_noiseAt (σ : Sg) (x : Int32) (k : Int32) : Int32 := (σ 8 x.toNatClampNeg) * ((f_J9_floorMod_7cf53 ((7 * k) + (13 * x)) 5) - 2)
theorem f_X7_noiseAt_eq (σ : Sg) (x : Int32) (k : Int32) : f_X7_noiseAt σ x k = ((σ 8 x.toNatClampNeg) * ((f_J9_floorMod_7cf53 ((7 * k) + (13 * x)) 5) - 2)) := rfl
set_option maxRecDepth 100000 in
set_option maxHeartbeats 4000000 in
theorem c_X7_noiseAt (l : Launch) (D : va_G) (ad : Nat → Nat) (dA : Nat → ClassId) (z0 : Nat) (tt : Nat → Nat) (σ : Sg) (φ : Fl) (x : Int32) (k : Int32) (hx : vp_in x 8) : MC l D ad dA z0 tt yX7_noiseAt (Cond.code yX7_noiseAt cX7_noiseAt 3 (some .int) :: lw_all) { frames := 1, cells := 0, slots := 0, locals := 22 } [.ref (ad 1), .int x, .int k] σ φ (Fn (some (.int (f_X7_noiseAt σ x k))) σ φ) := by
  refine mk_MC (by decide) (Nat.le_of_ble_eq_true rfl) ?_
  intro K C hi hf hv
  change K σ φ 0 [(0, .ref (ad 1)), (1, .int x), (2, .int k)] []
  refine g_aload_n C (i := 0) dX7_noiseAt_0 rfl 0 rfl ?_
  refine gg_1_6 C fl_X7_30 dX7_noiseAt_1 ?_
  refine g_iload_n C (i := 1) dX7_noiseAt_4 rfl 1 rfl ?_
  refine ld_8 C hx dX7_noiseAt_5 ?_
  refine g_bipush C (v := 7) dX7_noiseAt_6 (by decide) ?_
  refine g_iload_n C (i := 2) dX7_noiseAt_8 rfl 2 rfl ?_
  refine g_imul C dX7_noiseAt_9 ?_
  refine g_bipush C (v := 13) dX7_noiseAt_10 (by decide) ?_
  refine g_iload_n C (i := 1) dX7_noiseAt_12 rfl 1 rfl ?_
  refine g_imul C dX7_noiseAt_13 ?_
  refine g_iadd C dX7_noiseAt_14 ?_
  refine g_iconst C (v := 5) dX7_noiseAt_15 (by decide) ?_
  refine g_callS C (st := [.int (σ 8 x.toNatClampNeg)]) (c_J9_floorMod_7cf53 l D ad dA z0 tt σ φ ((7 * k) + (13 * x)) 5 (by decide)) rfl ml_X7_48 sm_J9_floorMod_7cf53 in_J9 co_J9_floorMod_7cf53 dyS_J9_floorMod_7cf53 rfl rfl ⟨(Nat.le_of_ble_eq_true rfl), (Nat.le_of_ble_eq_true rfl)⟩ dX7_noiseAt_16 rfl (Nat.le_of_ble_eq_true rfl) (g_fni ?_)
  refine g_iconst C (v := 2) dX7_noiseAt_19 (by decide) ?_
  refine g_isub C dX7_noiseAt_20 ?_
  refine g_imul C dX7_noiseAt_21 ?_
  have e0 : f_X7_noiseAt σ x k = (σ 8 x.toNatClampNeg) * ((f_J9_floorMod_7cf53 ((7 * k) + (13 * x)) 5) - 2) := by
    exact f_X7_noiseAt_eq _ _ _
  exact hi _ _ _ _ _ _ rfl dX7_noiseAt_22 rfl ⟨(congrArg (fun z => some (Value.int z)) e0).symm, rfl, rfl⟩
def f_X7_signOf (σ : Sg) (x : Int32) : Int32 := let v1 : Int32 := (if (σ 1 8) = 1 then (if (x &&& 1) = 1 then (-1) else 1) else 1); v1
theorem f_X7_signOf_eq (σ : Sg) (x : Int32) : f_X7_signOf σ x = (let v1 : Int32 := (if (σ 1 8) = 1 then (if (x &&& 1) = 1 then (-1) else 1) else 1); v1) := rfl
set_option maxRecDepth 100000 in
set_option maxHeartbeats 4000000 in
theorem c_X7_signOf (l : Launch) (D : va_G) (ad : Nat → Nat) (dA : Nat → ClassId) (z0 : Nat) (tt : Nat → Nat) (σ : Sg) (φ : Fl) (x : Int32)  : MC l D ad dA z0 tt yX7_signOf (Cond.code yX7_signOf cX7_signOf 2 (some .int) :: lw_all) { frames := 0, cells := 0, slots := 0, locals := 0 } [.ref (ad 1), .int x] σ φ (Fn (some (.int (f_X7_signOf σ x))) σ φ) := by
  refine mk_MC (by decide) (Nat.le_of_ble_eq_true rfl) ?_
  intro K C hi hf hv
  change K σ φ 0 [(0, .ref (ad 1)), (1, .int x)] []
  refine g_aload_n C (i := 0) dX7_signOf_0 rfl 0 rfl ?_
  refine gg_1_8 C fl_X7_69 dX7_signOf_1 ?_
  refine g_iconst C (v := 1) dX7_signOf_4 (by decide) ?_
  have J2 : ∀ (v1 : Int32), (if (σ 1 8) = 1 then (if (x &&& 1) = 1 then (-1) else 1) else 1) = v1 → K σ φ 20 [] [.int v1] := by
    intro v1 ev1
    have e0 : f_X7_signOf σ x = v1 := by
      subst ev1
      exact f_X7_signOf_eq _ _
    exact hi _ _ _ _ _ _ rfl dX7_signOf_20 rfl ⟨(congrArg (fun z => some (Value.int z)) e0).symm, rfl, rfl⟩
  refine g_icmp_ne C (tgt := 19) dX7_signOf_5 (by decide) (fun h1 => ?_) (fun h1 => ?_)
  · refine g_iconst C (v := 1) dX7_signOf_19 (by decide) ?_
    refine g_loc C [] rfl ?_
    exact J2 _ ((if_neg h1))
  · refine g_iload_n C (i := 1) dX7_signOf_8 rfl 1 rfl ?_
    refine g_iconst C (v := 1) dX7_signOf_9 (by decide) ?_
    refine g_iand C dX7_signOf_10 ?_
    refine g_iconst C (v := 1) dX7_signOf_11 (by decide) ?_
    refine g_icmp_ne C (tgt := 19) dX7_signOf_12 (by decide) (fun h2 => ?_) (fun h2 => ?_)
    · refine g_iconst C (v := 1) dX7_signOf_19 (by decide) ?_
      refine g_loc C [] rfl ?_
      exact J2 _ (((if_pos h1).trans (if_neg h2)))
    · refine g_iconst C (v := (-1)) dX7_signOf_15 (by decide) ?_
      refine g_goto C (tgt := 20) dX7_signOf_16 (by decide) ?_
      refine g_loc C [] rfl ?_
      exact J2 _ (((if_pos h1).trans (if_pos h2)))
def f_X7_burstAt (σ : Sg) (x : Int32) (k : Int32) : Int32 := let v1 : Int32 := (-(σ 6 x.toNatClampNeg)) * (sa_0 k.toNatClampNeg); let v3 : Int32 := (if (σ 1 8) = 1 then (let v2 : Int32 := v1 + (((f_X7_signOf σ x) * (σ 6 x.toNatClampNeg)) * (sa_1 k.toNatClampNeg)); v2) else v1); v3
theorem f_X7_burstAt_eq (σ : Sg) (x : Int32) (k : Int32) : f_X7_burstAt σ x k = (let v1 : Int32 := (-(σ 6 x.toNatClampNeg)) * (sa_0 k.toNatClampNeg); let v3 : Int32 := (if (σ 1 8) = 1 then (let v2 : Int32 := v1 + (((f_X7_signOf σ x) * (σ 6 x.toNatClampNeg)) * (sa_1 k.toNatClampNeg)); v2) else v1); v3) := rfl
set_option maxRecDepth 100000 in
set_option maxHeartbeats 4000000 in
theorem c_X7_burstAt (l : Launch) (D : va_G) (ad : Nat → Nat) (dA : Nat → ClassId) (z0 : Nat) (tt : Nat → Nat) (σ : Sg) (φ : Fl) (x : Int32) (k : Int32) (hx : vp_in x 8) (hk : vp_in k 4) : MC l D ad dA z0 tt yX7_burstAt (Cond.code yX7_burstAt cX7_burstAt 4 (some .int) :: lw_all) { frames := 1, cells := 0, slots := 0, locals := 21 } [.ref (ad 1), .int x, .int k] σ φ (Fn (some (.int (f_X7_burstAt σ x k))) σ φ) := by
  refine mk_MC (by decide) (Nat.le_of_ble_eq_true rfl) ?_
  intro K C hi hf hv
  change K σ φ 0 [(0, .ref (ad 1)), (1, .int x), (2, .int k)] []
  refine g_aload_n C (i := 0) dX7_burstAt_0 rfl 0 rfl ?_
  refine gg_1_4 C fl_X7_24 dX7_burstAt_1 ?_
  refine g_iload_n C (i := 1) dX7_burstAt_4 rfl 1 rfl ?_
  refine ld_6 C hx dX7_burstAt_5 ?_
  refine g_ineg C dX7_burstAt_6 ?_
  refine g_getsN C (host := "CompositeDecoder") (C0 := "CompositeDecoder") (hZ0 (z0 := z0)) fl_X7_59 rfl dX7_burstAt_7 ?_
  refine g_iload_n C (i := 2) dX7_burstAt_10 rfl 2 rfl ?_
  refine g_ti C (hT0 (z0 := z0)) hk dX7_burstAt_11 ?_
  refine g_imul C dX7_burstAt_12 ?_
  refine g_nmi C (fun v1 ev1 => ?_)
  refine g_istore_n C (i := 3) (lv' := [(3, .int v1), (0, .ref (ad 1)), (1, .int x), (2, .int k)]) dX7_burstAt_13 rfl (by decide) rfl ?_
  refine g_aload_n C (i := 0) dX7_burstAt_14 rfl 1 rfl ?_
  refine gg_1_8 C fl_X7_69 dX7_burstAt_15 ?_
  refine g_iconst C (v := 1) dX7_burstAt_18 (by decide) ?_
  have J4 : ∀ (v3 : Int32), (if (σ 1 8) = 1 then (let v2 : Int32 := v1 + (((f_X7_signOf σ x) * (σ 6 x.toNatClampNeg)) * (sa_1 k.toNatClampNeg)); v2) else v1) = v3 → K σ φ 43 [(3, .int v3)] [] := by
    intro v3 ev3
    refine g_iload_n C (i := 3) dX7_burstAt_43 rfl 0 rfl ?_
    have e0 : f_X7_burstAt σ x k = v3 := by
      subst ev3
      subst ev1
      exact f_X7_burstAt_eq _ _ _
    exact hi _ _ _ _ _ _ rfl dX7_burstAt_44 rfl ⟨(congrArg (fun z => some (Value.int z)) e0).symm, rfl, rfl⟩
  refine g_icmp_ne C (tgt := 43) dX7_burstAt_19 (by decide) (fun h1 => ?_) (fun h1 => ?_)
  · refine g_loc C [0] rfl ?_
    exact J4 _ ((if_neg h1))
  · refine g_iload_n C (i := 3) dX7_burstAt_22 rfl 0 rfl ?_
    refine g_aload_n C (i := 0) dX7_burstAt_23 rfl 1 rfl ?_
    refine g_iload_n C (i := 1) dX7_burstAt_24 rfl 2 rfl ?_
    refine g_callV C (st := [.int v1]) (c_X7_signOf l D ad dA z0 tt σ φ x) rfl ml_X7_62 im_X7_signOf se_X7_signOf in_X7 co_X7_signOf dyV_X7_signOf rfl rfl ⟨(Nat.le_of_ble_eq_true rfl), (Nat.le_of_ble_eq_true rfl)⟩ 1 7 (fun f => at_1 ad dA σ f) rfl dX7_burstAt_25 rfl (Nat.le_of_ble_eq_true rfl) (g_fni ?_)
    refine g_aload_n C (i := 0) dX7_burstAt_28 rfl 1 rfl ?_
    refine gg_1_4 C fl_X7_24 dX7_burstAt_29 ?_
    refine g_iload_n C (i := 1) dX7_burstAt_32 rfl 2 rfl ?_
    refine ld_6 C hx dX7_burstAt_33 ?_
    refine g_imul C dX7_burstAt_34 ?_
    refine g_getsN C (host := "CompositeDecoder") (C0 := "CompositeDecoder") (hZ1 (z0 := z0)) fl_X7_66 rfl dX7_burstAt_35 ?_
    refine g_iload_n C (i := 2) dX7_burstAt_38 rfl 3 rfl ?_
    refine g_ti C (hT1 (z0 := z0)) hk dX7_burstAt_39 ?_
    refine g_imul C dX7_burstAt_40 ?_
    refine g_iadd C dX7_burstAt_41 ?_
    refine g_nmi C (fun v2 ev2 => ?_)
    refine g_istore_n C (i := 3) (lv' := [(3, .int v2), (0, .ref (ad 1)), (1, .int x), (2, .int k)]) dX7_burstAt_42 rfl (by decide) rfl ?_
    refine g_loc C [0] rfl ?_
    subst ev2
    exact J4 _ ((if_pos h1))
def f_X7_levelAt (σ : Sg) (x : Int32) (d : Int32) (k : Int32) : Int32 := if 0 ≤ d then (if 8 ≤ d then (if 16 ≤ d then (if ((d - 16) / 8) < 10 then (let v1 : Int32 := f_X10_placeOf x ((d - 16) / 8); ((σ 2 v1.toNatClampNeg) + ((σ 3 v1.toNatClampNeg) * (sa_0 k.toNatClampNeg))) + (((f_X7_signOf σ x) * (σ 4 v1.toNatClampNeg)) * (sa_1 k.toNatClampNeg))) else 0) else (f_X7_burstAt σ x k)) else (let v2 : Int32 := (if (σ 9 x.toNatClampNeg) = 0 then (-40) else 0); v2)) else 0
theorem f_X7_levelAt_eq (σ : Sg) (x : Int32) (d : Int32) (k : Int32) : f_X7_levelAt σ x d k = (if 0 ≤ d then (if 8 ≤ d then (if 16 ≤ d then (if ((d - 16) / 8) < 10 then (let v1 : Int32 := f_X10_placeOf x ((d - 16) / 8); ((σ 2 v1.toNatClampNeg) + ((σ 3 v1.toNatClampNeg) * (sa_0 k.toNatClampNeg))) + (((f_X7_signOf σ x) * (σ 4 v1.toNatClampNeg)) * (sa_1 k.toNatClampNeg))) else 0) else (f_X7_burstAt σ x k)) else (let v2 : Int32 := (if (σ 9 x.toNatClampNeg) = 0 then (-40) else 0); v2)) else 0) := rfl
set_option maxRecDepth 100000 in
set_option maxHeartbeats 4000000 in
theorem c_X7_levelAt (l : Launch) (D : va_G) (ad : Nat → Nat) (dA : Nat → ClassId) (z0 : Nat) (tt : Nat → Nat) (σ : Sg) (φ : Fl) (x : Int32) (d : Int32) (k : Int32) (hx : vp_in x 8) (hk : vp_in k 4) : MC l D ad dA z0 tt yX7_levelAt (Cond.code yX7_levelAt cX7_levelAt 6 (some .int) :: lw_all) { frames := 2, cells := 0, slots := 0, locals := 44 } [.ref (ad 1), .int x, .int d, .int k] σ φ (Fn (some (.int (f_X7_levelAt σ x d k))) σ φ) := by
  refine mk_MC (by decide) (Nat.le_of_ble_eq_true rfl) ?_
  intro K C hi hf hv
  change K σ φ 0 [(0, .ref (ad 1)), (1, .int x), (2, .int d), (3, .int k)] []
  refine g_iload_n C (i := 2) dX7_levelAt_0 rfl 2 rfl ?_
  refine g_if_ge C (tgt := 6) dX7_levelAt_1 (by decide) (fun h1 => ?_) (fun h1 => ?_)
  · refine g_iload_n C (i := 2) dX7_levelAt_6 rfl 2 rfl ?_
    refine g_bipush C (v := 8) dX7_levelAt_7 (by decide) ?_
    refine g_icmp_ge C (tgt := 28) dX7_levelAt_9 (by decide) (fun h2 => ?_) (fun h2 => ?_)
    · refine g_iload_n C (i := 2) dX7_levelAt_28 rfl 2 rfl ?_
      refine g_bipush C (v := 16) dX7_levelAt_29 (by decide) ?_
      refine g_icmp_ge C (tgt := 41) dX7_levelAt_31 (by decide) (fun h3 => ?_) (fun h3 => ?_)
      · refine g_iload_n C (i := 2) dX7_levelAt_41 rfl 2 rfl ?_
        refine g_bipush C (v := 16) dX7_levelAt_42 (by decide) ?_
        refine g_isub C dX7_levelAt_44 ?_
        refine g_bipush C (v := 8) dX7_levelAt_45 (by decide) ?_
        refine g_idiv C dX7_levelAt_47 (by decide) ?_
        refine g_istore C (i := 4) (lv' := [(4, .int ((d - 16) / 8)), (0, .ref (ad 1)), (1, .int x), (2, .int d), (3, .int k)]) dX7_levelAt_48 (by decide) rfl ?_
        refine g_iload C (i := 4) dX7_levelAt_50 0 rfl ?_
        refine g_bipush C (v := 10) dX7_levelAt_52 (by decide) ?_
        refine g_icmp_lt C (tgt := 59) dX7_levelAt_54 (by decide) (fun h4 => ?_) (fun h4 => ?_)
        · refine g_iload_n C (i := 1) dX7_levelAt_59 rfl 2 rfl ?_
          refine g_iload C (i := 4) dX7_levelAt_60 0 rfl ?_
          refine g_callSN C (st := []) (c_X10_placeOf l D ad dA z0 tt σ φ x ((d - 16) / 8)) rfl ml_X7_56 sm_X10_placeOf in_X10 co_X10_placeOf dyS_X10_placeOf rfl rfl ⟨(Nat.le_of_ble_eq_true rfl), (Nat.le_of_ble_eq_true rfl)⟩ dX7_levelAt_62 rfl (Nat.le_of_ble_eq_true rfl) (g_fni ?_)
          refine g_nmi C (fun v1 ev1 => ?_)
          refine g_istore C (i := 5) (lv' := [(5, .int v1), (4, .int ((d - 16) / 8)), (0, .ref (ad 1)), (1, .int x), (2, .int d), (3, .int k)]) dX7_levelAt_65 (by decide) rfl ?_
          refine g_aload_n C (i := 0) dX7_levelAt_67 rfl 2 rfl ?_
          refine gg_1_0 C fl_X7_9 dX7_levelAt_68 ?_
          refine g_iload C (i := 5) dX7_levelAt_71 0 rfl ?_
          refine ld_2 C (by rw [← ev1]; exact pl_in hx (seg_in h3 h4)) dX7_levelAt_73 ?_
          refine g_aload_n C (i := 0) dX7_levelAt_74 rfl 2 rfl ?_
          refine gg_1_1 C fl_X7_15 dX7_levelAt_75 ?_
          refine g_iload C (i := 5) dX7_levelAt_78 0 rfl ?_
          refine ld_3 C (by rw [← ev1]; exact pl_in hx (seg_in h3 h4)) dX7_levelAt_80 ?_
          refine g_getsN C (host := "CompositeDecoder") (C0 := "CompositeDecoder") (hZ0 (z0 := z0)) fl_X7_59 rfl dX7_levelAt_81 ?_
          refine g_iload_n C (i := 3) dX7_levelAt_84 rfl 5 rfl ?_
          refine g_ti C (hT0 (z0 := z0)) hk dX7_levelAt_85 ?_
          refine g_imul C dX7_levelAt_86 ?_
          refine g_iadd C dX7_levelAt_87 ?_
          refine g_aload_n C (i := 0) dX7_levelAt_88 rfl 2 rfl ?_
          refine g_iload_n C (i := 1) dX7_levelAt_89 rfl 3 rfl ?_
          refine g_callV C (st := [.int ((σ 2 v1.toNatClampNeg) + ((σ 3 v1.toNatClampNeg) * (sa_0 k.toNatClampNeg)))]) (c_X7_signOf l D ad dA z0 tt σ φ x) rfl ml_X7_62 im_X7_signOf se_X7_signOf in_X7 co_X7_signOf dyV_X7_signOf rfl rfl ⟨(Nat.le_of_ble_eq_true rfl), (Nat.le_of_ble_eq_true rfl)⟩ 1 7 (fun f => at_1 ad dA σ f) rfl dX7_levelAt_90 rfl (Nat.le_of_ble_eq_true rfl) (g_fni ?_)
          refine g_aload_n C (i := 0) dX7_levelAt_93 rfl 2 rfl ?_
          refine gg_1_2 C fl_X7_18 dX7_levelAt_94 ?_
          refine g_iload C (i := 5) dX7_levelAt_97 0 rfl ?_
          refine ld_4 C (by rw [← ev1]; exact pl_in hx (seg_in h3 h4)) dX7_levelAt_99 ?_
          refine g_imul C dX7_levelAt_100 ?_
          refine g_getsN C (host := "CompositeDecoder") (C0 := "CompositeDecoder") (hZ1 (z0 := z0)) fl_X7_66 rfl dX7_levelAt_101 ?_
          refine g_iload_n C (i := 3) dX7_levelAt_104 rfl 5 rfl ?_
          refine g_ti C (hT1 (z0 := z0)) hk dX7_levelAt_105 ?_
          refine g_imul C dX7_levelAt_106 ?_
          refine g_iadd C dX7_levelAt_107 ?_
          have e0 : f_X7_levelAt σ x d k = ((σ 2 v1.toNatClampNeg) + ((σ 3 v1.toNatClampNeg) * (sa_0 k.toNatClampNeg))) + (((f_X7_signOf σ x) * (σ 4 v1.toNatClampNeg)) * (sa_1 k.toNatClampNeg)) := by
            subst ev1
            exact ((f_X7_levelAt_eq _ _ _ _).trans ((if_pos h1).trans ((if_pos h2).trans ((if_pos h3).trans (if_pos h4)))))
          exact hi _ _ _ _ _ _ rfl dX7_levelAt_108 rfl ⟨(congrArg (fun z => some (Value.int z)) e0).symm, rfl, rfl⟩
        · refine g_iconst C (v := 0) dX7_levelAt_57 (by decide) ?_
          have e0 : f_X7_levelAt σ x d k = 0 := by
            exact ((f_X7_levelAt_eq _ _ _ _).trans ((if_pos h1).trans ((if_pos h2).trans ((if_pos h3).trans (if_neg h4)))))
          exact hi _ _ _ _ _ _ rfl dX7_levelAt_58 rfl ⟨(congrArg (fun z => some (Value.int z)) e0).symm, rfl, rfl⟩
      · refine g_aload_n C (i := 0) dX7_levelAt_34 rfl 0 rfl ?_
        refine g_iload_n C (i := 1) dX7_levelAt_35 rfl 1 rfl ?_
        refine g_iload_n C (i := 3) dX7_levelAt_36 rfl 3 rfl ?_
        refine g_callV C (st := []) (c_X7_burstAt l D ad dA z0 tt σ φ x k hx hk) rfl ml_X7_53 im_X7_burstAt se_X7_burstAt in_X7 co_X7_burstAt dyV_X7_burstAt rfl rfl ⟨(Nat.le_of_ble_eq_true rfl), (Nat.le_of_ble_eq_true rfl)⟩ 1 7 (fun f => at_1 ad dA σ f) rfl dX7_levelAt_37 rfl (Nat.le_of_ble_eq_true rfl) (g_fni ?_)
        have e0 : f_X7_levelAt σ x d k = f_X7_burstAt σ x k := by
          exact ((f_X7_levelAt_eq _ _ _ _).trans ((if_pos h1).trans ((if_pos h2).trans (if_neg h3))))
        exact hi _ _ _ _ _ _ rfl dX7_levelAt_40 rfl ⟨(congrArg (fun z => some (Value.int z)) e0).symm, rfl, rfl⟩
    · refine g_aload_n C (i := 0) dX7_levelAt_12 rfl 0 rfl ?_
      refine gg_1_7 C fl_X7_33 dX7_levelAt_13 ?_
      refine g_iload_n C (i := 1) dX7_levelAt_16 rfl 1 rfl ?_
      refine ld_9 C hx dX7_levelAt_17 ?_
      have J3 : ∀ (v2 : Int32), (if (σ 9 x.toNatClampNeg) = 0 then (-40) else 0) = v2 → K σ φ 27 [] [.int v2] := by
        intro v2 ev2
        have e0 : f_X7_levelAt σ x d k = v2 := by
          subst ev2
          exact ((f_X7_levelAt_eq _ _ _ _).trans ((if_pos h1).trans (if_neg h2)))
        exact hi _ _ _ _ _ _ rfl dX7_levelAt_27 rfl ⟨(congrArg (fun z => some (Value.int z)) e0).symm, rfl, rfl⟩
      refine g_if_eq C (tgt := 25) dX7_levelAt_18 (by decide) (fun h5 => ?_) (fun h5 => ?_)
      · refine g_bipush C (v := (-40)) dX7_levelAt_25 (by decide) ?_
        refine g_loc C [] rfl ?_
        exact J3 _ ((if_pos h5))
      · refine g_iconst C (v := 0) dX7_levelAt_21 (by decide) ?_
        refine g_goto C (tgt := 27) dX7_levelAt_22 (by decide) ?_
        refine g_loc C [] rfl ?_
        exact J3 _ ((if_neg h5))
  · refine g_iconst C (v := 0) dX7_levelAt_4 (by decide) ?_
    have e0 : f_X7_levelAt σ x d k = 0 := by
      exact ((f_X7_levelAt_eq _ _ _ _).trans (if_neg h1))
    exact hi _ _ _ _ _ _ rfl dX7_levelAt_5 rfl ⟨(congrArg (fun z => some (Value.int z)) e0).symm, rfl, rfl⟩
def f_X7_sampleAt (σ : Sg) (x : Int32) (k : Int32) : Int32 := let v1 : Int32 := (k - 8) - (σ 5 x.toNatClampNeg); let v2 : Int32 := f_X10_turnAt x (k + (σ 7 x.toNatClampNeg)); (f_X7_noiseAt σ x k) + (f_X7_levelAt σ x v1 v2)
theorem f_X7_sampleAt_eq (σ : Sg) (x : Int32) (k : Int32) : f_X7_sampleAt σ x k = (let v1 : Int32 := (k - 8) - (σ 5 x.toNatClampNeg); let v2 : Int32 := f_X10_turnAt x (k + (σ 7 x.toNatClampNeg)); (f_X7_noiseAt σ x k) + (f_X7_levelAt σ x v1 v2)) := rfl
set_option maxRecDepth 100000 in
set_option maxHeartbeats 4000000 in
theorem c_X7_sampleAt (l : Launch) (D : va_G) (ad : Nat → Nat) (dA : Nat → ClassId) (z0 : Nat) (tt : Nat → Nat) (σ : Sg) (φ : Fl) (x : Int32) (k : Int32) (hx : vp_in x 8) : MC l D ad dA z0 tt yX7_sampleAt (Cond.code yX7_sampleAt cX7_sampleAt 5 (some .int) :: lw_all) { frames := 3, cells := 0, slots := 0, locals := 69 } [.ref (ad 1), .int x, .int k] σ φ (Fn (some (.int (f_X7_sampleAt σ x k))) σ φ) := by
  refine mk_MC (by decide) (Nat.le_of_ble_eq_true rfl) ?_
  intro K C hi hf hv
  change K σ φ 0 [(0, .ref (ad 1)), (1, .int x), (2, .int k)] []
  refine g_iload_n C (i := 2) dX7_sampleAt_0 rfl 2 rfl ?_
  refine g_bipush C (v := 8) dX7_sampleAt_1 (by decide) ?_
  refine g_isub C dX7_sampleAt_3 ?_
  refine g_aload_n C (i := 0) dX7_sampleAt_4 rfl 0 rfl ?_
  refine gg_1_3 C fl_X7_21 dX7_sampleAt_5 ?_
  refine g_iload_n C (i := 1) dX7_sampleAt_8 rfl 1 rfl ?_
  refine ld_5 C hx dX7_sampleAt_9 ?_
  refine g_isub C dX7_sampleAt_10 ?_
  refine g_nmi C (fun v1 ev1 => ?_)
  refine g_istore_n C (i := 3) (lv' := [(3, .int v1), (0, .ref (ad 1)), (1, .int x), (2, .int k)]) dX7_sampleAt_11 rfl (by decide) rfl ?_
  refine g_iload_n C (i := 1) dX7_sampleAt_12 rfl 2 rfl ?_
  refine g_iload_n C (i := 2) dX7_sampleAt_13 rfl 3 rfl ?_
  refine g_aload_n C (i := 0) dX7_sampleAt_14 rfl 1 rfl ?_
  refine gg_1_5 C fl_X7_27 dX7_sampleAt_15 ?_
  refine g_iload_n C (i := 1) dX7_sampleAt_18 rfl 2 rfl ?_
  refine ld_7 C hx dX7_sampleAt_19 ?_
  refine g_iadd C dX7_sampleAt_20 ?_
  refine g_callSN C (st := []) (c_X10_turnAt l D ad dA z0 tt σ φ x (k + (σ 7 x.toNatClampNeg))) rfl ml_X7_37 sm_X10_turnAt in_X10 co_X10_turnAt dyS_X10_turnAt rfl rfl ⟨(Nat.le_of_ble_eq_true rfl), (Nat.le_of_ble_eq_true rfl)⟩ dX7_sampleAt_21 rfl (Nat.le_of_ble_eq_true rfl) (g_fni ?_)
  refine g_nmi C (fun v2 ev2 => ?_)
  refine g_istore C (i := 4) (lv' := [(4, .int v2), (3, .int v1), (0, .ref (ad 1)), (1, .int x), (2, .int k)]) dX7_sampleAt_24 (by decide) rfl ?_
  refine g_aload_n C (i := 0) dX7_sampleAt_26 rfl 2 rfl ?_
  refine g_iload_n C (i := 1) dX7_sampleAt_27 rfl 3 rfl ?_
  refine g_iload_n C (i := 2) dX7_sampleAt_28 rfl 4 rfl ?_
  refine g_callV C (st := []) (c_X7_noiseAt l D ad dA z0 tt σ φ x k hx) rfl ml_X7_41 im_X7_noiseAt se_X7_noiseAt in_X7 co_X7_noiseAt dyV_X7_noiseAt rfl rfl ⟨(Nat.le_of_ble_eq_true rfl), (Nat.le_of_ble_eq_true rfl)⟩ 1 7 (fun f => at_1 ad dA σ f) rfl dX7_sampleAt_29 rfl (Nat.le_of_ble_eq_true rfl) (g_fni ?_)
  refine g_aload_n C (i := 0) dX7_sampleAt_32 rfl 2 rfl ?_
  refine g_iload_n C (i := 1) dX7_sampleAt_33 rfl 3 rfl ?_
  refine g_iload_n C (i := 3) dX7_sampleAt_34 rfl 1 rfl ?_
  refine g_iload C (i := 4) dX7_sampleAt_35 0 rfl ?_
  refine g_callV C (st := [.int (f_X7_noiseAt σ x k)]) (c_X7_levelAt l D ad dA z0 tt σ φ x v1 v2 hx (by rw [← ev2]; exact (tn_in _ _))) rfl ml_X7_44 im_X7_levelAt se_X7_levelAt in_X7 co_X7_levelAt dyV_X7_levelAt rfl rfl ⟨(Nat.le_of_ble_eq_true rfl), (Nat.le_of_ble_eq_true rfl)⟩ 1 7 (fun f => at_1 ad dA σ f) rfl dX7_sampleAt_37 rfl (Nat.le_of_ble_eq_true rfl) (g_fni ?_)
  refine g_iadd C dX7_sampleAt_40 ?_
  have e0 : f_X7_sampleAt σ x k = (f_X7_noiseAt σ x k) + (f_X7_levelAt σ x v1 v2) := by
    subst ev2
    subst ev1
    exact f_X7_sampleAt_eq _ _ _
  exact hi _ _ _ _ _ _ rfl dX7_sampleAt_41 rfl ⟨(congrArg (fun z => some (Value.int z)) e0).symm, rfl, rfl⟩
def f_X8_allows (x : Int32) (y : Int32) : Int32 := f_X10_isWithin y (sa_6 x.toNatClampNeg) (sa_7 x.toNatClampNeg)
theorem f_X8_allows_eq (x : Int32) (y : Int32) : f_X8_allows x y = (f_X10_isWithin y (sa_6 x.toNatClampNeg) (sa_7 x.toNatClampNeg)) := rfl
theorem z_X8_allows (x : Int32) (y : Int32) : f_X8_allows x y = 0 ∨ f_X8_allows x y = 1 := (z_X10_isWithin y (sa_6 x.toNatClampNeg) (sa_7 x.toNatClampNeg))
set_option maxRecDepth 100000 in
set_option maxHeartbeats 4000000 in
theorem c_X8_allows (l : Launch) (D : va_G) (ad : Nat → Nat) (dA : Nat → ClassId) (z0 : Nat) (tt : Nat → Nat) (σ : Sg) (φ : Fl) (x : Int32) (y : Int32) (hx : vp_in x 4) : MC l D ad dA z0 tt yX8_allows (Cond.code yX8_allows cX8_allows 3 (some .boolean) :: lw_all) { frames := 1, cells := 0, slots := 0, locals := 22 } [.ref (ad 13), .int x, .int y] σ φ (Fn (some (.int (f_X8_allows x y))) σ φ) := by
  refine mk_MC (by decide) (Nat.le_of_ble_eq_true rfl) ?_
  intro K C hi hf hv
  change K σ φ 0 [(0, .ref (ad 13)), (1, .int x), (2, .int y)] []
  refine g_iload_n C (i := 2) dX8_allows_0 rfl 2 rfl ?_
  refine g_gets C (host := "CompositeDecoder") (C0 := "CompositeDecoder$Settings") (hZ6 (z0 := z0)) fl_X8_13 rfl dX8_allows_1 ?_
  refine g_iload_n C (i := 1) dX8_allows_4 rfl 1 rfl ?_
  refine g_ti C (hT6 (z0 := z0)) hx dX8_allows_5 ?_
  refine g_gets C (host := "CompositeDecoder") (C0 := "CompositeDecoder$Settings") (hZ7 (z0 := z0)) fl_X8_16 rfl dX8_allows_6 ?_
  refine g_iload_n C (i := 1) dX8_allows_9 rfl 1 rfl ?_
  refine g_ti C (hT7 (z0 := z0)) hx dX8_allows_10 ?_
  refine g_callSN C (st := []) (c_X10_isWithin l D ad dA z0 tt σ φ y (sa_6 x.toNatClampNeg) (sa_7 x.toNatClampNeg)) rfl ml_X8_19 sm_X10_isWithin in_X10 co_X10_isWithin dyS_X10_isWithin rfl rfl ⟨(Nat.le_of_ble_eq_true rfl), (Nat.le_of_ble_eq_true rfl)⟩ dX8_allows_11 rfl (Nat.le_of_ble_eq_true rfl) (g_fni ?_)
  have e0 : f_X8_allows x y = f_X10_isWithin y (sa_6 x.toNatClampNeg) (sa_7 x.toNatClampNeg) := by
    exact f_X8_allows_eq _ _
  exact hi _ _ _ _ _ _ rfl dX8_allows_14 (lv_narrowZ (z_X10_isWithin y (sa_6 x.toNatClampNeg) (sa_7 x.toNatClampNeg))).1 ⟨(congrArg (fun z => some (Value.int z)) e0).symm, rfl, rfl⟩
def f_X8_threshold (σ : Sg) : Int32 := σ 14 (0 : Int32).toNatClampNeg
theorem f_X8_threshold_eq (σ : Sg) : f_X8_threshold σ = (σ 14 (0 : Int32).toNatClampNeg) := rfl
set_option maxRecDepth 100000 in
set_option maxHeartbeats 4000000 in
theorem c_X8_threshold (l : Launch) (D : va_G) (ad : Nat → Nat) (dA : Nat → ClassId) (z0 : Nat) (tt : Nat → Nat) (σ : Sg) (φ : Fl)   : MC l D ad dA z0 tt yX8_threshold (Cond.code yX8_threshold cX8_threshold 1 (some .int) :: lw_all) { frames := 0, cells := 0, slots := 0, locals := 0 } [.ref (ad 13)] σ φ (Fn (some (.int (f_X8_threshold σ))) σ φ) := by
  refine mk_MC (by decide) (Nat.le_of_ble_eq_true rfl) ?_
  intro K C hi hf hv
  change K σ φ 0 [(0, .ref (ad 13))] []
  refine g_aload_n C (i := 0) dX8_threshold_0 rfl 0 rfl ?_
  refine gg_13_0 C fl_X8_9 dX8_threshold_1 ?_
  refine g_iconst C (v := 0) dX8_threshold_4 (by decide) ?_
  refine ld_14 C (vp_lit (by decide)) dX8_threshold_5 ?_
  have e0 : f_X8_threshold σ = σ 14 (0 : Int32).toNatClampNeg := by
    exact f_X8_threshold_eq _
  exact hi _ _ _ _ _ _ rfl dX8_threshold_6 rfl ⟨(congrArg (fun z => some (Value.int z)) e0).symm, rfl, rfl⟩
def f_X8_limit (σ : Sg) : Int32 := σ 14 (1 : Int32).toNatClampNeg
theorem f_X8_limit_eq (σ : Sg) : f_X8_limit σ = (σ 14 (1 : Int32).toNatClampNeg) := rfl
set_option maxRecDepth 100000 in
set_option maxHeartbeats 4000000 in
theorem c_X8_limit (l : Launch) (D : va_G) (ad : Nat → Nat) (dA : Nat → ClassId) (z0 : Nat) (tt : Nat → Nat) (σ : Sg) (φ : Fl)   : MC l D ad dA z0 tt yX8_limit (Cond.code yX8_limit cX8_limit 1 (some .int) :: lw_all) { frames := 0, cells := 0, slots := 0, locals := 0 } [.ref (ad 13)] σ φ (Fn (some (.int (f_X8_limit σ))) σ φ) := by
  refine mk_MC (by decide) (Nat.le_of_ble_eq_true rfl) ?_
  intro K C hi hf hv
  change K σ φ 0 [(0, .ref (ad 13))] []
  refine g_aload_n C (i := 0) dX8_limit_0 rfl 0 rfl ?_
  refine gg_13_0 C fl_X8_9 dX8_limit_1 ?_
  refine g_iconst C (v := 1) dX8_limit_4 (by decide) ?_
  refine ld_14 C (vp_lit (by decide)) dX8_limit_5 ?_
  have e0 : f_X8_limit σ = σ 14 (1 : Int32).toNatClampNeg := by
    exact f_X8_limit_eq _
  exact hi _ _ _ _ _ _ rfl dX8_limit_6 rfl ⟨(congrArg (fun z => some (Value.int z)) e0).symm, rfl, rfl⟩
def f_X8_comb (σ : Sg) : Int32 := σ 14 (2 : Int32).toNatClampNeg
theorem f_X8_comb_eq (σ : Sg) : f_X8_comb σ = (σ 14 (2 : Int32).toNatClampNeg) := rfl
set_option maxRecDepth 100000 in
set_option maxHeartbeats 4000000 in
theorem c_X8_comb (l : Launch) (D : va_G) (ad : Nat → Nat) (dA : Nat → ClassId) (z0 : Nat) (tt : Nat → Nat) (σ : Sg) (φ : Fl)   : MC l D ad dA z0 tt yX8_comb (Cond.code yX8_comb cX8_comb 1 (some .int) :: lw_all) { frames := 0, cells := 0, slots := 0, locals := 0 } [.ref (ad 13)] σ φ (Fn (some (.int (f_X8_comb σ))) σ φ) := by
  refine mk_MC (by decide) (Nat.le_of_ble_eq_true rfl) ?_
  intro K C hi hf hv
  change K σ φ 0 [(0, .ref (ad 13))] []
  refine g_aload_n C (i := 0) dX8_comb_0 rfl 0 rfl ?_
  refine gg_13_0 C fl_X8_9 dX8_comb_1 ?_
  refine g_iconst C (v := 2) dX8_comb_4 (by decide) ?_
  refine ld_14 C (vp_lit (by decide)) dX8_comb_5 ?_
  have e0 : f_X8_comb σ = σ 14 (2 : Int32).toNatClampNeg := by
    exact f_X8_comb_eq _
  exact hi _ _ _ _ _ _ rfl dX8_comb_6 rfl ⟨(congrArg (fun z => some (Value.int z)) e0).symm, rfl, rfl⟩
def f_X8_standardTaken (σ : Sg) (x : Int32) : Int32 := let v1 : Int32 := (if (σ 14 (3 : Int32).toNatClampNeg) = 2 then x else (σ 14 (3 : Int32).toNatClampNeg)); v1
theorem f_X8_standardTaken_eq (σ : Sg) (x : Int32) : f_X8_standardTaken σ x = (let v1 : Int32 := (if (σ 14 (3 : Int32).toNatClampNeg) = 2 then x else (σ 14 (3 : Int32).toNatClampNeg)); v1) := rfl
set_option maxRecDepth 100000 in
set_option maxHeartbeats 4000000 in
theorem c_X8_standardTaken (l : Launch) (D : va_G) (ad : Nat → Nat) (dA : Nat → ClassId) (z0 : Nat) (tt : Nat → Nat) (σ : Sg) (φ : Fl) (x : Int32)  : MC l D ad dA z0 tt yX8_standardTaken (Cond.code yX8_standardTaken cX8_standardTaken 2 (some .int) :: lw_all) { frames := 0, cells := 0, slots := 0, locals := 0 } [.ref (ad 13), .int x] σ φ (Fn (some (.int (f_X8_standardTaken σ x))) σ φ) := by
  refine mk_MC (by decide) (Nat.le_of_ble_eq_true rfl) ?_
  intro K C hi hf hv
  change K σ φ 0 [(0, .ref (ad 13)), (1, .int x)] []
  refine g_aload_n C (i := 0) dX8_standardTaken_0 rfl 0 rfl ?_
  refine gg_13_0 C fl_X8_9 dX8_standardTaken_1 ?_
  refine g_iconst C (v := 3) dX8_standardTaken_4 (by decide) ?_
  refine ld_14 C (vp_lit (by decide)) dX8_standardTaken_5 ?_
  refine g_iconst C (v := 2) dX8_standardTaken_6 (by decide) ?_
  have J2 : ∀ (v1 : Int32), (if (σ 14 (3 : Int32).toNatClampNeg) = 2 then x else (σ 14 (3 : Int32).toNatClampNeg)) = v1 → K σ φ 20 [] [.int v1] := by
    intro v1 ev1
    have e0 : f_X8_standardTaken σ x = v1 := by
      subst ev1
      exact f_X8_standardTaken_eq _ _
    exact hi _ _ _ _ _ _ rfl dX8_standardTaken_20 rfl ⟨(congrArg (fun z => some (Value.int z)) e0).symm, rfl, rfl⟩
  refine g_icmp_ne C (tgt := 14) dX8_standardTaken_7 (by decide) (fun h1 => ?_) (fun h1 => ?_)
  · refine g_aload_n C (i := 0) dX8_standardTaken_14 rfl 0 rfl ?_
    refine gg_13_0 C fl_X8_9 dX8_standardTaken_15 ?_
    refine g_iconst C (v := 3) dX8_standardTaken_18 (by decide) ?_
    refine ld_14 C (vp_lit (by decide)) dX8_standardTaken_19 ?_
    refine g_loc C [] rfl ?_
    exact J2 _ ((if_neg h1))
  · refine g_iload_n C (i := 1) dX8_standardTaken_10 rfl 1 rfl ?_
    refine g_goto C (tgt := 20) dX8_standardTaken_11 (by decide) ?_
    refine g_loc C [] rfl ?_
    exact J2 _ ((if_pos h1))
def f_X0_append (σ : Sg) (x : Int32) : Int32 × Sg := if (σ 10 1) < 60 then (let σ1 : Sg := sw σ 11 (σ 10 1).toNatClampNeg (vp_nar .char x); let σ2 : Sg := sw σ1 10 1 ((σ1 10 1) + 1); (1, σ2)) else (0, σ)
theorem f_X0_append_eq (σ : Sg) (x : Int32) : f_X0_append σ x = (if (σ 10 1) < 60 then (let σ1 : Sg := sw σ 11 (σ 10 1).toNatClampNeg (vp_nar .char x); let σ2 : Sg := sw σ1 10 1 ((σ1 10 1) + 1); (1, σ2)) else (0, σ)) := rfl
set_option maxRecDepth 100000 in
set_option maxHeartbeats 4000000 in
theorem c_X0_append (l : Launch) (D : va_G) (ad : Nat → Nat) (dA : Nat → ClassId) (z0 : Nat) (tt : Nat → Nat) (σ : Sg) (φ : Fl) (x : Int32) (hu : ¬ σ 10 1 < 0) : MC l D ad dA z0 tt yX0_append (Cond.code yX0_append cX0_append 2 (some .boolean) :: lw_all) { frames := 0, cells := 0, slots := 0, locals := 0 } [.ref (ad 10), .int x] σ φ (Fn (some (.int (f_X0_append σ x).1)) (f_X0_append σ x).2 φ) := by
  refine mk_MC (by decide) (Nat.le_of_ble_eq_true rfl) ?_
  intro K C hi hf hv
  change K σ φ 0 [(0, .ref (ad 10)), (1, .int x)] []
  refine g_aload_n C (i := 0) dX0_append_0 rfl 0 rfl ?_
  refine gg_10_1 C fl_X0_19 dX0_append_1 ?_
  refine g_bipush C (v := 60) dX0_append_4 (by decide) ?_
  refine g_icmp_lt C (tgt := 11) dX0_append_6 (by decide) (fun h1 => ?_) (fun h1 => ?_)
  · refine g_aload_n C (i := 0) dX0_append_11 rfl 0 rfl ?_
    refine gg_10_0 C fl_X0_11 dX0_append_12 ?_
    refine g_aload_n C (i := 0) dX0_append_15 rfl 0 rfl ?_
    refine gg_10_1 C fl_X0_19 dX0_append_16 ?_
    refine g_iload_n C (i := 1) dX0_append_19 rfl 1 rfl ?_
    refine sd_11 C (rg_lt hu h1 rfl) dX0_append_20 ?_
    refine g_nms C (fun σ1 eσ1 => ?_)
    refine g_aload_n C (i := 0) dX0_append_21 rfl 0 rfl ?_
    refine g_dup C dX0_append_22 rfl ?_
    refine gg_10_1 C fl_X0_19 dX0_append_23 ?_
    refine g_iconst C (v := 1) dX0_append_26 (by decide) ?_
    refine g_iadd C dX0_append_27 ?_
    refine gp_10_1 C fl_X0_19 dX0_append_28 ?_
    refine g_nms C (fun σ2 eσ2 => ?_)
    refine g_iconst C (v := 1) dX0_append_31 (by decide) ?_
    have e0 : f_X0_append σ x = (1, σ2) := by
      subst eσ2
      subst eσ1
      exact ((f_X0_append_eq _ _).trans (if_pos h1))
    exact hi _ _ _ _ _ _ rfl dX0_append_32 (lv_narrowZ (Or.inr rfl)).1 ⟨(congrArg (fun z => some (Value.int z.1)) e0).symm, (congrArg (fun z => z.2) e0).symm, rfl⟩
  · refine g_iconst C (v := 0) dX0_append_9 (by decide) ?_
    have e0 : f_X0_append σ x = (0, σ) := by
      exact ((f_X0_append_eq _ _).trans (if_neg h1))
    exact hi _ _ _ _ _ _ rfl dX0_append_10 (lv_narrowZ (Or.inl rfl)).1 ⟨(congrArg (fun z => some (Value.int z.1)) e0).symm, (congrArg (fun z => z.2) e0).symm, rfl⟩
def f_X0_digitOf (x : Int32) : Int32 := let v1 : Int32 := (if x < 49 then 0 else (if 57 < x then 0 else (x - 48))); v1
theorem f_X0_digitOf_eq (x : Int32) : f_X0_digitOf x = (let v1 : Int32 := (if x < 49 then 0 else (if 57 < x then 0 else (x - 48))); v1) := rfl
set_option maxRecDepth 100000 in
set_option maxHeartbeats 4000000 in
theorem c_X0_digitOf (l : Launch) (D : va_G) (ad : Nat → Nat) (dA : Nat → ClassId) (z0 : Nat) (tt : Nat → Nat) (σ : Sg) (φ : Fl) (x : Int32)  : MC l D ad dA z0 tt yX0_digitOf (Cond.code yX0_digitOf cX0_digitOf 1 (some .int) :: lw_all) { frames := 0, cells := 0, slots := 0, locals := 0 } [.int x] σ φ (Fn (some (.int (f_X0_digitOf x))) σ φ) := by
  refine mk_MC (by decide) (Nat.le_of_ble_eq_true rfl) ?_
  intro K C hi hf hv
  change K σ φ 0 [(0, .int x)] []
  refine g_iload_n C (i := 0) dX0_digitOf_0 rfl 0 rfl ?_
  refine g_bipush C (v := 49) dX0_digitOf_1 (by decide) ?_
  have J2 : ∀ (v1 : Int32), (if x < 49 then 0 else (if 57 < x then 0 else (x - 48))) = v1 → K σ φ 20 [] [.int v1] := by
    intro v1 ev1
    have e0 : f_X0_digitOf x = v1 := by
      subst ev1
      exact f_X0_digitOf_eq _
    exact hi _ _ _ _ _ _ rfl dX0_digitOf_20 rfl ⟨(congrArg (fun z => some (Value.int z)) e0).symm, rfl, rfl⟩
  refine g_icmp_lt C (tgt := 19) dX0_digitOf_3 (by decide) (fun h1 => ?_) (fun h1 => ?_)
  · refine g_iconst C (v := 0) dX0_digitOf_19 (by decide) ?_
    refine g_loc C [] rfl ?_
    exact J2 _ ((if_pos h1))
  · refine g_iload_n C (i := 0) dX0_digitOf_6 rfl 0 rfl ?_
    refine g_bipush C (v := 57) dX0_digitOf_7 (by decide) ?_
    refine g_icmp_gt C (tgt := 19) dX0_digitOf_9 (by decide) (fun h2 => ?_) (fun h2 => ?_)
    · refine g_iconst C (v := 0) dX0_digitOf_19 (by decide) ?_
      refine g_loc C [] rfl ?_
      exact J2 _ (((if_neg h1).trans (if_pos h2)))
    · refine g_iload_n C (i := 0) dX0_digitOf_12 rfl 0 rfl ?_
      refine g_bipush C (v := 48) dX0_digitOf_13 (by decide) ?_
      refine g_isub C dX0_digitOf_15 ?_
      refine g_goto C (tgt := 20) dX0_digitOf_16 (by decide) ?_
      refine g_loc C [] rfl ?_
      exact J2 _ (((if_neg h1).trans (if_neg h2)))
def f_X0_paintBar (σ : Sg) (x : Int32) (y : Int32) : Sg := let v1 : Int32 := (f_X7_paint σ x (sa_3 (σ 12 y.toNatClampNeg).toNatClampNeg) (sa_4 (σ 12 y.toNatClampNeg).toNatClampNeg) (sa_5 (σ 12 y.toNatClampNeg).toNatClampNeg)).1; let σ2 : Sg := (f_X7_paint σ x (sa_3 (σ 12 y.toNatClampNeg).toNatClampNeg) (sa_4 (σ 12 y.toNatClampNeg).toNatClampNeg) (sa_5 (σ 12 y.toNatClampNeg).toNatClampNeg)).2; σ2
theorem f_X0_paintBar_eq (σ : Sg) (x : Int32) (y : Int32) : f_X0_paintBar σ x y = (let v1 : Int32 := (f_X7_paint σ x (sa_3 (σ 12 y.toNatClampNeg).toNatClampNeg) (sa_4 (σ 12 y.toNatClampNeg).toNatClampNeg) (sa_5 (σ 12 y.toNatClampNeg).toNatClampNeg)).1; let σ2 : Sg := (f_X7_paint σ x (sa_3 (σ 12 y.toNatClampNeg).toNatClampNeg) (sa_4 (σ 12 y.toNatClampNeg).toNatClampNeg) (sa_5 (σ 12 y.toNatClampNeg).toNatClampNeg)).2; σ2) := rfl
set_option maxRecDepth 100000 in
set_option maxHeartbeats 4000000 in
theorem c_X0_paintBar (l : Launch) (D : va_G) (ad : Nat → Nat) (dA : Nat → ClassId) (z0 : Nat) (tt : Nat → Nat) (σ : Sg) (φ : Fl) (x : Int32) (y : Int32) (hx : vp_in x 80) (hy : vp_in y 10) (hb : vp_in (σ 12 y.toNatClampNeg) 8) : MC l D ad dA z0 tt yX0_paintBar (Cond.code yX0_paintBar cX0_paintBar 5 none :: lw_all) { frames := 1, cells := 0, slots := 0, locals := 25 } [.ref (ad 10), .ref (ad 1), .int x, .int y] σ φ (Fn none (f_X0_paintBar σ x y) φ) := by
  refine mk_MC (by decide) (Nat.le_of_ble_eq_true rfl) ?_
  intro K C hi hf hv
  change K σ φ 0 [(0, .ref (ad 10)), (1, .ref (ad 1)), (2, .int x), (3, .int y)] []
  refine g_aload_n C (i := 0) dX0_paintBar_0 rfl 0 rfl ?_
  refine gg_10_2 C fl_X0_15 dX0_paintBar_1 ?_
  refine g_iload_n C (i := 3) dX0_paintBar_4 rfl 3 rfl ?_
  refine ld_12 C hy dX0_paintBar_5 ?_
  refine g_istore C (i := 4) (lv' := [(4, .int (σ 12 y.toNatClampNeg)), (0, .ref (ad 10)), (1, .ref (ad 1)), (2, .int x), (3, .int y)]) dX0_paintBar_6 (by decide) rfl ?_
  refine g_aload_n C (i := 1) dX0_paintBar_8 rfl 2 rfl ?_
  refine g_iload_n C (i := 2) dX0_paintBar_9 rfl 3 rfl ?_
  refine g_gets C (host := "CompositeDecoder") (C0 := "CompositeDecoder$BarText") (hZ3 (z0 := z0)) fl_X0_37 rfl dX0_paintBar_10 ?_
  refine g_iload C (i := 4) dX0_paintBar_13 0 rfl ?_
  refine g_ti C (hT3 (z0 := z0)) hb dX0_paintBar_15 ?_
  refine g_gets C (host := "CompositeDecoder") (C0 := "CompositeDecoder$BarText") (hZ4 (z0 := z0)) fl_X0_40 rfl dX0_paintBar_16 ?_
  refine g_iload C (i := 4) dX0_paintBar_19 0 rfl ?_
  refine g_ti C (hT4 (z0 := z0)) hb dX0_paintBar_21 ?_
  refine g_gets C (host := "CompositeDecoder") (C0 := "CompositeDecoder$BarText") (hZ5 (z0 := z0)) fl_X0_43 rfl dX0_paintBar_22 ?_
  refine g_iload C (i := 4) dX0_paintBar_25 0 rfl ?_
  refine g_ti C (hT5 (z0 := z0)) hb dX0_paintBar_27 ?_
  refine g_callV C (st := []) (c_X7_paint l D ad dA z0 tt σ φ x (sa_3 (σ 12 y.toNatClampNeg).toNatClampNeg) (sa_4 (σ 12 y.toNatClampNeg).toNatClampNeg) (sa_5 (σ 12 y.toNatClampNeg).toNatClampNeg) hx) rfl ml_X0_46 im_X7_paint se_X7_paint in_X7 co_X7_paint dyV_X7_paint rfl rfl ⟨(Nat.le_of_ble_eq_true rfl), (Nat.le_of_ble_eq_true rfl)⟩ 1 7 (fun f => at_1 ad dA σ f) rfl dX0_paintBar_28 rfl (Nat.le_of_ble_eq_true rfl) (g_fni ?_)
  refine g_nmi C (fun v1 ev1 => ?_)
  refine g_nms C (fun σ2 eσ2 => ?_)
  refine g_pop C dX0_paintBar_31 rfl ?_
  have e0 : f_X0_paintBar σ x y = σ2 := by
    subst eσ2
    subst ev1
    exact f_X0_paintBar_eq _ _ _
  exact hv _ _ _ _ rfl dX0_paintBar_32 ⟨rfl, (congrArg (fun z => z) e0).symm, rfl⟩
def f_X9_at (σ : Sg) (x : Int32) (y : Int32) : Int32 := let v1 : Int32 := (if x < 0 then 0 else (if 8 ≤ x then 0 else (if y < 0 then 0 else (if y < 112 then (σ (17 + x.toNatClampNeg) y.toNatClampNeg) else 0)))); v1
theorem f_X9_at_eq (σ : Sg) (x : Int32) (y : Int32) : f_X9_at σ x y = (let v1 : Int32 := (if x < 0 then 0 else (if 8 ≤ x then 0 else (if y < 0 then 0 else (if y < 112 then (σ (17 + x.toNatClampNeg) y.toNatClampNeg) else 0)))); v1) := rfl
set_option maxRecDepth 100000 in
set_option maxHeartbeats 4000000 in
theorem c_X9_at (l : Launch) (D : va_G) (ad : Nat → Nat) (dA : Nat → ClassId) (z0 : Nat) (tt : Nat → Nat) (σ : Sg) (φ : Fl) (x : Int32) (y : Int32)  : MC l D ad dA z0 tt yX9_at (Cond.code yX9_at cX9_at 3 (some .int) :: lw_all) { frames := 0, cells := 0, slots := 0, locals := 0 } [.ref (ad 15), .int x, .int y] σ φ (Fn (some (.int (f_X9_at σ x y))) σ φ) := by
  refine mk_MC (by decide) (Nat.le_of_ble_eq_true rfl) ?_
  intro K C hi hf hv
  change K σ φ 0 [(0, .ref (ad 15)), (1, .int x), (2, .int y)] []
  refine g_iload_n C (i := 1) dX9_at_0 rfl 1 rfl ?_
  have J2 : ∀ (v1 : Int32), (if x < 0 then 0 else (if 8 ≤ x then 0 else (if y < 0 then 0 else (if y < 112 then (σ (17 + x.toNatClampNeg) y.toNatClampNeg) else 0)))) = v1 → K σ φ 32 [] [.int v1] := by
    intro v1 ev1
    have e0 : f_X9_at σ x y = v1 := by
      subst ev1
      exact f_X9_at_eq _ _ _
    exact hi _ _ _ _ _ _ rfl dX9_at_32 rfl ⟨(congrArg (fun z => some (Value.int z)) e0).symm, rfl, rfl⟩
  refine g_if_lt C (tgt := 20) dX9_at_1 (by decide) (fun h1 => ?_) (fun h1 => ?_)
  · refine g_iconst C (v := 0) dX9_at_20 (by decide) ?_
    refine g_goto C (tgt := 32) dX9_at_21 (by decide) ?_
    refine g_loc C [] rfl ?_
    exact J2 _ ((if_pos h1))
  · refine g_iload_n C (i := 1) dX9_at_4 rfl 1 rfl ?_
    refine g_bipush C (v := 8) dX9_at_5 (by decide) ?_
    refine g_icmp_ge C (tgt := 20) dX9_at_7 (by decide) (fun h2 => ?_) (fun h2 => ?_)
    · refine g_iconst C (v := 0) dX9_at_20 (by decide) ?_
      refine g_goto C (tgt := 32) dX9_at_21 (by decide) ?_
      refine g_loc C [] rfl ?_
      exact J2 _ (((if_neg h1).trans (if_pos h2)))
    · refine g_iload_n C (i := 2) dX9_at_10 rfl 2 rfl ?_
      refine g_if_lt C (tgt := 20) dX9_at_11 (by decide) (fun h3 => ?_) (fun h3 => ?_)
      · refine g_iconst C (v := 0) dX9_at_20 (by decide) ?_
        refine g_goto C (tgt := 32) dX9_at_21 (by decide) ?_
        refine g_loc C [] rfl ?_
        exact J2 _ (((if_neg h1).trans ((if_neg h2).trans (if_pos h3))))
      · refine g_iload_n C (i := 2) dX9_at_14 rfl 2 rfl ?_
        refine g_bipush C (v := 112) dX9_at_15 (by decide) ?_
        refine g_icmp_lt C (tgt := 24) dX9_at_17 (by decide) (fun h4 => ?_) (fun h4 => ?_)
        · refine g_aload_n C (i := 0) dX9_at_24 rfl 0 rfl ?_
          refine gg_15_0 C fl_X9_11 dX9_at_25 ?_
          refine g_iload_n C (i := 1) dX9_at_28 rfl 1 rfl ?_
          refine g_aald_rows C (rg_ge h1 h2 rfl) dX9_at_29 ?_
          refine g_iload_n C (i := 2) dX9_at_30 rfl 2 rfl ?_
          refine ld_row C (vp_lt (rg_ge h1 h2 rfl)) (rg_lt h3 h4 rfl) dX9_at_31 ?_
          refine g_loc C [] rfl ?_
          exact J2 _ (((if_neg h1).trans ((if_neg h2).trans ((if_neg h3).trans (if_pos h4)))))
        · refine g_iconst C (v := 0) dX9_at_20 (by decide) ?_
          refine g_goto C (tgt := 32) dX9_at_21 (by decide) ?_
          refine g_loc C [] rfl ?_
          exact J2 _ (((if_neg h1).trans ((if_neg h2).trans ((if_neg h3).trans (if_neg h4)))))
def f_X6_aimOf_31 (σ : Sg) (x : Int32) (y : Int32) : UInt32 := if y = 1 then (if 1 ≤ x then (FP.fdiv (FP.i2f (-((σ 31 x.toNatClampNeg) + (σ 31 (x - 1).toNatClampNeg)))) (FP.fconst2)) else (FP.i2f (-(σ 31 x.toNatClampNeg)))) else (FP.i2f (-(σ 31 x.toNatClampNeg)))
theorem f_X6_aimOf_31_eq (σ : Sg) (x : Int32) (y : Int32) : f_X6_aimOf_31 σ x y = (if y = 1 then (if 1 ≤ x then (FP.fdiv (FP.i2f (-((σ 31 x.toNatClampNeg) + (σ 31 (x - 1).toNatClampNeg)))) (FP.fconst2)) else (FP.i2f (-(σ 31 x.toNatClampNeg)))) else (FP.i2f (-(σ 31 x.toNatClampNeg)))) := rfl
set_option maxRecDepth 100000 in
set_option maxHeartbeats 4000000 in
theorem c_X6_aimOf_31 (l : Launch) (D : va_G) (ad : Nat → Nat) (dA : Nat → ClassId) (z0 : Nat) (tt : Nat → Nat) (σ : Sg) (φ : Fl) (x : Int32) (y : Int32) (hx : vp_in x 8) : MC l D ad dA z0 tt yX6_aimOf (Cond.code yX6_aimOf cX6_aimOf 3 (some .float) :: lw_all) { frames := 0, cells := 0, slots := 0, locals := 0 } [.ref (ad 31), .int x, .int y] σ φ (Fn (some (.float (f_X6_aimOf_31 σ x y))) σ φ) := by
  refine mk_MC (by decide) (Nat.le_of_ble_eq_true rfl) ?_
  intro K C hi hf hv
  change K σ φ 0 [(0, .ref (ad 31)), (1, .int x), (2, .int y)] []
  refine g_iload_n C (i := 2) dX6_aimOf_0 rfl 2 rfl ?_
  refine g_iconst C (v := 1) dX6_aimOf_1 (by decide) ?_
  refine g_icmp_ne C (tgt := 10) dX6_aimOf_2 (by decide) (fun h1 => ?_) (fun h1 => ?_)
  · refine g_aload_n C (i := 0) dX6_aimOf_10 rfl 0 rfl ?_
    refine g_iload_n C (i := 1) dX6_aimOf_11 rfl 1 rfl ?_
    refine ld_31 C hx dX6_aimOf_12 ?_
    refine g_ineg C dX6_aimOf_13 ?_
    refine g_i2f C dX6_aimOf_14 ?_
    have e0 : f_X6_aimOf_31 σ x y = FP.i2f (-(σ 31 x.toNatClampNeg)) := by
      exact ((f_X6_aimOf_31_eq _ _ _).trans (if_neg h1))
    exact hf _ _ _ _ _ rfl dX6_aimOf_15 ⟨(congrArg (fun z => some (Value.float z)) e0).symm, rfl, rfl⟩
  · refine g_iload_n C (i := 1) dX6_aimOf_5 rfl 1 rfl ?_
    refine g_iconst C (v := 1) dX6_aimOf_6 (by decide) ?_
    refine g_icmp_ge C (tgt := 16) dX6_aimOf_7 (by decide) (fun h2 => ?_) (fun h2 => ?_)
    · refine g_aload_n C (i := 0) dX6_aimOf_16 rfl 0 rfl ?_
      refine g_iload_n C (i := 1) dX6_aimOf_17 rfl 1 rfl ?_
      refine ld_31 C hx dX6_aimOf_18 ?_
      refine g_aload_n C (i := 0) dX6_aimOf_19 rfl 0 rfl ?_
      refine g_iload_n C (i := 1) dX6_aimOf_20 rfl 1 rfl ?_
      refine g_iconst C (v := 1) dX6_aimOf_21 (by decide) ?_
      refine g_isub C dX6_aimOf_22 ?_
      refine ld_31 C (m1_in2 (by decide) hx h2) dX6_aimOf_23 ?_
      refine g_iadd C dX6_aimOf_24 ?_
      refine g_ineg C dX6_aimOf_25 ?_
      refine g_i2f C dX6_aimOf_26 ?_
      refine g_fconst2 C dX6_aimOf_27 ?_
      refine g_fdiv C dX6_aimOf_28 ?_
      have e0 : f_X6_aimOf_31 σ x y = FP.fdiv (FP.i2f (-((σ 31 x.toNatClampNeg) + (σ 31 (x - 1).toNatClampNeg)))) (FP.fconst2) := by
        exact ((f_X6_aimOf_31_eq _ _ _).trans ((if_pos h1).trans (if_pos h2)))
      exact hf _ _ _ _ _ rfl dX6_aimOf_29 ⟨(congrArg (fun z => some (Value.float z)) e0).symm, rfl, rfl⟩
    · refine g_aload_n C (i := 0) dX6_aimOf_10 rfl 0 rfl ?_
      refine g_iload_n C (i := 1) dX6_aimOf_11 rfl 1 rfl ?_
      refine ld_31 C hx dX6_aimOf_12 ?_
      refine g_ineg C dX6_aimOf_13 ?_
      refine g_i2f C dX6_aimOf_14 ?_
      have e0 : f_X6_aimOf_31 σ x y = FP.i2f (-(σ 31 x.toNatClampNeg)) := by
        exact ((f_X6_aimOf_31_eq _ _ _).trans ((if_pos h1).trans (if_neg h2)))
      exact hf _ _ _ _ _ rfl dX6_aimOf_15 ⟨(congrArg (fun z => some (Value.float z)) e0).symm, rfl, rfl⟩
def f_X6_aimOf_32 (σ : Sg) (x : Int32) (y : Int32) : UInt32 := if y = 1 then (if 1 ≤ x then (FP.fdiv (FP.i2f (-((σ 32 x.toNatClampNeg) + (σ 32 (x - 1).toNatClampNeg)))) (FP.fconst2)) else (FP.i2f (-(σ 32 x.toNatClampNeg)))) else (FP.i2f (-(σ 32 x.toNatClampNeg)))
theorem f_X6_aimOf_32_eq (σ : Sg) (x : Int32) (y : Int32) : f_X6_aimOf_32 σ x y = (if y = 1 then (if 1 ≤ x then (FP.fdiv (FP.i2f (-((σ 32 x.toNatClampNeg) + (σ 32 (x - 1).toNatClampNeg)))) (FP.fconst2)) else (FP.i2f (-(σ 32 x.toNatClampNeg)))) else (FP.i2f (-(σ 32 x.toNatClampNeg)))) := rfl
set_option maxRecDepth 100000 in
set_option maxHeartbeats 4000000 in
theorem c_X6_aimOf_32 (l : Launch) (D : va_G) (ad : Nat → Nat) (dA : Nat → ClassId) (z0 : Nat) (tt : Nat → Nat) (σ : Sg) (φ : Fl) (x : Int32) (y : Int32) (hx : vp_in x 8) : MC l D ad dA z0 tt yX6_aimOf (Cond.code yX6_aimOf cX6_aimOf 3 (some .float) :: lw_all) { frames := 0, cells := 0, slots := 0, locals := 0 } [.ref (ad 32), .int x, .int y] σ φ (Fn (some (.float (f_X6_aimOf_32 σ x y))) σ φ) := by
  refine mk_MC (by decide) (Nat.le_of_ble_eq_true rfl) ?_
  intro K C hi hf hv
  change K σ φ 0 [(0, .ref (ad 32)), (1, .int x), (2, .int y)] []
  refine g_iload_n C (i := 2) dX6_aimOf_0 rfl 2 rfl ?_
  refine g_iconst C (v := 1) dX6_aimOf_1 (by decide) ?_
  refine g_icmp_ne C (tgt := 10) dX6_aimOf_2 (by decide) (fun h1 => ?_) (fun h1 => ?_)
  · refine g_aload_n C (i := 0) dX6_aimOf_10 rfl 0 rfl ?_
    refine g_iload_n C (i := 1) dX6_aimOf_11 rfl 1 rfl ?_
    refine ld_32 C hx dX6_aimOf_12 ?_
    refine g_ineg C dX6_aimOf_13 ?_
    refine g_i2f C dX6_aimOf_14 ?_
    have e0 : f_X6_aimOf_32 σ x y = FP.i2f (-(σ 32 x.toNatClampNeg)) := by
      exact ((f_X6_aimOf_32_eq _ _ _).trans (if_neg h1))
    exact hf _ _ _ _ _ rfl dX6_aimOf_15 ⟨(congrArg (fun z => some (Value.float z)) e0).symm, rfl, rfl⟩
  · refine g_iload_n C (i := 1) dX6_aimOf_5 rfl 1 rfl ?_
    refine g_iconst C (v := 1) dX6_aimOf_6 (by decide) ?_
    refine g_icmp_ge C (tgt := 16) dX6_aimOf_7 (by decide) (fun h2 => ?_) (fun h2 => ?_)
    · refine g_aload_n C (i := 0) dX6_aimOf_16 rfl 0 rfl ?_
      refine g_iload_n C (i := 1) dX6_aimOf_17 rfl 1 rfl ?_
      refine ld_32 C hx dX6_aimOf_18 ?_
      refine g_aload_n C (i := 0) dX6_aimOf_19 rfl 0 rfl ?_
      refine g_iload_n C (i := 1) dX6_aimOf_20 rfl 1 rfl ?_
      refine g_iconst C (v := 1) dX6_aimOf_21 (by decide) ?_
      refine g_isub C dX6_aimOf_22 ?_
      refine ld_32 C (m1_in2 (by decide) hx h2) dX6_aimOf_23 ?_
      refine g_iadd C dX6_aimOf_24 ?_
      refine g_ineg C dX6_aimOf_25 ?_
      refine g_i2f C dX6_aimOf_26 ?_
      refine g_fconst2 C dX6_aimOf_27 ?_
      refine g_fdiv C dX6_aimOf_28 ?_
      have e0 : f_X6_aimOf_32 σ x y = FP.fdiv (FP.i2f (-((σ 32 x.toNatClampNeg) + (σ 32 (x - 1).toNatClampNeg)))) (FP.fconst2) := by
        exact ((f_X6_aimOf_32_eq _ _ _).trans ((if_pos h1).trans (if_pos h2)))
      exact hf _ _ _ _ _ rfl dX6_aimOf_29 ⟨(congrArg (fun z => some (Value.float z)) e0).symm, rfl, rfl⟩
    · refine g_aload_n C (i := 0) dX6_aimOf_10 rfl 0 rfl ?_
      refine g_iload_n C (i := 1) dX6_aimOf_11 rfl 1 rfl ?_
      refine ld_32 C hx dX6_aimOf_12 ?_
      refine g_ineg C dX6_aimOf_13 ?_
      refine g_i2f C dX6_aimOf_14 ?_
      have e0 : f_X6_aimOf_32 σ x y = FP.i2f (-(σ 32 x.toNatClampNeg)) := by
        exact ((f_X6_aimOf_32_eq _ _ _).trans ((if_pos h1).trans (if_neg h2)))
      exact hf _ _ _ _ _ rfl dX6_aimOf_15 ⟨(congrArg (fun z => some (Value.float z)) e0).symm, rfl, rfl⟩
def f_X5_hasChanged (σ : Sg) (x : Int32) (y : Int32) : Int32 := let v1 : Int32 := (if (f_X10_isPlace x y) = 0 then 0 else (if (σ 51 (f_X10_placeOf x y).toNatClampNeg) = 0 then 0 else 1)); v1
theorem f_X5_hasChanged_eq (σ : Sg) (x : Int32) (y : Int32) : f_X5_hasChanged σ x y = (let v1 : Int32 := (if (f_X10_isPlace x y) = 0 then 0 else (if (σ 51 (f_X10_placeOf x y).toNatClampNeg) = 0 then 0 else 1)); v1) := rfl
theorem z_X5_hasChanged (σ : Sg) (x : Int32) (y : Int32) : f_X5_hasChanged σ x y = 0 ∨ f_X5_hasChanged σ x y = 1 := (zo_ite (Or.inl rfl) (zo_ite (Or.inl rfl) (Or.inr rfl)))
set_option maxRecDepth 100000 in
set_option maxHeartbeats 4000000 in
theorem c_X5_hasChanged (l : Launch) (D : va_G) (ad : Nat → Nat) (dA : Nat → ClassId) (z0 : Nat) (tt : Nat → Nat) (σ : Sg) (φ : Fl) (x : Int32) (y : Int32)  : MC l D ad dA z0 tt yX5_hasChanged (Cond.code yX5_hasChanged cX5_hasChanged 3 (some .boolean) :: lw_all) { frames := 3, cells := 0, slots := 0, locals := 63 } [.ref (ad 49), .int x, .int y] σ φ (Fn (some (.int (f_X5_hasChanged σ x y))) σ φ) := by
  refine mk_MC (by decide) (Nat.le_of_ble_eq_true rfl) ?_
  intro K C hi hf hv
  change K σ φ 0 [(0, .ref (ad 49)), (1, .int x), (2, .int y)] []
  refine g_iload_n C (i := 1) dX5_hasChanged_0 rfl 1 rfl ?_
  refine g_iload_n C (i := 2) dX5_hasChanged_1 rfl 2 rfl ?_
  refine g_callSN C (st := []) (c_X10_isPlace l D ad dA z0 tt σ φ x y) rfl ml_X5_45 sm_X10_isPlace in_X10 co_X10_isPlace dyS_X10_isPlace rfl rfl ⟨(Nat.le_of_ble_eq_true rfl), (Nat.le_of_ble_eq_true rfl)⟩ dX5_hasChanged_2 rfl (Nat.le_of_ble_eq_true rfl) (g_fni ?_)
  have J2 : ∀ (v1 : Int32), (if (f_X10_isPlace x y) = 0 then 0 else (if (σ 51 (f_X10_placeOf x y).toNatClampNeg) = 0 then 0 else 1)) = v1 → K σ φ 26 [] [.int v1] := by
    intro v1 ev1
    have e0 : f_X5_hasChanged σ x y = v1 := by
      subst ev1
      exact f_X5_hasChanged_eq _ _ _
    exact hi _ _ _ _ _ _ rfl dX5_hasChanged_26 (lv_narrowZ (show v1 = 0 ∨ v1 = 1 by rw [← ev1]; exact (zo_ite (Or.inl rfl) (zo_ite (Or.inl rfl) (Or.inr rfl))))).1 ⟨(congrArg (fun z => some (Value.int z)) e0).symm, rfl, rfl⟩
  refine g_if_eq C (tgt := 25) dX5_hasChanged_5 (by decide) (fun h1 => ?_) (fun h1 => ?_)
  · refine g_iconst C (v := 0) dX5_hasChanged_25 (by decide) ?_
    refine g_loc C [] rfl ?_
    exact J2 _ ((if_pos h1))
  · refine g_aload_n C (i := 0) dX5_hasChanged_8 rfl 0 rfl ?_
    refine gg_49_1 C fl_X5_15 dX5_hasChanged_9 ?_
    refine g_iload_n C (i := 1) dX5_hasChanged_12 rfl 1 rfl ?_
    refine g_iload_n C (i := 2) dX5_hasChanged_13 rfl 2 rfl ?_
    refine g_callSN C (st := [.ref (ad 51)]) (c_X10_placeOf l D ad dA z0 tt σ φ x y) rfl ml_X5_28 sm_X10_placeOf in_X10 co_X10_placeOf dyS_X10_placeOf rfl rfl ⟨(Nat.le_of_ble_eq_true rfl), (Nat.le_of_ble_eq_true rfl)⟩ dX5_hasChanged_14 rfl (Nat.le_of_ble_eq_true rfl) (g_fni ?_)
    refine ld_51 C (ip_pl h1) dX5_hasChanged_17 ?_
    refine g_if_eq C (tgt := 25) dX5_hasChanged_18 (by decide) (fun h2 => ?_) (fun h2 => ?_)
    · refine g_iconst C (v := 0) dX5_hasChanged_25 (by decide) ?_
      refine g_loc C [] rfl ?_
      exact J2 _ (((if_neg h1).trans (if_pos h2)))
    · refine g_iconst C (v := 1) dX5_hasChanged_21 (by decide) ?_
      refine g_goto C (tgt := 26) dX5_hasChanged_22 (by decide) ?_
      refine g_loc C [] rfl ?_
      exact J2 _ (((if_neg h1).trans (if_neg h2)))
def f_X5_kindOf (σ : Sg) (x : Int32) (y : Int32) : Int32 := if (f_X5_hasChanged σ x y) = 0 then 0 else (let v1 : Int32 := (if (f_X5_hasChanged σ x (y - 1)) = 0 then (if (f_X5_hasChanged σ x (y + 1)) = 0 then 0 else 1) else 1); let v3 : Int32 := (if (f_X5_hasChanged σ (x - 1) y) = 0 then (if (f_X5_hasChanged σ (x + 1) y) = 0 then 0 else 1) else 1); let v5 : Int32 := (if v1 = 0 then (if v3 = 0 then 1 else 2) else 2); v5)
theorem f_X5_kindOf_eq (σ : Sg) (x : Int32) (y : Int32) : f_X5_kindOf σ x y = (if (f_X5_hasChanged σ x y) = 0 then 0 else (let v1 : Int32 := (if (f_X5_hasChanged σ x (y - 1)) = 0 then (if (f_X5_hasChanged σ x (y + 1)) = 0 then 0 else 1) else 1); let v3 : Int32 := (if (f_X5_hasChanged σ (x - 1) y) = 0 then (if (f_X5_hasChanged σ (x + 1) y) = 0 then 0 else 1) else 1); let v5 : Int32 := (if v1 = 0 then (if v3 = 0 then 1 else 2) else 2); v5)) := rfl
set_option maxRecDepth 100000 in
set_option maxHeartbeats 4000000 in
theorem c_X5_kindOf (l : Launch) (D : va_G) (ad : Nat → Nat) (dA : Nat → ClassId) (z0 : Nat) (tt : Nat → Nat) (σ : Sg) (φ : Fl) (x : Int32) (y : Int32)  : MC l D ad dA z0 tt yX5_kindOf (Cond.code yX5_kindOf cX5_kindOf 5 (some .int) :: lw_all) { frames := 4, cells := 0, slots := 0, locals := 85 } [.ref (ad 49), .int x, .int y] σ φ (Fn (some (.int (f_X5_kindOf σ x y))) σ φ) := by
  refine mk_MC (by decide) (Nat.le_of_ble_eq_true rfl) ?_
  intro K C hi hf hv
  change K σ φ 0 [(0, .ref (ad 49)), (1, .int x), (2, .int y)] []
  refine g_aload_n C (i := 0) dX5_kindOf_0 rfl 0 rfl ?_
  refine g_iload_n C (i := 1) dX5_kindOf_1 rfl 1 rfl ?_
  refine g_iload_n C (i := 2) dX5_kindOf_2 rfl 2 rfl ?_
  refine g_callV C (st := []) (c_X5_hasChanged l D ad dA z0 tt σ φ x y) rfl ml_X5_41 im_X5_hasChanged se_X5_hasChanged in_X5 co_X5_hasChanged dyV_X5_hasChanged rfl rfl ⟨(Nat.le_of_ble_eq_true rfl), (Nat.le_of_ble_eq_true rfl)⟩ 49 5 (fun f => at_49 ad dA σ f) rfl dX5_kindOf_3 rfl (Nat.le_of_ble_eq_true rfl) (g_fni ?_)
  refine g_if_ne C (tgt := 11) dX5_kindOf_6 (by decide) (fun h1 => ?_) (fun h1 => ?_)
  · refine g_aload_n C (i := 0) dX5_kindOf_11 rfl 0 rfl ?_
    refine g_iload_n C (i := 1) dX5_kindOf_12 rfl 1 rfl ?_
    refine g_iload_n C (i := 2) dX5_kindOf_13 rfl 2 rfl ?_
    refine g_iconst C (v := 1) dX5_kindOf_14 (by decide) ?_
    refine g_isub C dX5_kindOf_15 ?_
    refine g_callV C (st := []) (c_X5_hasChanged l D ad dA z0 tt σ φ x (y - 1)) rfl ml_X5_41 im_X5_hasChanged se_X5_hasChanged in_X5 co_X5_hasChanged dyV_X5_hasChanged rfl rfl ⟨(Nat.le_of_ble_eq_true rfl), (Nat.le_of_ble_eq_true rfl)⟩ 49 5 (fun f => at_49 ad dA σ f) rfl dX5_kindOf_16 rfl (Nat.le_of_ble_eq_true rfl) (g_fni ?_)
    have J2 : ∀ (v1 : Int32), (if (f_X5_hasChanged σ x (y - 1)) = 0 then (if (f_X5_hasChanged σ x (y + 1)) = 0 then 0 else 1) else 1) = v1 → K σ φ 38 [(0, .ref (ad 49)), (1, .int x), (2, .int y)] [.int v1] := by
      intro v1 ev1
      refine g_istore_n C (i := 3) (lv' := [(3, .int v1), (0, .ref (ad 49)), (1, .int x), (2, .int y)]) dX5_kindOf_38 rfl (by decide) rfl ?_
      refine g_aload_n C (i := 0) dX5_kindOf_39 rfl 1 rfl ?_
      refine g_iload_n C (i := 1) dX5_kindOf_40 rfl 2 rfl ?_
      refine g_iconst C (v := 1) dX5_kindOf_41 (by decide) ?_
      refine g_isub C dX5_kindOf_42 ?_
      refine g_iload_n C (i := 2) dX5_kindOf_43 rfl 3 rfl ?_
      refine g_callV C (st := []) (c_X5_hasChanged l D ad dA z0 tt σ φ (x - 1) y) rfl ml_X5_41 im_X5_hasChanged se_X5_hasChanged in_X5 co_X5_hasChanged dyV_X5_hasChanged rfl rfl ⟨(Nat.le_of_ble_eq_true rfl), (Nat.le_of_ble_eq_true rfl)⟩ 49 5 (fun f => at_49 ad dA σ f) rfl dX5_kindOf_44 rfl (Nat.le_of_ble_eq_true rfl) (g_fni ?_)
      have J4 : ∀ (v3 : Int32), (if (f_X5_hasChanged σ (x - 1) y) = 0 then (if (f_X5_hasChanged σ (x + 1) y) = 0 then 0 else 1) else 1) = v3 → K σ φ 66 [(3, .int v1)] [.int v3] := by
        intro v3 ev3
        refine g_istore C (i := 4) (lv' := [(4, .int v3), (3, .int v1)]) dX5_kindOf_66 (by decide) rfl ?_
        refine g_iload_n C (i := 3) dX5_kindOf_68 rfl 1 rfl ?_
        have J6 : ∀ (v5 : Int32), (if v1 = 0 then (if v3 = 0 then 1 else 2) else 2) = v5 → K σ φ 82 [] [.int v5] := by
          intro v5 ev5
          have e0 : f_X5_kindOf σ x y = v5 := by
            subst ev5
            subst ev3
            subst ev1
            exact ((f_X5_kindOf_eq _ _ _).trans (if_neg h1))
          exact hi _ _ _ _ _ _ rfl dX5_kindOf_82 rfl ⟨(congrArg (fun z => some (Value.int z)) e0).symm, rfl, rfl⟩
        refine g_if_ne C (tgt := 77) dX5_kindOf_69 (by decide) (fun h6 => ?_) (fun h6 => ?_)
        · refine g_iconst C (v := 2) dX5_kindOf_77 (by decide) ?_
          refine g_goto C (tgt := 82) dX5_kindOf_78 (by decide) ?_
          refine g_loc C [] rfl ?_
          exact J6 _ ((if_neg h6))
        · refine g_iload C (i := 4) dX5_kindOf_72 0 rfl ?_
          refine g_if_eq C (tgt := 81) dX5_kindOf_74 (by decide) (fun h7 => ?_) (fun h7 => ?_)
          · refine g_iconst C (v := 1) dX5_kindOf_81 (by decide) ?_
            refine g_loc C [] rfl ?_
            exact J6 _ (((if_pos h6).trans (if_pos h7)))
          · refine g_iconst C (v := 2) dX5_kindOf_77 (by decide) ?_
            refine g_goto C (tgt := 82) dX5_kindOf_78 (by decide) ?_
            refine g_loc C [] rfl ?_
            exact J6 _ (((if_pos h6).trans (if_neg h7)))
      refine g_if_ne C (tgt := 61) dX5_kindOf_47 (by decide) (fun h4 => ?_) (fun h4 => ?_)
      · refine g_iconst C (v := 1) dX5_kindOf_61 (by decide) ?_
        refine g_goto C (tgt := 66) dX5_kindOf_62 (by decide) ?_
        refine g_loc C [0] rfl ?_
        exact J4 _ ((if_neg h4))
      · refine g_aload_n C (i := 0) dX5_kindOf_50 rfl 1 rfl ?_
        refine g_iload_n C (i := 1) dX5_kindOf_51 rfl 2 rfl ?_
        refine g_iconst C (v := 1) dX5_kindOf_52 (by decide) ?_
        refine g_iadd C dX5_kindOf_53 ?_
        refine g_iload_n C (i := 2) dX5_kindOf_54 rfl 3 rfl ?_
        refine g_callV C (st := []) (c_X5_hasChanged l D ad dA z0 tt σ φ (x + 1) y) rfl ml_X5_41 im_X5_hasChanged se_X5_hasChanged in_X5 co_X5_hasChanged dyV_X5_hasChanged rfl rfl ⟨(Nat.le_of_ble_eq_true rfl), (Nat.le_of_ble_eq_true rfl)⟩ 49 5 (fun f => at_49 ad dA σ f) rfl dX5_kindOf_55 rfl (Nat.le_of_ble_eq_true rfl) (g_fni ?_)
        refine g_if_eq C (tgt := 65) dX5_kindOf_58 (by decide) (fun h5 => ?_) (fun h5 => ?_)
        · refine g_iconst C (v := 0) dX5_kindOf_65 (by decide) ?_
          refine g_loc C [0] rfl ?_
          exact J4 _ (((if_pos h4).trans (if_pos h5)))
        · refine g_iconst C (v := 1) dX5_kindOf_61 (by decide) ?_
          refine g_goto C (tgt := 66) dX5_kindOf_62 (by decide) ?_
          refine g_loc C [0] rfl ?_
          exact J4 _ (((if_pos h4).trans (if_neg h5)))
    refine g_if_ne C (tgt := 33) dX5_kindOf_19 (by decide) (fun h2 => ?_) (fun h2 => ?_)
    · refine g_iconst C (v := 1) dX5_kindOf_33 (by decide) ?_
      refine g_goto C (tgt := 38) dX5_kindOf_34 (by decide) ?_
      refine g_loc C [0, 1, 2] rfl ?_
      exact J2 _ ((if_neg h2))
    · refine g_aload_n C (i := 0) dX5_kindOf_22 rfl 0 rfl ?_
      refine g_iload_n C (i := 1) dX5_kindOf_23 rfl 1 rfl ?_
      refine g_iload_n C (i := 2) dX5_kindOf_24 rfl 2 rfl ?_
      refine g_iconst C (v := 1) dX5_kindOf_25 (by decide) ?_
      refine g_iadd C dX5_kindOf_26 ?_
      refine g_callV C (st := []) (c_X5_hasChanged l D ad dA z0 tt σ φ x (y + 1)) rfl ml_X5_41 im_X5_hasChanged se_X5_hasChanged in_X5 co_X5_hasChanged dyV_X5_hasChanged rfl rfl ⟨(Nat.le_of_ble_eq_true rfl), (Nat.le_of_ble_eq_true rfl)⟩ 49 5 (fun f => at_49 ad dA σ f) rfl dX5_kindOf_27 rfl (Nat.le_of_ble_eq_true rfl) (g_fni ?_)
      refine g_if_eq C (tgt := 37) dX5_kindOf_30 (by decide) (fun h3 => ?_) (fun h3 => ?_)
      · refine g_iconst C (v := 0) dX5_kindOf_37 (by decide) ?_
        refine g_loc C [0, 1, 2] rfl ?_
        exact J2 _ (((if_pos h2).trans (if_pos h3)))
      · refine g_iconst C (v := 1) dX5_kindOf_33 (by decide) ?_
        refine g_goto C (tgt := 38) dX5_kindOf_34 (by decide) ?_
        refine g_loc C [0, 1, 2] rfl ?_
        exact J2 _ (((if_pos h2).trans (if_neg h3)))
  · refine g_iconst C (v := 0) dX5_kindOf_9 (by decide) ?_
    have e0 : f_X5_kindOf σ x y = 0 := by
      exact ((f_X5_kindOf_eq _ _ _).trans (if_pos h1))
    exact hi _ _ _ _ _ _ rfl dX5_kindOf_10 rfl ⟨(congrArg (fun z => some (Value.int z)) e0).symm, rfl, rfl⟩
def f_X3_isNear (σ : Sg) (x : Int32) (y : Int32) (d : Int32) : Int32 := let v1 : Int32 := (if (f_X10_isWithin y 0 79) = 0 then 0 else (if d < (i_abs ((σ 39 y.toNatClampNeg) - (σ 39 x.toNatClampNeg))) then 0 else 1)); v1
theorem f_X3_isNear_eq (σ : Sg) (x : Int32) (y : Int32) (d : Int32) : f_X3_isNear σ x y d = (let v1 : Int32 := (if (f_X10_isWithin y 0 79) = 0 then 0 else (if d < (i_abs ((σ 39 y.toNatClampNeg) - (σ 39 x.toNatClampNeg))) then 0 else 1)); v1) := rfl
theorem z_X3_isNear (σ : Sg) (x : Int32) (y : Int32) (d : Int32) : f_X3_isNear σ x y d = 0 ∨ f_X3_isNear σ x y d = 1 := (zo_ite (Or.inl rfl) (zo_ite (Or.inl rfl) (Or.inr rfl)))
set_option maxRecDepth 100000 in
set_option maxHeartbeats 4000000 in
theorem c_X3_isNear (l : Launch) (D : va_G) (ad : Nat → Nat) (dA : Nat → ClassId) (z0 : Nat) (tt : Nat → Nat) (σ : Sg) (φ : Fl) (x : Int32) (y : Int32) (d : Int32) (hx : vp_in x 80) : MC l D ad dA z0 tt yX3_isNear (Cond.code yX3_isNear cX3_isNear 4 (some .boolean) :: lw_all) { frames := 1, cells := 0, slots := 0, locals := 40 } [.ref (ad 38), .int x, .int y, .int d] σ φ (Fn (some (.int (f_X3_isNear σ x y d))) σ φ) := by
  refine mk_MC (by decide) (Nat.le_of_ble_eq_true rfl) ?_
  intro K C hi hf hv
  change K σ φ 0 [(0, .ref (ad 38)), (1, .int x), (2, .int y), (3, .int d)] []
  refine g_iload_n C (i := 2) dX3_isNear_0 rfl 2 rfl ?_
  refine g_iconst C (v := 0) dX3_isNear_1 (by decide) ?_
  refine g_bipush C (v := 79) dX3_isNear_2 (by decide) ?_
  refine g_callSN C (st := []) (c_X10_isWithin l D ad dA z0 tt σ φ y 0 79) rfl ml_X3_61 sm_X10_isWithin in_X10 co_X10_isWithin dyS_X10_isWithin rfl rfl ⟨(Nat.le_of_ble_eq_true rfl), (Nat.le_of_ble_eq_true rfl)⟩ dX3_isNear_4 rfl (Nat.le_of_ble_eq_true rfl) (g_fni ?_)
  have J2 : ∀ (v1 : Int32), (if (f_X10_isWithin y 0 79) = 0 then 0 else (if d < (i_abs ((σ 39 y.toNatClampNeg) - (σ 39 x.toNatClampNeg))) then 0 else 1)) = v1 → K σ φ 35 [] [.int v1] := by
    intro v1 ev1
    have e0 : f_X3_isNear σ x y d = v1 := by
      subst ev1
      exact f_X3_isNear_eq _ _ _ _
    exact hi _ _ _ _ _ _ rfl dX3_isNear_35 (lv_narrowZ (show v1 = 0 ∨ v1 = 1 by rw [← ev1]; exact (zo_ite (Or.inl rfl) (zo_ite (Or.inl rfl) (Or.inr rfl))))).1 ⟨(congrArg (fun z => some (Value.int z)) e0).symm, rfl, rfl⟩
  refine g_if_eq C (tgt := 34) dX3_isNear_7 (by decide) (fun h1 => ?_) (fun h1 => ?_)
  · refine g_iconst C (v := 0) dX3_isNear_34 (by decide) ?_
    refine g_loc C [] rfl ?_
    exact J2 _ ((if_pos h1))
  · refine g_aload_n C (i := 0) dX3_isNear_10 rfl 0 rfl ?_
    refine gg_38_0 C fl_X3_9 dX3_isNear_11 ?_
    refine g_iload_n C (i := 2) dX3_isNear_14 rfl 2 rfl ?_
    refine ld_39 C (iw_in (m := 79) rfl h1) dX3_isNear_15 ?_
    refine g_aload_n C (i := 0) dX3_isNear_16 rfl 0 rfl ?_
    refine gg_38_0 C fl_X3_9 dX3_isNear_17 ?_
    refine g_iload_n C (i := 1) dX3_isNear_20 rfl 1 rfl ?_
    refine ld_39 C hx dX3_isNear_21 ?_
    refine g_isub C dX3_isNear_22 ?_
    refine g_abs C ml_X3_64 sm_abs in_J9 co_abs (Nat.le_of_ble_eq_true rfl) (Nat.le_of_ble_eq_true rfl) dX3_isNear_23 ?_
    refine g_absn C ?_
    refine g_iload_n C (i := 3) dX3_isNear_26 rfl 3 rfl ?_
    refine g_icmp_gt C (tgt := 34) dX3_isNear_27 (by decide) (fun h2 => ?_) (fun h2 => ?_)
    · refine g_iconst C (v := 0) dX3_isNear_34 (by decide) ?_
      refine g_loc C [] rfl ?_
      exact J2 _ (((if_neg h1).trans (if_pos h2)))
    · refine g_iconst C (v := 1) dX3_isNear_30 (by decide) ?_
      refine g_goto C (tgt := 35) dX3_isNear_31 (by decide) ?_
      refine g_loc C [] rfl ?_
      exact J2 _ (((if_neg h1).trans (if_neg h2)))
def f_X3_wayFor (σ : Sg) (x : Int32) (y : Int32) (c : Int32) (d : Int32) : Int32 := let v1 : Int32 := (if x ≤ 0 then 0 else 1); let v3 : Int32 := (if 7 ≤ x then 0 else 1); if c = 1 then (let v5 : Int32 := (if v1 = 0 then 2 else 1); v5) else (if c = 2 then (let v7 : Int32 := (if v1 = 0 then 0 else 1); let v9 : Int32 := (if v3 = 0 then 0 else 2); v7 + v9) else (if c = 3 then (let v11 : Int32 := (if v1 = 0 then 0 else (if (f_X3_isNear σ y (y - 10) d) = 0 then 0 else 1)); let v13 : Int32 := (if v3 = 0 then 0 else (if (f_X3_isNear σ y (y + 10) d) = 0 then 0 else 1)); let v15 : Int32 := (if v11 = 0 then 0 else 1); let v17 : Int32 := (if v13 = 0 then 0 else 2); v15 + v17) else 0))
theorem f_X3_wayFor_eq (σ : Sg) (x : Int32) (y : Int32) (c : Int32) (d : Int32) : f_X3_wayFor σ x y c d = (let v1 : Int32 := (if x ≤ 0 then 0 else 1); let v3 : Int32 := (if 7 ≤ x then 0 else 1); if c = 1 then (let v5 : Int32 := (if v1 = 0 then 2 else 1); v5) else (if c = 2 then (let v7 : Int32 := (if v1 = 0 then 0 else 1); let v9 : Int32 := (if v3 = 0 then 0 else 2); v7 + v9) else (if c = 3 then (let v11 : Int32 := (if v1 = 0 then 0 else (if (f_X3_isNear σ y (y - 10) d) = 0 then 0 else 1)); let v13 : Int32 := (if v3 = 0 then 0 else (if (f_X3_isNear σ y (y + 10) d) = 0 then 0 else 1)); let v15 : Int32 := (if v11 = 0 then 0 else 1); let v17 : Int32 := (if v13 = 0 then 0 else 2); v15 + v17) else 0))) := rfl
set_option maxRecDepth 100000 in
set_option maxHeartbeats 4000000 in
theorem c_X3_wayFor (l : Launch) (D : va_G) (ad : Nat → Nat) (dA : Nat → ClassId) (z0 : Nat) (tt : Nat → Nat) (σ : Sg) (φ : Fl) (x : Int32) (y : Int32) (c : Int32) (d : Int32) (hy : vp_in y 80) : MC l D ad dA z0 tt yX3_wayFor (Cond.code yX3_wayFor cX3_wayFor 7 (some .int) :: lw_all) { frames := 2, cells := 0, slots := 0, locals := 63 } [.ref (ad 38), .int x, .int y, .int c, .int d] σ φ (Fn (some (.int (f_X3_wayFor σ x y c d))) σ φ) := by
  refine mk_MC (by decide) (Nat.le_of_ble_eq_true rfl) ?_
  intro K C hi hf hv
  change K σ φ 0 [(0, .ref (ad 38)), (1, .int x), (2, .int y), (3, .int c), (4, .int d)] []
  refine g_iload_n C (i := 1) dX3_wayFor_0 rfl 1 rfl ?_
  have J2 : ∀ (v1 : Int32), (if x ≤ 0 then 0 else 1) = v1 → K σ φ 9 [(0, .ref (ad 38)), (1, .int x), (2, .int y), (3, .int c), (4, .int d)] [.int v1] := by
    intro v1 ev1
    refine g_istore C (i := 5) (lv' := [(5, .int v1), (0, .ref (ad 38)), (1, .int x), (2, .int y), (3, .int c), (4, .int d)]) dX3_wayFor_9 (by decide) rfl ?_
    refine g_iload_n C (i := 1) dX3_wayFor_11 rfl 2 rfl ?_
    refine g_bipush C (v := 7) dX3_wayFor_12 (by decide) ?_
    have J4 : ∀ (v3 : Int32), (if 7 ≤ x then 0 else 1) = v3 → K σ φ 22 [(0, .ref (ad 38)), (2, .int y), (3, .int c), (4, .int d), (5, .int v1)] [.int v3] := by
      intro v3 ev3
      refine g_istore C (i := 6) (lv' := [(6, .int v3), (0, .ref (ad 38)), (2, .int y), (3, .int c), (4, .int d), (5, .int v1)]) dX3_wayFor_22 (by decide) rfl ?_
      refine g_iload_n C (i := 3) dX3_wayFor_24 rfl 3 rfl ?_
      by_cases h3 : c = 1
      · refine g_tableIn C (tgt := 52) (off := 27) dX3_wayFor_25 (by rw [h3]; decide) (by rw [h3]; decide) (by rw [h3]; rfl) (by decide) ?_
        refine g_iload C (i := 5) dX3_wayFor_52 5 rfl ?_
        have J6 : ∀ (v5 : Int32), (if v1 = 0 then 2 else 1) = v5 → K σ φ 62 [] [.int v5] := by
          intro v5 ev5
          have e0 : f_X3_wayFor σ x y c d = v5 := by
            subst ev5
            subst ev3
            subst ev1
            exact ((f_X3_wayFor_eq _ _ _ _ _).trans (if_pos h3))
          exact hi _ _ _ _ _ _ rfl dX3_wayFor_62 rfl ⟨(congrArg (fun z => some (Value.int z)) e0).symm, rfl, rfl⟩
        refine g_if_eq C (tgt := 61) dX3_wayFor_54 (by decide) (fun h4 => ?_) (fun h4 => ?_)
        · refine g_iconst C (v := 2) dX3_wayFor_61 (by decide) ?_
          refine g_loc C [] rfl ?_
          exact J6 _ ((if_pos h4))
        · refine g_iconst C (v := 1) dX3_wayFor_57 (by decide) ?_
          refine g_goto C (tgt := 62) dX3_wayFor_58 (by decide) ?_
          refine g_loc C [] rfl ?_
          exact J6 _ ((if_neg h4))
      · skip
        by_cases h5 : c = 2
        · refine g_tableIn C (tgt := 63) (off := 38) dX3_wayFor_25 (by rw [h5]; decide) (by rw [h5]; decide) (by rw [h5]; rfl) (by decide) ?_
          refine g_goto C (tgt := 123) dX3_wayFor_63 (by decide) ?_
          refine g_iload C (i := 5) dX3_wayFor_123 5 rfl ?_
          have J8 : ∀ (v7 : Int32), (if v1 = 0 then 0 else 1) = v7 → K σ φ 133 [(6, .int v3)] [.int v7] := by
            intro v7 ev7
            refine g_iload C (i := 6) dX3_wayFor_133 0 rfl ?_
            have J10 : ∀ (v9 : Int32), (if v3 = 0 then 0 else 2) = v9 → K σ φ 143 [] [.int v9, .int v7] := by
              intro v9 ev9
              refine g_iadd C dX3_wayFor_143 ?_
              have e0 : f_X3_wayFor σ x y c d = v7 + v9 := by
                subst ev9
                subst ev7
                subst ev3
                subst ev1
                exact ((f_X3_wayFor_eq _ _ _ _ _).trans ((if_neg h3).trans (if_pos h5)))
              exact hi _ _ _ _ _ _ rfl dX3_wayFor_144 rfl ⟨(congrArg (fun z => some (Value.int z)) e0).symm, rfl, rfl⟩
            refine g_if_eq C (tgt := 142) dX3_wayFor_135 (by decide) (fun h7 => ?_) (fun h7 => ?_)
            · refine g_iconst C (v := 0) dX3_wayFor_142 (by decide) ?_
              refine g_loc C [] rfl ?_
              exact J10 _ ((if_pos h7))
            · refine g_iconst C (v := 2) dX3_wayFor_138 (by decide) ?_
              refine g_goto C (tgt := 143) dX3_wayFor_139 (by decide) ?_
              refine g_loc C [] rfl ?_
              exact J10 _ ((if_neg h7))
          refine g_if_eq C (tgt := 132) dX3_wayFor_125 (by decide) (fun h6 => ?_) (fun h6 => ?_)
          · refine g_iconst C (v := 0) dX3_wayFor_132 (by decide) ?_
            refine g_loc C [0] rfl ?_
            exact J8 _ ((if_pos h6))
          · refine g_iconst C (v := 1) dX3_wayFor_128 (by decide) ?_
            refine g_goto C (tgt := 133) dX3_wayFor_129 (by decide) ?_
            refine g_loc C [0] rfl ?_
            exact J8 _ ((if_neg h6))
        · skip
          by_cases h8 : c = 3
          · refine g_tableIn C (tgt := 66) (off := 41) dX3_wayFor_25 (by rw [h8]; decide) (by rw [h8]; decide) (by rw [h8]; rfl) (by decide) ?_
            refine g_iload C (i := 5) dX3_wayFor_66 5 rfl ?_
            have J12 : ∀ (v11 : Int32), (if v1 = 0 then 0 else (if (f_X3_isNear σ y (y - 10) d) = 0 then 0 else 1)) = v11 → K σ φ 90 [(0, .ref (ad 38)), (2, .int y), (4, .int d), (6, .int v3)] [.int v11] := by
              intro v11 ev11
              refine g_istore C (i := 5) (lv' := [(5, .int v11), (0, .ref (ad 38)), (2, .int y), (4, .int d), (6, .int v3)]) dX3_wayFor_90 (by decide) rfl ?_
              refine g_iload C (i := 6) dX3_wayFor_92 4 rfl ?_
              have J14 : ∀ (v13 : Int32), (if v3 = 0 then 0 else (if (f_X3_isNear σ y (y + 10) d) = 0 then 0 else 1)) = v13 → K σ φ 116 [(5, .int v11)] [.int v13] := by
                intro v13 ev13
                refine g_istore C (i := 6) (lv' := [(6, .int v13), (5, .int v11)]) dX3_wayFor_116 (by decide) rfl ?_
                refine g_goto C (tgt := 123) dX3_wayFor_118 (by decide) ?_
                refine g_iload C (i := 5) dX3_wayFor_123 1 rfl ?_
                have J16 : ∀ (v15 : Int32), (if v11 = 0 then 0 else 1) = v15 → K σ φ 133 [(6, .int v13)] [.int v15] := by
                  intro v15 ev15
                  refine g_iload C (i := 6) dX3_wayFor_133 0 rfl ?_
                  have J18 : ∀ (v17 : Int32), (if v13 = 0 then 0 else 2) = v17 → K σ φ 143 [] [.int v17, .int v15] := by
                    intro v17 ev17
                    refine g_iadd C dX3_wayFor_143 ?_
                    have e0 : f_X3_wayFor σ x y c d = v15 + v17 := by
                      subst ev17
                      subst ev15
                      subst ev13
                      subst ev11
                      subst ev3
                      subst ev1
                      exact ((f_X3_wayFor_eq _ _ _ _ _).trans ((if_neg h3).trans ((if_neg h5).trans (if_pos h8))))
                    exact hi _ _ _ _ _ _ rfl dX3_wayFor_144 rfl ⟨(congrArg (fun z => some (Value.int z)) e0).symm, rfl, rfl⟩
                  refine g_if_eq C (tgt := 142) dX3_wayFor_135 (by decide) (fun h14 => ?_) (fun h14 => ?_)
                  · refine g_iconst C (v := 0) dX3_wayFor_142 (by decide) ?_
                    refine g_loc C [] rfl ?_
                    exact J18 _ ((if_pos h14))
                  · refine g_iconst C (v := 2) dX3_wayFor_138 (by decide) ?_
                    refine g_goto C (tgt := 143) dX3_wayFor_139 (by decide) ?_
                    refine g_loc C [] rfl ?_
                    exact J18 _ ((if_neg h14))
                refine g_if_eq C (tgt := 132) dX3_wayFor_125 (by decide) (fun h13 => ?_) (fun h13 => ?_)
                · refine g_iconst C (v := 0) dX3_wayFor_132 (by decide) ?_
                  refine g_loc C [0] rfl ?_
                  exact J16 _ ((if_pos h13))
                · refine g_iconst C (v := 1) dX3_wayFor_128 (by decide) ?_
                  refine g_goto C (tgt := 133) dX3_wayFor_129 (by decide) ?_
                  refine g_loc C [0] rfl ?_
                  exact J16 _ ((if_neg h13))
              refine g_if_eq C (tgt := 115) dX3_wayFor_94 (by decide) (fun h11 => ?_) (fun h11 => ?_)
              · refine g_iconst C (v := 0) dX3_wayFor_115 (by decide) ?_
                refine g_loc C [0] rfl ?_
                exact J14 _ ((if_pos h11))
              · refine g_aload_n C (i := 0) dX3_wayFor_97 rfl 1 rfl ?_
                refine g_iload_n C (i := 2) dX3_wayFor_98 rfl 2 rfl ?_
                refine g_iload_n C (i := 2) dX3_wayFor_99 rfl 2 rfl ?_
                refine g_bipush C (v := 10) dX3_wayFor_100 (by decide) ?_
                refine g_iadd C dX3_wayFor_102 ?_
                refine g_iload C (i := 4) dX3_wayFor_103 3 rfl ?_
                refine g_callV C (st := []) (c_X3_isNear l D ad dA z0 tt σ φ y (y + 10) d hy) rfl ml_X3_57 im_X3_isNear se_X3_isNear in_X3 co_X3_isNear dyV_X3_isNear rfl rfl ⟨(Nat.le_of_ble_eq_true rfl), (Nat.le_of_ble_eq_true rfl)⟩ 38 3 (fun f => at_38 ad dA σ f) rfl dX3_wayFor_105 rfl (Nat.le_of_ble_eq_true rfl) (g_fni ?_)
                refine g_if_eq C (tgt := 115) dX3_wayFor_108 (by decide) (fun h12 => ?_) (fun h12 => ?_)
                · refine g_iconst C (v := 0) dX3_wayFor_115 (by decide) ?_
                  refine g_loc C [0] rfl ?_
                  exact J14 _ (((if_neg h11).trans (if_pos h12)))
                · refine g_iconst C (v := 1) dX3_wayFor_111 (by decide) ?_
                  refine g_goto C (tgt := 116) dX3_wayFor_112 (by decide) ?_
                  refine g_loc C [0] rfl ?_
                  exact J14 _ (((if_neg h11).trans (if_neg h12)))
            refine g_if_eq C (tgt := 89) dX3_wayFor_68 (by decide) (fun h9 => ?_) (fun h9 => ?_)
            · refine g_iconst C (v := 0) dX3_wayFor_89 (by decide) ?_
              refine g_loc C [1, 2, 4, 0] rfl ?_
              exact J12 _ ((if_pos h9))
            · refine g_aload_n C (i := 0) dX3_wayFor_71 rfl 1 rfl ?_
              refine g_iload_n C (i := 2) dX3_wayFor_72 rfl 2 rfl ?_
              refine g_iload_n C (i := 2) dX3_wayFor_73 rfl 2 rfl ?_
              refine g_bipush C (v := 10) dX3_wayFor_74 (by decide) ?_
              refine g_isub C dX3_wayFor_76 ?_
              refine g_iload C (i := 4) dX3_wayFor_77 4 rfl ?_
              refine g_callV C (st := []) (c_X3_isNear l D ad dA z0 tt σ φ y (y - 10) d hy) rfl ml_X3_57 im_X3_isNear se_X3_isNear in_X3 co_X3_isNear dyV_X3_isNear rfl rfl ⟨(Nat.le_of_ble_eq_true rfl), (Nat.le_of_ble_eq_true rfl)⟩ 38 3 (fun f => at_38 ad dA σ f) rfl dX3_wayFor_79 rfl (Nat.le_of_ble_eq_true rfl) (g_fni ?_)
              refine g_if_eq C (tgt := 89) dX3_wayFor_82 (by decide) (fun h10 => ?_) (fun h10 => ?_)
              · refine g_iconst C (v := 0) dX3_wayFor_89 (by decide) ?_
                refine g_loc C [1, 2, 4, 0] rfl ?_
                exact J12 _ (((if_neg h9).trans (if_pos h10)))
              · refine g_iconst C (v := 1) dX3_wayFor_85 (by decide) ?_
                refine g_goto C (tgt := 90) dX3_wayFor_86 (by decide) ?_
                refine g_loc C [1, 2, 4, 0] rfl ?_
                exact J12 _ (((if_neg h9).trans (if_neg h10)))
          · skip
            refine g_tableOut C (tgt := 121) dX3_wayFor_25 (by have nh3 := i32_ne (c := 1) (n := 1) rfl h3; have nh5 := i32_ne (c := 2) (n := 2) rfl h5; have nh8 := i32_ne (c := 3) (n := 3) rfl h8; omega) (by decide) ?_
            refine g_iconst C (v := 0) dX3_wayFor_121 (by decide) ?_
            have e0 : f_X3_wayFor σ x y c d = 0 := by
              subst ev3
              subst ev1
              exact ((f_X3_wayFor_eq _ _ _ _ _).trans ((if_neg h3).trans ((if_neg h5).trans (if_neg h8))))
            exact hi _ _ _ _ _ _ rfl dX3_wayFor_122 rfl ⟨(congrArg (fun z => some (Value.int z)) e0).symm, rfl, rfl⟩
    refine g_icmp_ge C (tgt := 21) dX3_wayFor_14 (by decide) (fun h2 => ?_) (fun h2 => ?_)
    · refine g_iconst C (v := 0) dX3_wayFor_21 (by decide) ?_
      refine g_loc C [1, 3, 4, 5, 0] rfl ?_
      exact J4 _ ((if_pos h2))
    · refine g_iconst C (v := 1) dX3_wayFor_17 (by decide) ?_
      refine g_goto C (tgt := 22) dX3_wayFor_18 (by decide) ?_
      refine g_loc C [1, 3, 4, 5, 0] rfl ?_
      exact J4 _ ((if_neg h2))
  refine g_if_le C (tgt := 8) dX3_wayFor_1 (by decide) (fun h1 => ?_) (fun h1 => ?_)
  · refine g_iconst C (v := 0) dX3_wayFor_8 (by decide) ?_
    refine g_loc C [0, 1, 2, 3, 4] rfl ?_
    exact J2 _ ((if_pos h1))
  · refine g_iconst C (v := 1) dX3_wayFor_4 (by decide) ?_
    refine g_goto C (tgt := 9) dX3_wayFor_5 (by decide) ?_
    refine g_loc C [0, 1, 2, 3, 4] rfl ?_
    exact J2 _ ((if_neg h1))
def f_X3_sampleAt (σ : Sg) (x : Int32) (y : Int32) : Int32 := let v1 : Int32 := (if (f_X10_isLine x) = 0 then 0 else (f_X9_at σ x ((σ 27 x.toNatClampNeg) + y))); v1
theorem f_X3_sampleAt_eq (σ : Sg) (x : Int32) (y : Int32) : f_X3_sampleAt σ x y = (let v1 : Int32 := (if (f_X10_isLine x) = 0 then 0 else (f_X9_at σ x ((σ 27 x.toNatClampNeg) + y))); v1) := rfl
set_option maxRecDepth 100000 in
set_option maxHeartbeats 4000000 in
theorem c_X3_sampleAt (l : Launch) (D : va_G) (ad : Nat → Nat) (dA : Nat → ClassId) (z0 : Nat) (tt : Nat → Nat) (σ : Sg) (φ : Fl) (x : Int32) (y : Int32)  : MC l D ad dA z0 tt yX3_sampleAt (Cond.code yX3_sampleAt cX3_sampleAt 4 (some .int) :: lw_all) { frames := 2, cells := 0, slots := 0, locals := 42 } [.ref (ad 15), .ref (ad 27), .int x, .int y] σ φ (Fn (some (.int (f_X3_sampleAt σ x y))) σ φ) := by
  refine mk_MC (by decide) (Nat.le_of_ble_eq_true rfl) ?_
  intro K C hi hf hv
  change K σ φ 0 [(0, .ref (ad 15)), (1, .ref (ad 27)), (2, .int x), (3, .int y)] []
  refine g_iload_n C (i := 2) dX3_sampleAt_0 rfl 2 rfl ?_
  refine g_callSN C (st := []) (c_X10_isLine l D ad dA z0 tt σ φ x) rfl ml_X3_90 sm_X10_isLine in_X10 co_X10_isLine dyS_X10_isLine rfl rfl ⟨(Nat.le_of_ble_eq_true rfl), (Nat.le_of_ble_eq_true rfl)⟩ dX3_sampleAt_1 rfl (Nat.le_of_ble_eq_true rfl) (g_fni ?_)
  have J2 : ∀ (v1 : Int32), (if (f_X10_isLine x) = 0 then 0 else (f_X9_at σ x ((σ 27 x.toNatClampNeg) + y))) = v1 → K σ φ 21 [] [.int v1] := by
    intro v1 ev1
    have e0 : f_X3_sampleAt σ x y = v1 := by
      subst ev1
      exact f_X3_sampleAt_eq _ _ _
    exact hi _ _ _ _ _ _ rfl dX3_sampleAt_21 rfl ⟨(congrArg (fun z => some (Value.int z)) e0).symm, rfl, rfl⟩
  refine g_if_eq C (tgt := 20) dX3_sampleAt_4 (by decide) (fun h1 => ?_) (fun h1 => ?_)
  · refine g_iconst C (v := 0) dX3_sampleAt_20 (by decide) ?_
    refine g_loc C [] rfl ?_
    exact J2 _ ((if_pos h1))
  · refine g_aload_n C (i := 0) dX3_sampleAt_7 rfl 0 rfl ?_
    refine g_iload_n C (i := 2) dX3_sampleAt_8 rfl 2 rfl ?_
    refine g_aload_n C (i := 1) dX3_sampleAt_9 rfl 1 rfl ?_
    refine g_iload_n C (i := 2) dX3_sampleAt_10 rfl 2 rfl ?_
    refine ld_27 C (il_in h1) dX3_sampleAt_11 ?_
    refine g_iload_n C (i := 3) dX3_sampleAt_12 rfl 3 rfl ?_
    refine g_iadd C dX3_sampleAt_13 ?_
    refine g_callV C (st := []) (c_X9_at l D ad dA z0 tt σ φ x ((σ 27 x.toNatClampNeg) + y)) rfl ml_X3_94 im_X9_at se_X9_at in_X9 co_X9_at dyV_X9_at rfl rfl ⟨(Nat.le_of_ble_eq_true rfl), (Nat.le_of_ble_eq_true rfl)⟩ 15 9 (fun f => at_15 ad dA σ f) rfl dX3_sampleAt_14 rfl (Nat.le_of_ble_eq_true rfl) (g_fni ?_)
    refine g_goto C (tgt := 21) dX3_sampleAt_17 (by decide) ?_
    refine g_loc C [] rfl ?_
    exact J2 _ ((if_neg h1))
def f_X3_chromaAt (σ : Sg) (x : Int32) (y : Int32) (w : Int32) : Int32 := let v1 : Int32 := 2 * (f_X3_sampleAt σ x y); if w = 1 then (v1 - (2 * (f_X3_sampleAt σ (x - 1) y))) else (if w = 2 then (v1 - (2 * (f_X3_sampleAt σ (x + 1) y))) else (if w = 3 then ((v1 - (f_X3_sampleAt σ (x - 1) y)) - (f_X3_sampleAt σ (x + 1) y)) else ((v1 - (f_X3_sampleAt σ x (y - 2))) - (f_X3_sampleAt σ x (y + 2)))))
theorem f_X3_chromaAt_eq (σ : Sg) (x : Int32) (y : Int32) (w : Int32) : f_X3_chromaAt σ x y w = (let v1 : Int32 := 2 * (f_X3_sampleAt σ x y); if w = 1 then (v1 - (2 * (f_X3_sampleAt σ (x - 1) y))) else (if w = 2 then (v1 - (2 * (f_X3_sampleAt σ (x + 1) y))) else (if w = 3 then ((v1 - (f_X3_sampleAt σ (x - 1) y)) - (f_X3_sampleAt σ (x + 1) y)) else ((v1 - (f_X3_sampleAt σ x (y - 2))) - (f_X3_sampleAt σ x (y + 2)))))) := rfl
set_option maxRecDepth 100000 in
set_option maxHeartbeats 4000000 in
theorem c_X3_chromaAt (l : Launch) (D : va_G) (ad : Nat → Nat) (dA : Nat → ClassId) (z0 : Nat) (tt : Nat → Nat) (σ : Sg) (φ : Fl) (x : Int32) (y : Int32) (w : Int32)  : MC l D ad dA z0 tt yX3_chromaAt (Cond.code yX3_chromaAt cX3_chromaAt 6 (some .int) :: lw_all) { frames := 3, cells := 0, slots := 0, locals := 65 } [.ref (ad 15), .ref (ad 27), .int x, .int y, .int w] σ φ (Fn (some (.int (f_X3_chromaAt σ x y w))) σ φ) := by
  refine mk_MC (by decide) (Nat.le_of_ble_eq_true rfl) ?_
  intro K C hi hf hv
  change K σ φ 0 [(0, .ref (ad 15)), (1, .ref (ad 27)), (2, .int x), (3, .int y), (4, .int w)] []
  refine g_iconst C (v := 2) dX3_chromaAt_0 (by decide) ?_
  refine g_aload_n C (i := 0) dX3_chromaAt_1 rfl 0 rfl ?_
  refine g_aload_n C (i := 1) dX3_chromaAt_2 rfl 1 rfl ?_
  refine g_iload_n C (i := 2) dX3_chromaAt_3 rfl 2 rfl ?_
  refine g_iload_n C (i := 3) dX3_chromaAt_4 rfl 3 rfl ?_
  refine g_callS C (st := [.int 2]) (c_X3_sampleAt l D ad dA z0 tt σ φ x y) rfl ml_X3_86 sm_X3_sampleAt in_X3 co_X3_sampleAt dyS_X3_sampleAt rfl rfl ⟨(Nat.le_of_ble_eq_true rfl), (Nat.le_of_ble_eq_true rfl)⟩ dX3_chromaAt_5 rfl (Nat.le_of_ble_eq_true rfl) (g_fni ?_)
  refine g_imul C dX3_chromaAt_8 ?_
  refine g_nmi C (fun v1 ev1 => ?_)
  refine g_istore C (i := 5) (lv' := [(5, .int v1), (0, .ref (ad 15)), (1, .ref (ad 27)), (2, .int x), (3, .int y), (4, .int w)]) dX3_chromaAt_9 (by decide) rfl ?_
  refine g_iload C (i := 4) dX3_chromaAt_11 5 rfl ?_
  by_cases h1 : w = 1
  · refine g_tableIn C (tgt := 40) (off := 27) dX3_chromaAt_13 (by rw [h1]; decide) (by rw [h1]; decide) (by rw [h1]; rfl) (by decide) ?_
    refine g_iload C (i := 5) dX3_chromaAt_40 0 rfl ?_
    refine g_iconst C (v := 2) dX3_chromaAt_42 (by decide) ?_
    refine g_aload_n C (i := 0) dX3_chromaAt_43 rfl 1 rfl ?_
    refine g_aload_n C (i := 1) dX3_chromaAt_44 rfl 2 rfl ?_
    refine g_iload_n C (i := 2) dX3_chromaAt_45 rfl 3 rfl ?_
    refine g_iconst C (v := 1) dX3_chromaAt_46 (by decide) ?_
    refine g_isub C dX3_chromaAt_47 ?_
    refine g_iload_n C (i := 3) dX3_chromaAt_48 rfl 4 rfl ?_
    refine g_callS C (st := [.int 2, .int v1]) (c_X3_sampleAt l D ad dA z0 tt σ φ (x - 1) y) rfl ml_X3_86 sm_X3_sampleAt in_X3 co_X3_sampleAt dyS_X3_sampleAt rfl rfl ⟨(Nat.le_of_ble_eq_true rfl), (Nat.le_of_ble_eq_true rfl)⟩ dX3_chromaAt_49 rfl (Nat.le_of_ble_eq_true rfl) (g_fni ?_)
    refine g_imul C dX3_chromaAt_52 ?_
    refine g_isub C dX3_chromaAt_53 ?_
    have e0 : f_X3_chromaAt σ x y w = v1 - (2 * (f_X3_sampleAt σ (x - 1) y)) := by
      subst ev1
      exact ((f_X3_chromaAt_eq _ _ _ _).trans (if_pos h1))
    exact hi _ _ _ _ _ _ rfl dX3_chromaAt_54 rfl ⟨(congrArg (fun z => some (Value.int z)) e0).symm, rfl, rfl⟩
  · skip
    by_cases h2 : w = 2
    · refine g_tableIn C (tgt := 55) (off := 42) dX3_chromaAt_13 (by rw [h2]; decide) (by rw [h2]; decide) (by rw [h2]; rfl) (by decide) ?_
      refine g_iload C (i := 5) dX3_chromaAt_55 0 rfl ?_
      refine g_iconst C (v := 2) dX3_chromaAt_57 (by decide) ?_
      refine g_aload_n C (i := 0) dX3_chromaAt_58 rfl 1 rfl ?_
      refine g_aload_n C (i := 1) dX3_chromaAt_59 rfl 2 rfl ?_
      refine g_iload_n C (i := 2) dX3_chromaAt_60 rfl 3 rfl ?_
      refine g_iconst C (v := 1) dX3_chromaAt_61 (by decide) ?_
      refine g_iadd C dX3_chromaAt_62 ?_
      refine g_iload_n C (i := 3) dX3_chromaAt_63 rfl 4 rfl ?_
      refine g_callS C (st := [.int 2, .int v1]) (c_X3_sampleAt l D ad dA z0 tt σ φ (x + 1) y) rfl ml_X3_86 sm_X3_sampleAt in_X3 co_X3_sampleAt dyS_X3_sampleAt rfl rfl ⟨(Nat.le_of_ble_eq_true rfl), (Nat.le_of_ble_eq_true rfl)⟩ dX3_chromaAt_64 rfl (Nat.le_of_ble_eq_true rfl) (g_fni ?_)
      refine g_imul C dX3_chromaAt_67 ?_
      refine g_isub C dX3_chromaAt_68 ?_
      have e0 : f_X3_chromaAt σ x y w = v1 - (2 * (f_X3_sampleAt σ (x + 1) y)) := by
        subst ev1
        exact ((f_X3_chromaAt_eq _ _ _ _).trans ((if_neg h1).trans (if_pos h2)))
      exact hi _ _ _ _ _ _ rfl dX3_chromaAt_69 rfl ⟨(congrArg (fun z => some (Value.int z)) e0).symm, rfl, rfl⟩
    · skip
      by_cases h3 : w = 3
      · refine g_tableIn C (tgt := 70) (off := 57) dX3_chromaAt_13 (by rw [h3]; decide) (by rw [h3]; decide) (by rw [h3]; rfl) (by decide) ?_
        refine g_iload C (i := 5) dX3_chromaAt_70 0 rfl ?_
        refine g_aload_n C (i := 0) dX3_chromaAt_72 rfl 1 rfl ?_
        refine g_aload_n C (i := 1) dX3_chromaAt_73 rfl 2 rfl ?_
        refine g_iload_n C (i := 2) dX3_chromaAt_74 rfl 3 rfl ?_
        refine g_iconst C (v := 1) dX3_chromaAt_75 (by decide) ?_
        refine g_isub C dX3_chromaAt_76 ?_
        refine g_iload_n C (i := 3) dX3_chromaAt_77 rfl 4 rfl ?_
        refine g_callS C (st := [.int v1]) (c_X3_sampleAt l D ad dA z0 tt σ φ (x - 1) y) rfl ml_X3_86 sm_X3_sampleAt in_X3 co_X3_sampleAt dyS_X3_sampleAt rfl rfl ⟨(Nat.le_of_ble_eq_true rfl), (Nat.le_of_ble_eq_true rfl)⟩ dX3_chromaAt_78 rfl (Nat.le_of_ble_eq_true rfl) (g_fni ?_)
        refine g_isub C dX3_chromaAt_81 ?_
        refine g_aload_n C (i := 0) dX3_chromaAt_82 rfl 1 rfl ?_
        refine g_aload_n C (i := 1) dX3_chromaAt_83 rfl 2 rfl ?_
        refine g_iload_n C (i := 2) dX3_chromaAt_84 rfl 3 rfl ?_
        refine g_iconst C (v := 1) dX3_chromaAt_85 (by decide) ?_
        refine g_iadd C dX3_chromaAt_86 ?_
        refine g_iload_n C (i := 3) dX3_chromaAt_87 rfl 4 rfl ?_
        refine g_callS C (st := [.int (v1 - (f_X3_sampleAt σ (x - 1) y))]) (c_X3_sampleAt l D ad dA z0 tt σ φ (x + 1) y) rfl ml_X3_86 sm_X3_sampleAt in_X3 co_X3_sampleAt dyS_X3_sampleAt rfl rfl ⟨(Nat.le_of_ble_eq_true rfl), (Nat.le_of_ble_eq_true rfl)⟩ dX3_chromaAt_88 rfl (Nat.le_of_ble_eq_true rfl) (g_fni ?_)
        refine g_isub C dX3_chromaAt_91 ?_
        have e0 : f_X3_chromaAt σ x y w = (v1 - (f_X3_sampleAt σ (x - 1) y)) - (f_X3_sampleAt σ (x + 1) y) := by
          subst ev1
          exact ((f_X3_chromaAt_eq _ _ _ _).trans ((if_neg h1).trans ((if_neg h2).trans (if_pos h3))))
        exact hi _ _ _ _ _ _ rfl dX3_chromaAt_92 rfl ⟨(congrArg (fun z => some (Value.int z)) e0).symm, rfl, rfl⟩
      · skip
        refine g_tableOut C (tgt := 93) dX3_chromaAt_13 (by have nh1 := i32_ne (c := 1) (n := 1) rfl h1; have nh2 := i32_ne (c := 2) (n := 2) rfl h2; have nh3 := i32_ne (c := 3) (n := 3) rfl h3; omega) (by decide) ?_
        refine g_iload C (i := 5) dX3_chromaAt_93 0 rfl ?_
        refine g_aload_n C (i := 0) dX3_chromaAt_95 rfl 1 rfl ?_
        refine g_aload_n C (i := 1) dX3_chromaAt_96 rfl 2 rfl ?_
        refine g_iload_n C (i := 2) dX3_chromaAt_97 rfl 3 rfl ?_
        refine g_iload_n C (i := 3) dX3_chromaAt_98 rfl 4 rfl ?_
        refine g_iconst C (v := 2) dX3_chromaAt_99 (by decide) ?_
        refine g_isub C dX3_chromaAt_100 ?_
        refine g_callS C (st := [.int v1]) (c_X3_sampleAt l D ad dA z0 tt σ φ x (y - 2)) rfl ml_X3_86 sm_X3_sampleAt in_X3 co_X3_sampleAt dyS_X3_sampleAt rfl rfl ⟨(Nat.le_of_ble_eq_true rfl), (Nat.le_of_ble_eq_true rfl)⟩ dX3_chromaAt_101 rfl (Nat.le_of_ble_eq_true rfl) (g_fni ?_)
        refine g_isub C dX3_chromaAt_104 ?_
        refine g_aload_n C (i := 0) dX3_chromaAt_105 rfl 1 rfl ?_
        refine g_aload_n C (i := 1) dX3_chromaAt_106 rfl 2 rfl ?_
        refine g_iload_n C (i := 2) dX3_chromaAt_107 rfl 3 rfl ?_
        refine g_iload_n C (i := 3) dX3_chromaAt_108 rfl 4 rfl ?_
        refine g_iconst C (v := 2) dX3_chromaAt_109 (by decide) ?_
        refine g_iadd C dX3_chromaAt_110 ?_
        refine g_callS C (st := [.int (v1 - (f_X3_sampleAt σ x (y - 2)))]) (c_X3_sampleAt l D ad dA z0 tt σ φ x (y + 2)) rfl ml_X3_86 sm_X3_sampleAt in_X3 co_X3_sampleAt dyS_X3_sampleAt rfl rfl ⟨(Nat.le_of_ble_eq_true rfl), (Nat.le_of_ble_eq_true rfl)⟩ dX3_chromaAt_111 rfl (Nat.le_of_ble_eq_true rfl) (g_fni ?_)
        refine g_isub C dX3_chromaAt_114 ?_
        have e0 : f_X3_chromaAt σ x y w = (v1 - (f_X3_sampleAt σ x (y - 2))) - (f_X3_sampleAt σ x (y + 2)) := by
          subst ev1
          exact ((f_X3_chromaAt_eq _ _ _ _).trans ((if_neg h1).trans ((if_neg h2).trans (if_neg h3))))
        exact hi _ _ _ _ _ _ rfl dX3_chromaAt_115 rfl ⟨(congrArg (fun z => some (Value.int z)) e0).symm, rfl, rfl⟩
def f_X4_steer (σ : Sg) (x : Int32) : Sg := let σ10 : Sg := (if x = (-1) then (let σ1 : Sg := sw σ 25 6 ((σ 25 6) + 1); let σ2 : Sg := sw σ1 25 5 0; if x = (-1) then σ2 else (if (σ2 25 7) = 0 then (let σ3 : Sg := sw σ2 25 4 (4 * x); σ3) else σ2)) else (if (f_X10_isWithin ((4 * x) - (σ 25 4)) (-12) 12) = 0 then (let σ4 : Sg := sw σ 25 6 ((σ 25 6) + 1); let σ5 : Sg := sw σ4 25 5 0; if x = (-1) then σ5 else (if (σ5 25 7) = 0 then (let σ6 : Sg := sw σ5 25 4 (4 * x); σ6) else σ5)) else (let σ7 : Sg := sw σ 25 4 ((σ 25 4) + (((4 * x) - (σ 25 4)) / 2)); let σ8 : Sg := sw σ7 25 5 ((σ7 25 5) + 1); let σ9 : Sg := sw σ8 25 6 0; σ9))); let σ13 : Sg := (if (σ10 25 5) < 2 then σ10 else (let σ12 : Sg := sw σ10 25 7 1; σ12)); let σ16 : Sg := (if (σ13 25 6) < 4 then σ13 else (let σ15 : Sg := sw σ13 25 7 0; σ15)); σ16
theorem f_X4_steer_eq (σ : Sg) (x : Int32) : f_X4_steer σ x = (let σ10 : Sg := (if x = (-1) then (let σ1 : Sg := sw σ 25 6 ((σ 25 6) + 1); let σ2 : Sg := sw σ1 25 5 0; if x = (-1) then σ2 else (if (σ2 25 7) = 0 then (let σ3 : Sg := sw σ2 25 4 (4 * x); σ3) else σ2)) else (if (f_X10_isWithin ((4 * x) - (σ 25 4)) (-12) 12) = 0 then (let σ4 : Sg := sw σ 25 6 ((σ 25 6) + 1); let σ5 : Sg := sw σ4 25 5 0; if x = (-1) then σ5 else (if (σ5 25 7) = 0 then (let σ6 : Sg := sw σ5 25 4 (4 * x); σ6) else σ5)) else (let σ7 : Sg := sw σ 25 4 ((σ 25 4) + (((4 * x) - (σ 25 4)) / 2)); let σ8 : Sg := sw σ7 25 5 ((σ7 25 5) + 1); let σ9 : Sg := sw σ8 25 6 0; σ9))); let σ13 : Sg := (if (σ10 25 5) < 2 then σ10 else (let σ12 : Sg := sw σ10 25 7 1; σ12)); let σ16 : Sg := (if (σ13 25 6) < 4 then σ13 else (let σ15 : Sg := sw σ13 25 7 0; σ15)); σ16) := rfl
set_option maxRecDepth 100000 in
set_option maxHeartbeats 4000000 in
theorem c_X4_steer (l : Launch) (D : va_G) (ad : Nat → Nat) (dA : Nat → ClassId) (z0 : Nat) (tt : Nat → Nat) (σ : Sg) (φ : Fl) (x : Int32)  : MC l D ad dA z0 tt yX4_steer (Cond.code yX4_steer cX4_steer 3 none :: lw_all) { frames := 1, cells := 0, slots := 0, locals := 22 } [.ref (ad 25), .int x] σ φ (Fn none (f_X4_steer σ x) φ) := by
  refine mk_MC (by decide) (Nat.le_of_ble_eq_true rfl) ?_
  intro K C hi hf hv
  change K σ φ 0 [(0, .ref (ad 25)), (1, .int x)] []
  refine g_iconst C (v := 4) dX4_steer_0 (by decide) ?_
  refine g_iload_n C (i := 1) dX4_steer_1 rfl 1 rfl ?_
  refine g_imul C dX4_steer_2 ?_
  refine g_aload_n C (i := 0) dX4_steer_3 rfl 0 rfl ?_
  refine gg_25_4 C fl_X4_25 dX4_steer_4 ?_
  refine g_isub C dX4_steer_7 ?_
  refine g_istore_n C (i := 2) (lv' := [(2, .int ((4 * x) - (σ 25 4))), (0, .ref (ad 25)), (1, .int x)]) dX4_steer_8 rfl (by decide) rfl ?_
  refine g_iload_n C (i := 1) dX4_steer_9 rfl 2 rfl ?_
  refine g_iconst C (v := (-1)) dX4_steer_10 (by decide) ?_
  have J11 : ∀ (σ10 : Sg), (if x = (-1) then (let σ1 : Sg := sw σ 25 6 ((σ 25 6) + 1); let σ2 : Sg := sw σ1 25 5 0; if x = (-1) then σ2 else (if (σ2 25 7) = 0 then (let σ3 : Sg := sw σ2 25 4 (4 * x); σ3) else σ2)) else (if (f_X10_isWithin ((4 * x) - (σ 25 4)) (-12) 12) = 0 then (let σ4 : Sg := sw σ 25 6 ((σ 25 6) + 1); let σ5 : Sg := sw σ4 25 5 0; if x = (-1) then σ5 else (if (σ5 25 7) = 0 then (let σ6 : Sg := sw σ5 25 4 (4 * x); σ6) else σ5)) else (let σ7 : Sg := sw σ 25 4 ((σ 25 4) + (((4 * x) - (σ 25 4)) / 2)); let σ8 : Sg := sw σ7 25 5 ((σ7 25 5) + 1); let σ9 : Sg := sw σ8 25 6 0; σ9))) = σ10 → K σ10 φ 89 [(0, .ref (ad 25))] [] := by
    intro σ10 eσ10
    refine g_aload_n C (i := 0) dX4_steer_89 rfl 0 rfl ?_
    refine gg_25_5 C fl_X4_29 dX4_steer_90 ?_
    refine g_iconst C (v := 2) dX4_steer_93 (by decide) ?_
    have J14 : ∀ (σ13 : Sg), (if (σ10 25 5) < 2 then σ10 else (let σ12 : Sg := sw σ10 25 7 1; σ12)) = σ13 → K σ13 φ 102 [(0, .ref (ad 25))] [] := by
      intro σ13 eσ13
      refine g_aload_n C (i := 0) dX4_steer_102 rfl 0 rfl ?_
      refine gg_25_6 C fl_X4_32 dX4_steer_103 ?_
      refine g_iconst C (v := 4) dX4_steer_106 (by decide) ?_
      have J17 : ∀ (σ16 : Sg), (if (σ13 25 6) < 4 then σ13 else (let σ15 : Sg := sw σ13 25 7 0; σ15)) = σ16 → K σ16 φ 115 [] [] := by
        intro σ16 eσ16
        have e0 : f_X4_steer σ x = σ16 := by
          subst eσ16
          subst eσ13
          subst eσ10
          exact f_X4_steer_eq _ _
        exact hv _ _ _ _ rfl dX4_steer_115 ⟨rfl, (congrArg (fun z => z) e0).symm, rfl⟩
      refine g_icmp_lt C (tgt := 115) dX4_steer_107 (by decide) (fun h8 => ?_) (fun h8 => ?_)
      · refine g_loc C [] rfl ?_
        exact J17 _ ((if_pos h8))
      · refine g_aload_n C (i := 0) dX4_steer_110 rfl 0 rfl ?_
        refine g_iconst C (v := 0) dX4_steer_111 (by decide) ?_
        refine gp_25_7 C fl_X4_35 (Or.inl rfl) dX4_steer_112 ?_
        refine g_nms C (fun σ15 eσ15 => ?_)
        refine g_loc C [] rfl ?_
        subst eσ15
        exact J17 _ ((if_neg h8))
    refine g_icmp_lt C (tgt := 102) dX4_steer_94 (by decide) (fun h7 => ?_) (fun h7 => ?_)
    · refine g_loc C [0] rfl ?_
      exact J14 _ ((if_pos h7))
    · refine g_aload_n C (i := 0) dX4_steer_97 rfl 0 rfl ?_
      refine g_iconst C (v := 1) dX4_steer_98 (by decide) ?_
      refine gp_25_7 C fl_X4_35 (Or.inr rfl) dX4_steer_99 ?_
      refine g_nms C (fun σ12 eσ12 => ?_)
      refine g_loc C [0] rfl ?_
      subst eσ12
      exact J14 _ ((if_neg h7))
  refine g_icmp_eq C (tgt := 55) dX4_steer_11 (by decide) (fun h1 => ?_) (fun h1 => ?_)
  · refine g_aload_n C (i := 0) dX4_steer_55 rfl 1 rfl ?_
    refine g_dup C dX4_steer_56 rfl ?_
    refine gg_25_6 C fl_X4_32 dX4_steer_57 ?_
    refine g_iconst C (v := 1) dX4_steer_60 (by decide) ?_
    refine g_iadd C dX4_steer_61 ?_
    refine gp_25_6 C fl_X4_32 dX4_steer_62 ?_
    refine g_nms C (fun σ1 eσ1 => ?_)
    refine g_aload_n C (i := 0) dX4_steer_65 rfl 1 rfl ?_
    refine g_iconst C (v := 0) dX4_steer_66 (by decide) ?_
    refine gp_25_5 C fl_X4_29 dX4_steer_67 ?_
    refine g_nms C (fun σ2 eσ2 => ?_)
    refine g_iload_n C (i := 1) dX4_steer_70 rfl 2 rfl ?_
    refine g_iconst C (v := (-1)) dX4_steer_71 (by decide) ?_
    refine g_icmp_eq C (tgt := 89) dX4_steer_72 (by decide) (fun h2 => ?_) (fun h2 => ?_)
    · refine g_loc C [1] rfl ?_
      subst eσ2
      subst eσ1
      exact J11 _ (((if_pos h1).trans (if_pos h2)))
    · refine g_aload_n C (i := 0) dX4_steer_75 rfl 1 rfl ?_
      refine gg_25_7 C fl_X4_35 dX4_steer_76 ?_
      refine g_if_ne C (tgt := 89) dX4_steer_79 (by decide) (fun h3 => ?_) (fun h3 => ?_)
      · refine g_loc C [1] rfl ?_
        subst eσ2
        subst eσ1
        exact J11 _ (((if_pos h1).trans ((if_neg h2).trans (if_neg h3))))
      · refine g_aload_n C (i := 0) dX4_steer_82 rfl 1 rfl ?_
        refine g_iconst C (v := 4) dX4_steer_83 (by decide) ?_
        refine g_iload_n C (i := 1) dX4_steer_84 rfl 2 rfl ?_
        refine g_imul C dX4_steer_85 ?_
        refine gp_25_4 C fl_X4_25 dX4_steer_86 ?_
        refine g_nms C (fun σ3 eσ3 => ?_)
        refine g_loc C [1] rfl ?_
        subst eσ3
        subst eσ2
        subst eσ1
        exact J11 _ (((if_pos h1).trans ((if_neg h2).trans (if_pos h3))))
  · refine g_iload_n C (i := 2) dX4_steer_14 rfl 0 rfl ?_
    refine g_bipush C (v := (-12)) dX4_steer_15 (by decide) ?_
    refine g_bipush C (v := 12) dX4_steer_17 (by decide) ?_
    refine g_callSN C (st := []) (c_X10_isWithin l D ad dA z0 tt σ φ ((4 * x) - (σ 25 4)) (-12) 12) rfl ml_X4_55 sm_X10_isWithin in_X10 co_X10_isWithin dyS_X10_isWithin rfl rfl ⟨(Nat.le_of_ble_eq_true rfl), (Nat.le_of_ble_eq_true rfl)⟩ dX4_steer_19 rfl (Nat.le_of_ble_eq_true rfl) (g_fni ?_)
    refine g_if_eq C (tgt := 55) dX4_steer_22 (by decide) (fun h4 => ?_) (fun h4 => ?_)
    · refine g_aload_n C (i := 0) dX4_steer_55 rfl 1 rfl ?_
      refine g_dup C dX4_steer_56 rfl ?_
      refine gg_25_6 C fl_X4_32 dX4_steer_57 ?_
      refine g_iconst C (v := 1) dX4_steer_60 (by decide) ?_
      refine g_iadd C dX4_steer_61 ?_
      refine gp_25_6 C fl_X4_32 dX4_steer_62 ?_
      refine g_nms C (fun σ4 eσ4 => ?_)
      refine g_aload_n C (i := 0) dX4_steer_65 rfl 1 rfl ?_
      refine g_iconst C (v := 0) dX4_steer_66 (by decide) ?_
      refine gp_25_5 C fl_X4_29 dX4_steer_67 ?_
      refine g_nms C (fun σ5 eσ5 => ?_)
      refine g_iload_n C (i := 1) dX4_steer_70 rfl 2 rfl ?_
      refine g_iconst C (v := (-1)) dX4_steer_71 (by decide) ?_
      refine g_icmp_eq C (tgt := 89) dX4_steer_72 (by decide) (fun h5 => ?_) (fun h5 => ?_)
      · refine g_loc C [1] rfl ?_
        subst eσ5
        subst eσ4
        exact J11 _ (((if_neg h1).trans ((if_pos h4).trans (if_pos h5))))
      · refine g_aload_n C (i := 0) dX4_steer_75 rfl 1 rfl ?_
        refine gg_25_7 C fl_X4_35 dX4_steer_76 ?_
        refine g_if_ne C (tgt := 89) dX4_steer_79 (by decide) (fun h6 => ?_) (fun h6 => ?_)
        · refine g_loc C [1] rfl ?_
          subst eσ5
          subst eσ4
          exact J11 _ (((if_neg h1).trans ((if_pos h4).trans ((if_neg h5).trans (if_neg h6)))))
        · refine g_aload_n C (i := 0) dX4_steer_82 rfl 1 rfl ?_
          refine g_iconst C (v := 4) dX4_steer_83 (by decide) ?_
          refine g_iload_n C (i := 1) dX4_steer_84 rfl 2 rfl ?_
          refine g_imul C dX4_steer_85 ?_
          refine gp_25_4 C fl_X4_25 dX4_steer_86 ?_
          refine g_nms C (fun σ6 eσ6 => ?_)
          refine g_loc C [1] rfl ?_
          subst eσ6
          subst eσ5
          subst eσ4
          exact J11 _ (((if_neg h1).trans ((if_pos h4).trans ((if_neg h5).trans (if_pos h6)))))
    · refine g_aload_n C (i := 0) dX4_steer_25 rfl 1 rfl ?_
      refine g_dup C dX4_steer_26 rfl ?_
      refine gg_25_4 C fl_X4_25 dX4_steer_27 ?_
      refine g_iload_n C (i := 2) dX4_steer_30 rfl 0 rfl ?_
      refine g_iconst C (v := 2) dX4_steer_31 (by decide) ?_
      refine g_idiv C dX4_steer_32 (by decide) ?_
      refine g_iadd C dX4_steer_33 ?_
      refine gp_25_4 C fl_X4_25 dX4_steer_34 ?_
      refine g_nms C (fun σ7 eσ7 => ?_)
      refine g_aload_n C (i := 0) dX4_steer_37 rfl 1 rfl ?_
      refine g_dup C dX4_steer_38 rfl ?_
      refine gg_25_5 C fl_X4_29 dX4_steer_39 ?_
      refine g_iconst C (v := 1) dX4_steer_42 (by decide) ?_
      refine g_iadd C dX4_steer_43 ?_
      refine gp_25_5 C fl_X4_29 dX4_steer_44 ?_
      refine g_nms C (fun σ8 eσ8 => ?_)
      refine g_aload_n C (i := 0) dX4_steer_47 rfl 1 rfl ?_
      refine g_iconst C (v := 0) dX4_steer_48 (by decide) ?_
      refine gp_25_6 C fl_X4_32 dX4_steer_49 ?_
      refine g_nms C (fun σ9 eσ9 => ?_)
      refine g_goto C (tgt := 89) dX4_steer_52 (by decide) ?_
      refine g_loc C [1] rfl ?_
      subst eσ9
      subst eσ8
      subst eσ7
      exact J11 _ (((if_neg h1).trans (if_neg h4)))
def f_X1_countPair (σ : Sg) (x : Int32) (y : Int32) : Sg := if x < 1 then σ else (if (σ 33 x.toNatClampNeg) = 0 then σ else (if (σ 33 (x - 1).toNatClampNeg) = 0 then σ else (let v1 : Int32 := σ 32 (x - 1).toNatClampNeg; let σ6 : Sg := (if 0 ≤ (v1 * (σ 32 x.toNatClampNeg)) then (let σ2 : Sg := sw σ 30 5 ((σ 30 5) + 1); σ2) else (if (i_abs v1) < y then (let σ3 : Sg := sw σ 30 5 ((σ 30 5) + 1); σ3) else (if (i_abs (σ 32 x.toNatClampNeg)) < y then (let σ4 : Sg := sw σ 30 5 ((σ 30 5) + 1); σ4) else (let σ5 : Sg := sw σ 30 4 ((σ 30 4) + 1); σ5)))); σ6)))
theorem f_X1_countPair_eq (σ : Sg) (x : Int32) (y : Int32) : f_X1_countPair σ x y = (if x < 1 then σ else (if (σ 33 x.toNatClampNeg) = 0 then σ else (if (σ 33 (x - 1).toNatClampNeg) = 0 then σ else (let v1 : Int32 := σ 32 (x - 1).toNatClampNeg; let σ6 : Sg := (if 0 ≤ (v1 * (σ 32 x.toNatClampNeg)) then (let σ2 : Sg := sw σ 30 5 ((σ 30 5) + 1); σ2) else (if (i_abs v1) < y then (let σ3 : Sg := sw σ 30 5 ((σ 30 5) + 1); σ3) else (if (i_abs (σ 32 x.toNatClampNeg)) < y then (let σ4 : Sg := sw σ 30 5 ((σ 30 5) + 1); σ4) else (let σ5 : Sg := sw σ 30 4 ((σ 30 4) + 1); σ5)))); σ6)))) := rfl
set_option maxRecDepth 100000 in
set_option maxHeartbeats 4000000 in
theorem c_X1_countPair (l : Launch) (D : va_G) (ad : Nat → Nat) (dA : Nat → ClassId) (z0 : Nat) (tt : Nat → Nat) (σ : Sg) (φ : Fl) (x : Int32) (y : Int32) (hx : vp_in x 8) : MC l D ad dA z0 tt yX1_countPair (Cond.code yX1_countPair cX1_countPair 5 none :: lw_all) { frames := 1, cells := 0, slots := 0, locals := 40 } [.ref (ad 30), .int x, .int y] σ φ (Fn none (f_X1_countPair σ x y) φ) := by
  refine mk_MC (by decide) (Nat.le_of_ble_eq_true rfl) ?_
  intro K C hi hf hv
  change K σ φ 0 [(0, .ref (ad 30)), (1, .int x), (2, .int y)] []
  refine g_iload_n C (i := 1) dX1_countPair_0 rfl 1 rfl ?_
  refine g_iconst C (v := 1) dX1_countPair_1 (by decide) ?_
  refine g_icmp_lt C (tgt := 25) dX1_countPair_2 (by decide) (fun h1 => ?_) (fun h1 => ?_)
  · have e0 : f_X1_countPair σ x y = σ := by
      exact ((f_X1_countPair_eq _ _ _).trans (if_pos h1))
    exact hv _ _ _ _ rfl dX1_countPair_25 ⟨rfl, (congrArg (fun z => z) e0).symm, rfl⟩
  · refine g_aload_n C (i := 0) dX1_countPair_5 rfl 0 rfl ?_
    refine gg_30_2 C fl_X1_18 dX1_countPair_6 ?_
    refine g_iload_n C (i := 1) dX1_countPair_9 rfl 1 rfl ?_
    refine ld_33 C hx dX1_countPair_10 ?_
    refine g_if_eq C (tgt := 25) dX1_countPair_11 (by decide) (fun h2 => ?_) (fun h2 => ?_)
    · have e0 : f_X1_countPair σ x y = σ := by
        exact ((f_X1_countPair_eq _ _ _).trans ((if_neg h1).trans (if_pos h2)))
      exact hv _ _ _ _ rfl dX1_countPair_25 ⟨rfl, (congrArg (fun z => z) e0).symm, rfl⟩
    · refine g_aload_n C (i := 0) dX1_countPair_14 rfl 0 rfl ?_
      refine gg_30_2 C fl_X1_18 dX1_countPair_15 ?_
      refine g_iload_n C (i := 1) dX1_countPair_18 rfl 1 rfl ?_
      refine g_iconst C (v := 1) dX1_countPair_19 (by decide) ?_
      refine g_isub C dX1_countPair_20 ?_
      refine ld_33 C (m1_in (by decide) hx h1) dX1_countPair_21 ?_
      refine g_if_ne C (tgt := 26) dX1_countPair_22 (by decide) (fun h3 => ?_) (fun h3 => ?_)
      · refine g_aload_n C (i := 0) dX1_countPair_26 rfl 0 rfl ?_
        refine gg_30_1 C fl_X1_15 dX1_countPair_27 ?_
        refine g_iload_n C (i := 1) dX1_countPair_30 rfl 1 rfl ?_
        refine g_iconst C (v := 1) dX1_countPair_31 (by decide) ?_
        refine g_isub C dX1_countPair_32 ?_
        refine ld_32 C (m1_in (by decide) hx h1) dX1_countPair_33 ?_
        refine g_nmi C (fun v1 ev1 => ?_)
        refine g_istore_n C (i := 3) (lv' := [(3, .int v1), (0, .ref (ad 30)), (1, .int x), (2, .int y)]) dX1_countPair_34 rfl (by decide) rfl ?_
        refine g_aload_n C (i := 0) dX1_countPair_35 rfl 1 rfl ?_
        refine gg_30_1 C fl_X1_15 dX1_countPair_36 ?_
        refine g_iload_n C (i := 1) dX1_countPair_39 rfl 2 rfl ?_
        refine ld_32 C hx dX1_countPair_40 ?_
        refine g_istore C (i := 4) (lv' := [(4, .int (σ 32 x.toNatClampNeg)), (3, .int v1), (0, .ref (ad 30)), (1, .int x), (2, .int y)]) dX1_countPair_41 (by decide) rfl ?_
        refine g_iload_n C (i := 3) dX1_countPair_43 rfl 1 rfl ?_
        refine g_iload C (i := 4) dX1_countPair_44 0 rfl ?_
        refine g_imul C dX1_countPair_46 ?_
        have J7 : ∀ (σ6 : Sg), (if 0 ≤ (v1 * (σ 32 x.toNatClampNeg)) then (let σ2 : Sg := sw σ 30 5 ((σ 30 5) + 1); σ2) else (if (i_abs v1) < y then (let σ3 : Sg := sw σ 30 5 ((σ 30 5) + 1); σ3) else (if (i_abs (σ 32 x.toNatClampNeg)) < y then (let σ4 : Sg := sw σ 30 5 ((σ 30 5) + 1); σ4) else (let σ5 : Sg := sw σ 30 4 ((σ 30 4) + 1); σ5)))) = σ6 → K σ6 φ 90 [] [] := by
          intro σ6 eσ6
          have e0 : f_X1_countPair σ x y = σ6 := by
            subst eσ6
            subst ev1
            exact ((f_X1_countPair_eq _ _ _).trans ((if_neg h1).trans ((if_neg h2).trans (if_neg h3))))
          exact hv _ _ _ _ rfl dX1_countPair_90 ⟨rfl, (congrArg (fun z => z) e0).symm, rfl⟩
        refine g_if_ge C (tgt := 80) dX1_countPair_47 (by decide) (fun h4 => ?_) (fun h4 => ?_)
        · refine g_aload_n C (i := 0) dX1_countPair_80 rfl 2 rfl ?_
          refine g_dup C dX1_countPair_81 rfl ?_
          refine gg_30_5 C fl_X1_29 dX1_countPair_82 ?_
          refine g_iconst C (v := 1) dX1_countPair_85 (by decide) ?_
          refine g_iadd C dX1_countPair_86 ?_
          refine gp_30_5 C fl_X1_29 dX1_countPair_87 ?_
          refine g_nms C (fun σ2 eσ2 => ?_)
          refine g_loc C [] rfl ?_
          subst eσ2
          exact J7 _ ((if_pos h4))
        · refine g_iload_n C (i := 3) dX1_countPair_50 rfl 1 rfl ?_
          refine g_abs C ml_X1_36 sm_abs in_J9 co_abs (Nat.le_of_ble_eq_true rfl) (Nat.le_of_ble_eq_true rfl) dX1_countPair_51 ?_
          refine g_absn C ?_
          refine g_iload_n C (i := 2) dX1_countPair_54 rfl 4 rfl ?_
          refine g_icmp_lt C (tgt := 80) dX1_countPair_55 (by decide) (fun h5 => ?_) (fun h5 => ?_)
          · refine g_aload_n C (i := 0) dX1_countPair_80 rfl 2 rfl ?_
            refine g_dup C dX1_countPair_81 rfl ?_
            refine gg_30_5 C fl_X1_29 dX1_countPair_82 ?_
            refine g_iconst C (v := 1) dX1_countPair_85 (by decide) ?_
            refine g_iadd C dX1_countPair_86 ?_
            refine gp_30_5 C fl_X1_29 dX1_countPair_87 ?_
            refine g_nms C (fun σ3 eσ3 => ?_)
            refine g_loc C [] rfl ?_
            subst eσ3
            exact J7 _ (((if_neg h4).trans (if_pos h5)))
          · refine g_iload C (i := 4) dX1_countPair_58 0 rfl ?_
            refine g_abs C ml_X1_36 sm_abs in_J9 co_abs (Nat.le_of_ble_eq_true rfl) (Nat.le_of_ble_eq_true rfl) dX1_countPair_60 ?_
            refine g_absn C ?_
            refine g_iload_n C (i := 2) dX1_countPair_63 rfl 4 rfl ?_
            refine g_icmp_lt C (tgt := 80) dX1_countPair_64 (by decide) (fun h6 => ?_) (fun h6 => ?_)
            · refine g_aload_n C (i := 0) dX1_countPair_80 rfl 2 rfl ?_
              refine g_dup C dX1_countPair_81 rfl ?_
              refine gg_30_5 C fl_X1_29 dX1_countPair_82 ?_
              refine g_iconst C (v := 1) dX1_countPair_85 (by decide) ?_
              refine g_iadd C dX1_countPair_86 ?_
              refine gp_30_5 C fl_X1_29 dX1_countPair_87 ?_
              refine g_nms C (fun σ4 eσ4 => ?_)
              refine g_loc C [] rfl ?_
              subst eσ4
              exact J7 _ (((if_neg h4).trans ((if_neg h5).trans (if_pos h6))))
            · refine g_aload_n C (i := 0) dX1_countPair_67 rfl 2 rfl ?_
              refine g_dup C dX1_countPair_68 rfl ?_
              refine gg_30_4 C fl_X1_25 dX1_countPair_69 ?_
              refine g_iconst C (v := 1) dX1_countPair_72 (by decide) ?_
              refine g_iadd C dX1_countPair_73 ?_
              refine gp_30_4 C fl_X1_25 dX1_countPair_74 ?_
              refine g_nms C (fun σ5 eσ5 => ?_)
              refine g_goto C (tgt := 90) dX1_countPair_77 (by decide) ?_
              refine g_loc C [] rfl ?_
              subst eσ5
              exact J7 _ (((if_neg h4).trans ((if_neg h5).trans (if_neg h6))))
      · have e0 : f_X1_countPair σ x y = σ := by
          exact ((f_X1_countPair_eq _ _ _).trans ((if_neg h1).trans ((if_neg h2).trans (if_pos h3))))
        exact hv _ _ _ _ rfl dX1_countPair_25 ⟨rfl, (congrArg (fun z => z) e0).symm, rfl⟩
def f_X1_guessedStandard (σ : Sg) : Int32 := let v1 : Int32 := (if (σ 30 4) ≤ (σ 30 5) then 0 else 1); f_X10_oneIf v1
theorem f_X1_guessedStandard_eq (σ : Sg) : f_X1_guessedStandard σ = (let v1 : Int32 := (if (σ 30 4) ≤ (σ 30 5) then 0 else 1); f_X10_oneIf v1) := rfl
set_option maxRecDepth 100000 in
set_option maxHeartbeats 4000000 in
theorem c_X1_guessedStandard (l : Launch) (D : va_G) (ad : Nat → Nat) (dA : Nat → ClassId) (z0 : Nat) (tt : Nat → Nat) (σ : Sg) (φ : Fl)   : MC l D ad dA z0 tt yX1_guessedStandard (Cond.code yX1_guessedStandard cX1_guessedStandard 1 (some .int) :: lw_all) { frames := 1, cells := 0, slots := 0, locals := 20 } [.ref (ad 30)] σ φ (Fn (some (.int (f_X1_guessedStandard σ))) σ φ) := by
  refine mk_MC (by decide) (Nat.le_of_ble_eq_true rfl) ?_
  intro K C hi hf hv
  change K σ φ 0 [(0, .ref (ad 30))] []
  refine g_aload_n C (i := 0) dX1_guessedStandard_0 rfl 0 rfl ?_
  refine gg_30_4 C fl_X1_25 dX1_guessedStandard_1 ?_
  refine g_aload_n C (i := 0) dX1_guessedStandard_4 rfl 0 rfl ?_
  refine gg_30_5 C fl_X1_29 dX1_guessedStandard_5 ?_
  have J2 : ∀ (v1 : Int32), (if (σ 30 4) ≤ (σ 30 5) then 0 else 1) = v1 → K σ φ 16 [] [.int v1] := by
    intro v1 ev1
    refine g_callSN C (st := []) (c_X10_oneIf l D ad dA z0 tt σ φ v1) rfl ml_X1_61 sm_X10_oneIf in_X10 co_X10_oneIf dyS_X10_oneIf rfl rfl ⟨(Nat.le_of_ble_eq_true rfl), (Nat.le_of_ble_eq_true rfl)⟩ dX1_guessedStandard_16 rfl (Nat.le_of_ble_eq_true rfl) (g_fni ?_)
    have e0 : f_X1_guessedStandard σ = f_X10_oneIf v1 := by
      subst ev1
      exact f_X1_guessedStandard_eq _
    exact hi _ _ _ _ _ _ rfl dX1_guessedStandard_19 rfl ⟨(congrArg (fun z => some (Value.int z)) e0).symm, rfl, rfl⟩
  refine g_icmp_le C (tgt := 15) dX1_guessedStandard_8 (by decide) (fun h1 => ?_) (fun h1 => ?_)
  · refine g_iconst C (v := 0) dX1_guessedStandard_15 (by decide) ?_
    refine g_loc C [] rfl ?_
    exact J2 _ ((if_pos h1))
  · refine g_iconst C (v := 1) dX1_guessedStandard_11 (by decide) ?_
    refine g_goto C (tgt := 16) dX1_guessedStandard_12 (by decide) ?_
    refine g_loc C [] rfl ?_
    exact J2 _ ((if_neg h1))
