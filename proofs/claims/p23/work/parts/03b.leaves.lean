/-! leaves -/
def f_J9_floorDiv_7cf53 (x : Int32) (y : Int32) : Int32 := if 0 ≤ (x ^^^ y) then (x / y) else (if ((x / y) * y) = x then (x / y) else ((x / y) - 1))
theorem f_J9_floorDiv_7cf53_eq (x : Int32) (y : Int32) : f_J9_floorDiv_7cf53 x y = (if 0 ≤ (x ^^^ y) then (x / y) else (if ((x / y) * y) = x then (x / y) else ((x / y) - 1))) := rfl
set_option maxRecDepth 100000 in
set_option maxHeartbeats 4000000 in
theorem c_J9_floorDiv_7cf53 (l : Launch) (D : va_G) (ad : Nat → Nat) (dA : Nat → ClassId) (z0 : Nat) (tt : Nat → Nat) (σ : Sg) (φ : Fl) (x : Int32) (y : Int32) (hy : ¬ y = 0) : MC l D ad dA z0 tt yJ9_floorDiv_7cf53 (Cond.code yJ9_floorDiv_7cf53 cJ9_floorDiv_7cf53 3 (some .int) :: lw_all) { frames := 0, cells := 0, slots := 0, locals := 0 } [.int x, .int y] σ φ (Fn (some (.int (f_J9_floorDiv_7cf53 x y))) σ φ) := by
  refine mk_MCF (by decide +kernel) (Nat.le_of_ble_eq_true rfl) ?_
  intro K C hi hf hv
  change K σ φ 0 [(0, .int x), (1, .int y)] []
  refine g_iload_n C (i := 0) dJ9_floorDiv_7cf53_0 rfl 0 rfl ?_
  refine g_iload_n C (i := 1) dJ9_floorDiv_7cf53_1 rfl 1 rfl ?_
  refine g_idiv C dJ9_floorDiv_7cf53_2 hy ?_
  refine g_istore_n C (i := 2) (lv' := [(2, .int (x / y)), (0, .int x), (1, .int y)]) dJ9_floorDiv_7cf53_3 rfl (by decide) rfl ?_
  refine g_iload_n C (i := 0) dJ9_floorDiv_7cf53_4 rfl 1 rfl ?_
  refine g_iload_n C (i := 1) dJ9_floorDiv_7cf53_5 rfl 2 rfl ?_
  refine g_ixor C dJ9_floorDiv_7cf53_6 ?_
  refine g_if_ge C (tgt := 21) dJ9_floorDiv_7cf53_7 (by decide) (fun h1 => ?_) (fun h1 => ?_)
  · refine g_iload_n C (i := 2) dJ9_floorDiv_7cf53_21 rfl 0 rfl ?_
    have e0 : f_J9_floorDiv_7cf53 x y = x / y := by
      exact ((f_J9_floorDiv_7cf53_eq _ _).trans (if_pos h1))
    exact hi _ _ _ _ _ _ rfl dJ9_floorDiv_7cf53_22 rfl ⟨(congrArg (fun z => some (Value.int z)) e0).symm, rfl, rfl⟩
  · refine g_iload_n C (i := 2) dJ9_floorDiv_7cf53_10 rfl 0 rfl ?_
    refine g_iload_n C (i := 1) dJ9_floorDiv_7cf53_11 rfl 2 rfl ?_
    refine g_imul C dJ9_floorDiv_7cf53_12 ?_
    refine g_iload_n C (i := 0) dJ9_floorDiv_7cf53_13 rfl 1 rfl ?_
    refine g_icmp_eq C (tgt := 21) dJ9_floorDiv_7cf53_14 (by decide) (fun h2 => ?_) (fun h2 => ?_)
    · refine g_iload_n C (i := 2) dJ9_floorDiv_7cf53_21 rfl 0 rfl ?_
      have e0 : f_J9_floorDiv_7cf53 x y = x / y := by
        exact ((f_J9_floorDiv_7cf53_eq _ _).trans ((if_neg h1).trans (if_pos h2)))
      exact hi _ _ _ _ _ _ rfl dJ9_floorDiv_7cf53_22 rfl ⟨(congrArg (fun z => some (Value.int z)) e0).symm, rfl, rfl⟩
    · refine g_iload_n C (i := 2) dJ9_floorDiv_7cf53_17 rfl 0 rfl ?_
      refine g_iconst C (v := 1) dJ9_floorDiv_7cf53_18 (by decide) ?_
      refine g_isub C dJ9_floorDiv_7cf53_19 ?_
      have e0 : f_J9_floorDiv_7cf53 x y = (x / y) - 1 := by
        exact ((f_J9_floorDiv_7cf53_eq _ _).trans ((if_neg h1).trans (if_neg h2)))
      exact hi _ _ _ _ _ _ rfl dJ9_floorDiv_7cf53_20 rfl ⟨(congrArg (fun z => some (Value.int z)) e0).symm, rfl, rfl⟩
def f_J9_floorMod_7cf53 (x : Int32) (y : Int32) : Int32 := if 0 ≤ (x ^^^ y) then (x - x / y * y) else (if (x - x / y * y) = 0 then (x - x / y * y) else ((x - x / y * y) + y))
theorem f_J9_floorMod_7cf53_eq (x : Int32) (y : Int32) : f_J9_floorMod_7cf53 x y = (if 0 ≤ (x ^^^ y) then (x - x / y * y) else (if (x - x / y * y) = 0 then (x - x / y * y) else ((x - x / y * y) + y))) := rfl
set_option maxRecDepth 100000 in
set_option maxHeartbeats 4000000 in
theorem c_J9_floorMod_7cf53 (l : Launch) (D : va_G) (ad : Nat → Nat) (dA : Nat → ClassId) (z0 : Nat) (tt : Nat → Nat) (σ : Sg) (φ : Fl) (x : Int32) (y : Int32) (hy : ¬ y = 0) : MC l D ad dA z0 tt yJ9_floorMod_7cf53 (Cond.code yJ9_floorMod_7cf53 cJ9_floorMod_7cf53 3 (some .int) :: lw_all) { frames := 0, cells := 0, slots := 0, locals := 0 } [.int x, .int y] σ φ (Fn (some (.int (f_J9_floorMod_7cf53 x y))) σ φ) := by
  refine mk_MCF (by decide +kernel) (Nat.le_of_ble_eq_true rfl) ?_
  intro K C hi hf hv
  change K σ φ 0 [(0, .int x), (1, .int y)] []
  refine g_iload_n C (i := 0) dJ9_floorMod_7cf53_0 rfl 0 rfl ?_
  refine g_iload_n C (i := 1) dJ9_floorMod_7cf53_1 rfl 1 rfl ?_
  refine g_irem C dJ9_floorMod_7cf53_2 hy ?_
  refine g_istore_n C (i := 2) (lv' := [(2, .int (x - x / y * y)), (0, .int x), (1, .int y)]) dJ9_floorMod_7cf53_3 rfl (by decide) rfl ?_
  refine g_iload_n C (i := 0) dJ9_floorMod_7cf53_4 rfl 1 rfl ?_
  refine g_iload_n C (i := 1) dJ9_floorMod_7cf53_5 rfl 2 rfl ?_
  refine g_ixor C dJ9_floorMod_7cf53_6 ?_
  refine g_if_ge C (tgt := 18) dJ9_floorMod_7cf53_7 (by decide) (fun h1 => ?_) (fun h1 => ?_)
  · refine g_iload_n C (i := 2) dJ9_floorMod_7cf53_18 rfl 0 rfl ?_
    have e0 : f_J9_floorMod_7cf53 x y = x - x / y * y := by
      exact ((f_J9_floorMod_7cf53_eq _ _).trans (if_pos h1))
    exact hi _ _ _ _ _ _ rfl dJ9_floorMod_7cf53_19 rfl ⟨(congrArg (fun z => some (Value.int z)) e0).symm, rfl, rfl⟩
  · refine g_iload_n C (i := 2) dJ9_floorMod_7cf53_10 rfl 0 rfl ?_
    refine g_if_eq C (tgt := 18) dJ9_floorMod_7cf53_11 (by decide) (fun h2 => ?_) (fun h2 => ?_)
    · refine g_iload_n C (i := 2) dJ9_floorMod_7cf53_18 rfl 0 rfl ?_
      have e0 : f_J9_floorMod_7cf53 x y = x - x / y * y := by
        exact ((f_J9_floorMod_7cf53_eq _ _).trans ((if_neg h1).trans (if_pos h2)))
      exact hi _ _ _ _ _ _ rfl dJ9_floorMod_7cf53_19 rfl ⟨(congrArg (fun z => some (Value.int z)) e0).symm, rfl, rfl⟩
    · refine g_iload_n C (i := 2) dJ9_floorMod_7cf53_14 rfl 0 rfl ?_
      refine g_iload_n C (i := 1) dJ9_floorMod_7cf53_15 rfl 2 rfl ?_
      refine g_iadd C dJ9_floorMod_7cf53_16 ?_
      have e0 : f_J9_floorMod_7cf53 x y = (x - x / y * y) + y := by
        exact ((f_J9_floorMod_7cf53_eq _ _).trans ((if_neg h1).trans (if_neg h2)))
      exact hi _ _ _ _ _ _ rfl dJ9_floorMod_7cf53_17 rfl ⟨(congrArg (fun z => some (Value.int z)) e0).symm, rfl, rfl⟩
def f_X10_isWithin (x : Int32) (a : Int32) (b : Int32) : Int32 := let v1 : Int32 := (if x < a then 0 else (if b < x then 0 else 1)); v1
theorem f_X10_isWithin_eq (x : Int32) (a : Int32) (b : Int32) : f_X10_isWithin x a b = (let v1 : Int32 := (if x < a then 0 else (if b < x then 0 else 1)); v1) := rfl
theorem z_X10_isWithin (x : Int32) (a : Int32) (b : Int32) : f_X10_isWithin x a b = 0 ∨ f_X10_isWithin x a b = 1 := (zo_ite (Or.inl rfl) (zo_ite (Or.inl rfl) (Or.inr rfl)))
set_option maxRecDepth 100000 in
set_option maxHeartbeats 4000000 in
theorem c_X10_isWithin (l : Launch) (D : va_G) (ad : Nat → Nat) (dA : Nat → ClassId) (z0 : Nat) (tt : Nat → Nat) (σ : Sg) (φ : Fl) (x : Int32) (a : Int32) (b : Int32)  : MC l D ad dA z0 tt yX10_isWithin (Cond.code yX10_isWithin cX10_isWithin 3 (some .boolean) :: lw_all) { frames := 0, cells := 0, slots := 0, locals := 0 } [.int x, .int a, .int b] σ φ (Fn (some (.int (f_X10_isWithin x a b))) σ φ) := by
  refine mk_MC (by decide) (Nat.le_of_ble_eq_true rfl) ?_
  intro K C hi hf hv
  change K σ φ 0 [(0, .int x), (1, .int a), (2, .int b)] []
  refine g_iload_n C (i := 0) dX10_isWithin_0 rfl 0 rfl ?_
  refine g_iload_n C (i := 1) dX10_isWithin_1 rfl 1 rfl ?_
  have J2 : ∀ (v1 : Int32), (if x < a then 0 else (if b < x then 0 else 1)) = v1 → K σ φ 15 [] [.int v1] := by
    intro v1 ev1
    have e0 : f_X10_isWithin x a b = v1 := by
      subst ev1
      exact f_X10_isWithin_eq _ _ _
    exact hi _ _ _ _ _ _ rfl dX10_isWithin_15 (lv_narrowZ (show v1 = 0 ∨ v1 = 1 by rw [← ev1]; exact (zo_ite (Or.inl rfl) (zo_ite (Or.inl rfl) (Or.inr rfl))))).1 ⟨(congrArg (fun z => some (Value.int z)) e0).symm, rfl, rfl⟩
  refine g_icmp_lt C (tgt := 14) dX10_isWithin_2 (by decide) (fun h1 => ?_) (fun h1 => ?_)
  · refine g_iconst C (v := 0) dX10_isWithin_14 (by decide) ?_
    refine g_loc C [] rfl ?_
    exact J2 _ ((if_pos h1))
  · refine g_iload_n C (i := 0) dX10_isWithin_5 rfl 0 rfl ?_
    refine g_iload_n C (i := 2) dX10_isWithin_6 rfl 2 rfl ?_
    refine g_icmp_gt C (tgt := 14) dX10_isWithin_7 (by decide) (fun h2 => ?_) (fun h2 => ?_)
    · refine g_iconst C (v := 0) dX10_isWithin_14 (by decide) ?_
      refine g_loc C [] rfl ?_
      exact J2 _ (((if_neg h1).trans (if_pos h2)))
    · refine g_iconst C (v := 1) dX10_isWithin_10 (by decide) ?_
      refine g_goto C (tgt := 15) dX10_isWithin_11 (by decide) ?_
      refine g_loc C [] rfl ?_
      exact J2 _ (((if_neg h1).trans (if_neg h2)))
def f_X10_isLine (x : Int32) : Int32 := f_X10_isWithin x 0 7
theorem f_X10_isLine_eq (x : Int32) : f_X10_isLine x = (f_X10_isWithin x 0 7) := rfl
theorem z_X10_isLine (x : Int32) : f_X10_isLine x = 0 ∨ f_X10_isLine x = 1 := (z_X10_isWithin x 0 7)
set_option maxRecDepth 100000 in
set_option maxHeartbeats 4000000 in
theorem c_X10_isLine (l : Launch) (D : va_G) (ad : Nat → Nat) (dA : Nat → ClassId) (z0 : Nat) (tt : Nat → Nat) (σ : Sg) (φ : Fl) (x : Int32)  : MC l D ad dA z0 tt yX10_isLine (Cond.code yX10_isLine cX10_isLine 1 (some .boolean) :: lw_all) { frames := 1, cells := 0, slots := 0, locals := 22 } [.int x] σ φ (Fn (some (.int (f_X10_isLine x))) σ φ) := by
  refine mk_MC (by decide) (Nat.le_of_ble_eq_true rfl) ?_
  intro K C hi hf hv
  change K σ φ 0 [(0, .int x)] []
  refine g_iload_n C (i := 0) dX10_isLine_0 rfl 0 rfl ?_
  refine g_iconst C (v := 0) dX10_isLine_1 (by decide) ?_
  refine g_bipush C (v := 7) dX10_isLine_2 (by decide) ?_
  refine g_callS C (st := []) (c_X10_isWithin l D ad dA z0 tt σ φ x 0 7) rfl ml_X10_105 sm_X10_isWithin in_X10 co_X10_isWithin dyS_X10_isWithin rfl rfl ⟨(Nat.le_of_ble_eq_true rfl), (Nat.le_of_ble_eq_true rfl)⟩ dX10_isLine_4 rfl (Nat.le_of_ble_eq_true rfl) (g_fni ?_)
  have e0 : f_X10_isLine x = f_X10_isWithin x 0 7 := by
    exact f_X10_isLine_eq _
  exact hi _ _ _ _ _ _ rfl dX10_isLine_7 (lv_narrowZ (z_X10_isWithin x 0 7)).1 ⟨(congrArg (fun z => some (Value.int z)) e0).symm, rfl, rfl⟩
def f_X10_isPlace (x : Int32) (y : Int32) : Int32 := let v1 : Int32 := (if (f_X10_isLine x) = 0 then 0 else (if (f_X10_isWithin y 0 9) = 0 then 0 else 1)); v1
theorem f_X10_isPlace_eq (x : Int32) (y : Int32) : f_X10_isPlace x y = (let v1 : Int32 := (if (f_X10_isLine x) = 0 then 0 else (if (f_X10_isWithin y 0 9) = 0 then 0 else 1)); v1) := rfl
theorem z_X10_isPlace (x : Int32) (y : Int32) : f_X10_isPlace x y = 0 ∨ f_X10_isPlace x y = 1 := (zo_ite (Or.inl rfl) (zo_ite (Or.inl rfl) (Or.inr rfl)))
set_option maxRecDepth 100000 in
set_option maxHeartbeats 4000000 in
theorem c_X10_isPlace (l : Launch) (D : va_G) (ad : Nat → Nat) (dA : Nat → ClassId) (z0 : Nat) (tt : Nat → Nat) (σ : Sg) (φ : Fl) (x : Int32) (y : Int32)  : MC l D ad dA z0 tt yX10_isPlace (Cond.code yX10_isPlace cX10_isPlace 2 (some .boolean) :: lw_all) { frames := 2, cells := 0, slots := 0, locals := 42 } [.int x, .int y] σ φ (Fn (some (.int (f_X10_isPlace x y))) σ φ) := by
  refine mk_MC (by decide) (Nat.le_of_ble_eq_true rfl) ?_
  intro K C hi hf hv
  change K σ φ 0 [(0, .int x), (1, .int y)] []
  refine g_iload_n C (i := 0) dX10_isPlace_0 rfl 0 rfl ?_
  refine g_callS C (st := []) (c_X10_isLine l D ad dA z0 tt σ φ x) rfl ml_X10_101 sm_X10_isLine in_X10 co_X10_isLine dyS_X10_isLine rfl rfl ⟨(Nat.le_of_ble_eq_true rfl), (Nat.le_of_ble_eq_true rfl)⟩ dX10_isPlace_1 rfl (Nat.le_of_ble_eq_true rfl) (g_fni ?_)
  have J2 : ∀ (v1 : Int32), (if (f_X10_isLine x) = 0 then 0 else (if (f_X10_isWithin y 0 9) = 0 then 0 else 1)) = v1 → K σ φ 22 [] [.int v1] := by
    intro v1 ev1
    have e0 : f_X10_isPlace x y = v1 := by
      subst ev1
      exact f_X10_isPlace_eq _ _
    exact hi _ _ _ _ _ _ rfl dX10_isPlace_22 (lv_narrowZ (show v1 = 0 ∨ v1 = 1 by rw [← ev1]; exact (zo_ite (Or.inl rfl) (zo_ite (Or.inl rfl) (Or.inr rfl))))).1 ⟨(congrArg (fun z => some (Value.int z)) e0).symm, rfl, rfl⟩
  refine g_if_eq C (tgt := 21) dX10_isPlace_4 (by decide) (fun h1 => ?_) (fun h1 => ?_)
  · refine g_iconst C (v := 0) dX10_isPlace_21 (by decide) ?_
    refine g_loc C [] rfl ?_
    exact J2 _ ((if_pos h1))
  · refine g_iload_n C (i := 1) dX10_isPlace_7 rfl 1 rfl ?_
    refine g_iconst C (v := 0) dX10_isPlace_8 (by decide) ?_
    refine g_bipush C (v := 9) dX10_isPlace_9 (by decide) ?_
    refine g_callS C (st := []) (c_X10_isWithin l D ad dA z0 tt σ φ y 0 9) rfl ml_X10_105 sm_X10_isWithin in_X10 co_X10_isWithin dyS_X10_isWithin rfl rfl ⟨(Nat.le_of_ble_eq_true rfl), (Nat.le_of_ble_eq_true rfl)⟩ dX10_isPlace_11 rfl (Nat.le_of_ble_eq_true rfl) (g_fni ?_)
    refine g_if_eq C (tgt := 21) dX10_isPlace_14 (by decide) (fun h2 => ?_) (fun h2 => ?_)
    · refine g_iconst C (v := 0) dX10_isPlace_21 (by decide) ?_
      refine g_loc C [] rfl ?_
      exact J2 _ (((if_neg h1).trans (if_pos h2)))
    · refine g_iconst C (v := 1) dX10_isPlace_17 (by decide) ?_
      refine g_goto C (tgt := 22) dX10_isPlace_18 (by decide) ?_
      refine g_loc C [] rfl ?_
      exact J2 _ (((if_neg h1).trans (if_neg h2)))
def f_X10_isPaint (y : Int32) (u : Int32) (v : Int32) : Int32 := let v1 : Int32 := (if (f_X10_isWithin y 0 200) = 0 then 0 else (if (f_X10_isWithin u (-60) 60) = 0 then 0 else (if (f_X10_isWithin v (-60) 60) = 0 then 0 else 1))); v1
theorem f_X10_isPaint_eq (y : Int32) (u : Int32) (v : Int32) : f_X10_isPaint y u v = (let v1 : Int32 := (if (f_X10_isWithin y 0 200) = 0 then 0 else (if (f_X10_isWithin u (-60) 60) = 0 then 0 else (if (f_X10_isWithin v (-60) 60) = 0 then 0 else 1))); v1) := rfl
theorem z_X10_isPaint (y : Int32) (u : Int32) (v : Int32) : f_X10_isPaint y u v = 0 ∨ f_X10_isPaint y u v = 1 := (zo_ite (Or.inl rfl) (zo_ite (Or.inl rfl) (zo_ite (Or.inl rfl) (Or.inr rfl))))
set_option maxRecDepth 100000 in
set_option maxHeartbeats 4000000 in
theorem c_X10_isPaint (l : Launch) (D : va_G) (ad : Nat → Nat) (dA : Nat → ClassId) (z0 : Nat) (tt : Nat → Nat) (σ : Sg) (φ : Fl) (y : Int32) (u : Int32) (v : Int32)  : MC l D ad dA z0 tt yX10_isPaint (Cond.code yX10_isPaint cX10_isPaint 3 (some .boolean) :: lw_all) { frames := 1, cells := 0, slots := 0, locals := 22 } [.int y, .int u, .int v] σ φ (Fn (some (.int (f_X10_isPaint y u v))) σ φ) := by
  refine mk_MC (by decide) (Nat.le_of_ble_eq_true rfl) ?_
  intro K C hi hf hv
  change K σ φ 0 [(0, .int y), (1, .int u), (2, .int v)] []
  refine g_iload_n C (i := 0) dX10_isPaint_0 rfl 0 rfl ?_
  refine g_iconst C (v := 0) dX10_isPaint_1 (by decide) ?_
  refine g_sipush C (v := 200) dX10_isPaint_2 (by decide) ?_
  refine g_callS C (st := []) (c_X10_isWithin l D ad dA z0 tt σ φ y 0 200) rfl ml_X10_105 sm_X10_isWithin in_X10 co_X10_isWithin dyS_X10_isWithin rfl rfl ⟨(Nat.le_of_ble_eq_true rfl), (Nat.le_of_ble_eq_true rfl)⟩ dX10_isPaint_5 rfl (Nat.le_of_ble_eq_true rfl) (g_fni ?_)
  have J2 : ∀ (v1 : Int32), (if (f_X10_isWithin y 0 200) = 0 then 0 else (if (f_X10_isWithin u (-60) 60) = 0 then 0 else (if (f_X10_isWithin v (-60) 60) = 0 then 0 else 1))) = v1 → K σ φ 38 [] [.int v1] := by
    intro v1 ev1
    have e0 : f_X10_isPaint y u v = v1 := by
      subst ev1
      exact f_X10_isPaint_eq _ _ _
    exact hi _ _ _ _ _ _ rfl dX10_isPaint_38 (lv_narrowZ (show v1 = 0 ∨ v1 = 1 by rw [← ev1]; exact (zo_ite (Or.inl rfl) (zo_ite (Or.inl rfl) (zo_ite (Or.inl rfl) (Or.inr rfl)))))).1 ⟨(congrArg (fun z => some (Value.int z)) e0).symm, rfl, rfl⟩
  refine g_if_eq C (tgt := 37) dX10_isPaint_8 (by decide) (fun h1 => ?_) (fun h1 => ?_)
  · refine g_iconst C (v := 0) dX10_isPaint_37 (by decide) ?_
    refine g_loc C [] rfl ?_
    exact J2 _ ((if_pos h1))
  · refine g_iload_n C (i := 1) dX10_isPaint_11 rfl 1 rfl ?_
    refine g_bipush C (v := (-60)) dX10_isPaint_12 (by decide) ?_
    refine g_bipush C (v := 60) dX10_isPaint_14 (by decide) ?_
    refine g_callS C (st := []) (c_X10_isWithin l D ad dA z0 tt σ φ u (-60) 60) rfl ml_X10_105 sm_X10_isWithin in_X10 co_X10_isWithin dyS_X10_isWithin rfl rfl ⟨(Nat.le_of_ble_eq_true rfl), (Nat.le_of_ble_eq_true rfl)⟩ dX10_isPaint_16 rfl (Nat.le_of_ble_eq_true rfl) (g_fni ?_)
    refine g_if_eq C (tgt := 37) dX10_isPaint_19 (by decide) (fun h2 => ?_) (fun h2 => ?_)
    · refine g_iconst C (v := 0) dX10_isPaint_37 (by decide) ?_
      refine g_loc C [] rfl ?_
      exact J2 _ (((if_neg h1).trans (if_pos h2)))
    · refine g_iload_n C (i := 2) dX10_isPaint_22 rfl 2 rfl ?_
      refine g_bipush C (v := (-60)) dX10_isPaint_23 (by decide) ?_
      refine g_bipush C (v := 60) dX10_isPaint_25 (by decide) ?_
      refine g_callS C (st := []) (c_X10_isWithin l D ad dA z0 tt σ φ v (-60) 60) rfl ml_X10_105 sm_X10_isWithin in_X10 co_X10_isWithin dyS_X10_isWithin rfl rfl ⟨(Nat.le_of_ble_eq_true rfl), (Nat.le_of_ble_eq_true rfl)⟩ dX10_isPaint_27 rfl (Nat.le_of_ble_eq_true rfl) (g_fni ?_)
      refine g_if_eq C (tgt := 37) dX10_isPaint_30 (by decide) (fun h3 => ?_) (fun h3 => ?_)
      · refine g_iconst C (v := 0) dX10_isPaint_37 (by decide) ?_
        refine g_loc C [] rfl ?_
        exact J2 _ (((if_neg h1).trans ((if_neg h2).trans (if_pos h3))))
      · refine g_iconst C (v := 1) dX10_isPaint_33 (by decide) ?_
        refine g_goto C (tgt := 38) dX10_isPaint_34 (by decide) ?_
        refine g_loc C [] rfl ?_
        exact J2 _ (((if_neg h1).trans ((if_neg h2).trans (if_neg h3))))
def f_X10_placeOf (x : Int32) (y : Int32) : Int32 := (x * 10) + y
theorem f_X10_placeOf_eq (x : Int32) (y : Int32) : f_X10_placeOf x y = ((x * 10) + y) := rfl
set_option maxRecDepth 100000 in
set_option maxHeartbeats 4000000 in
theorem c_X10_placeOf (l : Launch) (D : va_G) (ad : Nat → Nat) (dA : Nat → ClassId) (z0 : Nat) (tt : Nat → Nat) (σ : Sg) (φ : Fl) (x : Int32) (y : Int32)  : MC l D ad dA z0 tt yX10_placeOf (Cond.code yX10_placeOf cX10_placeOf 2 (some .int) :: lw_all) { frames := 0, cells := 0, slots := 0, locals := 0 } [.int x, .int y] σ φ (Fn (some (.int (f_X10_placeOf x y))) σ φ) := by
  refine mk_MC (by decide) (Nat.le_of_ble_eq_true rfl) ?_
  intro K C hi hf hv
  change K σ φ 0 [(0, .int x), (1, .int y)] []
  refine g_iload_n C (i := 0) dX10_placeOf_0 rfl 0 rfl ?_
  refine g_bipush C (v := 10) dX10_placeOf_1 (by decide) ?_
  refine g_imul C dX10_placeOf_3 ?_
  refine g_iload_n C (i := 1) dX10_placeOf_4 rfl 1 rfl ?_
  refine g_iadd C dX10_placeOf_5 ?_
  have e0 : f_X10_placeOf x y = (x * 10) + y := by
    exact f_X10_placeOf_eq _ _
  exact hi _ _ _ _ _ _ rfl dX10_placeOf_6 rfl ⟨(congrArg (fun z => some (Value.int z)) e0).symm, rfl, rfl⟩
def f_X10_turnAt (x : Int32) (k : Int32) : Int32 := (k + (2 * x)) &&& 3
theorem f_X10_turnAt_eq (x : Int32) (k : Int32) : f_X10_turnAt x k = ((k + (2 * x)) &&& 3) := rfl
set_option maxRecDepth 100000 in
set_option maxHeartbeats 4000000 in
theorem c_X10_turnAt (l : Launch) (D : va_G) (ad : Nat → Nat) (dA : Nat → ClassId) (z0 : Nat) (tt : Nat → Nat) (σ : Sg) (φ : Fl) (x : Int32) (k : Int32)  : MC l D ad dA z0 tt yX10_turnAt (Cond.code yX10_turnAt cX10_turnAt 2 (some .int) :: lw_all) { frames := 0, cells := 0, slots := 0, locals := 0 } [.int x, .int k] σ φ (Fn (some (.int (f_X10_turnAt x k))) σ φ) := by
  refine mk_MC (by decide) (Nat.le_of_ble_eq_true rfl) ?_
  intro K C hi hf hv
  change K σ φ 0 [(0, .int x), (1, .int k)] []
  refine g_iload_n C (i := 1) dX10_turnAt_0 rfl 1 rfl ?_
  refine g_iconst C (v := 2) dX10_turnAt_1 (by decide) ?_
  refine g_iload_n C (i := 0) dX10_turnAt_2 rfl 0 rfl ?_
  refine g_imul C dX10_turnAt_3 ?_
  refine g_iadd C dX10_turnAt_4 ?_
  refine g_iconst C (v := 3) dX10_turnAt_5 (by decide) ?_
  refine g_iand C dX10_turnAt_6 ?_
  have e0 : f_X10_turnAt x k = (k + (2 * x)) &&& 3 := by
    exact f_X10_turnAt_eq _ _
  exact hi _ _ _ _ _ _ rfl dX10_turnAt_7 rfl ⟨(congrArg (fun z => some (Value.int z)) e0).symm, rfl, rfl⟩
def f_X10_oneIf (x : Int32) : Int32 := let v1 : Int32 := (if x = 0 then 0 else 1); v1
theorem f_X10_oneIf_eq (x : Int32) : f_X10_oneIf x = (let v1 : Int32 := (if x = 0 then 0 else 1); v1) := rfl
set_option maxRecDepth 100000 in
set_option maxHeartbeats 4000000 in
theorem c_X10_oneIf (l : Launch) (D : va_G) (ad : Nat → Nat) (dA : Nat → ClassId) (z0 : Nat) (tt : Nat → Nat) (σ : Sg) (φ : Fl) (x : Int32)  : MC l D ad dA z0 tt yX10_oneIf (Cond.code yX10_oneIf cX10_oneIf 1 (some .int) :: lw_all) { frames := 0, cells := 0, slots := 0, locals := 0 } [.int x] σ φ (Fn (some (.int (f_X10_oneIf x))) σ φ) := by
  refine mk_MC (by decide) (Nat.le_of_ble_eq_true rfl) ?_
  intro K C hi hf hv
  change K σ φ 0 [(0, .int x)] []
  refine g_iload_n C (i := 0) dX10_oneIf_0 rfl 0 rfl ?_
  have J2 : ∀ (v1 : Int32), (if x = 0 then 0 else 1) = v1 → K σ φ 9 [] [.int v1] := by
    intro v1 ev1
    have e0 : f_X10_oneIf x = v1 := by
      subst ev1
      exact f_X10_oneIf_eq _
    exact hi _ _ _ _ _ _ rfl dX10_oneIf_9 rfl ⟨(congrArg (fun z => some (Value.int z)) e0).symm, rfl, rfl⟩
  refine g_if_eq C (tgt := 8) dX10_oneIf_1 (by decide) (fun h1 => ?_) (fun h1 => ?_)
  · refine g_iconst C (v := 0) dX10_oneIf_8 (by decide) ?_
    refine g_loc C [] rfl ?_
    exact J2 _ ((if_pos h1))
  · refine g_iconst C (v := 1) dX10_oneIf_4 (by decide) ?_
    refine g_goto C (tgt := 9) dX10_oneIf_5 (by decide) ?_
    refine g_loc C [] rfl ?_
    exact J2 _ ((if_neg h1))
