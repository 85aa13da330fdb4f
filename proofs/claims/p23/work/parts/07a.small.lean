/-! the law's small methods -/
def f_L_cell (tt : Nat → Nat) (x : Int32) : Int32 := let v1 : Int32 := (if (Int32.ofNat (tt 9)) ≤ x then ((7870009 * x) + 5807) else (sa_8 tt x.toNatClampNeg)); v1
theorem f_L_cell_eq (tt : Nat → Nat) (x : Int32) : f_L_cell tt x = (let v1 : Int32 := (if (Int32.ofNat (tt 9)) ≤ x then ((7870009 * x) + 5807) else (sa_8 tt x.toNatClampNeg)); v1) := rfl
set_option maxRecDepth 100000 in
set_option maxHeartbeats 4000000 in
theorem c_L_cell (l : Launch) (D : va_G) (ad : Nat → Nat) (dA : Nat → ClassId) (z0 : Nat) (tt : Nat → Nat) (σ : Sg) (φ : Fl) (x : Int32) (hk : ¬ x < 0) (hL : tt 9 ≤ 260) : MC l D ad dA z0 tt yL_cell (Cond.code yL_cell cL_cell 2 (some .int) :: lw_all) { frames := 0, cells := 0, slots := 0, locals := 0 } [.ref (tt 8), .int x] σ φ (Fn (some (.int (f_L_cell tt x))) σ φ) := by
  refine mk_MC (by decide) (Nat.le_of_ble_eq_true rfl) ?_
  intro K C hi hf hv
  change K σ φ 0 [(0, .ref (tt 8)), (1, .int x)] []
  refine g_iload_n C (i := 1) dL_cell_0 rfl 1 rfl ?_
  refine g_aload_n C (i := 0) dL_cell_1 rfl 0 rfl ?_
  refine g_tlen C (hT8 (z0 := z0)) rfl dL_cell_2 ?_
  have J2 : ∀ (v1 : Int32), (if (Int32.ofNat (tt 9)) ≤ x then ((7870009 * x) + 5807) else (sa_8 tt x.toNatClampNeg)) = v1 → K σ φ 20 [] [.int v1] := by
    intro v1 ev1
    have e0 : f_L_cell tt x = v1 := by
      subst ev1
      exact f_L_cell_eq _ _
    exact hi _ _ _ _ _ _ rfl dL_cell_20 rfl ⟨(congrArg (fun z => some (Value.int z)) e0).symm, rfl, rfl⟩
  refine g_icmp_ge C (tgt := 12) dL_cell_3 (by decide) (fun h1 => ?_) (fun h1 => ?_)
  · refine g_ldc C kc_L_7 dL_cell_12 ?_
    refine g_iload_n C (i := 1) dL_cell_14 rfl 1 rfl ?_
    refine g_imul C dL_cell_15 ?_
    refine g_sipush C (v := 5807) dL_cell_16 (by decide) ?_
    refine g_iadd C dL_cell_19 ?_
    refine g_loc C [] rfl ?_
    exact J2 _ ((if_pos h1))
  · refine g_aload_n C (i := 0) dL_cell_6 rfl 0 rfl ?_
    refine g_iload_n C (i := 1) dL_cell_7 rfl 1 rfl ?_
    refine g_ti C (hT8 (z0 := z0)) (scr_in hk h1 hL) dL_cell_8 ?_
    refine g_goto C (tgt := 20) dL_cell_9 (by decide) ?_
    refine g_loc C [] rfl ?_
    exact J2 _ ((if_neg h1))
def f_L_low (x : Int32) (y : Int32) : Int32 := (x &&& 2147483647) - (x &&& 2147483647) / y * y
theorem f_L_low_eq (x : Int32) (y : Int32) : f_L_low x y = ((x &&& 2147483647) - (x &&& 2147483647) / y * y) := rfl
set_option maxRecDepth 100000 in
set_option maxHeartbeats 4000000 in
theorem c_L_low (l : Launch) (D : va_G) (ad : Nat → Nat) (dA : Nat → ClassId) (z0 : Nat) (tt : Nat → Nat) (σ : Sg) (φ : Fl) (x : Int32) (y : Int32) (hy : ¬ y = 0) : MC l D ad dA z0 tt yL_low (Cond.code yL_low cL_low 2 (some .int) :: lw_all) { frames := 0, cells := 0, slots := 0, locals := 0 } [.int x, .int y] σ φ (Fn (some (.int (f_L_low x y))) σ φ) := by
  refine mk_MC (by decide) (Nat.le_of_ble_eq_true rfl) ?_
  intro K C hi hf hv
  change K σ φ 0 [(0, .int x), (1, .int y)] []
  refine g_iload_n C (i := 0) dL_low_0 rfl 0 rfl ?_
  refine g_ldc C kc_L_8 dL_low_1 ?_
  refine g_iand C dL_low_3 ?_
  refine g_iload_n C (i := 1) dL_low_4 rfl 1 rfl ?_
  refine g_irem C dL_low_5 hy ?_
  have e0 : f_L_low x y = (x &&& 2147483647) - (x &&& 2147483647) / y * y := by
    exact f_L_low_eq _ _
  exact hi _ _ _ _ _ _ rfl dL_low_6 rfl ⟨(congrArg (fun z => some (Value.int z)) e0).symm, rfl, rfl⟩
def f_L_size (x : Int32) : Int32 := let v1 : Int32 := (if 0 ≤ x then x else (-x)); v1
theorem f_L_size_eq (x : Int32) : f_L_size x = (let v1 : Int32 := (if 0 ≤ x then x else (-x)); v1) := rfl
set_option maxRecDepth 100000 in
set_option maxHeartbeats 4000000 in
theorem c_L_size (l : Launch) (D : va_G) (ad : Nat → Nat) (dA : Nat → ClassId) (z0 : Nat) (tt : Nat → Nat) (σ : Sg) (φ : Fl) (x : Int32)  : MC l D ad dA z0 tt yL_size (Cond.code yL_size cL_size 1 (some .int) :: lw_all) { frames := 0, cells := 0, slots := 0, locals := 0 } [.int x] σ φ (Fn (some (.int (f_L_size x))) σ φ) := by
  refine mk_MC (by decide) (Nat.le_of_ble_eq_true rfl) ?_
  intro K C hi hf hv
  change K σ φ 0 [(0, .int x)] []
  refine g_iload_n C (i := 0) dL_size_0 rfl 0 rfl ?_
  have J2 : ∀ (v1 : Int32), (if 0 ≤ x then x else (-x)) = v1 → K σ φ 10 [] [.int v1] := by
    intro v1 ev1
    have e0 : f_L_size x = v1 := by
      subst ev1
      exact f_L_size_eq _
    exact hi _ _ _ _ _ _ rfl dL_size_10 rfl ⟨(congrArg (fun z => some (Value.int z)) e0).symm, rfl, rfl⟩
  refine g_if_ge C (tgt := 9) dL_size_1 (by decide) (fun h1 => ?_) (fun h1 => ?_)
  · refine g_iload_n C (i := 0) dL_size_9 rfl 0 rfl ?_
    refine g_loc C [] rfl ?_
    exact J2 _ ((if_pos h1))
  · refine g_iload_n C (i := 0) dL_size_4 rfl 0 rfl ?_
    refine g_ineg C dL_size_5 ?_
    refine g_goto C (tgt := 10) dL_size_6 (by decide) ?_
    refine g_loc C [] rfl ?_
    exact J2 _ ((if_neg h1))
def f_L_floor (x : Int32) (y : Int32) : Int32 := (x - (((x - x / y * y) + y) - ((x - x / y * y) + y) / y * y)) / y
theorem f_L_floor_eq (x : Int32) (y : Int32) : f_L_floor x y = ((x - (((x - x / y * y) + y) - ((x - x / y * y) + y) / y * y)) / y) := rfl
set_option maxRecDepth 100000 in
set_option maxHeartbeats 4000000 in
theorem c_L_floor (l : Launch) (D : va_G) (ad : Nat → Nat) (dA : Nat → ClassId) (z0 : Nat) (tt : Nat → Nat) (σ : Sg) (φ : Fl) (x : Int32) (y : Int32) (hy : ¬ y = 0) : MC l D ad dA z0 tt yL_floor (Cond.code yL_floor cL_floor 2 (some .int) :: lw_all) { frames := 0, cells := 0, slots := 0, locals := 0 } [.int x, .int y] σ φ (Fn (some (.int (f_L_floor x y))) σ φ) := by
  refine mk_MC (by decide) (Nat.le_of_ble_eq_true rfl) ?_
  intro K C hi hf hv
  change K σ φ 0 [(0, .int x), (1, .int y)] []
  refine g_iload_n C (i := 0) dL_floor_0 rfl 0 rfl ?_
  refine g_iload_n C (i := 0) dL_floor_1 rfl 0 rfl ?_
  refine g_iload_n C (i := 1) dL_floor_2 rfl 1 rfl ?_
  refine g_irem C dL_floor_3 hy ?_
  refine g_iload_n C (i := 1) dL_floor_4 rfl 1 rfl ?_
  refine g_iadd C dL_floor_5 ?_
  refine g_iload_n C (i := 1) dL_floor_6 rfl 1 rfl ?_
  refine g_irem C dL_floor_7 hy ?_
  refine g_isub C dL_floor_8 ?_
  refine g_iload_n C (i := 1) dL_floor_9 rfl 1 rfl ?_
  refine g_idiv C dL_floor_10 hy ?_
  have e0 : f_L_floor x y = (x - (((x - x / y * y) + y) - ((x - x / y * y) + y) / y * y)) / y := by
    exact f_L_floor_eq _ _
  exact hi _ _ _ _ _ _ rfl dL_floor_11 rfl ⟨(congrArg (fun z => some (Value.int z)) e0).symm, rfl, rfl⟩
def f_L_at (σ : Sg) (x : Int32) (y : Int32) : Int32 := let v1 : Int32 := (if y < 0 then 0 else (if y ≤ 111 then (f_X10_sample σ x y) else 0)); v1
theorem f_L_at_eq (σ : Sg) (x : Int32) (y : Int32) : f_L_at σ x y = (let v1 : Int32 := (if y < 0 then 0 else (if y ≤ 111 then (f_X10_sample σ x y) else 0)); v1) := rfl
set_option maxRecDepth 100000 in
set_option maxHeartbeats 4000000 in
theorem c_L_at (l : Launch) (D : va_G) (ad : Nat → Nat) (dA : Nat → ClassId) (z0 : Nat) (tt : Nat → Nat) (σ : Sg) (φ : Fl) (x : Int32) (y : Int32)  : MC l D ad dA z0 tt yL_at (Cond.code yL_at cL_at 3 (some .int) :: lw_all) { frames := 5, cells := 0, slots := 0, locals := 115 } [.ref (ad 0), .int x, .int y] σ φ (Fn (some (.int (f_L_at σ x y))) σ φ) := by
  refine mk_MC (by decide) (Nat.le_of_ble_eq_true rfl) ?_
  intro K C hi hf hv
  change K σ φ 0 [(0, .ref (ad 0)), (1, .int x), (2, .int y)] []
  refine g_iload_n C (i := 2) dL_at_0 rfl 2 rfl ?_
  have J2 : ∀ (v1 : Int32), (if y < 0 then 0 else (if y ≤ 111 then (f_X10_sample σ x y) else 0)) = v1 → K σ φ 20 [] [.int v1] := by
    intro v1 ev1
    have e0 : f_L_at σ x y = v1 := by
      subst ev1
      exact f_L_at_eq _ _ _
    exact hi _ _ _ _ _ _ rfl dL_at_20 rfl ⟨(congrArg (fun z => some (Value.int z)) e0).symm, rfl, rfl⟩
  refine g_if_lt C (tgt := 10) dL_at_1 (by decide) (fun h1 => ?_) (fun h1 => ?_)
  · refine g_iconst C (v := 0) dL_at_10 (by decide) ?_
    refine g_goto C (tgt := 20) dL_at_11 (by decide) ?_
    refine g_loc C [] rfl ?_
    exact J2 _ ((if_pos h1))
  · refine g_iload_n C (i := 2) dL_at_4 rfl 2 rfl ?_
    refine g_bipush C (v := 111) dL_at_5 (by decide) ?_
    refine g_icmp_le C (tgt := 14) dL_at_7 (by decide) (fun h2 => ?_) (fun h2 => ?_)
    · refine g_aload_n C (i := 0) dL_at_14 rfl 0 rfl ?_
      refine g_iload_n C (i := 1) dL_at_15 rfl 1 rfl ?_
      refine g_iload_n C (i := 2) dL_at_16 rfl 2 rfl ?_
      refine g_callV C (st := []) (c_X10_sample l D ad dA z0 tt σ φ x y) rfl ml_L_9 im_X10_sample se_X10_sample in_X10 co_X10_sample dyV_X10_sample rfl rfl ⟨(Nat.le_of_ble_eq_true rfl), (Nat.le_of_ble_eq_true rfl)⟩ 0 10 (fun f => at_0 ad dA σ f) rfl dL_at_17 rfl (Nat.le_of_ble_eq_true rfl) (g_fni ?_)
      refine g_loc C [] rfl ?_
      exact J2 _ (((if_neg h1).trans (if_pos h2)))
    · refine g_iconst C (v := 0) dL_at_10 (by decide) ?_
      refine g_goto C (tgt := 20) dL_at_11 (by decide) ?_
      refine g_loc C [] rfl ?_
      exact J2 _ (((if_neg h1).trans (if_neg h2)))
def f_L_sine (x : Int32) : Int32 := let v1 : Int32 := (if (x &&& 1) = 0 then 0 else (if (x &&& 2) = 0 then 1 else (-1))); v1
theorem f_L_sine_eq (x : Int32) : f_L_sine x = (let v1 : Int32 := (if (x &&& 1) = 0 then 0 else (if (x &&& 2) = 0 then 1 else (-1))); v1) := rfl
set_option maxRecDepth 100000 in
set_option maxHeartbeats 4000000 in
theorem c_L_sine (l : Launch) (D : va_G) (ad : Nat → Nat) (dA : Nat → ClassId) (z0 : Nat) (tt : Nat → Nat) (σ : Sg) (φ : Fl) (x : Int32)  : MC l D ad dA z0 tt yL_sine (Cond.code yL_sine cL_sine 1 (some .int) :: lw_all) { frames := 0, cells := 0, slots := 0, locals := 0 } [.int x] σ φ (Fn (some (.int (f_L_sine x))) σ φ) := by
  refine mk_MC (by decide) (Nat.le_of_ble_eq_true rfl) ?_
  intro K C hi hf hv
  change K σ φ 0 [(0, .int x)] []
  refine g_iload_n C (i := 0) dL_sine_0 rfl 0 rfl ?_
  refine g_iconst C (v := 1) dL_sine_1 (by decide) ?_
  refine g_iand C dL_sine_2 ?_
  have J2 : ∀ (v1 : Int32), (if (x &&& 1) = 0 then 0 else (if (x &&& 2) = 0 then 1 else (-1))) = v1 → K σ φ 21 [] [.int v1] := by
    intro v1 ev1
    have e0 : f_L_sine x = v1 := by
      subst ev1
      exact f_L_sine_eq _
    exact hi _ _ _ _ _ _ rfl dL_sine_21 rfl ⟨(congrArg (fun z => some (Value.int z)) e0).symm, rfl, rfl⟩
  refine g_if_ne C (tgt := 10) dL_sine_3 (by decide) (fun h1 => ?_) (fun h1 => ?_)
  · refine g_iload_n C (i := 0) dL_sine_10 rfl 0 rfl ?_
    refine g_iconst C (v := 2) dL_sine_11 (by decide) ?_
    refine g_iand C dL_sine_12 ?_
    refine g_if_ne C (tgt := 20) dL_sine_13 (by decide) (fun h2 => ?_) (fun h2 => ?_)
    · refine g_iconst C (v := (-1)) dL_sine_20 (by decide) ?_
      refine g_loc C [] rfl ?_
      exact J2 _ (((if_neg h1).trans (if_neg h2)))
    · refine g_iconst C (v := 1) dL_sine_16 (by decide) ?_
      refine g_goto C (tgt := 21) dL_sine_17 (by decide) ?_
      refine g_loc C [] rfl ?_
      exact J2 _ (((if_neg h1).trans (if_pos h2)))
  · refine g_iconst C (v := 0) dL_sine_6 (by decide) ?_
    refine g_goto C (tgt := 21) dL_sine_7 (by decide) ?_
    refine g_loc C [] rfl ?_
    exact J2 _ ((if_pos h1))
def f_L_cosine (x : Int32) : Int32 := f_L_sine (x + 1)
theorem f_L_cosine_eq (x : Int32) : f_L_cosine x = (f_L_sine (x + 1)) := rfl
set_option maxRecDepth 100000 in
set_option maxHeartbeats 4000000 in
theorem c_L_cosine (l : Launch) (D : va_G) (ad : Nat → Nat) (dA : Nat → ClassId) (z0 : Nat) (tt : Nat → Nat) (σ : Sg) (φ : Fl) (x : Int32)  : MC l D ad dA z0 tt yL_cosine (Cond.code yL_cosine cL_cosine 1 (some .int) :: lw_all) { frames := 1, cells := 0, slots := 0, locals := 20 } [.int x] σ φ (Fn (some (.int (f_L_cosine x))) σ φ) := by
  refine mk_MC (by decide) (Nat.le_of_ble_eq_true rfl) ?_
  intro K C hi hf hv
  change K σ φ 0 [(0, .int x)] []
  refine g_iload_n C (i := 0) dL_cosine_0 rfl 0 rfl ?_
  refine g_iconst C (v := 1) dL_cosine_1 (by decide) ?_
  refine g_iadd C dL_cosine_2 ?_
  refine g_callS C (st := []) (c_L_sine l D ad dA z0 tt σ φ (x + 1)) rfl ml_L_15 sm_L_sine in_L co_L_sine dyS_L_sine rfl rfl ⟨(Nat.le_of_ble_eq_true rfl), (Nat.le_of_ble_eq_true rfl)⟩ dL_cosine_3 rfl (Nat.le_of_ble_eq_true rfl) (g_fni ?_)
  have e0 : f_L_cosine x = f_L_sine (x + 1) := by
    exact f_L_cosine_eq _
  exact hi _ _ _ _ _ _ rfl dL_cosine_6 rfl ⟨(congrArg (fun z => some (Value.int z)) e0).symm, rfl, rfl⟩
def b_L_sum_11 (σ : Sg) (x : Int32) (y : Int32) (j1 : Nat) (s1 : Int32) : Int32 := let v2 : Int32 := s1 + (f_L_at σ x ((f_X10_line σ x 1) + ((16 + (8 * y)) + nI j1))); v2
theorem b_L_sum_11_eq (σ : Sg) (x : Int32) (y : Int32) (j1 : Nat) (s1 : Int32) : b_L_sum_11 σ x y j1 s1 = (let v2 : Int32 := s1 + (f_L_at σ x ((f_X10_line σ x 1) + ((16 + (8 * y)) + nI j1))); v2) := rfl
def f_L_sum (σ : Sg) (x : Int32) (y : Int32) : Int32 := let t1 : Int32 := loopF (b_L_sum_11 σ x y) (cnt8 (16 + (8 * y))) 0; t1
theorem f_L_sum_eq (σ : Sg) (x : Int32) (y : Int32) : f_L_sum σ x y = (let t1 : Int32 := loopF (b_L_sum_11 σ x y) (cnt8 (16 + (8 * y))) 0; t1) := rfl
set_option maxRecDepth 100000 in
set_option maxHeartbeats 4000000 in
theorem c_L_sum (l : Launch) (D : va_G) (ad : Nat → Nat) (dA : Nat → ClassId) (z0 : Nat) (tt : Nat → Nat) (σ : Sg) (φ : Fl) (x : Int32) (y : Int32)  : MC l D ad dA z0 tt yL_sum (Cond.code yL_sum cL_sum 5 (some .int) :: lw_all) { frames := 6, cells := 0, slots := 0, locals := 137 } [.ref (ad 0), .int x, .int y] σ φ (Fn (some (.int (f_L_sum σ x y))) σ φ) := by
  refine mk_MC (by decide) (Nat.le_of_ble_eq_true rfl) ?_
  intro K C hi hf hv
  change K σ φ 0 [(0, .ref (ad 0)), (1, .int x), (2, .int y)] []
  refine g_iconst C (v := 0) dL_sum_0 (by decide) ?_
  refine g_istore_n C (i := 3) (lv' := [(3, .int 0), (0, .ref (ad 0)), (1, .int x), (2, .int y)]) dL_sum_1 rfl (by decide) rfl ?_
  refine g_bipush C (v := 16) dL_sum_2 (by decide) ?_
  refine g_bipush C (v := 8) dL_sum_4 (by decide) ?_
  refine g_iload_n C (i := 2) dL_sum_6 rfl 3 rfl ?_
  refine g_imul C dL_sum_7 ?_
  refine g_iadd C dL_sum_8 ?_
  refine g_istore C (i := 4) (lv' := [(4, .int (16 + (8 * y))), (3, .int 0), (0, .ref (ad 0)), (1, .int x), (2, .int y)]) dL_sum_9 (by decide) rfl ?_
  refine g_loc C (lv' := [(0, .ref (ad 0)), (1, .int x), (2, .int y), (3, .int 0), (4, .int (16 + (8 * y)))]) [2, 3, 4, 1, 0] rfl ?_
  refine g_lvq C (lv' := [(0, .ref (ad 0)), (1, .int x), (2, .int y), (3, .int 0), (4, .int ((16 + (8 * y)) + nI 0))]) (by rw [nI_s0]) ?_
  refine loopF_ind (b_L_sum_11 σ x y) (cnt8 (16 + (8 * y))) (fun (j1 : Nat) (s1 : Int32) => K σ φ 11 [(0, .ref (ad 0)), (1, .int x), (2, .int y), (3, .int s1), (4, .int ((16 + (8 * y)) + nI j1))] []) 0 ?_ ?_
  · intro j1 s1 hj1 kk
    change K σ φ 11 [(0, .ref (ad 0)), (1, .int x), (2, .int y), (3, .int s1), (4, .int ((16 + (8 * y)) + nI j1))] []
    refine g_iload C (i := 4) dL_sum_11 4 rfl ?_
    refine g_bipush C (v := 24) dL_sum_13 (by decide) ?_
    refine g_bipush C (v := 8) dL_sum_15 (by decide) ?_
    refine g_iload_n C (i := 2) dL_sum_17 rfl 2 rfl ?_
    refine g_imul C dL_sum_18 ?_
    refine g_iadd C dL_sum_19 ?_
    refine g_icmp_ge C (tgt := 46) dL_sum_20 (by decide) (fun h1 => ?_) (fun h1 => ?_)
    · have q := h1; rw [c24_eq] at q; exact absurd q (c8_step hj1)
    · refine g_iload_n C (i := 3) dL_sum_23 rfl 3 rfl ?_
      refine g_aload_n C (i := 0) dL_sum_24 rfl 0 rfl ?_
      refine g_iload_n C (i := 1) dL_sum_25 rfl 1 rfl ?_
      refine g_aload_n C (i := 0) dL_sum_26 rfl 0 rfl ?_
      refine g_iload_n C (i := 1) dL_sum_27 rfl 1 rfl ?_
      refine g_iconst C (v := 1) dL_sum_28 (by decide) ?_
      refine g_callV C (st := [.int x, .ref (ad 0), .int s1]) (c_X10_line l D ad dA z0 tt σ φ x 1) rfl ml_L_38 im_X10_line se_X10_line in_X10 co_X10_line dyV_X10_line rfl rfl ⟨(Nat.le_of_ble_eq_true rfl), (Nat.le_of_ble_eq_true rfl)⟩ 0 10 (fun f => at_0 ad dA σ f) rfl dL_sum_29 rfl (Nat.le_of_ble_eq_true rfl) (g_fni ?_)
      refine g_iload C (i := 4) dL_sum_32 4 rfl ?_
      refine g_iadd C dL_sum_34 ?_
      refine g_callS C (st := [.int s1]) (c_L_at l D ad dA z0 tt σ φ x ((f_X10_line σ x 1) + ((16 + (8 * y)) + nI j1))) rfl ml_L_22 sm_L_at in_L co_L_at dyS_L_at rfl rfl ⟨(Nat.le_of_ble_eq_true rfl), (Nat.le_of_ble_eq_true rfl)⟩ dL_sum_35 rfl (Nat.le_of_ble_eq_true rfl) (g_fni ?_)
      refine g_iadd C dL_sum_38 ?_
      refine g_nmi C (fun v2 ev2 => ?_)
      refine g_istore_n C (i := 3) (lv' := [(3, .int v2), (0, .ref (ad 0)), (1, .int x), (2, .int y), (4, .int ((16 + (8 * y)) + nI j1))]) dL_sum_39 rfl (by decide) rfl ?_
      refine g_iinc C (i := 4) (v := (16 + (8 * y)) + nI (j1 + 1)) (lv' := [(4, .int ((16 + (8 * y)) + nI (j1 + 1))), (3, .int v2), (0, .ref (ad 0)), (1, .int x), (2, .int y)]) dL_sum_40 4 rfl (nI_1s _ _) (by decide) rfl ?_
      refine g_goto C (tgt := 11) dL_sum_43 (by decide) ?_
      refine g_loc C [2, 3, 4, 1, 0] rfl ?_
      refine kk v2 ?_
      subst ev2
      exact b_L_sum_11_eq _ _ _ _ _
  · generalize et1 : loopF (b_L_sum_11 σ x y) (cnt8 (16 + (8 * y))) 0 = t1
    change K σ φ 11 [(0, .ref (ad 0)), (1, .int x), (2, .int y), (3, .int t1), (4, .int ((16 + (8 * y)) + nI (cnt8 (16 + (8 * y)))))] []
    refine g_iload C (i := 4) dL_sum_11 4 rfl ?_
    refine g_bipush C (v := 24) dL_sum_13 (by decide) ?_
    refine g_bipush C (v := 8) dL_sum_15 (by decide) ?_
    refine g_iload_n C (i := 2) dL_sum_17 rfl 2 rfl ?_
    refine g_imul C dL_sum_18 ?_
    refine g_iadd C dL_sum_19 ?_
    refine g_icmp_ge C (tgt := 46) dL_sum_20 (by decide) (fun h2 => ?_) (fun h2 => ?_)
    · refine g_iload_n C (i := 3) dL_sum_46 rfl 3 rfl ?_
      have e0 : f_L_sum σ x y = t1 := by
        subst et1
        exact f_L_sum_eq _ _ _
      exact hi _ _ _ _ _ _ rfl dL_sum_47 rfl ⟨(congrArg (fun z => some (Value.int z)) e0).symm, rfl, rfl⟩
    · refine absurd ?_ h2; rw [c24_eq]; exact c8_exit _
def f_L_near (σ : Sg) (x : Int32) (y : Int32) (w : Int32) : Int32 := let v1 : Int32 := (if y < 0 then 0 else (if 8 ≤ y then 0 else (if (8 * (f_X10_count σ 16)) < (f_L_size ((f_L_sum σ x w) - (f_L_sum σ y w))) then 0 else 1))); v1
theorem f_L_near_eq (σ : Sg) (x : Int32) (y : Int32) (w : Int32) : f_L_near σ x y w = (let v1 : Int32 := (if y < 0 then 0 else (if 8 ≤ y then 0 else (if (8 * (f_X10_count σ 16)) < (f_L_size ((f_L_sum σ x w) - (f_L_sum σ y w))) then 0 else 1))); v1) := rfl
theorem z_L_near (σ : Sg) (x : Int32) (y : Int32) (w : Int32) : f_L_near σ x y w = 0 ∨ f_L_near σ x y w = 1 := (zo_ite (Or.inl rfl) (zo_ite (Or.inl rfl) (zo_ite (Or.inl rfl) (Or.inr rfl))))
set_option maxRecDepth 100000 in
set_option maxHeartbeats 4000000 in
theorem c_L_near (l : Launch) (D : va_G) (ad : Nat → Nat) (dA : Nat → ClassId) (z0 : Nat) (tt : Nat → Nat) (σ : Sg) (φ : Fl) (x : Int32) (y : Int32) (w : Int32)  : MC l D ad dA z0 tt yL_near (Cond.code yL_near cL_near 4 (some .boolean) :: lw_all) { frames := 7, cells := 0, slots := 0, locals := 161 } [.ref (ad 0), .int x, .int y, .int w] σ φ (Fn (some (.int (f_L_near σ x y w))) σ φ) := by
  refine mk_MC (by decide) (Nat.le_of_ble_eq_true rfl) ?_
  intro K C hi hf hv
  change K σ φ 0 [(0, .ref (ad 0)), (1, .int x), (2, .int y), (3, .int w)] []
  refine g_iload_n C (i := 2) dL_near_0 rfl 2 rfl ?_
  have J2 : ∀ (v1 : Int32), (if y < 0 then 0 else (if 8 ≤ y then 0 else (if (8 * (f_X10_count σ 16)) < (f_L_size ((f_L_sum σ x w) - (f_L_sum σ y w))) then 0 else 1))) = v1 → K σ φ 43 [] [.int v1] := by
    intro v1 ev1
    have e0 : f_L_near σ x y w = v1 := by
      subst ev1
      exact f_L_near_eq _ _ _ _
    exact hi _ _ _ _ _ _ rfl dL_near_43 (lv_narrowZ (show v1 = 0 ∨ v1 = 1 by rw [← ev1]; exact (zo_ite (Or.inl rfl) (zo_ite (Or.inl rfl) (zo_ite (Or.inl rfl) (Or.inr rfl)))))).1 ⟨(congrArg (fun z => some (Value.int z)) e0).symm, rfl, rfl⟩
  refine g_if_lt C (tgt := 42) dL_near_1 (by decide) (fun h1 => ?_) (fun h1 => ?_)
  · refine g_iconst C (v := 0) dL_near_42 (by decide) ?_
    refine g_loc C [] rfl ?_
    exact J2 _ ((if_pos h1))
  · refine g_iload_n C (i := 2) dL_near_4 rfl 2 rfl ?_
    refine g_bipush C (v := 8) dL_near_5 (by decide) ?_
    refine g_icmp_ge C (tgt := 42) dL_near_7 (by decide) (fun h2 => ?_) (fun h2 => ?_)
    · refine g_iconst C (v := 0) dL_near_42 (by decide) ?_
      refine g_loc C [] rfl ?_
      exact J2 _ (((if_neg h1).trans (if_pos h2)))
    · refine g_aload_n C (i := 0) dL_near_10 rfl 0 rfl ?_
      refine g_iload_n C (i := 1) dL_near_11 rfl 1 rfl ?_
      refine g_iload_n C (i := 3) dL_near_12 rfl 3 rfl ?_
      refine g_callS C (st := []) (c_L_sum l D ad dA z0 tt σ φ x w) rfl ml_L_42 sm_L_sum in_L co_L_sum dyS_L_sum rfl rfl ⟨(Nat.le_of_ble_eq_true rfl), (Nat.le_of_ble_eq_true rfl)⟩ dL_near_13 rfl (Nat.le_of_ble_eq_true rfl) (g_fni ?_)
      refine g_aload_n C (i := 0) dL_near_16 rfl 0 rfl ?_
      refine g_iload_n C (i := 2) dL_near_17 rfl 2 rfl ?_
      refine g_iload_n C (i := 3) dL_near_18 rfl 3 rfl ?_
      refine g_callS C (st := [.int (f_L_sum σ x w)]) (c_L_sum l D ad dA z0 tt σ φ y w) rfl ml_L_42 sm_L_sum in_L co_L_sum dyS_L_sum rfl rfl ⟨(Nat.le_of_ble_eq_true rfl), (Nat.le_of_ble_eq_true rfl)⟩ dL_near_19 rfl (Nat.le_of_ble_eq_true rfl) (g_fni ?_)
      refine g_isub C dL_near_22 ?_
      refine g_callS C (st := []) (c_L_size l D ad dA z0 tt σ φ ((f_L_sum σ x w) - (f_L_sum σ y w))) rfl ml_L_32 sm_L_size in_L co_L_size dyS_L_size rfl rfl ⟨(Nat.le_of_ble_eq_true rfl), (Nat.le_of_ble_eq_true rfl)⟩ dL_near_23 rfl (Nat.le_of_ble_eq_true rfl) (g_fni ?_)
      refine g_bipush C (v := 8) dL_near_26 (by decide) ?_
      refine g_aload_n C (i := 0) dL_near_28 rfl 0 rfl ?_
      refine g_bipush C (v := 16) dL_near_29 (by decide) ?_
      refine g_callV C (st := [.int 8, .int (f_L_size ((f_L_sum σ x w) - (f_L_sum σ y w)))]) (c_X10_count l D ad dA z0 tt σ φ 16) rfl ml_L_35 im_X10_count se_X10_count in_X10 co_X10_count dyV_X10_count rfl rfl ⟨(Nat.le_of_ble_eq_true rfl), (Nat.le_of_ble_eq_true rfl)⟩ 0 10 (fun f => at_0 ad dA σ f) rfl dL_near_31 rfl (Nat.le_of_ble_eq_true rfl) (g_fni ?_)
      refine g_imul C dL_near_34 ?_
      refine g_icmp_gt C (tgt := 42) dL_near_35 (by decide) (fun h3 => ?_) (fun h3 => ?_)
      · refine g_iconst C (v := 0) dL_near_42 (by decide) ?_
        refine g_loc C [] rfl ?_
        exact J2 _ (((if_neg h1).trans ((if_neg h2).trans (if_pos h3))))
      · refine g_iconst C (v := 1) dL_near_38 (by decide) ?_
        refine g_goto C (tgt := 43) dL_near_39 (by decide) ?_
        refine g_loc C [] rfl ?_
        exact J2 _ (((if_neg h1).trans ((if_neg h2).trans (if_neg h3))))
def f_L_is (a : Int64) (b : Int64) (x : Int32) : Int32 := let v3 : Int32 := (if x < 0 then 0 else (if 80 ≤ x then 0 else (let v1 : Int64 := (if 40 ≤ x then (b >>> ((x - 40).toInt64 &&& 63)) else (a >>> (x.toInt64 &&& 63))); if (lg_cmp (v1 &&& (1 : Int64)) (1 : Int64)) = 0 then 1 else 0))); v3
theorem f_L_is_eq (a : Int64) (b : Int64) (x : Int32) : f_L_is a b x = (let v3 : Int32 := (if x < 0 then 0 else (if 80 ≤ x then 0 else (let v1 : Int64 := (if 40 ≤ x then (b >>> ((x - 40).toInt64 &&& 63)) else (a >>> (x.toInt64 &&& 63))); if (lg_cmp (v1 &&& (1 : Int64)) (1 : Int64)) = 0 then 1 else 0))); v3) := rfl
theorem z_L_is (a : Int64) (b : Int64) (x : Int32) : f_L_is a b x = 0 ∨ f_L_is a b x = 1 := (zo_ite (Or.inl rfl) (zo_ite (Or.inl rfl) (zo_ite (Or.inr rfl) (Or.inl rfl))))
set_option maxRecDepth 100000 in
set_option maxHeartbeats 4000000 in
theorem c_L_is (l : Launch) (D : va_G) (ad : Nat → Nat) (dA : Nat → ClassId) (z0 : Nat) (tt : Nat → Nat) (σ : Sg) (φ : Fl) (a : Int64) (b : Int64) (x : Int32)  : MC l D ad dA z0 tt yL_is (Cond.code yL_is cL_is 5 (some .boolean) :: lw_all) { frames := 0, cells := 0, slots := 0, locals := 0 } [.long a, .long b, .int x] σ φ (Fn (some (.int (f_L_is a b x))) σ φ) := by
  refine mk_MC (by decide) (Nat.le_of_ble_eq_true rfl) ?_
  intro K C hi hf hv
  change K σ φ 0 [(0, .long a), (2, .long b), (4, .int x)] []
  refine g_iload C (i := 4) dL_is_0 2 rfl ?_
  have J4 : ∀ (v3 : Int32), (if x < 0 then 0 else (if 80 ≤ x then 0 else (let v1 : Int64 := (if 40 ≤ x then (b >>> ((x - 40).toInt64 &&& 63)) else (a >>> (x.toInt64 &&& 63))); if (lg_cmp (v1 &&& (1 : Int64)) (1 : Int64)) = 0 then 1 else 0))) = v3 → K σ φ 45 [] [.int v3] := by
    intro v3 ev3
    have e0 : f_L_is a b x = v3 := by
      subst ev3
      exact f_L_is_eq _ _ _
    exact hi _ _ _ _ _ _ rfl dL_is_45 (lv_narrowZ (show v3 = 0 ∨ v3 = 1 by rw [← ev3]; exact (zo_ite (Or.inl rfl) (zo_ite (Or.inl rfl) (zo_ite (Or.inr rfl) (Or.inl rfl)))))).1 ⟨(congrArg (fun z => some (Value.int z)) e0).symm, rfl, rfl⟩
  refine g_if_lt C (tgt := 44) dL_is_2 (by decide) (fun h1 => ?_) (fun h1 => ?_)
  · refine g_iconst C (v := 0) dL_is_44 (by decide) ?_
    refine g_loc C [] rfl ?_
    exact J4 _ ((if_pos h1))
  · refine g_iload C (i := 4) dL_is_5 2 rfl ?_
    refine g_bipush C (v := 80) dL_is_7 (by decide) ?_
    refine g_icmp_ge C (tgt := 44) dL_is_9 (by decide) (fun h2 => ?_) (fun h2 => ?_)
    · refine g_iconst C (v := 0) dL_is_44 (by decide) ?_
      refine g_loc C [] rfl ?_
      exact J4 _ (((if_neg h1).trans (if_pos h2)))
    · refine g_iload C (i := 4) dL_is_12 2 rfl ?_
      refine g_bipush C (v := 40) dL_is_14 (by decide) ?_
      have J2 : ∀ (v1 : Int64), (if 40 ≤ x then (b >>> ((x - 40).toInt64 &&& 63)) else (a >>> (x.toInt64 &&& 63))) = v1 → K σ φ 33 [] [.long v1] := by
        intro v1 ev1
        refine g_lconst C (v := 1) dL_is_33 (by decide) ?_
        refine g_land C dL_is_34 ?_
        refine g_lconst C (v := 1) dL_is_35 (by decide) ?_
        refine g_lcmp C dL_is_36 ?_
        refine g_if_ne C (tgt := 44) dL_is_37 (by decide) (fun h4 => ?_) (fun h4 => ?_)
        · refine g_iconst C (v := 0) dL_is_44 (by decide) ?_
          refine g_loc C [] rfl ?_
          subst ev1
          exact J4 _ (((if_neg h1).trans ((if_neg h2).trans (if_neg h4))))
        · refine g_iconst C (v := 1) dL_is_40 (by decide) ?_
          refine g_goto C (tgt := 45) dL_is_41 (by decide) ?_
          refine g_loc C [] rfl ?_
          subst ev1
          exact J4 _ (((if_neg h1).trans ((if_neg h2).trans (if_pos h4))))
      refine g_icmp_ge C (tgt := 26) dL_is_16 (by decide) (fun h3 => ?_) (fun h3 => ?_)
      · refine g_lload_n C (i := 2) dL_is_26 rfl 1 rfl ?_
        refine g_iload C (i := 4) dL_is_27 2 rfl ?_
        refine g_bipush C (v := 40) dL_is_29 (by decide) ?_
        refine g_isub C dL_is_31 ?_
        refine g_lshr C dL_is_32 ?_
        refine g_loc C [] rfl ?_
        exact J2 _ ((if_pos h3))
      · refine g_lload_n C (i := 0) dL_is_19 rfl 0 rfl ?_
        refine g_iload C (i := 4) dL_is_20 2 rfl ?_
        refine g_lshr C dL_is_22 ?_
        refine g_goto C (tgt := 33) dL_is_23 (by decide) ?_
        refine g_loc C [] rfl ?_
        exact J2 _ ((if_neg h3))
def b_L_keep_2  (j1 : Nat) (s1 : Sg) : Sg := let σ2 : Sg := sw s1 53 (nI j1).toNatClampNeg (f_X10_luma s1 ((nI j1) / 10) ((nI j1) - (nI j1) / 10 * 10)); let σ3 : Sg := sw σ2 54 (nI j1).toNatClampNeg (f_X10_luma σ2 (4 + ((nI j1) / 10)) ((nI j1) - (nI j1) / 10 * 10)); σ3
theorem b_L_keep_2_eq  (j1 : Nat) (s1 : Sg) : b_L_keep_2  j1 s1 = (let σ2 : Sg := sw s1 53 (nI j1).toNatClampNeg (f_X10_luma s1 ((nI j1) / 10) ((nI j1) - (nI j1) / 10 * 10)); let σ3 : Sg := sw σ2 54 (nI j1).toNatClampNeg (f_X10_luma σ2 (4 + ((nI j1) / 10)) ((nI j1) - (nI j1) / 10 * 10)); σ3) := rfl
def f_L_keep (σ : Sg) : Sg := let t1 : Sg := loopF b_L_keep_2 40 σ; t1
theorem f_L_keep_eq (σ : Sg) : f_L_keep σ = (let t1 : Sg := loopF b_L_keep_2 40 σ; t1) := rfl
set_option maxRecDepth 100000 in
set_option maxHeartbeats 4000000 in
theorem c_L_keep (l : Launch) (D : va_G) (ad : Nat → Nat) (dA : Nat → ClassId) (z0 : Nat) (tt : Nat → Nat) (σ : Sg) (φ : Fl)   : MC l D ad dA z0 tt yL_keep (Cond.code yL_keep cL_keep 4 none :: lw_all) { frames := 4, cells := 0, slots := 0, locals := 85 } [.ref (ad 0), .ref (ad 53), .ref (ad 54)] σ φ (Fn none (f_L_keep σ) φ) := by
  refine mk_MC (by decide) (Nat.le_of_ble_eq_true rfl) ?_
  intro K C hi hf hv
  change K σ φ 0 [(0, .ref (ad 0)), (1, .ref (ad 53)), (2, .ref (ad 54))] []
  refine g_iconst C (v := 0) dL_keep_0 (by decide) ?_
  refine g_istore_n C (i := 3) (lv' := [(3, .int 0), (0, .ref (ad 0)), (1, .ref (ad 53)), (2, .ref (ad 54))]) dL_keep_1 rfl (by decide) rfl ?_
  refine g_loc C (lv' := [(0, .ref (ad 0)), (1, .ref (ad 53)), (2, .ref (ad 54)), (3, .int 0)]) [1, 2, 3, 0] rfl ?_
  refine loopF_ind b_L_keep_2 40 (fun (j1 : Nat) (s1 : Sg) => K s1 φ 2 [(0, .ref (ad 0)), (1, .ref (ad 53)), (2, .ref (ad 54)), (3, .int (nI j1))] []) σ ?_ ?_
  · intro j1 s1 hj1 kk
    change K s1 φ 2 [(0, .ref (ad 0)), (1, .ref (ad 53)), (2, .ref (ad 54)), (3, .int (nI j1))] []
    refine g_iload_n C (i := 3) dL_keep_2 rfl 3 rfl ?_
    refine g_bipush C (v := 40) dL_keep_3 (by decide) ?_
    refine g_icmp_ge C (tgt := 46) dL_keep_5 (by decide) (fun h1 => ?_) (fun h1 => ?_)
    · exact absurd h1 (nI_ge hj1 (by decide))
    · refine g_aload_n C (i := 1) dL_keep_8 rfl 1 rfl ?_
      refine g_iload_n C (i := 3) dL_keep_9 rfl 3 rfl ?_
      refine g_aload_n C (i := 0) dL_keep_10 rfl 0 rfl ?_
      refine g_iload_n C (i := 3) dL_keep_11 rfl 3 rfl ?_
      refine g_bipush C (v := 10) dL_keep_12 (by decide) ?_
      refine g_idiv C dL_keep_14 (by decide) ?_
      refine g_iload_n C (i := 3) dL_keep_15 rfl 3 rfl ?_
      refine g_bipush C (v := 10) dL_keep_16 (by decide) ?_
      refine g_irem C dL_keep_18 (by decide) ?_
      refine g_callV C (st := [.int (nI j1), .ref (ad 53)]) (c_X10_luma l D ad dA z0 tt s1 φ ((nI j1) / 10) ((nI j1) - (nI j1) / 10 * 10)) rfl ml_L_52 im_X10_luma se_X10_luma in_X10 co_X10_luma dyV_X10_luma rfl rfl ⟨(Nat.le_of_ble_eq_true rfl), (Nat.le_of_ble_eq_true rfl)⟩ 0 10 (fun f => at_0 ad dA s1 f) rfl dL_keep_19 rfl (Nat.le_of_ble_eq_true rfl) (g_fni ?_)
      refine sd_53 C (vp_in_nI (Nat.lt_of_lt_of_le hj1 (by decide)) (by decide)) dL_keep_22 ?_
      refine g_nms C (fun σ2 eσ2 => ?_)
      refine g_aload_n C (i := 2) dL_keep_23 rfl 2 rfl ?_
      refine g_iload_n C (i := 3) dL_keep_24 rfl 3 rfl ?_
      refine g_aload_n C (i := 0) dL_keep_25 rfl 0 rfl ?_
      refine g_iconst C (v := 4) dL_keep_26 (by decide) ?_
      refine g_iload_n C (i := 3) dL_keep_27 rfl 3 rfl ?_
      refine g_bipush C (v := 10) dL_keep_28 (by decide) ?_
      refine g_idiv C dL_keep_30 (by decide) ?_
      refine g_iadd C dL_keep_31 ?_
      refine g_iload_n C (i := 3) dL_keep_32 rfl 3 rfl ?_
      refine g_bipush C (v := 10) dL_keep_33 (by decide) ?_
      refine g_irem C dL_keep_35 (by decide) ?_
      refine g_callV C (st := [.int (nI j1), .ref (ad 54)]) (c_X10_luma l D ad dA z0 tt σ2 φ (4 + ((nI j1) / 10)) ((nI j1) - (nI j1) / 10 * 10)) rfl ml_L_52 im_X10_luma se_X10_luma in_X10 co_X10_luma dyV_X10_luma rfl rfl ⟨(Nat.le_of_ble_eq_true rfl), (Nat.le_of_ble_eq_true rfl)⟩ 0 10 (fun f => at_0 ad dA σ2 f) rfl dL_keep_36 rfl (Nat.le_of_ble_eq_true rfl) (g_fni ?_)
      refine sd_54 C (vp_in_nI (Nat.lt_of_lt_of_le hj1 (by decide)) (by decide)) dL_keep_39 ?_
      refine g_nms C (fun σ3 eσ3 => ?_)
      refine g_iinc C (i := 3) (v := nI (j1 + 1)) (lv' := [(3, .int (nI (j1 + 1))), (0, .ref (ad 0)), (1, .ref (ad 53)), (2, .ref (ad 54))]) dL_keep_40 3 rfl (nI_1 _) (by decide) rfl ?_
      refine g_goto C (tgt := 2) dL_keep_43 (by decide) ?_
      refine g_loc C [1, 2, 3, 0] rfl ?_
      refine kk σ3 ?_
      subst eσ3
      subst eσ2
      exact b_L_keep_2_eq _ _
  · generalize et1 : loopF b_L_keep_2 40 σ = t1
    change K t1 φ 2 [(0, .ref (ad 0)), (1, .ref (ad 53)), (2, .ref (ad 54)), (3, .int (nI 40))] []
    refine g_iload_n C (i := 3) dL_keep_2 rfl 3 rfl ?_
    refine g_bipush C (v := 40) dL_keep_3 (by decide) ?_
    refine g_icmp_ge C (tgt := 46) dL_keep_5 (by decide) (fun h2 => ?_) (fun h2 => ?_)
    · have e0 : f_L_keep σ = t1 := by
        subst et1
        exact f_L_keep_eq _
      exact hv _ _ _ _ rfl dL_keep_46 ⟨rfl, (congrArg (fun z => z) e0).symm, rfl⟩
    · exact absurd (nI_le (Nat.le_refl _) (by decide)) h2
