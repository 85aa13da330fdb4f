section
/-! the law's start -/
theorem ls_0 : Cond.laysStatic "CompositeDecoder" "SINE" "[I" ∈ lw_tbl := List.mem_of_getElem? (i := 402) (by decide +kernel)
theorem ls_1 : Cond.laysStatic "CompositeDecoder" "COSINE" "[I" ∈ lw_tbl := List.mem_of_getElem? (i := 408) (by decide +kernel)
theorem ls_2 : Cond.laysStatic "CompositeDecoder$BarText" "LETTERS" "[C" ∈ lw_tbl := List.mem_of_getElem? (i := 671) (by decide +kernel)
theorem ls_3 : Cond.laysStatic "CompositeDecoder$BarText" "BAR_LUMAS" "[I" ∈ lw_tbl := List.mem_of_getElem? (i := 684) (by decide +kernel)
theorem ls_4 : Cond.laysStatic "CompositeDecoder$BarText" "BAR_US" "[I" ∈ lw_tbl := List.mem_of_getElem? (i := 686) (by decide +kernel)
theorem ls_5 : Cond.laysStatic "CompositeDecoder$BarText" "BAR_VS" "[I" ∈ lw_tbl := List.mem_of_getElem? (i := 688) (by decide +kernel)
theorem ls_6 : Cond.laysStatic "CompositeDecoder$Settings" "LOWEST" "[I" ∈ lw_tbl := List.mem_of_getElem? (i := 367) (by decide +kernel)
theorem ls_7 : Cond.laysStatic "CompositeDecoder$Settings" "HIGHEST" "[I" ∈ lw_tbl := List.mem_of_getElem? (i := 369) (by decide +kernel)
theorem ao_int : Cond.arrayOver (.array .int) ∈ lw_tbl := List.mem_of_getElem? (i := 125) (by decide +kernel)
theorem st_of {args : Array Value} {s : State} {C n d : String} {ty : FieldType} {N : Nat} {f : Nat → Int32} {A : Nat → Prop} (hN : N < 2 ^ 31) (hl : (Cond.laysStatic C n d).before args s = true) (hini : (Cond.initialized C).before args s = true) (harr : (Cond.arrayOf (.static C n d) ty).before args s = true) (hlen : (Cond.eq (.length (.static C n d)) (.int (Int32.ofNat N))).before args s = true) (hel : ∀ j, j < N → (Cond.eq (.elem (.static C n d) (.int (Int32.ofNat j))) (.int (f j))).before args s = true) (hA : ∀ a : Nat, a < s.heap.size → ¬ A a) : ∃ t : Nat, va_Z C n d (.ref t) A s s.heap ∧ va_T ty t N (fun j => .int (f j)) A s s.heap := by
  obtain ⟨t, h1, h2⟩ := va_Tof (tm := .static C n d) (f := fun j => .int (f j)) hN harr (va_eqt hlen) (fun j hj => va_eqt (hel j hj)) hA
  exact ⟨t, va_Zref hl hini h1 hA, h2⟩
set_option maxRecDepth 100000 in
set_option maxHeartbeats 4000000 in
theorem i32_tn (x : Int32) : Int32.ofNat x.toBitVec.toNat = x := Int32.toBitVec_inj.mp (by simp)
set_option maxRecDepth 100000 in
set_option maxHeartbeats 4000000 in
theorem st_all {b L : Nat} {xs : Nat → Int32} {s : State} (hX : va_X b L xs s s.heap) (hbl : b < s.heap.size) (hgv : (Jvm.Cond.and given_1 narrow_1).before #[Value.ref b] s = true) (hts0 : ∀ w ∈ lw_tbl, w.before #[Value.ref b] s = true) : ∃ tt : Nat → Nat, STz tt (fun q => s.heap.size ≤ q) s s.heap ∧ tt 8 = b ∧ tt 9 = L := by
  have hf := flat_of_before _ hgv
  have hA : ∀ a : Nat, a < s.heap.size → ¬ (fun q => s.heap.size ≤ q) a := fun a h => Nat.not_le.mpr h
  obtain ⟨t0, z0, a0⟩ := st_of (N := 4) (f := sa_0) (ty := .int) (by decide) (hts0 _ ls_0) (hts0 _ (lw_all_tbl in_X10)) (hf _ (by decide +kernel)) (hf _ (by decide +kernel)) (fun j hj => by
    rcases (show j = 0 ∨ j = 1 ∨ j = 2 ∨ j = 3 by omega) with rfl | rfl | rfl | rfl <;> exact hf _ (by decide +kernel)) hA
  obtain ⟨t1, z1, a1⟩ := st_of (N := 4) (f := sa_1) (ty := .int) (by decide) (hts0 _ ls_1) (hts0 _ (lw_all_tbl in_X10)) (hf _ (by decide +kernel)) (hf _ (by decide +kernel)) (fun j hj => by
    rcases (show j = 0 ∨ j = 1 ∨ j = 2 ∨ j = 3 by omega) with rfl | rfl | rfl | rfl <;> exact hf _ (by decide +kernel)) hA
  obtain ⟨t2, z2, a2⟩ := st_of (N := 8) (f := sa_2) (ty := .char) (by decide) (hts0 _ ls_2) (hts0 _ (lw_all_tbl in_X0)) (hf _ (by decide +kernel)) (hf _ (by decide +kernel)) (fun j hj => by
    rcases (show j = 0 ∨ j = 1 ∨ j = 2 ∨ j = 3 ∨ j = 4 ∨ j = 5 ∨ j = 6 ∨ j = 7 by omega) with rfl | rfl | rfl | rfl | rfl | rfl | rfl | rfl <;> exact hf _ (by decide +kernel)) hA
  obtain ⟨t3, z3, a3⟩ := st_of (N := 8) (f := sa_3) (ty := .int) (by decide) (hts0 _ ls_3) (hts0 _ (lw_all_tbl in_X0)) (hf _ (by decide +kernel)) (hf _ (by decide +kernel)) (fun j hj => by
    rcases (show j = 0 ∨ j = 1 ∨ j = 2 ∨ j = 3 ∨ j = 4 ∨ j = 5 ∨ j = 6 ∨ j = 7 by omega) with rfl | rfl | rfl | rfl | rfl | rfl | rfl | rfl <;> exact hf _ (by decide +kernel)) hA
  obtain ⟨t4, z4, a4⟩ := st_of (N := 8) (f := sa_4) (ty := .int) (by decide) (hts0 _ ls_4) (hts0 _ (lw_all_tbl in_X0)) (hf _ (by decide +kernel)) (hf _ (by decide +kernel)) (fun j hj => by
    rcases (show j = 0 ∨ j = 1 ∨ j = 2 ∨ j = 3 ∨ j = 4 ∨ j = 5 ∨ j = 6 ∨ j = 7 by omega) with rfl | rfl | rfl | rfl | rfl | rfl | rfl | rfl <;> exact hf _ (by decide +kernel)) hA
  obtain ⟨t5, z5, a5⟩ := st_of (N := 8) (f := sa_5) (ty := .int) (by decide) (hts0 _ ls_5) (hts0 _ (lw_all_tbl in_X0)) (hf _ (by decide +kernel)) (hf _ (by decide +kernel)) (fun j hj => by
    rcases (show j = 0 ∨ j = 1 ∨ j = 2 ∨ j = 3 ∨ j = 4 ∨ j = 5 ∨ j = 6 ∨ j = 7 by omega) with rfl | rfl | rfl | rfl | rfl | rfl | rfl | rfl <;> exact hf _ (by decide +kernel)) hA
  obtain ⟨t6, z6, a6⟩ := st_of (N := 4) (f := sa_6) (ty := .int) (by decide) (hts0 _ ls_6) (hts0 _ (lw_all_tbl in_X8)) (hf _ (by decide +kernel)) (hf _ (by decide +kernel)) (fun j hj => by
    rcases (show j = 0 ∨ j = 1 ∨ j = 2 ∨ j = 3 by omega) with rfl | rfl | rfl | rfl <;> exact hf _ (by decide +kernel)) hA
  obtain ⟨t7, z7, a7⟩ := st_of (N := 4) (f := sa_7) (ty := .int) (by decide) (hts0 _ ls_7) (hts0 _ (lw_all_tbl in_X8)) (hf _ (by decide +kernel)) (hf _ (by decide +kernel)) (fun j hj => by
    rcases (show j = 0 ∨ j = 1 ∨ j = 2 ∨ j = 3 by omega) with rfl | rfl | rfl | rfl <;> exact hf _ (by decide +kernel)) hA
  obtain ⟨scr, x1, x2, x3, x4, x5⟩ := hX
  refine ⟨fun k => ([t0, t1, t2, t3, t4, t5, t6, t7, b, L] : List Nat).getD k (xs (k - 10)).toBitVec.toNat, ⟨⟨z0, a0⟩, ⟨z1, a1⟩, ⟨z2, a2⟩, ⟨z3, a3⟩, ⟨z4, a4⟩, ⟨z5, a5⟩, ⟨z6, a6⟩, ⟨z7, a7⟩, scr, x1, x2, x3, (show L ≤ _ by rw [x4]; exact Nat.le_refl _), (show _ = Int32.ofNat L by rw [x4]), fun j hj => (x5 j hj).trans (congrArg (fun v => some (Value.int v)) ?_), Nat.not_le.mpr hbl⟩, rfl, rfl⟩
  show xs j = Int32.ofNat (([t0, t1, t2, t3, t4, t5, t6, t7, b, L] : List Nat).getD (10 + j) (xs (10 + j - 10)).toBitVec.toNat)
  rw [Nat.add_comm 10 j, Nat.add_sub_cancel]
  exact (i32_tn (xs j)).symm
theorem nw_of {args : Array Value} {s : State} (hts0 : ∀ w ∈ lw_tbl, w.before args s = true) : NW s := fun w hw => by
  obtain ⟨h1, h2⟩ := List.mem_filter.mp hw
  have h := hts0 w h1
  cases w <;> first | exact va_any rfl h | cases h2
set_option maxRecDepth 100000 in
set_option maxHeartbeats 4000000 in
theorem k_all {args : Array Value} {s : State} (hts0 : ∀ w ∈ lw_tbl, w.before args s = true) : ∃ (D : va_G) (dA : Nat → ClassId), va_K D vwCl (tyA dA) s ∧ MA dA s := by
  have hts : ∀ w ∈ lw_all, w.before args s = true := fun w h => hts0 w (lw_all_tbl h)
  obtain ⟨c0, i0, h0⟩ := u_known (C := RX0) (T := TX0) (N := 4) (n := 4) hts iu_0 (hts _ it_X0)
  obtain ⟨c1, i1, h1⟩ := u_known (C := RX1) (T := TX1) (N := 6) (n := 6) hts iu_1 (hts _ it_X1)
  obtain ⟨c2, i2, h2⟩ := u_known (C := RX2) (T := TX2) (N := 4) (n := 4) hts iu_2 (hts _ it_X2)
  obtain ⟨c3, i3, h3⟩ := u_known (C := RX3) (T := TX3) (N := 5) (n := 5) hts iu_3 (hts _ it_X3)
  obtain ⟨c4, i4, h4⟩ := u_known (C := RX4) (T := TX4) (N := 8) (n := 8) hts iu_4 (hts _ it_X4)
  obtain ⟨c5, i5, h5⟩ := u_known (C := RX5) (T := TX5) (N := 3) (n := 3) hts iu_5 (hts _ it_X5)
  obtain ⟨c6, i6, h6⟩ := u_known (C := RX6) (T := TX6) (N := 2) (n := 2) hts iu_6 (hts _ it_X6)
  obtain ⟨c7, i7, h7⟩ := u_known (C := RX7) (T := TX7) (N := 9) (n := 9) hts iu_7 (hts _ it_X7)
  obtain ⟨c8, i8, h8⟩ := u_known (C := RX8) (T := TX8) (N := 1) (n := 1) hts iu_8 (hts _ it_X8)
  obtain ⟨c9, i9, h9⟩ := u_known (C := RX9) (T := TX9) (N := 1) (n := 1) hts iu_9 (hts _ it_X9)
  obtain ⟨c10, i10, h10⟩ := u_known (C := RX10) (T := TX10) (N := 11) (n := 11) hts iu_10 (hts _ it_X10)
  obtain ⟨a0, k0, m0, n0, p0, q0⟩ := Cond.arrayClass_spec (hts _ ac_int)
  obtain ⟨a1, k1, m1, n1, p1, q1⟩ := Cond.arrayClass_spec (hts _ ac_boolean)
  obtain ⟨a2, k2, m2, n2, p2, q2⟩ := Cond.arrayClass_spec (hts _ ac_char)
  obtain ⟨a3, k3, m3, n3, p3, q3⟩ := Cond.arrayClass_spec (hts _ ac_float)
  obtain ⟨m4, a4, k4, r4, -, p4, q4, n4⟩ := arrayOverA_spec (hts0 _ ao_int)
  have e4 : m4 = a0 := Option.some.inj (r4.symm.trans n0)
  subst e4
  refine ⟨(fun k => ([c0, c1, c2, c3, c4, c5, c6, c7, c8, c9, c10] : List ClassId).getD k c0, fun k => ([i0, i1, i2, i3, i4, i5, i6, i7, i8, i9, i10] : List (Nat → Nat)).getD k i0), fun k => ([m4, a1, a2, a3, a4] : List ClassId).getD k m4, ⟨fun c q hq => ?_, fun k q hq => ?_⟩, k4, k0, m0, p4, q4, p0, q0⟩
  · rcases c with _ | _ | _ | _ | _ | _ | _ | _ | _ | _ | _ | c
    · cases hq; exact h0
    · cases hq; exact h1
    · cases hq; exact h2
    · cases hq; exact h3
    · cases hq; exact h4
    · cases hq; exact h5
    · cases hq; exact h6
    · cases hq; exact h7
    · cases hq; exact h8
    · cases hq; exact h9
    · cases hq; exact h10
    · simp [vwCl] at hq
  · rcases k with _ | _ | _ | _ | _ | k
    · cases hq; exact ⟨fun n z => ⟨fun k h => (by cases h), k0, p0, m0, q0⟩, n0⟩
    · cases hq; exact ⟨fun n z => ⟨fun k h => (by cases h), k1, p1, m1, q1⟩, n1⟩
    · cases hq; exact ⟨fun n z => ⟨fun k h => (by cases h), k2, p2, m2, q2⟩, n2⟩
    · cases hq; exact ⟨fun n z => ⟨fun k h => (by cases h), k3, p3, m3, q3⟩, n3⟩
    · cases hq; exact ⟨fun n z => ⟨fun k h => (by cases h), k4, p4, m4, q4⟩, n4⟩
    · simp [tyA] at hq
end
