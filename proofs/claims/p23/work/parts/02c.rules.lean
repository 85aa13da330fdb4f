/-! rules: one an instruction -/
section RULES
variable {K : KT} {l : Launch} {D : va_G} {ad : Nat → Nat} {dA : Nat → ClassId} {z0 : Nat} {tt : Nat → Nat} {cc : ByteArray} {own : String} {nL : Nat} {R : Room} {σ : Sg} {φ : Fl} {pc : Nat} {lv : List (Nat × Value)} {st : List Value}
theorem EnvU.drawn {s : State} (h : EnvU D ad dA z0 tt s) (d : Drawn) : EnvU D ad dA z0 tt (s.setDrawn d) := by
  obtain ⟨hK, hN, hT, hz, hD⟩ := h
  exact ⟨hK, fun w hw => (Cond.before_setDrawn #[] s d w).trans (hN w hw), hT, hz, hD⟩
theorem nest_at {s : State} {args : Array Value} {w : Cond} (h : NW s) (hw : w ∈ lw_nest) (ht : w.onTables = true) (d : Drawn) : w.before args (s.setDrawn d) = true := (Cond.before_setDrawn args s d w).trans (va_Nw.use ht (h w hw))
theorem g_iadd (C : Cx K l D ad dA z0 tt cc own nL R) {a b : Int32} (hd : decode cc pc = .ok (.iadd, 1)) (k : K σ φ (pc + 1) lv (.int (a + b) :: st)) : K σ φ pc lv (.int b :: .int a :: st) := by
  obtain ⟨p, e, s, m, args, below, meth, c, Q, cells, slots, rfl, hx, hb, hml, hown, hts, hE, hcl, hsl⟩ := C
  intro d H locs ls l0 st0 hd0 hW hS hls hL hs
  obtain ⟨t1, rfl, g1⟩ := alS_int hs
  obtain ⟨t2, rfl, g2⟩ := alS_int g1
  exact lv_iadd hx hb hd (k d H locs ls l0 _ hd0 hW hS hls hL ⟨rfl, g2⟩)
theorem g_isub (C : Cx K l D ad dA z0 tt cc own nL R) {a b : Int32} (hd : decode cc pc = .ok (.isub, 1)) (k : K σ φ (pc + 1) lv (.int (a - b) :: st)) : K σ φ pc lv (.int b :: .int a :: st) := by
  obtain ⟨p, e, s, m, args, below, meth, c, Q, cells, slots, rfl, hx, hb, hml, hown, hts, hE, hcl, hsl⟩ := C
  intro d H locs ls l0 st0 hd0 hW hS hls hL hs
  obtain ⟨t1, rfl, g1⟩ := alS_int hs
  obtain ⟨t2, rfl, g2⟩ := alS_int g1
  exact lv_isub hx hb hd (k d H locs ls l0 _ hd0 hW hS hls hL ⟨rfl, g2⟩)
theorem g_imul (C : Cx K l D ad dA z0 tt cc own nL R) {a b : Int32} (hd : decode cc pc = .ok (.imul, 1)) (k : K σ φ (pc + 1) lv (.int (a * b) :: st)) : K σ φ pc lv (.int b :: .int a :: st) := by
  obtain ⟨p, e, s, m, args, below, meth, c, Q, cells, slots, rfl, hx, hb, hml, hown, hts, hE, hcl, hsl⟩ := C
  intro d H locs ls l0 st0 hd0 hW hS hls hL hs
  obtain ⟨t1, rfl, g1⟩ := alS_int hs
  obtain ⟨t2, rfl, g2⟩ := alS_int g1
  exact lv_imul hx hb hd (k d H locs ls l0 _ hd0 hW hS hls hL ⟨rfl, g2⟩)
theorem g_iand (C : Cx K l D ad dA z0 tt cc own nL R) {a b : Int32} (hd : decode cc pc = .ok (.iand, 1)) (k : K σ φ (pc + 1) lv (.int (a &&& b) :: st)) : K σ φ pc lv (.int b :: .int a :: st) := by
  obtain ⟨p, e, s, m, args, below, meth, c, Q, cells, slots, rfl, hx, hb, hml, hown, hts, hE, hcl, hsl⟩ := C
  intro d H locs ls l0 st0 hd0 hW hS hls hL hs
  obtain ⟨t1, rfl, g1⟩ := alS_int hs
  obtain ⟨t2, rfl, g2⟩ := alS_int g1
  exact lv_iand hx hb hd (k d H locs ls l0 _ hd0 hW hS hls hL ⟨rfl, g2⟩)
theorem g_ixor (C : Cx K l D ad dA z0 tt cc own nL R) {a b : Int32} (hd : decode cc pc = .ok (.ixor, 1)) (k : K σ φ (pc + 1) lv (.int (a ^^^ b) :: st)) : K σ φ pc lv (.int b :: .int a :: st) := by
  obtain ⟨p, e, s, m, args, below, meth, c, Q, cells, slots, rfl, hx, hb, hml, hown, hts, hE, hcl, hsl⟩ := C
  intro d H locs ls l0 st0 hd0 hW hS hls hL hs
  obtain ⟨t1, rfl, g1⟩ := alS_int hs
  obtain ⟨t2, rfl, g2⟩ := alS_int g1
  exact lv_ixor hx hb hd (k d H locs ls l0 _ hd0 hW hS hls hL ⟨rfl, g2⟩)
theorem g_idiv (C : Cx K l D ad dA z0 tt cc own nL R) {a b : Int32} (hd : decode cc pc = .ok (.idiv, 1)) (hne : ¬ b = 0) (k : K σ φ (pc + 1) lv (.int (a / b) :: st)) : K σ φ pc lv (.int b :: .int a :: st) := by
  obtain ⟨p, e, s, m, args, below, meth, c, Q, cells, slots, rfl, hx, hb, hml, hown, hts, hE, hcl, hsl⟩ := C
  intro d H locs ls l0 st0 hd0 hW hS hls hL hs
  obtain ⟨t1, rfl, g1⟩ := alS_int hs
  obtain ⟨t2, rfl, g2⟩ := alS_int g1
  exact lv_idiv hx hb hd hne (k d H locs ls l0 _ hd0 hW hS hls hL ⟨rfl, g2⟩)
theorem g_irem (C : Cx K l D ad dA z0 tt cc own nL R) {a b : Int32} (hd : decode cc pc = .ok (.irem, 1)) (hne : ¬ b = 0) (k : K σ φ (pc + 1) lv (.int (a - a / b * b) :: st)) : K σ φ pc lv (.int b :: .int a :: st) := by
  obtain ⟨p, e, s, m, args, below, meth, c, Q, cells, slots, rfl, hx, hb, hml, hown, hts, hE, hcl, hsl⟩ := C
  intro d H locs ls l0 st0 hd0 hW hS hls hL hs
  obtain ⟨t1, rfl, g1⟩ := alS_int hs
  obtain ⟨t2, rfl, g2⟩ := alS_int g1
  exact lv_irem hx hb hd hne (k d H locs ls l0 _ hd0 hW hS hls hL ⟨rfl, g2⟩)
theorem g_ineg (C : Cx K l D ad dA z0 tt cc own nL R) {a : Int32} (hd : decode cc pc = .ok (.ineg, 1)) (k : K σ φ (pc + 1) lv (.int (-a) :: st)) : K σ φ pc lv (.int a :: st) := by
  obtain ⟨p, e, s, m, args, below, meth, c, Q, cells, slots, rfl, hx, hb, hml, hown, hts, hE, hcl, hsl⟩ := C
  intro d H locs ls l0 st0 hd0 hW hS hls hL hs
  obtain ⟨t1, rfl, g1⟩ := alS_int hs
  exact lv_ineg hx hb hd (k d H locs ls l0 _ hd0 hW hS hls hL ⟨rfl, g1⟩)
theorem g_i2c (C : Cx K l D ad dA z0 tt cc own nL R) {a v : Int32} (hd : decode cc pc = .ok (.i2c, 1)) (hv : (a.toUInt32 % 65536).toInt32 = v) (k : K σ φ (pc + 1) lv (.int v :: st)) : K σ φ pc lv (.int a :: st) := by
  obtain ⟨p, e, s, m, args, below, meth, c, Q, cells, slots, rfl, hx, hb, hml, hown, hts, hE, hcl, hsl⟩ := C
  intro d H locs ls l0 st0 hd0 hW hS hls hL hs
  obtain ⟨t1, rfl, g1⟩ := alS_int hs
  exact lv_i2c hx hb hd hv (k d H locs ls l0 _ hd0 hW hS hls hL ⟨rfl, g1⟩)
theorem g_i2f (C : Cx K l D ad dA z0 tt cc own nL R) {a : Int32} (hd : decode cc pc = .ok (.i2f, 1)) (k : K σ φ (pc + 1) lv (.float (FP.i2f a) :: st)) : K σ φ pc lv (.int a :: st) := by
  obtain ⟨p, e, s, m, args, below, meth, c, Q, cells, slots, rfl, hx, hb, hml, hown, hts, hE, hcl, hsl⟩ := C
  intro d H locs ls l0 st0 hd0 hW hS hls hL hs
  obtain ⟨t1, rfl, g1⟩ := alS_int hs
  exact lv_i2f hx hb hd (k d H locs ls l0 _ hd0 hW hS hls hL ⟨alV_rf _, g1⟩)
theorem g_f2i (C : Cx K l D ad dA z0 tt cc own nL R) {a : UInt32} (hd : decode cc pc = .ok (.f2i, 1)) (k : K σ φ (pc + 1) lv (.int (FP.f2i a) :: st)) : K σ φ pc lv (.float a :: st) := by
  obtain ⟨p, e, s, m, args, below, meth, c, Q, cells, slots, rfl, hx, hb, hml, hown, hts, hE, hcl, hsl⟩ := C
  intro d H locs ls l0 st0 hd0 hW hS hls hL hs
  obtain ⟨x1, t1, rfl, e1, g1⟩ := alS_flt hs
  refine lv_f2i hx hb hd ?_
  rw [fp_f2i e1]
  exact k d H locs ls l0 _ hd0 hW hS hls hL ⟨rfl, g1⟩
theorem g_f2d (C : Cx K l D ad dA z0 tt cc own nL R) {a : UInt32} (hd : decode cc pc = .ok (.f2d, 1)) (k : K σ φ (pc + 1) lv (.double (FP.f2d a) :: st)) : K σ φ pc lv (.float a :: st) := by
  obtain ⟨p, e, s, m, args, below, meth, c, Q, cells, slots, rfl, hx, hb, hml, hown, hts, hE, hcl, hsl⟩ := C
  intro d H locs ls l0 st0 hd0 hW hS hls hL hs
  obtain ⟨x1, t1, rfl, e1, g1⟩ := alS_flt hs
  refine lv_f2d_any hd0 lw_bits hx hb hd (fun r d1 hal hd1 => ?_)
  exact k d1 H locs ls l0 _ hd1 hW hS hls hL ⟨⟨r, rfl, al64_tr hal (fp_f2d e1)⟩, g1⟩
theorem g_fadd (C : Cx K l D ad dA z0 tt cc own nL R) {a b : UInt32} (hd : decode cc pc = .ok (.fadd, 1)) (k : K σ φ (pc + 1) lv (.float (FP.fadd a b) :: st)) : K σ φ pc lv (.float b :: .float a :: st) := by
  obtain ⟨p, e, s, m, args, below, meth, c, Q, cells, slots, rfl, hx, hb, hml, hown, hts, hE, hcl, hsl⟩ := C
  intro d H locs ls l0 st0 hd0 hW hS hls hL hs
  obtain ⟨x1, t1, rfl, e1, g1⟩ := alS_flt hs
  obtain ⟨x2, t2, rfl, e2, g2⟩ := alS_flt g1
  refine lv_fadd_any hd0 lw_bits hx hb hd (fun r d1 hal hd1 => ?_)
  rw [fp_add e2 e1] at hal
  exact k d1 H locs ls l0 _ hd1 hW hS hls hL ⟨⟨r, rfl, hal⟩, g2⟩
theorem g_fsub (C : Cx K l D ad dA z0 tt cc own nL R) {a b : UInt32} (hd : decode cc pc = .ok (.fsub, 1)) (k : K σ φ (pc + 1) lv (.float (FP.fsub a b) :: st)) : K σ φ pc lv (.float b :: .float a :: st) := by
  obtain ⟨p, e, s, m, args, below, meth, c, Q, cells, slots, rfl, hx, hb, hml, hown, hts, hE, hcl, hsl⟩ := C
  intro d H locs ls l0 st0 hd0 hW hS hls hL hs
  obtain ⟨x1, t1, rfl, e1, g1⟩ := alS_flt hs
  obtain ⟨x2, t2, rfl, e2, g2⟩ := alS_flt g1
  refine lv_fsub_any hd0 lw_bits hx hb hd (fun r d1 hal hd1 => ?_)
  rw [fp_sub e2 e1] at hal
  exact k d1 H locs ls l0 _ hd1 hW hS hls hL ⟨⟨r, rfl, hal⟩, g2⟩
theorem g_fmul (C : Cx K l D ad dA z0 tt cc own nL R) {a b : UInt32} (hd : decode cc pc = .ok (.fmul, 1)) (k : K σ φ (pc + 1) lv (.float (FP.fmul a b) :: st)) : K σ φ pc lv (.float b :: .float a :: st) := by
  obtain ⟨p, e, s, m, args, below, meth, c, Q, cells, slots, rfl, hx, hb, hml, hown, hts, hE, hcl, hsl⟩ := C
  intro d H locs ls l0 st0 hd0 hW hS hls hL hs
  obtain ⟨x1, t1, rfl, e1, g1⟩ := alS_flt hs
  obtain ⟨x2, t2, rfl, e2, g2⟩ := alS_flt g1
  refine lv_fmul_any hd0 lw_bits hx hb hd (fun r d1 hal hd1 => ?_)
  rw [fp_mul e2 e1] at hal
  exact k d1 H locs ls l0 _ hd1 hW hS hls hL ⟨⟨r, rfl, hal⟩, g2⟩
theorem g_fdiv (C : Cx K l D ad dA z0 tt cc own nL R) {a b : UInt32} (hd : decode cc pc = .ok (.fdiv, 1)) (k : K σ φ (pc + 1) lv (.float (FP.fdiv a b) :: st)) : K σ φ pc lv (.float b :: .float a :: st) := by
  obtain ⟨p, e, s, m, args, below, meth, c, Q, cells, slots, rfl, hx, hb, hml, hown, hts, hE, hcl, hsl⟩ := C
  intro d H locs ls l0 st0 hd0 hW hS hls hL hs
  obtain ⟨x1, t1, rfl, e1, g1⟩ := alS_flt hs
  obtain ⟨x2, t2, rfl, e2, g2⟩ := alS_flt g1
  refine lv_fdiv_any hd0 lw_bits hx hb hd (fun r d1 hal hd1 => ?_)
  rw [fp_div e2 e1] at hal
  exact k d1 H locs ls l0 _ hd1 hW hS hls hL ⟨⟨r, rfl, hal⟩, g2⟩
theorem g_fcmp (C : Cx K l D ad dA z0 tt cc own nL R) {a b : UInt32} {op : CmpOp} (hd : decode cc pc = .ok (.fcmp op, 1)) (k : K σ φ (pc + 1) lv (.int (Op.cmpValue (FP.fcmp a b) op) :: st)) : K σ φ pc lv (.float b :: .float a :: st) := by
  obtain ⟨p, e, s, m, args, below, meth, c, Q, cells, slots, rfl, hx, hb, hml, hown, hts, hE, hcl, hsl⟩ := C
  intro d H locs ls l0 st0 hd0 hW hS hls hL hs
  obtain ⟨x1, t1, rfl, e1, g1⟩ := alS_flt hs
  obtain ⟨x2, t2, rfl, e2, g2⟩ := alS_flt g1
  refine lv_fcmp hx hb hd ?_
  rw [fp_cmp e2 e1]
  exact k d H locs ls l0 _ hd0 hW hS hls hL ⟨rfl, g2⟩
theorem g_dcmp (C : Cx K l D ad dA z0 tt cc own nL R) {a b : UInt64} {op : CmpOp} (hd : decode cc pc = .ok (.dcmp op, 1)) (k : K σ φ (pc + 1) lv (.int (Op.cmpValue (FP.dcmp a b) op) :: st)) : K σ φ pc lv (.double b :: .double a :: st) := by
  obtain ⟨p, e, s, m, args, below, meth, c, Q, cells, slots, rfl, hx, hb, hml, hown, hts, hE, hcl, hsl⟩ := C
  intro d H locs ls l0 st0 hd0 hW hS hls hL hs
  obtain ⟨x1, t1, rfl, e1, g1⟩ := alS_dbl hs
  obtain ⟨x2, t2, rfl, e2, g2⟩ := alS_dbl g1
  refine lv_dcmp hx hb hd ?_
  rw [fp_dcmp e2 e1]
  exact k d H locs ls l0 _ hd0 hW hS hls hL ⟨rfl, g2⟩
theorem g_land (C : Cx K l D ad dA z0 tt cc own nL R) {a b : Int64} (hd : decode cc pc = .ok (.land, 1)) (k : K σ φ (pc + 1) lv (.long (a &&& b) :: st)) : K σ φ pc lv (.long b :: .long a :: st) := by
  obtain ⟨p, e, s, m, args, below, meth, c, Q, cells, slots, rfl, hx, hb, hml, hown, hts, hE, hcl, hsl⟩ := C
  intro d H locs ls l0 st0 hd0 hW hS hls hL hs
  obtain ⟨t1, rfl, g1⟩ := alS_long hs
  obtain ⟨t2, rfl, g2⟩ := alS_long g1
  exact lv_land hx hb hd (k d H locs ls l0 _ hd0 hW hS hls hL ⟨rfl, g2⟩)
theorem g_lor (C : Cx K l D ad dA z0 tt cc own nL R) {a b : Int64} (hd : decode cc pc = .ok (.lor, 1)) (k : K σ φ (pc + 1) lv (.long (a ||| b) :: st)) : K σ φ pc lv (.long b :: .long a :: st) := by
  obtain ⟨p, e, s, m, args, below, meth, c, Q, cells, slots, rfl, hx, hb, hml, hown, hts, hE, hcl, hsl⟩ := C
  intro d H locs ls l0 st0 hd0 hW hS hls hL hs
  obtain ⟨t1, rfl, g1⟩ := alS_long hs
  obtain ⟨t2, rfl, g2⟩ := alS_long g1
  exact lv_lor hx hb hd (k d H locs ls l0 _ hd0 hW hS hls hL ⟨rfl, g2⟩)
theorem g_lcmp (C : Cx K l D ad dA z0 tt cc own nL R) {a b : Int64} (hd : decode cc pc = .ok (.lcmp, 1)) (k : K σ φ (pc + 1) lv (.int (lg_cmp a b) :: st)) : K σ φ pc lv (.long b :: .long a :: st) := by
  obtain ⟨p, e, s, m, args, below, meth, c, Q, cells, slots, rfl, hx, hb, hml, hown, hts, hE, hcl, hsl⟩ := C
  intro d H locs ls l0 st0 hd0 hW hS hls hL hs
  obtain ⟨t1, rfl, g1⟩ := alS_long hs
  obtain ⟨t2, rfl, g2⟩ := alS_long g1
  exact W.lcmp hx hb hd (k d H locs ls l0 _ hd0 hW hS hls hL ⟨rfl, g2⟩)
theorem g_lshl (C : Cx K l D ad dA z0 tt cc own nL R) {x : Int64} {y : Int32} (hd : decode cc pc = .ok (.lshl, 1)) (k : K σ φ (pc + 1) lv (.long (x <<< (y.toInt64 &&& 63)) :: st)) : K σ φ pc lv (.int y :: .long x :: st) := by
  obtain ⟨p, e, s, m, args, below, meth, c, Q, cells, slots, rfl, hx, hb, hml, hown, hts, hE, hcl, hsl⟩ := C
  intro d H locs ls l0 st0 hd0 hW hS hls hL hs
  obtain ⟨t1, rfl, g1⟩ := alS_int hs
  obtain ⟨t2, rfl, g2⟩ := alS_long g1
  exact lv_lshl hx hb hd rfl (k d H locs ls l0 _ hd0 hW hS hls hL ⟨rfl, g2⟩)
theorem g_lshr (C : Cx K l D ad dA z0 tt cc own nL R) {x : Int64} {y : Int32} (hd : decode cc pc = .ok (.lshr, 1)) (k : K σ φ (pc + 1) lv (.long (x >>> (y.toInt64 &&& 63)) :: st)) : K σ φ pc lv (.int y :: .long x :: st) := by
  obtain ⟨p, e, s, m, args, below, meth, c, Q, cells, slots, rfl, hx, hb, hml, hown, hts, hE, hcl, hsl⟩ := C
  intro d H locs ls l0 st0 hd0 hW hS hls hL hs
  obtain ⟨t1, rfl, g1⟩ := alS_int hs
  obtain ⟨t2, rfl, g2⟩ := alS_long g1
  exact lv_lshr hx hb hd rfl (k d H locs ls l0 _ hd0 hW hS hls hL ⟨rfl, g2⟩)
theorem g_lconst (C : Cx K l D ad dA z0 tt cc own nL R) {n : Fin 2} {v : Int64} (hd : decode cc pc = .ok (.lconst n, 1)) (hv : Int64.ofNat (n : Nat) = v) (k : K σ φ (pc + 1) lv (.long v :: st)) : K σ φ pc lv st := by
  obtain ⟨p, e, s, m, args, below, meth, c, Q, cells, slots, rfl, hx, hb, hml, hown, hts, hE, hcl, hsl⟩ := C
  intro d H locs ls l0 st0 hd0 hW hS hls hL hs
  exact lv_lconst hx hb hd hv (k d H locs ls l0 _ hd0 hW hS hls hL ⟨rfl, hs⟩)
theorem g_ishr (C : Cx K l D ad dA z0 tt cc own nL R) {x y : Int32} (hd : decode cc pc = .ok (.ishr, 1)) (k : K σ φ (pc + 1) lv (.int (x >>> (y &&& 31)) :: st)) : K σ φ pc lv (.int y :: .int x :: st) := by
  obtain ⟨p, e, s, m, args, below, meth, c, Q, cells, slots, rfl, hx, hb, hml, hown, hts, hE, hcl, hsl⟩ := C
  intro d H locs ls l0 st0 hd0 hW hS hls hL hs
  obtain ⟨t1, rfl, g1⟩ := alS_int hs
  obtain ⟨t2, rfl, g2⟩ := alS_int g1
  exact lv_ishr hx hb hd (k d H locs ls l0 _ hd0 hW hS hls hL ⟨rfl, g2⟩)
theorem g_iconst (C : Cx K l D ad dA z0 tt cc own nL R) {n : Int} {v : Int32} (hd : decode cc pc = .ok (.iconst n, 1)) (hv : Int32.ofInt n = v) (k : K σ φ (pc + 1) lv (.int v :: st)) : K σ φ pc lv st := by
  obtain ⟨p, e, s, m, args, below, meth, c, Q, cells, slots, rfl, hx, hb, hml, hown, hts, hE, hcl, hsl⟩ := C
  intro d H locs ls l0 st0 hd0 hW hS hls hL hs
  exact lv_iconst hx hb hd hv (k d H locs ls l0 _ hd0 hW hS hls hL ⟨rfl, hs⟩)
theorem g_bipush (C : Cx K l D ad dA z0 tt cc own nL R) {n : Int} {v : Int32} (hd : decode cc pc = .ok (.bipush n, 2)) (hv : (Int8.ofInt n).toInt32 = v) (k : K σ φ (pc + 2) lv (.int v :: st)) : K σ φ pc lv st := by
  obtain ⟨p, e, s, m, args, below, meth, c, Q, cells, slots, rfl, hx, hb, hml, hown, hts, hE, hcl, hsl⟩ := C
  intro d H locs ls l0 st0 hd0 hW hS hls hL hs
  exact lv_bipush hx hb hd hv (k d H locs ls l0 _ hd0 hW hS hls hL ⟨rfl, hs⟩)
theorem g_sipush (C : Cx K l D ad dA z0 tt cc own nL R) {n : Int} {v : Int32} (hd : decode cc pc = .ok (.sipush n, 3)) (hv : (Int16.ofInt n).toInt32 = v) (k : K σ φ (pc + 3) lv (.int v :: st)) : K σ φ pc lv st := by
  obtain ⟨p, e, s, m, args, below, meth, c, Q, cells, slots, rfl, hx, hb, hml, hown, hts, hE, hcl, hsl⟩ := C
  intro d H locs ls l0 st0 hd0 hW hS hls hL hs
  exact lv_sipush hx hb hd hv (k d H locs ls l0 _ hd0 hW hS hls hL ⟨rfl, hs⟩)
theorem g_ldc (C : Cx K l D ad dA z0 tt cc own nL R) {index : Nat} {v : Int32} (hc : Cond.constant own index v ∈ lw_all) (hd : decode cc pc = .ok (.ldc index, 2)) (k : K σ φ (pc + 2) lv (.int v :: st)) : K σ φ pc lv st := by
  obtain ⟨p, e, s, m, args, below, meth, c, Q, cells, slots, rfl, hx, hb, hml, hown, hts, hE, hcl, hsl⟩ := C
  intro d H locs ls l0 st0 hd0 hW hS hls hL hs
  exact lv_ldc hx hb hown (dr_words hts d _ hc) hd (k d H locs ls l0 _ hd0 hW hS hls hL ⟨rfl, hs⟩)
theorem g_ldcf (C : Cx K l D ad dA z0 tt cc own nL R) {index : Nat} {v : UInt32} (hc : Cond.constantFloat own index v ∈ lw_all) (hd : decode cc pc = .ok (.ldc index, 2)) (k : K σ φ (pc + 2) lv (.float v :: st)) : K σ φ pc lv st := by
  obtain ⟨p, e, s, m, args, below, meth, c, Q, cells, slots, rfl, hx, hb, hml, hown, hts, hE, hcl, hsl⟩ := C
  intro d H locs ls l0 st0 hd0 hW hS hls hL hs
  exact lv_ldcf hx hb hown (dr_words hts d _ hc) hd (k d H locs ls l0 _ hd0 hW hS hls hL ⟨alV_rf _, hs⟩)
theorem g_fconst0 (C : Cx K l D ad dA z0 tt cc own nL R) (hd : decode cc pc = .ok (.fconst 0, 1)) (k : K σ φ (pc + 1) lv (.float FP.fconst0 :: st)) : K σ φ pc lv st := by
  obtain ⟨p, e, s, m, args, below, meth, c, Q, cells, slots, rfl, hx, hb, hml, hown, hts, hE, hcl, hsl⟩ := C
  intro d H locs ls l0 st0 hd0 hW hS hls hL hs
  exact lv_fconst0 hx hb hd (k d H locs ls l0 _ hd0 hW hS hls hL ⟨alV_rf _, hs⟩)
theorem g_fconst1 (C : Cx K l D ad dA z0 tt cc own nL R) (hd : decode cc pc = .ok (.fconst 1, 1)) (k : K σ φ (pc + 1) lv (.float FP.fconst1 :: st)) : K σ φ pc lv st := by
  obtain ⟨p, e, s, m, args, below, meth, c, Q, cells, slots, rfl, hx, hb, hml, hown, hts, hE, hcl, hsl⟩ := C
  intro d H locs ls l0 st0 hd0 hW hS hls hL hs
  exact lv_fconst1 hx hb hd (k d H locs ls l0 _ hd0 hW hS hls hL ⟨alV_rf _, hs⟩)
theorem g_fconst2 (C : Cx K l D ad dA z0 tt cc own nL R) (hd : decode cc pc = .ok (.fconst 2, 1)) (k : K σ φ (pc + 1) lv (.float FP.fconst2 :: st)) : K σ φ pc lv st := by
  obtain ⟨p, e, s, m, args, below, meth, c, Q, cells, slots, rfl, hx, hb, hml, hown, hts, hE, hcl, hsl⟩ := C
  intro d H locs ls l0 st0 hd0 hW hS hls hL hs
  exact lv_fconst2 hx hb hd (k d H locs ls l0 _ hd0 hW hS hls hL ⟨alV_rf _, hs⟩)
theorem g_iload_n (C : Cx K l D ad dA z0 tt cc own nL R) {k0 : Fin 4} {i : Nat} {x : Int32} (hd : decode cc pc = .ok (.iload_n k0, 1)) (hi : (k0 : Nat) = i) (j : Nat) (hj : lv[j]? = some (i, .int x)) (k : K σ φ (pc + 1) lv (.int x :: st)) : K σ φ pc lv st := by
  obtain ⟨p, e, s, m, args, below, meth, c, Q, cells, slots, rfl, hx, hb, hml, hown, hts, hE, hcl, hsl⟩ := C
  intro d H locs ls l0 st0 hd0 hW hS hls hL hs
  obtain ⟨v, hv, ev⟩ := alL_at j hL hj
  cases (ev : v = .int x)
  exact lv_iload_n hx hb hd hi (lv_at hls j hv) (k d H locs ls l0 _ hd0 hW hS hls hL ⟨rfl, hs⟩)
theorem g_iload (C : Cx K l D ad dA z0 tt cc own nL R) {i : Nat} {x : Int32} (hd : decode cc pc = .ok (.iload i, 2)) (j : Nat) (hj : lv[j]? = some (i, .int x)) (k : K σ φ (pc + 2) lv (.int x :: st)) : K σ φ pc lv st := by
  obtain ⟨p, e, s, m, args, below, meth, c, Q, cells, slots, rfl, hx, hb, hml, hown, hts, hE, hcl, hsl⟩ := C
  intro d H locs ls l0 st0 hd0 hW hS hls hL hs
  obtain ⟨v, hv, ev⟩ := alL_at j hL hj
  cases (ev : v = .int x)
  exact lv_iload hx hb hd (lv_at hls j hv) (k d H locs ls l0 _ hd0 hW hS hls hL ⟨rfl, hs⟩)
theorem g_aload_n (C : Cx K l D ad dA z0 tt cc own nL R) {k0 : Fin 4} {i : Nat} {x : Nat} (hd : decode cc pc = .ok (.aload_n k0, 1)) (hi : (k0 : Nat) = i) (j : Nat) (hj : lv[j]? = some (i, .ref x)) (k : K σ φ (pc + 1) lv (.ref x :: st)) : K σ φ pc lv st := by
  obtain ⟨p, e, s, m, args, below, meth, c, Q, cells, slots, rfl, hx, hb, hml, hown, hts, hE, hcl, hsl⟩ := C
  intro d H locs ls l0 st0 hd0 hW hS hls hL hs
  obtain ⟨v, hv, ev⟩ := alL_at j hL hj
  cases (ev : v = .ref x)
  exact lv_aload_n hx hb hd hi (lv_at hls j hv) (k d H locs ls l0 _ hd0 hW hS hls hL ⟨rfl, hs⟩)
theorem g_aload (C : Cx K l D ad dA z0 tt cc own nL R) {i : Nat} {x : Nat} (hd : decode cc pc = .ok (.aload i, 2)) (j : Nat) (hj : lv[j]? = some (i, .ref x)) (k : K σ φ (pc + 2) lv (.ref x :: st)) : K σ φ pc lv st := by
  obtain ⟨p, e, s, m, args, below, meth, c, Q, cells, slots, rfl, hx, hb, hml, hown, hts, hE, hcl, hsl⟩ := C
  intro d H locs ls l0 st0 hd0 hW hS hls hL hs
  obtain ⟨v, hv, ev⟩ := alL_at j hL hj
  cases (ev : v = .ref x)
  exact lv_aload hx hb hd (lv_at hls j hv) (k d H locs ls l0 _ hd0 hW hS hls hL ⟨rfl, hs⟩)
theorem g_lload_n (C : Cx K l D ad dA z0 tt cc own nL R) {k0 : Fin 4} {i : Nat} {x : Int64} (hd : decode cc pc = .ok (.lload_n k0, 1)) (hi : (k0 : Nat) = i) (j : Nat) (hj : lv[j]? = some (i, .long x)) (k : K σ φ (pc + 1) lv (.long x :: st)) : K σ φ pc lv st := by
  obtain ⟨p, e, s, m, args, below, meth, c, Q, cells, slots, rfl, hx, hb, hml, hown, hts, hE, hcl, hsl⟩ := C
  intro d H locs ls l0 st0 hd0 hW hS hls hL hs
  obtain ⟨v, hv, ev⟩ := alL_at j hL hj
  cases (ev : v = .long x)
  exact lv_lload_n hx hb hd hi (lv_at hls j hv) (k d H locs ls l0 _ hd0 hW hS hls hL ⟨rfl, hs⟩)
theorem g_lload (C : Cx K l D ad dA z0 tt cc own nL R) {i : Nat} {x : Int64} (hd : decode cc pc = .ok (.lload i, 2)) (j : Nat) (hj : lv[j]? = some (i, .long x)) (k : K σ φ (pc + 2) lv (.long x :: st)) : K σ φ pc lv st := by
  obtain ⟨p, e, s, m, args, below, meth, c, Q, cells, slots, rfl, hx, hb, hml, hown, hts, hE, hcl, hsl⟩ := C
  intro d H locs ls l0 st0 hd0 hW hS hls hL hs
  obtain ⟨v, hv, ev⟩ := alL_at j hL hj
  cases (ev : v = .long x)
  exact lv_lload hx hb hd (lv_at hls j hv) (k d H locs ls l0 _ hd0 hW hS hls hL ⟨rfl, hs⟩)
theorem g_fload_n (C : Cx K l D ad dA z0 tt cc own nL R) {k0 : Fin 4} {i : Nat} {x : UInt32} (hd : decode cc pc = .ok (.fload_n k0, 1)) (hi : (k0 : Nat) = i) (j : Nat) (hj : lv[j]? = some (i, .float x)) (k : K σ φ (pc + 1) lv (.float x :: st)) : K σ φ pc lv st := by
  obtain ⟨p, e, s, m, args, below, meth, c, Q, cells, slots, rfl, hx, hb, hml, hown, hts, hE, hcl, hsl⟩ := C
  intro d H locs ls l0 st0 hd0 hW hS hls hL hs
  obtain ⟨v, hv, ev⟩ := alL_at j hL hj
  obtain ⟨x0, rfl, e0⟩ := ev
  exact lv_fload_n hx hb hd hi (lv_at hls j hv) (k d H locs ls l0 _ hd0 hW hS hls hL ⟨⟨x0, rfl, e0⟩, hs⟩)
theorem g_fload (C : Cx K l D ad dA z0 tt cc own nL R) {i : Nat} {x : UInt32} (hd : decode cc pc = .ok (.fload i, 2)) (j : Nat) (hj : lv[j]? = some (i, .float x)) (k : K σ φ (pc + 2) lv (.float x :: st)) : K σ φ pc lv st := by
  obtain ⟨p, e, s, m, args, below, meth, c, Q, cells, slots, rfl, hx, hb, hml, hown, hts, hE, hcl, hsl⟩ := C
  intro d H locs ls l0 st0 hd0 hW hS hls hL hs
  obtain ⟨v, hv, ev⟩ := alL_at j hL hj
  obtain ⟨x0, rfl, e0⟩ := ev
  exact lv_fload hx hb hd (lv_at hls j hv) (k d H locs ls l0 _ hd0 hW hS hls hL ⟨⟨x0, rfl, e0⟩, hs⟩)
theorem g_dload_n (C : Cx K l D ad dA z0 tt cc own nL R) {k0 : Fin 4} {i : Nat} {x : UInt64} (hd : decode cc pc = .ok (.dload_n k0, 1)) (hi : (k0 : Nat) = i) (j : Nat) (hj : lv[j]? = some (i, .double x)) (k : K σ φ (pc + 1) lv (.double x :: st)) : K σ φ pc lv st := by
  obtain ⟨p, e, s, m, args, below, meth, c, Q, cells, slots, rfl, hx, hb, hml, hown, hts, hE, hcl, hsl⟩ := C
  intro d H locs ls l0 st0 hd0 hW hS hls hL hs
  obtain ⟨v, hv, ev⟩ := alL_at j hL hj
  obtain ⟨x0, rfl, e0⟩ := ev
  exact lv_dload_n hx hb hd hi (lv_at hls j hv) (k d H locs ls l0 _ hd0 hW hS hls hL ⟨⟨x0, rfl, e0⟩, hs⟩)
theorem g_dload (C : Cx K l D ad dA z0 tt cc own nL R) {i : Nat} {x : UInt64} (hd : decode cc pc = .ok (.dload i, 2)) (j : Nat) (hj : lv[j]? = some (i, .double x)) (k : K σ φ (pc + 2) lv (.double x :: st)) : K σ φ pc lv st := by
  obtain ⟨p, e, s, m, args, below, meth, c, Q, cells, slots, rfl, hx, hb, hml, hown, hts, hE, hcl, hsl⟩ := C
  intro d H locs ls l0 st0 hd0 hW hS hls hL hs
  obtain ⟨v, hv, ev⟩ := alL_at j hL hj
  obtain ⟨x0, rfl, e0⟩ := ev
  exact lv_dload hx hb hd (lv_at hls j hv) (k d H locs ls l0 _ hd0 hW hS hls hL ⟨⟨x0, rfl, e0⟩, hs⟩)
theorem g_istore_n (C : Cx K l D ad dA z0 tt cc own nL R) {k0 : Fin 4} {i : Nat} {x : Int32} {lv' : List (Nat × Value)} (hd : decode cc pc = .ok (.istore_n k0, 1)) (hi : (k0 : Nat) = i) (hn : i < nL) (hl : (i, Value.int x) :: lv.filter (fun q => !(q.1 == i) && !(q.1 + 1 == i && q.2.category == 2)) = lv') (k : K σ φ (pc + 1) lv' st) : K σ φ pc lv (.int x :: st) := by
  obtain ⟨p, e, s, m, args, below, meth, c, Q, cells, slots, rfl, hx, hb, hml, hown, hts, hE, hcl, hsl⟩ := C
  intro d H locs ls l0 st0 hd0 hW hS hls hL hs
  obtain ⟨t1, rfl, g1⟩ := alS_int hs
  subst hl
  refine lv_istore_n (lv' := _) hx hb hd hi hls hn rfl (fun ls1 hls1 => ?_)
  exact k d H locs ls1 _ _ hd0 hW hS hls1 ⟨⟨rfl, rfl⟩, alL_filter (fun _ _ _ e => by dsimp only; rw [e]) hL⟩ g1
theorem g_istore (C : Cx K l D ad dA z0 tt cc own nL R) {i : Nat} {x : Int32} {lv' : List (Nat × Value)} (hd : decode cc pc = .ok (.istore i, 2)) (hn : i < nL) (hl : (i, Value.int x) :: lv.filter (fun q => !(q.1 == i) && !(q.1 + 1 == i && q.2.category == 2)) = lv') (k : K σ φ (pc + 2) lv' st) : K σ φ pc lv (.int x :: st) := by
  obtain ⟨p, e, s, m, args, below, meth, c, Q, cells, slots, rfl, hx, hb, hml, hown, hts, hE, hcl, hsl⟩ := C
  intro d H locs ls l0 st0 hd0 hW hS hls hL hs
  obtain ⟨t1, rfl, g1⟩ := alS_int hs
  subst hl
  refine lv_istore (lv' := _) hx hb hd hls hn rfl (fun ls1 hls1 => ?_)
  exact k d H locs ls1 _ _ hd0 hW hS hls1 ⟨⟨rfl, rfl⟩, alL_filter (fun _ _ _ e => by dsimp only; rw [e]) hL⟩ g1
theorem g_astore_n (C : Cx K l D ad dA z0 tt cc own nL R) {k0 : Fin 4} {i : Nat} {x : Nat} {lv' : List (Nat × Value)} (hd : decode cc pc = .ok (.astore_n k0, 1)) (hi : (k0 : Nat) = i) (hn : i < nL) (hl : (i, Value.ref x) :: lv.filter (fun q => !(q.1 == i) && !(q.1 + 1 == i && q.2.category == 2)) = lv') (k : K σ φ (pc + 1) lv' st) : K σ φ pc lv (.ref x :: st) := by
  obtain ⟨p, e, s, m, args, below, meth, c, Q, cells, slots, rfl, hx, hb, hml, hown, hts, hE, hcl, hsl⟩ := C
  intro d H locs ls l0 st0 hd0 hW hS hls hL hs
  obtain ⟨t1, rfl, g1⟩ := alS_ref hs
  subst hl
  refine lv_astore_n (lv' := _) hx hb hd hi hls hn rfl (fun ls1 hls1 => ?_)
  exact k d H locs ls1 _ _ hd0 hW hS hls1 ⟨⟨rfl, rfl⟩, alL_filter (fun _ _ _ e => by dsimp only; rw [e]) hL⟩ g1
theorem g_astore (C : Cx K l D ad dA z0 tt cc own nL R) {i : Nat} {x : Nat} {lv' : List (Nat × Value)} (hd : decode cc pc = .ok (.astore i, 2)) (hn : i < nL) (hl : (i, Value.ref x) :: lv.filter (fun q => !(q.1 == i) && !(q.1 + 1 == i && q.2.category == 2)) = lv') (k : K σ φ (pc + 2) lv' st) : K σ φ pc lv (.ref x :: st) := by
  obtain ⟨p, e, s, m, args, below, meth, c, Q, cells, slots, rfl, hx, hb, hml, hown, hts, hE, hcl, hsl⟩ := C
  intro d H locs ls l0 st0 hd0 hW hS hls hL hs
  obtain ⟨t1, rfl, g1⟩ := alS_ref hs
  subst hl
  refine lv_astore (lv' := _) hx hb hd hls hn rfl (fun ls1 hls1 => ?_)
  exact k d H locs ls1 _ _ hd0 hW hS hls1 ⟨⟨rfl, rfl⟩, alL_filter (fun _ _ _ e => by dsimp only; rw [e]) hL⟩ g1
theorem g_fstore_n (C : Cx K l D ad dA z0 tt cc own nL R) {k0 : Fin 4} {i : Nat} {x : UInt32} {lv' : List (Nat × Value)} (hd : decode cc pc = .ok (.fstore_n k0, 1)) (hi : (k0 : Nat) = i) (hn : i < nL) (hl : (i, Value.float x) :: lv.filter (fun q => !(q.1 == i) && !(q.1 + 1 == i && q.2.category == 2)) = lv') (k : K σ φ (pc + 1) lv' st) : K σ φ pc lv (.float x :: st) := by
  obtain ⟨p, e, s, m, args, below, meth, c, Q, cells, slots, rfl, hx, hb, hml, hown, hts, hE, hcl, hsl⟩ := C
  intro d H locs ls l0 st0 hd0 hW hS hls hL hs
  obtain ⟨x1, t1, rfl, e1, g1⟩ := alS_flt hs
  subst hl
  refine lv_fstore_n (lv' := _) hx hb hd hi hls hn rfl (fun ls1 hls1 => ?_)
  exact k d H locs ls1 _ _ hd0 hW hS hls1 ⟨⟨rfl, ⟨x1, rfl, e1⟩⟩, alL_filter (fun _ _ _ e => by dsimp only; rw [e]) hL⟩ g1
theorem g_fstore (C : Cx K l D ad dA z0 tt cc own nL R) {i : Nat} {x : UInt32} {lv' : List (Nat × Value)} (hd : decode cc pc = .ok (.fstore i, 2)) (hn : i < nL) (hl : (i, Value.float x) :: lv.filter (fun q => !(q.1 == i) && !(q.1 + 1 == i && q.2.category == 2)) = lv') (k : K σ φ (pc + 2) lv' st) : K σ φ pc lv (.float x :: st) := by
  obtain ⟨p, e, s, m, args, below, meth, c, Q, cells, slots, rfl, hx, hb, hml, hown, hts, hE, hcl, hsl⟩ := C
  intro d H locs ls l0 st0 hd0 hW hS hls hL hs
  obtain ⟨x1, t1, rfl, e1, g1⟩ := alS_flt hs
  subst hl
  refine lv_fstore (lv' := _) hx hb hd hls hn rfl (fun ls1 hls1 => ?_)
  exact k d H locs ls1 _ _ hd0 hW hS hls1 ⟨⟨rfl, ⟨x1, rfl, e1⟩⟩, alL_filter (fun _ _ _ e => by dsimp only; rw [e]) hL⟩ g1
theorem g_dstore_n (C : Cx K l D ad dA z0 tt cc own nL R) {k0 : Fin 4} {i : Nat} {x : UInt64} {lv' : List (Nat × Value)} (hd : decode cc pc = .ok (.dstore_n k0, 1)) (hi : (k0 : Nat) = i) (hn : i + 1 < nL) (hl : (i, Value.double x) :: lv.filter (fun q => !(q.1 == i) && (!(q.1 == i + 1) && !(q.1 + 1 == i && q.2.category == 2))) = lv') (k : K σ φ (pc + 1) lv' st) : K σ φ pc lv (.double x :: st) := by
  obtain ⟨p, e, s, m, args, below, meth, c, Q, cells, slots, rfl, hx, hb, hml, hown, hts, hE, hcl, hsl⟩ := C
  intro d H locs ls l0 st0 hd0 hW hS hls hL hs
  obtain ⟨x1, t1, rfl, e1, g1⟩ := alS_dbl hs
  subst hl
  refine lv_dstore_n (lv' := _) hx hb hd hi hls hn rfl (fun ls1 hls1 => ?_)
  exact k d H locs ls1 _ _ hd0 hW hS hls1 ⟨⟨rfl, ⟨x1, rfl, e1⟩⟩, alL_filter (fun _ _ _ e => by dsimp only; rw [e]) hL⟩ g1
theorem g_dstore (C : Cx K l D ad dA z0 tt cc own nL R) {i : Nat} {x : UInt64} {lv' : List (Nat × Value)} (hd : decode cc pc = .ok (.dstore i, 2)) (hn : i + 1 < nL) (hl : (i, Value.double x) :: lv.filter (fun q => !(q.1 == i) && (!(q.1 == i + 1) && !(q.1 + 1 == i && q.2.category == 2))) = lv') (k : K σ φ (pc + 2) lv' st) : K σ φ pc lv (.double x :: st) := by
  obtain ⟨p, e, s, m, args, below, meth, c, Q, cells, slots, rfl, hx, hb, hml, hown, hts, hE, hcl, hsl⟩ := C
  intro d H locs ls l0 st0 hd0 hW hS hls hL hs
  obtain ⟨x1, t1, rfl, e1, g1⟩ := alS_dbl hs
  subst hl
  refine lv_dstore (lv' := _) hx hb hd hls hn rfl (fun ls1 hls1 => ?_)
  exact k d H locs ls1 _ _ hd0 hW hS hls1 ⟨⟨rfl, ⟨x1, rfl, e1⟩⟩, alL_filter (fun _ _ _ e => by dsimp only; rw [e]) hL⟩ g1
theorem g_lstore_n (C : Cx K l D ad dA z0 tt cc own nL R) {k0 : Fin 4} {i : Nat} {x : Int64} {lv' : List (Nat × Value)} (hd : decode cc pc = .ok (.lstore_n k0, 1)) (hi : (k0 : Nat) = i) (hn : i + 1 < nL) (hl : (i, Value.long x) :: lv.filter (fun q => !(q.1 == i) && (!(q.1 == i + 1) && !(q.1 + 1 == i && q.2.category == 2))) = lv') (k : K σ φ (pc + 1) lv' st) : K σ φ pc lv (.long x :: st) := by
  obtain ⟨p, e, s, m, args, below, meth, c, Q, cells, slots, rfl, hx, hb, hml, hown, hts, hE, hcl, hsl⟩ := C
  intro d H locs ls l0 st0 hd0 hW hS hls hL hs
  obtain ⟨t1, rfl, g1⟩ := alS_long hs
  subst hl
  refine lv_lstore_n (lv' := _) hx hb hd hi hls hn rfl (fun ls1 hls1 => ?_)
  exact k d H locs ls1 _ _ hd0 hW hS hls1 ⟨⟨rfl, rfl⟩, alL_filter (fun _ _ _ e => by dsimp only; rw [e]) hL⟩ g1
theorem g_lstore (C : Cx K l D ad dA z0 tt cc own nL R) {i : Nat} {x : Int64} {lv' : List (Nat × Value)} (hd : decode cc pc = .ok (.lstore i, 2)) (hn : i + 1 < nL) (hl : (i, Value.long x) :: lv.filter (fun q => !(q.1 == i) && (!(q.1 == i + 1) && !(q.1 + 1 == i && q.2.category == 2))) = lv') (k : K σ φ (pc + 2) lv' st) : K σ φ pc lv (.long x :: st) := by
  obtain ⟨p, e, s, m, args, below, meth, c, Q, cells, slots, rfl, hx, hb, hml, hown, hts, hE, hcl, hsl⟩ := C
  intro d H locs ls l0 st0 hd0 hW hS hls hL hs
  obtain ⟨t1, rfl, g1⟩ := alS_long hs
  subst hl
  refine lv_lstore (lv' := _) hx hb hd hls hn rfl (fun ls1 hls1 => ?_)
  exact k d H locs ls1 _ _ hd0 hW hS hls1 ⟨⟨rfl, rfl⟩, alL_filter (fun _ _ _ e => by dsimp only; rw [e]) hL⟩ g1
theorem g_iinc (C : Cx K l D ad dA z0 tt cc own nL R) {i : Nat} {n : Int} {x v : Int32} {lv' : List (Nat × Value)} (hd : decode cc pc = .ok (.iinc i n, 3)) (j : Nat) (hj : lv[j]? = some (i, .int x)) (hv : x + Int32.ofInt n = v) (hn : i < nL) (hl : (i, Value.int v) :: lv.filter (fun q => !(q.1 == i) && !(q.1 + 1 == i && q.2.category == 2)) = lv') (k : K σ φ (pc + 3) lv' st) : K σ φ pc lv st := by
  obtain ⟨p, e, s, m, args, below, meth, c, Q, cells, slots, rfl, hx, hb, hml, hown, hts, hE, hcl, hsl⟩ := C
  intro d H locs ls l0 st0 hd0 hW hS hls hL hs
  obtain ⟨v0, hv0, ev⟩ := alL_at j hL hj
  cases (ev : v0 = .int x)
  subst hl
  refine lv_iinc (lv' := _) hx hb hd hls (k := j) hv0 hv hn rfl (fun ls1 hls1 => ?_)
  exact k d H locs ls1 _ _ hd0 hW hS hls1 ⟨⟨rfl, rfl⟩, alL_filter (fun _ _ _ e => by dsimp only; rw [e]) hL⟩ hs
/-- the locals in another order, or fewer -/
theorem g_loc (C : Cx K l D ad dA z0 tt cc own nL R) {lv' : List (Nat × Value)} (ks : List Nat) (hl : lv_pick lv ks = lv') (k : K σ φ pc lv' st) : K σ φ pc lv st := by
  obtain ⟨p, e, s, m, args, below, meth, c, Q, cells, slots, rfl, hx, hb, hml, hown, hts, hE, hcl, hsl⟩ := C
  intro d H locs ls l0 st0 hd0 hW hS hls hL hs
  subst hl
  exact k d H locs ls _ _ hd0 hW hS (lv_sub hls ks rfl) (alL_pick hL ks) hs
theorem g_dup (C : Cx K l D ad dA z0 tt cc own nL R) {v : Value} (hd : decode cc pc = .ok (.dup, 1)) (hv : v.category = 1) (k : K σ φ (pc + 1) lv (v :: v :: st)) : K σ φ pc lv (v :: st) := by
  obtain ⟨p, e, s, m, args, below, meth, c, Q, cells, slots, rfl, hx, hb, hml, hown, hts, hE, hcl, hsl⟩ := C
  intro d H locs ls l0 st0 hd0 hW hS hls hL hs
  obtain ⟨x1, t1, rfl, e1, g1⟩ := alS_cons hs
  exact lv_dup hx hb hd ((alV_cat e1).trans hv) (k d H locs ls l0 _ hd0 hW hS hls hL ⟨e1, e1, g1⟩)
theorem g_pop (C : Cx K l D ad dA z0 tt cc own nL R) {v : Value} (hd : decode cc pc = .ok (.pop, 1)) (hv : v.category = 1) (k : K σ φ (pc + 1) lv st) : K σ φ pc lv (v :: st) := by
  obtain ⟨p, e, s, m, args, below, meth, c, Q, cells, slots, rfl, hx, hb, hml, hown, hts, hE, hcl, hsl⟩ := C
  intro d H locs ls l0 st0 hd0 hW hS hls hL hs
  obtain ⟨x1, t1, rfl, e1, g1⟩ := alS_cons hs
  exact lv_pop hx hb hd ((alV_cat e1).trans hv) (k d H locs ls l0 _ hd0 hW hS hls hL g1)
theorem g_dup2 (C : Cx K l D ad dA z0 tt cc own nL R) {v u : Value} (hd : decode cc pc = .ok (.dup2, 1)) (hv : v.category = 1) (hu : u.category = 1) (k : K σ φ (pc + 1) lv (v :: u :: v :: u :: st)) : K σ φ pc lv (v :: u :: st) := by
  obtain ⟨p, e, s, m, args, below, meth, c, Q, cells, slots, rfl, hx, hb, hml, hown, hts, hE, hcl, hsl⟩ := C
  intro d H locs ls l0 st0 hd0 hW hS hls hL hs
  obtain ⟨x1, t1, rfl, e1, g1⟩ := alS_cons hs
  obtain ⟨x2, t2, rfl, e2, g2⟩ := alS_cons g1
  exact lv_dup2_11 hx hb hd ((alV_cat e1).trans hv) ((alV_cat e2).trans hu) (k d H locs ls l0 _ hd0 hW hS hls hL ⟨e1, e2, e1, e2, g2⟩)
theorem g_if_eq (C : Cx K l D ad dA z0 tt cc own nL R) {x : Int32} {off : Int} {tgt : Nat} (hd : decode cc pc = .ok (.ifCond .eq off, 3)) (ht : (pc : Int) + off = (tgt : Int)) (kt : x = 0 → K σ φ tgt lv st) (kf : ¬ x = 0 → K σ φ (pc + 3) lv st) : K σ φ pc lv (.int x :: st) := by
  obtain ⟨p, e, s, m, args, below, meth, c, Q, cells, slots, rfl, hx, hb, hml, hown, hts, hE, hcl, hsl⟩ := C
  intro d H locs ls l0 st0 hd0 hW hS hls hL hs
  obtain ⟨t1, rfl, g1⟩ := alS_int hs
  exact lv_if_eq hx hb hd ht (fun h => kt h d H locs ls l0 _ hd0 hW hS hls hL g1) (fun h => kf h d H locs ls l0 _ hd0 hW hS hls hL g1)
theorem g_icmp_eq (C : Cx K l D ad dA z0 tt cc own nL R) {x y : Int32} {off : Int} {tgt : Nat} (hd : decode cc pc = .ok (.if_icmp .eq off, 3)) (ht : (pc : Int) + off = (tgt : Int)) (kt : x = y → K σ φ tgt lv st) (kf : ¬ x = y → K σ φ (pc + 3) lv st) : K σ φ pc lv (.int y :: .int x :: st) := by
  obtain ⟨p, e, s, m, args, below, meth, c, Q, cells, slots, rfl, hx, hb, hml, hown, hts, hE, hcl, hsl⟩ := C
  intro d H locs ls l0 st0 hd0 hW hS hls hL hs
  obtain ⟨t1, rfl, g1⟩ := alS_int hs
  obtain ⟨t2, rfl, g2⟩ := alS_int g1
  exact lv_icmp_eq hx hb hd ht (fun h => kt h d H locs ls l0 _ hd0 hW hS hls hL g2) (fun h => kf h d H locs ls l0 _ hd0 hW hS hls hL g2)
theorem g_if_lt (C : Cx K l D ad dA z0 tt cc own nL R) {x : Int32} {off : Int} {tgt : Nat} (hd : decode cc pc = .ok (.ifCond .lt off, 3)) (ht : (pc : Int) + off = (tgt : Int)) (kt : x < 0 → K σ φ tgt lv st) (kf : ¬ x < 0 → K σ φ (pc + 3) lv st) : K σ φ pc lv (.int x :: st) := by
  obtain ⟨p, e, s, m, args, below, meth, c, Q, cells, slots, rfl, hx, hb, hml, hown, hts, hE, hcl, hsl⟩ := C
  intro d H locs ls l0 st0 hd0 hW hS hls hL hs
  obtain ⟨t1, rfl, g1⟩ := alS_int hs
  exact lv_if_lt hx hb hd ht (fun h => kt h d H locs ls l0 _ hd0 hW hS hls hL g1) (fun h => kf h d H locs ls l0 _ hd0 hW hS hls hL g1)
theorem g_icmp_lt (C : Cx K l D ad dA z0 tt cc own nL R) {x y : Int32} {off : Int} {tgt : Nat} (hd : decode cc pc = .ok (.if_icmp .lt off, 3)) (ht : (pc : Int) + off = (tgt : Int)) (kt : x < y → K σ φ tgt lv st) (kf : ¬ x < y → K σ φ (pc + 3) lv st) : K σ φ pc lv (.int y :: .int x :: st) := by
  obtain ⟨p, e, s, m, args, below, meth, c, Q, cells, slots, rfl, hx, hb, hml, hown, hts, hE, hcl, hsl⟩ := C
  intro d H locs ls l0 st0 hd0 hW hS hls hL hs
  obtain ⟨t1, rfl, g1⟩ := alS_int hs
  obtain ⟨t2, rfl, g2⟩ := alS_int g1
  exact lv_icmp_lt hx hb hd ht (fun h => kt h d H locs ls l0 _ hd0 hW hS hls hL g2) (fun h => kf h d H locs ls l0 _ hd0 hW hS hls hL g2)
theorem g_if_ge (C : Cx K l D ad dA z0 tt cc own nL R) {x : Int32} {off : Int} {tgt : Nat} (hd : decode cc pc = .ok (.ifCond .ge off, 3)) (ht : (pc : Int) + off = (tgt : Int)) (kt : 0 ≤ x → K σ φ tgt lv st) (kf : ¬ 0 ≤ x → K σ φ (pc + 3) lv st) : K σ φ pc lv (.int x :: st) := by
  obtain ⟨p, e, s, m, args, below, meth, c, Q, cells, slots, rfl, hx, hb, hml, hown, hts, hE, hcl, hsl⟩ := C
  intro d H locs ls l0 st0 hd0 hW hS hls hL hs
  obtain ⟨t1, rfl, g1⟩ := alS_int hs
  exact lv_if_ge hx hb hd ht (fun h => kt h d H locs ls l0 _ hd0 hW hS hls hL g1) (fun h => kf h d H locs ls l0 _ hd0 hW hS hls hL g1)
theorem g_icmp_ge (C : Cx K l D ad dA z0 tt cc own nL R) {x y : Int32} {off : Int} {tgt : Nat} (hd : decode cc pc = .ok (.if_icmp .ge off, 3)) (ht : (pc : Int) + off = (tgt : Int)) (kt : y ≤ x → K σ φ tgt lv st) (kf : ¬ y ≤ x → K σ φ (pc + 3) lv st) : K σ φ pc lv (.int y :: .int x :: st) := by
  obtain ⟨p, e, s, m, args, below, meth, c, Q, cells, slots, rfl, hx, hb, hml, hown, hts, hE, hcl, hsl⟩ := C
  intro d H locs ls l0 st0 hd0 hW hS hls hL hs
  obtain ⟨t1, rfl, g1⟩ := alS_int hs
  obtain ⟨t2, rfl, g2⟩ := alS_int g1
  exact lv_icmp_ge hx hb hd ht (fun h => kt h d H locs ls l0 _ hd0 hW hS hls hL g2) (fun h => kf h d H locs ls l0 _ hd0 hW hS hls hL g2)
theorem g_if_gt (C : Cx K l D ad dA z0 tt cc own nL R) {x : Int32} {off : Int} {tgt : Nat} (hd : decode cc pc = .ok (.ifCond .gt off, 3)) (ht : (pc : Int) + off = (tgt : Int)) (kt : 0 < x → K σ φ tgt lv st) (kf : ¬ 0 < x → K σ φ (pc + 3) lv st) : K σ φ pc lv (.int x :: st) := by
  obtain ⟨p, e, s, m, args, below, meth, c, Q, cells, slots, rfl, hx, hb, hml, hown, hts, hE, hcl, hsl⟩ := C
  intro d H locs ls l0 st0 hd0 hW hS hls hL hs
  obtain ⟨t1, rfl, g1⟩ := alS_int hs
  exact lv_if_gt hx hb hd ht (fun h => kt h d H locs ls l0 _ hd0 hW hS hls hL g1) (fun h => kf h d H locs ls l0 _ hd0 hW hS hls hL g1)
theorem g_icmp_gt (C : Cx K l D ad dA z0 tt cc own nL R) {x y : Int32} {off : Int} {tgt : Nat} (hd : decode cc pc = .ok (.if_icmp .gt off, 3)) (ht : (pc : Int) + off = (tgt : Int)) (kt : y < x → K σ φ tgt lv st) (kf : ¬ y < x → K σ φ (pc + 3) lv st) : K σ φ pc lv (.int y :: .int x :: st) := by
  obtain ⟨p, e, s, m, args, below, meth, c, Q, cells, slots, rfl, hx, hb, hml, hown, hts, hE, hcl, hsl⟩ := C
  intro d H locs ls l0 st0 hd0 hW hS hls hL hs
  obtain ⟨t1, rfl, g1⟩ := alS_int hs
  obtain ⟨t2, rfl, g2⟩ := alS_int g1
  exact lv_icmp_gt hx hb hd ht (fun h => kt h d H locs ls l0 _ hd0 hW hS hls hL g2) (fun h => kf h d H locs ls l0 _ hd0 hW hS hls hL g2)
theorem g_if_le (C : Cx K l D ad dA z0 tt cc own nL R) {x : Int32} {off : Int} {tgt : Nat} (hd : decode cc pc = .ok (.ifCond .le off, 3)) (ht : (pc : Int) + off = (tgt : Int)) (kt : x ≤ 0 → K σ φ tgt lv st) (kf : ¬ x ≤ 0 → K σ φ (pc + 3) lv st) : K σ φ pc lv (.int x :: st) := by
  obtain ⟨p, e, s, m, args, below, meth, c, Q, cells, slots, rfl, hx, hb, hml, hown, hts, hE, hcl, hsl⟩ := C
  intro d H locs ls l0 st0 hd0 hW hS hls hL hs
  obtain ⟨t1, rfl, g1⟩ := alS_int hs
  exact lv_if_le hx hb hd ht (fun h => kt h d H locs ls l0 _ hd0 hW hS hls hL g1) (fun h => kf h d H locs ls l0 _ hd0 hW hS hls hL g1)
theorem g_icmp_le (C : Cx K l D ad dA z0 tt cc own nL R) {x y : Int32} {off : Int} {tgt : Nat} (hd : decode cc pc = .ok (.if_icmp .le off, 3)) (ht : (pc : Int) + off = (tgt : Int)) (kt : x ≤ y → K σ φ tgt lv st) (kf : ¬ x ≤ y → K σ φ (pc + 3) lv st) : K σ φ pc lv (.int y :: .int x :: st) := by
  obtain ⟨p, e, s, m, args, below, meth, c, Q, cells, slots, rfl, hx, hb, hml, hown, hts, hE, hcl, hsl⟩ := C
  intro d H locs ls l0 st0 hd0 hW hS hls hL hs
  obtain ⟨t1, rfl, g1⟩ := alS_int hs
  obtain ⟨t2, rfl, g2⟩ := alS_int g1
  exact lv_icmp_le hx hb hd ht (fun h => kt h d H locs ls l0 _ hd0 hW hS hls hL g2) (fun h => kf h d H locs ls l0 _ hd0 hW hS hls hL g2)
theorem g_if_ne (C : Cx K l D ad dA z0 tt cc own nL R) {x : Int32} {off : Int} {tgt : Nat} (hd : decode cc pc = .ok (.ifCond .ne off, 3)) (ht : (pc : Int) + off = (tgt : Int)) (kt : ¬ x = 0 → K σ φ tgt lv st) (kf : x = 0 → K σ φ (pc + 3) lv st) : K σ φ pc lv (.int x :: st) := by
  obtain ⟨p, e, s, m, args, below, meth, c, Q, cells, slots, rfl, hx, hb, hml, hown, hts, hE, hcl, hsl⟩ := C
  intro d H locs ls l0 st0 hd0 hW hS hls hL hs
  obtain ⟨t1, rfl, g1⟩ := alS_int hs
  exact lv_if_ne hx hb hd ht (fun h => kt h d H locs ls l0 _ hd0 hW hS hls hL g1) (fun h => kf h d H locs ls l0 _ hd0 hW hS hls hL g1)
theorem g_icmp_ne (C : Cx K l D ad dA z0 tt cc own nL R) {x y : Int32} {off : Int} {tgt : Nat} (hd : decode cc pc = .ok (.if_icmp .ne off, 3)) (ht : (pc : Int) + off = (tgt : Int)) (kt : ¬ x = y → K σ φ tgt lv st) (kf : x = y → K σ φ (pc + 3) lv st) : K σ φ pc lv (.int y :: .int x :: st) := by
  obtain ⟨p, e, s, m, args, below, meth, c, Q, cells, slots, rfl, hx, hb, hml, hown, hts, hE, hcl, hsl⟩ := C
  intro d H locs ls l0 st0 hd0 hW hS hls hL hs
  obtain ⟨t1, rfl, g1⟩ := alS_int hs
  obtain ⟨t2, rfl, g2⟩ := alS_int g1
  exact lv_icmp_ne hx hb hd ht (fun h => kt h d H locs ls l0 _ hd0 hW hS hls hL g2) (fun h => kf h d H locs ls l0 _ hd0 hW hS hls hL g2)
theorem g_goto (C : Cx K l D ad dA z0 tt cc own nL R) {off : Int} {tgt : Nat} (hd : decode cc pc = .ok (.goto off, 3)) (ht : (pc : Int) + off = (tgt : Int)) (k : K σ φ tgt lv st) : K σ φ pc lv st := by
  obtain ⟨p, e, s, m, args, below, meth, c, Q, cells, slots, rfl, hx, hb, hml, hown, hts, hE, hcl, hsl⟩ := C
  intro d H locs ls l0 st0 hd0 hW hS hls hL hs
  exact lv_goto hx hb hd ht (k d H locs ls l0 _ hd0 hW hS hls hL hs)
theorem g_tableIn (C : Cx K l D ad dA z0 tt cc own nL R) {dflt lo hi : Int} {offs : Array Int} {len : Nat} {x : Int32} {off : Int} {tgt : Nat} (hd : decode cc pc = .ok (.tableswitch dflt lo hi offs, len)) (h1 : ¬ x.toInt < lo) (h2 : ¬ hi < x.toInt) (ho : offs[(x.toInt - lo).toNat]? = some off) (ht : (pc : Int) + off = (tgt : Int)) (k : K σ φ tgt lv st) : K σ φ pc lv (.int x :: st) := by
  obtain ⟨p, e, s, m, args, below, meth, c, Q, cells, slots, rfl, hx, hb, hml, hown, hts, hE, hcl, hsl⟩ := C
  intro d H locs ls l0 st0 hd0 hW hS hls hL hs
  obtain ⟨t1, rfl, g1⟩ := alS_int hs
  exact lv_tableIn hx hb hd h1 h2 ho ht (k d H locs ls l0 _ hd0 hW hS hls hL g1)
theorem g_tableOut (C : Cx K l D ad dA z0 tt cc own nL R) {dflt lo hi : Int} {offs : Array Int} {len : Nat} {x : Int32} {tgt : Nat} (hd : decode cc pc = .ok (.tableswitch dflt lo hi offs, len)) (h : x.toInt < lo ∨ hi < x.toInt) (ht : (pc : Int) + dflt = (tgt : Int)) (k : K σ φ tgt lv st) : K σ φ pc lv (.int x :: st) := by
  obtain ⟨p, e, s, m, args, below, meth, c, Q, cells, slots, rfl, hx, hb, hml, hown, hts, hE, hcl, hsl⟩ := C
  intro d H locs ls l0 st0 hd0 hW hS hls hL hs
  obtain ⟨t1, rfl, g1⟩ := alS_int hs
  exact lv_tableOut hx hb hd h ht (k d H locs ls l0 _ hd0 hW hS hls hL g1)
theorem g_get (C : Cx K l D ad dA z0 tt cc own nL R) {Cn ref : String} {T : u_T} {N ci index a : Nat} (hin : ∀ w ∈ u_ws Cn T N, w ∈ lw_all) (q0 : Nat) {fs : List Value} (he : ∀ φ0 : Fl, (wJ ad dA σ φ0)[q0]? = some (a, .inr (ci, fs))) (hc : vwCl[ci]? = some (Cn, T, N)) (k : Nat) (hk : k < N) (hlink : Cond.fieldLink own index ref (T k).2.1 (T k).2.2.1 ∈ lw_all) (hsame : ref = (T k).1) {v : Value} (hv : fs[k]? = some v) (hd : decode cc pc = .ok (.getfield index, 3)) (k2 : K σ φ (pc + 3) lv (v :: st)) : K σ φ pc lv (.ref a :: st) := by
  obtain ⟨p, e, s, m, args, below, meth, c, Q, cells, slots, rfl, hx, hb, hml, hown, hts, hE, hcl, hsl⟩ := C
  intro d H locs ls l0 st0 hd0 hW hS hls hL hs
  obtain ⟨t1, rfl, g1⟩ := alS_ref hs
  obtain ⟨φ0, hφ, hP⟩ := hW
  subst hsame
  exact va_get (s := s.setDrawn d) (D := D) (ci := ci) hx hb (dr_words hts d) hin hown hE.1 hP q0 (he φ0) hc k hk (dr_words hts d _ hlink) (fun _ h => h) hv hd (k2 d H locs ls l0 _ hd0 ⟨φ0, hφ, hP⟩ hS hls hL ⟨alV_rf v, g1⟩)
theorem g_put (C : Cx K l D ad dA z0 tt cc own nL R) {Cn ref : String} {T : u_T} {N ci index a : Nat} (hin : ∀ w ∈ u_ws Cn T N, w ∈ lw_all) (ty0 : Nat → FieldType) (hty : ∀ k, k < N → parseFieldDescriptor (T k).2.2.1 = some (ty0 k)) (hnm : ∀ a, a < N → ∀ b, b < N → a ≠ b → (T a).2.1 ≠ (T b).2.1) (q0 : Nat) {fs : List Value} (he : ∀ φ0 : Fl, (wJ ad dA σ φ0)[q0]? = some (a, .inr (ci, fs))) (hc : vwCl[ci]? = some (Cn, T, N)) (k : Nat) (hk : k < N) (hlink : Cond.fieldLink own index ref (T k).2.1 (T k).2.2.1 ∈ lw_all) (hsame : ref = (T k).1) (hfin : (T k).2.2.2 = false) {ty : FieldType} {x : Int32} (hd2 : parseFieldDescriptor (T k).2.2.1 = some ty) (hn : narrow ty (.int x) = .int x) (hfit : fits ty (.int x) = true) (hl : k < fs.length) {σ1 : Sg} (he2 : ∀ φ0 : Fl, (wJ ad dA σ φ0).set q0 (a, .inr (ci, fs.set k (.int x))) = wJ ad dA σ1 φ0) (hd : decode cc pc = .ok (.putfield index, 3)) (k2 : K σ1 φ (pc + 3) lv st) : K σ φ pc lv (.int x :: .ref a :: st) := by
  obtain ⟨p, e, s, m, args, below, meth, c, Q, cells, slots, rfl, hx, hb, hml, hown, hts, hE, hcl, hsl⟩ := C
  intro d H locs ls l0 st0 hd0 hW hS hls hL hs
  obtain ⟨t1, rfl, g1⟩ := alS_int hs
  obtain ⟨t2, rfl, g2⟩ := alS_ref g1
  obtain ⟨φ0, hφ, hP⟩ := hW
  subst hsame
  refine va_put (s := s.setDrawn d) (D := D) (ci := ci) (ty := ty) hx hb (dr_words hts d) hin ty0 hty hnm hown hE.1 hP (hE.2.2.2.2 σ φ0) hS q0 (he φ0) hc k hk (dr_words hts d _ hlink) (fun _ h => h) hfin hd2 hn hfit hl hd (fun H1 locs1 hP1 hD1 hS1 => ?_)
  rw [he2] at hP1
  exact k2 d H1 locs1 ls l0 _ hd0 ⟨φ0, hφ, hP1⟩ hS1 hls hL g2
theorem g_getN (C : Cx K l D ad dA z0 tt cc own nL R) {Cn ref : String} {host : String} {T : u_T} {N ci index a : Nat} (hin : ∀ w ∈ u_ws Cn T N, w ∈ lw_all) (q0 : Nat) {fs : List Value} (he : ∀ φ0 : Fl, (wJ ad dA σ φ0)[q0]? = some (a, .inr (ci, fs))) (hc : vwCl[ci]? = some (Cn, T, N)) (k : Nat) (hk : k < N) (hlink : Cond.fieldLinkNest own index ref (T k).2.1 (T k).2.2.1 host ∈ lw_nest) (hsame : ref = (T k).1) {v : Value} (hv : fs[k]? = some v) (hd : decode cc pc = .ok (.getfield index, 3)) (k2 : K σ φ (pc + 3) lv (v :: st)) : K σ φ pc lv (.ref a :: st) := by
  obtain ⟨p, e, s, m, args, below, meth, c, Q, cells, slots, rfl, hx, hb, hml, hown, hts, hE, hcl, hsl⟩ := C
  intro d H locs ls l0 st0 hd0 hW hS hls hL hs
  obtain ⟨t1, rfl, g1⟩ := alS_ref hs
  obtain ⟨φ0, hφ, hP⟩ := hW
  subst hsame
  exact va_getN (s := s.setDrawn d) (D := D) (ci := ci) hx hb (dr_words hts d) hin hown hE.1 hP q0 (he φ0) hc k hk (nest_at hE.2.1 hlink rfl d) (fun _ h => h) hv hd (k2 d H locs ls l0 _ hd0 ⟨φ0, hφ, hP⟩ hS hls hL ⟨alV_rf v, g1⟩)
theorem g_putN (C : Cx K l D ad dA z0 tt cc own nL R) {Cn ref : String} {host : String} {T : u_T} {N ci index a : Nat} (hin : ∀ w ∈ u_ws Cn T N, w ∈ lw_all) (ty0 : Nat → FieldType) (hty : ∀ k, k < N → parseFieldDescriptor (T k).2.2.1 = some (ty0 k)) (hnm : ∀ a, a < N → ∀ b, b < N → a ≠ b → (T a).2.1 ≠ (T b).2.1) (q0 : Nat) {fs : List Value} (he : ∀ φ0 : Fl, (wJ ad dA σ φ0)[q0]? = some (a, .inr (ci, fs))) (hc : vwCl[ci]? = some (Cn, T, N)) (k : Nat) (hk : k < N) (hlink : Cond.fieldLinkNest own index ref (T k).2.1 (T k).2.2.1 host ∈ lw_nest) (hsame : ref = (T k).1) (hfin : (T k).2.2.2 = false) {ty : FieldType} {x : Int32} (hd2 : parseFieldDescriptor (T k).2.2.1 = some ty) (hn : narrow ty (.int x) = .int x) (hfit : fits ty (.int x) = true) (hl : k < fs.length) {σ1 : Sg} (he2 : ∀ φ0 : Fl, (wJ ad dA σ φ0).set q0 (a, .inr (ci, fs.set k (.int x))) = wJ ad dA σ1 φ0) (hd : decode cc pc = .ok (.putfield index, 3)) (k2 : K σ1 φ (pc + 3) lv st) : K σ φ pc lv (.int x :: .ref a :: st) := by
  obtain ⟨p, e, s, m, args, below, meth, c, Q, cells, slots, rfl, hx, hb, hml, hown, hts, hE, hcl, hsl⟩ := C
  intro d H locs ls l0 st0 hd0 hW hS hls hL hs
  obtain ⟨t1, rfl, g1⟩ := alS_int hs
  obtain ⟨t2, rfl, g2⟩ := alS_ref g1
  obtain ⟨φ0, hφ, hP⟩ := hW
  subst hsame
  refine va_putN (s := s.setDrawn d) (D := D) (ci := ci) (ty := ty) hx hb (dr_words hts d) hin ty0 hty hnm hown hE.1 hP (hE.2.2.2.2 σ φ0) hS q0 (he φ0) hc k hk (nest_at hE.2.1 hlink rfl d) (fun _ h => h) hfin hd2 hn hfit hl hd (fun H1 locs1 hP1 hD1 hS1 => ?_)
  rw [he2] at hP1
  exact k2 d H1 locs1 ls l0 _ hd0 ⟨φ0, hφ, hP1⟩ hS1 hls hL g2
theorem g_iald (C : Cx K l D ad dA z0 tt cc own nL R) {a n : Nat} {f : Nat → Int32} (q0 : Nat) (he : ∀ φ0 : Fl, (wJ ad dA σ φ0)[q0]? = some (a, .inl (dA 0, n, .inl f))) {i : Int32} (hin : vp_in i n) (hd : decode cc pc = .ok (.iaload, 1)) (k : K σ φ (pc + 1) lv (.int (f i.toNatClampNeg) :: st)) : K σ φ pc lv (.int i :: .ref a :: st) := by
  obtain ⟨p, e, s, m, args, below, meth, c, Q, cells, slots, rfl, hx, hb, hml, hown, hts, hE, hcl, hsl⟩ := C
  intro d H locs ls l0 st0 hd0 hW hS hls hL hs
  obtain ⟨t1, rfl, g1⟩ := alS_int hs
  obtain ⟨t2, rfl, g2⟩ := alS_ref g1
  obtain ⟨φ0, hφ, hP⟩ := hW
  exact va_iald (s := s.setDrawn d) hx hb hE.1 hP q0 0 (he φ0) rfl hin hd (k d H locs ls l0 _ hd0 ⟨φ0, hφ, hP⟩ hS hls hL ⟨rfl, g2⟩)
theorem g_zald (C : Cx K l D ad dA z0 tt cc own nL R) {a n : Nat} {f : Nat → Int32} (q0 : Nat) (he : ∀ φ0 : Fl, (wJ ad dA σ φ0)[q0]? = some (a, .inl (dA 1, n, .inl f))) {i : Int32} (hin : vp_in i n) (hd : decode cc pc = .ok (.baload, 1)) (k : K σ φ (pc + 1) lv (.int (f i.toNatClampNeg) :: st)) : K σ φ pc lv (.int i :: .ref a :: st) := by
  obtain ⟨p, e, s, m, args, below, meth, c, Q, cells, slots, rfl, hx, hb, hml, hown, hts, hE, hcl, hsl⟩ := C
  intro d H locs ls l0 st0 hd0 hW hS hls hL hs
  obtain ⟨t1, rfl, g1⟩ := alS_int hs
  obtain ⟨t2, rfl, g2⟩ := alS_ref g1
  obtain ⟨φ0, hφ, hP⟩ := hW
  exact va_zald (s := s.setDrawn d) hx hb hE.1 hP q0 1 (he φ0) rfl hin hd (k d H locs ls l0 _ hd0 ⟨φ0, hφ, hP⟩ hS hls hL ⟨rfl, g2⟩)
theorem g_cald (C : Cx K l D ad dA z0 tt cc own nL R) {a n : Nat} {f : Nat → Int32} (q0 : Nat) (he : ∀ φ0 : Fl, (wJ ad dA σ φ0)[q0]? = some (a, .inl (dA 2, n, .inl f))) {i : Int32} (hin : vp_in i n) (hd : decode cc pc = .ok (.caload, 1)) (k : K σ φ (pc + 1) lv (.int (f i.toNatClampNeg) :: st)) : K σ φ pc lv (.int i :: .ref a :: st) := by
  obtain ⟨p, e, s, m, args, below, meth, c, Q, cells, slots, rfl, hx, hb, hml, hown, hts, hE, hcl, hsl⟩ := C
  intro d H locs ls l0 st0 hd0 hW hS hls hL hs
  obtain ⟨t1, rfl, g1⟩ := alS_int hs
  obtain ⟨t2, rfl, g2⟩ := alS_ref g1
  obtain ⟨φ0, hφ, hP⟩ := hW
  exact va_cald (s := s.setDrawn d) hx hb hE.1 hP q0 2 (he φ0) rfl hin hd (k d H locs ls l0 _ hd0 ⟨φ0, hφ, hP⟩ hS hls hL ⟨rfl, g2⟩)
theorem g_fald (C : Cx K l D ad dA z0 tt cc own nL R) {a n : Nat} (q0 : Nat) (he : ∀ φ0 : Fl, (wJ ad dA σ φ0)[q0]? = some (a, .inl (dA 3, n, .inr (.inr (.inl (φ0 q0)))))) {i : Int32} (hin : vp_in i n) (hd : decode cc pc = .ok (.faload, 1)) (k : K σ φ (pc + 1) lv (.float (φ q0 i.toNatClampNeg) :: st)) : K σ φ pc lv (.int i :: .ref a :: st) := by
  obtain ⟨p, e, s, m, args, below, meth, c, Q, cells, slots, rfl, hx, hb, hml, hown, hts, hE, hcl, hsl⟩ := C
  intro d H locs ls l0 st0 hd0 hW hS hls hL hs
  obtain ⟨t1, rfl, g1⟩ := alS_int hs
  obtain ⟨t2, rfl, g2⟩ := alS_ref g1
  obtain ⟨φ0, hφ, hP⟩ := hW
  exact va_fald (s := s.setDrawn d) hx hb hE.1 hP q0 3 (he φ0) rfl hin hd (k d H locs ls l0 _ hd0 ⟨φ0, hφ, hP⟩ hS hls hL ⟨⟨_, rfl, hφ q0 _⟩, g2⟩)
theorem g_iast (C : Cx K l D ad dA z0 tt cc own nL R) {a n : Nat} {f : Nat → Int32} (q0 : Nat) (he : ∀ φ0 : Fl, (wJ ad dA σ φ0)[q0]? = some (a, .inl (dA 0, n, .inl f))) {i x : Int32} (hin : vp_in i n) {σ1 : Sg} (he2 : ∀ φ0 : Fl, (wJ ad dA σ φ0).set q0 (a, .inl (dA 0, n, .inl (upd f i.toNatClampNeg x))) = wJ ad dA σ1 φ0) (hd : decode cc pc = .ok (.iastore, 1)) (k : K σ1 φ (pc + 1) lv st) : K σ φ pc lv (.int x :: .int i :: .ref a :: st) := by
  obtain ⟨p, e, s, m, args, below, meth, c, Q, cells, slots, rfl, hx, hb, hml, hown, hts, hE, hcl, hsl⟩ := C
  intro d H locs ls l0 st0 hd0 hW hS hls hL hs
  obtain ⟨t1, rfl, g1⟩ := alS_int hs
  obtain ⟨t2, rfl, g2⟩ := alS_int g1
  obtain ⟨t3, rfl, g3⟩ := alS_ref g2
  obtain ⟨φ0, hφ, hP⟩ := hW
  refine va_iast (s := s.setDrawn d) hx hb hE.1 hP (hE.2.2.2.2 σ φ0) hS q0 0 (he φ0) rfl hin hd (fun H1 locs1 hP1 hD1 hS1 => ?_)
  rw [he2] at hP1
  exact k d H1 locs1 ls l0 _ hd0 ⟨φ0, hφ, hP1⟩ hS1 hls hL g3
theorem g_zast (C : Cx K l D ad dA z0 tt cc own nL R) {a n : Nat} {f : Nat → Int32} (q0 : Nat) (he : ∀ φ0 : Fl, (wJ ad dA σ φ0)[q0]? = some (a, .inl (dA 1, n, .inl f))) {i x : Int32} (hin : vp_in i n) {σ1 : Sg} (he2 : ∀ φ0 : Fl, (wJ ad dA σ φ0).set q0 (a, .inl (dA 1, n, .inl (upd f i.toNatClampNeg (vp_nar .boolean x)))) = wJ ad dA σ1 φ0) (hd : decode cc pc = .ok (.bastore, 1)) (k : K σ1 φ (pc + 1) lv st) : K σ φ pc lv (.int x :: .int i :: .ref a :: st) := by
  obtain ⟨p, e, s, m, args, below, meth, c, Q, cells, slots, rfl, hx, hb, hml, hown, hts, hE, hcl, hsl⟩ := C
  intro d H locs ls l0 st0 hd0 hW hS hls hL hs
  obtain ⟨t1, rfl, g1⟩ := alS_int hs
  obtain ⟨t2, rfl, g2⟩ := alS_int g1
  obtain ⟨t3, rfl, g3⟩ := alS_ref g2
  obtain ⟨φ0, hφ, hP⟩ := hW
  refine va_zast (s := s.setDrawn d) hx hb hE.1 hP (hE.2.2.2.2 σ φ0) hS q0 1 (he φ0) rfl hin hd (fun H1 locs1 hP1 hD1 hS1 => ?_)
  rw [he2] at hP1
  exact k d H1 locs1 ls l0 _ hd0 ⟨φ0, hφ, hP1⟩ hS1 hls hL g3
theorem g_cast (C : Cx K l D ad dA z0 tt cc own nL R) {a n : Nat} {f : Nat → Int32} (q0 : Nat) (he : ∀ φ0 : Fl, (wJ ad dA σ φ0)[q0]? = some (a, .inl (dA 2, n, .inl f))) {i x : Int32} (hin : vp_in i n) {σ1 : Sg} (he2 : ∀ φ0 : Fl, (wJ ad dA σ φ0).set q0 (a, .inl (dA 2, n, .inl (upd f i.toNatClampNeg (vp_nar .char x)))) = wJ ad dA σ1 φ0) (hd : decode cc pc = .ok (.castore, 1)) (k : K σ1 φ (pc + 1) lv st) : K σ φ pc lv (.int x :: .int i :: .ref a :: st) := by
  obtain ⟨p, e, s, m, args, below, meth, c, Q, cells, slots, rfl, hx, hb, hml, hown, hts, hE, hcl, hsl⟩ := C
  intro d H locs ls l0 st0 hd0 hW hS hls hL hs
  obtain ⟨t1, rfl, g1⟩ := alS_int hs
  obtain ⟨t2, rfl, g2⟩ := alS_int g1
  obtain ⟨t3, rfl, g3⟩ := alS_ref g2
  obtain ⟨φ0, hφ, hP⟩ := hW
  refine va_cast (s := s.setDrawn d) hx hb hE.1 hP (hE.2.2.2.2 σ φ0) hS q0 2 (he φ0) rfl hin hd (fun H1 locs1 hP1 hD1 hS1 => ?_)
  rw [he2] at hP1
  exact k d H1 locs1 ls l0 _ hd0 ⟨φ0, hφ, hP1⟩ hS1 hls hL g3
theorem g_fast (C : Cx K l D ad dA z0 tt cc own nL R) {a n : Nat} (q0 : Nat) (he : ∀ φ0 : Fl, (wJ ad dA σ φ0)[q0]? = some (a, .inl (dA 3, n, .inr (.inr (.inl (φ0 q0)))))) {i : Int32} {x : UInt32} (hin : vp_in i n) (he2 : ∀ (φ0 : Fl) (g : Nat → UInt32), (wJ ad dA σ φ0).set q0 (a, .inl (dA 3, n, .inr (.inr (.inl g)))) = wJ ad dA σ (va_up φ0 q0 g)) (hd : decode cc pc = .ok (.fastore, 1)) (k : K σ (va_up φ q0 (vf_upd (φ q0) i.toNatClampNeg x)) (pc + 1) lv st) : K σ φ pc lv (.float x :: .int i :: .ref a :: st) := by
  obtain ⟨p, e, s, m, args, below, meth, c, Q, cells, slots, rfl, hx, hb, hml, hown, hts, hE, hcl, hsl⟩ := C
  intro d H locs ls l0 st0 hd0 hW hS hls hL hs
  obtain ⟨x1, t1, rfl, e1, g1⟩ := alS_flt hs
  obtain ⟨t2, rfl, g2⟩ := alS_int g1
  obtain ⟨t3, rfl, g3⟩ := alS_ref g2
  obtain ⟨φ0, hφ, hP⟩ := hW
  refine va_fast (s := s.setDrawn d) hx hb hE.1 hP (hE.2.2.2.2 σ φ0) hS q0 3 (he φ0) rfl hin hd (fun H1 locs1 hP1 hD1 hS1 => ?_)
  rw [he2] at hP1
  exact k d H1 locs1 ls l0 _ hd0 ⟨_, alF_up hφ _ _ e1, hP1⟩ hS1 hls hL g3
theorem g_aald_rows (C : Cx K l D ad dA z0 tt cc own nL R) {i : Int32} (hin : vp_in i 8) (hd : decode cc pc = .ok (.aaload, 1)) (k : K σ φ (pc + 1) lv (.ref (ad (17 + i.toNatClampNeg)) :: st)) : K σ φ pc lv (.int i :: .ref (ad 16) :: st) := by
  obtain ⟨p, e, s, m, args, below, meth, c, Q, cells, slots, rfl, hx, hb, hml, hown, hts, hE, hcl, hsl⟩ := C
  intro d H locs ls l0 st0 hd0 hW hS hls hL hs
  obtain ⟨t1, rfl, g1⟩ := alS_int hs
  obtain ⟨t2, rfl, g2⟩ := alS_ref g1
  obtain ⟨φ0, hφ, hP⟩ := hW
  have hlt : i.toNatClampNeg < 8 := Nat.not_le.mp fun q => hin (Or.inr q)
  have hv : va_rf (if i.toNatClampNeg < 8 then some (ad (17 + i.toNatClampNeg)) else none) = .ref (ad (17 + i.toNatClampNeg)) := by rw [if_pos hlt]; rfl
  refine W.aald (s := s.setDrawn d) (v := va_rf (if i.toNatClampNeg < 8 then some (ad (17 + i.toNatClampNeg)) else none)) (ty := .array .int) hx hb (hP 16 _ (at_16 ad dA σ φ0)) ((hE.1.2 4 _ rfl).1 8 (fun j => va_rf (if j < 8 then some (ad (17 + j)) else none))) rfl (fun q => by cases q) (by show ¬ (i < 0 ∨ (arrV _ _ _).slots.size ≤ _); rw [arrV_size]; exact hin) (by show (arrV _ _ _).slots[_]? = _; rw [arrV_read _ _ hlt]) rfl rfl hd ?_
  rw [hv]
  exact k d H locs ls l0 _ hd0 ⟨φ0, hφ, hP⟩ hS hls hL ⟨rfl, g2⟩
theorem g_gets (C : Cx K l D ad dA z0 tt cc own nL R) {C0 n0 d0 ref host : String} {v : Value} {index : Nat} (hZ : ∀ (s : State), STz tt (fun q => z0 ≤ q) s s.heap → va_Z C0 n0 d0 v (fun q => z0 ≤ q) s s.heap) (hlink : Cond.fieldLink own index ref n0 d0 ∈ lw_all) (hsame : ref = C0) (hd : decode cc pc = .ok (.getstatic index, 3)) (k : K σ φ (pc + 3) lv (v :: st)) : K σ φ pc lv st := by
  obtain ⟨p, e, s, m, args, below, meth, c, Q, cells, slots, rfl, hx, hb, hml, hown, hts, hE, hcl, hsl⟩ := C
  intro d H locs ls l0 st0 hd0 hW hS hls hL hs
  subst hsame
  exact va_gets (s := s.setDrawn d) hx hb (hZ (s.setDrawn d) (hE.drawn d).2.2.1) hS hown (dr_words hts d _ hlink) (fun _ h => h) hd (k d H locs ls l0 _ hd0 hW hS hls hL ⟨alV_rf v, hs⟩)
theorem g_ti (C : Cx K l D ad dA z0 tt cc own nL R) {t N : Nat} {f : Nat → Int32} (hT : ∀ (s : State), STz tt (fun q => z0 ≤ q) s s.heap → va_T .int t N (fun j => .int (f j)) (fun q => z0 ≤ q) s s.heap) {i : Int32} (hin : vp_in i N) (hd : decode cc pc = .ok (.iaload, 1)) (k : K σ φ (pc + 1) lv (.int (f i.toNatClampNeg) :: st)) : K σ φ pc lv (.int i :: .ref t :: st) := by
  obtain ⟨p, e, s, m, args, below, meth, c, Q, cells, slots, rfl, hx, hb, hml, hown, hts, hE, hcl, hsl⟩ := C
  intro d H locs ls l0 st0 hd0 hW hS hls hL hs
  obtain ⟨t1, rfl, g1⟩ := alS_int hs
  obtain ⟨t2, rfl, g2⟩ := alS_ref g1
  exact va_ti (s := s.setDrawn d) hx hb (hT (s.setDrawn d) (hE.drawn d).2.2.1) hS hin rfl hd (k d H locs ls l0 _ hd0 hW hS hls hL ⟨rfl, g2⟩)
theorem g_tc (C : Cx K l D ad dA z0 tt cc own nL R) {t N : Nat} {f : Nat → Int32} (hT : ∀ (s : State), STz tt (fun q => z0 ≤ q) s s.heap → va_T .char t N (fun j => .int (f j)) (fun q => z0 ≤ q) s s.heap) {i : Int32} (hin : vp_in i N) (hd : decode cc pc = .ok (.caload, 1)) (k : K σ φ (pc + 1) lv (.int (f i.toNatClampNeg) :: st)) : K σ φ pc lv (.int i :: .ref t :: st) := by
  obtain ⟨p, e, s, m, args, below, meth, c, Q, cells, slots, rfl, hx, hb, hml, hown, hts, hE, hcl, hsl⟩ := C
  intro d H locs ls l0 st0 hd0 hW hS hls hL hs
  obtain ⟨t1, rfl, g1⟩ := alS_int hs
  obtain ⟨t2, rfl, g2⟩ := alS_ref g1
  exact va_tc (s := s.setDrawn d) hx hb (hT (s.setDrawn d) (hE.drawn d).2.2.1) hS hin rfl hd (k d H locs ls l0 _ hd0 hW hS hls hL ⟨rfl, g2⟩)
theorem g_tlen (C : Cx K l D ad dA z0 tt cc own nL R) {t N : Nat} {ty : FieldType} {f : Nat → Int32} (hT : ∀ (s : State), STz tt (fun q => z0 ≤ q) s s.heap → va_T ty t N (fun j => .int (f j)) (fun q => z0 ≤ q) s s.heap) {v : Int32} (hv : Int32.ofNat N = v) (hd : decode cc pc = .ok (.arraylength, 1)) (k : K σ φ (pc + 1) lv (.int v :: st)) : K σ φ pc lv (.ref t :: st) := by
  obtain ⟨p, e, s, m, args, below, meth, c, Q, cells, slots, rfl, hx, hb, hml, hown, hts, hE, hcl, hsl⟩ := C
  intro d H locs ls l0 st0 hd0 hW hS hls hL hs
  obtain ⟨t1, rfl, g1⟩ := alS_ref hs
  exact va_tlen (s := s.setDrawn d) hx hb (hT (s.setDrawn d) (hE.drawn d).2.2.1) hS hv hd (k d H locs ls l0 _ hd0 hW hS hls hL ⟨rfl, g1⟩)
theorem g_alen (C : Cx K l D ad dA z0 tt cc own nL R) {a n : Nat} {cA : ClassId} {f : Nat → Int32} (q0 t0 : Nat) {ty : FieldType} (he : ∀ φ0 : Fl, (wJ ad dA σ φ0)[q0]? = some (a, .inl (cA, n, .inl f))) (ht0 : (tyA dA)[t0]? = some (cA, ty)) {v : Int32} (hv : Int32.ofNat n = v) (hd : decode cc pc = .ok (.arraylength, 1)) (k : K σ φ (pc + 1) lv (.int v :: st)) : K σ φ pc lv (.ref a :: st) := by
  obtain ⟨p, e, s, m, args, below, meth, c, Q, cells, slots, rfl, hx, hb, hml, hown, hts, hE, hcl, hsl⟩ := C
  intro d H locs ls l0 st0 hd0 hW hS hls hL hs
  obtain ⟨t1, rfl, g1⟩ := alS_ref hs
  obtain ⟨φ0, hφ, hP⟩ := hW
  exact va_alen (s := s.setDrawn d) hx hb hE.1 hP q0 t0 (he φ0) ht0 hv hd (k d H locs ls l0 _ hd0 ⟨φ0, hφ, hP⟩ hS hls hL ⟨rfl, g1⟩)
theorem g_abs (C : Cx K l D ad dA z0 tt cc own nL R) {index : Nat} (m1 : Cond.methodLink own index Lib.Math.abs.name ∈ lw_all) (m2 : Cond.static Lib.Math.abs.name ∈ lw_all) (m3 : Cond.initialized "java/lang/Math" ∈ lw_all) (m4 : Cond.code Lib.Math.abs.name Lib.Math.abs.code 1 (some .int) ∈ lw_all) (hfr : 1 ≤ R.frames) (hlo : (st.map fun v => v.category).sum + 13 ≤ R.locals) {x : Int32} (hd : decode cc pc = .ok (.invokestatic index, 3)) (k : K σ φ (pc + 3) lv (.int (if 0 ≤ x then x else 0 - x) :: st)) : K σ φ pc lv (.int x :: st) := by
  obtain ⟨p, e, s, m, args, below, meth, c, Q, cells, slots, rfl, hx, hb, hml, hown, hts, hE, hcl, hsl⟩ := C
  intro d H locs ls l0 st0 hd0 hW hS hls hL hs
  obtain ⟨t1, rfl, g1⟩ := alS_int hs
  exact va_mabs (s := s.setDrawn d) hx hb (hml.trans hls.1.symm) hown (dr_words hts d _ m1) (dr_words hts d _ m2) (dr_words hts d _ m3) (dr_words hts d _ m4) hfr (by rw [alS_cat g1]; exact hlo) hcl hsl hd (k d H locs ls l0 _ hd0 hW hS hls hL ⟨rfl, g1⟩)
theorem g_copyi (C : Cx K l D ad dA z0 tt cc own nL R) {index a0 a n0 n1 : Nat} {f g : Nat → Int32} (m1 : Cond.methodLink own index arraycopyName ∈ lw_all) (m2 : Cond.native arraycopyName ∈ lw_all) (m3 : Cond.static arraycopyName ∈ lw_all) (m4 : Cond.initialized "java/lang/System" ∈ lw_all) (q0 q1 : Nat) (he0 : ∀ φ0 : Fl, (wJ ad dA σ φ0)[q0]? = some (a0, .inl (dA 0, n0, .inl f))) (he1 : ∀ φ0 : Fl, (wJ ad dA σ φ0)[q1]? = some (a, .inl (dA 0, n1, .inl g)))
    {sp dp n : Int32} (h1 : ¬ sp < 0) (h2 : ¬ dp < 0) (h3 : ¬ n < 0) (h4 : sp.toNatClampNeg + n.toNatClampNeg ≤ n0) (h5 : dp.toNatClampNeg + n.toNatClampNeg ≤ n1) (hfr : 1 ≤ R.frames) (hlo : (st.map fun v => v.category).sum + (nativeFrameWords "java/lang/System" "arraycopy" 5 + 11) ≤ R.locals) {σ1 : Sg} (he2 : ∀ φ0 : Fl, (wJ ad dA σ φ0).set q1 (a, .inl (dA 0, n1, .inl (va_cpy f g sp.toNatClampNeg dp.toNatClampNeg n.toNatClampNeg))) = wJ ad dA σ1 φ0) (hd : decode cc pc = .ok (.invokestatic index, 3)) (k : K σ1 φ (pc + 3) lv st) : K σ φ pc lv (.int n :: .int dp :: .ref a :: .int sp :: .ref a0 :: st) := by
  obtain ⟨p, e, s, m, args, below, meth, c, Q, cells, slots, rfl, hx, hb, hml, hown, hts, hE, hcl, hsl⟩ := C
  intro d H locs ls l0 st0 hd0 hW hS hls hL hs
  obtain ⟨t1, rfl, g1⟩ := alS_int hs
  obtain ⟨t2, rfl, g2⟩ := alS_int g1
  obtain ⟨t3, rfl, g3⟩ := alS_ref g2
  obtain ⟨t4, rfl, g4⟩ := alS_int g3
  obtain ⟨t5, rfl, g5⟩ := alS_ref g4
  obtain ⟨φ0, hφ, hP⟩ := hW
  refine va_copyi (s := s.setDrawn d) hx hb (hml.trans hls.1.symm) hown (dr_words hts d _ m1) (dr_words hts d _ m2) (dr_words hts d _ m3) (dr_words hts d _ m4) hE.1 hP (hE.2.2.2.2 σ φ0) hS q0 q1 0 0 (he0 φ0) (he1 φ0) rfl rfl rfl h1 h2 h3 h4 h5 (fun i _ => rfl) hfr (by rw [alS_cat g5]; exact hlo) hd (fun H1 locs1 hP1 hD1 hS1 => ?_)
  rw [he2] at hP1
  exact k d H1 locs1 ls l0 _ hd0 ⟨φ0, hφ, hP1⟩ hS1 hls hL g5
end RULES
