/-! THE CLAIM OUT OF ONE WALK OF THE LAW'S BODY. Your part is whole_start (and what it stands on); all else here is the same for every law, but numbers. -/
def R_law : String := "CompositeDecoderLaw"
def lw_P (b : Addr) (xs : List Int32) (args : Array Value) (s : State) : Prop := args = #[.ref b] ∧ s.IntsAt b xs ∧ xs.length ≤ 3072 ∧ (Jvm.Cond.and given_1 narrow_1).before args s = true
/-- what a walk over the start with the record d0 says of its end, said of the start itself -/
theorem lw_closed {s t : State} {o : Outcome} {d0 : Drawn} {L : List Loc} {k n : Nat} (hd0 : s.drawn.sameBut d0 lw_cs) (hv : ∃ v, o = .returned v) (hW : (s.setDrawn d0).WarmedH t.vm) (hs : (s.setDrawn d0).sameButNew ({ t with vm := s.vm } : State) L k n) : State.butDraws s t lw_cs (fun t1 => Framed s o t1 L k n) := by
  have h2 : t.drawn = d0 := congrArg State.drawn hs.1
  refine ⟨⟨hv, hW, State.sameButNew.setDrawn hs s.drawn⟩, ?_, by decide⟩
  rw [h2]
  exact hd0
def lw_Q (_ : Array Value) (s : State) (o : Outcome) (t : State) : Prop := o = .returned (some (.int 1)) ∧ State.butDraws s t lw_cs (fun t1 => Framed s o t1 [] 600000 7302250)
def lw_Z (below : List Frame) (a : Array Value) (s : State) : State → Prop := fun t => ∃ o, t.status = .running ∧ Ended t below o ∧ lw_Q a s o t
/-- the law's own end, with 1 on the stack, nothing written that was there before, its room as the claim has it; d0: the record of draws at this point (at the entry s.drawn: begin with 'refine W.base ?_' and 'have hd0 := Drawn.sameBut.refl s.drawn lw_cs') -/
theorem lw_ret {p : Program} {l : Launch} {e : Env} {s : State} {m : MethodId} {below : List Frame} {meth : Method} {c : Code} {b : Nat} {d0 : Drawn} (hd0 : s.drawn.sameBut d0 lw_cs) (hx : p.tables.exec = Jvm.exec) (hb : c.code = code) (hr : meth.sig.returnType = ret) (hlocks : meth.locks = false) {pc : Nat} {H : Heap} {ls : Array Slot} (hdg : decode code pc = .ok (.ireturn, 1)) : W p l e room_1 (s.setDrawn d0) m #[Value.ref b] below meth c H [] 600000 7302250 (lw_Z below #[Value.ref b] s) (F0 m pc ls [.int 1]) := by
  intro T hT X
  obtain ⟨fs, hret, hrun, hended, hW, hframe⟩ := X.leave (v := some (.int 1)) (hlocks := hlocks) (fun h => by rw [hr] at h; cases h)
  have hmeth' : T.vm.method? m = some meth := X.method'
  refine ⟨T.setFrames fs, ?_, .returned (some (.int 1)), hrun, hended, rfl, lw_closed hd0 ⟨_, rfl⟩ hW hframe⟩
  jvm_step X.here [X.here.top, hx, hb, hdg, hmeth', hr, ret, narrow_b1]
  (try refine ⟨rfl, ?_⟩); (try refine ⟨rfl, ?_⟩)
  first | (intro acts; rw [hret _ acts rfl rfl rfl]) | rw [hret _ _ rfl rfl rfl]
  exact Steps.refl _
/-- what holds at the law's entry: the machine, the code, the tables' words (any of lw_tbl by 'hts w (by decide +kernel)'), the script of L ints xs at the cell b, what the Statement gives of the start (any of its parts by flat_of_before) -/
def lw_At (p : Program) (s : State) (m : MethodId) (meth : Method) (c : Code) (b L : Nat) (xs : Nat → Int32) : Prop :=
  p.tables.exec = Jvm.exec ∧ c.code = code ∧ meth.sig.returnType = ret ∧ c.maxLocals = 8 ∧ s.vm.findClass R_law = some m.cls ∧ (∀ w ∈ lw_tbl, w.before #[Value.ref b] s = true) ∧ va_X b L xs s s.heap ∧ b < s.heap.size ∧ meth.locks = false ∧ (Jvm.Cond.and given_1 narrow_1).before #[Value.ref b] s = true
section
/-! the law's walk: K as ever, and what stands of the script and of the law's own end -/
def CL (K : KT) (l : Launch) (D : va_G) (ad : Nat → Nat) (dA : Nat → ClassId) (z0 : Nat) (tt : Nat → Nat) (b L : Nat) (xs : Nat → Int32) : Prop :=
  ∃ (p : Program) (e : Env) (s : State) (m : MethodId) (below : List Frame) (meth : Method) (c : Code) (cells slots : Nat),
    K = GK p l e room_1 s m #[Value.ref b] below meth c (lw_Z below #[Value.ref b] s) 8 z0 D ad dA cells slots ∧ p.tables.exec = Jvm.exec ∧ c.code = code ∧ c.maxLocals = 8 ∧ s.vm.findClass R_law = some m.cls ∧ (∀ w ∈ lw_all, w.before #[Value.ref b] s = true) ∧ EnvU D ad dA z0 tt s ∧ cells ≤ 600000 ∧ slots ≤ 7302250 ∧ va_X b L xs s s.heap ∧ b < s.heap.size ∧ z0 = s.heap.size ∧ meth.sig.returnType = ret ∧ meth.locks = false
section CLR
variable {K : KT} {l : Launch} {D : va_G} {ad : Nat → Nat} {dA : Nat → ClassId} {z0 : Nat} {tt : Nat → Nat} {b L : Nat} {xs : Nat → Int32} {σ : Sg} {φ : Fl} {pc : Nat} {lv : List (Nat × Value)} {st : List Value}
theorem CL.C (C : CL K l D ad dA z0 tt b L xs) : Cx K l D ad dA z0 tt code R_law 8 room_1 := by
  obtain ⟨p, e, s, m, below, meth, c, cells, slots, rfl, hx, hb, hml, hown, hts, hE, hcl, hsl, hX, hbl, hz, hr, hlocks⟩ := C
  exact ⟨p, e, s, m, _, below, meth, c, _, cells, slots, rfl, hx, hb, hml, hown, hts, hE, hcl, hsl⟩
theorem g_sld (C : CL K l D ad dA z0 tt b L xs) {i : Int32} (hi : vp_in i L) (hd : decode code pc = .ok (.iaload, 1)) (k : K σ φ (pc + 1) lv (.int (xs i.toNatClampNeg) :: st)) : K σ φ pc lv (.int i :: .ref b :: st) := by
  obtain ⟨p, e, s, m, below, meth, c, cells, slots, rfl, hx, hb, hml, hown, hts, hE, hcl, hsl, hX, hbl, hz, hr, hlocks⟩ := C
  intro d H locs ls l0 st0 hd0 hW hS hls hL hs
  obtain ⟨t1, rfl, g1⟩ := alS_int hs
  obtain ⟨t2, rfl, g2⟩ := alS_ref g1
  exact va_sld (s := s.setDrawn d) hx hb hX hbl (by rw [hz]; exact Nat.not_le.mpr hbl) hS hi hd (k d H locs ls l0 _ hd0 hW hS hls hL ⟨rfl, g2⟩)
theorem g_slen (C : CL K l D ad dA z0 tt b L xs) (hd : decode code pc = .ok (.arraylength, 1)) (k : K σ φ (pc + 1) lv (.int (nI L) :: st)) : K σ φ pc lv (.ref b :: st) := by
  obtain ⟨p, e, s, m, below, meth, c, cells, slots, rfl, hx, hb, hml, hown, hts, hE, hcl, hsl, hX, hbl, hz, hr, hlocks⟩ := C
  intro d H locs ls l0 st0 hd0 hW hS hls hL hs
  obtain ⟨t1, rfl, g1⟩ := alS_ref hs
  exact va_slen (s := s.setDrawn d) hx hb hX hbl (by rw [hz]; exact Nat.not_le.mpr hbl) hS hd (k d H locs ls l0 _ hd0 hW hS hls hL ⟨rfl, g1⟩)
theorem g_end (C : CL K l D ad dA z0 tt b L xs) (hd : decode code pc = .ok (.ireturn, 1)) : K σ φ pc lv [.int 1] := by
  obtain ⟨p, e, s, m, below, meth, c, cells, slots, rfl, hx, hb, hml, hown, hts, hE, hcl, hsl, hX, hbl, hz, hr, hlocks⟩ := C
  intro d H locs ls l0 st0 hd0 hW hS hls hL hs
  obtain ⟨t1, rfl, g1⟩ := alS_int hs
  cases alS_nil g1
  refine va_forget (fun q hq => by have := hS.2.2 q hq; rw [hz] at this; exact this) ?_
  exact W.widen hcl hsl (lw_ret hd0 hx hb hr hlocks hd)
/-- an argument: script[i + k] -/
theorem g_arg (C : CL K l D ad dA z0 tt b L xs) {i kk : Nat} {a : Int} (hi : i + 6 ≤ L) (hL : L ≤ 3072) (hk : kk < 6) (hv : Int32.ofInt a = nI kk) (d0 : decode code pc = .ok (.aload_n 0, 1)) (d1 : decode code (pc + 1) = .ok (.iload_n 3, 1)) (d2 : decode code (pc + 2) = .ok (.iconst a, 1)) (d3 : decode code (pc + 3) = .ok (.iadd, 1)) (d4 : decode code (pc + 4) = .ok (.iaload, 1)) (k : K σ φ (pc + 5) ((3, .int (nI i)) :: (2, .ref (ad 53)) :: (1, .ref (ad 0)) :: (0, .ref b) :: lv) (.int (xs (i + kk)) :: st)) : K σ φ pc ((3, .int (nI i)) :: (2, .ref (ad 53)) :: (1, .ref (ad 0)) :: (0, .ref b) :: lv) st := by
  refine g_aload_n C.C d0 (i := 0) rfl 3 rfl ?_
  refine g_iload_n C.C d1 (i := 3) rfl 0 rfl ?_
  refine g_iconst C.C d2 hv ?_
  refine g_iadd C.C d3 ?_
  rw [nI_add]
  refine g_sld C (vp_in_nI (by omega) (by omega)) d4 ?_
  rw [nI_clamp (by omega)]
  exact k
/-- an argument behind a double -/
theorem g_argD (C : CL K l D ad dA z0 tt b L xs) {i kk : Nat} {a : Int} {P : UInt64} (hi : i + 6 ≤ L) (hL : L ≤ 3072) (hk : kk < 6) (hv : Int32.ofInt a = nI kk) (d0 : decode code pc = .ok (.aload_n 0, 1)) (d1 : decode code (pc + 1) = .ok (.iload_n 3, 1)) (d2 : decode code (pc + 2) = .ok (.iconst a, 1)) (d3 : decode code (pc + 3) = .ok (.iadd, 1)) (d4 : decode code (pc + 4) = .ok (.iaload, 1)) (k : K σ φ (pc + 5) [(4, .double P), (3, .int (nI i)), (2, .ref (ad 53)), (1, .ref (ad 0)), (0, .ref b)] (.int (xs (i + kk)) :: st)) : K σ φ pc [(4, .double P), (3, .int (nI i)), (2, .ref (ad 53)), (1, .ref (ad 0)), (0, .ref b)] st := by
  refine g_aload_n C.C d0 (i := 0) rfl 4 rfl ?_
  refine g_iload_n C.C d1 (i := 3) rfl 1 rfl ?_
  refine g_iconst C.C d2 hv ?_
  refine g_iadd C.C d3 ?_
  rw [nI_add]
  refine g_sld C (vp_in_nI (by omega) (by omega)) d4 ?_
  rw [nI_clamp (by omega)]
  exact k
end CLR
theorem Rel_mono {m : Nat} {σ t : Sg} {φ ψ : Fl} (h : Rel m σ φ t ψ) : Rel (m + 1) σ φ t ψ := by
  obtain ⟨h1, h2, h3, h4, ⟨d1, d, hd, e⟩, h6⟩ := h
  exact ⟨h1, h2, h3, h4, ⟨d1, d, by omega, e⟩, h6⟩
/-- a call of each side, and what is known behind both -/
theorem Rel_s {m : Nat} {σ σ1 σ2 : Sg} {φ : Fl} (h : Rel m σ φ σ φ) (ha : KA σ σ1) (hb : KB σ1 σ2) (q : Rel m σ φ σ1 φ → Rel m σ1 φ σ2 φ) : Rel (m + 1) σ2 φ σ2 φ := Rel_mono (Rel_B (q (Rel_A h ha (KA.rf _))) hb (KB.rf _))
end
