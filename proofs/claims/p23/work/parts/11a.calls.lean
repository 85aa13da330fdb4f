/-! THE CLAIM OUT OF ONE WALK OF THE LAW'S BODY. Your part is whole_start (and what it stands on); all else here is the same for every law, but numbers. -/
def R_law : String := "CompositeDecoderLaw"
def lw_P (b : Addr) (xs : List Int32) (args : Array Value) (s : State) : Prop := args = #[.ref b] ∧ s.IntsAt b xs ∧ xs.length ≤ 260 ∧ (Jvm.Cond.and given_1 narrow_1).before args s = true
/-- what a walk over the start with the record d0 says of its end, said of the start itself -/
theorem lw_closed {s t : State} {o : Outcome} {d0 : Drawn} {L : List Loc} {k n : Nat} (hd0 : s.drawn.sameBut d0 lw_cs) (hv : ∃ v, o = .returned v) (hW : (s.setDrawn d0).WarmedH t.vm) (hs : (s.setDrawn d0).sameButNew ({ t with vm := s.vm } : State) L k n) : State.butDraws s t lw_cs (fun t1 => Framed s o t1 L k n) := by
  have h2 : t.drawn = d0 := congrArg State.drawn hs.1
  refine ⟨⟨hv, hW, State.sameButNew.setDrawn hs s.drawn⟩, ?_, by decide⟩
  rw [h2]
  exact hd0
def lw_Q (_ : Array Value) (s : State) (o : Outcome) (t : State) : Prop := o = .returned (some (.int 1)) ∧ State.butDraws s t lw_cs (fun t1 => Framed s o t1 [] 600000 7302250)
def lw_Z (below : List Frame) (a : Array Value) (s : State) : State → Prop := fun t => ∃ o, t.status = .running ∧ Ended t below o ∧ lw_Q a s o t
/-- the law's own end, with 1 on the stack, nothing written that was there before, its room as the claim has it; d0: the record of draws at this point (at the entry s.drawn: begin with 'refine W.base ?_' and 'have hd0 := Drawn.sameBut.refl s.drawn lw_cs') -/
theorem lw_ret {p : Program} {l : Launch} {e : Env} {s : State} {m : MethodId} {below : List Frame} {meth : Method} {c : Code} {b : Nat} {d0 : Drawn} (hd0 : s.drawn.sameBut d0 lw_cs) (hx : p.tables.exec = Jvm.exec) (hb : c.code = code) (hr : meth.sig.returnType = ret) (hlocks : meth.locks = false) {pc : Nat} {H : Heap} {ls : Array Slot} (hdg : decode code pc = .ok (.ireturn, 1)) : W p l e room_1 (s.setDrawn d0) m #[Value.ref b] below meth c H [] 600000 7302250 (lw_Z below #[Value.ref b] s) (F0 m pc ls [.int 1]) := by
  intro T hT X
  obtain ⟨fs, hret, hrun, hended, hW, hframe⟩ := X.leave (v := some (.int 1)) (hlocks := hlocks) (fun h => by rw [hr] at h; cases h)
  have hmeth' : T.vm.method? m = some meth := X.method'
  refine ⟨T.setFrames fs, ?_, .returned (some (.int 1)), hrun, hended, rfl, lw_closed hd0 ⟨_, rfl⟩ hW hframe⟩
  jvm_step X.here [X.here.top, hx, hb, hdg, hmeth', hr, ret, narrow_b1]
  (try refine ⟨rfl, ?_⟩); (try refine ⟨rfl, ?_⟩)
  first | (intro acts; rw [hret _ acts rfl rfl rfl]) | rw [hret _ _ rfl rfl rfl]
  exact Steps.refl _
/-- what holds at the law's entry: the machine, the code, the tables' words (any of lw_tbl by 'hts w (by decide +kernel)'), the script of L ints xs at the cell b, what the Statement gives of the start (any of its parts by flat_of_before) -/
def lw_At (p : Program) (s : State) (m : MethodId) (meth : Method) (c : Code) (b L : Nat) (xs : Nat → Int32) : Prop :=
  p.tables.exec = Jvm.exec ∧ c.code = code ∧ meth.sig.returnType = ret ∧ c.maxLocals = 13 ∧ s.vm.findClass R_law = some m.cls ∧ (∀ w ∈ lw_tbl, w.before #[Value.ref b] s = true) ∧ va_X b L xs s s.heap ∧ b < s.heap.size ∧ meth.locks = false ∧ (Jvm.Cond.and given_1 narrow_1).before #[Value.ref b] s = true
section
/-! the law's walk: a judgement for each number of rows that may still be made -/
def CM (KK : Nat → KT) (l : Launch) (D : va_G) (ad : Nat → Nat) (dA : Nat → ClassId) (z0 : Nat) (tt : Nat → Nat) (V : Int32 → Prop) : Prop :=
  ∃ (p : Program) (e : Env) (s : State) (m : MethodId) (b : Nat) (below : List Frame) (meth : Method) (c : Code),
    (∀ n, KK n = GK p l e room_1 s m #[Value.ref b] below meth c (lw_Z below #[Value.ref b] s) 13 z0 D ad dA (600000 - n) (7302250 - 4 * n)) ∧ p.tables.exec = Jvm.exec ∧ c.code = code ∧ c.maxLocals = 13 ∧ s.vm.findClass R_law = some m.cls ∧ (∀ w ∈ lw_all, w.before #[Value.ref b] s = true) ∧ EnvU D ad dA z0 tt s ∧ z0 = s.heap.size ∧ meth.sig.returnType = ret ∧ meth.locks = false ∧ ∀ v, V v → v = 1
section CMR
variable {KK : Nat → KT} {l : Launch} {D : va_G} {ad : Nat → Nat} {dA : Nat → ClassId} {z0 : Nat} {tt : Nat → Nat} {V : Int32 → Prop} {σ : Sg} {φ : Fl} {pc : Nat} {lv : List (Nat × Value)} {st : List Value}
theorem CM.C (h : CM KK l D ad dA z0 tt V) (n : Nat) : Cx (KK n) l D ad dA z0 tt code R_law 13 room_1 := by
  obtain ⟨p, e, s, m, b, below, meth, c, hK, hx, hb, hml, hown, hts, hE, hz, hr, hlocks, hV⟩ := h
  exact ⟨p, e, s, m, _, below, meth, c, _, _, _, hK n, hx, hb, hml, hown, hts, hE, (show 600000 - n ≤ 600000 by omega), (show 7302250 - 4 * n ≤ 7302250 by omega)⟩
theorem CM.hi (h : CM KK l D ad dA z0 tt V) (n : Nat) (v : Int32) (σ' : Sg) (φ' : Fl) (pc : Nat) (lv : List (Nat × Value)) (hd : decode code pc = .ok (.ireturn, 1)) (_ : narrow .boolean (.int v) = .int v) (hv : V v) : KK n σ' φ' pc lv [.int v] := by
  obtain ⟨p, e, s, m, b, below, meth, c, hK, hx, hb, hml, hown, hts, hE, hz, hr, hlocks, hV⟩ := h
  rw [hK n]
  intro d H locs ls l0 st0 hd0 hW hS hls hL hs
  obtain ⟨t1, rfl, g1⟩ := alS_int hs
  cases alS_nil g1
  rw [hV v hv]
  refine va_forget (fun q hq => by have := hS.2.2 q hq; rw [hz] at this; exact this) ?_
  exact W.widen (show 600000 - n ≤ 600000 by omega) (show 7302250 - 4 * n ≤ 7302250 by omega) (lw_ret hd0 hx hb hr hlocks hd)
theorem CM.K (h : CM KK l D ad dA z0 tt V) (n : Nat) : ∃ K : KT, K = KK n ∧ Cx K l D ad dA z0 tt code R_law 13 room_1 ∧ ∀ (v : Int32) (σ' : Sg) (φ' : Fl) (pc : Nat) (lv : List (Nat × Value)), decode code pc = .ok (.ireturn, 1) → narrow .boolean (.int v) = .int v → V v → K σ' φ' pc lv [.int v] := ⟨KK n, rfl, h.C n, h.hi n⟩
theorem CM.low (h : CM KK l D ad dA z0 tt V) {n : Nat} (k : KK n σ φ pc lv st) : KK (n + 1) σ φ pc lv st := by
  obtain ⟨p, e, s, m, b, below, meth, c, hK, hx, hb, hml, hown, hts, hE, hz, hr, hlocks, hV⟩ := h
  rw [hK] at k ⊢
  intro d H locs ls l0 st0 hd0 hW hS hls hL hs
  exact W.widen (show 600000 - (n + 1) ≤ 600000 - n by omega) (show 7302250 - 4 * (n + 1) ≤ 7302250 - 4 * n by omega) (k d H locs ls l0 st0 hd0 hW hS hls hL hs)
theorem g_run1 {p : Program} {l : Launch} {e : Env} {R : Room} {nL : Nat} {s : State} {m : MethodId} {args : Array Value} {below : List Frame} {meth : Method} {c : Code} {Q : State → Prop} {cells slots : Nat} {P : Option Value → Sg → Fl → Prop} {d : Drawn} {H : Heap} {locs : List Loc} {ls : Array Slot} {l0 : List (Nat × Value)} {stk t1 : List Value} {a : Array Value}
    (hd0 : s.drawn.sameBut d lw_cs) (hS : va_S (fun q => z0 ≤ q) s.heap H locs) (hls : lv_has ls nL l0) (hL : alL l0 lv) (hs : alS t1 st)
    (hrun : va_RunD lw_cs p l e R (s.setDrawn d) m args below meth c H locs cells slots 1 4 (F0 m pc ls stk) t1 (QcG D ad dA z0 P a) (fun q => z0 ≤ q))
    (kk : ∀ (rv : Option Value) (σ' : Sg) (φ' : Fl), P rv σ' φ' → GK p l e R s m args below meth c Q nL z0 D ad dA (cells + 1) (slots + 4) σ' φ' (pc + 3) lv (rv.toList ++ st)) : W p l e R (s.setDrawn d) m args below meth c H locs cells slots Q (F0 m pc ls stk) := by
  intro T hT X
  obtain ⟨v, st₀, t, T', L, d', hd', h0, X', hL', e1, e2, ⟨⟨rv0, rv, σ', φ', hv, ho, hp, hw⟩, hz, hk⟩, stp⟩ := hrun T hT X
  cases hv
  rw [h0] at hz hk
  obtain ⟨t2, a1, b1⟩ := kk rv σ' φ' hp d' T'.heap (locs ++ L) ls l0 _ (hd0.trans hd') (by rw [e1]; exact hw)
    ⟨Nat.le_trans hS.1 (by rw [e1]; exact hz), fun q h1 h2 => by rw [e1, hk q (Nat.lt_of_lt_of_le h1 hS.1) h2]; exact hS.2.1 q h1 h2, fun q hq => by
      rcases List.mem_append.mp hq with h | h
      · exact hS.2.2 q h
      · exact hL' q h⟩ hls hL (alS_app ho hs) T' rfl X'
  exact ⟨t2, stp t2 a1, b1⟩
theorem g_callS1 (h : CM KK l D ad dA z0 tt V) {n : Nat} (hn0 : n < 40) {y : MethodName} {bytes : ByteArray} {maxL idx np : Nat} {rt : Option FieldType} {rm : Room} {As : List Value} {P : Option Value → Sg → Fl → Prop} (hM : MC1 l D ad dA z0 tt y (Cond.code y bytes maxL rt :: lw_all) rm As σ φ P) (hn : As.length = np)
    (m1 : Cond.methodLink R_law idx y ∈ lw_all) (m2 : Cond.static y ∈ lw_all) (m3 : Cond.initialized y.cls ∈ lw_all) (m5 : Cond.code y bytes maxL rt ∈ lw_all)
    (hdY : y.cls ≠ "java/lang/invoke/MethodHandle" ∧ y.cls ≠ "java/lang/invoke/VarHandle" ∧ (parseMethodDescriptor y.desc).map (fun d => d.parameters.length) = some np) (hrc : rm.cells = 1) (hrs : rm.slots = 4) (hR : rm.frames + 1 ≤ room_1.frames ∧ 8 + (maxL + 11) + rm.locals ≤ room_1.locals)
    (hdg : decode code pc = .ok (.invokestatic idx, 3)) {stk : List Value} (hstk : stk = As.reverse ++ st) (hroom : (st.map fun v => v.category).sum ≤ 8)
    (kk : ∀ K : KT, K = KK n → Cx K l D ad dA z0 tt code R_law 13 room_1 → (∀ (v : Int32) (σ' : Sg) (φ' : Fl) (pc : Nat) (lv : List (Nat × Value)), decode code pc = .ok (.ireturn, 1) → narrow .boolean (.int v) = .int v → V v → K σ' φ' pc lv [.int v]) → ∀ (rv : Option Value) (σ' : Sg) (φ' : Fl), P rv σ' φ' → K σ' φ' (pc + 3) lv (rv.toList ++ st)) : KK (n + 1) σ φ pc lv stk := by
  have k2 := kk (KK n) rfl (h.C n) (h.hi n)
  obtain ⟨p, e, s, m, b, below, meth, c, hK, hx, hb, hml, hown, hts, hE, hz, hr, hlocks, hV⟩ := h
  rw [hK] at k2 ⊢
  intro d H locs ls l0 st0 hd0 hW hS hls hL hs
  subst hstk
  obtain ⟨a0, t1, rfl, g1, g3⟩ := alS_split hs
  have ga : alS a0.reverse As := by have := alS_rev g1; rw [List.reverse_reverse] at this; exact this
  refine g_run1 hd0 hS hls hL g3 (va_runS_D (s := s.setDrawn d) (nL := 13) (As := a0.reverse) ⟨hx, hb, hml, hown, dr_words hts d⟩ hM (va_cwS np (dr_words hts d) (gw_S m1 m2 m3 m5) rfl hrc hrs hdY hR) ⟨PcG.blind, fun U hU hWm => ⟨⟨a0.reverse, rfl, ga⟩, (hE.drawn d).calls hS hU hWm, by rw [hU]; exact hW⟩⟩ rfl ((alS_len ga).trans hn) hls.1 (by rw [List.reverse_reverse]) (lv_room (by rw [alS_cat g3]; exact hroom)) hdg ⟨(show 600000 - (n + 1) + 1 ≤ 600000 by omega), (show 7302250 - 4 * (n + 1) + 4 ≤ 7302250 by omega)⟩) ?_
  rw [show 600000 - (n + 1) + 1 = 600000 - n by omega, show 7302250 - 4 * (n + 1) + 4 = 7302250 - 4 * n by omega]
  exact k2
end CMR
theorem c2_pos {j : Nat} (h : j < 40) : ¬ 2 * nI j < 0 := by
  rw [show (2 : Int32) * nI j = nI (2 * j) from pk_mul 2 j]
  exact nI_pos (by omega)
theorem c2_pos1 {j : Nat} (h : j < 40) : ¬ 2 * nI j + 1 < 0 := by
  rw [show (2 : Int32) * nI j = nI (2 * j) from pk_mul 2 j, nI_1]
  exact nI_pos (by omega)
end
