section
/-! constructors: the world as it grows, at addresses that follow one another -/
def MA (dA : Nat → ClassId) (U : State) : Prop := ∃ (kA kB : Class) (cK : ClassId), U.vm.classes[dA 4]? = some kA ∧ kA.kind = .array (dA 0) (.array .int) ∧ U.vm.classes[dA 0]? = some kB ∧ kB.kind = .array cK .int
theorem MA.moved {dA : Nat → ClassId} {u U : State} (h : u.vm.Alike U.vm) (hm : MA dA u) : MA dA U := by
  obtain ⟨kA, kB, cK, h1, h2, h3, h4⟩ := hm
  obtain ⟨kA', g1, g2⟩ := h.2.2 _ _ h1
  obtain ⟨kB', g3, g4⟩ := h.2.2 _ _ h3
  exact ⟨kA', kB', cK, g1, by rw [g2]; exact h2, g3, by rw [g4]; exact h4⟩
theorem D_map {A : Nat → Prop} {ws ws' : va_W} (hD : va_D A ws) (e : ws'.map Prod.fst = ws.map Prod.fst) : va_D A ws' := by
  have key : ∀ (k : Nat) (q : Nat × va_E), ws'[k]? = some q → ∃ q0 : Nat × va_E, ws[k]? = some q0 ∧ q0.1 = q.1 := by
    intro k q hk
    have h : (ws'.map Prod.fst)[k]? = some q.1 := by rw [List.getElem?_map, hk]; rfl
    rw [e, List.getElem?_map] at h
    obtain ⟨q0, h1, h2⟩ := Option.map_eq_some_iff.mp h
    exact ⟨q0, h1, h2⟩
  refine ⟨fun i j p q hi hj hpq => ?_, fun k q hk => ?_⟩
  · obtain ⟨p0, a1, a2⟩ := key i p hi
    obtain ⟨q0, b1, b2⟩ := key j q hj
    exact hD.1 i j p0 q0 a1 b1 (by rw [a2, b2, hpq])
  · obtain ⟨q0, b1, b2⟩ := key k q hk
    rw [← b2]
    exact hD.2 k q0 b1
theorem w_adr {w2 : va_W} {n N : Nat} (hw : w2.map Prod.fst = (List.range N).map (fun k => n + k)) {k : Nat} {q : Nat × va_E} (hk : w2[k]? = some q) : q.1 = n + k := by
  have h : (w2.map Prod.fst)[k]? = some q.1 := by rw [List.getElem?_map, hk]; rfl
  rw [hw, List.getElem?_map] at h
  obtain ⟨j, h1, h2⟩ := Option.map_eq_some_iff.mp h
  have hj : j = k := by
    by_cases hl : k < N
    · rw [List.getElem?_range hl] at h1
      exact (Option.some.inj h1).symm
    · rw [List.getElem?_eq_none (by simpa using hl)] at h1
      cases h1
  rw [← h2, hj]
theorem D_ext {A : Nat → Prop} {ws w2 : va_W} {n N : Nat} (hD : va_D A ws) (hlt : ∀ (k : Nat) (q : Nat × va_E), ws[k]? = some q → q.1 < n) (hw : w2.map Prod.fst = (List.range N).map (fun k => n + k)) (hA : ∀ q, n ≤ q → A q) : va_D A (ws ++ w2) := by
  refine ⟨fun i j p q hi hj hpq => ?_, fun k q hk => ?_⟩
  · by_cases h1 : i < ws.length
    · rw [List.getElem?_append_left h1] at hi
      by_cases h2 : j < ws.length
      · rw [List.getElem?_append_left h2] at hj
        exact hD.1 i j p q hi hj hpq
      · rw [List.getElem?_append_right (by omega)] at hj
        have a := hlt i p hi
        have b := w_adr hw hj
        omega
    · rw [List.getElem?_append_right (by omega)] at hi
      have a := w_adr hw hi
      by_cases h2 : j < ws.length
      · rw [List.getElem?_append_left h2] at hj
        have b := hlt j q hj
        omega
      · rw [List.getElem?_append_right (by omega)] at hj
        have b := w_adr hw hj
        omega
  · by_cases h1 : k < ws.length
    · rw [List.getElem?_append_left h1] at hk
      exact hD.2 k q hk
    · rw [List.getElem?_append_right (by omega)] at hk
      have b := w_adr hw hk
      exact hA _ (by omega)
abbrev NT : Type := va_W → Nat → Nat → Nat → Nat → List (Nat × Value) → List Value → Prop
def GN (p : Program) (l : Launch) (e : Env) (R : Room) (s : State) (m : MethodId) (args : Array Value) (below : List Frame) (meth : Method) (c : Code) (Q : State → Prop) (nL : Nat) (D : va_G) (A : Nat → Prop) : NT := fun ws n ce sl pc lv st =>
  ∀ (H : Heap) (locs : List Loc) (ls : Array Slot), H.size = n → va_P D vwCl ws H → va_D A ws → va_S A s.heap H locs → lv_has ls nL lv → W p l e R s m args below meth c H locs ce sl Q (F0 m pc ls st)
def CN (ini : Bool) (K : NT) (l : Launch) (D : va_G) (dA : Nat → ClassId) (cc : ByteArray) (own : String) (nL : Nat) (R : Room) : Prop :=
  ∃ (p : Program) (e : Env) (s : State) (m : MethodId) (args : Array Value) (below : List Frame) (meth : Method) (c : Code) (Q : State → Prop) (A : Nat → Prop),
    K = GN p l e R s m args below meth c Q nL D A ∧ p.tables.exec = Jvm.exec ∧ c.code = cc ∧ c.maxLocals = nL ∧ s.vm.findClass own = some m.cls ∧ (∀ w ∈ lw_all, w.before args s = true) ∧ va_K D vwCl (tyA dA) s ∧ NW s ∧ MA dA s ∧ (ini = true → meth.name = "<init>") ∧ ∀ q, s.heap.size ≤ q → A q
def Pn (D : va_G) (dA : Nat → ClassId) (a z : Nat) (e0 : va_E) : Array Value → State → Prop := fun v U => v = ([Value.ref a] : List Value).toArray ∧ U.heap.size = z ∧ va_P D vwCl [(a, e0)] U.heap ∧ va_K D vwCl (tyA dA) U ∧ NW U ∧ MA dA U
theorem Pn.blind {D : va_G} {dA : Nat → ClassId} {a z : Nat} {e0 : va_E} : FrameBlind (Pn D dA a z e0) := by
  intro a' U g mk h
  obtain ⟨h1, h2, h3, h4, h5, h6⟩ := h
  exact ⟨h1, h2, h3, va_K.moved (u := U) (U := U.calling g mk a') (Vm.Alike.refl U.vm) h4, NW.same (u := U) (U := U.calling g mk a') rfl h5, MA.moved (u := U) (U := U.calling g mk a') (Vm.Alike.refl U.vm) h6⟩
abbrev Qn (D : va_G) (a z N : Nat) (ws : va_W) : Array Value → State → Outcome → State → Prop := va_Qv (fun _ : Unit => True) (fun _ t => t.heap.size = z + N ∧ va_P D vwCl ws t.heap) (fun q => q = a ∨ z ≤ q)
/-- a constructor's contract, from the walk of its body -/
theorem mk_NC {l : Launch} {D : va_G} {dA : Nat → ClassId} {y : MethodName} {rm : Room} {cc : ByteArray} {nL a z N ms : Nat} {ws : va_W} {e0 : va_E} (hy : plainName y.cls = true) (hy2 : y.name = "<init>") (hnl : 1 ≤ nL)
    (body : ∀ K : NT, CN true K l D dA cc y.cls nL rm → (∀ (pc : Nat) (lv : List (Nat × Value)), decode cc pc = .ok (.return_, 1) → K ws (z + N) N ms pc lv []) → K [(a, e0)] z 0 0 0 [(0, .ref a)] []) :
    Met l y (Cond.code y cc nL none :: lw_all) rm (Pn D dA a z e0) (Qn D a z N ws) N ms (fun q => q = a ∨ z ≤ q) := by
  refine Met.ofW (cc := cc) (maxL := nL) (ret := none) hy rfl ?_
  intro p e s m args below meth c s₁ B hml hv
  obtain ⟨rfl, hsz, hP, hK, hN, hM⟩ := hv
  have hx := B.exec
  have hb := B.bytes
  have hr := B.returns
  have hts := atoms_spec (ws := Cond.code y cc nL none :: lw_all) B.pre
  have hown : s.vm.findClass y.cls = some m.cls := findClass_of_methodNamed B.named
  have hlocks := B.notSynchronized
  have hin : meth.name = "<init>" := (name_of_methodNamed B.named B.method).1.trans hy2
  have hl := lv_entry ([.ref a]) (n := nL) hnl
  rw [lg_entry_eq]
  generalize (lg_sl ([.ref a]) ++ List.replicate (nL - (lg_sl ([.ref a])).length) Slot.unset).toArray = ls at hl ⊢
  have hl : lv_has ls nL [(0, .ref a)] := hl
  refine body (GN p l e (headSpec (Cond.code y cc nL none :: lw_all) rm).room s m ([.ref a] : List Value).toArray below meth c (MQ below (Qn D a z N ws) ([.ref a] : List Value).toArray s N ms (fun q => q = a ∨ z ≤ q)) nL D (fun q => q = a ∨ z ≤ q))
    ⟨p, e, s, m, ([.ref a] : List Value).toArray, below, meth, c, _, _, rfl, hx, hb, hml, hown, fun w h => hts w (List.mem_cons_of_mem _ h), hK, hN, hM, fun _ => hin, fun q h => Or.inr (by rw [← hsz]; exact h)⟩ ?_ s.heap [] ls hsz hP ?_ va_S.rf hl
  · intro pc lv hdg H locs ls' hsz' hP' hD' hS' hls
    exact W.vret hx hb hr (fun t ht hW => ⟨⟨(), rfl, trivial, by dsimp only; rw [ht]; exact ⟨hsz', hP'⟩⟩, hS'.F ht⟩) hS'.2.2 hdg hlocks
  · refine ⟨fun i j p q hi hj _ => ?_, fun k q hk => ?_⟩
    · rcases i with _ | i
      · rcases j with _ | j
        · rfl
        · simp at hj
      · simp at hi
    · rcases k with _ | k
      · simp only [List.getElem?_cons_zero, Option.some.injEq] at hk
        subst hk
        exact .inl rfl
      · simp at hk
section RULES
variable {ini : Bool} {K : NT} {l : Launch} {D : va_G} {dA : Nat → ClassId} {cc : ByteArray} {own : String} {nL : Nat} {R : Room} {ws : va_W} {n ce sl pc : Nat} {lv : List (Nat × Value)} {st : List Value}
theorem n_aload (C : CN ini K l D dA cc own nL R) {k0 : Fin 4} {i x : Nat} (hd : decode cc pc = .ok (.aload_n k0, 1)) (hi : (k0 : Nat) = i) (j : Nat) (hj : lv[j]? = some (i, .ref x)) (k : K ws n ce sl (pc + 1) lv (.ref x :: st)) : K ws n ce sl pc lv st := by
  obtain ⟨p, e, s, m, args, below, meth, c, Q, A, rfl, hx, hb, hml, hown, hts, hK, hN, hM, hin, hA⟩ := C
  intro H locs ls hn hP hD hS hl
  exact lv_aload_n hx hb hd hi (lv_at hl j hj) (k H locs ls hn hP hD hS hl)
theorem n_iload (C : CN ini K l D dA cc own nL R) {k0 : Fin 4} {i : Nat} {x : Int32} (hd : decode cc pc = .ok (.iload_n k0, 1)) (hi : (k0 : Nat) = i) (j : Nat) (hj : lv[j]? = some (i, .int x)) (k : K ws n ce sl (pc + 1) lv (.int x :: st)) : K ws n ce sl pc lv st := by
  obtain ⟨p, e, s, m, args, below, meth, c, Q, A, rfl, hx, hb, hml, hown, hts, hK, hN, hM, hin, hA⟩ := C
  intro H locs ls hn hP hD hS hl
  exact lv_iload_n hx hb hd hi (lv_at hl j hj) (k H locs ls hn hP hD hS hl)
theorem n_istore (C : CN ini K l D dA cc own nL R) {k0 : Fin 4} {i : Nat} {x : Int32} {lv' : List (Nat × Value)} (hd : decode cc pc = .ok (.istore_n k0, 1)) (hi : (k0 : Nat) = i) (hn : i < nL) (hl : (i, Value.int x) :: lv.filter (fun q => !(q.1 == i) && !(q.1 + 1 == i && q.2.category == 2)) = lv') (k : K ws n ce sl (pc + 1) lv' st) : K ws n ce sl pc lv (.int x :: st) := by
  obtain ⟨p, e, s, m, args, below, meth, c, Q, A, rfl, hx, hb, hml, hown, hts, hK, hN, hM, hin, hA⟩ := C
  intro H locs ls hn' hP hD hS hls
  subst hl
  exact lv_istore_n (lv' := _) hx hb hd hi hls hn rfl (fun ls1 hls1 => k H locs ls1 hn' hP hD hS hls1)
theorem n_astore (C : CN ini K l D dA cc own nL R) {k0 : Fin 4} {i x : Nat} {lv' : List (Nat × Value)} (hd : decode cc pc = .ok (.astore_n k0, 1)) (hi : (k0 : Nat) = i) (hn : i < nL) (hl : (i, Value.ref x) :: lv.filter (fun q => !(q.1 == i) && !(q.1 + 1 == i && q.2.category == 2)) = lv') (k : K ws n ce sl (pc + 1) lv' st) : K ws n ce sl pc lv (.ref x :: st) := by
  obtain ⟨p, e, s, m, args, below, meth, c, Q, A, rfl, hx, hb, hml, hown, hts, hK, hN, hM, hin, hA⟩ := C
  intro H locs ls hn' hP hD hS hls
  subst hl
  exact lv_astore_n (lv' := _) hx hb hd hi hls hn rfl (fun ls1 hls1 => k H locs ls1 hn' hP hD hS hls1)
theorem n_iinc (C : CN ini K l D dA cc own nL R) {i : Nat} {a : Int} {x v : Int32} {lv' : List (Nat × Value)} (hd : decode cc pc = .ok (.iinc i a, 3)) (j : Nat) (hj : lv[j]? = some (i, .int x)) (hv : x + Int32.ofInt a = v) (hn : i < nL) (hl : (i, Value.int v) :: lv.filter (fun q => !(q.1 == i) && !(q.1 + 1 == i && q.2.category == 2)) = lv') (k : K ws n ce sl (pc + 3) lv' st) : K ws n ce sl pc lv st := by
  obtain ⟨p, e, s, m, args, below, meth, c, Q, A, rfl, hx, hb, hml, hown, hts, hK, hN, hM, hin, hA⟩ := C
  intro H locs ls hn' hP hD hS hls
  subst hl
  exact lv_iinc (lv' := _) hx hb hd hls (k := j) hj hv hn rfl (fun ls1 hls1 => k H locs ls1 hn' hP hD hS hls1)
theorem n_iconst (C : CN ini K l D dA cc own nL R) {a : Int} {v : Int32} (hd : decode cc pc = .ok (.iconst a, 1)) (hv : Int32.ofInt a = v) (k : K ws n ce sl (pc + 1) lv (.int v :: st)) : K ws n ce sl pc lv st := by
  obtain ⟨p, e, s, m, args, below, meth, c, Q, A, rfl, hx, hb, hml, hown, hts, hK, hN, hM, hin, hA⟩ := C
  intro H locs ls hn hP hD hS hl
  exact lv_iconst hx hb hd hv (k H locs ls hn hP hD hS hl)
theorem n_bipush (C : CN ini K l D dA cc own nL R) {a : Int} {v : Int32} (hd : decode cc pc = .ok (.bipush a, 2)) (hv : (Int8.ofInt a).toInt32 = v) (k : K ws n ce sl (pc + 2) lv (.int v :: st)) : K ws n ce sl pc lv st := by
  obtain ⟨p, e, s, m, args, below, meth, c, Q, A, rfl, hx, hb, hml, hown, hts, hK, hN, hM, hin, hA⟩ := C
  intro H locs ls hn hP hD hS hl
  exact lv_bipush hx hb hd hv (k H locs ls hn hP hD hS hl)
theorem n_dup (C : CN ini K l D dA cc own nL R) {a : Nat} (hd : decode cc pc = .ok (.dup, 1)) (k : K ws n ce sl (pc + 1) lv (.ref a :: .ref a :: st)) : K ws n ce sl pc lv (.ref a :: st) := by
  obtain ⟨p, e, s, m, args, below, meth, c, Q, A, rfl, hx, hb, hml, hown, hts, hK, hN, hM, hin, hA⟩ := C
  intro H locs ls hn hP hD hS hl
  exact lv_dup hx hb hd rfl (k H locs ls hn hP hD hS hl)
theorem n_ge_t (C : CN ini K l D dA cc own nL R) {x y : Int32} {off : Int} {tgt : Nat} (hd : decode cc pc = .ok (.if_icmp .ge off, 3)) (ht : (pc : Int) + off = (tgt : Int)) (hc : y ≤ x) (k : K ws n ce sl tgt lv st) : K ws n ce sl pc lv (.int y :: .int x :: st) := by
  obtain ⟨p, e, s, m, args, below, meth, c, Q, A, rfl, hx, hb, hml, hown, hts, hK, hN, hM, hin, hA⟩ := C
  intro H locs ls hn hP hD hS hl
  exact lv_icmp_ge hx hb hd ht (fun _ => k H locs ls hn hP hD hS hl) (fun h => absurd hc h)
theorem n_ge_f (C : CN ini K l D dA cc own nL R) {x y : Int32} {off : Int} (tgt : Nat) (hd : decode cc pc = .ok (.if_icmp .ge off, 3)) (ht : (pc : Int) + off = (tgt : Int)) (hc : ¬ y ≤ x) (k : K ws n ce sl (pc + 3) lv st) : K ws n ce sl pc lv (.int y :: .int x :: st) := by
  obtain ⟨p, e, s, m, args, below, meth, c, Q, A, rfl, hx, hb, hml, hown, hts, hK, hN, hM, hin, hA⟩ := C
  intro H locs ls hn hP hD hS hl
  exact lv_icmp_ge hx hb hd ht (fun h => absurd h hc) (fun _ => k H locs ls hn hP hD hS hl)
theorem n_goto (C : CN ini K l D dA cc own nL R) {off : Int} {tgt : Nat} (hd : decode cc pc = .ok (.goto off, 3)) (ht : (pc : Int) + off = (tgt : Int)) (k : K ws n ce sl tgt lv st) : K ws n ce sl pc lv st := by
  obtain ⟨p, e, s, m, args, below, meth, c, Q, A, rfl, hx, hb, hml, hown, hts, hK, hN, hM, hin, hA⟩ := C
  intro H locs ls hn hP hD hS hl
  exact lv_goto hx hb hd ht (k H locs ls hn hP hD hS hl)
theorem n_obj (C : CN ini K l D dA cc own nL R) {idx x : Nat} (m1 : Cond.methodLink own idx objectInit ∈ lw_all) (hd : decode cc pc = .ok (.invokespecial idx, 3)) (hR : 1 ≤ R.frames ∧ 12 ≤ R.locals) (k : K ws n ce sl (pc + 3) lv []) : K ws n ce sl pc lv [.ref x] := by
  obtain ⟨p, e, s, m, args, below, meth, c, Q, A, rfl, hx, hb, hml, hown, hts, hK, hN, hM, hin, hA⟩ := C
  intro H locs ls hn hP hD hS hl
  exact W.objInit hx hb hown (hts _ m1) (hts _ im_objectInit) (hts _ co_objectInit) rfl (by rw [hml]; exact hl.1) rfl hd hR.1 hR.2 (k H locs ls hn hP hD hS hl)
theorem n_get (C : CN ini K l D dA cc own nL R) {Cn ref : String} {T : u_T} {N ci index a : Nat} (hin0 : ∀ w ∈ u_ws Cn T N, w ∈ lw_all) (q0 : Nat) {fs : List Value} (he : ws[q0]? = some (a, .inr (ci, fs))) (hc : vwCl[ci]? = some (Cn, T, N)) (k : Nat) (hk : k < N) (hlink : Cond.fieldLink own index ref (T k).2.1 (T k).2.2.1 ∈ lw_all) (hsame : ref = (T k).1) {v : Value} (hv : fs[k]? = some v) (hd : decode cc pc = .ok (.getfield index, 3)) (k2 : K ws n ce sl (pc + 3) lv (v :: st)) : K ws n ce sl pc lv (.ref a :: st) := by
  obtain ⟨p, e, s, m, args, below, meth, c, Q, A, rfl, hx, hb, hml, hown, hts, hK, hN, hM, hin, hA⟩ := C
  intro H locs ls hn hP hD hS hl
  exact va_get hx hb hts hin0 hown hK hP q0 he hc k hk (hts _ hlink) (fun x9 h9 => by rw [hsame]; exact h9) hv hd (k2 H locs ls hn hP hD hS hl)
/-- a final field of a class of ours, set where it is made -/
theorem n_put (C : CN true K l D dA cc own nL R) {ref : String} {T : u_T} {N ci index a : Nat} (hin0 : ∀ w ∈ u_ws own T N, w ∈ lw_all) (ty0 : Nat → FieldType) (hty : ∀ k, k < N → parseFieldDescriptor (T k).2.2.1 = some (ty0 k)) (hnm : ∀ a, a < N → ∀ b, b < N → a ≠ b → (T a).2.1 ≠ (T b).2.1) (q0 : Nat) {fs : List Value} (he : ws[q0]? = some (a, .inr (ci, fs))) (hc : vwCl[ci]? = some (own, T, N)) (k : Nat) (hk : k < N) (hlink : Cond.fieldLink own index ref (T k).2.1 (T k).2.2.1 ∈ lw_all) (hsame : ref = (T k).1) (hfin : (T k).2.2.2 = true) (hdecl : (T k).1 = own) {ty : FieldType} {v : Value} (hd2 : parseFieldDescriptor (T k).2.2.1 = some ty) (hn2 : narrow ty v = v) (hfit : fits ty v = true) (hl2 : k < fs.length) {ws' : va_W} (ew : ws.set q0 (a, .inr (ci, fs.set k v)) = ws') (hd : decode cc pc = .ok (.putfield index, 3)) (k2 : K ws' n ce sl (pc + 3) lv st) : K ws n ce sl pc lv (v :: .ref a :: st) := by
  obtain ⟨p, e, s, m, args, below, meth, c, Q, A, rfl, hx, hb, hml, hown, hts, hK, hN, hM, hin, hA⟩ := C
  intro H locs ls hn hP hD hS hl
  subst ew
  have hap := va_apart (own := own) hts hin0 ty0 hty hnm hK hc
  obtain ⟨r, h1, cell, q1, q2, q3, q4⟩ := hP q0 _ he
  have hr : r = (own, T, N) := Option.some.inj (h1.symm.trans hc)
  subst hr
  obtain ⟨hSl, hfc, kC, hkC, hkind⟩ := hK.1 ci _ hc
  obtain ⟨cf, kf, fi, f, hi, hsl⟩ := hSl k hk
  have hlay := hts _ (hin0 _ (u_in_lay hk))
  unfold u_lay at hlay
  rw [if_pos hfin] at hlay
  have hst := (u_facts hfc hkC (u_lays hts hin0 hk) hi).1
  have hcf : m.cls = cf := by
    obtain ⟨_, _, c', _, _, _, -, -, hf', -, -, -, hown2, -⟩ := Cond.laysFinal_spec hlay
    have e1 : c' = cf := by have := hi.symm.trans hf'; simp at this; exact this.1.symm
    rw [hdecl] at hown2
    rw [← e1]; exact Option.some.inj (hown.symm.trans hown2)
  have h6 := u_fits hfc hkC hkind (Or.inr hlay) hi hd2 hn2 hfit
  refine W.putFinK hx hb hown (hts _ hlink) (by rw [hsame]; exact hi) hst hcf (hin rfl) (by rw [q2]; exact h6) q1 q3 (by rw [hsl]; exact k2_hasslot (q4 k hk)) rfl rfl hd fun H' e1 e2 e3 => ?_
  rw [hsl] at e1 ⊢
  exact k2 H' _ ls (e2.trans hn) (hP.set hD he ⟨_, hc, t_OB.to (V := updV (vp_V fs) k v) ⟨_, e1, q2, q3, t_set q4 hap hk v⟩ (fun j _ => vp_updV_set hl2 v j)⟩ e3) (hD.set he) (hS.put e2 e3 (hD.2 q0 _ he)) hl
theorem n_iast (C : CN ini K l D dA cc own nL R) {a N : Nat} {f : Nat → Int32} {i x : Int32} (q0 : Nat) (he : ws[q0]? = some (a, .inl (dA 0, N, .inl f))) (hi : vp_in i N) {ws' : va_W} (ew : ws.set q0 (a, .inl (dA 0, N, .inl (upd f i.toNatClampNeg x))) = ws') (hd : decode cc pc = .ok (.iastore, 1)) (k : K ws' n ce sl (pc + 1) lv st) : K ws n ce sl pc lv (.int x :: .int i :: .ref a :: st) := by
  obtain ⟨p, e, s, m, args, below, meth, c, Q, A, rfl, hx, hb, hml, hown, hts, hK, hN, hM, hin, hA⟩ := C
  intro H locs ls hn hP hD hS hl
  subst ew
  refine W.iast hx hb (hP q0 _ he) ((hK.2 0 _ rfl).1 N (fun j => .int (f j))) (fun q => by cases q) (by show ¬ (i < 0 ∨ (arrV _ _ _).slots.size ≤ _); rw [arrV_size]; exact hi) rfl rfl hd fun H1 e1 z oq => ?_
  refine k H1 _ ls (z.trans hn) (hP.set hD he ?_ oq) (hD.set he) (hS.put z oq (hD.2 q0 _ he)) hl
  show H1[a]? = some (vp_cell _ _)
  rw [e1]
  refine congrArg some ((arrV_store _ _ _ _ _).trans ?_)
  show arrV (dA 0) N (updV (fun j => .int (f j)) i.toNatClampNeg (.int x)) = arrV (dA 0) N (fun j => .int (upd f i.toNatClampNeg x j))
  congr 1
  funext j
  by_cases hj : j = i.toNatClampNeg
  · subst hj; simp [updV, upd]
  · simp [updV, upd, hj]
/-- a new row of numbers -/
theorem n_newa (C : CN ini K l D dA cc own nL R) {atype : ArrayType} {i : Nat} {cA : ClassId} {ty : FieldType} (hty : newarray.typeOf atype = ty) (hw : Cond.arrayClass ty ∈ lw_all) (ht : (tyA dA)[i]? = some (cA, ty)) {n0 : Int32} {N : Nat} {a0 : vp_A} (ha : vp_cell cA a0 = arrV cA N (fun _ => defaultValue ty)) (hn0 : ¬ n0 < 0) (hN : n0.toNatClampNeg = N) (hby : N * componentBytes ty ≤ 536870912) (hc : ce + 1 ≤ R.cells) (hs : sl + N ≤ R.slots) (hd : decode cc pc = .ok (.newarray atype, 2)) {ws' : va_W} {n' ce' sl' : Nat} (ew : ws ++ [(n, .inl (cA, a0))] = ws') (en : n + 1 = n') (e3 : ce + 1 = ce') (e4 : sl + N = sl') (k : K ws' n' ce' sl' (pc + 2) lv (.ref n :: st)) : K ws n ce sl pc lv (.int n0 :: st) := by
  obtain ⟨p, e, s, m, args, below, meth, c, Q, A, rfl, hx, hb, hml, hown, hts, hK, hNW, hM, hin, hA⟩ := C
  intro H locs ls hn hP hD hS hl
  subst ew en e3 e4 hty
  refine va_newaK hx hb (hts _ hw) rfl hd rfl hn0 hN hby hc hs hn (fun H1 cA' e1 z1 o1 hAr hNm => ?_)
  have ec : cA' = cA := by
    have := (hK.2 i _ ht).2
    cases atype <;> exact Option.some.inj (hNm.symm.trans this)
  subst ec
  have hlt : ∀ (k : Nat) (q : Nat × va_E), ws[k]? = some q → q.1 < n := fun k q h => by rw [← hn]; exact (hP k q h).lt
  refine k H1 locs ls z1 ((hP.kept fun k q h => o1 q.1 (hlt k q h)).app fun k q h => ?_) (D_ext (N := 1) hD hlt rfl (fun q hq => hA q (Nat.le_trans hS.1 (by rw [hn]; exact hq)))) ⟨Nat.le_trans hS.1 (by omega), fun x h1 h2 => (o1 x (by rw [← hn]; exact Nat.lt_of_lt_of_le h1 hS.1)).trans (hS.2.1 x h1 h2), hS.2.2⟩ hl
  rcases k with _ | k
  · cases h
    show H1[n]? = some (vp_cell _ _)
    rw [ha]
    exact e1
  · simp at h
theorem n_new (C : CN ini K l D dA cc own nL R) {Cn : String} {T : u_T} {N ci index : Nat} (hin0 : ∀ w ∈ u_ws Cn T N, w ∈ lw_all) (ty : Nat → FieldType) (hty : ∀ k, k < N → parseFieldDescriptor (T k).2.2.1 = some (ty k)) (m1 : Cond.classLink own index Cn ∈ lw_all) (m2 : Cond.instantiable Cn N ∈ lw_all) (m3 : Cond.initialized Cn ∈ lw_all) (hc : vwCl[ci]? = some (Cn, T, N)) {fs : List Value} (hfs : ∀ j, j < N → defaultValue (ty j) = vp_V fs j) (hcs : ce + 1 ≤ R.cells) (hs : sl + N ≤ R.slots) (hd : decode cc pc = .ok (.new index, 3)) {ws' : va_W} {n' ce' sl' : Nat} (ew : ws ++ [(n, .inr (ci, fs))] = ws') (en : n + 1 = n') (e3 : ce + 1 = ce') (e4 : sl + N = sl') (k : K ws' n' ce' sl' (pc + 3) lv (.ref n :: st)) : K ws n ce sl pc lv st := by
  obtain ⟨p, e, s, m, args, below, meth, c, Q, A, rfl, hx, hb, hml, hown, hts, hK, hNW, hM, hin, hA⟩ := C
  intro H locs ls hn hP hD hS hl
  subst ew en e3 e4
  have hKn := hK.1 ci _ hc
  have hlt : ∀ (k : Nat) (q : Nat × va_E), ws[k]? = some q → q.1 < n := fun k q h => by rw [← hn]; exact (hP k q h).lt
  refine W.newcK hx hb hown (hts _ m1) (hts _ m2) (hts _ m3) rfl hd hcs hs hKn.2.1 hn fun H1 kC hkC e1 z1 o1 => ?_
  refine k H1 locs ls z1 ((hP.kept fun k q h => o1 q.1 (hlt k q h)).app fun k q h => ?_) (D_ext (N := 1) hD hlt rfl (fun q hq => hA q (Nat.le_trans hS.1 (by rw [hn]; exact hq)))) ⟨Nat.le_trans hS.1 (by omega), fun x h1 h2 => (o1 x (by rw [← hn]; exact Nat.lt_of_lt_of_le h1 hS.1)).trans (hS.2.1 x h1 h2), hS.2.2⟩ hl
  rcases k with _ | k
  · cases h
    exact ⟨_, hc, (u_born ty hts hin0 hKn hkC e1 hty).to hfs⟩
  · simp at h
/-- eight rows of 112 numbers, and the row that holds them -/
theorem n_multi (C : CN ini K l D dA cc own nL R) {index : Nat} (m1 : Cond.classLink own index "[[I" ∈ lw_all) {n0 k0 : Int32} (h0 : n0 = 8) (h1 : k0 = 112) (hcs : ce + 9 ≤ R.cells) (hs : sl + 904 ≤ R.slots) (hd : decode cc pc = .ok (.multianewarray index 2, 4)) (f : Nat → Nat) (hf : ∀ i, f i = n + 1 + i) {ws' : va_W} {n' ce' sl' : Nat} (ew : ws ++ [(n, .inl (dA 4, 8, .inr (.inr (.inr (.inr (fun i => if i < 8 then some (f i) else none)))))), (n + 1, .inl (dA 0, 112, .inl (fun _ => 0))), (n + 2, .inl (dA 0, 112, .inl (fun _ => 0))), (n + 3, .inl (dA 0, 112, .inl (fun _ => 0))), (n + 4, .inl (dA 0, 112, .inl (fun _ => 0))), (n + 5, .inl (dA 0, 112, .inl (fun _ => 0))), (n + 6, .inl (dA 0, 112, .inl (fun _ => 0))), (n + 7, .inl (dA 0, 112, .inl (fun _ => 0))), (n + 8, .inl (dA 0, 112, .inl (fun _ => 0)))] = ws') (en : n + 9 = n') (e3 : ce + 9 = ce') (e4 : sl + 904 = sl') (k : K ws' n' ce' sl' (pc + 4) lv (.ref n :: st)) : K ws n ce sl pc lv (.int k0 :: .int n0 :: st) := by
  obtain ⟨p, e, s, m, args, below, meth, c, Q, A, rfl, hx, hb, hml, hown, hts, hK, hNW, hM, hin, hA⟩ := C
  intro H locs ls hn hP hD hS hl
  subst ew en e3 e4 h0 h1 hn
  obtain ⟨kA, kB, cK, g1, g2, g3, g4⟩ := hM
  have hnA : s.vm.findClass "[[I" = some (dA 4) := (hK.2 4 _ rfl).2
  have hlt : ∀ (k : Nat) (q : Nat × va_E), ws[k]? = some q → q.1 < H.size := fun k q h => (hP k q h).lt
  refine mz_W (N := 8) (M := 112) hx hb hown (hts _ m1) hnA g1 g2 g3 g4 rfl hd rfl (by decide) (by decide) (by decide) (by decide) (by decide) (by decide) hcs hs (fun H1 L z1 e1 e2 o1 hL => ?_)
  have inner : ∀ j, j < 8 → va_at D vwCl (H.size + 1 + j, .inl (dA 0, 112, .inl (fun _ => 0))) H1 := fun j hj => e2 j hj
  have outer : va_at D vwCl (H.size, .inl (dA 4, 8, .inr (.inr (.inr (.inr (fun i => if i < 8 then some (f i) else none)))))) H1 := by
    show H1[H.size]? = some (vp_cell _ _)
    rw [e1, vp_cell_q]
    unfold mz_c
    refine congrArg some ?_
    congr 1
    funext j
    by_cases hj : j < 8
    · rw [if_pos hj, if_pos hj, hf]; rfl
    · rw [if_neg hj, if_neg hj]; rfl
  refine k H1 (locs ++ L) ls (by omega) ((hP.kept fun k q h => o1 q.1 (hlt k q h)).app fun k q h => ?_) (D_ext (N := 9) hD hlt rfl (fun q hq => hA q (Nat.le_trans hS.1 hq))) ⟨Nat.le_trans hS.1 (by omega), fun x h1 h2 => (o1 x (Nat.lt_of_lt_of_le h1 hS.1)).trans (hS.2.1 x h1 h2), fun q hq => ?_⟩ hl
  · rcases k with _ | _ | _ | _ | _ | _ | _ | _ | _ | k
    · cases h; exact outer
    · cases h; exact inner 0 (by decide)
    · cases h; exact inner 1 (by decide)
    · cases h; exact inner 2 (by decide)
    · cases h; exact inner 3 (by decide)
    · cases h; exact inner 4 (by decide)
    · cases h; exact inner 5 (by decide)
    · cases h; exact inner 6 (by decide)
    · cases h; exact inner 7 (by decide)
    · simp at h
  · rcases List.mem_append.mp hq with z | z
    · exact hS.2.2 q z
    · rw [hL q z]; exact hA _ hS.1
theorem n_back {A : Nat → Prop} {p : Program} {e : Env} {s : State} {m : MethodId} {args : Array Value} {below : List Frame} {meth : Method} {c : Code} {Q : State → Prop} {H : Heap} {locs : List Loc} {ls : Array Slot} {a N ms : Nat} {e0 e1 : va_E} {w2 wr : va_W} {pc0 : Nat} {st0 st1 : List Value} {av : Array Value}
    (hP : va_P D vwCl (wr ++ [(a, e0)]) H) (hD : va_D A (wr ++ [(a, e0)])) (hS : va_S A s.heap H locs) (hA : ∀ q, s.heap.size ≤ q → A q) (hw2 : w2.map Prod.fst = (List.range N).map (fun k => H.size + k)) (hl : lv_has ls nL lv)
    (hrun : va_Run p l e R s m args below meth c H locs ce sl N ms (F0 m pc0 ls st0) st1 (Qn D a H.size N ((a, e1) :: w2) av) (fun q => q = a ∨ H.size ≤ q))
    (k : GN p l e R s m args below meth c Q nL D A (wr ++ ((a, e1) :: w2)) (H.size + N) (ce + N) (sl + ms) (pc0 + 3) lv st1) : W p l e R s m args below meth c H locs ce sl Q (F0 m pc0 ls st0) := by
  have ha : (wr ++ [(a, e0)])[wr.length]? = some (a, e0) := by rw [List.getElem?_append_right (Nat.le_refl _)]; simp
  have hAa : A a := hD.2 _ _ ha
  have hAll : ∀ q, (q = a ∨ H.size ≤ q) → A q := fun q h => by
    rcases h with rfl | h
    · exact hAa
    · exact hA q (Nat.le_trans hS.1 h)
  refine va_callv (A1 := fun q => q = a ∨ H.size ≤ q) hrun hS (fun q _ h => hAll q h) hAll (fun u t H1 locs1 ht hvm _ hB hz hk hS1 => ?_)
  obtain ⟨hsz, hP1⟩ := hB
  rw [ht] at hsz hP1
  have hltr : ∀ (k : Nat) (q : Nat × va_E), wr[k]? = some q → q.1 < H.size ∧ q.1 ≠ a := fun k q h => by
    have hkl := (List.getElem?_eq_some_iff.mp h).1
    have h' : (wr ++ [(a, e0)])[k]? = some q := by rw [List.getElem?_append_left hkl]; exact h
    refine ⟨(hP k q h').lt, fun ea => ?_⟩
    have := hD.1 k wr.length q _ h' ha ea
    omega
  have hPr : va_P D vwCl wr H1 := fun k q h => by
    have hkl := (List.getElem?_eq_some_iff.mp h).1
    obtain ⟨z1, z2⟩ := hltr k q h
    exact (hP k q (by rw [List.getElem?_append_left hkl]; exact h)).kept (hk q.1 z1 (fun r => by
      rcases r with r | r
      · exact z2 r
      · omega))
  have hD1 : va_D A (wr ++ [(a, e1)]) := D_map hD (by simp)
  have hD2 : va_D A ((wr ++ [(a, e1)]) ++ w2) := D_ext hD1 (fun k q h => by
    by_cases hkl : k < wr.length
    · rw [List.getElem?_append_left hkl] at h
      exact (hltr k q h).1
    · rw [List.getElem?_append_right (by omega)] at h
      have hz2 : k - wr.length < 1 := (List.getElem?_eq_some_iff.mp h).1
      rw [show k - wr.length = 0 by omega] at h
      cases h
      exact (hP _ _ ha).lt) hw2 (fun q hq => hA q (Nat.le_trans hS.1 hq))
  rw [List.append_assoc] at hD2
  exact k H1 locs1 ls hsz (hPr.app hP1) hD2 hS1 hl
theorem n_pre {s : State} {H : Heap} {a : Nat} {e0 : va_E} {wr : va_W} (hP : va_P D vwCl (wr ++ [(a, e0)]) H) (hK : va_K D vwCl (tyA dA) s) (hN : NW s) (hM : MA dA s) : PreS s H (Pn D dA a H.size e0) [.ref a] := ⟨Pn.blind, fun U hU hW => ⟨rfl, by rw [hU], fun k q h => by
    rw [hU]
    rcases k with _ | k
    · cases h
      exact hP wr.length _ (by rw [List.getElem?_append_right (Nat.le_refl _)]; simp)
    · simp at h, va_K.moved hW.alike hK, hN.warm hW, hM.moved hW.alike⟩⟩
theorem n_call (C : CN ini K l D dA cc own nL R) {y : MethodName} {bytes : ByteArray} {maxL idx : Nat} {rm : Room} {a N ms : Nat} {e0 e1 : va_E} {w2 wr : va_W} (hM : Met l y (Cond.code y bytes maxL none :: lw_all) rm (Pn D dA a n e0) (Qn D a n N ((a, e1) :: w2)) N ms (fun q => q = a ∨ n ≤ q)) (hy : y.name = "<init>") (m1 : Cond.methodLink own idx y ∈ lw_all) (m2 : Cond.instanceMethod y ∈ lw_all) (m3 : Cond.initialized y.cls ∈ lw_all) (m5 : Cond.code y bytes maxL none ∈ lw_all) (hdY : y.cls ≠ "java/lang/invoke/MethodHandle" ∧ y.cls ≠ "java/lang/invoke/VarHandle" ∧ (parseMethodDescriptor y.desc).map (fun d => d.parameters.length) = some 0) (hrc : rm.cells = N) (hrs : rm.slots = ms) (hR : rm.frames + 1 ≤ R.frames ∧ 8 + (maxL + 11) + rm.locals ≤ R.locals) (hws : ws = wr ++ [(a, e0)]) (hw2 : w2.map Prod.fst = (List.range N).map (fun k => n + k)) (hcs : ce + N ≤ R.cells ∧ sl + ms ≤ R.slots) (hd : decode cc pc = .ok (.invokespecial idx, 3)) (hroom : (st.map fun v => v.category).sum ≤ 8) {ws' : va_W} {n' ce' sl' : Nat} (ew : wr ++ ((a, e1) :: w2) = ws') (en : n + N = n') (e3 : ce + N = ce') (e4 : sl + ms = sl') (k : K ws' n' ce' sl' (pc + 3) lv st) : K ws n ce sl pc lv (.ref a :: st) := by
  obtain ⟨p, e, s, m, args, below, meth, c, Q, A, rfl, hx, hb, hml, hown, hts, hK, hNW, hMA, hin, hA⟩ := C
  intro H locs ls hn hP hD hS hl
  subst ew en e3 e4 hws hn
  exact n_back hP hD hS hA hw2 hl (va_runI (As := []) (rest := st) ⟨hx, hb, hml, hown, hts⟩ hM (cwI 0 hts (gw_C m5) rfl hrc hrs (hts _ m3) (hts _ m1) (hts _ m2) hy hdY hR) (n_pre hP hK hNW hMA) rfl rfl hl.1 rfl (lv_room hroom) hd hcs) k
theorem n_callN (C : CN ini K l D dA cc own nL R) {y : MethodName} {host : String} {bytes : ByteArray} {maxL idx : Nat} {rm : Room} {a N ms : Nat} {e0 e1 : va_E} {w2 wr : va_W} (hM : Met l y (Cond.code y bytes maxL none :: lw_all) rm (Pn D dA a n e0) (Qn D a n N ((a, e1) :: w2)) N ms (fun q => q = a ∨ n ≤ q)) (hy : y.name = "<init>") (m1 : Cond.methodLinkNest own idx y host ∈ lw_nest) (m2 : Cond.instanceMethod y ∈ lw_all) (m3 : Cond.initialized y.cls ∈ lw_all) (m5 : Cond.code y bytes maxL none ∈ lw_all) (hdY : y.cls ≠ "java/lang/invoke/MethodHandle" ∧ y.cls ≠ "java/lang/invoke/VarHandle" ∧ (parseMethodDescriptor y.desc).map (fun d => d.parameters.length) = some 0) (hrc : rm.cells = N) (hrs : rm.slots = ms) (hR : rm.frames + 1 ≤ R.frames ∧ 8 + (maxL + 11) + rm.locals ≤ R.locals) (hws : ws = wr ++ [(a, e0)]) (hw2 : w2.map Prod.fst = (List.range N).map (fun k => n + k)) (hcs : ce + N ≤ R.cells ∧ sl + ms ≤ R.slots) (hd : decode cc pc = .ok (.invokespecial idx, 3)) (hroom : (st.map fun v => v.category).sum ≤ 8) {ws' : va_W} {n' ce' sl' : Nat} (ew : wr ++ ((a, e1) :: w2) = ws') (en : n + N = n') (e3 : ce + N = ce') (e4 : sl + ms = sl') (k : K ws' n' ce' sl' (pc + 3) lv st) : K ws n ce sl pc lv (.ref a :: st) := by
  obtain ⟨p, e, s, m, args, below, meth, c, Q, A, rfl, hx, hb, hml, hown, hts, hK, hNW, hMA, hin, hA⟩ := C
  intro H locs ls hn hP hD hS hl
  subst ew en e3 e4 hws hn
  exact n_back hP hD hS hA hw2 hl (va_runIN (As := []) (rest := st) ⟨hx, hb, hml, hown, hts⟩ hM ⟨va_cnB 0 hts (gw_C m5) rfl hrc hrs (hNW _ m1) (hts _ m3) hdY hR, hy, hts _ m2⟩ (n_pre hP hK hNW hMA) rfl rfl hl.1 rfl (lv_room hroom) hd hcs) k
end RULES
end
