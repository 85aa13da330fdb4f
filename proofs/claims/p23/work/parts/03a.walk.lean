/-! what the printed walks use -/
theorem vp_lit {i : Int32} {n : Nat} (h : ¬ (i < 0 ∨ n ≤ i.toNatClampNeg)) : vp_in i n := h
theorem vp_lt {i : Int32} {n : Nat} (h : vp_in i n) : i.toNatClampNeg < n := Nat.not_le.mp fun q => h (Or.inr q)
theorem nI_1s (x : Int32) (j : Nat) : x + nI j + 1 = x + nI (j + 1) := by rw [Int32.add_assoc, nI_1]
theorem i32_ne {x c : Int32} {n : Int} (hc : c.toInt = n) (h : ¬ x = c) : ¬ x.toInt = n := fun e => h (Int32.toInt_inj.mp (e.trans hc.symm))
def i_abs (x : Int32) : Int32 := if 0 ≤ x then x else 0 - x
theorem zo_ite {c : Prop} [Decidable c] {a b : Int32} (ha : a = 0 ∨ a = 1) (hb : b = 0 ∨ b = 1) : (if c then a else b) = 0 ∨ (if c then a else b) = 1 := by
  by_cases h : c
  · rw [if_pos h]; exact ha
  · rw [if_neg h]; exact hb
/-- a loop with a counter: its state behind n rounds -/
def loopF {τ : Type} (B : Nat → τ → τ) : Nat → τ → τ
  | 0, s => s
  | n + 1, s => B n (loopF B n s)
theorem loopF_ind {τ : Type} (B : Nat → τ → τ) (N : Nat) (KH : Nat → τ → Prop) (I : τ) (step : ∀ (j : Nat) (s : τ), j < N → (∀ s' : τ, B j s = s' → KH (j + 1) s') → KH j s) (done : KH N (loopF B N I)) : KH 0 I := by
  have key : ∀ n j : Nat, j + n = N → KH j (loopF B j I) := by
    intro n
    induction n with
    | zero => intro j h; rw [show j = N by omega]; exact done
    | succ n ih => intro j h; exact step j _ (by omega) (fun s' e => by rw [← e]; exact ih (j + 1) (by omega))
  exact key N 0 (by omega)
/-- a loop that may end with an answer -/
def loopE {ρ τ : Type} (B : Nat → τ → ρ ⊕ τ) : Nat → Nat → τ → ρ ⊕ τ
  | 0, _, s => .inr s
  | n + 1, j, s => match B j s with
    | .inl r => .inl r
    | .inr s' => loopE B n (j + 1) s'
theorem loopE_inl {ρ τ : Type} {B : Nat → τ → ρ ⊕ τ} (n : Nat) {j : Nat} {s : τ} {r : ρ} (h : B j s = .inl r) : loopE B (n + 1) j s = .inl r := by
  simp only [loopE, h]
theorem loopE_inr {ρ τ : Type} {B : Nat → τ → ρ ⊕ τ} (n : Nat) {j : Nat} {s s' : τ} (h : B j s = .inr s') : loopE B (n + 1) j s = loopE B n (j + 1) s' := by
  simp only [loopE, h]
theorem loopE_ind {ρ τ : Type} (B : Nat → τ → ρ ⊕ τ) (N : Nat) (KH : Nat → τ → Prop) (I : τ) (step : ∀ (n j : Nat) (s : τ), j + (n + 1) = N → loopE B N 0 I = loopE B (n + 1) j s → (∀ s' : τ, B j s = .inr s' → KH (j + 1) s') → KH j s) (done : ∀ s : τ, loopE B N 0 I = .inr s → KH N s) : KH 0 I := by
  have key : ∀ (n j : Nat) (s : τ), j + n = N → loopE B N 0 I = loopE B n j s → KH j s := by
    intro n
    induction n with
    | zero => intro j s h hF; rw [show j = N by omega]; exact done s hF
    | succ n ih => intro j s h hF; exact step n j s h hF (fun s' e => ih (j + 1) s' (by omega) (hF.trans (loopE_inr n e)))
  exact key N 0 I (by omega) rfl
def sumE {ρ τ : Type} (x : ρ ⊕ τ) (f : τ → ρ) : ρ := match x with
  | .inl r => r
  | .inr s => f s
theorem sumE_inl {ρ τ : Type} {x : ρ ⊕ τ} {f : τ → ρ} {r : ρ} (h : x = .inl r) : sumE x f = r := by rw [h]; rfl
theorem sumE_inr {ρ τ : Type} {x : ρ ⊕ τ} {f : τ → ρ} {s : τ} (h : x = .inr s) : sumE x f = f s := by rw [h]; rfl
def sumB {ρ τ υ : Type} (x : ρ ⊕ τ) (f : τ → ρ ⊕ υ) : ρ ⊕ υ := match x with
  | .inl r => .inl r
  | .inr s => f s
theorem sumB_inl {ρ τ υ : Type} {x : ρ ⊕ τ} {f : τ → ρ ⊕ υ} {r : ρ} (h : x = .inl r) : sumB x f = .inl r := by rw [h]; rfl
theorem sumB_inr {ρ τ υ : Type} {x : ρ ⊕ τ} {f : τ → ρ ⊕ υ} {s : τ} (h : x = .inr s) : sumB x f = f s := by rw [h]; rfl
theorem ofWF {cs : List Choice} {l : Launch} {y : MethodName} {ws ws' : List Cond} {rm : Room} {Pc : Array Value → State → Prop} {Qc : Array Value → State → Outcome → State → Prop} {mc ms : Nat} {free : Addr → Prop} {cc : ByteArray} {maxL : Nat} {ret : Option FieldType}
    (hy : plainFor y = true) (hw : ws = Cond.code y cc maxL ret :: ws')
    (body : ∀ p e s m args below meth c s₁, BodyLoose p l y (headSpec ws rm) cc maxL ret e s m args below meth c s₁ → c.maxLocals = maxL → Pc args s → s.drawn.sameBut s.drawn cs →
      W p l e (headSpec ws rm).room (s.setDrawn s.drawn) m args below meth c s.heap [] 0 0 (MQD cs below Qc args s mc ms free) (entryFrame m args maxL)) : MetD cs l y ws rm Pc Qc mc ms free := by
  refine MetFree.of_bodySF (code := cc) (maxLocals := maxL) (ret := ret) hy ?_ ?_
  · intro args s m h hn
    obtain ⟨meth, c, h1, h2, h3, h4, h5, h6, -, -⟩ := Cond.code_spec hn (atoms_spec (ws := ws) h _ (by rw [hw]; exact List.mem_cons_self))
    exact ⟨meth, c, h1, h2, h3, h4, h5, h6⟩
  · intro p e s m args below meth c s₁ B hml hP _
    have hh0 : s₁.heap = s.heap := by rw [B.state]; rfl
    have X0 : Stand p l e (headSpec ws rm).room (s.setDrawn s.drawn) m args below meth c s₁ [] 0 0 := Stand.of_body B
    obtain ⟨t, a1, d, hd, o, b1, b2, b3, b4⟩ := body p e s m args below meth c s₁ B hml hP (Drawn.sameBut.refl _ _) s₁ hh0 X0
    exact ⟨t, o, a1, b1, b2, d, hd, b3, b4⟩
/-- the same for a method of the JDK's -/
theorem mk_MCF {l : Launch} {D : va_G} {ad : Nat → Nat} {dA : Nat → ClassId} {z0 : Nat} {tt : Nat → Nat} {y : MethodName} {rm : Room} {As : List Value} {σ : Sg} {φ : Fl} {P : Option Value → Sg → Fl → Prop} {cc : ByteArray} {nL : Nat} {ret : Option FieldType} (hy : plainFor y = true) (hlen : (lg_sl As).length ≤ nL)
    (body : ∀ K : KT, Cx K l D ad dA z0 tt cc y.cls nL rm →
      (∀ (v : Int32) (ty : FieldType) (σ' : Sg) (φ' : Fl) (pc : Nat) (lv : List (Nat × Value)), ret = some ty → decode cc pc = .ok (.ireturn, 1) → narrow ty (.int v) = .int v → P (some (.int v)) σ' φ' → K σ' φ' pc lv [.int v]) →
      (∀ (v : UInt32) (σ' : Sg) (φ' : Fl) (pc : Nat) (lv : List (Nat × Value)), ret = some .float → decode cc pc = .ok (.freturn, 1) → P (some (.float v)) σ' φ' → K σ' φ' pc lv [.float v]) →
      (∀ (σ' : Sg) (φ' : Fl) (pc : Nat) (lv : List (Nat × Value)), ret = none → decode cc pc = .ok (.return_, 1) → P none σ' φ' → K σ' φ' pc lv []) → K σ φ 0 (lv_args 0 As) []) :
    MC l D ad dA z0 tt y (Cond.code y cc nL ret :: lw_all) rm As σ φ P := by
  refine ofWF (cc := cc) (maxL := nL) (ret := ret) hy rfl ?_
  intro p e s m args below meth c s₁ B hml hv hd0
  obtain ⟨⟨As0, rfl, hAs⟩, hE, hWd⟩ := hv
  have hx := B.exec
  have hb := B.bytes
  have hr := B.returns
  have hts := atoms_spec (ws := Cond.code y cc nL ret :: lw_all) B.pre
  have hown : s.vm.findClass y.cls = some m.cls := findClass_of_methodNamed B.named
  have hlocks := B.notSynchronized
  have hl := lv_entry As0 (n := nL) (by rw [alS_sl hAs]; exact hlen)
  rw [lg_entry_eq]
  have key := body (GK p l e (headSpec (Cond.code y cc nL ret :: lw_all) rm).room s m As0.toArray below meth c (MQD lw_cs below (QcG D ad dA z0 P) As0.toArray s 0 0 (fun q => z0 ≤ q)) nL z0 D ad dA 0 0)
    ⟨p, e, s, m, As0.toArray, below, meth, c, _, 0, 0, rfl, hx, hb, hml, hown, fun w h => hts w (List.mem_cons_of_mem _ h), hE, Nat.zero_le _, Nat.zero_le _⟩ ?_ ?_ ?_
  · exact key s.drawn s.heap [] _ _ [] hd0 hWd va_S.rf hl (alL_args 0 hAs) True.intro
  · intro v ty σ' φ' pc lv e1 hdg hn hP d H locs ls l0 st0 hd hW hS hls hL hs
    obtain ⟨st1, rfl, hs1⟩ := alS_int hs
    cases alS_nil hs1
    refine W.endD hd ?_
    exact W.zret hx hb (hr.trans e1) hn (fun t ht hWm => ⟨⟨some (.int v), some (.int v), σ', φ', rfl, alS_rf _, hP, by rw [ht]; exact hW⟩, hS.F ht⟩) hS.2.2 hdg hlocks
  · intro v σ' φ' pc lv e1 hdg hP d H locs ls l0 st0 hd hW hS hls hL hs
    obtain ⟨a, st1, rfl, ha, hs1⟩ := alS_flt hs
    cases alS_nil hs1
    refine W.endD hd ?_
    exact W.fret hx hb (hr.trans e1) (fun t ht hWm => ⟨⟨some (.float a), some (.float v), σ', φ', rfl, ⟨⟨a, rfl, ha⟩, True.intro⟩, hP, by rw [ht]; exact hW⟩, hS.F ht⟩) hS.2.2 hdg hlocks
  · intro σ' φ' pc lv e1 hdg hP d H locs ls l0 st0 hd hW hS hls hL hs
    cases alS_nil hs
    refine W.endD hd ?_
    exact W.vret hx hb (hr.trans e1) (fun t ht hWm => ⟨⟨none, none, σ', φ', rfl, True.intro, hP, by rw [ht]; exact hW⟩, hS.F ht⟩) hS.2.2 hdg hlocks
section NAMING
variable {K : KT} {l : Launch} {D : va_G} {ad : Nat → Nat} {dA : Nat → ClassId} {z0 : Nat} {tt : Nat → Nat} {cc : ByteArray} {own : String} {nL : Nat} {R : Room} {σ : Sg} {φ : Fl} {pc : Nat} {lv : List (Nat × Value)} {st : List Value}
theorem g_nmi (C : Cx K l D ad dA z0 tt cc own nL R) {x : Int32} (k : ∀ y : Int32, x = y → K σ φ pc lv (.int y :: st)) : K σ φ pc lv (.int x :: st) := k x rfl
theorem g_nmf (C : Cx K l D ad dA z0 tt cc own nL R) {x : UInt32} (k : ∀ y : UInt32, x = y → K σ φ pc lv (.float y :: st)) : K σ φ pc lv (.float x :: st) := k x rfl
theorem g_nms (C : Cx K l D ad dA z0 tt cc own nL R) (k : ∀ s : Sg, σ = s → K s φ pc lv st) : K σ φ pc lv st := k σ rfl
theorem g_nmp (C : Cx K l D ad dA z0 tt cc own nL R) (k : ∀ s : Fl, φ = s → K σ s pc lv st) : K σ φ pc lv st := k φ rfl
theorem g_absn (C : Cx K l D ad dA z0 tt cc own nL R) {x : Int32} (k : K σ φ pc lv (.int (i_abs x) :: st)) : K σ φ pc lv (.int (if 0 ≤ x then x else 0 - x) :: st) := k
theorem g_getsN (C : Cx K l D ad dA z0 tt cc own nL R) {C0 n0 d0 ref host : String} {v : Value} {index : Nat} (hZ : ∀ (s : State), STz tt (fun q => z0 ≤ q) s s.heap → va_Z C0 n0 d0 v (fun q => z0 ≤ q) s s.heap) (hlink : Cond.fieldLinkNest own index ref n0 d0 host ∈ lw_nest) (hsame : ref = C0) (hd : decode cc pc = .ok (.getstatic index, 3)) (k : K σ φ (pc + 3) lv (v :: st)) : K σ φ pc lv st := by
  obtain ⟨p, e, s, m, args, below, meth, c, Q, cells, slots, rfl, hx, hb, hml, hown, hts, hE, hcl, hsl⟩ := C
  intro d H locs ls l0 st0 hd0 hW hS hls hL hs
  subst hsame
  exact va_getsN (s := s.setDrawn d) hx hb (hZ (s.setDrawn d) (hE.drawn d).2.2.1) hS hown (nest_at hE.2.1 hlink rfl d) (fun _ h => h) hd (k d H locs ls l0 _ hd0 hW hS hls hL ⟨alV_rf v, hs⟩)
end NAMING
theorem hZ0 {tt : Nat → Nat} {z0 : Nat} (s : State) (h : STz tt (fun q => z0 ≤ q) s s.heap) : va_Z "CompositeDecoder" "SINE" "[I" (.ref (tt 0)) (fun q => z0 ≤ q) s s.heap := h.1.1
theorem hT0 {tt : Nat → Nat} {z0 : Nat} (s : State) (h : STz tt (fun q => z0 ≤ q) s s.heap) : va_T .int (tt 0) 4 (fun j => .int (sa_0 j)) (fun q => z0 ≤ q) s s.heap := h.1.2
theorem hZ1 {tt : Nat → Nat} {z0 : Nat} (s : State) (h : STz tt (fun q => z0 ≤ q) s s.heap) : va_Z "CompositeDecoder" "COSINE" "[I" (.ref (tt 1)) (fun q => z0 ≤ q) s s.heap := h.2.1.1
theorem hT1 {tt : Nat → Nat} {z0 : Nat} (s : State) (h : STz tt (fun q => z0 ≤ q) s s.heap) : va_T .int (tt 1) 4 (fun j => .int (sa_1 j)) (fun q => z0 ≤ q) s s.heap := h.2.1.2
theorem hZ2 {tt : Nat → Nat} {z0 : Nat} (s : State) (h : STz tt (fun q => z0 ≤ q) s s.heap) : va_Z "CompositeDecoder$BarText" "LETTERS" "[C" (.ref (tt 2)) (fun q => z0 ≤ q) s s.heap := h.2.2.1.1
theorem hT2 {tt : Nat → Nat} {z0 : Nat} (s : State) (h : STz tt (fun q => z0 ≤ q) s s.heap) : va_T .char (tt 2) 8 (fun j => .int (sa_2 j)) (fun q => z0 ≤ q) s s.heap := h.2.2.1.2
theorem hZ3 {tt : Nat → Nat} {z0 : Nat} (s : State) (h : STz tt (fun q => z0 ≤ q) s s.heap) : va_Z "CompositeDecoder$BarText" "BAR_LUMAS" "[I" (.ref (tt 3)) (fun q => z0 ≤ q) s s.heap := h.2.2.2.1.1
theorem hT3 {tt : Nat → Nat} {z0 : Nat} (s : State) (h : STz tt (fun q => z0 ≤ q) s s.heap) : va_T .int (tt 3) 8 (fun j => .int (sa_3 j)) (fun q => z0 ≤ q) s s.heap := h.2.2.2.1.2
theorem hZ4 {tt : Nat → Nat} {z0 : Nat} (s : State) (h : STz tt (fun q => z0 ≤ q) s s.heap) : va_Z "CompositeDecoder$BarText" "BAR_US" "[I" (.ref (tt 4)) (fun q => z0 ≤ q) s s.heap := h.2.2.2.2.1.1
theorem hT4 {tt : Nat → Nat} {z0 : Nat} (s : State) (h : STz tt (fun q => z0 ≤ q) s s.heap) : va_T .int (tt 4) 8 (fun j => .int (sa_4 j)) (fun q => z0 ≤ q) s s.heap := h.2.2.2.2.1.2
theorem hZ5 {tt : Nat → Nat} {z0 : Nat} (s : State) (h : STz tt (fun q => z0 ≤ q) s s.heap) : va_Z "CompositeDecoder$BarText" "BAR_VS" "[I" (.ref (tt 5)) (fun q => z0 ≤ q) s s.heap := h.2.2.2.2.2.1.1
theorem hT5 {tt : Nat → Nat} {z0 : Nat} (s : State) (h : STz tt (fun q => z0 ≤ q) s s.heap) : va_T .int (tt 5) 8 (fun j => .int (sa_5 j)) (fun q => z0 ≤ q) s s.heap := h.2.2.2.2.2.1.2
theorem hZ6 {tt : Nat → Nat} {z0 : Nat} (s : State) (h : STz tt (fun q => z0 ≤ q) s s.heap) : va_Z "CompositeDecoder$Settings" "LOWEST" "[I" (.ref (tt 6)) (fun q => z0 ≤ q) s s.heap := h.2.2.2.2.2.2.1.1
theorem hT6 {tt : Nat → Nat} {z0 : Nat} (s : State) (h : STz tt (fun q => z0 ≤ q) s s.heap) : va_T .int (tt 6) 4 (fun j => .int (sa_6 j)) (fun q => z0 ≤ q) s s.heap := h.2.2.2.2.2.2.1.2
theorem hZ7 {tt : Nat → Nat} {z0 : Nat} (s : State) (h : STz tt (fun q => z0 ≤ q) s s.heap) : va_Z "CompositeDecoder$Settings" "HIGHEST" "[I" (.ref (tt 7)) (fun q => z0 ≤ q) s s.heap := h.2.2.2.2.2.2.2.1.1
theorem hT7 {tt : Nat → Nat} {z0 : Nat} (s : State) (h : STz tt (fun q => z0 ≤ q) s s.heap) : va_T .int (tt 7) 4 (fun j => .int (sa_7 j)) (fun q => z0 ≤ q) s s.heap := h.2.2.2.2.2.2.2.1.2
theorem hT8 {tt : Nat → Nat} {z0 : Nat} (s : State) (h : STz tt (fun q => z0 ≤ q) s s.heap) : va_T .int (tt 8) (tt 9) (fun j => .int (sa_8 tt j)) (fun q => z0 ≤ q) s s.heap := h.2.2.2.2.2.2.2.2
theorem dyV_X0_append : yX0_append.cls = "CompositeDecoder$BarText" ∧ yX0_append.cls ≠ "java/lang/invoke/MethodHandle" ∧ yX0_append.cls ≠ "java/lang/invoke/VarHandle" ∧ (parseMethodDescriptor yX0_append.desc).map (fun d => d.parameters.length) = some 1 := by decide +kernel
theorem dyS_X0_append : yX0_append.cls ≠ "java/lang/invoke/MethodHandle" ∧ yX0_append.cls ≠ "java/lang/invoke/VarHandle" ∧ (parseMethodDescriptor yX0_append.desc).map (fun d => d.parameters.length) = some 1 := by decide +kernel
theorem dyV_X0_parse : yX0_parse.cls = "CompositeDecoder$BarText" ∧ yX0_parse.cls ≠ "java/lang/invoke/MethodHandle" ∧ yX0_parse.cls ≠ "java/lang/invoke/VarHandle" ∧ (parseMethodDescriptor yX0_parse.desc).map (fun d => d.parameters.length) = some 0 := by decide +kernel
theorem dyS_X0_parse : yX0_parse.cls ≠ "java/lang/invoke/MethodHandle" ∧ yX0_parse.cls ≠ "java/lang/invoke/VarHandle" ∧ (parseMethodDescriptor yX0_parse.desc).map (fun d => d.parameters.length) = some 0 := by decide +kernel
theorem dyV_X0_repeatBar : yX0_repeatBar.cls = "CompositeDecoder$BarText" ∧ yX0_repeatBar.cls ≠ "java/lang/invoke/MethodHandle" ∧ yX0_repeatBar.cls ≠ "java/lang/invoke/VarHandle" ∧ (parseMethodDescriptor yX0_repeatBar.desc).map (fun d => d.parameters.length) = some 2 := by decide +kernel
theorem dyS_X0_repeatBar : yX0_repeatBar.cls ≠ "java/lang/invoke/MethodHandle" ∧ yX0_repeatBar.cls ≠ "java/lang/invoke/VarHandle" ∧ (parseMethodDescriptor yX0_repeatBar.desc).map (fun d => d.parameters.length) = some 2 := by decide +kernel
theorem dyV_X0_paintBar : yX0_paintBar.cls = "CompositeDecoder$BarText" ∧ yX0_paintBar.cls ≠ "java/lang/invoke/MethodHandle" ∧ yX0_paintBar.cls ≠ "java/lang/invoke/VarHandle" ∧ (parseMethodDescriptor yX0_paintBar.desc).map (fun d => d.parameters.length) = some 3 := by decide +kernel
theorem dyS_X0_paintBar : yX0_paintBar.cls ≠ "java/lang/invoke/MethodHandle" ∧ yX0_paintBar.cls ≠ "java/lang/invoke/VarHandle" ∧ (parseMethodDescriptor yX0_paintBar.desc).map (fun d => d.parameters.length) = some 3 := by decide +kernel
theorem dyV_X0_barOf : yX0_barOf.cls = "CompositeDecoder$BarText" ∧ yX0_barOf.cls ≠ "java/lang/invoke/MethodHandle" ∧ yX0_barOf.cls ≠ "java/lang/invoke/VarHandle" ∧ (parseMethodDescriptor yX0_barOf.desc).map (fun d => d.parameters.length) = some 1 := by decide +kernel
theorem dyS_X0_barOf : yX0_barOf.cls ≠ "java/lang/invoke/MethodHandle" ∧ yX0_barOf.cls ≠ "java/lang/invoke/VarHandle" ∧ (parseMethodDescriptor yX0_barOf.desc).map (fun d => d.parameters.length) = some 1 := by decide +kernel
theorem dyV_X0_digitOf : yX0_digitOf.cls = "CompositeDecoder$BarText" ∧ yX0_digitOf.cls ≠ "java/lang/invoke/MethodHandle" ∧ yX0_digitOf.cls ≠ "java/lang/invoke/VarHandle" ∧ (parseMethodDescriptor yX0_digitOf.desc).map (fun d => d.parameters.length) = some 1 := by decide +kernel
theorem dyS_X0_digitOf : yX0_digitOf.cls ≠ "java/lang/invoke/MethodHandle" ∧ yX0_digitOf.cls ≠ "java/lang/invoke/VarHandle" ∧ (parseMethodDescriptor yX0_digitOf.desc).map (fun d => d.parameters.length) = some 1 := by decide +kernel
theorem dyV_X1_measure : yX1_measure.cls = "CompositeDecoder$Bursts" ∧ yX1_measure.cls ≠ "java/lang/invoke/MethodHandle" ∧ yX1_measure.cls ≠ "java/lang/invoke/VarHandle" ∧ (parseMethodDescriptor yX1_measure.desc).map (fun d => d.parameters.length) = some 3 := by decide +kernel
theorem dyS_X1_measure : yX1_measure.cls ≠ "java/lang/invoke/MethodHandle" ∧ yX1_measure.cls ≠ "java/lang/invoke/VarHandle" ∧ (parseMethodDescriptor yX1_measure.desc).map (fun d => d.parameters.length) = some 3 := by decide +kernel
theorem dyV_X1_sumUp : yX1_sumUp.cls = "CompositeDecoder$Bursts" ∧ yX1_sumUp.cls ≠ "java/lang/invoke/MethodHandle" ∧ yX1_sumUp.cls ≠ "java/lang/invoke/VarHandle" ∧ (parseMethodDescriptor yX1_sumUp.desc).map (fun d => d.parameters.length) = some 3 := by decide +kernel
theorem dyS_X1_sumUp : yX1_sumUp.cls ≠ "java/lang/invoke/MethodHandle" ∧ yX1_sumUp.cls ≠ "java/lang/invoke/VarHandle" ∧ (parseMethodDescriptor yX1_sumUp.desc).map (fun d => d.parameters.length) = some 3 := by decide +kernel
theorem dyV_X1_countPair : yX1_countPair.cls = "CompositeDecoder$Bursts" ∧ yX1_countPair.cls ≠ "java/lang/invoke/MethodHandle" ∧ yX1_countPair.cls ≠ "java/lang/invoke/VarHandle" ∧ (parseMethodDescriptor yX1_countPair.desc).map (fun d => d.parameters.length) = some 2 := by decide +kernel
theorem dyS_X1_countPair : yX1_countPair.cls ≠ "java/lang/invoke/MethodHandle" ∧ yX1_countPair.cls ≠ "java/lang/invoke/VarHandle" ∧ (parseMethodDescriptor yX1_countPair.desc).map (fun d => d.parameters.length) = some 2 := by decide +kernel
theorem dyV_X1_guessedStandard : yX1_guessedStandard.cls = "CompositeDecoder$Bursts" ∧ yX1_guessedStandard.cls ≠ "java/lang/invoke/MethodHandle" ∧ yX1_guessedStandard.cls ≠ "java/lang/invoke/VarHandle" ∧ (parseMethodDescriptor yX1_guessedStandard.desc).map (fun d => d.parameters.length) = some 0 := by decide +kernel
theorem dyS_X1_guessedStandard : yX1_guessedStandard.cls ≠ "java/lang/invoke/MethodHandle" ∧ yX1_guessedStandard.cls ≠ "java/lang/invoke/VarHandle" ∧ (parseMethodDescriptor yX1_guessedStandard.desc).map (fun d => d.parameters.length) = some 0 := by decide +kernel
theorem dyV_X2_turn : yX2_turn.cls = "CompositeDecoder$Colors" ∧ yX2_turn.cls ≠ "java/lang/invoke/MethodHandle" ∧ yX2_turn.cls ≠ "java/lang/invoke/VarHandle" ∧ (parseMethodDescriptor yX2_turn.desc).map (fun d => d.parameters.length) = some 4 := by decide +kernel
theorem dyS_X2_turn : yX2_turn.cls ≠ "java/lang/invoke/MethodHandle" ∧ yX2_turn.cls ≠ "java/lang/invoke/VarHandle" ∧ (parseMethodDescriptor yX2_turn.desc).map (fun d => d.parameters.length) = some 4 := by decide +kernel
theorem dyV_X2_turnSegment : yX2_turnSegment.cls = "CompositeDecoder$Colors" ∧ yX2_turnSegment.cls ≠ "java/lang/invoke/MethodHandle" ∧ yX2_turnSegment.cls ≠ "java/lang/invoke/VarHandle" ∧ (parseMethodDescriptor yX2_turnSegment.desc).map (fun d => d.parameters.length) = some 5 := by decide +kernel
theorem dyS_X2_turnSegment : yX2_turnSegment.cls ≠ "java/lang/invoke/MethodHandle" ∧ yX2_turnSegment.cls ≠ "java/lang/invoke/VarHandle" ∧ (parseMethodDescriptor yX2_turnSegment.desc).map (fun d => d.parameters.length) = some 5 := by decide +kernel
theorem dyV_X2_mixSegment : yX2_mixSegment.cls = "CompositeDecoder$Colors" ∧ yX2_mixSegment.cls ≠ "java/lang/invoke/MethodHandle" ∧ yX2_mixSegment.cls ≠ "java/lang/invoke/VarHandle" ∧ (parseMethodDescriptor yX2_mixSegment.desc).map (fun d => d.parameters.length) = some 2 := by decide +kernel
theorem dyS_X2_mixSegment : yX2_mixSegment.cls ≠ "java/lang/invoke/MethodHandle" ∧ yX2_mixSegment.cls ≠ "java/lang/invoke/VarHandle" ∧ (parseMethodDescriptor yX2_mixSegment.desc).map (fun d => d.parameters.length) = some 2 := by decide +kernel
theorem dyV_X3_separate : yX3_separate.cls = "CompositeDecoder$Combs" ∧ yX3_separate.cls ≠ "java/lang/invoke/MethodHandle" ∧ yX3_separate.cls ≠ "java/lang/invoke/VarHandle" ∧ (parseMethodDescriptor yX3_separate.desc).map (fun d => d.parameters.length) = some 4 := by decide +kernel
theorem dyS_X3_separate : yX3_separate.cls ≠ "java/lang/invoke/MethodHandle" ∧ yX3_separate.cls ≠ "java/lang/invoke/VarHandle" ∧ (parseMethodDescriptor yX3_separate.desc).map (fun d => d.parameters.length) = some 4 := by decide +kernel
theorem dyV_X3_sumUp : yX3_sumUp.cls = "CompositeDecoder$Combs" ∧ yX3_sumUp.cls ≠ "java/lang/invoke/MethodHandle" ∧ yX3_sumUp.cls ≠ "java/lang/invoke/VarHandle" ∧ (parseMethodDescriptor yX3_sumUp.desc).map (fun d => d.parameters.length) = some 2 := by decide +kernel
theorem dyS_X3_sumUp : yX3_sumUp.cls ≠ "java/lang/invoke/MethodHandle" ∧ yX3_sumUp.cls ≠ "java/lang/invoke/VarHandle" ∧ (parseMethodDescriptor yX3_sumUp.desc).map (fun d => d.parameters.length) = some 2 := by decide +kernel
theorem dyV_X3_wayFor : yX3_wayFor.cls = "CompositeDecoder$Combs" ∧ yX3_wayFor.cls ≠ "java/lang/invoke/MethodHandle" ∧ yX3_wayFor.cls ≠ "java/lang/invoke/VarHandle" ∧ (parseMethodDescriptor yX3_wayFor.desc).map (fun d => d.parameters.length) = some 4 := by decide +kernel
theorem dyS_X3_wayFor : yX3_wayFor.cls ≠ "java/lang/invoke/MethodHandle" ∧ yX3_wayFor.cls ≠ "java/lang/invoke/VarHandle" ∧ (parseMethodDescriptor yX3_wayFor.desc).map (fun d => d.parameters.length) = some 4 := by decide +kernel
theorem dyV_X3_isNear : yX3_isNear.cls = "CompositeDecoder$Combs" ∧ yX3_isNear.cls ≠ "java/lang/invoke/MethodHandle" ∧ yX3_isNear.cls ≠ "java/lang/invoke/VarHandle" ∧ (parseMethodDescriptor yX3_isNear.desc).map (fun d => d.parameters.length) = some 3 := by decide +kernel
theorem dyS_X3_isNear : yX3_isNear.cls ≠ "java/lang/invoke/MethodHandle" ∧ yX3_isNear.cls ≠ "java/lang/invoke/VarHandle" ∧ (parseMethodDescriptor yX3_isNear.desc).map (fun d => d.parameters.length) = some 3 := by decide +kernel
theorem dyV_X3_splitSegment : yX3_splitSegment.cls = "CompositeDecoder$Combs" ∧ yX3_splitSegment.cls ≠ "java/lang/invoke/MethodHandle" ∧ yX3_splitSegment.cls ≠ "java/lang/invoke/VarHandle" ∧ (parseMethodDescriptor yX3_splitSegment.desc).map (fun d => d.parameters.length) = some 5 := by decide +kernel
theorem dyS_X3_splitSegment : yX3_splitSegment.cls ≠ "java/lang/invoke/MethodHandle" ∧ yX3_splitSegment.cls ≠ "java/lang/invoke/VarHandle" ∧ (parseMethodDescriptor yX3_splitSegment.desc).map (fun d => d.parameters.length) = some 5 := by decide +kernel
theorem dyV_X3_chromaAt : yX3_chromaAt.cls = "CompositeDecoder$Combs" ∧ yX3_chromaAt.cls ≠ "java/lang/invoke/MethodHandle" ∧ yX3_chromaAt.cls ≠ "java/lang/invoke/VarHandle" ∧ (parseMethodDescriptor yX3_chromaAt.desc).map (fun d => d.parameters.length) = some 5 := by decide +kernel
theorem dyS_X3_chromaAt : yX3_chromaAt.cls ≠ "java/lang/invoke/MethodHandle" ∧ yX3_chromaAt.cls ≠ "java/lang/invoke/VarHandle" ∧ (parseMethodDescriptor yX3_chromaAt.desc).map (fun d => d.parameters.length) = some 5 := by decide +kernel
theorem dyV_X3_sampleAt : yX3_sampleAt.cls = "CompositeDecoder$Combs" ∧ yX3_sampleAt.cls ≠ "java/lang/invoke/MethodHandle" ∧ yX3_sampleAt.cls ≠ "java/lang/invoke/VarHandle" ∧ (parseMethodDescriptor yX3_sampleAt.desc).map (fun d => d.parameters.length) = some 4 := by decide +kernel
theorem dyS_X3_sampleAt : yX3_sampleAt.cls ≠ "java/lang/invoke/MethodHandle" ∧ yX3_sampleAt.cls ≠ "java/lang/invoke/VarHandle" ∧ (parseMethodDescriptor yX3_sampleAt.desc).map (fun d => d.parameters.length) = some 4 := by decide +kernel
theorem dyV_X4_find : yX4_find.cls = "CompositeDecoder$LineFinder" ∧ yX4_find.cls ≠ "java/lang/invoke/MethodHandle" ∧ yX4_find.cls ≠ "java/lang/invoke/VarHandle" ∧ (parseMethodDescriptor yX4_find.desc).map (fun d => d.parameters.length) = some 1 := by decide +kernel
theorem dyS_X4_find : yX4_find.cls ≠ "java/lang/invoke/MethodHandle" ∧ yX4_find.cls ≠ "java/lang/invoke/VarHandle" ∧ (parseMethodDescriptor yX4_find.desc).map (fun d => d.parameters.length) = some 1 := by decide +kernel
theorem dyV_X4_steer : yX4_steer.cls = "CompositeDecoder$LineFinder" ∧ yX4_steer.cls ≠ "java/lang/invoke/MethodHandle" ∧ yX4_steer.cls ≠ "java/lang/invoke/VarHandle" ∧ (parseMethodDescriptor yX4_steer.desc).map (fun d => d.parameters.length) = some 1 := by decide +kernel
theorem dyS_X4_steer : yX4_steer.cls ≠ "java/lang/invoke/MethodHandle" ∧ yX4_steer.cls ≠ "java/lang/invoke/VarHandle" ∧ (parseMethodDescriptor yX4_steer.desc).map (fun d => d.parameters.length) = some 1 := by decide +kernel
theorem dyV_X5_watch : yX5_watch.cls = "CompositeDecoder$Movement" ∧ yX5_watch.cls ≠ "java/lang/invoke/MethodHandle" ∧ yX5_watch.cls ≠ "java/lang/invoke/VarHandle" ∧ (parseMethodDescriptor yX5_watch.desc).map (fun d => d.parameters.length) = some 3 := by decide +kernel
theorem dyS_X5_watch : yX5_watch.cls ≠ "java/lang/invoke/MethodHandle" ∧ yX5_watch.cls ≠ "java/lang/invoke/VarHandle" ∧ (parseMethodDescriptor yX5_watch.desc).map (fun d => d.parameters.length) = some 3 := by decide +kernel
theorem dyV_X5_kindOf : yX5_kindOf.cls = "CompositeDecoder$Movement" ∧ yX5_kindOf.cls ≠ "java/lang/invoke/MethodHandle" ∧ yX5_kindOf.cls ≠ "java/lang/invoke/VarHandle" ∧ (parseMethodDescriptor yX5_kindOf.desc).map (fun d => d.parameters.length) = some 2 := by decide +kernel
theorem dyS_X5_kindOf : yX5_kindOf.cls ≠ "java/lang/invoke/MethodHandle" ∧ yX5_kindOf.cls ≠ "java/lang/invoke/VarHandle" ∧ (parseMethodDescriptor yX5_kindOf.desc).map (fun d => d.parameters.length) = some 2 := by decide +kernel
theorem dyV_X5_hasChanged : yX5_hasChanged.cls = "CompositeDecoder$Movement" ∧ yX5_hasChanged.cls ≠ "java/lang/invoke/MethodHandle" ∧ yX5_hasChanged.cls ≠ "java/lang/invoke/VarHandle" ∧ (parseMethodDescriptor yX5_hasChanged.desc).map (fun d => d.parameters.length) = some 2 := by decide +kernel
theorem dyS_X5_hasChanged : yX5_hasChanged.cls ≠ "java/lang/invoke/MethodHandle" ∧ yX5_hasChanged.cls ≠ "java/lang/invoke/VarHandle" ∧ (parseMethodDescriptor yX5_hasChanged.desc).map (fun d => d.parameters.length) = some 2 := by decide +kernel
theorem dyV_X6_follow : yX6_follow.cls = "CompositeDecoder$PhaseReference" ∧ yX6_follow.cls ≠ "java/lang/invoke/MethodHandle" ∧ yX6_follow.cls ≠ "java/lang/invoke/VarHandle" ∧ (parseMethodDescriptor yX6_follow.desc).map (fun d => d.parameters.length) = some 2 := by decide +kernel
theorem dyS_X6_follow : yX6_follow.cls ≠ "java/lang/invoke/MethodHandle" ∧ yX6_follow.cls ≠ "java/lang/invoke/VarHandle" ∧ (parseMethodDescriptor yX6_follow.desc).map (fun d => d.parameters.length) = some 2 := by decide +kernel
theorem dyV_X6_aimOf : yX6_aimOf.cls = "CompositeDecoder$PhaseReference" ∧ yX6_aimOf.cls ≠ "java/lang/invoke/MethodHandle" ∧ yX6_aimOf.cls ≠ "java/lang/invoke/VarHandle" ∧ (parseMethodDescriptor yX6_aimOf.desc).map (fun d => d.parameters.length) = some 3 := by decide +kernel
theorem dyS_X6_aimOf : yX6_aimOf.cls ≠ "java/lang/invoke/MethodHandle" ∧ yX6_aimOf.cls ≠ "java/lang/invoke/VarHandle" ∧ (parseMethodDescriptor yX6_aimOf.desc).map (fun d => d.parameters.length) = some 3 := by decide +kernel
theorem dyV_X7_paint : yX7_paint.cls = "CompositeDecoder$Picture" ∧ yX7_paint.cls ≠ "java/lang/invoke/MethodHandle" ∧ yX7_paint.cls ≠ "java/lang/invoke/VarHandle" ∧ (parseMethodDescriptor yX7_paint.desc).map (fun d => d.parameters.length) = some 4 := by decide +kernel
theorem dyS_X7_paint : yX7_paint.cls ≠ "java/lang/invoke/MethodHandle" ∧ yX7_paint.cls ≠ "java/lang/invoke/VarHandle" ∧ (parseMethodDescriptor yX7_paint.desc).map (fun d => d.parameters.length) = some 4 := by decide +kernel
theorem dyV_X7_sampleAt : yX7_sampleAt.cls = "CompositeDecoder$Picture" ∧ yX7_sampleAt.cls ≠ "java/lang/invoke/MethodHandle" ∧ yX7_sampleAt.cls ≠ "java/lang/invoke/VarHandle" ∧ (parseMethodDescriptor yX7_sampleAt.desc).map (fun d => d.parameters.length) = some 2 := by decide +kernel
theorem dyS_X7_sampleAt : yX7_sampleAt.cls ≠ "java/lang/invoke/MethodHandle" ∧ yX7_sampleAt.cls ≠ "java/lang/invoke/VarHandle" ∧ (parseMethodDescriptor yX7_sampleAt.desc).map (fun d => d.parameters.length) = some 2 := by decide +kernel
theorem dyV_X7_noiseAt : yX7_noiseAt.cls = "CompositeDecoder$Picture" ∧ yX7_noiseAt.cls ≠ "java/lang/invoke/MethodHandle" ∧ yX7_noiseAt.cls ≠ "java/lang/invoke/VarHandle" ∧ (parseMethodDescriptor yX7_noiseAt.desc).map (fun d => d.parameters.length) = some 2 := by decide +kernel
theorem dyS_X7_noiseAt : yX7_noiseAt.cls ≠ "java/lang/invoke/MethodHandle" ∧ yX7_noiseAt.cls ≠ "java/lang/invoke/VarHandle" ∧ (parseMethodDescriptor yX7_noiseAt.desc).map (fun d => d.parameters.length) = some 2 := by decide +kernel
theorem dyV_X7_levelAt : yX7_levelAt.cls = "CompositeDecoder$Picture" ∧ yX7_levelAt.cls ≠ "java/lang/invoke/MethodHandle" ∧ yX7_levelAt.cls ≠ "java/lang/invoke/VarHandle" ∧ (parseMethodDescriptor yX7_levelAt.desc).map (fun d => d.parameters.length) = some 3 := by decide +kernel
theorem dyS_X7_levelAt : yX7_levelAt.cls ≠ "java/lang/invoke/MethodHandle" ∧ yX7_levelAt.cls ≠ "java/lang/invoke/VarHandle" ∧ (parseMethodDescriptor yX7_levelAt.desc).map (fun d => d.parameters.length) = some 3 := by decide +kernel
theorem dyV_X7_burstAt : yX7_burstAt.cls = "CompositeDecoder$Picture" ∧ yX7_burstAt.cls ≠ "java/lang/invoke/MethodHandle" ∧ yX7_burstAt.cls ≠ "java/lang/invoke/VarHandle" ∧ (parseMethodDescriptor yX7_burstAt.desc).map (fun d => d.parameters.length) = some 2 := by decide +kernel
theorem dyS_X7_burstAt : yX7_burstAt.cls ≠ "java/lang/invoke/MethodHandle" ∧ yX7_burstAt.cls ≠ "java/lang/invoke/VarHandle" ∧ (parseMethodDescriptor yX7_burstAt.desc).map (fun d => d.parameters.length) = some 2 := by decide +kernel
theorem dyV_X7_signOf : yX7_signOf.cls = "CompositeDecoder$Picture" ∧ yX7_signOf.cls ≠ "java/lang/invoke/MethodHandle" ∧ yX7_signOf.cls ≠ "java/lang/invoke/VarHandle" ∧ (parseMethodDescriptor yX7_signOf.desc).map (fun d => d.parameters.length) = some 1 := by decide +kernel
theorem dyS_X7_signOf : yX7_signOf.cls ≠ "java/lang/invoke/MethodHandle" ∧ yX7_signOf.cls ≠ "java/lang/invoke/VarHandle" ∧ (parseMethodDescriptor yX7_signOf.desc).map (fun d => d.parameters.length) = some 1 := by decide +kernel
theorem dyV_X8_allows : yX8_allows.cls = "CompositeDecoder$Settings" ∧ yX8_allows.cls ≠ "java/lang/invoke/MethodHandle" ∧ yX8_allows.cls ≠ "java/lang/invoke/VarHandle" ∧ (parseMethodDescriptor yX8_allows.desc).map (fun d => d.parameters.length) = some 2 := by decide +kernel
theorem dyS_X8_allows : yX8_allows.cls ≠ "java/lang/invoke/MethodHandle" ∧ yX8_allows.cls ≠ "java/lang/invoke/VarHandle" ∧ (parseMethodDescriptor yX8_allows.desc).map (fun d => d.parameters.length) = some 2 := by decide +kernel
theorem dyV_X8_threshold : yX8_threshold.cls = "CompositeDecoder$Settings" ∧ yX8_threshold.cls ≠ "java/lang/invoke/MethodHandle" ∧ yX8_threshold.cls ≠ "java/lang/invoke/VarHandle" ∧ (parseMethodDescriptor yX8_threshold.desc).map (fun d => d.parameters.length) = some 0 := by decide +kernel
theorem dyS_X8_threshold : yX8_threshold.cls ≠ "java/lang/invoke/MethodHandle" ∧ yX8_threshold.cls ≠ "java/lang/invoke/VarHandle" ∧ (parseMethodDescriptor yX8_threshold.desc).map (fun d => d.parameters.length) = some 0 := by decide +kernel
theorem dyV_X8_limit : yX8_limit.cls = "CompositeDecoder$Settings" ∧ yX8_limit.cls ≠ "java/lang/invoke/MethodHandle" ∧ yX8_limit.cls ≠ "java/lang/invoke/VarHandle" ∧ (parseMethodDescriptor yX8_limit.desc).map (fun d => d.parameters.length) = some 0 := by decide +kernel
theorem dyS_X8_limit : yX8_limit.cls ≠ "java/lang/invoke/MethodHandle" ∧ yX8_limit.cls ≠ "java/lang/invoke/VarHandle" ∧ (parseMethodDescriptor yX8_limit.desc).map (fun d => d.parameters.length) = some 0 := by decide +kernel
theorem dyV_X8_comb : yX8_comb.cls = "CompositeDecoder$Settings" ∧ yX8_comb.cls ≠ "java/lang/invoke/MethodHandle" ∧ yX8_comb.cls ≠ "java/lang/invoke/VarHandle" ∧ (parseMethodDescriptor yX8_comb.desc).map (fun d => d.parameters.length) = some 0 := by decide +kernel
theorem dyS_X8_comb : yX8_comb.cls ≠ "java/lang/invoke/MethodHandle" ∧ yX8_comb.cls ≠ "java/lang/invoke/VarHandle" ∧ (parseMethodDescriptor yX8_comb.desc).map (fun d => d.parameters.length) = some 0 := by decide +kernel
theorem dyV_X8_standardTaken : yX8_standardTaken.cls = "CompositeDecoder$Settings" ∧ yX8_standardTaken.cls ≠ "java/lang/invoke/MethodHandle" ∧ yX8_standardTaken.cls ≠ "java/lang/invoke/VarHandle" ∧ (parseMethodDescriptor yX8_standardTaken.desc).map (fun d => d.parameters.length) = some 1 := by decide +kernel
theorem dyS_X8_standardTaken : yX8_standardTaken.cls ≠ "java/lang/invoke/MethodHandle" ∧ yX8_standardTaken.cls ≠ "java/lang/invoke/VarHandle" ∧ (parseMethodDescriptor yX8_standardTaken.desc).map (fun d => d.parameters.length) = some 1 := by decide +kernel
theorem dyV_X9_sendFrom : yX9_sendFrom.cls = "CompositeDecoder$Signal" ∧ yX9_sendFrom.cls ≠ "java/lang/invoke/MethodHandle" ∧ yX9_sendFrom.cls ≠ "java/lang/invoke/VarHandle" ∧ (parseMethodDescriptor yX9_sendFrom.desc).map (fun d => d.parameters.length) = some 1 := by decide +kernel
theorem dyS_X9_sendFrom : yX9_sendFrom.cls ≠ "java/lang/invoke/MethodHandle" ∧ yX9_sendFrom.cls ≠ "java/lang/invoke/VarHandle" ∧ (parseMethodDescriptor yX9_sendFrom.desc).map (fun d => d.parameters.length) = some 1 := by decide +kernel
theorem dyV_X9_at : yX9_at.cls = "CompositeDecoder$Signal" ∧ yX9_at.cls ≠ "java/lang/invoke/MethodHandle" ∧ yX9_at.cls ≠ "java/lang/invoke/VarHandle" ∧ (parseMethodDescriptor yX9_at.desc).map (fun d => d.parameters.length) = some 2 := by decide +kernel
theorem dyS_X9_at : yX9_at.cls ≠ "java/lang/invoke/MethodHandle" ∧ yX9_at.cls ≠ "java/lang/invoke/VarHandle" ∧ (parseMethodDescriptor yX9_at.desc).map (fun d => d.parameters.length) = some 2 := by decide +kernel
theorem dyV_X9_sumFrom : yX9_sumFrom.cls = "CompositeDecoder$Signal" ∧ yX9_sumFrom.cls ≠ "java/lang/invoke/MethodHandle" ∧ yX9_sumFrom.cls ≠ "java/lang/invoke/VarHandle" ∧ (parseMethodDescriptor yX9_sumFrom.desc).map (fun d => d.parameters.length) = some 2 := by decide +kernel
theorem dyS_X9_sumFrom : yX9_sumFrom.cls ≠ "java/lang/invoke/MethodHandle" ∧ yX9_sumFrom.cls ≠ "java/lang/invoke/VarHandle" ∧ (parseMethodDescriptor yX9_sumFrom.desc).map (fun d => d.parameters.length) = some 2 := by decide +kernel
theorem dyV_X9_pulseOf : yX9_pulseOf.cls = "CompositeDecoder$Signal" ∧ yX9_pulseOf.cls ≠ "java/lang/invoke/MethodHandle" ∧ yX9_pulseOf.cls ≠ "java/lang/invoke/VarHandle" ∧ (parseMethodDescriptor yX9_pulseOf.desc).map (fun d => d.parameters.length) = some 1 := by decide +kernel
theorem dyS_X9_pulseOf : yX9_pulseOf.cls ≠ "java/lang/invoke/MethodHandle" ∧ yX9_pulseOf.cls ≠ "java/lang/invoke/VarHandle" ∧ (parseMethodDescriptor yX9_pulseOf.desc).map (fun d => d.parameters.length) = some 1 := by decide +kernel
theorem dyV_X10_setSegment : yX10_setSegment.cls = "CompositeDecoder" ∧ yX10_setSegment.cls ≠ "java/lang/invoke/MethodHandle" ∧ yX10_setSegment.cls ≠ "java/lang/invoke/VarHandle" ∧ (parseMethodDescriptor yX10_setSegment.desc).map (fun d => d.parameters.length) = some 5 := by decide +kernel
theorem dyS_X10_setSegment : yX10_setSegment.cls ≠ "java/lang/invoke/MethodHandle" ∧ yX10_setSegment.cls ≠ "java/lang/invoke/VarHandle" ∧ (parseMethodDescriptor yX10_setSegment.desc).map (fun d => d.parameters.length) = some 5 := by decide +kernel
theorem dyV_X10_fill : yX10_fill.cls = "CompositeDecoder" ∧ yX10_fill.cls ≠ "java/lang/invoke/MethodHandle" ∧ yX10_fill.cls ≠ "java/lang/invoke/VarHandle" ∧ (parseMethodDescriptor yX10_fill.desc).map (fun d => d.parameters.length) = some 4 := by decide +kernel
theorem dyS_X10_fill : yX10_fill.cls ≠ "java/lang/invoke/MethodHandle" ∧ yX10_fill.cls ≠ "java/lang/invoke/VarHandle" ∧ (parseMethodDescriptor yX10_fill.desc).map (fun d => d.parameters.length) = some 4 := by decide +kernel
theorem dyV_X10_setLine : yX10_setLine.cls = "CompositeDecoder" ∧ yX10_setLine.cls ≠ "java/lang/invoke/MethodHandle" ∧ yX10_setLine.cls ≠ "java/lang/invoke/VarHandle" ∧ (parseMethodDescriptor yX10_setLine.desc).map (fun d => d.parameters.length) = some 5 := by decide +kernel
theorem dyS_X10_setLine : yX10_setLine.cls ≠ "java/lang/invoke/MethodHandle" ∧ yX10_setLine.cls ≠ "java/lang/invoke/VarHandle" ∧ (parseMethodDescriptor yX10_setLine.desc).map (fun d => d.parameters.length) = some 5 := by decide +kernel
theorem dyV_X10_miss : yX10_miss.cls = "CompositeDecoder" ∧ yX10_miss.cls ≠ "java/lang/invoke/MethodHandle" ∧ yX10_miss.cls ≠ "java/lang/invoke/VarHandle" ∧ (parseMethodDescriptor yX10_miss.desc).map (fun d => d.parameters.length) = some 2 := by decide +kernel
theorem dyS_X10_miss : yX10_miss.cls ≠ "java/lang/invoke/MethodHandle" ∧ yX10_miss.cls ≠ "java/lang/invoke/VarHandle" ∧ (parseMethodDescriptor yX10_miss.desc).map (fun d => d.parameters.length) = some 2 := by decide +kernel
theorem dyV_X10_setStandard : yX10_setStandard.cls = "CompositeDecoder" ∧ yX10_setStandard.cls ≠ "java/lang/invoke/MethodHandle" ∧ yX10_setStandard.cls ≠ "java/lang/invoke/VarHandle" ∧ (parseMethodDescriptor yX10_setStandard.desc).map (fun d => d.parameters.length) = some 1 := by decide +kernel
theorem dyS_X10_setStandard : yX10_setStandard.cls ≠ "java/lang/invoke/MethodHandle" ∧ yX10_setStandard.cls ≠ "java/lang/invoke/VarHandle" ∧ (parseMethodDescriptor yX10_setStandard.desc).map (fun d => d.parameters.length) = some 1 := by decide +kernel
theorem dyV_X10_type : yX10_type.cls = "CompositeDecoder" ∧ yX10_type.cls ≠ "java/lang/invoke/MethodHandle" ∧ yX10_type.cls ≠ "java/lang/invoke/VarHandle" ∧ (parseMethodDescriptor yX10_type.desc).map (fun d => d.parameters.length) = some 1 := by decide +kernel
theorem dyS_X10_type : yX10_type.cls ≠ "java/lang/invoke/MethodHandle" ∧ yX10_type.cls ≠ "java/lang/invoke/VarHandle" ∧ (parseMethodDescriptor yX10_type.desc).map (fun d => d.parameters.length) = some 1 := by decide +kernel
theorem dyV_X10_clearText : yX10_clearText.cls = "CompositeDecoder" ∧ yX10_clearText.cls ≠ "java/lang/invoke/MethodHandle" ∧ yX10_clearText.cls ≠ "java/lang/invoke/VarHandle" ∧ (parseMethodDescriptor yX10_clearText.desc).map (fun d => d.parameters.length) = some 0 := by decide +kernel
theorem dyS_X10_clearText : yX10_clearText.cls ≠ "java/lang/invoke/MethodHandle" ∧ yX10_clearText.cls ≠ "java/lang/invoke/VarHandle" ∧ (parseMethodDescriptor yX10_clearText.desc).map (fun d => d.parameters.length) = some 0 := by decide +kernel
theorem dyV_X10_readBars : yX10_readBars.cls = "CompositeDecoder" ∧ yX10_readBars.cls ≠ "java/lang/invoke/MethodHandle" ∧ yX10_readBars.cls ≠ "java/lang/invoke/VarHandle" ∧ (parseMethodDescriptor yX10_readBars.desc).map (fun d => d.parameters.length) = some 1 := by decide +kernel
theorem dyS_X10_readBars : yX10_readBars.cls ≠ "java/lang/invoke/MethodHandle" ∧ yX10_readBars.cls ≠ "java/lang/invoke/VarHandle" ∧ (parseMethodDescriptor yX10_readBars.desc).map (fun d => d.parameters.length) = some 1 := by decide +kernel
theorem dyV_X10_sample : yX10_sample.cls = "CompositeDecoder" ∧ yX10_sample.cls ≠ "java/lang/invoke/MethodHandle" ∧ yX10_sample.cls ≠ "java/lang/invoke/VarHandle" ∧ (parseMethodDescriptor yX10_sample.desc).map (fun d => d.parameters.length) = some 2 := by decide +kernel
theorem dyS_X10_sample : yX10_sample.cls ≠ "java/lang/invoke/MethodHandle" ∧ yX10_sample.cls ≠ "java/lang/invoke/VarHandle" ∧ (parseMethodDescriptor yX10_sample.desc).map (fun d => d.parameters.length) = some 2 := by decide +kernel
theorem dyV_X10_set : yX10_set.cls = "CompositeDecoder" ∧ yX10_set.cls ≠ "java/lang/invoke/MethodHandle" ∧ yX10_set.cls ≠ "java/lang/invoke/VarHandle" ∧ (parseMethodDescriptor yX10_set.desc).map (fun d => d.parameters.length) = some 2 := by decide +kernel
theorem dyS_X10_set : yX10_set.cls ≠ "java/lang/invoke/MethodHandle" ∧ yX10_set.cls ≠ "java/lang/invoke/VarHandle" ∧ (parseMethodDescriptor yX10_set.desc).map (fun d => d.parameters.length) = some 2 := by decide +kernel
theorem dyV_X10_decode : yX10_decode.cls = "CompositeDecoder" ∧ yX10_decode.cls ≠ "java/lang/invoke/MethodHandle" ∧ yX10_decode.cls ≠ "java/lang/invoke/VarHandle" ∧ (parseMethodDescriptor yX10_decode.desc).map (fun d => d.parameters.length) = some 0 := by decide +kernel
theorem dyS_X10_decode : yX10_decode.cls ≠ "java/lang/invoke/MethodHandle" ∧ yX10_decode.cls ≠ "java/lang/invoke/VarHandle" ∧ (parseMethodDescriptor yX10_decode.desc).map (fun d => d.parameters.length) = some 0 := by decide +kernel
theorem dyV_X10_line : yX10_line.cls = "CompositeDecoder" ∧ yX10_line.cls ≠ "java/lang/invoke/MethodHandle" ∧ yX10_line.cls ≠ "java/lang/invoke/VarHandle" ∧ (parseMethodDescriptor yX10_line.desc).map (fun d => d.parameters.length) = some 2 := by decide +kernel
theorem dyS_X10_line : yX10_line.cls ≠ "java/lang/invoke/MethodHandle" ∧ yX10_line.cls ≠ "java/lang/invoke/VarHandle" ∧ (parseMethodDescriptor yX10_line.desc).map (fun d => d.parameters.length) = some 2 := by decide +kernel
theorem dyV_X10_luma : yX10_luma.cls = "CompositeDecoder" ∧ yX10_luma.cls ≠ "java/lang/invoke/MethodHandle" ∧ yX10_luma.cls ≠ "java/lang/invoke/VarHandle" ∧ (parseMethodDescriptor yX10_luma.desc).map (fun d => d.parameters.length) = some 2 := by decide +kernel
theorem dyS_X10_luma : yX10_luma.cls ≠ "java/lang/invoke/MethodHandle" ∧ yX10_luma.cls ≠ "java/lang/invoke/VarHandle" ∧ (parseMethodDescriptor yX10_luma.desc).map (fun d => d.parameters.length) = some 2 := by decide +kernel
theorem dyV_X10_combed : yX10_combed.cls = "CompositeDecoder" ∧ yX10_combed.cls ≠ "java/lang/invoke/MethodHandle" ∧ yX10_combed.cls ≠ "java/lang/invoke/VarHandle" ∧ (parseMethodDescriptor yX10_combed.desc).map (fun d => d.parameters.length) = some 2 := by decide +kernel
theorem dyS_X10_combed : yX10_combed.cls ≠ "java/lang/invoke/MethodHandle" ∧ yX10_combed.cls ≠ "java/lang/invoke/VarHandle" ∧ (parseMethodDescriptor yX10_combed.desc).map (fun d => d.parameters.length) = some 2 := by decide +kernel
theorem dyV_X10_thousandths : yX10_thousandths.cls = "CompositeDecoder" ∧ yX10_thousandths.cls ≠ "java/lang/invoke/MethodHandle" ∧ yX10_thousandths.cls ≠ "java/lang/invoke/VarHandle" ∧ (parseMethodDescriptor yX10_thousandths.desc).map (fun d => d.parameters.length) = some 3 := by decide +kernel
theorem dyS_X10_thousandths : yX10_thousandths.cls ≠ "java/lang/invoke/MethodHandle" ∧ yX10_thousandths.cls ≠ "java/lang/invoke/VarHandle" ∧ (parseMethodDescriptor yX10_thousandths.desc).map (fun d => d.parameters.length) = some 3 := by decide +kernel
theorem dyV_X10_motion : yX10_motion.cls = "CompositeDecoder" ∧ yX10_motion.cls ≠ "java/lang/invoke/MethodHandle" ∧ yX10_motion.cls ≠ "java/lang/invoke/VarHandle" ∧ (parseMethodDescriptor yX10_motion.desc).map (fun d => d.parameters.length) = some 2 := by decide +kernel
theorem dyS_X10_motion : yX10_motion.cls ≠ "java/lang/invoke/MethodHandle" ∧ yX10_motion.cls ≠ "java/lang/invoke/VarHandle" ∧ (parseMethodDescriptor yX10_motion.desc).map (fun d => d.parameters.length) = some 2 := by decide +kernel
theorem dyV_X10_count : yX10_count.cls = "CompositeDecoder" ∧ yX10_count.cls ≠ "java/lang/invoke/MethodHandle" ∧ yX10_count.cls ≠ "java/lang/invoke/VarHandle" ∧ (parseMethodDescriptor yX10_count.desc).map (fun d => d.parameters.length) = some 1 := by decide +kernel
theorem dyS_X10_count : yX10_count.cls ≠ "java/lang/invoke/MethodHandle" ∧ yX10_count.cls ≠ "java/lang/invoke/VarHandle" ∧ (parseMethodDescriptor yX10_count.desc).map (fun d => d.parameters.length) = some 1 := by decide +kernel
theorem dyV_X10_countOfNow : yX10_countOfNow.cls = "CompositeDecoder" ∧ yX10_countOfNow.cls ≠ "java/lang/invoke/MethodHandle" ∧ yX10_countOfNow.cls ≠ "java/lang/invoke/VarHandle" ∧ (parseMethodDescriptor yX10_countOfNow.desc).map (fun d => d.parameters.length) = some 1 := by decide +kernel
theorem dyS_X10_countOfNow : yX10_countOfNow.cls ≠ "java/lang/invoke/MethodHandle" ∧ yX10_countOfNow.cls ≠ "java/lang/invoke/VarHandle" ∧ (parseMethodDescriptor yX10_countOfNow.desc).map (fun d => d.parameters.length) = some 1 := by decide +kernel
theorem dyV_X10_countOfDecoding : yX10_countOfDecoding.cls = "CompositeDecoder" ∧ yX10_countOfDecoding.cls ≠ "java/lang/invoke/MethodHandle" ∧ yX10_countOfDecoding.cls ≠ "java/lang/invoke/VarHandle" ∧ (parseMethodDescriptor yX10_countOfDecoding.desc).map (fun d => d.parameters.length) = some 1 := by decide +kernel
theorem dyS_X10_countOfDecoding : yX10_countOfDecoding.cls ≠ "java/lang/invoke/MethodHandle" ∧ yX10_countOfDecoding.cls ≠ "java/lang/invoke/VarHandle" ∧ (parseMethodDescriptor yX10_countOfDecoding.desc).map (fun d => d.parameters.length) = some 1 := by decide +kernel
theorem dyV_X10_wrongLumas : yX10_wrongLumas.cls = "CompositeDecoder" ∧ yX10_wrongLumas.cls ≠ "java/lang/invoke/MethodHandle" ∧ yX10_wrongLumas.cls ≠ "java/lang/invoke/VarHandle" ∧ (parseMethodDescriptor yX10_wrongLumas.desc).map (fun d => d.parameters.length) = some 0 := by decide +kernel
theorem dyS_X10_wrongLumas : yX10_wrongLumas.cls ≠ "java/lang/invoke/MethodHandle" ∧ yX10_wrongLumas.cls ≠ "java/lang/invoke/VarHandle" ∧ (parseMethodDescriptor yX10_wrongLumas.desc).map (fun d => d.parameters.length) = some 0 := by decide +kernel
theorem dyV_X10_lumaDifferences : yX10_lumaDifferences.cls = "CompositeDecoder" ∧ yX10_lumaDifferences.cls ≠ "java/lang/invoke/MethodHandle" ∧ yX10_lumaDifferences.cls ≠ "java/lang/invoke/VarHandle" ∧ (parseMethodDescriptor yX10_lumaDifferences.desc).map (fun d => d.parameters.length) = some 0 := by decide +kernel
theorem dyS_X10_lumaDifferences : yX10_lumaDifferences.cls ≠ "java/lang/invoke/MethodHandle" ∧ yX10_lumaDifferences.cls ≠ "java/lang/invoke/VarHandle" ∧ (parseMethodDescriptor yX10_lumaDifferences.desc).map (fun d => d.parameters.length) = some 0 := by decide +kernel
theorem dyV_X10_tally : yX10_tally.cls = "CompositeDecoder" ∧ yX10_tally.cls ≠ "java/lang/invoke/MethodHandle" ∧ yX10_tally.cls ≠ "java/lang/invoke/VarHandle" ∧ (parseMethodDescriptor yX10_tally.desc).map (fun d => d.parameters.length) = some 1 := by decide +kernel
theorem dyS_X10_tally : yX10_tally.cls ≠ "java/lang/invoke/MethodHandle" ∧ yX10_tally.cls ≠ "java/lang/invoke/VarHandle" ∧ (parseMethodDescriptor yX10_tally.desc).map (fun d => d.parameters.length) = some 1 := by decide +kernel
theorem dyV_X10_tally_ : yX10_tally_.cls = "CompositeDecoder" ∧ yX10_tally_.cls ≠ "java/lang/invoke/MethodHandle" ∧ yX10_tally_.cls ≠ "java/lang/invoke/VarHandle" ∧ (parseMethodDescriptor yX10_tally_.desc).map (fun d => d.parameters.length) = some 2 := by decide +kernel
theorem dyS_X10_tally_ : yX10_tally_.cls ≠ "java/lang/invoke/MethodHandle" ∧ yX10_tally_.cls ≠ "java/lang/invoke/VarHandle" ∧ (parseMethodDescriptor yX10_tally_.desc).map (fun d => d.parameters.length) = some 2 := by decide +kernel
theorem dyV_X10_oneIf : yX10_oneIf.cls = "CompositeDecoder" ∧ yX10_oneIf.cls ≠ "java/lang/invoke/MethodHandle" ∧ yX10_oneIf.cls ≠ "java/lang/invoke/VarHandle" ∧ (parseMethodDescriptor yX10_oneIf.desc).map (fun d => d.parameters.length) = some 1 := by decide +kernel
theorem dyS_X10_oneIf : yX10_oneIf.cls ≠ "java/lang/invoke/MethodHandle" ∧ yX10_oneIf.cls ≠ "java/lang/invoke/VarHandle" ∧ (parseMethodDescriptor yX10_oneIf.desc).map (fun d => d.parameters.length) = some 1 := by decide +kernel
theorem dyV_X10_isWithin : yX10_isWithin.cls = "CompositeDecoder" ∧ yX10_isWithin.cls ≠ "java/lang/invoke/MethodHandle" ∧ yX10_isWithin.cls ≠ "java/lang/invoke/VarHandle" ∧ (parseMethodDescriptor yX10_isWithin.desc).map (fun d => d.parameters.length) = some 3 := by decide +kernel
theorem dyS_X10_isWithin : yX10_isWithin.cls ≠ "java/lang/invoke/MethodHandle" ∧ yX10_isWithin.cls ≠ "java/lang/invoke/VarHandle" ∧ (parseMethodDescriptor yX10_isWithin.desc).map (fun d => d.parameters.length) = some 3 := by decide +kernel
theorem dyV_X10_isLine : yX10_isLine.cls = "CompositeDecoder" ∧ yX10_isLine.cls ≠ "java/lang/invoke/MethodHandle" ∧ yX10_isLine.cls ≠ "java/lang/invoke/VarHandle" ∧ (parseMethodDescriptor yX10_isLine.desc).map (fun d => d.parameters.length) = some 1 := by decide +kernel
theorem dyS_X10_isLine : yX10_isLine.cls ≠ "java/lang/invoke/MethodHandle" ∧ yX10_isLine.cls ≠ "java/lang/invoke/VarHandle" ∧ (parseMethodDescriptor yX10_isLine.desc).map (fun d => d.parameters.length) = some 1 := by decide +kernel
theorem dyV_X10_isPlace : yX10_isPlace.cls = "CompositeDecoder" ∧ yX10_isPlace.cls ≠ "java/lang/invoke/MethodHandle" ∧ yX10_isPlace.cls ≠ "java/lang/invoke/VarHandle" ∧ (parseMethodDescriptor yX10_isPlace.desc).map (fun d => d.parameters.length) = some 2 := by decide +kernel
theorem dyS_X10_isPlace : yX10_isPlace.cls ≠ "java/lang/invoke/MethodHandle" ∧ yX10_isPlace.cls ≠ "java/lang/invoke/VarHandle" ∧ (parseMethodDescriptor yX10_isPlace.desc).map (fun d => d.parameters.length) = some 2 := by decide +kernel
theorem dyV_X10_isPaint : yX10_isPaint.cls = "CompositeDecoder" ∧ yX10_isPaint.cls ≠ "java/lang/invoke/MethodHandle" ∧ yX10_isPaint.cls ≠ "java/lang/invoke/VarHandle" ∧ (parseMethodDescriptor yX10_isPaint.desc).map (fun d => d.parameters.length) = some 3 := by decide +kernel
theorem dyS_X10_isPaint : yX10_isPaint.cls ≠ "java/lang/invoke/MethodHandle" ∧ yX10_isPaint.cls ≠ "java/lang/invoke/VarHandle" ∧ (parseMethodDescriptor yX10_isPaint.desc).map (fun d => d.parameters.length) = some 3 := by decide +kernel
theorem dyV_X10_placeOf : yX10_placeOf.cls = "CompositeDecoder" ∧ yX10_placeOf.cls ≠ "java/lang/invoke/MethodHandle" ∧ yX10_placeOf.cls ≠ "java/lang/invoke/VarHandle" ∧ (parseMethodDescriptor yX10_placeOf.desc).map (fun d => d.parameters.length) = some 2 := by decide +kernel
theorem dyS_X10_placeOf : yX10_placeOf.cls ≠ "java/lang/invoke/MethodHandle" ∧ yX10_placeOf.cls ≠ "java/lang/invoke/VarHandle" ∧ (parseMethodDescriptor yX10_placeOf.desc).map (fun d => d.parameters.length) = some 2 := by decide +kernel
theorem dyV_X10_turnAt : yX10_turnAt.cls = "CompositeDecoder" ∧ yX10_turnAt.cls ≠ "java/lang/invoke/MethodHandle" ∧ yX10_turnAt.cls ≠ "java/lang/invoke/VarHandle" ∧ (parseMethodDescriptor yX10_turnAt.desc).map (fun d => d.parameters.length) = some 2 := by decide +kernel
theorem dyS_X10_turnAt : yX10_turnAt.cls ≠ "java/lang/invoke/MethodHandle" ∧ yX10_turnAt.cls ≠ "java/lang/invoke/VarHandle" ∧ (parseMethodDescriptor yX10_turnAt.desc).map (fun d => d.parameters.length) = some 2 := by decide +kernel
theorem dyV_J9_floorDiv_7cf53 : yJ9_floorDiv_7cf53.cls = "java/lang/Math" ∧ yJ9_floorDiv_7cf53.cls ≠ "java/lang/invoke/MethodHandle" ∧ yJ9_floorDiv_7cf53.cls ≠ "java/lang/invoke/VarHandle" ∧ (parseMethodDescriptor yJ9_floorDiv_7cf53.desc).map (fun d => d.parameters.length) = some 2 := by decide +kernel
theorem dyS_J9_floorDiv_7cf53 : yJ9_floorDiv_7cf53.cls ≠ "java/lang/invoke/MethodHandle" ∧ yJ9_floorDiv_7cf53.cls ≠ "java/lang/invoke/VarHandle" ∧ (parseMethodDescriptor yJ9_floorDiv_7cf53.desc).map (fun d => d.parameters.length) = some 2 := by decide +kernel
theorem dyV_J9_floorMod_7cf53 : yJ9_floorMod_7cf53.cls = "java/lang/Math" ∧ yJ9_floorMod_7cf53.cls ≠ "java/lang/invoke/MethodHandle" ∧ yJ9_floorMod_7cf53.cls ≠ "java/lang/invoke/VarHandle" ∧ (parseMethodDescriptor yJ9_floorMod_7cf53.desc).map (fun d => d.parameters.length) = some 2 := by decide +kernel
theorem dyS_J9_floorMod_7cf53 : yJ9_floorMod_7cf53.cls ≠ "java/lang/invoke/MethodHandle" ∧ yJ9_floorMod_7cf53.cls ≠ "java/lang/invoke/VarHandle" ∧ (parseMethodDescriptor yJ9_floorMod_7cf53.desc).map (fun d => d.parameters.length) = some 2 := by decide +kernel
theorem dyV_J9_abs_0f7a4 : yJ9_abs_0f7a4.cls = "java/lang/Math" ∧ yJ9_abs_0f7a4.cls ≠ "java/lang/invoke/MethodHandle" ∧ yJ9_abs_0f7a4.cls ≠ "java/lang/invoke/VarHandle" ∧ (parseMethodDescriptor yJ9_abs_0f7a4.desc).map (fun d => d.parameters.length) = some 1 := by decide +kernel
theorem dyS_J9_abs_0f7a4 : yJ9_abs_0f7a4.cls ≠ "java/lang/invoke/MethodHandle" ∧ yJ9_abs_0f7a4.cls ≠ "java/lang/invoke/VarHandle" ∧ (parseMethodDescriptor yJ9_abs_0f7a4.desc).map (fun d => d.parameters.length) = some 1 := by decide +kernel
theorem dyV_L_cell : yL_cell.cls = "CompositeDecoderLaw" ∧ yL_cell.cls ≠ "java/lang/invoke/MethodHandle" ∧ yL_cell.cls ≠ "java/lang/invoke/VarHandle" ∧ (parseMethodDescriptor yL_cell.desc).map (fun d => d.parameters.length) = some 2 := by decide +kernel
theorem dyS_L_cell : yL_cell.cls ≠ "java/lang/invoke/MethodHandle" ∧ yL_cell.cls ≠ "java/lang/invoke/VarHandle" ∧ (parseMethodDescriptor yL_cell.desc).map (fun d => d.parameters.length) = some 2 := by decide +kernel
theorem dyV_L_low : yL_low.cls = "CompositeDecoderLaw" ∧ yL_low.cls ≠ "java/lang/invoke/MethodHandle" ∧ yL_low.cls ≠ "java/lang/invoke/VarHandle" ∧ (parseMethodDescriptor yL_low.desc).map (fun d => d.parameters.length) = some 2 := by decide +kernel
theorem dyS_L_low : yL_low.cls ≠ "java/lang/invoke/MethodHandle" ∧ yL_low.cls ≠ "java/lang/invoke/VarHandle" ∧ (parseMethodDescriptor yL_low.desc).map (fun d => d.parameters.length) = some 2 := by decide +kernel
theorem dyV_L_size : yL_size.cls = "CompositeDecoderLaw" ∧ yL_size.cls ≠ "java/lang/invoke/MethodHandle" ∧ yL_size.cls ≠ "java/lang/invoke/VarHandle" ∧ (parseMethodDescriptor yL_size.desc).map (fun d => d.parameters.length) = some 1 := by decide +kernel
theorem dyS_L_size : yL_size.cls ≠ "java/lang/invoke/MethodHandle" ∧ yL_size.cls ≠ "java/lang/invoke/VarHandle" ∧ (parseMethodDescriptor yL_size.desc).map (fun d => d.parameters.length) = some 1 := by decide +kernel
theorem dyV_L_floor : yL_floor.cls = "CompositeDecoderLaw" ∧ yL_floor.cls ≠ "java/lang/invoke/MethodHandle" ∧ yL_floor.cls ≠ "java/lang/invoke/VarHandle" ∧ (parseMethodDescriptor yL_floor.desc).map (fun d => d.parameters.length) = some 2 := by decide +kernel
theorem dyS_L_floor : yL_floor.cls ≠ "java/lang/invoke/MethodHandle" ∧ yL_floor.cls ≠ "java/lang/invoke/VarHandle" ∧ (parseMethodDescriptor yL_floor.desc).map (fun d => d.parameters.length) = some 2 := by decide +kernel
theorem dyV_L_at : yL_at.cls = "CompositeDecoderLaw" ∧ yL_at.cls ≠ "java/lang/invoke/MethodHandle" ∧ yL_at.cls ≠ "java/lang/invoke/VarHandle" ∧ (parseMethodDescriptor yL_at.desc).map (fun d => d.parameters.length) = some 3 := by decide +kernel
theorem dyS_L_at : yL_at.cls ≠ "java/lang/invoke/MethodHandle" ∧ yL_at.cls ≠ "java/lang/invoke/VarHandle" ∧ (parseMethodDescriptor yL_at.desc).map (fun d => d.parameters.length) = some 3 := by decide +kernel
theorem dyV_L_sine : yL_sine.cls = "CompositeDecoderLaw" ∧ yL_sine.cls ≠ "java/lang/invoke/MethodHandle" ∧ yL_sine.cls ≠ "java/lang/invoke/VarHandle" ∧ (parseMethodDescriptor yL_sine.desc).map (fun d => d.parameters.length) = some 1 := by decide +kernel
theorem dyS_L_sine : yL_sine.cls ≠ "java/lang/invoke/MethodHandle" ∧ yL_sine.cls ≠ "java/lang/invoke/VarHandle" ∧ (parseMethodDescriptor yL_sine.desc).map (fun d => d.parameters.length) = some 1 := by decide +kernel
theorem dyV_L_cosine : yL_cosine.cls = "CompositeDecoderLaw" ∧ yL_cosine.cls ≠ "java/lang/invoke/MethodHandle" ∧ yL_cosine.cls ≠ "java/lang/invoke/VarHandle" ∧ (parseMethodDescriptor yL_cosine.desc).map (fun d => d.parameters.length) = some 1 := by decide +kernel
theorem dyS_L_cosine : yL_cosine.cls ≠ "java/lang/invoke/MethodHandle" ∧ yL_cosine.cls ≠ "java/lang/invoke/VarHandle" ∧ (parseMethodDescriptor yL_cosine.desc).map (fun d => d.parameters.length) = some 1 := by decide +kernel
theorem dyV_L_lines : yL_lines.cls = "CompositeDecoderLaw" ∧ yL_lines.cls ≠ "java/lang/invoke/MethodHandle" ∧ yL_lines.cls ≠ "java/lang/invoke/VarHandle" ∧ (parseMethodDescriptor yL_lines.desc).map (fun d => d.parameters.length) = some 2 := by decide +kernel
theorem dyS_L_lines : yL_lines.cls ≠ "java/lang/invoke/MethodHandle" ∧ yL_lines.cls ≠ "java/lang/invoke/VarHandle" ∧ (parseMethodDescriptor yL_lines.desc).map (fun d => d.parameters.length) = some 2 := by decide +kernel
theorem dyV_L_sum : yL_sum.cls = "CompositeDecoderLaw" ∧ yL_sum.cls ≠ "java/lang/invoke/MethodHandle" ∧ yL_sum.cls ≠ "java/lang/invoke/VarHandle" ∧ (parseMethodDescriptor yL_sum.desc).map (fun d => d.parameters.length) = some 3 := by decide +kernel
theorem dyS_L_sum : yL_sum.cls ≠ "java/lang/invoke/MethodHandle" ∧ yL_sum.cls ≠ "java/lang/invoke/VarHandle" ∧ (parseMethodDescriptor yL_sum.desc).map (fun d => d.parameters.length) = some 3 := by decide +kernel
theorem dyV_L_near : yL_near.cls = "CompositeDecoderLaw" ∧ yL_near.cls ≠ "java/lang/invoke/MethodHandle" ∧ yL_near.cls ≠ "java/lang/invoke/VarHandle" ∧ (parseMethodDescriptor yL_near.desc).map (fun d => d.parameters.length) = some 4 := by decide +kernel
theorem dyS_L_near : yL_near.cls ≠ "java/lang/invoke/MethodHandle" ∧ yL_near.cls ≠ "java/lang/invoke/VarHandle" ∧ (parseMethodDescriptor yL_near.desc).map (fun d => d.parameters.length) = some 4 := by decide +kernel
theorem dyV_L_combs : yL_combs.cls = "CompositeDecoderLaw" ∧ yL_combs.cls ≠ "java/lang/invoke/MethodHandle" ∧ yL_combs.cls ≠ "java/lang/invoke/VarHandle" ∧ (parseMethodDescriptor yL_combs.desc).map (fun d => d.parameters.length) = some 1 := by decide +kernel
theorem dyS_L_combs : yL_combs.cls ≠ "java/lang/invoke/MethodHandle" ∧ yL_combs.cls ≠ "java/lang/invoke/VarHandle" ∧ (parseMethodDescriptor yL_combs.desc).map (fun d => d.parameters.length) = some 1 := by decide +kernel
theorem dyV_L_motion : yL_motion.cls = "CompositeDecoderLaw" ∧ yL_motion.cls ≠ "java/lang/invoke/MethodHandle" ∧ yL_motion.cls ≠ "java/lang/invoke/VarHandle" ∧ (parseMethodDescriptor yL_motion.desc).map (fun d => d.parameters.length) = some 4 := by decide +kernel
theorem dyS_L_motion : yL_motion.cls ≠ "java/lang/invoke/MethodHandle" ∧ yL_motion.cls ≠ "java/lang/invoke/VarHandle" ∧ (parseMethodDescriptor yL_motion.desc).map (fun d => d.parameters.length) = some 4 := by decide +kernel
theorem dyV_L_is : yL_is.cls = "CompositeDecoderLaw" ∧ yL_is.cls ≠ "java/lang/invoke/MethodHandle" ∧ yL_is.cls ≠ "java/lang/invoke/VarHandle" ∧ (parseMethodDescriptor yL_is.desc).map (fun d => d.parameters.length) = some 3 := by decide +kernel
theorem dyS_L_is : yL_is.cls ≠ "java/lang/invoke/MethodHandle" ∧ yL_is.cls ≠ "java/lang/invoke/VarHandle" ∧ (parseMethodDescriptor yL_is.desc).map (fun d => d.parameters.length) = some 3 := by decide +kernel
theorem dyV_L_keep : yL_keep.cls = "CompositeDecoderLaw" ∧ yL_keep.cls ≠ "java/lang/invoke/MethodHandle" ∧ yL_keep.cls ≠ "java/lang/invoke/VarHandle" ∧ (parseMethodDescriptor yL_keep.desc).map (fun d => d.parameters.length) = some 3 := by decide +kernel
theorem dyS_L_keep : yL_keep.cls ≠ "java/lang/invoke/MethodHandle" ∧ yL_keep.cls ≠ "java/lang/invoke/VarHandle" ∧ (parseMethodDescriptor yL_keep.desc).map (fun d => d.parameters.length) = some 3 := by decide +kernel
theorem dyV_L_bars : yL_bars.cls = "CompositeDecoderLaw" ∧ yL_bars.cls ≠ "java/lang/invoke/MethodHandle" ∧ yL_bars.cls ≠ "java/lang/invoke/VarHandle" ∧ (parseMethodDescriptor yL_bars.desc).map (fun d => d.parameters.length) = some 4 := by decide +kernel
theorem dyS_L_bars : yL_bars.cls ≠ "java/lang/invoke/MethodHandle" ∧ yL_bars.cls ≠ "java/lang/invoke/VarHandle" ∧ (parseMethodDescriptor yL_bars.desc).map (fun d => d.parameters.length) = some 4 := by decide +kernel
theorem dyV_L_errors : yL_errors.cls = "CompositeDecoderLaw" ∧ yL_errors.cls ≠ "java/lang/invoke/MethodHandle" ∧ yL_errors.cls ≠ "java/lang/invoke/VarHandle" ∧ (parseMethodDescriptor yL_errors.desc).map (fun d => d.parameters.length) = some 1 := by decide +kernel
theorem dyS_L_errors : yL_errors.cls ≠ "java/lang/invoke/MethodHandle" ∧ yL_errors.cls ≠ "java/lang/invoke/VarHandle" ∧ (parseMethodDescriptor yL_errors.desc).map (fun d => d.parameters.length) = some 1 := by decide +kernel
