section
/-! rows of rows: what 'multianewarray' makes -/
def mz_c (cA : ClassId) (h N i : Nat) : Cell := arrV cA N (fun j => if j < i then .ref (h + 1 + j) else .null)
def mz_i (cB : ClassId) (M : Nat) : Cell := arrV cB M (fun _ => .int 0)
def mz_s (T : State) (cA cB : ClassId) (N M : Nat) : Nat → State
  | 0 => T.pushCell (mz_c cA T.heap.size N 0)
  | i + 1 => ((mz_s T cA cB N M i).pushCell (mz_i cB M)).setCell T.heap.size (mz_c cA T.heap.size N (i + 1))
theorem mz_cs (cA : ClassId) (h N i : Nat) : (mz_c cA h N i).setSlot i (.ref (h + 1 + i)) = mz_c cA h N (i + 1) := by
  unfold mz_c
  rw [arrV_store]
  congr 1
  funext j
  unfold updV
  dsimp only
  by_cases e : j = i
  · rw [if_pos e, if_pos (show j < i + 1 by omega), e]
  · by_cases e2 : j < i
    · rw [if_neg e, if_pos e2, if_pos (show j < i + 1 by omega)]
    · rw [if_neg e, if_neg e2, if_neg (show ¬ j < i + 1 by omega)]
theorem mz_f (T : State) (cA cB : ClassId) (N M : Nat) : ∀ i, (mz_s T cA cB N M i).heap.size = T.heap.size + 1 + i ∧ (mz_s T cA cB N M i).heap[T.heap.size]? = some (mz_c cA T.heap.size N i) ∧ (mz_s T cA cB N M i).vm = T.vm ∧ (mz_s T cA cB N M i).slotsUsed = T.slotsUsed + N + i * M ∧ (∀ a, a < T.heap.size → (mz_s T cA cB N M i).heap[a]? = T.heap[a]?) ∧ ∀ j, j < i → (mz_s T cA cB N M i).heap[T.heap.size + 1 + j]? = some (mz_i cB M)
  | 0 => ⟨by simp [mz_s], by simp [mz_s], rfl, by simp [mz_s, mz_c, arrV], fun a ha => State.heap_pushCell_of_lt _ _ ha, fun j hj => absurd hj (Nat.not_lt_zero _)⟩
  | i + 1 => by
    obtain ⟨a, b, d, u, v, w⟩ := mz_f T cA cB N M i
    have hlt : T.heap.size < (mz_s T cA cB N M i).heap.size := by omega
    have hb' : ((mz_s T cA cB N M i).pushCell (mz_i cB M)).heap[T.heap.size]? = some (mz_c cA T.heap.size N i) := by rw [State.heap_pushCell_of_lt (h := hlt)]; exact b
    have zi : (mz_i cB M).slots.size = M := arrV_size _ _ _
    refine ⟨?_, State.heap_setCell_self hb', by simp [mz_s, d], ?_, fun x hx => ?_, fun j hj => ?_⟩
    · simp [mz_s, State.setCell, a]; omega
    · simp [mz_s, u, zi, Nat.succ_mul]; omega
    · have hx2 : x < (mz_s T cA cB N M i).heap.size := by omega
      show (((mz_s T cA cB N M i).pushCell (mz_i cB M)).setCell T.heap.size _).heap[x]? = _
      rw [State.heap_setCell_other (Nat.ne_of_gt hx), State.heap_pushCell_of_lt (h := hx2)]
      exact v x hx
    · show (((mz_s T cA cB N M i).pushCell (mz_i cB M)).setCell T.heap.size _).heap[T.heap.size + 1 + j]? = _
      rw [State.heap_setCell_other (show T.heap.size ≠ T.heap.size + 1 + j by omega)]
      by_cases e : j = i
      · subst e
        rw [← a]
        exact State.heap_pushCell_size _ _
      · have hx2 : T.heap.size + 1 + j < (mz_s T cA cB N M i).heap.size := by omega
        rw [State.heap_pushCell_of_lt (h := hx2)]
        exact w j (by omega)
theorem mz_t (T : State) (f : JFrame) (cA cB : ClassId) (N M : Nat) : ∀ i, mz_s (T.setTop f) cA cB N M i = (mz_s T cA cB N M i).setTop f
  | 0 => rfl
  | i + 1 => by simp only [mz_s, mz_t T f cA cB N M i, State.heap_setTop, State.pushCell_setTop, State.setCell_setTop]
section
variable {p : Program} {l : Launch} {e : Env} {R : Room} {s : State} {m : MethodId} {args : Array Value} {below : List Frame} {meth : Method} {c : Code} {T : State} {locs : List Loc} {cells slots : Nat}
theorem mz_X (X : Stand p l e R s m args below meth c T locs cells slots) (cA cB : ClassId) (N M : Nat) : ∀ i, ∃ L : List Loc, (∀ q ∈ L, q.base = T.heap.size) ∧ Stand p l e R s m args below meth c (mz_s T cA cB N M i) (locs ++ L) (cells + 1 + i) (slots + N + i * M)
  | 0 => by
    have h := X.pushed (mz_c cA T.heap.size N 0)
    rw [show (mz_c cA T.heap.size N 0).slots.size = N from arrV_size _ _ _] at h
    exact ⟨[], fun q hq => (List.not_mem_nil hq).elim, by simpa [mz_s] using h⟩
  | i + 1 => by
    obtain ⟨L, hL, Xi⟩ := mz_X X cA cB N M i
    obtain ⟨a, b, d, u, v, w⟩ := mz_f T cA cB N M i
    have hlt : T.heap.size < (mz_s T cA cB N M i).heap.size := by omega
    have hb' : ((mz_s T cA cB N M i).pushCell (mz_i cB M)).heap[T.heap.size]? = some (mz_c cA T.heap.size N i) := by rw [State.heap_pushCell_of_lt (h := hlt)]; exact b
    have h := (Xi.pushed (mz_i cB M)).stored hb' i (.ref (T.heap.size + 1 + i))
    rw [mz_cs, show (mz_i cB M).slots.size = M from arrV_size _ _ _] at h
    refine ⟨L ++ [⟨T.heap.size, i⟩], fun q hq => ?_, ?_⟩
    · rcases List.mem_append.mp hq with z | z
      · exact hL q z
      · rw [List.mem_singleton.mp z]
    · rw [← List.append_assoc, show slots + N + (i + 1) * M = slots + N + i * M + M by rw [Nat.succ_mul]; omega]
      exact h
end
section
variable {E : CtlPost} {e : Env} {d : Bool} {acts : List Action} {s : State}
theorem mz_1 {cB cc : ClassId} {kB : Class} {k : Int32} (hk : s.vm.classes[cB]? = some kB) (hkind : kB.kind = .array cc .int) (h0 : ¬ k < 0) (hl : ¬ k.toNatClampNeg > e.platform.arrayLengthLimit) (hh : ¬ k.toNatClampNeg * componentBytes .int > e.platform.maxHeapBytes) (h1 : s.heap.size < e.platform.maxCells) (h2 : s.slotsUsed + k.toNatClampNeg ≤ e.platform.maxSlots) {Q : Addr → Pre} (hq : ∀ acts', Q s.heap.size d acts' (s.pushCell (mz_i cB k.toNatClampNeg))) : wp (multianewarray.make cB [k]) Q E e d acts s := by
  rw [multianewarray.make]
  simp only [wp_bind', Jvm.W.ite, h0, if_false, wp_pure', Jvm.W.theClass, hk, hkind, Option.some.injEq, exists_eq_left']
  exact Jvm.W.newArray_of hk hkind hl hh h1 h2 rfl (fun acts' => by
    rw [show ({ cls := cB, slots := Array.replicate k.toNatClampNeg (defaultValue .int) } : Cell) = mz_i cB k.toNatClampNeg from arrV_new _ _ _]
    exact hq acts')
theorem mz_2 {cA cB cc : ClassId} {kA kB : Class} {n k : Int32} (hkA : s.vm.classes[cA]? = some kA) (hA : kA.kind = .array cB (.array .int)) (hkB : s.vm.classes[cB]? = some kB) (hB : kB.kind = .array cc .int) (hn : ¬ n < 0) (hk : ¬ k < 0) (hl1 : ¬ n.toNatClampNeg > e.platform.arrayLengthLimit) (hh1 : ¬ n.toNatClampNeg * componentBytes (.array .int) > e.platform.maxHeapBytes) (hl2 : ¬ k.toNatClampNeg > e.platform.arrayLengthLimit) (hh2 : ¬ k.toNatClampNeg * componentBytes .int > e.platform.maxHeapBytes) (hc : s.heap.size + 1 + n.toNatClampNeg ≤ e.platform.maxCells) (hs : s.slotsUsed + n.toNatClampNeg + n.toNatClampNeg * k.toNatClampNeg ≤ e.platform.maxSlots) {Q : Addr → Pre} (hq : ∀ d' acts', Q s.heap.size d' acts' (mz_s s cA cB n.toNatClampNeg k.toNatClampNeg n.toNatClampNeg)) : wp (multianewarray.make cA [n, k]) Q E e d acts s := by
  have hfind : ([k].find? (· < 0)) = none := by simp [hk]
  rw [multianewarray.make]
  simp only [wp_bind', Jvm.W.ite, hn, if_false, wp_pure', Jvm.W.theClass, hkA, hA, Option.some.injEq, exists_eq_left']
  refine Jvm.W.newArray_of hkA hA hl1 hh1 (by omega) (by have := Nat.zero_le (n.toNatClampNeg * k.toNatClampNeg); omega) rfl (fun acts' => ?_)
  rw [show ({ cls := cA, slots := Array.replicate n.toNatClampNeg .null } : Cell) = mz_c cA s.heap.size n.toNatClampNeg 0 from (arrV_new _ _ _).trans (by unfold mz_c; congr 1)]
  simp only [hfind]
  rw [ite_self, wp_bind', Std.Legacy.Range.forIn_eq_forIn_range']
  have hsz : ([:n.toNatClampNeg] : Std.Legacy.Range).size = n.toNatClampNeg := by simp [Std.Legacy.Range.size]
  rw [hsz]
  show wp (forIn (List.range' 0 n.toNatClampNeg 1) PUnit.unit _) _ E e d _ _
  refine wp_forIn_inv (fun rest s' => ∃ i, i ≤ n.toNatClampNeg ∧ rest = List.range' i (n.toNatClampNeg - i) ∧ s' = mz_s s cA cB n.toNatClampNeg k.toNatClampNeg i) _ _ ⟨0, Nat.zero_le _, rfl, rfl⟩ ?_ ?_
  · rintro x rest s' d' acts2 Q' ⟨i, hi, hl, rfl⟩ hnext
    have hlt : i < n.toNatClampNeg := by
      rcases Nat.lt_or_ge i n.toNatClampNeg with h | h
      · exact h
      · rw [show n.toNatClampNeg - i = 0 by omega] at hl
        exact absurd hl (by simp)
    rw [show n.toNatClampNeg - i = (n.toNatClampNeg - (i + 1)) + 1 by omega, List.range'_succ] at hl
    obtain ⟨rfl, hrest⟩ := List.cons.inj hl
    obtain ⟨f1, f2, f3, f4, f5, f6⟩ := mz_f s cA cB n.toNatClampNeg k.toNatClampNeg x
    have hmul : x * k.toNatClampNeg + k.toNatClampNeg ≤ n.toNatClampNeg * k.toNatClampNeg := by
      have := Nat.mul_le_mul_right k.toNatClampNeg (show x + 1 ≤ n.toNatClampNeg from hlt)
      rw [Nat.succ_mul] at this
      exact this
    have hlt0 : s.heap.size < (mz_s s cA cB n.toNatClampNeg k.toNatClampNeg x).heap.size := by rw [f1]; omega
    simp only [wp_bind']
    refine mz_1 (by rw [f3]; exact hkB) hB hk hl2 hh2 (by rw [f1]; omega) (by rw [f4]; omega) (fun acts3 => ?_)
    simp only [wp_bind', Jvm.W.writeLoc, wp_pure']
    refine ⟨mz_c cA s.heap.size n.toNatClampNeg x, by rw [State.heap_pushCell_of_lt (h := hlt0)]; exact f2, by simp [mz_c, arrV], by rw [show (mz_c cA s.heap.size n.toNatClampNeg x).slots.size = n.toNatClampNeg from arrV_size _ _ _]; exact hlt, ?_, hnext _ _ _ ⟨x + 1, hlt, hrest, ?_⟩⟩
    · simp [mz_c, arrV, State.fitsSlot, State.slotType?, f3, hkA, hA, fits]
    · rw [f1, mz_cs]
      rfl
  · rintro s' d' acts2 ⟨i, hi, hl, rfl⟩
    have hiN : i = n.toNatClampNeg := by
      rcases Nat.lt_or_ge i n.toNatClampNeg with h | h
      · rw [show n.toNatClampNeg - i = (n.toNatClampNeg - (i + 1)) + 1 by omega, List.range'_succ] at hl
        cases hl
      · omega
    subst hiN
    simp only [wp_pure']
    exact hq _ _
end
section
variable {p : Program} {l : Launch} {e : Env} {R : Room} {s : State} {m : MethodId} {args : Array Value} {below : List Frame} {meth : Method} {c : Code} {H : Heap} {locs : List Loc} {cells slots : Nat} {Q : State → Prop}
theorem mz_W {cc : ByteArray} (hexec : p.tables.exec = Jvm.exec) (hb : c.code = cc) {own : String} {index : Nat} (hown : s.vm.findClass own = some m.cls) (hclink : (Cond.classLink own index "[[I").before args s = true)
    {cA cB cK : ClassId} {kA kB : Class} (hnA : s.vm.findClass "[[I" = some cA) (hkA : s.vm.classes[cA]? = some kA) (hA : kA.kind = .array cB (.array .int)) (hkB : s.vm.classes[cB]? = some kB) (hB : kB.kind = .array cK .int)
    {g : JFrame} (hg : g.method = m) (hdg : decode cc g.pc = .ok (.multianewarray index 2, 4)) {n k : Int32} {rest : List Value} (hstack : g.stack = .int k :: .int n :: rest) {N M : Nat} (hn : ¬ n < 0) (hk : ¬ k < 0) (hN : n.toNatClampNeg = N) (hM : k.toNatClampNeg = M) (hb1 : N * 4 ≤ 536870912) (hb2 : M * 4 ≤ 536870912)
    (hcells : cells + (1 + N) ≤ R.cells) (hslots : slots + (N + N * M) ≤ R.slots)
    (kk : ∀ (H' : Heap) (L : List Loc), H'.size = H.size + 1 + N → H'[H.size]? = some (mz_c cA H.size N N) → (∀ j, j < N → H'[H.size + 1 + j]? = some (mz_i cB M)) → (∀ q, q < H.size → H'[q]? = H[q]?) → (∀ q ∈ L, q.base = H.size) →
      W p l e R s m args below meth c H' (locs ++ L) (cells + 1 + N) (slots + N + N * M) Q { g with pc := g.pc + 4, stack := .ref H.size :: rest }) : W p l e R s m args below meth c H locs cells slots Q g := by
  intro T hT X
  subst hT; subst hb; subst hg; subst hN; subst hM
  have hpl : e.platform.magicAccessors = ({} : Platform).magicAccessors := by rw [X.admits.platform]
  obtain ⟨c0, hfc0, hcl⟩ := Cond.classLink_spec hown hclink e.platform hpl
  cases hnA.symm.trans hfc0
  obtain ⟨hg₁, hwarm₁, hready₁⟩ := State.classEntry (e := e) X.warmed hcl
  generalize T.vm.noted g.method.cls index (.cls cA) = vm₁ at hg₁ hwarm₁ hready₁
  have hal : s.vm.Alike vm₁ := hwarm₁.alike
  obtain ⟨kA₁, hkA₁, heA⟩ := hal.2.2 _ _ hkA
  obtain ⟨kB₁, hkB₁, heB⟩ := hal.2.2 _ _ hkB
  have X₁ := X.noted hwarm₁
  obtain ⟨hr1, hr2⟩ := X.roomAbove hcells hslots
  obtain ⟨L, hL, XF⟩ := mz_X X₁ cA cB n.toNatClampNeg k.toNatClampNeg n.toNatClampNeg
  obtain ⟨f1, f2, f3, f4, f5, f6⟩ := mz_f (T.setVm vm₁) cA cB n.toNatClampNeg k.toNatClampNeg n.toNatClampNeg
  obtain ⟨t, a1, b1⟩ := kk _ L f1 f2 f6 f5 hL _ rfl XF
  refine ⟨t, ?_, b1⟩
  have hl1 : ¬ n.toNatClampNeg > e.platform.arrayLengthLimit := by rw [Launch.admits_arrayLengthLimit X.admits]; omega
  have hh1 : ¬ n.toNatClampNeg * componentBytes (.array .int) > e.platform.maxHeapBytes := by
    rw [Launch.admits_maxHeapBytes X.admits]; show ¬ n.toNatClampNeg * 4 > 536870912; omega
  have hl2 : ¬ k.toNatClampNeg > e.platform.arrayLengthLimit := by rw [Launch.admits_arrayLengthLimit X.admits]; omega
  have hh2 : ¬ k.toNatClampNeg * componentBytes .int > e.platform.maxHeapBytes := by
    rw [Launch.admits_maxHeapBytes X.admits]; show ¬ k.toNatClampNeg * 4 > 536870912; omega
  jvm_step X.here [hexec, hdg]
  simp only [multianewarray.sem, wp_bind', Jvm.W.resolveClassAt_links (State.method?_setTop g X.here.top) hg₁]
  rw [Jvm.W.popN, if_neg (by decide)]
  refine ⟨g, State.topJava?_setTop' (s := T.setVm vm₁) g X.here.top, [.int n, .int k], rest, rfl, hstack, ?_⟩
  simp only [List.mapM_cons, List.mapM_nil, wp_bind', wp_pure']
  refine mz_2 (kA := kA₁) (kB := kB₁) (cB := cB) (cc := cK) hkA₁ (by rw [heA]; exact hA) hkB₁ (by rw [heB]; exact hB) hn hk hl1 hh1 hl2 hh2 (by show T.heap.size + 1 + _ ≤ _; omega) (by show T.slotsUsed + _ + _ ≤ _; omega) (fun d' acts' => ?_)
  have eS : ((T.setTop g).setVm vm₁).setTop { g with stack := rest } = (T.setVm vm₁).setTop { g with stack := rest } := by
    show ((T.setVm vm₁).setTop g).setTop _ = _
    rw [State.setTop_setTop]
  rw [eS, mz_t]
  simp only [wp_bind', Jvm.W.mark, Jvm.W.pushRef, State.topJava?_setTop' _ XF.here.top, Option.some.injEq, exists_eq_left', State.setTop_setTop, State.heap_setTop]
  intro acts
  simp [jvm, XF.here.top]
  exact a1
end
end
