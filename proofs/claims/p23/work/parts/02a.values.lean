/-! values up to the bits of a NaN -/
abbrev Sg : Type := Nat → Nat → Int32
abbrev Fl : Type := Nat → Nat → UInt32
abbrev KT : Type := Sg → Fl → Nat → List (Nat × Value) → List Value → Prop
def alV (v w : Value) : Prop := match w with
  | .float b => ∃ a, v = .float a ∧ alike32 a b = true
  | .double b => ∃ a, v = .double a ∧ alike64 a b = true
  | w => v = w
theorem alV_rf (w : Value) : alV w w := by
  cases w <;> first | rfl | exact ⟨_, rfl, alike32_refl _⟩ | exact ⟨_, rfl, alike64_refl _⟩
theorem alV_cat {v w : Value} (h : alV v w) : v.category = w.category := by
  cases w <;> first | (obtain ⟨a, rfl, -⟩ := h; rfl) | (cases h; rfl)
def alS : List Value → List Value → Prop
  | [], [] => True
  | v :: vs, w :: ws => alV v w ∧ alS vs ws
  | _, _ => False
theorem alS_rf : ∀ l : List Value, alS l l
  | [] => True.intro
  | v :: vs => ⟨alV_rf v, alS_rf vs⟩
theorem alS_cons {x : List Value} {w : Value} {ws : List Value} (h : alS x (w :: ws)) : ∃ v vs, x = v :: vs ∧ alV v w ∧ alS vs ws := by
  cases x with
  | nil => exact h.elim
  | cons v vs => exact ⟨v, vs, rfl, h.1, h.2⟩
theorem alS_nil {x : List Value} (h : alS x []) : x = [] := by
  cases x with
  | nil => rfl
  | cons v vs => exact h.elim
theorem alS_int {x : List Value} {a : Int32} {ws : List Value} (h : alS x (.int a :: ws)) : ∃ vs, x = .int a :: vs ∧ alS vs ws := by
  obtain ⟨v, vs, rfl, h1, h2⟩ := alS_cons h
  cases (h1 : v = .int a)
  exact ⟨vs, rfl, h2⟩
theorem alS_ref {x : List Value} {a : Nat} {ws : List Value} (h : alS x (.ref a :: ws)) : ∃ vs, x = .ref a :: vs ∧ alS vs ws := by
  obtain ⟨v, vs, rfl, h1, h2⟩ := alS_cons h
  cases (h1 : v = .ref a)
  exact ⟨vs, rfl, h2⟩
theorem alS_flt {x : List Value} {b : UInt32} {ws : List Value} (h : alS x (.float b :: ws)) : ∃ a vs, x = .float a :: vs ∧ alike32 a b = true ∧ alS vs ws := by
  obtain ⟨v, vs, rfl, ⟨a, rfl, h1⟩, h2⟩ := alS_cons h
  exact ⟨a, vs, rfl, h1, h2⟩
theorem alS_long {x : List Value} {a : Int64} {ws : List Value} (h : alS x (.long a :: ws)) : ∃ vs, x = .long a :: vs ∧ alS vs ws := by
  obtain ⟨v, vs, rfl, h1, h2⟩ := alS_cons h
  cases (h1 : v = .long a)
  exact ⟨vs, rfl, h2⟩
theorem alS_dbl {x : List Value} {b : UInt64} {ws : List Value} (h : alS x (.double b :: ws)) : ∃ a vs, x = .double a :: vs ∧ alike64 a b = true ∧ alS vs ws := by
  obtain ⟨v, vs, rfl, ⟨a, rfl, h1⟩, h2⟩ := alS_cons h
  exact ⟨a, vs, rfl, h1, h2⟩
theorem alS_app : ∀ {a0 a b0 b : List Value}, alS a0 a → alS b0 b → alS (a0 ++ b0) (a ++ b)
  | [], [], _, _, _, h => h
  | _ :: _, _ :: _, _, _, h1, h2 => ⟨h1.1, alS_app h1.2 h2⟩
  | [], _ :: _, _, _, h1, _ => h1.elim
  | _ :: _, [], _, _, h1, _ => h1.elim
theorem alS_split : ∀ {x a b : List Value}, alS x (a ++ b) → ∃ a0 b0, x = a0 ++ b0 ∧ alS a0 a ∧ alS b0 b
  | x, [], b, h => ⟨[], x, rfl, True.intro, h⟩
  | x, w :: a, b, h => by
    obtain ⟨v, vs, rfl, h1, h2⟩ := alS_cons (ws := a ++ b) h
    obtain ⟨a0, b0, rfl, h3, h4⟩ := alS_split h2
    exact ⟨v :: a0, b0, rfl, ⟨h1, h3⟩, h4⟩
theorem alS_rev : ∀ {x y : List Value}, alS x y → alS x.reverse y.reverse
  | [], [], h => h
  | v :: vs, w :: ws, h => by
    rw [List.reverse_cons, List.reverse_cons]
    exact alS_app (alS_rev h.2) ⟨h.1, True.intro⟩
  | [], _ :: _, h => h.elim
  | _ :: _, [], h => h.elim
theorem alS_len : ∀ {x y : List Value}, alS x y → x.length = y.length
  | [], [], _ => rfl
  | v :: vs, w :: ws, h => by rw [List.length_cons, List.length_cons, alS_len h.2]
  | [], _ :: _, h => h.elim
  | _ :: _, [], h => h.elim
theorem alS_cat : ∀ {x y : List Value}, alS x y → (x.map fun v => v.category) = (y.map fun v => v.category)
  | [], [], _ => rfl
  | v :: vs, w :: ws, h => by rw [List.map_cons, List.map_cons, alV_cat h.1, alS_cat h.2]
  | [], _ :: _, h => h.elim
  | _ :: _, [], h => h.elim
theorem alS_sl : ∀ {x y : List Value}, alS x y → (lg_sl x).length = (lg_sl y).length
  | [], [], _ => rfl
  | v :: vs, w :: ws, h => by
    have e := alS_sl h.2
    have c := alV_cat h.1
    by_cases h2 : w.category = 2
    · simp only [lg_sl, List.flatMap_cons, List.length_append, c, h2] at e ⊢
      simp [e]
    · simp only [lg_sl, List.flatMap_cons, List.length_append, c, h2] at e ⊢
      simp [e]
  | [], _ :: _, h => h.elim
  | _ :: _, [], h => h.elim
def alL : List (Nat × Value) → List (Nat × Value) → Prop
  | [], [] => True
  | v :: vs, w :: ws => (v.1 = w.1 ∧ alV v.2 w.2) ∧ alL vs ws
  | _, _ => False
theorem alL_args : ∀ {x y : List Value} (i : Nat), alS x y → alL (lv_args i x) (lv_args i y)
  | [], [], _, _ => True.intro
  | v :: vs, w :: ws, i, h => ⟨⟨rfl, h.1⟩, by rw [alV_cat h.1]; exact alL_args _ h.2⟩
  | [], _ :: _, _, h => h.elim
  | _ :: _, [], _, h => h.elim
theorem alL_at : ∀ {x y : List (Nat × Value)} (j : Nat) {i : Nat} {w : Value}, alL x y → y[j]? = some (i, w) → ∃ v, x[j]? = some (i, v) ∧ alV v w
  | [], [], _, _, _, _, h => by simp at h
  | v :: vs, w :: ws, 0, i, z, h, e => by
    simp only [List.getElem?_cons_zero, Option.some.injEq] at e
    subst e
    obtain ⟨a, b⟩ := v
    cases (h.1.1 : a = i)
    exact ⟨b, rfl, h.1.2⟩
  | v :: vs, w :: ws, j + 1, i, z, h, e => by
    simp only [List.getElem?_cons_succ] at e ⊢
    exact alL_at j h.2 e
  | [], _ :: _, _, _, _, h, _ => h.elim
  | _ :: _, [], _, _, _, h, _ => h.elim
theorem alL_filter {f : Nat × Value → Bool} (hf : ∀ (i : Nat) (v w : Value), v.category = w.category → f (i, v) = f (i, w)) : ∀ {x y : List (Nat × Value)}, alL x y → alL (x.filter f) (y.filter f)
  | [], [], _ => True.intro
  | (i, v) :: vs, (j, w) :: ws, h => by
    have ih := alL_filter hf h.2
    have e : i = j := h.1.1
    subst e
    have e2 := hf i v w (alV_cat h.1.2)
    by_cases hc : f (i, w) = true
    · rw [List.filter_cons_of_pos hc, List.filter_cons_of_pos (e2.trans hc)]
      exact ⟨⟨rfl, h.1.2⟩, ih⟩
    · rw [List.filter_cons_of_neg hc, List.filter_cons_of_neg (by rw [e2]; exact hc)]
      exact ih
  | [], _ :: _, h => h.elim
  | _ :: _, [], h => h.elim
theorem alL_pick {x y : List (Nat × Value)} (h : alL x y) : ∀ ks : List Nat, alL (lv_pick x ks) (lv_pick y ks)
  | [] => True.intro
  | k :: ks => by
    have ih := alL_pick h ks
    cases hy : y[k]? with
    | none =>
      have hx : x[k]? = none := by
        have : ∀ {x y : List (Nat × Value)}, alL x y → x.length = y.length := by
          intro x
          induction x with
          | nil => intro y h; cases y with
            | nil => rfl
            | cons a b => exact h.elim
          | cons c d ih => intro y h; cases y with
            | nil => exact h.elim
            | cons a b => rw [List.length_cons, List.length_cons, ih h.2]
        rw [List.getElem?_eq_none_iff] at hy ⊢
        rw [this h]
        exact hy
      simp only [lv_pick, List.filterMap_cons, hx, hy]
      exact ih
    | some w =>
      obtain ⟨i, w⟩ := w
      obtain ⟨v, hx, hv⟩ := alL_at k h hy
      simp only [lv_pick, List.filterMap_cons, hx, hy]
      exact ⟨⟨rfl, hv⟩, ih⟩
/-! floats: an operation looks at its operands' data alone -/
theorem fp_nan32 {x : UInt32} (h : isNaN32 x = true) : FP.Core.decode FP.Core.b32 x.toNat = .nan := by
  have h1 := isNaN32_iff.mp h
  have h2 : x.toNat &&& 0x7fffffff = x.toNat % 2 ^ 31 := Nat.and_two_pow_sub_one_eq_mod x.toNat 31
  rw [h2] at h1
  have hE : FP.Core.fieldE FP.Core.b32 x.toNat = 255 := by
    show x.toNat / 2 ^ 23 % 2 ^ 8 = 255
    omega
  have hT : FP.Core.fieldT FP.Core.b32 x.toNat ≠ 0 := by
    show x.toNat % 2 ^ 23 ≠ 0
    have hE' : x.toNat / 2 ^ 23 % 2 ^ 8 = 255 := hE
    omega
  unfold FP.Core.decode
  rw [if_pos (by rw [hE]; rfl), if_neg hT]
theorem fp_al32 {x y : UInt32} (h : alike32 x y = true) : FP.Core.decode FP.Core.b32 x.toNat = FP.Core.decode FP.Core.b32 y.toNat := by
  simp only [alike32, Bool.or_eq_true, Bool.and_eq_true, decide_eq_true_eq] at h
  rcases h with rfl | ⟨h1, h2⟩
  · rfl
  · rw [fp_nan32 h1, fp_nan32 h2]
theorem fp_nan64 {x : UInt64} (h : isNaN64 x = true) : FP.Core.decode FP.Core.b64 x.toNat = .nan := by
  have h1 : (0x7ff0000000000000 : Nat) < x.toNat &&& 0x7fffffffffffffff := isNaN64_iff.mp h
  have h2 : x.toNat &&& 0x7fffffffffffffff = x.toNat % 2 ^ 63 := Nat.and_two_pow_sub_one_eq_mod x.toNat 63
  rw [h2] at h1
  have hE : FP.Core.fieldE FP.Core.b64 x.toNat = 2047 := by
    show x.toNat / 2 ^ 52 % 2 ^ 11 = 2047
    omega
  have hT : FP.Core.fieldT FP.Core.b64 x.toNat ≠ 0 := by
    show x.toNat % 2 ^ 52 ≠ 0
    have hE' : x.toNat / 2 ^ 52 % 2 ^ 11 = 2047 := hE
    omega
  unfold FP.Core.decode
  rw [if_pos (by rw [hE]; rfl), if_neg hT]
theorem fp_al64 {x y : UInt64} (h : alike64 x y = true) : FP.Core.decode FP.Core.b64 x.toNat = FP.Core.decode FP.Core.b64 y.toNat := by
  simp only [alike64, Bool.or_eq_true, Bool.and_eq_true, decide_eq_true_eq] at h
  rcases h with rfl | ⟨h1, h2⟩
  · rfl
  · rw [fp_nan64 h1, fp_nan64 h2]
theorem al32_tr {x y z : UInt32} (h1 : alike32 x y = true) (h2 : alike32 y z = true) : alike32 x z = true := by
  simp only [alike32, Bool.or_eq_true, Bool.and_eq_true, decide_eq_true_eq] at h1 h2 ⊢
  rcases h1 with rfl | ⟨h1, h3⟩
  · exact h2
  · rcases h2 with rfl | ⟨h2, h4⟩
    · exact Or.inr ⟨h1, h3⟩
    · exact Or.inr ⟨h1, h4⟩
theorem al64_tr {x y z : UInt64} (h1 : alike64 x y = true) (h2 : alike64 y z = true) : alike64 x z = true := by
  simp only [alike64, Bool.or_eq_true, Bool.and_eq_true, decide_eq_true_eq] at h1 h2 ⊢
  rcases h1 with rfl | ⟨h1, h3⟩
  · exact h2
  · rcases h2 with rfl | ⟨h2, h4⟩
    · exact Or.inr ⟨h1, h3⟩
    · exact Or.inr ⟨h1, h4⟩
theorem fp_add {a b x y : UInt32} (h1 : alike32 a x = true) (h2 : alike32 b y = true) : FP.fadd a b = FP.fadd x y := by
  show FP.Core.fadd a b = FP.Core.fadd x y
  unfold FP.Core.fadd FP.Core.add
  rw [fp_al32 h1, fp_al32 h2]
theorem fp_sub {a b x y : UInt32} (h1 : alike32 a x = true) (h2 : alike32 b y = true) : FP.fsub a b = FP.fsub x y := by
  show FP.Core.fsub a b = FP.Core.fsub x y
  unfold FP.Core.fsub FP.Core.sub
  rw [fp_al32 h1, fp_al32 h2]
theorem fp_mul {a b x y : UInt32} (h1 : alike32 a x = true) (h2 : alike32 b y = true) : FP.fmul a b = FP.fmul x y := by
  show FP.Core.fmul a b = FP.Core.fmul x y
  unfold FP.Core.fmul FP.Core.mul
  rw [fp_al32 h1, fp_al32 h2]
theorem fp_div {a b x y : UInt32} (h1 : alike32 a x = true) (h2 : alike32 b y = true) : FP.fdiv a b = FP.fdiv x y := by
  show FP.Core.fdiv a b = FP.Core.fdiv x y
  unfold FP.Core.fdiv FP.Core.div
  rw [fp_al32 h1, fp_al32 h2]
theorem fp_cmp {a b x y : UInt32} (h1 : alike32 a x = true) (h2 : alike32 b y = true) : FP.fcmp a b = FP.fcmp x y := by
  show FP.Core.fcmp a b = FP.Core.fcmp x y
  unfold FP.Core.fcmp FP.Core.cmp
  rw [fp_al32 h1, fp_al32 h2]
theorem fp_dcmp {a b x y : UInt64} (h1 : alike64 a x = true) (h2 : alike64 b y = true) : FP.dcmp a b = FP.dcmp x y := by
  show FP.Core.dcmp a b = FP.Core.dcmp x y
  unfold FP.Core.dcmp FP.Core.cmp
  rw [fp_al64 h1, fp_al64 h2]
theorem fp_f2i {a x : UInt32} (h1 : alike32 a x = true) : FP.f2i a = FP.f2i x := by
  show FP.Core.f2i a = FP.Core.f2i x
  unfold FP.Core.f2i
  rw [fp_al32 h1]
theorem fp_f2d {a x : UInt32} (h1 : alike32 a x = true) : alike64 (FP.f2d a) (FP.f2d x) = true := by
  simp only [alike32, Bool.or_eq_true, Bool.and_eq_true, decide_eq_true_eq] at h1
  rcases h1 with rfl | ⟨h1, h2⟩
  · exact alike64_refl _
  · have key : ∀ z : UInt32, isNaN32 z = true → isNaN64 (FP.f2d z) = true := by
      intro z hz
      have e : FP.Core.fIsNaN z = true := by
        show decide (FP.Core.decode FP.Core.b32 z.toNat = .nan) = true
        rw [fp_nan32 hz]
        rfl
      unfold FP.f2d
      rw [if_pos e]
      unfold FP.nanF2D
      exact isNaN64_or_left (isNaN64_or_right (by decide))
    simp only [alike64, key a h1, key x h2, Bool.and_self, Bool.or_true]
def alF (φ0 φ : Fl) : Prop := ∀ k j, alike32 (φ0 k j) (φ k j) = true
theorem alF_up {φ0 φ : Fl} (h : alF φ0 φ) (k j : Nat) {x y : UInt32} (hx : alike32 x y = true) : alF (va_up φ0 k (vf_upd (φ0 k) j x)) (va_up φ k (vf_upd (φ k) j y)) := by
  intro a b
  unfold va_up
  by_cases h1 : a = k
  · subst h1
    rw [if_pos rfl, if_pos rfl]
    unfold vf_upd
    by_cases h2 : b = j
    · rw [if_pos h2, if_pos h2]; exact hx
    · rw [if_neg h2, if_neg h2]; exact h a b
  · rw [if_neg h1, if_neg h1]; exact h a b

/-! words -/
def lw_all : List Cond := lw_tbl.filter goodWord
def isNestW : Cond → Bool
  | .fieldLinkNest .. => true
  | .methodLinkNest .. => true
  | _ => false
def lw_nest : List Cond := lw_tbl.filter isNestW
theorem lw_all_tbl {w : Cond} (h : w ∈ lw_all) : w ∈ lw_tbl := (List.mem_filter.mp h).1
theorem lw_all_good : GoodIn lw_all lw_all := fun _ h => ⟨h, good_of_word (List.mem_filter.mp h).2⟩
theorem lw_in {w : Cond} (i : Nat) (h : lw_tbl[i]? = some w) (hg : goodWord w = true) : w ∈ lw_all := List.mem_filter.mpr ⟨List.mem_of_getElem? h, hg⟩
theorem lw_inN {w : Cond} (i : Nat) (h : lw_tbl[i]? = some w) (hg : isNestW w = true) : w ∈ lw_nest := List.mem_filter.mpr ⟨List.mem_of_getElem? h, hg⟩
def NW (U : State) : Prop := ∀ w ∈ lw_nest, va_Nw w U
theorem NW.warm {s U : State} (hW : s.WarmedH U.vm) (h : NW s) : NW U := by
  intro w hw
  have h1 := h w hw
  have h2 := (List.mem_filter.mp hw).2
  cases w <;> first | exact va_Nw.warmF hW h1 | exact va_Nw.warmM hW h1 | cases h2
theorem NW.same {u U : State} (e : u.vm = U.vm) (h : NW u) : NW U := by
  intro w hw
  have h1 := h w hw
  have h2 := (List.mem_filter.mp hw).2
  cases w <;> first | exact va_Nw.same rfl e h1 | cases h2

