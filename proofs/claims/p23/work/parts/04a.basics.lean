/-! what both sides of the law rest on -/
theorem sw_at (σ : Sg) (k i : Nat) (v : Int32) (k' : Nat) : sw σ k i v k' = if k' = k then upd (σ k) i v else σ k' := by
  by_cases h : k' = k
  · subst h; rw [if_pos rfl]; exact funext fun j => by simp [sw, va_up]
  · rw [if_neg h]; exact sw_row h
theorem upd_at (f : Nat → Int32) (i : Nat) (v : Int32) (j : Nat) : upd f i v j = if j = i then v else f j := by
  by_cases h : j = i
  · subst h; rw [if_pos rfl]; exact pk_us
  · rw [if_neg h]; exact pk_un h
theorem upd_self (f : Nat → Int32) (i : Nat) (v : Int32) : upd f i v i = v := pk_us
theorem fw_at (φ : Fl) (k i : Nat) (v : UInt32) (k' : Nat) : fw φ k i v k' = if k' = k then vf_upd (φ k) i v else φ k' := by
  by_cases h : k' = k
  · subst h; rw [if_pos rfl]; exact funext fun j => by simp [fw, va_up]
  · rw [if_neg h]; exact funext fun j => by simp [fw, va_up, h]
/-- only the cells of the list are written -/
def Kp {α : Type} (L : List Nat) (s s' : Nat → α) : Prop := ∀ k, ¬ k ∈ L → s' k = s k
theorem Kp.rf {α : Type} {L : List Nat} (s : Nat → α) : Kp L s s := fun _ _ => rfl
theorem Kp.tr {α : Type} {L : List Nat} {s s' s'' : Nat → α} (h : Kp L s s') (h2 : Kp L s' s'') : Kp L s s'' := fun k q => (h2 k q).trans (h k q)
theorem Kp.up {α : Type} {L L' : List Nat} {s s' : Nat → α} (h : Kp L s s') (hl : ∀ k, k ∈ L → k ∈ L') : Kp L' s s' := fun k q => h k (fun r => q (hl k r))
theorem Kp.sw {L : List Nat} {c : Nat} (h : c ∈ L) (s : Sg) (i : Nat) (v : Int32) : Kp L s (sw s c i v) := fun k q => sw_row (fun e => q (e ▸ h))
theorem Kp.fw {L : List Nat} {c : Nat} (h : c ∈ L) (s : Fl) (i : Nat) (v : UInt32) : Kp L s (fw s c i v) := fun k q => by rw [fw_at, if_neg (fun e : k = c => q (e ▸ h))]
theorem Kp.loop {α : Type} {L : List Nat} {B : Nat → (Nat → α) → (Nat → α)} {N : Nat} (s : Nat → α) (h : ∀ j s, j < N → Kp L s (B j s)) : Kp L s (loopF B N s) := loopF_inv (fun _ s' => Kp L s s') (Kp.rf s) (fun j s' hj hi => hi.tr (h j s' hj))
theorem two {τ τ' : Type} {B : Nat → τ → τ} {B' : Nat → τ' → τ'} {N : Nat} {I : τ} {I' : τ'} (R : Nat → τ → τ' → Prop) (h0 : R 0 I I') (hs : ∀ j s s', j < N → R j s s' → R (j + 1) (B j s) (B' j s')) : R N (loopF B N I) (loopF B' N I') := by
  have key : ∀ n, n ≤ N → R n (loopF B n I) (loopF B' n I') := by
    intro n
    induction n with
    | zero => intro _; exact h0
    | succ n ih => intro h; exact hs n _ _ (by omega) (ih (by omega))
  exact key N (Nat.le_refl _)
theorem bnd_upd {f : Nat → Int32} {lo hi : Int} (h : ∀ k, lo ≤ (f k).toInt ∧ (f k).toInt ≤ hi) {v : Int32} (hv : lo ≤ v.toInt ∧ v.toInt ≤ hi) (i : Nat) : ∀ k, lo ≤ (upd f i v k).toInt ∧ (upd f i v k).toInt ≤ hi := by
  intro k
  rw [upd_at]
  by_cases q : k = i
  · rw [if_pos q]; exact hv
  · rw [if_neg q]; exact h k
theorem in_bnd {x a b : Int32} (h : ¬ f_X10_isWithin x a b = 0) : a.toInt ≤ x.toInt ∧ x.toInt ≤ b.toInt := by
  obtain ⟨h1, h2⟩ := iw_ne.mp h
  rw [i32_le] at h1 h2
  exact ⟨h1, h2⟩
theorem color_bnd {a b c : Int32} (h : ¬ f_X10_isPaint a b c = 0) : (0 ≤ a.toInt ∧ a.toInt ≤ 200) ∧ (-60 ≤ b.toInt ∧ b.toInt ≤ 60) ∧ (-60 ≤ c.toInt ∧ c.toInt ≤ 60) := by
  rw [f_X10_isPaint_eq] at h
  dsimp only at h
  by_cases h1 : f_X10_isWithin a 0 200 = 0
  · rw [if_pos h1] at h; exact absurd rfl h
  · rw [if_neg h1] at h
    by_cases h2 : f_X10_isWithin b (-60) 60 = 0
    · rw [if_pos h2] at h; exact absurd rfl h
    · rw [if_neg h2] at h
      by_cases h3 : f_X10_isWithin c (-60) 60 = 0
      · rw [if_pos h3] at h; exact absurd rfl h
      · exact ⟨in_bnd h1, in_bnd h2, in_bnd h3⟩
theorem paint_st (σ : Sg) (p a b c : Int32) : (f_X7_paint σ p a b c).2 = sw (sw (sw σ 2 p.toNatClampNeg a) 3 p.toNatClampNeg b) 4 p.toNatClampNeg c := rfl
theorem kp_paint (σ : Sg) (p a b c : Int32) : Kp [2, 3, 4] σ (f_X7_paint σ p a b c).2 := ((Kp.sw (by decide) _ _ _).tr (Kp.sw (by decide) _ _ _)).tr (Kp.sw (by decide) _ _ _)
theorem paint_2 (σ : Sg) (p a b c : Int32) : (f_X7_paint σ p a b c).2 2 = upd (σ 2) p.toNatClampNeg a ∧ (f_X7_paint σ p a b c).2 3 = upd (σ 3) p.toNatClampNeg b ∧ (f_X7_paint σ p a b c).2 4 = upd (σ 4) p.toNatClampNeg c := by
  rw [paint_st]
  refine ⟨?_, ?_, ?_⟩ <;> simp [sw_at]
theorem add01 {w : Int32} (hw : w = 0 ∨ w = 1) (a : Int32) : (if w = 0 then a else a + 1) = a + w := by
  rcases hw with rfl | rfl
  · rw [if_pos rfl, Int32.add_zero]
  · rw [if_neg (by decide)]
theorem kp_fill (σ : Sg) (x a b c : Int32) (n k : Nat) : Kp [2, 3, 4] σ (loopF (b_X10_fill_29 x a b c) n (nI k, σ)).2 := loopF_inv (N := n) (I := (nI k, σ)) (fun _ s => Kp [2, 3, 4] σ s.2) (Kp.rf _) (fun j s _ hs => hs.tr (kp_paint _ _ _ _ _))
theorem tq_bm {z : Int} (h1 : -2147483648 ≤ z) (h2 : z < 2147483648) : z.bmod (2 ^ 32) = z := by
  rw [Int.bmod_def]
  split <;> omega
theorem tq_div {x d : Int32} {n : Nat} (hd : d.toInt = n) (h2 : 2 ≤ n) : (x / d).toInt = x.toInt.tdiv n := by
  have a1 := Int32.le_toInt x
  have a2 := Int32.toInt_lt x
  rw [Int32.toInt_div, hd]
  have b1 : (x.toInt.tdiv n).natAbs = x.toInt.natAbs / n := by rw [Int.natAbs_tdiv]; rfl
  have b2 : x.toInt.natAbs / n ≤ x.toInt.natAbs / 2 := Nat.div_le_div_left h2 (by decide)
  exact tq_bm (by omega) (by omega)
theorem tq_sg (x : Int) (n : Nat) : (0 ≤ x → 0 ≤ x.tmod n) ∧ (x ≤ 0 → x.tmod n ≤ 0) := by
  refine ⟨fun h => Int.tmod_nonneg _ h, fun h => ?_⟩
  have h1 : 0 ≤ (-x).tmod n := Int.tmod_nonneg _ (by omega)
  rw [Int.neg_tmod] at h1
  omega
theorem tq_rem {x d : Int32} {n : Nat} (hd : d.toInt = n) (h2 : 2 ≤ n) : (x - x / d * d).toInt = x.toInt.tmod n := by
  have a1 := Int32.le_toInt x
  have a2 := Int32.toInt_lt x
  have e := Int.tmod_add_mul_tdiv x.toInt n
  have b3 : (x.toInt.tmod n).natAbs = x.toInt.natAbs % n := by rw [Int.natAbs_tmod]; rfl
  have b4 : x.toInt.natAbs % n ≤ x.toInt.natAbs := Nat.mod_le _ _
  obtain ⟨s1, s2⟩ := tq_sg x.toInt n
  have c1 : x.toInt.tdiv n * n = n * x.toInt.tdiv n := Int.mul_comm _ _
  rw [Int32.toInt_sub, Int32.toInt_mul, tq_div hd h2, hd, c1]
  rw [tq_bm (z := (n : Int) * x.toInt.tdiv n) (by omega) (by omega)]
  rw [tq_bm (by omega) (by omega)]
  omega
theorem xor_sg (x : Int32) {d : Int32} (hd : d.toBitVec.msb = false) : 0 ≤ (x ^^^ d) ↔ 0 ≤ x := by
  have key : ∀ y : Int32, 0 ≤ y ↔ y.toBitVec.msb = false := by
    intro y
    rw [i32_le, show (0 : Int32).toInt = 0 from rfl, BitVec.msb_eq_toInt]
    show 0 ≤ y.toInt ↔ decide (y.toInt < 0) = false
    rw [decide_eq_false_iff_not]
    omega
  rw [key, key, Int32.toBitVec_xor, BitVec.msb_xor, hd, Bool.xor_false]
theorem and3_cases (w : Int32) : w &&& 3 = nI 0 ∨ w &&& 3 = nI 1 ∨ w &&& 3 = nI 2 ∨ w &&& 3 = nI 3 := by
  obtain ⟨j, hj, e⟩ := pk_andE w (m := 3) 2 (by decide)
  have : j = 0 ∨ j = 1 ∨ j = 2 ∨ j = 3 := by omega
  rcases this with rfl | rfl | rfl | rfl
  · exact .inl e
  · exact .inr (.inl e)
  · exact .inr (.inr (.inl e))
  · exact .inr (.inr (.inr e))
theorem oneIf_01 {w : Int32} (hw : w = 0 ∨ w = 1) : f_X10_oneIf w = w := by
  rcases hw with rfl | rfl <;> rfl
theorem loop_eq {τ : Type} {B B' : Nat → τ → τ} {N : Nat} (I : τ) (h : ∀ j s, j < N → B j s = B' j s) : loopF B N I = loopF B' N I := two (N := N) (I := I) (I' := I) (fun _ s s' => s = s') rfl (fun j s s' hj e => by rw [← e]; exact h j s hj)
theorem i32_nle {a b : Int32} : ¬ b ≤ a ↔ a < b := by rw [i32_le, i32_lt]; omega
def bd (a : Int32) (A : Nat) : Prop := a.toInt.natAbs ≤ A
theorem bd_lit {a : Int32} {A : Nat} (h : a.toInt.natAbs ≤ A) : bd a A := h
theorem bd_le {a : Int32} {A B : Nat} (h : bd a A) (q : A ≤ B) : bd a B := Nat.le_trans h q
theorem bd_ite {c : Prop} [Decidable c] {a b : Int32} {A : Nat} (ha : bd a A) (hb : bd b A) : bd (if c then a else b) A := by
  by_cases h : c
  · rw [if_pos h]; exact ha
  · rw [if_neg h]; exact hb
theorem bd_add {a b : Int32} {A B : Nat} (ha : bd a A) (hb : bd b B) (h : A + B < 2147483648) : bd (a + b) (A + B) := by
  unfold bd at *
  rw [Int32.toInt_add, tq_bm (by omega) (by omega)]
  omega
theorem bd_sub {a b : Int32} {A B : Nat} (ha : bd a A) (hb : bd b B) (h : A + B < 2147483648) : bd (a - b) (A + B) := by
  unfold bd at *
  rw [Int32.toInt_sub, tq_bm (by omega) (by omega)]
  omega
theorem bd_neg {a : Int32} {A : Nat} (ha : bd a A) (h : A < 2147483648) : bd (-a) A := by
  unfold bd at *
  rw [Int32.toInt_neg, tq_bm (by omega) (by omega)]
  omega
theorem mul_toInt {a b : Int32} {A B : Nat} (ha : bd a A) (hb : bd b B) (h : A * B < 2147483648) : (a * b).toInt = a.toInt * b.toInt ∧ (a.toInt * b.toInt).natAbs ≤ A * B := by
  unfold bd at *
  have e : (a.toInt * b.toInt).natAbs ≤ A * B := by rw [Int.natAbs_mul]; exact Nat.mul_le_mul ha hb
  refine ⟨?_, e⟩
  rw [Int32.toInt_mul, tq_bm (by omega) (by omega)]
theorem bd_mul {a b : Int32} {A B : Nat} (ha : bd a A) (hb : bd b B) (h : A * B < 2147483648) : bd (a * b) (A * B) := by
  obtain ⟨e, e2⟩ := mul_toInt ha hb h
  unfold bd
  rw [e]
  exact e2
theorem bd_rem (z : Int32) : bd (z - z / 5 * 5 - 2) 6 := by
  have e : bd (z - z / 5 * 5) 4 := by
    unfold bd
    rw [tq_rem (d := 5) (n := 5) rfl (by decide), Int.natAbs_tmod]
    have : z.toInt.natAbs % 5 < 5 := Nat.mod_lt _ (by decide)
    exact Nat.le_of_lt_succ this
  exact bd_sub (A := 4) (B := 2) e (bd_lit (by decide)) (by decide)
theorem bd_of {a : Int32} {l h : Int} {A : Nat} (q : l ≤ a.toInt ∧ a.toInt ≤ h) (h1 : -(A : Int) ≤ l) (h2 : h ≤ A) : bd a A := by
  unfold bd
  omega
theorem lt8 {b : Nat} (h : b < 8) : b = 0 ∨ b = 1 ∨ b = 2 ∨ b = 3 ∨ b = 4 ∨ b = 5 ∨ b = 6 ∨ b = 7 := by omega
def SL : List Nat := [17, 18, 19, 20, 21, 22, 23, 24]
theorem SL_in {j : Nat} (h : j < 8) : 17 + j ∈ SL := by
  rcases lt8 h with rfl | rfl | rfl | rfl | rfl | rfl | rfl | rfl <;> decide
theorem SL_le {k : Nat} (h : k ∈ SL) : 17 ≤ k ∧ k ≤ 24 := by
  unfold SL at h
  simp only [List.mem_cons, List.mem_nil_iff, or_false] at h
  omega
/-- the class's samples are these -/
def AT (S : Int32 → Int32 → Int32) (σ : Sg) : Prop := ∀ x y, vp_in x 8 → f_X9_at σ x y = S x y
theorem AT.k {S : Int32 → Int32 → Int32} {s s' : Sg} (h : AT S s) (e : ∀ k, 17 ≤ k → k ≤ 24 → s' k = s k) : AT S s' := by
  intro x y hx
  rw [← h x y hx, f_X9_at_eq, f_X9_at_eq]
  obtain ⟨n, hn, rfl⟩ := vp_in_of hx (by decide)
  rw [nI_clamp (by omega), e (17 + n) (by omega) (by omega)]
/-- the first place where four are low -/
def FPl (P : Nat → Prop) (v d : Int32) : Prop := (∃ k, k ≤ 20 ∧ (∀ i, i < 4 → P (k + i)) ∧ (∀ k', k' < k → ∃ i, i < 4 ∧ ¬ P (k' + i)) ∧ v = nI k) ∨ ((∀ k, k ≤ 20 → ∃ i, i < 4 ∧ ¬ P (k + i)) ∧ v = d)
theorem m3_eq {j : Nat} (h : 3 ≤ j) : nI j - 4 + 1 = nI (j - 3) := by
  have e : nI j = nI (j - 3) + nI 3 := by rw [nI_add, show j - 3 + 3 = j by omega]
  rw [e, Int32.sub_eq_add_neg, Int32.add_assoc, Int32.add_assoc, show (nI 3 + (-4 + 1) : Int32) = 0 from by decide, Int32.add_zero]
theorem pulse_cls {S : Int32 → Int32 → Int32} {s : Sg} (hA : AT S s) {x : Int32} (hx : vp_in x 8) : FPl (fun k => S x (nI k) ≤ -20) (f_X9_pulseOf s x) (-1) := by
  have key : ∀ n j r, j + n = 24 → r ≤ 3 → r ≤ j → (∀ i, i < r → S x (nI (j - 1 - i)) ≤ -20) → (r < j → ¬ S x (nI (j - 1 - r)) ≤ -20) → (∀ k, k + 4 ≤ j → ∃ i, i < 4 ∧ ¬ S x (nI (k + i)) ≤ -20) → FPl (fun k => S x (nI k) ≤ -20) (sumE (loopE (b_X9_pulseOf_4 s x) n j (nI r)) (fun _ => (-1))) (-1) := by
    intro n
    induction n with
    | zero => intro j r h1 h2 h3 h4 h5 h6; exact .inr ⟨fun k hk => h6 k (by omega), rfl⟩
    | succ n ih =>
      intro j r h1 h2 h3 h4 h5 h6
      have eb : b_X9_pulseOf_4 s x j (nI r) = (if (if S x (nI j) ≤ -20 then nI (r + 1) else 0) = 4 then (.inl (nI j - 4 + 1)) else (.inr (if S x (nI j) ≤ -20 then nI (r + 1) else 0))) := by
        rw [b_X9_pulseOf_4_eq, hA x _ hx]
        dsimp only
        by_cases c : S x (nI j) ≤ -20
        · rw [if_pos c, if_neg (fun q => i32_nle.mpr q c), nI_1]
        · rw [if_neg c, if_pos (i32_nle.mp c)]
      by_cases c : S x (nI j) ≤ -20
      · rw [if_pos c] at eb
        by_cases c3 : r = 3
        · subst c3
          rw [if_pos (show nI (3 + 1) = 4 from rfl), m3_eq (by omega)] at eb
          rw [loopE_inl n eb]
          refine .inl ⟨j - 3, by omega, fun i hi => ?_, fun k hk => h6 k (by omega), rfl⟩
          by_cases ci : i = 3
          · show S x (nI (j - 3 + i)) ≤ -20
            rw [ci, show j - 3 + 3 = j by omega]; exact c
          · show S x (nI (j - 3 + i)) ≤ -20
            have := h4 (2 - i) (by omega)
            rw [show j - 1 - (2 - i) = j - 3 + i by omega] at this
            exact this
        · rw [if_neg (show ¬ nI (r + 1) = 4 from fun q => c3 (by have := (nI_eq (a := r + 1) (b := 4) (by omega) (by decide)).mp q; omega))] at eb
          rw [loopE_inr n eb]
          refine ih (j + 1) (r + 1) (by omega) (by omega) (by omega) (fun i hi => ?_) (fun hr => ?_) (fun k hk => ?_)
          · by_cases ci : i = 0
            · rw [ci]; exact c
            · have := h4 (i - 1) (by omega)
              rw [show j - 1 - (i - 1) = j + 1 - 1 - i by omega] at this
              exact this
          · have := h5 (by omega)
            rw [show j - 1 - r = j + 1 - 1 - (r + 1) by omega] at this
            exact this
          · by_cases ck : k + 4 ≤ j
            · exact h6 k ck
            · by_cases cr : r < j
              · refine ⟨2 - r, by omega, ?_⟩
                have := h5 cr
                rw [show j - 1 - r = k + (2 - r) by omega] at this
                exact this
              · omega
      · rw [if_neg c, if_neg (show ¬ (0 : Int32) = 4 by decide)] at eb
        rw [loopE_inr n eb]
        refine ih (j + 1) 0 (by omega) (by omega) (by omega) (fun i hi => absurd hi (by omega)) (fun _ => c) (fun k hk => ?_)
        by_cases ck : k + 4 ≤ j
        · exact h6 k ck
        · refine ⟨3, by decide, ?_⟩
          rw [show k + 3 = j by omega]
          exact c
  rw [f_X9_pulseOf_eq]
  exact key 24 0 0 rfl (by decide) (by decide) (fun i hi => absurd hi (by omega)) (fun q => absurd q (by omega)) (fun k hk => absurd hk (by omega))
/-- the flywheel -/
theorem steer_at (s : Sg) (x : Int32) : Kp [25] s (f_X4_steer s x) ∧ (f_X4_steer s x) 25 4 = (if x = -1 then s 25 4 else if f_X10_isWithin (4 * x - s 25 4) (-12) 12 = 0 then (if s 25 7 = 0 then 4 * x else s 25 4) else s 25 4 + (4 * x - s 25 4) / 2) ∧ (f_X4_steer s x) 25 5 = (if x = -1 then 0 else if f_X10_isWithin (4 * x - s 25 4) (-12) 12 = 0 then 0 else s 25 5 + 1) ∧ (f_X4_steer s x) 25 6 = (if x = -1 then s 25 6 + 1 else if f_X10_isWithin (4 * x - s 25 4) (-12) 12 = 0 then s 25 6 + 1 else 0) ∧ (f_X4_steer s x) 25 7 = (if (if x = -1 then s 25 6 + 1 else if f_X10_isWithin (4 * x - s 25 4) (-12) 12 = 0 then s 25 6 + 1 else 0) < 4 then (if (if x = -1 then 0 else if f_X10_isWithin (4 * x - s 25 4) (-12) 12 = 0 then 0 else s 25 5 + 1) < 2 then s 25 7 else 1) else 0) := by
  have tail : ∀ (a : Sg) (W Hh M : Int32), Kp [25] s a → a 25 4 = W → a 25 5 = Hh → a 25 6 = M → a 25 7 = s 25 7 → Kp [25] s (if (if a 25 5 < 2 then a else sw a 25 7 1) 25 6 < 4 then (if a 25 5 < 2 then a else sw a 25 7 1) else sw (if a 25 5 < 2 then a else sw a 25 7 1) 25 7 0) ∧ (if (if a 25 5 < 2 then a else sw a 25 7 1) 25 6 < 4 then (if a 25 5 < 2 then a else sw a 25 7 1) else sw (if a 25 5 < 2 then a else sw a 25 7 1) 25 7 0) 25 4 = W ∧ (if (if a 25 5 < 2 then a else sw a 25 7 1) 25 6 < 4 then (if a 25 5 < 2 then a else sw a 25 7 1) else sw (if a 25 5 < 2 then a else sw a 25 7 1) 25 7 0) 25 5 = Hh ∧ (if (if a 25 5 < 2 then a else sw a 25 7 1) 25 6 < 4 then (if a 25 5 < 2 then a else sw a 25 7 1) else sw (if a 25 5 < 2 then a else sw a 25 7 1) 25 7 0) 25 6 = M ∧ (if (if a 25 5 < 2 then a else sw a 25 7 1) 25 6 < 4 then (if a 25 5 < 2 then a else sw a 25 7 1) else sw (if a 25 5 < 2 then a else sw a 25 7 1) 25 7 0) 25 7 = (if M < 4 then (if Hh < 2 then s 25 7 else 1) else 0) := by
    intro a W Hh M k0 k1 k2 k3 k4
    subst k1 k2 k3
    by_cases c1 : a 25 5 < 2
    · rw [if_pos c1, if_pos c1]
      by_cases c2 : a 25 6 < 4
      · rw [if_pos c2, if_pos c2]; exact ⟨k0, rfl, rfl, rfl, k4⟩
      · rw [if_neg c2, if_neg c2]
        exact ⟨k0.tr (Kp.sw (by decide) _ _ _), sw_place (by decide) _, sw_place (by decide) _, sw_place (by decide) _, sw_same _ _ _ _⟩
    · rw [if_neg c1, if_neg c1, sw_place (show ¬ (6 : Nat) = 7 by decide)]
      have k1 : Kp [25] s (sw a 25 7 1) := k0.tr (Kp.sw (by decide) _ _ _)
      by_cases c2 : a 25 6 < 4
      · rw [if_pos c2, if_pos c2]; exact ⟨k1, sw_place (by decide) _, sw_place (by decide) _, sw_place (by decide) _, sw_same _ _ _ _⟩
      · rw [if_neg c2, if_neg c2]
        refine ⟨k1.tr (Kp.sw (by decide) _ _ _), (sw_place (by decide) _).trans (sw_place (by decide) _), (sw_place (by decide) _).trans (sw_place (by decide) _), (sw_place (by decide) _).trans (sw_place (by decide) _), sw_same _ _ _ _⟩
  rw [f_X4_steer_eq]
  dsimp only
  refine tail _ _ _ _ ?_ ?_ ?_ ?_ ?_
  all_goals by_cases c1 : x = -1
  all_goals first
    | (simp only [if_pos c1]; first | exact (Kp.sw (by decide) _ _ _).tr (Kp.sw (by decide) _ _ _) | simp [sw_get])
    | (simp only [if_neg c1]
       by_cases c2 : f_X10_isWithin (4 * x - s 25 4) (-12) 12 = 0
       · simp only [if_pos c2, sw_place (show ¬ (7 : Nat) = 5 by decide), sw_place (show ¬ (7 : Nat) = 6 by decide)]
         by_cases c3 : s 25 7 = 0
         · simp only [if_pos c3]
           first | exact ((Kp.sw (by decide) _ _ _).tr (Kp.sw (by decide) _ _ _)).tr (Kp.sw (by decide) _ _ _) | simp [sw_get]
         · simp only [if_neg c3]
           first | exact (Kp.sw (by decide) _ _ _).tr (Kp.sw (by decide) _ _ _) | simp [sw_get]
       · simp only [if_neg c2]
         first | exact ((Kp.sw (by decide) _ _ _).tr (Kp.sw (by decide) _ _ _)).tr (Kp.sw (by decide) _ _ _) | simp [sw_get])
theorem upd_upd (f : Nat → Int32) (j : Nat) (a b : Int32) : upd (upd f j a) j b = upd f j b := funext fun k => by
  rw [upd_at, upd_at, upd_at]
  by_cases q : k = j
  · rw [if_pos q, if_pos q]
  · rw [if_neg q, if_neg q, if_neg q]
theorem cnt8_le (y : Int32) : cnt8 y ≤ 8 := by
  unfold cnt8
  split <;> omega
/-- a pair of lines counted -/
def pst (g q : Nat → Int32) (thr : Int32) (i : Nat) (c : Int32 × Int32) : Int32 × Int32 := if g i = 0 then c else if g (i + 1) = 0 then c else if 0 ≤ q i * q (i + 1) then (c.1, c.2 + 1) else if i_abs (q i) < thr then (c.1, c.2 + 1) else if i_abs (q (i + 1)) < thr then (c.1, c.2 + 1) else (c.1 + 1, c.2)
theorem pair_cls (s : Sg) {i : Nat} (hi : i + 1 < 8) (thr : Int32) : Kp [30] s (f_X1_countPair s (nI (i + 1)) thr) ∧ ((f_X1_countPair s (nI (i + 1)) thr) 30 4, (f_X1_countPair s (nI (i + 1)) thr) 30 5) = pst (s 33) (s 32) thr i (s 30 4, s 30 5) := by
  rw [f_X1_countPair_eq, if_neg (show ¬ nI (i + 1) < 1 from nI_nlt (b := 1) (by omega) (by omega)), nI_pred, nI_clamp (by omega), nI_clamp (by omega)]
  unfold pst
  dsimp only
  by_cases c1 : s 33 (i + 1) = 0
  · rw [if_pos c1, if_pos c1, ite_self]; exact ⟨Kp.rf _, rfl⟩
  · rw [if_neg c1, if_neg c1]
    by_cases c2 : s 33 i = 0
    · rw [if_pos c2, if_pos c2]; exact ⟨Kp.rf _, rfl⟩
    · rw [if_neg c2, if_neg c2]
      by_cases c3 : 0 ≤ s 32 i * s 32 (i + 1)
      · rw [if_pos c3, if_pos c3]; exact ⟨Kp.sw (by decide) _ _ _, by rw [sw_same, sw_place (show ¬ (4 : Nat) = 5 by decide)]⟩
      · rw [if_neg c3, if_neg c3]
        by_cases c4 : i_abs (s 32 i) < thr
        · rw [if_pos c4, if_pos c4]; exact ⟨Kp.sw (by decide) _ _ _, by rw [sw_same, sw_place (show ¬ (4 : Nat) = 5 by decide)]⟩
        · rw [if_neg c4, if_neg c4]
          by_cases c5 : i_abs (s 32 (i + 1)) < thr
          · rw [if_pos c5, if_pos c5]; exact ⟨Kp.sw (by decide) _ _ _, by rw [sw_same, sw_place (show ¬ (4 : Nat) = 5 by decide)]⟩
          · rw [if_neg c5, if_neg c5]; exact ⟨Kp.sw (by decide) _ _ _, by rw [sw_same, sw_place (show ¬ (5 : Nat) = 4 by decide)]⟩
theorem opp_iff {a b : Int32} (ha : bd a 3200) (hb : bd b 3200) : 0 ≤ a * b ↔ ¬ ((a.toInt < 0 ∧ 0 < b.toInt) ∨ (0 < a.toInt ∧ b.toInt < 0)) := by
  obtain ⟨e, -⟩ := mul_toInt ha hb (by decide)
  rw [i32_le, e, show (0 : Int32).toInt = 0 from rfl]
  generalize a.toInt = x
  generalize b.toInt = y
  rcases Int.lt_trichotomy x 0 with h | h | h
  · rcases Int.lt_trichotomy y 0 with k | k | k
    · have := Int.mul_pos (show 0 < -x by omega) (show 0 < -y by omega)
      rw [Int.neg_mul_neg] at this
      omega
    · subst k; omega
    · have := Int.mul_pos (show 0 < -x by omega) k
      rw [Int.neg_mul] at this
      omega
  · subst h; rw [Int.zero_mul]; omega
  · rcases Int.lt_trichotomy y 0 with k | k | k
    · have := Int.mul_pos h (show 0 < -y by omega)
      rw [Int.mul_neg] at this
      omega
    · subst k; omega
    · have := Int.mul_pos h k
      omega
theorem opp_eq {a b : Int32} (ha : bd a 3200) (hb : bd b 3200) : (if 0 ≤ a then (if a ≤ 0 then (0 : Int32) else (if 0 ≤ b then 0 else 1)) else (if 0 < b then 1 else (if a ≤ 0 then 0 else (if 0 ≤ b then 0 else 1)))) = if 0 ≤ a * b then 0 else 1 := by
  have q := opp_iff ha hb
  have z : (0 : Int32).toInt = 0 := rfl
  by_cases c1 : 0 ≤ a
  · rw [if_pos c1]
    rw [i32_le, z] at c1
    by_cases c2 : a ≤ 0
    · rw [if_pos c2]
      rw [i32_le, z] at c2
      rw [if_pos (q.mpr (by omega))]
    · rw [if_neg c2]
      rw [i32_le, z] at c2
      by_cases c3 : 0 ≤ b
      · rw [if_pos c3]
        rw [i32_le, z] at c3
        rw [if_pos (q.mpr (by omega))]
      · rw [if_neg c3]
        rw [i32_le, z] at c3
        rw [if_neg (fun r => (q.mp r) (by omega))]
  · rw [if_neg c1]
    rw [i32_le, z] at c1
    by_cases c3 : 0 < b
    · rw [if_pos c3]
      rw [i32_lt, z] at c3
      rw [if_neg (fun r => (q.mp r) (by omega))]
    · rw [if_neg c3, if_pos (show a ≤ 0 by rw [i32_le, z]; omega)]
      rw [i32_lt, z] at c3
      rw [if_pos (q.mpr (by omega))]
theorem fw_row {φ : Fl} {k k' : Nat} (h : ¬ k' = k) (i : Nat) (v : UInt32) : fw φ k i v k' = φ k' := by rw [fw_at, if_neg h]
theorem fw_own (φ : Fl) (k i : Nat) (v : UInt32) : fw φ k i v k = vf_upd (φ k) i v := by rw [fw_at, if_pos rfl]
theorem pl_10 {n i : Nat} : f_X10_placeOf (nI n) (nI i) = nI (10 * n + i) := by rw [pl_nI, Nat.mul_comm]
theorem t_sub (a b : Int32) : 2 * a - 2 * b = 2 * (a - b) := by
  have h : ∀ x : Int32, 2 * x = x + x := fun x => by
    rw [show (2 : Int32) = 1 + 1 from rfl, Int32.add_mul, Int32.one_mul]
  rw [h, h, h, Int32.sub_eq_add_neg, Int32.sub_eq_add_neg, Int32.neg_add, Int32.sub_eq_add_neg]
  ac_rfl
theorem norm01 {v : Int32} (h : v = 0 ∨ v = 1) : (if v = 0 then (0 : Int32) else 1) = v := by rcases h with rfl | rfl <;> rfl
def gF (p q : UInt32) : UInt32 := FP.fadd (FP.fmul p p) (FP.fmul q q)
def zF (p q : UInt32) : Int32 := Op.cmpValue (FP.fcmp (FP.fadd (FP.fmul p p) (FP.fmul q q)) (FP.fconst0)) .l
def uF (p q : UInt32) (sn cs : Int32) : UInt32 := FP.fdiv (FP.fmul (FP.fadd (FP.fmul (FP.fdiv (FP.i2f sn) 1098907648) p) (FP.fmul (FP.fdiv (FP.i2f cs) 1098907648) q)) 1117782016) (FP.fadd (FP.fmul p p) (FP.fmul q q))
def vF (p q : UInt32) (sn cs : Int32) : UInt32 := FP.fdiv (FP.fmul (FP.fsub (FP.fmul (FP.fdiv (FP.i2f cs) 1098907648) p) (FP.fmul (FP.fdiv (FP.i2f sn) 1098907648) q)) 1117782016) (FP.fadd (FP.fmul p p) (FP.fmul q q))
def cU (p q : UInt32) (on sn cs : Int32) : UInt32 := if on = 0 then FP.fconst0 else (if zF p q = 0 then FP.fconst0 else uF p q sn cs)
def cW (p q : UInt32) (on sn cs : Int32) : UInt32 := if on = 0 then FP.fconst0 else (if zF p q = 0 then FP.fconst0 else vF p q sn cs)
def cV (p q : UInt32) (on sn cs mir : Int32) : UInt32 := if mir = 0 then cW p q on sn cs else FP.fsub FP.fconst0 (cW p q on sn cs)
theorem z_00 : zF FP.fconst0 FP.fconst0 = 0 := by decide +kernel
theorem s_00 : FP.fsub FP.fconst0 FP.fconst0 = FP.fconst0 := by decide +kernel
theorem cV_0 (p q : UInt32) (on sn cs mir : Int32) (h : cW p q on sn cs = FP.fconst0) : cV p q on sn cs mir = FP.fconst0 := by
  unfold cV
  rw [h, s_00, ite_self]
def mxF (f : Nat → UInt32) (k : Nat) (av : Int32) : UInt32 := if av = 0 then f k else FP.fmul (FP.fadd (f k) (f (k - 10))) 1056964608
def col4 (a b c d : Nat) (φ : Fl) (k : Nat) (U V : UInt32) (av : Int32) : Fl := fw (fw (fw (fw φ a k U) b k V) c k (mxF (vf_upd (φ a) k U) k av)) d k (mxF (vf_upd (φ b) k V) k av)
theorem turnSeg_eq (σ : Sg) (φ : Fl) {k : Nat} (hk : k < 80) (p q : UInt32) (on y : Int32) : f_X2_turnSegment σ φ (nI k) (if on = 0 then FP.fconst0 else p) (if on = 0 then FP.fconst0 else q) y = fw (fw φ 45 k (cU p q on (σ 42 k) (σ 43 k))) 46 k (cV p q on (σ 42 k) (σ 43 k) y) := by
  rw [f_X2_turnSegment_eq, nI_clamp (by omega)]
  dsimp only
  by_cases c : on = 0
  · have z : Op.cmpValue (FP.fcmp (FP.fadd (FP.fmul FP.fconst0 FP.fconst0) (FP.fmul FP.fconst0 FP.fconst0)) FP.fconst0) .l = 0 := z_00
    have e1 : cU p q on (σ 42 k) (σ 43 k) = FP.fconst0 := if_pos c
    have e2 : cV p q on (σ 42 k) (σ 43 k) y = FP.fconst0 := cV_0 _ _ _ _ _ _ (if_pos c)
    rw [e1, e2]
    simp only [if_pos c, if_pos z]
  · simp only [if_neg c]
    by_cases z : Op.cmpValue (FP.fcmp (FP.fadd (FP.fmul p p) (FP.fmul q q)) FP.fconst0) .l = 0
    · have e1 : cU p q on (σ 42 k) (σ 43 k) = FP.fconst0 := (if_neg c).trans (if_pos z)
      have e2 : cV p q on (σ 42 k) (σ 43 k) y = FP.fconst0 := cV_0 _ _ _ _ _ _ ((if_neg c).trans (if_pos z))
      rw [e1, e2]
      simp only [if_pos z]
    · have e1 : cU p q on (σ 42 k) (σ 43 k) = uF p q (σ 42 k) (σ 43 k) := (if_neg c).trans (if_neg z)
      have e3 : cW p q on (σ 42 k) (σ 43 k) = vF p q (σ 42 k) (σ 43 k) := (if_neg c).trans (if_neg z)
      have e2 : cV p q on (σ 42 k) (σ 43 k) y = if y = 0 then vF p q (σ 42 k) (σ 43 k) else FP.fsub FP.fconst0 (vF p q (σ 42 k) (σ 43 k)) := by unfold cV; rw [e3]
      rw [e1, e2]
      simp only [if_neg z, ite_self]
      rfl
theorem mixSeg_eq (φ : Fl) {k : Nat} (hk : k < 80) {y : Int32} (h : ¬ y = 0 → 10 ≤ k) : f_X2_mixSegment φ (nI k) y = fw (fw φ 47 k (mxF (φ 45) k y)) 48 k (mxF (φ 46) k y) := by
  rw [f_X2_mixSegment_eq, nI_clamp (by omega)]
  dsimp only
  unfold mxF
  by_cases c : y = 0
  · rw [if_pos c, if_pos c, if_pos c, fw_row (show ¬ (46 : Nat) = 47 by decide)]
  · have e : nI k - 10 = nI (k - 10) := pk_sub (a := k) (b := 10) (h c)
    rw [if_neg c, if_neg c, if_neg c, e, if_neg (nI_pos (by omega)), nI_clamp (by omega), fw_row (show ¬ (46 : Nat) = 47 by decide)]
theorem cls4 (σ : Sg) (φ : Fl) {k : Nat} (hk : k < 80) (p q : UInt32) (on y : Int32) {av : Int32} (h : ¬ av = 0 → 10 ≤ k) : f_X2_mixSegment (f_X2_turnSegment σ φ (nI k) (if on = 0 then FP.fconst0 else p) (if on = 0 then FP.fconst0 else q) y) (nI k) av = col4 45 46 47 48 φ k (cU p q on (σ 42 k) (σ 43 k)) (cV p q on (σ 42 k) (σ 43 k) y) av := by
  rw [turnSeg_eq _ _ hk, mixSeg_eq _ hk h]
  unfold col4
  rw [fw_row (show ¬ (45 : Nat) = 46 by decide), fw_own, fw_own, fw_row (show ¬ (46 : Nat) = 45 by decide)]
/-- colors told up to the place p -/
def CR (a b c d : Nat) (U V : Nat → UInt32) (av : Nat → Int32) (φ0 φ : Fl) (p : Nat) : Prop := (∀ k, k < p → φ a k = U k ∧ φ b k = V k ∧ φ c k = mxF (φ a) k (av k) ∧ φ d k = mxF (φ b) k (av k)) ∧ (∀ k, p ≤ k → φ a k = φ0 a k ∧ φ b k = φ0 b k ∧ φ c k = φ0 c k ∧ φ d k = φ0 d k) ∧ Kp [a, b, c, d] φ0 φ
theorem vfu_at (f : Nat → UInt32) (k : Nat) (x : UInt32) (j : Nat) : vf_upd f k x j = if j = k then x else f j := rfl
theorem CR_step {a b c d : Nat} (h1 : ¬ a = b) (h2 : ¬ a = c) (h3 : ¬ a = d) (h4 : ¬ b = c) (h5 : ¬ b = d) (h6 : ¬ c = d) {U V U' V' : Nat → UInt32} {av : Nat → Int32} {φ0 φ : Fl} {p : Nat} (h : CR a b c d U V av φ0 φ p) (hU : ∀ k, k < p → U' k = U k) (hV : ∀ k, k < p → V' k = V k) : CR a b c d U' V' av φ0 (col4 a b c d φ p (U' p) (V' p) (av p)) (p + 1) := by
  obtain ⟨g1, g2, g3⟩ := h
  have ea : col4 a b c d φ p (U' p) (V' p) (av p) a = vf_upd (φ a) p (U' p) := by
    unfold col4
    rw [fw_row h3, fw_row h2, fw_row h1, fw_own]
  have eb : col4 a b c d φ p (U' p) (V' p) (av p) b = vf_upd (φ b) p (V' p) := by
    unfold col4
    rw [fw_row h5, fw_row h4, fw_own, fw_row (fun q => h1 q.symm)]
  have ec : col4 a b c d φ p (U' p) (V' p) (av p) c = vf_upd (φ c) p (mxF (vf_upd (φ a) p (U' p)) p (av p)) := by
    unfold col4
    rw [fw_row h6, fw_own, fw_row (fun q => h4 q.symm), fw_row (fun q => h2 q.symm)]
  have ed : col4 a b c d φ p (U' p) (V' p) (av p) d = vf_upd (φ d) p (mxF (vf_upd (φ b) p (V' p)) p (av p)) := by
    unfold col4
    rw [fw_own, fw_row (fun q => h6 q.symm), fw_row (fun q => h5 q.symm), fw_row (fun q => h3 q.symm)]
  refine ⟨fun k hk => ?_, fun k hk => ?_, ?_⟩
  · rw [ea, eb, ec, ed]
    by_cases q : k = p
    · subst q
      rw [vfu_at, if_pos rfl, vfu_at, if_pos rfl, vfu_at, if_pos rfl, vfu_at, if_pos rfl]
      exact ⟨rfl, rfl, rfl, rfl⟩
    · obtain ⟨k1, k2, k3, k4⟩ := g1 k (by omega)
      have m : ∀ (f : Nat → UInt32) (x : UInt32), mxF (vf_upd f p x) k (av k) = mxF f k (av k) := fun f x => by
        unfold mxF
        rw [vfu_at, if_neg q, vfu_at, if_neg (show ¬ k - 10 = p by omega)]
      rw [m, m, vfu_at, if_neg q, vfu_at, if_neg q, vfu_at, if_neg q, vfu_at, if_neg q, hU k (by omega), hV k (by omega)]
      exact ⟨k1, k2, k3, k4⟩
  · rw [ea, eb, ec, ed, vfu_at, if_neg (show ¬ k = p by omega), vfu_at, if_neg (show ¬ k = p by omega), vfu_at, if_neg (show ¬ k = p by omega), vfu_at, if_neg (show ¬ k = p by omega)]
    exact g2 k (by omega)
  · exact g3.tr ((((Kp.fw (by simp) _ _ _).tr (Kp.fw (by simp) _ _ _)).tr (Kp.fw (by simp) _ _ _)).tr (Kp.fw (by simp) _ _ _))
theorem CR_0 (a b c d : Nat) (U V : Nat → UInt32) (av : Nat → Int32) (φ : Fl) : CR a b c d U V av φ φ 0 := ⟨fun k hk => absurd hk (by omega), fun k _ => ⟨rfl, rfl, rfl, rfl⟩, Kp.rf _⟩
def avF (w : Int32) (k : Nat) : Int32 := if w = 1 then (if nI (k / 10) ≤ 0 then 0 else 1) else 0
def miF (w : Int32) (k : Nat) : Int32 := if w = 1 then (if nI (k / 10) &&& 1 = 1 then 1 else 0) else 0
def UF (f g : Nat → UInt32) (on : Nat → Int32) (s : Sg) (k : Nat) : UInt32 := cU (f (k / 10)) (g (k / 10)) (on (k / 10)) (s 42 k) (s 43 k)
def VF (w : Int32) (f g : Nat → UInt32) (on : Nat → Int32) (s : Sg) (k : Nat) : UInt32 := cV (f (k / 10)) (g (k / 10)) (on (k / 10)) (s 42 k) (s 43 k) (miF w k)
theorem nest {τ : Type} {B : Nat → τ → τ} {I : τ} (Inv : Nat → τ → Prop) (h0 : Inv 0 I) (hs : ∀ n s, n < 8 → Inv (10 * n) s → Inv (10 * n + 10) (B n s)) : Inv 80 (loopF B 8 I) := loopF_inv (B := B) (N := 8) (I := I) (fun n => Inv (10 * n)) h0 (fun n s hn h => by
  rw [show 10 * (n + 1) = 10 * n + 10 by omega]
  exact hs n s hn h)
theorem turn_at (s : Sg) (φ : Fl) (w : Int32) : CR 45 46 47 48 (UF (φ 36) (φ 37) (s 34) s) (VF w (φ 36) (φ 37) (s 34) s) (avF w) φ (f_X2_turn s φ w) 80 := by
  rw [f_X2_turn_eq]
  refine nest (B := b_X2_turn_3 s w) (I := φ) (fun p x => CR 45 46 47 48 (UF (φ 36) (φ 37) (s 34) s) (VF w (φ 36) (φ 37) (s 34) s) (avF w) φ x p) (CR_0 _ _ _ _ _ _ _ _) (fun n x hn hI => ?_)
  rw [b_X2_turn_3_eq]
  dsimp only
  have e36 : x 36 = φ 36 := hI.2.2 36 (by decide)
  have e37 : x 37 = φ 37 := hI.2.2 37 (by decide)
  rw [e36, e37, nI_clamp (by omega)]
  refine loopF_inv (B := b_X2_turn_98 s n (if s 34 n = 0 then FP.fconst0 else φ 36 n) (if s 34 n = 0 then FP.fconst0 else φ 37 n) (if w = 1 then (if nI n &&& 1 = 1 then 1 else 0) else 0) (if w = 1 then (if nI n ≤ 0 then 0 else 1) else 0)) (N := 10) (I := x) (fun i y => CR 45 46 47 48 (UF (φ 36) (φ 37) (s 34) s) (VF w (φ 36) (φ 37) (s 34) s) (avF w) φ y (10 * n + i)) hI (fun i y hi hJ => ?_)
  rw [b_X2_turn_98_eq]
  dsimp only
  have en : (10 * n + i) / 10 = n := by omega
  rw [pl_10, cls4 s y (by omega) _ _ _ _ (fun q => by
    rcases Nat.eq_zero_or_pos n with z | z
    · subst z
      refine absurd ?_ q
      rw [if_pos (show nI 0 ≤ 0 by decide), ite_self]
    · omega)]
  have key := CR_step (by decide) (by decide) (by decide) (by decide) (by decide) (by decide) hJ (U' := UF (φ 36) (φ 37) (s 34) s) (V' := VF w (φ 36) (φ 37) (s 34) s) (fun _ _ => rfl) (fun _ _ => rfl)
  unfold UF VF avF miF at key
  rw [en] at key
  exact key
theorem chg_cls (s : Sg) (x : Int32) : (∀ k, k < 80 → (loopF (b_X5_watch_7 x) 80 s) 51 k = if i_abs (s 40 k - s 50 k) ≤ x then 0 else 1) ∧ Kp [51] s (loopF (b_X5_watch_7 x) 80 s) := by
  refine loopF_inv (B := b_X5_watch_7 x) (N := 80) (I := s) (fun j u => (∀ k, k < j → u 51 k = if i_abs (s 40 k - s 50 k) ≤ x then 0 else 1) ∧ Kp [51] s u) ⟨fun k hk => absurd hk (by omega), Kp.rf _⟩ (fun j u hj hI => ?_)
  obtain ⟨i1, i2⟩ := hI
  rw [b_X5_watch_7_eq, i2 40 (by decide), i2 50 (by decide), nI_clamp (by omega)]
  dsimp only
  refine ⟨fun k hk => ?_, i2.tr (Kp.sw (by decide) _ _ _)⟩
  by_cases q : k = j
  · subst q
    rw [sw_same, (lv_narrowZ (zo_ite (.inl rfl) (.inr rfl))).2.2]
  · rw [sw_place q]; exact i1 k (by omega)
theorem hc_in (s : Sg) {n i : Nat} (hn : n < 8) (hi : i < 10) : f_X5_hasChanged s (nI n) (nI i) = if s 51 (10 * n + i) = 0 then 0 else 1 := by
  rw [f_X5_hasChanged_eq, if_neg (ip_of (vp_in_nI hn (by decide)) (vp_in_nI hi (by decide))), pl_10, nI_clamp (by omega)]
theorem hc_out (s : Sg) {x y : Int32} (h : ¬ (vp_in x 8 ∧ vp_in y 10)) : f_X5_hasChanged s x y = 0 := by
  rw [f_X5_hasChanged_eq]
  dsimp only
  by_cases c : f_X10_isPlace x y = 0
  · rw [if_pos c]
  · exact absurd (ip_in c) h
theorem vp_no {a n : Nat} (h : n ≤ a) (ha : a < 2 ^ 31) : ¬ vp_in (nI a) n := fun q => by
  have := vp_lt q
  rw [nI_clamp ha] at this
  omega
theorem kind_51 {s s' : Sg} (h : s' 51 = s 51) (x y : Int32) : f_X5_kindOf s' x y = f_X5_kindOf s x y := by
  have e : ∀ a b, f_X5_hasChanged s' a b = f_X5_hasChanged s a b := fun a b => by rw [f_X5_hasChanged_eq, f_X5_hasChanged_eq, h]
  rw [f_X5_kindOf_eq, f_X5_kindOf_eq]
  simp only [e]
theorem kinds_cls (s : Sg) : (∀ n i, n < 8 → i < 10 → (loopF b_X5_watch_54 8 s) 52 (10 * n + i) = f_X5_kindOf s (nI n) (nI i)) ∧ Kp [52] s (loopF b_X5_watch_54 8 s) := by
  refine loopF_inv (B := b_X5_watch_54) (N := 8) (I := s) (fun j w => (∀ n i, n < j → i < 10 → w 52 (10 * n + i) = f_X5_kindOf s (nI n) (nI i)) ∧ Kp [52] s w) ⟨fun n i hn => absurd hn (by omega), Kp.rf _⟩ (fun j w hj hI => ?_)
  obtain ⟨i1, i2⟩ := hI
  rw [b_X5_watch_54_eq]
  dsimp only
  have key := loopF_inv (B := b_X5_watch_64 j) (N := 10) (I := w) (fun m v => (∀ n i, n < j → i < 10 → v 52 (10 * n + i) = f_X5_kindOf s (nI n) (nI i)) ∧ (∀ i, i < m → v 52 (10 * j + i) = f_X5_kindOf s (nI j) (nI i)) ∧ Kp [52] s v) ⟨i1, fun i hi => absurd hi (by omega), i2⟩ (fun m v hm hJ => by
    obtain ⟨j1, j2, j3⟩ := hJ
    rw [b_X5_watch_64_eq, pl_10, nI_clamp (by omega), kind_51 (j3 51 (by decide))]
    dsimp only
    refine ⟨fun n i hn hi => ?_, fun i hi => ?_, j3.tr (Kp.sw (by decide) _ _ _)⟩
    · rw [sw_place (show ¬ 10 * n + i = 10 * j + m by omega)]; exact j1 n i hn hi
    · by_cases q : i = m
      · rw [q, sw_same]
      · rw [sw_place (show ¬ 10 * j + i = 10 * j + m by omega)]; exact j2 i (by omega))
  refine ⟨fun n i hn hi => ?_, key.2.2⟩
  by_cases q : n = j
  · rw [q]; exact key.2.1 i hi
  · exact key.1 n i (by omega) hi
theorem up_at (σ : Sg) (k : Nat) (f : Nat → Int32) (k' : Nat) : va_up σ k f k' = if k' = k then f else σ k' := rfl
theorem kp_append (σ : Sg) (x : Int32) : Kp [10, 11] σ (f_X0_append σ x).2 := by
  rw [f_X0_append_eq]
  by_cases c : σ 10 1 < 60
  · rw [if_pos c]; exact (Kp.sw (by decide) _ _ _).tr (Kp.sw (by decide) _ _ _)
  · rw [if_neg c]; exact Kp.rf _
