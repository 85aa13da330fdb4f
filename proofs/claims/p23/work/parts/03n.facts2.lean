/-! loops with invariants; loops whose counter begins elsewhere -/
theorem loopF_indI {τ : Type} (B : Nat → τ → τ) (N : Nat) (KH : Nat → τ → Prop) (I : τ) (Inv : Nat → τ → Prop) (h0 : Inv 0 I) (hs : ∀ (j : Nat) (s : τ), j < N → Inv j s → Inv (j + 1) (B j s)) (step : ∀ (j : Nat) (s : τ), j < N → Inv j s → (∀ s' : τ, B j s = s' → KH (j + 1) s') → KH j s) (done : Inv N (loopF B N I) → KH N (loopF B N I)) : KH 0 I := by
  have hI : ∀ j : Nat, j ≤ N → Inv j (loopF B j I) := by
    intro j
    induction j with
    | zero => intro _; exact h0
    | succ j ih => intro h; exact hs j _ (by omega) (ih (by omega))
  have key : ∀ n j : Nat, j + n = N → KH j (loopF B j I) := by
    intro n
    induction n with
    | zero => intro j h; rw [show j = N by omega]; exact done (hI N (Nat.le_refl _))
    | succ n ih => intro j h; exact step j _ (by omega) (hI j (by omega)) (fun s' e => by rw [← e]; exact ih (j + 1) (by omega))
  exact key N 0 (by omega)
theorem loopF_inv {τ : Type} {B : Nat → τ → τ} {N : Nat} {I : τ} (Inv : Nat → τ → Prop) (h0 : Inv 0 I) (hs : ∀ (j : Nat) (s : τ), j < N → Inv j s → Inv (j + 1) (B j s)) : Inv N (loopF B N I) := loopF_indI B N (fun _ _ => Inv N (loopF B N I)) I Inv h0 hs (fun j s hj _ k => k _ rfl) (fun h => h)
theorem loopE_indI {ρ τ : Type} (B : Nat → τ → ρ ⊕ τ) (N : Nat) (KH : Nat → τ → Prop) (I : τ) (Inv : Nat → τ → Prop) (h0 : Inv 0 I) (hs : ∀ (j : Nat) (s s' : τ), j < N → Inv j s → B j s = .inr s' → Inv (j + 1) s') (step : ∀ (n j : Nat) (s : τ), j + (n + 1) = N → loopE B N 0 I = loopE B (n + 1) j s → Inv j s → (∀ s' : τ, B j s = .inr s' → KH (j + 1) s') → KH j s) (done : ∀ s : τ, loopE B N 0 I = .inr s → Inv N s → KH N s) : KH 0 I := by
  have key : ∀ (n j : Nat) (s : τ), j + n = N → loopE B N 0 I = loopE B n j s → Inv j s → KH j s := by
    intro n
    induction n with
    | zero => intro j s h hF hi; rw [show j = N by omega] at hi ⊢; exact done s hF hi
    | succ n ih => intro j s h hF hi; exact step n j s h hF hi (fun s' e => ih (j + 1) s' (by omega) (hF.trans (loopE_inr n e)) (hs j s s' (by omega) hi e))
  exact key N 0 I (by omega) rfl h0
theorem g_lvq {K : KT} {l : Launch} {D : va_G} {ad : Nat → Nat} {dA : Nat → ClassId} {z0 : Nat} {tt : Nat → Nat} {cc : ByteArray} {own : String} {nL : Nat} {R : Room} {σ : Sg} {φ : Fl} {pc : Nat} {lv lv' : List (Nat × Value)} {st : List Value} (C : Cx K l D ad dA z0 tt cc own nL R) (e : lv' = lv) (k : K σ φ pc lv' st) : K σ φ pc lv st := e ▸ k
theorem nI_s0 (x : Int32) : x + nI 0 = x := by
  show x + 0 = x
  exact Int32.add_zero x
/-- how often a loop from y up to y + 8 goes round -/
def cnt8 (y : Int32) : Nat := if y < y + 8 then 8 else 0
theorem i32_add8 (y : Int32) (j : Nat) (hj : j ≤ 8) : (y + nI j).toInt = y.toInt + j ∨ (y + nI j).toInt = y.toInt + j - 2 ^ 32 ∧ 2 ^ 31 ≤ y.toInt + j := by
  rw [Int32.toInt_add, nI_toInt (by omega)]
  have h1 := Int32.le_toInt y
  have h2 := Int32.toInt_lt y
  rw [Int.bmod_def]
  split <;> omega
theorem c8_step {y : Int32} {j : Nat} (h : j < cnt8 y) : ¬ y + 8 ≤ y + nI j := by
  unfold cnt8 at h
  have e : (8 : Int32) = nI 8 := rfl
  by_cases q : y < y + 8
  · rw [if_pos q] at h
    rw [e, i32_lt] at q
    rw [e, i32_le]
    have a := i32_add8 y 8 (by omega)
    have b := i32_add8 y j (by omega)
    have h2 := Int32.toInt_lt y
    omega
  · rw [if_neg q] at h
    omega
theorem c8_exit (y : Int32) : y + 8 ≤ y + nI (cnt8 y) := by
  have e : (8 : Int32) = nI 8 := rfl
  unfold cnt8
  by_cases q : y < y + 8
  · rw [if_pos q, e, i32_le]; omega
  · rw [if_neg q, nI_s0]
    rw [i32_lt] at q
    rw [i32_le]
    omega
theorem c16_eq (a : Int32) : a + 16 = a + 8 + 8 := by
  rw [Int32.add_assoc]
  rfl
theorem i32_refl (x : Int32) : x ≤ x := by
  rw [i32_le]
  omega
theorem f10_step {x : Int32} {j : Nat} (hx : vp_in x 8) (hj : j < 10) : ¬ 10 * x + 10 ≤ 10 * x + nI j := by
  obtain ⟨k, hk, rfl⟩ := vp_in_of hx (by decide)
  have e : (10 : Int32) * nI k = nI (10 * k) := pk_mul 10 k
  have e2 : nI (10 * k) + 10 = nI (10 * k + 10) := nI_add _ 10
  rw [e, e2, nI_add]
  exact nI_ge (by omega) (by omega)
theorem fp_step {a j : Nat} (ha : a < 1000) (hj : j < 4) : ¬ nI a + 4 ≤ nI (a + j) := by
  have e2 : nI a + 4 = nI (a + 4) := nI_add _ 4
  rw [e2]
  exact nI_ge (by omega) (by omega)
theorem fp_exit (a : Nat) : nI a + 4 ≤ nI (a + 4) := by
  have e2 : nI a + 4 = nI (a + 4) := nI_add _ 4
  rw [e2]
  exact i32_refl _
/-- the lines beside the one that is combed are there -/
def wok (x w : Int32) : Prop := (w = 1 → vp_in (x - 1) 8) ∧ (w = 2 → vp_in (x + 1) 8) ∧ (¬ w = 0 → ¬ w = 1 → ¬ w = 2 → vp_in (x - 1) 8 ∧ vp_in (x + 1) 8)
theorem p1_in2 {x : Int32} (hx : vp_in x 8) (h : ¬ 7 ≤ x) : vp_in (x + 1) 8 := by
  obtain ⟨j, hj, rfl⟩ := vp_in_of hx (by decide)
  have h1 : ¬ 7 ≤ j := fun q => h (nI_le (a := 7) q (by omega))
  exact p1_in (by omega) (by decide)
