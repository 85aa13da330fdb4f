/-! the two sides over one world: what holds between calls -/
theorem sw_at (σ : Sg) (k i : Nat) (v : Int32) (k' : Nat) : sw σ k i v k' = if k' = k then upd (σ k) i v else σ k' := by
  by_cases h : k' = k
  · subst h; rw [if_pos rfl]; exact funext fun j => by simp [sw, va_up]
  · rw [if_neg h]; exact sw_row h
theorem upd_at (f : Nat → Int32) (i : Nat) (v : Int32) (j : Nat) : upd f i v j = if j = i then v else f j := by
  by_cases h : j = i
  · subst h; rw [if_pos rfl]; exact pk_us
  · rw [if_neg h]; exact pk_un h
theorem upd_self (f : Nat → Int32) (i : Nat) (v : Int32) : upd f i v i = v := pk_us
theorem fw_at (φ : Fl) (k i : Nat) (v : UInt32) (k' : Nat) : fw φ k i v k' = if k' = k then vf_upd (φ k) i v else φ k' := by
  by_cases h : k' = k
  · subst h; rw [if_pos rfl]; exact funext fun j => by simp [fw, va_up]
  · rw [if_neg h]; exact funext fun j => by simp [fw, va_up, h]
def prel (a b : Int32) : Prop := (a = -1 ∧ b = -100004) ∨ (a = b ∧ 0 ≤ b)
def bndP (t : Sg) : Prop := (∀ k, 0 ≤ (t 54 k).toInt ∧ (t 54 k).toInt ≤ 200) ∧ (∀ k, -60 ≤ (t 55 k).toInt ∧ (t 55 k).toInt ≤ 60) ∧ (∀ k, -60 ≤ (t 56 k).toInt ∧ (t 56 k).toInt ≤ 60) ∧ (∀ k, 0 ≤ (t 58 k).toInt ∧ (t 58 k).toInt ≤ 40) ∧ (∀ k, 0 ≤ (t 60 k).toInt ∧ (t 60 k).toInt ≤ 9)
def RP (σ t : Sg) : Prop := σ 2 = t 54 ∧ σ 3 = t 55 ∧ σ 4 = t 56 ∧ σ 5 = t 57 ∧ σ 6 = t 58 ∧ σ 7 = t 59 ∧ σ 8 = t 60 ∧ σ 9 = t 61 ∧ σ 1 8 = t 53 8
def RS (σ t : Sg) : Prop := σ 14 = t 62 ∧ vp_in (t 62 2) 4 ∧ vp_in (t 62 3) 3
def RT (σ t : Sg) : Prop := σ 11 = t 63 ∧ σ 10 1 = t 53 10 ∧ vp_in (t 53 10) 61
def RD (m : Nat) (σ t : Sg) : Prop := σ 0 10 = t 53 13 ∧ ∃ d, d ≤ m ∧ t 53 13 = nI d
def bndL (x : Int32) : Prop := -(2 ^ 28) ≤ x.toInt ∧ x.toInt ≤ 2 ^ 28
def RI (σ t : Sg) : Prop := (∀ i, prel (σ 26 i) (t 65 i)) ∧ σ 27 = t 66 ∧ σ 28 = t 68 ∧ σ 29 = t 67 ∧ σ 31 = t 69 ∧ σ 32 = t 70 ∧ σ 33 = t 71 ∧ σ 34 = t 72 ∧ σ 40 = t 75 ∧ σ 41 = t 77 ∧ (∀ k, k < 80 → σ 50 k = t 75 k) ∧ (∀ k, bndL (t 75 k)) ∧ σ 30 4 = t 53 22 ∧ σ 30 5 = t 53 23 ∧ (¬ t 53 13 ≤ 1 → ∀ k, k < 80 → σ 52 k = f_X11_motionAt t (nI k))
def RF (φ ψ : Fl) : Prop := φ 36 = ψ 73 ∧ φ 37 = ψ 74 ∧ φ 45 = ψ 78 ∧ φ 46 = ψ 79 ∧ φ 47 = ψ 80 ∧ φ 48 = ψ 81
/-- the class's cells of σ, φ tell what the reference's of t, ψ tell -/
def Rel (m : Nat) (σ : Sg) (φ : Fl) (t : Sg) (ψ : Fl) : Prop := RP σ t ∧ bndP t ∧ RS σ t ∧ RT σ t ∧ RD m σ t ∧ RI σ t ∧ RF φ ψ
/-- the reference's cells are as they were -/
def KA {α : Type} (s s' : Nat → α) : Prop := ∀ k, 53 ≤ k → s' k = s k
/-- the class's cells are as they were -/
def KB {α : Type} (s s' : Nat → α) : Prop := ∀ k, k < 53 → s' k = s k
theorem motionAt_congr {t t' : Sg} (h : t' 83 = t 83) (x : Int32) : f_X11_motionAt t' x = f_X11_motionAt t x := by
  rw [f_X11_motionAt_eq, f_X11_motionAt_eq, h]
theorem Rel_A {m : Nat} {σ t t' : Sg} {φ ψ ψ' : Fl} (h : Rel m σ φ t ψ) (hs : KA t t') (hf : KA ψ ψ') : Rel m σ φ t' ψ' := by
  have e : ∀ k, 53 ≤ k → t' k = t k := hs
  obtain ⟨h1, h2, h3, h4, h5, h6, h7⟩ := h
  refine ⟨?_, ?_, ?_, ?_, ?_, ?_, ?_⟩
  · unfold RP at *
    simpa only [e 53 (by decide), e 54 (by decide), e 55 (by decide), e 56 (by decide), e 57 (by decide), e 58 (by decide), e 59 (by decide), e 60 (by decide), e 61 (by decide)] using h1
  · unfold bndP at *
    simpa only [e 54 (by decide), e 55 (by decide), e 56 (by decide), e 58 (by decide), e 60 (by decide)] using h2
  · unfold RS at *
    simpa only [e 62 (by decide)] using h3
  · unfold RT at *
    simpa only [e 63 (by decide), e 53 (by decide)] using h4
  · unfold RD at *
    simpa only [e 53 (by decide)] using h5
  · unfold RI at *
    have q : ∀ x, f_X11_motionAt t' x = f_X11_motionAt t x := motionAt_congr (e 83 (by decide))
    simpa only [q, e 53 (by decide), e 65 (by decide), e 66 (by decide), e 67 (by decide), e 68 (by decide), e 69 (by decide), e 70 (by decide), e 71 (by decide), e 72 (by decide), e 75 (by decide), e 77 (by decide)] using h6
  · unfold RF at *
    simpa only [hf 73 (by decide), hf 74 (by decide), hf 78 (by decide), hf 79 (by decide), hf 80 (by decide), hf 81 (by decide)] using h7
theorem Rel_B {m : Nat} {σ σ' t : Sg} {φ φ' ψ : Fl} (h : Rel m σ φ t ψ) (hs : KB σ σ') (hf : KB φ φ') : Rel m σ' φ' t ψ := by
  have e : ∀ k, k < 53 → σ' k = σ k := hs
  obtain ⟨h1, h2, h3, h4, h5, h6, h7⟩ := h
  refine ⟨?_, h2, ?_, ?_, ?_, ?_, ?_⟩
  · unfold RP at *
    simpa only [e 1 (by decide), e 2 (by decide), e 3 (by decide), e 4 (by decide), e 5 (by decide), e 6 (by decide), e 7 (by decide), e 8 (by decide), e 9 (by decide)] using h1
  · unfold RS at *
    simpa only [e 14 (by decide)] using h3
  · unfold RT at *
    simpa only [e 10 (by decide), e 11 (by decide)] using h4
  · unfold RD at *
    simpa only [e 0 (by decide)] using h5
  · unfold RI at *
    simpa only [e 26 (by decide), e 27 (by decide), e 28 (by decide), e 29 (by decide), e 30 (by decide), e 31 (by decide), e 32 (by decide), e 33 (by decide), e 34 (by decide), e 40 (by decide), e 41 (by decide), e 50 (by decide), e 52 (by decide)] using h6
  · unfold RF at *
    simpa only [hf 36 (by decide), hf 37 (by decide), hf 45 (by decide), hf 46 (by decide), hf 47 (by decide), hf 48 (by decide)] using h7
/-- a call of each side, one behind the other -/
theorem Rel_go {m m' : Nat} {σ σ' σ'' : Sg} {φ φ' φ'' : Fl} (h : Rel m σ φ σ φ) (ha : KA σ σ') (hfa : KA φ φ') (hb : KB σ' σ'') (hfb : KB φ' φ'') (cross : Rel m σ φ σ' φ' → Rel m' σ' φ' σ'' φ'') : Rel m' σ'' φ'' σ'' φ'' := Rel_B (cross (Rel_A h ha hfa)) hb hfb
theorem KA.rf {α : Type} (s : Nat → α) : KA s s := fun _ _ => rfl
theorem KB.rf {α : Type} (s : Nat → α) : KB s s := fun _ _ => rfl
theorem KA.tr {α : Type} {s s' s'' : Nat → α} (h : KA s s') (h2 : KA s' s'') : KA s s'' := fun k q => (h2 k q).trans (h k q)
theorem KB.tr {α : Type} {s s' s'' : Nat → α} (h : KB s s') (h2 : KB s' s'') : KB s s'' := fun k q => (h2 k q).trans (h k q)
/-- only the cells of the list are written -/
def Kp {α : Type} (L : List Nat) (s s' : Nat → α) : Prop := ∀ k, ¬ k ∈ L → s' k = s k
theorem Kp.rf {α : Type} {L : List Nat} (s : Nat → α) : Kp L s s := fun _ _ => rfl
theorem Kp.tr {α : Type} {L : List Nat} {s s' s'' : Nat → α} (h : Kp L s s') (h2 : Kp L s' s'') : Kp L s s'' := fun k q => (h2 k q).trans (h k q)
theorem Kp.up {α : Type} {L L' : List Nat} {s s' : Nat → α} (h : Kp L s s') (hl : ∀ k, k ∈ L → k ∈ L') : Kp L' s s' := fun k q => h k (fun r => q (hl k r))
theorem Kp.sw {L : List Nat} {c : Nat} (h : c ∈ L) (s : Sg) (i : Nat) (v : Int32) : Kp L s (sw s c i v) := fun k q => sw_row (fun e => q (e ▸ h))
theorem Kp.fw {L : List Nat} {c : Nat} (h : c ∈ L) (s : Fl) (i : Nat) (v : UInt32) : Kp L s (fw s c i v) := fun k q => by rw [fw_at, if_neg (fun e : k = c => q (e ▸ h))]
theorem Kp.loop {α : Type} {L : List Nat} {B : Nat → (Nat → α) → (Nat → α)} {N : Nat} (s : Nat → α) (h : ∀ j s, j < N → Kp L s (B j s)) : Kp L s (loopF B N s) := loopF_inv (fun _ s' => Kp L s s') (Kp.rf s) (fun j s' hj hi => hi.tr (h j s' hj))
theorem Kp.A {α : Type} {L : List Nat} {s s' : Nat → α} (h : Kp L s s') (hl : ∀ k, k ∈ L → k < 53) : KA s s' := fun k q => h k (fun r => absurd (hl k r) (by omega))
theorem Kp.B {α : Type} {L : List Nat} {s s' : Nat → α} (h : Kp L s s') (hl : ∀ k, k ∈ L → 53 ≤ k) : KB s s' := fun k q => h k (fun r => absurd (hl k r) (by omega))
theorem ln_iff (x : Int32) : f_X10_isLine x = 0 ↔ ¬ f_X11_noLine x = 0 := by
  by_cases h : f_X11_in x 0 7 = 0
  · exact ⟨fun _ => by rw [f_X11_noLine_eq]; dsimp only; rw [if_pos h]; decide, fun _ => h⟩
  · exact ⟨fun q => absurd q h, fun q => absurd (by rw [f_X11_noLine_eq]; dsimp only; rw [if_neg h]) q⟩
theorem pl_iff (x y : Int32) : f_X10_isPlace x y = 0 ↔ ¬ f_X11_noSegment x y = 0 := by
  rw [f_X10_isPlace_eq, f_X11_noSegment_eq]
  dsimp only
  by_cases h : f_X11_noLine x = 0
  · rw [if_neg (fun q => (ln_iff x).mp q h), if_pos h]
    by_cases h2 : f_X11_in y 0 9 = 0
    · rw [if_pos (show f_X10_isWithin y 0 9 = 0 from h2), if_pos h2]; decide
    · rw [if_neg (show ¬ f_X10_isWithin y 0 9 = 0 from h2), if_neg h2]; decide
  · rw [if_pos ((ln_iff x).mpr h), if_neg h]; decide
theorem ln_if {α : Sort _} (x : Int32) (a b : α) : (if f_X10_isLine x = 0 then a else b) = (if f_X11_noLine x = 0 then b else a) := by
  by_cases h : f_X11_noLine x = 0
  · rw [if_pos h, if_neg (fun q => (ln_iff x).mp q h)]
  · rw [if_neg h, if_pos ((ln_iff x).mpr h)]
theorem pl_if {α : Sort _} (x y : Int32) (a b : α) : (if f_X10_isPlace x y = 0 then a else b) = (if f_X11_noSegment x y = 0 then b else a) := by
  by_cases h : f_X11_noSegment x y = 0
  · rw [if_pos h, if_neg (fun q => (pl_iff x y).mp q h)]
  · rw [if_neg h, if_pos ((pl_iff x y).mpr h)]
theorem pm_eq (x y : Int32) : f_X10_placeOf x y = 10 * x + y := by
  rw [f_X10_placeOf_eq, Int32.mul_comm]
theorem e_in : f_X10_isWithin = f_X11_in := rfl
theorem e_paint : f_X10_isPaint = f_X11_isColor := rfl
theorem abs_size (x : Int32) : i_abs x = f_X11_size x := by
  rw [f_X11_size_eq]
  show (if 0 ≤ x then x else 0 - x) = (if 0 ≤ x then x else -x)
  rw [Int32.zero_sub]
/-! the answers that change nothing -/
theorem q_luma {m : Nat} {σ t : Sg} {φ ψ : Fl} (h : Rel m σ φ t ψ) (x y : Int32) : f_X10_luma σ x y = f_X11_luma t x y := by
  obtain ⟨-, -, -, -, ⟨h1, -⟩, ⟨-, -, -, -, -, -, -, -, h2, -⟩, -⟩ := h
  rw [f_X10_luma_eq, f_X11_luma_eq, pl_if, pm_eq, h1, h2]
theorem q_combed {m : Nat} {σ t : Sg} {φ ψ : Fl} (h : Rel m σ φ t ψ) (x y : Int32) : f_X10_combed σ x y = f_X11_combed t x y := by
  obtain ⟨-, -, -, -, ⟨h1, -⟩, ⟨-, -, -, -, -, -, -, -, -, h2, -⟩, -⟩ := h
  rw [f_X10_combed_eq, f_X11_combed_eq, pl_if, pm_eq, h1, h2]
theorem q_u {m : Nat} {σ t : Sg} {φ ψ : Fl} (h : Rel m σ φ t ψ) (x y : Int32) : f_X10_u φ x y = f_X11_u ψ x y := by
  obtain ⟨-, -, -, -, -, -, ⟨-, -, -, -, h2, -⟩⟩ := h
  rw [f_X10_u_eq, f_X11_u_eq]
  dsimp only
  rw [pl_if, pm_eq, h2]
theorem q_v {m : Nat} {σ t : Sg} {φ ψ : Fl} (h : Rel m σ φ t ψ) (x y : Int32) : f_X10_v φ x y = f_X11_v ψ x y := by
  obtain ⟨-, -, -, -, -, -, ⟨-, -, -, -, -, h2⟩⟩ := h
  rw [f_X10_v_eq, f_X11_v_eq]
  dsimp only
  rw [pl_if, pm_eq, h2]
theorem q_reference {m : Nat} {σ t : Sg} {φ ψ : Fl} (h : Rel m σ φ t ψ) (x y : Int32) : f_X10_reference φ x y = f_X11_reference ψ x y := by
  obtain ⟨-, -, -, -, -, -, ⟨h1, h2, -⟩⟩ := h
  rw [f_X10_reference_eq, f_X11_reference_eq, ln_if, h1, h2, e_in]
theorem q_thousandths {m : Nat} {σ t : Sg} {φ ψ : Fl} (h : Rel m σ φ t ψ) (x y w : Int32) : f_X10_thousandths σ φ x y w = f_X11_thousandths t ψ x y w := by
  obtain ⟨-, -, -, -, ⟨h1, -⟩, -, ⟨-, -, -, -, h2, h3⟩⟩ := h
  rw [f_X10_thousandths_eq, f_X11_thousandths_eq, pl_if, pm_eq, h1, h2, h3, e_in]
theorem q_line {m : Nat} {σ t : Sg} {φ ψ : Fl} (h : Rel m σ φ t ψ) (x y : Int32) : f_X10_line σ x y = f_X11_line t x y := by
  obtain ⟨-, -, -, -, ⟨h1, -⟩, ⟨h2, h3, h4, h5, h6, h7, h8, h9, -⟩, -⟩ := h
  rw [f_X10_line_eq, f_X11_line_eq, ln_if, h1, h3, h4, h5, h6, h7, h8, h9, e_in]
  have e : (if σ 26 x.toNatClampNeg = -1 then -100004 else σ 26 x.toNatClampNeg) = t 65 x.toNatClampNeg := by
    rcases h2 x.toNatClampNeg with ⟨a, b⟩ | ⟨a, b⟩
    · rw [if_pos a, b]
    · rw [if_neg (fun q => by rw [a] at q; rw [q] at b; exact absurd b (by decide)), a]
  dsimp only
  rw [e]
  rfl
theorem q_motion {m : Nat} {σ t : Sg} {φ ψ : Fl} (h : Rel m σ φ t ψ) (x y : Int32) : f_X10_motion σ x y = f_X11_motion t x y := by
  obtain ⟨-, -, -, -, ⟨h1, -⟩, hI, -⟩ := h
  have h2 := hI.2.2.2.2.2.2.2.2.2.2.2.2.2.2
  rw [f_X10_motion_eq, f_X11_motion_eq, pl_if, pm_eq, h1]
  by_cases c : f_X11_noSegment x y = 0
  · rw [if_pos c, if_pos c]
    dsimp only
    by_cases c2 : 2 ≤ t 53 13
    · rw [if_pos c2, if_pos c2]
      obtain ⟨hx, hy⟩ := ns_in c
      obtain ⟨k, hk, e⟩ := vp_in_of (pm_in hx hy) (by decide)
      rw [e, nI_clamp (by omega)]
      refine h2 ?_ k hk
      rw [i32_le] at c2 ⊢
      rw [show (2 : Int32).toInt = 2 from rfl] at c2
      rw [show (1 : Int32).toInt = 1 from rfl]
      omega
    · rw [if_neg c2, if_neg c2]
  · rw [if_neg c, if_neg c]
