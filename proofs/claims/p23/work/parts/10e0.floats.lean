/-! floats: nothing, and what comes of it -/
def ZN (x : UInt32) : Prop := x = 0 ∨ x = 0x80000000 ∨ x = 0x7fc00000
theorem zn_enc (s : Bool) : ZN (UInt32.ofNat (FP.Core.encode FP.Core.b32 (.fin s 0 FP.Core.b32.qmin))) := by
  cases s
  · exact .inl (by decide +kernel)
  · exact .inr (.inl (by decide +kernel))
theorem zn_nan : ZN (UInt32.ofNat (FP.Core.encode FP.Core.b32 .nan)) := .inr (.inr (by decide +kernel))
theorem zn_dec {x : UInt32} (h : ZN x) : FP.Core.decode FP.Core.b32 x.toNat = .nan ∨ ∃ s, FP.Core.decode FP.Core.b32 x.toNat = .fin s 0 FP.Core.b32.qmin := by
  rcases h with rfl | rfl | rfl
  · exact .inr ⟨false, by decide +kernel⟩
  · exact .inr ⟨true, by decide +kernel⟩
  · exact .inl (by decide +kernel)
theorem zn_round (s : Bool) (den : Nat) (e : Int) : FP.Core.roundRatio FP.Core.b32 s 0 den e = .fin s 0 FP.Core.b32.qmin := by
  unfold FP.Core.roundRatio
  simp
theorem zn_mul {x : UInt32} (h : ZN x) (y : UInt32) : ZN (FP.fmul x y) := by
  show ZN (UInt32.ofNat (FP.Core.encode FP.Core.b32 (FP.Core.round FP.Core.b32 (FP.Core.exactProduct (FP.Core.decode FP.Core.b32 x.toNat) (FP.Core.decode FP.Core.b32 y.toNat)))))
  rcases zn_dec h with e | ⟨s, e⟩
  · rw [e]; exact zn_nan
  · rw [e]
    cases FP.Core.decode FP.Core.b32 y.toNat with
    | nan => exact zn_nan
    | inf t =>
      show ZN (UInt32.ofNat (FP.Core.encode FP.Core.b32 (FP.Core.round FP.Core.b32 (if (0 : Nat) = 0 then .nan else .inf (s != t)))))
      rw [if_pos rfl]; exact zn_nan
    | fin t d r =>
      show ZN (UInt32.ofNat (FP.Core.encode FP.Core.b32 (FP.Core.roundRatio FP.Core.b32 (s != t) (0 * d) 1 (FP.Core.b32.qmin + r))))
      rw [Nat.zero_mul, zn_round]; exact zn_enc _
theorem zn_div {x : UInt32} (h : ZN x) (y : UInt32) : ZN (FP.fdiv x y) := by
  show ZN (UInt32.ofNat (FP.Core.encode FP.Core.b32 (FP.Core.quotient FP.Core.b32 (FP.Core.decode FP.Core.b32 x.toNat) (FP.Core.decode FP.Core.b32 y.toNat))))
  rcases zn_dec h with e | ⟨s, e⟩
  · rw [e]; exact zn_nan
  · rw [e]
    cases FP.Core.decode FP.Core.b32 y.toNat with
    | nan => exact zn_nan
    | inf t => exact zn_enc (s != t)
    | fin t d r =>
      show ZN (UInt32.ofNat (FP.Core.encode FP.Core.b32 (if d = 0 then (if (0 : Nat) = 0 then .nan else .inf (s != t)) else FP.Core.roundRatio FP.Core.b32 (s != t) 0 d (FP.Core.b32.qmin - r))))
      by_cases c : d = 0
      · rw [if_pos c, if_pos rfl]; exact zn_nan
      · rw [if_neg c, zn_round]; exact zn_enc _
theorem zn_add {x y : UInt32} (h : ZN x) (k : ZN y) : ZN (FP.fadd x y) := by
  rcases h with rfl | rfl | rfl <;> rcases k with rfl | rfl | rfl <;> first | exact .inl (by decide +kernel) | exact .inr (.inl (by decide +kernel)) | exact .inr (.inr (by decide +kernel))
theorem zn_sub {x y : UInt32} (h : ZN x) (k : ZN y) : ZN (FP.fsub x y) := by
  rcases h with rfl | rfl | rfl <;> rcases k with rfl | rfl | rfl <;> first | exact .inl (by decide +kernel) | exact .inr (.inl (by decide +kernel)) | exact .inr (.inr (by decide +kernel))
theorem zn_f2i {x : UInt32} (h : ZN x) : FP.f2i x = 0 := by
  rcases h with rfl | rfl | rfl <;> decide +kernel
theorem zn_0 : ZN FP.fconst0 := .inl (by decide +kernel)
theorem zn_e : FP.fdiv (FP.i2f 0) 1098907648 = 0 := by decide +kernel
theorem zn_u (p q : UInt32) : ZN (uF p q 0 0) := by
  unfold uF
  rw [zn_e]
  exact zn_div (zn_mul (zn_add (zn_mul (.inl rfl) _) (zn_mul (.inl rfl) _)) _) _
theorem zn_v (p q : UInt32) : ZN (vF p q 0 0) := by
  unfold vF
  rw [zn_e]
  exact zn_div (zn_mul (zn_sub (zn_mul (.inl rfl) _) (zn_mul (.inl rfl) _)) _) _
/-- a grey segment has no color -/
theorem zn_cU {p q : UInt32} {on sn cs : Int32} (h : on = 0 ∨ (sn = 0 ∧ cs = 0)) : ZN (cU p q on sn cs) := by
  unfold cU
  by_cases c : on = 0
  · rw [if_pos c]; exact zn_0
  · obtain ⟨rfl, rfl⟩ := h.resolve_left c
    rw [if_neg c]
    split
    · exact zn_0
    · exact zn_u _ _
theorem zn_cW {p q : UInt32} {on sn cs : Int32} (h : on = 0 ∨ (sn = 0 ∧ cs = 0)) : ZN (cW p q on sn cs) := by
  unfold cW
  by_cases c : on = 0
  · rw [if_pos c]; exact zn_0
  · obtain ⟨rfl, rfl⟩ := h.resolve_left c
    rw [if_neg c]
    split
    · exact zn_0
    · exact zn_v _ _
