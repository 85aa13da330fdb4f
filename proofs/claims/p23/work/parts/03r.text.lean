/-! counts that are bounded by what a cell holds -/
theorem cl_toInt (n : Int32) : (n.toNatClampNeg : Int) = max n.toInt 0 := by
  show ((n.toInt.toNat : Nat) : Int) = _
  omega
theorem cl_b (n : Int32) : n.toNatClampNeg < 2 ^ 31 := by
  have h := cl_toInt n
  have h2 := Int32.toInt_lt n
  omega
theorem cl_lt {n : Int32} {j : Nat} (h : j < n.toNatClampNeg) : ¬ n ≤ nI j := by
  have h1 := cl_toInt n
  have h2 := cl_b n
  rw [i32_le, nI_toInt (by omega)]
  omega
theorem cl_ge (n : Int32) : n ≤ nI n.toNatClampNeg := by
  have h1 := cl_toInt n
  have h2 := cl_b n
  rw [i32_le, nI_toInt h2]
  omega
theorem cl_lt2 {n : Int32} {j : Nat} (h : ¬ n ≤ nI j) (hj : j < 2 ^ 31) : j < n.toNatClampNeg := by
  have h1 := cl_toInt n
  rw [i32_le, nI_toInt hj] at h
  omega
theorem cl_60 {n : Int32} (h : vp_in n 61) : n.toNatClampNeg ≤ 60 := by
  rw [vp_in_iff] at h
  have h1 := cl_toInt n
  omega
theorem rb_exit {x : Int32} (hx : vp_in x 11) : 10 ≤ x + nI 11 := by
  obtain ⟨t, ht, rfl⟩ := vp_in_of hx (by decide)
  rw [nI_add]
  exact nI_le (a := 10) (by omega) (by omega)
theorem rb_in {x : Int32} (h1 : ¬ x ≤ 0) (h2 : ¬ 10 ≤ x) : vp_in x 10 := by
  rw [i32_le, show (0 : Int32).toInt = 0 from rfl] at h1
  rw [i32_le, show (10 : Int32).toInt = 10 from rfl] at h2
  rw [vp_in_iff]
  omega
theorem rb_in1 {x : Int32} (h1 : ¬ x ≤ 0) (h2 : ¬ 10 ≤ x) : vp_in (x - 1) 10 := m1_in3 (by decide) (rb_in h1 h2) h1
theorem in10 {x : Int32} (h : vp_in x 11) (h2 : x < 10) : vp_in x 10 := by
  rw [vp_in_iff] at h ⊢
  rw [i32_lt, show (10 : Int32).toInt = 10 from rfl] at h2
  omega
theorem sw_same (s : Sg) (k i : Nat) (v : Int32) : sw s k i v k i = v := by
  simp [sw, va_up, upd]
theorem sw_cell {s : Sg} {k i k' : Nat} {v : Int32} (h : ¬ k' = k) (i' : Nat) : sw s k i v k' i' = s k' i' := by
  simp [sw, va_up, upd, h]
theorem sw_place {s : Sg} {k i i' : Nat} {v : Int32} (h : ¬ i' = i) (k' : Nat) : sw s k i v k' i' = s k' i' := by
  by_cases q : k' = k
  · subst q; simp [sw, va_up, upd, h]
  · exact sw_cell q i'
theorem sw_row {s : Sg} {k i k' : Nat} {v : Int32} (h : ¬ k' = k) : sw s k i v k' = s k' := funext fun i' => sw_cell h i'
theorem sw_get (s : Sg) (k i k' i' : Nat) (v : Int32) : sw s k i v k' i' = if k' = k ∧ i' = i then v else s k' i' := by
  by_cases q : k' = k
  · by_cases q2 : i' = i
    · rw [if_pos ⟨q, q2⟩, q, q2]; exact sw_same _ _ _ _
    · rw [if_neg (fun h => q2 h.2)]; exact sw_place q2 _
  · rw [if_neg (fun h => q h.1)]; exact sw_cell q _
/-- a loop that ends within its rounds -/
theorem loopE_to {ρ τ : Type} {B : Nat → τ → ρ ⊕ τ} {N m : Nat} {S : Nat → τ} {r : ρ} (hm : m < N) (hs : ∀ j, j < m → B j (S j) = .inr (S (j + 1))) (he : B m (S m) = .inl r) : loopE B N 0 (S 0) = .inl r := by
  have key : ∀ n j : Nat, j + n = m → loopE B (N - j) j (S j) = .inl r := by
    intro n
    induction n with
    | zero => intro j h; rw [show j = m by omega, show N - m = (N - m - 1) + 1 by omega]; exact loopE_inl _ he
    | succ n ih =>
      intro j h
      rw [show N - j = (N - (j + 1)) + 1 by omega]
      exact (loopE_inr _ (hs j (by omega))).trans (ih (j + 1) (by omega))
  exact key m 0 (by omega)
/-- n places, from t on, get what the place before holds -/
def rep (c t : Nat) (s : Sg) : Nat → Sg
  | 0 => s
  | n + 1 => sw (rep c t s n) c (t + n) (rep c t s n c (t + n - 1))
theorem rep_get (c t : Nat) (s : Sg) (h : 1 ≤ t) (n k i : Nat) : rep c t s n k i = if k = c ∧ t ≤ i ∧ i < t + n then s c (t - 1) else s k i := by
  induction n generalizing k i with
  | zero => rw [if_neg (by omega)]; rfl
  | succ n ih =>
    show sw (rep c t s n) c (t + n) (rep c t s n c (t + n - 1)) k i = _
    rw [sw_get, ih, ih]
    by_cases q : k = c ∧ i = t + n
    · rw [if_pos q, if_pos (⟨q.1, by omega, by omega⟩ : k = c ∧ t ≤ i ∧ i < t + (n + 1))]
      by_cases q2 : n = 0
      · subst q2; rw [if_neg (by omega)]; rfl
      · rw [if_pos ⟨rfl, by omega, by omega⟩]
    · rw [if_neg q]
      by_cases q2 : k = c ∧ t ≤ i ∧ i < t + n
      · rw [if_pos q2, if_pos ⟨q2.1, q2.2.1, by omega⟩]
      · rw [if_neg q2, if_neg (fun h => q2 ⟨h.1, h.2.1, by omega⟩)]
theorem loopE_run {ρ τ : Type} {B : Nat → τ → ρ ⊕ τ} {N : Nat} {S : Nat → τ} (hs : ∀ j, j < N → B j (S j) = .inr (S (j + 1))) : loopE B N 0 (S 0) = .inr (S N) := by
  have key : ∀ n j : Nat, j + n = N → loopE B n j (S j) = .inr (S N) := by
    intro n
    induction n with
    | zero => intro j h; rw [show j = N by omega]; rfl
    | succ n ih => intro j h; exact (loopE_inr _ (hs j (by omega))).trans (ih (j + 1) (by omega))
  exact key N 0 (by omega)
/-- the letters of the bars, as both sides read them -/
theorem bo_cases (x : Int32) : (∃ k, k < 8 ∧ f_X0_barOf x = nI k ∧ True) ∨ (f_X0_barOf x = -1 ∧ True) := by
  by_cases h0 : x = 119
  · subst h0; exact .inl ⟨0, by decide, by decide +kernel, True.intro⟩
  by_cases h1 : x = 121
  · subst h1; exact .inl ⟨1, by decide, by decide +kernel, True.intro⟩
  by_cases h2 : x = 99
  · subst h2; exact .inl ⟨2, by decide, by decide +kernel, True.intro⟩
  by_cases h3 : x = 103
  · subst h3; exact .inl ⟨3, by decide, by decide +kernel, True.intro⟩
  by_cases h4 : x = 109
  · subst h4; exact .inl ⟨4, by decide, by decide +kernel, True.intro⟩
  by_cases h5 : x = 114
  · subst h5; exact .inl ⟨5, by decide, by decide +kernel, True.intro⟩
  by_cases h6 : x = 98
  · subst h6; exact .inl ⟨6, by decide, by decide +kernel, True.intro⟩
  by_cases h7 : x = 107
  · subst h7; exact .inl ⟨7, by decide, by decide +kernel, True.intro⟩
  refine .inr ⟨?_, ?_⟩
  · have hb : ∀ j, j < 8 → b_X0_barOf_2 x j () = .inr () := by
      intro j hj
      have : j = 0 ∨ j = 1 ∨ j = 2 ∨ j = 3 ∨ j = 4 ∨ j = 5 ∨ j = 6 ∨ j = 7 := by omega
      rcases this with rfl | rfl | rfl | rfl | rfl | rfl | rfl | rfl
      · exact if_neg (fun q => h0 (q.symm.trans (by decide +kernel)))
      · exact if_neg (fun q => h1 (q.symm.trans (by decide +kernel)))
      · exact if_neg (fun q => h2 (q.symm.trans (by decide +kernel)))
      · exact if_neg (fun q => h3 (q.symm.trans (by decide +kernel)))
      · exact if_neg (fun q => h4 (q.symm.trans (by decide +kernel)))
      · exact if_neg (fun q => h5 (q.symm.trans (by decide +kernel)))
      · exact if_neg (fun q => h6 (q.symm.trans (by decide +kernel)))
      · exact if_neg (fun q => h7 (q.symm.trans (by decide +kernel)))
    rw [f_X0_barOf_eq]
    exact sumE_inr (loopE_run (S := fun _ => ()) hb)
  · exact True.intro
theorem dg_b (x : Int32) : ∃ m, m ≤ 9 ∧ f_X0_digitOf x = nI m := by
  by_cases h : x < 49
  · exact ⟨0, by omega, if_pos h⟩
  · by_cases h2 : 57 < x
    · exact ⟨0, by omega, (if_neg h).trans (if_pos h2)⟩
    · rw [i32_lt, show (49 : Int32).toInt = 49 from rfl] at h
      rw [i32_lt, show (57 : Int32).toInt = 57 from rfl] at h2
      obtain ⟨j, hj, rfl⟩ := nI_of (x := x) (by rw [i32_lt, show (0 : Int32).toInt = 0 from rfl]; omega)
      rw [nI_toInt hj] at h h2
      refine ⟨j - 48, by omega, ?_⟩
      refine ((if_neg (by rw [i32_lt, show (49 : Int32).toInt = 49 from rfl, nI_toInt hj]; exact h)).trans (if_neg (by rw [i32_lt, show (57 : Int32).toInt = 57 from rfl, nI_toInt hj]; exact h2))).trans ?_
      show nI j - nI 48 = _
      exact pk_sub (by omega)
theorem loopE_cases {ρ τ : Type} {B : Nat → τ → ρ ⊕ τ} {N : Nat} {I : τ} (Inv : Nat → τ → Prop) (h0 : Inv 0 I) (hs : ∀ (j : Nat) (s s' : τ), j < N → Inv j s → B j s = .inr s' → Inv (j + 1) s') : (∃ j s r, j < N ∧ Inv j s ∧ B j s = .inl r ∧ loopE B N 0 I = .inl r) ∨ (∃ s, Inv N s ∧ loopE B N 0 I = .inr s) := by
  have key : ∀ n j : Nat, ∀ s, j + n = N → Inv j s → loopE B N 0 I = loopE B n j s → (∃ j s r, j < N ∧ Inv j s ∧ B j s = .inl r ∧ loopE B N 0 I = .inl r) ∨ (∃ s, Inv N s ∧ loopE B N 0 I = .inr s) := by
    intro n
    induction n with
    | zero => intro j s h hi he; rw [show j = N by omega] at hi; exact .inr ⟨s, hi, he⟩
    | succ n ih =>
      intro j s h hi he
      cases hb : B j s with
      | inl r => exact .inl ⟨j, s, r, by omega, hi, hb, he.trans (loopE_inl n hb)⟩
      | inr s' => exact ih (j + 1) s' (by omega) (hs j s s' (by omega) hi hb) (he.trans (loopE_inr n hb))
  exact key N 0 I (by omega) h0 rfl
theorem nI_nm1 {j : Nat} (h : j < 2 ^ 31) : ¬ nI j = -1 := by
  intro q
  have := congrArg Int32.toInt q
  rw [nI_toInt h, show (-1 : Int32).toInt = -1 from rfl] at this
  omega
theorem vp_nm1 {x : Int32} {n : Nat} (h : vp_in x n) : ¬ x = -1 := by
  intro q
  rw [vp_in_iff, q, show (-1 : Int32).toInt = -1 from rfl] at h
  omega
def b_X0_repeatBar_7 (x : Int32) (y : Int32) (j1 : Nat) (s1 : Sg) : (Int32 × Sg) ⊕ (Sg) := if (x + nI j1) ≤ 0 then (.inl (x + y, s1)) else (if (x + y) ≤ (x + nI j1) then (.inl (x + y, s1)) else (if 10 ≤ (x + nI j1) then (.inl (x + y, s1)) else (let σ2 : Sg := sw s1 12 (x + nI j1).toNatClampNeg (s1 12 ((x + nI j1) - 1).toNatClampNeg); .inr σ2)))
theorem b_X0_repeatBar_7_eq (x : Int32) (y : Int32) (j1 : Nat) (s1 : Sg) : b_X0_repeatBar_7 x y j1 s1 = (if (x + nI j1) ≤ 0 then (.inl (x + y, s1)) else (if (x + y) ≤ (x + nI j1) then (.inl (x + y, s1)) else (if 10 ≤ (x + nI j1) then (.inl (x + y, s1)) else (let σ2 : Sg := sw s1 12 (x + nI j1).toNatClampNeg (s1 12 ((x + nI j1) - 1).toNatClampNeg); .inr σ2)))) := rfl
def f_X0_repeatBar (σ : Sg) (x : Int32) (y : Int32) : Int32 × Sg := sumE (loopE (b_X0_repeatBar_7 x y) 11 0 σ) (fun t1 => if (x + nI 11) ≤ 0 then (x + y, t1) else (if (x + y) ≤ (x + nI 11) then (x + y, t1) else (x + y, t1)))
theorem f_X0_repeatBar_eq (σ : Sg) (x : Int32) (y : Int32) : f_X0_repeatBar σ x y = (sumE (loopE (b_X0_repeatBar_7 x y) 11 0 σ) (fun t1 => if (x + nI 11) ≤ 0 then (x + y, t1) else (if (x + y) ≤ (x + nI 11) then (x + y, t1) else (x + y, t1)))) := rfl
theorem rb_eq (σ : Sg) {t m : Nat} (h1 : 1 ≤ t) (h2 : t + m ≤ 10) : f_X0_repeatBar σ (nI t) (nI m) = (nI (t + m), rep 12 t σ m) := by
  have e : loopE (b_X0_repeatBar_7 (nI t) (nI m)) 11 0 (rep 12 t σ 0) = .inl (nI (t + m), rep 12 t σ m) := by
    refine loopE_to (S := rep 12 t σ) (m := m) (by omega) ?_ ?_
    · intro j hj
      rw [b_X0_repeatBar_7_eq, nI_add, nI_add]
      rw [if_neg (nI_nle (n := t + j) (by omega) (by omega)), if_neg (nI_ge (by omega) (by omega)), if_neg (show ¬ (10 : Int32) ≤ nI (t + j) from nI_ge (b := 10) (by omega) (by decide))]
      have e1 : nI (t + j) - 1 = nI (t + j - 1) := by
        show nI (t + j) - nI 1 = _
        rw [pk_sub (by omega)]
      show Sum.inr (sw (rep 12 t σ j) 12 (nI (t + j)).toNatClampNeg (rep 12 t σ j 12 (nI (t + j) - 1).toNatClampNeg)) = _
      rw [e1, nI_clamp (by omega), nI_clamp (by omega)]
      rfl
    · rw [b_X0_repeatBar_7_eq, nI_add]
      rw [if_neg (nI_nle (n := t + m) (by omega) (by omega)), if_pos (i32_refl _)]
  rw [f_X0_repeatBar_eq]
  exact sumE_inl e
set_option maxRecDepth 100000 in
set_option maxHeartbeats 4000000 in
theorem c_X0_repeatBar (l : Launch) (D : va_G) (ad : Nat → Nat) (dA : Nat → ClassId) (z0 : Nat) (tt : Nat → Nat) (σ : Sg) (φ : Fl) (x : Int32) (y : Int32) (hx : vp_in x 11) : MC l D ad dA z0 tt yX0_repeatBar (Cond.code yX0_repeatBar cX0_repeatBar 5 (some .int) :: lw_all) { frames := 0, cells := 0, slots := 0, locals := 0 } [.ref (ad 10), .int x, .int y] σ φ (Fn (some (.int (f_X0_repeatBar σ x y).1)) (f_X0_repeatBar σ x y).2 φ) := by
  refine mk_MC (by decide) (Nat.le_of_ble_eq_true rfl) ?_
  intro K C hi hf hv
  change K σ φ 0 [(0, .ref (ad 10)), (1, .int x), (2, .int y)] []
  refine g_iload_n C (i := 1) dX0_repeatBar_0 rfl 1 rfl ?_
  refine g_iload_n C (i := 2) dX0_repeatBar_1 rfl 2 rfl ?_
  refine g_iadd C dX0_repeatBar_2 ?_
  refine g_istore_n C (i := 3) (lv' := [(3, .int (x + y)), (0, .ref (ad 10)), (1, .int x), (2, .int y)]) dX0_repeatBar_3 rfl (by decide) rfl ?_
  refine g_iload_n C (i := 1) dX0_repeatBar_4 rfl 2 rfl ?_
  refine g_istore C (i := 4) (lv' := [(4, .int x), (3, .int (x + y)), (0, .ref (ad 10)), (1, .int x), (2, .int y)]) dX0_repeatBar_5 (by decide) rfl ?_
  refine g_loc C (lv' := [(0, .ref (ad 10)), (3, .int (x + y)), (4, .int x)]) [2, 1, 0] rfl ?_
  refine g_lvq C (lv' := [(0, .ref (ad 10)), (3, .int (x + y)), (4, .int (x + nI 0))]) (by rw [nI_s0]) ?_
  refine loopE_ind (b_X0_repeatBar_7 x y) 11 (fun (j1 : Nat) (s1 : Sg) => K s1 φ 7 [(0, .ref (ad 10)), (3, .int (x + y)), (4, .int (x + nI j1))] []) σ ?_ ?_
  · intro n1 j1 s1 hn hF1 kk
    have hj1 : j1 < 11 := by omega
    change K s1 φ 7 [(0, .ref (ad 10)), (3, .int (x + y)), (4, .int (x + nI j1))] []
    refine g_iload C (i := 4) dX0_repeatBar_7 2 rfl ?_
    refine g_if_le C (tgt := 47) dX0_repeatBar_9 (by decide) (fun h1 => ?_) (fun h1 => ?_)
    · refine g_iload_n C (i := 3) dX0_repeatBar_47 rfl 1 rfl ?_
      have e0 : f_X0_repeatBar σ x y = (x + y, s1) := by
        have eF := hF1.trans (loopE_inl n1 ((b_X0_repeatBar_7_eq _ _ _ _).trans (if_pos h1)))
        exact ((f_X0_repeatBar_eq _ _ _).trans (sumE_inl eF))
      exact hi _ _ _ _ _ _ rfl dX0_repeatBar_48 rfl ⟨(congrArg (fun z => some (Value.int z.1)) e0).symm, (congrArg (fun z => z.2) e0).symm, rfl⟩
    · refine g_iload C (i := 4) dX0_repeatBar_12 2 rfl ?_
      refine g_iload_n C (i := 3) dX0_repeatBar_14 rfl 1 rfl ?_
      refine g_icmp_ge C (tgt := 47) dX0_repeatBar_15 (by decide) (fun h2 => ?_) (fun h2 => ?_)
      · refine g_iload_n C (i := 3) dX0_repeatBar_47 rfl 1 rfl ?_
        have e0 : f_X0_repeatBar σ x y = (x + y, s1) := by
          have eF := hF1.trans (loopE_inl n1 ((b_X0_repeatBar_7_eq _ _ _ _).trans ((if_neg h1).trans (if_pos h2))))
          exact ((f_X0_repeatBar_eq _ _ _).trans (sumE_inl eF))
        exact hi _ _ _ _ _ _ rfl dX0_repeatBar_48 rfl ⟨(congrArg (fun z => some (Value.int z.1)) e0).symm, (congrArg (fun z => z.2) e0).symm, rfl⟩
      · refine g_iload C (i := 4) dX0_repeatBar_18 2 rfl ?_
        refine g_bipush C (v := 10) dX0_repeatBar_20 (by decide) ?_
        refine g_icmp_ge C (tgt := 47) dX0_repeatBar_22 (by decide) (fun h3 => ?_) (fun h3 => ?_)
        · refine g_iload_n C (i := 3) dX0_repeatBar_47 rfl 1 rfl ?_
          have e0 : f_X0_repeatBar σ x y = (x + y, s1) := by
            have eF := hF1.trans (loopE_inl n1 ((b_X0_repeatBar_7_eq _ _ _ _).trans ((if_neg h1).trans ((if_neg h2).trans (if_pos h3)))))
            exact ((f_X0_repeatBar_eq _ _ _).trans (sumE_inl eF))
          exact hi _ _ _ _ _ _ rfl dX0_repeatBar_48 rfl ⟨(congrArg (fun z => some (Value.int z.1)) e0).symm, (congrArg (fun z => z.2) e0).symm, rfl⟩
        · refine g_aload_n C (i := 0) dX0_repeatBar_25 rfl 0 rfl ?_
          refine gg_10_2 C fl_X0_15 dX0_repeatBar_26 ?_
          refine g_iload C (i := 4) dX0_repeatBar_29 2 rfl ?_
          refine g_aload_n C (i := 0) dX0_repeatBar_31 rfl 0 rfl ?_
          refine gg_10_2 C fl_X0_15 dX0_repeatBar_32 ?_
          refine g_iload C (i := 4) dX0_repeatBar_35 2 rfl ?_
          refine g_iconst C (v := 1) dX0_repeatBar_37 (by decide) ?_
          refine g_isub C dX0_repeatBar_38 ?_
          refine ld_12 C (rb_in1 h1 h3) dX0_repeatBar_39 ?_
          refine sd_12 C (rb_in h1 h3) dX0_repeatBar_40 ?_
          refine g_nms C (fun σ2 eσ2 => ?_)
          refine g_iinc C (i := 4) (v := x + nI (j1 + 1)) (lv' := [(4, .int (x + nI (j1 + 1))), (0, .ref (ad 10)), (3, .int (x + y))]) dX0_repeatBar_41 2 rfl (nI_1s _ _) (by decide) rfl ?_
          refine g_goto C (tgt := 7) dX0_repeatBar_44 (by decide) ?_
          refine g_loc C [1, 2, 0] rfl ?_
          refine kk σ2 ?_
          subst eσ2
          exact ((b_X0_repeatBar_7_eq _ _ _ _).trans ((if_neg h1).trans ((if_neg h2).trans (if_neg h3))))
  · intro t1 hF1
    change K t1 φ 7 [(0, .ref (ad 10)), (3, .int (x + y)), (4, .int (x + nI 11))] []
    refine g_iload C (i := 4) dX0_repeatBar_7 2 rfl ?_
    refine g_if_le C (tgt := 47) dX0_repeatBar_9 (by decide) (fun h4 => ?_) (fun h4 => ?_)
    · refine g_iload_n C (i := 3) dX0_repeatBar_47 rfl 1 rfl ?_
      have e0 : f_X0_repeatBar σ x y = (x + y, t1) := by
        exact ((f_X0_repeatBar_eq _ _ _).trans ((sumE_inr hF1).trans (if_pos h4)))
      exact hi _ _ _ _ _ _ rfl dX0_repeatBar_48 rfl ⟨(congrArg (fun z => some (Value.int z.1)) e0).symm, (congrArg (fun z => z.2) e0).symm, rfl⟩
    · refine g_iload C (i := 4) dX0_repeatBar_12 2 rfl ?_
      refine g_iload_n C (i := 3) dX0_repeatBar_14 rfl 1 rfl ?_
      refine g_icmp_ge C (tgt := 47) dX0_repeatBar_15 (by decide) (fun h5 => ?_) (fun h5 => ?_)
      · refine g_iload_n C (i := 3) dX0_repeatBar_47 rfl 1 rfl ?_
        have e0 : f_X0_repeatBar σ x y = (x + y, t1) := by
          exact ((f_X0_repeatBar_eq _ _ _).trans ((sumE_inr hF1).trans ((if_neg h4).trans (if_pos h5))))
        exact hi _ _ _ _ _ _ rfl dX0_repeatBar_48 rfl ⟨(congrArg (fun z => some (Value.int z.1)) e0).symm, (congrArg (fun z => z.2) e0).symm, rfl⟩
      · refine g_iload C (i := 4) dX0_repeatBar_18 2 rfl ?_
        refine g_bipush C (v := 10) dX0_repeatBar_20 (by decide) ?_
        refine g_icmp_ge C (tgt := 47) dX0_repeatBar_22 (by decide) (fun h6 => ?_) (fun h6 => ?_)
        · refine g_iload_n C (i := 3) dX0_repeatBar_47 rfl 1 rfl ?_
          have e0 : f_X0_repeatBar σ x y = (x + y, t1) := by
            exact ((f_X0_repeatBar_eq _ _ _).trans ((sumE_inr hF1).trans ((if_neg h4).trans (if_neg h5))))
          exact hi _ _ _ _ _ _ rfl dX0_repeatBar_48 rfl ⟨(congrArg (fun z => some (Value.int z.1)) e0).symm, (congrArg (fun z => z.2) e0).symm, rfl⟩
        · exact absurd (rb_exit hx) h6
def b_X0_parse_11  (j2 : Nat) (s2 : Int32 × Int32 × Sg) : (Int32 × Sg) ⊕ (Int32 × Int32 × Sg) := if (f_X0_barOf ((s2.2.2) 11 (nI j2).toNatClampNeg)) < 0 then (let v3 : Int32 := (if (s2.2.1) = 0 then (-1) else ((f_X0_digitOf ((s2.2.2) 11 (nI j2).toNatClampNeg)) - 1)); if v3 < 0 then (.inl (nI j2, s2.2.2)) else (if ((s2.1) + v3) ≤ 10 then (let v5 : Int32 := (f_X0_repeatBar (s2.2.2) (s2.1) v3).1; let σ6 : Sg := (f_X0_repeatBar (s2.2.2) (s2.1) v3).2; .inr (v5, 0, σ6)) else (.inl (nI j2, s2.2.2)))) else (if (s2.1) < 10 then (let σ7 : Sg := sw (s2.2.2) 12 (s2.1).toNatClampNeg (f_X0_barOf ((s2.2.2) 11 (nI j2).toNatClampNeg)); let σ8 : Sg := sw σ7 10 3 ((σ7 10 3) + 1); .inr ((s2.1) + 1, 1, σ8)) else (.inl (nI j2, s2.2.2)))
theorem b_X0_parse_11_eq  (j2 : Nat) (s2 : Int32 × Int32 × Sg) : b_X0_parse_11  j2 s2 = (if (f_X0_barOf ((s2.2.2) 11 (nI j2).toNatClampNeg)) < 0 then (let v3 : Int32 := (if (s2.2.1) = 0 then (-1) else ((f_X0_digitOf ((s2.2.2) 11 (nI j2).toNatClampNeg)) - 1)); if v3 < 0 then (.inl (nI j2, s2.2.2)) else (if ((s2.1) + v3) ≤ 10 then (let v5 : Int32 := (f_X0_repeatBar (s2.2.2) (s2.1) v3).1; let σ6 : Sg := (f_X0_repeatBar (s2.2.2) (s2.1) v3).2; .inr (v5, 0, σ6)) else (.inl (nI j2, s2.2.2)))) else (if (s2.1) < 10 then (let σ7 : Sg := sw (s2.2.2) 12 (s2.1).toNatClampNeg (f_X0_barOf ((s2.2.2) 11 (nI j2).toNatClampNeg)); let σ8 : Sg := sw σ7 10 3 ((σ7 10 3) + 1); .inr ((s2.1) + 1, 1, σ8)) else (.inl (nI j2, s2.2.2)))) := rfl
def f_X0_parse (σ : Sg) : Int32 × Sg := let σ1 : Sg := sw σ 10 3 0; sumE (loopE b_X0_parse_11 ((σ 10 1).toNatClampNeg) 0 (0, 0, σ1)) (fun t2 => if 10 ≤ (t2.1) then ((-1), t2.2.2) else ((t2.2.2) 10 1, t2.2.2))
theorem f_X0_parse_eq (σ : Sg) : f_X0_parse σ = (let σ1 : Sg := sw σ 10 3 0; sumE (loopE b_X0_parse_11 ((σ 10 1).toNatClampNeg) 0 (0, 0, σ1)) (fun t2 => if 10 ≤ (t2.1) then ((-1), t2.2.2) else ((t2.2.2) 10 1, t2.2.2))) := rfl
theorem ps_inv (σ : Sg) (j : Nat) (s s' : Int32 × Int32 × Sg) (_ : j < (σ 10 1).toNatClampNeg) (h : s.2.2 10 1 = σ 10 1 ∧ vp_in s.1 11 ∧ (¬ s.2.1 = 0 → ¬ s.1 = 0) ∧ ∀ k, k < s.1.toNatClampNeg → vp_in (s.2.2 12 k) 8) (e : b_X0_parse_11 j s = .inr s') : s'.2.2 10 1 = σ 10 1 ∧ vp_in s'.1 11 ∧ (¬ s'.2.1 = 0 → ¬ s'.1 = 0) ∧ ∀ k, k < s'.1.toNatClampNeg → vp_in (s'.2.2 12 k) 8 := by
  obtain ⟨told, dg, s2⟩ := s
  obtain ⟨h1, h2, h3, h4⟩ := h
  obtain ⟨t, ht, rfl⟩ := vp_in_of h2 (by decide)
  rw [b_X0_parse_11_eq] at e
  dsimp only at e h1 h3 h4
  rw [nI_clamp (by omega)] at h4
  by_cases c1 : f_X0_barOf (s2 11 (nI j).toNatClampNeg) < 0
  · rw [if_pos c1] at e
    by_cases c2 : dg = 0
    · rw [if_pos c2, if_pos (by decide)] at e
      exact absurd e (by simp)
    · rw [if_neg c2] at e
      by_cases c3 : f_X0_digitOf (s2 11 (nI j).toNatClampNeg) - 1 < 0
      · rw [if_pos c3] at e
        exact absurd e (by simp)
      · rw [if_neg c3] at e
        obtain ⟨m, hm, em⟩ := dg_b (s2 11 (nI j).toNatClampNeg)
        rw [em] at e c3
        have hm1 : 1 ≤ m := by
          rcases Nat.lt_or_ge m 1 with q | q
          · exact absurd (pk_sneg (a := m) (b := 1) (by decide) q) c3
          · exact q
        have e1 : nI m - 1 = nI (m - 1) := pk_sub (a := m) (b := 1) hm1
        rw [e1, nI_add] at e
        have ht1 : 1 ≤ t := by
          rcases Nat.lt_or_ge t 1 with q | q
          · exact absurd (show nI t = 0 by rw [show t = 0 by omega]; rfl) (h3 c2)
          · exact q
        by_cases c4 : nI (t + (m - 1)) ≤ 10
        · rw [if_pos c4] at e
          have c5 : t + (m - 1) ≤ 10 := (nI_leI (b := 10) (by omega) (by decide)).mp c4
          rw [rb_eq s2 ht1 c5] at e
          obtain rfl := Sum.inr.inj e
          refine ⟨?_, vp_in_nI (by omega) (by decide), fun q => absurd rfl q, ?_⟩
          · show rep 12 t s2 (m - 1) 10 1 = _
            rw [rep_get _ _ _ ht1, if_neg (by omega)]
            exact h1
          · intro k hk
            show vp_in (rep 12 t s2 (m - 1) 12 k) 8
            have hk : k < t + (m - 1) := by rwa [nI_clamp (by omega)] at hk
            rw [rep_get _ _ _ ht1]
            by_cases q : 12 = 12 ∧ t ≤ k ∧ k < t + (m - 1)
            · rw [if_pos q]; exact h4 _ (by omega)
            · rw [if_neg q]; exact h4 _ (by omega)
        · rw [if_neg c4] at e
          exact absurd e (by simp)
  · rw [if_neg c1] at e
    by_cases c2 : nI t < 10
    · rw [if_pos c2] at e
      have c3 : t < 10 := (nI_ltI (b := 10) (by omega) (by decide)).mp c2
      obtain rfl := Sum.inr.inj e
      rw [nI_1]
      refine ⟨?_, vp_in_nI (by omega) (by decide), fun _ => nI_ne0 (by omega) (by omega), ?_⟩
      · dsimp only
        rw [sw_place (show ¬ (1 : Nat) = 3 by decide), sw_cell (show ¬ (10 : Nat) = 12 by decide)]
        exact h1
      · intro k hk
        have hk : k < t + 1 := by rwa [nI_clamp (by omega)] at hk
        dsimp only
        rw [sw_cell (show ¬ (12 : Nat) = 10 by decide), sw_get, nI_clamp (by omega)]
        by_cases q : 12 = 12 ∧ k = t
        · rw [if_pos q]
          rcases bo_cases (s2 11 (nI j).toNatClampNeg) with ⟨b, hb, eb, -⟩ | ⟨eb, -⟩
          · rw [eb]; exact vp_in_nI hb (by decide)
          · rw [eb] at c1; exact absurd (by decide) c1
        · rw [if_neg q]; exact h4 _ (by omega)
    · rw [if_neg c2] at e
      exact absurd e (by simp)
set_option maxRecDepth 100000 in
set_option maxHeartbeats 4000000 in
theorem c_X0_parse (l : Launch) (D : va_G) (ad : Nat → Nat) (dA : Nat → ClassId) (z0 : Nat) (tt : Nat → Nat) (σ : Sg) (φ : Fl)  (hu : vp_in (σ 10 1) 61) : MC l D ad dA z0 tt yX0_parse (Cond.code yX0_parse cX0_parse 6 (some .int) :: lw_all) { frames := 1, cells := 0, slots := 0, locals := 24 } [.ref (ad 10)] σ φ (Fn (some (.int (f_X0_parse σ).1)) (f_X0_parse σ).2 φ) := by
  refine mk_MC (by decide) (Nat.le_of_ble_eq_true rfl) ?_
  intro K C hi hf hv
  change K σ φ 0 [(0, .ref (ad 10))] []
  refine g_iconst C (v := 0) dX0_parse_0 (by decide) ?_
  refine g_istore_n C (i := 1) (lv' := [(1, .int 0), (0, .ref (ad 10))]) dX0_parse_1 rfl (by decide) rfl ?_
  refine g_iconst C (v := 0) dX0_parse_2 (by decide) ?_
  refine g_istore_n C (i := 2) (lv' := [(2, .int 0), (1, .int 0), (0, .ref (ad 10))]) dX0_parse_3 rfl (by decide) rfl ?_
  refine g_aload_n C (i := 0) dX0_parse_4 rfl 2 rfl ?_
  refine g_iconst C (v := 0) dX0_parse_5 (by decide) ?_
  refine gp_10_3 C fl_X0_23 dX0_parse_6 ?_
  refine g_nms C (fun σ1 eσ1 => ?_)
  refine g_iconst C (v := 0) dX0_parse_9 (by decide) ?_
  refine g_istore_n C (i := 3) (lv' := [(3, .int 0), (2, .int 0), (1, .int 0), (0, .ref (ad 10))]) dX0_parse_10 rfl (by decide) rfl ?_
  refine g_loc C (lv' := [(0, .ref (ad 10)), (1, .int 0), (2, .int 0), (3, .int 0)]) [3, 2, 1, 0] rfl ?_
  refine loopE_indI b_X0_parse_11 ((σ 10 1).toNatClampNeg) (fun (j2 : Nat) (s2 : Int32 × Int32 × Sg) => K (s2.2.2) φ 11 [(0, .ref (ad 10)), (1, .int (s2.1)), (2, .int (s2.2.1)), (3, .int (nI j2))] []) (0, 0, σ1) (fun (j2 : Nat) (s2 : Int32 × Int32 × Sg) => (s2.2.2) 10 1 = σ 10 1 ∧ vp_in (s2.1) 11 ∧ (¬ (s2.2.1) = 0 → ¬ (s2.1) = 0) ∧ ∀ k, k < (s2.1).toNatClampNeg → vp_in ((s2.2.2) 12 k) 8) ⟨by rw [← eσ1]; rfl, (show vp_in 0 11 from vp_lit (by decide)), fun q => absurd rfl q, fun k q => absurd q (Nat.not_lt_zero k)⟩ (ps_inv σ) ?_ ?_
  · intro n2 j2 s2 hn hF2 hI2 kk
    have hj2 : j2 < (σ 10 1).toNatClampNeg := by omega
    change K (s2.2.2) φ 11 [(0, .ref (ad 10)), (1, .int (s2.1)), (2, .int (s2.2.1)), (3, .int (nI j2))] []
    refine g_iload_n C (i := 3) dX0_parse_11 rfl 3 rfl ?_
    refine g_aload_n C (i := 0) dX0_parse_12 rfl 0 rfl ?_
    refine gg_10_1 C fl_X0_19 dX0_parse_13 ?_
    refine g_icmp_ge C (tgt := 122) dX0_parse_16 (by decide) (fun h1 => ?_) (fun h1 => ?_)
    · have q := h1; rw [hI2.1] at q; exact absurd q (cl_lt hj2)
    · refine g_aload_n C (i := 0) dX0_parse_19 rfl 0 rfl ?_
      refine gg_10_0 C fl_X0_11 dX0_parse_20 ?_
      refine g_iload_n C (i := 3) dX0_parse_23 rfl 3 rfl ?_
      refine ld_11 C (vp_in_nI (Nat.lt_of_lt_of_le hj2 (cl_60 hu)) (by decide)) dX0_parse_24 ?_
      refine g_callS C (st := []) (c_X0_barOf l D ad dA z0 tt (s2.2.2) φ ((s2.2.2) 11 (nI j2).toNatClampNeg)) rfl ml_X0_26 sm_X0_barOf in_X0 co_X0_barOf dyS_X0_barOf rfl rfl ⟨(Nat.le_of_ble_eq_true rfl), (Nat.le_of_ble_eq_true rfl)⟩ dX0_parse_25 rfl (Nat.le_of_ble_eq_true rfl) (g_fni ?_)
      refine g_istore C (i := 4) (lv' := [(4, .int (f_X0_barOf ((s2.2.2) 11 (nI j2).toNatClampNeg))), (0, .ref (ad 10)), (1, .int (s2.1)), (2, .int (s2.2.1)), (3, .int (nI j2))]) dX0_parse_28 (by decide) rfl ?_
      refine g_iload C (i := 4) dX0_parse_30 0 rfl ?_
      refine g_if_lt C (tgt := 69) dX0_parse_32 (by decide) (fun h2 => ?_) (fun h2 => ?_)
      · refine g_iload_n C (i := 2) dX0_parse_69 rfl 3 rfl ?_
        have J4 : ∀ (v3 : Int32), (if (s2.2.1) = 0 then (-1) else ((f_X0_digitOf ((s2.2.2) 11 (nI j2).toNatClampNeg)) - 1)) = v3 → K (s2.2.2) φ 88 [(0, .ref (ad 10)), (1, .int (s2.1)), (3, .int (nI j2))] [.int v3] := by
          intro v3 ev3
          refine g_istore C (i := 5) (lv' := [(5, .int v3), (0, .ref (ad 10)), (1, .int (s2.1)), (3, .int (nI j2))]) dX0_parse_88 (by decide) rfl ?_
          refine g_iload C (i := 5) dX0_parse_90 0 rfl ?_
          refine g_if_lt C (tgt := 104) dX0_parse_92 (by decide) (fun h4 => ?_) (fun h4 => ?_)
          · refine g_iload_n C (i := 3) dX0_parse_104 rfl 3 rfl ?_
            have e0 : f_X0_parse σ = (nI j2, s2.2.2) := by
              subst ev3
              subst eσ1
              have eF := hF2.trans (loopE_inl n2 ((b_X0_parse_11_eq _ _).trans ((if_pos h2).trans (if_pos h4))))
              exact ((f_X0_parse_eq _).trans (sumE_inl eF))
            exact hi _ _ _ _ _ _ rfl dX0_parse_105 rfl ⟨(congrArg (fun z => some (Value.int z.1)) e0).symm, (congrArg (fun z => z.2) e0).symm, rfl⟩
          · refine g_iload_n C (i := 1) dX0_parse_95 rfl 2 rfl ?_
            refine g_iload C (i := 5) dX0_parse_96 0 rfl ?_
            refine g_iadd C dX0_parse_98 ?_
            refine g_bipush C (v := 10) dX0_parse_99 (by decide) ?_
            refine g_icmp_le C (tgt := 106) dX0_parse_101 (by decide) (fun h5 => ?_) (fun h5 => ?_)
            · refine g_aload_n C (i := 0) dX0_parse_106 rfl 1 rfl ?_
              refine g_iload_n C (i := 1) dX0_parse_107 rfl 2 rfl ?_
              refine g_iload C (i := 5) dX0_parse_108 0 rfl ?_
              refine g_callV C (st := []) (c_X0_repeatBar l D ad dA z0 tt (s2.2.2) φ (s2.1) v3 hI2.2.1) rfl ml_X0_33 im_X0_repeatBar se_X0_repeatBar in_X0 co_X0_repeatBar dyV_X0_repeatBar rfl rfl ⟨(Nat.le_of_ble_eq_true rfl), (Nat.le_of_ble_eq_true rfl)⟩ 10 0 (fun f => at_10 ad dA (s2.2.2) f) rfl dX0_parse_110 rfl (Nat.le_of_ble_eq_true rfl) (g_fni ?_)
              refine g_nmi C (fun v5 ev5 => ?_)
              refine g_nms C (fun σ6 eσ6 => ?_)
              refine g_istore_n C (i := 1) (lv' := [(1, .int v5), (5, .int v3), (0, .ref (ad 10)), (3, .int (nI j2))]) dX0_parse_113 rfl (by decide) rfl ?_
              refine g_iconst C (v := 0) dX0_parse_114 (by decide) ?_
              refine g_istore_n C (i := 2) (lv' := [(2, .int 0), (1, .int v5), (5, .int v3), (0, .ref (ad 10)), (3, .int (nI j2))]) dX0_parse_115 rfl (by decide) rfl ?_
              refine g_iinc C (i := 3) (v := nI (j2 + 1)) (lv' := [(3, .int (nI (j2 + 1))), (2, .int 0), (1, .int v5), (5, .int v3), (0, .ref (ad 10))]) dX0_parse_116 4 rfl (nI_1 _) (by decide) rfl ?_
              refine g_goto C (tgt := 11) dX0_parse_119 (by decide) ?_
              refine g_loc C [4, 2, 1, 0] rfl ?_
              refine kk (v5, 0, σ6) ?_
              subst eσ6
              subst ev5
              subst ev3
              exact ((b_X0_parse_11_eq _ _).trans ((if_pos h2).trans ((if_neg h4).trans (if_pos h5))))
            · refine g_iload_n C (i := 3) dX0_parse_104 rfl 3 rfl ?_
              have e0 : f_X0_parse σ = (nI j2, s2.2.2) := by
                subst ev3
                subst eσ1
                have eF := hF2.trans (loopE_inl n2 ((b_X0_parse_11_eq _ _).trans ((if_pos h2).trans ((if_neg h4).trans (if_neg h5)))))
                exact ((f_X0_parse_eq _).trans (sumE_inl eF))
              exact hi _ _ _ _ _ _ rfl dX0_parse_105 rfl ⟨(congrArg (fun z => some (Value.int z.1)) e0).symm, (congrArg (fun z => z.2) e0).symm, rfl⟩
        refine g_if_eq C (tgt := 87) dX0_parse_70 (by decide) (fun h3 => ?_) (fun h3 => ?_)
        · refine g_iconst C (v := (-1)) dX0_parse_87 (by decide) ?_
          refine g_loc C [1, 2, 4] rfl ?_
          exact J4 _ ((if_pos h3))
        · refine g_aload_n C (i := 0) dX0_parse_73 rfl 1 rfl ?_
          refine gg_10_0 C fl_X0_11 dX0_parse_74 ?_
          refine g_iload_n C (i := 3) dX0_parse_77 rfl 4 rfl ?_
          refine ld_11 C (vp_in_nI (Nat.lt_of_lt_of_le hj2 (cl_60 hu)) (by decide)) dX0_parse_78 ?_
          refine g_callS C (st := []) (c_X0_digitOf l D ad dA z0 tt (s2.2.2) φ ((s2.2.2) 11 (nI j2).toNatClampNeg)) rfl ml_X0_30 sm_X0_digitOf in_X0 co_X0_digitOf dyS_X0_digitOf rfl rfl ⟨(Nat.le_of_ble_eq_true rfl), (Nat.le_of_ble_eq_true rfl)⟩ dX0_parse_79 rfl (Nat.le_of_ble_eq_true rfl) (g_fni ?_)
          refine g_iconst C (v := 1) dX0_parse_82 (by decide) ?_
          refine g_isub C dX0_parse_83 ?_
          refine g_goto C (tgt := 88) dX0_parse_84 (by decide) ?_
          refine g_loc C [1, 2, 4] rfl ?_
          exact J4 _ ((if_neg h3))
      · refine g_iload_n C (i := 1) dX0_parse_35 rfl 2 rfl ?_
        refine g_bipush C (v := 10) dX0_parse_36 (by decide) ?_
        refine g_icmp_lt C (tgt := 43) dX0_parse_38 (by decide) (fun h6 => ?_) (fun h6 => ?_)
        · refine g_aload_n C (i := 0) dX0_parse_43 rfl 1 rfl ?_
          refine gg_10_2 C fl_X0_15 dX0_parse_44 ?_
          refine g_iload_n C (i := 1) dX0_parse_47 rfl 2 rfl ?_
          refine g_iload C (i := 4) dX0_parse_48 0 rfl ?_
          refine sd_12 C (in10 hI2.2.1 h6) dX0_parse_50 ?_
          refine g_nms C (fun σ7 eσ7 => ?_)
          refine g_iinc C (i := 1) (v := (s2.1) + 1) (lv' := [(1, .int ((s2.1) + 1)), (4, .int (f_X0_barOf ((s2.2.2) 11 (nI j2).toNatClampNeg))), (0, .ref (ad 10)), (2, .int (s2.2.1)), (3, .int (nI j2))]) dX0_parse_51 2 rfl rfl (by decide) rfl ?_
          refine g_aload_n C (i := 0) dX0_parse_54 rfl 2 rfl ?_
          refine g_dup C dX0_parse_55 rfl ?_
          refine gg_10_3 C fl_X0_23 dX0_parse_56 ?_
          refine g_iconst C (v := 1) dX0_parse_59 (by decide) ?_
          refine g_iadd C dX0_parse_60 ?_
          refine gp_10_3 C fl_X0_23 dX0_parse_61 ?_
          refine g_nms C (fun σ8 eσ8 => ?_)
          refine g_iconst C (v := 1) dX0_parse_64 (by decide) ?_
          refine g_istore_n C (i := 2) (lv' := [(2, .int 1), (1, .int ((s2.1) + 1)), (4, .int (f_X0_barOf ((s2.2.2) 11 (nI j2).toNatClampNeg))), (0, .ref (ad 10)), (3, .int (nI j2))]) dX0_parse_65 rfl (by decide) rfl ?_
          refine g_goto C (tgt := 116) dX0_parse_66 (by decide) ?_
          refine g_iinc C (i := 3) (v := nI (j2 + 1)) (lv' := [(3, .int (nI (j2 + 1))), (2, .int 1), (1, .int ((s2.1) + 1)), (4, .int (f_X0_barOf ((s2.2.2) 11 (nI j2).toNatClampNeg))), (0, .ref (ad 10))]) dX0_parse_116 4 rfl (nI_1 _) (by decide) rfl ?_
          refine g_goto C (tgt := 11) dX0_parse_119 (by decide) ?_
          refine g_loc C [4, 2, 1, 0] rfl ?_
          refine kk ((s2.1) + 1, 1, σ8) ?_
          subst eσ8
          subst eσ7
          exact ((b_X0_parse_11_eq _ _).trans ((if_neg h2).trans (if_pos h6)))
        · refine g_iload_n C (i := 3) dX0_parse_41 rfl 4 rfl ?_
          have e0 : f_X0_parse σ = (nI j2, s2.2.2) := by
            subst eσ1
            have eF := hF2.trans (loopE_inl n2 ((b_X0_parse_11_eq _ _).trans ((if_neg h2).trans (if_neg h6))))
            exact ((f_X0_parse_eq _).trans (sumE_inl eF))
          exact hi _ _ _ _ _ _ rfl dX0_parse_42 rfl ⟨(congrArg (fun z => some (Value.int z.1)) e0).symm, (congrArg (fun z => z.2) e0).symm, rfl⟩
  · intro t2 hF2 hI2
    change K (t2.2.2) φ 11 [(0, .ref (ad 10)), (1, .int (t2.1)), (2, .int (t2.2.1)), (3, .int (nI ((σ 10 1).toNatClampNeg)))] []
    refine g_iload_n C (i := 3) dX0_parse_11 rfl 3 rfl ?_
    refine g_aload_n C (i := 0) dX0_parse_12 rfl 0 rfl ?_
    refine gg_10_1 C fl_X0_19 dX0_parse_13 ?_
    refine g_icmp_ge C (tgt := 122) dX0_parse_16 (by decide) (fun h7 => ?_) (fun h7 => ?_)
    · refine g_iload_n C (i := 1) dX0_parse_122 rfl 1 rfl ?_
      refine g_bipush C (v := 10) dX0_parse_123 (by decide) ?_
      refine g_icmp_ge C (tgt := 135) dX0_parse_125 (by decide) (fun h8 => ?_) (fun h8 => ?_)
      · refine g_iconst C (v := (-1)) dX0_parse_135 (by decide) ?_
        have e0 : f_X0_parse σ = ((-1), t2.2.2) := by
          subst eσ1
          exact ((f_X0_parse_eq _).trans ((sumE_inr hF2).trans (if_pos h8)))
        exact hi _ _ _ _ _ _ rfl dX0_parse_136 rfl ⟨(congrArg (fun z => some (Value.int z.1)) e0).symm, (congrArg (fun z => z.2) e0).symm, rfl⟩
      · refine g_aload_n C (i := 0) dX0_parse_128 rfl 0 rfl ?_
        refine gg_10_1 C fl_X0_19 dX0_parse_129 ?_
        refine g_goto C (tgt := 136) dX0_parse_132 (by decide) ?_
        have e0 : f_X0_parse σ = ((t2.2.2) 10 1, t2.2.2) := by
          subst eσ1
          exact ((f_X0_parse_eq _).trans ((sumE_inr hF2).trans (if_neg h8)))
        exact hi _ _ _ _ _ _ rfl dX0_parse_136 rfl ⟨(congrArg (fun z => some (Value.int z.1)) e0).symm, (congrArg (fun z => z.2) e0).symm, rfl⟩
    · refine absurd ?_ h7; rw [hI2.1]; exact cl_ge _
theorem ps_N (σ : Sg) : (sw σ 10 3 0) 10 1 = σ 10 1 := sw_place (show ¬ (1 : Nat) = 3 by decide) _
theorem ps_inl {j : Nat} {s : Int32 × Int32 × Sg} {r : Int32 × Sg} (e : b_X0_parse_11 j s = .inl r) : r.1 = nI j := by
  rw [b_X0_parse_11_eq] at e
  dsimp only at e
  by_cases c1 : f_X0_barOf (s.2.2 11 (nI j).toNatClampNeg) < 0
  · rw [if_pos c1] at e
    generalize (if s.2.1 = 0 then (-1) else ((f_X0_digitOf (s.2.2 11 (nI j).toNatClampNeg)) - 1)) = v at e
    by_cases c2 : v < 0
    · rw [if_pos c2] at e; rw [← Sum.inl.inj e]
    · rw [if_neg c2] at e
      by_cases c3 : s.1 + v ≤ 10
      · rw [if_pos c3] at e; exact absurd e (by simp)
      · rw [if_neg c3] at e; rw [← Sum.inl.inj e]
  · rw [if_neg c1] at e
    by_cases c2 : s.1 < 10
    · rw [if_pos c2] at e; exact absurd e (by simp)
    · rw [if_neg c2] at e; rw [← Sum.inl.inj e]
theorem ps_bars {σ : Sg} {r : Int32} {σ' : Sg} (e1 : (f_X0_parse σ).1 = r) (e2 : (f_X0_parse σ).2 = σ') (h : r = -1) (hu : vp_in (σ 10 1) 61) : ∀ k, k < 10 → vp_in (σ' 12 k) 8 := by
  subst e2
  rw [h] at e1
  rcases loopE_cases (B := b_X0_parse_11) (N := (σ 10 1).toNatClampNeg) (I := (0, 0, sw σ 10 3 0)) (fun j s => s.2.2 10 1 = σ 10 1 ∧ vp_in s.1 11 ∧ (¬ s.2.1 = 0 → ¬ s.1 = 0) ∧ ∀ k, k < s.1.toNatClampNeg → vp_in (s.2.2 12 k) 8) ⟨ps_N σ, (show vp_in 0 11 from vp_lit (by decide)), fun q => absurd rfl q, fun k q => absurd q (Nat.not_lt_zero k)⟩ (ps_inv σ) with ⟨j, s, r, hj, hI, hb, hl⟩ | ⟨s, hI, hl⟩
  · have e := (f_X0_parse_eq σ).trans (sumE_inl hl)
    rw [e, ps_inl hb] at e1
    exact absurd e1 (nI_nm1 (Nat.lt_trans hj (cl_b _)))
  · have e := (f_X0_parse_eq σ).trans (sumE_inr hl)
    obtain ⟨h1, h2, h3, h4⟩ := hI
    by_cases c : 10 ≤ s.1
    · rw [if_pos c] at e
      rw [e]
      intro k hk
      refine h4 k ?_
      obtain ⟨t, ht, et⟩ := vp_in_of h2 (by decide)
      rw [et] at c ⊢
      have := (nI_leI (a := 10) (by decide) (by omega)).mp c
      rw [nI_clamp (by omega)]
      omega
    · rw [if_neg c] at e
      rw [e] at e1
      dsimp only at e1
      rw [h1] at e1
      exact absurd e1 (vp_nm1 hu)
theorem pb_12 (s : Sg) (x y : Int32) : f_X0_paintBar s x y 12 = s 12 := rfl
theorem ps_bar2 {σ : Sg} {r : Int32} {σ' s : Sg} {j : Nat} (e1 : (f_X0_parse σ).1 = r) (e2 : (f_X0_parse σ).2 = σ') (h : r = -1) (hu : vp_in (σ 10 1) 61) (hI : s 12 = σ' 12) (hj : j < 10) : vp_in (s 12 (nI j).toNatClampNeg) 8 := by
  rw [hI, nI_clamp (by omega)]
  exact ps_bars e1 e2 h hu j hj
def b_X10_readBars_30 (x : Int32) (j3 : Nat) (s3 : Sg) : Sg := let σ4 : Sg := f_X0_paintBar s3 (f_X10_placeOf x (nI j3)) (nI j3); σ4
theorem b_X10_readBars_30_eq (x : Int32) (j3 : Nat) (s3 : Sg) : b_X10_readBars_30 x j3 s3 = (let σ4 : Sg := f_X0_paintBar s3 (f_X10_placeOf x (nI j3)) (nI j3); σ4) := rfl
def f_X10_readBars (σ : Sg) (x : Int32) : Int32 × Sg := if (f_X10_isLine x) = 0 then ((-100001), σ) else (let v1 : Int32 := (f_X0_parse σ).1; let σ2 : Sg := (f_X0_parse σ).2; if v1 = (-1) then (let t3 : Sg := loopF (b_X10_readBars_30 x) 10 σ2; (t3 10 3, t3)) else ((-100) - v1, σ2))
theorem f_X10_readBars_eq (σ : Sg) (x : Int32) : f_X10_readBars σ x = (if (f_X10_isLine x) = 0 then ((-100001), σ) else (let v1 : Int32 := (f_X0_parse σ).1; let σ2 : Sg := (f_X0_parse σ).2; if v1 = (-1) then (let t3 : Sg := loopF (b_X10_readBars_30 x) 10 σ2; (t3 10 3, t3)) else ((-100) - v1, σ2))) := rfl
set_option maxRecDepth 100000 in
set_option maxHeartbeats 4000000 in
theorem c_X10_readBars (l : Launch) (D : va_G) (ad : Nat → Nat) (dA : Nat → ClassId) (z0 : Nat) (tt : Nat → Nat) (σ : Sg) (φ : Fl) (x : Int32) (hu : vp_in (σ 10 1) 61) : MC l D ad dA z0 tt yX10_readBars (Cond.code yX10_readBars cX10_readBars 4 (some .int) :: lw_all) { frames := 2, cells := 0, slots := 0, locals := 49 } [.ref (ad 0), .int x] σ φ (Fn (some (.int (f_X10_readBars σ x).1)) (f_X10_readBars σ x).2 φ) := by
  refine mk_MC (by decide) (Nat.le_of_ble_eq_true rfl) ?_
  intro K C hi hf hv
  change K σ φ 0 [(0, .ref (ad 0)), (1, .int x)] []
  refine g_iload_n C (i := 1) dX10_readBars_0 rfl 1 rfl ?_
  refine g_callS C (st := []) (c_X10_isLine l D ad dA z0 tt σ φ x) rfl ml_X10_101 sm_X10_isLine in_X10 co_X10_isLine dyS_X10_isLine rfl rfl ⟨(Nat.le_of_ble_eq_true rfl), (Nat.le_of_ble_eq_true rfl)⟩ dX10_readBars_1 rfl (Nat.le_of_ble_eq_true rfl) (g_fni ?_)
  refine g_if_ne C (tgt := 10) dX10_readBars_4 (by decide) (fun h1 => ?_) (fun h1 => ?_)
  · refine g_aload_n C (i := 0) dX10_readBars_10 rfl 0 rfl ?_
    refine gg_0_1 C fl_X10_19 dX10_readBars_11 ?_
    refine g_callV C (st := []) (c_X0_parse l D ad dA z0 tt σ φ hu) rfl ml_X10_139 im_X0_parse se_X0_parse in_X0 co_X0_parse dyV_X0_parse rfl rfl ⟨(Nat.le_of_ble_eq_true rfl), (Nat.le_of_ble_eq_true rfl)⟩ 10 0 (fun f => at_10 ad dA σ f) rfl dX10_readBars_14 rfl (Nat.le_of_ble_eq_true rfl) (g_fni ?_)
    refine g_nmi C (fun v1 ev1 => ?_)
    refine g_nms C (fun σ2 eσ2 => ?_)
    refine g_istore_n C (i := 2) (lv' := [(2, .int v1), (0, .ref (ad 0)), (1, .int x)]) dX10_readBars_17 rfl (by decide) rfl ?_
    refine g_iload_n C (i := 2) dX10_readBars_18 rfl 0 rfl ?_
    refine g_iconst C (v := (-1)) dX10_readBars_19 (by decide) ?_
    refine g_icmp_eq C (tgt := 28) dX10_readBars_20 (by decide) (fun h2 => ?_) (fun h2 => ?_)
    · refine g_iconst C (v := 0) dX10_readBars_28 (by decide) ?_
      refine g_istore_n C (i := 3) (lv' := [(3, .int 0), (2, .int v1), (0, .ref (ad 0)), (1, .int x)]) dX10_readBars_29 rfl (by decide) rfl ?_
      refine g_loc C (lv' := [(0, .ref (ad 0)), (1, .int x), (3, .int 0)]) [2, 3, 0] rfl ?_
      refine loopF_indI (b_X10_readBars_30 x) 10 (fun (j3 : Nat) (s3 : Sg) => K s3 φ 30 [(0, .ref (ad 0)), (1, .int x), (3, .int (nI j3))] []) σ2 (fun (j3 : Nat) (s3 : Sg) => s3 12 = σ2 12) rfl (fun _ s _ h => (pb_12 s _ _).trans h) ?_ ?_
      · intro j3 s3 hj3 hI3 kk
        change K s3 φ 30 [(0, .ref (ad 0)), (1, .int x), (3, .int (nI j3))] []
        refine g_iload_n C (i := 3) dX10_readBars_30 rfl 2 rfl ?_
        refine g_bipush C (v := 10) dX10_readBars_31 (by decide) ?_
        refine g_icmp_ge C (tgt := 59) dX10_readBars_33 (by decide) (fun h3 => ?_) (fun h3 => ?_)
        · exact absurd h3 (nI_ge hj3 (by decide))
        · refine g_aload_n C (i := 0) dX10_readBars_36 rfl 0 rfl ?_
          refine gg_0_1 C fl_X10_19 dX10_readBars_37 ?_
          refine g_aload_n C (i := 0) dX10_readBars_40 rfl 0 rfl ?_
          refine gg_0_0 C fl_X10_10 dX10_readBars_41 ?_
          refine g_iload_n C (i := 1) dX10_readBars_44 rfl 1 rfl ?_
          refine g_iload_n C (i := 3) dX10_readBars_45 rfl 2 rfl ?_
          refine g_callS C (st := [.ref (ad 1), .ref (ad 10)]) (c_X10_placeOf l D ad dA z0 tt s3 φ x (nI j3)) rfl ml_X10_89 sm_X10_placeOf in_X10 co_X10_placeOf dyS_X10_placeOf rfl rfl ⟨(Nat.le_of_ble_eq_true rfl), (Nat.le_of_ble_eq_true rfl)⟩ dX10_readBars_46 rfl (Nat.le_of_ble_eq_true rfl) (g_fni ?_)
          refine g_iload_n C (i := 3) dX10_readBars_49 rfl 2 rfl ?_
          refine g_callV C (st := []) (c_X0_paintBar l D ad dA z0 tt s3 φ (f_X10_placeOf x (nI j3)) (nI j3) (pl_in (il_in h1) (vp_in_nI hj3 (by decide))) (vp_in_nI hj3 (by decide)) (ps_bar2 ev1 eσ2 h2 hu hI3 hj3)) rfl ml_X10_143 im_X0_paintBar se_X0_paintBar in_X0 co_X0_paintBar dyV_X0_paintBar rfl rfl ⟨(Nat.le_of_ble_eq_true rfl), (Nat.le_of_ble_eq_true rfl)⟩ 10 0 (fun f => at_10 ad dA s3 f) rfl dX10_readBars_50 rfl (Nat.le_of_ble_eq_true rfl) (g_fnv ?_)
          refine g_nms C (fun σ4 eσ4 => ?_)
          refine g_iinc C (i := 3) (v := nI (j3 + 1)) (lv' := [(3, .int (nI (j3 + 1))), (0, .ref (ad 0)), (1, .int x)]) dX10_readBars_53 2 rfl (nI_1 _) (by decide) rfl ?_
          refine g_goto C (tgt := 30) dX10_readBars_56 (by decide) ?_
          refine g_loc C [1, 2, 0] rfl ?_
          refine kk σ4 ?_
          subst eσ4
          exact b_X10_readBars_30_eq _ _ _
      · intro hI3
        generalize et3 : loopF (b_X10_readBars_30 x) 10 σ2 = t3 at hI3 ⊢
        change K t3 φ 30 [(0, .ref (ad 0)), (1, .int x), (3, .int (nI 10))] []
        refine g_iload_n C (i := 3) dX10_readBars_30 rfl 2 rfl ?_
        refine g_bipush C (v := 10) dX10_readBars_31 (by decide) ?_
        refine g_icmp_ge C (tgt := 59) dX10_readBars_33 (by decide) (fun h4 => ?_) (fun h4 => ?_)
        · refine g_aload_n C (i := 0) dX10_readBars_59 rfl 0 rfl ?_
          refine gg_0_1 C fl_X10_19 dX10_readBars_60 ?_
          refine ggN_10_3 C fl_X10_147 dX10_readBars_63 ?_
          have e0 : f_X10_readBars σ x = (t3 10 3, t3) := by
            subst et3
            subst eσ2
            subst ev1
            exact ((f_X10_readBars_eq _ _).trans ((if_neg h1).trans (if_pos h2)))
          exact hi _ _ _ _ _ _ rfl dX10_readBars_66 rfl ⟨(congrArg (fun z => some (Value.int z.1)) e0).symm, (congrArg (fun z => z.2) e0).symm, rfl⟩
        · exact absurd (nI_le (Nat.le_refl _) (by decide)) h4
    · refine g_bipush C (v := (-100)) dX10_readBars_23 (by decide) ?_
      refine g_iload_n C (i := 2) dX10_readBars_25 rfl 0 rfl ?_
      refine g_isub C dX10_readBars_26 ?_
      have e0 : f_X10_readBars σ x = ((-100) - v1, σ2) := by
        subst eσ2
        subst ev1
        exact ((f_X10_readBars_eq _ _).trans ((if_neg h1).trans (if_neg h2)))
      exact hi _ _ _ _ _ _ rfl dX10_readBars_27 rfl ⟨(congrArg (fun z => some (Value.int z.1)) e0).symm, (congrArg (fun z => z.2) e0).symm, rfl⟩
  · refine g_ldc C kc_X10_83 dX10_readBars_7 ?_
    have e0 : f_X10_readBars σ x = ((-100001), σ) := by
      exact ((f_X10_readBars_eq _ _).trans (if_pos h1))
    exact hi _ _ _ _ _ _ rfl dX10_readBars_9 rfl ⟨(congrArg (fun z => some (Value.int z.1)) e0).symm, (congrArg (fun z => z.2) e0).symm, rfl⟩
