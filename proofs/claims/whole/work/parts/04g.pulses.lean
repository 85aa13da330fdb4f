section
/-! decode: the signal, the pulses -/
theorem i32_nle {a b : Int32} : ¬ b ≤ a ↔ a < b := by rw [i32_le, i32_lt]; omega
def bd (a : Int32) (A : Nat) : Prop := a.toInt.natAbs ≤ A
theorem bd_lit {a : Int32} {A : Nat} (h : a.toInt.natAbs ≤ A) : bd a A := h
theorem bd_le {a : Int32} {A B : Nat} (h : bd a A) (q : A ≤ B) : bd a B := Nat.le_trans h q
theorem bd_ite {c : Prop} [Decidable c] {a b : Int32} {A : Nat} (ha : bd a A) (hb : bd b A) : bd (if c then a else b) A := by
  by_cases h : c
  · rw [if_pos h]; exact ha
  · rw [if_neg h]; exact hb
theorem bd_add {a b : Int32} {A B : Nat} (ha : bd a A) (hb : bd b B) (h : A + B < 2147483648) : bd (a + b) (A + B) := by
  unfold bd at *
  rw [Int32.toInt_add, tq_bm (by omega) (by omega)]
  omega
theorem bd_sub {a b : Int32} {A B : Nat} (ha : bd a A) (hb : bd b B) (h : A + B < 2147483648) : bd (a - b) (A + B) := by
  unfold bd at *
  rw [Int32.toInt_sub, tq_bm (by omega) (by omega)]
  omega
theorem bd_neg {a : Int32} {A : Nat} (ha : bd a A) (h : A < 2147483648) : bd (-a) A := by
  unfold bd at *
  rw [Int32.toInt_neg, tq_bm (by omega) (by omega)]
  omega
theorem mul_toInt {a b : Int32} {A B : Nat} (ha : bd a A) (hb : bd b B) (h : A * B < 2147483648) : (a * b).toInt = a.toInt * b.toInt ∧ (a.toInt * b.toInt).natAbs ≤ A * B := by
  unfold bd at *
  have e : (a.toInt * b.toInt).natAbs ≤ A * B := by rw [Int.natAbs_mul]; exact Nat.mul_le_mul ha hb
  refine ⟨?_, e⟩
  rw [Int32.toInt_mul, tq_bm (by omega) (by omega)]
theorem bd_mul {a b : Int32} {A B : Nat} (ha : bd a A) (hb : bd b B) (h : A * B < 2147483648) : bd (a * b) (A * B) := by
  obtain ⟨e, e2⟩ := mul_toInt ha hb h
  unfold bd
  rw [e]
  exact e2
theorem bd_a (w : Int32) : bd (f_X11_a w) 1 := by
  rw [f_X11_a_eq]
  exact bd_ite (bd_lit (by decide)) (bd_ite (bd_lit (by decide)) (bd_lit (by decide)))
theorem bd_b (w : Int32) : bd (f_X11_b w) 1 := by
  rw [f_X11_b_eq]
  exact bd_ite (bd_lit (by decide)) (bd_ite (bd_lit (by decide)) (bd_lit (by decide)))
theorem bd_rem (z : Int32) : bd (z - z / 5 * 5 - 2) 6 := by
  have e : bd (z - z / 5 * 5) 4 := by
    unfold bd
    rw [tq_rem (d := 5) (n := 5) rfl (by decide), Int.natAbs_tmod]
    have : z.toInt.natAbs % 5 < 5 := Nat.mod_lt _ (by decide)
    exact Nat.le_of_lt_succ this
  exact bd_sub (A := 4) (B := 2) e (bd_lit (by decide)) (by decide)
theorem bd_of {a : Int32} {l h : Int} {A : Nat} (q : l ≤ a.toInt ∧ a.toInt ≤ h) (h1 : -(A : Int) ≤ l) (h2 : h ≤ A) : bd a A := by
  unfold bd
  omega
theorem sig_bd {t : Sg} (hb : bndP t) (x y : Int32) : bd (f_X11_signal t x y) 400 := by
  obtain ⟨b1, b2, b3, b4, b5⟩ := hb
  rw [f_X11_signal_eq]
  dsimp only
  refine bd_ite (bd_lit (by decide)) ?_
  have hz : bd (t 60 x.toNatClampNeg * (7 * y + 13 * x - (7 * y + 13 * x) / 5 * 5 - 2)) 54 := bd_mul (A := 9) (B := 6) (bd_of (b5 _) (by decide) (by decide)) (bd_rem _) (by decide)
  have hv : bd (if t 53 8 = 1 then (if x - x / 2 * 2 = 1 then (-1) else 1) else 1) 1 := bd_ite (bd_ite (bd_lit (by decide)) (bd_lit (by decide))) (bd_lit (by decide))
  refine bd_ite (bd_ite (bd_ite (bd_le hz (by decide)) ?_) ?_) ?_
  · have h1 := fun k => bd_of (A := 200) (b1 k) (by decide) (by decide)
    have h2 := fun k => bd_of (A := 60) (b2 k) (by decide) (by decide)
    have h3 := fun k => bd_of (A := 60) (b3 k) (by decide) (by decide)
    exact bd_le (bd_add hz (bd_add (A := 260) (B := 60) (bd_add (A := 200) (B := 60) (h1 _) (bd_mul (A := 60) (B := 1) (h2 _) (bd_a _) (by decide)) (by decide)) (bd_mul (A := 60) (B := 1) (bd_mul (A := 1) (B := 60) hv (h3 _) (by decide)) (bd_b _) (by decide)) (by decide)) (by decide)) (by decide)
  · have h4 := fun k => bd_of (A := 40) (b4 k) (by decide) (by decide)
    exact bd_le (bd_add hz (bd_add (A := 40) (B := 40) (bd_mul (A := 40) (B := 1) (bd_neg (h4 _) (by decide)) (bd_a _) (by decide)) (bd_ite (bd_mul (A := 40) (B := 1) (bd_mul (A := 1) (B := 40) hv (h4 _) (by decide)) (bd_b _) (by decide)) (bd_lit (by decide))) (by decide)) (by decide)) (by decide)
  · exact bd_le (bd_sub (B := 40) hz (bd_ite (bd_lit (by decide)) (bd_lit (by decide))) (by decide)) (by decide)
/-- picture and settings of the reference as they were -/
def SK (t u : Sg) : Prop := u 53 8 = t 53 8 ∧ ∀ k, 54 ≤ k → k ≤ 62 → u k = t k
theorem SK.rf (t : Sg) : SK t t := ⟨rfl, fun _ _ _ => rfl⟩
theorem SK.tr {t u v : Sg} (h : SK t u) (h2 : SK u v) : SK t v := ⟨h2.1.trans h.1, fun k a b => (h2.2 k a b).trans (h.2 k a b)⟩
theorem SK.k {t u v : Sg} {L : List Nat} (h : SK t u) (h2 : Kp L u v) (hl : ∀ k, k ∈ L → 62 < k) : SK t v := ⟨(congrFun (h2 53 (fun q => absurd (hl 53 q) (by decide))) 8).trans h.1, fun k a b => (h2 k (fun q => absurd (hl k q) (by omega))).trans (h.2 k a b)⟩
theorem SK.sig {t u : Sg} (h : SK t u) (x y : Int32) : f_X11_signal u x y = f_X11_signal t x y := by
  rw [f_X11_signal_eq, f_X11_signal_eq, h.1, h.2 54 (by decide) (by decide), h.2 55 (by decide) (by decide), h.2 56 (by decide) (by decide), h.2 57 (by decide) (by decide), h.2 58 (by decide) (by decide), h.2 59 (by decide) (by decide), h.2 60 (by decide) (by decide), h.2 61 (by decide) (by decide)]
theorem RP_of {σ u t : Sg} (h : RP σ t) (e : ∀ k, 1 ≤ k → k ≤ 9 → u k = σ k) : RP u t := by
  unfold RP at *
  rw [e 1 (by decide) (by decide), e 2 (by decide) (by decide), e 3 (by decide) (by decide), e 4 (by decide) (by decide), e 5 (by decide) (by decide), e 6 (by decide) (by decide), e 7 (by decide) (by decide), e 8 (by decide) (by decide), e 9 (by decide) (by decide)]
  exact h
def SL : List Nat := [17, 18, 19, 20, 21, 22, 23, 24]
theorem SL_in {j : Nat} (h : j < 8) : 17 + j ∈ SL := by
  rcases lt8 h with rfl | rfl | rfl | rfl | rfl | rfl | rfl | rfl <;> decide
theorem SL_le {k : Nat} (h : k ∈ SL) : 17 ≤ k ∧ k ≤ 24 := by
  unfold SL at h
  simp only [List.mem_cons, List.mem_nil_iff, or_false] at h
  omega
theorem send_at {σ t : Sg} (h : RP σ t) : (∀ n k, n < 8 → k < 112 → (f_X9_sendFrom σ) (17 + n) k = f_X11_signal t (nI n) (nI k)) ∧ Kp SL σ (f_X9_sendFrom σ) := by
  rw [f_X9_sendFrom_eq]
  refine loopF_inv (B := b_X9_sendFrom_2) (N := 8) (I := σ) (fun j s => (∀ n k, n < j → k < 112 → s (17 + n) k = f_X11_signal t (nI n) (nI k)) ∧ Kp SL σ s) ⟨fun n k hn => absurd hn (by omega), Kp.rf _⟩ (fun j s hj hI => ?_)
  obtain ⟨i1, i2⟩ := hI
  rw [b_X9_sendFrom_2_eq]
  have key := loopF_inv (B := b_X9_sendFrom_18 j) (N := 112) (I := s) (fun i u => (∀ n k, n < j → k < 112 → u (17 + n) k = f_X11_signal t (nI n) (nI k)) ∧ (∀ k, k < i → u (17 + j) k = f_X11_signal t (nI j) (nI k)) ∧ Kp SL σ u) ⟨i1, fun k hk => absurd hk (by omega), i2⟩ (fun i u hi hJ => by
    obtain ⟨j1, j2, j3⟩ := hJ
    rw [b_X9_sendFrom_18_eq]
    dsimp only
    rw [nI_clamp (by omega), nI_clamp (by omega), smp_eq (RP_of h (fun k a b => j3 k (fun q => by have := SL_le q; omega))) (vp_in_nI hj (by decide)) (iw_of (m := 111) (n := 112) rfl (vp_in_nI hi (by decide)))]
    refine ⟨fun n k hn hk => ?_, fun k hk => ?_, j3.tr (Kp.sw (SL_in hj) _ _ _)⟩
    · rw [sw_cell (by omega)]; exact j1 n k hn hk
    · by_cases q : k = i
      · rw [q, sw_same]
      · rw [sw_place q]; exact j2 k (by omega))
  refine ⟨fun n k hn hk => ?_, key.2.2⟩
  by_cases q : n = j
  · rw [q]; exact key.2.1 k hk
  · exact key.1 n k (by omega) hk
/-- the class's samples are these -/
def AT (S : Int32 → Int32 → Int32) (σ : Sg) : Prop := ∀ x y, vp_in x 8 → f_X9_at σ x y = S x y
theorem at_S {s t : Sg} (hs : ∀ n k, n < 8 → k < 112 → s (17 + n) k = f_X11_signal t (nI n) (nI k)) : AT (f_X11_signal t) s := by
  intro x y hx
  obtain ⟨n, hn, rfl⟩ := vp_in_of hx (by decide)
  rw [f_X9_at_eq]
  dsimp only
  rw [if_neg (nI_pos (by omega)), if_neg (show ¬ 8 ≤ nI n from nI_ge (a := n) (b := 8) hn (by decide)), nI_clamp (by omega)]
  by_cases c : f_X11_in y 0 111 = 0
  · rw [f_X11_signal_eq, if_pos c]
    rw [in0_iff, show (0 : Int32).toInt = 0 from rfl, show (111 : Int32).toInt = 111 from rfl] at c
    by_cases c2 : y < 0
    · rw [if_pos c2]
    · rw [if_neg c2, if_neg (fun q => by
        rw [i32_lt, show (112 : Int32).toInt = 112 from rfl] at q
        rw [i32_lt, show (0 : Int32).toInt = 0 from rfl] at c2
        omega)]
  · obtain ⟨k, hk, rfl⟩ := vp_in_of (ii_in (m := 111) (n := 112) rfl c) (by decide)
    rw [if_neg (nI_pos (by omega)), if_pos (show nI k < 112 from nI_lt (b := 112) hk (by decide)), nI_clamp (by omega)]
    exact hs n k hn hk
theorem AT.k {S : Int32 → Int32 → Int32} {s s' : Sg} (h : AT S s) (e : ∀ k, 17 ≤ k → k ≤ 24 → s' k = s k) : AT S s' := by
  intro x y hx
  rw [← h x y hx, f_X9_at_eq, f_X9_at_eq]
  obtain ⟨n, hn, rfl⟩ := vp_in_of hx (by decide)
  rw [nI_clamp (by omega), e (17 + n) (by omega) (by omega)]
/-- the first place where four are low -/
def FPl (P : Nat → Prop) (v d : Int32) : Prop := (∃ k, k ≤ 20 ∧ (∀ i, i < 4 → P (k + i)) ∧ (∀ k', k' < k → ∃ i, i < 4 ∧ ¬ P (k' + i)) ∧ v = nI k) ∨ ((∀ k, k ≤ 20 → ∃ i, i < 4 ∧ ¬ P (k + i)) ∧ v = d)
theorem FPl_prel {P : Nat → Prop} {v w : Int32} (h : FPl P v (-1)) (h2 : FPl P w (-100004)) : prel v w := by
  rcases h with ⟨k, k1, k2, k3, rfl⟩ | ⟨k1, rfl⟩
  · rcases h2 with ⟨j, j1, j2, j3, rfl⟩ | ⟨j1, rfl⟩
    · have e : k = j := by
        rcases Nat.lt_trichotomy k j with q | q | q
        · obtain ⟨i, a, b⟩ := j3 k q; exact absurd (k2 i a) b
        · exact q
        · obtain ⟨i, a, b⟩ := k3 j q; exact absurd (j2 i a) b
      rw [e]
      exact .inr ⟨rfl, nI_pos' (by omega)⟩
    · obtain ⟨i, a, b⟩ := j1 k k1; exact absurd (k2 i a) b
  · rcases h2 with ⟨j, j1, j2, j3, rfl⟩ | ⟨j1, rfl⟩
    · obtain ⟨i, a, b⟩ := k1 j j1; exact absurd (j2 i a) b
    · exact .inl ⟨rfl, rfl⟩
theorem m3_eq {j : Nat} (h : 3 ≤ j) : nI j - 4 + 1 = nI (j - 3) := by
  have e : nI j = nI (j - 3) + nI 3 := by rw [nI_add, show j - 3 + 3 = j by omega]
  rw [e, Int32.sub_eq_add_neg, Int32.add_assoc, Int32.add_assoc, show (nI 3 + (-4 + 1) : Int32) = 0 from by decide, Int32.add_zero]
theorem pulse_cls {S : Int32 → Int32 → Int32} {s : Sg} (hA : AT S s) {x : Int32} (hx : vp_in x 8) : FPl (fun k => S x (nI k) ≤ -20) (f_X9_pulseOf s x) (-1) := by
  have key : ∀ n j r, j + n = 24 → r ≤ 3 → r ≤ j → (∀ i, i < r → S x (nI (j - 1 - i)) ≤ -20) → (r < j → ¬ S x (nI (j - 1 - r)) ≤ -20) → (∀ k, k + 4 ≤ j → ∃ i, i < 4 ∧ ¬ S x (nI (k + i)) ≤ -20) → FPl (fun k => S x (nI k) ≤ -20) (sumE (loopE (b_X9_pulseOf_4 s x) n j (nI r)) (fun _ => (-1))) (-1) := by
    intro n
    induction n with
    | zero => intro j r h1 h2 h3 h4 h5 h6; exact .inr ⟨fun k hk => h6 k (by omega), rfl⟩
    | succ n ih =>
      intro j r h1 h2 h3 h4 h5 h6
      have eb : b_X9_pulseOf_4 s x j (nI r) = (if (if S x (nI j) ≤ -20 then nI (r + 1) else 0) = 4 then (.inl (nI j - 4 + 1)) else (.inr (if S x (nI j) ≤ -20 then nI (r + 1) else 0))) := by
        rw [b_X9_pulseOf_4_eq, hA x _ hx]
        dsimp only
        by_cases c : S x (nI j) ≤ -20
        · rw [if_pos c, if_neg (fun q => i32_nle.mpr q c), nI_1]
        · rw [if_neg c, if_pos (i32_nle.mp c)]
      by_cases c : S x (nI j) ≤ -20
      · rw [if_pos c] at eb
        by_cases c3 : r = 3
        · subst c3
          rw [if_pos (show nI (3 + 1) = 4 from rfl), m3_eq (by omega)] at eb
          rw [loopE_inl n eb]
          refine .inl ⟨j - 3, by omega, fun i hi => ?_, fun k hk => h6 k (by omega), rfl⟩
          by_cases ci : i = 3
          · show S x (nI (j - 3 + i)) ≤ -20
            rw [ci, show j - 3 + 3 = j by omega]; exact c
          · show S x (nI (j - 3 + i)) ≤ -20
            have := h4 (2 - i) (by omega)
            rw [show j - 1 - (2 - i) = j - 3 + i by omega] at this
            exact this
        · rw [if_neg (show ¬ nI (r + 1) = 4 from fun q => c3 (by have := (nI_eq (a := r + 1) (b := 4) (by omega) (by decide)).mp q; omega))] at eb
          rw [loopE_inr n eb]
          refine ih (j + 1) (r + 1) (by omega) (by omega) (by omega) (fun i hi => ?_) (fun hr => ?_) (fun k hk => ?_)
          · by_cases ci : i = 0
            · rw [ci]; exact c
            · have := h4 (i - 1) (by omega)
              rw [show j - 1 - (i - 1) = j + 1 - 1 - i by omega] at this
              exact this
          · have := h5 (by omega)
            rw [show j - 1 - r = j + 1 - 1 - (r + 1) by omega] at this
            exact this
          · by_cases ck : k + 4 ≤ j
            · exact h6 k ck
            · by_cases cr : r < j
              · refine ⟨2 - r, by omega, ?_⟩
                have := h5 cr
                rw [show j - 1 - r = k + (2 - r) by omega] at this
                exact this
              · omega
      · rw [if_neg c, if_neg (show ¬ (0 : Int32) = 4 by decide)] at eb
        rw [loopE_inr n eb]
        refine ih (j + 1) 0 (by omega) (by omega) (by omega) (fun i hi => absurd hi (by omega)) (fun _ => c) (fun k hk => ?_)
        by_cases ck : k + 4 ≤ j
        · exact h6 k ck
        · refine ⟨3, by decide, ?_⟩
          rw [show k + 3 = j by omega]
          exact c
  rw [f_X9_pulseOf_eq]
  exact key 24 0 0 rfl (by decide) (by decide) (fun i hi => absurd hi (by omega)) (fun q => absurd q (by omega)) (fun k hk => absurd hk (by omega))
theorem pulse_ref (t : Sg) {x : Int32} : FPl (fun k => f_X11_signal t x (nI k) ≤ -20) (f_X11_findPulse t x) (-100004) := by
  have inn : ∀ j, (loopF (b_X11_findPulse_13 t x j) 4 1 = 1 ∧ ∀ i, i < 4 → f_X11_signal t x (nI (j + i)) ≤ -20) ∨ (loopF (b_X11_findPulse_13 t x j) 4 1 = 0 ∧ ∃ i, i < 4 ∧ ¬ f_X11_signal t x (nI (j + i)) ≤ -20) := by
    intro j
    refine loopF_inv (B := b_X11_findPulse_13 t x j) (N := 4) (I := 1) (fun n v => (v = 1 ∧ ∀ i, i < n → f_X11_signal t x (nI (j + i)) ≤ -20) ∨ (v = 0 ∧ ∃ i, i < n ∧ ¬ f_X11_signal t x (nI (j + i)) ≤ -20)) (.inl ⟨rfl, fun i hi => absurd hi (by omega)⟩) (fun n v hn hI => ?_)
    rw [b_X11_findPulse_13_eq]
    dsimp only
    rcases hI with ⟨rfl, h⟩ | ⟨rfl, i, hi, h⟩
    · rw [if_neg (show ¬ (1 : Int32) = 0 by decide)]
      by_cases c : f_X11_signal t x (nI (j + n)) ≤ -20
      · rw [if_neg (fun q => i32_nle.mpr q c)]
        refine .inl ⟨rfl, fun i hi => ?_⟩
        by_cases ci : i = n
        · rw [ci]; exact c
        · exact h i (by omega)
      · rw [if_pos (i32_nle.mp c)]
        exact .inr ⟨rfl, n, by omega, c⟩
    · rw [if_pos rfl]
      exact .inr ⟨rfl, i, by omega, h⟩
  have key : ∀ n j, j + n = 21 → (∀ k, k < j → ∃ i, i < 4 ∧ ¬ f_X11_signal t x (nI (k + i)) ≤ -20) → FPl (fun k => f_X11_signal t x (nI k) ≤ -20) (sumE (loopE (b_X11_findPulse_2 t x) n j ()) (fun _ => (-100004))) (-100004) := by
    intro n
    induction n with
    | zero => intro j h1 h2; exact .inr ⟨fun k hk => h2 k (by omega), rfl⟩
    | succ n ih =>
      intro j h1 h2
      rcases inn j with ⟨e, h⟩ | ⟨e, h⟩
      · have eb : b_X11_findPulse_2 t x j () = .inl (nI j) := by
          rw [b_X11_findPulse_2_eq, e]
          rfl
        rw [loopE_inl n eb]
        exact .inl ⟨j, by omega, h, h2, rfl⟩
      · have eb : b_X11_findPulse_2 t x j () = .inr () := by
          rw [b_X11_findPulse_2_eq, e]
          rfl
        rw [loopE_inr n eb]
        refine ih (j + 1) (by omega) (fun k hk => ?_)
        by_cases ck : k = j
        · rw [ck]; exact h
        · exact h2 k (by omega)
  rw [f_X11_findPulse_eq]
  exact key 21 0 rfl (fun k hk => absurd hk (by omega))
theorem pulse_rel {s t u : Sg} (hA : AT (f_X11_signal t) s) (hk : SK t u) {x : Int32} (hx : vp_in x 8) : prel (f_X9_pulseOf s x) (f_X11_findPulse u x) := by
  have h2 := pulse_ref u (x := x)
  have e : ∀ k, f_X11_signal u x (nI k) = f_X11_signal t x (nI k) := fun k => hk.sig _ _
  simp only [e] at h2
  exact FPl_prel (pulse_cls hA hx) h2
/-- the flywheel -/
theorem steer_at (s : Sg) (x : Int32) : Kp [25] s (f_X4_steer s x) ∧ (f_X4_steer s x) 25 4 = (if x = -1 then s 25 4 else if f_X10_isWithin (4 * x - s 25 4) (-12) 12 = 0 then (if s 25 7 = 0 then 4 * x else s 25 4) else s 25 4 + (4 * x - s 25 4) / 2) ∧ (f_X4_steer s x) 25 5 = (if x = -1 then 0 else if f_X10_isWithin (4 * x - s 25 4) (-12) 12 = 0 then 0 else s 25 5 + 1) ∧ (f_X4_steer s x) 25 6 = (if x = -1 then s 25 6 + 1 else if f_X10_isWithin (4 * x - s 25 4) (-12) 12 = 0 then s 25 6 + 1 else 0) ∧ (f_X4_steer s x) 25 7 = (if (if x = -1 then s 25 6 + 1 else if f_X10_isWithin (4 * x - s 25 4) (-12) 12 = 0 then s 25 6 + 1 else 0) < 4 then (if (if x = -1 then 0 else if f_X10_isWithin (4 * x - s 25 4) (-12) 12 = 0 then 0 else s 25 5 + 1) < 2 then s 25 7 else 1) else 0) := by
  have tail : ∀ (a : Sg) (W Hh M : Int32), Kp [25] s a → a 25 4 = W → a 25 5 = Hh → a 25 6 = M → a 25 7 = s 25 7 → Kp [25] s (if (if a 25 5 < 2 then a else sw a 25 7 1) 25 6 < 4 then (if a 25 5 < 2 then a else sw a 25 7 1) else sw (if a 25 5 < 2 then a else sw a 25 7 1) 25 7 0) ∧ (if (if a 25 5 < 2 then a else sw a 25 7 1) 25 6 < 4 then (if a 25 5 < 2 then a else sw a 25 7 1) else sw (if a 25 5 < 2 then a else sw a 25 7 1) 25 7 0) 25 4 = W ∧ (if (if a 25 5 < 2 then a else sw a 25 7 1) 25 6 < 4 then (if a 25 5 < 2 then a else sw a 25 7 1) else sw (if a 25 5 < 2 then a else sw a 25 7 1) 25 7 0) 25 5 = Hh ∧ (if (if a 25 5 < 2 then a else sw a 25 7 1) 25 6 < 4 then (if a 25 5 < 2 then a else sw a 25 7 1) else sw (if a 25 5 < 2 then a else sw a 25 7 1) 25 7 0) 25 6 = M ∧ (if (if a 25 5 < 2 then a else sw a 25 7 1) 25 6 < 4 then (if a 25 5 < 2 then a else sw a 25 7 1) else sw (if a 25 5 < 2 then a else sw a 25 7 1) 25 7 0) 25 7 = (if M < 4 then (if Hh < 2 then s 25 7 else 1) else 0) := by
    intro a W Hh M k0 k1 k2 k3 k4
    subst k1 k2 k3
    by_cases c1 : a 25 5 < 2
    · rw [if_pos c1, if_pos c1]
      by_cases c2 : a 25 6 < 4
      · rw [if_pos c2, if_pos c2]; exact ⟨k0, rfl, rfl, rfl, k4⟩
      · rw [if_neg c2, if_neg c2]
        exact ⟨k0.tr (Kp.sw (by decide) _ _ _), sw_place (by decide) _, sw_place (by decide) _, sw_place (by decide) _, sw_same _ _ _ _⟩
    · rw [if_neg c1, if_neg c1, sw_place (show ¬ (6 : Nat) = 7 by decide)]
      have k1 : Kp [25] s (sw a 25 7 1) := k0.tr (Kp.sw (by decide) _ _ _)
      by_cases c2 : a 25 6 < 4
      · rw [if_pos c2, if_pos c2]; exact ⟨k1, sw_place (by decide) _, sw_place (by decide) _, sw_place (by decide) _, sw_same _ _ _ _⟩
      · rw [if_neg c2, if_neg c2]
        refine ⟨k1.tr (Kp.sw (by decide) _ _ _), (sw_place (by decide) _).trans (sw_place (by decide) _), (sw_place (by decide) _).trans (sw_place (by decide) _), (sw_place (by decide) _).trans (sw_place (by decide) _), sw_same _ _ _ _⟩
  rw [f_X4_steer_eq]
  dsimp only
  refine tail _ _ _ _ ?_ ?_ ?_ ?_ ?_
  all_goals by_cases c1 : x = -1
  all_goals first
    | (simp only [if_pos c1]; first | exact (Kp.sw (by decide) _ _ _).tr (Kp.sw (by decide) _ _ _) | simp [sw_get])
    | (simp only [if_neg c1]
       by_cases c2 : f_X10_isWithin (4 * x - s 25 4) (-12) 12 = 0
       · simp only [if_pos c2, sw_place (show ¬ (7 : Nat) = 5 by decide), sw_place (show ¬ (7 : Nat) = 6 by decide)]
         by_cases c3 : s 25 7 = 0
         · simp only [if_pos c3]
           first | exact ((Kp.sw (by decide) _ _ _).tr (Kp.sw (by decide) _ _ _)).tr (Kp.sw (by decide) _ _ _) | simp [sw_get]
         · simp only [if_neg c3]
           first | exact (Kp.sw (by decide) _ _ _).tr (Kp.sw (by decide) _ _ _) | simp [sw_get]
       · simp only [if_neg c2]
         first | exact ((Kp.sw (by decide) _ _ _).tr (Kp.sw (by decide) _ _ _)).tr (Kp.sw (by decide) _ _ _) | simp [sw_get])
end
