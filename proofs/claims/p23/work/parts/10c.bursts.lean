/-! the carrier; bursts measured -/
theorem sine_and (w : Int32) : f_L_sine w = f_L_sine (w &&& 3) := by
  have e1 : (w &&& 3) &&& 1 = w &&& 1 := by rw [Int32.and_assoc]; rfl
  have e2 : (w &&& 3) &&& 2 = w &&& 2 := by rw [Int32.and_assoc]; rfl
  rw [f_L_sine_eq, f_L_sine_eq, e1, e2]
theorem sa_sine (w : Int32) : sa_0 (w &&& 3).toNatClampNeg = f_L_sine w := by
  rw [sine_and]
  rcases and3_cases w with e | e | e | e <;> rw [e] <;> decide +kernel
theorem and3_1 (w : Int32) : (w + 1) &&& 3 = ((w &&& 3) + 1) &&& 3 := by
  have h1 := pk_and w (m := 3) 2 (by decide)
  have h2 := pk_and (w + 1) (m := 3) 2 (by decide)
  have h3 := pk_and ((w &&& 3) + 1) (m := 3) 2 (by decide)
  rw [h2, h3, h1]
  congr 1
  rw [Int32.toBitVec_add, BitVec.toNat_add, Int32.toBitVec_add, BitVec.toNat_add, pk_tn (show w.toBitVec.toNat % 2 ^ 2 < 2 ^ 32 by omega)]
  show (w.toBitVec.toNat + 1) % 2 ^ 32 % 2 ^ 2 = (w.toBitVec.toNat % 2 ^ 2 + 1) % 2 ^ 32 % 2 ^ 2
  omega
theorem sa_cosine (w : Int32) : sa_1 (w &&& 3).toNatClampNeg = f_L_cosine w := by
  rw [f_L_cosine_eq, sine_and, and3_1]
  rcases and3_cases w with e | e | e | e <;> rw [e] <;> decide +kernel
theorem bd_sine (w : Int32) : bd (f_L_sine w) 1 := by
  rw [f_L_sine_eq]
  exact bd_ite (bd_lit (by decide)) (bd_ite (bd_lit (by decide)) (bd_lit (by decide)))
theorem bd_cosine (w : Int32) : bd (f_L_cosine w) 1 := by
  rw [f_L_cosine_eq]
  exact bd_sine _
/-- the burst of a line, from y on, by the samples S -/
def bS (S : Int32 → Int32 → Int32) (n : Nat) (y : Int32) (i : Nat) (a : Int32 × Int32) : Int32 × Int32 := (a.1 + S (nI n) (y + nI i) * f_L_sine ((y + nI i) + 2 * nI n), a.2 + S (nI n) (y + nI i) * f_L_cosine ((y + nI i) + 2 * nI n))
def burst (S : Int32 → Int32 → Int32) (n : Nat) (y : Int32) : Int32 × Int32 := loopF (bS S n y) (cnt8 y) (0, 0)
theorem burst_cls {S : Int32 → Int32 → Int32} {s : Sg} (hA : AT S s) {n : Nat} (hn : n < 8) (y : Int32) : loopF (b_X1_sumUp_9 s (nI n) y) (cnt8 y) (0, 0) = burst S n y := by
  unfold burst
  refine loop_eq _ (fun i a _ => ?_)
  rw [b_X1_sumUp_9_eq]
  dsimp only
  rw [hA _ _ (vp_in_nI hn (by decide)), f_X10_turnAt_eq, sa_sine, sa_cosine]
  rfl
theorem burst_bd {S : Int32 → Int32 → Int32} {n : Nat} (hS : ∀ y, bd (S (nI n) y) 500) (y : Int32) : bd (burst S n y).1 4000 ∧ bd (burst S n y).2 4000 := by
  have c8 := cnt8_le y
  have key := loopF_inv (B := bS S n y) (N := cnt8 y) (I := (0, 0)) (fun i a => bd a.1 (500 * i) ∧ bd a.2 (500 * i)) ⟨bd_lit (by decide), bd_lit (by decide)⟩ (fun i a hi hI => by
    obtain ⟨a1, a2⟩ := a
    obtain ⟨r1, r2⟩ := hI
    refine ⟨?_, ?_⟩
    · exact bd_le (bd_add (B := 500) r1 (bd_le (bd_mul (A := 500) (B := 1) (hS _) (bd_sine _) (by decide)) (by decide)) (by omega)) (by omega)
    · exact bd_le (bd_add (B := 500) r2 (bd_le (bd_mul (A := 500) (B := 1) (hS _) (bd_cosine _) (by decide)) (by decide)) (by omega)) (by omega))
  exact ⟨bd_le key.1 (by omega), bd_le key.2 (by omega)⟩
/-- color at a line, from the bursts that are good and the color before -/
def colA (g c : Nat → Int32) : Nat → Int32
  | 0 => 1
  | n + 1 => if g (n + 1) = g n then g (n + 1) else c n
theorem colA_upd {g c : Nat → Int32} {j : Nat} {v w : Int32} {n : Nat} (h : n < j) : colA (upd g j v) (upd c j w) n = colA g c n := by
  rcases n with _ | n
  · rfl
  · have e : ∀ (f : Nat → Int32) (x : Int32) (i : Nat), i < j → upd f j x i = f i := fun f x i hi => by rw [upd_at, if_neg (by omega)]
    show (if upd g j v (n + 1) = upd g j v n then upd g j v (n + 1) else upd c j w n) = _
    rw [e _ _ _ h, e _ _ n (by omega), e _ _ n (by omega)]
    rfl
/-- what stood before the line j; at first 1 -/
def posO (f : Nat → Int32) : Nat → Int32
  | 0 => 1
  | n + 1 => f n
def MI (S : Int32 → Int32 → Int32) (σ : Sg) (thr : Int32) (j : Nat) (s : Int32 × Sg) : Prop := (s.1 = 0 ∨ s.1 = 1) ∧ s.1 = posO (s.2 34) j ∧ (∀ n, n < j → (s.2 31 n, s.2 32 n) = burst S n (σ 27 n + 8)) ∧ (∀ n, n < j → s.2 33 n = if i_abs (s.2 31 n) + i_abs (s.2 32 n) < 4 * thr then 0 else 1) ∧ (∀ n, n < j → s.2 34 n = colA (s.2 33) (s.2 34) n) ∧ (∀ n, n < j → s.2 34 n = 0 ∨ s.2 34 n = 1) ∧ (s.2 30 4, s.2 30 5) = loopF (pst (s.2 33) (s.2 32) thr) (j - 1) (0, 0) ∧ Kp [30, 31, 32, 33, 34] σ s.2
def ggB (thr : Int32) (j : Nat) (a : Sg) : Int32 := vp_nar .boolean (if ((i_abs (a 31 (nI j).toNatClampNeg)) + (i_abs (a 32 (nI j).toNatClampNeg))) < (4 * thr) then 0 else 1)
def mBd (thr : Int32) (j : Nat) (on : Int32) (a : Sg) : Int32 × Sg := (if nI j ≤ 0 then on else (if a 33 (nI j).toNatClampNeg = a 33 (nI j - 1).toNatClampNeg then a 33 (nI j).toNatClampNeg else on), sw (if nI j ≤ 0 then a else (if a 33 (nI j).toNatClampNeg = a 33 (nI j - 1).toNatClampNeg then f_X1_countPair a (nI j) thr else a)) 34 (nI j).toNatClampNeg (vp_nar .boolean (if nI j ≤ 0 then on else (if a 33 (nI j).toNatClampNeg = a 33 (nI j - 1).toNatClampNeg then a 33 (nI j).toNatClampNeg else on))))
theorem mBd_eq (thr : Int32) (j : Nat) (on : Int32) (a : Sg) : mBd thr j on a = (if nI j ≤ 0 then on else (if a 33 (nI j).toNatClampNeg = a 33 (nI j - 1).toNatClampNeg then a 33 (nI j).toNatClampNeg else on), sw (if nI j ≤ 0 then a else (if a 33 (nI j).toNatClampNeg = a 33 (nI j - 1).toNatClampNeg then f_X1_countPair a (nI j) thr else a)) 34 (nI j).toNatClampNeg (vp_nar .boolean (if nI j ≤ 0 then on else (if a 33 (nI j).toNatClampNeg = a 33 (nI j - 1).toNatClampNeg then a 33 (nI j).toNatClampNeg else on)))) := rfl
theorem mB_b (thr : Int32) (j : Nat) (on : Int32) (s : Sg) : b_X1_measure_16 thr j (on, s) = mBd thr j on (sw (f_X1_sumUp s (nI j) (s 27 (nI j).toNatClampNeg + 8)) 33 (nI j).toNatClampNeg (ggB thr j (f_X1_sumUp s (nI j) (s 27 (nI j).toNatClampNeg + 8)))) := rfl
theorem measure_step {S : Int32 → Int32 → Int32} {σ : Sg} (hA : AT S σ) {thr : Int32} (j : Nat) (s : Int32 × Sg) (hj : j < 8) (hR : MI S σ thr j s) : MI S σ thr (j + 1) (b_X1_measure_16 thr j s) := by
  obtain ⟨on, s⟩ := s
  obtain ⟨r1, r2, r3, r4, r5, r6, r7, r8⟩ := hR
  dsimp only at r1 r2 r3 r4 r5 r6 r7 r8
  have eA : AT S s := hA.k (fun k a c => r8 k (fun q => by
    simp only [List.mem_cons, List.mem_nil_iff, or_false] at q
    omega))
  rw [mB_b, f_X1_sumUp_eq]
  dsimp only
  rw [nI_clamp (by omega), burst_cls eA hj, r8 27 (by decide)]
  generalize hP : (burst S j (σ 27 j + 8)).1 = P
  generalize hQ : (burst S j (σ 27 j + 8)).2 = Q
  have hPQ : (P, Q) = burst S j (σ 27 j + 8) := by rw [← hP, ← hQ]
  have hgg : (if i_abs P + i_abs Q < 4 * thr then (0 : Int32) else 1) = 0 ∨ (if i_abs P + i_abs Q < 4 * thr then (0 : Int32) else 1) = 1 := zo_ite (.inl rfl) (.inr rfl)
  have eg1 : ggB thr j (sw (sw s 31 j P) 32 j Q) = (if i_abs P + i_abs Q < 4 * thr then (0 : Int32) else 1) := by
    unfold ggB
    rw [nI_clamp (by omega), sw_cell (show ¬ (31 : Nat) = 32 by decide), sw_same, sw_same]
    exact (lv_narrowZ hgg).2.2
  rw [eg1]
  generalize hge : (if i_abs P + i_abs Q < 4 * thr then (0 : Int32) else 1) = gg at hgg ⊢
  rw [mBd_eq, nI_clamp (by omega), sw_same]
  have k7 : Kp [30, 31, 32, 33, 34] s (sw (sw (sw s 31 j P) 32 j Q) 33 j gg) := ((Kp.sw (by decide) _ _ _).tr (Kp.sw (by decide) _ _ _)).tr (Kp.sw (by decide) _ _ _)
  have e31 : (sw (sw (sw s 31 j P) 32 j Q) 33 j gg) 31 = upd (s 31) j P := by rw [sw_row (show ¬ (31 : Nat) = 33 by decide), sw_row (show ¬ (31 : Nat) = 32 by decide), sw_at, if_pos rfl]
  have e32 : (sw (sw (sw s 31 j P) 32 j Q) 33 j gg) 32 = upd (s 32) j Q := by rw [sw_row (show ¬ (32 : Nat) = 33 by decide), sw_at, if_pos rfl, sw_row (show ¬ (32 : Nat) = 31 by decide)]
  have e33 : (sw (sw (sw s 31 j P) 32 j Q) 33 j gg) 33 = upd (s 33) j gg := by rw [sw_at, if_pos rfl, sw_row (show ¬ (33 : Nat) = 32 by decide), sw_row (show ¬ (33 : Nat) = 31 by decide)]
  have e34 : (sw (sw (sw s 31 j P) 32 j Q) 33 j gg) 34 = s 34 := by rw [sw_row (show ¬ (34 : Nat) = 33 by decide), sw_row (show ¬ (34 : Nat) = 32 by decide), sw_row (show ¬ (34 : Nat) = 31 by decide)]
  have e30 : (sw (sw (sw s 31 j P) 32 j Q) 33 j gg) 30 = s 30 := by rw [sw_row (show ¬ (30 : Nat) = 33 by decide), sw_row (show ¬ (30 : Nat) = 32 by decide), sw_row (show ¬ (30 : Nat) = 31 by decide)]
  have go : ∀ (c : Int32) (s10 : Sg), (c = 0 ∨ c = 1) → c = colA (upd (s 33) j gg) (upd (s 34) j c) j → Kp [30] (sw (sw (sw s 31 j P) 32 j Q) 33 j gg) s10 → (s10 30 4, s10 30 5) = loopF (pst (upd (s 33) j gg) (upd (s 32) j Q) thr) j (0, 0) → MI S σ thr (j + 1) (c, sw s10 34 j (vp_nar .boolean c)) := by
    intro c s10 hc ec k10 hp
    rw [(lv_narrowZ hc).2.2]
    have f31 : (sw s10 34 j c) 31 = upd (s 31) j P := by rw [sw_row (show ¬ (31 : Nat) = 34 by decide), k10 31 (by decide), e31]
    have f33 : (sw s10 34 j c) 33 = upd (s 33) j gg := by rw [sw_row (show ¬ (33 : Nat) = 34 by decide), k10 33 (by decide), e33]
    have f32 : (sw s10 34 j c) 32 = upd (s 32) j Q := by rw [sw_row (show ¬ (32 : Nat) = 34 by decide), k10 32 (by decide), e32]
    have f34 : (sw s10 34 j c) 34 = upd (s 34) j c := by rw [sw_at, if_pos rfl, k10 34 (by decide), e34]
    refine ⟨hc, ?_, ?_, ?_, ?_, ?_, ?_, ?_⟩
    · dsimp only
      rw [f34]
      show c = upd (s 34) j c j
      rw [upd_self]
    · intro n hn
      dsimp only
      rw [f31, f32, upd_at, upd_at]
      by_cases q : n = j
      · rw [if_pos q, if_pos q, q]; exact hPQ
      · rw [if_neg q, if_neg q]; exact r3 n (by omega)
    · intro n hn
      show (sw s10 34 j c) 33 n = if i_abs ((sw s10 34 j c) 31 n) + i_abs ((sw s10 34 j c) 32 n) < 4 * thr then 0 else 1
      rw [f31, f32, f33]
      by_cases q : n = j
      · rw [q, upd_self, upd_self, upd_self]; exact hge.symm
      · have e : ∀ (f : Nat → Int32) (x : Int32), upd f j x n = f n := fun f x => by rw [upd_at, if_neg q]
        rw [e, e, e]; exact r4 n (by omega)
    · intro n hn
      dsimp only
      rw [f33, f34]
      by_cases q : n = j
      · rw [q, upd_self]; exact ec
      · rw [colA_upd (by omega), upd_at, if_neg q]; exact r5 n (by omega)
    · intro n hn
      dsimp only
      rw [f34, upd_at]
      by_cases q : n = j
      · rw [if_pos q]; exact hc
      · rw [if_neg q]; exact r6 n (by omega)
    · dsimp only
      rw [f33, f32, sw_cell (show ¬ (30 : Nat) = 34 by decide), sw_cell (show ¬ (30 : Nat) = 34 by decide)]
      exact hp
    · exact r8.tr (k7.tr ((k10.up (by decide)).tr (Kp.sw (by decide) _ _ _)))
  have old : ∀ n, n ≤ j → loopF (pst (upd (s 33) j gg) (upd (s 32) j Q) thr) (n - 1) (0, 0) = loopF (pst (s 33) (s 32) thr) (n - 1) (0, 0) := fun n hn => loop_eq _ (fun i c hi => by
    unfold pst
    simp only [upd_at, if_neg (show ¬ i = j by omega), if_neg (show ¬ i + 1 = j by omega)])
  rcases j with _ | i
  · rw [if_pos (show nI 0 ≤ 0 by decide), if_pos (show nI 0 ≤ 0 by decide)]
    refine go on _ r1 (show on = 1 from r2) (Kp.rf _) ?_
    rw [e30]
    exact (show (s 30 4, s 30 5) = (0, 0) from r7)
  · rw [if_neg (show ¬ nI (i + 1) ≤ 0 from nI_nle (by omega) (by omega)), if_neg (show ¬ nI (i + 1) ≤ 0 from nI_nle (by omega) (by omega)), nI_pred, nI_clamp (by omega), sw_place (show ¬ i = i + 1 by omega)]
    have e5 : ∀ x, (sw (sw s 31 (i + 1) P) 32 (i + 1) Q) 33 x = s 33 x := fun x => by rw [sw_cell (show ¬ (33 : Nat) = 32 by decide), sw_cell (show ¬ (33 : Nat) = 31 by decide)]
    rw [e5]
    have hpv : s 33 i = 0 ∨ s 33 i = 1 := by
      rw [r4 i (by omega)]
      exact zo_ite (.inl rfl) (.inr rfl)
    rw [show i + 1 - 1 = i by omega] at r7
    have ho : (if gg = s 33 i then gg else on) = 0 ∨ (if gg = s 33 i then gg else on) = 1 := zo_ite hgg r1
    refine go _ _ ho ?_ ?_ ?_
    · show _ = (if upd (s 33) (i + 1) gg (i + 1) = upd (s 33) (i + 1) gg i then upd (s 33) (i + 1) gg (i + 1) else upd (s 34) (i + 1) (if gg = s 33 i then gg else on) i)
      rw [upd_self, upd_at, if_neg (show ¬ i = i + 1 by omega), upd_at, if_neg (show ¬ i = i + 1 by omega)]
      rw [show s 34 i = on from r2.symm]
    · by_cases q : gg = s 33 i
      · rw [if_pos q]; exact (pair_cls _ hj thr).1
      · rw [if_neg q]; exact Kp.rf _
    · have e6 : loopF (pst (upd (s 33) (i + 1) gg) (upd (s 32) (i + 1) Q) thr) (i + 1) (0, 0) = pst (upd (s 33) (i + 1) gg) (upd (s 32) (i + 1) Q) thr i (s 30 4, s 30 5) := by
        have o := old (i + 1) (Nat.le_refl _)
        rw [show i + 1 - 1 = i by omega] at o
        rw [r7, ← o]
        rfl
      rw [e6]
      by_cases q : gg = s 33 i
      · rw [if_pos q, (pair_cls _ hj thr).2, e30, e33, e32]
      · rw [if_neg q, e30]
        unfold pst
        rw [upd_self, upd_at, if_neg (show ¬ i = i + 1 by omega)]
        rcases hpv with h0 | h1
        · rw [if_pos h0]
        · rw [if_neg (show ¬ s 33 i = 0 by rw [h1]; decide), if_pos (show gg = 0 from hgg.resolve_right (fun z => q (z.trans h1.symm)))]
theorem measure_cls {S : Int32 → Int32 → Int32} {σ τ : Sg} (hA : AT S σ) (thr : Int32) (hτ : f_X1_measure σ thr = τ) : (∀ n, n < 8 → (τ 31 n, τ 32 n) = burst S n (σ 27 n + 8)) ∧ (∀ n, n < 8 → τ 33 n = if i_abs (τ 31 n) + i_abs (τ 32 n) < 4 * thr then 0 else 1) ∧ (∀ n, n < 8 → τ 34 n = colA (τ 33) (τ 34) n) ∧ (∀ n, n < 8 → τ 34 n = 0 ∨ τ 34 n = 1) ∧ (τ 30 4, τ 30 5) = loopF (pst (τ 33) (τ 32) thr) 7 (0, 0) ∧ Kp [30, 31, 32, 33, 34] σ τ := by
  have e : τ = (loopF (b_X1_measure_16 thr) 8 (1, sw (sw σ 30 4 0) 30 5 0)).2 := hτ.symm.trans (f_X1_measure_eq σ thr)
  subst e
  clear hτ
  have k0 : Kp [30] σ (sw (sw σ 30 4 0) 30 5 0) := (Kp.sw (by decide) _ _ _).tr (Kp.sw (by decide) _ _ _)
  have key := loopF_inv (B := b_X1_measure_16 thr) (N := 8) (I := (1, sw (sw σ 30 4 0) 30 5 0)) (MI S (sw (sw σ 30 4 0) 30 5 0) thr) ⟨.inr rfl, rfl, fun n hn => absurd hn (by omega), fun n hn => absurd hn (by omega), fun n hn => absurd hn (by omega), fun n hn => absurd hn (by omega), by simp [sw_get, loopF], Kp.rf _⟩ (fun j s hj hR => measure_step (hA.k (fun k a c => k0 k (fun q => by
    simp only [List.mem_cons, List.mem_nil_iff, or_false] at q
    omega))) j s hj hR)
  generalize loopF (b_X1_measure_16 thr) 8 (1, sw (sw σ 30 4 0) 30 5 0) = s at key ⊢
  obtain ⟨-, -, r3, r4, r5, r6, r7, r8⟩ := key
  rw [k0 27 (by decide)] at r3
  exact ⟨r3, r4, r5, r6, r7, (k0.up (by decide)).tr r8⟩
