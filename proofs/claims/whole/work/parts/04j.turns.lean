section
/-! decode: the turns of the phase -/
theorem fw_row {φ : Fl} {k k' : Nat} (h : ¬ k' = k) (i : Nat) (v : UInt32) : fw φ k i v k' = φ k' := by rw [fw_at, if_neg h]
theorem fw_own (φ : Fl) (k i : Nat) (v : UInt32) : fw φ k i v k = vf_upd (φ k) i v := by rw [fw_at, if_pos rfl]
theorem one_le {j : Nat} (hj : j < 8) : 1 ≤ nI j ↔ ¬ nI j ≤ 0 := by
  have a := nI_leI (a := 1) (b := j) (by decide) (by omega)
  have b := nI_leI (a := j) (b := 0) (by omega) (by decide)
  have e1 : (1 : Int32) = nI 1 := rfl
  have e0 : (0 : Int32) = nI 0 := rfl
  rw [e1, e0, a, b]
  omega
/-- what a sum aims at -/
def aimF (f : Nat → Int32) (j : Nat) (x : Int32) : UInt32 := if x = 1 then (if nI j ≤ 0 then FP.i2f (-(f j)) else FP.fdiv (FP.i2f (-(f j + f (nI j - 1).toNatClampNeg))) FP.fconst2) else FP.i2f (-(f j))
theorem aim_31 (σ : Sg) {j : Nat} (hj : j < 8) (x : Int32) : f_X6_aimOf_31 σ (nI j) x = aimF (σ 31) j x := by
  unfold aimF
  rw [f_X6_aimOf_31_eq, nI_clamp (by omega)]
  by_cases c : nI j ≤ 0
  · rw [if_neg (fun q => (one_le hj).mp q c), if_pos c]
  · rw [if_pos ((one_le hj).mpr c), if_neg c]
theorem aim_32 (σ : Sg) {j : Nat} (hj : j < 8) (x : Int32) : f_X6_aimOf_32 σ (nI j) x = aimF (σ 32) j x := by
  unfold aimF
  rw [f_X6_aimOf_32_eq, nI_clamp (by omega)]
  by_cases c : nI j ≤ 0
  · rw [if_neg (fun q => (one_le hj).mp q c), if_pos c]
  · rw [if_pos ((one_le hj).mpr c), if_neg c]
/-- a step of the reference: the number behind a line -/
def stepF (g f : Nat → Int32) (j : Nat) (x fst : Int32) (r : UInt32) : UInt32 := if g j = 0 then r else (if fst = 0 then FP.fadd r (FP.fmul (FP.fsub (aimF f j x) r) 1048576000) else aimF f j x)
theorem follow_b (σ : Sg) (x : Int32) {j : Nat} (hj : j < 8) (p q : UInt32) (fst : Int32) (φ : Fl) : b_X6_follow_11 σ x j (p, q, fst, φ) = (stepF (σ 33) (σ 31) j x fst p, stepF (σ 33) (σ 32) j x fst q, (if σ 33 j = 0 then fst else 0), fw (fw φ 36 j (stepF (σ 33) (σ 31) j x fst p)) 37 j (stepF (σ 33) (σ 32) j x fst q)) := by
  unfold stepF
  rw [b_X6_follow_11_eq]
  dsimp only
  simp only [aim_31 σ hj, aim_32 σ hj, nI_clamp (show j < 2 ^ 31 by omega)]
theorem turns_b (t : Sg) (x : Int32) {j : Nat} (hj : j < 8) (p q : UInt32) (fst : Int32) (ψ : Fl) : b_X11_findTurns_10 t x j (p, q, fst, ψ) = (stepF (t 71) (t 69) j x fst p, stepF (t 71) (t 70) j x fst q, (if t 71 j = 0 then fst else 0), fw (fw ψ 73 j (stepF (t 71) (t 69) j x fst p)) 74 j (stepF (t 71) (t 70) j x fst q)) := by
  unfold stepF aimF
  rw [b_X11_findTurns_10_eq]
  dsimp only
  simp only [nI_clamp (show j < 2 ^ 31 by omega)]
theorem turns_at {σ t : Sg} {φ ψ : Fl} (x : Int32) (h31 : σ 31 = t 69) (h32 : σ 32 = t 70) (h33 : σ 33 = t 71) (h36 : φ 36 = ψ 73) (h37 : φ 37 = ψ 74) : (f_X6_follow σ φ x) 36 = (f_X11_findTurns t ψ x) 73 ∧ (f_X6_follow σ φ x) 37 = (f_X11_findTurns t ψ x) 74 ∧ Kp [36, 37] φ (f_X6_follow σ φ x) ∧ Kp [73, 74] ψ (f_X11_findTurns t ψ x) := by
  rw [f_X6_follow_eq, f_X11_findTurns_eq]
  dsimp only
  have key := two (B := b_X6_follow_11 σ x) (B' := b_X11_findTurns_10 t x) (N := 8) (I := (FP.fconst0, FP.fconst0, 1, φ)) (I' := (FP.fconst0, FP.fconst0, 1, ψ)) (fun _ a c => a.1 = c.1 ∧ a.2.1 = c.2.1 ∧ a.2.2.1 = c.2.2.1 ∧ a.2.2.2 36 = c.2.2.2 73 ∧ a.2.2.2 37 = c.2.2.2 74 ∧ Kp [36, 37] φ a.2.2.2 ∧ Kp [73, 74] ψ c.2.2.2) ⟨rfl, rfl, rfl, h36, h37, Kp.rf _, Kp.rf _⟩ (fun j a c hj hR => by
    obtain ⟨p, q, f, α⟩ := a
    obtain ⟨p', q', f', β⟩ := c
    obtain ⟨r1, r2, r3, r4, r5, r6, r7⟩ := hR
    dsimp only at r1 r2 r3 r4 r5 r6 r7
    subst r1 r2 r3
    rw [follow_b _ _ hj, turns_b _ _ hj, h31, h32, h33]
    refine ⟨rfl, rfl, rfl, ?_, ?_, r6.tr ((Kp.fw (by decide) _ _ _).tr (Kp.fw (by decide) _ _ _)), r7.tr ((Kp.fw (by decide) _ _ _).tr (Kp.fw (by decide) _ _ _))⟩
    · dsimp only
      rw [fw_row (show ¬ (36 : Nat) = 37 by decide), fw_own, fw_row (show ¬ (73 : Nat) = 74 by decide), fw_own, r4]
    · dsimp only
      rw [fw_own, fw_row (show ¬ (37 : Nat) = 36 by decide), fw_own, fw_row (show ¬ (74 : Nat) = 73 by decide), r5])
  exact ⟨key.2.2.2.1, key.2.2.2.2.1, key.2.2.2.2.2.1, key.2.2.2.2.2.2⟩
/-! decode: sums of segments, ways, chroma -/
theorem t_sub (a b : Int32) : 2 * a - 2 * b = 2 * (a - b) := by
  have h : ∀ x : Int32, 2 * x = x + x := fun x => by
    rw [show (2 : Int32) = 1 + 1 from rfl, Int32.add_mul, Int32.one_mul]
  rw [h, h, h, Int32.sub_eq_add_neg, Int32.sub_eq_add_neg, Int32.neg_add, Int32.sub_eq_add_neg]
  ac_rfl
theorem sum_eq {s t u : Sg} (hA : AT (f_X11_signal t) s) (hk : SK t u) (h66 : s 27 = u 66) {n i : Nat} (hn : n < 8) : f_X9_sumFrom s (nI n) (s 27 n + 16 + 8 * nI i) = f_X11_sumOf u (nI n) (nI i) := by
  rw [f_X9_sumFrom_eq, f_X11_sumOf_eq]
  refine loop_eq _ (fun j v _ => ?_)
  rw [b_X9_sumFrom_5_eq, b_X11_sumOf_5_eq, f_X11_from_eq, hA _ _ (vp_in_nI hn (by decide)), hk.sig, nI_clamp (by omega), ← h66]
  dsimp only
  rw [Int32.add_assoc (s 27 n), Int32.add_assoc (s 27 n)]
theorem pl_10 {n i : Nat} : f_X10_placeOf (nI n) (nI i) = nI (10 * n + i) := by rw [pl_nI, Nat.mul_comm]
theorem pm_10 {n i : Nat} : 10 * nI n + nI i = nI (10 * n + i) := by
  show nI 10 * nI n + nI i = _
  rw [pk_mul, nI_add]
theorem sums_at {σ t u : Sg} (hA : AT (f_X11_signal t) σ) (hk : SK t u) (h66 : σ 27 = u 66) : (∀ n i, n < 8 → i < 10 → (f_X3_sumUp σ) 39 (10 * n + i) = f_X11_sumOf u (nI n) (nI i)) ∧ Kp [39] σ (f_X3_sumUp σ) := by
  rw [f_X3_sumUp_eq]
  refine loopF_inv (B := b_X3_sumUp_2) (N := 8) (I := σ) (fun j s => (∀ n i, n < j → i < 10 → s 39 (10 * n + i) = f_X11_sumOf u (nI n) (nI i)) ∧ Kp [39] σ s) ⟨fun n i hn => absurd hn (by omega), Kp.rf _⟩ (fun j s hj hI => ?_)
  obtain ⟨i1, i2⟩ := hI
  rw [b_X3_sumUp_2_eq, i2 27 (by decide), nI_clamp (by omega)]
  dsimp only
  have key := loopF_inv (B := b_X3_sumUp_19 j (σ 27 j + 16)) (N := 10) (I := s) (fun m w => (∀ n i, n < j → i < 10 → w 39 (10 * n + i) = f_X11_sumOf u (nI n) (nI i)) ∧ (∀ i, i < m → w 39 (10 * j + i) = f_X11_sumOf u (nI j) (nI i)) ∧ Kp [39] σ w) ⟨i1, fun i hi => absurd hi (by omega), i2⟩ (fun m w hm hJ => by
    obtain ⟨j1, j2, j3⟩ := hJ
    have e27 : w 27 = σ 27 := j3 27 (by decide)
    have se := sum_eq (s := w) (hA.k (fun k a c => j3 k (fun q => by
      simp only [List.mem_cons, List.mem_nil_iff, or_false] at q
      omega))) hk (e27.trans h66) (i := m) hj
    rw [e27] at se
    rw [b_X3_sumUp_19_eq, pl_10, nI_clamp (by omega), se]
    dsimp only
    refine ⟨fun n i hn hi => ?_, fun i hi => ?_, j3.tr (Kp.sw (by decide) _ _ _)⟩
    · rw [sw_place (show ¬ 10 * n + i = 10 * j + m by omega)]; exact j1 n i hn hi
    · by_cases q : i = m
      · rw [q, sw_same]
      · rw [sw_place (show ¬ 10 * j + i = 10 * j + m by omega)]; exact j2 i (by omega))
  refine ⟨fun n i hn hi => ?_, key.2.2⟩
  by_cases q : n = j
  · rw [q]; exact key.2.1 i hi
  · exact key.1 n i (by omega) hi
/-- the ways of the combs -/
theorem near_eq {s u : Sg} (hs : ∀ n i, n < 8 → i < 10 → s 39 (10 * n + i) = f_X11_sumOf u (nI n) (nI i)) {n i n' : Nat} (hn : n < 8) (hi : i < 10) (hn' : n' < 8) (d : Int32) (hd : d = 8 * u 62 1) : f_X3_isNear s (nI (10 * n + i)) (nI (10 * n' + i)) d = f_X11_isNear u (nI n) (nI n') (nI i) := by
  rw [f_X3_isNear_eq, f_X11_isNear_eq]
  dsimp only
  rw [if_neg (iw_of (m := 79) (n := 80) rfl (vp_in_nI (by omega) (by decide))), if_neg (show ¬ f_X11_in (nI n') 0 7 = 0 from iw_of (m := 7) (n := 8) rfl (vp_in_nI hn' (by decide))), nI_clamp (by omega), nI_clamp (by omega), hs n i hn hi, hs n' i hn' hi, abs_size, hd]
  rfl
theorem norm01 {v : Int32} (h : v = 0 ∨ v = 1) : (if v = 0 then (0 : Int32) else 1) = v := by rcases h with rfl | rfl <;> rfl
theorem near_01 (u : Sg) (x y w : Int32) : f_X11_isNear u x y w = 0 ∨ f_X11_isNear u x y w = 1 := by
  rw [f_X11_isNear_eq]
  exact zo_ite (.inl rfl) (zo_ite (.inl rfl) (.inr rfl))
theorem way_eq {s u : Sg} (hs : ∀ n i, n < 8 → i < 10 → s 39 (10 * n + i) = f_X11_sumOf u (nI n) (nI i)) {n i : Nat} (hn : n < 8) (hi : i < 10) {c d w : Int32} (hw : w = 0 ∨ w = 1) (hd : d = 8 * u 62 1) (hc : c = if w = 1 then 0 else u 62 2) (h62 : vp_in (u 62 2) 4) : f_X3_wayFor s (nI n) (nI (10 * n + i)) c d = f_X11_way u (nI n) (nI i) w ∧ vp_in (f_X11_way u (nI n) (nI i) w) 4 := by
  rw [f_X3_wayFor_eq, f_X11_way_eq]
  dsimp only
  have e2 : (2 : Int32).toNatClampNeg = 2 := rfl
  rw [e2]
  have v4 : ∀ a b : Int32, vp_in ((if a = 0 then (0 : Int32) else 1) + (if b = 0 then 0 else 2)) 4 := fun a b => by
    by_cases h1 : a = 0 <;> by_cases h2 : b = 0
    · rw [if_pos h1, if_pos h2]; exact vp_lit (by decide)
    · rw [if_pos h1, if_neg h2]; exact vp_lit (by decide)
    · rw [if_neg h1, if_pos h2]; exact vp_lit (by decide)
    · rw [if_neg h1, if_neg h2]; exact vp_lit (by decide)
  rcases hw with rfl | rfl
  · rw [if_neg (show ¬ (0 : Int32) = 1 by decide)] at hc
    subst hc
    rw [if_neg (show ¬ (0 : Int32) = 1 by decide)]
    obtain ⟨k, hk, e⟩ := vp_in_of h62 (by decide)
    rw [e]
    have : k = 0 ∨ k = 1 ∨ k = 2 ∨ k = 3 := by omega
    rcases this with rfl | rfl | rfl | rfl
    · rw [if_neg (show ¬ nI 0 = 1 by decide), if_neg (show ¬ nI 0 = 2 by decide), if_neg (show ¬ nI 0 = 3 by decide), if_pos (show nI 0 = 0 from rfl)]
      exact ⟨rfl, vp_lit (by decide)⟩
    · rw [if_pos (show nI 1 = 1 from rfl), if_neg (show ¬ nI 1 = 0 by decide), if_pos (show nI 1 = 1 from rfl)]
      refine ⟨rfl, ?_⟩
      by_cases h1 : (if nI n ≤ 0 then (0 : Int32) else 1) = 0
      · rw [if_pos h1]; exact vp_lit (by decide)
      · rw [if_neg h1]; exact vp_lit (by decide)
    · simp only [if_neg (show ¬ nI 2 = 1 by decide), if_pos (show nI 2 = 2 from rfl), if_neg (show ¬ nI 2 = 0 by decide), if_neg (show ¬ nI 2 = 3 by decide)]
      exact ⟨trivial, v4 _ _⟩
    · simp only [if_neg (show ¬ nI 3 = 1 by decide), if_neg (show ¬ nI 3 = 2 by decide), if_pos (show nI 3 = 3 from rfl), if_neg (show ¬ nI 3 = 0 by decide)]
      refine ⟨?_, v4 _ _⟩
      have a1 : (if (if nI n ≤ 0 then (0 : Int32) else 1) = 0 then (0 : Int32) else (if f_X3_isNear s (nI (10 * n + i)) (nI (10 * n + i) - 10) d = 0 then 0 else 1)) = f_X11_isNear u (nI n) (nI n - 1) (nI i) := by
        by_cases c1 : nI n ≤ 0
        · rw [if_pos c1, if_pos rfl]
          have n0 : n = 0 := Nat.le_zero.mp ((nI_leI (b := 0) (by omega) (by decide)).mp c1)
          rw [n0, f_X11_isNear_eq]
          rfl
        · rw [if_neg c1, if_neg (show ¬ (1 : Int32) = 0 by decide)]
          have n1 : 1 ≤ n := by
            rcases Nat.eq_zero_or_pos n with q | q
            · exact absurd (nI_le (b := 0) (show n ≤ 0 by omega) (by decide)) c1
            · exact q
          have x1 : nI (10 * n + i) - 10 = nI (10 * (n - 1) + i) := by
            show nI (10 * n + i) - nI 10 = _
            rw [pk_sub (by omega), show 10 * n + i - 10 = 10 * (n - 1) + i by omega]
          have x2 : nI n - 1 = nI (n - 1) := pk_sub (a := n) (b := 1) n1
          rw [x1, x2, near_eq hs hn hi (by omega) d hd]
          exact norm01 (near_01 _ _ _ _)
      have a2 : (if (if 7 ≤ nI n then (0 : Int32) else 1) = 0 then (0 : Int32) else (if f_X3_isNear s (nI (10 * n + i)) (nI (10 * n + i) + 10) d = 0 then 0 else 1)) = f_X11_isNear u (nI n) (nI n + 1) (nI i) := by
        by_cases c1 : 7 ≤ nI n
        · rw [if_pos c1, if_pos rfl]
          have n0 : n = 7 := by
            have := (nI_leI (a := 7) (b := n) (by decide) (by omega)).mp c1
            omega
          rw [n0, f_X11_isNear_eq]
          rfl
        · rw [if_neg c1, if_neg (show ¬ (1 : Int32) = 0 by decide)]
          have n1 : n < 7 := by
            rcases Nat.lt_or_ge n 7 with q | q
            · exact q
            · exact absurd (nI_le (a := 7) q (by omega)) c1
          have x1 : nI (10 * n + i) + 10 = nI (10 * (n + 1) + i) := by
            show nI (10 * n + i) + nI 10 = _
            rw [nI_add, show 10 * n + i + 10 = 10 * (n + 1) + i by omega]
          rw [x1, nI_1, near_eq hs hn hi (by omega) d hd]
          exact norm01 (near_01 _ _ _ _)
      rw [a1, a2]
  · rw [if_pos rfl] at hc
    subst hc
    rw [if_pos (show (1 : Int32) = 1 from rfl), if_neg (show ¬ (0 : Int32) = 1 by decide), if_neg (show ¬ (0 : Int32) = 2 by decide), if_neg (show ¬ (0 : Int32) = 3 by decide)]
    exact ⟨rfl, vp_lit (by decide)⟩
theorem smpl_eq {s t u : Sg} (hA : AT (f_X11_signal t) s) (hk : SK t u) (h66 : s 27 = u 66) {x : Int32} (hx : vp_in x 8) (y : Int32) : f_X3_sampleAt s x y = f_X11_from u x y := by
  rw [f_X3_sampleAt_eq, f_X11_from_eq]
  dsimp only
  rw [if_neg (il_of hx), hA _ _ hx, hk.sig, h66]
theorem chroma_eq {s t u : Sg} (hA : AT (f_X11_signal t) s) (hk : SK t u) (h66 : s 27 = u 66) {x : Int32} (hx : vp_in x 8) (y : Int32) {w : Int32} (hw : vp_in w 4) (ho : wok x w) : f_X3_chromaAt s x y w = f_X11_chromaAt u x y w := by
  rw [f_X3_chromaAt_eq, f_X11_chromaAt_eq]
  dsimp only
  obtain ⟨k, hk4, e⟩ := vp_in_of hw (by decide)
  subst e
  have : k = 0 ∨ k = 1 ∨ k = 2 ∨ k = 3 := by omega
  rcases this with rfl | rfl | rfl | rfl
  · rw [if_neg (show ¬ nI 0 = 1 by decide), if_neg (show ¬ nI 0 = 2 by decide), if_neg (show ¬ nI 0 = 3 by decide), if_pos (show nI 0 = 0 from rfl), smpl_eq hA hk h66 hx, smpl_eq hA hk h66 hx, smpl_eq hA hk h66 hx]
  · rw [if_pos (show nI 1 = 1 from rfl), if_neg (show ¬ nI 1 = 0 by decide), if_pos (show nI 1 = 1 from rfl), smpl_eq hA hk h66 hx, smpl_eq hA hk h66 (ho.1 rfl), t_sub]
  · rw [if_neg (show ¬ nI 2 = 1 by decide), if_pos (show nI 2 = 2 from rfl), if_neg (show ¬ nI 2 = 0 by decide), if_neg (show ¬ nI 2 = 1 by decide), if_pos (show nI 2 = 2 from rfl), smpl_eq hA hk h66 hx, smpl_eq hA hk h66 (ho.2.1 rfl), t_sub]
  · obtain ⟨o1, o2⟩ := ho.2.2 (by decide) (by decide) (by decide)
    rw [if_neg (show ¬ nI 3 = 1 by decide), if_neg (show ¬ nI 3 = 2 by decide), if_pos (show nI 3 = 3 from rfl), if_neg (show ¬ nI 3 = 0 by decide), if_neg (show ¬ nI 3 = 1 by decide), if_neg (show ¬ nI 3 = 2 by decide), smpl_eq hA hk h66 hx, smpl_eq hA hk h66 o1, smpl_eq hA hk h66 o2]
/-- a segment's three sums -/
theorem split_eq {s t u : Sg} (hA : AT (f_X11_signal t) s) (hk : SK t u) (h66 : s 27 = u 66) {n i : Nat} (hn : n < 8) (hi : i < 10) {w : Int32} (hw : vp_in w 4) (ho : wok (nI n) w) (h77 : u 77 (10 * n + i) = w) : (loopF (b_X3_splitSegment_22 s (nI n) (nI i) w) 8 (0, 0, 0)).1 = (loopF (b_X11_comb_34 (nI n) (nI i)) 8 (0, 0, 0, u)).1 ∧ (loopF (b_X3_splitSegment_22 s (nI n) (nI i) w) 8 (0, 0, 0)).2.1 = (loopF (b_X11_comb_34 (nI n) (nI i)) 8 (0, 0, 0, u)).2.1 ∧ (loopF (b_X3_splitSegment_22 s (nI n) (nI i) w) 8 (0, 0, 0)).2.2 = (loopF (b_X11_comb_34 (nI n) (nI i)) 8 (0, 0, 0, u)).2.2.1 ∧ Kp [82] u (loopF (b_X11_comb_34 (nI n) (nI i)) 8 (0, 0, 0, u)).2.2.2 :=
  two (B := b_X3_splitSegment_22 s (nI n) (nI i) w) (B' := b_X11_comb_34 (nI n) (nI i)) (N := 8) (I := (0, 0, 0)) (I' := (0, 0, 0, u)) (fun _ a c => a.1 = c.1 ∧ a.2.1 = c.2.1 ∧ a.2.2 = c.2.2.1 ∧ Kp [82] u c.2.2.2) ⟨rfl, rfl, rfl, Kp.rf _⟩ (fun j a c hj hR => by
    obtain ⟨p, q, f⟩ := a
    obtain ⟨p', q', f', v⟩ := c
    obtain ⟨r1, r2, r3, r4⟩ := hR
    dsimp only at r1 r2 r3 r4
    subst r1 r2 r3
    have hv : SK t v := hk.k r4 (by decide)
    have h66' : s 27 = v 66 := h66.trans (r4 66 (by decide)).symm
    have e77 : v 77 (10 * n + i) = w := by rw [r4 77 (by decide)]; exact h77
    rw [b_X3_splitSegment_22_eq, b_X11_comb_34_eq]
    dsimp only
    rw [pm_10, nI_clamp (by omega), nI_clamp (by omega), nI_clamp (by omega), e77, sw_same, sw_cell (show ¬ (66 : Nat) = 82 by decide), ← h66', chroma_eq hA hv h66' (vp_in_nI hn (by decide)) _ hw ho, f_X10_turnAt_eq, f_X11_rest_eq, sa_a, sa_b, Int32.add_assoc (s 27 n) (16 + 8 * nI i) (nI j)]
    exact ⟨rfl, rfl, rfl, r4.tr (Kp.sw (by decide) _ _ _)⟩)
end
