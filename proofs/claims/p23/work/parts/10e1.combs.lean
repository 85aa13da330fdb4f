/-! combs: what the class tells of each segment -/
theorem cnt8_nI {m : Nat} (h : m ≤ 1000) : cnt8 (nI m) = 8 := by
  unfold cnt8
  rw [show nI m + 8 = nI (m + 8) from nI_add m 8, if_pos (nI_lt (by omega) (by omega))]
theorem seg_nI (i : Nat) : (16 : Int32) + 8 * nI i = nI (16 + 8 * i) := by
  rw [show (8 : Int32) * nI i = nI (8 * i) from pk_mul 8 i]
  exact nI_add 16 (8 * i)
/-- the sum of a segment's samples -/
def MS (S : Int32 → Int32 → Int32) (st : Int32) (n i : Nat) : Int32 := loopF (fun j a => a + S (nI n) (st + ((16 + 8 * nI i) + nI j))) 8 0
theorem sum_cls {S : Int32 → Int32 → Int32} {s : Sg} (hA : AT S s) {n : Nat} (hn : n < 8) (st : Int32) (i : Nat) : f_X9_sumFrom s (nI n) (st + 16 + 8 * nI i) = MS S st n i := by
  rw [f_X9_sumFrom_eq]
  refine loop_eq _ (fun j v _ => ?_)
  rw [b_X9_sumFrom_5_eq, hA _ _ (vp_in_nI hn (by decide))]
  dsimp only
  rw [Int32.add_assoc st, Int32.add_assoc st]
theorem MS_bd {S : Int32 → Int32 → Int32} {n : Nat} (hS : ∀ y, bd (S (nI n) y) 500) (st : Int32) (i : Nat) : bd (MS S st n i) 4000 := by
  have key := loopF_inv (B := fun j a => a + S (nI n) (st + ((16 + 8 * nI i) + nI j))) (N := 8) (I := 0) (fun j a => bd a (500 * j)) (bd_lit (by decide)) (fun j a hj hI => bd_le (bd_add (B := 500) hI (hS _) (by omega)) (by omega))
  exact key
theorem sums_cls {S : Int32 → Int32 → Int32} {σ : Sg} (hA : AT S σ) : (∀ n i, n < 8 → i < 10 → (f_X3_sumUp σ) 39 (10 * n + i) = MS S (σ 27 n) n i) ∧ Kp [39] σ (f_X3_sumUp σ) := by
  rw [f_X3_sumUp_eq]
  refine loopF_inv (B := b_X3_sumUp_2) (N := 8) (I := σ) (fun j s => (∀ n i, n < j → i < 10 → s 39 (10 * n + i) = MS S (σ 27 n) n i) ∧ Kp [39] σ s) ⟨fun n i hn => absurd hn (by omega), Kp.rf _⟩ (fun j s hj hI => ?_)
  obtain ⟨i1, i2⟩ := hI
  rw [b_X3_sumUp_2_eq, i2 27 (by decide), nI_clamp (by omega)]
  dsimp only
  have key := loopF_inv (B := b_X3_sumUp_19 j (σ 27 j + 16)) (N := 10) (I := s) (fun m w => (∀ n i, n < j → i < 10 → w 39 (10 * n + i) = MS S (σ 27 n) n i) ∧ (∀ i, i < m → w 39 (10 * j + i) = MS S (σ 27 j) j i) ∧ Kp [39] σ w) ⟨i1, fun i hi => absurd hi (by omega), i2⟩ (fun m w hm hJ => by
    obtain ⟨j1, j2, j3⟩ := hJ
    have se := sum_cls (s := w) (hA.k (fun k a c => j3 k (fun q => by
      simp only [List.mem_cons, List.mem_nil_iff, or_false] at q
      omega))) hj (σ 27 j) m
    rw [b_X3_sumUp_19_eq, pl_10, nI_clamp (by omega), se]
    dsimp only
    refine ⟨fun n i hn hi => ?_, fun i hi => ?_, j3.tr (Kp.sw (by decide) _ _ _)⟩
    · rw [sw_place (show ¬ 10 * n + i = 10 * j + m by omega)]; exact j1 n i hn hi
    · by_cases q : i = m
      · rw [q, sw_same]
      · rw [sw_place (show ¬ 10 * j + i = 10 * j + m by omega)]; exact j2 i (by omega))
  refine ⟨fun n i hn hi => ?_, key.2.2⟩
  by_cases q : n = j
  · rw [q]; exact key.2.1 i hi
  · exact key.1 n i (by omega) hi
/-- whether two sums are near -/
def nearC (a b d : Int32) : Int32 := if d < i_abs (b - a) then 0 else 1
theorem nearC_01 (a b d : Int32) : nearC a b d = 0 ∨ nearC a b d = 1 := zo_ite (.inl rfl) (.inr rfl)
theorem near_cls (s : Sg) {m m' : Nat} (hm : m < 80) (hm' : m' < 80) (d : Int32) : f_X3_isNear s (nI m) (nI m') d = nearC (s 39 m) (s 39 m') d := by
  rw [f_X3_isNear_eq]
  dsimp only
  rw [if_neg (iw_of (m := 79) (n := 80) rfl (vp_in_nI hm' (by decide))), nI_clamp (by omega), nI_clamp (by omega)]
  rfl
/-- whether the line above, or below, is used -/
def upS (M : Nat → Int32) (comb lim : Int32) (n i : Nat) : Int32 := if n = 0 then 0 else if comb = 3 then nearC (M (10 * n + i)) (M (10 * (n - 1) + i)) (8 * lim) else 1
def dnS (M : Nat → Int32) (comb lim : Int32) (n i : Nat) : Int32 := if n = 7 then 0 else if comb = 3 then nearC (M (10 * n + i)) (M (10 * (n + 1) + i)) (8 * lim) else 1
theorem upS_01 (M : Nat → Int32) (comb lim : Int32) (n i : Nat) : upS M comb lim n i = 0 ∨ upS M comb lim n i = 1 := zo_ite (.inl rfl) (zo_ite (nearC_01 _ _ _) (.inr rfl))
theorem dnS_01 (M : Nat → Int32) (comb lim : Int32) (n i : Nat) : dnS M comb lim n i = 0 ∨ dnS M comb lim n i = 1 := zo_ite (.inl rfl) (zo_ite (nearC_01 _ _ _) (.inr rfl))
/-- how a segment is combed -/
def wayU (w comb up dn : Int32) : Int32 := if w = 1 then 0 else (if comb = 0 then 0 else (if comb = 1 then (if up = 0 then 2 else 1) else ((if up = 0 then 0 else 1) + (if dn = 0 then 0 else 2))))
def wayS (M : Nat → Int32) (comb lim w : Int32) (n i : Nat) : Int32 := wayU w comb (upS M comb lim n i) (dnS M comb lim n i)
theorem way_cls (s : Sg) {n i : Nat} (hn : n < 8) (hi : i < 10) {comb lim w : Int32} (hc : vp_in comb 4) : f_X3_wayFor s (nI n) (nI (10 * n + i)) (if w = 1 then 0 else comb) (8 * lim) = wayS (s 39) comb lim w n i := by
  rw [f_X3_wayFor_eq]
  dsimp only
  unfold wayS wayU
  by_cases hw : w = 1
  · rw [if_pos hw, if_pos hw, if_neg (show ¬ (0 : Int32) = 1 by decide), if_neg (show ¬ (0 : Int32) = 2 by decide), if_neg (show ¬ (0 : Int32) = 3 by decide)]
  · rw [if_neg hw, if_neg hw]
    have hN : (nI n ≤ 0) ↔ n = 0 := ⟨fun q => Nat.le_zero.mp ((nI_leI (b := 0) (by omega) (by decide)).mp q), fun q => by rw [q]; decide⟩
    have hN7 : (7 ≤ nI n) ↔ n = 7 := ⟨fun q => by have := (nI_leI (a := 7) (b := n) (by decide) (by omega)).mp q; omega, fun q => by rw [q]; decide⟩
    obtain ⟨k, hk, e⟩ := vp_in_of hc (by decide)
    subst e
    have : k = 0 ∨ k = 1 ∨ k = 2 ∨ k = 3 := by omega
    rcases this with rfl | rfl | rfl | rfl
    · rw [if_neg (show ¬ nI 0 = 1 by decide), if_neg (show ¬ nI 0 = 2 by decide), if_neg (show ¬ nI 0 = 3 by decide), if_pos (show nI 0 = 0 from rfl)]
    · rw [if_pos (show nI 1 = 1 from rfl), if_neg (show ¬ nI 1 = 0 by decide), if_pos (show nI 1 = 1 from rfl)]
      unfold upS
      rw [if_neg (show ¬ nI 1 = 3 by decide)]
      by_cases c : n = 0
      · rw [if_pos (hN.mpr c), if_pos c]
      · rw [if_neg (fun q => c (hN.mp q)), if_neg c]
    · rw [if_neg (show ¬ nI 2 = 1 by decide), if_pos (show nI 2 = 2 from rfl), if_neg (show ¬ nI 2 = 0 by decide), if_neg (show ¬ nI 2 = 1 by decide)]
      unfold upS dnS
      rw [if_neg (show ¬ nI 2 = 3 by decide), if_neg (show ¬ nI 2 = 3 by decide)]
      have a1 : (if nI n ≤ 0 then (0 : Int32) else 1) = (if n = 0 then 0 else 1) := by
        by_cases c : n = 0
        · rw [if_pos (hN.mpr c), if_pos c]
        · rw [if_neg (fun q => c (hN.mp q)), if_neg c]
      have a2 : (if 7 ≤ nI n then (0 : Int32) else 1) = (if n = 7 then 0 else 1) := by
        by_cases c : n = 7
        · rw [if_pos (hN7.mpr c), if_pos c]
        · rw [if_neg (fun q => c (hN7.mp q)), if_neg c]
      rw [a1, a2]
    · rw [if_neg (show ¬ nI 3 = 1 by decide), if_neg (show ¬ nI 3 = 2 by decide), if_pos (show nI 3 = 3 from rfl), if_neg (show ¬ nI 3 = 0 by decide), if_neg (show ¬ nI 3 = 1 by decide)]
      have a1 : (if (if nI n ≤ 0 then (0 : Int32) else 1) = 0 then (0 : Int32) else (if f_X3_isNear s (nI (10 * n + i)) (nI (10 * n + i) - 10) (8 * lim) = 0 then 0 else 1)) = upS (s 39) (nI 3) lim n i := by
        unfold upS
        by_cases c : n = 0
        · rw [if_pos (hN.mpr c), if_pos rfl, if_pos c]
        · rw [if_neg (fun q => c (hN.mp q)), if_neg (show ¬ (1 : Int32) = 0 by decide), if_neg c, if_pos (show nI 3 = 3 from rfl)]
          have x1 : nI (10 * n + i) - 10 = nI (10 * (n - 1) + i) := by
            show nI (10 * n + i) - nI 10 = _
            rw [pk_sub (by omega), show 10 * n + i - 10 = 10 * (n - 1) + i by omega]
          rw [x1, near_cls s (by omega) (by omega)]
          exact norm01 (nearC_01 _ _ _)
      have a2 : (if (if 7 ≤ nI n then (0 : Int32) else 1) = 0 then (0 : Int32) else (if f_X3_isNear s (nI (10 * n + i)) (nI (10 * n + i) + 10) (8 * lim) = 0 then 0 else 1)) = dnS (s 39) (nI 3) lim n i := by
        unfold dnS
        by_cases c : n = 7
        · rw [if_pos (hN7.mpr c), if_pos rfl, if_pos c]
        · rw [if_neg (fun q => c (hN7.mp q)), if_neg (show ¬ (1 : Int32) = 0 by decide), if_neg c, if_pos (show nI 3 = 3 from rfl)]
          have x1 : nI (10 * n + i) + 10 = nI (10 * (n + 1) + i) := by
            show nI (10 * n + i) + nI 10 = _
            rw [nI_add, show 10 * n + i + 10 = 10 * (n + 1) + i by omega]
          rw [x1, near_cls s (by omega) (by omega)]
          exact norm01 (nearC_01 _ _ _)
      rw [a1, a2]
theorem way_ok (M : Nat → Int32) (comb lim w : Int32) {n : Nat} (hn : n < 8) (i : Nat) : vp_in (wayS M comb lim w n i) 4 ∧ (wayS M comb lim w n i = 1 → 1 ≤ n) ∧ (wayS M comb lim w n i = 2 → n < 7) ∧ (wayS M comb lim w n i = 3 → 1 ≤ n ∧ n < 7) := by
  have hu : ¬ upS M comb lim n i = 0 → 1 ≤ n := fun q => by
    rcases Nat.eq_zero_or_pos n with z | z
    · exact absurd (show upS M comb lim n i = 0 from if_pos z) q
    · exact z
  have hd : ¬ dnS M comb lim n i = 0 → n < 7 := fun q => by
    by_cases z : n = 7
    · exact absurd (show dnS M comb lim n i = 0 from if_pos z) q
    · omega
  have hu2 : comb = 1 → upS M comb lim n i = 0 → n < 7 := fun h q => by
    unfold upS at q
    by_cases z : n = 0
    · omega
    · rw [if_neg z, if_neg (show ¬ comb = 3 by rw [h]; decide)] at q
      exact absurd q (by decide)
  have n0 : ∀ v : Int32, v = 0 → vp_in v 4 ∧ (v = 1 → 1 ≤ n) ∧ (v = 2 → n < 7) ∧ (v = 3 → 1 ≤ n ∧ n < 7) := fun v h => by
    subst h
    exact ⟨vp_lit (by decide), fun q => absurd q (by decide), fun q => absurd q (by decide), fun q => absurd q (by decide)⟩
  unfold wayS wayU
  by_cases h1 : w = 1
  · rw [if_pos h1]; exact n0 0 rfl
  · rw [if_neg h1]
    by_cases h2 : comb = 0
    · rw [if_pos h2]; exact n0 0 rfl
    · rw [if_neg h2]
      by_cases h3 : comb = 1
      · rw [if_pos h3]
        by_cases h4 : upS M comb lim n i = 0
        · rw [if_pos h4]; exact ⟨vp_lit (by decide), fun q => absurd q (by decide), fun _ => hu2 h3 h4, fun q => absurd q (by decide)⟩
        · rw [if_neg h4]; exact ⟨vp_lit (by decide), fun _ => hu h4, fun q => absurd q (by decide), fun q => absurd q (by decide)⟩
      · rw [if_neg h3]
        by_cases h4 : upS M comb lim n i = 0
        · rw [if_pos h4]
          by_cases h5 : dnS M comb lim n i = 0
          · rw [if_pos h5]; exact n0 _ (by decide)
          · rw [if_neg h5]; exact ⟨vp_lit (by decide), fun q => absurd q (by decide), fun _ => hd h5, fun q => absurd q (by decide)⟩
        · rw [if_neg h4]
          by_cases h5 : dnS M comb lim n i = 0
          · rw [if_pos h5]; exact ⟨vp_lit (by decide), fun _ => hu h4, fun q => absurd q (by decide), fun q => absurd q (by decide)⟩
          · rw [if_neg h5]; exact ⟨vp_lit (by decide), fun q => absurd q (by decide), fun q => absurd q (by decide), fun _ => ⟨hu h4, hd h5⟩⟩
/-- the chroma of a sample -/
def chS (S : Int32 → Int32 → Int32) (st : Nat → Int32) (n : Nat) (y w : Int32) : Int32 := if w = 1 then 2 * S (nI n) (st n + y) - 2 * S (nI (n - 1)) (st (n - 1) + y) else if w = 2 then 2 * S (nI n) (st n + y) - 2 * S (nI (n + 1)) (st (n + 1) + y) else if w = 3 then (2 * S (nI n) (st n + y) - S (nI (n - 1)) (st (n - 1) + y)) - S (nI (n + 1)) (st (n + 1) + y) else (2 * S (nI n) (st n + y) - S (nI n) (st n + (y - 2))) - S (nI n) (st n + (y + 2))
theorem smp_cls {S : Int32 → Int32 → Int32} {s : Sg} (hA : AT S s) {n : Nat} (hn : n < 8) (y : Int32) : f_X3_sampleAt s (nI n) y = S (nI n) (s 27 n + y) := by
  rw [f_X3_sampleAt_eq]
  dsimp only
  rw [if_neg (il_of (vp_in_nI hn (by decide))), hA _ _ (vp_in_nI hn (by decide)), nI_clamp (by omega)]
theorem chroma_cls {S : Int32 → Int32 → Int32} {s : Sg} (hA : AT S s) {n : Nat} (hn : n < 8) (y : Int32) {w : Int32} (o1 : w = 1 → 1 ≤ n) (o2 : w = 2 → n < 7) (o3 : w = 3 → 1 ≤ n ∧ n < 7) : f_X3_chromaAt s (nI n) y w = chS S (s 27) n y w := by
  rw [f_X3_chromaAt_eq]
  dsimp only
  unfold chS
  have m1 : 1 ≤ n → nI n - 1 = nI (n - 1) := fun q => pk_sub (a := n) (b := 1) q
  have p1 : nI n + 1 = nI (n + 1) := nI_1 n
  by_cases h1 : w = 1
  · rw [if_pos h1, if_pos h1, m1 (o1 h1), smp_cls hA hn, smp_cls hA (by omega)]
  · rw [if_neg h1, if_neg h1]
    by_cases h2 : w = 2
    · have := o2 h2
      rw [if_pos h2, if_pos h2, p1, smp_cls hA hn, smp_cls hA (by omega)]
    · rw [if_neg h2, if_neg h2]
      by_cases h3 : w = 3
      · have := o3 h3
        rw [if_pos h3, if_pos h3, m1 this.1, p1, smp_cls hA hn, smp_cls hA (by omega), smp_cls hA (by omega)]
      · rw [if_neg h3, if_neg h3, smp_cls hA hn, smp_cls hA hn, smp_cls hA hn]
/-- a segment's three sums -/
def segB (S : Int32 → Int32 → Int32) (st : Nat → Int32) (n i : Nat) (w : Int32) (j : Nat) (a : Int32 × Int32 × Int32) : Int32 × Int32 × Int32 := (a.1 + chS S st n ((16 + 8 * nI i) + nI j) w, a.2.1 + chS S st n ((16 + 8 * nI i) + nI j) w * f_L_sine ((st n + ((16 + 8 * nI i) + nI j)) + 2 * nI n), a.2.2 + chS S st n ((16 + 8 * nI i) + nI j) w * f_L_cosine ((st n + ((16 + 8 * nI i) + nI j)) + 2 * nI n))
def segS (S : Int32 → Int32 → Int32) (st : Nat → Int32) (n i : Nat) (w : Int32) : Int32 × Int32 × Int32 := loopF (segB S st n i w) 8 (0, 0, 0)
theorem split_cls {S : Int32 → Int32 → Int32} {s : Sg} (hA : AT S s) {n : Nat} (hn : n < 8) (i : Nat) {w : Int32} (o1 : w = 1 → 1 ≤ n) (o2 : w = 2 → n < 7) (o3 : w = 3 → 1 ≤ n ∧ n < 7) : loopF (b_X3_splitSegment_22 s (nI n) (nI i) w) 8 (0, 0, 0) = segS S (s 27) n i w := by
  unfold segS
  refine loop_eq _ (fun j a _ => ?_)
  rw [b_X3_splitSegment_22_eq]
  dsimp only
  rw [chroma_cls hA hn _ o1 o2 o3, f_X10_turnAt_eq, sa_sine, sa_cosine, nI_clamp (by omega), Int32.add_assoc (s 27 n) (16 + 8 * nI i) (nI j)]
  rfl
def SegOK (S : Int32 → Int32 → Int32) (st M : Nat → Int32) (comb lim w : Int32) (s : Sg) (n i : Nat) : Prop := s 41 (10 * n + i) = wayS M comb lim w n i ∧ s 40 (10 * n + i) = f_J9_floorDiv_7cf53 (4 * M (10 * n + i) - (segS S st n i (wayS M comb lim w n i)).1) 32 ∧ s 42 (10 * n + i) = (segS S st n i (wayS M comb lim w n i)).2.1 ∧ s 43 (10 * n + i) = (segS S st n i (wayS M comb lim w n i)).2.2
theorem SegOK.keep {S : Int32 → Int32 → Int32} {st M : Nat → Int32} {comb lim w : Int32} {s s' : Sg} {n i : Nat} (h : SegOK S st M comb lim w s n i) (e : s' 41 (10 * n + i) = s 41 (10 * n + i) ∧ s' 40 (10 * n + i) = s 40 (10 * n + i) ∧ s' 42 (10 * n + i) = s 42 (10 * n + i) ∧ s' 43 (10 * n + i) = s 43 (10 * n + i)) : SegOK S st M comb lim w s' n i := by
  obtain ⟨h1, h2, h3, h4⟩ := h
  obtain ⟨e1, e2, e3, e4⟩ := e
  exact ⟨e1.trans h1, e2.trans h2, e3.trans h3, e4.trans h4⟩
theorem sep_step {S : Int32 → Int32 → Int32} {σ σ3 u : Sg} (hA : AT S u) {w : Int32} (hc : vp_in (σ 14 2) 4) {n i : Nat} (hn : n < 8) (hi : i < 10) (e39 : u 39 = σ3 39) (e27 : u 27 = σ 27) : Kp [40, 41, 42, 43] u (b_X3_separate_44 σ (if w = 1 then 0 else f_X8_comb σ) n i u) ∧ SegOK S (σ 27) (σ3 39) (σ 14 2) (σ 14 1) w (b_X3_separate_44 σ (if w = 1 then 0 else f_X8_comb σ) n i u) n i ∧ ∀ k, ¬ k = 10 * n + i → ∀ c, (b_X3_separate_44 σ (if w = 1 then 0 else f_X8_comb σ) n i u) c k = u c k := by
  have hway : f_X3_wayFor u (nI n) (f_X10_placeOf (nI n) (nI i)) (if w = 1 then 0 else f_X8_comb σ) (8 * f_X8_limit σ) = wayS (σ3 39) (σ 14 2) (σ 14 1) w n i := by
    rw [pl_10, ← e39]
    exact way_cls u hn hi hc
  rw [b_X3_separate_44_eq, hway]
  dsimp only
  obtain ⟨-, o1, o2, o3⟩ := way_ok (σ3 39) (σ 14 2) (σ 14 1) w hn i
  unfold SegOK
  generalize wayS (σ3 39) (σ 14 2) (σ 14 1) w n i = v at *
  rw [f_X3_splitSegment_eq]
  dsimp only
  rw [split_cls hA hn i o1 o2 o3, pl_10, nI_clamp (by omega), e39, e27]
  generalize segS S (σ 27) n i v = g
  refine ⟨(((Kp.sw (by decide) _ _ _).tr (Kp.sw (by decide) _ _ _)).tr (Kp.sw (by decide) _ _ _)).tr (Kp.sw (by decide) _ _ _), ⟨?_, ?_, ?_, ?_⟩, fun k hk c => ?_⟩
  · rw [sw_cell (show ¬ (41 : Nat) = 43 by decide), sw_cell (show ¬ (41 : Nat) = 42 by decide), sw_same]
  · rw [sw_cell (show ¬ (40 : Nat) = 43 by decide), sw_cell (show ¬ (40 : Nat) = 42 by decide), sw_cell (show ¬ (40 : Nat) = 41 by decide), sw_same]
  · rw [sw_cell (show ¬ (42 : Nat) = 43 by decide), sw_same]
  · rw [sw_same]
  · rw [sw_place hk, sw_place hk, sw_place hk, sw_place hk]
theorem sep_cls {S : Int32 → Int32 → Int32} {σ τ : Sg} (hA : AT S σ) {w : Int32} (hc : vp_in (σ 14 2) 4) (hτ : f_X3_separate σ w = τ) : (∀ n i, n < 8 → i < 10 → τ 39 (10 * n + i) = MS S (σ 27 n) n i) ∧ (∀ n i, n < 8 → i < 10 → SegOK S (σ 27) (τ 39) (σ 14 2) (σ 14 1) w τ n i) ∧ Kp [39, 40, 41, 42, 43] σ τ := by
  obtain ⟨u1, u2⟩ := sums_cls hA
  have e : τ = loopF (b_X3_separate_34 σ (if w = 1 then 0 else f_X8_comb σ)) 8 (f_X3_sumUp σ) := hτ.symm.trans (f_X3_separate_eq σ w)
  subst e
  clear hτ
  generalize hσ3 : f_X3_sumUp σ = σ3 at u1 u2
  have key := nest (B := b_X3_separate_34 σ (if w = 1 then 0 else f_X8_comb σ)) (I := σ3) (fun p s => Kp [40, 41, 42, 43] σ3 s ∧ ∀ n i, n < 8 → i < 10 → 10 * n + i < p → SegOK S (σ 27) (σ3 39) (σ 14 2) (σ 14 1) w s n i) ⟨Kp.rf _, fun n i _ _ h => absurd h (by omega)⟩ (fun n s hn hI => by
    rw [b_X3_separate_34_eq]
    dsimp only
    refine loopF_inv (B := b_X3_separate_44 σ (if w = 1 then 0 else f_X8_comb σ) n) (N := 10) (I := s) (fun i s => Kp [40, 41, 42, 43] σ3 s ∧ ∀ n' i', n' < 8 → i' < 10 → 10 * n' + i' < 10 * n + i → SegOK S (σ 27) (σ3 39) (σ 14 2) (σ 14 1) w s n' i') hI (fun i u hi hJ => ?_)
    obtain ⟨j1, j2⟩ := hJ
    have e39 : u 39 = σ3 39 := j1 39 (by decide)
    have e27 : u 27 = σ 27 := (j1 27 (by decide)).trans (u2 27 (by decide))
    have uA : AT S u := hA.k (fun k a c => (j1 k (fun q => by
      simp only [List.mem_cons, List.mem_nil_iff, or_false] at q
      omega)).trans (u2 k (fun q => by
      simp only [List.mem_cons, List.mem_nil_iff, or_false] at q
      omega)))
    obtain ⟨k1, k2, k3⟩ := sep_step (w := w) uA hc hn hi e39 e27
    refine ⟨j1.tr k1, fun n' i' hn' hi' hlt => ?_⟩
    by_cases q : 10 * n' + i' = 10 * n + i
    · have en : n' = n := by omega
      have ei : i' = i := by omega
      subst en ei
      exact k2
    · exact (j2 n' i' hn' hi' (by omega)).keep ⟨k3 _ q _, k3 _ q _, k3 _ q _, k3 _ q _⟩)
  obtain ⟨k1, k2⟩ := key
  generalize loopF (b_X3_separate_34 σ (if w = 1 then 0 else f_X8_comb σ)) 8 σ3 = τ at k1 k2 ⊢
  have e39 : τ 39 = σ3 39 := k1 39 (by decide)
  rw [e39]
  exact ⟨u1, fun n i hn hi => k2 n i hn hi (by omega), (u2.up (by decide)).tr (k1.up (by decide))⟩
