/-! the calls of the law, with arguments that it takes -/
theorem low_in (y x : Int32) (n : Nat) (hx : x = nI n) (h0 : 0 < n) (hn : n < 2 ^ 31) : ∃ m, m < n ∧ f_L_low y x = nI m := by
  rw [hx]; exact low_at y h0 hn
theorem iw_b {x a b : Int32} (p q : Int) (ea : a.toInt = p) (eb : b.toInt = q) (h : p ≤ x.toInt ∧ x.toInt ≤ q) : ¬ f_X10_isWithin x a b = 0 := by
  refine iw_ne.mpr ⟨i32_le.mpr ?_, i32_le.mpr ?_⟩
  · rw [ea]; exact h.1
  · rw [eb]; exact h.2
theorem ipt_of {a b c : Int32} (ha : 0 ≤ a.toInt ∧ a.toInt ≤ 200) (hb : -60 ≤ b.toInt ∧ b.toInt ≤ 60) (hc : -60 ≤ c.toInt ∧ c.toInt ≤ 60) : ¬ f_X10_isPaint a b c = 0 := by
  have e : f_X10_isPaint a b c = 1 := (if_neg (iw_b 0 200 (by decide) (by decide) ha)).trans ((if_neg (iw_b (-60) 60 (by decide) (by decide) hb)).trans (if_neg (iw_b (-60) 60 (by decide) (by decide) hc)))
  rw [e]; decide
theorem nI_bd {m N : Nat} (h : m < N) (hN : N < 2 ^ 30) {M : Int} (hM : M = (N : Int) - 1) : 0 ≤ (nI m).toInt ∧ (nI m).toInt ≤ M := by
  rw [nI_toInt (by omega)]; omega
theorem sub_bd {m k N : Nat} (h : m < N) (hN : N < 2 ^ 30) {x : Int32} (hx : x = nI k) (hk : k < 2 ^ 30) {lo hi : Int} (h1 : lo = -(k : Int)) (h2 : hi = (N : Int) - 1 - k) : lo ≤ (nI m - x).toInt ∧ (nI m - x).toInt ≤ hi := by
  rw [hx, pk_sub_toInt (by omega) hk]; omega
def MJ (σ : Sg) : Prop := PR σ ∧ (∀ k, -4 ≤ (σ 5 k).toInt ∧ (σ 5 k).toInt ≤ 4) ∧ vp_in (σ 14 2) 4 ∧ vp_in (σ 14 3) 3 ∧ vp_in (σ 10 1) 61
def HK (d : Nat) (σ : Sg) : Prop := σ 0 10 = nI d ∧ (1 ≤ d → ∀ x, x < 40 → σ 53 x = σ 50 x ∧ σ 54 x = σ 50 (40 + x))
theorem HK.kp {d : Nat} {σ τ : Sg} {L : List Nat} (h : HK d σ) (k : Kp L σ τ) (h0 : ¬ 0 ∈ L) (h50 : ¬ 50 ∈ L) (h53 : ¬ 53 ∈ L) (h54 : ¬ 54 ∈ L) : HK d τ := by
  unfold HK
  rw [k 0 h0, k 50 h50, k 53 h53, k 54 h54]; exact h
theorem z_toInt : (0 : Int32).toInt = 0 := by decide
theorem seg_ok {σ : Sg} (hM : MJ σ) {x y a b c : Int32} (hx : vp_in x 8) (hy : vp_in y 10) (ha : 0 ≤ a.toInt ∧ a.toInt ≤ 200) (hb : -60 ≤ b.toInt ∧ b.toInt ≤ 60) (hc : -60 ≤ c.toInt ∧ c.toInt ≤ 60) : 0 ≤ (f_X10_setSegment σ x y a b c).1 ∧ MJ (f_X10_setSegment σ x y a b c).2 ∧ Kp [2, 3, 4] σ (f_X10_setSegment σ x y a b c).2 := by
  rw [f_X10_setSegment_eq, if_neg (ip_of hx hy), if_neg (ipt_of ha hb hc)]
  dsimp only
  have k := kp_paint σ (f_X10_placeOf x y) a b c
  refine ⟨i32_le.mpr ?_, ⟨pr_paint hM.1 _ ha hb hc, ?_⟩, k⟩
  · rw [z_toInt]; exact (hM.1.1 _).1
  · rw [k 5 (by decide), k 14 (by decide), k 10 (by decide)]; exact hM.2
theorem paint_1 (σ : Sg) (p a b c : Int32) : (f_X7_paint σ p a b c).1 = if σ 2 p.toNatClampNeg = a ∧ σ 3 p.toNatClampNeg = b ∧ σ 4 p.toNatClampNeg = c then 0 else 1 := by
  rw [f_X7_paint_eq]
  dsimp only
  by_cases h1 : σ 2 p.toNatClampNeg = a
  · by_cases h2 : σ 3 p.toNatClampNeg = b
    · by_cases h3 : σ 4 p.toNatClampNeg = c
      · simp [h1, h2, h3]
      · simp [h1, h2, h3]
    · simp [h1, h2]
  · simp [h1]
def Pd (n : Nat) (a b c : Int32) (m : Nat) (σ : Sg) : Prop := ∀ i, i < m → σ 2 (n * 10 + i) = a ∧ σ 3 (n * 10 + i) = b ∧ σ 4 (n * 10 + i) = c
theorem pd_step {n m : Nat} {a b c : Int32} {σ : Sg} (h : Pd n a b c m σ) (hb : n * 10 + m < 2 ^ 31) : Pd n a b c (m + 1) (f_X7_paint σ (nI (n * 10 + m)) a b c).2 := by
  intro i hi
  obtain ⟨p1, p2, p3⟩ := paint_2 σ (nI (n * 10 + m)) a b c
  rw [p1, p2, p3, nI_clamp hb, upd_at, upd_at, upd_at]
  by_cases k : n * 10 + i = n * 10 + m
  · rw [if_pos k, if_pos k, if_pos k]; exact ⟨rfl, rfl, rfl⟩
  · rw [if_neg k, if_neg k, if_neg k]; exact h i (by omega)
theorem pd_same {n m j : Nat} {a b c : Int32} {σ : Sg} (h : Pd n a b c m σ) (hb : n * 10 + j < 2 ^ 31) : Pd n a b c m (f_X7_paint σ (nI (n * 10 + j)) a b c).2 := by
  intro i hi
  obtain ⟨p1, p2, p3⟩ := paint_2 σ (nI (n * 10 + j)) a b c
  rw [p1, p2, p3, nI_clamp hb, upd_at, upd_at, upd_at]
  by_cases k : n * 10 + i = n * 10 + j
  · rw [if_pos k, if_pos k, if_pos k]; exact ⟨rfl, rfl, rfl⟩
  · rw [if_neg k, if_neg k, if_neg k]; exact h i hi
theorem mi_rest {σ τ : Sg} (hM : MJ σ) (k : Kp [2, 3, 4] σ τ) (p : PR τ) : MJ τ := by
  refine ⟨p, ?_⟩
  rw [k 5 (by decide), k 14 (by decide), k 10 (by decide)]; exact hM.2
theorem fill_ok {σ : Sg} (hM : MJ σ) {n : Nat} (hn : n < 8) {a b c : Int32} (ha : 0 ≤ a.toInt ∧ a.toInt ≤ 200) (hb : -60 ≤ b.toInt ∧ b.toInt ≤ 60) (hc : -60 ≤ c.toInt ∧ c.toInt ≤ 60) : (∃ k, k ≤ 10 ∧ (f_X10_fill σ (nI n) a b c).1 = nI k) ∧ MJ (f_X10_fill σ (nI n) a b c).2 ∧ Kp [2, 3, 4] σ (f_X10_fill σ (nI n) a b c).2 ∧ Pd n a b c 10 (f_X10_fill σ (nI n) a b c).2 ∧ (Pd n a b c 10 σ → (f_X10_fill σ (nI n) a b c).1 = 0) := by
  have e : f_X10_fill σ (nI n) a b c = loopF (b_X10_fill_29 (nI n) a b c) 10 (0, σ) := (if_neg (il_of (vp_in_nI hn (by decide)))).trans (if_neg (ipt_of ha hb hc))
  rw [e]
  have key := loopF_inv (B := b_X10_fill_29 (nI n) a b c) (N := 10) (I := ((0 : Int32), σ)) (fun j s => (∃ k, k ≤ j ∧ s.1 = nI k) ∧ PR s.2 ∧ Kp [2, 3, 4] σ s.2 ∧ Pd n a b c j s.2 ∧ (Pd n a b c 10 σ → s.1 = 0 ∧ Pd n a b c 10 s.2)) ⟨⟨0, Nat.le_refl 0, rfl⟩, hM.1, Kp.rf _, fun i hi => absurd hi (by omega), fun h => ⟨rfl, h⟩⟩ (fun j s hj hI => by
    obtain ⟨⟨k, hk, ek⟩, i2, i3, i4, i5⟩ := hI
    have pl : f_X10_placeOf (nI n) (nI j) = nI (n * 10 + j) := pl_nI n j
    have hb0 : n * 10 + j < 2 ^ 31 := by omega
    have eB : b_X10_fill_29 (nI n) a b c j s = ((if (f_X7_paint s.2 (nI (n * 10 + j)) a b c).1 = 0 then s.1 else s.1 + 1), (f_X7_paint s.2 (nI (n * 10 + j)) a b c).2) := by
      rw [b_X10_fill_29_eq, pl]
    rw [eB]
    refine ⟨?_, pr_paint i2 _ ha hb hc, i3.tr (kp_paint _ _ _ _ _), pd_step i4 hb0, fun h => ?_⟩
    · by_cases q : (f_X7_paint s.2 (nI (n * 10 + j)) a b c).1 = 0
      · exact ⟨k, by omega, (if_pos q).trans ek⟩
      · exact ⟨k + 1, by omega, (if_neg q).trans (by rw [ek, nI_1])⟩
    · obtain ⟨h1, h2⟩ := i5 h
      have hp : (f_X7_paint s.2 (nI (n * 10 + j)) a b c).1 = 0 := by
        rw [paint_1, nI_clamp hb0]; exact if_pos (h2 j hj)
      exact ⟨(if_pos hp).trans h1, pd_same h2 hb0⟩)
  obtain ⟨k1, k2, k3, k4, k5⟩ := key
  exact ⟨k1, mi_rest hM k3 k2, k3, k4, fun h => (k5 h).1⟩
theorem miss_at (σ : Sg) {n : Nat} (hn : n < 8) (a : Int32) : f_X10_miss σ (nI n) a = (f_X10_oneIf (σ 9 n), sw σ 9 n (vp_nar .boolean a)) := by
  rw [f_X10_miss_eq, if_neg (il_of (vp_in_nI hn (by decide))), nI_clamp (by omega)]
theorem mi_9 {σ : Sg} (hM : MJ σ) (n : Nat) (v : Int32) : MJ (sw σ 9 n v) := by
  have k : Kp [9] σ (sw σ 9 n v) := Kp.sw (by decide) _ _ _
  unfold MJ PR
  rw [k 2 (by decide), k 3 (by decide), k 4 (by decide), k 6 (by decide), k 8 (by decide), k 5 (by decide), k 14 (by decide), k 10 (by decide)]
  exact hM
theorem one_0 : f_X10_oneIf (vp_nar .boolean 0) = 0 := by decide +kernel
theorem line_ok {σ : Sg} (hM : MJ σ) {n : Nat} (hn : n < 8) {a b c d : Int32} (ha : -4 ≤ a.toInt ∧ a.toInt ≤ 4) (hb : 0 ≤ b.toInt ∧ b.toInt ≤ 40) (hc : 0 ≤ c.toInt ∧ c.toInt ≤ 3) (hd : 0 ≤ d.toInt ∧ d.toInt ≤ 9) : ¬ (f_X10_setLine σ (nI n) a b c d).1 < -4 ∧ MJ (f_X10_setLine σ (nI n) a b c d).2 ∧ Kp [5, 6, 7, 8, 9] σ (f_X10_setLine σ (nI n) a b c d).2 ∧ (f_X10_setLine σ (nI n) a b c d).2 9 n = vp_nar .boolean 0 := by
  rw [f_X10_setLine_eq, if_neg (il_of (vp_in_nI hn (by decide))), if_neg (iw_b (-4) 4 (by decide) (by decide) ha), if_neg (iw_b 0 40 (by decide) (by decide) hb), if_neg (iw_b 0 3 (by decide) (by decide) hc), if_neg (iw_b 0 9 (by decide) (by decide) hd)]
  dsimp only
  rw [nI_clamp (by omega)]
  have k : Kp [5, 6, 7, 8, 9] σ (sw (sw (sw (sw (sw σ 5 n a) 6 n b) 7 n c) 8 n d) 9 n (vp_nar .boolean 0)) := ((((Kp.sw (by decide) _ _ _).tr (Kp.sw (by decide) _ _ _)).tr (Kp.sw (by decide) _ _ _)).tr (Kp.sw (by decide) _ _ _)).tr (Kp.sw (by decide) _ _ _)
  have e5 : (sw (sw (sw (sw (sw σ 5 n a) 6 n b) 7 n c) 8 n d) 9 n (vp_nar .boolean 0)) 5 = upd (σ 5) n a := rfl
  have e6 : (sw (sw (sw (sw (sw σ 5 n a) 6 n b) 7 n c) 8 n d) 9 n (vp_nar .boolean 0)) 6 = upd (σ 6) n b := rfl
  have e8 : (sw (sw (sw (sw (sw σ 5 n a) 6 n b) 7 n c) 8 n d) 9 n (vp_nar .boolean 0)) 8 = upd (σ 8) n d := rfl
  refine ⟨fun q => ?_, ?_, k, sw_same _ _ _ _⟩
  · rw [i32_lt, show (-4 : Int32).toInt = -4 by decide] at q
    have := (hM.2.1 n).1
    omega
  · unfold MJ PR
    rw [e5, e6, e8, k 2 (by decide), k 3 (by decide), k 4 (by decide), k 14 (by decide), k 10 (by decide)]
    obtain ⟨⟨h1, h2, h3, h4, h5⟩, h6, h7⟩ := hM
    exact ⟨⟨h1, h2, h3, bnd_upd h4 hb n, bnd_upd h5 hd n⟩, bnd_upd h6 ha n, h7⟩
theorem std_ok {σ : Sg} (hM : MJ σ) {x : Int32} (hx : 0 ≤ x.toInt ∧ x.toInt ≤ 1) : (f_X10_setStandard σ x).1 = f_X10_count σ 13 ∧ f_X10_count (f_X10_setStandard σ x).2 13 = x ∧ MJ (f_X10_setStandard σ x).2 ∧ Kp [1] σ (f_X10_setStandard σ x).2 := by
  have e : f_X10_setStandard σ x = (σ 1 8, sw σ 1 8 x) := if_neg (iw_b 0 1 (by decide) (by decide) hx)
  rw [e, cn_13, cn_13]
  have k : Kp [1] σ (sw σ 1 8 x) := Kp.sw (by decide) _ _ _
  refine ⟨rfl, by dsimp only; rw [sw_same], ?_, k⟩
  show MJ (sw σ 1 8 x)
  unfold MJ PR
  rw [k 2 (by decide), k 3 (by decide), k 4 (by decide), k 6 (by decide), k 8 (by decide), k 5 (by decide), k 14 (by decide), k 10 (by decide)]
  exact hM
theorem cn_set (σ : Sg) {n : Nat} (hn : n < 4) : f_X10_count σ (15 + nI n) = σ 14 n := by
  rcases (show n = 0 ∨ n = 1 ∨ n = 2 ∨ n = 3 by omega) with rfl | rfl | rfl | rfl
  · exact (congrArg (f_X10_count σ) (show 15 + nI 0 = 15 by decide +kernel)).trans (cn_15 σ)
  · exact (congrArg (f_X10_count σ) (show 15 + nI 1 = 16 by decide +kernel)).trans (cn_16 σ)
  · exact (congrArg (f_X10_count σ) (show 15 + nI 2 = 17 by decide +kernel)).trans (cn_17 σ)
  · exact (congrArg (f_X10_count σ) (show 15 + nI 3 = 18 by decide +kernel)).trans (cn_18 σ)
theorem set_ok {σ : Sg} (hM : MJ σ) {n : Nat} (hn : n < 4) {y : Int32} (ha : ¬ f_X8_allows (nI n) y = 0) (h2 : n = 2 → vp_in y 4) (h3 : n = 3 → vp_in y 3) : (f_X10_set σ (nI n) y).1 = f_X10_count σ (15 + nI n) ∧ f_X10_count (f_X10_set σ (nI n) y).2 (15 + nI n) = y ∧ MJ (f_X10_set σ (nI n) y).2 ∧ Kp [14] σ (f_X10_set σ (nI n) y).2 := by
  have e : f_X10_set σ (nI n) y = (σ 14 n, sw σ 14 n y) := by
    rw [f_X10_set_eq, if_neg (iw_b 0 3 (by decide) (by decide) (nI_bd (N := 4) hn (by decide) (by decide))), if_neg ha, nI_clamp (by omega)]
  rw [e, cn_set _ hn, cn_set _ hn]
  have k : Kp [14] σ (sw σ 14 n y) := Kp.sw (by decide) _ _ _
  refine ⟨rfl, by dsimp only; rw [sw_same], ?_, k⟩
  have e14 : (sw σ 14 n y) 14 = upd (σ 14) n y := rfl
  show MJ (sw σ 14 n y)
  unfold MJ PR
  rw [k 2 (by decide), k 3 (by decide), k 4 (by decide), k 6 (by decide), k 8 (by decide), k 5 (by decide), k 10 (by decide), e14, upd_at, upd_at]
  obtain ⟨p, h5, v2, v3, v10⟩ := hM
  refine ⟨p, h5, ?_, ?_, v10⟩
  · by_cases q : 2 = n
    · rw [if_pos q]; exact h2 q.symm
    · rw [if_neg q]; exact v2
  · by_cases q : 3 = n
    · rw [if_pos q]; exact h3 q.symm
    · rw [if_neg q]; exact v3
