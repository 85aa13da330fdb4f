section
/-! decode: the bursts -/
theorem upd_upd (f : Nat → Int32) (j : Nat) (a b : Int32) : upd (upd f j a) j b = upd f j b := funext fun k => by
  rw [upd_at, upd_at, upd_at]
  by_cases q : k = j
  · rw [if_pos q, if_pos q]
  · rw [if_neg q, if_neg q, if_neg q]
theorem cnt8_le (y : Int32) : cnt8 y ≤ 8 := by
  unfold cnt8
  split <;> omega
theorem burst_sum {t s u : Sg} (hA : AT (f_X11_signal t) s) (hu : SK t u) (hb : bndP t) {j : Nat} (hj : j < 8) (y : Int32) : (loopF (b_X11_findBursts_44 j y) (cnt8 y) (sw (sw u 69 j 0) 70 j 0)) 69 = upd (u 69) j (loopF (b_X1_sumUp_9 s (nI j) y) (cnt8 y) (0, 0)).1 ∧ (loopF (b_X11_findBursts_44 j y) (cnt8 y) (sw (sw u 69 j 0) 70 j 0)) 70 = upd (u 70) j (loopF (b_X1_sumUp_9 s (nI j) y) (cnt8 y) (0, 0)).2 ∧ Kp [69, 70] u (loopF (b_X11_findBursts_44 j y) (cnt8 y) (sw (sw u 69 j 0) 70 j 0)) ∧ bd (loopF (b_X1_sumUp_9 s (nI j) y) (cnt8 y) (0, 0)).1 3200 ∧ bd (loopF (b_X1_sumUp_9 s (nI j) y) (cnt8 y) (0, 0)).2 3200 := by
  have c8 := cnt8_le y
  have key := two (B := b_X1_sumUp_9 s (nI j) y) (B' := b_X11_findBursts_44 j y) (N := cnt8 y) (I := (0, 0)) (I' := sw (sw u 69 j 0) 70 j 0) (fun i a w => w 69 = upd (u 69) j a.1 ∧ w 70 = upd (u 70) j a.2 ∧ Kp [69, 70] u w ∧ bd a.1 (400 * i) ∧ bd a.2 (400 * i)) ⟨by rw [sw_row (show ¬ (69 : Nat) = 70 by decide), sw_at, if_pos rfl], by rw [sw_at, if_pos rfl, sw_row (show ¬ (70 : Nat) = 69 by decide)], (Kp.sw (by decide) _ _ _).tr (Kp.sw (by decide) _ _ _), bd_lit (by decide), bd_lit (by decide)⟩ (fun i a w hi hR => by
    obtain ⟨a1, a2⟩ := a
    obtain ⟨r1, r2, r3, r4, r5⟩ := hR
    dsimp only at r1 r2 r4 r5
    have hw : SK t w := hu.k r3 (by decide)
    have e2 : ∀ v, f_X11_signal (sw w 69 j v) = f_X11_signal w := fun v => funext fun a => funext fun c => ((SK.rf w).k (Kp.sw (L := [69]) (by decide) w j v) (by decide)).sig a c
    rw [b_X1_sumUp_9_eq, b_X11_findBursts_44_eq]
    dsimp only
    rw [nI_clamp (by omega), e2, hA _ _ (vp_in_nI hj (by decide)), hw.sig, f_X11_rest_eq, f_X10_turnAt_eq, sa_a, sa_b, sw_cell (show ¬ (70 : Nat) = 69 by decide), r1, r2, upd_self, upd_self]
    have sb := sig_bd hb (nI j) (y + nI i)
    refine ⟨?_, ?_, r3.tr ((Kp.sw (by decide) _ _ _).tr (Kp.sw (by decide) _ _ _)), ?_, ?_⟩
    · rw [sw_row (show ¬ (69 : Nat) = 70 by decide), sw_at, if_pos rfl, r1, upd_upd]
    · rw [sw_at, if_pos rfl, sw_row (show ¬ (70 : Nat) = 69 by decide), r2, upd_upd]
    · exact bd_le (bd_add (B := 400) r4 (bd_le (bd_mul (A := 400) (B := 1) sb (bd_a _) (by decide)) (by decide)) (by omega)) (by omega)
    · exact bd_le (bd_add (B := 400) r5 (bd_le (bd_mul (A := 400) (B := 1) sb (bd_b _) (by decide)) (by decide)) (by omega)) (by omega))
  obtain ⟨r1, r2, r3, r4, r5⟩ := key
  exact ⟨r1, r2, r3, bd_le r4 (by omega), bd_le r5 (by omega)⟩
/-- a pair of lines counted -/
def pst (g q : Nat → Int32) (thr : Int32) (i : Nat) (c : Int32 × Int32) : Int32 × Int32 := if g i = 0 then c else if g (i + 1) = 0 then c else if 0 ≤ q i * q (i + 1) then (c.1, c.2 + 1) else if i_abs (q i) < thr then (c.1, c.2 + 1) else if i_abs (q (i + 1)) < thr then (c.1, c.2 + 1) else (c.1 + 1, c.2)
theorem pair_cls (s : Sg) {i : Nat} (hi : i + 1 < 8) (thr : Int32) : Kp [30] s (f_X1_countPair s (nI (i + 1)) thr) ∧ ((f_X1_countPair s (nI (i + 1)) thr) 30 4, (f_X1_countPair s (nI (i + 1)) thr) 30 5) = pst (s 33) (s 32) thr i (s 30 4, s 30 5) := by
  rw [f_X1_countPair_eq, if_neg (show ¬ nI (i + 1) < 1 from nI_nlt (b := 1) (by omega) (by omega)), nI_pred, nI_clamp (by omega), nI_clamp (by omega)]
  unfold pst
  dsimp only
  by_cases c1 : s 33 (i + 1) = 0
  · rw [if_pos c1, if_pos c1, ite_self]; exact ⟨Kp.rf _, rfl⟩
  · rw [if_neg c1, if_neg c1]
    by_cases c2 : s 33 i = 0
    · rw [if_pos c2, if_pos c2]; exact ⟨Kp.rf _, rfl⟩
    · rw [if_neg c2, if_neg c2]
      by_cases c3 : 0 ≤ s 32 i * s 32 (i + 1)
      · rw [if_pos c3, if_pos c3]; exact ⟨Kp.sw (by decide) _ _ _, by rw [sw_same, sw_place (show ¬ (4 : Nat) = 5 by decide)]⟩
      · rw [if_neg c3, if_neg c3]
        by_cases c4 : i_abs (s 32 i) < thr
        · rw [if_pos c4, if_pos c4]; exact ⟨Kp.sw (by decide) _ _ _, by rw [sw_same, sw_place (show ¬ (4 : Nat) = 5 by decide)]⟩
        · rw [if_neg c4, if_neg c4]
          by_cases c5 : i_abs (s 32 (i + 1)) < thr
          · rw [if_pos c5, if_pos c5]; exact ⟨Kp.sw (by decide) _ _ _, by rw [sw_same, sw_place (show ¬ (4 : Nat) = 5 by decide)]⟩
          · rw [if_neg c5, if_neg c5]; exact ⟨Kp.sw (by decide) _ _ _, by rw [sw_same, sw_place (show ¬ (5 : Nat) = 4 by decide)]⟩
theorem col_eq {on gg pv : Int32} {G B : Nat} (ho : on = 0 ∨ on = 1) (hg : gg = 0 ∨ gg = 1) (hp : pv = 0 ∨ pv = 1) (hG : G ≤ 8) (hB : B ≤ 8) (h0 : pv = 0 → G = 0 ∧ 1 ≤ B) (h1 : ¬ pv = 0 → B = 0 ∧ 1 ≤ G) : (if (if gg = 0 then nI B + 1 else 0) < 2 then (if 2 ≤ (if gg = 0 then 0 else nI G + 1) then 1 else (if on = 0 then (0 : Int32) else 1)) else 0) = (if gg = pv then gg else on) := by
  have n : (if on = 0 then (0 : Int32) else 1) = on := by rcases ho with rfl | rfl <;> rfl
  rw [n, nI_1, nI_1]
  rcases hg with rfl | rfl
  · simp only [if_true]
    rcases hp with rfl | rfl
    · obtain ⟨rfl, b1⟩ := h0 rfl
      rw [if_neg (show ¬ nI (B + 1) < 2 from nI_nlt (b := 2) (by omega) (by omega)), if_pos rfl]
    · obtain ⟨rfl, b1⟩ := h1 (by decide)
      rw [if_pos (show nI (0 + 1) < 2 by decide), if_neg (show ¬ (2 : Int32) ≤ 0 by decide), if_neg (show ¬ (0 : Int32) = 1 by decide)]
  · simp only [if_neg (show ¬ (1 : Int32) = 0 by decide)]
    rcases hp with rfl | rfl
    · obtain ⟨rfl, b1⟩ := h0 rfl
      rw [if_pos (show (0 : Int32) < 2 by decide), if_neg (show ¬ 2 ≤ nI (0 + 1) by decide), if_neg (show ¬ (1 : Int32) = 0 by decide)]
    · obtain ⟨rfl, b1⟩ := h1 (by decide)
      rw [if_pos (show (0 : Int32) < 2 by decide), if_pos (show 2 ≤ nI (G + 1) from nI_le (a := 2) (by omega) (by omega)), if_pos rfl]
theorem col_eq0 {on gg : Int32} (ho : on = 0 ∨ on = 1) (hg : gg = 0 ∨ gg = 1) : (if (if gg = 0 then nI 0 + 1 else 0) < 2 then (if 2 ≤ (if gg = 0 then 0 else nI 0 + 1) then 1 else (if on = 0 then (0 : Int32) else 1)) else 0) = on := by
  rcases ho with rfl | rfl <;> rcases hg with rfl | rfl <;> decide +kernel
def RMi (σ t : Sg) (thr : Int32) (j : Nat) (s : Int32 × Sg) (u : Int32 × Int32 × Int32 × Sg) : Prop := s.1 = u.2.2.1 ∧ (u.2.2.1 = 0 ∨ u.2.2.1 = 1) ∧ s.2 31 = u.2.2.2 69 ∧ s.2 32 = u.2.2.2 70 ∧ s.2 33 = u.2.2.2 71 ∧ s.2 34 = u.2.2.2 72 ∧ (∃ G B, G ≤ j ∧ B ≤ j ∧ u.1 = nI G ∧ u.2.1 = nI B ∧ (0 < j → (s.2 33 (j - 1) = 0 → G = 0 ∧ 1 ≤ B) ∧ (¬ s.2 33 (j - 1) = 0 → B = 0 ∧ 1 ≤ G)) ∧ (j = 0 → G = 0 ∧ B = 0)) ∧ (∀ i, i < j → bd (s.2 32 i) 3200) ∧ (∀ i, i < j → s.2 33 i = 0 ∨ s.2 33 i = 1) ∧ (s.2 30 4, s.2 30 5) = loopF (pst (s.2 33) (s.2 32) thr) (j - 1) (0, 0) ∧ Kp [30, 31, 32, 33, 34] σ s.2 ∧ Kp [69, 70, 71, 72] t u.2.2.2
def ggB (thr : Int32) (j : Nat) (a : Sg) : Int32 := vp_nar .boolean (if ((i_abs (a 31 (nI j).toNatClampNeg)) + (i_abs (a 32 (nI j).toNatClampNeg))) < (4 * thr) then 0 else 1)
def mBd (thr : Int32) (j : Nat) (on : Int32) (a : Sg) : Int32 × Sg := (if nI j ≤ 0 then on else (if a 33 (nI j).toNatClampNeg = a 33 (nI j - 1).toNatClampNeg then a 33 (nI j).toNatClampNeg else on), sw (if nI j ≤ 0 then a else (if a 33 (nI j).toNatClampNeg = a 33 (nI j - 1).toNatClampNeg then f_X1_countPair a (nI j) thr else a)) 34 (nI j).toNatClampNeg (vp_nar .boolean (if nI j ≤ 0 then on else (if a 33 (nI j).toNatClampNeg = a 33 (nI j - 1).toNatClampNeg then a 33 (nI j).toNatClampNeg else on))))
theorem mBd_eq (thr : Int32) (j : Nat) (on : Int32) (a : Sg) : mBd thr j on a = (if nI j ≤ 0 then on else (if a 33 (nI j).toNatClampNeg = a 33 (nI j - 1).toNatClampNeg then a 33 (nI j).toNatClampNeg else on), sw (if nI j ≤ 0 then a else (if a 33 (nI j).toNatClampNeg = a 33 (nI j - 1).toNatClampNeg then f_X1_countPair a (nI j) thr else a)) 34 (nI j).toNatClampNeg (vp_nar .boolean (if nI j ≤ 0 then on else (if a 33 (nI j).toNatClampNeg = a 33 (nI j - 1).toNatClampNeg then a 33 (nI j).toNatClampNeg else on)))) := rfl
theorem mB_b (thr : Int32) (j : Nat) (on : Int32) (s : Sg) : b_X1_measure_16 thr j (on, s) = mBd thr j on (sw (f_X1_sumUp s (nI j) (s 27 (nI j).toNatClampNeg + 8)) 33 (nI j).toNatClampNeg (ggB thr j (f_X1_sumUp s (nI j) (s 27 (nI j).toNatClampNeg + 8)))) := rfl
def ggM (j : Nat) (a : Sg) : Int32 := vp_nar .boolean (if ((f_X11_size (a 69 (nI j).toNatClampNeg)) + (f_X11_size (a 70 (nI j).toNatClampNeg))) < (4 * (a 62 (0 : Int32).toNatClampNeg)) then 0 else 1)
def colM (g0 b0 co x : Int32) : Int32 := if (if x = 0 then b0 + 1 else 0) < 2 then (if 2 ≤ (if x = 0 then 0 else g0 + 1) then 1 else (if co = 0 then 0 else 1)) else 0
def mMd (j : Nat) (g0 b0 co : Int32) (a : Sg) : Int32 × Int32 × Int32 × Sg := (if a 71 (nI j).toNatClampNeg = 0 then 0 else g0 + 1, if a 71 (nI j).toNatClampNeg = 0 then b0 + 1 else 0, colM g0 b0 co (a 71 (nI j).toNatClampNeg), sw a 72 (nI j).toNatClampNeg (vp_nar .boolean (colM g0 b0 co (a 71 (nI j).toNatClampNeg))))
theorem mMd_eq (j : Nat) (g0 b0 co : Int32) (a : Sg) : mMd j g0 b0 co a = (if a 71 (nI j).toNatClampNeg = 0 then 0 else g0 + 1, if a 71 (nI j).toNatClampNeg = 0 then b0 + 1 else 0, colM g0 b0 co (a 71 (nI j).toNatClampNeg), sw a 72 (nI j).toNatClampNeg (vp_nar .boolean (colM g0 b0 co (a 71 (nI j).toNatClampNeg)))) := rfl
def tM (j : Nat) (u : Sg) (y : Int32) : Sg := loopF (b_X11_findBursts_44 j y) (cnt8 y) u
theorem mM_b (j : Nat) (g0 b0 co : Int32) (u : Sg) : b_X11_findBursts_9 j (g0, b0, co, u) = mMd j g0 b0 co (sw (tM j (sw (sw u 69 (nI j).toNatClampNeg 0) 70 (nI j).toNatClampNeg 0) ((sw (sw u 69 (nI j).toNatClampNeg 0) 70 (nI j).toNatClampNeg 0) 66 (nI j).toNatClampNeg + 8)) 71 (nI j).toNatClampNeg (ggM j (tM j (sw (sw u 69 (nI j).toNatClampNeg 0) 70 (nI j).toNatClampNeg 0) ((sw (sw u 69 (nI j).toNatClampNeg 0) 70 (nI j).toNatClampNeg 0) 66 (nI j).toNatClampNeg + 8)))) := rfl
theorem measure_step {σ t : Sg} (hA : AT (f_X11_signal t) σ) (hb : bndP t) (h27 : σ 27 = t 66) {thr : Int32} (hthr : t 62 0 = thr) (j : Nat) (s : Int32 × Sg) (u : Int32 × Int32 × Int32 × Sg) (hj : j < 8) (hR : RMi σ t thr j s u) : RMi σ t thr (j + 1) (b_X1_measure_16 thr j s) (b_X11_findBursts_9 j u) := by
  obtain ⟨on, s⟩ := s
  obtain ⟨g0, b0, co, u⟩ := u
  obtain ⟨r1, r2, r3, r4, r5, r6, ⟨G, B, hG, hB, r7, r8, r9, r10⟩, r11, r12, r13, r14, r15⟩ := hR
  dsimp only at r1 r2 r3 r4 r5 r6 r7 r8 r9 r10 r11 r12 r13 r14 r15
  subst r1 r7 r8
  have eA : AT (f_X11_signal t) s := hA.k (fun k a c => r14 k (fun q => by
    simp only [List.mem_cons, List.mem_nil_iff, or_false] at q
    omega))
  have eS : SK t u := (SK.rf t).k r15 (by decide)
  have ey : u 66 j = s 27 j := by rw [r15 66 (by decide), r14 27 (by decide), h27]
  have et : u 62 0 = thr := by rw [r15 62 (by decide), hthr]
  rw [mB_b, mM_b, f_X1_sumUp_eq]
  dsimp only
  rw [nI_clamp (by omega), sw_cell (show ¬ (66 : Nat) = 70 by decide), sw_cell (show ¬ (66 : Nat) = 69 by decide), ey]
  obtain ⟨w1, w2, w3, w4, w5⟩ := burst_sum eA eS hb hj (s 27 j + 8)
  unfold tM
  generalize loopF (b_X11_findBursts_44 j (s 27 j + 8)) (cnt8 (s 27 j + 8)) (sw (sw u 69 j 0) 70 j 0) = U at w1 w2 w3 ⊢
  generalize (loopF (b_X1_sumUp_9 s (nI j) (s 27 j + 8)) (cnt8 (s 27 j + 8)) (0, 0)).1 = P at w1 w4 ⊢
  generalize (loopF (b_X1_sumUp_9 s (nI j) (s 27 j + 8)) (cnt8 (s 27 j + 8)) (0, 0)).2 = Q at w2 w5 ⊢
  have hgg : (if i_abs P + i_abs Q < 4 * thr then (0 : Int32) else 1) = 0 ∨ (if i_abs P + i_abs Q < 4 * thr then (0 : Int32) else 1) = 1 := zo_ite (.inl rfl) (.inr rfl)
  have u62 : U 62 (0 : Int32).toNatClampNeg = thr := by rw [w3 62 (by decide)]; exact et
  have eg1 : ggB thr j (sw (sw s 31 j P) 32 j Q) = (if i_abs P + i_abs Q < 4 * thr then (0 : Int32) else 1) := by
    unfold ggB
    rw [nI_clamp (by omega), sw_cell (show ¬ (31 : Nat) = 32 by decide), sw_same, sw_same]
    exact (lv_narrowZ hgg).2.2
  have eg2 : ggM j U = (if i_abs P + i_abs Q < 4 * thr then (0 : Int32) else 1) := by
    unfold ggM
    rw [nI_clamp (by omega), u62, w1, w2, upd_self, upd_self, ← abs_size, ← abs_size]
    exact (lv_narrowZ hgg).2.2
  rw [eg1, eg2]
  generalize (if i_abs P + i_abs Q < 4 * thr then (0 : Int32) else 1) = gg at hgg ⊢
  rw [mBd_eq, mMd_eq, nI_clamp (by omega), sw_same, sw_same]
  have k7 : Kp [30, 31, 32, 33, 34] s (sw (sw (sw s 31 j P) 32 j Q) 33 j gg) := ((Kp.sw (by decide) _ _ _).tr (Kp.sw (by decide) _ _ _)).tr (Kp.sw (by decide) _ _ _)
  have e31 : (sw (sw (sw s 31 j P) 32 j Q) 33 j gg) 31 = upd (s 31) j P := by rw [sw_row (show ¬ (31 : Nat) = 33 by decide), sw_row (show ¬ (31 : Nat) = 32 by decide), sw_at, if_pos rfl]
  have e32 : (sw (sw (sw s 31 j P) 32 j Q) 33 j gg) 32 = upd (s 32) j Q := by rw [sw_row (show ¬ (32 : Nat) = 33 by decide), sw_at, if_pos rfl, sw_row (show ¬ (32 : Nat) = 31 by decide)]
  have e33 : (sw (sw (sw s 31 j P) 32 j Q) 33 j gg) 33 = upd (s 33) j gg := by rw [sw_at, if_pos rfl, sw_row (show ¬ (33 : Nat) = 32 by decide), sw_row (show ¬ (33 : Nat) = 31 by decide)]
  have e34 : (sw (sw (sw s 31 j P) 32 j Q) 33 j gg) 34 = s 34 := by rw [sw_row (show ¬ (34 : Nat) = 33 by decide), sw_row (show ¬ (34 : Nat) = 32 by decide), sw_row (show ¬ (34 : Nat) = 31 by decide)]
  have e30 : (sw (sw (sw s 31 j P) 32 j Q) 33 j gg) 30 = s 30 := by rw [sw_row (show ¬ (30 : Nat) = 33 by decide), sw_row (show ¬ (30 : Nat) = 32 by decide), sw_row (show ¬ (30 : Nat) = 31 by decide)]
  -- how both go on, once the pair and the color are told
  have go : ∀ (c : Int32) (s10 : Sg), (c = 0 ∨ c = 1) → colM (nI G) (nI B) on gg = c → Kp [30] (sw (sw (sw s 31 j P) 32 j Q) 33 j gg) s10 → (s10 30 4, s10 30 5) = loopF (pst (upd (s 33) j gg) (upd (s 32) j Q) thr) j (0, 0) → RMi σ t thr (j + 1) (c, sw s10 34 j (vp_nar .boolean c)) (if gg = 0 then 0 else nI G + 1, if gg = 0 then nI B + 1 else 0, colM (nI G) (nI B) on gg, sw (sw U 71 j gg) 72 j (vp_nar .boolean (colM (nI G) (nI B) on gg))) := by
    intro c s10 hc ec k10 hp
    rw [ec, (lv_narrowZ hc).2.2]
    have f33 : (sw s10 34 j c) 33 = upd (s 33) j gg := by rw [sw_row (show ¬ (33 : Nat) = 34 by decide), k10 33 (by decide), e33]
    have f32 : (sw s10 34 j c) 32 = upd (s 32) j Q := by rw [sw_row (show ¬ (32 : Nat) = 34 by decide), k10 32 (by decide), e32]
    refine ⟨rfl, hc, ?_, ?_, ?_, ?_, ⟨if gg = 0 then 0 else G + 1, if gg = 0 then B + 1 else 0, ?_, ?_, ?_, ?_, fun _ => ?_, fun q => absurd q (by omega)⟩, ?_, ?_, ?_, ?_, ?_⟩
    · dsimp only
      rw [sw_row (show ¬ (31 : Nat) = 34 by decide), k10 31 (by decide), e31, sw_row (show ¬ (69 : Nat) = 72 by decide), sw_row (show ¬ (69 : Nat) = 71 by decide), w1, r3]
    · dsimp only
      rw [f32, sw_row (show ¬ (70 : Nat) = 72 by decide), sw_row (show ¬ (70 : Nat) = 71 by decide), w2, r4]
    · dsimp only
      rw [f33, sw_row (show ¬ (71 : Nat) = 72 by decide), sw_at, if_pos rfl, w3 71 (by decide), r5]
    · dsimp only
      rw [sw_at, if_pos rfl, k10 34 (by decide), e34, sw_at, if_pos rfl, sw_row (show ¬ (72 : Nat) = 71 by decide), w3 72 (by decide), r6]
    · split <;> omega
    · split <;> omega
    · dsimp only; rw [nI_1]; split <;> rfl
    · dsimp only; rw [nI_1]; split <;> rfl
    · dsimp only
      rw [f33, show j + 1 - 1 = j by omega, upd_self]
      exact ⟨fun q => by rw [if_pos q, if_pos q]; exact ⟨rfl, by omega⟩, fun q => by rw [if_neg q, if_neg q]; exact ⟨rfl, by omega⟩⟩
    · intro i hi
      dsimp only
      rw [f32, upd_at]
      by_cases q : i = j
      · rw [if_pos q]; exact w5
      · rw [if_neg q]; exact r11 i (by omega)
    · intro i hi
      dsimp only
      rw [f33, upd_at]
      by_cases q : i = j
      · rw [if_pos q]; exact hgg
      · rw [if_neg q]; exact r12 i (by omega)
    · dsimp only
      rw [f33, f32, sw_cell (show ¬ (30 : Nat) = 34 by decide), sw_cell (show ¬ (30 : Nat) = 34 by decide)]
      exact hp
    · exact r14.tr (k7.tr ((k10.up (by decide)).tr (Kp.sw (by decide) _ _ _)))
    · exact r15.tr ((w3.up (by decide)).tr ((Kp.sw (by decide) _ _ _).tr (Kp.sw (by decide) _ _ _)))
  have old : ∀ n, n ≤ j → loopF (pst (upd (s 33) j gg) (upd (s 32) j Q) thr) (n - 1) (0, 0) = loopF (pst (s 33) (s 32) thr) (n - 1) (0, 0) := fun n hn => loop_eq _ (fun i c hi => by
    unfold pst
    simp only [upd_at, if_neg (show ¬ i = j by omega), if_neg (show ¬ i + 1 = j by omega)])
  rcases j with _ | i
  · obtain ⟨rfl, rfl⟩ := r10 rfl
    rw [if_pos (show nI 0 ≤ 0 by decide), if_pos (show nI 0 ≤ 0 by decide)]
    refine go on _ r2 (col_eq0 r2 hgg) (Kp.rf _) ?_
    rw [e30]
    exact (show (s 30 4, s 30 5) = (0, 0) from r13)
  · rw [if_neg (show ¬ nI (i + 1) ≤ 0 from nI_nle (by omega) (by omega)), if_neg (show ¬ nI (i + 1) ≤ 0 from nI_nle (by omega) (by omega)), nI_pred, nI_clamp (by omega), sw_place (show ¬ i = i + 1 by omega)]
    have e5 : ∀ x, (sw (sw s 31 (i + 1) P) 32 (i + 1) Q) 33 x = s 33 x := fun x => by rw [sw_cell (show ¬ (33 : Nat) = 32 by decide), sw_cell (show ¬ (33 : Nat) = 31 by decide)]
    rw [e5]
    have hpv := r12 i (by omega)
    obtain ⟨z0, z1⟩ := r9 (by omega)
    rw [show i + 1 - 1 = i by omega] at z0 z1 r13
    have hc := col_eq r2 hgg hpv (by omega) (by omega) z0 z1
    have ho : (if gg = s 33 i then gg else on) = 0 ∨ (if gg = s 33 i then gg else on) = 1 := zo_ite hgg r2
    refine go _ _ ho hc ?_ ?_
    · by_cases q : gg = s 33 i
      · rw [if_pos q]; exact (pair_cls _ hj thr).1
      · rw [if_neg q]; exact Kp.rf _
    · have e6 : loopF (pst (upd (s 33) (i + 1) gg) (upd (s 32) (i + 1) Q) thr) (i + 1) (0, 0) = pst (upd (s 33) (i + 1) gg) (upd (s 32) (i + 1) Q) thr i (s 30 4, s 30 5) := by
        have o := old (i + 1) (Nat.le_refl _)
        rw [show i + 1 - 1 = i by omega] at o
        rw [r13, ← o]
        rfl
      rw [e6]
      by_cases q : gg = s 33 i
      · rw [if_pos q, (pair_cls _ hj thr).2, e30, e33, e32]
      · rw [if_neg q, e30]
        unfold pst
        rw [upd_self, upd_at, if_neg (show ¬ i = i + 1 by omega)]
        rcases hpv with h0 | h1
        · rw [if_pos h0]
        · rw [if_neg (show ¬ s 33 i = 0 by rw [h1]; decide), if_pos (show gg = 0 from hgg.resolve_right (fun z => q (z.trans h1.symm)))]
/-! the pairs, counted behind all lines -/
theorem opp_iff {a b : Int32} (ha : bd a 3200) (hb : bd b 3200) : 0 ≤ a * b ↔ ¬ ((a.toInt < 0 ∧ 0 < b.toInt) ∨ (0 < a.toInt ∧ b.toInt < 0)) := by
  obtain ⟨e, -⟩ := mul_toInt ha hb (by decide)
  rw [i32_le, e, show (0 : Int32).toInt = 0 from rfl]
  generalize a.toInt = x
  generalize b.toInt = y
  rcases Int.lt_trichotomy x 0 with h | h | h
  · rcases Int.lt_trichotomy y 0 with k | k | k
    · have := Int.mul_pos (show 0 < -x by omega) (show 0 < -y by omega)
      rw [Int.neg_mul_neg] at this
      omega
    · subst k; omega
    · have := Int.mul_pos (show 0 < -x by omega) k
      rw [Int.neg_mul] at this
      omega
  · subst h; rw [Int.zero_mul]; omega
  · rcases Int.lt_trichotomy y 0 with k | k | k
    · have := Int.mul_pos h (show 0 < -y by omega)
      rw [Int.mul_neg] at this
      omega
    · subst k; omega
    · have := Int.mul_pos h k
      omega
theorem opp_eq {a b : Int32} (ha : bd a 3200) (hb : bd b 3200) : (if 0 ≤ a then (if a ≤ 0 then (0 : Int32) else (if 0 ≤ b then 0 else 1)) else (if 0 < b then 1 else (if a ≤ 0 then 0 else (if 0 ≤ b then 0 else 1)))) = if 0 ≤ a * b then 0 else 1 := by
  have q := opp_iff ha hb
  have z : (0 : Int32).toInt = 0 := rfl
  by_cases c1 : 0 ≤ a
  · rw [if_pos c1]
    rw [i32_le, z] at c1
    by_cases c2 : a ≤ 0
    · rw [if_pos c2]
      rw [i32_le, z] at c2
      rw [if_pos (q.mpr (by omega))]
    · rw [if_neg c2]
      rw [i32_le, z] at c2
      by_cases c3 : 0 ≤ b
      · rw [if_pos c3]
        rw [i32_le, z] at c3
        rw [if_pos (q.mpr (by omega))]
      · rw [if_neg c3]
        rw [i32_le, z] at c3
        rw [if_neg (fun r => (q.mp r) (by omega))]
  · rw [if_neg c1]
    rw [i32_le, z] at c1
    by_cases c3 : 0 < b
    · rw [if_pos c3]
      rw [i32_lt, z] at c3
      rw [if_neg (fun r => (q.mp r) (by omega))]
    · rw [if_neg c3, if_pos (show a ≤ 0 by rw [i32_le, z]; omega)]
      rw [i32_lt, z] at c3
      rw [if_pos (q.mpr (by omega))]
/-- only the counts of pairs are written -/
def KQ (u w : Sg) : Prop := ∀ k i, ¬ (k = 53 ∧ (i = 22 ∨ i = 23)) → w k i = u k i
theorem pairs_ref {u : Sg} (h22 : u 53 22 = 0) (h23 : u 53 23 = 0) (hq : ∀ i, i < 8 → bd (u 70 i) 3200) : ((loopF b_X11_findBursts_260 7 u) 53 22, (loopF b_X11_findBursts_260 7 u) 53 23) = loopF (pst (u 71) (u 70) (u 62 0)) 7 (0, 0) ∧ KQ u (loopF b_X11_findBursts_260 7 u) := by
  refine loopF_inv (B := b_X11_findBursts_260) (N := 7) (I := u) (fun i w => (w 53 22, w 53 23) = loopF (pst (u 71) (u 70) (u 62 0)) i (0, 0) ∧ KQ u w) ⟨by rw [h22, h23]; rfl, fun _ _ _ => rfl⟩ (fun j w hj hI => ?_)
  obtain ⟨i1, i2⟩ := hI
  have g71 : w 71 = u 71 := funext fun i => i2 71 i (by omega)
  have g70 : w 70 = u 70 := funext fun i => i2 70 i (by omega)
  have g62 : w 62 (0 : Int32).toNatClampNeg = u 62 0 := i2 62 0 (by omega)
  have e : loopF (pst (u 71) (u 70) (u 62 0)) (j + 1) (0, 0) = pst (u 71) (u 70) (u 62 0) j (w 53 22, w 53 23) := by rw [i1]; rfl
  rw [e, b_X11_findBursts_260_eq, nI_pred, nI_clamp (by omega), nI_clamp (by omega), g71, g70, g62]
  unfold pst
  dsimp only
  by_cases c1 : u 71 j = 0
  · rw [if_pos c1, if_pos c1]; exact ⟨rfl, i2⟩
  · rw [if_neg c1, if_neg c1]
    by_cases c2 : u 71 (j + 1) = 0
    · rw [if_pos c2, if_pos c2]; exact ⟨rfl, i2⟩
    · rw [if_neg c2, if_neg c2, opp_eq (hq j (by omega)) (hq (j + 1) (by omega)), ← abs_size, ← abs_size]
      have kq : ∀ a b, KQ u (sw (sw w 53 22 a) 53 23 b) := fun a b k i h => by
        rw [sw_get, if_neg (by omega), sw_get, if_neg (by omega)]
        exact i2 k i h
      have st : ∀ a b, ((sw (sw w 53 22 a) 53 23 b) 53 22, (sw (sw w 53 22 a) 53 23 b) 53 23) = (a, b) := fun a b => by
        rw [sw_place (show ¬ (22 : Nat) = 23 by decide), sw_same, sw_same]
      refine ⟨?_, kq _ _⟩
      rw [st, sw_place (show ¬ (23 : Nat) = 22 by decide)]
      by_cases c3 : 0 ≤ u 70 j * u 70 (j + 1)
      · simp only [if_pos c3, if_true, Int32.add_zero]
      · simp only [if_neg c3, if_neg (show ¬ (1 : Int32) = 0 by decide)]
        by_cases c4 : i_abs (u 70 j) < u 62 0
        · simp only [if_pos c4, if_true, Int32.add_zero]
        · simp only [if_neg c4]
          by_cases c5 : i_abs (u 70 (j + 1)) < u 62 0
          · simp only [if_pos c5, if_true, Int32.add_zero]
          · simp only [if_neg c5, if_neg (show ¬ (1 : Int32) = 0 by decide), Int32.add_zero]
theorem burst_at {σ t : Sg} (hA : AT (f_X11_signal t) σ) (hb : bndP t) (h27 : σ 27 = t 66) {thr : Int32} (hthr : t 62 0 = thr) (h31 : σ 31 = t 69) (h32 : σ 32 = t 70) (h33 : σ 33 = t 71) (h34 : σ 34 = t 72) : (f_X1_measure σ thr) 31 = (f_X11_findBursts t) 69 ∧ (f_X1_measure σ thr) 32 = (f_X11_findBursts t) 70 ∧ (f_X1_measure σ thr) 33 = (f_X11_findBursts t) 71 ∧ (f_X1_measure σ thr) 34 = (f_X11_findBursts t) 72 ∧ (f_X1_measure σ thr) 30 4 = (f_X11_findBursts t) 53 22 ∧ (f_X1_measure σ thr) 30 5 = (f_X11_findBursts t) 53 23 ∧ Kp [30, 31, 32, 33, 34] σ (f_X1_measure σ thr) ∧ (∀ k i, ¬ (k = 53 ∧ (i = 22 ∨ i = 23)) → ¬ k ∈ [69, 70, 71, 72] → (f_X11_findBursts t) k i = t k i) := by
  rw [f_X1_measure_eq, f_X11_findBursts_eq]
  dsimp only
  have k0 : Kp [30] σ (sw (sw σ 30 4 0) 30 5 0) := (Kp.sw (by decide) _ _ _).tr (Kp.sw (by decide) _ _ _)
  have key := two (B := b_X1_measure_16 thr) (B' := b_X11_findBursts_9) (N := 8) (I := (1, sw (sw σ 30 4 0) 30 5 0)) (I' := (0, 0, 1, t)) (RMi (sw (sw σ 30 4 0) 30 5 0) t thr) ⟨rfl, .inr rfl, (k0 31 (by decide)).trans h31, (k0 32 (by decide)).trans h32, (k0 33 (by decide)).trans h33, (k0 34 (by decide)).trans h34, ⟨0, 0, by decide, by decide, rfl, rfl, fun q => absurd q (by decide), fun _ => ⟨rfl, rfl⟩⟩, fun i hi => absurd hi (by omega), fun i hi => absurd hi (by omega), by simp [sw_get, loopF], Kp.rf _, Kp.rf _⟩ (fun j s u hj hR => measure_step (hA.k (fun k a c => k0 k (fun q => by
    simp only [List.mem_cons, List.mem_nil_iff, or_false] at q
    omega))) hb (by rw [k0 27 (by decide)]; exact h27) hthr j s u hj hR)
  generalize loopF (b_X1_measure_16 thr) 8 (1, sw (sw σ 30 4 0) 30 5 0) = s at key ⊢
  generalize loopF b_X11_findBursts_9 8 (0, 0, 1, t) = u at key ⊢
  obtain ⟨r1, r2, r3, r4, r5, r6, -, r11, -, r13, r14, r15⟩ := key
  have e19 : ∀ k i, ¬ (k = 53 ∧ (i = 22 ∨ i = 23)) → (sw (sw u.2.2.2 53 22 0) 53 23 0) k i = u.2.2.2 k i := fun k i h => by
    rw [sw_get, if_neg (by omega), sw_get, if_neg (by omega)]
  have row : ∀ k, ¬ k = 53 → (sw (sw u.2.2.2 53 22 0) 53 23 0) k = u.2.2.2 k := fun k h => funext fun i => e19 k i (by omega)
  obtain ⟨p1, p2⟩ := pairs_ref (u := sw (sw u.2.2.2 53 22 0) 53 23 0) (by rw [sw_place (show ¬ (22 : Nat) = 23 by decide), sw_same]) (sw_same _ _ _ _) (fun i hi => by rw [row 70 (by decide), ← r4]; exact r11 i hi)
  have row2 : ∀ k, ¬ k = 53 → (loopF b_X11_findBursts_260 7 (sw (sw u.2.2.2 53 22 0) 53 23 0)) k = u.2.2.2 k := fun k h => funext fun i => (p2 k i (by omega)).trans (e19 k i (by omega))
  rw [row 71 (by decide), row 70 (by decide), row 62 (by decide), ← r5, ← r4, r15 62 (by decide), hthr] at p1
  have pp := r13.trans p1.symm
  refine ⟨by rw [row2 69 (by decide)]; exact r3, by rw [row2 70 (by decide)]; exact r4, by rw [row2 71 (by decide)]; exact r5, by rw [row2 72 (by decide)]; exact r6, (Prod.mk.inj pp).1, (Prod.mk.inj pp).2, (k0.up (by decide)).tr r14, fun k i h h2 => ?_⟩
  rw [p2 k i h, e19 k i h, r15 k h2]
end
