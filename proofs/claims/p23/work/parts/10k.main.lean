/-! the law holds, round by round -/
def sg0 : Sg := fun k => match k with
  | 6 => upd (upd (upd (upd (upd (upd (upd (upd (fun _ => 0) 0 20) 1 20) 2 20) 3 20) 4 20) 5 20) 6 20) 7 20
  | 14 => upd (upd (upd (upd (fun _ => 0) 0 8) 1 10) 2 3) 3 2
  | _ => fun _ => 0
def fl0 : Fl := fun _ _ => 0
def MInv (j : Nat) (s : Int32 × Sg × Fl) : Prop := MJ s.2.1 ∧ ∃ d, d ≤ j ∧ s.1 = nI d ∧ HK d s.2.1
theorem MInv_tb {j : Nat} {s : Int32 × Sg × Fl} (h : MInv j s) : vp_in (s.2.1 10 1) 61 := h.1.2.2.2.2
theorem mv_go {j : Nat} {s : Int32 × Sg × Fl} (h : MInv j s) {L : List Nat} {τ : Sg} (hM : MJ τ) (k : Kp L s.2.1 τ) (h0 : ¬ 0 ∈ L) (h50 : ¬ 50 ∈ L) (h53 : ¬ 53 ∈ L) (h54 : ¬ 54 ∈ L) : MInv (j + 1) (s.1, τ, s.2.2) := by
  obtain ⟨d, hd, e, hk⟩ := h.2
  exact ⟨hM, d, by omega, e, hk.kp k h0 h50 h53 h54⟩
theorem sh8 (y : Int32) : ∃ m, m < 8 ∧ f_L_low y 8 = nI m := low_in y 8 8 (by decide +kernel) (by decide) (by decide)
theorem l60 : (60 : Int32) = nI 60 := by decide +kernel
theorem hue_bd (y : Int32) : -60 ≤ (f_L_low y 121 - 60).toInt ∧ (f_L_low y 121 - 60).toInt ≤ 60 := by
  obtain ⟨m, hm, e⟩ := low_in y 121 121 (by decide +kernel) (by decide) (by decide)
  rw [e]; exact sub_bd hm (by decide) l60 (by decide) (by decide) (by decide)
theorem lum_bd (y : Int32) : 0 ≤ (f_L_low y 201).toInt ∧ (f_L_low y 201).toInt ≤ 200 := by
  obtain ⟨m, hm, e⟩ := low_in y 201 201 (by decide +kernel) (by decide) (by decide)
  rw [e]; exact nI_bd hm (by decide) (by decide)
theorem five_bd : -60 ≤ (5 : Int32).toInt ∧ (5 : Int32).toInt ≤ 60 := by decide
theorem step_seg {tt : Nat → Nat} {j : Nat} {s : Int32 × Sg × Fl} (h : MInv j s) (c0 : ¬ 3 ≤ f_L_low (f_L_cell tt (2 * nI j)) 12) : ∃ s', b_L_law_99 tt j s = .inr s' ∧ MInv (j + 1) s' := by
  obtain ⟨v2, e2⟩ : ∃ v, f_L_cell tt (2 * nI j) = v := ⟨_, rfl⟩
  obtain ⟨v3, e3⟩ : ∃ v, f_L_cell tt (2 * nI j + 1) = v := ⟨_, rfl⟩
  obtain ⟨v4, e4⟩ : ∃ v, v2 >>> ((4 : Int32) &&& 31) = v := ⟨_, rfl⟩
  rw [e2] at c0
  obtain ⟨n, hn, en⟩ := sh8 v4
  obtain ⟨i, hi, ei⟩ := low_in (v4 >>> ((3 : Int32) &&& 31)) 10 10 (by decide +kernel) (by decide) (by decide)
  have r := seg_ok h.1 (x := f_L_low v4 8) (y := f_L_low (v4 >>> ((3 : Int32) &&& 31)) 10) (by rw [en]; exact vp_in_nI hn (by decide)) (by rw [ei]; exact vp_in_nI hi (by decide)) (lum_bd v3) (hue_bd (v3 >>> ((8 : Int32) &&& 31))) (hue_bd (v3 >>> ((15 : Int32) &&& 31)))
  exact ⟨_, go_seg e2 e3 e4 rfl rfl c0 r.1, mv_go h r.2.1 r.2.2 (by decide) (by decide) (by decide) (by decide)⟩
theorem nlt10 {k : Nat} (h : k ≤ 10) : ¬ 10 < nI k := by
  rw [i32_lt, nI_toInt (by omega), show (10 : Int32).toInt = 10 by decide]
  omega
theorem step_fill {tt : Nat → Nat} {j : Nat} {s : Int32 × Sg × Fl} (h : MInv j s) (c0 : 3 ≤ f_L_low (f_L_cell tt (2 * nI j)) 12) (c1 : ¬ 5 ≤ f_L_low (f_L_cell tt (2 * nI j)) 12) : ∃ s', b_L_law_99 tt j s = .inr s' ∧ MInv (j + 1) s' := by
  obtain ⟨v2, e2⟩ : ∃ v, f_L_cell tt (2 * nI j) = v := ⟨_, rfl⟩
  obtain ⟨v3, e3⟩ : ∃ v, f_L_cell tt (2 * nI j + 1) = v := ⟨_, rfl⟩
  obtain ⟨v4, e4⟩ : ∃ v, v2 >>> ((4 : Int32) &&& 31) = v := ⟨_, rfl⟩
  rw [e2] at c0 c1
  obtain ⟨n, hn, en⟩ := sh8 v4
  obtain ⟨⟨k, hk, ek⟩, m1, k1, p1, -⟩ := fill_ok h.1 hn (lum_bd v3) (hue_bd (v3 >>> ((8 : Int32) &&& 31))) five_bd
  obtain ⟨-, m2, k2, -, z2⟩ := fill_ok m1 hn (lum_bd v3) (hue_bd (v3 >>> ((8 : Int32) &&& 31))) five_bd
  rw [← en] at ek m1 k1 p1 m2 k2 z2
  refine ⟨_, go_fill e2 e3 e4 rfl rfl rfl rfl rfl c0 c1 ?_ ?_ (z2 p1), mv_go h m2 (k1.tr k2) (by decide) (by decide) (by decide) (by decide)⟩
  · rw [ek]; exact nI_pos (by omega)
  · rw [ek]; exact nlt10 hk
theorem step_line {tt : Nat → Nat} {j : Nat} {s : Int32 × Sg × Fl} (h : MInv j s) (c0 : 3 ≤ f_L_low (f_L_cell tt (2 * nI j)) 12) (c1 : 5 ≤ f_L_low (f_L_cell tt (2 * nI j)) 12) (c2 : ¬ 7 ≤ f_L_low (f_L_cell tt (2 * nI j)) 12) : ∃ s', b_L_law_99 tt j s = .inr s' ∧ MInv (j + 1) s' := by
  obtain ⟨v2, e2⟩ : ∃ v, f_L_cell tt (2 * nI j) = v := ⟨_, rfl⟩
  obtain ⟨v3, e3⟩ : ∃ v, f_L_cell tt (2 * nI j + 1) = v := ⟨_, rfl⟩
  obtain ⟨v4, e4⟩ : ∃ v, v2 >>> ((4 : Int32) &&& 31) = v := ⟨_, rfl⟩
  rw [e2] at c0 c1 c2
  obtain ⟨n, hn, en⟩ := sh8 v4
  have q21 := miss_at s.2.1 hn 0
  rw [← en] at q21
  obtain ⟨v21, e21⟩ : ∃ v, (f_X10_miss s.2.1 (f_L_low v4 8) 0).1 = v := ⟨_, rfl⟩
  have e22 : (f_X10_miss s.2.1 (f_L_low v4 8) 0).2 = sw s.2.1 9 n (vp_nar .boolean 0) := by rw [q21]
  obtain ⟨σ22, d22⟩ : ∃ v, sw s.2.1 9 n (vp_nar .boolean 0) = v := ⟨_, rfl⟩
  obtain ⟨v23, e23⟩ : ∃ v, (if v21 = 1 then (1 : Int32) else 0) = v := ⟨_, rfl⟩
  have q25 := miss_at σ22 hn v23
  rw [← en] at q25
  have e25 : (f_X10_miss σ22 (f_L_low v4 8) v23).1 = 0 := by
    rw [q25, ← d22, sw_same]; exact one_0
  have e26 : (f_X10_miss σ22 (f_L_low v4 8) v23).2 = sw σ22 9 n (vp_nar .boolean v23) := by rw [q25]
  obtain ⟨σ26, d26⟩ : ∃ v, sw σ22 9 n (vp_nar .boolean v23) = v := ⟨_, rfl⟩
  have M22 : MJ σ22 := d22 ▸ mi_9 h.1 n _
  have M26 : MJ σ26 := d26 ▸ mi_9 M22 n _
  have K22 : Kp [5, 6, 7, 8, 9] s.2.1 σ22 := d22 ▸ Kp.sw (by decide) _ _ _
  have K26 : Kp [5, 6, 7, 8, 9] s.2.1 σ26 := K22.tr (d26 ▸ Kp.sw (by decide) _ _ _)
  obtain ⟨v27, e27⟩ : ∃ v, (if (v4 &&& 64) = 0 then (0 : Int32) else (f_L_low (v3 >>> ((12 : Int32) &&& 31)) 10)) = v := ⟨_, rfl⟩
  have b27 : 0 ≤ v27.toInt ∧ v27.toInt ≤ 9 := by
    rw [← e27]
    by_cases q : (v4 &&& 64) = 0
    · rw [if_pos q]; decide
    · rw [if_neg q]
      obtain ⟨m, hm, e⟩ := low_in (v3 >>> ((12 : Int32) &&& 31)) 10 10 (by decide +kernel) (by decide) (by decide)
      rw [e]; exact nI_bd hm (by decide) (by decide)
  have ba : -4 ≤ (f_L_low v3 9 - 4).toInt ∧ (f_L_low v3 9 - 4).toInt ≤ 4 := by
    obtain ⟨m, hm, e⟩ := low_in v3 9 9 (by decide +kernel) (by decide) (by decide)
    rw [e]; exact sub_bd hm (by decide) (show (4 : Int32) = nI 4 by decide +kernel) (by decide) (by decide) (by decide)
  have bb : 0 ≤ (f_L_low (v3 >>> ((4 : Int32) &&& 31)) 41).toInt ∧ (f_L_low (v3 >>> ((4 : Int32) &&& 31)) 41).toInt ≤ 40 := by
    obtain ⟨m, hm, e⟩ := low_in (v3 >>> ((4 : Int32) &&& 31)) 41 41 (by decide +kernel) (by decide) (by decide)
    rw [e]; exact nI_bd hm (by decide) (by decide)
  have bc : 0 ≤ (f_L_low (v3 >>> ((10 : Int32) &&& 31)) 4).toInt ∧ (f_L_low (v3 >>> ((10 : Int32) &&& 31)) 4).toInt ≤ 3 := by
    obtain ⟨m, hm, e⟩ := low_in (v3 >>> ((10 : Int32) &&& 31)) 4 4 (by decide +kernel) (by decide) (by decide)
    rw [e]; exact nI_bd hm (by decide) (by decide)
  have r := line_ok M26 hn ba bb bc b27
  rw [← en] at r
  obtain ⟨r1, r2, r3, r4⟩ := r
  obtain ⟨σ30, e30⟩ : ∃ v, (f_X10_setLine σ26 (f_L_low v4 8) (f_L_low v3 9 - 4) (f_L_low (v3 >>> ((4 : Int32) &&& 31)) 41) (f_L_low (v3 >>> ((10 : Int32) &&& 31)) 4) v27).2 = v := ⟨_, rfl⟩
  rw [e30] at r2 r3 r4
  obtain ⟨v31, e31⟩ : ∃ v, (if (v4 &&& 896) = 0 then (1 : Int32) else 0) = v := ⟨_, rfl⟩
  have q33 := miss_at σ30 hn v31
  rw [← en] at q33
  have e33 : (f_X10_miss σ30 (f_L_low v4 8) v31).1 = 0 := by
    rw [q33]; dsimp only; rw [r4]; exact one_0
  have e34 : (f_X10_miss σ30 (f_L_low v4 8) v31).2 = sw σ30 9 n (vp_nar .boolean v31) := by rw [q33]
  exact ⟨_, go_line e2 e3 e4 e21 (e22.trans d22) e23 e25 (e26.trans d26) e27 rfl e30 e31 e33 e34 c0 c1 c2 rfl r1 rfl, mv_go h (mi_9 r2 n _) ((K26.tr r3).tr (Kp.sw (by decide) _ _ _)) (by decide) (by decide) (by decide) (by decide)⟩
theorem step_std {tt : Nat → Nat} {j : Nat} {s : Int32 × Sg × Fl} (h : MInv j s) (c0 : 3 ≤ f_L_low (f_L_cell tt (2 * nI j)) 12) (c1 : 5 ≤ f_L_low (f_L_cell tt (2 * nI j)) 12) (c2 : 7 ≤ f_L_low (f_L_cell tt (2 * nI j)) 12) (c3 : f_L_low (f_L_cell tt (2 * nI j)) 12 = 7) : ∃ s', b_L_law_99 tt j s = .inr s' ∧ MInv (j + 1) s' := by
  obtain ⟨v2, e2⟩ : ∃ v, f_L_cell tt (2 * nI j) = v := ⟨_, rfl⟩
  obtain ⟨v3, e3⟩ : ∃ v, f_L_cell tt (2 * nI j + 1) = v := ⟨_, rfl⟩
  rw [e2] at c0 c1 c2 c3
  have b1 : 0 ≤ (v3 &&& 1).toInt ∧ (v3 &&& 1).toInt ≤ 1 := by
    rw [show v3 &&& 1 = nI (v3.toBitVec.toNat % 2 ^ 1) from pk_and v3 (m := 1) 1 (by decide)]
    exact nI_bd (N := 2) (Nat.mod_lt _ (by decide)) (by decide) (by decide)
  obtain ⟨r1, r2, r3, r4⟩ := std_ok h.1 b1
  exact ⟨_, go_std e2 e3 rfl rfl rfl c0 c1 c2 c3 r1 r2, mv_go h r3 r4 (by decide) (by decide) (by decide) (by decide)⟩
theorem al_at {n m : Nat} (hn : n < 4) (lo hi : Int32) (p q : Nat) (el : sa_6 n = lo) (eh : sa_7 n = hi) (pl : lo = nI p) (ph : hi = nI q) (h1 : p ≤ m) (h2 : m ≤ q) (hq : q < 2 ^ 31) : ¬ f_X8_allows (nI n) (nI m) = 0 := by
  rw [f_X8_allows_eq, nI_clamp (by omega), el, eh]
  exact iw_ne.mpr ⟨by rw [pl]; exact nI_le h1 (by omega), by rw [ph]; exact nI_le h2 hq⟩
theorem step_set {tt : Nat → Nat} {j : Nat} {s : Int32 × Sg × Fl} (h : MInv j s) (c0 : 3 ≤ f_L_low (f_L_cell tt (2 * nI j)) 12) (c1 : 5 ≤ f_L_low (f_L_cell tt (2 * nI j)) 12) (c2 : 7 ≤ f_L_low (f_L_cell tt (2 * nI j)) 12) (c3 : ¬ f_L_low (f_L_cell tt (2 * nI j)) 12 = 7) (c4 : f_L_low (f_L_cell tt (2 * nI j)) 12 = 8) : ∃ s', b_L_law_99 tt j s = .inr s' ∧ MInv (j + 1) s' := by
  obtain ⟨v2, e2⟩ : ∃ v, f_L_cell tt (2 * nI j) = v := ⟨_, rfl⟩
  obtain ⟨v3, e3⟩ : ∃ v, f_L_cell tt (2 * nI j + 1) = v := ⟨_, rfl⟩
  obtain ⟨v4, e4⟩ : ∃ v, v2 >>> ((4 : Int32) &&& 31) = v := ⟨_, rfl⟩
  rw [e2] at c0 c1 c2 c3 c4
  obtain ⟨n, hn, en⟩ := low_in v4 4 4 (by decide +kernel) (by decide) (by decide)
  have l1 : (1 : Int32) = nI 1 := by decide +kernel
  obtain ⟨v15, e15, b1, b2, b3⟩ : ∃ v15, (if f_L_low v4 4 = 0 then (1 + f_L_low v3 40) else (if f_L_low v4 4 = 1 then f_L_low v3 101 else (if f_L_low v4 4 = 2 then f_L_low v3 4 else f_L_low v3 3))) = v15 ∧ (¬ f_X8_allows (nI n) v15 = 0) ∧ (n = 2 → vp_in v15 4) ∧ (n = 3 → vp_in v15 3) := by
    rw [en]
    rcases (show n = 0 ∨ n = 1 ∨ n = 2 ∨ n = 3 by omega) with rfl | rfl | rfl | rfl
    · obtain ⟨m, hm, em⟩ := low_in v3 40 40 (by decide +kernel) (by decide) (by decide)
      refine ⟨nI (1 + m), (if_pos (show nI 0 = 0 by decide)).trans (by rw [em, l1, nI_add]), al_at (by decide) 1 40 1 40 rfl rfl l1 (by decide +kernel) (by omega) (by omega) (by decide), fun q => absurd q (by decide), fun q => absurd q (by decide)⟩
    · obtain ⟨m, hm, em⟩ := low_in v3 101 101 (by decide +kernel) (by decide) (by decide)
      refine ⟨nI m, (if_neg (show ¬ nI 1 = 0 by decide)).trans ((if_pos (show nI 1 = 1 by decide)).trans em), al_at (by decide) 0 100 0 100 rfl rfl (by decide +kernel) (by decide +kernel) (by omega) (by omega) (by decide), fun q => absurd q (by decide), fun q => absurd q (by decide)⟩
    · obtain ⟨m, hm, em⟩ := low_in v3 4 4 (by decide +kernel) (by decide) (by decide)
      refine ⟨nI m, (if_neg (show ¬ nI 2 = 0 by decide)).trans ((if_neg (show ¬ nI 2 = 1 by decide)).trans ((if_pos (show nI 2 = 2 by decide)).trans em)), al_at (by decide) 0 3 0 3 rfl rfl (by decide +kernel) (by decide +kernel) (by omega) (by omega) (by decide), fun _ => vp_in_nI hm (by decide), fun q => absurd q (by decide)⟩
    · obtain ⟨m, hm, em⟩ := low_in v3 3 3 (by decide +kernel) (by decide) (by decide)
      refine ⟨nI m, (if_neg (show ¬ nI 3 = 0 by decide)).trans ((if_neg (show ¬ nI 3 = 1 by decide)).trans ((if_neg (show ¬ nI 3 = 2 by decide)).trans em)), al_at (by decide) 0 2 0 2 rfl rfl (by decide +kernel) (by decide +kernel) (by omega) (by omega) (by decide), fun q => absurd q (by decide), fun _ => vp_in_nI hm (by decide)⟩
  have r := set_ok h.1 hn b1 b2 b3
  rw [← en] at r
  obtain ⟨r1, r2, r3, r4⟩ := r
  exact ⟨_, go_set e2 e3 e4 rfl e15 rfl rfl c0 c1 c2 c3 c4 r1 r2, mv_go h r3 r4 (by decide) (by decide) (by decide) (by decide)⟩
theorem step_bars {tt : Nat → Nat} {j : Nat} {s : Int32 × Sg × Fl} (h : MInv j s) (c0 : 3 ≤ f_L_low (f_L_cell tt (2 * nI j)) 12) (c1 : 5 ≤ f_L_low (f_L_cell tt (2 * nI j)) 12) (c2 : 7 ≤ f_L_low (f_L_cell tt (2 * nI j)) 12) (c3 : ¬ f_L_low (f_L_cell tt (2 * nI j)) 12 = 7) (c4 : ¬ f_L_low (f_L_cell tt (2 * nI j)) 12 = 8) (c5 : f_L_low (f_L_cell tt (2 * nI j)) 12 = 9) : ∃ s', b_L_law_99 tt j s = .inr s' ∧ MInv (j + 1) s' := by
  obtain ⟨v2, e2⟩ : ∃ v, f_L_cell tt (2 * nI j) = v := ⟨_, rfl⟩
  obtain ⟨v3, e3⟩ : ∃ v, f_L_cell tt (2 * nI j + 1) = v := ⟨_, rfl⟩
  obtain ⟨v4, e4⟩ : ∃ v, v2 >>> ((4 : Int32) &&& 31) = v := ⟨_, rfl⟩
  rw [e2] at c0 c1 c2 c3 c4 c5
  obtain ⟨n, hn, en⟩ := sh8 v4
  obtain ⟨t, et, ⟨hk, hp⟩, e10⟩ := bars_1 s.2.1 (x := f_L_low v4 8) (by rw [en]; exact vp_in_nI hn (by decide)) (v4 >>> ((3 : Int32) &&& 31)) v3
  obtain ⟨p, h5, h14, h14', h10⟩ := h.1
  have hM : MJ t := by
    refine ⟨hp p, ?_⟩
    rw [hk 5 (by decide), hk 14 (by decide), e10]
    exact ⟨h5, h14, h14', vp_in_nI (by decide) (by decide)⟩
  exact ⟨_, go_bars (v12 := 1) (σ13 := t) e2 e3 e4 (by rw [et]) (by rw [et]) c0 c1 c2 c3 c4 c5 (by decide), mv_go h hM hk (by decide) (by decide) (by decide) (by decide)⟩
theorem step_dec {tt : Nat → Nat} {j : Nat} (hj : j < 40) {s : Int32 × Sg × Fl} (h : MInv j s) (c0 : 3 ≤ f_L_low (f_L_cell tt (2 * nI j)) 12) (c1 : 5 ≤ f_L_low (f_L_cell tt (2 * nI j)) 12) (c2 : 7 ≤ f_L_low (f_L_cell tt (2 * nI j)) 12) (c3 : ¬ f_L_low (f_L_cell tt (2 * nI j)) 12 = 7) (c4 : ¬ f_L_low (f_L_cell tt (2 * nI j)) 12 = 8) (c5 : ¬ f_L_low (f_L_cell tt (2 * nI j)) 12 = 9) : ∃ s', b_L_law_99 tt j s = .inr s' ∧ MInv (j + 1) s' := by
  obtain ⟨dec, σ, φ⟩ := s
  obtain ⟨⟨hP, h5, hst, hsd, h10⟩, d, hd, e1, hk0, hk⟩ := h
  dsimp only at hP h5 hst hsd h10 e1 hk0 hk
  obtain ⟨v2, e2⟩ : ∃ v, f_L_cell tt (2 * nI j) = v := ⟨_, rfl⟩
  rw [e2] at c0 c1 c2 c3 c4 c5
  have d1 : 1 ≤ σ 0 10 + 1 := by
    rw [hk0, nI_1]; exact nI_le (a := 1) (by omega) (by omega)
  have q := dec_cls (σ := σ) φ hP hst d1
  obtain ⟨τ, et⟩ : ∃ t, (f_X10_decode σ φ).2.1 = t := ⟨_, rfl⟩
  obtain ⟨ψ, ep⟩ : ∃ t, (f_X10_decode σ φ).2.2 = t := ⟨_, rfl⟩
  obtain ⟨v5, e5⟩ : ∃ t, (f_X10_decode σ φ).1 = t := ⟨_, rfl⟩
  rw [et, ep, e5] at q
  obtain ⟨qv, hD⟩ := q
  obtain ⟨hLn, -, -, -, h50, hMo, hcn, hfr⟩ := id hD
  have ed : dec + 1 = nI (d + 1) := by rw [e1, nI_1]
  have et0 : τ 0 10 = nI (d + 1) := by rw [hcn, hk0, nI_1]
  have hli : ¬ f_L_lines τ v5 = 0 := by rw [qv, lines_1 hLn]; decide
  have hw : stdT τ = 0 ∨ stdT τ = 1 := by
    unfold stdT
    by_cases k : τ 14 3 = 2
    · rw [if_pos k]; exact zo_ite (.inl rfl) (.inr rfl)
    · rw [if_neg k]
      rw [hfr 14 (.inl ⟨by decide, by decide⟩)] at k ⊢
      obtain ⟨m, hm, em⟩ := vp_in_of hsd (by decide)
      rw [em] at k ⊢
      rcases (show m = 0 ∨ m = 1 ∨ m = 2 by omega) with rfl | rfl | rfl
      · exact .inl rfl
      · exact .inr rfl
      · exact absurd rfl k
  obtain ⟨u, eu, hu⟩ := combs_1 hD hw
  have u8 : (f_L_combs τ ψ).1 = 1 := by rw [eu]
  have u9 : (f_L_combs τ ψ).2 = u := by rw [eu]
  have hz : ¬ u 0 10 = 0 := by
    rw [hu 0 (by decide), et0]; exact nI_ne0 (by omega) (by omega)
  obtain ⟨kv, kk⟩ := keep_at hz
  have hM : MJ (f_L_keep u) := by
    unfold MJ PR
    rw [kk 2 (by decide), kk 3 (by decide), kk 4 (by decide), kk 6 (by decide), kk 8 (by decide), kk 5 (by decide), kk 14 (by decide), kk 10 (by decide)]
    rw [hu 2 (by decide), hu 3 (by decide), hu 4 (by decide), hu 6 (by decide), hu 8 (by decide), hu 5 (by decide), hu 14 (by decide), hu 10 (by decide)]
    rw [hfr 2 (.inl ⟨by decide, by decide⟩), hfr 3 (.inl ⟨by decide, by decide⟩), hfr 4 (.inl ⟨by decide, by decide⟩), hfr 6 (.inl ⟨by decide, by decide⟩), hfr 8 (.inl ⟨by decide, by decide⟩), hfr 5 (.inl ⟨by decide, by decide⟩), hfr 14 (.inl ⟨by decide, by decide⟩), hfr 10 (.inl ⟨by decide, by decide⟩)]
    exact ⟨hP, h5, hst, hsd, h10⟩
  have hH : HK (d + 1) (f_L_keep u) := by
    refine ⟨by rw [kk 0 (by decide), hu 0 (by decide), et0], fun _ x hx => ?_⟩
    rw [(kv x hx).1, (kv x hx).2, kk 50 (by decide), hu 50 (by decide), hu 40 (by decide), h50 x (by omega), h50 (40 + x) (by omega)]
    exact ⟨rfl, rfl⟩
  have hI : MInv (j + 1) (dec + 1, f_L_keep u, ψ) := ⟨hM, d + 1, by omega, ed, hH⟩
  have c6 : f_X10_count τ 0 = dec + 1 := by rw [cn_0, et0, ed]
  have n1 : ¬ (1 : Int32) = 0 := by decide
  by_cases k : d = 0
  · have c9 : dec + 1 ≤ 1 := by rw [ed, k]; decide
    exact ⟨_, go_dec1 (s1 := (dec, σ, φ)) (v8 := 1) e2 rfl rfl e5 et ep u8 u9 rfl c0 c1 c2 c3 c4 c5 c6 hli n1 c9, hI⟩
  · have c9 : ¬ dec + 1 ≤ 1 := by rw [ed]; exact nI_ge (a := 1) (by omega) (by omega)
    have hne : ¬ σ 0 10 ≤ 0 := by rw [hk0]; exact nI_ge (a := 0) (by omega) (by omega)
    obtain ⟨c, hc, hkd⟩ := hMo hne
    have h53 := hk (by omega)
    have h2 : 2 ≤ u 0 10 := by rw [hu 0 (by decide), et0]; exact nI_le (a := 2) (by omega) (by omega)
    have e16 : f_X10_count u 16 = τ 14 1 := by rw [cn_16, hu 14 (by decide)]
    have mo : f_L_motion u (f_X10_count u 16) = 1 := by
      rw [e16]
      refine motion_1 (c := c) h2 (fun x hx => ?_) (fun n i hn hi => ?_)
      · rw [hc x (by omega), hc (40 + x) (by omega), hu 53 (by decide), hu 54 (by decide), hu 40 (by decide), hfr 53 (.inr (by decide)), hfr 54 (.inr (by decide)), (h53 x hx).1, (h53 x hx).2, abs_swap (τ 40 x), abs_swap (τ 40 (40 + x))]
        exact ⟨rfl, rfl⟩
      · rw [hu 52 (by decide)]; exact hkd n i hn hi
    have c10 : ¬ f_L_motion u (f_X10_count u 16) = 0 := by rw [mo]; decide
    exact ⟨_, go_dec2 (s1 := (dec, σ, φ)) (v8 := 1) e2 rfl rfl e5 et ep u8 u9 rfl c0 c1 c2 c3 c4 c5 c6 hli n1 c9 c10, hI⟩
theorem main_step {tt : Nat → Nat} {j : Nat} {s : Int32 × Sg × Fl} (hj : j < 40) (h : MInv j s) : ∃ s', b_L_law_99 tt j s = .inr s' ∧ MInv (j + 1) s' := by
  by_cases c0 : 3 ≤ f_L_low (f_L_cell tt (2 * nI j)) 12
  · by_cases c1 : 5 ≤ f_L_low (f_L_cell tt (2 * nI j)) 12
    · by_cases c2 : 7 ≤ f_L_low (f_L_cell tt (2 * nI j)) 12
      · by_cases c3 : f_L_low (f_L_cell tt (2 * nI j)) 12 = 7
        · exact step_std h c0 c1 c2 c3
        · by_cases c4 : f_L_low (f_L_cell tt (2 * nI j)) 12 = 8
          · exact step_set h c0 c1 c2 c3 c4
          · by_cases c5 : f_L_low (f_L_cell tt (2 * nI j)) 12 = 9
            · exact step_bars h c0 c1 c2 c3 c4 c5
            · exact step_dec hj h c0 c1 c2 c3 c4 c5
      · exact step_line h c0 c1 c2
    · exact step_fill h c0 c1
  · exact step_seg h c0
theorem main_inv {tt : Nat → Nat} : ∀ (j : Nat) (s s' : Int32 × Sg × Fl), j < 40 → MInv j s → b_L_law_99 tt j s = .inr s' → MInv (j + 1) s' := by
  intro j s s' hj h e
  obtain ⟨t, et, ht⟩ := main_step (tt := tt) hj h
  rw [et] at e
  rw [← Sum.inr.inj e]; exact ht
theorem all0 {lo hi : Int} (h1 : lo ≤ 0) (h2 : 0 ≤ hi) : ∀ k : Nat, lo ≤ ((fun _ => (0 : Int32)) k : Int32).toInt ∧ ((fun _ => (0 : Int32)) k : Int32).toInt ≤ hi := fun _ => ⟨by rw [z_toInt]; exact h1, by rw [z_toInt]; exact h2⟩
theorem b20 : (0 : Int) ≤ (20 : Int32).toInt ∧ (20 : Int32).toInt ≤ 40 := by decide
theorem minv_0 : MInv 0 (0, sg0, fl0) := by
  refine ⟨⟨⟨all0 (by decide) (by decide), all0 (by decide) (by decide), all0 (by decide) (by decide), ?_, all0 (by decide) (by decide)⟩, all0 (by decide) (by decide), vp_lit (by decide), vp_lit (by decide), vp_lit (by decide)⟩, 0, Nat.le_refl 0, rfl, rfl, fun q => absurd q (by decide)⟩
  exact bnd_upd (bnd_upd (bnd_upd (bnd_upd (bnd_upd (bnd_upd (bnd_upd (bnd_upd (all0 (by decide) (by decide)) b20 0) b20 1) b20 2) b20 3) b20 4) b20 5) b20 6) b20 7
theorem law_1 (tt : Nat → Nat) : f_L_law tt sg0 fl0 = 1 := by
  obtain ⟨t, et, -⟩ := loopE_all (B := b_L_law_99 tt) (N := 40) (I := ((0 : Int32), sg0, fl0)) MInv minv_0 (fun j s hj h => main_step hj h)
  have e1 : f_X10_line sg0 0 0 = -100004 := by decide +kernel
  have e2 : f_X10_luma sg0 0 0 = -100004 := by decide +kernel
  have e3 : f_X10_combed sg0 0 0 = -100004 := by decide +kernel
  have e4 : f_X10_motion sg0 0 0 = -100004 := by decide +kernel
  have e5 : f_X10_count sg0 1 = -100004 := by decide +kernel
  have e6 : f_X10_count sg0 8 = -100004 := by decide +kernel
  have e7 : f_X10_count sg0 0 = 0 := by decide +kernel
  rw [f_L_law_eq]
  refine (if_pos e1).trans ((if_pos e2).trans ((if_pos e3).trans ((if_pos e4).trans ((if_pos e5).trans ((if_pos e6).trans ((if_pos e7).trans ((sumE_inr et).trans ?_)))))))
  show (f_L_errors t.2.1 t.2.2).1 = 1
  rw [errors_1]
