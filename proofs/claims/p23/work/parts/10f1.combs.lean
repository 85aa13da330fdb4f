/-! what a row of the law's own does not change -/
def E55 (τ s : Sg) : Prop := ∀ k, ¬ k = 55 → s k = τ k
theorem e5_line {τ s : Sg} (h : E55 τ s) : f_X10_line s = f_X10_line τ := by
  funext x y
  rw [f_X10_line_eq, f_X10_line_eq, h 0 (by decide), h 26 (by decide), h 27 (by decide), h 28 (by decide), h 29 (by decide), h 31 (by decide), h 32 (by decide), h 33 (by decide), h 34 (by decide)]
theorem e5_lat {τ s : Sg} (h : E55 τ s) : f_L_at s = f_L_at τ := lat_congr (fun k _ b => h k (by omega))
theorem e5_luma {τ s : Sg} (h : E55 τ s) : f_X10_luma s = f_X10_luma τ := by
  funext x y
  rw [f_X10_luma_eq, f_X10_luma_eq, h 0 (by decide), h 40 (by decide)]
theorem e5_combed {τ s : Sg} (h : E55 τ s) : f_X10_combed s = f_X10_combed τ := by
  funext x y
  rw [f_X10_combed_eq, f_X10_combed_eq, h 0 (by decide), h 41 (by decide)]
theorem e5_th {τ s : Sg} (h : E55 τ s) : f_X10_thousandths s = f_X10_thousandths τ := by
  funext φ x y w
  rw [f_X10_thousandths_eq, f_X10_thousandths_eq, h 0 (by decide)]
theorem lsum_at {τ s : Sg} (h : E55 τ s) (hd : ¬ τ 0 10 = 0) {n i : Nat} (hn : n < 8) (hi : i < 10) : f_L_sum s (nI n) (nI i) = MS (f_L_at τ) (τ 27 n) n i := by
  rw [f_L_sum_eq]
  dsimp only
  rw [show cnt8 (16 + 8 * nI i) = 8 by rw [seg_nI]; exact cnt8_nI (by omega)]
  refine loop_eq _ (fun j v _ => ?_)
  rw [b_L_sum_11_eq, e5_line h, e5_lat h, ln_1 hn hd]
theorem abs_toInt {x : Int32} (h : bd x 1000000) : (i_abs x).toInt = (x.toInt.natAbs : Int) := by
  unfold bd at h
  unfold i_abs
  by_cases c : 0 ≤ x
  · rw [if_pos c]
    rw [i32_le, show (0 : Int32).toInt = 0 from rfl] at c
    omega
  · rw [if_neg c, Int32.toInt_sub, show (0 : Int32).toInt = 0 from rfl, tq_bm (by omega) (by omega)]
    rw [i32_le, show (0 : Int32).toInt = 0 from rfl] at c
    omega
theorem abs_comm {a b : Int32} (ha : bd a 4000) (hb : bd b 4000) : i_abs (a - b) = i_abs (b - a) := by
  have h1 := bd_le (bd_sub ha hb (by decide)) (show 4000 + 4000 ≤ 1000000 by decide)
  have h2 := bd_le (bd_sub hb ha (by decide)) (show 4000 + 4000 ≤ 1000000 by decide)
  apply Int32.toInt_inj.mp
  rw [abs_toInt h1, abs_toInt h2]
  unfold bd at ha hb
  rw [Int32.toInt_sub, Int32.toInt_sub, tq_bm (by omega) (by omega), tq_bm (by omega) (by omega)]
  omega
theorem lnear_at {τ s : Sg} {M : Nat → Int32} (h : E55 τ s) (hd : ¬ τ 0 10 = 0) (hM : ∀ n i, n < 8 → i < 10 → M (10 * n + i) = MS (f_L_at τ) (τ 27 n) n i) (hb : ∀ n i, n < 8 → i < 10 → bd (M (10 * n + i)) 4000) {n n' i : Nat} (hn : n < 8) (hn' : n' < 8) (hi : i < 10) : f_L_near s (nI n) (nI n') (nI i) = nearC (M (10 * n + i)) (M (10 * n' + i)) (8 * τ 14 1) := by
  rw [f_L_near_eq]
  dsimp only
  rw [if_neg (nI_pos (by omega)), if_neg (show ¬ 8 ≤ nI n' from nI_ge (b := 8) hn' (by decide)), cn_16, h 14 (by decide), lsum_at h hd hn hi, lsum_at h hd hn' hi, ← hM n i hn hi, ← hM n' i hn' hi, size_abs, abs_comm (hb n i hn hi) (hb n' i hn' hi)]
  rfl
theorem lnear_lo {s : Sg} {x y w : Int32} (h : y < 0) : f_L_near s x y w = 0 := by
  rw [f_L_near_eq]
  exact if_pos h
theorem lnear_hi {s : Sg} {x y w : Int32} (h0 : ¬ y < 0) (h : 8 ≤ y) : f_L_near s x y w = 0 := by
  rw [f_L_near_eq]
  exact (if_neg h0).trans (if_pos h)
theorem lup {τ s : Sg} {M : Nat → Int32} (h : E55 τ s) (hd : ¬ τ 0 10 = 0) (hM : ∀ n i, n < 8 → i < 10 → M (10 * n + i) = MS (f_L_at τ) (τ 27 n) n i) (hb : ∀ n i, n < 8 → i < 10 → bd (M (10 * n + i)) 4000) {n i : Nat} (hn : n < 8) (hi : i < 10) : (if f_X10_count τ 17 = 3 then f_L_near s (nI n) ((nI n) - 1) (nI i) else (if nI n ≤ 0 then 0 else 1)) = upS M (τ 14 2) (τ 14 1) n i := by
  rw [cn_17]
  unfold upS
  by_cases c : n = 0
  · subst c
    rw [if_pos rfl, if_pos (show nI 0 ≤ 0 by decide), lnear_lo (show nI 0 - 1 < 0 by decide), ite_self]
  · rw [if_neg c, if_neg (show ¬ nI n ≤ 0 from nI_nle (by omega) (by omega)), show nI n - 1 = nI (n - 1) from pk_sub (a := n) (b := 1) (by omega), lnear_at h hd hM hb hn (by omega) hi]
theorem ldn {τ s : Sg} {M : Nat → Int32} (h : E55 τ s) (hd : ¬ τ 0 10 = 0) (hM : ∀ n i, n < 8 → i < 10 → M (10 * n + i) = MS (f_L_at τ) (τ 27 n) n i) (hb : ∀ n i, n < 8 → i < 10 → bd (M (10 * n + i)) 4000) {n i : Nat} (hn : n < 8) (hi : i < 10) : (if f_X10_count τ 17 = 3 then f_L_near s (nI n) ((nI n) + 1) (nI i) else (if 7 ≤ nI n then 0 else 1)) = dnS M (τ 14 2) (τ 14 1) n i := by
  rw [cn_17, nI_1]
  unfold dnS
  by_cases c : n = 7
  · subst c
    rw [if_pos rfl, if_pos (show 7 ≤ nI 7 by decide), lnear_hi (show ¬ nI (7 + 1) < 0 by decide) (show 8 ≤ nI (7 + 1) by decide), ite_self]
  · rw [if_neg c, if_neg (show ¬ 7 ≤ nI n from nI_ge (b := 7) (by omega) (by decide)), lnear_at h hd hM hb hn (by omega) hi]
theorem ad_sub (a b c : Int32) : a + b - c = a + (b - c) := by rw [Int32.sub_eq_add_neg, Int32.sub_eq_add_neg, Int32.add_assoc]
/-- the law's chroma -/
theorem lchroma {S : Int32 → Int32 → Int32} {st : Nat → Int32} {n : Nat} (y : Int32) {v : Int32} (hv : vp_in v 4) : (if v = 0 then (((2 * S (nI n) (st n + y)) - S (nI n) ((st n + y) - 2)) - S (nI n) ((st n + y) + 2)) else (if v = 1 then (2 * (S (nI n) (st n + y) - (if (v - v / 2 * 2) = 1 then S (nI (n - 1)) (st (n - 1) + y) else 0))) else (if v = 2 then (2 * (S (nI n) (st n + y) - (if v ≤ 1 then 0 else S (nI (n + 1)) (st (n + 1) + y)))) else (((2 * S (nI n) (st n + y)) - (if (v - v / 2 * 2) = 1 then S (nI (n - 1)) (st (n - 1) + y) else 0)) - (if v ≤ 1 then 0 else S (nI (n + 1)) (st (n + 1) + y)))))) = chS S st n y v := by
  unfold chS
  obtain ⟨k, hk, e⟩ := vp_in_of hv (by decide)
  subst e
  have : k = 0 ∨ k = 1 ∨ k = 2 ∨ k = 3 := by omega
  rcases this with rfl | rfl | rfl | rfl
  · rw [if_pos (show nI 0 = 0 from rfl), if_neg (show ¬ nI 0 = 1 by decide), if_neg (show ¬ nI 0 = 2 by decide), if_neg (show ¬ nI 0 = 3 by decide), ad_sub, Int32.add_assoc]
  · rw [if_neg (show ¬ nI 1 = 0 by decide), if_pos (show nI 1 = 1 from rfl), if_pos (show nI 1 - nI 1 / 2 * 2 = 1 by decide), if_pos (show nI 1 = 1 from rfl), t_sub]
  · rw [if_neg (show ¬ nI 2 = 0 by decide), if_neg (show ¬ nI 2 = 1 by decide), if_pos (show nI 2 = 2 from rfl), if_neg (show ¬ nI 2 ≤ 1 by decide), if_neg (show ¬ nI 2 = 1 by decide), if_pos (show nI 2 = 2 from rfl), t_sub]
  · rw [if_neg (show ¬ nI 3 = 0 by decide), if_neg (show ¬ nI 3 = 1 by decide), if_neg (show ¬ nI 3 = 2 by decide), if_pos (show nI 3 - nI 3 / 2 * 2 = 1 by decide), if_neg (show ¬ nI 3 ≤ 1 by decide), if_neg (show ¬ nI 3 = 1 by decide), if_neg (show ¬ nI 3 = 2 by decide), if_pos (show nI 3 = 3 from rfl)]
theorem odd_way {v : Int32} (hv : vp_in v 4) (h : v - v / 2 * 2 = 1) : v = 1 ∨ v = 3 := by
  obtain ⟨k, hk, e⟩ := vp_in_of hv (by decide)
  subst e
  have : k = 0 ∨ k = 1 ∨ k = 2 ∨ k = 3 := by omega
  rcases this with rfl | rfl | rfl | rfl
  · exact absurd h (by decide)
  · exact .inl rfl
  · exact absurd h (by decide)
  · exact .inr rfl
theorem big_way {v : Int32} (hv : vp_in v 4) (h : ¬ v ≤ 1) : v = 2 ∨ v = 3 := by
  obtain ⟨k, hk, e⟩ := vp_in_of hv (by decide)
  subst e
  have : k = 0 ∨ k = 1 ∨ k = 2 ∨ k = 3 := by omega
  rcases this with rfl | rfl | rfl | rfl
  · exact absurd (by decide) h
  · exact absurd (by decide) h
  · exact .inl rfl
  · exact .inr rfl
/-- a segment's sums, as the law takes them -/
theorem lseg {τ s : Sg} (h : E55 τ s) (hd : ¬ τ 0 10 = 0) {n i : Nat} (hn : n < 8) (hi : i < 10) {v : Int32} (hv : vp_in v 4) (o1 : v = 1 → 1 ≤ n) (o2 : v = 2 → n < 7) (o3 : v = 3 → 1 ≤ n ∧ n < 7) (a : Int32) : loopF (b_L_combs_213 n i s v) (cnt8 (16 + 8 * nI i)) (a, 0, 0) = (a - (segS (f_L_at τ) (τ 27) n i v).1, (segS (f_L_at τ) (τ 27) n i v).2.1, (segS (f_L_at τ) (τ 27) n i v).2.2) := by
  rw [show cnt8 (16 + 8 * nI i) = 8 by rw [seg_nI]; exact cnt8_nI (by omega)]
  have key := two (B := b_L_combs_213 n i s v) (B' := segB (f_L_at τ) (τ 27) n i v) (N := 8) (I := (a, 0, 0)) (I' := (0, 0, 0)) (fun _ x z => x = (a - z.1, z.2.1, z.2.2)) (by rw [Int32.sub_zero]) (fun j x z hj hR => by
    subst hR
    rw [b_L_combs_213_eq]
    dsimp only
    have hup : (if (v - v / 2 * 2) = 1 then (f_L_at s ((nI n) - 1) ((f_X10_line s ((nI n) - 1) 1) + ((16 + (8 * (nI i))) + nI j))) else 0) = (if (v - v / 2 * 2) = 1 then f_L_at τ (nI (n - 1)) (τ 27 (n - 1) + ((16 + 8 * nI i) + nI j)) else 0) := by
      by_cases c : v - v / 2 * 2 = 1
      · have : 1 ≤ n := by
          rcases odd_way hv c with q | q
          · exact o1 q
          · exact (o3 q).1
        rw [if_pos c, if_pos c, e5_lat h, e5_line h, show nI n - 1 = nI (n - 1) from pk_sub (a := n) (b := 1) this, ln_1 (by omega) hd]
      · rw [if_neg c, if_neg c]
    have hdn : (if v ≤ 1 then 0 else (f_L_at s ((nI n) + 1) ((f_X10_line s ((nI n) + 1) 1) + ((16 + (8 * (nI i))) + nI j)))) = (if v ≤ 1 then 0 else f_L_at τ (nI (n + 1)) (τ 27 (n + 1) + ((16 + 8 * nI i) + nI j))) := by
      by_cases c : v ≤ 1
      · rw [if_pos c, if_pos c]
      · have : n < 7 := by
          rcases big_way hv c with q | q
          · exact o2 q
          · exact (o3 q).2
        rw [if_neg c, if_neg c, e5_lat h, e5_line h, nI_1, ln_1 (by omega) hd]
    rw [hup, hdn, e5_lat h, e5_line h, ln_1 hn hd, lchroma ((16 + 8 * nI i) + nI j) hv]
    unfold segB
    dsimp only
    rw [Int32.sub_eq_add_neg, Int32.sub_eq_add_neg, Int32.sub_eq_add_neg, Int32.neg_add, Int32.sub_eq_add_neg, Int32.add_assoc])
  exact key
