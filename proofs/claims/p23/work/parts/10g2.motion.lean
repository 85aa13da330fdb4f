/-! motion holds; what the law keeps -/
theorem dv {j : Nat} (h : j < 100) : nI j / 10 = nI (j / 10) := pk_div (d := 10) (by omega) (by decide) (by decide)
theorem md {j : Nat} (h : j < 100) : nI j - nI j / 10 * 10 = nI (j % 10) := nI_mod (d := 10) (by omega) (by decide) (by decide)
theorem luma_lo {s : Sg} (hd : ¬ s 0 10 = 0) {j : Nat} (hj : j < 40) : f_X10_luma s ((nI j) / 10) ((nI j) - (nI j) / 10 * 10) = s 40 j := by
  rw [md (by omega), dv (by omega), luma_at hd (by omega) (by omega), show 10 * (j / 10) + j % 10 = j by omega]
theorem luma_hi {s : Sg} (hd : ¬ s 0 10 = 0) {j : Nat} (hj : j < 40) : f_X10_luma s (4 + ((nI j) / 10)) ((nI j) - (nI j) / 10 * 10) = s 40 (40 + j) := by
  rw [md (by omega), dv (by omega), show (4 : Int32) + nI (j / 10) = nI (4 + j / 10) from nI_add 4 (j / 10), luma_at hd (by omega) (by omega), show 10 * (4 + j / 10) + j % 10 = 40 + j by omega]
theorem keep_at {s : Sg} (hd : ¬ s 0 10 = 0) : (∀ j, j < 40 → f_L_keep s 53 j = s 40 j ∧ f_L_keep s 54 j = s 40 (40 + j)) ∧ Kp [53, 54] s (f_L_keep s) := by
  rw [f_L_keep_eq]
  refine loopF_inv (B := b_L_keep_2) (N := 40) (I := s) (fun m u => (∀ j, j < m → u 53 j = s 40 j ∧ u 54 j = s 40 (40 + j)) ∧ Kp [53, 54] s u) ⟨fun j hj => absurd hj (by omega), Kp.rf _⟩ (fun m u hm hI => ?_)
  obtain ⟨i1, i2⟩ := hI
  have hu : ¬ u 0 10 = 0 := by rw [i2 0 (by decide)]; exact hd
  rw [b_L_keep_2_eq]
  dsimp only
  rw [luma_lo hu hm, luma_hi (by rw [sw_cell (show ¬ (0 : Nat) = 53 by decide)]; exact hu) hm, nI_clamp (by omega), sw_cell (show ¬ (40 : Nat) = 53 by decide), i2 40 (by decide)]
  refine ⟨fun j hj => ?_, i2.tr ((Kp.sw (by decide) _ _ _).tr (Kp.sw (by decide) _ _ _))⟩
  rw [sw_cell (show ¬ (53 : Nat) = 54 by decide)]
  by_cases q : j = m
  · subst q
    rw [sw_same, sw_same]
    exact ⟨rfl, rfl⟩
  · rw [sw_place q, sw_place q, sw_cell (show ¬ (54 : Nat) = 53 by decide)]
    exact i1 j (by omega)
/-- the two masks -/
theorem mask_at {s : Sg} (hd : ¬ s 0 10 = 0) (x : Int32) {t : Int64 × Int64} (ht : loopF (b_L_motion_9 s x) 40 ((0 : Int64), (0 : Int64)) = t) : ∀ k, k < 40 → bt t.1 k = decide (¬ i_abs (s 53 k - s 40 k) ≤ x) ∧ bt t.2 k = decide (¬ i_abs (s 54 k - s 40 (40 + k)) ≤ x) := by
  subst ht
  have key := loopF_inv (B := b_L_motion_9 s x) (N := 40) (I := ((0 : Int64), (0 : Int64))) (fun m t => ∀ k, k < 40 → bt t.1 k = (decide (k < m) && decide (¬ i_abs (s 53 k - s 40 k) ≤ x)) ∧ bt t.2 k = (decide (k < m) && decide (¬ i_abs (s 54 k - s 40 (40 + k)) ≤ x))) (fun k _ => by rw [bt_0]; simp) (fun m t hm hI => by
    rw [b_L_motion_9_eq, luma_lo hd hm, luma_hi hd hm, nI_clamp (by omega), show f_L_size = i_abs from funext size_abs]
    dsimp only
    intro k hk
    obtain ⟨g1, g2⟩ := hI k hk
    have one : ∀ (P : Prop) [Decidable P], bt (if P then (0 : Int64) else ((1 : Int64) <<< ((nI m).toInt64 &&& 63))) k = (decide (k = m) && decide (¬ P)) := fun P _ => by
      by_cases c : P
      · rw [if_pos c, bt_0]; simp [c]
      · rw [if_neg c, bt_1 hm hk]; simp [c]
    rw [bt_or, bt_or, one, one, g1, g2]
    by_cases q : k = m
    · subst q
      simp
    · by_cases q2 : k < m
      · simp [q, q2, show k < m + 1 by omega]
      · simp [q, q2, show ¬ k < m + 1 by omega])
  intro k hk
  obtain ⟨g1, g2⟩ := key k hk
  rw [g1, g2]
  simp [hk]
theorem motion_at {τ : Sg} (h2 : 2 ≤ τ 0 10) {n i : Nat} (hn : n < 8) (hi : i < 10) : f_X10_motion τ (nI n) (nI i) = τ 52 (10 * n + i) := by
  rw [f_X10_motion_eq, if_neg (ip_of (vp_in_nI hn (by decide)) (vp_in_nI hi (by decide)))]
  dsimp only
  rw [if_pos h2, pl_10, nI_clamp (by omega)]
/-- beside, as the law asks for it -/
theorem beside_eq {p q : Prop} [Decidable p] [Decidable q] (L R A B : Int32) : (if p then (if q then (if A = 0 then (if B = 0 then (0 : Int32) else 1) else 1) else (if R = 0 then (if A = 0 then (if B = 0 then 0 else 1) else 1) else 1)) else (if L = 0 then (if q then (if A = 0 then (if B = 0 then 0 else 1) else 1) else (if R = 0 then (if A = 0 then (if B = 0 then 0 else 1) else 1) else 1)) else 1)) = (if (if p then 0 else L) = 0 then (if (if q then 0 else R) = 0 then (if A = 0 then (if B = 0 then 0 else 1) else 1) else 1) else 1) := by
  by_cases hp : p
  · rw [if_pos hp, if_pos hp, if_pos rfl]
    by_cases hq : q
    · rw [if_pos hq, if_pos hq, if_pos rfl]
    · rw [if_neg hq, if_neg hq]
  · rw [if_neg hp, if_neg hp]
    by_cases hq : q
    · rw [if_pos hq, if_pos hq, if_pos rfl]
    · rw [if_neg hq, if_neg hq]
theorem due_eq (X L R A B : Int32) : (if X = 0 then (0 : Int32) else (if (if L = 0 then (if R = 0 then (if A = 0 then (if B = 0 then (0 : Int32) else 1) else 1) else 1) else 1) = 0 then 1 else 2)) = (if X = 0 then 0 else (if (if L = 0 then (if R = 0 then (0 : Int32) else 1) else 1) = 0 then (if (if A = 0 then (if B = 0 then (0 : Int32) else 1) else 1) = 0 then 1 else 2) else 2)) := by
  by_cases h0 : X = 0
  · rw [if_pos h0, if_pos h0]
  · rw [if_neg h0, if_neg h0]
    by_cases h1 : L = 0
    · rw [if_pos h1, if_pos h1]
      by_cases h2 : R = 0
      · rw [if_pos h2, if_pos h2, if_pos rfl]
      · rw [if_neg h2, if_neg h2, if_neg (by decide), if_neg (by decide)]
    · rw [if_neg h1, if_neg h1, if_neg (by decide), if_neg (by decide)]
theorem kind_is {c : Sg} {a b : Int64} (hb : ∀ k, k < 80 → f_L_is a b (nI k) = c 51 k) (hz : ∀ k, k < 80 → c 51 k = 0 ∨ c 51 k = 1) {x : Nat} (hx : x < 80) : (if (f_L_is a b (nI x)) = 0 then (0 : Int32) else (if (if (if (nI (x % 10)) ≤ 0 then 0 else (f_L_is a b ((nI x) - 1))) = 0 then (if (if 9 ≤ (nI (x % 10)) then 0 else (f_L_is a b ((nI x) + 1))) = 0 then (if (f_L_is a b ((nI x) - 10)) = 0 then (if (f_L_is a b ((nI x) + 10)) = 0 then (0 : Int32) else 1) else 1) else 1) else 1) = 0 then 1 else 2)) = f_X5_kindOf c (nI (x / 10)) (nI (x % 10)) := by
  have hn : x / 10 < 8 := by omega
  have hi : x % 10 < 10 := by omega
  have ex : 10 * (x / 10) + x % 10 = x := by omega
  have nz : ∀ k, k < 80 → (if c 51 k = 0 then (0 : Int32) else 1) = c 51 k := fun k hk => norm01 (hz k hk)
  have eX : f_X5_hasChanged c (nI (x / 10)) (nI (x % 10)) = f_L_is a b (nI x) := by
    rw [hc_in c hn hi, ex, nz x hx, hb x hx]
  have eL : f_X5_hasChanged c (nI (x / 10)) (nI (x % 10) - 1) = (if (nI (x % 10)) ≤ 0 then 0 else (f_L_is a b ((nI x) - 1))) := by
    rcases Nat.eq_zero_or_pos (x % 10) with q | q
    · rw [q, if_pos (show nI 0 ≤ 0 by decide)]
      exact hc_out c (fun z => absurd z.2 (fun z => z (.inl (by decide))))
    · rw [if_neg (nI_nle q (by omega)), show nI (x % 10) - 1 = nI (x % 10 - 1) from pk_sub (a := x % 10) (b := 1) q, hc_in c hn (by omega), nz _ (by omega), show nI x - 1 = nI (x - 1) from pk_sub (a := x) (b := 1) (by omega), hb _ (by omega), show 10 * (x / 10) + (x % 10 - 1) = x - 1 by omega]
  have eR : f_X5_hasChanged c (nI (x / 10)) (nI (x % 10) + 1) = (if 9 ≤ (nI (x % 10)) then 0 else (f_L_is a b ((nI x) + 1))) := by
    rw [nI_1, nI_1]
    by_cases q : x % 10 = 9
    · rw [q, if_pos (show 9 ≤ nI 9 by decide)]
      exact hc_out c (fun z => vp_no (a := 10) (n := 10) (by decide) (by decide) z.2)
    · rw [if_neg (show ¬ 9 ≤ nI (x % 10) from nI_ge (b := 9) (by omega) (by decide)), hc_in c hn (by omega), nz _ (by omega), hb _ (by omega), show 10 * (x / 10) + (x % 10 + 1) = x + 1 by omega]
  have eA : f_X5_hasChanged c (nI (x / 10) - 1) (nI (x % 10)) = f_L_is a b ((nI x) - 10) := by
    rcases Nat.eq_zero_or_pos (x / 10) with q | q
    · rw [q, is_neg _ _ (show nI x - 10 < 0 from pk_sneg (a := x) (b := 10) (by decide) (by omega))]
      exact hc_out c (fun z => absurd z.1 (fun z => z (.inl (by decide))))
    · rw [show nI (x / 10) - 1 = nI (x / 10 - 1) from pk_sub (a := x / 10) (b := 1) q, hc_in c (by omega) hi, nz _ (by omega), show nI x - 10 = nI (x - 10) from pk_sub (a := x) (b := 10) (by omega), hb _ (by omega), show 10 * (x / 10 - 1) + x % 10 = x - 10 by omega]
  have eB : f_X5_hasChanged c (nI (x / 10) + 1) (nI (x % 10)) = f_L_is a b ((nI x) + 10) := by
    rw [nI_1, show nI x + 10 = nI (x + 10) from nI_add x 10]
    by_cases q : x / 10 = 7
    · rw [q, is_big _ _ (show 80 ≤ x + 10 by omega) (by omega)]
      exact hc_out c (fun z => vp_no (a := 8) (n := 8) (by decide) (by decide) z.1)
    · rw [hc_in c (by omega) hi, nz _ (by omega), hb _ (by omega), show 10 * (x / 10 + 1) + x % 10 = x + 10 by omega]
  rw [f_X5_kindOf_eq, eX, eL, eR, eA, eB]
  exact due_eq _ _ _ _ _
/-- how often a kind was told up to the place p -/
def kinN (τ : Sg) (c : Int32) (p : Nat) : Int32 := loopF (b_X10_tally__52_11 τ c) p 0
theorem kinN_s (τ : Sg) (c : Int32) (p : Nat) (hp : p < 80) : kinN τ c (p + 1) = kinN τ c p + (if τ 52 p = c then 1 else 0) := by
  show b_X10_tally__52_11 τ c p (kinN τ c p) = _
  rw [b_X10_tally__52_11_eq, nI_clamp (by omega)]
  dsimp only
  rw [oneIf_01 (zo_ite (.inr rfl) (.inl rfl))]
theorem motion_1 {s c : Sg} (h2 : 2 ≤ s 0 10) {x : Int32} (hc : ∀ k, k < 40 → c 51 k = (if i_abs (s 53 k - s 40 k) ≤ x then 0 else 1) ∧ c 51 (40 + k) = (if i_abs (s 54 k - s 40 (40 + k)) ≤ x then 0 else 1)) (hk : ∀ n i, n < 8 → i < 10 → s 52 (10 * n + i) = f_X5_kindOf c (nI n) (nI i)) : f_L_motion s x = 1 := by
  have hd : ¬ s 0 10 = 0 := fun q => by rw [q] at h2; exact absurd h2 (by decide)
  generalize ht : loopF (b_L_motion_9 s x) 40 ((0 : Int64), (0 : Int64)) = t
  have hm := mask_at hd x ht
  have hz : ∀ k, k < 80 → c 51 k = 0 ∨ c 51 k = 1 := fun k hk => by
    by_cases q : k < 40
    · rw [(hc k q).1]; exact zo_ite (.inl rfl) (.inr rfl)
    · have := (hc (k - 40) (by omega)).2
      rw [show 40 + (k - 40) = k by omega] at this
      rw [this]; exact zo_ite (.inl rfl) (.inr rfl)
  have hb : ∀ k, k < 80 → f_L_is t.1 t.2 (nI k) = c 51 k := fun k hk => by
    by_cases q : k < 40
    · rw [is_lo _ _ q, (hm k q).1, (hc k q).1]
      by_cases c1 : i_abs (s 53 k - s 40 k) ≤ x
      · rw [if_pos c1, if_neg (by simp [c1])]
      · rw [if_neg c1, if_pos (by simp [c1])]
    · have e := (hc (k - 40) (by omega)).2
      rw [show 40 + (k - 40) = k by omega] at e
      have e2 := (hm (k - 40) (by omega)).2
      rw [show 40 + (k - 40) = k by omega] at e2
      rw [is_hi _ _ (by omega) hk, e2, e]
      by_cases c1 : i_abs (s 54 (k - 40) - s 40 k) ≤ x
      · rw [if_pos c1, if_neg (by simp [c1])]
      · rw [if_neg c1, if_pos (by simp [c1])]
  obtain ⟨u, eu, hu⟩ := loopE_all (B := b_L_motion_111 s t) (N := 80) (I := (0, 0)) (fun p u => u.1 = kinN s 2 p ∧ u.2 = kinN s 1 p) ⟨rfl, rfl⟩ (fun p u hp hI => by
    have e52 := hk (p / 10) (p % 10) (by omega) (by omega)
    rw [show 10 * (p / 10) + p % 10 = p by omega] at e52
    have e9 : (if (f_L_is t.1 t.2 (nI p)) = 0 then (0 : Int32) else (if (if ((nI p) - (nI p) / 10 * 10) ≤ 0 then (if 9 ≤ ((nI p) - (nI p) / 10 * 10) then (if (f_L_is t.1 t.2 ((nI p) - 10)) = 0 then (if (f_L_is t.1 t.2 ((nI p) + 10)) = 0 then (0 : Int32) else 1) else 1) else (if (f_L_is t.1 t.2 ((nI p) + 1)) = 0 then (if (f_L_is t.1 t.2 ((nI p) - 10)) = 0 then (if (f_L_is t.1 t.2 ((nI p) + 10)) = 0 then 0 else 1) else 1) else 1)) else (if (f_L_is t.1 t.2 ((nI p) - 1)) = 0 then (if 9 ≤ ((nI p) - (nI p) / 10 * 10) then (if (f_L_is t.1 t.2 ((nI p) - 10)) = 0 then (if (f_L_is t.1 t.2 ((nI p) + 10)) = 0 then 0 else 1) else 1) else (if (f_L_is t.1 t.2 ((nI p) + 1)) = 0 then (if (f_L_is t.1 t.2 ((nI p) - 10)) = 0 then (if (f_L_is t.1 t.2 ((nI p) + 10)) = 0 then 0 else 1) else 1) else 1)) else 1)) = 0 then 1 else 2)) = s 52 p := by
      rw [md (by omega), beside_eq, e52]
      exact kind_is hb hz hp
    have cm : f_X10_motion s ((nI p) / 10) ((nI p) - (nI p) / 10 * 10) = s 52 p := by
      rw [md (by omega), dv (by omega), motion_at h2 (by omega) (by omega), show 10 * (p / 10) + p % 10 = p by omega]
    refine ⟨_, (motion_of (σ := s) (t1 := t) (j6 := p) (s6 := u) (hv7 := rfl) (hv9 := e9) (hv11 := rfl) (hv13 := rfl)).trans (if_pos cm), ?_, ?_⟩
    · show u.1 + _ = _
      rw [kinN_s s 2 p hp, hI.1]
    · show u.2 + _ = _
      rw [kinN_s s 1 p hp, hI.2])
  have e0 : f_L_motion s x = sumE (loopE (b_L_motion_111 s (loopF (b_L_motion_9 s x) 40 ((0 : Int64), (0 : Int64)))) 80 0 (0, 0)) (fun t6 => if (f_X10_count s 7) = (t6.1) then (if (f_X10_count s 8) = (t6.2) then 1 else 0) else 0) := rfl
  rw [e0, ht]
  refine (sumE_inr eu).trans ?_
  have c7 : f_X10_count s 7 = u.1 := (cn_7 h2).trans ((f_X10_tally__52_eq s 2).trans hu.1.symm)
  have c8 : f_X10_count s 8 = u.2 := (cn_8 h2).trans ((f_X10_tally__52_eq s 1).trans hu.2.symm)
  exact (if_pos c7).trans (if_pos c8)
