/-! the text, letter by letter -/
def PQ (σ : Sg) (t : Nat) (fl : Int32) (L : Nat) (s : Int32 × Int32 × Sg) : Prop := s.1 = nI t ∧ s.2.1 = fl ∧ s.2.2 11 = σ 11 ∧ s.2.2 10 1 = σ 10 1 ∧ s.2.2 10 3 = nI L
theorem pq_letter {σ : Sg} {t L j b : Nat} {fl : Int32} {s : Int32 × Int32 × Sg} (h : PQ σ t fl L s) (hj : j < 60) (hc : f_X0_barOf (σ 11 j) = nI b) (hb : b < 8) (ht : t < 10) : ∃ s', b_X0_parse_11 j s = .inr s' ∧ PQ σ (t + 1) 1 (L + 1) s' := by
  obtain ⟨t0, f0, u⟩ := s
  obtain ⟨h1, h2, h3, h4, h5⟩ := h
  dsimp only at h1 h2 h3 h4 h5
  subst h1 h2
  rw [b_X0_parse_11_eq]
  simp only [nI_clamp (show j < 2 ^ 31 by omega), h3, hc, if_neg (nI_pos (show b < 2 ^ 31 by omega)), if_pos (show nI t < 10 from nI_lt (b := 10) ht (by decide)), nI_clamp (show t < 2 ^ 31 by omega), nI_1]
  refine ⟨_, rfl, rfl, rfl, ?_, ?_, ?_⟩
  · dsimp only; rw [sw_row (show ¬ (11 : Nat) = 10 by decide), sw_row (show ¬ (11 : Nat) = 12 by decide), h3]
  · dsimp only; rw [sw_place (show ¬ (1 : Nat) = 3 by decide), sw_cell (show ¬ (10 : Nat) = 12 by decide), h4]
  · dsimp only; rw [sw_same, sw_cell (show ¬ (10 : Nat) = 12 by decide), h5, nI_1]
theorem pq_full {σ : Sg} {L j b : Nat} {fl : Int32} {s : Int32 × Int32 × Sg} (h : PQ σ 10 fl L s) (hj : j < 60) (hc : f_X0_barOf (σ 11 j) = nI b) (hb : b < 8) : b_X0_parse_11 j s = .inl (nI j, s.2.2) := by
  obtain ⟨t0, f0, u⟩ := s
  obtain ⟨h1, h2, h3, h4, h5⟩ := h
  dsimp only at h1 h2 h3 h4 h5
  subst h1 h2
  rw [b_X0_parse_11_eq]
  simp only [nI_clamp (show j < 2 ^ 31 by omega), h3, hc, if_neg (nI_pos (show b < 2 ^ 31 by omega)), if_neg (show ¬ nI 10 < 10 by decide)]
theorem pq_digit {σ : Sg} {t L j m : Nat} {s : Int32 × Int32 × Sg} (h : PQ σ t 1 L s) (hj : j < 60) (hc : f_X0_barOf (σ 11 j) = -1) (hd : f_X0_digitOf (σ 11 j) = nI (m + 1)) (ht : 1 ≤ t) (htm : t + m ≤ 10) : ∃ s', b_X0_parse_11 j s = .inr s' ∧ PQ σ (t + m) 0 L s' := by
  obtain ⟨t0, f0, u⟩ := s
  obtain ⟨h1, h2, h3, h4, h5⟩ := h
  dsimp only at h1 h2 h3 h4 h5
  subst h1 h2
  rw [b_X0_parse_11_eq]
  have e1 : nI (m + 1) - 1 = nI m := nI_pred m
  simp only [nI_clamp (show j < 2 ^ 31 by omega), h3, hc, hd, if_pos (show (-1 : Int32) < 0 by decide), if_neg (show ¬ (1 : Int32) = 0 by decide), e1, if_neg (nI_pos (show m < 2 ^ 31 by omega)), nI_add t m, if_pos (show nI (t + m) ≤ 10 from nI_le (b := 10) htm (by decide)), rb_eq u ht htm]
  refine ⟨_, rfl, rfl, rfl, ?_, ?_, ?_⟩
  · funext i
    show rep 12 t u m 11 i = _
    rw [rep_get _ _ _ ht, if_neg (by omega), h3]
  · show rep 12 t u m 10 1 = _
    rw [rep_get _ _ _ ht, if_neg (by omega), h4]
  · show rep 12 t u m 10 3 = _
    rw [rep_get _ _ _ ht, if_neg (by omega), h5]
theorem pq_over {σ : Sg} {t L j m : Nat} {s : Int32 × Int32 × Sg} (h : PQ σ t 1 L s) (hj : j < 60) (hc : f_X0_barOf (σ 11 j) = -1) (hd : f_X0_digitOf (σ 11 j) = nI (m + 1)) (ht : t ≤ 10) (hm : m ≤ 10) (htm : 10 < t + m) : b_X0_parse_11 j s = .inl (nI j, s.2.2) := by
  obtain ⟨t0, f0, u⟩ := s
  obtain ⟨h1, h2, h3, h4, h5⟩ := h
  dsimp only at h1 h2 h3 h4 h5
  subst h1 h2
  rw [b_X0_parse_11_eq]
  have e1 : nI (m + 1) - 1 = nI m := nI_pred m
  simp only [nI_clamp (show j < 2 ^ 31 by omega), h3, hc, hd, if_pos (show (-1 : Int32) < 0 by decide), if_neg (show ¬ (1 : Int32) = 0 by decide), e1, if_neg (nI_pos (show m < 2 ^ 31 by omega)), nI_add t m, if_neg (show ¬ nI (t + m) ≤ 10 from nI_ge (a := 10) htm (by omega))]
theorem pq_bad {σ : Sg} {t L j : Nat} {s : Int32 × Int32 × Sg} (h : PQ σ t 0 L s) (hj : j < 60) (hc : f_X0_barOf (σ 11 j) = -1) : b_X0_parse_11 j s = .inl (nI j, s.2.2) := by
  obtain ⟨t0, f0, u⟩ := s
  obtain ⟨h1, h2, h3, h4, h5⟩ := h
  dsimp only at h1 h2 h3 h4 h5
  subst h1 h2
  rw [b_X0_parse_11_eq]
  simp only [nI_clamp (show j < 2 ^ 31 by omega), h3, hc, if_pos (show (-1 : Int32) < 0 by decide), if_true]
theorem pq_0 (σ : Sg) : PQ σ 0 0 0 (0, 0, sw σ 10 3 0) := by
  refine ⟨rfl, rfl, ?_, ?_, ?_⟩
  · show sw σ 10 3 0 11 = σ 11; rw [sw_row (show ¬ (11 : Nat) = 10 by decide)]
  · show sw σ 10 3 0 10 1 = σ 10 1; rw [sw_place (show ¬ (1 : Nat) = 3 by decide)]
  · show sw σ 10 3 0 10 3 = nI 0; rw [sw_same]; rfl
/-- a fault -/
theorem parse_inl {σ : Sg} {n : Nat} (hn : σ 10 1 = nI n) (hn2 : n ≤ 60) {r : Int32 × Sg} (h : loopE b_X0_parse_11 n 0 (0, 0, sw σ 10 3 0) = .inl r) : (f_X0_parse σ).1 = r.1 := by
  rw [f_X0_parse_eq]
  dsimp only
  rw [hn, nI_clamp (by omega), sumE_inl h]
/-- the end -/
theorem parse_inr {σ : Sg} {n t L : Nat} {fl : Int32} (hn : σ 10 1 = nI n) (hn2 : n ≤ 60) {s : Int32 × Int32 × Sg} (h : loopE b_X0_parse_11 n 0 (0, 0, sw σ 10 3 0) = .inr s) (hs : PQ σ t fl L s) (ht : t ≤ 10) : ((f_X0_parse σ).1 = if t = 10 then -1 else nI n) ∧ (f_X0_parse σ).2 10 3 = nI L := by
  obtain ⟨h1, h2, h3, h4, h5⟩ := hs
  rw [f_X0_parse_eq]
  dsimp only
  rw [hn, nI_clamp (by omega), sumE_inr h]
  by_cases q : t = 10
  · rw [if_pos q, if_pos (show 10 ≤ s.1 by rw [h1, q]; decide)]
    exact ⟨rfl, h5⟩
  · rw [if_neg q, if_neg (show ¬ 10 ≤ s.1 by rw [h1]; exact nI_ge (b := 10) (by omega) (by decide))]
    exact ⟨h4.trans hn, h5⟩
theorem read_bad {σ : Sg} {x : Int32} (hx : vp_in x 8) {v : Int32} (h : (f_X0_parse σ).1 = v) (hv : ¬ v = -1) : (f_X10_readBars σ x).1 = (-100) - v := by
  rw [f_X10_readBars_eq, if_neg (il_of hx)]
  dsimp only
  rw [h, if_neg hv]
theorem read_ok {σ : Sg} {x : Int32} (hx : vp_in x 8) (h : (f_X0_parse σ).1 = -1) : (f_X10_readBars σ x).1 = (f_X0_parse σ).2 10 3 := by
  rw [f_X10_readBars_eq, if_neg (il_of hx)]
  dsimp only
  rw [h, if_pos rfl]
  dsimp only
  rw [kp_bars x _ 10 (by decide)]
theorem read_8 (σ : Sg) : f_X10_readBars σ 8 = (-100001, σ) := by
  rw [f_X10_readBars_eq, if_pos (show f_X10_isLine 8 = 0 by decide +kernel)]
/-- a text of n characters -/
def Tx (u : Sg) (n : Nat) (f : Nat → Int32) : Prop := u 10 1 = nI n ∧ ∀ j, j < n → u 11 j = f j
theorem tx_clear (σ : Sg) (f : Nat → Int32) : Tx (f_X10_clearText σ).2 0 f := ⟨(show sw σ 10 1 0 10 1 = nI 0 by rw [sw_same]; rfl), fun j hj => absurd hj (by omega)⟩
theorem tx_type {u : Sg} {n : Nat} {f : Nat → Int32} (h : Tx u n f) (hn : n < 60) {c : Int32} {q : Nat} (hc : c = nI q) (hq : q < 65536) : Tx (f_X10_type u c).2 (n + 1) (upd f n c) := by
  have e : (f_X10_type u c).2 = sw (sw u 11 n (vp_nar .char c)) 10 1 (nI (n + 1)) := by
    show (f_X0_append u c).2 = _
    rw [f_X0_append_eq, h.1, if_pos (show nI n < 60 from nI_lt (b := 60) hn (by decide))]
    dsimp only
    rw [nI_clamp (by omega), sw_cell (show ¬ (10 : Nat) = 11 by decide), h.1, nI_1]
  have ec : vp_nar .char c = c := by rw [hc]; exact Value.int.inj (pk_charN hq).1
  rw [e, ec]
  refine ⟨sw_same _ _ _ _, fun j hj => ?_⟩
  rw [sw_cell (show ¬ (11 : Nat) = 10 by decide), upd_at]
  by_cases k : j = n
  · rw [if_pos k, k, sw_same]
  · rw [if_neg k, sw_place k]; exact h.2 j (by omega)
theorem tx_read {u : Sg} {n : Nat} {f : Nat → Int32} (h : Tx u n f) (x : Int32) : Tx (f_X10_readBars u x).2 n f := by
  refine ⟨(ko_read u x 10 (by decide) 1 (by decide)).trans h.1, fun j hj => ?_⟩
  rw [ko_read u x 11 (by decide) j (fun q => absurd q.1 (by decide))]
  exact h.2 j hj
theorem low_at (y : Int32) {n : Nat} (h0 : 0 < n) (hn : n < 2 ^ 31) : ∃ m, m < n ∧ f_L_low y (nI n) = nI m := by
  refine ⟨y.toBitVec.toNat % 2 ^ 31 % n, Nat.mod_lt _ h0, ?_⟩
  rw [f_L_low_eq, pk_and y (m := 2147483647) 31 (by decide)]
  exact pk_rem (Nat.mod_lt _ (by decide)) h0 hn
theorem ch_nI {q : Nat} (h : q < 65536) : ((nI q).toUInt32 % 65536).toInt32 = nI q := by
  rw [pk_char, pk_tn (by omega), Nat.mod_eq_of_lt h]
theorem dig_at : ∀ d : Fin 10, 1 ≤ d.val → f_X0_barOf (nI (48 + d)) = -1 ∧ f_X0_digitOf (nI (48 + d)) = nI d := by decide +kernel
theorem let_at : f_X0_barOf 114 = nI 5 ∧ f_X0_barOf 121 = nI 1 ∧ f_X0_barOf 98 = nI 6 ∧ f_X0_barOf 107 = nI 7 ∧ f_X0_barOf 109 = nI 4 ∧ f_X0_barOf 51 = -1 ∧ f_X0_barOf 120 = -1 := by decide +kernel
/-- what readings and typings leave of the picture -/
def BK (σ u : Sg) : Prop := Kp [2, 3, 4, 10, 11, 12] σ u ∧ (PR σ → PR u)
theorem BK.rf (σ : Sg) : BK σ σ := ⟨Kp.rf _, id⟩
theorem BK.tr {σ u v : Sg} (h : BK σ u) (k : BK u v) : BK σ v := ⟨h.1.tr k.1, fun p => k.2 (h.2 p)⟩
theorem pr_same {σ u : Sg} (h : Kp [10, 11, 12] σ u) : PR σ → PR u := fun p => by
  unfold PR
  rw [h 2 (by decide), h 3 (by decide), h 4 (by decide), h 6 (by decide), h 8 (by decide)]
  exact p
theorem bk_clear (σ : Sg) : BK σ (f_X10_clearText σ).2 := by
  have k : Kp [10, 11, 12] σ (f_X10_clearText σ).2 := Kp.sw (L := [10, 11, 12]) (by decide) σ 1 0
  exact ⟨k.up (by decide), pr_same k⟩
theorem bk_type (σ : Sg) (c : Int32) : BK σ (f_X10_type σ c).2 := by
  have k : Kp [10, 11, 12] σ (f_X10_type σ c).2 := (kp_append σ c).up (by decide)
  exact ⟨k.up (by decide), pr_same k⟩
theorem sa3_in (j : Nat) : 0 ≤ (sa_3 j).toInt ∧ (sa_3 j).toInt ≤ 200 := by
  rcases j with _ | _ | _ | _ | _ | _ | _ | _ | j
  all_goals first | exact (by decide : (0 : Int) ≤ (0 : Int32).toInt ∧ (0 : Int32).toInt ≤ 200) | decide
theorem sa4_in (j : Nat) : -60 ≤ (sa_4 j).toInt ∧ (sa_4 j).toInt ≤ 60 := by
  rcases j with _ | _ | _ | _ | _ | _ | _ | _ | j
  all_goals first | exact (by decide : (-60 : Int) ≤ (0 : Int32).toInt ∧ (0 : Int32).toInt ≤ 60) | decide
theorem sa5_in (j : Nat) : -60 ≤ (sa_5 j).toInt ∧ (sa_5 j).toInt ≤ 60 := by
  rcases j with _ | _ | _ | _ | _ | _ | _ | _ | j
  all_goals first | exact (by decide : (-60 : Int) ≤ (0 : Int32).toInt ∧ (0 : Int32).toInt ≤ 60) | decide
theorem pr_paint {σ : Sg} (h : PR σ) (p : Int32) {a b c : Int32} (ha : 0 ≤ a.toInt ∧ a.toInt ≤ 200) (hb : -60 ≤ b.toInt ∧ b.toInt ≤ 60) (hc : -60 ≤ c.toInt ∧ c.toInt ≤ 60) : PR (f_X7_paint σ p a b c).2 := by
  obtain ⟨h1, h2, h3, h4, h5⟩ := h
  obtain ⟨p1, p2, p3⟩ := paint_2 σ p a b c
  have k := kp_paint σ p a b c
  unfold PR
  rw [p1, p2, p3, k 6 (by decide), k 8 (by decide)]
  exact ⟨bnd_upd h1 ha _, bnd_upd h2 hb _, bnd_upd h3 hc _, h4, h5⟩
theorem bk_read (σ : Sg) (x : Int32) : BK σ (f_X10_readBars σ x).2 := by
  refine ⟨fun k hk => funext fun i => ko_read σ x k (fun q => hk (by simp only [List.mem_cons, List.mem_nil_iff, or_false] at q ⊢; omega)) i (fun q => hk (by rw [q.1]; decide)), fun p => ?_⟩
  rw [f_X10_readBars_eq]
  by_cases c : f_X10_isLine x = 0
  · rw [if_pos c]; exact p
  · rw [if_neg c]
    dsimp only
    have p2 : PR (f_X0_parse σ).2 := by
      have k := ko_parse σ
      have e : ∀ c, ¬ c = 12 → ¬ c = 10 → (f_X0_parse σ).2 c = σ c := fun c h1 h2 => funext fun i => k c h1 i (fun q => h2 q.1)
      unfold PR
      rw [e 2 (by decide) (by decide), e 3 (by decide) (by decide), e 4 (by decide) (by decide), e 6 (by decide) (by decide), e 8 (by decide) (by decide)]
      exact p
    by_cases c2 : (f_X0_parse σ).1 = -1
    · rw [if_pos c2]
      exact loopF_inv (B := b_X10_readBars_30 x) (N := 10) (I := (f_X0_parse σ).2) (fun _ u => PR u) p2 (fun j u _ hu => by
        rw [b_X10_readBars_30_eq]
        dsimp only
        rw [f_X0_paintBar_eq]
        exact pr_paint hu _ (sa3_in _) (sa4_in _) (sa5_in _))
    · rw [if_neg c2]; exact p2
