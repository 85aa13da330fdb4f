/-! the texts that the law types -/
def Go (σ : Sg) (n j t : Nat) (fl : Int32) (L : Nat) : Prop := ∃ s, loopE b_X0_parse_11 n 0 (0, 0, sw σ 10 3 0) = loopE b_X0_parse_11 (n - j) j s ∧ PQ σ t fl L s
theorem go_0 (σ : Sg) (n : Nat) : Go σ n 0 0 0 0 := ⟨_, rfl, pq_0 σ⟩
theorem go_let {σ : Sg} {n j t b L : Nat} {fl : Int32} (h : Go σ n j t fl L) (hj : j < n) (hn : n ≤ 60) (hc : f_X0_barOf (σ 11 j) = nI b) (hb : b < 8) (ht : t < 10) : Go σ n (j + 1) (t + 1) 1 (L + 1) := by
  obtain ⟨s, e, p⟩ := h
  obtain ⟨s', e', p'⟩ := pq_letter p (by omega) hc hb ht
  refine ⟨s', ?_, p'⟩
  rw [e, show n - j = (n - (j + 1)) + 1 by omega]
  exact loopE_inr _ e'
theorem go_dig {σ : Sg} {n j t m L : Nat} (h : Go σ n j t 1 L) (hj : j < n) (hn : n ≤ 60) (hc : f_X0_barOf (σ 11 j) = -1) (hd : f_X0_digitOf (σ 11 j) = nI (m + 1)) (ht : 1 ≤ t) (htm : t + m ≤ 10) : Go σ n (j + 1) (t + m) 0 L := by
  obtain ⟨s, e, p⟩ := h
  obtain ⟨s', e', p'⟩ := pq_digit p (by omega) hc hd ht htm
  refine ⟨s', ?_, p'⟩
  rw [e, show n - j = (n - (j + 1)) + 1 by omega]
  exact loopE_inr _ e'
theorem go_end {σ : Sg} {n t L : Nat} {fl : Int32} (h : Go σ n n t fl L) (hu : σ 10 1 = nI n) (hn : n ≤ 60) (ht : t ≤ 10) : ((f_X0_parse σ).1 = if t = 10 then -1 else nI n) ∧ (f_X0_parse σ).2 10 3 = nI L := by
  obtain ⟨s, e, p⟩ := h
  rw [Nat.sub_self] at e
  exact parse_inr hu hn e p ht
theorem go_full {σ : Sg} {n j b L : Nat} {fl : Int32} (h : Go σ n j 10 fl L) (hu : σ 10 1 = nI n) (hj : j < n) (hn : n ≤ 60) (hc : f_X0_barOf (σ 11 j) = nI b) (hb : b < 8) : (f_X0_parse σ).1 = nI j := by
  obtain ⟨s, e, p⟩ := h
  have q := pq_full p (show j < 60 by omega) hc hb
  rw [show n - j = (n - (j + 1)) + 1 by omega] at e
  exact parse_inl hu hn (e.trans (loopE_inl _ q))
theorem go_over {σ : Sg} {n j t m L : Nat} (h : Go σ n j t 1 L) (hu : σ 10 1 = nI n) (hj : j < n) (hn : n ≤ 60) (hc : f_X0_barOf (σ 11 j) = -1) (hd : f_X0_digitOf (σ 11 j) = nI (m + 1)) (ht : t ≤ 10) (hm : m ≤ 10) (htm : 10 < t + m) : (f_X0_parse σ).1 = nI j := by
  obtain ⟨s, e, p⟩ := h
  have q := pq_over p (show j < 60 by omega) hc hd ht hm htm
  rw [show n - j = (n - (j + 1)) + 1 by omega] at e
  exact parse_inl hu hn (e.trans (loopE_inl _ q))
theorem go_bad {σ : Sg} {n j t L : Nat} (h : Go σ n j t 0 L) (hu : σ 10 1 = nI n) (hj : j < n) (hn : n ≤ 60) (hc : f_X0_barOf (σ 11 j) = -1) : (f_X0_parse σ).1 = nI j := by
  obtain ⟨s, e, p⟩ := h
  have q := pq_bad p (show j < 60 by omega) hc
  rw [show n - j = (n - (j + 1)) + 1 by omega] at e
  exact parse_inl hu hn (e.trans (loopE_inl _ q))
def t0 : Nat → Int32 := fun _ => 0
def tR (m : Nat) : Nat → Int32 := upd (upd t0 0 114) 1 (nI (49 + m))
def tY (m : Nat) : Nat → Int32 := upd (tR m) 2 121
def tZ (m : Nat) : Nat → Int32 := upd (tY m) 3 (nI (57 - m))
theorem dg_at {d : Nat} (h : 1 ≤ d) (h9 : d ≤ 9) {c : Int32} (e : c = nI (48 + d)) : f_X0_barOf c = -1 ∧ f_X0_digitOf c = nI d := by
  rw [e]; exact dig_at ⟨d, by omega⟩ h
theorem go_R {u : Sg} {n m : Nat} (hm : m < 9) (hn : n ≤ 60) (h2 : 2 ≤ n) (h0 : u 11 0 = 114) (h1 : u 11 1 = nI (49 + m)) : Go u n 2 (1 + m) 0 1 := by
  have a : Go u n 1 1 1 1 := go_let (go_0 u n) (by omega) hn (by rw [h0]; exact let_at.1) (by decide) (by decide)
  have d := dg_at (d := m + 1) (by omega) (by omega) (c := u 11 1) (h1.trans (congrArg nI (by omega)))
  exact go_dig a (by omega) hn d.1 d.2 (Nat.le_refl 1) (by omega)
theorem go_Y {u : Sg} {n m : Nat} (hm : m < 9) (hn : n ≤ 60) (h3 : 3 ≤ n) (h0 : u 11 0 = 114) (h1 : u 11 1 = nI (49 + m)) (h2 : u 11 2 = 121) : Go u n 3 (1 + m + 1) 1 2 :=
  go_let (go_R hm hn (by omega) h0 h1) (by omega) hn (by rw [h2]; exact let_at.2.1) (by decide) (by omega)
theorem go_Z {u : Sg} {n m : Nat} (hm : m < 8) (hn : n ≤ 60) (h4 : 4 ≤ n) (h0 : u 11 0 = 114) (h1 : u 11 1 = nI (49 + m)) (h2 : u 11 2 = 121) (h3 : u 11 3 = nI (57 - m)) : Go u n 4 10 0 2 := by
  have a := go_Y (show m < 9 by omega) hn (show 3 ≤ n by omega) h0 h1 h2
  have d := dg_at (d := (8 - m) + 1) (by omega) (by omega) (c := u 11 3) (h3.trans (congrArg nI (by omega)))
  have r := go_dig a (by omega) hn d.1 d.2 (by omega) (show 1 + m + 1 + (8 - m) ≤ 10 by omega)
  rw [show 1 + m + 1 + (8 - m) = 10 by omega] at r
  exact r
theorem ps_0 {u : Sg} {f : Nat → Int32} (h : Tx u 0 f) : (f_X0_parse u).1 = nI 0 := by
  rw [(go_end (go_0 u 0) h.1 (by decide) (by decide)).1, if_neg (by decide)]
theorem ps_R {u : Sg} {m : Nat} (hm : m < 9) (h : Tx u 2 (tR m)) : (f_X0_parse u).1 = nI 2 := by
  rw [(go_end (go_R hm (by decide) (Nat.le_refl 2) (h.2 0 (by decide)) (h.2 1 (by decide))) h.1 (by decide) (by omega)).1, if_neg (by omega)]
theorem ps_Y {u : Sg} (h : Tx u 3 (tY 8)) : (f_X0_parse u).1 = -1 ∧ (f_X0_parse u).2 10 3 = nI 2 := by
  have r := go_end (go_Y (m := 8) (by decide) (by decide) (Nat.le_refl 3) (h.2 0 (by decide)) (h.2 1 (by decide)) (h.2 2 (by decide))) h.1 (by decide) (by decide)
  exact ⟨r.1.trans (if_pos rfl), r.2⟩
theorem ps_Z {u : Sg} {m : Nat} (hm : m < 8) (h : Tx u 4 (tZ m)) : (f_X0_parse u).1 = -1 ∧ (f_X0_parse u).2 10 3 = nI 2 := by
  have r := go_end (go_Z hm (by decide) (Nat.le_refl 4) (h.2 0 (by decide)) (h.2 1 (by decide)) (h.2 2 (by decide)) (h.2 3 (by decide))) h.1 (by decide) (by decide)
  exact ⟨r.1.trans (if_pos rfl), r.2⟩
theorem ps_Yb {u : Sg} (h : Tx u 4 (upd (tY 8) 3 98)) : (f_X0_parse u).1 = nI 3 :=
  go_full (go_Y (m := 8) (by decide) (by decide) (by decide) (h.2 0 (by decide)) (h.2 1 (by decide)) (h.2 2 (by decide))) h.1 (by decide) (by decide) (by rw [h.2 3 (by decide)]; exact let_at.2.2.1) (by decide)
theorem ps_Zb {u : Sg} {m : Nat} (hm : m < 8) (h : Tx u 5 (upd (tZ m) 4 98)) : (f_X0_parse u).1 = nI 4 :=
  go_full (go_Z hm (by decide) (by decide) (h.2 0 (by decide)) (h.2 1 (by decide)) (h.2 2 (by decide)) (h.2 3 (by decide))) h.1 (by decide) (by decide) (by rw [h.2 4 (by decide)]; exact let_at.2.2.1) (by decide)
theorem ps_K {u : Sg} (h : Tx u 4 (upd (upd (upd (upd t0 0 107) 1 53) 2 109) 3 54)) : (f_X0_parse u).1 = nI 3 := by
  have a : Go u 4 1 1 1 1 := go_let (go_0 u 4) (by decide) (by decide) (by rw [h.2 0 (by decide)]; exact let_at.2.2.2.1) (by decide) (by decide)
  have d5 := dg_at (d := 5) (by decide) (by decide) (c := u 11 1) (h.2 1 (by decide))
  have b := go_dig (m := 4) a (by decide) (by decide) d5.1 d5.2 (by decide) (by decide)
  have c := go_let b (by decide) (by decide) (by rw [h.2 2 (by decide)]; exact let_at.2.2.2.2.1) (by decide) (by decide)
  have d6 := dg_at (d := 6) (by decide) (by decide) (c := u 11 3) (h.2 3 (by decide))
  exact go_over (m := 5) c h.1 (by decide) (by decide) d6.1 d6.2 (by decide) (by decide) (by decide)
theorem ps_X {u : Sg} {v : Int32} (hv : f_X0_barOf v = -1) (h : Tx u 1 (upd t0 0 v)) : (f_X0_parse u).1 = nI 0 :=
  go_bad (go_0 u 1) h.1 (by decide) (by decide) (by rw [h.2 0 (by decide)]; exact hv)
