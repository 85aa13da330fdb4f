/-! the combs hold -/
theorem ch_bd {S : Int32 → Int32 → Int32} {n : Nat} (hn : n < 8) (hS : ∀ n, n < 8 → ∀ y, bd (S (nI n) y) 500) (st : Nat → Int32) (y : Int32) {v : Int32} (o1 : v = 1 → 1 ≤ n) (o2 : v = 2 → n < 7) (o3 : v = 3 → 1 ≤ n ∧ n < 7) : bd (chS S st n y v) 2000 := by
  have tw : ∀ m, m < 8 → ∀ z, bd (2 * S (nI m) z) 1000 := fun m hm z => bd_mul (A := 2) (B := 500) (bd_lit (by decide)) (hS m hm z) (by decide)
  unfold chS
  by_cases h1 : v = 1
  · rw [if_pos h1]
    have := o1 h1
    exact bd_sub (A := 1000) (B := 1000) (tw n hn _) (tw (n - 1) (by omega) _) (by decide)
  · rw [if_neg h1]
    by_cases h2 : v = 2
    · rw [if_pos h2]
      have := o2 h2
      exact bd_sub (A := 1000) (B := 1000) (tw n hn _) (tw (n + 1) (by omega) _) (by decide)
    · rw [if_neg h2]
      by_cases h3 : v = 3
      · rw [if_pos h3]
        have := o3 h3
        exact bd_sub (A := 1500) (B := 500) (bd_sub (A := 1000) (B := 500) (tw n hn _) (hS (n - 1) (by omega) _) (by decide)) (hS (n + 1) (by omega) _) (by decide)
      · rw [if_neg h3]
        exact bd_sub (A := 1500) (B := 500) (bd_sub (A := 1000) (B := 500) (tw n hn _) (hS n hn _) (by decide)) (hS n hn _) (by decide)
theorem seg_bd {S : Int32 → Int32 → Int32} {n : Nat} (hn : n < 8) (hS : ∀ n, n < 8 → ∀ y, bd (S (nI n) y) 500) (st : Nat → Int32) (i : Nat) {v : Int32} (o1 : v = 1 → 1 ≤ n) (o2 : v = 2 → n < 7) (o3 : v = 3 → 1 ≤ n ∧ n < 7) : bd (segS S st n i v).1 16000 := by
  have key := loopF_inv (B := segB S st n i v) (N := 8) (I := (0, 0, 0)) (fun j a => bd a.1 (2000 * j)) (bd_lit (by decide)) (fun j a hj hI => bd_le (bd_add (B := 2000) hI (ch_bd hn hS st _ o1 o2 o3) (by omega)) (by omega))
  exact key
theorem combed_at {τ : Sg} (hd : ¬ τ 0 10 = 0) {n i : Nat} (hn : n < 8) (hi : i < 10) : f_X10_combed τ (nI n) (nI i) = τ 41 (10 * n + i) := by
  rw [f_X10_combed_eq, if_neg (ip_of (vp_in_nI hn (by decide)) (vp_in_nI hi (by decide)))]
  dsimp only
  rw [if_neg hd, pl_10, nI_clamp (by omega)]
theorem luma_at {τ : Sg} (hd : ¬ τ 0 10 = 0) {n i : Nat} (hn : n < 8) (hi : i < 10) : f_X10_luma τ (nI n) (nI i) = τ 40 (10 * n + i) := by
  rw [f_X10_luma_eq, if_neg (ip_of (vp_in_nI hn (by decide)) (vp_in_nI hi (by decide)))]
  dsimp only
  rw [if_neg hd, pl_10, nI_clamp (by omega)]
theorem th_0 {τ : Sg} {ψ : Fl} (hd : ¬ τ 0 10 = 0) {n i : Nat} (hn : n < 8) (hi : i < 10) (h : ZN (ψ 47 (10 * n + i))) : f_X10_thousandths τ ψ (nI n) (nI i) 0 = 0 := by
  rw [f_X10_thousandths_eq, if_neg (ip_of (vp_in_nI hn (by decide)) (vp_in_nI hi (by decide))), if_neg (show ¬ f_X10_isWithin 0 0 1 = 0 by decide +kernel), if_neg hd]
  dsimp only
  rw [if_pos rfl, pl_10, nI_clamp (by omega)]
  exact zn_f2i (zn_mul h _)
theorem th_1 {τ : Sg} {ψ : Fl} (hd : ¬ τ 0 10 = 0) {n i : Nat} (hn : n < 8) (hi : i < 10) (h : ZN (ψ 48 (10 * n + i))) : f_X10_thousandths τ ψ (nI n) (nI i) 1 = 0 := by
  rw [f_X10_thousandths_eq, if_neg (ip_of (vp_in_nI hn (by decide)) (vp_in_nI hi (by decide))), if_neg (show ¬ f_X10_isWithin 1 0 1 = 0 by decide +kernel), if_neg hd]
  dsimp only
  rw [if_neg (show ¬ (1 : Int32) = 0 by decide), pl_10, nI_clamp (by omega)]
  exact zn_f2i (zn_mul h _)
/-- a grey segment alone has no color -/
theorem grey_zn {τ : Sg} {ψ φ4 : Fl} {w : Int32} (hcr : CR 45 46 47 48 (UF (φ4 36) (φ4 37) (τ 34) τ) (VF w (φ4 36) (φ4 37) (τ 34) τ) (avF w) φ4 ψ 80) {n i : Nat} (hn : n < 8) (hi : i < 10) (hw : w = 0 ∨ w = 1) (ha : w = 0 ∨ n = 0) (hg : τ 34 n = 0 ∨ (τ 42 (10 * n + i) = 0 ∧ τ 43 (10 * n + i) = 0)) : ZN (ψ 47 (10 * n + i)) ∧ ZN (ψ 48 (10 * n + i)) := by
  obtain ⟨c1, c2, c3, c4⟩ := hcr.1 (10 * n + i) (by omega)
  have en : (10 * n + i) / 10 = n := by omega
  have av : avF w (10 * n + i) = 0 := by
    unfold avF
    rw [en]
    rcases ha with rfl | rfl
    · rw [if_neg (by decide)]
    · rw [if_pos (show nI 0 ≤ 0 by decide), ite_self]
  have mi : miF w (10 * n + i) = 0 := by
    unfold miF
    rw [en]
    rcases ha with rfl | rfl
    · rw [if_neg (by decide)]
    · rw [if_neg (show ¬ nI 0 &&& 1 = 1 by decide), ite_self]
  rw [c3, c4, av]
  unfold mxF
  rw [if_pos rfl, if_pos rfl, c1, c2]
  unfold UF VF
  rw [en, mi]
  refine ⟨zn_cU hg, ?_⟩
  unfold cV
  rw [if_pos rfl]
  exact zn_cW hg
/-- how often a way was taken up to the place p -/
def wayN (τ : Sg) (c p : Nat) : Int32 := loopF (b_X10_tally__41_11 τ (nI c)) p 0
theorem wayN_s (τ : Sg) (c p : Nat) (hp : p < 80) : wayN τ c (p + 1) = wayN τ c p + (if τ 41 p = nI c then 1 else 0) := by
  show b_X10_tally__41_11 τ (nI c) p (wayN τ c p) = _
  rw [b_X10_tally__41_11_eq, nI_clamp (by omega)]
  dsimp only
  rw [oneIf_01 (zo_ite (.inr rfl) (.inl rfl))]
def CInv (τ : Sg) (p : Nat) (s : Sg) : Prop := E55 τ s ∧ ∀ c, c < 4 → s 55 c = wayN τ c p
set_option maxHeartbeats 4000000 in
theorem combs_step {σ τ : Sg} {ψ : Fl} (h : DecOK σ τ ψ) (hw : stdT τ = 0 ∨ stdT τ = 1) {n i : Nat} (hn : n < 8) (hi : i < 10) {s : Sg} (hI : CInv τ (10 * n + i) s) : ∃ s', b_L_combs_49 τ ψ (stdT τ) n i s = .inr s' ∧ CInv τ (10 * n + (i + 1)) s' := by
  obtain ⟨hL, hM, hS, ⟨φ4, hcr⟩, -⟩ := h
  obtain ⟨h5, hN⟩ := hI
  have hd : ¬ τ 0 10 = 0 := fun q => by
    have := hL.2.2.2.2.2.2.2.2.1
    rw [q] at this
    exact absurd this (by decide)
  have hPR := hL.2.2.2.2.2.2.2.2.2
  have hbS : ∀ n, n < 8 → ∀ y, bd (f_L_at τ (nI n) y) 500 := fun n hn y => lat_bd hPR (vp_in_nI hn (by decide)) y
  have hb : ∀ n i, n < 8 → i < 10 → bd (τ 39 (10 * n + i)) 4000 := fun n i hn hi => by rw [hM n i hn hi]; exact MS_bd (hbS n hn) _ _
  obtain ⟨w1, w2, w3, w4⟩ := hS n i hn hi
  obtain ⟨o0, o1, o2, o3⟩ := way_ok (τ 39) (τ 14 2) (τ 14 1) (stdT τ) hn i
  have e6 := lup h5 hd hM hb hn hi
  have e8 := ldn h5 hd hM hb hn hi
  have e14 : (if stdT τ = 1 then (0 : Int32) else (if f_X10_count τ 17 = 0 then 0 else (if f_X10_count τ 17 = 1 then (if upS (τ 39) (τ 14 2) (τ 14 1) n i = 0 then 2 else 1) else (let v10 : Int32 := (if upS (τ 39) (τ 14 2) (τ 14 1) n i = 0 then 0 else 1); let v12 : Int32 := (if dnS (τ 39) (τ 14 2) (τ 14 1) n i = 0 then 0 else 2); v10 + v12)))) = wayS (τ 39) (τ 14 2) (τ 14 1) (stdT τ) n i := by
    rw [cn_17]
    rfl
  rw [← w1] at e14 o0 o1 o2 o3 w2 w3 w4
  generalize hv : τ 41 (10 * n + i) = v at *
  have e16 : 4 * f_L_sum s (nI n) (nI i) = 4 * τ 39 (10 * n + i) := by rw [lsum_at h5 hd hn hi, ← hM n i hn hi]
  have e17 := lseg h5 hd hn hi o0 o1 o2 o3 (4 * τ 39 (10 * n + i))
  obtain ⟨k, hk, ek⟩ := vp_in_of o0 (by decide)
  have ecl : v.toNatClampNeg = k := by rw [ek, nI_clamp (by omega)]
  generalize hs' : sw s 55 v.toNatClampNeg (s 55 v.toNatClampNeg + 1) = s'
  have h5' : E55 τ s' := fun c hc => by rw [← hs', sw_row hc]; exact h5 c hc
  have hbg := seg_bd hn hbS (τ 27) i o1 o2 o3
  generalize hg : segS (f_L_at τ) (τ 27) n i v = g at *
  have e28 : ∃ v28, (if (f_X10_line s' (nI n) 6) = 0 then (1 : Int32) else (if g.2.1 = 0 then (if g.2.2 = 0 then 1 else 0) else 0)) = v28 ∧ (¬ v28 = 0 → τ 34 n = 0 ∨ (g.2.1 = 0 ∧ g.2.2 = 0)) := by
    refine ⟨_, rfl, fun q => ?_⟩
    rw [e5_line h5', ln_6 hn hd] at q
    by_cases c : τ 34 n = 0
    · exact .inl c
    · rw [if_neg c, if_neg (show ¬ (1 : Int32) = 0 by decide)] at q
      by_cases c2 : g.2.1 = 0
      · rw [if_pos c2] at q
        by_cases c3 : g.2.2 = 0
        · exact .inr ⟨c2, c3⟩
        · rw [if_neg c3] at q; exact absurd rfl q
      · rw [if_neg c2] at q; exact absurd rfl q
  obtain ⟨v28, e28, g28⟩ := e28
  have e30 : ∃ v30, (if stdT τ = 0 then (1 : Int32) else (if nI n = 0 then 1 else 0)) = v30 ∧ (¬ v30 = 0 → stdT τ = 0 ∨ n = 0) := by
    refine ⟨_, rfl, fun q => ?_⟩
    by_cases c : stdT τ = 0
    · exact .inl c
    · rw [if_neg c] at q
      by_cases c2 : nI n = 0
      · exact .inr ((nI_eq (b := 0) (by omega) (by decide)).mp c2)
      · rw [if_neg c2] at q; exact absurd rfl q
  obtain ⟨v30, e30, g30⟩ := e30
  have main := combs_of (σ := τ) (φ := ψ) (v1 := stdT τ) (j4 := n) (j5 := i) (s5 := s) (hv6 := e6) (hv8 := e8) (hv14 := e14) (hv16 := e16) (ht17 := e17) (hσ27 := hs') (hv28 := e28) (hv30 := e30)
  have c0 : f_X10_combed s' (nI n) (nI i) = v := by rw [e5_combed h5', combed_at hd hn hi, hv]
  have c1 : f_X10_luma s' (nI n) (nI i) = f_L_floor (4 * τ 39 (10 * n + i) - g.1) 32 := by
    rw [e5_luma h5', luma_at hd hn hi, w2]
    exact (ff_32 (bd_le (bd_sub (A := 16000) (B := 16000) (bd_mul (A := 4) (B := 4000) (bd_lit (by decide)) (hb n i hn hi) (by decide)) hbg (by decide)) (by decide))).symm
  refine ⟨s', main.trans ((if_pos c0).trans ((if_pos c1).trans ?_)), h5', fun c hc => ?_⟩
  · by_cases q30 : v30 = 0
    · rw [if_pos q30]
    · rw [if_neg q30]
      by_cases q28 : v28 = 0
      · rw [if_pos q28]
      · rw [if_neg q28]
        have hz := grey_zn hcr hn hi hw (g30 q30) (by rw [w3, w4]; exact g28 q28)
        have t0 : f_X10_thousandths s' ψ (nI n) (nI i) 0 = 0 := by rw [e5_th h5']; exact th_0 hd hn hi hz.1
        have t1 : f_X10_thousandths s' ψ (nI n) (nI i) 1 = 0 := by rw [e5_th h5']; exact th_1 hd hn hi hz.2
        rw [if_pos t0, if_pos t1]
  · rw [← hs', ecl, show 10 * n + (i + 1) = 10 * n + i + 1 by omega, wayN_s τ c _ (by omega), hv, ek, sw_get]
    by_cases q : c = k
    · subst q
      rw [if_pos ⟨rfl, rfl⟩, if_pos rfl, hN c hc]
    · rw [if_neg (fun z => q z.2), if_neg (fun z => q ((nI_eq (a := k) (b := c) (by omega) (by omega)).mp z).symm), hN c hc, Int32.add_zero]
theorem tally41_c {τ s : Sg} (h : s 41 = τ 41) (c : Nat) : f_X10_tally__41 s (nI c) = wayN τ c 80 := by
  rw [f_X10_tally__41_eq]
  refine loop_eq _ (fun j v _ => ?_)
  rw [b_X10_tally__41_11_eq, b_X10_tally__41_11_eq, h]
/-- the combs, as the law tells them -/
theorem combs_1 {σ τ : Sg} {ψ : Fl} (h : DecOK σ τ ψ) (hw : stdT τ = 0 ∨ stdT τ = 1) : ∃ t, f_L_combs τ ψ = (1, t) ∧ E55 τ t := by
  have hdec : 1 ≤ τ 0 10 := h.1.2.2.2.2.2.2.2.2.1
  have e1 : (if f_X10_count τ 18 = 2 then f_X10_count τ 1 else f_X10_count τ 18) = stdT τ := by
    rw [cn_18, cn_1 hdec]
    rfl
  obtain ⟨t, et, h5, hN⟩ := loopE_all (B := b_L_combs_39 τ ψ (stdT τ)) (N := 8) (I := va_up τ 55 (fun _ => 0)) (fun n s => CInv τ (10 * n) s) ⟨fun k hk => by rw [up_at, if_neg hk], fun c _ => by rw [up_at, if_pos rfl]; rfl⟩ (fun n s hn hI => by
    obtain ⟨t, et, ht⟩ := loopE_all (B := b_L_combs_49 τ ψ (stdT τ) n) (N := 10) (I := s) (fun i s => CInv τ (10 * n + i) s) hI (fun i s hi hI => combs_step h hw hn hi hI)
    refine ⟨t, ?_, by rw [show 10 * (n + 1) = 10 * n + 10 by omega]; exact ht⟩
    rw [b_L_combs_39_eq]
    exact sumB_inr et)
  refine ⟨t, ?_, h5⟩
  have e0 : f_L_combs τ ψ = sumE (loopE (b_L_combs_39 τ ψ (if f_X10_count τ 18 = 2 then f_X10_count τ 1 else f_X10_count τ 18)) 8 0 (va_up τ 55 (fun _ => 0))) (fun t4 => if (f_X10_count t4 9) = (t4 55 (0 : Int32).toNatClampNeg) then (if (f_X10_count t4 10) = (t4 55 (1 : Int32).toNatClampNeg) then (if (f_X10_count t4 11) = (t4 55 (2 : Int32).toNatClampNeg) then (if (f_X10_count t4 12) = (t4 55 (3 : Int32).toNatClampNeg) then (1, t4) else (0, t4)) else (0, t4)) else (0, t4)) else (0, t4)) := rfl
  rw [e0, e1]
  refine (sumE_inr et).trans ?_
  have hdt : 1 ≤ t 0 10 := by rw [h5 0 (by decide)]; exact hdec
  have e41 := h5 41 (by decide)
  have k : ∀ (x : Int32) (c : Nat), c < 4 → ((x = 9 ∧ nI c = 0) ∨ (x = 10 ∧ nI c = 1) ∨ (x = 11 ∧ nI c = 2) ∨ (x = 12 ∧ nI c = 3)) → f_X10_count t x = t 55 c := fun x c hc hx => by
    rw [cn_9 hdt (nI c) hx, tally41_c e41, hN c hc]
  refine (if_pos (k 9 0 (by decide) (.inl ⟨rfl, rfl⟩))).trans ((if_pos (k 10 1 (by decide) (.inr (.inl ⟨rfl, rfl⟩)))).trans ((if_pos (k 11 2 (by decide) (.inr (.inr (.inl ⟨rfl, rfl⟩))))).trans (if_pos (k 12 3 (by decide) (.inr (.inr (.inr ⟨rfl, rfl⟩)))))))
