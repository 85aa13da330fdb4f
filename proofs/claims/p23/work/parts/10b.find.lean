/-! samples, as the law reads them; lines found; bursts measured -/
def PR (σ : Sg) : Prop := (∀ k, 0 ≤ (σ 2 k).toInt ∧ (σ 2 k).toInt ≤ 200) ∧ (∀ k, -60 ≤ (σ 3 k).toInt ∧ (σ 3 k).toInt ≤ 60) ∧ (∀ k, -60 ≤ (σ 4 k).toInt ∧ (σ 4 k).toInt ≤ 60) ∧ (∀ k, 0 ≤ (σ 6 k).toInt ∧ (σ 6 k).toInt ≤ 40) ∧ (∀ k, 0 ≤ (σ 8 k).toInt ∧ (σ 8 k).toInt ≤ 9)
theorem bd_sa0 (j : Nat) : bd (sa_0 j) 1 := by
  rcases j with _ | _ | _ | _ | j
  · exact bd_lit (by decide)
  · exact bd_lit (by decide)
  · exact bd_lit (by decide)
  · exact bd_lit (by decide)
  · exact (bd_lit (by decide) : bd 0 1)
theorem bd_sa1 (j : Nat) : bd (sa_1 j) 1 := by
  rcases j with _ | _ | _ | _ | j
  · exact bd_lit (by decide)
  · exact bd_lit (by decide)
  · exact bd_lit (by decide)
  · exact bd_lit (by decide)
  · exact (bd_lit (by decide) : bd 0 1)
theorem bd_mod5 (z : Int32) : bd (f_J9_floorMod_7cf53 z 5 - 2) 11 := by
  have e : bd (z - z / 5 * 5) 4 := by
    unfold bd
    rw [tq_rem (d := 5) (n := 5) rfl (by decide), Int.natAbs_tmod]
    have : z.toInt.natAbs % 5 < 5 := Nat.mod_lt _ (by decide)
    exact Nat.le_of_lt_succ this
  rw [f_J9_floorMod_7cf53_eq]
  exact bd_sub (A := 9) (B := 2) (bd_ite (bd_le e (by decide)) (bd_ite (bd_le e (by decide)) (bd_add (A := 4) (B := 5) e (bd_lit (by decide)) (by decide)))) (bd_lit (by decide)) (by decide)
theorem smp_bd {σ : Sg} (h : PR σ) (x y : Int32) : bd (f_X7_sampleAt σ x y) 500 := by
  obtain ⟨b1, b2, b3, b4, b5⟩ := h
  have h1 := fun k => bd_of (A := 200) (b1 k) (by decide) (by decide)
  have h2 := fun k => bd_of (A := 60) (b2 k) (by decide) (by decide)
  have h3 := fun k => bd_of (A := 60) (b3 k) (by decide) (by decide)
  have h4 := fun k => bd_of (A := 40) (b4 k) (by decide) (by decide)
  have h5 := fun k => bd_of (A := 9) (b5 k) (by decide) (by decide)
  have hs : bd (f_X7_signOf σ x) 1 := by
    rw [f_X7_signOf_eq]
    exact bd_ite (bd_ite (bd_lit (by decide)) (bd_lit (by decide))) (bd_lit (by decide))
  have hn : bd (f_X7_noiseAt σ x y) 99 := by
    rw [f_X7_noiseAt_eq]
    exact bd_mul (A := 9) (B := 11) (h5 _) (bd_mod5 _) (by decide)
  have hb : ∀ k, bd (f_X7_burstAt σ x k) 80 := fun k => by
    rw [f_X7_burstAt_eq]
    have q : bd (-(σ 6 x.toNatClampNeg) * sa_0 k.toNatClampNeg) 40 := bd_mul (A := 40) (B := 1) (bd_neg (h4 _) (by decide)) (bd_sa0 _) (by decide)
    exact bd_ite (bd_add (A := 40) (B := 40) q (bd_mul (A := 40) (B := 1) (bd_mul (A := 1) (B := 40) hs (h4 _) (by decide)) (bd_sa1 _) (by decide)) (by decide)) (bd_le q (by decide))
  have hl : ∀ d k, bd (f_X7_levelAt σ x d k) 320 := fun d k => by
    rw [f_X7_levelAt_eq]
    refine bd_ite (bd_ite (bd_ite (bd_ite ?_ (bd_lit (by decide))) (bd_le (hb _) (by decide))) (bd_ite (bd_lit (by decide)) (bd_lit (by decide)))) (bd_lit (by decide))
    exact bd_add (A := 260) (B := 60) (bd_add (A := 200) (B := 60) (h1 _) (bd_mul (A := 60) (B := 1) (h2 _) (bd_sa0 _) (by decide)) (by decide)) (bd_mul (A := 60) (B := 1) (bd_mul (A := 1) (B := 60) hs (h3 _) (by decide)) (bd_sa1 _) (by decide)) (by decide)
  rw [f_X7_sampleAt_eq]
  exact bd_le (bd_add hn (hl _ _) (by decide)) (by decide)
theorem smp_congr {s σ : Sg} (e : ∀ k, 1 ≤ k → k ≤ 9 → s k = σ k) (x y : Int32) : f_X7_sampleAt s x y = f_X7_sampleAt σ x y := by
  simp only [f_X7_sampleAt_eq, f_X7_noiseAt_eq, f_X7_levelAt_eq, f_X7_burstAt_eq, f_X7_signOf_eq, e 1 (by decide) (by decide), e 2 (by decide) (by decide), e 3 (by decide) (by decide), e 4 (by decide) (by decide), e 5 (by decide) (by decide), e 6 (by decide) (by decide), e 7 (by decide) (by decide), e 8 (by decide) (by decide), e 9 (by decide) (by decide)]
theorem lat_congr {s σ : Sg} (e : ∀ k, 1 ≤ k → k ≤ 9 → s k = σ k) : f_L_at s = f_L_at σ := by
  funext x y
  simp only [f_L_at_eq, f_X10_sample_eq, smp_congr e]
theorem lat_in {σ : Sg} {x : Int32} (hx : vp_in x 8) (y : Int32) : f_L_at σ x y = if y < 0 then 0 else (if y ≤ 111 then f_X7_sampleAt σ x y else 0) := by
  rw [f_L_at_eq]
  dsimp only
  by_cases c : y < 0
  · rw [if_pos c, if_pos c]
  · rw [if_neg c, if_neg c]
    by_cases c2 : y ≤ 111
    · rw [if_pos c2, if_pos c2, f_X10_sample_eq, if_neg (il_of hx)]
      have c3 : ¬ f_X10_isWithin y 0 111 = 0 := iw_ne.mpr ⟨by rw [i32_le]; rw [i32_lt] at c; omega, c2⟩
      rw [if_neg c3]
    · rw [if_neg c2, if_neg c2]
theorem lat_bd {σ : Sg} (h : PR σ) {x : Int32} (hx : vp_in x 8) (y : Int32) : bd (f_L_at σ x y) 500 := by
  rw [lat_in hx]
  exact bd_ite (bd_lit (by decide)) (bd_ite (smp_bd h x y) (bd_lit (by decide)))
theorem send_at (σ : Sg) : (∀ n k, n < 8 → k < 112 → (f_X9_sendFrom σ) (17 + n) k = f_X7_sampleAt σ (nI n) (nI k)) ∧ Kp SL σ (f_X9_sendFrom σ) := by
  rw [f_X9_sendFrom_eq]
  refine loopF_inv (B := b_X9_sendFrom_2) (N := 8) (I := σ) (fun j s => (∀ n k, n < j → k < 112 → s (17 + n) k = f_X7_sampleAt σ (nI n) (nI k)) ∧ Kp SL σ s) ⟨fun n k hn => absurd hn (by omega), Kp.rf _⟩ (fun j s hj hI => ?_)
  obtain ⟨i1, i2⟩ := hI
  rw [b_X9_sendFrom_2_eq]
  have key := loopF_inv (B := b_X9_sendFrom_18 j) (N := 112) (I := s) (fun i u => (∀ n k, n < j → k < 112 → u (17 + n) k = f_X7_sampleAt σ (nI n) (nI k)) ∧ (∀ k, k < i → u (17 + j) k = f_X7_sampleAt σ (nI j) (nI k)) ∧ Kp SL σ u) ⟨i1, fun k hk => absurd hk (by omega), i2⟩ (fun i u hi hJ => by
    obtain ⟨j1, j2, j3⟩ := hJ
    rw [b_X9_sendFrom_18_eq]
    dsimp only
    rw [nI_clamp (by omega), nI_clamp (by omega), smp_congr (s := u) (σ := σ) (fun k a b => j3 k (fun q => by have := SL_le q; omega))]
    refine ⟨fun n k hn hk => ?_, fun k hk => ?_, j3.tr (Kp.sw (SL_in hj) _ _ _)⟩
    · rw [sw_cell (by omega)]; exact j1 n k hn hk
    · by_cases q : k = i
      · rw [q, sw_same]
      · rw [sw_place q]; exact j2 k (by omega))
  refine ⟨fun n k hn hk => ?_, key.2.2⟩
  by_cases q : n = j
  · rw [q]; exact key.2.1 k hk
  · exact key.1 n k (by omega) hk
theorem at_S {s σ : Sg} (hs : ∀ n k, n < 8 → k < 112 → s (17 + n) k = f_X7_sampleAt σ (nI n) (nI k)) : AT (f_L_at σ) s := by
  intro x y hx
  rw [lat_in hx]
  obtain ⟨n, hn, rfl⟩ := vp_in_of hx (by decide)
  rw [f_X9_at_eq]
  dsimp only
  rw [if_neg (nI_pos (by omega)), if_neg (show ¬ 8 ≤ nI n from nI_ge (a := n) (b := 8) hn (by decide)), nI_clamp (by omega)]
  by_cases c2 : y < 0
  · rw [if_pos c2, if_pos c2]
  · rw [if_neg c2, if_neg c2]
    by_cases c : y ≤ 111
    · have c3 : y < 112 := by
        rw [i32_lt, show (112 : Int32).toInt = 112 from rfl]
        rw [i32_le, show (111 : Int32).toInt = 111 from rfl] at c
        omega
      rw [if_pos c3, if_pos c]
      obtain ⟨k, hk, rfl⟩ := nI_of2 (M := 111) (n := 111) rfl c2 c
      rw [nI_clamp (by omega)]
      exact hs n k hn (by omega)
    · rw [if_neg c, if_neg (fun q => by
        rw [i32_lt, show (112 : Int32).toInt = 112 from rfl] at q
        rw [i32_le, show (111 : Int32).toInt = 111 from rfl] at c
        omega)]
/-! the flywheel, line by line -/
def posA (f : Nat → Int32) : Nat → Int32
  | 0 => 32
  | n + 1 => f n
def lckA (f : Nat → Int32) : Nat → Int32
  | 0 => 0
  | n + 1 => f n
theorem posA_upd {f : Nat → Int32} {j : Nat} {v : Int32} {n : Nat} (h : n ≤ j) : posA (upd f j v) n = posA f n := by
  rcases n with _ | n
  · rfl
  · show upd f j v n = f n
    rw [upd_at, if_neg (by omega)]
theorem lckA_upd {f : Nat → Int32} {j : Nat} {v : Int32} {n : Nat} (h : n ≤ j) : lckA (upd f j v) n = lckA f n := by
  rcases n with _ | n
  · rfl
  · show upd f j v n = f n
    rw [upd_at, if_neg (by omega)]
def FindAt (S : Int32 → Int32 → Int32) (n : Nat) (p st pos' lck' pos lck h m h' m' : Int32) : Prop :=
  FPl (fun k => S (nI n) (nI k) ≤ -20) p (-1) ∧
  pos' = (if p = -1 then pos else if f_X10_isWithin (4 * p - pos) (-12) 12 = 0 then (if lck = 0 then 4 * p else pos) else pos + (4 * p - pos) / 2) ∧
  h' = (if p = -1 then 0 else if f_X10_isWithin (4 * p - pos) (-12) 12 = 0 then 0 else h + 1) ∧
  m' = (if p = -1 then m + 1 else if f_X10_isWithin (4 * p - pos) (-12) 12 = 0 then m + 1 else 0) ∧
  lck' = (if m' < 4 then (if h' < 2 then lck else 1) else 0) ∧
  st = (if lck' = 0 then (if p = -1 then f_J9_floorDiv_7cf53 (pos' + 2) 4 else p) else f_J9_floorDiv_7cf53 (pos' + 2) 4)
def fB (p : Int32) (j5 : Nat) (s5 : Sg) : Sg := let σ6 : Sg := f_X4_steer s5 p; let σ7 : Sg := sw σ6 26 (nI j5).toNatClampNeg p; let σ8 : Sg := sw σ7 28 (nI j5).toNatClampNeg (σ7 25 4); let σ9 : Sg := sw σ8 29 (nI j5).toNatClampNeg (vp_nar .boolean (σ8 25 7)); let v10 : Int32 := (if (σ9 25 7) = 0 then (if p = (-1) then (f_J9_floorDiv_7cf53 ((σ9 25 4) + 2) 4) else p) else (f_J9_floorDiv_7cf53 ((σ9 25 4) + 2) 4)); let σ12 : Sg := sw σ9 27 (nI j5).toNatClampNeg v10; σ12
theorem fB_eq (p : Int32) (j5 : Nat) (s5 : Sg) : fB p j5 s5 = (let σ6 : Sg := f_X4_steer s5 p; let σ7 : Sg := sw σ6 26 (nI j5).toNatClampNeg p; let σ8 : Sg := sw σ7 28 (nI j5).toNatClampNeg (σ7 25 4); let σ9 : Sg := sw σ8 29 (nI j5).toNatClampNeg (vp_nar .boolean (σ8 25 7)); let v10 : Int32 := (if (σ9 25 7) = 0 then (if p = (-1) then (f_J9_floorDiv_7cf53 ((σ9 25 4) + 2) 4) else p) else (f_J9_floorDiv_7cf53 ((σ9 25 4) + 2) 4)); let σ12 : Sg := sw σ9 27 (nI j5).toNatClampNeg v10; σ12) := rfl
theorem fB_b (j : Nat) (s : Sg) : b_X4_find_23 j s = fB (f_X9_pulseOf s (nI j)) j s := rfl
def FI (S : Int32 → Int32 → Int32) (σ : Sg) (j : Nat) (s : Sg) : Prop := (∃ H M : Nat → Int32, H 0 = 0 ∧ M 0 = 0 ∧ s 25 5 = H j ∧ s 25 6 = M j ∧ ∀ n, n < j → FindAt S n (s 26 n) (s 27 n) (s 28 n) (s 29 n) (posA (s 28) n) (lckA (s 29) n) (H n) (M n) (H (n + 1)) (M (n + 1))) ∧ s 25 4 = posA (s 28) j ∧ s 25 7 = lckA (s 29) j ∧ (s 25 7 = 0 ∨ s 25 7 = 1) ∧ (∀ n, n < j → s 29 n = 0 ∨ s 29 n = 1) ∧ Kp [25, 26, 27, 28, 29] σ s
theorem find_step {S : Int32 → Int32 → Int32} {σ : Sg} (hA : AT S σ) (j : Nat) (s : Sg) (hj : j < 8) (hI : FI S σ j s) : FI S σ (j + 1) (b_X4_find_23 j s) := by
  obtain ⟨⟨H, M, h0, m0, hh, hm, hF⟩, hp, hl, hz, h29, hk⟩ := hI
  have hA2 : AT S s := hA.k (fun k a c => hk k (fun q => by
    simp only [List.mem_cons, List.mem_nil_iff, or_false] at q
    omega))
  have hP := pulse_cls hA2 (x := nI j) (vp_in_nI hj (by decide))
  rw [fB_b]
  generalize f_X9_pulseOf s (nI j) = p at hP ⊢
  obtain ⟨k0, k4, k5, k6, k7⟩ := steer_at s p
  have hz2 : (f_X4_steer s p) 25 7 = 0 ∨ (f_X4_steer s p) 25 7 = 1 := by
    rw [k7]
    exact zo_ite (zo_ite hz (.inr rfl)) (.inl rfl)
  have EB : fB p j s = sw (sw (sw (sw (f_X4_steer s p) 26 j p) 28 j ((f_X4_steer s p) 25 4)) 29 j ((f_X4_steer s p) 25 7)) 27 j (if (f_X4_steer s p) 25 7 = 0 then (if p = -1 then f_J9_floorDiv_7cf53 ((f_X4_steer s p) 25 4 + 2) 4 else p) else f_J9_floorDiv_7cf53 ((f_X4_steer s p) 25 4 + 2) 4) := by
    rw [fB_eq]
    dsimp only
    simp only [sw_cell (show ¬ (25 : Nat) = 26 by decide), sw_cell (show ¬ (25 : Nat) = 28 by decide), sw_cell (show ¬ (25 : Nat) = 29 by decide), (lv_narrowZ hz2).2.2]
    rw [nI_clamp (by omega)]
  rw [EB]
  have g : ∀ k, ¬ k = 25 → (f_X4_steer s p) k = s k := fun k hk => k0 k (by simpa using hk)
  generalize hst : (if (f_X4_steer s p) 25 7 = 0 then (if p = -1 then f_J9_floorDiv_7cf53 ((f_X4_steer s p) 25 4 + 2) 4 else p) else f_J9_floorDiv_7cf53 ((f_X4_steer s p) 25 4 + 2) 4) = st
  generalize f_X4_steer s p = a at *
  have e25 : ∀ i, (sw (sw (sw (sw a 26 j p) 28 j (a 25 4)) 29 j (a 25 7)) 27 j st) 25 i = a 25 i := fun i => by
    simp only [sw_cell (show ¬ (25 : Nat) = 26 by decide), sw_cell (show ¬ (25 : Nat) = 28 by decide), sw_cell (show ¬ (25 : Nat) = 29 by decide), sw_cell (show ¬ (25 : Nat) = 27 by decide)]
  have e26 : (sw (sw (sw (sw a 26 j p) 28 j (a 25 4)) 29 j (a 25 7)) 27 j st) 26 = upd (s 26) j p := by
    rw [sw_row (show ¬ (26 : Nat) = 27 by decide), sw_row (show ¬ (26 : Nat) = 29 by decide), sw_row (show ¬ (26 : Nat) = 28 by decide), sw_at, if_pos rfl, g 26 (by decide)]
  have e27 : (sw (sw (sw (sw a 26 j p) 28 j (a 25 4)) 29 j (a 25 7)) 27 j st) 27 = upd (s 27) j st := by
    rw [sw_at, if_pos rfl, sw_row (show ¬ (27 : Nat) = 29 by decide), sw_row (show ¬ (27 : Nat) = 28 by decide), sw_row (show ¬ (27 : Nat) = 26 by decide), g 27 (by decide)]
  have e28 : (sw (sw (sw (sw a 26 j p) 28 j (a 25 4)) 29 j (a 25 7)) 27 j st) 28 = upd (s 28) j (a 25 4) := by
    rw [sw_row (show ¬ (28 : Nat) = 27 by decide), sw_row (show ¬ (28 : Nat) = 29 by decide), sw_at, if_pos rfl, sw_row (show ¬ (28 : Nat) = 26 by decide), g 28 (by decide)]
  have e29 : (sw (sw (sw (sw a 26 j p) 28 j (a 25 4)) 29 j (a 25 7)) 27 j st) 29 = upd (s 29) j (a 25 7) := by
    rw [sw_row (show ¬ (29 : Nat) = 27 by decide), sw_at, if_pos rfl, sw_row (show ¬ (29 : Nat) = 28 by decide), sw_row (show ¬ (29 : Nat) = 26 by decide), g 29 (by decide)]
  refine ⟨⟨fun k => if k = j + 1 then a 25 5 else H k, fun k => if k = j + 1 then a 25 6 else M k, ?_, ?_, ?_, ?_, fun n hn => ?_⟩, ?_, ?_, ?_, fun n hn => ?_, ?_⟩
  · dsimp only; rw [if_neg (by omega)]; exact h0
  · dsimp only; rw [if_neg (by omega)]; exact m0
  · dsimp only; rw [if_pos rfl, e25]
  · dsimp only; rw [if_pos rfl, e25]
  · rw [e26, e27, e28, e29, posA_upd (by omega), lckA_upd (by omega)]
    dsimp only
    rw [if_neg (show ¬ n = j + 1 by omega), if_neg (show ¬ n = j + 1 by omega)]
    by_cases q : n = j
    · subst q
      rw [if_pos rfl, if_pos rfl, upd_self, upd_self, upd_self, upd_self, ← hp, ← hl, ← hh, ← hm]
      refine ⟨hP, k4, k5, k6, ?_, hst.symm⟩
      rw [k5, k6]
      exact k7
    · rw [if_neg (show ¬ n + 1 = j + 1 by omega), if_neg (show ¬ n + 1 = j + 1 by omega), upd_at, if_neg q, upd_at, if_neg q, upd_at, if_neg q, upd_at, if_neg q]
      exact hF n (by omega)
  · rw [e25, e28]; show _ = upd (s 28) j (a 25 4) j; rw [upd_self]
  · rw [e25, e29]; show _ = upd (s 29) j (a 25 7) j; rw [upd_self]
  · rw [e25]; exact hz2
  · rw [e29, upd_at]
    by_cases q : n = j
    · rw [if_pos q]; exact hz2
    · rw [if_neg q]; exact h29 n (by omega)
  · exact hk.tr (((((k0.up (by decide)).tr (Kp.sw (by decide) _ _ _)).tr (Kp.sw (by decide) _ _ _)).tr (Kp.sw (by decide) _ _ _)).tr (Kp.sw (by decide) _ _ _))
theorem find_cls {S : Int32 → Int32 → Int32} {σ : Sg} (hA : AT S σ) : (∃ H M : Nat → Int32, H 0 = 0 ∧ M 0 = 0 ∧ ∀ n, n < 8 → FindAt S n ((f_X4_find σ) 26 n) ((f_X4_find σ) 27 n) ((f_X4_find σ) 28 n) ((f_X4_find σ) 29 n) (posA ((f_X4_find σ) 28) n) (lckA ((f_X4_find σ) 29) n) (H n) (M n) (H (n + 1)) (M (n + 1))) ∧ (∀ n, n < 8 → (f_X4_find σ) 29 n = 0 ∨ (f_X4_find σ) 29 n = 1) ∧ Kp [25, 26, 27, 28, 29] σ (f_X4_find σ) := by
  rw [f_X4_find_eq]
  dsimp only
  have k0 : Kp [25] σ (sw (sw (sw (sw σ 25 4 32) 25 5 0) 25 6 0) 25 7 0) := (((Kp.sw (by decide) _ _ _).tr (Kp.sw (by decide) _ _ _)).tr (Kp.sw (by decide) _ _ _)).tr (Kp.sw (by decide) _ _ _)
  have key := loopF_inv (B := b_X4_find_23) (N := 8) (I := sw (sw (sw (sw σ 25 4 32) 25 5 0) 25 6 0) 25 7 0) (FI S (sw (sw (sw (sw σ 25 4 32) 25 5 0) 25 6 0) 25 7 0)) ⟨⟨fun _ => 0, fun _ => 0, rfl, rfl, by simp [sw_get], by simp [sw_get], fun n hn => absurd hn (by omega)⟩, by simp [sw_get, posA], by simp [sw_get, lckA], by simp [sw_get], fun n hn => absurd hn (by omega), Kp.rf _⟩ (fun j s hj hR => find_step (hA.k (fun k a c => k0 k (fun q => by
    simp only [List.mem_cons, List.mem_nil_iff, or_false] at q
    omega))) j s hj hR)
  obtain ⟨⟨H, M, h0, m0, -, -, hF⟩, -, -, -, h29, hk⟩ := key
  exact ⟨⟨H, M, h0, m0, hF⟩, h29, (k0.up (by decide)).tr hk⟩
