section
/-! decode: combs and colors -/
def gF (p q : UInt32) : UInt32 := FP.fadd (FP.fmul p p) (FP.fmul q q)
def zF (p q : UInt32) : Int32 := Op.cmpValue (FP.fcmp (FP.fadd (FP.fmul p p) (FP.fmul q q)) (FP.fconst0)) .l
def uF (p q : UInt32) (sn cs : Int32) : UInt32 := FP.fdiv (FP.fmul (FP.fadd (FP.fmul (FP.fdiv (FP.i2f sn) 1098907648) p) (FP.fmul (FP.fdiv (FP.i2f cs) 1098907648) q)) 1117782016) (FP.fadd (FP.fmul p p) (FP.fmul q q))
def vF (p q : UInt32) (sn cs : Int32) : UInt32 := FP.fdiv (FP.fmul (FP.fsub (FP.fmul (FP.fdiv (FP.i2f cs) 1098907648) p) (FP.fmul (FP.fdiv (FP.i2f sn) 1098907648) q)) 1117782016) (FP.fadd (FP.fmul p p) (FP.fmul q q))
def cU (p q : UInt32) (on sn cs : Int32) : UInt32 := if on = 0 then FP.fconst0 else (if zF p q = 0 then FP.fconst0 else uF p q sn cs)
def cW (p q : UInt32) (on sn cs : Int32) : UInt32 := if on = 0 then FP.fconst0 else (if zF p q = 0 then FP.fconst0 else vF p q sn cs)
def cV (p q : UInt32) (on sn cs mir : Int32) : UInt32 := if mir = 0 then cW p q on sn cs else FP.fsub FP.fconst0 (cW p q on sn cs)
theorem z_00 : zF FP.fconst0 FP.fconst0 = 0 := by decide +kernel
theorem s_00 : FP.fsub FP.fconst0 FP.fconst0 = FP.fconst0 := by decide +kernel
theorem cV_0 (p q : UInt32) (on sn cs mir : Int32) (h : cW p q on sn cs = FP.fconst0) : cV p q on sn cs mir = FP.fconst0 := by
  unfold cV
  rw [h, s_00, ite_self]
def mxF (f : Nat → UInt32) (k : Nat) (av : Int32) : UInt32 := if av = 0 then f k else FP.fmul (FP.fadd (f k) (f (k - 10))) 1056964608
def col4 (a b c d : Nat) (φ : Fl) (k : Nat) (U V : UInt32) (av : Int32) : Fl := fw (fw (fw (fw φ a k U) b k V) c k (mxF (vf_upd (φ a) k U) k av)) d k (mxF (vf_upd (φ b) k V) k av)
theorem turnSeg_eq (σ : Sg) (φ : Fl) {k : Nat} (hk : k < 80) (p q : UInt32) (on y : Int32) : f_X2_turnSegment σ φ (nI k) (if on = 0 then FP.fconst0 else p) (if on = 0 then FP.fconst0 else q) y = fw (fw φ 45 k (cU p q on (σ 42 k) (σ 43 k))) 46 k (cV p q on (σ 42 k) (σ 43 k) y) := by
  rw [f_X2_turnSegment_eq, nI_clamp (by omega)]
  dsimp only
  by_cases c : on = 0
  · have z : Op.cmpValue (FP.fcmp (FP.fadd (FP.fmul FP.fconst0 FP.fconst0) (FP.fmul FP.fconst0 FP.fconst0)) FP.fconst0) .l = 0 := z_00
    have e1 : cU p q on (σ 42 k) (σ 43 k) = FP.fconst0 := if_pos c
    have e2 : cV p q on (σ 42 k) (σ 43 k) y = FP.fconst0 := cV_0 _ _ _ _ _ _ (if_pos c)
    rw [e1, e2]
    simp only [if_pos c, if_pos z]
  · simp only [if_neg c]
    by_cases z : Op.cmpValue (FP.fcmp (FP.fadd (FP.fmul p p) (FP.fmul q q)) FP.fconst0) .l = 0
    · have e1 : cU p q on (σ 42 k) (σ 43 k) = FP.fconst0 := (if_neg c).trans (if_pos z)
      have e2 : cV p q on (σ 42 k) (σ 43 k) y = FP.fconst0 := cV_0 _ _ _ _ _ _ ((if_neg c).trans (if_pos z))
      rw [e1, e2]
      simp only [if_pos z]
    · have e1 : cU p q on (σ 42 k) (σ 43 k) = uF p q (σ 42 k) (σ 43 k) := (if_neg c).trans (if_neg z)
      have e3 : cW p q on (σ 42 k) (σ 43 k) = vF p q (σ 42 k) (σ 43 k) := (if_neg c).trans (if_neg z)
      have e2 : cV p q on (σ 42 k) (σ 43 k) y = if y = 0 then vF p q (σ 42 k) (σ 43 k) else FP.fsub FP.fconst0 (vF p q (σ 42 k) (σ 43 k)) := by unfold cV; rw [e3]
      rw [e1, e2]
      simp only [if_neg z, ite_self]
      rfl
theorem mixSeg_eq (φ : Fl) {k : Nat} (hk : k < 80) {y : Int32} (h : ¬ y = 0 → 10 ≤ k) : f_X2_mixSegment φ (nI k) y = fw (fw φ 47 k (mxF (φ 45) k y)) 48 k (mxF (φ 46) k y) := by
  rw [f_X2_mixSegment_eq, nI_clamp (by omega)]
  dsimp only
  unfold mxF
  by_cases c : y = 0
  · rw [if_pos c, if_pos c, if_pos c, fw_row (show ¬ (46 : Nat) = 47 by decide)]
  · have e : nI k - 10 = nI (k - 10) := pk_sub (a := k) (b := 10) (h c)
    rw [if_neg c, if_neg c, if_neg c, e, if_neg (nI_pos (by omega)), nI_clamp (by omega), fw_row (show ¬ (46 : Nat) = 47 by decide)]
theorem cls4 (σ : Sg) (φ : Fl) {k : Nat} (hk : k < 80) (p q : UInt32) (on y : Int32) {av : Int32} (h : ¬ av = 0 → 10 ≤ k) : f_X2_mixSegment (f_X2_turnSegment σ φ (nI k) (if on = 0 then FP.fconst0 else p) (if on = 0 then FP.fconst0 else q) y) (nI k) av = col4 45 46 47 48 φ k (cU p q on (σ 42 k) (σ 43 k)) (cV p q on (σ 42 k) (σ 43 k) y) av := by
  rw [turnSeg_eq _ _ hk, mixSeg_eq _ hk h]
  unfold col4
  rw [fw_row (show ¬ (45 : Nat) = 46 by decide), fw_own, fw_own, fw_row (show ¬ (46 : Nat) = 45 by decide)]
/-- colors told up to the place p -/
def CR (a b c d : Nat) (U V : Nat → UInt32) (av : Nat → Int32) (φ0 φ : Fl) (p : Nat) : Prop := (∀ k, k < p → φ a k = U k ∧ φ b k = V k ∧ φ c k = mxF (φ a) k (av k) ∧ φ d k = mxF (φ b) k (av k)) ∧ (∀ k, p ≤ k → φ a k = φ0 a k ∧ φ b k = φ0 b k ∧ φ c k = φ0 c k ∧ φ d k = φ0 d k) ∧ Kp [a, b, c, d] φ0 φ
theorem vfu_at (f : Nat → UInt32) (k : Nat) (x : UInt32) (j : Nat) : vf_upd f k x j = if j = k then x else f j := rfl
theorem CR_step {a b c d : Nat} (h1 : ¬ a = b) (h2 : ¬ a = c) (h3 : ¬ a = d) (h4 : ¬ b = c) (h5 : ¬ b = d) (h6 : ¬ c = d) {U V U' V' : Nat → UInt32} {av : Nat → Int32} {φ0 φ : Fl} {p : Nat} (h : CR a b c d U V av φ0 φ p) (hU : ∀ k, k < p → U' k = U k) (hV : ∀ k, k < p → V' k = V k) : CR a b c d U' V' av φ0 (col4 a b c d φ p (U' p) (V' p) (av p)) (p + 1) := by
  obtain ⟨g1, g2, g3⟩ := h
  have ea : col4 a b c d φ p (U' p) (V' p) (av p) a = vf_upd (φ a) p (U' p) := by
    unfold col4
    rw [fw_row h3, fw_row h2, fw_row h1, fw_own]
  have eb : col4 a b c d φ p (U' p) (V' p) (av p) b = vf_upd (φ b) p (V' p) := by
    unfold col4
    rw [fw_row h5, fw_row h4, fw_own, fw_row (fun q => h1 q.symm)]
  have ec : col4 a b c d φ p (U' p) (V' p) (av p) c = vf_upd (φ c) p (mxF (vf_upd (φ a) p (U' p)) p (av p)) := by
    unfold col4
    rw [fw_row h6, fw_own, fw_row (fun q => h4 q.symm), fw_row (fun q => h2 q.symm)]
  have ed : col4 a b c d φ p (U' p) (V' p) (av p) d = vf_upd (φ d) p (mxF (vf_upd (φ b) p (V' p)) p (av p)) := by
    unfold col4
    rw [fw_own, fw_row (fun q => h6 q.symm), fw_row (fun q => h5 q.symm), fw_row (fun q => h3 q.symm)]
  refine ⟨fun k hk => ?_, fun k hk => ?_, ?_⟩
  · rw [ea, eb, ec, ed]
    by_cases q : k = p
    · subst q
      rw [vfu_at, if_pos rfl, vfu_at, if_pos rfl, vfu_at, if_pos rfl, vfu_at, if_pos rfl]
      exact ⟨rfl, rfl, rfl, rfl⟩
    · obtain ⟨k1, k2, k3, k4⟩ := g1 k (by omega)
      have m : ∀ (f : Nat → UInt32) (x : UInt32), mxF (vf_upd f p x) k (av k) = mxF f k (av k) := fun f x => by
        unfold mxF
        rw [vfu_at, if_neg q, vfu_at, if_neg (show ¬ k - 10 = p by omega)]
      rw [m, m, vfu_at, if_neg q, vfu_at, if_neg q, vfu_at, if_neg q, vfu_at, if_neg q, hU k (by omega), hV k (by omega)]
      exact ⟨k1, k2, k3, k4⟩
  · rw [ea, eb, ec, ed, vfu_at, if_neg (show ¬ k = p by omega), vfu_at, if_neg (show ¬ k = p by omega), vfu_at, if_neg (show ¬ k = p by omega), vfu_at, if_neg (show ¬ k = p by omega)]
    exact g2 k (by omega)
  · exact g3.tr ((((Kp.fw (by simp) _ _ _).tr (Kp.fw (by simp) _ _ _)).tr (Kp.fw (by simp) _ _ _)).tr (Kp.fw (by simp) _ _ _))
theorem CR_0 (a b c d : Nat) (U V : Nat → UInt32) (av : Nat → Int32) (φ : Fl) : CR a b c d U V av φ φ 0 := ⟨fun k hk => absurd hk (by omega), fun k _ => ⟨rfl, rfl, rfl, rfl⟩, Kp.rf _⟩
/-- both sides tell the same colors -/
theorem CR_eq {a b c d a' b' c' d' : Nat} {U V : Nat → UInt32} {av : Nat → Int32} {φ0 φ ψ0 ψ : Fl} (h : CR a b c d U V av φ0 φ 80) (h' : CR a' b' c' d' U V av ψ0 ψ 80) (e1 : φ0 a = ψ0 a') (e2 : φ0 b = ψ0 b') (e3 : φ0 c = ψ0 c') (e4 : φ0 d = ψ0 d') : φ a = ψ a' ∧ φ b = ψ b' ∧ φ c = ψ c' ∧ φ d = ψ d' := by
  obtain ⟨g1, g2, -⟩ := h
  obtain ⟨k1, k2, -⟩ := h'
  have ha : φ a = ψ a' := funext fun k => by
    by_cases q : k < 80
    · rw [(g1 k q).1, (k1 k q).1]
    · rw [(g2 k (by omega)).1, (k2 k (by omega)).1, e1]
  have hb : φ b = ψ b' := funext fun k => by
    by_cases q : k < 80
    · rw [(g1 k q).2.1, (k1 k q).2.1]
    · rw [(g2 k (by omega)).2.1, (k2 k (by omega)).2.1, e2]
  refine ⟨ha, hb, funext fun k => ?_, funext fun k => ?_⟩
  · by_cases q : k < 80
    · rw [(g1 k q).2.2.1, (k1 k q).2.2.1, ha]
    · rw [(g2 k (by omega)).2.2.1, (k2 k (by omega)).2.2.1, e3]
  · by_cases q : k < 80
    · rw [(g1 k q).2.2.2, (k1 k q).2.2.2, hb]
    · rw [(g2 k (by omega)).2.2.2, (k2 k (by omega)).2.2.2, e4]
def avF (w : Int32) (k : Nat) : Int32 := if w = 1 then (if nI (k / 10) ≤ 0 then 0 else 1) else 0
def miF (w : Int32) (k : Nat) : Int32 := if w = 1 then (if nI (k / 10) &&& 1 = 1 then 1 else 0) else 0
def UF (f g : Nat → UInt32) (on : Nat → Int32) (s : Sg) (k : Nat) : UInt32 := cU (f (k / 10)) (g (k / 10)) (on (k / 10)) (s 42 k) (s 43 k)
def VF (w : Int32) (f g : Nat → UInt32) (on : Nat → Int32) (s : Sg) (k : Nat) : UInt32 := cV (f (k / 10)) (g (k / 10)) (on (k / 10)) (s 42 k) (s 43 k) (miF w k)
theorem nest {τ : Type} {B : Nat → τ → τ} {I : τ} (Inv : Nat → τ → Prop) (h0 : Inv 0 I) (hs : ∀ n s, n < 8 → Inv (10 * n) s → Inv (10 * n + 10) (B n s)) : Inv 80 (loopF B 8 I) := loopF_inv (B := B) (N := 8) (I := I) (fun n => Inv (10 * n)) h0 (fun n s hn h => by
  rw [show 10 * (n + 1) = 10 * n + 10 by omega]
  exact hs n s hn h)
theorem turn_at (s : Sg) (φ : Fl) (w : Int32) : CR 45 46 47 48 (UF (φ 36) (φ 37) (s 34) s) (VF w (φ 36) (φ 37) (s 34) s) (avF w) φ (f_X2_turn s φ w) 80 := by
  rw [f_X2_turn_eq]
  refine nest (B := b_X2_turn_3 s w) (I := φ) (fun p x => CR 45 46 47 48 (UF (φ 36) (φ 37) (s 34) s) (VF w (φ 36) (φ 37) (s 34) s) (avF w) φ x p) (CR_0 _ _ _ _ _ _ _ _) (fun n x hn hI => ?_)
  rw [b_X2_turn_3_eq]
  dsimp only
  have e36 : x 36 = φ 36 := hI.2.2 36 (by decide)
  have e37 : x 37 = φ 37 := hI.2.2 37 (by decide)
  rw [e36, e37, nI_clamp (by omega)]
  refine loopF_inv (B := b_X2_turn_98 s n (if s 34 n = 0 then FP.fconst0 else φ 36 n) (if s 34 n = 0 then FP.fconst0 else φ 37 n) (if w = 1 then (if nI n &&& 1 = 1 then 1 else 0) else 0) (if w = 1 then (if nI n ≤ 0 then 0 else 1) else 0)) (N := 10) (I := x) (fun i y => CR 45 46 47 48 (UF (φ 36) (φ 37) (s 34) s) (VF w (φ 36) (φ 37) (s 34) s) (avF w) φ y (10 * n + i)) hI (fun i y hi hJ => ?_)
  rw [b_X2_turn_98_eq]
  dsimp only
  have en : (10 * n + i) / 10 = n := by omega
  rw [pl_10, cls4 s y (by omega) _ _ _ _ (fun q => by
    rcases Nat.eq_zero_or_pos n with z | z
    · subst z
      refine absurd ?_ q
      rw [if_pos (show nI 0 ≤ 0 by decide), ite_self]
    · omega)]
  have key := CR_step (by decide) (by decide) (by decide) (by decide) (by decide) (by decide) hJ (U' := UF (φ 36) (φ 37) (s 34) s) (V' := VF w (φ 36) (φ 37) (s 34) s) (fun _ _ => rfl) (fun _ _ => rfl)
  unfold UF VF avF miF at key
  rw [en] at key
  exact key
theorem q_bnd (x : Int32) : bndL (f_X11_quotient x 32) := by
  rw [f_X11_quotient_eq]
  dsimp only
  have e := tq_div (x := x) (d := 32) (n := 32) rfl (by decide)
  have b1 : (x.toInt.tdiv ((32 : Nat) : Int)).natAbs = x.toInt.natAbs / 32 := by rw [Int.natAbs_tdiv]; rfl
  have a1 := Int32.le_toInt x
  have a2 := Int32.toInt_lt x
  have b2 : (x / 32).toInt.natAbs ≤ 67108864 := by rw [e, b1]; omega
  unfold bndL
  by_cases c : 0 ≤ x - x / 32 * 32
  · rw [if_pos c]; omega
  · rw [if_neg c]
    have b3 : bd (x / 32 - 1) (67108864 + 1) := bd_sub (A := 67108864) (B := 1) b2 (bd_lit (by decide)) (by decide)
    unfold bd at b3
    omega
theorem comb_eq {u : Sg} {ψ : Fl} {n i : Nat} (hn : n < 8) (hi : i < 10) {w : Int32} (hw : w = 0 ∨ w = 1) : f_X11_comb u ψ (nI n) (nI i) w = (sw (loopF (b_X11_comb_34 (nI n) (nI i)) 8 (0, 0, 0, sw u 77 (10 * n + i) (f_X11_way u (nI n) (nI i) w))).2.2.2 75 (10 * n + i) (f_X11_quotient (4 * f_X11_sumOf (loopF (b_X11_comb_34 (nI n) (nI i)) 8 (0, 0, 0, sw u 77 (10 * n + i) (f_X11_way u (nI n) (nI i) w))).2.2.2 (nI n) (nI i) - (loopF (b_X11_comb_34 (nI n) (nI i)) 8 (0, 0, 0, sw u 77 (10 * n + i) (f_X11_way u (nI n) (nI i) w))).1) 32), col4 78 79 80 81 ψ (10 * n + i) (cU (ψ 73 n) (ψ 74 n) ((loopF (b_X11_comb_34 (nI n) (nI i)) 8 (0, 0, 0, sw u 77 (10 * n + i) (f_X11_way u (nI n) (nI i) w))).2.2.2 72 n) (loopF (b_X11_comb_34 (nI n) (nI i)) 8 (0, 0, 0, sw u 77 (10 * n + i) (f_X11_way u (nI n) (nI i) w))).2.1 (loopF (b_X11_comb_34 (nI n) (nI i)) 8 (0, 0, 0, sw u 77 (10 * n + i) (f_X11_way u (nI n) (nI i) w))).2.2.1) (cV (ψ 73 n) (ψ 74 n) ((loopF (b_X11_comb_34 (nI n) (nI i)) 8 (0, 0, 0, sw u 77 (10 * n + i) (f_X11_way u (nI n) (nI i) w))).2.2.2 72 n) (loopF (b_X11_comb_34 (nI n) (nI i)) 8 (0, 0, 0, sw u 77 (10 * n + i) (f_X11_way u (nI n) (nI i) w))).2.1 (loopF (b_X11_comb_34 (nI n) (nI i)) 8 (0, 0, 0, sw u 77 (10 * n + i) (f_X11_way u (nI n) (nI i) w))).2.2.1 (miF w (10 * n + i))) (avF w (10 * n + i))) := by
  rw [f_X11_comb_eq, pm_10, nI_clamp (show 10 * n + i < 2 ^ 31 by omega), nI_clamp (show n < 2 ^ 31 by omega)]
  dsimp only
  generalize loopF (b_X11_comb_34 (nI n) (nI i)) 8 (0, 0, 0, sw u 77 (10 * n + i) (f_X11_way u (nI n) (nI i) w)) = c
  have en : (10 * n + i) / 10 = n := by omega
  rw [sw_cell (show ¬ (72 : Nat) = 75 by decide)]
  refine congrArg (Prod.mk _) ?_
  have eU : (if (if c.2.2.2 72 n = 0 then (0 : Int32) else (if (Op.cmpValue (FP.fcmp (FP.fadd (FP.fmul (ψ 73 n) (ψ 73 n)) (FP.fmul (ψ 74 n) (ψ 74 n))) (FP.fconst0)) .l) = 0 then 0 else 1)) = 0 then FP.fconst0 else uF (ψ 73 n) (ψ 74 n) c.2.1 c.2.2.1) = cU (ψ 73 n) (ψ 74 n) (c.2.2.2 72 n) c.2.1 c.2.2.1 := by
    unfold cU zF
    by_cases c1 : c.2.2.2 72 n = 0
    · simp only [if_pos c1, if_true]
    · simp only [if_neg c1]
      by_cases c2 : (Op.cmpValue (FP.fcmp (FP.fadd (FP.fmul (ψ 73 n) (ψ 73 n)) (FP.fmul (ψ 74 n) (ψ 74 n))) (FP.fconst0)) .l) = 0
      · simp only [if_pos c2, if_true]
      · simp only [if_neg c2, if_neg (show ¬ (1 : Int32) = 0 by decide)]
  have eW : (if (if c.2.2.2 72 n = 0 then (0 : Int32) else (if (Op.cmpValue (FP.fcmp (FP.fadd (FP.fmul (ψ 73 n) (ψ 73 n)) (FP.fmul (ψ 74 n) (ψ 74 n))) (FP.fconst0)) .l) = 0 then 0 else 1)) = 0 then FP.fconst0 else vF (ψ 73 n) (ψ 74 n) c.2.1 c.2.2.1) = cW (ψ 73 n) (ψ 74 n) (c.2.2.2 72 n) c.2.1 c.2.2.1 := by
    unfold cW zF
    by_cases c1 : c.2.2.2 72 n = 0
    · simp only [if_pos c1, if_true]
    · simp only [if_neg c1]
      by_cases c2 : (Op.cmpValue (FP.fcmp (FP.fadd (FP.fmul (ψ 73 n) (ψ 73 n)) (FP.fmul (ψ 74 n) (ψ 74 n))) (FP.fconst0)) .l) = 0
      · simp only [if_pos c2, if_true]
      · simp only [if_neg c2, if_neg (show ¬ (1 : Int32) = 0 by decide)]
  unfold uF at eU
  unfold vF at eW
  rw [eU, eW]
  generalize cU (ψ 73 n) (ψ 74 n) (c.2.2.2 72 n) c.2.1 c.2.2.1 = U
  have eV : (if w = 1 then (if nI n - nI n / 2 * 2 = 1 then FP.fsub FP.fconst0 (cW (ψ 73 n) (ψ 74 n) (c.2.2.2 72 n) c.2.1 c.2.2.1) else cW (ψ 73 n) (ψ 74 n) (c.2.2.2 72 n) c.2.1 c.2.2.1) else cW (ψ 73 n) (ψ 74 n) (c.2.2.2 72 n) c.2.1 c.2.2.1) = cV (ψ 73 n) (ψ 74 n) (c.2.2.2 72 n) c.2.1 c.2.2.1 (miF w (10 * n + i)) := by
    unfold cV miF
    rw [en]
    by_cases c1 : w = 1
    · simp only [if_pos c1]
      by_cases c2 : nI n &&& 1 = 1
      · simp only [if_pos c2, if_pos ((odd_iff (vp_in_nI hn (by decide))).mp c2), if_neg (show ¬ (1 : Int32) = 0 by decide)]
      · simp only [if_neg c2, if_neg (fun q => c2 ((odd_iff (vp_in_nI hn (by decide))).mpr q)), if_true]
    · simp only [if_neg c1, if_true]
  rw [eV]
  generalize cV (ψ 73 n) (ψ 74 n) (c.2.2.2 72 n) c.2.1 c.2.2.1 (miF w (10 * n + i)) = V
  unfold col4 mxF avF
  rw [en, fw_row (show ¬ (78 : Nat) = 79 by decide), fw_own, fw_row (show ¬ (79 : Nat) = 80 by decide), fw_own, fw_row (show ¬ (79 : Nat) = 78 by decide)]
  rcases hw with rfl | rfl
  · simp only [if_true, if_neg (show ¬ (1 : Int32) = 0 by decide), if_neg (show ¬ (0 : Int32) = 1 by decide)]
  · by_cases z : n = 0
    · subst z
      simp only [if_pos (show nI 0 = 0 from rfl), if_pos (show nI 0 ≤ 0 by decide), if_true, if_neg (show ¬ (1 : Int32) = 0 by decide)]
    · have z1 : ¬ nI n = 0 := nI_ne0 (by omega) (by omega)
      have z2 : ¬ nI n ≤ 0 := nI_nle (by omega) (by omega)
      have e : nI (10 * n + i) - 10 = nI (10 * n + i - 10) := pk_sub (a := 10 * n + i) (b := 10) (by omega)
      simp only [if_neg z1, if_neg z2, if_true, if_neg (show ¬ (1 : Int32) = 0 by decide), e, nI_clamp (show 10 * n + i - 10 < 2 ^ 31 by omega)]
def RCo (w : Int32) (s0 u0 : Sg) (ψ0 : Fl) (p : Nat) (s : Sg) (c : Sg × Fl) : Prop := s 40 = c.1 75 ∧ s 41 = c.1 77 ∧ (∀ k, bndL (c.1 75 k)) ∧ Kp [40, 41, 42, 43] s0 s ∧ Kp [75, 77, 82] u0 c.1 ∧ CR 78 79 80 81 (UF (ψ0 73) (ψ0 74) (u0 72) s) (VF w (ψ0 73) (ψ0 74) (u0 72) s) (avF w) ψ0 c.2 p
theorem comb_step {σ t u0 : Sg} {ψ0 : Fl} (hA : AT (f_X11_signal t) σ) (hk : SK t u0) (h66 : σ 27 = u0 66) (h14 : σ 14 = u0 62) (h62 : vp_in (u0 62 2) 4) {w v1 : Int32} (hw : w = 0 ∨ w = 1) (hv1 : v1 = if w = 1 then 0 else u0 62 2) {n i : Nat} (hn : n < 8) (hi : i < 10) {s : Sg} {c : Sg × Fl} (hR : RCo w (f_X3_sumUp σ) u0 ψ0 (10 * n + i) s c) : RCo w (f_X3_sumUp σ) u0 ψ0 (10 * n + i + 1) (b_X3_separate_44 σ v1 n i s) (b_X11_decode_85 w n i c) := by
  obtain ⟨u, ψ⟩ := c
  obtain ⟨r1, r2, r3, r4, r5, r6⟩ := hR
  dsimp only at r1 r2 r3 r5 r6
  have k39 := (sums_at (u := u0) hA hk h66).2
  have ks : ∀ k, ¬ k ∈ [39, 40, 41, 42, 43] → s k = σ k := fun k q => (r4 k (fun z => q (List.mem_cons_of_mem _ z))).trans (k39 k (fun z => q (by rw [List.mem_singleton.mp z]; decide)))
  have hu : SK t u := hk.k r5 (by decide)
  have e27 : s 27 = u 66 := by rw [ks 27 (by decide), r5 66 (by decide), h66]
  have eA : AT (f_X11_signal t) s := hA.k (fun k a b => ks k (fun q => by
    simp only [List.mem_cons, List.mem_nil_iff, or_false] at q
    omega))
  have hs : ∀ n i, n < 8 → i < 10 → s 39 (10 * n + i) = f_X11_sumOf u (nI n) (nI i) := fun n i a b => by
    rw [r4 39 (by decide)]
    exact (sums_at hA hu (by rw [r5 66 (by decide)]; exact h66)).1 n i a b
  have e62 : u 62 = u0 62 := r5 62 (by decide)
  obtain ⟨ew, hw4⟩ := way_eq (u := u) hs hn hi (c := v1) (d := 8 * f_X8_limit σ) (w := w) hw (by rw [e62, ← h14]; rfl) (by rw [e62]; exact hv1) (by rw [e62]; exact h62)
  have ho : wok (nI n) (f_X11_way u (nI n) (nI i) w) := way_ok (vp_in_nI hn (by decide))
  rw [b_X3_separate_44_eq, b_X11_decode_85_eq, pl_10, ew]
  dsimp only
  rw [comb_eq hn hi hw, f_X3_splitSegment_eq, pl_10, nI_clamp (by omega)]
  dsimp only
  generalize f_X11_way u (nI n) (nI i) w = y at *
  have k77 : Kp [77] u (sw u 77 (10 * n + i) y) := Kp.sw (by decide) _ _ _
  have hu1 : SK t (sw u 77 (10 * n + i) y) := hu.k k77 (by decide)
  obtain ⟨p1, p2, p3, p4⟩ := split_eq (u := sw u 77 (10 * n + i) y) eA hu1 (by rw [k77 66 (by decide)]; exact e27) hn hi hw4 ho (sw_same _ _ _ _)
  rw [p1, p2, p3]
  generalize loopF (b_X11_comb_34 (nI n) (nI i)) 8 (0, 0, 0, sw u 77 (10 * n + i) y) = z at p4 ⊢
  have kz : Kp [77, 82] u z.2.2.2 := (k77.up (by decide)).tr (p4.up (by decide))
  have esum : f_X11_sumOf z.2.2.2 (nI n) (nI i) = s 39 (10 * n + i) := by
    rw [r4 39 (by decide)]
    exact ((sums_at hA (hu.k kz (by decide)) (by rw [kz 66 (by decide), r5 66 (by decide)]; exact h66)).1 n i hn hi).symm
  have en : (10 * n + i) / 10 = n := by omega
  have e72 : z.2.2.2 72 n = u0 72 n := by rw [kz 72 (by decide), r5 72 (by decide)]
  have e73 : ψ 73 = ψ0 73 := r6.2.2 73 (by decide)
  have e74 : ψ 74 = ψ0 74 := r6.2.2 74 (by decide)
  rw [esum, fd_32, e72, e73, e74]
  have f42 : ∀ a b c d : Int32, (sw (sw (sw (sw s 40 (10 * n + i) a) 41 (10 * n + i) b) 42 (10 * n + i) c) 43 (10 * n + i) d) 42 = upd (s 42) (10 * n + i) c := fun a b c d => by
    rw [sw_row (show ¬ (42 : Nat) = 43 by decide), sw_at, if_pos rfl, sw_row (show ¬ (42 : Nat) = 41 by decide), sw_row (show ¬ (42 : Nat) = 40 by decide)]
  have f43 : ∀ a b c d : Int32, (sw (sw (sw (sw s 40 (10 * n + i) a) 41 (10 * n + i) b) 42 (10 * n + i) c) 43 (10 * n + i) d) 43 = upd (s 43) (10 * n + i) d := fun a b c d => by
    rw [sw_at, if_pos rfl, sw_row (show ¬ (43 : Nat) = 42 by decide), sw_row (show ¬ (43 : Nat) = 41 by decide), sw_row (show ¬ (43 : Nat) = 40 by decide)]
  refine ⟨?_, ?_, ?_, ?_, ?_, ?_⟩
  · dsimp only
    rw [sw_row (show ¬ (40 : Nat) = 43 by decide), sw_row (show ¬ (40 : Nat) = 42 by decide), sw_row (show ¬ (40 : Nat) = 41 by decide), sw_at, if_pos rfl, sw_at, if_pos rfl, kz 75 (by decide), r1]
  · dsimp only
    rw [sw_row (show ¬ (41 : Nat) = 43 by decide), sw_row (show ¬ (41 : Nat) = 42 by decide), sw_at, if_pos rfl, sw_row (show ¬ (41 : Nat) = 40 by decide), sw_row (show ¬ (77 : Nat) = 75 by decide), p4 77 (by decide), sw_at, if_pos rfl, r2]
  · intro k
    dsimp only
    rw [sw_at, if_pos rfl, upd_at]
    by_cases q : k = 10 * n + i
    · rw [if_pos q]; exact q_bnd _
    · rw [if_neg q, kz 75 (by decide)]; exact r3 k
  · exact r4.tr ((((Kp.sw (by decide) _ _ _).tr (Kp.sw (by decide) _ _ _)).tr (Kp.sw (by decide) _ _ _)).tr (Kp.sw (by decide) _ _ _))
  · exact r5.tr ((kz.up (by decide)).tr (Kp.sw (by decide) _ _ _))
  · have key := CR_step (by decide) (by decide) (by decide) (by decide) (by decide) (by decide) r6 (U' := UF (ψ0 73) (ψ0 74) (u0 72) (sw (sw (sw (sw s 40 (10 * n + i) (f_X11_quotient (4 * s 39 (10 * n + i) - z.1) 32)) 41 (10 * n + i) y) 42 (10 * n + i) z.2.1) 43 (10 * n + i) z.2.2.1)) (V' := VF w (ψ0 73) (ψ0 74) (u0 72) (sw (sw (sw (sw s 40 (10 * n + i) (f_X11_quotient (4 * s 39 (10 * n + i) - z.1) 32)) 41 (10 * n + i) y) 42 (10 * n + i) z.2.1) 43 (10 * n + i) z.2.2.1)) (fun k hk => by
      unfold UF
      rw [f42, f43, upd_at, if_neg (show ¬ k = 10 * n + i by omega), upd_at, if_neg (show ¬ k = 10 * n + i by omega)]) (fun k hk => by
      unfold VF
      rw [f42, f43, upd_at, if_neg (show ¬ k = 10 * n + i by omega), upd_at, if_neg (show ¬ k = 10 * n + i by omega)])
    have eU : UF (ψ0 73) (ψ0 74) (u0 72) (sw (sw (sw (sw s 40 (10 * n + i) (f_X11_quotient (4 * s 39 (10 * n + i) - z.1) 32)) 41 (10 * n + i) y) 42 (10 * n + i) z.2.1) 43 (10 * n + i) z.2.2.1) (10 * n + i) = cU (ψ0 73 n) (ψ0 74 n) (u0 72 n) z.2.1 z.2.2.1 := by
      unfold UF
      rw [f42, f43, upd_self, upd_self, en]
    have eV : VF w (ψ0 73) (ψ0 74) (u0 72) (sw (sw (sw (sw s 40 (10 * n + i) (f_X11_quotient (4 * s 39 (10 * n + i) - z.1) 32)) 41 (10 * n + i) y) 42 (10 * n + i) z.2.1) 43 (10 * n + i) z.2.2.1) (10 * n + i) = cV (ψ0 73 n) (ψ0 74 n) (u0 72 n) z.2.1 z.2.2.1 (miF w (10 * n + i)) := by
      unfold VF
      rw [f42, f43, upd_self, upd_self, en]
    rw [eU, eV] at key
    exact key
theorem comb_at {σ t u : Sg} {φ ψ : Fl} (hA : AT (f_X11_signal t) σ) (hk : SK t u) (h66 : σ 27 = u 66) (h34 : σ 34 = u 72) (h14 : σ 14 = u 62) (h62 : vp_in (u 62 2) 4) (h40 : σ 40 = u 75) (h41 : σ 41 = u 77) (hb : ∀ k, bndL (u 75 k)) (h36 : φ 36 = ψ 73) (h37 : φ 37 = ψ 74) (h45 : φ 45 = ψ 78) (h46 : φ 46 = ψ 79) (h47 : φ 47 = ψ 80) (h48 : φ 48 = ψ 81) {w : Int32} (hw : w = 0 ∨ w = 1) : (f_X3_separate σ w) 40 = (loopF (b_X11_decode_76 w) 8 (u, ψ)).1 75 ∧ (f_X3_separate σ w) 41 = (loopF (b_X11_decode_76 w) 8 (u, ψ)).1 77 ∧ (∀ k, bndL ((loopF (b_X11_decode_76 w) 8 (u, ψ)).1 75 k)) ∧ Kp [39, 40, 41, 42, 43] σ (f_X3_separate σ w) ∧ Kp [75, 77, 82] u (loopF (b_X11_decode_76 w) 8 (u, ψ)).1 ∧ ((f_X2_turn (f_X3_separate σ w) φ w) 45 = (loopF (b_X11_decode_76 w) 8 (u, ψ)).2 78 ∧ (f_X2_turn (f_X3_separate σ w) φ w) 46 = (loopF (b_X11_decode_76 w) 8 (u, ψ)).2 79 ∧ (f_X2_turn (f_X3_separate σ w) φ w) 47 = (loopF (b_X11_decode_76 w) 8 (u, ψ)).2 80 ∧ (f_X2_turn (f_X3_separate σ w) φ w) 48 = (loopF (b_X11_decode_76 w) 8 (u, ψ)).2 81) ∧ Kp [45, 46, 47, 48] φ (f_X2_turn (f_X3_separate σ w) φ w) ∧ Kp [78, 79, 80, 81] ψ (loopF (b_X11_decode_76 w) 8 (u, ψ)).2 := by
  obtain ⟨-, k39⟩ := sums_at (u := u) hA hk h66
  have es : f_X3_separate σ w = loopF (b_X3_separate_34 σ (if w = 1 then 0 else f_X8_comb σ)) 8 (f_X3_sumUp σ) := rfl
  have ev : (if w = 1 then 0 else f_X8_comb σ) = (if w = 1 then 0 else u 62 2) := by rw [← h14]; rfl
  have tr := turn_at (f_X3_separate σ w) φ w
  rw [es] at tr ⊢
  have key := two (B := b_X3_separate_34 σ (if w = 1 then 0 else f_X8_comb σ)) (B' := b_X11_decode_76 w) (N := 8) (I := f_X3_sumUp σ) (I' := (u, ψ)) (fun n s c => RCo w (f_X3_sumUp σ) u ψ (10 * n) s c) ⟨(k39 40 (by decide)).trans h40, (k39 41 (by decide)).trans h41, hb, Kp.rf _, Kp.rf _, CR_0 _ _ _ _ _ _ _ _⟩ (fun n s c hn hR => by
    obtain ⟨a, b⟩ := c
    rw [b_X3_separate_34_eq, b_X11_decode_76_eq]
    dsimp only
    have inn := two (B := b_X3_separate_44 σ (if w = 1 then 0 else f_X8_comb σ) n) (B' := b_X11_decode_85 w n) (N := 10) (I := s) (I' := (a, b)) (fun i s c => RCo w (f_X3_sumUp σ) u ψ (10 * n + i) s c) hR (fun i s c hi hJ => comb_step hA hk h66 h14 h62 hw ev hn hi hJ)
    rw [show 10 * (n + 1) = 10 * n + 10 by omega]
    exact inn)
  generalize loopF (b_X3_separate_34 σ (if w = 1 then 0 else f_X8_comb σ)) 8 (f_X3_sumUp σ) = s at key tr ⊢
  generalize loopF (b_X11_decode_76 w) 8 (u, ψ) = c at key ⊢
  obtain ⟨r1, r2, r3, r4, r5, r6⟩ := key
  have e34 : s 34 = u 72 := by rw [r4 34 (by decide), k39 34 (by decide), h34]
  rw [h36, h37, e34] at tr
  exact ⟨r1, r2, r3, (k39.up (by decide)).tr (r4.up (by decide)), r5, CR_eq tr r6 h45 h46 h47 h48, tr.2.2, r6.2.2⟩
end
