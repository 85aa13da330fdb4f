/-! what changes the picture, the text and the settings -/
theorem two {τ τ' : Type} {B : Nat → τ → τ} {B' : Nat → τ' → τ'} {N : Nat} {I : τ} {I' : τ'} (R : Nat → τ → τ' → Prop) (h0 : R 0 I I') (hs : ∀ j s s', j < N → R j s s' → R (j + 1) (B j s) (B' j s')) : R N (loopF B N I) (loopF B' N I') := by
  have key : ∀ n, n ≤ N → R n (loopF B n I) (loopF B' n I') := by
    intro n
    induction n with
    | zero => intro _; exact h0
    | succ n ih => intro h; exact hs n _ _ (by omega) (ih (by omega))
  exact key N (Nat.le_refl _)
theorem paint_st (σ : Sg) (p a b c : Int32) : (f_X7_paint σ p a b c).2 = sw (sw (sw σ 2 p.toNatClampNeg a) 3 p.toNatClampNeg b) 4 p.toNatClampNeg c := rfl
theorem put_st (t : Sg) (p a b c : Int32) : f_X11_put t p a b c = sw (sw (sw t 54 p.toNatClampNeg a) 55 p.toNatClampNeg b) 56 p.toNatClampNeg c := rfl
theorem kp_paint (σ : Sg) (p a b c : Int32) : Kp [2, 3, 4] σ (f_X7_paint σ p a b c).2 := ((Kp.sw (by decide) _ _ _).tr (Kp.sw (by decide) _ _ _)).tr (Kp.sw (by decide) _ _ _)
theorem kp_put (t : Sg) (p a b c : Int32) : Kp [54, 55, 56] t (f_X11_put t p a b c) := ((Kp.sw (by decide) _ _ _).tr (Kp.sw (by decide) _ _ _)).tr (Kp.sw (by decide) _ _ _)
theorem paint_2 (σ : Sg) (p a b c : Int32) : (f_X7_paint σ p a b c).2 2 = upd (σ 2) p.toNatClampNeg a ∧ (f_X7_paint σ p a b c).2 3 = upd (σ 3) p.toNatClampNeg b ∧ (f_X7_paint σ p a b c).2 4 = upd (σ 4) p.toNatClampNeg c := by
  rw [paint_st]
  refine ⟨?_, ?_, ?_⟩ <;> simp [sw_at]
theorem put_2 (t : Sg) (p a b c : Int32) : (f_X11_put t p a b c) 54 = upd (t 54) p.toNatClampNeg a ∧ (f_X11_put t p a b c) 55 = upd (t 55) p.toNatClampNeg b ∧ (f_X11_put t p a b c) 56 = upd (t 56) p.toNatClampNeg c := by
  rw [put_st]
  refine ⟨?_, ?_, ?_⟩ <;> simp [sw_at]
theorem bnd_upd {f : Nat → Int32} {lo hi : Int} (h : ∀ k, lo ≤ (f k).toInt ∧ (f k).toInt ≤ hi) {v : Int32} (hv : lo ≤ v.toInt ∧ v.toInt ≤ hi) (i : Nat) : ∀ k, lo ≤ (upd f i v k).toInt ∧ (upd f i v k).toInt ≤ hi := by
  intro k
  rw [upd_at]
  by_cases q : k = i
  · rw [if_pos q]; exact hv
  · rw [if_neg q]; exact h k
theorem in_bnd {x a b : Int32} (h : ¬ f_X11_in x a b = 0) : a.toInt ≤ x.toInt ∧ x.toInt ≤ b.toInt := by
  obtain ⟨h1, h2⟩ := in_ne.mp h
  rw [i32_le] at h1 h2
  exact ⟨h1, h2⟩
theorem color_bnd {a b c : Int32} (h : ¬ f_X11_isColor a b c = 0) : (0 ≤ a.toInt ∧ a.toInt ≤ 200) ∧ (-60 ≤ b.toInt ∧ b.toInt ≤ 60) ∧ (-60 ≤ c.toInt ∧ c.toInt ≤ 60) := by
  rw [f_X11_isColor_eq] at h
  dsimp only at h
  by_cases h1 : f_X11_in a 0 200 = 0
  · rw [if_pos h1] at h; exact absurd rfl h
  · rw [if_neg h1] at h
    by_cases h2 : f_X11_in b (-60) 60 = 0
    · rw [if_pos h2] at h; exact absurd rfl h
    · rw [if_neg h2] at h
      by_cases h3 : f_X11_in c (-60) 60 = 0
      · rw [if_pos h3] at h; exact absurd rfl h
      · exact ⟨in_bnd h1, in_bnd h2, in_bnd h3⟩
/-- one segment painted on both sides -/
def RQ (σ t : Sg) : Prop := σ 2 = t 54 ∧ σ 3 = t 55 ∧ σ 4 = t 56 ∧ (∀ k, 0 ≤ (t 54 k).toInt ∧ (t 54 k).toInt ≤ 200) ∧ (∀ k, -60 ≤ (t 55 k).toInt ∧ (t 55 k).toInt ≤ 60) ∧ (∀ k, -60 ≤ (t 56 k).toInt ∧ (t 56 k).toInt ≤ 60)
theorem RQ_paint {σ t : Sg} (h : RQ σ t) (p a b c : Int32) (hc : (0 ≤ a.toInt ∧ a.toInt ≤ 200) ∧ (-60 ≤ b.toInt ∧ b.toInt ≤ 60) ∧ (-60 ≤ c.toInt ∧ c.toInt ≤ 60)) : RQ (f_X7_paint σ p a b c).2 (f_X11_put t p a b c) := by
  obtain ⟨h1, h2, h3, h4, h5, h6⟩ := h
  obtain ⟨p1, p2, p3⟩ := paint_2 σ p a b c
  obtain ⟨q1, q2, q3⟩ := put_2 t p a b c
  unfold RQ
  rw [p1, p2, p3, q1, q2, q3, h1, h2, h3]
  exact ⟨rfl, rfl, rfl, bnd_upd h4 hc.1 _, bnd_upd h5 hc.2.1 _, bnd_upd h6 hc.2.2 _⟩
theorem Rel_RQ {m : Nat} {σ t : Sg} {φ ψ : Fl} (h : Rel m σ φ t ψ) : RQ σ t := ⟨h.1.1, h.1.2.1, h.1.2.2.1, h.2.1.1, h.2.1.2.1, h.2.1.2.2.1⟩
theorem Rel_Q {m : Nat} {σ t σ' t' : Sg} {φ ψ : Fl} (h : Rel m σ φ t ψ) (hq : RQ σ' t') (hk : ∀ k, ¬ k ∈ [2, 3, 4, 12] → ∀ i, ¬ (k = 10 ∧ i = 3) → σ' k i = σ k i) (ht : Kp [54, 55, 56, 64] t t') : Rel m σ' φ t' ψ := by
  have e : ∀ k, ¬ k ∈ [2, 3, 4, 12] → ¬ k = 10 → σ' k = σ k := fun k a b => funext fun i => hk k a i (fun q => b q.1)
  have e1 : σ' 10 1 = σ 10 1 := hk 10 (by decide) 1 (by decide)
  have f : ∀ k, ¬ k ∈ [54, 55, 56, 64] → t' k = t k := ht
  obtain ⟨h1, h2, h3, h4, h5, h6, h7⟩ := h
  obtain ⟨q1, q2, q3, q4, q5, q6⟩ := hq
  refine ⟨?_, ?_, ?_, ?_, ?_, ?_, h7⟩
  · unfold RP at *
    refine ⟨q1, q2, q3, ?_⟩
    simpa only [e 1 (by decide) (by decide), e 5 (by decide) (by decide), e 6 (by decide) (by decide), e 7 (by decide) (by decide), e 8 (by decide) (by decide), e 9 (by decide) (by decide), f 53 (by decide), f 57 (by decide), f 58 (by decide), f 59 (by decide), f 60 (by decide), f 61 (by decide)] using h1.2.2.2
  · unfold bndP at *
    refine ⟨q4, q5, q6, ?_⟩
    simpa only [f 58 (by decide), f 60 (by decide)] using h2.2.2.2
  · unfold RS at *
    simpa only [e 14 (by decide) (by decide), f 62 (by decide)] using h3
  · unfold RT at *
    simpa only [e1, e 11 (by decide) (by decide), f 63 (by decide), f 53 (by decide)] using h4
  · unfold RD at *
    simpa only [e 0 (by decide) (by decide), f 53 (by decide)] using h5
  · unfold RI at *
    have q : ∀ x, f_X11_motionAt t' x = f_X11_motionAt t x := motionAt_congr (f 83 (by decide))
    simpa only [q, e 26 (by decide) (by decide), e 27 (by decide) (by decide), e 28 (by decide) (by decide), e 29 (by decide) (by decide), e 30 (by decide) (by decide), e 31 (by decide) (by decide), e 32 (by decide) (by decide), e 33 (by decide) (by decide), e 34 (by decide) (by decide), e 40 (by decide) (by decide), e 41 (by decide) (by decide), e 50 (by decide) (by decide), e 52 (by decide) (by decide), f 53 (by decide), f 65 (by decide), f 66 (by decide), f 67 (by decide), f 68 (by decide), f 69 (by decide), f 70 (by decide), f 71 (by decide), f 72 (by decide), f 75 (by decide), f 77 (by decide)] using h6
theorem add01 {w : Int32} (hw : w = 0 ∨ w = 1) (a : Int32) : (if w = 0 then a else a + 1) = a + w := by
  rcases hw with rfl | rfl
  · rw [if_pos rfl, Int32.add_zero]
  · rw [if_neg (by decide)]
/-! setSegment -/
theorem ka_setSegment (σ : Sg) (x y a b c : Int32) : KA σ (f_X10_setSegment σ x y a b c).2 := by
  rw [f_X10_setSegment_eq]
  by_cases c1 : f_X10_isPlace x y = 0
  · rw [if_pos c1]; exact KA.rf _
  · rw [if_neg c1]
    by_cases c2 : f_X10_isPaint a b c = 0
    · rw [if_pos c2]; exact KA.rf _
    · rw [if_neg c2]; exact (kp_paint _ _ _ _ _).A (by decide)
theorem kb_setSegment (σ : Sg) (x y a b c : Int32) : KB σ (f_X11_setSegment σ x y a b c).2 := by
  rw [f_X11_setSegment_eq]
  by_cases c1 : f_X11_noSegment x y = 0
  · rw [if_pos c1]
    by_cases c2 : f_X11_isColor a b c = 0
    · rw [if_pos c2]; exact KB.rf _
    · rw [if_neg c2]; exact (kp_put _ _ _ _ _).B (by decide)
  · rw [if_neg c1]; exact KB.rf _
theorem q_setSegment {m : Nat} {σ t : Sg} {φ ψ : Fl} (h : Rel m σ φ t ψ) (x y a b c : Int32) : (f_X10_setSegment σ x y a b c).1 = (f_X11_setSegment t x y a b c).1 ∧ Rel m (f_X10_setSegment σ x y a b c).2 φ (f_X11_setSegment t x y a b c).2 ψ := by
  rw [f_X10_setSegment_eq, f_X11_setSegment_eq, pl_if, pm_eq, e_paint]
  by_cases c1 : f_X11_noSegment x y = 0
  · rw [if_pos c1, if_pos c1]
    by_cases c2 : f_X11_isColor a b c = 0
    · rw [if_pos c2, if_pos c2]; exact ⟨rfl, h⟩
    · rw [if_neg c2, if_neg c2]
      dsimp only
      refine ⟨by rw [h.1.1], Rel_Q h (RQ_paint (Rel_RQ h) _ _ _ _ (color_bnd c2)) (fun k hk i _ => ?_) ((kp_put _ _ _ _ _).up (by decide))⟩
      exact congrFun (((kp_paint σ (10 * x + y) a b c).up (L' := [2, 3, 4, 12]) (by decide)) k hk) i
  · rw [if_neg c1, if_neg c1]; exact ⟨rfl, h⟩
/-! fill -/
theorem kp_fill (σ : Sg) (x a b c : Int32) (n k : Nat) : Kp [2, 3, 4] σ (loopF (b_X10_fill_29 x a b c) n (nI k, σ)).2 := loopF_inv (N := n) (I := (nI k, σ)) (fun _ s => Kp [2, 3, 4] σ s.2) (Kp.rf _) (fun j s _ hs => hs.tr (kp_paint _ _ _ _ _))
theorem kp_fillM (σ : Sg) (x a b c : Int32) (n k : Nat) : Kp [54, 55, 56] σ (loopF (b_X11_fill_32 x a b c) n (nI k, σ)).2 := loopF_inv (N := n) (I := (nI k, σ)) (fun _ s => Kp [54, 55, 56] σ s.2) (Kp.rf _) (fun j s _ hs => hs.tr (kp_put _ _ _ _ _))
theorem ka_fill (σ : Sg) (x a b c : Int32) : KA σ (f_X10_fill σ x a b c).2 := by
  rw [f_X10_fill_eq]
  by_cases c1 : f_X10_isLine x = 0
  · rw [if_pos c1]; exact KA.rf _
  · rw [if_neg c1]
    by_cases c2 : f_X10_isPaint a b c = 0
    · rw [if_pos c2]; exact KA.rf _
    · rw [if_neg c2]; exact (kp_fill σ x a b c 10 0).A (by decide)
theorem kb_fill (σ : Sg) (x a b c : Int32) : KB σ (f_X11_fill σ x a b c).2 := by
  rw [f_X11_fill_eq]
  by_cases c1 : f_X11_noLine x = 0
  · rw [if_pos c1]
    by_cases c2 : f_X11_isColor a b c = 0
    · rw [if_pos c2]; exact KB.rf _
    · rw [if_neg c2]; exact (kp_fillM σ x a b c 10 0).B (by decide)
  · rw [if_neg c1]; exact KB.rf _
theorem q_fill {m : Nat} {σ t : Sg} {φ ψ : Fl} (h : Rel m σ φ t ψ) (x a b c : Int32) : (f_X10_fill σ x a b c).1 = (f_X11_fill t x a b c).1 ∧ Rel m (f_X10_fill σ x a b c).2 φ (f_X11_fill t x a b c).2 ψ := by
  rw [f_X10_fill_eq, f_X11_fill_eq, ln_if, e_paint]
  by_cases c1 : f_X11_noLine x = 0
  · rw [if_pos c1, if_pos c1]
    by_cases c2 : f_X11_isColor a b c = 0
    · rw [if_pos c2, if_pos c2]; exact ⟨rfl, h⟩
    · rw [if_neg c2, if_neg c2]
      dsimp only
      have key := two (B := b_X10_fill_29 x a b c) (B' := b_X11_fill_32 x a b c) (N := 10) (I := (0, σ)) (I' := (0, t)) (fun _ s s' => s.1 = s'.1 ∧ RQ s.2 s'.2) ⟨rfl, Rel_RQ h⟩ (by
        intro j s s' hj hR
        obtain ⟨r1, r2⟩ := hR
        rw [b_X10_fill_29_eq, b_X11_fill_32_eq, pm_eq]
        refine ⟨?_, RQ_paint r2 _ _ _ _ (color_bnd c2)⟩
        dsimp only
        rw [f_X7_paint_eq]
        dsimp only
        rw [r2.1, r2.2.1, r2.2.2.1, r1]
        have hw : (if s'.2 54 (10 * x + nI j).toNatClampNeg = a then if s'.2 55 (10 * x + nI j).toNatClampNeg = b then if s'.2 56 (10 * x + nI j).toNatClampNeg = c then (0 : Int32) else 1 else 1 else 1) = 0 ∨ (if s'.2 54 (10 * x + nI j).toNatClampNeg = a then if s'.2 55 (10 * x + nI j).toNatClampNeg = b then if s'.2 56 (10 * x + nI j).toNatClampNeg = c then (0 : Int32) else 1 else 1 else 1) = 1 := zo_ite (zo_ite (zo_ite (.inl rfl) (.inr rfl)) (.inr rfl)) (.inr rfl)
        generalize (if s'.2 54 (10 * x + nI j).toNatClampNeg = a then if s'.2 55 (10 * x + nI j).toNatClampNeg = b then if s'.2 56 (10 * x + nI j).toNatClampNeg = c then (0 : Int32) else 1 else 1 else 1) = w at hw ⊢
        exact add01 hw _)
      refine ⟨key.1, Rel_Q h key.2 (fun k hk i _ => ?_) ((kp_fillM t x a b c 10 0).up (by decide))⟩
      exact congrFun (((kp_fill σ x a b c 10 0).up (L' := [2, 3, 4, 12]) (by decide)) k hk) i
  · rw [if_neg c1, if_neg c1]; exact ⟨rfl, h⟩
/-! setLine, miss, setStandard -/
def PL : List Nat := [5, 6, 7, 8, 9]
def ML : List Nat := [57, 58, 59, 60, 61]
theorem Rel_L {m : Nat} {σ t σ' t' : Sg} {φ ψ : Fl} (h : Rel m σ φ t ψ) (hk : Kp [5, 6, 7, 8, 9] σ σ') (ht : Kp [57, 58, 59, 60, 61] t t') (h5 : σ' 5 = t' 57) (h6 : σ' 6 = t' 58) (h7 : σ' 7 = t' 59) (h8 : σ' 8 = t' 60) (h9 : σ' 9 = t' 61) (b5 : (∀ k, 0 ≤ (t' 58 k).toInt ∧ (t' 58 k).toInt ≤ 40) ∧ (∀ k, 0 ≤ (t' 60 k).toInt ∧ (t' 60 k).toInt ≤ 9)) : Rel m σ' φ t' ψ := by
  have e : ∀ k, ¬ k ∈ [5, 6, 7, 8, 9] → σ' k = σ k := hk
  have f : ∀ k, ¬ k ∈ [57, 58, 59, 60, 61] → t' k = t k := ht
  obtain ⟨h1, h2, h3, h4, hD, hI, hF⟩ := h
  refine ⟨?_, ?_, ?_, ?_, ?_, ?_, hF⟩
  · unfold RP at *
    rw [e 1 (by decide), e 2 (by decide), e 3 (by decide), e 4 (by decide), f 53 (by decide), f 54 (by decide), f 55 (by decide), f 56 (by decide)]
    exact ⟨h1.1, h1.2.1, h1.2.2.1, h5, h6, h7, h8, h9, h1.2.2.2.2.2.2.2.2⟩
  · unfold bndP at *
    rw [f 54 (by decide), f 55 (by decide), f 56 (by decide)]
    exact ⟨h2.1, h2.2.1, h2.2.2.1, b5⟩
  · unfold RS at *
    simpa only [e 14 (by decide), f 62 (by decide)] using h3
  · unfold RT at *
    simpa only [e 10 (by decide), e 11 (by decide), f 63 (by decide), f 53 (by decide)] using h4
  · unfold RD at *
    simpa only [e 0 (by decide), f 53 (by decide)] using hD
  · unfold RI at *
    have q : ∀ x, f_X11_motionAt t' x = f_X11_motionAt t x := motionAt_congr (f 83 (by decide))
    simpa only [q, e 26 (by decide), e 27 (by decide), e 28 (by decide), e 29 (by decide), e 30 (by decide), e 31 (by decide), e 32 (by decide), e 33 (by decide), e 34 (by decide), e 40 (by decide), e 41 (by decide), e 50 (by decide), e 52 (by decide), f 53 (by decide), f 65 (by decide), f 66 (by decide), f 67 (by decide), f 68 (by decide), f 69 (by decide), f 70 (by decide), f 71 (by decide), f 72 (by decide), f 75 (by decide), f 77 (by decide)] using hI
theorem kp_l5 (σ : Sg) (i : Nat) (a b c d e : Int32) : Kp [5, 6, 7, 8, 9] σ (sw (sw (sw (sw (sw σ 5 i a) 6 i b) 7 i c) 8 i d) 9 i e) := ((((Kp.sw (by decide) _ _ _).tr (Kp.sw (by decide) _ _ _)).tr (Kp.sw (by decide) _ _ _)).tr (Kp.sw (by decide) _ _ _)).tr (Kp.sw (by decide) _ _ _)
theorem kp_m5 (σ : Sg) (i : Nat) (a b c d e : Int32) : Kp [57, 58, 59, 60, 61] σ (sw (sw (sw (sw (sw σ 57 i a) 58 i b) 59 i c) 60 i d) 61 i e) := ((((Kp.sw (by decide) _ _ _).tr (Kp.sw (by decide) _ _ _)).tr (Kp.sw (by decide) _ _ _)).tr (Kp.sw (by decide) _ _ _)).tr (Kp.sw (by decide) _ _ _)
theorem ka_setLine (σ : Sg) (x a b c d : Int32) : KA σ (f_X10_setLine σ x a b c d).2 := by
  rw [f_X10_setLine_eq]
  by_cases c1 : f_X10_isLine x = 0
  · rw [if_pos c1]; exact KA.rf _
  · rw [if_neg c1]
    by_cases c2 : f_X10_isWithin a (-4) 4 = 0
    · rw [if_pos c2]; exact KA.rf _
    · rw [if_neg c2]
      by_cases c3 : f_X10_isWithin b 0 40 = 0
      · rw [if_pos c3]; exact KA.rf _
      · rw [if_neg c3]
        by_cases c4 : f_X10_isWithin c 0 3 = 0
        · rw [if_pos c4]; exact KA.rf _
        · rw [if_neg c4]
          by_cases c5 : f_X10_isWithin d 0 9 = 0
          · rw [if_pos c5]; exact KA.rf _
          · rw [if_neg c5]; exact (kp_l5 _ _ _ _ _ _ _).A (by decide)
theorem kb_setLine (σ : Sg) (x a b c d : Int32) : KB σ (f_X11_setLine σ x a b c d).2 := by
  rw [f_X11_setLine_eq]
  by_cases c1 : f_X11_noLine x = 0
  · rw [if_pos c1]
    by_cases c2 : f_X11_in a (-4) 4 = 0
    · rw [if_pos c2]; exact KB.rf _
    · rw [if_neg c2]
      by_cases c3 : f_X11_in b 0 40 = 0
      · rw [if_pos c3]; exact KB.rf _
      · rw [if_neg c3]
        by_cases c4 : f_X11_in c 0 3 = 0
        · rw [if_pos c4]; exact KB.rf _
        · rw [if_neg c4]
          by_cases c5 : f_X11_in d 0 9 = 0
          · rw [if_pos c5]; exact KB.rf _
          · rw [if_neg c5]; exact (kp_m5 _ _ _ _ _ _ _).B (by decide)
  · rw [if_neg c1]; exact KB.rf _
theorem q_setLine {m : Nat} {σ t : Sg} {φ ψ : Fl} (h : Rel m σ φ t ψ) (x a b c d : Int32) : (f_X10_setLine σ x a b c d).1 = (f_X11_setLine t x a b c d).1 ∧ Rel m (f_X10_setLine σ x a b c d).2 φ (f_X11_setLine t x a b c d).2 ψ := by
  rw [f_X10_setLine_eq, f_X11_setLine_eq, ln_if, e_in]
  by_cases c1 : f_X11_noLine x = 0
  · rw [if_pos c1, if_pos c1]
    by_cases c2 : f_X11_in a (-4) 4 = 0
    · rw [if_pos c2, if_pos c2]; exact ⟨rfl, h⟩
    · rw [if_neg c2, if_neg c2]
      by_cases c3 : f_X11_in b 0 40 = 0
      · rw [if_pos c3, if_pos c3]; exact ⟨rfl, h⟩
      · rw [if_neg c3, if_neg c3]
        by_cases c4 : f_X11_in c 0 3 = 0
        · rw [if_pos c4, if_pos c4]; exact ⟨rfl, h⟩
        · rw [if_neg c4, if_neg c4]
          by_cases c5 : f_X11_in d 0 9 = 0
          · rw [if_pos c5, if_pos c5]; exact ⟨rfl, h⟩
          · rw [if_neg c5, if_neg c5]
            obtain ⟨-, -, -, h5, h6, h7, h8, h9, -⟩ := h.1
            refine ⟨by dsimp only; rw [h5], Rel_L h (kp_l5 _ _ _ _ _ _ _) (kp_m5 _ _ _ _ _ _ _) ?_ ?_ ?_ ?_ ?_ ⟨?_, ?_⟩⟩
            · simp [sw_at, h5]
            · simp [sw_at, h6]
            · simp [sw_at, h7]
            · simp [sw_at, h8]
            · simp [sw_at, h9]
            · have := bnd_upd h.2.1.2.2.2.1 (in_bnd c3) x.toNatClampNeg
              simpa [sw_at] using this
            · have := bnd_upd h.2.1.2.2.2.2 (in_bnd c5) x.toNatClampNeg
              simpa [sw_at] using this
  · rw [if_neg c1, if_neg c1]; exact ⟨rfl, h⟩
theorem ka_miss (σ : Sg) (x a : Int32) : KA σ (f_X10_miss σ x a).2 := by
  rw [f_X10_miss_eq]
  by_cases c1 : f_X10_isLine x = 0
  · rw [if_pos c1]; exact KA.rf _
  · rw [if_neg c1]; exact (Kp.sw (L := [9]) (by decide) _ _ _).A (by decide)
theorem kb_miss (σ : Sg) (x a : Int32) : KB σ (f_X11_miss σ x a).2 := by
  rw [f_X11_miss_eq]
  by_cases c1 : f_X11_noLine x = 0
  · rw [if_pos c1]; exact (Kp.sw (L := [61]) (by decide) _ _ _).B (by decide)
  · rw [if_neg c1]; exact KB.rf _
theorem q_miss {m : Nat} {σ t : Sg} {φ ψ : Fl} (h : Rel m σ φ t ψ) (x a : Int32) : (f_X10_miss σ x a).1 = (f_X11_miss t x a).1 ∧ Rel m (f_X10_miss σ x a).2 φ (f_X11_miss t x a).2 ψ := by
  rw [f_X10_miss_eq, f_X11_miss_eq, ln_if]
  by_cases c1 : f_X11_noLine x = 0
  · rw [if_pos c1, if_pos c1]
    obtain ⟨-, -, -, h5, h6, h7, h8, h9, -⟩ := h.1
    refine ⟨by dsimp only; rw [h9]; rfl, Rel_L h (Kp.sw (by decide) _ _ _) (Kp.sw (by decide) _ _ _) ?_ ?_ ?_ ?_ ?_ ⟨?_, ?_⟩⟩
    · simp [sw_at, h5]
    · simp [sw_at, h6]
    · simp [sw_at, h7]
    · simp [sw_at, h8]
    · simp [sw_at, h9]
    · simpa [sw_at] using h.2.1.2.2.2.1
    · simpa [sw_at] using h.2.1.2.2.2.2
  · rw [if_neg c1, if_neg c1]; exact ⟨rfl, h⟩
