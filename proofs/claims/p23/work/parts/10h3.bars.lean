/-! bars hold -/
theorem sum_eq (x : Int32) {c d : Int32} {u : Sg} (h : (f_X10_readBars u x).1 = c) (e : c = d) : (f_X10_readBars u x).1 = d := h.trans e
theorem bars_mid {σ17 : Sg} {x : Int32} (hx : vp_in x 8) {m : Nat} (hm : m < 9) (h17 : Tx σ17 3 (tY m)) {q c : Int32} (hq : q = nI (9 - m)) (hc : c = nI (57 - m)) : ∃ v20 σ21, (if q ≤ 1 then (3 : Int32) else 4) = v20 ∧ (if q ≤ 1 then σ17 else (f_X10_type σ17 c).2) = σ21 ∧ BK σ17 σ21 ∧ (f_X10_readBars σ21 x).1 = 2 ∧ (f_X10_readBars (f_X10_type (f_X10_readBars σ21 x).2 98).2 x).1 = (-100) - v20 := by
  have l98 : (98 : Int32) = nI 98 := by decide +kernel
  by_cases k : m = 8
  · subst k
    have cq : q ≤ 1 := by rw [hq]; decide
    refine ⟨3, σ17, if_pos cq, if_pos cq, BK.rf _, ?_, ?_⟩
    · rw [read_ok hx (ps_Y h17).1, (ps_Y h17).2]; rfl
    · have T : Tx (f_X10_type (f_X10_readBars σ17 x).2 98).2 4 (upd (tY 8) 3 98) := tx_type (tx_read h17 x) (by decide) l98 (by decide)
      exact (read_bad hx (ps_Yb T) (by decide)).trans (by decide)
  · have hm8 : m < 8 := by omega
    have cq : ¬ q ≤ 1 := by rw [hq]; exact nI_ge (a := 1) (b := 9 - m) (by omega) (by omega)
    have T4 : Tx (f_X10_type σ17 c).2 4 (tZ m) := by
      rw [hc]; exact tx_type h17 (by decide) rfl (by omega)
    refine ⟨4, (f_X10_type σ17 c).2, if_neg cq, if_neg cq, bk_type _ _, ?_, ?_⟩
    · rw [read_ok hx (ps_Z hm8 T4).1, (ps_Z hm8 T4).2]; rfl
    · have T : Tx (f_X10_type (f_X10_readBars (f_X10_type σ17 c).2 x).2 98).2 5 (upd (tZ m) 4 98) := tx_type (tx_read T4 x) (by decide) l98 (by decide)
      exact (read_bad hx (ps_Zb hm8 T) (by decide)).trans (by decide)
theorem bars_1 (σ : Sg) {x : Int32} (hx : vp_in x 8) (y w : Int32) : ∃ t, f_L_bars σ x y w = (1, t) ∧ BK σ t ∧ t 10 1 = nI 1 := by
  obtain ⟨m, hm, lo9⟩ := low_at y (n := 9) (by decide) (by decide)
  have lo : f_L_low y 9 = nI m := lo9
  have l48 : (48 : Int32) = nI 48 := by decide +kernel
  have l58 : (58 : Int32) = nI 58 := by decide +kernel
  have l10 : (10 : Int32) = nI 10 := by decide +kernel
  have l1 : (1 : Int32) = nI 1 := by decide +kernel
  have e1 : 1 + f_L_low y 9 = nI (1 + m) := by rw [lo, l1, nI_add]
  have ec : ((48 + (1 + f_L_low y 9)).toUInt32 % 65536).toInt32 = nI (49 + m) := by
    rw [e1, l48, nI_add, show 48 + (1 + m) = 49 + m by omega]; exact ch_nI (by omega)
  have ed : ((58 - (1 + f_L_low y 9)).toUInt32 % 65536).toInt32 = nI (57 - m) := by
    rw [e1, l58, pk_sub (by omega), show 58 - (1 + m) = 57 - m by omega]; exact ch_nI (by omega)
  have eq9 : 10 - (1 + f_L_low y 9) = nI (9 - m) := by
    rw [e1, l10, pk_sub (by omega), show 10 - (1 + m) = 9 - m by omega]
  have c13 : ¬ 10 ≤ 1 + f_L_low y 9 := by rw [e1]; exact nI_ge (b := 10) (by omega) (by decide)
  obtain ⟨σ2, e2⟩ : ∃ z, (f_X10_clearText σ).2 = z := ⟨_, rfl⟩
  have T2 : Tx σ2 0 t0 := e2 ▸ tx_clear σ t0
  have B2 : BK σ σ2 := e2 ▸ bk_clear σ
  obtain ⟨σ4, e4⟩ : ∃ z, (f_X10_readBars σ2 x).2 = z := ⟨_, rfl⟩
  have T4 : Tx σ4 0 t0 := e4 ▸ tx_read T2 x
  have B4 : BK σ σ4 := B2.tr (e4 ▸ bk_read σ2 x)
  have c0 : (f_X10_readBars σ2 x).1 = -100 := (read_bad hx (ps_0 T2) (by decide)).trans (by decide)
  have r8 := read_8 σ4
  have e6 : (f_X10_readBars σ4 8).2 = σ4 := by rw [r8]
  have c1 : (f_X10_readBars σ4 8).1 = -100001 := by rw [r8]
  obtain ⟨σ8, e8⟩ : ∃ z, (f_X10_type σ4 114).2 = z := ⟨_, rfl⟩
  have T8 : Tx σ8 1 (upd t0 0 114) := e8 ▸ tx_type T4 (by decide) (show (114 : Int32) = nI 114 by decide +kernel) (by decide)
  have B8 : BK σ σ8 := B4.tr (e8 ▸ bk_type σ4 114)
  obtain ⟨σ10, e10⟩ : ∃ z, (f_X10_type σ8 (((48 + (1 + (f_L_low y 9))).toUInt32 % 65536).toInt32)).2 = z := ⟨_, rfl⟩
  have T10 : Tx σ10 2 (tR m) := by
    rw [← e10, ec]; exact tx_type T8 (by decide) rfl (by omega)
  have B10 : BK σ σ10 := B8.tr (e10 ▸ bk_type σ8 _)
  have c11 : (f_X10_readBars σ10 x).1 = -102 := (read_bad hx (ps_R hm T10) (by decide)).trans (by decide)
  obtain ⟨σ14, e14⟩ : ∃ z, (f_X10_readBars σ10 x).2 = z := ⟨_, rfl⟩
  have T14 : Tx σ14 2 (tR m) := e14 ▸ tx_read T10 x
  have B14 : BK σ σ14 := B10.tr (e14 ▸ bk_read σ10 x)
  obtain ⟨σ17, e17⟩ : ∃ z, (f_X10_type σ14 121).2 = z := ⟨_, rfl⟩
  have T17 : Tx σ17 3 (tY m) := e17 ▸ tx_type T14 (by decide) (show (121 : Int32) = nI 121 by decide +kernel) (by decide)
  have B17 : BK σ σ17 := B14.tr (e17 ▸ bk_type σ14 121)
  obtain ⟨v20, σ21, h20, h21, B21', c3, c27⟩ := bars_mid hx hm T17 eq9 ed
  have B21 : BK σ σ21 := B17.tr B21'
  obtain ⟨σ24, e24⟩ : ∃ z, (f_X10_readBars σ21 x).2 = z := ⟨_, rfl⟩
  have B24 : BK σ σ24 := B21.tr (e24 ▸ bk_read σ21 x)
  rw [e24] at c27
  obtain ⟨σ26, e26⟩ : ∃ z, (f_X10_type σ24 98).2 = z := ⟨_, rfl⟩
  have B26 : BK σ σ26 := B24.tr (e26 ▸ bk_type σ24 98)
  rw [e26] at c27
  obtain ⟨σ28, e28⟩ : ∃ z, (f_X10_readBars σ26 x).2 = z := ⟨_, rfl⟩
  have B28 : BK σ σ28 := B26.tr (e28 ▸ bk_read σ26 x)
  obtain ⟨σ32, e32⟩ : ∃ z, (f_X10_clearText σ28).2 = z := ⟨_, rfl⟩
  have T32 : Tx σ32 0 t0 := e32 ▸ tx_clear σ28 t0
  have B32 : BK σ σ32 := B28.tr (e32 ▸ bk_clear σ28)
  obtain ⟨σ34, e34⟩ : ∃ z, (f_X10_type σ32 107).2 = z := ⟨_, rfl⟩
  have T34 : Tx σ34 1 (upd t0 0 107) := e34 ▸ tx_type T32 (by decide) (show (107 : Int32) = nI 107 by decide +kernel) (by decide)
  have B34 : BK σ σ34 := B32.tr (e34 ▸ bk_type σ32 107)
  obtain ⟨σ36, e36⟩ : ∃ z, (f_X10_type σ34 53).2 = z := ⟨_, rfl⟩
  have T36 : Tx σ36 2 (upd (upd t0 0 107) 1 53) := e36 ▸ tx_type T34 (by decide) (show (53 : Int32) = nI 53 by decide +kernel) (by decide)
  have B36 : BK σ σ36 := B34.tr (e36 ▸ bk_type σ34 53)
  obtain ⟨σ38, e38⟩ : ∃ z, (f_X10_type σ36 109).2 = z := ⟨_, rfl⟩
  have T38 : Tx σ38 3 (upd (upd (upd t0 0 107) 1 53) 2 109) := e38 ▸ tx_type T36 (by decide) (show (109 : Int32) = nI 109 by decide +kernel) (by decide)
  have B38 : BK σ σ38 := B36.tr (e38 ▸ bk_type σ36 109)
  obtain ⟨σ40, e40⟩ : ∃ z, (f_X10_type σ38 54).2 = z := ⟨_, rfl⟩
  have T40 : Tx σ40 4 (upd (upd (upd (upd t0 0 107) 1 53) 2 109) 3 54) := e40 ▸ tx_type T38 (by decide) (show (54 : Int32) = nI 54 by decide +kernel) (by decide)
  have B40 : BK σ σ40 := B38.tr (e40 ▸ bk_type σ38 54)
  have c41 : (f_X10_readBars σ40 x).1 = -103 := (read_bad hx (ps_K T40) (by decide)).trans (by decide)
  obtain ⟨σ42, e42⟩ : ∃ z, (f_X10_readBars σ40 x).2 = z := ⟨_, rfl⟩
  have B42 : BK σ σ42 := B40.tr (e42 ▸ bk_read σ40 x)
  obtain ⟨σ46, e46⟩ : ∃ z, (f_X10_clearText σ42).2 = z := ⟨_, rfl⟩
  have T46 : Tx σ46 0 t0 := e46 ▸ tx_clear σ42 t0
  have B46 : BK σ σ46 := B42.tr (e46 ▸ bk_clear σ42)
  obtain ⟨v47, q47, e47, hq47, b47⟩ : ∃ (v47 : Int32) (q47 : Nat), (if (w &&& 1) = 0 then (51 : Int32) else 120) = v47 ∧ (v47 = nI q47 ∧ q47 < 65536) ∧ f_X0_barOf v47 = -1 := by
    by_cases k : (w &&& 1) = 0
    · exact ⟨51, 51, if_pos k, ⟨by decide +kernel, by decide⟩, let_at.2.2.2.2.2.1⟩
    · exact ⟨120, 120, if_neg k, ⟨by decide +kernel, by decide⟩, let_at.2.2.2.2.2.2⟩
  obtain ⟨σ50, e50⟩ : ∃ z, (f_X10_type σ46 v47).2 = z := ⟨_, rfl⟩
  have T50 : Tx σ50 1 (upd t0 0 v47) := e50 ▸ tx_type T46 (by decide) hq47.1 hq47.2
  have B50 : BK σ σ50 := B46.tr (e50 ▸ bk_type σ46 v47)
  have c51 : (f_X10_readBars σ50 x).1 = -100 := (read_bad hx (ps_X b47 T50) (by decide)).trans (by decide)
  obtain ⟨σ52, e52⟩ : ∃ z, (f_X10_readBars σ50 x).2 = z := ⟨_, rfl⟩
  have T52 : Tx σ52 1 (upd t0 0 v47) := e52 ▸ tx_read T50 x
  have B52 : BK σ σ52 := B50.tr (e52 ▸ bk_read σ50 x)
  have c14 : f_X10_count (f_X10_readBars σ50 x).2 14 = 1 := by rw [e52, cn_14]; exact T52.1.trans l1.symm
  have n1 : ¬ (1 : Int32) = 0 := by decide
  refine ⟨σ52, ?_, B52, T52.1⟩
  exact bars_go (v13 := 1) (v29 := 1) (v43 := 1) (v53 := 1) (σ54 := σ52) rfl e2 c0 e4 c1 e6 rfl e8 rfl e10
    ((if_neg c13).trans (if_pos c11)) ((if_neg c13).trans ((if_pos c11).trans e14)) rfl e17 h20 h21 c3 e24 rfl e26 c27 e28 (if_pos rfl) rfl e32 rfl e34 rfl e36 rfl e38 rfl e40 c41 e42 (if_pos rfl) rfl e46 e47 rfl e50
    ((if_neg n1).trans ((if_neg n1).trans ((if_pos c51).trans (if_pos c14)))) ((if_neg n1).trans ((if_neg n1).trans ((if_pos c51).trans ((if_pos c14).trans e52)))) rfl rfl n1 rfl
