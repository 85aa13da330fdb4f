/-! the lines hold -/
set_option maxHeartbeats 4000000 in
theorem lines_step {τ : Sg} {thr : Int32} {H M : Nat → Int32} (h : LnS τ thr) (hF : ∀ n, n < 8 → FindAt (f_L_at τ) n (τ 26 n) (τ 27 n) (τ 28 n) (τ 29 n) (posA (τ 28) n) (lckA (τ 29) n) (H n) (M n) (H (n + 1)) (M (n + 1))) (j : Nat) (s : Int32 × Int32 × Int32 × Int32 × Int32 × Int32 × Int32 × Int32 × Int32 × Int32 × Int32) (hj : j < 8) (hI : LInv τ thr H M j s) : ∃ s', b_L_lines_35 τ j s = .inr s' ∧ LInv τ thr H M (j + 1) s' := by
  obtain ⟨k, hk, epos⟩ := h.pos (j + 1) (by omega)
  obtain ⟨-, h29, hB, hG, hC, h34, hP, hthr, hdec, hPR⟩ := h
  obtain ⟨wh, hi, mi, lo, go, ba, co, ma, cl, tu, st⟩ := s
  obtain ⟨i1, i2, i3, i4, ⟨G, B, hG8, hB8, i5, i6, i7, i8⟩, i9, i10, i11, i12⟩ := hI
  dsimp only at i1 i2 i3 i4 i5 i6 i7 i8 i9 i10 i11 i12
  subst i1 i2 i3 i4 i5 i6 i9 i10 i11
  obtain ⟨f1, f2, f3, f4, f5, f6⟩ := hF j hj
  have hd : ¬ τ 0 10 = 0 := fun q => by rw [q] at hdec; exact absurd hdec (by decide)
  have hpq := found_both f1 (found_law τ j)
  have hbq : ∀ n, n < 8 → bd (τ 31 n) 4000 ∧ bd (τ 32 n) 4000 := fun n hn => by
    have b := burst_bd (S := f_L_at τ) (n := n) (fun y => lat_bd hPR (vp_in_nI hn (by decide)) y) (τ 27 n + 8)
    rw [← hB n hn] at b
    exact b
  have hl : lckA (τ 29) j = 0 ∨ lckA (τ 29) j = 1 := by
    rcases j with _ | i
    · exact .inl rfl
    · exact h29 i (by omega)
  have hg : τ 33 j = 0 ∨ τ 33 j = 1 := by rw [hG j hj]; exact zo_ite (.inl rfl) (.inr rfl)
  generalize hq : loopF (b_L_lines_50 τ j) 21 (-100004) = q at hpq
  have e7 := near_v7 (pos := posA (τ 28) j) hpq
  have e10 := (near_v10 (pos := posA (τ 28) j) (lck := lckA (τ 29) j) hpq).trans f2.symm
  have e12 := (near_v12 (τ 26 j) (posA (τ 28) j) (H j)).trans f3.symm
  have e14 := (near_v14 (τ 26 j) (posA (τ 28) j) (M j)).trans f4.symm
  have e16 := (lock_v16 (h := H (j + 1)) (m := M (j + 1)) hl).trans f5.symm
  have e21 := (start_v21 (lck := τ 29 j) (show τ 28 j = nI k from epos) hk hpq).trans f6.symm
  have e23 : loopF (b_L_lines_307 τ j (τ 27 j)) (cnt8 (τ 27 j + 8)) (0, 0) = (τ 31 j, τ 32 j) := (hB j hj).symm
  have e26 : (if f_L_size (τ 31 j, τ 32 j).1 + f_L_size (τ 31 j, τ 32 j).2 < 4 * f_X10_count τ 15 then (0 : Int32) else 1) = τ 33 j := by
    rw [show f_L_size = i_abs from funext size_abs, cn_15, hthr]
    exact (hG j hj).symm
  have e32 : (if 2 ≤ (if τ 33 j = 0 then nI B + 1 else 0) then (0 : Int32) else (if posO (τ 34) j = 0 then (if (if τ 33 j = 0 then 0 else nI G + 1) ≤ 1 then 0 else 1) else 1)) = τ 34 j := by
    rw [hC j hj]
    rcases j with _ | i
    · obtain ⟨rfl, rfl⟩ := i8 rfl
      exact col_law0 hg
    · obtain ⟨z0, z1⟩ := i7 (by omega)
      have hp : τ 33 i = 0 ∨ τ 33 i = 1 := by rw [hG i (by omega)]; exact zo_ite (.inl rfl) (.inr rfl)
      exact col_law (h34 i (by omega)) hg hp (by omega) (by omega) z0 z1
  have c0 : f_X10_line τ (nI j) 0 = q := by
    rw [ln_0 hj hd]
    rcases hpq with ⟨a, b⟩ | ⟨i, hi, a, b⟩
    · rw [if_pos a, b]
    · rw [a, if_neg (nI_nm1 (by omega)), b]
  -- the pairs
  have hpair : ∃ v52 v53, (v52, v53) = loopF (pst (τ 33) (τ 32) thr) j (0, 0) ∧ ((if (nI j) ≤ 0 then tu else (if τ 33 j = 0 then tu else (if (f_X10_line τ ((nI j) - 1) 5) = 1 then (let v43 : Int32 := f_X10_line τ ((nI j) - 1) 4; let v44 : Int32 := (if 0 ≤ τ 32 j then (if τ 32 j ≤ 0 then 0 else (if 0 ≤ v43 then 0 else (if (f_L_size (τ 32 j)) < (f_X10_count τ 15) then 0 else (if (f_L_size v43) < (f_X10_count τ 15) then 0 else 1)))) else (if 0 < v43 then (if (f_L_size (τ 32 j)) < (f_X10_count τ 15) then 0 else (if (f_L_size v43) < (f_X10_count τ 15) then 0 else 1)) else (if τ 32 j ≤ 0 then 0 else (if 0 ≤ v43 then 0 else (if (f_L_size (τ 32 j)) < (f_X10_count τ 15) then 0 else (if (f_L_size v43) < (f_X10_count τ 15) then 0 else 1)))))); let v46 : Int32 := (if v44 = 0 then 0 else 1); let v48 : Int32 := tu + v46; v48) else tu))) = v52) ∧ ((if (nI j) ≤ 0 then st else (if τ 33 j = 0 then st else (if (f_X10_line τ ((nI j) - 1) 5) = 1 then (let v43 : Int32 := f_X10_line τ ((nI j) - 1) 4; let v44 : Int32 := (if 0 ≤ τ 32 j then (if τ 32 j ≤ 0 then 0 else (if 0 ≤ v43 then 0 else (if (f_L_size (τ 32 j)) < (f_X10_count τ 15) then 0 else (if (f_L_size v43) < (f_X10_count τ 15) then 0 else 1)))) else (if 0 < v43 then (if (f_L_size (τ 32 j)) < (f_X10_count τ 15) then 0 else (if (f_L_size v43) < (f_X10_count τ 15) then 0 else 1)) else (if τ 32 j ≤ 0 then 0 else (if 0 ≤ v43 then 0 else (if (f_L_size (τ 32 j)) < (f_X10_count τ 15) then 0 else (if (f_L_size v43) < (f_X10_count τ 15) then 0 else 1)))))); let v49 : Int32 := (if v44 = 0 then 1 else 0); let v51 : Int32 := st + v49; v51) else st))) = v53) := by
    rcases j with _ | i
    · refine ⟨tu, st, i12, if_pos (by decide), if_pos (by decide)⟩
    · have e := pair_law (τ := τ) (thr := thr) hj hd hthr (fun n hn => (hbq n hn).2) tu st
      rw [i12] at e
      have e2 := Prod.mk.inj e
      exact ⟨_, _, rfl, e2.1, e2.2⟩
  obtain ⟨v52, v53, hp1, e52, e53⟩ := hpair
  refine ⟨_, lines_go (σ := τ) (j1 := j) (s1 := (posA (τ 28) j, H j, M j, lckA (τ 29) j, nI G, nI B, posO (τ 34) j, loopF (b_X10_tally_29_10 τ) j 0, loopF (b_X10_tally_34_10 τ) j 0, tu, st)) (ht2 := hq) (hv7 := e7) (hv10 := e10) (hv12 := e12) (hv14 := e14) (hv16 := e16) (hv18 := rfl) (hv20 := rfl) (hv21 := e21) (ht23 := e23) (hv26 := e26) (hv28 := rfl) (hv30 := rfl) (hv32 := e32) (hv34 := rfl) (hv36 := rfl) (c0 := c0) (c1 := ln_1 hj hd) (c2 := ln_2 hj hd) (c3 := ln_3 hj hd) (c4 := ln_4 hj hd) (c5 := ln_5 hj hd) (c6 := ln_6 hj hd) (c7 := ln_7 hj hd) (c8 := ln_8 hj) (hv52 := e52) (hv53 := e53), ?_⟩
  refine ⟨rfl, rfl, rfl, rfl, ⟨if τ 33 j = 0 then 0 else G + 1, if τ 33 j = 0 then B + 1 else 0, ?_, ?_, ?_, ?_, fun _ => ?_, fun q => absurd q (by omega)⟩, rfl, ?_, ?_, hp1⟩
  · split <;> omega
  · split <;> omega
  · dsimp only; rw [nI_1]; split <;> rfl
  · dsimp only; rw [nI_1]; split <;> rfl
  · rw [show j + 1 - 1 = j by omega]
    exact ⟨fun q => by rw [if_pos q, if_pos q]; exact ⟨rfl, by omega⟩, fun q => by rw [if_neg q, if_neg q]; exact ⟨rfl, by omega⟩⟩
  · show _ = b_X10_tally_29_10 τ j (loopF (b_X10_tally_29_10 τ) j 0)
    rw [b_X10_tally_29_10_eq, nI_clamp (by omega)]
    rfl
  · show _ = b_X10_tally_34_10 τ j (loopF (b_X10_tally_34_10 τ) j 0)
    rw [b_X10_tally_34_10_eq, nI_clamp (by omega)]
    rfl
/-- the lines, as the law tells them -/
theorem lines_1 {τ : Sg} {thr : Int32} (h : LnS τ thr) : f_L_lines τ (f_X10_tally_29 τ) = 1 := by
  obtain ⟨⟨H, M, h0, m0, hF⟩, -, -, -, -, -, hP, -, hdec, -⟩ := id h
  obtain ⟨t, et, ht⟩ := loopE_all (B := b_L_lines_35 τ) (N := 8) (I := (32, 0, 0, 0, 0, 0, 1, 0, 0, 0, 0)) (LInv τ thr H M) ⟨rfl, h0.symm, m0.symm, rfl, ⟨0, 0, by omega, by omega, rfl, rfl, fun q => absurd q (by omega), fun _ => ⟨rfl, rfl⟩⟩, rfl, rfl, rfl, rfl⟩ (fun j s hj hI => lines_step h hF j s hj hI)
  rw [f_L_lines_eq]
  refine (sumE_inr et).trans ?_
  obtain ⟨wh, hi, mi, lo, go, ba, co, ma, cl, tu, st⟩ := t
  obtain ⟨-, -, -, -, -, -, i10, i11, i12⟩ := ht
  dsimp only at i10 i11 i12
  have e2 := Prod.mk.inj (i12.trans hP.symm)
  have c1 : ma = f_X10_tally_29 τ := i10
  have c2 : f_X10_count τ 4 = cl := (cn_4 hdec).trans i11.symm
  have c3 : f_X10_count τ 2 = tu := (cn_2 hdec).trans e2.1.symm
  have c4 : f_X10_count τ 3 = st := (cn_3 hdec).trans e2.2.symm
  have c5 := cn_1 hdec
  rw [← e2.1, ← e2.2] at c5
  refine (if_pos c1).trans ((if_pos c2).trans ((if_pos c3).trans ((if_pos c4).trans ?_)))
  by_cases q : tu ≤ st
  · rw [if_pos q] at c5
    exact (if_pos q).trans (if_pos c5)
  · rw [if_neg q] at c5
    exact (if_neg q).trans (if_pos c5)
