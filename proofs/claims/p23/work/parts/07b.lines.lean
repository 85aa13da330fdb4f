/-! the law's lines -/
def b_L_lines_50 (σ : Sg) (j1 : Nat) (j2 : Nat) (s2 : Int32) : Int32 := let v3 : Int32 := (if (-20) < (f_L_at σ (nI j1) (20 - nI j2)) then 0 else (if (-20) < (f_L_at σ (nI j1) ((20 - nI j2) + 1)) then 0 else (if (-20) < (f_L_at σ (nI j1) ((20 - nI j2) + 2)) then 0 else (if (-20) < (f_L_at σ (nI j1) ((20 - nI j2) + 3)) then 0 else 1)))); let v5 : Int32 := (if v3 = 0 then s2 else (20 - nI j2)); v5
theorem b_L_lines_50_eq (σ : Sg) (j1 : Nat) (j2 : Nat) (s2 : Int32) : b_L_lines_50 σ j1 j2 s2 = (let v3 : Int32 := (if (-20) < (f_L_at σ (nI j1) (20 - nI j2)) then 0 else (if (-20) < (f_L_at σ (nI j1) ((20 - nI j2) + 1)) then 0 else (if (-20) < (f_L_at σ (nI j1) ((20 - nI j2) + 2)) then 0 else (if (-20) < (f_L_at σ (nI j1) ((20 - nI j2) + 3)) then 0 else 1)))); let v5 : Int32 := (if v3 = 0 then s2 else (20 - nI j2)); v5) := rfl
def b_L_lines_307 (σ : Sg) (j1 : Nat) (v21 : Int32) (j23 : Nat) (s23 : Int32 × Int32) : Int32 × Int32 := let v24 : Int32 := (s23.1) + ((f_L_at σ (nI j1) ((v21 + 8) + nI j23)) * (f_L_sine (((v21 + 8) + nI j23) + (2 * (nI j1))))); let v25 : Int32 := (s23.2) + ((f_L_at σ (nI j1) ((v21 + 8) + nI j23)) * (f_L_cosine (((v21 + 8) + nI j23) + (2 * (nI j1))))); (v24, v25)
theorem b_L_lines_307_eq (σ : Sg) (j1 : Nat) (v21 : Int32) (j23 : Nat) (s23 : Int32 × Int32) : b_L_lines_307 σ j1 v21 j23 s23 = (let v24 : Int32 := (s23.1) + ((f_L_at σ (nI j1) ((v21 + 8) + nI j23)) * (f_L_sine (((v21 + 8) + nI j23) + (2 * (nI j1))))); let v25 : Int32 := (s23.2) + ((f_L_at σ (nI j1) ((v21 + 8) + nI j23)) * (f_L_cosine (((v21 + 8) + nI j23) + (2 * (nI j1))))); (v24, v25)) := rfl
def b_L_lines_35 (σ : Sg) (j1 : Nat) (s1 : Int32 × Int32 × Int32 × Int32 × Int32 × Int32 × Int32 × Int32 × Int32 × Int32 × Int32) : (Int32) ⊕ (Int32 × Int32 × Int32 × Int32 × Int32 × Int32 × Int32 × Int32 × Int32 × Int32 × Int32) := let t2 : Int32 := loopF (b_L_lines_50 σ j1) 21 (-100004); let v7 : Int32 := (if t2 < 0 then 0 else (if ((4 * t2) - (s1.1)) < (-12) then 0 else (if 12 < ((4 * t2) - (s1.1)) then 0 else 1))); let v10 : Int32 := (if v7 = 0 then (if t2 < 0 then (s1.1) else (if (s1.2.2.2.1) = 0 then (4 * t2) else (s1.1))) else (let v9 : Int32 := (s1.1) + (((4 * t2) - (s1.1)) / 2); v9)); let v12 : Int32 := (if v7 = 0 then 0 else ((s1.2.1) + 1)); let v14 : Int32 := (if v7 = 0 then ((s1.2.2.1) + 1) else 0); let v16 : Int32 := (if (s1.2.2.2.1) = 0 then (if v12 < 2 then 0 else (if 4 ≤ v14 then 0 else 1)) else (if 4 ≤ v14 then 0 else 1)); let v18 : Int32 := (if v16 = 0 then 0 else 1); let v20 : Int32 := (s1.2.2.2.2.2.2.2.1) + v18; let v21 : Int32 := (if v16 = 0 then (if 0 ≤ t2 then t2 else (f_L_floor (v10 + 2) 4)) else (f_L_floor (v10 + 2) 4)); let t23 : Int32 × Int32 := loopF (b_L_lines_307 σ j1 v21) (cnt8 (v21 + 8)) (0, 0); let v26 : Int32 := (if ((f_L_size (t23.1)) + (f_L_size (t23.2))) < (4 * (f_X10_count σ 15)) then 0 else 1); let v28 : Int32 := (if v26 = 0 then 0 else ((s1.2.2.2.2.1) + 1)); let v30 : Int32 := (if v26 = 0 then ((s1.2.2.2.2.2.1) + 1) else 0); let v32 : Int32 := (if 2 ≤ v30 then 0 else (if (s1.2.2.2.2.2.2.1) = 0 then (if v28 ≤ 1 then 0 else 1) else 1)); let v34 : Int32 := (if v32 = 0 then 0 else 1); let v36 : Int32 := (s1.2.2.2.2.2.2.2.2.1) + v34; if (f_X10_line σ (nI j1) 0) = t2 then (if (f_X10_line σ (nI j1) 1) = v21 then (let v37 : Int32 := (if v16 = 0 then 0 else 1); if (f_X10_line σ (nI j1) 2) = v37 then (if (f_X10_line σ (nI j1) 3) = (t23.1) then (if (f_X10_line σ (nI j1) 4) = (t23.2) then (let v39 : Int32 := (if v26 = 0 then 0 else 1); if (f_X10_line σ (nI j1) 5) = v39 then (let v41 : Int32 := (if v32 = 0 then 0 else 1); if (f_X10_line σ (nI j1) 6) = v41 then (if (f_X10_line σ (nI j1) 7) = v10 then (if (f_X10_line σ (nI j1) 8) = (-100002) then (let v52 : Int32 := (if (nI j1) ≤ 0 then (s1.2.2.2.2.2.2.2.2.2.1) else (if v26 = 0 then (s1.2.2.2.2.2.2.2.2.2.1) else (if (f_X10_line σ ((nI j1) - 1) 5) = 1 then (let v43 : Int32 := f_X10_line σ ((nI j1) - 1) 4; let v44 : Int32 := (if 0 ≤ (t23.2) then (if (t23.2) ≤ 0 then 0 else (if 0 ≤ v43 then 0 else (if (f_L_size (t23.2)) < (f_X10_count σ 15) then 0 else (if (f_L_size v43) < (f_X10_count σ 15) then 0 else 1)))) else (if 0 < v43 then (if (f_L_size (t23.2)) < (f_X10_count σ 15) then 0 else (if (f_L_size v43) < (f_X10_count σ 15) then 0 else 1)) else (if (t23.2) ≤ 0 then 0 else (if 0 ≤ v43 then 0 else (if (f_L_size (t23.2)) < (f_X10_count σ 15) then 0 else (if (f_L_size v43) < (f_X10_count σ 15) then 0 else 1)))))); let v46 : Int32 := (if v44 = 0 then 0 else 1); let v48 : Int32 := (s1.2.2.2.2.2.2.2.2.2.1) + v46; let v49 : Int32 := (if v44 = 0 then 1 else 0); let v51 : Int32 := (s1.2.2.2.2.2.2.2.2.2.2) + v49; v48) else (s1.2.2.2.2.2.2.2.2.2.1)))); let v53 : Int32 := (if (nI j1) ≤ 0 then (s1.2.2.2.2.2.2.2.2.2.2) else (if v26 = 0 then (s1.2.2.2.2.2.2.2.2.2.2) else (if (f_X10_line σ ((nI j1) - 1) 5) = 1 then (let v43 : Int32 := f_X10_line σ ((nI j1) - 1) 4; let v44 : Int32 := (if 0 ≤ (t23.2) then (if (t23.2) ≤ 0 then 0 else (if 0 ≤ v43 then 0 else (if (f_L_size (t23.2)) < (f_X10_count σ 15) then 0 else (if (f_L_size v43) < (f_X10_count σ 15) then 0 else 1)))) else (if 0 < v43 then (if (f_L_size (t23.2)) < (f_X10_count σ 15) then 0 else (if (f_L_size v43) < (f_X10_count σ 15) then 0 else 1)) else (if (t23.2) ≤ 0 then 0 else (if 0 ≤ v43 then 0 else (if (f_L_size (t23.2)) < (f_X10_count σ 15) then 0 else (if (f_L_size v43) < (f_X10_count σ 15) then 0 else 1)))))); let v46 : Int32 := (if v44 = 0 then 0 else 1); let v48 : Int32 := (s1.2.2.2.2.2.2.2.2.2.1) + v46; let v49 : Int32 := (if v44 = 0 then 1 else 0); let v51 : Int32 := (s1.2.2.2.2.2.2.2.2.2.2) + v49; v51) else (s1.2.2.2.2.2.2.2.2.2.2)))); .inr (v10, v12, v14, v16, v28, v30, v32, v20, v36, v52, v53)) else (.inl 0)) else (.inl 0)) else (.inl 0)) else (.inl 0)) else (.inl 0)) else (.inl 0)) else (.inl 0)) else (.inl 0)) else (.inl 0)
theorem b_L_lines_35_eq (σ : Sg) (j1 : Nat) (s1 : Int32 × Int32 × Int32 × Int32 × Int32 × Int32 × Int32 × Int32 × Int32 × Int32 × Int32) : b_L_lines_35 σ j1 s1 = (let t2 : Int32 := loopF (b_L_lines_50 σ j1) 21 (-100004); let v7 : Int32 := (if t2 < 0 then 0 else (if ((4 * t2) - (s1.1)) < (-12) then 0 else (if 12 < ((4 * t2) - (s1.1)) then 0 else 1))); let v10 : Int32 := (if v7 = 0 then (if t2 < 0 then (s1.1) else (if (s1.2.2.2.1) = 0 then (4 * t2) else (s1.1))) else (let v9 : Int32 := (s1.1) + (((4 * t2) - (s1.1)) / 2); v9)); let v12 : Int32 := (if v7 = 0 then 0 else ((s1.2.1) + 1)); let v14 : Int32 := (if v7 = 0 then ((s1.2.2.1) + 1) else 0); let v16 : Int32 := (if (s1.2.2.2.1) = 0 then (if v12 < 2 then 0 else (if 4 ≤ v14 then 0 else 1)) else (if 4 ≤ v14 then 0 else 1)); let v18 : Int32 := (if v16 = 0 then 0 else 1); let v20 : Int32 := (s1.2.2.2.2.2.2.2.1) + v18; let v21 : Int32 := (if v16 = 0 then (if 0 ≤ t2 then t2 else (f_L_floor (v10 + 2) 4)) else (f_L_floor (v10 + 2) 4)); let t23 : Int32 × Int32 := loopF (b_L_lines_307 σ j1 v21) (cnt8 (v21 + 8)) (0, 0); let v26 : Int32 := (if ((f_L_size (t23.1)) + (f_L_size (t23.2))) < (4 * (f_X10_count σ 15)) then 0 else 1); let v28 : Int32 := (if v26 = 0 then 0 else ((s1.2.2.2.2.1) + 1)); let v30 : Int32 := (if v26 = 0 then ((s1.2.2.2.2.2.1) + 1) else 0); let v32 : Int32 := (if 2 ≤ v30 then 0 else (if (s1.2.2.2.2.2.2.1) = 0 then (if v28 ≤ 1 then 0 else 1) else 1)); let v34 : Int32 := (if v32 = 0 then 0 else 1); let v36 : Int32 := (s1.2.2.2.2.2.2.2.2.1) + v34; if (f_X10_line σ (nI j1) 0) = t2 then (if (f_X10_line σ (nI j1) 1) = v21 then (let v37 : Int32 := (if v16 = 0 then 0 else 1); if (f_X10_line σ (nI j1) 2) = v37 then (if (f_X10_line σ (nI j1) 3) = (t23.1) then (if (f_X10_line σ (nI j1) 4) = (t23.2) then (let v39 : Int32 := (if v26 = 0 then 0 else 1); if (f_X10_line σ (nI j1) 5) = v39 then (let v41 : Int32 := (if v32 = 0 then 0 else 1); if (f_X10_line σ (nI j1) 6) = v41 then (if (f_X10_line σ (nI j1) 7) = v10 then (if (f_X10_line σ (nI j1) 8) = (-100002) then (let v52 : Int32 := (if (nI j1) ≤ 0 then (s1.2.2.2.2.2.2.2.2.2.1) else (if v26 = 0 then (s1.2.2.2.2.2.2.2.2.2.1) else (if (f_X10_line σ ((nI j1) - 1) 5) = 1 then (let v43 : Int32 := f_X10_line σ ((nI j1) - 1) 4; let v44 : Int32 := (if 0 ≤ (t23.2) then (if (t23.2) ≤ 0 then 0 else (if 0 ≤ v43 then 0 else (if (f_L_size (t23.2)) < (f_X10_count σ 15) then 0 else (if (f_L_size v43) < (f_X10_count σ 15) then 0 else 1)))) else (if 0 < v43 then (if (f_L_size (t23.2)) < (f_X10_count σ 15) then 0 else (if (f_L_size v43) < (f_X10_count σ 15) then 0 else 1)) else (if (t23.2) ≤ 0 then 0 else (if 0 ≤ v43 then 0 else (if (f_L_size (t23.2)) < (f_X10_count σ 15) then 0 else (if (f_L_size v43) < (f_X10_count σ 15) then 0 else 1)))))); let v46 : Int32 := (if v44 = 0 then 0 else 1); let v48 : Int32 := (s1.2.2.2.2.2.2.2.2.2.1) + v46; let v49 : Int32 := (if v44 = 0 then 1 else 0); let v51 : Int32 := (s1.2.2.2.2.2.2.2.2.2.2) + v49; v48) else (s1.2.2.2.2.2.2.2.2.2.1)))); let v53 : Int32 := (if (nI j1) ≤ 0 then (s1.2.2.2.2.2.2.2.2.2.2) else (if v26 = 0 then (s1.2.2.2.2.2.2.2.2.2.2) else (if (f_X10_line σ ((nI j1) - 1) 5) = 1 then (let v43 : Int32 := f_X10_line σ ((nI j1) - 1) 4; let v44 : Int32 := (if 0 ≤ (t23.2) then (if (t23.2) ≤ 0 then 0 else (if 0 ≤ v43 then 0 else (if (f_L_size (t23.2)) < (f_X10_count σ 15) then 0 else (if (f_L_size v43) < (f_X10_count σ 15) then 0 else 1)))) else (if 0 < v43 then (if (f_L_size (t23.2)) < (f_X10_count σ 15) then 0 else (if (f_L_size v43) < (f_X10_count σ 15) then 0 else 1)) else (if (t23.2) ≤ 0 then 0 else (if 0 ≤ v43 then 0 else (if (f_L_size (t23.2)) < (f_X10_count σ 15) then 0 else (if (f_L_size v43) < (f_X10_count σ 15) then 0 else 1)))))); let v46 : Int32 := (if v44 = 0 then 0 else 1); let v48 : Int32 := (s1.2.2.2.2.2.2.2.2.2.1) + v46; let v49 : Int32 := (if v44 = 0 then 1 else 0); let v51 : Int32 := (s1.2.2.2.2.2.2.2.2.2.2) + v49; v51) else (s1.2.2.2.2.2.2.2.2.2.2)))); .inr (v10, v12, v14, v16, v28, v30, v32, v20, v36, v52, v53)) else (.inl 0)) else (.inl 0)) else (.inl 0)) else (.inl 0)) else (.inl 0)) else (.inl 0)) else (.inl 0)) else (.inl 0)) else (.inl 0)) := rfl
def f_L_lines (σ : Sg) (x : Int32) : Int32 := sumE (loopE (b_L_lines_35 σ) 8 0 (32, 0, 0, 0, 0, 0, 1, 0, 0, 0, 0)) (fun t1 => if (t1.2.2.2.2.2.2.2.1) = x then (if (f_X10_count σ 4) = (t1.2.2.2.2.2.2.2.2.1) then (if (f_X10_count σ 2) = (t1.2.2.2.2.2.2.2.2.2.1) then (if (f_X10_count σ 3) = (t1.2.2.2.2.2.2.2.2.2.2) then (if (t1.2.2.2.2.2.2.2.2.2.1) ≤ (t1.2.2.2.2.2.2.2.2.2.2) then (if (f_X10_count σ 1) = 0 then 1 else 0) else (if (f_X10_count σ 1) = 1 then 1 else 0)) else 0) else 0) else 0) else 0)
theorem f_L_lines_eq (σ : Sg) (x : Int32) : f_L_lines σ x = (sumE (loopE (b_L_lines_35 σ) 8 0 (32, 0, 0, 0, 0, 0, 1, 0, 0, 0, 0)) (fun t1 => if (t1.2.2.2.2.2.2.2.1) = x then (if (f_X10_count σ 4) = (t1.2.2.2.2.2.2.2.2.1) then (if (f_X10_count σ 2) = (t1.2.2.2.2.2.2.2.2.2.1) then (if (f_X10_count σ 3) = (t1.2.2.2.2.2.2.2.2.2.2) then (if (t1.2.2.2.2.2.2.2.2.2.1) ≤ (t1.2.2.2.2.2.2.2.2.2.2) then (if (f_X10_count σ 1) = 0 then 1 else 0) else (if (f_X10_count σ 1) = 1 then 1 else 0)) else 0) else 0) else 0) else 0)) := rfl
set_option maxRecDepth 100000 in
set_option maxHeartbeats 4000000 in
theorem c_L_lines (l : Launch) (D : va_G) (ad : Nat → Nat) (dA : Nat → ClassId) (z0 : Nat) (tt : Nat → Nat) (σ : Sg) (φ : Fl) (x : Int32)  : MC l D ad dA z0 tt yL_lines (Cond.code yL_lines cL_lines 23 (some .boolean) :: lw_all) { frames := 6, cells := 0, slots := 0, locals := 137 } [.ref (ad 0), .int x] σ φ (Fn (some (.int (f_L_lines σ x))) σ φ) := by
  refine mk_MC (by decide) (Nat.le_of_ble_eq_true rfl) ?_
  intro K C hi hf hv
  change K σ φ 0 [(0, .ref (ad 0)), (1, .int x)] []
  refine g_bipush C (v := 32) dL_lines_0 (by decide) ?_
  refine g_istore_n C (i := 2) (lv' := [(2, .int 32), (0, .ref (ad 0)), (1, .int x)]) dL_lines_2 rfl (by decide) rfl ?_
  refine g_iconst C (v := 0) dL_lines_3 (by decide) ?_
  refine g_istore_n C (i := 3) (lv' := [(3, .int 0), (2, .int 32), (0, .ref (ad 0)), (1, .int x)]) dL_lines_4 rfl (by decide) rfl ?_
  refine g_iconst C (v := 0) dL_lines_5 (by decide) ?_
  refine g_istore C (i := 4) (lv' := [(4, .int 0), (3, .int 0), (2, .int 32), (0, .ref (ad 0)), (1, .int x)]) dL_lines_6 (by decide) rfl ?_
  refine g_iconst C (v := 0) dL_lines_8 (by decide) ?_
  refine g_istore C (i := 5) (lv' := [(5, .int 0), (4, .int 0), (3, .int 0), (2, .int 32), (0, .ref (ad 0)), (1, .int x)]) dL_lines_9 (by decide) rfl ?_
  refine g_iconst C (v := 0) dL_lines_11 (by decide) ?_
  refine g_istore C (i := 6) (lv' := [(6, .int 0), (5, .int 0), (4, .int 0), (3, .int 0), (2, .int 32), (0, .ref (ad 0)), (1, .int x)]) dL_lines_12 (by decide) rfl ?_
  refine g_iconst C (v := 0) dL_lines_14 (by decide) ?_
  refine g_istore C (i := 7) (lv' := [(7, .int 0), (6, .int 0), (5, .int 0), (4, .int 0), (3, .int 0), (2, .int 32), (0, .ref (ad 0)), (1, .int x)]) dL_lines_15 (by decide) rfl ?_
  refine g_iconst C (v := 1) dL_lines_17 (by decide) ?_
  refine g_istore C (i := 8) (lv' := [(8, .int 1), (7, .int 0), (6, .int 0), (5, .int 0), (4, .int 0), (3, .int 0), (2, .int 32), (0, .ref (ad 0)), (1, .int x)]) dL_lines_18 (by decide) rfl ?_
  refine g_iconst C (v := 0) dL_lines_20 (by decide) ?_
  refine g_istore C (i := 9) (lv' := [(9, .int 0), (8, .int 1), (7, .int 0), (6, .int 0), (5, .int 0), (4, .int 0), (3, .int 0), (2, .int 32), (0, .ref (ad 0)), (1, .int x)]) dL_lines_21 (by decide) rfl ?_
  refine g_iconst C (v := 0) dL_lines_23 (by decide) ?_
  refine g_istore C (i := 10) (lv' := [(10, .int 0), (9, .int 0), (8, .int 1), (7, .int 0), (6, .int 0), (5, .int 0), (4, .int 0), (3, .int 0), (2, .int 32), (0, .ref (ad 0)), (1, .int x)]) dL_lines_24 (by decide) rfl ?_
  refine g_iconst C (v := 0) dL_lines_26 (by decide) ?_
  refine g_istore C (i := 11) (lv' := [(11, .int 0), (10, .int 0), (9, .int 0), (8, .int 1), (7, .int 0), (6, .int 0), (5, .int 0), (4, .int 0), (3, .int 0), (2, .int 32), (0, .ref (ad 0)), (1, .int x)]) dL_lines_27 (by decide) rfl ?_
  refine g_iconst C (v := 0) dL_lines_29 (by decide) ?_
  refine g_istore C (i := 12) (lv' := [(12, .int 0), (11, .int 0), (10, .int 0), (9, .int 0), (8, .int 1), (7, .int 0), (6, .int 0), (5, .int 0), (4, .int 0), (3, .int 0), (2, .int 32), (0, .ref (ad 0)), (1, .int x)]) dL_lines_30 (by decide) rfl ?_
  refine g_iconst C (v := 0) dL_lines_32 (by decide) ?_
  refine g_istore C (i := 13) (lv' := [(13, .int 0), (12, .int 0), (11, .int 0), (10, .int 0), (9, .int 0), (8, .int 1), (7, .int 0), (6, .int 0), (5, .int 0), (4, .int 0), (3, .int 0), (2, .int 32), (0, .ref (ad 0)), (1, .int x)]) dL_lines_33 (by decide) rfl ?_
  refine g_loc C (lv' := [(0, .ref (ad 0)), (1, .int x), (2, .int 32), (3, .int 0), (4, .int 0), (5, .int 0), (6, .int 0), (7, .int 0), (8, .int 1), (9, .int 0), (10, .int 0), (11, .int 0), (12, .int 0), (13, .int 0)]) [12, 13, 11, 10, 9, 8, 7, 6, 5, 4, 3, 2, 1, 0] rfl ?_
  refine loopE_ind (b_L_lines_35 σ) 8 (fun (j1 : Nat) (s1 : Int32 × Int32 × Int32 × Int32 × Int32 × Int32 × Int32 × Int32 × Int32 × Int32 × Int32) => K σ φ 35 [(0, .ref (ad 0)), (1, .int x), (2, .int (s1.1)), (3, .int (s1.2.1)), (4, .int (s1.2.2.1)), (5, .int (s1.2.2.2.1)), (6, .int (s1.2.2.2.2.1)), (7, .int (s1.2.2.2.2.2.1)), (8, .int (s1.2.2.2.2.2.2.1)), (9, .int (s1.2.2.2.2.2.2.2.1)), (10, .int (s1.2.2.2.2.2.2.2.2.1)), (11, .int (s1.2.2.2.2.2.2.2.2.2.1)), (12, .int (s1.2.2.2.2.2.2.2.2.2.2)), (13, .int (nI j1))] []) (32, 0, 0, 0, 0, 0, 1, 0, 0, 0, 0) ?_ ?_
  · intro n1 j1 s1 hn hF1 kk
    have hj1 : j1 < 8 := by omega
    change K σ φ 35 [(0, .ref (ad 0)), (1, .int x), (2, .int (s1.1)), (3, .int (s1.2.1)), (4, .int (s1.2.2.1)), (5, .int (s1.2.2.2.1)), (6, .int (s1.2.2.2.2.1)), (7, .int (s1.2.2.2.2.2.1)), (8, .int (s1.2.2.2.2.2.2.1)), (9, .int (s1.2.2.2.2.2.2.2.1)), (10, .int (s1.2.2.2.2.2.2.2.2.1)), (11, .int (s1.2.2.2.2.2.2.2.2.2.1)), (12, .int (s1.2.2.2.2.2.2.2.2.2.2)), (13, .int (nI j1))] []
    refine g_iload C (i := 13) dL_lines_35 13 rfl ?_
    refine g_bipush C (v := 8) dL_lines_37 (by decide) ?_
    refine g_icmp_ge C (tgt := 730) dL_lines_39 (by decide) (fun h1 => ?_) (fun h1 => ?_)
    · exact absurd h1 (nI_ge hj1 (by decide))
    · refine g_ldc C kc_L_21 dL_lines_42 ?_
      refine g_istore C (i := 14) (lv' := [(14, .int (-100004)), (0, .ref (ad 0)), (1, .int x), (2, .int (s1.1)), (3, .int (s1.2.1)), (4, .int (s1.2.2.1)), (5, .int (s1.2.2.2.1)), (6, .int (s1.2.2.2.2.1)), (7, .int (s1.2.2.2.2.2.1)), (8, .int (s1.2.2.2.2.2.2.1)), (9, .int (s1.2.2.2.2.2.2.2.1)), (10, .int (s1.2.2.2.2.2.2.2.2.1)), (11, .int (s1.2.2.2.2.2.2.2.2.2.1)), (12, .int (s1.2.2.2.2.2.2.2.2.2.2)), (13, .int (nI j1))]) dL_lines_44 (by decide) rfl ?_
      refine g_bipush C (v := 20) dL_lines_46 (by decide) ?_
      refine g_istore C (i := 15) (lv' := [(15, .int 20), (14, .int (-100004)), (0, .ref (ad 0)), (1, .int x), (2, .int (s1.1)), (3, .int (s1.2.1)), (4, .int (s1.2.2.1)), (5, .int (s1.2.2.2.1)), (6, .int (s1.2.2.2.2.1)), (7, .int (s1.2.2.2.2.2.1)), (8, .int (s1.2.2.2.2.2.2.1)), (9, .int (s1.2.2.2.2.2.2.2.1)), (10, .int (s1.2.2.2.2.2.2.2.2.1)), (11, .int (s1.2.2.2.2.2.2.2.2.2.1)), (12, .int (s1.2.2.2.2.2.2.2.2.2.2)), (13, .int (nI j1))]) dL_lines_48 (by decide) rfl ?_
      refine g_loc C (lv' := [(0, .ref (ad 0)), (1, .int x), (2, .int (s1.1)), (3, .int (s1.2.1)), (4, .int (s1.2.2.1)), (5, .int (s1.2.2.2.1)), (6, .int (s1.2.2.2.2.1)), (7, .int (s1.2.2.2.2.2.1)), (8, .int (s1.2.2.2.2.2.2.1)), (9, .int (s1.2.2.2.2.2.2.2.1)), (10, .int (s1.2.2.2.2.2.2.2.2.1)), (11, .int (s1.2.2.2.2.2.2.2.2.2.1)), (12, .int (s1.2.2.2.2.2.2.2.2.2.2)), (13, .int (nI j1)), (14, .int (-100004)), (15, .int 20)]) [2, 3, 4, 5, 6, 7, 8, 9, 10, 11, 12, 13, 14, 15, 1, 0] rfl ?_
      refine g_lvq C (lv' := [(0, .ref (ad 0)), (1, .int x), (2, .int (s1.1)), (3, .int (s1.2.1)), (4, .int (s1.2.2.1)), (5, .int (s1.2.2.2.1)), (6, .int (s1.2.2.2.2.1)), (7, .int (s1.2.2.2.2.2.1)), (8, .int (s1.2.2.2.2.2.2.1)), (9, .int (s1.2.2.2.2.2.2.2.1)), (10, .int (s1.2.2.2.2.2.2.2.2.1)), (11, .int (s1.2.2.2.2.2.2.2.2.2.1)), (12, .int (s1.2.2.2.2.2.2.2.2.2.2)), (13, .int (nI j1)), (14, .int (-100004)), (15, .int (20 - nI 0))]) (by rw [kd_0]) ?_
      refine loopF_ind (b_L_lines_50 σ j1) 21 (fun (j2 : Nat) (s2 : Int32) => K σ φ 50 [(0, .ref (ad 0)), (1, .int x), (2, .int (s1.1)), (3, .int (s1.2.1)), (4, .int (s1.2.2.1)), (5, .int (s1.2.2.2.1)), (6, .int (s1.2.2.2.2.1)), (7, .int (s1.2.2.2.2.2.1)), (8, .int (s1.2.2.2.2.2.2.1)), (9, .int (s1.2.2.2.2.2.2.2.1)), (10, .int (s1.2.2.2.2.2.2.2.2.1)), (11, .int (s1.2.2.2.2.2.2.2.2.2.1)), (12, .int (s1.2.2.2.2.2.2.2.2.2.2)), (13, .int (nI j1)), (14, .int s2), (15, .int (20 - nI j2))] []) (-100004) ?_ ?_
      · intro j2 s2 hj2 kk
        change K σ φ 50 [(0, .ref (ad 0)), (1, .int x), (2, .int (s1.1)), (3, .int (s1.2.1)), (4, .int (s1.2.2.1)), (5, .int (s1.2.2.2.1)), (6, .int (s1.2.2.2.2.1)), (7, .int (s1.2.2.2.2.2.1)), (8, .int (s1.2.2.2.2.2.2.1)), (9, .int (s1.2.2.2.2.2.2.2.1)), (10, .int (s1.2.2.2.2.2.2.2.2.1)), (11, .int (s1.2.2.2.2.2.2.2.2.2.1)), (12, .int (s1.2.2.2.2.2.2.2.2.2.2)), (13, .int (nI j1)), (14, .int s2), (15, .int (20 - nI j2))] []
        refine g_iload C (i := 15) dL_lines_50 15 rfl ?_
        refine g_if_lt C (tgt := 140) dL_lines_52 (by decide) (fun h2 => ?_) (fun h2 => ?_)
        · exact absurd h2 (kd_step hj2)
        · refine g_aload_n C (i := 0) dL_lines_55 rfl 0 rfl ?_
          refine g_iload C (i := 13) dL_lines_56 13 rfl ?_
          refine g_iload C (i := 15) dL_lines_58 15 rfl ?_
          refine g_callS C (st := []) (c_L_at l D ad dA z0 tt σ φ (nI j1) (20 - nI j2)) rfl ml_L_22 sm_L_at in_L co_L_at dyS_L_at rfl rfl ⟨(Nat.le_of_ble_eq_true rfl), (Nat.le_of_ble_eq_true rfl)⟩ dL_lines_60 rfl (Nat.le_of_ble_eq_true rfl) (g_fni ?_)
          refine g_bipush C (v := (-20)) dL_lines_63 (by decide) ?_
          have J4 : ∀ (v3 : Int32), (if (-20) < (f_L_at σ (nI j1) (20 - nI j2)) then 0 else (if (-20) < (f_L_at σ (nI j1) ((20 - nI j2) + 1)) then 0 else (if (-20) < (f_L_at σ (nI j1) ((20 - nI j2) + 2)) then 0 else (if (-20) < (f_L_at σ (nI j1) ((20 - nI j2) + 3)) then 0 else 1)))) = v3 → K σ φ 118 [(0, .ref (ad 0)), (1, .int x), (2, .int (s1.1)), (3, .int (s1.2.1)), (4, .int (s1.2.2.1)), (5, .int (s1.2.2.2.1)), (6, .int (s1.2.2.2.2.1)), (7, .int (s1.2.2.2.2.2.1)), (8, .int (s1.2.2.2.2.2.2.1)), (9, .int (s1.2.2.2.2.2.2.2.1)), (10, .int (s1.2.2.2.2.2.2.2.2.1)), (11, .int (s1.2.2.2.2.2.2.2.2.2.1)), (12, .int (s1.2.2.2.2.2.2.2.2.2.2)), (13, .int (nI j1)), (14, .int s2), (15, .int (20 - nI j2))] [.int v3] := by
            intro v3 ev3
            refine g_istore C (i := 16) (lv' := [(16, .int v3), (0, .ref (ad 0)), (1, .int x), (2, .int (s1.1)), (3, .int (s1.2.1)), (4, .int (s1.2.2.1)), (5, .int (s1.2.2.2.1)), (6, .int (s1.2.2.2.2.1)), (7, .int (s1.2.2.2.2.2.1)), (8, .int (s1.2.2.2.2.2.2.1)), (9, .int (s1.2.2.2.2.2.2.2.1)), (10, .int (s1.2.2.2.2.2.2.2.2.1)), (11, .int (s1.2.2.2.2.2.2.2.2.2.1)), (12, .int (s1.2.2.2.2.2.2.2.2.2.2)), (13, .int (nI j1)), (14, .int s2), (15, .int (20 - nI j2))]) dL_lines_118 (by decide) rfl ?_
            refine g_iload C (i := 16) dL_lines_120 0 rfl ?_
            have J6 : ∀ (v5 : Int32), (if v3 = 0 then s2 else (20 - nI j2)) = v5 → K σ φ 132 [(0, .ref (ad 0)), (1, .int x), (2, .int (s1.1)), (3, .int (s1.2.1)), (4, .int (s1.2.2.1)), (5, .int (s1.2.2.2.1)), (6, .int (s1.2.2.2.2.1)), (7, .int (s1.2.2.2.2.2.1)), (8, .int (s1.2.2.2.2.2.2.1)), (9, .int (s1.2.2.2.2.2.2.2.1)), (10, .int (s1.2.2.2.2.2.2.2.2.1)), (11, .int (s1.2.2.2.2.2.2.2.2.2.1)), (12, .int (s1.2.2.2.2.2.2.2.2.2.2)), (13, .int (nI j1)), (15, .int (20 - nI j2))] [.int v5] := by
              intro v5 ev5
              refine g_istore C (i := 14) (lv' := [(14, .int v5), (0, .ref (ad 0)), (1, .int x), (2, .int (s1.1)), (3, .int (s1.2.1)), (4, .int (s1.2.2.1)), (5, .int (s1.2.2.2.1)), (6, .int (s1.2.2.2.2.1)), (7, .int (s1.2.2.2.2.2.1)), (8, .int (s1.2.2.2.2.2.2.1)), (9, .int (s1.2.2.2.2.2.2.2.1)), (10, .int (s1.2.2.2.2.2.2.2.2.1)), (11, .int (s1.2.2.2.2.2.2.2.2.2.1)), (12, .int (s1.2.2.2.2.2.2.2.2.2.2)), (13, .int (nI j1)), (15, .int (20 - nI j2))]) dL_lines_132 (by decide) rfl ?_
              refine g_iinc C (i := 15) (v := 20 - nI (j2 + 1)) (lv' := [(15, .int (20 - nI (j2 + 1))), (14, .int v5), (0, .ref (ad 0)), (1, .int x), (2, .int (s1.1)), (3, .int (s1.2.1)), (4, .int (s1.2.2.1)), (5, .int (s1.2.2.2.1)), (6, .int (s1.2.2.2.2.1)), (7, .int (s1.2.2.2.2.2.1)), (8, .int (s1.2.2.2.2.2.2.1)), (9, .int (s1.2.2.2.2.2.2.2.1)), (10, .int (s1.2.2.2.2.2.2.2.2.1)), (11, .int (s1.2.2.2.2.2.2.2.2.2.1)), (12, .int (s1.2.2.2.2.2.2.2.2.2.2)), (13, .int (nI j1))]) dL_lines_134 15 rfl (kd_1 _) (by decide) rfl ?_
              refine g_goto C (tgt := 50) dL_lines_137 (by decide) ?_
              refine g_loc C [2, 3, 4, 5, 6, 7, 8, 9, 10, 11, 12, 13, 14, 15, 1, 0] rfl ?_
              refine kk v5 ?_
              subst ev5
              subst ev3
              exact b_L_lines_50_eq _ _ _ _
            refine g_if_eq C (tgt := 130) dL_lines_122 (by decide) (fun h7 => ?_) (fun h7 => ?_)
            · refine g_iload C (i := 14) dL_lines_130 15 rfl ?_
              refine g_loc C [1, 2, 3, 4, 5, 6, 7, 8, 9, 10, 11, 12, 13, 14, 16] rfl ?_
              exact J6 _ ((if_pos h7))
            · refine g_iload C (i := 15) dL_lines_125 16 rfl ?_
              refine g_goto C (tgt := 132) dL_lines_127 (by decide) ?_
              refine g_loc C [1, 2, 3, 4, 5, 6, 7, 8, 9, 10, 11, 12, 13, 14, 16] rfl ?_
              exact J6 _ ((if_neg h7))
          refine g_icmp_gt C (tgt := 117) dL_lines_65 (by decide) (fun h3 => ?_) (fun h3 => ?_)
          · refine g_iconst C (v := 0) dL_lines_117 (by decide) ?_
            refine g_loc C [0, 1, 2, 3, 4, 5, 6, 7, 8, 9, 10, 11, 12, 13, 14, 15] rfl ?_
            exact J4 _ ((if_pos h3))
          · refine g_aload_n C (i := 0) dL_lines_68 rfl 0 rfl ?_
            refine g_iload C (i := 13) dL_lines_69 13 rfl ?_
            refine g_iload C (i := 15) dL_lines_71 15 rfl ?_
            refine g_iconst C (v := 1) dL_lines_73 (by decide) ?_
            refine g_iadd C dL_lines_74 ?_
            refine g_callS C (st := []) (c_L_at l D ad dA z0 tt σ φ (nI j1) ((20 - nI j2) + 1)) rfl ml_L_22 sm_L_at in_L co_L_at dyS_L_at rfl rfl ⟨(Nat.le_of_ble_eq_true rfl), (Nat.le_of_ble_eq_true rfl)⟩ dL_lines_75 rfl (Nat.le_of_ble_eq_true rfl) (g_fni ?_)
            refine g_bipush C (v := (-20)) dL_lines_78 (by decide) ?_
            refine g_icmp_gt C (tgt := 117) dL_lines_80 (by decide) (fun h4 => ?_) (fun h4 => ?_)
            · refine g_iconst C (v := 0) dL_lines_117 (by decide) ?_
              refine g_loc C [0, 1, 2, 3, 4, 5, 6, 7, 8, 9, 10, 11, 12, 13, 14, 15] rfl ?_
              exact J4 _ (((if_neg h3).trans (if_pos h4)))
            · refine g_aload_n C (i := 0) dL_lines_83 rfl 0 rfl ?_
              refine g_iload C (i := 13) dL_lines_84 13 rfl ?_
              refine g_iload C (i := 15) dL_lines_86 15 rfl ?_
              refine g_iconst C (v := 2) dL_lines_88 (by decide) ?_
              refine g_iadd C dL_lines_89 ?_
              refine g_callS C (st := []) (c_L_at l D ad dA z0 tt σ φ (nI j1) ((20 - nI j2) + 2)) rfl ml_L_22 sm_L_at in_L co_L_at dyS_L_at rfl rfl ⟨(Nat.le_of_ble_eq_true rfl), (Nat.le_of_ble_eq_true rfl)⟩ dL_lines_90 rfl (Nat.le_of_ble_eq_true rfl) (g_fni ?_)
              refine g_bipush C (v := (-20)) dL_lines_93 (by decide) ?_
              refine g_icmp_gt C (tgt := 117) dL_lines_95 (by decide) (fun h5 => ?_) (fun h5 => ?_)
              · refine g_iconst C (v := 0) dL_lines_117 (by decide) ?_
                refine g_loc C [0, 1, 2, 3, 4, 5, 6, 7, 8, 9, 10, 11, 12, 13, 14, 15] rfl ?_
                exact J4 _ (((if_neg h3).trans ((if_neg h4).trans (if_pos h5))))
              · refine g_aload_n C (i := 0) dL_lines_98 rfl 0 rfl ?_
                refine g_iload C (i := 13) dL_lines_99 13 rfl ?_
                refine g_iload C (i := 15) dL_lines_101 15 rfl ?_
                refine g_iconst C (v := 3) dL_lines_103 (by decide) ?_
                refine g_iadd C dL_lines_104 ?_
                refine g_callS C (st := []) (c_L_at l D ad dA z0 tt σ φ (nI j1) ((20 - nI j2) + 3)) rfl ml_L_22 sm_L_at in_L co_L_at dyS_L_at rfl rfl ⟨(Nat.le_of_ble_eq_true rfl), (Nat.le_of_ble_eq_true rfl)⟩ dL_lines_105 rfl (Nat.le_of_ble_eq_true rfl) (g_fni ?_)
                refine g_bipush C (v := (-20)) dL_lines_108 (by decide) ?_
                refine g_icmp_gt C (tgt := 117) dL_lines_110 (by decide) (fun h6 => ?_) (fun h6 => ?_)
                · refine g_iconst C (v := 0) dL_lines_117 (by decide) ?_
                  refine g_loc C [0, 1, 2, 3, 4, 5, 6, 7, 8, 9, 10, 11, 12, 13, 14, 15] rfl ?_
                  exact J4 _ (((if_neg h3).trans ((if_neg h4).trans ((if_neg h5).trans (if_pos h6)))))
                · refine g_iconst C (v := 1) dL_lines_113 (by decide) ?_
                  refine g_goto C (tgt := 118) dL_lines_114 (by decide) ?_
                  refine g_loc C [0, 1, 2, 3, 4, 5, 6, 7, 8, 9, 10, 11, 12, 13, 14, 15] rfl ?_
                  exact J4 _ (((if_neg h3).trans ((if_neg h4).trans ((if_neg h5).trans (if_neg h6)))))
      · generalize et2 : loopF (b_L_lines_50 σ j1) 21 (-100004) = t2
        change K σ φ 50 [(0, .ref (ad 0)), (1, .int x), (2, .int (s1.1)), (3, .int (s1.2.1)), (4, .int (s1.2.2.1)), (5, .int (s1.2.2.2.1)), (6, .int (s1.2.2.2.2.1)), (7, .int (s1.2.2.2.2.2.1)), (8, .int (s1.2.2.2.2.2.2.1)), (9, .int (s1.2.2.2.2.2.2.2.1)), (10, .int (s1.2.2.2.2.2.2.2.2.1)), (11, .int (s1.2.2.2.2.2.2.2.2.2.1)), (12, .int (s1.2.2.2.2.2.2.2.2.2.2)), (13, .int (nI j1)), (14, .int t2), (15, .int (20 - nI 21))] []
        refine g_iload C (i := 15) dL_lines_50 15 rfl ?_
        refine g_if_lt C (tgt := 140) dL_lines_52 (by decide) (fun h8 => ?_) (fun h8 => ?_)
        · refine g_iconst C (v := 4) dL_lines_140 (by decide) ?_
          refine g_iload C (i := 14) dL_lines_141 14 rfl ?_
          refine g_imul C dL_lines_143 ?_
          refine g_iload_n C (i := 2) dL_lines_144 rfl 2 rfl ?_
          refine g_isub C dL_lines_145 ?_
          refine g_istore C (i := 15) (lv' := [(15, .int ((4 * t2) - (s1.1))), (0, .ref (ad 0)), (1, .int x), (2, .int (s1.1)), (3, .int (s1.2.1)), (4, .int (s1.2.2.1)), (5, .int (s1.2.2.2.1)), (6, .int (s1.2.2.2.2.1)), (7, .int (s1.2.2.2.2.2.1)), (8, .int (s1.2.2.2.2.2.2.1)), (9, .int (s1.2.2.2.2.2.2.2.1)), (10, .int (s1.2.2.2.2.2.2.2.2.1)), (11, .int (s1.2.2.2.2.2.2.2.2.2.1)), (12, .int (s1.2.2.2.2.2.2.2.2.2.2)), (13, .int (nI j1)), (14, .int t2)]) dL_lines_146 (by decide) rfl ?_
          refine g_iload C (i := 14) dL_lines_148 15 rfl ?_
          have J8 : ∀ (v7 : Int32), (if t2 < 0 then 0 else (if ((4 * t2) - (s1.1)) < (-12) then 0 else (if 12 < ((4 * t2) - (s1.1)) then 0 else 1))) = v7 → K σ φ 172 [(0, .ref (ad 0)), (1, .int x), (2, .int (s1.1)), (3, .int (s1.2.1)), (4, .int (s1.2.2.1)), (5, .int (s1.2.2.2.1)), (6, .int (s1.2.2.2.2.1)), (7, .int (s1.2.2.2.2.2.1)), (8, .int (s1.2.2.2.2.2.2.1)), (9, .int (s1.2.2.2.2.2.2.2.1)), (10, .int (s1.2.2.2.2.2.2.2.2.1)), (11, .int (s1.2.2.2.2.2.2.2.2.2.1)), (12, .int (s1.2.2.2.2.2.2.2.2.2.2)), (13, .int (nI j1)), (14, .int t2), (15, .int ((4 * t2) - (s1.1)))] [.int v7] := by
            intro v7 ev7
            refine g_istore C (i := 16) (lv' := [(16, .int v7), (0, .ref (ad 0)), (1, .int x), (2, .int (s1.1)), (3, .int (s1.2.1)), (4, .int (s1.2.2.1)), (5, .int (s1.2.2.2.1)), (6, .int (s1.2.2.2.2.1)), (7, .int (s1.2.2.2.2.2.1)), (8, .int (s1.2.2.2.2.2.2.1)), (9, .int (s1.2.2.2.2.2.2.2.1)), (10, .int (s1.2.2.2.2.2.2.2.2.1)), (11, .int (s1.2.2.2.2.2.2.2.2.2.1)), (12, .int (s1.2.2.2.2.2.2.2.2.2.2)), (13, .int (nI j1)), (14, .int t2), (15, .int ((4 * t2) - (s1.1)))]) dL_lines_172 (by decide) rfl ?_
            refine g_iload C (i := 16) dL_lines_174 0 rfl ?_
            have J11 : ∀ (v10 : Int32), (if v7 = 0 then (if t2 < 0 then (s1.1) else (if (s1.2.2.2.1) = 0 then (4 * t2) else (s1.1))) else (let v9 : Int32 := (s1.1) + (((4 * t2) - (s1.1)) / 2); v9)) = v10 → K σ φ 204 [(0, .ref (ad 0)), (1, .int x), (2, .int v10), (3, .int (s1.2.1)), (4, .int (s1.2.2.1)), (5, .int (s1.2.2.2.1)), (6, .int (s1.2.2.2.2.1)), (7, .int (s1.2.2.2.2.2.1)), (8, .int (s1.2.2.2.2.2.2.1)), (9, .int (s1.2.2.2.2.2.2.2.1)), (10, .int (s1.2.2.2.2.2.2.2.2.1)), (11, .int (s1.2.2.2.2.2.2.2.2.2.1)), (12, .int (s1.2.2.2.2.2.2.2.2.2.2)), (13, .int (nI j1)), (14, .int t2), (16, .int v7)] [] := by
              intro v10 ev10
              refine g_iload C (i := 16) dL_lines_204 15 rfl ?_
              have J13 : ∀ (v12 : Int32), (if v7 = 0 then 0 else ((s1.2.1) + 1)) = v12 → K σ φ 216 [(0, .ref (ad 0)), (1, .int x), (2, .int v10), (4, .int (s1.2.2.1)), (5, .int (s1.2.2.2.1)), (6, .int (s1.2.2.2.2.1)), (7, .int (s1.2.2.2.2.2.1)), (8, .int (s1.2.2.2.2.2.2.1)), (9, .int (s1.2.2.2.2.2.2.2.1)), (10, .int (s1.2.2.2.2.2.2.2.2.1)), (11, .int (s1.2.2.2.2.2.2.2.2.2.1)), (12, .int (s1.2.2.2.2.2.2.2.2.2.2)), (13, .int (nI j1)), (14, .int t2), (16, .int v7)] [.int v12] := by
                intro v12 ev12
                refine g_istore_n C (i := 3) (lv' := [(3, .int v12), (0, .ref (ad 0)), (1, .int x), (2, .int v10), (4, .int (s1.2.2.1)), (5, .int (s1.2.2.2.1)), (6, .int (s1.2.2.2.2.1)), (7, .int (s1.2.2.2.2.2.1)), (8, .int (s1.2.2.2.2.2.2.1)), (9, .int (s1.2.2.2.2.2.2.2.1)), (10, .int (s1.2.2.2.2.2.2.2.2.1)), (11, .int (s1.2.2.2.2.2.2.2.2.2.1)), (12, .int (s1.2.2.2.2.2.2.2.2.2.2)), (13, .int (nI j1)), (14, .int t2), (16, .int v7)]) dL_lines_216 rfl (by decide) rfl ?_
                refine g_iload C (i := 16) dL_lines_217 15 rfl ?_
                have J15 : ∀ (v14 : Int32), (if v7 = 0 then ((s1.2.2.1) + 1) else 0) = v14 → K σ φ 230 [(0, .ref (ad 0)), (1, .int x), (2, .int v10), (3, .int v12), (5, .int (s1.2.2.2.1)), (6, .int (s1.2.2.2.2.1)), (7, .int (s1.2.2.2.2.2.1)), (8, .int (s1.2.2.2.2.2.2.1)), (9, .int (s1.2.2.2.2.2.2.2.1)), (10, .int (s1.2.2.2.2.2.2.2.2.1)), (11, .int (s1.2.2.2.2.2.2.2.2.2.1)), (12, .int (s1.2.2.2.2.2.2.2.2.2.2)), (13, .int (nI j1)), (14, .int t2)] [.int v14] := by
                  intro v14 ev14
                  refine g_istore C (i := 4) (lv' := [(4, .int v14), (0, .ref (ad 0)), (1, .int x), (2, .int v10), (3, .int v12), (5, .int (s1.2.2.2.1)), (6, .int (s1.2.2.2.2.1)), (7, .int (s1.2.2.2.2.2.1)), (8, .int (s1.2.2.2.2.2.2.1)), (9, .int (s1.2.2.2.2.2.2.2.1)), (10, .int (s1.2.2.2.2.2.2.2.2.1)), (11, .int (s1.2.2.2.2.2.2.2.2.2.1)), (12, .int (s1.2.2.2.2.2.2.2.2.2.2)), (13, .int (nI j1)), (14, .int t2)]) dL_lines_230 (by decide) rfl ?_
                  refine g_iload C (i := 5) dL_lines_232 5 rfl ?_
                  have J17 : ∀ (v16 : Int32), (if (s1.2.2.2.1) = 0 then (if v12 < 2 then 0 else (if 4 ≤ v14 then 0 else 1)) else (if 4 ≤ v14 then 0 else 1)) = v16 → K σ φ 253 [(0, .ref (ad 0)), (1, .int x), (2, .int v10), (3, .int v12), (4, .int v14), (6, .int (s1.2.2.2.2.1)), (7, .int (s1.2.2.2.2.2.1)), (8, .int (s1.2.2.2.2.2.2.1)), (9, .int (s1.2.2.2.2.2.2.2.1)), (10, .int (s1.2.2.2.2.2.2.2.2.1)), (11, .int (s1.2.2.2.2.2.2.2.2.2.1)), (12, .int (s1.2.2.2.2.2.2.2.2.2.2)), (13, .int (nI j1)), (14, .int t2)] [.int v16] := by
                    intro v16 ev16
                    refine g_istore C (i := 5) (lv' := [(5, .int v16), (0, .ref (ad 0)), (1, .int x), (2, .int v10), (3, .int v12), (4, .int v14), (6, .int (s1.2.2.2.2.1)), (7, .int (s1.2.2.2.2.2.1)), (8, .int (s1.2.2.2.2.2.2.1)), (9, .int (s1.2.2.2.2.2.2.2.1)), (10, .int (s1.2.2.2.2.2.2.2.2.1)), (11, .int (s1.2.2.2.2.2.2.2.2.2.1)), (12, .int (s1.2.2.2.2.2.2.2.2.2.2)), (13, .int (nI j1)), (14, .int t2)]) dL_lines_253 (by decide) rfl ?_
                    refine g_iload C (i := 9) dL_lines_255 9 rfl ?_
                    refine g_iload C (i := 5) dL_lines_257 0 rfl ?_
                    have J19 : ∀ (v18 : Int32), (if v16 = 0 then 0 else 1) = v18 → K σ φ 267 [(0, .ref (ad 0)), (1, .int x), (2, .int v10), (3, .int v12), (4, .int v14), (5, .int v16), (6, .int (s1.2.2.2.2.1)), (7, .int (s1.2.2.2.2.2.1)), (8, .int (s1.2.2.2.2.2.2.1)), (10, .int (s1.2.2.2.2.2.2.2.2.1)), (11, .int (s1.2.2.2.2.2.2.2.2.2.1)), (12, .int (s1.2.2.2.2.2.2.2.2.2.2)), (13, .int (nI j1)), (14, .int t2)] [.int v18, .int (s1.2.2.2.2.2.2.2.1)] := by
                      intro v18 ev18
                      refine g_iadd C dL_lines_267 ?_
                      refine g_nmi C (fun v20 ev20 => ?_)
                      refine g_istore C (i := 9) (lv' := [(9, .int v20), (0, .ref (ad 0)), (1, .int x), (2, .int v10), (3, .int v12), (4, .int v14), (5, .int v16), (6, .int (s1.2.2.2.2.1)), (7, .int (s1.2.2.2.2.2.1)), (8, .int (s1.2.2.2.2.2.2.1)), (10, .int (s1.2.2.2.2.2.2.2.2.1)), (11, .int (s1.2.2.2.2.2.2.2.2.2.1)), (12, .int (s1.2.2.2.2.2.2.2.2.2.2)), (13, .int (nI j1)), (14, .int t2)]) dL_lines_268 (by decide) rfl ?_
                      refine g_iload C (i := 5) dL_lines_270 6 rfl ?_
                      have J22 : ∀ (v21 : Int32), (if v16 = 0 then (if 0 ≤ t2 then t2 else (f_L_floor (v10 + 2) 4)) else (f_L_floor (v10 + 2) 4)) = v21 → K σ φ 292 [(0, .ref (ad 0)), (1, .int x), (2, .int v10), (3, .int v12), (4, .int v14), (5, .int v16), (6, .int (s1.2.2.2.2.1)), (7, .int (s1.2.2.2.2.2.1)), (8, .int (s1.2.2.2.2.2.2.1)), (9, .int v20), (10, .int (s1.2.2.2.2.2.2.2.2.1)), (11, .int (s1.2.2.2.2.2.2.2.2.2.1)), (12, .int (s1.2.2.2.2.2.2.2.2.2.2)), (13, .int (nI j1)), (14, .int t2)] [.int v21] := by
                        intro v21 ev21
                        refine g_istore C (i := 17) (lv' := [(17, .int v21), (0, .ref (ad 0)), (1, .int x), (2, .int v10), (3, .int v12), (4, .int v14), (5, .int v16), (6, .int (s1.2.2.2.2.1)), (7, .int (s1.2.2.2.2.2.1)), (8, .int (s1.2.2.2.2.2.2.1)), (9, .int v20), (10, .int (s1.2.2.2.2.2.2.2.2.1)), (11, .int (s1.2.2.2.2.2.2.2.2.2.1)), (12, .int (s1.2.2.2.2.2.2.2.2.2.2)), (13, .int (nI j1)), (14, .int t2)]) dL_lines_292 (by decide) rfl ?_
                        refine g_iconst C (v := 0) dL_lines_294 (by decide) ?_
                        refine g_istore C (i := 18) (lv' := [(18, .int 0), (17, .int v21), (0, .ref (ad 0)), (1, .int x), (2, .int v10), (3, .int v12), (4, .int v14), (5, .int v16), (6, .int (s1.2.2.2.2.1)), (7, .int (s1.2.2.2.2.2.1)), (8, .int (s1.2.2.2.2.2.2.1)), (9, .int v20), (10, .int (s1.2.2.2.2.2.2.2.2.1)), (11, .int (s1.2.2.2.2.2.2.2.2.2.1)), (12, .int (s1.2.2.2.2.2.2.2.2.2.2)), (13, .int (nI j1)), (14, .int t2)]) dL_lines_295 (by decide) rfl ?_
                        refine g_iconst C (v := 0) dL_lines_297 (by decide) ?_
                        refine g_istore C (i := 19) (lv' := [(19, .int 0), (18, .int 0), (17, .int v21), (0, .ref (ad 0)), (1, .int x), (2, .int v10), (3, .int v12), (4, .int v14), (5, .int v16), (6, .int (s1.2.2.2.2.1)), (7, .int (s1.2.2.2.2.2.1)), (8, .int (s1.2.2.2.2.2.2.1)), (9, .int v20), (10, .int (s1.2.2.2.2.2.2.2.2.1)), (11, .int (s1.2.2.2.2.2.2.2.2.2.1)), (12, .int (s1.2.2.2.2.2.2.2.2.2.2)), (13, .int (nI j1)), (14, .int t2)]) dL_lines_298 (by decide) rfl ?_
                        refine g_iload C (i := 17) dL_lines_300 2 rfl ?_
                        refine g_bipush C (v := 8) dL_lines_302 (by decide) ?_
                        refine g_iadd C dL_lines_304 ?_
                        refine g_istore C (i := 20) (lv' := [(20, .int (v21 + 8)), (19, .int 0), (18, .int 0), (17, .int v21), (0, .ref (ad 0)), (1, .int x), (2, .int v10), (3, .int v12), (4, .int v14), (5, .int v16), (6, .int (s1.2.2.2.2.1)), (7, .int (s1.2.2.2.2.2.1)), (8, .int (s1.2.2.2.2.2.2.1)), (9, .int v20), (10, .int (s1.2.2.2.2.2.2.2.2.1)), (11, .int (s1.2.2.2.2.2.2.2.2.2.1)), (12, .int (s1.2.2.2.2.2.2.2.2.2.2)), (13, .int (nI j1)), (14, .int t2)]) dL_lines_305 (by decide) rfl ?_
                        refine g_loc C (lv' := [(0, .ref (ad 0)), (1, .int x), (2, .int v10), (3, .int v12), (4, .int v14), (5, .int v16), (6, .int (s1.2.2.2.2.1)), (7, .int (s1.2.2.2.2.2.1)), (8, .int (s1.2.2.2.2.2.2.1)), (9, .int v20), (10, .int (s1.2.2.2.2.2.2.2.2.1)), (11, .int (s1.2.2.2.2.2.2.2.2.2.1)), (12, .int (s1.2.2.2.2.2.2.2.2.2.2)), (13, .int (nI j1)), (14, .int t2), (17, .int v21), (18, .int 0), (19, .int 0), (20, .int (v21 + 8))]) [4, 5, 6, 7, 8, 9, 10, 11, 12, 13, 14, 15, 16, 17, 18, 3, 2, 1, 0] rfl ?_
                        refine g_lvq C (lv' := [(0, .ref (ad 0)), (1, .int x), (2, .int v10), (3, .int v12), (4, .int v14), (5, .int v16), (6, .int (s1.2.2.2.2.1)), (7, .int (s1.2.2.2.2.2.1)), (8, .int (s1.2.2.2.2.2.2.1)), (9, .int v20), (10, .int (s1.2.2.2.2.2.2.2.2.1)), (11, .int (s1.2.2.2.2.2.2.2.2.2.1)), (12, .int (s1.2.2.2.2.2.2.2.2.2.2)), (13, .int (nI j1)), (14, .int t2), (17, .int v21), (18, .int 0), (19, .int 0), (20, .int ((v21 + 8) + nI 0))]) (by rw [nI_s0]) ?_
                        refine loopF_ind (b_L_lines_307 σ j1 v21) (cnt8 (v21 + 8)) (fun (j23 : Nat) (s23 : Int32 × Int32) => K σ φ 307 [(0, .ref (ad 0)), (1, .int x), (2, .int v10), (3, .int v12), (4, .int v14), (5, .int v16), (6, .int (s1.2.2.2.2.1)), (7, .int (s1.2.2.2.2.2.1)), (8, .int (s1.2.2.2.2.2.2.1)), (9, .int v20), (10, .int (s1.2.2.2.2.2.2.2.2.1)), (11, .int (s1.2.2.2.2.2.2.2.2.2.1)), (12, .int (s1.2.2.2.2.2.2.2.2.2.2)), (13, .int (nI j1)), (14, .int t2), (17, .int v21), (18, .int (s23.1)), (19, .int (s23.2)), (20, .int ((v21 + 8) + nI j23))] []) (0, 0) ?_ ?_
                        · intro j23 s23 hj23 kk
                          change K σ φ 307 [(0, .ref (ad 0)), (1, .int x), (2, .int v10), (3, .int v12), (4, .int v14), (5, .int v16), (6, .int (s1.2.2.2.2.1)), (7, .int (s1.2.2.2.2.2.1)), (8, .int (s1.2.2.2.2.2.2.1)), (9, .int v20), (10, .int (s1.2.2.2.2.2.2.2.2.1)), (11, .int (s1.2.2.2.2.2.2.2.2.2.1)), (12, .int (s1.2.2.2.2.2.2.2.2.2.2)), (13, .int (nI j1)), (14, .int t2), (17, .int v21), (18, .int (s23.1)), (19, .int (s23.2)), (20, .int ((v21 + 8) + nI j23))] []
                          refine g_iload C (i := 20) dL_lines_307 18 rfl ?_
                          refine g_iload C (i := 17) dL_lines_309 15 rfl ?_
                          refine g_bipush C (v := 16) dL_lines_311 (by decide) ?_
                          refine g_iadd C dL_lines_313 ?_
                          refine g_icmp_ge C (tgt := 371) dL_lines_314 (by decide) (fun h24 => ?_) (fun h24 => ?_)
                          · have q := h24; rw [c16_eq] at q; exact absurd q (c8_step hj23)
                          · refine g_iload C (i := 18) dL_lines_317 16 rfl ?_
                            refine g_aload_n C (i := 0) dL_lines_319 rfl 0 rfl ?_
                            refine g_iload C (i := 13) dL_lines_320 13 rfl ?_
                            refine g_iload C (i := 20) dL_lines_322 18 rfl ?_
                            refine g_callS C (st := [.int (s23.1)]) (c_L_at l D ad dA z0 tt σ φ (nI j1) ((v21 + 8) + nI j23)) rfl ml_L_22 sm_L_at in_L co_L_at dyS_L_at rfl rfl ⟨(Nat.le_of_ble_eq_true rfl), (Nat.le_of_ble_eq_true rfl)⟩ dL_lines_324 rfl (Nat.le_of_ble_eq_true rfl) (g_fni ?_)
                            refine g_iload C (i := 20) dL_lines_327 18 rfl ?_
                            refine g_iconst C (v := 2) dL_lines_329 (by decide) ?_
                            refine g_iload C (i := 13) dL_lines_330 13 rfl ?_
                            refine g_imul C dL_lines_332 ?_
                            refine g_iadd C dL_lines_333 ?_
                            refine g_callS C (st := [.int (f_L_at σ (nI j1) ((v21 + 8) + nI j23)), .int (s23.1)]) (c_L_sine l D ad dA z0 tt σ φ (((v21 + 8) + nI j23) + (2 * (nI j1)))) rfl ml_L_15 sm_L_sine in_L co_L_sine dyS_L_sine rfl rfl ⟨(Nat.le_of_ble_eq_true rfl), (Nat.le_of_ble_eq_true rfl)⟩ dL_lines_334 rfl (Nat.le_of_ble_eq_true rfl) (g_fni ?_)
                            refine g_imul C dL_lines_337 ?_
                            refine g_iadd C dL_lines_338 ?_
                            refine g_nmi C (fun v24 ev24 => ?_)
                            refine g_istore C (i := 18) (lv' := [(18, .int v24), (0, .ref (ad 0)), (1, .int x), (2, .int v10), (3, .int v12), (4, .int v14), (5, .int v16), (6, .int (s1.2.2.2.2.1)), (7, .int (s1.2.2.2.2.2.1)), (8, .int (s1.2.2.2.2.2.2.1)), (9, .int v20), (10, .int (s1.2.2.2.2.2.2.2.2.1)), (11, .int (s1.2.2.2.2.2.2.2.2.2.1)), (12, .int (s1.2.2.2.2.2.2.2.2.2.2)), (13, .int (nI j1)), (14, .int t2), (17, .int v21), (19, .int (s23.2)), (20, .int ((v21 + 8) + nI j23))]) dL_lines_339 (by decide) rfl ?_
                            refine g_iload C (i := 19) dL_lines_341 17 rfl ?_
                            refine g_aload_n C (i := 0) dL_lines_343 rfl 1 rfl ?_
                            refine g_iload C (i := 13) dL_lines_344 14 rfl ?_
                            refine g_iload C (i := 20) dL_lines_346 18 rfl ?_
                            refine g_callS C (st := [.int (s23.2)]) (c_L_at l D ad dA z0 tt σ φ (nI j1) ((v21 + 8) + nI j23)) rfl ml_L_22 sm_L_at in_L co_L_at dyS_L_at rfl rfl ⟨(Nat.le_of_ble_eq_true rfl), (Nat.le_of_ble_eq_true rfl)⟩ dL_lines_348 rfl (Nat.le_of_ble_eq_true rfl) (g_fni ?_)
                            refine g_iload C (i := 20) dL_lines_351 18 rfl ?_
                            refine g_iconst C (v := 2) dL_lines_353 (by decide) ?_
                            refine g_iload C (i := 13) dL_lines_354 14 rfl ?_
                            refine g_imul C dL_lines_356 ?_
                            refine g_iadd C dL_lines_357 ?_
                            refine g_callS C (st := [.int (f_L_at σ (nI j1) ((v21 + 8) + nI j23)), .int (s23.2)]) (c_L_cosine l D ad dA z0 tt σ φ (((v21 + 8) + nI j23) + (2 * (nI j1)))) rfl ml_L_29 sm_L_cosine in_L co_L_cosine dyS_L_cosine rfl rfl ⟨(Nat.le_of_ble_eq_true rfl), (Nat.le_of_ble_eq_true rfl)⟩ dL_lines_358 rfl (Nat.le_of_ble_eq_true rfl) (g_fni ?_)
                            refine g_imul C dL_lines_361 ?_
                            refine g_iadd C dL_lines_362 ?_
                            refine g_nmi C (fun v25 ev25 => ?_)
                            refine g_istore C (i := 19) (lv' := [(19, .int v25), (18, .int v24), (0, .ref (ad 0)), (1, .int x), (2, .int v10), (3, .int v12), (4, .int v14), (5, .int v16), (6, .int (s1.2.2.2.2.1)), (7, .int (s1.2.2.2.2.2.1)), (8, .int (s1.2.2.2.2.2.2.1)), (9, .int v20), (10, .int (s1.2.2.2.2.2.2.2.2.1)), (11, .int (s1.2.2.2.2.2.2.2.2.2.1)), (12, .int (s1.2.2.2.2.2.2.2.2.2.2)), (13, .int (nI j1)), (14, .int t2), (17, .int v21), (20, .int ((v21 + 8) + nI j23))]) dL_lines_363 (by decide) rfl ?_
                            refine g_iinc C (i := 20) (v := (v21 + 8) + nI (j23 + 1)) (lv' := [(20, .int ((v21 + 8) + nI (j23 + 1))), (19, .int v25), (18, .int v24), (0, .ref (ad 0)), (1, .int x), (2, .int v10), (3, .int v12), (4, .int v14), (5, .int v16), (6, .int (s1.2.2.2.2.1)), (7, .int (s1.2.2.2.2.2.1)), (8, .int (s1.2.2.2.2.2.2.1)), (9, .int v20), (10, .int (s1.2.2.2.2.2.2.2.2.1)), (11, .int (s1.2.2.2.2.2.2.2.2.2.1)), (12, .int (s1.2.2.2.2.2.2.2.2.2.2)), (13, .int (nI j1)), (14, .int t2), (17, .int v21)]) dL_lines_365 18 rfl (nI_1s _ _) (by decide) rfl ?_
                            refine g_goto C (tgt := 307) dL_lines_368 (by decide) ?_
                            refine g_loc C [3, 4, 5, 6, 7, 8, 9, 10, 11, 12, 13, 14, 15, 16, 17, 18, 2, 1, 0] rfl ?_
                            refine kk (v24, v25) ?_
                            subst ev25
                            subst ev24
                            exact b_L_lines_307_eq _ _ _ _ _
                        · generalize et23 : loopF (b_L_lines_307 σ j1 v21) (cnt8 (v21 + 8)) (0, 0) = t23
                          change K σ φ 307 [(0, .ref (ad 0)), (1, .int x), (2, .int v10), (3, .int v12), (4, .int v14), (5, .int v16), (6, .int (s1.2.2.2.2.1)), (7, .int (s1.2.2.2.2.2.1)), (8, .int (s1.2.2.2.2.2.2.1)), (9, .int v20), (10, .int (s1.2.2.2.2.2.2.2.2.1)), (11, .int (s1.2.2.2.2.2.2.2.2.2.1)), (12, .int (s1.2.2.2.2.2.2.2.2.2.2)), (13, .int (nI j1)), (14, .int t2), (17, .int v21), (18, .int (t23.1)), (19, .int (t23.2)), (20, .int ((v21 + 8) + nI (cnt8 (v21 + 8))))] []
                          refine g_iload C (i := 20) dL_lines_307 18 rfl ?_
                          refine g_iload C (i := 17) dL_lines_309 15 rfl ?_
                          refine g_bipush C (v := 16) dL_lines_311 (by decide) ?_
                          refine g_iadd C dL_lines_313 ?_
                          refine g_icmp_ge C (tgt := 371) dL_lines_314 (by decide) (fun h25 => ?_) (fun h25 => ?_)
                          · refine g_iload C (i := 18) dL_lines_371 16 rfl ?_
                            refine g_callS C (st := []) (c_L_size l D ad dA z0 tt σ φ (t23.1)) rfl ml_L_32 sm_L_size in_L co_L_size dyS_L_size rfl rfl ⟨(Nat.le_of_ble_eq_true rfl), (Nat.le_of_ble_eq_true rfl)⟩ dL_lines_373 rfl (Nat.le_of_ble_eq_true rfl) (g_fni ?_)
                            refine g_iload C (i := 19) dL_lines_376 17 rfl ?_
                            refine g_callS C (st := [.int (f_L_size (t23.1))]) (c_L_size l D ad dA z0 tt σ φ (t23.2)) rfl ml_L_32 sm_L_size in_L co_L_size dyS_L_size rfl rfl ⟨(Nat.le_of_ble_eq_true rfl), (Nat.le_of_ble_eq_true rfl)⟩ dL_lines_378 rfl (Nat.le_of_ble_eq_true rfl) (g_fni ?_)
                            refine g_iadd C dL_lines_381 ?_
                            refine g_iconst C (v := 4) dL_lines_382 (by decide) ?_
                            refine g_aload_n C (i := 0) dL_lines_383 rfl 0 rfl ?_
                            refine g_bipush C (v := 15) dL_lines_384 (by decide) ?_
                            refine g_callV C (st := [.int 4, .int ((f_L_size (t23.1)) + (f_L_size (t23.2)))]) (c_X10_count l D ad dA z0 tt σ φ 15) rfl ml_L_35 im_X10_count se_X10_count in_X10 co_X10_count dyV_X10_count rfl rfl ⟨(Nat.le_of_ble_eq_true rfl), (Nat.le_of_ble_eq_true rfl)⟩ 0 10 (fun f => at_0 ad dA σ f) rfl dL_lines_386 rfl (Nat.le_of_ble_eq_true rfl) (g_fni ?_)
                            refine g_imul C dL_lines_389 ?_
                            have J27 : ∀ (v26 : Int32), (if ((f_L_size (t23.1)) + (f_L_size (t23.2))) < (4 * (f_X10_count σ 15)) then 0 else 1) = v26 → K σ φ 398 [(0, .ref (ad 0)), (1, .int x), (2, .int v10), (3, .int v12), (4, .int v14), (5, .int v16), (6, .int (s1.2.2.2.2.1)), (7, .int (s1.2.2.2.2.2.1)), (8, .int (s1.2.2.2.2.2.2.1)), (9, .int v20), (10, .int (s1.2.2.2.2.2.2.2.2.1)), (11, .int (s1.2.2.2.2.2.2.2.2.2.1)), (12, .int (s1.2.2.2.2.2.2.2.2.2.2)), (13, .int (nI j1)), (14, .int t2), (17, .int v21), (18, .int (t23.1)), (19, .int (t23.2))] [.int v26] := by
                              intro v26 ev26
                              refine g_istore C (i := 20) (lv' := [(20, .int v26), (0, .ref (ad 0)), (1, .int x), (2, .int v10), (3, .int v12), (4, .int v14), (5, .int v16), (6, .int (s1.2.2.2.2.1)), (7, .int (s1.2.2.2.2.2.1)), (8, .int (s1.2.2.2.2.2.2.1)), (9, .int v20), (10, .int (s1.2.2.2.2.2.2.2.2.1)), (11, .int (s1.2.2.2.2.2.2.2.2.2.1)), (12, .int (s1.2.2.2.2.2.2.2.2.2.2)), (13, .int (nI j1)), (14, .int t2), (17, .int v21), (18, .int (t23.1)), (19, .int (t23.2))]) dL_lines_398 (by decide) rfl ?_
                              refine g_iload C (i := 20) dL_lines_400 0 rfl ?_
                              have J29 : ∀ (v28 : Int32), (if v26 = 0 then 0 else ((s1.2.2.2.2.1) + 1)) = v28 → K σ φ 413 [(0, .ref (ad 0)), (1, .int x), (2, .int v10), (3, .int v12), (4, .int v14), (5, .int v16), (7, .int (s1.2.2.2.2.2.1)), (8, .int (s1.2.2.2.2.2.2.1)), (9, .int v20), (10, .int (s1.2.2.2.2.2.2.2.2.1)), (11, .int (s1.2.2.2.2.2.2.2.2.2.1)), (12, .int (s1.2.2.2.2.2.2.2.2.2.2)), (13, .int (nI j1)), (14, .int t2), (17, .int v21), (18, .int (t23.1)), (19, .int (t23.2)), (20, .int v26)] [.int v28] := by
                                intro v28 ev28
                                refine g_istore C (i := 6) (lv' := [(6, .int v28), (0, .ref (ad 0)), (1, .int x), (2, .int v10), (3, .int v12), (4, .int v14), (5, .int v16), (7, .int (s1.2.2.2.2.2.1)), (8, .int (s1.2.2.2.2.2.2.1)), (9, .int v20), (10, .int (s1.2.2.2.2.2.2.2.2.1)), (11, .int (s1.2.2.2.2.2.2.2.2.2.1)), (12, .int (s1.2.2.2.2.2.2.2.2.2.2)), (13, .int (nI j1)), (14, .int t2), (17, .int v21), (18, .int (t23.1)), (19, .int (t23.2)), (20, .int v26)]) dL_lines_413 (by decide) rfl ?_
                                refine g_iload C (i := 20) dL_lines_415 18 rfl ?_
                                have J31 : ∀ (v30 : Int32), (if v26 = 0 then ((s1.2.2.2.2.2.1) + 1) else 0) = v30 → K σ φ 428 [(0, .ref (ad 0)), (1, .int x), (2, .int v10), (3, .int v12), (4, .int v14), (5, .int v16), (6, .int v28), (8, .int (s1.2.2.2.2.2.2.1)), (9, .int v20), (10, .int (s1.2.2.2.2.2.2.2.2.1)), (11, .int (s1.2.2.2.2.2.2.2.2.2.1)), (12, .int (s1.2.2.2.2.2.2.2.2.2.2)), (13, .int (nI j1)), (14, .int t2), (17, .int v21), (18, .int (t23.1)), (19, .int (t23.2)), (20, .int v26)] [.int v30] := by
                                  intro v30 ev30
                                  refine g_istore C (i := 7) (lv' := [(7, .int v30), (0, .ref (ad 0)), (1, .int x), (2, .int v10), (3, .int v12), (4, .int v14), (5, .int v16), (6, .int v28), (8, .int (s1.2.2.2.2.2.2.1)), (9, .int v20), (10, .int (s1.2.2.2.2.2.2.2.2.1)), (11, .int (s1.2.2.2.2.2.2.2.2.2.1)), (12, .int (s1.2.2.2.2.2.2.2.2.2.2)), (13, .int (nI j1)), (14, .int t2), (17, .int v21), (18, .int (t23.1)), (19, .int (t23.2)), (20, .int v26)]) dL_lines_428 (by decide) rfl ?_
                                  refine g_iload C (i := 7) dL_lines_430 0 rfl ?_
                                  refine g_iconst C (v := 2) dL_lines_432 (by decide) ?_
                                  have J33 : ∀ (v32 : Int32), (if 2 ≤ v30 then 0 else (if (s1.2.2.2.2.2.2.1) = 0 then (if v28 ≤ 1 then 0 else 1) else 1)) = v32 → K σ φ 452 [(0, .ref (ad 0)), (1, .int x), (2, .int v10), (3, .int v12), (4, .int v14), (5, .int v16), (6, .int v28), (7, .int v30), (9, .int v20), (10, .int (s1.2.2.2.2.2.2.2.2.1)), (11, .int (s1.2.2.2.2.2.2.2.2.2.1)), (12, .int (s1.2.2.2.2.2.2.2.2.2.2)), (13, .int (nI j1)), (14, .int t2), (17, .int v21), (18, .int (t23.1)), (19, .int (t23.2)), (20, .int v26)] [.int v32] := by
                                    intro v32 ev32
                                    refine g_istore C (i := 8) (lv' := [(8, .int v32), (0, .ref (ad 0)), (1, .int x), (2, .int v10), (3, .int v12), (4, .int v14), (5, .int v16), (6, .int v28), (7, .int v30), (9, .int v20), (10, .int (s1.2.2.2.2.2.2.2.2.1)), (11, .int (s1.2.2.2.2.2.2.2.2.2.1)), (12, .int (s1.2.2.2.2.2.2.2.2.2.2)), (13, .int (nI j1)), (14, .int t2), (17, .int v21), (18, .int (t23.1)), (19, .int (t23.2)), (20, .int v26)]) dL_lines_452 (by decide) rfl ?_
                                    refine g_iload C (i := 10) dL_lines_454 10 rfl ?_
                                    refine g_iload C (i := 8) dL_lines_456 0 rfl ?_
                                    have J35 : ∀ (v34 : Int32), (if v32 = 0 then 0 else 1) = v34 → K σ φ 466 [(0, .ref (ad 0)), (1, .int x), (2, .int v10), (3, .int v12), (4, .int v14), (5, .int v16), (6, .int v28), (7, .int v30), (8, .int v32), (9, .int v20), (11, .int (s1.2.2.2.2.2.2.2.2.2.1)), (12, .int (s1.2.2.2.2.2.2.2.2.2.2)), (13, .int (nI j1)), (14, .int t2), (17, .int v21), (18, .int (t23.1)), (19, .int (t23.2)), (20, .int v26)] [.int v34, .int (s1.2.2.2.2.2.2.2.2.1)] := by
                                      intro v34 ev34
                                      refine g_iadd C dL_lines_466 ?_
                                      refine g_nmi C (fun v36 ev36 => ?_)
                                      refine g_istore C (i := 10) (lv' := [(10, .int v36), (0, .ref (ad 0)), (1, .int x), (2, .int v10), (3, .int v12), (4, .int v14), (5, .int v16), (6, .int v28), (7, .int v30), (8, .int v32), (9, .int v20), (11, .int (s1.2.2.2.2.2.2.2.2.2.1)), (12, .int (s1.2.2.2.2.2.2.2.2.2.2)), (13, .int (nI j1)), (14, .int t2), (17, .int v21), (18, .int (t23.1)), (19, .int (t23.2)), (20, .int v26)]) dL_lines_467 (by decide) rfl ?_
                                      refine g_aload_n C (i := 0) dL_lines_469 rfl 1 rfl ?_
                                      refine g_iload C (i := 13) dL_lines_470 13 rfl ?_
                                      refine g_iconst C (v := 0) dL_lines_472 (by decide) ?_
                                      refine g_callV C (st := []) (c_X10_line l D ad dA z0 tt σ φ (nI j1) 0) rfl ml_L_38 im_X10_line se_X10_line in_X10 co_X10_line dyV_X10_line rfl rfl ⟨(Nat.le_of_ble_eq_true rfl), (Nat.le_of_ble_eq_true rfl)⟩ 0 10 (fun f => at_0 ad dA σ f) rfl dL_lines_473 rfl (Nat.le_of_ble_eq_true rfl) (g_fni ?_)
                                      refine g_iload C (i := 14) dL_lines_476 14 rfl ?_
                                      refine g_icmp_ne C (tgt := 603) dL_lines_478 (by decide) (fun h33 => ?_) (fun h33 => ?_)
                                      · refine g_iconst C (v := 0) dL_lines_603 (by decide) ?_
                                        have e0 : f_L_lines σ x = 0 := by
                                          subst ev36
                                          subst ev34
                                          subst ev32
                                          subst ev30
                                          subst ev28
                                          subst ev26
                                          subst et23
                                          subst ev21
                                          subst ev20
                                          subst ev18
                                          subst ev16
                                          subst ev14
                                          subst ev12
                                          subst ev10
                                          subst ev7
                                          subst et2
                                          have eF := hF1.trans (loopE_inl n1 ((b_L_lines_35_eq _ _ _).trans (if_neg h33)))
                                          exact ((f_L_lines_eq _ _).trans (sumE_inl eF))
                                        exact hi _ _ _ _ _ _ rfl dL_lines_604 (lv_narrowZ (Or.inl rfl)).1 ⟨(congrArg (fun z => some (Value.int z)) e0).symm, rfl, rfl⟩
                                      · refine g_aload_n C (i := 0) dL_lines_481 rfl 1 rfl ?_
                                        refine g_iload C (i := 13) dL_lines_482 13 rfl ?_
                                        refine g_iconst C (v := 1) dL_lines_484 (by decide) ?_
                                        refine g_callV C (st := []) (c_X10_line l D ad dA z0 tt σ φ (nI j1) 1) rfl ml_L_38 im_X10_line se_X10_line in_X10 co_X10_line dyV_X10_line rfl rfl ⟨(Nat.le_of_ble_eq_true rfl), (Nat.le_of_ble_eq_true rfl)⟩ 0 10 (fun f => at_0 ad dA σ f) rfl dL_lines_485 rfl (Nat.le_of_ble_eq_true rfl) (g_fni ?_)
                                        refine g_iload C (i := 17) dL_lines_488 15 rfl ?_
                                        refine g_icmp_ne C (tgt := 603) dL_lines_490 (by decide) (fun h34 => ?_) (fun h34 => ?_)
                                        · refine g_iconst C (v := 0) dL_lines_603 (by decide) ?_
                                          have e0 : f_L_lines σ x = 0 := by
                                            subst ev36
                                            subst ev34
                                            subst ev32
                                            subst ev30
                                            subst ev28
                                            subst ev26
                                            subst et23
                                            subst ev21
                                            subst ev20
                                            subst ev18
                                            subst ev16
                                            subst ev14
                                            subst ev12
                                            subst ev10
                                            subst ev7
                                            subst et2
                                            have eF := hF1.trans (loopE_inl n1 ((b_L_lines_35_eq _ _ _).trans ((if_pos h33).trans (if_neg h34))))
                                            exact ((f_L_lines_eq _ _).trans (sumE_inl eF))
                                          exact hi _ _ _ _ _ _ rfl dL_lines_604 (lv_narrowZ (Or.inl rfl)).1 ⟨(congrArg (fun z => some (Value.int z)) e0).symm, rfl, rfl⟩
                                        · refine g_aload_n C (i := 0) dL_lines_493 rfl 1 rfl ?_
                                          refine g_iload C (i := 13) dL_lines_494 13 rfl ?_
                                          refine g_iconst C (v := 2) dL_lines_496 (by decide) ?_
                                          refine g_callV C (st := []) (c_X10_line l D ad dA z0 tt σ φ (nI j1) 2) rfl ml_L_38 im_X10_line se_X10_line in_X10 co_X10_line dyV_X10_line rfl rfl ⟨(Nat.le_of_ble_eq_true rfl), (Nat.le_of_ble_eq_true rfl)⟩ 0 10 (fun f => at_0 ad dA σ f) rfl dL_lines_497 rfl (Nat.le_of_ble_eq_true rfl) (g_fni ?_)
                                          refine g_iload C (i := 5) dL_lines_500 6 rfl ?_
                                          have J38 : ∀ (v37 : Int32), (if v16 = 0 then 0 else 1) = v37 → K σ φ 510 [(0, .ref (ad 0)), (1, .int x), (2, .int v10), (3, .int v12), (4, .int v14), (5, .int v16), (6, .int v28), (7, .int v30), (8, .int v32), (9, .int v20), (10, .int v36), (11, .int (s1.2.2.2.2.2.2.2.2.2.1)), (12, .int (s1.2.2.2.2.2.2.2.2.2.2)), (13, .int (nI j1)), (18, .int (t23.1)), (19, .int (t23.2)), (20, .int v26)] [.int v37, .int (f_X10_line σ (nI j1) 2)] := by
                                            intro v37 ev37
                                            refine g_icmp_ne C (tgt := 603) dL_lines_510 (by decide) (fun h36 => ?_) (fun h36 => ?_)
                                            · refine g_iconst C (v := 0) dL_lines_603 (by decide) ?_
                                              have e0 : f_L_lines σ x = 0 := by
                                                subst ev37
                                                subst ev36
                                                subst ev34
                                                subst ev32
                                                subst ev30
                                                subst ev28
                                                subst ev26
                                                subst et23
                                                subst ev21
                                                subst ev20
                                                subst ev18
                                                subst ev16
                                                subst ev14
                                                subst ev12
                                                subst ev10
                                                subst ev7
                                                subst et2
                                                have eF := hF1.trans (loopE_inl n1 ((b_L_lines_35_eq _ _ _).trans ((if_pos h33).trans ((if_pos h34).trans (if_neg h36)))))
                                                exact ((f_L_lines_eq _ _).trans (sumE_inl eF))
                                              exact hi _ _ _ _ _ _ rfl dL_lines_604 (lv_narrowZ (Or.inl rfl)).1 ⟨(congrArg (fun z => some (Value.int z)) e0).symm, rfl, rfl⟩
                                            · refine g_aload_n C (i := 0) dL_lines_513 rfl 0 rfl ?_
                                              refine g_iload C (i := 13) dL_lines_514 13 rfl ?_
                                              refine g_iconst C (v := 3) dL_lines_516 (by decide) ?_
                                              refine g_callV C (st := []) (c_X10_line l D ad dA z0 tt σ φ (nI j1) 3) rfl ml_L_38 im_X10_line se_X10_line in_X10 co_X10_line dyV_X10_line rfl rfl ⟨(Nat.le_of_ble_eq_true rfl), (Nat.le_of_ble_eq_true rfl)⟩ 0 10 (fun f => at_0 ad dA σ f) rfl dL_lines_517 rfl (Nat.le_of_ble_eq_true rfl) (g_fni ?_)
                                              refine g_iload C (i := 18) dL_lines_520 14 rfl ?_
                                              refine g_icmp_ne C (tgt := 603) dL_lines_522 (by decide) (fun h37 => ?_) (fun h37 => ?_)
                                              · refine g_iconst C (v := 0) dL_lines_603 (by decide) ?_
                                                have e0 : f_L_lines σ x = 0 := by
                                                  subst ev37
                                                  subst ev36
                                                  subst ev34
                                                  subst ev32
                                                  subst ev30
                                                  subst ev28
                                                  subst ev26
                                                  subst et23
                                                  subst ev21
                                                  subst ev20
                                                  subst ev18
                                                  subst ev16
                                                  subst ev14
                                                  subst ev12
                                                  subst ev10
                                                  subst ev7
                                                  subst et2
                                                  have eF := hF1.trans (loopE_inl n1 ((b_L_lines_35_eq _ _ _).trans ((if_pos h33).trans ((if_pos h34).trans ((if_pos h36).trans (if_neg h37))))))
                                                  exact ((f_L_lines_eq _ _).trans (sumE_inl eF))
                                                exact hi _ _ _ _ _ _ rfl dL_lines_604 (lv_narrowZ (Or.inl rfl)).1 ⟨(congrArg (fun z => some (Value.int z)) e0).symm, rfl, rfl⟩
                                              · refine g_aload_n C (i := 0) dL_lines_525 rfl 0 rfl ?_
                                                refine g_iload C (i := 13) dL_lines_526 13 rfl ?_
                                                refine g_iconst C (v := 4) dL_lines_528 (by decide) ?_
                                                refine g_callV C (st := []) (c_X10_line l D ad dA z0 tt σ φ (nI j1) 4) rfl ml_L_38 im_X10_line se_X10_line in_X10 co_X10_line dyV_X10_line rfl rfl ⟨(Nat.le_of_ble_eq_true rfl), (Nat.le_of_ble_eq_true rfl)⟩ 0 10 (fun f => at_0 ad dA σ f) rfl dL_lines_529 rfl (Nat.le_of_ble_eq_true rfl) (g_fni ?_)
                                                refine g_iload C (i := 19) dL_lines_532 15 rfl ?_
                                                refine g_icmp_ne C (tgt := 603) dL_lines_534 (by decide) (fun h38 => ?_) (fun h38 => ?_)
                                                · refine g_iconst C (v := 0) dL_lines_603 (by decide) ?_
                                                  have e0 : f_L_lines σ x = 0 := by
                                                    subst ev37
                                                    subst ev36
                                                    subst ev34
                                                    subst ev32
                                                    subst ev30
                                                    subst ev28
                                                    subst ev26
                                                    subst et23
                                                    subst ev21
                                                    subst ev20
                                                    subst ev18
                                                    subst ev16
                                                    subst ev14
                                                    subst ev12
                                                    subst ev10
                                                    subst ev7
                                                    subst et2
                                                    have eF := hF1.trans (loopE_inl n1 ((b_L_lines_35_eq _ _ _).trans ((if_pos h33).trans ((if_pos h34).trans ((if_pos h36).trans ((if_pos h37).trans (if_neg h38)))))))
                                                    exact ((f_L_lines_eq _ _).trans (sumE_inl eF))
                                                  exact hi _ _ _ _ _ _ rfl dL_lines_604 (lv_narrowZ (Or.inl rfl)).1 ⟨(congrArg (fun z => some (Value.int z)) e0).symm, rfl, rfl⟩
                                                · refine g_aload_n C (i := 0) dL_lines_537 rfl 0 rfl ?_
                                                  refine g_iload C (i := 13) dL_lines_538 13 rfl ?_
                                                  refine g_iconst C (v := 5) dL_lines_540 (by decide) ?_
                                                  refine g_callV C (st := []) (c_X10_line l D ad dA z0 tt σ φ (nI j1) 5) rfl ml_L_38 im_X10_line se_X10_line in_X10 co_X10_line dyV_X10_line rfl rfl ⟨(Nat.le_of_ble_eq_true rfl), (Nat.le_of_ble_eq_true rfl)⟩ 0 10 (fun f => at_0 ad dA σ f) rfl dL_lines_541 rfl (Nat.le_of_ble_eq_true rfl) (g_fni ?_)
                                                  refine g_iload C (i := 20) dL_lines_544 16 rfl ?_
                                                  have J40 : ∀ (v39 : Int32), (if v26 = 0 then 0 else 1) = v39 → K σ φ 554 [(0, .ref (ad 0)), (1, .int x), (2, .int v10), (3, .int v12), (4, .int v14), (5, .int v16), (6, .int v28), (7, .int v30), (8, .int v32), (9, .int v20), (10, .int v36), (11, .int (s1.2.2.2.2.2.2.2.2.2.1)), (12, .int (s1.2.2.2.2.2.2.2.2.2.2)), (13, .int (nI j1)), (19, .int (t23.2)), (20, .int v26)] [.int v39, .int (f_X10_line σ (nI j1) 5)] := by
                                                    intro v39 ev39
                                                    refine g_icmp_ne C (tgt := 603) dL_lines_554 (by decide) (fun h40 => ?_) (fun h40 => ?_)
                                                    · refine g_iconst C (v := 0) dL_lines_603 (by decide) ?_
                                                      have e0 : f_L_lines σ x = 0 := by
                                                        subst ev39
                                                        subst ev37
                                                        subst ev36
                                                        subst ev34
                                                        subst ev32
                                                        subst ev30
                                                        subst ev28
                                                        subst ev26
                                                        subst et23
                                                        subst ev21
                                                        subst ev20
                                                        subst ev18
                                                        subst ev16
                                                        subst ev14
                                                        subst ev12
                                                        subst ev10
                                                        subst ev7
                                                        subst et2
                                                        have eF := hF1.trans (loopE_inl n1 ((b_L_lines_35_eq _ _ _).trans ((if_pos h33).trans ((if_pos h34).trans ((if_pos h36).trans ((if_pos h37).trans ((if_pos h38).trans (if_neg h40))))))))
                                                        exact ((f_L_lines_eq _ _).trans (sumE_inl eF))
                                                      exact hi _ _ _ _ _ _ rfl dL_lines_604 (lv_narrowZ (Or.inl rfl)).1 ⟨(congrArg (fun z => some (Value.int z)) e0).symm, rfl, rfl⟩
                                                    · refine g_aload_n C (i := 0) dL_lines_557 rfl 0 rfl ?_
                                                      refine g_iload C (i := 13) dL_lines_558 13 rfl ?_
                                                      refine g_bipush C (v := 6) dL_lines_560 (by decide) ?_
                                                      refine g_callV C (st := []) (c_X10_line l D ad dA z0 tt σ φ (nI j1) 6) rfl ml_L_38 im_X10_line se_X10_line in_X10 co_X10_line dyV_X10_line rfl rfl ⟨(Nat.le_of_ble_eq_true rfl), (Nat.le_of_ble_eq_true rfl)⟩ 0 10 (fun f => at_0 ad dA σ f) rfl dL_lines_562 rfl (Nat.le_of_ble_eq_true rfl) (g_fni ?_)
                                                      refine g_iload C (i := 8) dL_lines_565 8 rfl ?_
                                                      have J42 : ∀ (v41 : Int32), (if v32 = 0 then 0 else 1) = v41 → K σ φ 575 [(0, .ref (ad 0)), (1, .int x), (2, .int v10), (3, .int v12), (4, .int v14), (5, .int v16), (6, .int v28), (7, .int v30), (8, .int v32), (9, .int v20), (10, .int v36), (11, .int (s1.2.2.2.2.2.2.2.2.2.1)), (12, .int (s1.2.2.2.2.2.2.2.2.2.2)), (13, .int (nI j1)), (19, .int (t23.2)), (20, .int v26)] [.int v41, .int (f_X10_line σ (nI j1) 6)] := by
                                                        intro v41 ev41
                                                        refine g_icmp_ne C (tgt := 603) dL_lines_575 (by decide) (fun h42 => ?_) (fun h42 => ?_)
                                                        · refine g_iconst C (v := 0) dL_lines_603 (by decide) ?_
                                                          have e0 : f_L_lines σ x = 0 := by
                                                            subst ev41
                                                            subst ev39
                                                            subst ev37
                                                            subst ev36
                                                            subst ev34
                                                            subst ev32
                                                            subst ev30
                                                            subst ev28
                                                            subst ev26
                                                            subst et23
                                                            subst ev21
                                                            subst ev20
                                                            subst ev18
                                                            subst ev16
                                                            subst ev14
                                                            subst ev12
                                                            subst ev10
                                                            subst ev7
                                                            subst et2
                                                            have eF := hF1.trans (loopE_inl n1 ((b_L_lines_35_eq _ _ _).trans ((if_pos h33).trans ((if_pos h34).trans ((if_pos h36).trans ((if_pos h37).trans ((if_pos h38).trans ((if_pos h40).trans (if_neg h42)))))))))
                                                            exact ((f_L_lines_eq _ _).trans (sumE_inl eF))
                                                          exact hi _ _ _ _ _ _ rfl dL_lines_604 (lv_narrowZ (Or.inl rfl)).1 ⟨(congrArg (fun z => some (Value.int z)) e0).symm, rfl, rfl⟩
                                                        · refine g_aload_n C (i := 0) dL_lines_578 rfl 0 rfl ?_
                                                          refine g_iload C (i := 13) dL_lines_579 13 rfl ?_
                                                          refine g_bipush C (v := 7) dL_lines_581 (by decide) ?_
                                                          refine g_callV C (st := []) (c_X10_line l D ad dA z0 tt σ φ (nI j1) 7) rfl ml_L_38 im_X10_line se_X10_line in_X10 co_X10_line dyV_X10_line rfl rfl ⟨(Nat.le_of_ble_eq_true rfl), (Nat.le_of_ble_eq_true rfl)⟩ 0 10 (fun f => at_0 ad dA σ f) rfl dL_lines_583 rfl (Nat.le_of_ble_eq_true rfl) (g_fni ?_)
                                                          refine g_iload_n C (i := 2) dL_lines_586 rfl 2 rfl ?_
                                                          refine g_icmp_ne C (tgt := 603) dL_lines_587 (by decide) (fun h43 => ?_) (fun h43 => ?_)
                                                          · refine g_iconst C (v := 0) dL_lines_603 (by decide) ?_
                                                            have e0 : f_L_lines σ x = 0 := by
                                                              subst ev41
                                                              subst ev39
                                                              subst ev37
                                                              subst ev36
                                                              subst ev34
                                                              subst ev32
                                                              subst ev30
                                                              subst ev28
                                                              subst ev26
                                                              subst et23
                                                              subst ev21
                                                              subst ev20
                                                              subst ev18
                                                              subst ev16
                                                              subst ev14
                                                              subst ev12
                                                              subst ev10
                                                              subst ev7
                                                              subst et2
                                                              have eF := hF1.trans (loopE_inl n1 ((b_L_lines_35_eq _ _ _).trans ((if_pos h33).trans ((if_pos h34).trans ((if_pos h36).trans ((if_pos h37).trans ((if_pos h38).trans ((if_pos h40).trans ((if_pos h42).trans (if_neg h43))))))))))
                                                              exact ((f_L_lines_eq _ _).trans (sumE_inl eF))
                                                            exact hi _ _ _ _ _ _ rfl dL_lines_604 (lv_narrowZ (Or.inl rfl)).1 ⟨(congrArg (fun z => some (Value.int z)) e0).symm, rfl, rfl⟩
                                                          · refine g_aload_n C (i := 0) dL_lines_590 rfl 0 rfl ?_
                                                            refine g_iload C (i := 13) dL_lines_591 13 rfl ?_
                                                            refine g_bipush C (v := 8) dL_lines_593 (by decide) ?_
                                                            refine g_callV C (st := []) (c_X10_line l D ad dA z0 tt σ φ (nI j1) 8) rfl ml_L_38 im_X10_line se_X10_line in_X10 co_X10_line dyV_X10_line rfl rfl ⟨(Nat.le_of_ble_eq_true rfl), (Nat.le_of_ble_eq_true rfl)⟩ 0 10 (fun f => at_0 ad dA σ f) rfl dL_lines_595 rfl (Nat.le_of_ble_eq_true rfl) (g_fni ?_)
                                                            refine g_ldc C kc_L_41 dL_lines_598 ?_
                                                            refine g_icmp_eq C (tgt := 605) dL_lines_600 (by decide) (fun h44 => ?_) (fun h44 => ?_)
                                                            · refine g_iload C (i := 13) dL_lines_605 13 rfl ?_
                                                              have J54 : ∀ (v52 : Int32), ∀ (v53 : Int32), (if (nI j1) ≤ 0 then (s1.2.2.2.2.2.2.2.2.2.1) else (if v26 = 0 then (s1.2.2.2.2.2.2.2.2.2.1) else (if (f_X10_line σ ((nI j1) - 1) 5) = 1 then (let v43 : Int32 := f_X10_line σ ((nI j1) - 1) 4; let v44 : Int32 := (if 0 ≤ (t23.2) then (if (t23.2) ≤ 0 then 0 else (if 0 ≤ v43 then 0 else (if (f_L_size (t23.2)) < (f_X10_count σ 15) then 0 else (if (f_L_size v43) < (f_X10_count σ 15) then 0 else 1)))) else (if 0 < v43 then (if (f_L_size (t23.2)) < (f_X10_count σ 15) then 0 else (if (f_L_size v43) < (f_X10_count σ 15) then 0 else 1)) else (if (t23.2) ≤ 0 then 0 else (if 0 ≤ v43 then 0 else (if (f_L_size (t23.2)) < (f_X10_count σ 15) then 0 else (if (f_L_size v43) < (f_X10_count σ 15) then 0 else 1)))))); let v46 : Int32 := (if v44 = 0 then 0 else 1); let v48 : Int32 := (s1.2.2.2.2.2.2.2.2.2.1) + v46; let v49 : Int32 := (if v44 = 0 then 1 else 0); let v51 : Int32 := (s1.2.2.2.2.2.2.2.2.2.2) + v49; v48) else (s1.2.2.2.2.2.2.2.2.2.1)))) = v52 → (if (nI j1) ≤ 0 then (s1.2.2.2.2.2.2.2.2.2.2) else (if v26 = 0 then (s1.2.2.2.2.2.2.2.2.2.2) else (if (f_X10_line σ ((nI j1) - 1) 5) = 1 then (let v43 : Int32 := f_X10_line σ ((nI j1) - 1) 4; let v44 : Int32 := (if 0 ≤ (t23.2) then (if (t23.2) ≤ 0 then 0 else (if 0 ≤ v43 then 0 else (if (f_L_size (t23.2)) < (f_X10_count σ 15) then 0 else (if (f_L_size v43) < (f_X10_count σ 15) then 0 else 1)))) else (if 0 < v43 then (if (f_L_size (t23.2)) < (f_X10_count σ 15) then 0 else (if (f_L_size v43) < (f_X10_count σ 15) then 0 else 1)) else (if (t23.2) ≤ 0 then 0 else (if 0 ≤ v43 then 0 else (if (f_L_size (t23.2)) < (f_X10_count σ 15) then 0 else (if (f_L_size v43) < (f_X10_count σ 15) then 0 else 1)))))); let v46 : Int32 := (if v44 = 0 then 0 else 1); let v48 : Int32 := (s1.2.2.2.2.2.2.2.2.2.1) + v46; let v49 : Int32 := (if v44 = 0 then 1 else 0); let v51 : Int32 := (s1.2.2.2.2.2.2.2.2.2.2) + v49; v51) else (s1.2.2.2.2.2.2.2.2.2.2)))) = v53 → K σ φ 724 [(0, .ref (ad 0)), (1, .int x), (2, .int v10), (3, .int v12), (4, .int v14), (5, .int v16), (6, .int v28), (7, .int v30), (8, .int v32), (9, .int v20), (10, .int v36), (11, .int v52), (12, .int v53), (13, .int (nI j1))] [] := by
                                                                intro v52 v53 ev52 ev53
                                                                refine g_iinc C (i := 13) (v := nI (j1 + 1)) (lv' := [(13, .int (nI (j1 + 1))), (0, .ref (ad 0)), (1, .int x), (2, .int v10), (3, .int v12), (4, .int v14), (5, .int v16), (6, .int v28), (7, .int v30), (8, .int v32), (9, .int v20), (10, .int v36), (11, .int v52), (12, .int v53)]) dL_lines_724 13 rfl (nI_1 _) (by decide) rfl ?_
                                                                refine g_goto C (tgt := 35) dL_lines_727 (by decide) ?_
                                                                refine g_loc C [1, 2, 3, 4, 5, 6, 7, 8, 9, 10, 11, 12, 13, 0] rfl ?_
                                                                refine kk (v10, v12, v14, v16, v28, v30, v32, v20, v36, v52, v53) ?_
                                                                subst ev53
                                                                subst ev52
                                                                subst ev41
                                                                subst ev39
                                                                subst ev37
                                                                subst ev36
                                                                subst ev34
                                                                subst ev32
                                                                subst ev30
                                                                subst ev28
                                                                subst ev26
                                                                subst et23
                                                                subst ev21
                                                                subst ev20
                                                                subst ev18
                                                                subst ev16
                                                                subst ev14
                                                                subst ev12
                                                                subst ev10
                                                                subst ev7
                                                                subst et2
                                                                exact ((b_L_lines_35_eq _ _ _).trans ((if_pos h33).trans ((if_pos h34).trans ((if_pos h36).trans ((if_pos h37).trans ((if_pos h38).trans ((if_pos h40).trans ((if_pos h42).trans ((if_pos h43).trans (if_pos h44))))))))))
                                                              refine g_if_le C (tgt := 724) dL_lines_607 (by decide) (fun h45 => ?_) (fun h45 => ?_)
                                                              · refine g_loc C [0, 1, 2, 3, 4, 5, 6, 7, 8, 9, 10, 11, 12, 13] rfl ?_
                                                                exact J54 _ _ ((if_pos h45)) ((if_pos h45))
                                                              · refine g_iload C (i := 20) dL_lines_610 15 rfl ?_
                                                                refine g_if_eq C (tgt := 724) dL_lines_612 (by decide) (fun h46 => ?_) (fun h46 => ?_)
                                                                · refine g_loc C [0, 1, 2, 3, 4, 5, 6, 7, 8, 9, 10, 11, 12, 13] rfl ?_
                                                                  exact J54 _ _ (((if_neg h45).trans (if_pos h46))) (((if_neg h45).trans (if_pos h46)))
                                                                · refine g_aload_n C (i := 0) dL_lines_615 rfl 0 rfl ?_
                                                                  refine g_iload C (i := 13) dL_lines_616 13 rfl ?_
                                                                  refine g_iconst C (v := 1) dL_lines_618 (by decide) ?_
                                                                  refine g_isub C dL_lines_619 ?_
                                                                  refine g_iconst C (v := 5) dL_lines_620 (by decide) ?_
                                                                  refine g_callV C (st := []) (c_X10_line l D ad dA z0 tt σ φ ((nI j1) - 1) 5) rfl ml_L_38 im_X10_line se_X10_line in_X10 co_X10_line dyV_X10_line rfl rfl ⟨(Nat.le_of_ble_eq_true rfl), (Nat.le_of_ble_eq_true rfl)⟩ 0 10 (fun f => at_0 ad dA σ f) rfl dL_lines_621 rfl (Nat.le_of_ble_eq_true rfl) (g_fni ?_)
                                                                  refine g_iconst C (v := 1) dL_lines_624 (by decide) ?_
                                                                  refine g_icmp_ne C (tgt := 724) dL_lines_625 (by decide) (fun h47 => ?_) (fun h47 => ?_)
                                                                  · refine g_loc C [0, 1, 2, 3, 4, 5, 6, 7, 8, 9, 10, 11, 12, 13] rfl ?_
                                                                    exact J54 _ _ (((if_neg h45).trans ((if_neg h46).trans (if_neg h47)))) (((if_neg h45).trans ((if_neg h46).trans (if_neg h47))))
                                                                  · refine g_aload_n C (i := 0) dL_lines_628 rfl 0 rfl ?_
                                                                    refine g_iload C (i := 13) dL_lines_629 13 rfl ?_
                                                                    refine g_iconst C (v := 1) dL_lines_631 (by decide) ?_
                                                                    refine g_isub C dL_lines_632 ?_
                                                                    refine g_iconst C (v := 4) dL_lines_633 (by decide) ?_
                                                                    refine g_callV C (st := []) (c_X10_line l D ad dA z0 tt σ φ ((nI j1) - 1) 4) rfl ml_L_38 im_X10_line se_X10_line in_X10 co_X10_line dyV_X10_line rfl rfl ⟨(Nat.le_of_ble_eq_true rfl), (Nat.le_of_ble_eq_true rfl)⟩ 0 10 (fun f => at_0 ad dA σ f) rfl dL_lines_634 rfl (Nat.le_of_ble_eq_true rfl) (g_fni ?_)
                                                                    refine g_nmi C (fun v43 ev43 => ?_)
                                                                    refine g_istore C (i := 21) (lv' := [(21, .int v43), (0, .ref (ad 0)), (1, .int x), (2, .int v10), (3, .int v12), (4, .int v14), (5, .int v16), (6, .int v28), (7, .int v30), (8, .int v32), (9, .int v20), (10, .int v36), (11, .int (s1.2.2.2.2.2.2.2.2.2.1)), (12, .int (s1.2.2.2.2.2.2.2.2.2.2)), (13, .int (nI j1)), (19, .int (t23.2)), (20, .int v26)]) dL_lines_637 (by decide) rfl ?_
                                                                    refine g_iload C (i := 19) dL_lines_639 15 rfl ?_
                                                                    have J45 : ∀ (v44 : Int32), (if 0 ≤ (t23.2) then (if (t23.2) ≤ 0 then 0 else (if 0 ≤ v43 then 0 else (if (f_L_size (t23.2)) < (f_X10_count σ 15) then 0 else (if (f_L_size v43) < (f_X10_count σ 15) then 0 else 1)))) else (if 0 < v43 then (if (f_L_size (t23.2)) < (f_X10_count σ 15) then 0 else (if (f_L_size v43) < (f_X10_count σ 15) then 0 else 1)) else (if (t23.2) ≤ 0 then 0 else (if 0 ≤ v43 then 0 else (if (f_L_size (t23.2)) < (f_X10_count σ 15) then 0 else (if (f_L_size v43) < (f_X10_count σ 15) then 0 else 1)))))) = v44 → K σ φ 692 [(0, .ref (ad 0)), (1, .int x), (2, .int v10), (3, .int v12), (4, .int v14), (5, .int v16), (6, .int v28), (7, .int v30), (8, .int v32), (9, .int v20), (10, .int v36), (11, .int (s1.2.2.2.2.2.2.2.2.2.1)), (12, .int (s1.2.2.2.2.2.2.2.2.2.2)), (13, .int (nI j1))] [.int v44] := by
                                                                      intro v44 ev44
                                                                      refine g_istore C (i := 22) (lv' := [(22, .int v44), (0, .ref (ad 0)), (1, .int x), (2, .int v10), (3, .int v12), (4, .int v14), (5, .int v16), (6, .int v28), (7, .int v30), (8, .int v32), (9, .int v20), (10, .int v36), (11, .int (s1.2.2.2.2.2.2.2.2.2.1)), (12, .int (s1.2.2.2.2.2.2.2.2.2.2)), (13, .int (nI j1))]) dL_lines_692 (by decide) rfl ?_
                                                                      refine g_iload C (i := 11) dL_lines_694 12 rfl ?_
                                                                      refine g_iload C (i := 22) dL_lines_696 0 rfl ?_
                                                                      have J47 : ∀ (v46 : Int32), (if v44 = 0 then 0 else 1) = v46 → K σ φ 706 [(0, .ref (ad 0)), (1, .int x), (2, .int v10), (3, .int v12), (4, .int v14), (5, .int v16), (6, .int v28), (7, .int v30), (8, .int v32), (9, .int v20), (10, .int v36), (12, .int (s1.2.2.2.2.2.2.2.2.2.2)), (13, .int (nI j1)), (22, .int v44)] [.int v46, .int (s1.2.2.2.2.2.2.2.2.2.1)] := by
                                                                        intro v46 ev46
                                                                        refine g_iadd C dL_lines_706 ?_
                                                                        refine g_nmi C (fun v48 ev48 => ?_)
                                                                        refine g_istore C (i := 11) (lv' := [(11, .int v48), (0, .ref (ad 0)), (1, .int x), (2, .int v10), (3, .int v12), (4, .int v14), (5, .int v16), (6, .int v28), (7, .int v30), (8, .int v32), (9, .int v20), (10, .int v36), (12, .int (s1.2.2.2.2.2.2.2.2.2.2)), (13, .int (nI j1)), (22, .int v44)]) dL_lines_707 (by decide) rfl ?_
                                                                        refine g_iload C (i := 12) dL_lines_709 12 rfl ?_
                                                                        refine g_iload C (i := 22) dL_lines_711 14 rfl ?_
                                                                        have J50 : ∀ (v49 : Int32), (if v44 = 0 then 1 else 0) = v49 → K σ φ 721 [(0, .ref (ad 0)), (1, .int x), (2, .int v10), (3, .int v12), (4, .int v14), (5, .int v16), (6, .int v28), (7, .int v30), (8, .int v32), (9, .int v20), (10, .int v36), (11, .int v48), (13, .int (nI j1))] [.int v49, .int (s1.2.2.2.2.2.2.2.2.2.2)] := by
                                                                          intro v49 ev49
                                                                          refine g_iadd C dL_lines_721 ?_
                                                                          refine g_nmi C (fun v51 ev51 => ?_)
                                                                          refine g_istore C (i := 12) (lv' := [(12, .int v51), (0, .ref (ad 0)), (1, .int x), (2, .int v10), (3, .int v12), (4, .int v14), (5, .int v16), (6, .int v28), (7, .int v30), (8, .int v32), (9, .int v20), (10, .int v36), (11, .int v48), (13, .int (nI j1))]) dL_lines_722 (by decide) rfl ?_
                                                                          refine g_loc C [1, 2, 3, 4, 5, 6, 7, 8, 9, 10, 11, 12, 0, 13] rfl ?_
                                                                          subst ev51
                                                                          subst ev49
                                                                          subst ev48
                                                                          subst ev46
                                                                          subst ev44
                                                                          subst ev43
                                                                          exact J54 _ _ (((if_neg h45).trans ((if_neg h46).trans (if_pos h47)))) (((if_neg h45).trans ((if_neg h46).trans (if_pos h47))))
                                                                        refine g_if_eq C (tgt := 720) dL_lines_713 (by decide) (fun h61 => ?_) (fun h61 => ?_)
                                                                        · refine g_iconst C (v := 1) dL_lines_720 (by decide) ?_
                                                                          refine g_loc C [1, 2, 3, 4, 5, 6, 7, 8, 9, 10, 11, 0, 13] rfl ?_
                                                                          exact J50 _ ((if_pos h61))
                                                                        · refine g_iconst C (v := 0) dL_lines_716 (by decide) ?_
                                                                          refine g_goto C (tgt := 721) dL_lines_717 (by decide) ?_
                                                                          refine g_loc C [1, 2, 3, 4, 5, 6, 7, 8, 9, 10, 11, 0, 13] rfl ?_
                                                                          exact J50 _ ((if_neg h61))
                                                                      refine g_if_eq C (tgt := 705) dL_lines_698 (by decide) (fun h60 => ?_) (fun h60 => ?_)
                                                                      · refine g_iconst C (v := 0) dL_lines_705 (by decide) ?_
                                                                        refine g_loc C [1, 2, 3, 4, 5, 6, 7, 8, 9, 10, 11, 13, 14, 0] rfl ?_
                                                                        exact J47 _ ((if_pos h60))
                                                                      · refine g_iconst C (v := 1) dL_lines_701 (by decide) ?_
                                                                        refine g_goto C (tgt := 706) dL_lines_702 (by decide) ?_
                                                                        refine g_loc C [1, 2, 3, 4, 5, 6, 7, 8, 9, 10, 11, 13, 14, 0] rfl ?_
                                                                        exact J47 _ ((if_neg h60))
                                                                    refine g_if_ge C (tgt := 649) dL_lines_641 (by decide) (fun h48 => ?_) (fun h48 => ?_)
                                                                    · refine g_iload C (i := 19) dL_lines_649 15 rfl ?_
                                                                      refine g_if_le C (tgt := 691) dL_lines_651 (by decide) (fun h49 => ?_) (fun h49 => ?_)
                                                                      · refine g_iconst C (v := 0) dL_lines_691 (by decide) ?_
                                                                        refine g_loc C [1, 2, 3, 4, 5, 6, 7, 8, 9, 10, 11, 12, 13, 14] rfl ?_
                                                                        exact J45 _ (((if_pos h48).trans (if_pos h49)))
                                                                      · refine g_iload C (i := 21) dL_lines_654 0 rfl ?_
                                                                        refine g_if_ge C (tgt := 691) dL_lines_656 (by decide) (fun h50 => ?_) (fun h50 => ?_)
                                                                        · refine g_iconst C (v := 0) dL_lines_691 (by decide) ?_
                                                                          refine g_loc C [1, 2, 3, 4, 5, 6, 7, 8, 9, 10, 11, 12, 13, 14] rfl ?_
                                                                          exact J45 _ (((if_pos h48).trans ((if_neg h49).trans (if_pos h50))))
                                                                        · refine g_iload C (i := 19) dL_lines_659 15 rfl ?_
                                                                          refine g_callS C (st := []) (c_L_size l D ad dA z0 tt σ φ (t23.2)) rfl ml_L_32 sm_L_size in_L co_L_size dyS_L_size rfl rfl ⟨(Nat.le_of_ble_eq_true rfl), (Nat.le_of_ble_eq_true rfl)⟩ dL_lines_661 rfl (Nat.le_of_ble_eq_true rfl) (g_fni ?_)
                                                                          refine g_aload_n C (i := 0) dL_lines_664 rfl 1 rfl ?_
                                                                          refine g_bipush C (v := 15) dL_lines_665 (by decide) ?_
                                                                          refine g_callV C (st := [.int (f_L_size (t23.2))]) (c_X10_count l D ad dA z0 tt σ φ 15) rfl ml_L_35 im_X10_count se_X10_count in_X10 co_X10_count dyV_X10_count rfl rfl ⟨(Nat.le_of_ble_eq_true rfl), (Nat.le_of_ble_eq_true rfl)⟩ 0 10 (fun f => at_0 ad dA σ f) rfl dL_lines_667 rfl (Nat.le_of_ble_eq_true rfl) (g_fni ?_)
                                                                          refine g_icmp_lt C (tgt := 691) dL_lines_670 (by decide) (fun h51 => ?_) (fun h51 => ?_)
                                                                          · refine g_iconst C (v := 0) dL_lines_691 (by decide) ?_
                                                                            refine g_loc C [1, 2, 3, 4, 5, 6, 7, 8, 9, 10, 11, 12, 13, 14] rfl ?_
                                                                            exact J45 _ (((if_pos h48).trans ((if_neg h49).trans ((if_neg h50).trans (if_pos h51)))))
                                                                          · refine g_iload C (i := 21) dL_lines_673 0 rfl ?_
                                                                            refine g_callS C (st := []) (c_L_size l D ad dA z0 tt σ φ v43) rfl ml_L_32 sm_L_size in_L co_L_size dyS_L_size rfl rfl ⟨(Nat.le_of_ble_eq_true rfl), (Nat.le_of_ble_eq_true rfl)⟩ dL_lines_675 rfl (Nat.le_of_ble_eq_true rfl) (g_fni ?_)
                                                                            refine g_aload_n C (i := 0) dL_lines_678 rfl 1 rfl ?_
                                                                            refine g_bipush C (v := 15) dL_lines_679 (by decide) ?_
                                                                            refine g_callV C (st := [.int (f_L_size v43)]) (c_X10_count l D ad dA z0 tt σ φ 15) rfl ml_L_35 im_X10_count se_X10_count in_X10 co_X10_count dyV_X10_count rfl rfl ⟨(Nat.le_of_ble_eq_true rfl), (Nat.le_of_ble_eq_true rfl)⟩ 0 10 (fun f => at_0 ad dA σ f) rfl dL_lines_681 rfl (Nat.le_of_ble_eq_true rfl) (g_fni ?_)
                                                                            refine g_icmp_lt C (tgt := 691) dL_lines_684 (by decide) (fun h52 => ?_) (fun h52 => ?_)
                                                                            · refine g_iconst C (v := 0) dL_lines_691 (by decide) ?_
                                                                              refine g_loc C [1, 2, 3, 4, 5, 6, 7, 8, 9, 10, 11, 12, 13, 14] rfl ?_
                                                                              exact J45 _ (((if_pos h48).trans ((if_neg h49).trans ((if_neg h50).trans ((if_neg h51).trans (if_pos h52))))))
                                                                            · refine g_iconst C (v := 1) dL_lines_687 (by decide) ?_
                                                                              refine g_goto C (tgt := 692) dL_lines_688 (by decide) ?_
                                                                              refine g_loc C [1, 2, 3, 4, 5, 6, 7, 8, 9, 10, 11, 12, 13, 14] rfl ?_
                                                                              exact J45 _ (((if_pos h48).trans ((if_neg h49).trans ((if_neg h50).trans ((if_neg h51).trans (if_neg h52))))))
                                                                    · refine g_iload C (i := 21) dL_lines_644 0 rfl ?_
                                                                      refine g_if_gt C (tgt := 659) dL_lines_646 (by decide) (fun h53 => ?_) (fun h53 => ?_)
                                                                      · refine g_iload C (i := 19) dL_lines_659 15 rfl ?_
                                                                        refine g_callS C (st := []) (c_L_size l D ad dA z0 tt σ φ (t23.2)) rfl ml_L_32 sm_L_size in_L co_L_size dyS_L_size rfl rfl ⟨(Nat.le_of_ble_eq_true rfl), (Nat.le_of_ble_eq_true rfl)⟩ dL_lines_661 rfl (Nat.le_of_ble_eq_true rfl) (g_fni ?_)
                                                                        refine g_aload_n C (i := 0) dL_lines_664 rfl 1 rfl ?_
                                                                        refine g_bipush C (v := 15) dL_lines_665 (by decide) ?_
                                                                        refine g_callV C (st := [.int (f_L_size (t23.2))]) (c_X10_count l D ad dA z0 tt σ φ 15) rfl ml_L_35 im_X10_count se_X10_count in_X10 co_X10_count dyV_X10_count rfl rfl ⟨(Nat.le_of_ble_eq_true rfl), (Nat.le_of_ble_eq_true rfl)⟩ 0 10 (fun f => at_0 ad dA σ f) rfl dL_lines_667 rfl (Nat.le_of_ble_eq_true rfl) (g_fni ?_)
                                                                        refine g_icmp_lt C (tgt := 691) dL_lines_670 (by decide) (fun h54 => ?_) (fun h54 => ?_)
                                                                        · refine g_iconst C (v := 0) dL_lines_691 (by decide) ?_
                                                                          refine g_loc C [1, 2, 3, 4, 5, 6, 7, 8, 9, 10, 11, 12, 13, 14] rfl ?_
                                                                          exact J45 _ (((if_neg h48).trans ((if_pos h53).trans (if_pos h54))))
                                                                        · refine g_iload C (i := 21) dL_lines_673 0 rfl ?_
                                                                          refine g_callS C (st := []) (c_L_size l D ad dA z0 tt σ φ v43) rfl ml_L_32 sm_L_size in_L co_L_size dyS_L_size rfl rfl ⟨(Nat.le_of_ble_eq_true rfl), (Nat.le_of_ble_eq_true rfl)⟩ dL_lines_675 rfl (Nat.le_of_ble_eq_true rfl) (g_fni ?_)
                                                                          refine g_aload_n C (i := 0) dL_lines_678 rfl 1 rfl ?_
                                                                          refine g_bipush C (v := 15) dL_lines_679 (by decide) ?_
                                                                          refine g_callV C (st := [.int (f_L_size v43)]) (c_X10_count l D ad dA z0 tt σ φ 15) rfl ml_L_35 im_X10_count se_X10_count in_X10 co_X10_count dyV_X10_count rfl rfl ⟨(Nat.le_of_ble_eq_true rfl), (Nat.le_of_ble_eq_true rfl)⟩ 0 10 (fun f => at_0 ad dA σ f) rfl dL_lines_681 rfl (Nat.le_of_ble_eq_true rfl) (g_fni ?_)
                                                                          refine g_icmp_lt C (tgt := 691) dL_lines_684 (by decide) (fun h55 => ?_) (fun h55 => ?_)
                                                                          · refine g_iconst C (v := 0) dL_lines_691 (by decide) ?_
                                                                            refine g_loc C [1, 2, 3, 4, 5, 6, 7, 8, 9, 10, 11, 12, 13, 14] rfl ?_
                                                                            exact J45 _ (((if_neg h48).trans ((if_pos h53).trans ((if_neg h54).trans (if_pos h55)))))
                                                                          · refine g_iconst C (v := 1) dL_lines_687 (by decide) ?_
                                                                            refine g_goto C (tgt := 692) dL_lines_688 (by decide) ?_
                                                                            refine g_loc C [1, 2, 3, 4, 5, 6, 7, 8, 9, 10, 11, 12, 13, 14] rfl ?_
                                                                            exact J45 _ (((if_neg h48).trans ((if_pos h53).trans ((if_neg h54).trans (if_neg h55)))))
                                                                      · refine g_iload C (i := 19) dL_lines_649 15 rfl ?_
                                                                        refine g_if_le C (tgt := 691) dL_lines_651 (by decide) (fun h56 => ?_) (fun h56 => ?_)
                                                                        · refine g_iconst C (v := 0) dL_lines_691 (by decide) ?_
                                                                          refine g_loc C [1, 2, 3, 4, 5, 6, 7, 8, 9, 10, 11, 12, 13, 14] rfl ?_
                                                                          exact J45 _ (((if_neg h48).trans ((if_neg h53).trans (if_pos h56))))
                                                                        · refine g_iload C (i := 21) dL_lines_654 0 rfl ?_
                                                                          refine g_if_ge C (tgt := 691) dL_lines_656 (by decide) (fun h57 => ?_) (fun h57 => ?_)
                                                                          · refine g_iconst C (v := 0) dL_lines_691 (by decide) ?_
                                                                            refine g_loc C [1, 2, 3, 4, 5, 6, 7, 8, 9, 10, 11, 12, 13, 14] rfl ?_
                                                                            exact J45 _ (((if_neg h48).trans ((if_neg h53).trans ((if_neg h56).trans (if_pos h57)))))
                                                                          · refine g_iload C (i := 19) dL_lines_659 15 rfl ?_
                                                                            refine g_callS C (st := []) (c_L_size l D ad dA z0 tt σ φ (t23.2)) rfl ml_L_32 sm_L_size in_L co_L_size dyS_L_size rfl rfl ⟨(Nat.le_of_ble_eq_true rfl), (Nat.le_of_ble_eq_true rfl)⟩ dL_lines_661 rfl (Nat.le_of_ble_eq_true rfl) (g_fni ?_)
                                                                            refine g_aload_n C (i := 0) dL_lines_664 rfl 1 rfl ?_
                                                                            refine g_bipush C (v := 15) dL_lines_665 (by decide) ?_
                                                                            refine g_callV C (st := [.int (f_L_size (t23.2))]) (c_X10_count l D ad dA z0 tt σ φ 15) rfl ml_L_35 im_X10_count se_X10_count in_X10 co_X10_count dyV_X10_count rfl rfl ⟨(Nat.le_of_ble_eq_true rfl), (Nat.le_of_ble_eq_true rfl)⟩ 0 10 (fun f => at_0 ad dA σ f) rfl dL_lines_667 rfl (Nat.le_of_ble_eq_true rfl) (g_fni ?_)
                                                                            refine g_icmp_lt C (tgt := 691) dL_lines_670 (by decide) (fun h58 => ?_) (fun h58 => ?_)
                                                                            · refine g_iconst C (v := 0) dL_lines_691 (by decide) ?_
                                                                              refine g_loc C [1, 2, 3, 4, 5, 6, 7, 8, 9, 10, 11, 12, 13, 14] rfl ?_
                                                                              exact J45 _ (((if_neg h48).trans ((if_neg h53).trans ((if_neg h56).trans ((if_neg h57).trans (if_pos h58))))))
                                                                            · refine g_iload C (i := 21) dL_lines_673 0 rfl ?_
                                                                              refine g_callS C (st := []) (c_L_size l D ad dA z0 tt σ φ v43) rfl ml_L_32 sm_L_size in_L co_L_size dyS_L_size rfl rfl ⟨(Nat.le_of_ble_eq_true rfl), (Nat.le_of_ble_eq_true rfl)⟩ dL_lines_675 rfl (Nat.le_of_ble_eq_true rfl) (g_fni ?_)
                                                                              refine g_aload_n C (i := 0) dL_lines_678 rfl 1 rfl ?_
                                                                              refine g_bipush C (v := 15) dL_lines_679 (by decide) ?_
                                                                              refine g_callV C (st := [.int (f_L_size v43)]) (c_X10_count l D ad dA z0 tt σ φ 15) rfl ml_L_35 im_X10_count se_X10_count in_X10 co_X10_count dyV_X10_count rfl rfl ⟨(Nat.le_of_ble_eq_true rfl), (Nat.le_of_ble_eq_true rfl)⟩ 0 10 (fun f => at_0 ad dA σ f) rfl dL_lines_681 rfl (Nat.le_of_ble_eq_true rfl) (g_fni ?_)
                                                                              refine g_icmp_lt C (tgt := 691) dL_lines_684 (by decide) (fun h59 => ?_) (fun h59 => ?_)
                                                                              · refine g_iconst C (v := 0) dL_lines_691 (by decide) ?_
                                                                                refine g_loc C [1, 2, 3, 4, 5, 6, 7, 8, 9, 10, 11, 12, 13, 14] rfl ?_
                                                                                exact J45 _ (((if_neg h48).trans ((if_neg h53).trans ((if_neg h56).trans ((if_neg h57).trans ((if_neg h58).trans (if_pos h59)))))))
                                                                              · refine g_iconst C (v := 1) dL_lines_687 (by decide) ?_
                                                                                refine g_goto C (tgt := 692) dL_lines_688 (by decide) ?_
                                                                                refine g_loc C [1, 2, 3, 4, 5, 6, 7, 8, 9, 10, 11, 12, 13, 14] rfl ?_
                                                                                exact J45 _ (((if_neg h48).trans ((if_neg h53).trans ((if_neg h56).trans ((if_neg h57).trans ((if_neg h58).trans (if_neg h59)))))))
                                                            · refine g_iconst C (v := 0) dL_lines_603 (by decide) ?_
                                                              have e0 : f_L_lines σ x = 0 := by
                                                                subst ev41
                                                                subst ev39
                                                                subst ev37
                                                                subst ev36
                                                                subst ev34
                                                                subst ev32
                                                                subst ev30
                                                                subst ev28
                                                                subst ev26
                                                                subst et23
                                                                subst ev21
                                                                subst ev20
                                                                subst ev18
                                                                subst ev16
                                                                subst ev14
                                                                subst ev12
                                                                subst ev10
                                                                subst ev7
                                                                subst et2
                                                                have eF := hF1.trans (loopE_inl n1 ((b_L_lines_35_eq _ _ _).trans ((if_pos h33).trans ((if_pos h34).trans ((if_pos h36).trans ((if_pos h37).trans ((if_pos h38).trans ((if_pos h40).trans ((if_pos h42).trans ((if_pos h43).trans (if_neg h44)))))))))))
                                                                exact ((f_L_lines_eq _ _).trans (sumE_inl eF))
                                                              exact hi _ _ _ _ _ _ rfl dL_lines_604 (lv_narrowZ (Or.inl rfl)).1 ⟨(congrArg (fun z => some (Value.int z)) e0).symm, rfl, rfl⟩
                                                      refine g_if_eq C (tgt := 574) dL_lines_567 (by decide) (fun h41 => ?_) (fun h41 => ?_)
                                                      · refine g_iconst C (v := 0) dL_lines_574 (by decide) ?_
                                                        refine g_loc C [0, 1, 2, 3, 4, 5, 6, 7, 8, 9, 10, 11, 12, 13, 14, 15] rfl ?_
                                                        exact J42 _ ((if_pos h41))
                                                      · refine g_iconst C (v := 1) dL_lines_570 (by decide) ?_
                                                        refine g_goto C (tgt := 575) dL_lines_571 (by decide) ?_
                                                        refine g_loc C [0, 1, 2, 3, 4, 5, 6, 7, 8, 9, 10, 11, 12, 13, 14, 15] rfl ?_
                                                        exact J42 _ ((if_neg h41))
                                                  refine g_if_eq C (tgt := 553) dL_lines_546 (by decide) (fun h39 => ?_) (fun h39 => ?_)
                                                  · refine g_iconst C (v := 0) dL_lines_553 (by decide) ?_
                                                    refine g_loc C [0, 1, 2, 3, 4, 5, 6, 7, 8, 9, 10, 11, 12, 13, 15, 16] rfl ?_
                                                    exact J40 _ ((if_pos h39))
                                                  · refine g_iconst C (v := 1) dL_lines_549 (by decide) ?_
                                                    refine g_goto C (tgt := 554) dL_lines_550 (by decide) ?_
                                                    refine g_loc C [0, 1, 2, 3, 4, 5, 6, 7, 8, 9, 10, 11, 12, 13, 15, 16] rfl ?_
                                                    exact J40 _ ((if_neg h39))
                                          refine g_if_eq C (tgt := 509) dL_lines_502 (by decide) (fun h35 => ?_) (fun h35 => ?_)
                                          · refine g_iconst C (v := 0) dL_lines_509 (by decide) ?_
                                            refine g_loc C [1, 2, 3, 4, 5, 6, 7, 8, 9, 10, 0, 11, 12, 13, 16, 17, 18] rfl ?_
                                            exact J38 _ ((if_pos h35))
                                          · refine g_iconst C (v := 1) dL_lines_505 (by decide) ?_
                                            refine g_goto C (tgt := 510) dL_lines_506 (by decide) ?_
                                            refine g_loc C [1, 2, 3, 4, 5, 6, 7, 8, 9, 10, 0, 11, 12, 13, 16, 17, 18] rfl ?_
                                            exact J38 _ ((if_neg h35))
                                    refine g_if_eq C (tgt := 465) dL_lines_458 (by decide) (fun h32 => ?_) (fun h32 => ?_)
                                    · refine g_iconst C (v := 0) dL_lines_465 (by decide) ?_
                                      refine g_loc C [1, 2, 3, 4, 5, 6, 7, 8, 0, 9, 11, 12, 13, 14, 15, 16, 17, 18] rfl ?_
                                      exact J35 _ ((if_pos h32))
                                    · refine g_iconst C (v := 1) dL_lines_461 (by decide) ?_
                                      refine g_goto C (tgt := 466) dL_lines_462 (by decide) ?_
                                      refine g_loc C [1, 2, 3, 4, 5, 6, 7, 8, 0, 9, 11, 12, 13, 14, 15, 16, 17, 18] rfl ?_
                                      exact J35 _ ((if_neg h32))
                                  refine g_icmp_ge C (tgt := 451) dL_lines_433 (by decide) (fun h29 => ?_) (fun h29 => ?_)
                                  · refine g_iconst C (v := 0) dL_lines_451 (by decide) ?_
                                    refine g_loc C [1, 2, 3, 4, 5, 6, 7, 0, 9, 10, 11, 12, 13, 14, 15, 16, 17, 18] rfl ?_
                                    exact J33 _ ((if_pos h29))
                                  · refine g_iload C (i := 8) dL_lines_436 8 rfl ?_
                                    refine g_if_ne C (tgt := 447) dL_lines_438 (by decide) (fun h30 => ?_) (fun h30 => ?_)
                                    · refine g_iconst C (v := 1) dL_lines_447 (by decide) ?_
                                      refine g_goto C (tgt := 452) dL_lines_448 (by decide) ?_
                                      refine g_loc C [1, 2, 3, 4, 5, 6, 7, 0, 9, 10, 11, 12, 13, 14, 15, 16, 17, 18] rfl ?_
                                      exact J33 _ (((if_neg h29).trans (if_neg h30)))
                                    · refine g_iload C (i := 6) dL_lines_441 7 rfl ?_
                                      refine g_iconst C (v := 1) dL_lines_443 (by decide) ?_
                                      refine g_icmp_le C (tgt := 451) dL_lines_444 (by decide) (fun h31 => ?_) (fun h31 => ?_)
                                      · refine g_iconst C (v := 0) dL_lines_451 (by decide) ?_
                                        refine g_loc C [1, 2, 3, 4, 5, 6, 7, 0, 9, 10, 11, 12, 13, 14, 15, 16, 17, 18] rfl ?_
                                        exact J33 _ (((if_neg h29).trans ((if_pos h30).trans (if_pos h31))))
                                      · refine g_iconst C (v := 1) dL_lines_447 (by decide) ?_
                                        refine g_goto C (tgt := 452) dL_lines_448 (by decide) ?_
                                        refine g_loc C [1, 2, 3, 4, 5, 6, 7, 0, 9, 10, 11, 12, 13, 14, 15, 16, 17, 18] rfl ?_
                                        exact J33 _ (((if_neg h29).trans ((if_pos h30).trans (if_neg h31))))
                                refine g_if_eq C (tgt := 424) dL_lines_417 (by decide) (fun h28 => ?_) (fun h28 => ?_)
                                · refine g_iload C (i := 7) dL_lines_424 7 rfl ?_
                                  refine g_iconst C (v := 1) dL_lines_426 (by decide) ?_
                                  refine g_iadd C dL_lines_427 ?_
                                  refine g_loc C [1, 2, 3, 4, 5, 6, 0, 8, 9, 10, 11, 12, 13, 14, 15, 16, 17, 18] rfl ?_
                                  exact J31 _ ((if_pos h28))
                                · refine g_iconst C (v := 0) dL_lines_420 (by decide) ?_
                                  refine g_goto C (tgt := 428) dL_lines_421 (by decide) ?_
                                  refine g_loc C [1, 2, 3, 4, 5, 6, 0, 8, 9, 10, 11, 12, 13, 14, 15, 16, 17, 18] rfl ?_
                                  exact J31 _ ((if_neg h28))
                              refine g_if_eq C (tgt := 412) dL_lines_402 (by decide) (fun h27 => ?_) (fun h27 => ?_)
                              · refine g_iconst C (v := 0) dL_lines_412 (by decide) ?_
                                refine g_loc C [1, 2, 3, 4, 5, 6, 8, 9, 10, 11, 12, 13, 14, 15, 16, 17, 18, 0] rfl ?_
                                exact J29 _ ((if_pos h27))
                              · refine g_iload C (i := 6) dL_lines_405 7 rfl ?_
                                refine g_iconst C (v := 1) dL_lines_407 (by decide) ?_
                                refine g_iadd C dL_lines_408 ?_
                                refine g_goto C (tgt := 413) dL_lines_409 (by decide) ?_
                                refine g_loc C [1, 2, 3, 4, 5, 6, 8, 9, 10, 11, 12, 13, 14, 15, 16, 17, 18, 0] rfl ?_
                                exact J29 _ ((if_neg h27))
                            refine g_icmp_lt C (tgt := 397) dL_lines_390 (by decide) (fun h26 => ?_) (fun h26 => ?_)
                            · refine g_iconst C (v := 0) dL_lines_397 (by decide) ?_
                              refine g_loc C [0, 1, 2, 3, 4, 5, 6, 7, 8, 9, 10, 11, 12, 13, 14, 15, 16, 17] rfl ?_
                              exact J27 _ ((if_pos h26))
                            · refine g_iconst C (v := 1) dL_lines_393 (by decide) ?_
                              refine g_goto C (tgt := 398) dL_lines_394 (by decide) ?_
                              refine g_loc C [0, 1, 2, 3, 4, 5, 6, 7, 8, 9, 10, 11, 12, 13, 14, 15, 16, 17] rfl ?_
                              exact J27 _ ((if_neg h26))
                          · refine absurd ?_ h25; rw [c16_eq]; exact c8_exit _
                      refine g_if_ne C (tgt := 280) dL_lines_272 (by decide) (fun h22 => ?_) (fun h22 => ?_)
                      · refine g_iload_n C (i := 2) dL_lines_280 rfl 3 rfl ?_
                        refine g_iconst C (v := 2) dL_lines_281 (by decide) ?_
                        refine g_iadd C dL_lines_282 ?_
                        refine g_iconst C (v := 4) dL_lines_283 (by decide) ?_
                        refine g_callS C (st := []) (c_L_floor l D ad dA z0 tt σ φ (v10 + 2) 4 (by decide)) rfl ml_L_26 sm_L_floor in_L co_L_floor dyS_L_floor rfl rfl ⟨(Nat.le_of_ble_eq_true rfl), (Nat.le_of_ble_eq_true rfl)⟩ dL_lines_284 rfl (Nat.le_of_ble_eq_true rfl) (g_fni ?_)
                        refine g_goto C (tgt := 292) dL_lines_287 (by decide) ?_
                        refine g_loc C [1, 2, 3, 4, 5, 6, 7, 8, 9, 0, 10, 11, 12, 13, 14] rfl ?_
                        exact J22 _ ((if_neg h22))
                      · refine g_iload C (i := 14) dL_lines_275 14 rfl ?_
                        refine g_if_ge C (tgt := 290) dL_lines_277 (by decide) (fun h23 => ?_) (fun h23 => ?_)
                        · refine g_iload C (i := 14) dL_lines_290 14 rfl ?_
                          refine g_loc C [1, 2, 3, 4, 5, 6, 7, 8, 9, 0, 10, 11, 12, 13, 14] rfl ?_
                          exact J22 _ (((if_pos h22).trans (if_pos h23)))
                        · refine g_iload_n C (i := 2) dL_lines_280 rfl 3 rfl ?_
                          refine g_iconst C (v := 2) dL_lines_281 (by decide) ?_
                          refine g_iadd C dL_lines_282 ?_
                          refine g_iconst C (v := 4) dL_lines_283 (by decide) ?_
                          refine g_callS C (st := []) (c_L_floor l D ad dA z0 tt σ φ (v10 + 2) 4 (by decide)) rfl ml_L_26 sm_L_floor in_L co_L_floor dyS_L_floor rfl rfl ⟨(Nat.le_of_ble_eq_true rfl), (Nat.le_of_ble_eq_true rfl)⟩ dL_lines_284 rfl (Nat.le_of_ble_eq_true rfl) (g_fni ?_)
                          refine g_goto C (tgt := 292) dL_lines_287 (by decide) ?_
                          refine g_loc C [1, 2, 3, 4, 5, 6, 7, 8, 9, 0, 10, 11, 12, 13, 14] rfl ?_
                          exact J22 _ (((if_pos h22).trans (if_neg h23)))
                    refine g_if_eq C (tgt := 266) dL_lines_259 (by decide) (fun h21 => ?_) (fun h21 => ?_)
                    · refine g_iconst C (v := 0) dL_lines_266 (by decide) ?_
                      refine g_loc C [1, 2, 3, 4, 5, 0, 6, 7, 8, 10, 11, 12, 13, 14] rfl ?_
                      exact J19 _ ((if_pos h21))
                    · refine g_iconst C (v := 1) dL_lines_262 (by decide) ?_
                      refine g_goto C (tgt := 267) dL_lines_263 (by decide) ?_
                      refine g_loc C [1, 2, 3, 4, 5, 0, 6, 7, 8, 10, 11, 12, 13, 14] rfl ?_
                      exact J19 _ ((if_neg h21))
                  refine g_if_ne C (tgt := 242) dL_lines_234 (by decide) (fun h17 => ?_) (fun h17 => ?_)
                  · refine g_iload C (i := 4) dL_lines_242 0 rfl ?_
                    refine g_iconst C (v := 4) dL_lines_244 (by decide) ?_
                    refine g_icmp_ge C (tgt := 252) dL_lines_245 (by decide) (fun h18 => ?_) (fun h18 => ?_)
                    · refine g_iconst C (v := 0) dL_lines_252 (by decide) ?_
                      refine g_loc C [1, 2, 3, 4, 0, 6, 7, 8, 9, 10, 11, 12, 13, 14] rfl ?_
                      exact J17 _ (((if_neg h17).trans (if_pos h18)))
                    · refine g_iconst C (v := 1) dL_lines_248 (by decide) ?_
                      refine g_goto C (tgt := 253) dL_lines_249 (by decide) ?_
                      refine g_loc C [1, 2, 3, 4, 0, 6, 7, 8, 9, 10, 11, 12, 13, 14] rfl ?_
                      exact J17 _ (((if_neg h17).trans (if_neg h18)))
                  · refine g_iload_n C (i := 3) dL_lines_237 rfl 4 rfl ?_
                    refine g_iconst C (v := 2) dL_lines_238 (by decide) ?_
                    refine g_icmp_lt C (tgt := 252) dL_lines_239 (by decide) (fun h19 => ?_) (fun h19 => ?_)
                    · refine g_iconst C (v := 0) dL_lines_252 (by decide) ?_
                      refine g_loc C [1, 2, 3, 4, 0, 6, 7, 8, 9, 10, 11, 12, 13, 14] rfl ?_
                      exact J17 _ (((if_pos h17).trans (if_pos h19)))
                    · refine g_iload C (i := 4) dL_lines_242 0 rfl ?_
                      refine g_iconst C (v := 4) dL_lines_244 (by decide) ?_
                      refine g_icmp_ge C (tgt := 252) dL_lines_245 (by decide) (fun h20 => ?_) (fun h20 => ?_)
                      · refine g_iconst C (v := 0) dL_lines_252 (by decide) ?_
                        refine g_loc C [1, 2, 3, 4, 0, 6, 7, 8, 9, 10, 11, 12, 13, 14] rfl ?_
                        exact J17 _ (((if_pos h17).trans ((if_neg h19).trans (if_pos h20))))
                      · refine g_iconst C (v := 1) dL_lines_248 (by decide) ?_
                        refine g_goto C (tgt := 253) dL_lines_249 (by decide) ?_
                        refine g_loc C [1, 2, 3, 4, 0, 6, 7, 8, 9, 10, 11, 12, 13, 14] rfl ?_
                        exact J17 _ (((if_pos h17).trans ((if_neg h19).trans (if_neg h20))))
                refine g_if_eq C (tgt := 226) dL_lines_219 (by decide) (fun h16 => ?_) (fun h16 => ?_)
                · refine g_iload C (i := 4) dL_lines_226 4 rfl ?_
                  refine g_iconst C (v := 1) dL_lines_228 (by decide) ?_
                  refine g_iadd C dL_lines_229 ?_
                  refine g_loc C [1, 2, 3, 0, 5, 6, 7, 8, 9, 10, 11, 12, 13, 14] rfl ?_
                  exact J15 _ ((if_pos h16))
                · refine g_iconst C (v := 0) dL_lines_222 (by decide) ?_
                  refine g_goto C (tgt := 230) dL_lines_223 (by decide) ?_
                  refine g_loc C [1, 2, 3, 0, 5, 6, 7, 8, 9, 10, 11, 12, 13, 14] rfl ?_
                  exact J15 _ ((if_neg h16))
              refine g_if_eq C (tgt := 215) dL_lines_206 (by decide) (fun h15 => ?_) (fun h15 => ?_)
              · refine g_iconst C (v := 0) dL_lines_215 (by decide) ?_
                refine g_loc C [0, 1, 2, 4, 5, 6, 7, 8, 9, 10, 11, 12, 13, 14, 15] rfl ?_
                exact J13 _ ((if_pos h15))
              · refine g_iload_n C (i := 3) dL_lines_209 rfl 3 rfl ?_
                refine g_iconst C (v := 1) dL_lines_210 (by decide) ?_
                refine g_iadd C dL_lines_211 ?_
                refine g_goto C (tgt := 216) dL_lines_212 (by decide) ?_
                refine g_loc C [0, 1, 2, 4, 5, 6, 7, 8, 9, 10, 11, 12, 13, 14, 15] rfl ?_
                exact J13 _ ((if_neg h15))
            refine g_if_eq C (tgt := 189) dL_lines_176 (by decide) (fun h12 => ?_) (fun h12 => ?_)
            · refine g_iload C (i := 14) dL_lines_189 15 rfl ?_
              refine g_if_lt C (tgt := 204) dL_lines_191 (by decide) (fun h13 => ?_) (fun h13 => ?_)
              · refine g_loc C [1, 2, 3, 4, 5, 6, 7, 8, 9, 10, 11, 12, 13, 14, 15, 0] rfl ?_
                exact J11 _ (((if_pos h12).trans (if_pos h13)))
              · refine g_iload C (i := 5) dL_lines_194 6 rfl ?_
                refine g_if_ne C (tgt := 204) dL_lines_196 (by decide) (fun h14 => ?_) (fun h14 => ?_)
                · refine g_loc C [1, 2, 3, 4, 5, 6, 7, 8, 9, 10, 11, 12, 13, 14, 15, 0] rfl ?_
                  exact J11 _ (((if_pos h12).trans ((if_neg h13).trans (if_neg h14))))
                · refine g_iconst C (v := 4) dL_lines_199 (by decide) ?_
                  refine g_iload C (i := 14) dL_lines_200 15 rfl ?_
                  refine g_imul C dL_lines_202 ?_
                  refine g_istore_n C (i := 2) (lv' := [(2, .int (4 * t2)), (16, .int v7), (0, .ref (ad 0)), (1, .int x), (3, .int (s1.2.1)), (4, .int (s1.2.2.1)), (5, .int (s1.2.2.2.1)), (6, .int (s1.2.2.2.2.1)), (7, .int (s1.2.2.2.2.2.1)), (8, .int (s1.2.2.2.2.2.2.1)), (9, .int (s1.2.2.2.2.2.2.2.1)), (10, .int (s1.2.2.2.2.2.2.2.2.1)), (11, .int (s1.2.2.2.2.2.2.2.2.2.1)), (12, .int (s1.2.2.2.2.2.2.2.2.2.2)), (13, .int (nI j1)), (14, .int t2), (15, .int ((4 * t2) - (s1.1)))]) dL_lines_203 rfl (by decide) rfl ?_
                  refine g_loc C [2, 3, 0, 4, 5, 6, 7, 8, 9, 10, 11, 12, 13, 14, 15, 1] rfl ?_
                  exact J11 _ (((if_pos h12).trans ((if_neg h13).trans (if_pos h14))))
            · refine g_iload_n C (i := 2) dL_lines_179 rfl 3 rfl ?_
              refine g_iload C (i := 15) dL_lines_180 16 rfl ?_
              refine g_iconst C (v := 2) dL_lines_182 (by decide) ?_
              refine g_idiv C dL_lines_183 (by decide) ?_
              refine g_iadd C dL_lines_184 ?_
              refine g_nmi C (fun v9 ev9 => ?_)
              refine g_istore_n C (i := 2) (lv' := [(2, .int v9), (16, .int v7), (0, .ref (ad 0)), (1, .int x), (3, .int (s1.2.1)), (4, .int (s1.2.2.1)), (5, .int (s1.2.2.2.1)), (6, .int (s1.2.2.2.2.1)), (7, .int (s1.2.2.2.2.2.1)), (8, .int (s1.2.2.2.2.2.2.1)), (9, .int (s1.2.2.2.2.2.2.2.1)), (10, .int (s1.2.2.2.2.2.2.2.2.1)), (11, .int (s1.2.2.2.2.2.2.2.2.2.1)), (12, .int (s1.2.2.2.2.2.2.2.2.2.2)), (13, .int (nI j1)), (14, .int t2), (15, .int ((4 * t2) - (s1.1)))]) dL_lines_185 rfl (by decide) rfl ?_
              refine g_goto C (tgt := 204) dL_lines_186 (by decide) ?_
              refine g_loc C [2, 3, 0, 4, 5, 6, 7, 8, 9, 10, 11, 12, 13, 14, 15, 1] rfl ?_
              subst ev9
              exact J11 _ ((if_neg h12))
          refine g_if_lt C (tgt := 171) dL_lines_150 (by decide) (fun h9 => ?_) (fun h9 => ?_)
          · refine g_iconst C (v := 0) dL_lines_171 (by decide) ?_
            refine g_loc C [1, 2, 3, 4, 5, 6, 7, 8, 9, 10, 11, 12, 13, 14, 15, 0] rfl ?_
            exact J8 _ ((if_pos h9))
          · refine g_iload C (i := 15) dL_lines_153 0 rfl ?_
            refine g_bipush C (v := (-12)) dL_lines_155 (by decide) ?_
            refine g_icmp_lt C (tgt := 171) dL_lines_157 (by decide) (fun h10 => ?_) (fun h10 => ?_)
            · refine g_iconst C (v := 0) dL_lines_171 (by decide) ?_
              refine g_loc C [1, 2, 3, 4, 5, 6, 7, 8, 9, 10, 11, 12, 13, 14, 15, 0] rfl ?_
              exact J8 _ (((if_neg h9).trans (if_pos h10)))
            · refine g_iload C (i := 15) dL_lines_160 0 rfl ?_
              refine g_bipush C (v := 12) dL_lines_162 (by decide) ?_
              refine g_icmp_gt C (tgt := 171) dL_lines_164 (by decide) (fun h11 => ?_) (fun h11 => ?_)
              · refine g_iconst C (v := 0) dL_lines_171 (by decide) ?_
                refine g_loc C [1, 2, 3, 4, 5, 6, 7, 8, 9, 10, 11, 12, 13, 14, 15, 0] rfl ?_
                exact J8 _ (((if_neg h9).trans ((if_neg h10).trans (if_pos h11))))
              · refine g_iconst C (v := 1) dL_lines_167 (by decide) ?_
                refine g_goto C (tgt := 172) dL_lines_168 (by decide) ?_
                refine g_loc C [1, 2, 3, 4, 5, 6, 7, 8, 9, 10, 11, 12, 13, 14, 15, 0] rfl ?_
                exact J8 _ (((if_neg h9).trans ((if_neg h10).trans (if_neg h11))))
        · exact absurd kd_exit h8
  · intro t1 hF1
    change K σ φ 35 [(0, .ref (ad 0)), (1, .int x), (2, .int (t1.1)), (3, .int (t1.2.1)), (4, .int (t1.2.2.1)), (5, .int (t1.2.2.2.1)), (6, .int (t1.2.2.2.2.1)), (7, .int (t1.2.2.2.2.2.1)), (8, .int (t1.2.2.2.2.2.2.1)), (9, .int (t1.2.2.2.2.2.2.2.1)), (10, .int (t1.2.2.2.2.2.2.2.2.1)), (11, .int (t1.2.2.2.2.2.2.2.2.2.1)), (12, .int (t1.2.2.2.2.2.2.2.2.2.2)), (13, .int (nI 8))] []
    refine g_iload C (i := 13) dL_lines_35 13 rfl ?_
    refine g_bipush C (v := 8) dL_lines_37 (by decide) ?_
    refine g_icmp_ge C (tgt := 730) dL_lines_39 (by decide) (fun h62 => ?_) (fun h62 => ?_)
    · refine g_iload C (i := 9) dL_lines_730 9 rfl ?_
      refine g_iload_n C (i := 1) dL_lines_732 rfl 1 rfl ?_
      refine g_icmp_ne C (tgt := 790) dL_lines_733 (by decide) (fun h63 => ?_) (fun h63 => ?_)
      · refine g_iconst C (v := 0) dL_lines_790 (by decide) ?_
        have e0 : f_L_lines σ x = 0 := by
          exact ((f_L_lines_eq _ _).trans ((sumE_inr hF1).trans (if_neg h63)))
        exact hi _ _ _ _ _ _ rfl dL_lines_791 (lv_narrowZ (Or.inl rfl)).1 ⟨(congrArg (fun z => some (Value.int z)) e0).symm, rfl, rfl⟩
      · refine g_aload_n C (i := 0) dL_lines_736 rfl 0 rfl ?_
        refine g_iconst C (v := 4) dL_lines_737 (by decide) ?_
        refine g_callV C (st := []) (c_X10_count l D ad dA z0 tt σ φ 4) rfl ml_L_35 im_X10_count se_X10_count in_X10 co_X10_count dyV_X10_count rfl rfl ⟨(Nat.le_of_ble_eq_true rfl), (Nat.le_of_ble_eq_true rfl)⟩ 0 10 (fun f => at_0 ad dA σ f) rfl dL_lines_738 rfl (Nat.le_of_ble_eq_true rfl) (g_fni ?_)
        refine g_iload C (i := 10) dL_lines_741 10 rfl ?_
        refine g_icmp_ne C (tgt := 790) dL_lines_743 (by decide) (fun h64 => ?_) (fun h64 => ?_)
        · refine g_iconst C (v := 0) dL_lines_790 (by decide) ?_
          have e0 : f_L_lines σ x = 0 := by
            exact ((f_L_lines_eq _ _).trans ((sumE_inr hF1).trans ((if_pos h63).trans (if_neg h64))))
          exact hi _ _ _ _ _ _ rfl dL_lines_791 (lv_narrowZ (Or.inl rfl)).1 ⟨(congrArg (fun z => some (Value.int z)) e0).symm, rfl, rfl⟩
        · refine g_aload_n C (i := 0) dL_lines_746 rfl 0 rfl ?_
          refine g_iconst C (v := 2) dL_lines_747 (by decide) ?_
          refine g_callV C (st := []) (c_X10_count l D ad dA z0 tt σ φ 2) rfl ml_L_35 im_X10_count se_X10_count in_X10 co_X10_count dyV_X10_count rfl rfl ⟨(Nat.le_of_ble_eq_true rfl), (Nat.le_of_ble_eq_true rfl)⟩ 0 10 (fun f => at_0 ad dA σ f) rfl dL_lines_748 rfl (Nat.le_of_ble_eq_true rfl) (g_fni ?_)
          refine g_iload C (i := 11) dL_lines_751 11 rfl ?_
          refine g_icmp_ne C (tgt := 790) dL_lines_753 (by decide) (fun h65 => ?_) (fun h65 => ?_)
          · refine g_iconst C (v := 0) dL_lines_790 (by decide) ?_
            have e0 : f_L_lines σ x = 0 := by
              exact ((f_L_lines_eq _ _).trans ((sumE_inr hF1).trans ((if_pos h63).trans ((if_pos h64).trans (if_neg h65)))))
            exact hi _ _ _ _ _ _ rfl dL_lines_791 (lv_narrowZ (Or.inl rfl)).1 ⟨(congrArg (fun z => some (Value.int z)) e0).symm, rfl, rfl⟩
          · refine g_aload_n C (i := 0) dL_lines_756 rfl 0 rfl ?_
            refine g_iconst C (v := 3) dL_lines_757 (by decide) ?_
            refine g_callV C (st := []) (c_X10_count l D ad dA z0 tt σ φ 3) rfl ml_L_35 im_X10_count se_X10_count in_X10 co_X10_count dyV_X10_count rfl rfl ⟨(Nat.le_of_ble_eq_true rfl), (Nat.le_of_ble_eq_true rfl)⟩ 0 10 (fun f => at_0 ad dA σ f) rfl dL_lines_758 rfl (Nat.le_of_ble_eq_true rfl) (g_fni ?_)
            refine g_iload C (i := 12) dL_lines_761 12 rfl ?_
            refine g_icmp_ne C (tgt := 790) dL_lines_763 (by decide) (fun h66 => ?_) (fun h66 => ?_)
            · refine g_iconst C (v := 0) dL_lines_790 (by decide) ?_
              have e0 : f_L_lines σ x = 0 := by
                exact ((f_L_lines_eq _ _).trans ((sumE_inr hF1).trans ((if_pos h63).trans ((if_pos h64).trans ((if_pos h65).trans (if_neg h66))))))
              exact hi _ _ _ _ _ _ rfl dL_lines_791 (lv_narrowZ (Or.inl rfl)).1 ⟨(congrArg (fun z => some (Value.int z)) e0).symm, rfl, rfl⟩
            · refine g_aload_n C (i := 0) dL_lines_766 rfl 0 rfl ?_
              refine g_iconst C (v := 1) dL_lines_767 (by decide) ?_
              refine g_callV C (st := []) (c_X10_count l D ad dA z0 tt σ φ 1) rfl ml_L_35 im_X10_count se_X10_count in_X10 co_X10_count dyV_X10_count rfl rfl ⟨(Nat.le_of_ble_eq_true rfl), (Nat.le_of_ble_eq_true rfl)⟩ 0 10 (fun f => at_0 ad dA σ f) rfl dL_lines_768 rfl (Nat.le_of_ble_eq_true rfl) (g_fni ?_)
              refine g_iload C (i := 11) dL_lines_771 11 rfl ?_
              refine g_iload C (i := 12) dL_lines_773 12 rfl ?_
              refine g_icmp_le C (tgt := 782) dL_lines_775 (by decide) (fun h67 => ?_) (fun h67 => ?_)
              · refine g_iconst C (v := 0) dL_lines_782 (by decide) ?_
                refine g_icmp_ne C (tgt := 790) dL_lines_783 (by decide) (fun h68 => ?_) (fun h68 => ?_)
                · refine g_iconst C (v := 0) dL_lines_790 (by decide) ?_
                  have e0 : f_L_lines σ x = 0 := by
                    exact ((f_L_lines_eq _ _).trans ((sumE_inr hF1).trans ((if_pos h63).trans ((if_pos h64).trans ((if_pos h65).trans ((if_pos h66).trans ((if_pos h67).trans (if_neg h68))))))))
                  exact hi _ _ _ _ _ _ rfl dL_lines_791 (lv_narrowZ (Or.inl rfl)).1 ⟨(congrArg (fun z => some (Value.int z)) e0).symm, rfl, rfl⟩
                · refine g_iconst C (v := 1) dL_lines_786 (by decide) ?_
                  refine g_goto C (tgt := 791) dL_lines_787 (by decide) ?_
                  have e0 : f_L_lines σ x = 1 := by
                    exact ((f_L_lines_eq _ _).trans ((sumE_inr hF1).trans ((if_pos h63).trans ((if_pos h64).trans ((if_pos h65).trans ((if_pos h66).trans ((if_pos h67).trans (if_pos h68))))))))
                  exact hi _ _ _ _ _ _ rfl dL_lines_791 (lv_narrowZ (Or.inr rfl)).1 ⟨(congrArg (fun z => some (Value.int z)) e0).symm, rfl, rfl⟩
              · refine g_iconst C (v := 1) dL_lines_778 (by decide) ?_
                refine g_goto C (tgt := 783) dL_lines_779 (by decide) ?_
                refine g_icmp_ne C (tgt := 790) dL_lines_783 (by decide) (fun h69 => ?_) (fun h69 => ?_)
                · refine g_iconst C (v := 0) dL_lines_790 (by decide) ?_
                  have e0 : f_L_lines σ x = 0 := by
                    exact ((f_L_lines_eq _ _).trans ((sumE_inr hF1).trans ((if_pos h63).trans ((if_pos h64).trans ((if_pos h65).trans ((if_pos h66).trans ((if_neg h67).trans (if_neg h69))))))))
                  exact hi _ _ _ _ _ _ rfl dL_lines_791 (lv_narrowZ (Or.inl rfl)).1 ⟨(congrArg (fun z => some (Value.int z)) e0).symm, rfl, rfl⟩
                · refine g_iconst C (v := 1) dL_lines_786 (by decide) ?_
                  refine g_goto C (tgt := 791) dL_lines_787 (by decide) ?_
                  have e0 : f_L_lines σ x = 1 := by
                    exact ((f_L_lines_eq _ _).trans ((sumE_inr hF1).trans ((if_pos h63).trans ((if_pos h64).trans ((if_pos h65).trans ((if_pos h66).trans ((if_neg h67).trans (if_pos h69))))))))
                  exact hi _ _ _ _ _ _ rfl dL_lines_791 (lv_narrowZ (Or.inr rfl)).1 ⟨(congrArg (fun z => some (Value.int z)) e0).symm, rfl, rfl⟩
    · exact absurd (nI_le (Nat.le_refl _) (by decide)) h62
