/-! the law's motion -/
def b_L_motion_9 (σ : Sg) (x : Int32) (j1 : Nat) (s1 : Int64 × Int64) : Int64 × Int64 := let v2 : Int64 := (if (f_L_size ((σ 53 (nI j1).toNatClampNeg) - (f_X10_luma σ ((nI j1) / 10) ((nI j1) - (nI j1) / 10 * 10)))) ≤ x then (0 : Int64) else ((1 : Int64) <<< ((nI j1).toInt64 &&& 63))); let v4 : Int64 := (if (f_L_size ((σ 54 (nI j1).toNatClampNeg) - (f_X10_luma σ (4 + ((nI j1) / 10)) ((nI j1) - (nI j1) / 10 * 10)))) ≤ x then (0 : Int64) else ((1 : Int64) <<< ((nI j1).toInt64 &&& 63))); ((s1.1) ||| v2, (s1.2) ||| v4)
theorem b_L_motion_9_eq (σ : Sg) (x : Int32) (j1 : Nat) (s1 : Int64 × Int64) : b_L_motion_9 σ x j1 s1 = (let v2 : Int64 := (if (f_L_size ((σ 53 (nI j1).toNatClampNeg) - (f_X10_luma σ ((nI j1) / 10) ((nI j1) - (nI j1) / 10 * 10)))) ≤ x then (0 : Int64) else ((1 : Int64) <<< ((nI j1).toInt64 &&& 63))); let v4 : Int64 := (if (f_L_size ((σ 54 (nI j1).toNatClampNeg) - (f_X10_luma σ (4 + ((nI j1) / 10)) ((nI j1) - (nI j1) / 10 * 10)))) ≤ x then (0 : Int64) else ((1 : Int64) <<< ((nI j1).toInt64 &&& 63))); ((s1.1) ||| v2, (s1.2) ||| v4)) := rfl
def b_L_motion_111 (σ : Sg) (t1 : Int64 × Int64) (j6 : Nat) (s6 : Int32 × Int32) : (Int32) ⊕ (Int32 × Int32) := let v7 : Int32 := (if ((nI j6) - (nI j6) / 10 * 10) ≤ 0 then (if 9 ≤ ((nI j6) - (nI j6) / 10 * 10) then (if (f_L_is (t1.1) (t1.2) ((nI j6) - 10)) = 0 then (if (f_L_is (t1.1) (t1.2) ((nI j6) + 10)) = 0 then 0 else 1) else 1) else (if (f_L_is (t1.1) (t1.2) ((nI j6) + 1)) = 0 then (if (f_L_is (t1.1) (t1.2) ((nI j6) - 10)) = 0 then (if (f_L_is (t1.1) (t1.2) ((nI j6) + 10)) = 0 then 0 else 1) else 1) else 1)) else (if (f_L_is (t1.1) (t1.2) ((nI j6) - 1)) = 0 then (if 9 ≤ ((nI j6) - (nI j6) / 10 * 10) then (if (f_L_is (t1.1) (t1.2) ((nI j6) - 10)) = 0 then (if (f_L_is (t1.1) (t1.2) ((nI j6) + 10)) = 0 then 0 else 1) else 1) else (if (f_L_is (t1.1) (t1.2) ((nI j6) + 1)) = 0 then (if (f_L_is (t1.1) (t1.2) ((nI j6) - 10)) = 0 then (if (f_L_is (t1.1) (t1.2) ((nI j6) + 10)) = 0 then 0 else 1) else 1) else 1)) else 1)); let v9 : Int32 := (if (f_L_is (t1.1) (t1.2) (nI j6)) = 0 then 0 else (if v7 = 0 then 1 else 2)); let v11 : Int32 := (if v9 = 2 then 1 else 0); let v13 : Int32 := (if v9 = 1 then 1 else 0); if (f_X10_motion σ ((nI j6) / 10) ((nI j6) - (nI j6) / 10 * 10)) = v9 then (.inr ((s6.1) + v11, (s6.2) + v13)) else (.inl 0)
theorem b_L_motion_111_eq (σ : Sg) (t1 : Int64 × Int64) (j6 : Nat) (s6 : Int32 × Int32) : b_L_motion_111 σ t1 j6 s6 = (let v7 : Int32 := (if ((nI j6) - (nI j6) / 10 * 10) ≤ 0 then (if 9 ≤ ((nI j6) - (nI j6) / 10 * 10) then (if (f_L_is (t1.1) (t1.2) ((nI j6) - 10)) = 0 then (if (f_L_is (t1.1) (t1.2) ((nI j6) + 10)) = 0 then 0 else 1) else 1) else (if (f_L_is (t1.1) (t1.2) ((nI j6) + 1)) = 0 then (if (f_L_is (t1.1) (t1.2) ((nI j6) - 10)) = 0 then (if (f_L_is (t1.1) (t1.2) ((nI j6) + 10)) = 0 then 0 else 1) else 1) else 1)) else (if (f_L_is (t1.1) (t1.2) ((nI j6) - 1)) = 0 then (if 9 ≤ ((nI j6) - (nI j6) / 10 * 10) then (if (f_L_is (t1.1) (t1.2) ((nI j6) - 10)) = 0 then (if (f_L_is (t1.1) (t1.2) ((nI j6) + 10)) = 0 then 0 else 1) else 1) else (if (f_L_is (t1.1) (t1.2) ((nI j6) + 1)) = 0 then (if (f_L_is (t1.1) (t1.2) ((nI j6) - 10)) = 0 then (if (f_L_is (t1.1) (t1.2) ((nI j6) + 10)) = 0 then 0 else 1) else 1) else 1)) else 1)); let v9 : Int32 := (if (f_L_is (t1.1) (t1.2) (nI j6)) = 0 then 0 else (if v7 = 0 then 1 else 2)); let v11 : Int32 := (if v9 = 2 then 1 else 0); let v13 : Int32 := (if v9 = 1 then 1 else 0); if (f_X10_motion σ ((nI j6) / 10) ((nI j6) - (nI j6) / 10 * 10)) = v9 then (.inr ((s6.1) + v11, (s6.2) + v13)) else (.inl 0)) := rfl
def f_L_motion (σ : Sg) (x : Int32) : Int32 := let t1 : Int64 × Int64 := loopF (b_L_motion_9 σ x) 40 ((0 : Int64), (0 : Int64)); sumE (loopE (b_L_motion_111 σ t1) 80 0 (0, 0)) (fun t6 => if (f_X10_count σ 7) = (t6.1) then (if (f_X10_count σ 8) = (t6.2) then 1 else 0) else 0)
theorem f_L_motion_eq (σ : Sg) (x : Int32) : f_L_motion σ x = (let t1 : Int64 × Int64 := loopF (b_L_motion_9 σ x) 40 ((0 : Int64), (0 : Int64)); sumE (loopE (b_L_motion_111 σ t1) 80 0 (0, 0)) (fun t6 => if (f_X10_count σ 7) = (t6.1) then (if (f_X10_count σ 8) = (t6.2) then 1 else 0) else 0)) := rfl
set_option maxRecDepth 100000 in
set_option maxHeartbeats 4000000 in
theorem c_L_motion (l : Launch) (D : va_G) (ad : Nat → Nat) (dA : Nat → ClassId) (z0 : Nat) (tt : Nat → Nat) (σ : Sg) (φ : Fl) (x : Int32)  : MC l D ad dA z0 tt yL_motion (Cond.code yL_motion cL_motion 14 (some .boolean) :: lw_all) { frames := 4, cells := 0, slots := 0, locals := 105 } [.ref (ad 0), .ref (ad 53), .ref (ad 54), .int x] σ φ (Fn (some (.int (f_L_motion σ x))) σ φ) := by
  refine mk_MC (by decide) (Nat.le_of_ble_eq_true rfl) ?_
  intro K C hi hf hv
  change K σ φ 0 [(0, .ref (ad 0)), (1, .ref (ad 53)), (2, .ref (ad 54)), (3, .int x)] []
  refine g_lconst C (v := 0) dL_motion_0 (by decide) ?_
  refine g_lstore C (i := 4) (lv' := [(4, .long (0 : Int64)), (0, .ref (ad 0)), (1, .ref (ad 53)), (2, .ref (ad 54)), (3, .int x)]) dL_motion_1 (by decide) rfl ?_
  refine g_lconst C (v := 0) dL_motion_3 (by decide) ?_
  refine g_lstore C (i := 6) (lv' := [(6, .long (0 : Int64)), (4, .long (0 : Int64)), (0, .ref (ad 0)), (1, .ref (ad 53)), (2, .ref (ad 54)), (3, .int x)]) dL_motion_4 (by decide) rfl ?_
  refine g_iconst C (v := 0) dL_motion_6 (by decide) ?_
  refine g_istore C (i := 8) (lv' := [(8, .int 0), (6, .long (0 : Int64)), (4, .long (0 : Int64)), (0, .ref (ad 0)), (1, .ref (ad 53)), (2, .ref (ad 54)), (3, .int x)]) dL_motion_7 (by decide) rfl ?_
  refine g_loc C (lv' := [(0, .ref (ad 0)), (1, .ref (ad 53)), (2, .ref (ad 54)), (3, .int x), (4, .long (0 : Int64)), (6, .long (0 : Int64)), (8, .int 0)]) [3, 4, 5, 6, 2, 1, 0] rfl ?_
  refine loopF_ind (b_L_motion_9 σ x) 40 (fun (j1 : Nat) (s1 : Int64 × Int64) => K σ φ 9 [(0, .ref (ad 0)), (1, .ref (ad 53)), (2, .ref (ad 54)), (3, .int x), (4, .long (s1.1)), (6, .long (s1.2)), (8, .int (nI j1))] []) ((0 : Int64), (0 : Int64)) ?_ ?_
  · intro j1 s1 hj1 kk
    change K σ φ 9 [(0, .ref (ad 0)), (1, .ref (ad 53)), (2, .ref (ad 54)), (3, .int x), (4, .long (s1.1)), (6, .long (s1.2)), (8, .int (nI j1))] []
    refine g_iload C (i := 8) dL_motion_9 6 rfl ?_
    refine g_bipush C (v := 40) dL_motion_11 (by decide) ?_
    refine g_icmp_ge C (tgt := 102) dL_motion_13 (by decide) (fun h1 => ?_) (fun h1 => ?_)
    · exact absurd h1 (nI_ge hj1 (by decide))
    · refine g_lload C (i := 4) dL_motion_16 4 rfl ?_
      refine g_aload_n C (i := 1) dL_motion_18 rfl 1 rfl ?_
      refine g_iload C (i := 8) dL_motion_19 6 rfl ?_
      refine ld_53 C (vp_in_nI (Nat.lt_of_lt_of_le hj1 (by decide)) (by decide)) dL_motion_21 ?_
      refine g_aload_n C (i := 0) dL_motion_22 rfl 0 rfl ?_
      refine g_iload C (i := 8) dL_motion_23 6 rfl ?_
      refine g_bipush C (v := 10) dL_motion_25 (by decide) ?_
      refine g_idiv C dL_motion_27 (by decide) ?_
      refine g_iload C (i := 8) dL_motion_28 6 rfl ?_
      refine g_bipush C (v := 10) dL_motion_30 (by decide) ?_
      refine g_irem C dL_motion_32 (by decide) ?_
      refine g_callV C (st := [.int (σ 53 (nI j1).toNatClampNeg), .long (s1.1)]) (c_X10_luma l D ad dA z0 tt σ φ ((nI j1) / 10) ((nI j1) - (nI j1) / 10 * 10)) rfl ml_L_52 im_X10_luma se_X10_luma in_X10 co_X10_luma dyV_X10_luma rfl rfl ⟨(Nat.le_of_ble_eq_true rfl), (Nat.le_of_ble_eq_true rfl)⟩ 0 10 (fun f => at_0 ad dA σ f) rfl dL_motion_33 rfl (Nat.le_of_ble_eq_true rfl) (g_fni ?_)
      refine g_isub C dL_motion_36 ?_
      refine g_callS C (st := [.long (s1.1)]) (c_L_size l D ad dA z0 tt σ φ ((σ 53 (nI j1).toNatClampNeg) - (f_X10_luma σ ((nI j1) / 10) ((nI j1) - (nI j1) / 10 * 10)))) rfl ml_L_32 sm_L_size in_L co_L_size dyS_L_size rfl rfl ⟨(Nat.le_of_ble_eq_true rfl), (Nat.le_of_ble_eq_true rfl)⟩ dL_motion_37 rfl (Nat.le_of_ble_eq_true rfl) (g_fni ?_)
      refine g_iload_n C (i := 3) dL_motion_40 rfl 3 rfl ?_
      have J3 : ∀ (v2 : Int64), (if (f_L_size ((σ 53 (nI j1).toNatClampNeg) - (f_X10_luma σ ((nI j1) / 10) ((nI j1) - (nI j1) / 10 * 10)))) ≤ x then (0 : Int64) else ((1 : Int64) <<< ((nI j1).toInt64 &&& 63))) = v2 → K σ φ 52 [(0, .ref (ad 0)), (1, .ref (ad 53)), (2, .ref (ad 54)), (3, .int x), (6, .long (s1.2)), (8, .int (nI j1))] [.long v2, .long (s1.1)] := by
        intro v2 ev2
        refine g_lor C dL_motion_52 ?_
        refine g_lstore C (i := 4) (lv' := [(4, .long ((s1.1) ||| v2)), (0, .ref (ad 0)), (1, .ref (ad 53)), (2, .ref (ad 54)), (3, .int x), (6, .long (s1.2)), (8, .int (nI j1))]) dL_motion_53 (by decide) rfl ?_
        refine g_lload C (i := 6) dL_motion_55 5 rfl ?_
        refine g_aload_n C (i := 2) dL_motion_57 rfl 3 rfl ?_
        refine g_iload C (i := 8) dL_motion_58 6 rfl ?_
        refine ld_54 C (vp_in_nI (Nat.lt_of_lt_of_le hj1 (by decide)) (by decide)) dL_motion_60 ?_
        refine g_aload_n C (i := 0) dL_motion_61 rfl 1 rfl ?_
        refine g_iconst C (v := 4) dL_motion_62 (by decide) ?_
        refine g_iload C (i := 8) dL_motion_63 6 rfl ?_
        refine g_bipush C (v := 10) dL_motion_65 (by decide) ?_
        refine g_idiv C dL_motion_67 (by decide) ?_
        refine g_iadd C dL_motion_68 ?_
        refine g_iload C (i := 8) dL_motion_69 6 rfl ?_
        refine g_bipush C (v := 10) dL_motion_71 (by decide) ?_
        refine g_irem C dL_motion_73 (by decide) ?_
        refine g_callV C (st := [.int (σ 54 (nI j1).toNatClampNeg), .long (s1.2)]) (c_X10_luma l D ad dA z0 tt σ φ (4 + ((nI j1) / 10)) ((nI j1) - (nI j1) / 10 * 10)) rfl ml_L_52 im_X10_luma se_X10_luma in_X10 co_X10_luma dyV_X10_luma rfl rfl ⟨(Nat.le_of_ble_eq_true rfl), (Nat.le_of_ble_eq_true rfl)⟩ 0 10 (fun f => at_0 ad dA σ f) rfl dL_motion_74 rfl (Nat.le_of_ble_eq_true rfl) (g_fni ?_)
        refine g_isub C dL_motion_77 ?_
        refine g_callS C (st := [.long (s1.2)]) (c_L_size l D ad dA z0 tt σ φ ((σ 54 (nI j1).toNatClampNeg) - (f_X10_luma σ (4 + ((nI j1) / 10)) ((nI j1) - (nI j1) / 10 * 10)))) rfl ml_L_32 sm_L_size in_L co_L_size dyS_L_size rfl rfl ⟨(Nat.le_of_ble_eq_true rfl), (Nat.le_of_ble_eq_true rfl)⟩ dL_motion_78 rfl (Nat.le_of_ble_eq_true rfl) (g_fni ?_)
        refine g_iload_n C (i := 3) dL_motion_81 rfl 4 rfl ?_
        have J5 : ∀ (v4 : Int64), (if (f_L_size ((σ 54 (nI j1).toNatClampNeg) - (f_X10_luma σ (4 + ((nI j1) / 10)) ((nI j1) - (nI j1) / 10 * 10)))) ≤ x then (0 : Int64) else ((1 : Int64) <<< ((nI j1).toInt64 &&& 63))) = v4 → K σ φ 93 [(0, .ref (ad 0)), (1, .ref (ad 53)), (2, .ref (ad 54)), (3, .int x), (4, .long ((s1.1) ||| v2)), (8, .int (nI j1))] [.long v4, .long (s1.2)] := by
          intro v4 ev4
          refine g_lor C dL_motion_93 ?_
          refine g_lstore C (i := 6) (lv' := [(6, .long ((s1.2) ||| v4)), (0, .ref (ad 0)), (1, .ref (ad 53)), (2, .ref (ad 54)), (3, .int x), (4, .long ((s1.1) ||| v2)), (8, .int (nI j1))]) dL_motion_94 (by decide) rfl ?_
          refine g_iinc C (i := 8) (v := nI (j1 + 1)) (lv' := [(8, .int (nI (j1 + 1))), (6, .long ((s1.2) ||| v4)), (0, .ref (ad 0)), (1, .ref (ad 53)), (2, .ref (ad 54)), (3, .int x), (4, .long ((s1.1) ||| v2))]) dL_motion_96 6 rfl (nI_1 _) (by decide) rfl ?_
          refine g_goto C (tgt := 9) dL_motion_99 (by decide) ?_
          refine g_loc C [2, 3, 4, 5, 6, 1, 0] rfl ?_
          refine kk ((s1.1) ||| v2, (s1.2) ||| v4) ?_
          subst ev4
          subst ev2
          exact b_L_motion_9_eq _ _ _ _
        refine g_icmp_le C (tgt := 92) dL_motion_82 (by decide) (fun h3 => ?_) (fun h3 => ?_)
        · refine g_lconst C (v := 0) dL_motion_92 (by decide) ?_
          refine g_loc C [1, 2, 3, 4, 0, 6] rfl ?_
          exact J5 _ ((if_pos h3))
        · refine g_lconst C (v := 1) dL_motion_85 (by decide) ?_
          refine g_iload C (i := 8) dL_motion_86 6 rfl ?_
          refine g_lshl C dL_motion_88 ?_
          refine g_goto C (tgt := 93) dL_motion_89 (by decide) ?_
          refine g_loc C [1, 2, 3, 4, 0, 6] rfl ?_
          exact J5 _ ((if_neg h3))
      refine g_icmp_le C (tgt := 51) dL_motion_41 (by decide) (fun h2 => ?_) (fun h2 => ?_)
      · refine g_lconst C (v := 0) dL_motion_51 (by decide) ?_
        refine g_loc C [0, 1, 2, 3, 5, 6] rfl ?_
        exact J3 _ ((if_pos h2))
      · refine g_lconst C (v := 1) dL_motion_44 (by decide) ?_
        refine g_iload C (i := 8) dL_motion_45 6 rfl ?_
        refine g_lshl C dL_motion_47 ?_
        refine g_goto C (tgt := 52) dL_motion_48 (by decide) ?_
        refine g_loc C [0, 1, 2, 3, 5, 6] rfl ?_
        exact J3 _ ((if_neg h2))
  · generalize et1 : loopF (b_L_motion_9 σ x) 40 ((0 : Int64), (0 : Int64)) = t1
    change K σ φ 9 [(0, .ref (ad 0)), (1, .ref (ad 53)), (2, .ref (ad 54)), (3, .int x), (4, .long (t1.1)), (6, .long (t1.2)), (8, .int (nI 40))] []
    refine g_iload C (i := 8) dL_motion_9 6 rfl ?_
    refine g_bipush C (v := 40) dL_motion_11 (by decide) ?_
    refine g_icmp_ge C (tgt := 102) dL_motion_13 (by decide) (fun h4 => ?_) (fun h4 => ?_)
    · refine g_iconst C (v := 0) dL_motion_102 (by decide) ?_
      refine g_istore C (i := 8) (lv' := [(8, .int 0), (0, .ref (ad 0)), (1, .ref (ad 53)), (2, .ref (ad 54)), (3, .int x), (4, .long (t1.1)), (6, .long (t1.2))]) dL_motion_103 (by decide) rfl ?_
      refine g_iconst C (v := 0) dL_motion_105 (by decide) ?_
      refine g_istore C (i := 9) (lv' := [(9, .int 0), (8, .int 0), (0, .ref (ad 0)), (1, .ref (ad 53)), (2, .ref (ad 54)), (3, .int x), (4, .long (t1.1)), (6, .long (t1.2))]) dL_motion_106 (by decide) rfl ?_
      refine g_iconst C (v := 0) dL_motion_108 (by decide) ?_
      refine g_istore C (i := 10) (lv' := [(10, .int 0), (9, .int 0), (8, .int 0), (0, .ref (ad 0)), (1, .ref (ad 53)), (2, .ref (ad 54)), (3, .int x), (4, .long (t1.1)), (6, .long (t1.2))]) dL_motion_109 (by decide) rfl ?_
      refine g_loc C (lv' := [(0, .ref (ad 0)), (4, .long (t1.1)), (6, .long (t1.2)), (8, .int 0), (9, .int 0), (10, .int 0)]) [3, 7, 8, 2, 1, 0] rfl ?_
      refine loopE_ind (b_L_motion_111 σ t1) 80 (fun (j6 : Nat) (s6 : Int32 × Int32) => K σ φ 111 [(0, .ref (ad 0)), (4, .long (t1.1)), (6, .long (t1.2)), (8, .int (s6.1)), (9, .int (s6.2)), (10, .int (nI j6))] []) (0, 0) ?_ ?_
      · intro n6 j6 s6 hn hF6 kk
        have hj6 : j6 < 80 := by omega
        change K σ φ 111 [(0, .ref (ad 0)), (4, .long (t1.1)), (6, .long (t1.2)), (8, .int (s6.1)), (9, .int (s6.2)), (10, .int (nI j6))] []
        refine g_iload C (i := 10) dL_motion_111 5 rfl ?_
        refine g_bipush C (v := 80) dL_motion_113 (by decide) ?_
        refine g_icmp_ge C (tgt := 292) dL_motion_115 (by decide) (fun h5 => ?_) (fun h5 => ?_)
        · exact absurd h5 (nI_ge hj6 (by decide))
        · refine g_lload C (i := 4) dL_motion_118 1 rfl ?_
          refine g_lload C (i := 6) dL_motion_120 2 rfl ?_
          refine g_iload C (i := 10) dL_motion_122 5 rfl ?_
          refine g_callS C (st := []) (c_L_is l D ad dA z0 tt σ φ (t1.1) (t1.2) (nI j6)) rfl ml_L_59 sm_L_is in_L co_L_is dyS_L_is rfl rfl ⟨(Nat.le_of_ble_eq_true rfl), (Nat.le_of_ble_eq_true rfl)⟩ dL_motion_124 rfl (Nat.le_of_ble_eq_true rfl) (g_fni ?_)
          refine g_istore C (i := 11) (lv' := [(11, .int (f_L_is (t1.1) (t1.2) (nI j6))), (0, .ref (ad 0)), (4, .long (t1.1)), (6, .long (t1.2)), (8, .int (s6.1)), (9, .int (s6.2)), (10, .int (nI j6))]) dL_motion_127 (by decide) rfl ?_
          refine g_iload C (i := 10) dL_motion_129 6 rfl ?_
          refine g_bipush C (v := 10) dL_motion_131 (by decide) ?_
          refine g_irem C dL_motion_133 (by decide) ?_
          have J8 : ∀ (v7 : Int32), (if ((nI j6) - (nI j6) / 10 * 10) ≤ 0 then (if 9 ≤ ((nI j6) - (nI j6) / 10 * 10) then (if (f_L_is (t1.1) (t1.2) ((nI j6) - 10)) = 0 then (if (f_L_is (t1.1) (t1.2) ((nI j6) + 10)) = 0 then 0 else 1) else 1) else (if (f_L_is (t1.1) (t1.2) ((nI j6) + 1)) = 0 then (if (f_L_is (t1.1) (t1.2) ((nI j6) - 10)) = 0 then (if (f_L_is (t1.1) (t1.2) ((nI j6) + 10)) = 0 then 0 else 1) else 1) else 1)) else (if (f_L_is (t1.1) (t1.2) ((nI j6) - 1)) = 0 then (if 9 ≤ ((nI j6) - (nI j6) / 10 * 10) then (if (f_L_is (t1.1) (t1.2) ((nI j6) - 10)) = 0 then (if (f_L_is (t1.1) (t1.2) ((nI j6) + 10)) = 0 then 0 else 1) else 1) else (if (f_L_is (t1.1) (t1.2) ((nI j6) + 1)) = 0 then (if (f_L_is (t1.1) (t1.2) ((nI j6) - 10)) = 0 then (if (f_L_is (t1.1) (t1.2) ((nI j6) + 10)) = 0 then 0 else 1) else 1) else 1)) else 1)) = v7 → K σ φ 210 [(0, .ref (ad 0)), (4, .long (t1.1)), (6, .long (t1.2)), (8, .int (s6.1)), (9, .int (s6.2)), (10, .int (nI j6)), (11, .int (f_L_is (t1.1) (t1.2) (nI j6)))] [.int v7] := by
            intro v7 ev7
            refine g_istore C (i := 12) (lv' := [(12, .int v7), (0, .ref (ad 0)), (4, .long (t1.1)), (6, .long (t1.2)), (8, .int (s6.1)), (9, .int (s6.2)), (10, .int (nI j6)), (11, .int (f_L_is (t1.1) (t1.2) (nI j6)))]) dL_motion_210 (by decide) rfl ?_
            refine g_iload C (i := 11) dL_motion_212 7 rfl ?_
            have J10 : ∀ (v9 : Int32), (if (f_L_is (t1.1) (t1.2) (nI j6)) = 0 then 0 else (if v7 = 0 then 1 else 2)) = v9 → K σ φ 231 [(0, .ref (ad 0)), (4, .long (t1.1)), (6, .long (t1.2)), (8, .int (s6.1)), (9, .int (s6.2)), (10, .int (nI j6))] [.int v9] := by
              intro v9 ev9
              refine g_istore C (i := 13) (lv' := [(13, .int v9), (0, .ref (ad 0)), (4, .long (t1.1)), (6, .long (t1.2)), (8, .int (s6.1)), (9, .int (s6.2)), (10, .int (nI j6))]) dL_motion_231 (by decide) rfl ?_
              refine g_iload C (i := 8) dL_motion_233 4 rfl ?_
              refine g_iload C (i := 13) dL_motion_235 0 rfl ?_
              refine g_iconst C (v := 2) dL_motion_237 (by decide) ?_
              have J12 : ∀ (v11 : Int32), (if v9 = 2 then 1 else 0) = v11 → K σ φ 246 [(0, .ref (ad 0)), (4, .long (t1.1)), (6, .long (t1.2)), (9, .int (s6.2)), (10, .int (nI j6)), (13, .int v9)] [.int v11, .int (s6.1)] := by
                intro v11 ev11
                refine g_iadd C dL_motion_246 ?_
                refine g_istore C (i := 8) (lv' := [(8, .int ((s6.1) + v11)), (0, .ref (ad 0)), (4, .long (t1.1)), (6, .long (t1.2)), (9, .int (s6.2)), (10, .int (nI j6)), (13, .int v9)]) dL_motion_247 (by decide) rfl ?_
                refine g_iload C (i := 9) dL_motion_249 4 rfl ?_
                refine g_iload C (i := 13) dL_motion_251 6 rfl ?_
                refine g_iconst C (v := 1) dL_motion_253 (by decide) ?_
                have J14 : ∀ (v13 : Int32), (if v9 = 1 then 1 else 0) = v13 → K σ φ 262 [(0, .ref (ad 0)), (4, .long (t1.1)), (6, .long (t1.2)), (8, .int ((s6.1) + v11)), (10, .int (nI j6)), (13, .int v9)] [.int v13, .int (s6.2)] := by
                  intro v13 ev13
                  refine g_iadd C dL_motion_262 ?_
                  refine g_istore C (i := 9) (lv' := [(9, .int ((s6.2) + v13)), (0, .ref (ad 0)), (4, .long (t1.1)), (6, .long (t1.2)), (8, .int ((s6.1) + v11)), (10, .int (nI j6)), (13, .int v9)]) dL_motion_263 (by decide) rfl ?_
                  refine g_aload_n C (i := 0) dL_motion_265 rfl 1 rfl ?_
                  refine g_iload C (i := 10) dL_motion_266 5 rfl ?_
                  refine g_bipush C (v := 10) dL_motion_268 (by decide) ?_
                  refine g_idiv C dL_motion_270 (by decide) ?_
                  refine g_iload C (i := 10) dL_motion_271 5 rfl ?_
                  refine g_bipush C (v := 10) dL_motion_273 (by decide) ?_
                  refine g_irem C dL_motion_275 (by decide) ?_
                  refine g_callV C (st := []) (c_X10_motion l D ad dA z0 tt σ φ ((nI j6) / 10) ((nI j6) - (nI j6) / 10 * 10)) rfl ml_L_63 im_X10_motion se_X10_motion in_X10 co_X10_motion dyV_X10_motion rfl rfl ⟨(Nat.le_of_ble_eq_true rfl), (Nat.le_of_ble_eq_true rfl)⟩ 0 10 (fun f => at_0 ad dA σ f) rfl dL_motion_276 rfl (Nat.le_of_ble_eq_true rfl) (g_fni ?_)
                  refine g_iload C (i := 13) dL_motion_279 6 rfl ?_
                  refine g_icmp_eq C (tgt := 286) dL_motion_281 (by decide) (fun h24 => ?_) (fun h24 => ?_)
                  · refine g_iinc C (i := 10) (v := nI (j6 + 1)) (lv' := [(10, .int (nI (j6 + 1))), (9, .int ((s6.2) + v13)), (0, .ref (ad 0)), (4, .long (t1.1)), (6, .long (t1.2)), (8, .int ((s6.1) + v11)), (13, .int v9)]) dL_motion_286 5 rfl (nI_1 _) (by decide) rfl ?_
                    refine g_goto C (tgt := 111) dL_motion_289 (by decide) ?_
                    refine g_loc C [2, 3, 4, 5, 1, 0] rfl ?_
                    refine kk ((s6.1) + v11, (s6.2) + v13) ?_
                    subst ev13
                    subst ev11
                    subst ev9
                    subst ev7
                    exact ((b_L_motion_111_eq _ _ _ _).trans (if_pos h24))
                  · refine g_iconst C (v := 0) dL_motion_284 (by decide) ?_
                    have e0 : f_L_motion σ x = 0 := by
                      subst ev13
                      subst ev11
                      subst ev9
                      subst ev7
                      subst et1
                      have eF := hF6.trans (loopE_inl n6 ((b_L_motion_111_eq _ _ _ _).trans (if_neg h24)))
                      exact ((f_L_motion_eq _ _).trans (sumE_inl eF))
                    exact hi _ _ _ _ _ _ rfl dL_motion_285 (lv_narrowZ (Or.inl rfl)).1 ⟨(congrArg (fun z => some (Value.int z)) e0).symm, rfl, rfl⟩
                refine g_icmp_ne C (tgt := 261) dL_motion_254 (by decide) (fun h23 => ?_) (fun h23 => ?_)
                · refine g_iconst C (v := 0) dL_motion_261 (by decide) ?_
                  refine g_loc C [1, 2, 3, 0, 5, 6] rfl ?_
                  exact J14 _ ((if_neg h23))
                · refine g_iconst C (v := 1) dL_motion_257 (by decide) ?_
                  refine g_goto C (tgt := 262) dL_motion_258 (by decide) ?_
                  refine g_loc C [1, 2, 3, 0, 5, 6] rfl ?_
                  exact J14 _ ((if_pos h23))
              refine g_icmp_ne C (tgt := 245) dL_motion_238 (by decide) (fun h22 => ?_) (fun h22 => ?_)
              · refine g_iconst C (v := 0) dL_motion_245 (by decide) ?_
                refine g_loc C [1, 2, 3, 5, 6, 0] rfl ?_
                exact J12 _ ((if_neg h22))
              · refine g_iconst C (v := 1) dL_motion_241 (by decide) ?_
                refine g_goto C (tgt := 246) dL_motion_242 (by decide) ?_
                refine g_loc C [1, 2, 3, 5, 6, 0] rfl ?_
                exact J12 _ ((if_pos h22))
            refine g_if_ne C (tgt := 221) dL_motion_214 (by decide) (fun h20 => ?_) (fun h20 => ?_)
            · refine g_iload C (i := 12) dL_motion_221 0 rfl ?_
              refine g_if_eq C (tgt := 230) dL_motion_223 (by decide) (fun h21 => ?_) (fun h21 => ?_)
              · refine g_iconst C (v := 1) dL_motion_230 (by decide) ?_
                refine g_loc C [1, 2, 3, 4, 5, 6] rfl ?_
                exact J10 _ (((if_neg h20).trans (if_pos h21)))
              · refine g_iconst C (v := 2) dL_motion_226 (by decide) ?_
                refine g_goto C (tgt := 231) dL_motion_227 (by decide) ?_
                refine g_loc C [1, 2, 3, 4, 5, 6] rfl ?_
                exact J10 _ (((if_neg h20).trans (if_neg h21)))
            · refine g_iconst C (v := 0) dL_motion_217 (by decide) ?_
              refine g_goto C (tgt := 231) dL_motion_218 (by decide) ?_
              refine g_loc C [1, 2, 3, 4, 5, 6] rfl ?_
              exact J10 _ ((if_pos h20))
          refine g_if_le C (tgt := 151) dL_motion_134 (by decide) (fun h6 => ?_) (fun h6 => ?_)
          · refine g_iload C (i := 10) dL_motion_151 6 rfl ?_
            refine g_bipush C (v := 10) dL_motion_153 (by decide) ?_
            refine g_irem C dL_motion_155 (by decide) ?_
            refine g_bipush C (v := 9) dL_motion_156 (by decide) ?_
            refine g_icmp_ge C (tgt := 175) dL_motion_158 (by decide) (fun h7 => ?_) (fun h7 => ?_)
            · refine g_lload C (i := 4) dL_motion_175 2 rfl ?_
              refine g_lload C (i := 6) dL_motion_177 3 rfl ?_
              refine g_iload C (i := 10) dL_motion_179 6 rfl ?_
              refine g_bipush C (v := 10) dL_motion_181 (by decide) ?_
              refine g_isub C dL_motion_183 ?_
              refine g_callS C (st := []) (c_L_is l D ad dA z0 tt σ φ (t1.1) (t1.2) ((nI j6) - 10)) rfl ml_L_59 sm_L_is in_L co_L_is dyS_L_is rfl rfl ⟨(Nat.le_of_ble_eq_true rfl), (Nat.le_of_ble_eq_true rfl)⟩ dL_motion_184 rfl (Nat.le_of_ble_eq_true rfl) (g_fni ?_)
              refine g_if_ne C (tgt := 205) dL_motion_187 (by decide) (fun h8 => ?_) (fun h8 => ?_)
              · refine g_iconst C (v := 1) dL_motion_205 (by decide) ?_
                refine g_goto C (tgt := 210) dL_motion_206 (by decide) ?_
                refine g_loc C [1, 2, 3, 4, 5, 6, 0] rfl ?_
                exact J8 _ (((if_pos h6).trans ((if_pos h7).trans (if_neg h8))))
              · refine g_lload C (i := 4) dL_motion_190 2 rfl ?_
                refine g_lload C (i := 6) dL_motion_192 3 rfl ?_
                refine g_iload C (i := 10) dL_motion_194 6 rfl ?_
                refine g_bipush C (v := 10) dL_motion_196 (by decide) ?_
                refine g_iadd C dL_motion_198 ?_
                refine g_callS C (st := []) (c_L_is l D ad dA z0 tt σ φ (t1.1) (t1.2) ((nI j6) + 10)) rfl ml_L_59 sm_L_is in_L co_L_is dyS_L_is rfl rfl ⟨(Nat.le_of_ble_eq_true rfl), (Nat.le_of_ble_eq_true rfl)⟩ dL_motion_199 rfl (Nat.le_of_ble_eq_true rfl) (g_fni ?_)
                refine g_if_eq C (tgt := 209) dL_motion_202 (by decide) (fun h9 => ?_) (fun h9 => ?_)
                · refine g_iconst C (v := 0) dL_motion_209 (by decide) ?_
                  refine g_loc C [1, 2, 3, 4, 5, 6, 0] rfl ?_
                  exact J8 _ (((if_pos h6).trans ((if_pos h7).trans ((if_pos h8).trans (if_pos h9)))))
                · refine g_iconst C (v := 1) dL_motion_205 (by decide) ?_
                  refine g_goto C (tgt := 210) dL_motion_206 (by decide) ?_
                  refine g_loc C [1, 2, 3, 4, 5, 6, 0] rfl ?_
                  exact J8 _ (((if_pos h6).trans ((if_pos h7).trans ((if_pos h8).trans (if_neg h9)))))
            · refine g_lload C (i := 4) dL_motion_161 2 rfl ?_
              refine g_lload C (i := 6) dL_motion_163 3 rfl ?_
              refine g_iload C (i := 10) dL_motion_165 6 rfl ?_
              refine g_iconst C (v := 1) dL_motion_167 (by decide) ?_
              refine g_iadd C dL_motion_168 ?_
              refine g_callS C (st := []) (c_L_is l D ad dA z0 tt σ φ (t1.1) (t1.2) ((nI j6) + 1)) rfl ml_L_59 sm_L_is in_L co_L_is dyS_L_is rfl rfl ⟨(Nat.le_of_ble_eq_true rfl), (Nat.le_of_ble_eq_true rfl)⟩ dL_motion_169 rfl (Nat.le_of_ble_eq_true rfl) (g_fni ?_)
              refine g_if_ne C (tgt := 205) dL_motion_172 (by decide) (fun h10 => ?_) (fun h10 => ?_)
              · refine g_iconst C (v := 1) dL_motion_205 (by decide) ?_
                refine g_goto C (tgt := 210) dL_motion_206 (by decide) ?_
                refine g_loc C [1, 2, 3, 4, 5, 6, 0] rfl ?_
                exact J8 _ (((if_pos h6).trans ((if_neg h7).trans (if_neg h10))))
              · refine g_lload C (i := 4) dL_motion_175 2 rfl ?_
                refine g_lload C (i := 6) dL_motion_177 3 rfl ?_
                refine g_iload C (i := 10) dL_motion_179 6 rfl ?_
                refine g_bipush C (v := 10) dL_motion_181 (by decide) ?_
                refine g_isub C dL_motion_183 ?_
                refine g_callS C (st := []) (c_L_is l D ad dA z0 tt σ φ (t1.1) (t1.2) ((nI j6) - 10)) rfl ml_L_59 sm_L_is in_L co_L_is dyS_L_is rfl rfl ⟨(Nat.le_of_ble_eq_true rfl), (Nat.le_of_ble_eq_true rfl)⟩ dL_motion_184 rfl (Nat.le_of_ble_eq_true rfl) (g_fni ?_)
                refine g_if_ne C (tgt := 205) dL_motion_187 (by decide) (fun h11 => ?_) (fun h11 => ?_)
                · refine g_iconst C (v := 1) dL_motion_205 (by decide) ?_
                  refine g_goto C (tgt := 210) dL_motion_206 (by decide) ?_
                  refine g_loc C [1, 2, 3, 4, 5, 6, 0] rfl ?_
                  exact J8 _ (((if_pos h6).trans ((if_neg h7).trans ((if_pos h10).trans (if_neg h11)))))
                · refine g_lload C (i := 4) dL_motion_190 2 rfl ?_
                  refine g_lload C (i := 6) dL_motion_192 3 rfl ?_
                  refine g_iload C (i := 10) dL_motion_194 6 rfl ?_
                  refine g_bipush C (v := 10) dL_motion_196 (by decide) ?_
                  refine g_iadd C dL_motion_198 ?_
                  refine g_callS C (st := []) (c_L_is l D ad dA z0 tt σ φ (t1.1) (t1.2) ((nI j6) + 10)) rfl ml_L_59 sm_L_is in_L co_L_is dyS_L_is rfl rfl ⟨(Nat.le_of_ble_eq_true rfl), (Nat.le_of_ble_eq_true rfl)⟩ dL_motion_199 rfl (Nat.le_of_ble_eq_true rfl) (g_fni ?_)
                  refine g_if_eq C (tgt := 209) dL_motion_202 (by decide) (fun h12 => ?_) (fun h12 => ?_)
                  · refine g_iconst C (v := 0) dL_motion_209 (by decide) ?_
                    refine g_loc C [1, 2, 3, 4, 5, 6, 0] rfl ?_
                    exact J8 _ (((if_pos h6).trans ((if_neg h7).trans ((if_pos h10).trans ((if_pos h11).trans (if_pos h12))))))
                  · refine g_iconst C (v := 1) dL_motion_205 (by decide) ?_
                    refine g_goto C (tgt := 210) dL_motion_206 (by decide) ?_
                    refine g_loc C [1, 2, 3, 4, 5, 6, 0] rfl ?_
                    exact J8 _ (((if_pos h6).trans ((if_neg h7).trans ((if_pos h10).trans ((if_pos h11).trans (if_neg h12))))))
          · refine g_lload C (i := 4) dL_motion_137 2 rfl ?_
            refine g_lload C (i := 6) dL_motion_139 3 rfl ?_
            refine g_iload C (i := 10) dL_motion_141 6 rfl ?_
            refine g_iconst C (v := 1) dL_motion_143 (by decide) ?_
            refine g_isub C dL_motion_144 ?_
            refine g_callS C (st := []) (c_L_is l D ad dA z0 tt σ φ (t1.1) (t1.2) ((nI j6) - 1)) rfl ml_L_59 sm_L_is in_L co_L_is dyS_L_is rfl rfl ⟨(Nat.le_of_ble_eq_true rfl), (Nat.le_of_ble_eq_true rfl)⟩ dL_motion_145 rfl (Nat.le_of_ble_eq_true rfl) (g_fni ?_)
            refine g_if_ne C (tgt := 205) dL_motion_148 (by decide) (fun h13 => ?_) (fun h13 => ?_)
            · refine g_iconst C (v := 1) dL_motion_205 (by decide) ?_
              refine g_goto C (tgt := 210) dL_motion_206 (by decide) ?_
              refine g_loc C [1, 2, 3, 4, 5, 6, 0] rfl ?_
              exact J8 _ (((if_neg h6).trans (if_neg h13)))
            · refine g_iload C (i := 10) dL_motion_151 6 rfl ?_
              refine g_bipush C (v := 10) dL_motion_153 (by decide) ?_
              refine g_irem C dL_motion_155 (by decide) ?_
              refine g_bipush C (v := 9) dL_motion_156 (by decide) ?_
              refine g_icmp_ge C (tgt := 175) dL_motion_158 (by decide) (fun h14 => ?_) (fun h14 => ?_)
              · refine g_lload C (i := 4) dL_motion_175 2 rfl ?_
                refine g_lload C (i := 6) dL_motion_177 3 rfl ?_
                refine g_iload C (i := 10) dL_motion_179 6 rfl ?_
                refine g_bipush C (v := 10) dL_motion_181 (by decide) ?_
                refine g_isub C dL_motion_183 ?_
                refine g_callS C (st := []) (c_L_is l D ad dA z0 tt σ φ (t1.1) (t1.2) ((nI j6) - 10)) rfl ml_L_59 sm_L_is in_L co_L_is dyS_L_is rfl rfl ⟨(Nat.le_of_ble_eq_true rfl), (Nat.le_of_ble_eq_true rfl)⟩ dL_motion_184 rfl (Nat.le_of_ble_eq_true rfl) (g_fni ?_)
                refine g_if_ne C (tgt := 205) dL_motion_187 (by decide) (fun h15 => ?_) (fun h15 => ?_)
                · refine g_iconst C (v := 1) dL_motion_205 (by decide) ?_
                  refine g_goto C (tgt := 210) dL_motion_206 (by decide) ?_
                  refine g_loc C [1, 2, 3, 4, 5, 6, 0] rfl ?_
                  exact J8 _ (((if_neg h6).trans ((if_pos h13).trans ((if_pos h14).trans (if_neg h15)))))
                · refine g_lload C (i := 4) dL_motion_190 2 rfl ?_
                  refine g_lload C (i := 6) dL_motion_192 3 rfl ?_
                  refine g_iload C (i := 10) dL_motion_194 6 rfl ?_
                  refine g_bipush C (v := 10) dL_motion_196 (by decide) ?_
                  refine g_iadd C dL_motion_198 ?_
                  refine g_callS C (st := []) (c_L_is l D ad dA z0 tt σ φ (t1.1) (t1.2) ((nI j6) + 10)) rfl ml_L_59 sm_L_is in_L co_L_is dyS_L_is rfl rfl ⟨(Nat.le_of_ble_eq_true rfl), (Nat.le_of_ble_eq_true rfl)⟩ dL_motion_199 rfl (Nat.le_of_ble_eq_true rfl) (g_fni ?_)
                  refine g_if_eq C (tgt := 209) dL_motion_202 (by decide) (fun h16 => ?_) (fun h16 => ?_)
                  · refine g_iconst C (v := 0) dL_motion_209 (by decide) ?_
                    refine g_loc C [1, 2, 3, 4, 5, 6, 0] rfl ?_
                    exact J8 _ (((if_neg h6).trans ((if_pos h13).trans ((if_pos h14).trans ((if_pos h15).trans (if_pos h16))))))
                  · refine g_iconst C (v := 1) dL_motion_205 (by decide) ?_
                    refine g_goto C (tgt := 210) dL_motion_206 (by decide) ?_
                    refine g_loc C [1, 2, 3, 4, 5, 6, 0] rfl ?_
                    exact J8 _ (((if_neg h6).trans ((if_pos h13).trans ((if_pos h14).trans ((if_pos h15).trans (if_neg h16))))))
              · refine g_lload C (i := 4) dL_motion_161 2 rfl ?_
                refine g_lload C (i := 6) dL_motion_163 3 rfl ?_
                refine g_iload C (i := 10) dL_motion_165 6 rfl ?_
                refine g_iconst C (v := 1) dL_motion_167 (by decide) ?_
                refine g_iadd C dL_motion_168 ?_
                refine g_callS C (st := []) (c_L_is l D ad dA z0 tt σ φ (t1.1) (t1.2) ((nI j6) + 1)) rfl ml_L_59 sm_L_is in_L co_L_is dyS_L_is rfl rfl ⟨(Nat.le_of_ble_eq_true rfl), (Nat.le_of_ble_eq_true rfl)⟩ dL_motion_169 rfl (Nat.le_of_ble_eq_true rfl) (g_fni ?_)
                refine g_if_ne C (tgt := 205) dL_motion_172 (by decide) (fun h17 => ?_) (fun h17 => ?_)
                · refine g_iconst C (v := 1) dL_motion_205 (by decide) ?_
                  refine g_goto C (tgt := 210) dL_motion_206 (by decide) ?_
                  refine g_loc C [1, 2, 3, 4, 5, 6, 0] rfl ?_
                  exact J8 _ (((if_neg h6).trans ((if_pos h13).trans ((if_neg h14).trans (if_neg h17)))))
                · refine g_lload C (i := 4) dL_motion_175 2 rfl ?_
                  refine g_lload C (i := 6) dL_motion_177 3 rfl ?_
                  refine g_iload C (i := 10) dL_motion_179 6 rfl ?_
                  refine g_bipush C (v := 10) dL_motion_181 (by decide) ?_
                  refine g_isub C dL_motion_183 ?_
                  refine g_callS C (st := []) (c_L_is l D ad dA z0 tt σ φ (t1.1) (t1.2) ((nI j6) - 10)) rfl ml_L_59 sm_L_is in_L co_L_is dyS_L_is rfl rfl ⟨(Nat.le_of_ble_eq_true rfl), (Nat.le_of_ble_eq_true rfl)⟩ dL_motion_184 rfl (Nat.le_of_ble_eq_true rfl) (g_fni ?_)
                  refine g_if_ne C (tgt := 205) dL_motion_187 (by decide) (fun h18 => ?_) (fun h18 => ?_)
                  · refine g_iconst C (v := 1) dL_motion_205 (by decide) ?_
                    refine g_goto C (tgt := 210) dL_motion_206 (by decide) ?_
                    refine g_loc C [1, 2, 3, 4, 5, 6, 0] rfl ?_
                    exact J8 _ (((if_neg h6).trans ((if_pos h13).trans ((if_neg h14).trans ((if_pos h17).trans (if_neg h18))))))
                  · refine g_lload C (i := 4) dL_motion_190 2 rfl ?_
                    refine g_lload C (i := 6) dL_motion_192 3 rfl ?_
                    refine g_iload C (i := 10) dL_motion_194 6 rfl ?_
                    refine g_bipush C (v := 10) dL_motion_196 (by decide) ?_
                    refine g_iadd C dL_motion_198 ?_
                    refine g_callS C (st := []) (c_L_is l D ad dA z0 tt σ φ (t1.1) (t1.2) ((nI j6) + 10)) rfl ml_L_59 sm_L_is in_L co_L_is dyS_L_is rfl rfl ⟨(Nat.le_of_ble_eq_true rfl), (Nat.le_of_ble_eq_true rfl)⟩ dL_motion_199 rfl (Nat.le_of_ble_eq_true rfl) (g_fni ?_)
                    refine g_if_eq C (tgt := 209) dL_motion_202 (by decide) (fun h19 => ?_) (fun h19 => ?_)
                    · refine g_iconst C (v := 0) dL_motion_209 (by decide) ?_
                      refine g_loc C [1, 2, 3, 4, 5, 6, 0] rfl ?_
                      exact J8 _ (((if_neg h6).trans ((if_pos h13).trans ((if_neg h14).trans ((if_pos h17).trans ((if_pos h18).trans (if_pos h19)))))))
                    · refine g_iconst C (v := 1) dL_motion_205 (by decide) ?_
                      refine g_goto C (tgt := 210) dL_motion_206 (by decide) ?_
                      refine g_loc C [1, 2, 3, 4, 5, 6, 0] rfl ?_
                      exact J8 _ (((if_neg h6).trans ((if_pos h13).trans ((if_neg h14).trans ((if_pos h17).trans ((if_pos h18).trans (if_neg h19)))))))
      · intro t6 hF6
        change K σ φ 111 [(0, .ref (ad 0)), (4, .long (t1.1)), (6, .long (t1.2)), (8, .int (t6.1)), (9, .int (t6.2)), (10, .int (nI 80))] []
        refine g_iload C (i := 10) dL_motion_111 5 rfl ?_
        refine g_bipush C (v := 80) dL_motion_113 (by decide) ?_
        refine g_icmp_ge C (tgt := 292) dL_motion_115 (by decide) (fun h25 => ?_) (fun h25 => ?_)
        · refine g_aload_n C (i := 0) dL_motion_292 rfl 0 rfl ?_
          refine g_bipush C (v := 7) dL_motion_293 (by decide) ?_
          refine g_callV C (st := []) (c_X10_count l D ad dA z0 tt σ φ 7) rfl ml_L_35 im_X10_count se_X10_count in_X10 co_X10_count dyV_X10_count rfl rfl ⟨(Nat.le_of_ble_eq_true rfl), (Nat.le_of_ble_eq_true rfl)⟩ 0 10 (fun f => at_0 ad dA σ f) rfl dL_motion_295 rfl (Nat.le_of_ble_eq_true rfl) (g_fni ?_)
          refine g_iload C (i := 8) dL_motion_298 3 rfl ?_
          refine g_icmp_ne C (tgt := 318) dL_motion_300 (by decide) (fun h26 => ?_) (fun h26 => ?_)
          · refine g_iconst C (v := 0) dL_motion_318 (by decide) ?_
            have e0 : f_L_motion σ x = 0 := by
              subst et1
              exact ((f_L_motion_eq _ _).trans ((sumE_inr hF6).trans (if_neg h26)))
            exact hi _ _ _ _ _ _ rfl dL_motion_319 (lv_narrowZ (Or.inl rfl)).1 ⟨(congrArg (fun z => some (Value.int z)) e0).symm, rfl, rfl⟩
          · refine g_aload_n C (i := 0) dL_motion_303 rfl 0 rfl ?_
            refine g_bipush C (v := 8) dL_motion_304 (by decide) ?_
            refine g_callV C (st := []) (c_X10_count l D ad dA z0 tt σ φ 8) rfl ml_L_35 im_X10_count se_X10_count in_X10 co_X10_count dyV_X10_count rfl rfl ⟨(Nat.le_of_ble_eq_true rfl), (Nat.le_of_ble_eq_true rfl)⟩ 0 10 (fun f => at_0 ad dA σ f) rfl dL_motion_306 rfl (Nat.le_of_ble_eq_true rfl) (g_fni ?_)
            refine g_iload C (i := 9) dL_motion_309 4 rfl ?_
            refine g_icmp_ne C (tgt := 318) dL_motion_311 (by decide) (fun h27 => ?_) (fun h27 => ?_)
            · refine g_iconst C (v := 0) dL_motion_318 (by decide) ?_
              have e0 : f_L_motion σ x = 0 := by
                subst et1
                exact ((f_L_motion_eq _ _).trans ((sumE_inr hF6).trans ((if_pos h26).trans (if_neg h27))))
              exact hi _ _ _ _ _ _ rfl dL_motion_319 (lv_narrowZ (Or.inl rfl)).1 ⟨(congrArg (fun z => some (Value.int z)) e0).symm, rfl, rfl⟩
            · refine g_iconst C (v := 1) dL_motion_314 (by decide) ?_
              refine g_goto C (tgt := 319) dL_motion_315 (by decide) ?_
              have e0 : f_L_motion σ x = 1 := by
                subst et1
                exact ((f_L_motion_eq _ _).trans ((sumE_inr hF6).trans ((if_pos h26).trans (if_pos h27))))
              exact hi _ _ _ _ _ _ rfl dL_motion_319 (lv_narrowZ (Or.inr rfl)).1 ⟨(congrArg (fun z => some (Value.int z)) e0).symm, rfl, rfl⟩
        · exact absurd (nI_le (Nat.le_refl _) (by decide)) h25
    · exact absurd (nI_le (Nat.le_refl _) (by decide)) h4
