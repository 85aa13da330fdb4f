/-! the decoding -/
def f_X10_decode (σ : Sg) (φ : Fl) : Int32 × Sg × Fl := let σ1 : Sg := f_X9_sendFrom σ; let σ2 : Sg := f_X4_find σ1; let σ3 : Sg := f_X1_measure σ2 (f_X8_threshold σ2); let φ4 : Fl := f_X6_follow σ3 φ (f_X8_standardTaken σ3 (f_X1_guessedStandard σ3)); let σ5 : Sg := f_X3_separate σ3 (f_X8_standardTaken σ3 (f_X1_guessedStandard σ3)); let φ6 : Fl := f_X2_turn σ5 φ4 (f_X8_standardTaken σ3 (f_X1_guessedStandard σ3)); let v7 : Int32 := (if (σ5 0 10) ≤ 0 then 0 else 1); let σ9 : Sg := f_X5_watch σ5 (f_X8_limit σ5) v7; let σ10 : Sg := sw σ9 0 10 ((σ9 0 10) + 1); (f_X10_tally_29 σ10, σ10, φ6)
theorem f_X10_decode_eq (σ : Sg) (φ : Fl) : f_X10_decode σ φ = (let σ1 : Sg := f_X9_sendFrom σ; let σ2 : Sg := f_X4_find σ1; let σ3 : Sg := f_X1_measure σ2 (f_X8_threshold σ2); let φ4 : Fl := f_X6_follow σ3 φ (f_X8_standardTaken σ3 (f_X1_guessedStandard σ3)); let σ5 : Sg := f_X3_separate σ3 (f_X8_standardTaken σ3 (f_X1_guessedStandard σ3)); let φ6 : Fl := f_X2_turn σ5 φ4 (f_X8_standardTaken σ3 (f_X1_guessedStandard σ3)); let v7 : Int32 := (if (σ5 0 10) ≤ 0 then 0 else 1); let σ9 : Sg := f_X5_watch σ5 (f_X8_limit σ5) v7; let σ10 : Sg := sw σ9 0 10 ((σ9 0 10) + 1); (f_X10_tally_29 σ10, σ10, φ6)) := rfl
set_option maxRecDepth 100000 in
set_option maxHeartbeats 4000000 in
theorem c_X10_decode (l : Launch) (D : va_G) (ad : Nat → Nat) (dA : Nat → ClassId) (z0 : Nat) (tt : Nat → Nat) (σ : Sg) (φ : Fl)   : MC l D ad dA z0 tt yX10_decode (Cond.code yX10_decode cX10_decode 2 (some .int) :: lw_all) { frames := 6, cells := 0, slots := 0, locals := 151 } [.ref (ad 0)] σ φ (Fn (some (.int (f_X10_decode σ φ).1)) (f_X10_decode σ φ).2.1 (f_X10_decode σ φ).2.2) := by
  refine mk_MC (by decide) (Nat.le_of_ble_eq_true rfl) ?_
  intro K C hi hf hv
  change K σ φ 0 [(0, .ref (ad 0))] []
  refine g_aload_n C (i := 0) dX10_decode_0 rfl 0 rfl ?_
  refine gg_0_3 C fl_X10_33 dX10_decode_1 ?_
  refine g_aload_n C (i := 0) dX10_decode_4 rfl 0 rfl ?_
  refine gg_0_0 C fl_X10_10 dX10_decode_5 ?_
  refine g_callV C (st := []) (c_X9_sendFrom l D ad dA z0 tt σ φ ) rfl ml_X10_159 im_X9_sendFrom se_X9_sendFrom in_X9 co_X9_sendFrom dyV_X9_sendFrom rfl rfl ⟨(Nat.le_of_ble_eq_true rfl), (Nat.le_of_ble_eq_true rfl)⟩ 15 9 (fun f => at_15 ad dA σ f) rfl dX10_decode_8 rfl (Nat.le_of_ble_eq_true rfl) (g_fnv ?_)
  refine g_nms C (fun σ1 eσ1 => ?_)
  refine g_aload_n C (i := 0) dX10_decode_11 rfl 0 rfl ?_
  refine gg_0_4 C fl_X10_40 dX10_decode_12 ?_
  refine g_aload_n C (i := 0) dX10_decode_15 rfl 0 rfl ?_
  refine gg_0_3 C fl_X10_33 dX10_decode_16 ?_
  refine g_callV C (st := []) (c_X4_find l D ad dA z0 tt σ1 φ ) rfl ml_X10_163 im_X4_find se_X4_find in_X4 co_X4_find dyV_X4_find rfl rfl ⟨(Nat.le_of_ble_eq_true rfl), (Nat.le_of_ble_eq_true rfl)⟩ 25 4 (fun f => at_25 ad dA σ1 f) rfl dX10_decode_19 rfl (Nat.le_of_ble_eq_true rfl) (g_fnv ?_)
  refine g_nms C (fun σ2 eσ2 => ?_)
  refine g_aload_n C (i := 0) dX10_decode_22 rfl 0 rfl ?_
  refine gg_0_5 C fl_X10_47 dX10_decode_23 ?_
  refine g_aload_n C (i := 0) dX10_decode_26 rfl 0 rfl ?_
  refine gg_0_3 C fl_X10_33 dX10_decode_27 ?_
  refine g_aload_n C (i := 0) dX10_decode_30 rfl 0 rfl ?_
  refine gg_0_4 C fl_X10_40 dX10_decode_31 ?_
  refine ggN_25_1 C fl_X10_167 dX10_decode_34 ?_
  refine g_aload_n C (i := 0) dX10_decode_37 rfl 0 rfl ?_
  refine gg_0_2 C fl_X10_26 dX10_decode_38 ?_
  refine g_callV C (st := [.ref (ad 27), .ref (ad 15), .ref (ad 30)]) (c_X8_threshold l D ad dA z0 tt σ2 φ ) rfl ml_X10_170 im_X8_threshold se_X8_threshold in_X8 co_X8_threshold dyV_X8_threshold rfl rfl ⟨(Nat.le_of_ble_eq_true rfl), (Nat.le_of_ble_eq_true rfl)⟩ 13 8 (fun f => at_13 ad dA σ2 f) rfl dX10_decode_41 rfl (Nat.le_of_ble_eq_true rfl) (g_fni ?_)
  refine g_callV C (st := []) (c_X1_measure l D ad dA z0 tt σ2 φ (f_X8_threshold σ2)) rfl ml_X10_173 im_X1_measure se_X1_measure in_X1 co_X1_measure dyV_X1_measure rfl rfl ⟨(Nat.le_of_ble_eq_true rfl), (Nat.le_of_ble_eq_true rfl)⟩ 30 1 (fun f => at_30 ad dA σ2 f) rfl dX10_decode_44 rfl (Nat.le_of_ble_eq_true rfl) (g_fnv ?_)
  refine g_nms C (fun σ3 eσ3 => ?_)
  refine g_aload_n C (i := 0) dX10_decode_47 rfl 0 rfl ?_
  refine gg_0_2 C fl_X10_26 dX10_decode_48 ?_
  refine g_aload_n C (i := 0) dX10_decode_51 rfl 0 rfl ?_
  refine gg_0_5 C fl_X10_47 dX10_decode_52 ?_
  refine g_callV C (st := [.ref (ad 13)]) (c_X1_guessedStandard l D ad dA z0 tt σ3 φ ) rfl ml_X10_177 im_X1_guessedStandard se_X1_guessedStandard in_X1 co_X1_guessedStandard dyV_X1_guessedStandard rfl rfl ⟨(Nat.le_of_ble_eq_true rfl), (Nat.le_of_ble_eq_true rfl)⟩ 30 1 (fun f => at_30 ad dA σ3 f) rfl dX10_decode_55 rfl (Nat.le_of_ble_eq_true rfl) (g_fni ?_)
  refine g_callV C (st := []) (c_X8_standardTaken l D ad dA z0 tt σ3 φ (f_X1_guessedStandard σ3)) rfl ml_X10_180 im_X8_standardTaken se_X8_standardTaken in_X8 co_X8_standardTaken dyV_X8_standardTaken rfl rfl ⟨(Nat.le_of_ble_eq_true rfl), (Nat.le_of_ble_eq_true rfl)⟩ 13 8 (fun f => at_13 ad dA σ3 f) rfl dX10_decode_58 rfl (Nat.le_of_ble_eq_true rfl) (g_fni ?_)
  refine g_istore_n C (i := 1) (lv' := [(1, .int (f_X8_standardTaken σ3 (f_X1_guessedStandard σ3))), (0, .ref (ad 0))]) dX10_decode_61 rfl (by decide) rfl ?_
  refine g_aload_n C (i := 0) dX10_decode_62 rfl 1 rfl ?_
  refine gg_0_6 C fl_X10_54 dX10_decode_63 ?_
  refine g_aload_n C (i := 0) dX10_decode_66 rfl 1 rfl ?_
  refine gg_0_5 C fl_X10_47 dX10_decode_67 ?_
  refine g_iload_n C (i := 1) dX10_decode_70 rfl 0 rfl ?_
  refine g_callV C (st := []) (c_X6_follow l D ad dA z0 tt σ3 φ (f_X8_standardTaken σ3 (f_X1_guessedStandard σ3))) rfl ml_X10_184 im_X6_follow se_X6_follow in_X6 co_X6_follow dyV_X6_follow rfl rfl ⟨(Nat.le_of_ble_eq_true rfl), (Nat.le_of_ble_eq_true rfl)⟩ 35 6 (fun f => at_35 ad dA σ3 f) rfl dX10_decode_71 rfl (Nat.le_of_ble_eq_true rfl) (g_fnv ?_)
  refine g_nmp C (fun φ4 eφ4 => ?_)
  refine g_aload_n C (i := 0) dX10_decode_74 rfl 1 rfl ?_
  refine gg_0_7 C fl_X10_61 dX10_decode_75 ?_
  refine g_aload_n C (i := 0) dX10_decode_78 rfl 1 rfl ?_
  refine gg_0_3 C fl_X10_33 dX10_decode_79 ?_
  refine g_aload_n C (i := 0) dX10_decode_82 rfl 1 rfl ?_
  refine gg_0_4 C fl_X10_40 dX10_decode_83 ?_
  refine ggN_25_1 C fl_X10_167 dX10_decode_86 ?_
  refine g_aload_n C (i := 0) dX10_decode_89 rfl 1 rfl ?_
  refine gg_0_2 C fl_X10_26 dX10_decode_90 ?_
  refine g_iload_n C (i := 1) dX10_decode_93 rfl 0 rfl ?_
  refine g_callV C (st := []) (c_X3_separate l D ad dA z0 tt σ3 φ4 (f_X8_standardTaken σ3 (f_X1_guessedStandard σ3))) rfl ml_X10_188 im_X3_separate se_X3_separate in_X3 co_X3_separate dyV_X3_separate rfl rfl ⟨(Nat.le_of_ble_eq_true rfl), (Nat.le_of_ble_eq_true rfl)⟩ 38 3 (fun f => at_38 ad dA σ3 f) rfl dX10_decode_94 rfl (Nat.le_of_ble_eq_true rfl) (g_fnv ?_)
  refine g_nms C (fun σ5 eσ5 => ?_)
  refine g_aload_n C (i := 0) dX10_decode_97 rfl 1 rfl ?_
  refine gg_0_8 C fl_X10_68 dX10_decode_98 ?_
  refine g_aload_n C (i := 0) dX10_decode_101 rfl 1 rfl ?_
  refine gg_0_7 C fl_X10_61 dX10_decode_102 ?_
  refine g_aload_n C (i := 0) dX10_decode_105 rfl 1 rfl ?_
  refine gg_0_5 C fl_X10_47 dX10_decode_106 ?_
  refine g_aload_n C (i := 0) dX10_decode_109 rfl 1 rfl ?_
  refine gg_0_6 C fl_X10_54 dX10_decode_110 ?_
  refine g_iload_n C (i := 1) dX10_decode_113 rfl 0 rfl ?_
  refine g_callV C (st := []) (c_X2_turn l D ad dA z0 tt σ5 φ4 (f_X8_standardTaken σ3 (f_X1_guessedStandard σ3))) rfl ml_X10_192 im_X2_turn se_X2_turn in_X2 co_X2_turn dyV_X2_turn rfl rfl ⟨(Nat.le_of_ble_eq_true rfl), (Nat.le_of_ble_eq_true rfl)⟩ 44 2 (fun f => at_44 ad dA σ5 f) rfl dX10_decode_114 rfl (Nat.le_of_ble_eq_true rfl) (g_fnv ?_)
  refine g_nmp C (fun φ6 eφ6 => ?_)
  refine g_aload_n C (i := 0) dX10_decode_117 rfl 1 rfl ?_
  refine gg_0_9 C fl_X10_75 dX10_decode_118 ?_
  refine g_aload_n C (i := 0) dX10_decode_121 rfl 1 rfl ?_
  refine gg_0_7 C fl_X10_61 dX10_decode_122 ?_
  refine ggN_38_1 C fl_X10_196 dX10_decode_125 ?_
  refine g_aload_n C (i := 0) dX10_decode_128 rfl 1 rfl ?_
  refine gg_0_2 C fl_X10_26 dX10_decode_129 ?_
  refine g_callV C (st := [.ref (ad 40), .ref (ad 49)]) (c_X8_limit l D ad dA z0 tt σ5 φ6 ) rfl ml_X10_197 im_X8_limit se_X8_limit in_X8 co_X8_limit dyV_X8_limit rfl rfl ⟨(Nat.le_of_ble_eq_true rfl), (Nat.le_of_ble_eq_true rfl)⟩ 13 8 (fun f => at_13 ad dA σ5 f) rfl dX10_decode_132 rfl (Nat.le_of_ble_eq_true rfl) (g_fni ?_)
  refine g_aload_n C (i := 0) dX10_decode_135 rfl 1 rfl ?_
  refine gg_0_10 C fl_X10_200 dX10_decode_136 ?_
  have J8 : ∀ (v7 : Int32), (if (σ5 0 10) ≤ 0 then 0 else 1) = v7 → K σ5 φ6 147 [(0, .ref (ad 0))] [.int v7, .int (f_X8_limit σ5), .ref (ad 40), .ref (ad 49)] := by
    intro v7 ev7
    refine g_callV C (st := []) (c_X5_watch l D ad dA z0 tt σ5 φ6 (f_X8_limit σ5) v7) rfl ml_X10_203 im_X5_watch se_X5_watch in_X5 co_X5_watch dyV_X5_watch rfl rfl ⟨(Nat.le_of_ble_eq_true rfl), (Nat.le_of_ble_eq_true rfl)⟩ 49 5 (fun f => at_49 ad dA σ5 f) rfl dX10_decode_147 rfl (Nat.le_of_ble_eq_true rfl) (g_fnv ?_)
    refine g_nms C (fun σ9 eσ9 => ?_)
    refine g_aload_n C (i := 0) dX10_decode_150 rfl 0 rfl ?_
    refine g_dup C dX10_decode_151 rfl ?_
    refine gg_0_10 C fl_X10_200 dX10_decode_152 ?_
    refine g_iconst C (v := 1) dX10_decode_155 (by decide) ?_
    refine g_iadd C dX10_decode_156 ?_
    refine gp_0_10 C fl_X10_200 dX10_decode_157 ?_
    refine g_nms C (fun σ10 eσ10 => ?_)
    refine g_aload_n C (i := 0) dX10_decode_160 rfl 0 rfl ?_
    refine gg_0_4 C fl_X10_40 dX10_decode_161 ?_
    refine ggN_25_3 C fl_X10_207 dX10_decode_164 ?_
    refine g_callS C (st := []) (c_X10_tally_29 l D ad dA z0 tt σ10 φ6 ) rfl ml_X10_210 sm_X10_tally in_X10 co_X10_tally dyS_X10_tally rfl rfl ⟨(Nat.le_of_ble_eq_true rfl), (Nat.le_of_ble_eq_true rfl)⟩ dX10_decode_167 rfl (Nat.le_of_ble_eq_true rfl) (g_fni ?_)
    have e0 : f_X10_decode σ φ = (f_X10_tally_29 σ10, σ10, φ6) := by
      subst eσ10
      subst eσ9
      subst ev7
      subst eφ6
      subst eσ5
      subst eφ4
      subst eσ3
      subst eσ2
      subst eσ1
      exact f_X10_decode_eq _ _
    exact hi _ _ _ _ _ _ rfl dX10_decode_170 rfl ⟨(congrArg (fun z => some (Value.int z.1)) e0).symm, (congrArg (fun z => z.2.1) e0).symm, (congrArg (fun z => z.2.2) e0).symm⟩
  refine g_if_le C (tgt := 146) dX10_decode_139 (by decide) (fun h1 => ?_) (fun h1 => ?_)
  · refine g_iconst C (v := 0) dX10_decode_146 (by decide) ?_
    refine g_loc C [1] rfl ?_
    exact J8 _ ((if_pos h1))
  · refine g_iconst C (v := 1) dX10_decode_142 (by decide) ?_
    refine g_goto C (tgt := 147) dX10_decode_143 (by decide) ?_
    refine g_loc C [1] rfl ?_
    exact J8 _ ((if_neg h1))
