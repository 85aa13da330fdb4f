/-! the decodings -/
def b_X11_decode_2  (j1 : Nat) (s1 : Sg) : Sg := let σ2 : Sg := sw s1 76 (nI j1).toNatClampNeg (s1 75 (nI j1).toNatClampNeg); σ2
theorem b_X11_decode_2_eq  (j1 : Nat) (s1 : Sg) : b_X11_decode_2  j1 s1 = (let σ2 : Sg := sw s1 76 (nI j1).toNatClampNeg (s1 75 (nI j1).toNatClampNeg); σ2) := rfl
def b_X11_decode_85 (v7 : Int32) (j10 : Nat) (j11 : Nat) (s11 : Sg × Fl) : Sg × Fl := let σ12 : Sg := (f_X11_comb (s11.1) (s11.2) (nI j10) (nI j11) v7).1; let φ13 : Fl := (f_X11_comb (s11.1) (s11.2) (nI j10) (nI j11) v7).2; (σ12, φ13)
theorem b_X11_decode_85_eq (v7 : Int32) (j10 : Nat) (j11 : Nat) (s11 : Sg × Fl) : b_X11_decode_85 v7 j10 j11 s11 = (let σ12 : Sg := (f_X11_comb (s11.1) (s11.2) (nI j10) (nI j11) v7).1; let φ13 : Fl := (f_X11_comb (s11.1) (s11.2) (nI j10) (nI j11) v7).2; (σ12, φ13)) := rfl
def b_X11_decode_76 (v7 : Int32) (j10 : Nat) (s10 : Sg × Fl) : Sg × Fl := let t11 : Sg × Fl := loopF (b_X11_decode_85 v7 j10) 10 (s10.1, s10.2); (t11.1, t11.2)
theorem b_X11_decode_76_eq (v7 : Int32) (j10 : Nat) (s10 : Sg × Fl) : b_X11_decode_76 v7 j10 s10 = (let t11 : Sg × Fl := loopF (b_X11_decode_85 v7 j10) 10 (s10.1, s10.2); (t11.1, t11.2)) := rfl
def f_X11_decode (σ : Sg) (φ : Fl) : Int32 × Sg × Fl := let t1 : Sg := loopF b_X11_decode_2 80 σ; let σ3 : Sg := sw t1 53 13 ((t1 53 13) + 1); let v4 : Int32 := (f_X11_findPulses σ3).1; let σ5 : Sg := (f_X11_findPulses σ3).2; let σ6 : Sg := f_X11_findBursts σ5; let v7 : Int32 := (if (σ6 62 (3 : Int32).toNatClampNeg) = 2 then (f_X11_guessed σ6) else (σ6 62 (3 : Int32).toNatClampNeg)); let φ9 : Fl := f_X11_findTurns σ6 φ v7; let t10 : Sg × Fl := loopF (b_X11_decode_76 v7) 8 (σ6, φ9); let σ14 : Sg := f_X11_findMotion (t10.1); (v4, σ14, t10.2)
theorem f_X11_decode_eq (σ : Sg) (φ : Fl) : f_X11_decode σ φ = (let t1 : Sg := loopF b_X11_decode_2 80 σ; let σ3 : Sg := sw t1 53 13 ((t1 53 13) + 1); let v4 : Int32 := (f_X11_findPulses σ3).1; let σ5 : Sg := (f_X11_findPulses σ3).2; let σ6 : Sg := f_X11_findBursts σ5; let v7 : Int32 := (if (σ6 62 (3 : Int32).toNatClampNeg) = 2 then (f_X11_guessed σ6) else (σ6 62 (3 : Int32).toNatClampNeg)); let φ9 : Fl := f_X11_findTurns σ6 φ v7; let t10 : Sg × Fl := loopF (b_X11_decode_76 v7) 8 (σ6, φ9); let σ14 : Sg := f_X11_findMotion (t10.1); (v4, σ14, t10.2)) := rfl
set_option maxRecDepth 100000 in
set_option maxHeartbeats 4000000 in
theorem c_X11_decode (l : Launch) (D : va_G) (ad : Nat → Nat) (dA : Nat → ClassId) (z0 : Nat) (tt : Nat → Nat) (σ : Sg) (φ : Fl)   : MC l D ad dA z0 tt yX11_decode (Cond.code yX11_decode cX11_decode 5 (some .int) :: lw_all) { frames := 7, cells := 0, slots := 0, locals := 180 } [.ref (ad 53)] σ φ (Fn (some (.int (f_X11_decode σ φ).1)) (f_X11_decode σ φ).2.1 (f_X11_decode σ φ).2.2) := by
  refine mk_MC (by decide) (Nat.le_of_ble_eq_true rfl) ?_
  intro K C hi hf hv
  change K σ φ 0 [(0, .ref (ad 53))] []
  refine g_iconst C (v := 0) dX11_decode_0 (by decide) ?_
  refine g_istore_n C (i := 1) (lv' := [(1, .int 0), (0, .ref (ad 53))]) dX11_decode_1 rfl (by decide) rfl ?_
  refine g_loc C (lv' := [(0, .ref (ad 53)), (1, .int 0)]) [1, 0] rfl ?_
  refine loopF_ind b_X11_decode_2 80 (fun (j1 : Nat) (s1 : Sg) => K s1 φ 2 [(0, .ref (ad 53)), (1, .int (nI j1))] []) σ ?_ ?_
  · intro j1 s1 hj1 kk
    change K s1 φ 2 [(0, .ref (ad 53)), (1, .int (nI j1))] []
    refine g_iload_n C (i := 1) dX11_decode_2 rfl 1 rfl ?_
    refine g_bipush C (v := 80) dX11_decode_3 (by decide) ?_
    refine g_icmp_ge C (tgt := 26) dX11_decode_5 (by decide) (fun h1 => ?_) (fun h1 => ?_)
    · exact absurd h1 (nI_ge hj1 (by decide))
    · refine g_aload_n C (i := 0) dX11_decode_8 rfl 0 rfl ?_
      refine gg_53_27 C fl_X11_79 dX11_decode_9 ?_
      refine g_iload_n C (i := 1) dX11_decode_12 rfl 1 rfl ?_
      refine g_aload_n C (i := 0) dX11_decode_13 rfl 0 rfl ?_
      refine gg_53_26 C fl_X11_76 dX11_decode_14 ?_
      refine g_iload_n C (i := 1) dX11_decode_17 rfl 1 rfl ?_
      refine ld_75 C (vp_in_nI (Nat.lt_of_lt_of_le hj1 (by decide)) (by decide)) dX11_decode_18 ?_
      refine sd_76 C (vp_in_nI (Nat.lt_of_lt_of_le hj1 (by decide)) (by decide)) dX11_decode_19 ?_
      refine g_nms C (fun σ2 eσ2 => ?_)
      refine g_iinc C (i := 1) (v := nI (j1 + 1)) (lv' := [(1, .int (nI (j1 + 1))), (0, .ref (ad 53))]) dX11_decode_20 1 rfl (nI_1 _) (by decide) rfl ?_
      refine g_goto C (tgt := 2) dX11_decode_23 (by decide) ?_
      refine g_loc C [1, 0] rfl ?_
      refine kk σ2 ?_
      subst eσ2
      exact b_X11_decode_2_eq _ _
  · generalize et1 : loopF b_X11_decode_2 80 σ = t1
    change K t1 φ 2 [(0, .ref (ad 53)), (1, .int (nI 80))] []
    refine g_iload_n C (i := 1) dX11_decode_2 rfl 1 rfl ?_
    refine g_bipush C (v := 80) dX11_decode_3 (by decide) ?_
    refine g_icmp_ge C (tgt := 26) dX11_decode_5 (by decide) (fun h2 => ?_) (fun h2 => ?_)
    · refine g_aload_n C (i := 0) dX11_decode_26 rfl 0 rfl ?_
      refine g_dup C dX11_decode_27 rfl ?_
      refine gg_53_13 C fl_X11_189 dX11_decode_28 ?_
      refine g_iconst C (v := 1) dX11_decode_31 (by decide) ?_
      refine g_iadd C dX11_decode_32 ?_
      refine gp_53_13 C fl_X11_189 dX11_decode_33 ?_
      refine g_nms C (fun σ3 eσ3 => ?_)
      refine g_aload_n C (i := 0) dX11_decode_36 rfl 0 rfl ?_
      refine g_callV C (st := []) (c_X11_findPulses l D ad dA z0 tt σ3 φ ) rfl ml_X11_192 im_X11_findPulses se_X11_findPulses in_X11 co_X11_findPulses dyV_X11_findPulses rfl rfl ⟨(Nat.le_of_ble_eq_true rfl), (Nat.le_of_ble_eq_true rfl)⟩ 53 11 (fun f => at_53 ad dA σ3 f) rfl dX11_decode_37 rfl (Nat.le_of_ble_eq_true rfl) (g_fni ?_)
      refine g_nmi C (fun v4 ev4 => ?_)
      refine g_nms C (fun σ5 eσ5 => ?_)
      refine g_istore_n C (i := 1) (lv' := [(1, .int v4), (0, .ref (ad 53))]) dX11_decode_40 rfl (by decide) rfl ?_
      refine g_aload_n C (i := 0) dX11_decode_41 rfl 1 rfl ?_
      refine g_callV C (st := []) (c_X11_findBursts l D ad dA z0 tt σ5 φ ) rfl ml_X11_196 im_X11_findBursts se_X11_findBursts in_X11 co_X11_findBursts dyV_X11_findBursts rfl rfl ⟨(Nat.le_of_ble_eq_true rfl), (Nat.le_of_ble_eq_true rfl)⟩ 53 11 (fun f => at_53 ad dA σ5 f) rfl dX11_decode_42 rfl (Nat.le_of_ble_eq_true rfl) (g_fnv ?_)
      refine g_nms C (fun σ6 eσ6 => ?_)
      refine g_aload_n C (i := 0) dX11_decode_45 rfl 1 rfl ?_
      refine gg_53_9 C fl_X11_35 dX11_decode_46 ?_
      refine g_iconst C (v := 3) dX11_decode_49 (by decide) ?_
      refine ld_62 C (vp_lit (by decide)) dX11_decode_50 ?_
      refine g_iconst C (v := 2) dX11_decode_51 (by decide) ?_
      have J8 : ∀ (v7 : Int32), (if (σ6 62 (3 : Int32).toNatClampNeg) = 2 then (f_X11_guessed σ6) else (σ6 62 (3 : Int32).toNatClampNeg)) = v7 → K σ6 φ 68 [(0, .ref (ad 53)), (1, .int v4)] [.int v7] := by
        intro v7 ev7
        refine g_istore_n C (i := 2) (lv' := [(2, .int v7), (0, .ref (ad 53)), (1, .int v4)]) dX11_decode_68 rfl (by decide) rfl ?_
        refine g_aload_n C (i := 0) dX11_decode_69 rfl 1 rfl ?_
        refine g_iload_n C (i := 2) dX11_decode_70 rfl 0 rfl ?_
        refine g_callV C (st := []) (c_X11_findTurns l D ad dA z0 tt σ6 φ v7) rfl ml_X11_202 im_X11_findTurns se_X11_findTurns in_X11 co_X11_findTurns dyV_X11_findTurns rfl rfl ⟨(Nat.le_of_ble_eq_true rfl), (Nat.le_of_ble_eq_true rfl)⟩ 53 11 (fun f => at_53 ad dA σ6 f) rfl dX11_decode_71 rfl (Nat.le_of_ble_eq_true rfl) (g_fnv ?_)
        refine g_nmp C (fun φ9 eφ9 => ?_)
        refine g_iconst C (v := 0) dX11_decode_74 (by decide) ?_
        refine g_istore_n C (i := 3) (lv' := [(3, .int 0), (2, .int v7), (0, .ref (ad 53)), (1, .int v4)]) dX11_decode_75 rfl (by decide) rfl ?_
        refine g_loc C (lv' := [(0, .ref (ad 53)), (1, .int v4), (2, .int v7), (3, .int 0)]) [2, 3, 1, 0] rfl ?_
        refine loopF_ind (b_X11_decode_76 v7) 8 (fun (j10 : Nat) (s10 : Sg × Fl) => K (s10.1) (s10.2) 76 [(0, .ref (ad 53)), (1, .int v4), (2, .int v7), (3, .int (nI j10))] []) (σ6, φ9) ?_ ?_
        · intro j10 s10 hj10 kk
          change K (s10.1) (s10.2) 76 [(0, .ref (ad 53)), (1, .int v4), (2, .int v7), (3, .int (nI j10))] []
          refine g_iload_n C (i := 3) dX11_decode_76 rfl 3 rfl ?_
          refine g_bipush C (v := 8) dX11_decode_77 (by decide) ?_
          refine g_icmp_ge C (tgt := 112) dX11_decode_79 (by decide) (fun h4 => ?_) (fun h4 => ?_)
          · exact absurd h4 (nI_ge hj10 (by decide))
          · refine g_iconst C (v := 0) dX11_decode_82 (by decide) ?_
            refine g_istore C (i := 4) (lv' := [(4, .int 0), (0, .ref (ad 53)), (1, .int v4), (2, .int v7), (3, .int (nI j10))]) dX11_decode_83 (by decide) rfl ?_
            refine g_loc C (lv' := [(0, .ref (ad 53)), (1, .int v4), (2, .int v7), (3, .int (nI j10)), (4, .int 0)]) [1, 2, 3, 4, 0] rfl ?_
            refine loopF_ind (b_X11_decode_85 v7 j10) 10 (fun (j11 : Nat) (s11 : Sg × Fl) => K (s11.1) (s11.2) 85 [(0, .ref (ad 53)), (1, .int v4), (2, .int v7), (3, .int (nI j10)), (4, .int (nI j11))] []) (s10.1, s10.2) ?_ ?_
            · intro j11 s11 hj11 kk
              change K (s11.1) (s11.2) 85 [(0, .ref (ad 53)), (1, .int v4), (2, .int v7), (3, .int (nI j10)), (4, .int (nI j11))] []
              refine g_iload C (i := 4) dX11_decode_85 4 rfl ?_
              refine g_bipush C (v := 10) dX11_decode_87 (by decide) ?_
              refine g_icmp_ge C (tgt := 106) dX11_decode_89 (by decide) (fun h5 => ?_) (fun h5 => ?_)
              · exact absurd h5 (nI_ge hj11 (by decide))
              · refine g_aload_n C (i := 0) dX11_decode_92 rfl 0 rfl ?_
                refine g_iload_n C (i := 3) dX11_decode_93 rfl 3 rfl ?_
                refine g_iload C (i := 4) dX11_decode_94 4 rfl ?_
                refine g_iload_n C (i := 2) dX11_decode_96 rfl 2 rfl ?_
                refine g_callV C (st := []) (c_X11_comb l D ad dA z0 tt (s11.1) (s11.2) (nI j10) (nI j11) v7 (vp_in_nI (Nat.lt_of_lt_of_le hj10 (by decide)) (by decide)) (vp_in_nI (Nat.lt_of_lt_of_le hj11 (by decide)) (by decide))) rfl ml_X11_206 im_X11_comb se_X11_comb in_X11 co_X11_comb dyV_X11_comb rfl rfl ⟨(Nat.le_of_ble_eq_true rfl), (Nat.le_of_ble_eq_true rfl)⟩ 53 11 (fun f => at_53 ad dA (s11.1) f) rfl dX11_decode_97 rfl (Nat.le_of_ble_eq_true rfl) (g_fnv ?_)
                refine g_nms C (fun σ12 eσ12 => ?_)
                refine g_nmp C (fun φ13 eφ13 => ?_)
                refine g_iinc C (i := 4) (v := nI (j11 + 1)) (lv' := [(4, .int (nI (j11 + 1))), (0, .ref (ad 53)), (1, .int v4), (2, .int v7), (3, .int (nI j10))]) dX11_decode_100 4 rfl (nI_1 _) (by decide) rfl ?_
                refine g_goto C (tgt := 85) dX11_decode_103 (by decide) ?_
                refine g_loc C [1, 2, 3, 4, 0] rfl ?_
                refine kk (σ12, φ13) ?_
                subst eφ13
                subst eσ12
                exact b_X11_decode_85_eq _ _ _ _
            · generalize et11 : loopF (b_X11_decode_85 v7 j10) 10 (s10.1, s10.2) = t11
              change K (t11.1) (t11.2) 85 [(0, .ref (ad 53)), (1, .int v4), (2, .int v7), (3, .int (nI j10)), (4, .int (nI 10))] []
              refine g_iload C (i := 4) dX11_decode_85 4 rfl ?_
              refine g_bipush C (v := 10) dX11_decode_87 (by decide) ?_
              refine g_icmp_ge C (tgt := 106) dX11_decode_89 (by decide) (fun h6 => ?_) (fun h6 => ?_)
              · refine g_iinc C (i := 3) (v := nI (j10 + 1)) (lv' := [(3, .int (nI (j10 + 1))), (0, .ref (ad 53)), (1, .int v4), (2, .int v7), (4, .int (nI 10))]) dX11_decode_106 3 rfl (nI_1 _) (by decide) rfl ?_
                refine g_goto C (tgt := 76) dX11_decode_109 (by decide) ?_
                refine g_loc C [1, 2, 3, 0] rfl ?_
                refine kk (t11.1, t11.2) ?_
                subst et11
                exact b_X11_decode_76_eq _ _ _
              · exact absurd (nI_le (Nat.le_refl _) (by decide)) h6
        · generalize et10 : loopF (b_X11_decode_76 v7) 8 (σ6, φ9) = t10
          change K (t10.1) (t10.2) 76 [(0, .ref (ad 53)), (1, .int v4), (2, .int v7), (3, .int (nI 8))] []
          refine g_iload_n C (i := 3) dX11_decode_76 rfl 3 rfl ?_
          refine g_bipush C (v := 8) dX11_decode_77 (by decide) ?_
          refine g_icmp_ge C (tgt := 112) dX11_decode_79 (by decide) (fun h7 => ?_) (fun h7 => ?_)
          · refine g_aload_n C (i := 0) dX11_decode_112 rfl 0 rfl ?_
            refine g_callV C (st := []) (c_X11_findMotion l D ad dA z0 tt (t10.1) (t10.2) ) rfl ml_X11_210 im_X11_findMotion se_X11_findMotion in_X11 co_X11_findMotion dyV_X11_findMotion rfl rfl ⟨(Nat.le_of_ble_eq_true rfl), (Nat.le_of_ble_eq_true rfl)⟩ 53 11 (fun f => at_53 ad dA (t10.1) f) rfl dX11_decode_113 rfl (Nat.le_of_ble_eq_true rfl) (g_fnv ?_)
            refine g_nms C (fun σ14 eσ14 => ?_)
            refine g_iload_n C (i := 1) dX11_decode_116 rfl 1 rfl ?_
            have e0 : f_X11_decode σ φ = (v4, σ14, t10.2) := by
              subst eσ14
              subst et10
              subst eφ9
              subst ev7
              subst eσ6
              subst eσ5
              subst ev4
              subst eσ3
              subst et1
              exact f_X11_decode_eq _ _
            exact hi _ _ _ _ _ _ rfl dX11_decode_117 rfl ⟨(congrArg (fun z => some (Value.int z.1)) e0).symm, (congrArg (fun z => z.2.1) e0).symm, (congrArg (fun z => z.2.2) e0).symm⟩
          · exact absurd (nI_le (Nat.le_refl _) (by decide)) h7
      refine g_icmp_ne C (tgt := 62) dX11_decode_52 (by decide) (fun h3 => ?_) (fun h3 => ?_)
      · refine g_aload_n C (i := 0) dX11_decode_62 rfl 1 rfl ?_
        refine gg_53_9 C fl_X11_35 dX11_decode_63 ?_
        refine g_iconst C (v := 3) dX11_decode_66 (by decide) ?_
        refine ld_62 C (vp_lit (by decide)) dX11_decode_67 ?_
        refine g_loc C [1, 0] rfl ?_
        exact J8 _ ((if_neg h3))
      · refine g_aload_n C (i := 0) dX11_decode_55 rfl 1 rfl ?_
        refine g_callV C (st := []) (c_X11_guessed l D ad dA z0 tt σ6 φ ) rfl ml_X11_199 im_X11_guessed se_X11_guessed in_X11 co_X11_guessed dyV_X11_guessed rfl rfl ⟨(Nat.le_of_ble_eq_true rfl), (Nat.le_of_ble_eq_true rfl)⟩ 53 11 (fun f => at_53 ad dA σ6 f) rfl dX11_decode_56 rfl (Nat.le_of_ble_eq_true rfl) (g_fni ?_)
        refine g_goto C (tgt := 68) dX11_decode_59 (by decide) ?_
        refine g_loc C [1, 0] rfl ?_
        exact J8 _ ((if_pos h3))
    · exact absurd (nI_le (Nat.le_refl _) (by decide)) h2
def f_X10_decode (σ : Sg) (φ : Fl) : Int32 × Sg × Fl := let σ1 : Sg := f_X9_sendFrom σ; let σ2 : Sg := f_X4_find σ1; let σ3 : Sg := f_X1_measure σ2 (f_X8_threshold σ2); let φ4 : Fl := f_X6_follow σ3 φ (f_X8_standardTaken σ3 (f_X1_guessedStandard σ3)); let σ5 : Sg := f_X3_separate σ3 (f_X8_standardTaken σ3 (f_X1_guessedStandard σ3)); let φ6 : Fl := f_X2_turn σ5 φ4 (f_X8_standardTaken σ3 (f_X1_guessedStandard σ3)); let v7 : Int32 := (if (σ5 0 10) ≤ 0 then 0 else 1); let σ9 : Sg := f_X5_watch σ5 (f_X8_limit σ5) v7; let σ10 : Sg := sw σ9 0 10 ((σ9 0 10) + 1); (f_X10_tally_29 σ10, σ10, φ6)
theorem f_X10_decode_eq (σ : Sg) (φ : Fl) : f_X10_decode σ φ = (let σ1 : Sg := f_X9_sendFrom σ; let σ2 : Sg := f_X4_find σ1; let σ3 : Sg := f_X1_measure σ2 (f_X8_threshold σ2); let φ4 : Fl := f_X6_follow σ3 φ (f_X8_standardTaken σ3 (f_X1_guessedStandard σ3)); let σ5 : Sg := f_X3_separate σ3 (f_X8_standardTaken σ3 (f_X1_guessedStandard σ3)); let φ6 : Fl := f_X2_turn σ5 φ4 (f_X8_standardTaken σ3 (f_X1_guessedStandard σ3)); let v7 : Int32 := (if (σ5 0 10) ≤ 0 then 0 else 1); let σ9 : Sg := f_X5_watch σ5 (f_X8_limit σ5) v7; let σ10 : Sg := sw σ9 0 10 ((σ9 0 10) + 1); (f_X10_tally_29 σ10, σ10, φ6)) := rfl
set_option maxRecDepth 100000 in
set_option maxHeartbeats 4000000 in
theorem c_X10_decode (l : Launch) (D : va_G) (ad : Nat → Nat) (dA : Nat → ClassId) (z0 : Nat) (tt : Nat → Nat) (σ : Sg) (φ : Fl)   : MC l D ad dA z0 tt yX10_decode (Cond.code yX10_decode cX10_decode 2 (some .int) :: lw_all) { frames := 6, cells := 0, slots := 0, locals := 151 } [.ref (ad 0)] σ φ (Fn (some (.int (f_X10_decode σ φ).1)) (f_X10_decode σ φ).2.1 (f_X10_decode σ φ).2.2) := by
  refine mk_MC (by decide) (Nat.le_of_ble_eq_true rfl) ?_
  intro K C hi hf hv
  change K σ φ 0 [(0, .ref (ad 0))] []
  refine g_aload_n C (i := 0) dX10_decode_0 rfl 0 rfl ?_
  refine gg_0_3 C fl_X10_33 dX10_decode_1 ?_
  refine g_aload_n C (i := 0) dX10_decode_4 rfl 0 rfl ?_
  refine gg_0_0 C fl_X10_10 dX10_decode_5 ?_
  refine g_callV C (st := []) (c_X9_sendFrom l D ad dA z0 tt σ φ ) rfl ml_X10_159 im_X9_sendFrom se_X9_sendFrom in_X9 co_X9_sendFrom dyV_X9_sendFrom rfl rfl ⟨(Nat.le_of_ble_eq_true rfl), (Nat.le_of_ble_eq_true rfl)⟩ 15 9 (fun f => at_15 ad dA σ f) rfl dX10_decode_8 rfl (Nat.le_of_ble_eq_true rfl) (g_fnv ?_)
  refine g_nms C (fun σ1 eσ1 => ?_)
  refine g_aload_n C (i := 0) dX10_decode_11 rfl 0 rfl ?_
  refine gg_0_4 C fl_X10_40 dX10_decode_12 ?_
  refine g_aload_n C (i := 0) dX10_decode_15 rfl 0 rfl ?_
  refine gg_0_3 C fl_X10_33 dX10_decode_16 ?_
  refine g_callV C (st := []) (c_X4_find l D ad dA z0 tt σ1 φ ) rfl ml_X10_163 im_X4_find se_X4_find in_X4 co_X4_find dyV_X4_find rfl rfl ⟨(Nat.le_of_ble_eq_true rfl), (Nat.le_of_ble_eq_true rfl)⟩ 25 4 (fun f => at_25 ad dA σ1 f) rfl dX10_decode_19 rfl (Nat.le_of_ble_eq_true rfl) (g_fnv ?_)
  refine g_nms C (fun σ2 eσ2 => ?_)
  refine g_aload_n C (i := 0) dX10_decode_22 rfl 0 rfl ?_
  refine gg_0_5 C fl_X10_47 dX10_decode_23 ?_
  refine g_aload_n C (i := 0) dX10_decode_26 rfl 0 rfl ?_
  refine gg_0_3 C fl_X10_33 dX10_decode_27 ?_
  refine g_aload_n C (i := 0) dX10_decode_30 rfl 0 rfl ?_
  refine gg_0_4 C fl_X10_40 dX10_decode_31 ?_
  refine ggN_25_1 C fl_X10_167 dX10_decode_34 ?_
  refine g_aload_n C (i := 0) dX10_decode_37 rfl 0 rfl ?_
  refine gg_0_2 C fl_X10_26 dX10_decode_38 ?_
  refine g_callV C (st := [.ref (ad 27), .ref (ad 15), .ref (ad 30)]) (c_X8_threshold l D ad dA z0 tt σ2 φ ) rfl ml_X10_170 im_X8_threshold se_X8_threshold in_X8 co_X8_threshold dyV_X8_threshold rfl rfl ⟨(Nat.le_of_ble_eq_true rfl), (Nat.le_of_ble_eq_true rfl)⟩ 13 8 (fun f => at_13 ad dA σ2 f) rfl dX10_decode_41 rfl (Nat.le_of_ble_eq_true rfl) (g_fni ?_)
  refine g_callV C (st := []) (c_X1_measure l D ad dA z0 tt σ2 φ (f_X8_threshold σ2)) rfl ml_X10_173 im_X1_measure se_X1_measure in_X1 co_X1_measure dyV_X1_measure rfl rfl ⟨(Nat.le_of_ble_eq_true rfl), (Nat.le_of_ble_eq_true rfl)⟩ 30 1 (fun f => at_30 ad dA σ2 f) rfl dX10_decode_44 rfl (Nat.le_of_ble_eq_true rfl) (g_fnv ?_)
  refine g_nms C (fun σ3 eσ3 => ?_)
  refine g_aload_n C (i := 0) dX10_decode_47 rfl 0 rfl ?_
  refine gg_0_2 C fl_X10_26 dX10_decode_48 ?_
  refine g_aload_n C (i := 0) dX10_decode_51 rfl 0 rfl ?_
  refine gg_0_5 C fl_X10_47 dX10_decode_52 ?_
  refine g_callV C (st := [.ref (ad 13)]) (c_X1_guessedStandard l D ad dA z0 tt σ3 φ ) rfl ml_X10_177 im_X1_guessedStandard se_X1_guessedStandard in_X1 co_X1_guessedStandard dyV_X1_guessedStandard rfl rfl ⟨(Nat.le_of_ble_eq_true rfl), (Nat.le_of_ble_eq_true rfl)⟩ 30 1 (fun f => at_30 ad dA σ3 f) rfl dX10_decode_55 rfl (Nat.le_of_ble_eq_true rfl) (g_fni ?_)
  refine g_callV C (st := []) (c_X8_standardTaken l D ad dA z0 tt σ3 φ (f_X1_guessedStandard σ3)) rfl ml_X10_180 im_X8_standardTaken se_X8_standardTaken in_X8 co_X8_standardTaken dyV_X8_standardTaken rfl rfl ⟨(Nat.le_of_ble_eq_true rfl), (Nat.le_of_ble_eq_true rfl)⟩ 13 8 (fun f => at_13 ad dA σ3 f) rfl dX10_decode_58 rfl (Nat.le_of_ble_eq_true rfl) (g_fni ?_)
  refine g_istore_n C (i := 1) (lv' := [(1, .int (f_X8_standardTaken σ3 (f_X1_guessedStandard σ3))), (0, .ref (ad 0))]) dX10_decode_61 rfl (by decide) rfl ?_
  refine g_aload_n C (i := 0) dX10_decode_62 rfl 1 rfl ?_
  refine gg_0_6 C fl_X10_54 dX10_decode_63 ?_
  refine g_aload_n C (i := 0) dX10_decode_66 rfl 1 rfl ?_
  refine gg_0_5 C fl_X10_47 dX10_decode_67 ?_
  refine g_iload_n C (i := 1) dX10_decode_70 rfl 0 rfl ?_
  refine g_callV C (st := []) (c_X6_follow l D ad dA z0 tt σ3 φ (f_X8_standardTaken σ3 (f_X1_guessedStandard σ3))) rfl ml_X10_184 im_X6_follow se_X6_follow in_X6 co_X6_follow dyV_X6_follow rfl rfl ⟨(Nat.le_of_ble_eq_true rfl), (Nat.le_of_ble_eq_true rfl)⟩ 35 6 (fun f => at_35 ad dA σ3 f) rfl dX10_decode_71 rfl (Nat.le_of_ble_eq_true rfl) (g_fnv ?_)
  refine g_nmp C (fun φ4 eφ4 => ?_)
  refine g_aload_n C (i := 0) dX10_decode_74 rfl 1 rfl ?_
  refine gg_0_7 C fl_X10_61 dX10_decode_75 ?_
  refine g_aload_n C (i := 0) dX10_decode_78 rfl 1 rfl ?_
  refine gg_0_3 C fl_X10_33 dX10_decode_79 ?_
  refine g_aload_n C (i := 0) dX10_decode_82 rfl 1 rfl ?_
  refine gg_0_4 C fl_X10_40 dX10_decode_83 ?_
  refine ggN_25_1 C fl_X10_167 dX10_decode_86 ?_
  refine g_aload_n C (i := 0) dX10_decode_89 rfl 1 rfl ?_
  refine gg_0_2 C fl_X10_26 dX10_decode_90 ?_
  refine g_iload_n C (i := 1) dX10_decode_93 rfl 0 rfl ?_
  refine g_callV C (st := []) (c_X3_separate l D ad dA z0 tt σ3 φ4 (f_X8_standardTaken σ3 (f_X1_guessedStandard σ3))) rfl ml_X10_188 im_X3_separate se_X3_separate in_X3 co_X3_separate dyV_X3_separate rfl rfl ⟨(Nat.le_of_ble_eq_true rfl), (Nat.le_of_ble_eq_true rfl)⟩ 38 3 (fun f => at_38 ad dA σ3 f) rfl dX10_decode_94 rfl (Nat.le_of_ble_eq_true rfl) (g_fnv ?_)
  refine g_nms C (fun σ5 eσ5 => ?_)
  refine g_aload_n C (i := 0) dX10_decode_97 rfl 1 rfl ?_
  refine gg_0_8 C fl_X10_68 dX10_decode_98 ?_
  refine g_aload_n C (i := 0) dX10_decode_101 rfl 1 rfl ?_
  refine gg_0_7 C fl_X10_61 dX10_decode_102 ?_
  refine g_aload_n C (i := 0) dX10_decode_105 rfl 1 rfl ?_
  refine gg_0_5 C fl_X10_47 dX10_decode_106 ?_
  refine g_aload_n C (i := 0) dX10_decode_109 rfl 1 rfl ?_
  refine gg_0_6 C fl_X10_54 dX10_decode_110 ?_
  refine g_iload_n C (i := 1) dX10_decode_113 rfl 0 rfl ?_
  refine g_callV C (st := []) (c_X2_turn l D ad dA z0 tt σ5 φ4 (f_X8_standardTaken σ3 (f_X1_guessedStandard σ3))) rfl ml_X10_192 im_X2_turn se_X2_turn in_X2 co_X2_turn dyV_X2_turn rfl rfl ⟨(Nat.le_of_ble_eq_true rfl), (Nat.le_of_ble_eq_true rfl)⟩ 44 2 (fun f => at_44 ad dA σ5 f) rfl dX10_decode_114 rfl (Nat.le_of_ble_eq_true rfl) (g_fnv ?_)
  refine g_nmp C (fun φ6 eφ6 => ?_)
  refine g_aload_n C (i := 0) dX10_decode_117 rfl 1 rfl ?_
  refine gg_0_9 C fl_X10_75 dX10_decode_118 ?_
  refine g_aload_n C (i := 0) dX10_decode_121 rfl 1 rfl ?_
  refine gg_0_7 C fl_X10_61 dX10_decode_122 ?_
  refine ggN_38_1 C fl_X10_196 dX10_decode_125 ?_
  refine g_aload_n C (i := 0) dX10_decode_128 rfl 1 rfl ?_
  refine gg_0_2 C fl_X10_26 dX10_decode_129 ?_
  refine g_callV C (st := [.ref (ad 40), .ref (ad 49)]) (c_X8_limit l D ad dA z0 tt σ5 φ6 ) rfl ml_X10_197 im_X8_limit se_X8_limit in_X8 co_X8_limit dyV_X8_limit rfl rfl ⟨(Nat.le_of_ble_eq_true rfl), (Nat.le_of_ble_eq_true rfl)⟩ 13 8 (fun f => at_13 ad dA σ5 f) rfl dX10_decode_132 rfl (Nat.le_of_ble_eq_true rfl) (g_fni ?_)
  refine g_aload_n C (i := 0) dX10_decode_135 rfl 1 rfl ?_
  refine gg_0_10 C fl_X10_200 dX10_decode_136 ?_
  have J8 : ∀ (v7 : Int32), (if (σ5 0 10) ≤ 0 then 0 else 1) = v7 → K σ5 φ6 147 [(0, .ref (ad 0))] [.int v7, .int (f_X8_limit σ5), .ref (ad 40), .ref (ad 49)] := by
    intro v7 ev7
    refine g_callV C (st := []) (c_X5_watch l D ad dA z0 tt σ5 φ6 (f_X8_limit σ5) v7) rfl ml_X10_203 im_X5_watch se_X5_watch in_X5 co_X5_watch dyV_X5_watch rfl rfl ⟨(Nat.le_of_ble_eq_true rfl), (Nat.le_of_ble_eq_true rfl)⟩ 49 5 (fun f => at_49 ad dA σ5 f) rfl dX10_decode_147 rfl (Nat.le_of_ble_eq_true rfl) (g_fnv ?_)
    refine g_nms C (fun σ9 eσ9 => ?_)
    refine g_aload_n C (i := 0) dX10_decode_150 rfl 0 rfl ?_
    refine g_dup C dX10_decode_151 rfl ?_
    refine gg_0_10 C fl_X10_200 dX10_decode_152 ?_
    refine g_iconst C (v := 1) dX10_decode_155 (by decide) ?_
    refine g_iadd C dX10_decode_156 ?_
    refine gp_0_10 C fl_X10_200 dX10_decode_157 ?_
    refine g_nms C (fun σ10 eσ10 => ?_)
    refine g_aload_n C (i := 0) dX10_decode_160 rfl 0 rfl ?_
    refine gg_0_4 C fl_X10_40 dX10_decode_161 ?_
    refine ggN_25_3 C fl_X10_207 dX10_decode_164 ?_
    refine g_callS C (st := []) (c_X10_tally_29 l D ad dA z0 tt σ10 φ6 ) rfl ml_X10_210 sm_X10_tally in_X10 co_X10_tally dyS_X10_tally rfl rfl ⟨(Nat.le_of_ble_eq_true rfl), (Nat.le_of_ble_eq_true rfl)⟩ dX10_decode_167 rfl (Nat.le_of_ble_eq_true rfl) (g_fni ?_)
    have e0 : f_X10_decode σ φ = (f_X10_tally_29 σ10, σ10, φ6) := by
      subst eσ10
      subst eσ9
      subst ev7
      subst eφ6
      subst eσ5
      subst eφ4
      subst eσ3
      subst eσ2
      subst eσ1
      exact f_X10_decode_eq _ _
    exact hi _ _ _ _ _ _ rfl dX10_decode_170 rfl ⟨(congrArg (fun z => some (Value.int z.1)) e0).symm, (congrArg (fun z => z.2.1) e0).symm, (congrArg (fun z => z.2.2) e0).symm⟩
  refine g_if_le C (tgt := 146) dX10_decode_139 (by decide) (fun h1 => ?_) (fun h1 => ?_)
  · refine g_iconst C (v := 0) dX10_decode_146 (by decide) ?_
    refine g_loc C [1] rfl ?_
    exact J8 _ ((if_pos h1))
  · refine g_iconst C (v := 1) dX10_decode_142 (by decide) ?_
    refine g_goto C (tgt := 147) dX10_decode_143 (by decide) ?_
    refine g_loc C [1] rfl ?_
    exact J8 _ ((if_neg h1))
