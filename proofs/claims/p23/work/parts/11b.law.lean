/-! the law's own walk -/
set_option maxRecDepth 100000 in
set_option maxHeartbeats 4000000 in
theorem c_L_law {KK : Nat → KT} {l : Launch} {D : va_G} {ad : Nat → Nat} {dA : Nat → ClassId} {z0 : Nat} {tt : Nat → Nat} (σ : Sg) (φ : Fl) (CMh : CM KK l D ad dA z0 tt (fun v => v = f_L_law tt σ φ)) (h99 : ad 99 = 0) (hL : tt 9 ≤ 260) (hM0 : MInv 0 (0, σ, φ)) : KK 40 σ φ 18 [(3, .ref (ad 54)), (2, .ref (ad 53)), (1, .ref (ad 0)), (0, .ref (tt 8))] [] := by
  obtain ⟨K, hK, C, hi⟩ := CMh.K 40
  rw [← hK]
  refine g_aload_n C (i := 1) dL_law_18 rfl 2 rfl ?_
  refine g_iconst C (v := 0) dL_law_19 (by decide) ?_
  refine g_iconst C (v := 0) dL_law_20 (by decide) ?_
  refine g_callV C (st := []) (c_X10_line l D ad dA z0 tt σ φ 0 0) rfl ml_L_38 im_X10_line se_X10_line in_X10 co_X10_line dyV_X10_line rfl rfl ⟨(Nat.le_of_ble_eq_true rfl), (Nat.le_of_ble_eq_true rfl)⟩ 0 10 (fun f => at_0 ad dA σ f) rfl dL_law_21 rfl (Nat.le_of_ble_eq_true rfl) (g_fni ?_)
  refine g_ldc C kc_L_21 dL_law_24 ?_
  refine g_icmp_ne C (tgt := 91) dL_law_26 (by decide) (fun h1 => ?_) (fun h1 => ?_)
  · refine g_iconst C (v := 0) dL_law_91 (by decide) ?_
    have e0 : f_L_law tt σ φ = 0 := by
      exact ((f_L_law_eq _ _ _).trans (if_neg h1))
    exact hi _ _ _ _ _ dL_law_92 (lv_narrowZ (Or.inl rfl)).1 e0.symm
  · refine g_aload_n C (i := 1) dL_law_29 rfl 2 rfl ?_
    refine g_iconst C (v := 0) dL_law_30 (by decide) ?_
    refine g_iconst C (v := 0) dL_law_31 (by decide) ?_
    refine g_callV C (st := []) (c_X10_luma l D ad dA z0 tt σ φ 0 0) rfl ml_L_52 im_X10_luma se_X10_luma in_X10 co_X10_luma dyV_X10_luma rfl rfl ⟨(Nat.le_of_ble_eq_true rfl), (Nat.le_of_ble_eq_true rfl)⟩ 0 10 (fun f => at_0 ad dA σ f) rfl dL_law_32 rfl (Nat.le_of_ble_eq_true rfl) (g_fni ?_)
    refine g_ldc C kc_L_21 dL_law_35 ?_
    refine g_icmp_ne C (tgt := 91) dL_law_37 (by decide) (fun h2 => ?_) (fun h2 => ?_)
    · refine g_iconst C (v := 0) dL_law_91 (by decide) ?_
      have e0 : f_L_law tt σ φ = 0 := by
        exact ((f_L_law_eq _ _ _).trans ((if_pos h1).trans (if_neg h2)))
      exact hi _ _ _ _ _ dL_law_92 (lv_narrowZ (Or.inl rfl)).1 e0.symm
    · refine g_aload_n C (i := 1) dL_law_40 rfl 2 rfl ?_
      refine g_iconst C (v := 0) dL_law_41 (by decide) ?_
      refine g_iconst C (v := 0) dL_law_42 (by decide) ?_
      refine g_callV C (st := []) (c_X10_combed l D ad dA z0 tt σ φ 0 0) rfl ml_L_49 im_X10_combed se_X10_combed in_X10 co_X10_combed dyV_X10_combed rfl rfl ⟨(Nat.le_of_ble_eq_true rfl), (Nat.le_of_ble_eq_true rfl)⟩ 0 10 (fun f => at_0 ad dA σ f) rfl dL_law_43 rfl (Nat.le_of_ble_eq_true rfl) (g_fni ?_)
      refine g_ldc C kc_L_21 dL_law_46 ?_
      refine g_icmp_ne C (tgt := 91) dL_law_48 (by decide) (fun h3 => ?_) (fun h3 => ?_)
      · refine g_iconst C (v := 0) dL_law_91 (by decide) ?_
        have e0 : f_L_law tt σ φ = 0 := by
          exact ((f_L_law_eq _ _ _).trans ((if_pos h1).trans ((if_pos h2).trans (if_neg h3))))
        exact hi _ _ _ _ _ dL_law_92 (lv_narrowZ (Or.inl rfl)).1 e0.symm
      · refine g_aload_n C (i := 1) dL_law_51 rfl 2 rfl ?_
        refine g_iconst C (v := 0) dL_law_52 (by decide) ?_
        refine g_iconst C (v := 0) dL_law_53 (by decide) ?_
        refine g_callV C (st := []) (c_X10_motion l D ad dA z0 tt σ φ 0 0) rfl ml_L_63 im_X10_motion se_X10_motion in_X10 co_X10_motion dyV_X10_motion rfl rfl ⟨(Nat.le_of_ble_eq_true rfl), (Nat.le_of_ble_eq_true rfl)⟩ 0 10 (fun f => at_0 ad dA σ f) rfl dL_law_54 rfl (Nat.le_of_ble_eq_true rfl) (g_fni ?_)
        refine g_ldc C kc_L_21 dL_law_57 ?_
        refine g_icmp_ne C (tgt := 91) dL_law_59 (by decide) (fun h4 => ?_) (fun h4 => ?_)
        · refine g_iconst C (v := 0) dL_law_91 (by decide) ?_
          have e0 : f_L_law tt σ φ = 0 := by
            exact ((f_L_law_eq _ _ _).trans ((if_pos h1).trans ((if_pos h2).trans ((if_pos h3).trans (if_neg h4)))))
          exact hi _ _ _ _ _ dL_law_92 (lv_narrowZ (Or.inl rfl)).1 e0.symm
        · refine g_aload_n C (i := 1) dL_law_62 rfl 2 rfl ?_
          refine g_iconst C (v := 1) dL_law_63 (by decide) ?_
          refine g_callV C (st := []) (c_X10_count l D ad dA z0 tt σ φ 1) rfl ml_L_35 im_X10_count se_X10_count in_X10 co_X10_count dyV_X10_count rfl rfl ⟨(Nat.le_of_ble_eq_true rfl), (Nat.le_of_ble_eq_true rfl)⟩ 0 10 (fun f => at_0 ad dA σ f) rfl dL_law_64 rfl (Nat.le_of_ble_eq_true rfl) (g_fni ?_)
          refine g_ldc C kc_L_21 dL_law_67 ?_
          refine g_icmp_ne C (tgt := 91) dL_law_69 (by decide) (fun h5 => ?_) (fun h5 => ?_)
          · refine g_iconst C (v := 0) dL_law_91 (by decide) ?_
            have e0 : f_L_law tt σ φ = 0 := by
              exact ((f_L_law_eq _ _ _).trans ((if_pos h1).trans ((if_pos h2).trans ((if_pos h3).trans ((if_pos h4).trans (if_neg h5))))))
            exact hi _ _ _ _ _ dL_law_92 (lv_narrowZ (Or.inl rfl)).1 e0.symm
          · refine g_aload_n C (i := 1) dL_law_72 rfl 2 rfl ?_
            refine g_bipush C (v := 8) dL_law_73 (by decide) ?_
            refine g_callV C (st := []) (c_X10_count l D ad dA z0 tt σ φ 8) rfl ml_L_35 im_X10_count se_X10_count in_X10 co_X10_count dyV_X10_count rfl rfl ⟨(Nat.le_of_ble_eq_true rfl), (Nat.le_of_ble_eq_true rfl)⟩ 0 10 (fun f => at_0 ad dA σ f) rfl dL_law_75 rfl (Nat.le_of_ble_eq_true rfl) (g_fni ?_)
            refine g_ldc C kc_L_21 dL_law_78 ?_
            refine g_icmp_ne C (tgt := 91) dL_law_80 (by decide) (fun h6 => ?_) (fun h6 => ?_)
            · refine g_iconst C (v := 0) dL_law_91 (by decide) ?_
              have e0 : f_L_law tt σ φ = 0 := by
                exact ((f_L_law_eq _ _ _).trans ((if_pos h1).trans ((if_pos h2).trans ((if_pos h3).trans ((if_pos h4).trans ((if_pos h5).trans (if_neg h6)))))))
              exact hi _ _ _ _ _ dL_law_92 (lv_narrowZ (Or.inl rfl)).1 e0.symm
            · refine g_aload_n C (i := 1) dL_law_83 rfl 2 rfl ?_
              refine g_iconst C (v := 0) dL_law_84 (by decide) ?_
              refine g_callV C (st := []) (c_X10_count l D ad dA z0 tt σ φ 0) rfl ml_L_35 im_X10_count se_X10_count in_X10 co_X10_count dyV_X10_count rfl rfl ⟨(Nat.le_of_ble_eq_true rfl), (Nat.le_of_ble_eq_true rfl)⟩ 0 10 (fun f => at_0 ad dA σ f) rfl dL_law_85 rfl (Nat.le_of_ble_eq_true rfl) (g_fni ?_)
              refine g_if_eq C (tgt := 93) dL_law_88 (by decide) (fun h7 => ?_) (fun h7 => ?_)
              · refine g_iconst C (v := 0) dL_law_93 (by decide) ?_
                refine g_istore C (i := 4) (lv' := [(4, .int 0), (3, .ref (ad 54)), (2, .ref (ad 53)), (1, .ref (ad 0)), (0, .ref (tt 8))]) dL_law_94 (by decide) rfl ?_
                refine g_iconst C (v := 0) dL_law_96 (by decide) ?_
                refine g_istore C (i := 5) (lv' := [(5, .int 0), (4, .int 0), (3, .ref (ad 54)), (2, .ref (ad 53)), (1, .ref (ad 0)), (0, .ref (tt 8))]) dL_law_97 (by decide) rfl ?_
                refine g_loc C (lv' := [(0, .ref (tt 8)), (1, .ref (ad 0)), (2, .ref (ad 53)), (3, .ref (ad 54)), (4, .int 0), (5, .int 0)]) [5, 4, 3, 2, 1, 0] rfl ?_
                rw [hK]
                refine loopE_indI (b_L_law_99 tt) 40 (fun (j1 : Nat) (s1 : Int32 × Sg × Fl) => KK (40 - j1) (s1.2.1) (s1.2.2) 99 [(0, .ref (tt 8)), (1, .ref (ad 0)), (2, .ref (ad 53)), (3, .ref (ad 54)), (4, .int (s1.1)), (5, .int (nI j1))] []) (0, σ, φ) (fun (j1 : Nat) (s1 : Int32 × Sg × Fl) => MInv j1 s1) hM0 (main_inv) ?_ ?_
                · intro n1 j1 s1 hn hF1 hI1 kk
                  have hj1 : j1 < 40 := by omega
                  have eK1 : 40 - j1 = n1 + 1 := by omega
                  have eK2 : 40 - (j1 + 1) = n1 := by omega
                  have kk : ∀ q' : Int32 × Sg × Fl, (b_L_law_99 tt) j1 s1 = .inr q' → KK n1 (q'.2.1) (q'.2.2) 99 [(0, .ref (tt 8)), (1, .ref (ad 0)), (2, .ref (ad 53)), (3, .ref (ad 54)), (4, .int (q'.1)), (5, .int (nI (j1 + 1)))] [] := fun q' e => by
                    have q : KK (40 - (j1 + 1)) (q'.2.1) (q'.2.2) 99 [(0, .ref (tt 8)), (1, .ref (ad 0)), (2, .ref (ad 53)), (3, .ref (ad 54)), (4, .int (q'.1)), (5, .int (nI (j1 + 1)))] [] := kk q' e
                    rw [eK2] at q
                    exact q
                  change KK (40 - j1) (s1.2.1) (s1.2.2) 99 [(0, .ref (tt 8)), (1, .ref (ad 0)), (2, .ref (ad 53)), (3, .ref (ad 54)), (4, .int (s1.1)), (5, .int (nI j1))] []
                  rw [eK1]
                  obtain ⟨K, hK, C, hi⟩ := CMh.K (n1 + 1)
                  rw [← hK]
                  refine g_iload C (i := 5) dL_law_99 5 rfl ?_
                  refine g_bipush C (v := 40) dL_law_101 (by decide) ?_
                  refine g_icmp_ge C (tgt := 665) dL_law_103 (by decide) (fun h8 => ?_) (fun h8 => ?_)
                  · exact absurd h8 (nI_ge hj1 (by decide))
                  · refine g_aload_n C (i := 0) dL_law_106 rfl 0 rfl ?_
                    refine g_iconst C (v := 2) dL_law_107 (by decide) ?_
                    refine g_iload C (i := 5) dL_law_108 5 rfl ?_
                    refine g_imul C dL_law_110 ?_
                    refine g_callS C (st := []) (c_L_cell l D ad dA z0 tt (s1.2.1) (s1.2.2) (2 * (nI j1)) (c2_pos hj1) hL) rfl ml_L_103 sm_L_cell in_L co_L_cell dyS_L_cell rfl rfl ⟨(Nat.le_of_ble_eq_true rfl), (Nat.le_of_ble_eq_true rfl)⟩ dL_law_111 rfl (Nat.le_of_ble_eq_true rfl) (g_fni ?_)
                    refine g_nmi C (fun v2 ev2 => ?_)
                    refine g_istore C (i := 6) (lv' := [(6, .int v2), (0, .ref (tt 8)), (1, .ref (ad 0)), (2, .ref (ad 53)), (3, .ref (ad 54)), (4, .int (s1.1)), (5, .int (nI j1))]) dL_law_114 (by decide) rfl ?_
                    refine g_aload_n C (i := 0) dL_law_116 rfl 1 rfl ?_
                    refine g_iconst C (v := 2) dL_law_117 (by decide) ?_
                    refine g_iload C (i := 5) dL_law_118 6 rfl ?_
                    refine g_imul C dL_law_120 ?_
                    refine g_iconst C (v := 1) dL_law_121 (by decide) ?_
                    refine g_iadd C dL_law_122 ?_
                    refine g_callS C (st := []) (c_L_cell l D ad dA z0 tt (s1.2.1) (s1.2.2) ((2 * (nI j1)) + 1) (c2_pos1 hj1) hL) rfl ml_L_103 sm_L_cell in_L co_L_cell dyS_L_cell rfl rfl ⟨(Nat.le_of_ble_eq_true rfl), (Nat.le_of_ble_eq_true rfl)⟩ dL_law_123 rfl (Nat.le_of_ble_eq_true rfl) (g_fni ?_)
                    refine g_nmi C (fun v3 ev3 => ?_)
                    refine g_istore C (i := 7) (lv' := [(7, .int v3), (6, .int v2), (0, .ref (tt 8)), (1, .ref (ad 0)), (2, .ref (ad 53)), (3, .ref (ad 54)), (4, .int (s1.1)), (5, .int (nI j1))]) dL_law_126 (by decide) rfl ?_
                    refine g_iload C (i := 6) dL_law_128 1 rfl ?_
                    refine g_bipush C (v := 12) dL_law_130 (by decide) ?_
                    refine g_callS C (st := []) (c_L_low l D ad dA z0 tt (s1.2.1) (s1.2.2) v2 12 (by decide)) rfl ml_L_74 sm_L_low in_L co_L_low dyS_L_low rfl rfl ⟨(Nat.le_of_ble_eq_true rfl), (Nat.le_of_ble_eq_true rfl)⟩ dL_law_132 rfl (Nat.le_of_ble_eq_true rfl) (g_fni ?_)
                    refine g_istore C (i := 8) (lv' := [(8, .int (f_L_low v2 12)), (7, .int v3), (6, .int v2), (0, .ref (tt 8)), (1, .ref (ad 0)), (2, .ref (ad 53)), (3, .ref (ad 54)), (4, .int (s1.1)), (5, .int (nI j1))]) dL_law_135 (by decide) rfl ?_
                    refine g_iload C (i := 6) dL_law_137 2 rfl ?_
                    refine g_iconst C (v := 4) dL_law_139 (by decide) ?_
                    refine g_ishr C dL_law_140 ?_
                    refine g_nmi C (fun v4 ev4 => ?_)
                    refine g_istore C (i := 6) (lv' := [(6, .int v4), (8, .int (f_L_low v2 12)), (7, .int v3), (0, .ref (tt 8)), (1, .ref (ad 0)), (2, .ref (ad 53)), (3, .ref (ad 54)), (4, .int (s1.1)), (5, .int (nI j1))]) dL_law_141 (by decide) rfl ?_
                    refine g_iload C (i := 6) dL_law_143 0 rfl ?_
                    refine g_bipush C (v := 8) dL_law_145 (by decide) ?_
                    refine g_callS C (st := []) (c_L_low l D ad dA z0 tt (s1.2.1) (s1.2.2) v4 8 (by decide)) rfl ml_L_74 sm_L_low in_L co_L_low dyS_L_low rfl rfl ⟨(Nat.le_of_ble_eq_true rfl), (Nat.le_of_ble_eq_true rfl)⟩ dL_law_147 rfl (Nat.le_of_ble_eq_true rfl) (g_fni ?_)
                    refine g_istore C (i := 9) (lv' := [(9, .int (f_L_low v4 8)), (6, .int v4), (8, .int (f_L_low v2 12)), (7, .int v3), (0, .ref (tt 8)), (1, .ref (ad 0)), (2, .ref (ad 53)), (3, .ref (ad 54)), (4, .int (s1.1)), (5, .int (nI j1))]) dL_law_150 (by decide) rfl ?_
                    refine g_iload C (i := 8) dL_law_152 2 rfl ?_
                    refine g_iconst C (v := 3) dL_law_154 (by decide) ?_
                    refine g_icmp_ge C (tgt := 212) dL_law_155 (by decide) (fun h9 => ?_) (fun h9 => ?_)
                    · refine g_iload C (i := 8) dL_law_212 2 rfl ?_
                      refine g_iconst C (v := 5) dL_law_214 (by decide) ?_
                      refine g_icmp_ge C (tgt := 287) dL_law_215 (by decide) (fun h10 => ?_) (fun h10 => ?_)
                      · refine g_iload C (i := 8) dL_law_287 2 rfl ?_
                        refine g_bipush C (v := 7) dL_law_289 (by decide) ?_
                        refine g_icmp_ge C (tgt := 411) dL_law_291 (by decide) (fun h11 => ?_) (fun h11 => ?_)
                        · refine g_iload C (i := 8) dL_law_411 2 rfl ?_
                          refine g_bipush C (v := 7) dL_law_413 (by decide) ?_
                          refine g_icmp_ne C (tgt := 457) dL_law_415 (by decide) (fun h12 => ?_) (fun h12 => ?_)
                          · refine g_iload C (i := 8) dL_law_457 2 rfl ?_
                            refine g_bipush C (v := 8) dL_law_459 (by decide) ?_
                            refine g_icmp_ne C (tgt := 571) dL_law_461 (by decide) (fun h13 => ?_) (fun h13 => ?_)
                            · refine g_iload C (i := 8) dL_law_571 2 rfl ?_
                              refine g_bipush C (v := 9) dL_law_573 (by decide) ?_
                              refine g_icmp_ne C (tgt := 595) dL_law_575 (by decide) (fun h14 => ?_) (fun h14 => ?_)
                              · refine g_aload_n C (i := 1) dL_law_595 rfl 5 rfl ?_
                                refine g_callV C (st := []) (c_X10_decode l D ad dA z0 tt (s1.2.1) (s1.2.2) ) rfl ml_L_110 im_X10_decode se_X10_decode in_X10 co_X10_decode dyV_X10_decode rfl rfl ⟨(Nat.le_of_ble_eq_true rfl), (Nat.le_of_ble_eq_true rfl)⟩ 0 10 (fun f => at_0 ad dA (s1.2.1) f) rfl dL_law_596 rfl (Nat.le_of_ble_eq_true rfl) (g_fni ?_)
                                refine g_nmi C (fun v5 ev5 => ?_)
                                refine g_nms C (fun σ6 eσ6 => ?_)
                                refine g_nmp C (fun φ7 eφ7 => ?_)
                                refine g_istore C (i := 10) (lv' := [(10, .int v5), (9, .int (f_L_low v4 8)), (6, .int v4), (8, .int (f_L_low v2 12)), (7, .int v3), (0, .ref (tt 8)), (1, .ref (ad 0)), (2, .ref (ad 53)), (3, .ref (ad 54)), (4, .int (s1.1)), (5, .int (nI j1))]) dL_law_599 (by decide) rfl ?_
                                refine g_iinc C (i := 4) (v := (s1.1) + 1) (lv' := [(4, .int ((s1.1) + 1)), (10, .int v5), (9, .int (f_L_low v4 8)), (6, .int v4), (8, .int (f_L_low v2 12)), (7, .int v3), (0, .ref (tt 8)), (1, .ref (ad 0)), (2, .ref (ad 53)), (3, .ref (ad 54)), (5, .int (nI j1))]) dL_law_601 9 rfl rfl (by decide) rfl ?_
                                refine g_aload_n C (i := 1) dL_law_604 rfl 7 rfl ?_
                                refine g_iconst C (v := 0) dL_law_605 (by decide) ?_
                                refine g_callV C (st := []) (c_X10_count l D ad dA z0 tt σ6 φ7 0) rfl ml_L_35 im_X10_count se_X10_count in_X10 co_X10_count dyV_X10_count rfl rfl ⟨(Nat.le_of_ble_eq_true rfl), (Nat.le_of_ble_eq_true rfl)⟩ 0 10 (fun f => at_0 ad dA σ6 f) rfl dL_law_606 rfl (Nat.le_of_ble_eq_true rfl) (g_fni ?_)
                                refine g_iload C (i := 4) dL_law_609 0 rfl ?_
                                refine g_icmp_ne C (tgt := 651) dL_law_611 (by decide) (fun h15 => ?_) (fun h15 => ?_)
                                · refine g_iconst C (v := 0) dL_law_651 (by decide) ?_
                                  have e0 : f_L_law tt σ φ = 0 := by
                                    subst eφ7
                                    subst eσ6
                                    subst ev5
                                    subst ev4
                                    subst ev3
                                    subst ev2
                                    have eF := hF1.trans (loopE_inl n1 ((b_L_law_99_eq _ _ _).trans ((if_pos h9).trans ((if_pos h10).trans ((if_pos h11).trans ((if_neg h12).trans ((if_neg h13).trans ((if_neg h14).trans (if_neg h15)))))))))
                                    exact ((f_L_law_eq _ _ _).trans ((if_pos h1).trans ((if_pos h2).trans ((if_pos h3).trans ((if_pos h4).trans ((if_pos h5).trans ((if_pos h6).trans ((if_pos h7).trans (sumE_inl eF)))))))))
                                  exact hi _ _ _ _ _ dL_law_652 (lv_narrowZ (Or.inl rfl)).1 e0.symm
                                · refine g_aload_n C (i := 1) dL_law_614 rfl 7 rfl ?_
                                  refine g_iload C (i := 10) dL_law_615 1 rfl ?_
                                  refine g_callS C (st := []) (c_L_lines l D ad dA z0 tt σ6 φ7 v5) rfl ml_L_113 sm_L_lines in_L co_L_lines dyS_L_lines rfl rfl ⟨(Nat.le_of_ble_eq_true rfl), (Nat.le_of_ble_eq_true rfl)⟩ dL_law_617 rfl (Nat.le_of_ble_eq_true rfl) (g_fni ?_)
                                  refine g_if_eq C (tgt := 651) dL_law_620 (by decide) (fun h16 => ?_) (fun h16 => ?_)
                                  · refine g_iconst C (v := 0) dL_law_651 (by decide) ?_
                                    have e0 : f_L_law tt σ φ = 0 := by
                                      subst eφ7
                                      subst eσ6
                                      subst ev5
                                      subst ev4
                                      subst ev3
                                      subst ev2
                                      have eF := hF1.trans (loopE_inl n1 ((b_L_law_99_eq _ _ _).trans ((if_pos h9).trans ((if_pos h10).trans ((if_pos h11).trans ((if_neg h12).trans ((if_neg h13).trans ((if_neg h14).trans ((if_pos h15).trans (if_pos h16))))))))))
                                      exact ((f_L_law_eq _ _ _).trans ((if_pos h1).trans ((if_pos h2).trans ((if_pos h3).trans ((if_pos h4).trans ((if_pos h5).trans ((if_pos h6).trans ((if_pos h7).trans (sumE_inl eF)))))))))
                                    exact hi _ _ _ _ _ dL_law_652 (lv_narrowZ (Or.inl rfl)).1 e0.symm
                                  · refine g_aload_n C (i := 1) dL_law_623 rfl 7 rfl ?_
                                    rw [hK]
                                    refine g_callS1 CMh (by omega) (st := []) (c_L_combs l D ad dA z0 tt σ6 φ7 h99) rfl ml_L_117 sm_L_combs in_L co_L_combs dyS_L_combs rfl rfl ⟨(Nat.le_of_ble_eq_true rfl), (Nat.le_of_ble_eq_true rfl)⟩ dL_law_624 rfl (Nat.le_of_ble_eq_true rfl) (fun K hK C hi => g_fni ?_)
                                    refine g_nmi C (fun v8 ev8 => ?_)
                                    refine g_nms C (fun σ9 eσ9 => ?_)
                                    refine g_if_eq C (tgt := 651) dL_law_627 (by decide) (fun h17 => ?_) (fun h17 => ?_)
                                    · refine g_iconst C (v := 0) dL_law_651 (by decide) ?_
                                      have e0 : f_L_law tt σ φ = 0 := by
                                        subst eσ9
                                        subst ev8
                                        subst eφ7
                                        subst eσ6
                                        subst ev5
                                        subst ev4
                                        subst ev3
                                        subst ev2
                                        have eF := hF1.trans (loopE_inl n1 ((b_L_law_99_eq _ _ _).trans ((if_pos h9).trans ((if_pos h10).trans ((if_pos h11).trans ((if_neg h12).trans ((if_neg h13).trans ((if_neg h14).trans ((if_pos h15).trans ((if_neg h16).trans (if_pos h17)))))))))))
                                        exact ((f_L_law_eq _ _ _).trans ((if_pos h1).trans ((if_pos h2).trans ((if_pos h3).trans ((if_pos h4).trans ((if_pos h5).trans ((if_pos h6).trans ((if_pos h7).trans (sumE_inl eF)))))))))
                                      exact hi _ _ _ _ _ dL_law_652 (lv_narrowZ (Or.inl rfl)).1 e0.symm
                                    · refine g_iload C (i := 4) dL_law_630 0 rfl ?_
                                      refine g_iconst C (v := 1) dL_law_632 (by decide) ?_
                                      refine g_icmp_le C (tgt := 653) dL_law_633 (by decide) (fun h18 => ?_) (fun h18 => ?_)
                                      · refine g_aload_n C (i := 1) dL_law_653 rfl 7 rfl ?_
                                        refine g_aload_n C (i := 2) dL_law_654 rfl 8 rfl ?_
                                        refine g_aload_n C (i := 3) dL_law_655 rfl 9 rfl ?_
                                        refine g_callS C (st := []) (c_L_keep l D ad dA z0 tt σ9 φ7 ) rfl ml_L_124 sm_L_keep in_L co_L_keep dyS_L_keep rfl rfl ⟨(Nat.le_of_ble_eq_true rfl), (Nat.le_of_ble_eq_true rfl)⟩ dL_law_656 rfl (Nat.le_of_ble_eq_true rfl) (g_fnv ?_)
                                        refine g_nms C (fun σ10 eσ10 => ?_)
                                        refine g_iinc C (i := 5) (v := nI (j1 + 1)) (lv' := [(5, .int (nI (j1 + 1))), (4, .int ((s1.1) + 1)), (10, .int v5), (9, .int (f_L_low v4 8)), (6, .int v4), (8, .int (f_L_low v2 12)), (7, .int v3), (0, .ref (tt 8)), (1, .ref (ad 0)), (2, .ref (ad 53)), (3, .ref (ad 54))]) dL_law_659 10 rfl (nI_1 _) (by decide) rfl ?_
                                        refine g_goto C (tgt := 99) dL_law_662 (by decide) ?_
                                        refine g_loc C [7, 8, 9, 10, 1, 0] rfl ?_
                                        rw [hK]
                                        refine kk ((s1.1) + 1, σ10, φ7) ?_
                                        subst eσ10
                                        subst eσ9
                                        subst ev8
                                        subst eφ7
                                        subst eσ6
                                        subst ev5
                                        subst ev4
                                        subst ev3
                                        subst ev2
                                        exact ((b_L_law_99_eq _ _ _).trans ((if_pos h9).trans ((if_pos h10).trans ((if_pos h11).trans ((if_neg h12).trans ((if_neg h13).trans ((if_neg h14).trans ((if_pos h15).trans ((if_neg h16).trans ((if_neg h17).trans (if_pos h18)))))))))))
                                      · refine g_aload_n C (i := 1) dL_law_636 rfl 7 rfl ?_
                                        refine g_aload_n C (i := 2) dL_law_637 rfl 8 rfl ?_
                                        refine g_aload_n C (i := 3) dL_law_638 rfl 9 rfl ?_
                                        refine g_aload_n C (i := 1) dL_law_639 rfl 7 rfl ?_
                                        refine g_bipush C (v := 16) dL_law_640 (by decide) ?_
                                        refine g_callV C (st := [.ref (ad 54), .ref (ad 53), .ref (ad 0)]) (c_X10_count l D ad dA z0 tt σ9 φ7 16) rfl ml_L_35 im_X10_count se_X10_count in_X10 co_X10_count dyV_X10_count rfl rfl ⟨(Nat.le_of_ble_eq_true rfl), (Nat.le_of_ble_eq_true rfl)⟩ 0 10 (fun f => at_0 ad dA σ9 f) rfl dL_law_642 rfl (Nat.le_of_ble_eq_true rfl) (g_fni ?_)
                                        refine g_callS C (st := []) (c_L_motion l D ad dA z0 tt σ9 φ7 (f_X10_count σ9 16)) rfl ml_L_121 sm_L_motion in_L co_L_motion dyS_L_motion rfl rfl ⟨(Nat.le_of_ble_eq_true rfl), (Nat.le_of_ble_eq_true rfl)⟩ dL_law_645 rfl (Nat.le_of_ble_eq_true rfl) (g_fni ?_)
                                        refine g_if_ne C (tgt := 653) dL_law_648 (by decide) (fun h19 => ?_) (fun h19 => ?_)
                                        · refine g_aload_n C (i := 1) dL_law_653 rfl 7 rfl ?_
                                          refine g_aload_n C (i := 2) dL_law_654 rfl 8 rfl ?_
                                          refine g_aload_n C (i := 3) dL_law_655 rfl 9 rfl ?_
                                          refine g_callS C (st := []) (c_L_keep l D ad dA z0 tt σ9 φ7 ) rfl ml_L_124 sm_L_keep in_L co_L_keep dyS_L_keep rfl rfl ⟨(Nat.le_of_ble_eq_true rfl), (Nat.le_of_ble_eq_true rfl)⟩ dL_law_656 rfl (Nat.le_of_ble_eq_true rfl) (g_fnv ?_)
                                          refine g_nms C (fun σ11 eσ11 => ?_)
                                          refine g_iinc C (i := 5) (v := nI (j1 + 1)) (lv' := [(5, .int (nI (j1 + 1))), (4, .int ((s1.1) + 1)), (10, .int v5), (9, .int (f_L_low v4 8)), (6, .int v4), (8, .int (f_L_low v2 12)), (7, .int v3), (0, .ref (tt 8)), (1, .ref (ad 0)), (2, .ref (ad 53)), (3, .ref (ad 54))]) dL_law_659 10 rfl (nI_1 _) (by decide) rfl ?_
                                          refine g_goto C (tgt := 99) dL_law_662 (by decide) ?_
                                          refine g_loc C [7, 8, 9, 10, 1, 0] rfl ?_
                                          rw [hK]
                                          refine kk ((s1.1) + 1, σ11, φ7) ?_
                                          subst eσ11
                                          subst eσ9
                                          subst ev8
                                          subst eφ7
                                          subst eσ6
                                          subst ev5
                                          subst ev4
                                          subst ev3
                                          subst ev2
                                          exact ((b_L_law_99_eq _ _ _).trans ((if_pos h9).trans ((if_pos h10).trans ((if_pos h11).trans ((if_neg h12).trans ((if_neg h13).trans ((if_neg h14).trans ((if_pos h15).trans ((if_neg h16).trans ((if_neg h17).trans ((if_neg h18).trans (if_neg h19))))))))))))
                                        · refine g_iconst C (v := 0) dL_law_651 (by decide) ?_
                                          have e0 : f_L_law tt σ φ = 0 := by
                                            subst eσ9
                                            subst ev8
                                            subst eφ7
                                            subst eσ6
                                            subst ev5
                                            subst ev4
                                            subst ev3
                                            subst ev2
                                            have eF := hF1.trans (loopE_inl n1 ((b_L_law_99_eq _ _ _).trans ((if_pos h9).trans ((if_pos h10).trans ((if_pos h11).trans ((if_neg h12).trans ((if_neg h13).trans ((if_neg h14).trans ((if_pos h15).trans ((if_neg h16).trans ((if_neg h17).trans ((if_neg h18).trans (if_pos h19)))))))))))))
                                            exact ((f_L_law_eq _ _ _).trans ((if_pos h1).trans ((if_pos h2).trans ((if_pos h3).trans ((if_pos h4).trans ((if_pos h5).trans ((if_pos h6).trans ((if_pos h7).trans (sumE_inl eF)))))))))
                                          exact hi _ _ _ _ _ dL_law_652 (lv_narrowZ (Or.inl rfl)).1 e0.symm
                              · refine g_aload_n C (i := 1) dL_law_578 rfl 5 rfl ?_
                                refine g_iload C (i := 9) dL_law_579 0 rfl ?_
                                refine g_iload C (i := 6) dL_law_581 1 rfl ?_
                                refine g_iconst C (v := 3) dL_law_583 (by decide) ?_
                                refine g_ishr C dL_law_584 ?_
                                refine g_iload C (i := 7) dL_law_585 3 rfl ?_
                                refine g_callS C (st := []) (c_L_bars l D ad dA z0 tt (s1.2.1) (s1.2.2) (f_L_low v4 8) (v4 >>> ((3 : Int32) &&& 31)) v3 (MInv_tb hI1)) rfl ml_L_107 sm_L_bars in_L co_L_bars dyS_L_bars rfl rfl ⟨(Nat.le_of_ble_eq_true rfl), (Nat.le_of_ble_eq_true rfl)⟩ dL_law_587 rfl (Nat.le_of_ble_eq_true rfl) (g_fni ?_)
                                refine g_nmi C (fun v12 ev12 => ?_)
                                refine g_nms C (fun σ13 eσ13 => ?_)
                                refine g_if_ne C (tgt := 659) dL_law_590 (by decide) (fun h20 => ?_) (fun h20 => ?_)
                                · refine g_iinc C (i := 5) (v := nI (j1 + 1)) (lv' := [(5, .int (nI (j1 + 1))), (9, .int (f_L_low v4 8)), (6, .int v4), (8, .int (f_L_low v2 12)), (7, .int v3), (0, .ref (tt 8)), (1, .ref (ad 0)), (2, .ref (ad 53)), (3, .ref (ad 54)), (4, .int (s1.1))]) dL_law_659 9 rfl (nI_1 _) (by decide) rfl ?_
                                  refine g_goto C (tgt := 99) dL_law_662 (by decide) ?_
                                  refine g_loc C [5, 6, 7, 8, 9, 0] rfl ?_
                                  rw [hK]
                                  refine CMh.low ?_
                                  refine kk (s1.1, σ13, s1.2.2) ?_
                                  subst eσ13
                                  subst ev12
                                  subst ev4
                                  subst ev3
                                  subst ev2
                                  exact ((b_L_law_99_eq _ _ _).trans ((if_pos h9).trans ((if_pos h10).trans ((if_pos h11).trans ((if_neg h12).trans ((if_neg h13).trans ((if_pos h14).trans (if_neg h20))))))))
                                · refine g_iconst C (v := 0) dL_law_593 (by decide) ?_
                                  have e0 : f_L_law tt σ φ = 0 := by
                                    subst eσ13
                                    subst ev12
                                    subst ev4
                                    subst ev3
                                    subst ev2
                                    have eF := hF1.trans (loopE_inl n1 ((b_L_law_99_eq _ _ _).trans ((if_pos h9).trans ((if_pos h10).trans ((if_pos h11).trans ((if_neg h12).trans ((if_neg h13).trans ((if_pos h14).trans (if_pos h20)))))))))
                                    exact ((f_L_law_eq _ _ _).trans ((if_pos h1).trans ((if_pos h2).trans ((if_pos h3).trans ((if_pos h4).trans ((if_pos h5).trans ((if_pos h6).trans ((if_pos h7).trans (sumE_inl eF)))))))))
                                  exact hi _ _ _ _ _ dL_law_594 (lv_narrowZ (Or.inl rfl)).1 e0.symm
                            · refine g_iload C (i := 6) dL_law_464 1 rfl ?_
                              refine g_iconst C (v := 4) dL_law_466 (by decide) ?_
                              refine g_callS C (st := []) (c_L_low l D ad dA z0 tt (s1.2.1) (s1.2.2) v4 4 (by decide)) rfl ml_L_74 sm_L_low in_L co_L_low dyS_L_low rfl rfl ⟨(Nat.le_of_ble_eq_true rfl), (Nat.le_of_ble_eq_true rfl)⟩ dL_law_467 rfl (Nat.le_of_ble_eq_true rfl) (g_fni ?_)
                              refine g_istore C (i := 10) (lv' := [(10, .int (f_L_low v4 4)), (9, .int (f_L_low v4 8)), (6, .int v4), (8, .int (f_L_low v2 12)), (7, .int v3), (0, .ref (tt 8)), (1, .ref (ad 0)), (2, .ref (ad 53)), (3, .ref (ad 54)), (4, .int (s1.1)), (5, .int (nI j1))]) dL_law_470 (by decide) rfl ?_
                              refine g_aload_n C (i := 1) dL_law_472 rfl 6 rfl ?_
                              refine g_bipush C (v := 15) dL_law_473 (by decide) ?_
                              refine g_iload C (i := 10) dL_law_475 0 rfl ?_
                              refine g_iadd C dL_law_477 ?_
                              refine g_callV C (st := []) (c_X10_count l D ad dA z0 tt (s1.2.1) (s1.2.2) (15 + (f_L_low v4 4))) rfl ml_L_35 im_X10_count se_X10_count in_X10 co_X10_count dyV_X10_count rfl rfl ⟨(Nat.le_of_ble_eq_true rfl), (Nat.le_of_ble_eq_true rfl)⟩ 0 10 (fun f => at_0 ad dA (s1.2.1) f) rfl dL_law_478 rfl (Nat.le_of_ble_eq_true rfl) (g_fni ?_)
                              refine g_nmi C (fun v14 ev14 => ?_)
                              refine g_istore C (i := 11) (lv' := [(11, .int v14), (10, .int (f_L_low v4 4)), (9, .int (f_L_low v4 8)), (6, .int v4), (8, .int (f_L_low v2 12)), (7, .int v3), (0, .ref (tt 8)), (1, .ref (ad 0)), (2, .ref (ad 53)), (3, .ref (ad 54)), (4, .int (s1.1)), (5, .int (nI j1))]) dL_law_481 (by decide) rfl ?_
                              refine g_iload C (i := 10) dL_law_483 1 rfl ?_
                              have J16 : ∀ (v15 : Int32), (if (f_L_low v4 4) = 0 then (1 + (f_L_low v3 40)) else (if (f_L_low v4 4) = 1 then (f_L_low v3 101) else (if (f_L_low v4 4) = 2 then (f_L_low v3 4) else (f_L_low v3 3)))) = v15 → K (s1.2.1) (s1.2.2) 537 [(0, .ref (tt 8)), (1, .ref (ad 0)), (2, .ref (ad 53)), (3, .ref (ad 54)), (4, .int (s1.1)), (5, .int (nI j1)), (10, .int (f_L_low v4 4)), (11, .int v14)] [.int v15] := by
                                intro v15 ev15
                                refine g_istore C (i := 12) (lv' := [(12, .int v15), (0, .ref (tt 8)), (1, .ref (ad 0)), (2, .ref (ad 53)), (3, .ref (ad 54)), (4, .int (s1.1)), (5, .int (nI j1)), (10, .int (f_L_low v4 4)), (11, .int v14)]) dL_law_537 (by decide) rfl ?_
                                refine g_aload_n C (i := 1) dL_law_539 rfl 2 rfl ?_
                                refine g_iload C (i := 10) dL_law_540 7 rfl ?_
                                refine g_iload C (i := 12) dL_law_542 0 rfl ?_
                                refine g_callV C (st := []) (c_X10_set l D ad dA z0 tt (s1.2.1) (s1.2.2) (f_L_low v4 4) v15) rfl ml_L_99 im_X10_set se_X10_set in_X10 co_X10_set dyV_X10_set rfl rfl ⟨(Nat.le_of_ble_eq_true rfl), (Nat.le_of_ble_eq_true rfl)⟩ 0 10 (fun f => at_0 ad dA (s1.2.1) f) rfl dL_law_544 rfl (Nat.le_of_ble_eq_true rfl) (g_fni ?_)
                                refine g_nmi C (fun v17 ev17 => ?_)
                                refine g_nms C (fun σ18 eσ18 => ?_)
                                refine g_iload C (i := 11) dL_law_547 8 rfl ?_
                                refine g_icmp_ne C (tgt := 566) dL_law_549 (by decide) (fun h24 => ?_) (fun h24 => ?_)
                                · refine g_iconst C (v := 0) dL_law_566 (by decide) ?_
                                  have e0 : f_L_law tt σ φ = 0 := by
                                    subst eσ18
                                    subst ev17
                                    subst ev15
                                    subst ev14
                                    subst ev4
                                    subst ev3
                                    subst ev2
                                    have eF := hF1.trans (loopE_inl n1 ((b_L_law_99_eq _ _ _).trans ((if_pos h9).trans ((if_pos h10).trans ((if_pos h11).trans ((if_neg h12).trans ((if_pos h13).trans (if_neg h24))))))))
                                    exact ((f_L_law_eq _ _ _).trans ((if_pos h1).trans ((if_pos h2).trans ((if_pos h3).trans ((if_pos h4).trans ((if_pos h5).trans ((if_pos h6).trans ((if_pos h7).trans (sumE_inl eF)))))))))
                                  exact hi _ _ _ _ _ dL_law_567 (lv_narrowZ (Or.inl rfl)).1 e0.symm
                                · refine g_aload_n C (i := 1) dL_law_552 rfl 2 rfl ?_
                                  refine g_bipush C (v := 15) dL_law_553 (by decide) ?_
                                  refine g_iload C (i := 10) dL_law_555 7 rfl ?_
                                  refine g_iadd C dL_law_557 ?_
                                  refine g_callV C (st := []) (c_X10_count l D ad dA z0 tt σ18 (s1.2.2) (15 + (f_L_low v4 4))) rfl ml_L_35 im_X10_count se_X10_count in_X10 co_X10_count dyV_X10_count rfl rfl ⟨(Nat.le_of_ble_eq_true rfl), (Nat.le_of_ble_eq_true rfl)⟩ 0 10 (fun f => at_0 ad dA σ18 f) rfl dL_law_558 rfl (Nat.le_of_ble_eq_true rfl) (g_fni ?_)
                                  refine g_iload C (i := 12) dL_law_561 0 rfl ?_
                                  refine g_icmp_eq C (tgt := 568) dL_law_563 (by decide) (fun h25 => ?_) (fun h25 => ?_)
                                  · refine g_goto C (tgt := 659) dL_law_568 (by decide) ?_
                                    refine g_iinc C (i := 5) (v := nI (j1 + 1)) (lv' := [(5, .int (nI (j1 + 1))), (12, .int v15), (0, .ref (tt 8)), (1, .ref (ad 0)), (2, .ref (ad 53)), (3, .ref (ad 54)), (4, .int (s1.1)), (10, .int (f_L_low v4 4)), (11, .int v14)]) dL_law_659 6 rfl (nI_1 _) (by decide) rfl ?_
                                    refine g_goto C (tgt := 99) dL_law_662 (by decide) ?_
                                    refine g_loc C [2, 3, 4, 5, 6, 0] rfl ?_
                                    rw [hK]
                                    refine CMh.low ?_
                                    refine kk (s1.1, σ18, s1.2.2) ?_
                                    subst eσ18
                                    subst ev17
                                    subst ev15
                                    subst ev14
                                    subst ev4
                                    subst ev3
                                    subst ev2
                                    exact ((b_L_law_99_eq _ _ _).trans ((if_pos h9).trans ((if_pos h10).trans ((if_pos h11).trans ((if_neg h12).trans ((if_pos h13).trans ((if_pos h24).trans (if_pos h25))))))))
                                  · refine g_iconst C (v := 0) dL_law_566 (by decide) ?_
                                    have e0 : f_L_law tt σ φ = 0 := by
                                      subst eσ18
                                      subst ev17
                                      subst ev15
                                      subst ev14
                                      subst ev4
                                      subst ev3
                                      subst ev2
                                      have eF := hF1.trans (loopE_inl n1 ((b_L_law_99_eq _ _ _).trans ((if_pos h9).trans ((if_pos h10).trans ((if_pos h11).trans ((if_neg h12).trans ((if_pos h13).trans ((if_pos h24).trans (if_neg h25)))))))))
                                      exact ((f_L_law_eq _ _ _).trans ((if_pos h1).trans ((if_pos h2).trans ((if_pos h3).trans ((if_pos h4).trans ((if_pos h5).trans ((if_pos h6).trans ((if_pos h7).trans (sumE_inl eF)))))))))
                                    exact hi _ _ _ _ _ dL_law_567 (lv_narrowZ (Or.inl rfl)).1 e0.symm
                              refine g_if_ne C (tgt := 500) dL_law_485 (by decide) (fun h21 => ?_) (fun h21 => ?_)
                              · refine g_iload C (i := 10) dL_law_500 1 rfl ?_
                                refine g_iconst C (v := 1) dL_law_502 (by decide) ?_
                                refine g_icmp_ne C (tgt := 516) dL_law_503 (by decide) (fun h22 => ?_) (fun h22 => ?_)
                                · refine g_iload C (i := 10) dL_law_516 1 rfl ?_
                                  refine g_iconst C (v := 2) dL_law_518 (by decide) ?_
                                  refine g_icmp_ne C (tgt := 531) dL_law_519 (by decide) (fun h23 => ?_) (fun h23 => ?_)
                                  · refine g_iload C (i := 7) dL_law_531 5 rfl ?_
                                    refine g_iconst C (v := 3) dL_law_533 (by decide) ?_
                                    refine g_callS C (st := []) (c_L_low l D ad dA z0 tt (s1.2.1) (s1.2.2) v3 3 (by decide)) rfl ml_L_74 sm_L_low in_L co_L_low dyS_L_low rfl rfl ⟨(Nat.le_of_ble_eq_true rfl), (Nat.le_of_ble_eq_true rfl)⟩ dL_law_534 rfl (Nat.le_of_ble_eq_true rfl) (g_fni ?_)
                                    refine g_loc C [6, 7, 8, 9, 10, 11, 1, 0] rfl ?_
                                    exact J16 _ (((if_neg h21).trans ((if_neg h22).trans (if_neg h23))))
                                  · refine g_iload C (i := 7) dL_law_522 5 rfl ?_
                                    refine g_iconst C (v := 4) dL_law_524 (by decide) ?_
                                    refine g_callS C (st := []) (c_L_low l D ad dA z0 tt (s1.2.1) (s1.2.2) v3 4 (by decide)) rfl ml_L_74 sm_L_low in_L co_L_low dyS_L_low rfl rfl ⟨(Nat.le_of_ble_eq_true rfl), (Nat.le_of_ble_eq_true rfl)⟩ dL_law_525 rfl (Nat.le_of_ble_eq_true rfl) (g_fni ?_)
                                    refine g_goto C (tgt := 537) dL_law_528 (by decide) ?_
                                    refine g_loc C [6, 7, 8, 9, 10, 11, 1, 0] rfl ?_
                                    exact J16 _ (((if_neg h21).trans ((if_neg h22).trans (if_pos h23))))
                                · refine g_iload C (i := 7) dL_law_506 5 rfl ?_
                                  refine g_bipush C (v := 101) dL_law_508 (by decide) ?_
                                  refine g_callS C (st := []) (c_L_low l D ad dA z0 tt (s1.2.1) (s1.2.2) v3 101 (by decide)) rfl ml_L_74 sm_L_low in_L co_L_low dyS_L_low rfl rfl ⟨(Nat.le_of_ble_eq_true rfl), (Nat.le_of_ble_eq_true rfl)⟩ dL_law_510 rfl (Nat.le_of_ble_eq_true rfl) (g_fni ?_)
                                  refine g_goto C (tgt := 537) dL_law_513 (by decide) ?_
                                  refine g_loc C [6, 7, 8, 9, 10, 11, 1, 0] rfl ?_
                                  exact J16 _ (((if_neg h21).trans (if_pos h22)))
                              · refine g_iconst C (v := 1) dL_law_488 (by decide) ?_
                                refine g_iload C (i := 7) dL_law_489 5 rfl ?_
                                refine g_bipush C (v := 40) dL_law_491 (by decide) ?_
                                refine g_callS C (st := [.int 1]) (c_L_low l D ad dA z0 tt (s1.2.1) (s1.2.2) v3 40 (by decide)) rfl ml_L_74 sm_L_low in_L co_L_low dyS_L_low rfl rfl ⟨(Nat.le_of_ble_eq_true rfl), (Nat.le_of_ble_eq_true rfl)⟩ dL_law_493 rfl (Nat.le_of_ble_eq_true rfl) (g_fni ?_)
                                refine g_iadd C dL_law_496 ?_
                                refine g_goto C (tgt := 537) dL_law_497 (by decide) ?_
                                refine g_loc C [6, 7, 8, 9, 10, 11, 1, 0] rfl ?_
                                exact J16 _ ((if_pos h21))
                          · refine g_aload_n C (i := 1) dL_law_418 rfl 5 rfl ?_
                            refine g_bipush C (v := 13) dL_law_419 (by decide) ?_
                            refine g_callV C (st := []) (c_X10_count l D ad dA z0 tt (s1.2.1) (s1.2.2) 13) rfl ml_L_35 im_X10_count se_X10_count in_X10 co_X10_count dyV_X10_count rfl rfl ⟨(Nat.le_of_ble_eq_true rfl), (Nat.le_of_ble_eq_true rfl)⟩ 0 10 (fun f => at_0 ad dA (s1.2.1) f) rfl dL_law_421 rfl (Nat.le_of_ble_eq_true rfl) (g_fni ?_)
                            refine g_istore C (i := 10) (lv' := [(10, .int (f_X10_count (s1.2.1) 13)), (9, .int (f_L_low v4 8)), (6, .int v4), (8, .int (f_L_low v2 12)), (7, .int v3), (0, .ref (tt 8)), (1, .ref (ad 0)), (2, .ref (ad 53)), (3, .ref (ad 54)), (4, .int (s1.1)), (5, .int (nI j1))]) dL_law_424 (by decide) rfl ?_
                            refine g_aload_n C (i := 1) dL_law_426 rfl 6 rfl ?_
                            refine g_iload C (i := 7) dL_law_427 4 rfl ?_
                            refine g_iconst C (v := 1) dL_law_429 (by decide) ?_
                            refine g_iand C dL_law_430 ?_
                            refine g_callV C (st := []) (c_X10_setStandard l D ad dA z0 tt (s1.2.1) (s1.2.2) (v3 &&& 1)) rfl ml_L_96 im_X10_setStandard se_X10_setStandard in_X10 co_X10_setStandard dyV_X10_setStandard rfl rfl ⟨(Nat.le_of_ble_eq_true rfl), (Nat.le_of_ble_eq_true rfl)⟩ 0 10 (fun f => at_0 ad dA (s1.2.1) f) rfl dL_law_431 rfl (Nat.le_of_ble_eq_true rfl) (g_fni ?_)
                            refine g_nmi C (fun v19 ev19 => ?_)
                            refine g_nms C (fun σ20 eσ20 => ?_)
                            refine g_iload C (i := 10) dL_law_434 0 rfl ?_
                            refine g_icmp_ne C (tgt := 452) dL_law_436 (by decide) (fun h26 => ?_) (fun h26 => ?_)
                            · refine g_iconst C (v := 0) dL_law_452 (by decide) ?_
                              have e0 : f_L_law tt σ φ = 0 := by
                                subst eσ20
                                subst ev19
                                subst ev4
                                subst ev3
                                subst ev2
                                have eF := hF1.trans (loopE_inl n1 ((b_L_law_99_eq _ _ _).trans ((if_pos h9).trans ((if_pos h10).trans ((if_pos h11).trans ((if_pos h12).trans (if_neg h26)))))))
                                exact ((f_L_law_eq _ _ _).trans ((if_pos h1).trans ((if_pos h2).trans ((if_pos h3).trans ((if_pos h4).trans ((if_pos h5).trans ((if_pos h6).trans ((if_pos h7).trans (sumE_inl eF)))))))))
                              exact hi _ _ _ _ _ dL_law_453 (lv_narrowZ (Or.inl rfl)).1 e0.symm
                            · refine g_aload_n C (i := 1) dL_law_439 rfl 6 rfl ?_
                              refine g_bipush C (v := 13) dL_law_440 (by decide) ?_
                              refine g_callV C (st := []) (c_X10_count l D ad dA z0 tt σ20 (s1.2.2) 13) rfl ml_L_35 im_X10_count se_X10_count in_X10 co_X10_count dyV_X10_count rfl rfl ⟨(Nat.le_of_ble_eq_true rfl), (Nat.le_of_ble_eq_true rfl)⟩ 0 10 (fun f => at_0 ad dA σ20 f) rfl dL_law_442 rfl (Nat.le_of_ble_eq_true rfl) (g_fni ?_)
                              refine g_iload C (i := 7) dL_law_445 4 rfl ?_
                              refine g_iconst C (v := 1) dL_law_447 (by decide) ?_
                              refine g_iand C dL_law_448 ?_
                              refine g_icmp_eq C (tgt := 454) dL_law_449 (by decide) (fun h27 => ?_) (fun h27 => ?_)
                              · refine g_goto C (tgt := 659) dL_law_454 (by decide) ?_
                                refine g_iinc C (i := 5) (v := nI (j1 + 1)) (lv' := [(5, .int (nI (j1 + 1))), (10, .int (f_X10_count (s1.2.1) 13)), (9, .int (f_L_low v4 8)), (6, .int v4), (8, .int (f_L_low v2 12)), (7, .int v3), (0, .ref (tt 8)), (1, .ref (ad 0)), (2, .ref (ad 53)), (3, .ref (ad 54)), (4, .int (s1.1))]) dL_law_659 10 rfl (nI_1 _) (by decide) rfl ?_
                                refine g_goto C (tgt := 99) dL_law_662 (by decide) ?_
                                refine g_loc C [6, 7, 8, 9, 10, 0] rfl ?_
                                rw [hK]
                                refine CMh.low ?_
                                refine kk (s1.1, σ20, s1.2.2) ?_
                                subst eσ20
                                subst ev19
                                subst ev4
                                subst ev3
                                subst ev2
                                exact ((b_L_law_99_eq _ _ _).trans ((if_pos h9).trans ((if_pos h10).trans ((if_pos h11).trans ((if_pos h12).trans ((if_pos h26).trans (if_pos h27)))))))
                              · refine g_iconst C (v := 0) dL_law_452 (by decide) ?_
                                have e0 : f_L_law tt σ φ = 0 := by
                                  subst eσ20
                                  subst ev19
                                  subst ev4
                                  subst ev3
                                  subst ev2
                                  have eF := hF1.trans (loopE_inl n1 ((b_L_law_99_eq _ _ _).trans ((if_pos h9).trans ((if_pos h10).trans ((if_pos h11).trans ((if_pos h12).trans ((if_pos h26).trans (if_neg h27))))))))
                                  exact ((f_L_law_eq _ _ _).trans ((if_pos h1).trans ((if_pos h2).trans ((if_pos h3).trans ((if_pos h4).trans ((if_pos h5).trans ((if_pos h6).trans ((if_pos h7).trans (sumE_inl eF)))))))))
                                exact hi _ _ _ _ _ dL_law_453 (lv_narrowZ (Or.inl rfl)).1 e0.symm
                        · refine g_aload_n C (i := 1) dL_law_294 rfl 5 rfl ?_
                          refine g_iload C (i := 9) dL_law_295 0 rfl ?_
                          refine g_iconst C (v := 0) dL_law_297 (by decide) ?_
                          refine g_callV C (st := []) (c_X10_miss l D ad dA z0 tt (s1.2.1) (s1.2.2) (f_L_low v4 8) 0) rfl ml_L_92 im_X10_miss se_X10_miss in_X10 co_X10_miss dyV_X10_miss rfl rfl ⟨(Nat.le_of_ble_eq_true rfl), (Nat.le_of_ble_eq_true rfl)⟩ 0 10 (fun f => at_0 ad dA (s1.2.1) f) rfl dL_law_298 rfl (Nat.le_of_ble_eq_true rfl) (g_fni ?_)
                          refine g_nmi C (fun v21 ev21 => ?_)
                          refine g_nms C (fun σ22 eσ22 => ?_)
                          refine g_iconst C (v := 1) dL_law_301 (by decide) ?_
                          have J24 : ∀ (v23 : Int32), (if v21 = 1 then 1 else 0) = v23 → K σ22 (s1.2.2) 310 [(0, .ref (tt 8)), (1, .ref (ad 0)), (2, .ref (ad 53)), (3, .ref (ad 54)), (4, .int (s1.1)), (5, .int (nI j1)), (6, .int v4), (7, .int v3), (9, .int (f_L_low v4 8))] [.int v23] := by
                            intro v23 ev23
                            refine g_istore C (i := 10) (lv' := [(10, .int v23), (0, .ref (tt 8)), (1, .ref (ad 0)), (2, .ref (ad 53)), (3, .ref (ad 54)), (4, .int (s1.1)), (5, .int (nI j1)), (6, .int v4), (7, .int v3), (9, .int (f_L_low v4 8))]) dL_law_310 (by decide) rfl ?_
                            refine g_aload_n C (i := 1) dL_law_312 rfl 2 rfl ?_
                            refine g_iload C (i := 9) dL_law_313 9 rfl ?_
                            refine g_iload C (i := 10) dL_law_315 0 rfl ?_
                            refine g_callV C (st := []) (c_X10_miss l D ad dA z0 tt σ22 (s1.2.2) (f_L_low v4 8) v23) rfl ml_L_92 im_X10_miss se_X10_miss in_X10 co_X10_miss dyV_X10_miss rfl rfl ⟨(Nat.le_of_ble_eq_true rfl), (Nat.le_of_ble_eq_true rfl)⟩ 0 10 (fun f => at_0 ad dA σ22 f) rfl dL_law_317 rfl (Nat.le_of_ble_eq_true rfl) (g_fni ?_)
                            refine g_nmi C (fun v25 ev25 => ?_)
                            refine g_nms C (fun σ26 eσ26 => ?_)
                            refine g_if_ne C (tgt := 406) dL_law_320 (by decide) (fun h29 => ?_) (fun h29 => ?_)
                            · refine g_iconst C (v := 0) dL_law_406 (by decide) ?_
                              have e0 : f_L_law tt σ φ = 0 := by
                                subst eσ26
                                subst ev25
                                subst ev23
                                subst eσ22
                                subst ev21
                                subst ev4
                                subst ev3
                                subst ev2
                                have eF := hF1.trans (loopE_inl n1 ((b_L_law_99_eq _ _ _).trans ((if_pos h9).trans ((if_pos h10).trans ((if_neg h11).trans (if_neg h29))))))
                                exact ((f_L_law_eq _ _ _).trans ((if_pos h1).trans ((if_pos h2).trans ((if_pos h3).trans ((if_pos h4).trans ((if_pos h5).trans ((if_pos h6).trans ((if_pos h7).trans (sumE_inl eF)))))))))
                              exact hi _ _ _ _ _ dL_law_407 (lv_narrowZ (Or.inl rfl)).1 e0.symm
                            · refine g_aload_n C (i := 1) dL_law_323 rfl 2 rfl ?_
                              refine g_iload C (i := 9) dL_law_324 9 rfl ?_
                              refine g_iload C (i := 7) dL_law_326 8 rfl ?_
                              refine g_bipush C (v := 9) dL_law_328 (by decide) ?_
                              refine g_callS C (st := [.int (f_L_low v4 8), .ref (ad 0)]) (c_L_low l D ad dA z0 tt σ26 (s1.2.2) v3 9 (by decide)) rfl ml_L_74 sm_L_low in_L co_L_low dyS_L_low rfl rfl ⟨(Nat.le_of_ble_eq_true rfl), (Nat.le_of_ble_eq_true rfl)⟩ dL_law_330 rfl (Nat.le_of_ble_eq_true rfl) (g_fni ?_)
                              refine g_iconst C (v := 4) dL_law_333 (by decide) ?_
                              refine g_isub C dL_law_334 ?_
                              refine g_iload C (i := 7) dL_law_335 8 rfl ?_
                              refine g_iconst C (v := 4) dL_law_337 (by decide) ?_
                              refine g_ishr C dL_law_338 ?_
                              refine g_bipush C (v := 41) dL_law_339 (by decide) ?_
                              refine g_callS C (st := [.int ((f_L_low v3 9) - 4), .int (f_L_low v4 8), .ref (ad 0)]) (c_L_low l D ad dA z0 tt σ26 (s1.2.2) (v3 >>> ((4 : Int32) &&& 31)) 41 (by decide)) rfl ml_L_74 sm_L_low in_L co_L_low dyS_L_low rfl rfl ⟨(Nat.le_of_ble_eq_true rfl), (Nat.le_of_ble_eq_true rfl)⟩ dL_law_341 rfl (Nat.le_of_ble_eq_true rfl) (g_fni ?_)
                              refine g_iload C (i := 7) dL_law_344 8 rfl ?_
                              refine g_bipush C (v := 10) dL_law_346 (by decide) ?_
                              refine g_ishr C dL_law_348 ?_
                              refine g_iconst C (v := 4) dL_law_349 (by decide) ?_
                              refine g_callS C (st := [.int (f_L_low (v3 >>> ((4 : Int32) &&& 31)) 41), .int ((f_L_low v3 9) - 4), .int (f_L_low v4 8), .ref (ad 0)]) (c_L_low l D ad dA z0 tt σ26 (s1.2.2) (v3 >>> ((10 : Int32) &&& 31)) 4 (by decide)) rfl ml_L_74 sm_L_low in_L co_L_low dyS_L_low rfl rfl ⟨(Nat.le_of_ble_eq_true rfl), (Nat.le_of_ble_eq_true rfl)⟩ dL_law_350 rfl (Nat.le_of_ble_eq_true rfl) (g_fni ?_)
                              refine g_iload C (i := 6) dL_law_353 7 rfl ?_
                              refine g_bipush C (v := 64) dL_law_355 (by decide) ?_
                              refine g_iand C dL_law_357 ?_
                              have J28 : ∀ (v27 : Int32), (if (v4 &&& 64) = 0 then 0 else (f_L_low (v3 >>> ((12 : Int32) &&& 31)) 10)) = v27 → K σ26 (s1.2.2) 375 [(0, .ref (tt 8)), (1, .ref (ad 0)), (2, .ref (ad 53)), (3, .ref (ad 54)), (4, .int (s1.1)), (5, .int (nI j1)), (6, .int v4), (9, .int (f_L_low v4 8))] [.int v27, .int (f_L_low (v3 >>> ((10 : Int32) &&& 31)) 4), .int (f_L_low (v3 >>> ((4 : Int32) &&& 31)) 41), .int ((f_L_low v3 9) - 4), .int (f_L_low v4 8), .ref (ad 0)] := by
                                intro v27 ev27
                                refine g_callV C (st := []) (c_X10_setLine l D ad dA z0 tt σ26 (s1.2.2) (f_L_low v4 8) ((f_L_low v3 9) - 4) (f_L_low (v3 >>> ((4 : Int32) &&& 31)) 41) (f_L_low (v3 >>> ((10 : Int32) &&& 31)) 4) v27) rfl ml_L_89 im_X10_setLine se_X10_setLine in_X10 co_X10_setLine dyV_X10_setLine rfl rfl ⟨(Nat.le_of_ble_eq_true rfl), (Nat.le_of_ble_eq_true rfl)⟩ 0 10 (fun f => at_0 ad dA σ26 f) rfl dL_law_375 rfl (Nat.le_of_ble_eq_true rfl) (g_fni ?_)
                                refine g_nmi C (fun v29 ev29 => ?_)
                                refine g_nms C (fun σ30 eσ30 => ?_)
                                refine g_bipush C (v := (-4)) dL_law_378 (by decide) ?_
                                refine g_icmp_lt C (tgt := 406) dL_law_380 (by decide) (fun h31 => ?_) (fun h31 => ?_)
                                · refine g_iconst C (v := 0) dL_law_406 (by decide) ?_
                                  have e0 : f_L_law tt σ φ = 0 := by
                                    subst eσ30
                                    subst ev29
                                    subst ev27
                                    subst eσ26
                                    subst ev25
                                    subst ev23
                                    subst eσ22
                                    subst ev21
                                    subst ev4
                                    subst ev3
                                    subst ev2
                                    have eF := hF1.trans (loopE_inl n1 ((b_L_law_99_eq _ _ _).trans ((if_pos h9).trans ((if_pos h10).trans ((if_neg h11).trans ((if_pos h29).trans (if_pos h31)))))))
                                    exact ((f_L_law_eq _ _ _).trans ((if_pos h1).trans ((if_pos h2).trans ((if_pos h3).trans ((if_pos h4).trans ((if_pos h5).trans ((if_pos h6).trans ((if_pos h7).trans (sumE_inl eF)))))))))
                                  exact hi _ _ _ _ _ dL_law_407 (lv_narrowZ (Or.inl rfl)).1 e0.symm
                                · refine g_aload_n C (i := 1) dL_law_383 rfl 1 rfl ?_
                                  refine g_iload C (i := 9) dL_law_384 7 rfl ?_
                                  refine g_iload C (i := 6) dL_law_386 6 rfl ?_
                                  refine g_sipush C (v := 896) dL_law_388 (by decide) ?_
                                  refine g_iand C dL_law_391 ?_
                                  have J32 : ∀ (v31 : Int32), (if (v4 &&& 896) = 0 then 1 else 0) = v31 → K σ30 (s1.2.2) 400 [(0, .ref (tt 8)), (1, .ref (ad 0)), (2, .ref (ad 53)), (3, .ref (ad 54)), (4, .int (s1.1)), (5, .int (nI j1))] [.int v31, .int (f_L_low v4 8), .ref (ad 0)] := by
                                    intro v31 ev31
                                    refine g_callV C (st := []) (c_X10_miss l D ad dA z0 tt σ30 (s1.2.2) (f_L_low v4 8) v31) rfl ml_L_92 im_X10_miss se_X10_miss in_X10 co_X10_miss dyV_X10_miss rfl rfl ⟨(Nat.le_of_ble_eq_true rfl), (Nat.le_of_ble_eq_true rfl)⟩ 0 10 (fun f => at_0 ad dA σ30 f) rfl dL_law_400 rfl (Nat.le_of_ble_eq_true rfl) (g_fni ?_)
                                    refine g_nmi C (fun v33 ev33 => ?_)
                                    refine g_nms C (fun σ34 eσ34 => ?_)
                                    refine g_if_eq C (tgt := 408) dL_law_403 (by decide) (fun h33 => ?_) (fun h33 => ?_)
                                    · refine g_goto C (tgt := 659) dL_law_408 (by decide) ?_
                                      refine g_iinc C (i := 5) (v := nI (j1 + 1)) (lv' := [(5, .int (nI (j1 + 1))), (0, .ref (tt 8)), (1, .ref (ad 0)), (2, .ref (ad 53)), (3, .ref (ad 54)), (4, .int (s1.1))]) dL_law_659 5 rfl (nI_1 _) (by decide) rfl ?_
                                      refine g_goto C (tgt := 99) dL_law_662 (by decide) ?_
                                      refine g_loc C [1, 2, 3, 4, 5, 0] rfl ?_
                                      rw [hK]
                                      refine CMh.low ?_
                                      refine kk (s1.1, σ34, s1.2.2) ?_
                                      subst eσ34
                                      subst ev33
                                      subst ev31
                                      subst eσ30
                                      subst ev29
                                      subst ev27
                                      subst eσ26
                                      subst ev25
                                      subst ev23
                                      subst eσ22
                                      subst ev21
                                      subst ev4
                                      subst ev3
                                      subst ev2
                                      exact ((b_L_law_99_eq _ _ _).trans ((if_pos h9).trans ((if_pos h10).trans ((if_neg h11).trans ((if_pos h29).trans ((if_neg h31).trans (if_pos h33)))))))
                                    · refine g_iconst C (v := 0) dL_law_406 (by decide) ?_
                                      have e0 : f_L_law tt σ φ = 0 := by
                                        subst eσ34
                                        subst ev33
                                        subst ev31
                                        subst eσ30
                                        subst ev29
                                        subst ev27
                                        subst eσ26
                                        subst ev25
                                        subst ev23
                                        subst eσ22
                                        subst ev21
                                        subst ev4
                                        subst ev3
                                        subst ev2
                                        have eF := hF1.trans (loopE_inl n1 ((b_L_law_99_eq _ _ _).trans ((if_pos h9).trans ((if_pos h10).trans ((if_neg h11).trans ((if_pos h29).trans ((if_neg h31).trans (if_neg h33))))))))
                                        exact ((f_L_law_eq _ _ _).trans ((if_pos h1).trans ((if_pos h2).trans ((if_pos h3).trans ((if_pos h4).trans ((if_pos h5).trans ((if_pos h6).trans ((if_pos h7).trans (sumE_inl eF)))))))))
                                      exact hi _ _ _ _ _ dL_law_407 (lv_narrowZ (Or.inl rfl)).1 e0.symm
                                  refine g_if_ne C (tgt := 399) dL_law_392 (by decide) (fun h32 => ?_) (fun h32 => ?_)
                                  · refine g_iconst C (v := 0) dL_law_399 (by decide) ?_
                                    refine g_loc C [0, 1, 2, 3, 4, 5] rfl ?_
                                    exact J32 _ ((if_neg h32))
                                  · refine g_iconst C (v := 1) dL_law_395 (by decide) ?_
                                    refine g_goto C (tgt := 400) dL_law_396 (by decide) ?_
                                    refine g_loc C [0, 1, 2, 3, 4, 5] rfl ?_
                                    exact J32 _ ((if_pos h32))
                              refine g_if_ne C (tgt := 365) dL_law_358 (by decide) (fun h30 => ?_) (fun h30 => ?_)
                              · refine g_iload C (i := 7) dL_law_365 8 rfl ?_
                                refine g_bipush C (v := 12) dL_law_367 (by decide) ?_
                                refine g_ishr C dL_law_369 ?_
                                refine g_bipush C (v := 10) dL_law_370 (by decide) ?_
                                refine g_callS C (st := [.int (f_L_low (v3 >>> ((10 : Int32) &&& 31)) 4), .int (f_L_low (v3 >>> ((4 : Int32) &&& 31)) 41), .int ((f_L_low v3 9) - 4), .int (f_L_low v4 8), .ref (ad 0)]) (c_L_low l D ad dA z0 tt σ26 (s1.2.2) (v3 >>> ((12 : Int32) &&& 31)) 10 (by decide)) rfl ml_L_74 sm_L_low in_L co_L_low dyS_L_low rfl rfl ⟨(Nat.le_of_ble_eq_true rfl), (Nat.le_of_ble_eq_true rfl)⟩ dL_law_372 rfl (Nat.le_of_ble_eq_true rfl) (g_fni ?_)
                                refine g_loc C [1, 2, 3, 4, 5, 6, 7, 9] rfl ?_
                                exact J28 _ ((if_neg h30))
                              · refine g_iconst C (v := 0) dL_law_361 (by decide) ?_
                                refine g_goto C (tgt := 375) dL_law_362 (by decide) ?_
                                refine g_loc C [1, 2, 3, 4, 5, 6, 7, 9] rfl ?_
                                exact J28 _ ((if_pos h30))
                          refine g_icmp_ne C (tgt := 309) dL_law_302 (by decide) (fun h28 => ?_) (fun h28 => ?_)
                          · refine g_iconst C (v := 0) dL_law_309 (by decide) ?_
                            refine g_loc C [4, 5, 6, 7, 8, 9, 1, 3, 0] rfl ?_
                            exact J24 _ ((if_neg h28))
                          · refine g_iconst C (v := 1) dL_law_305 (by decide) ?_
                            refine g_goto C (tgt := 310) dL_law_306 (by decide) ?_
                            refine g_loc C [4, 5, 6, 7, 8, 9, 1, 3, 0] rfl ?_
                            exact J24 _ ((if_pos h28))
                      · refine g_iload C (i := 7) dL_law_218 3 rfl ?_
                        refine g_sipush C (v := 201) dL_law_220 (by decide) ?_
                        refine g_callS C (st := []) (c_L_low l D ad dA z0 tt (s1.2.1) (s1.2.2) v3 201 (by decide)) rfl ml_L_74 sm_L_low in_L co_L_low dyS_L_low rfl rfl ⟨(Nat.le_of_ble_eq_true rfl), (Nat.le_of_ble_eq_true rfl)⟩ dL_law_223 rfl (Nat.le_of_ble_eq_true rfl) (g_fni ?_)
                        refine g_istore C (i := 10) (lv' := [(10, .int (f_L_low v3 201)), (9, .int (f_L_low v4 8)), (6, .int v4), (8, .int (f_L_low v2 12)), (7, .int v3), (0, .ref (tt 8)), (1, .ref (ad 0)), (2, .ref (ad 53)), (3, .ref (ad 54)), (4, .int (s1.1)), (5, .int (nI j1))]) dL_law_226 (by decide) rfl ?_
                        refine g_iload C (i := 7) dL_law_228 4 rfl ?_
                        refine g_bipush C (v := 8) dL_law_230 (by decide) ?_
                        refine g_ishr C dL_law_232 ?_
                        refine g_bipush C (v := 121) dL_law_233 (by decide) ?_
                        refine g_callS C (st := []) (c_L_low l D ad dA z0 tt (s1.2.1) (s1.2.2) (v3 >>> ((8 : Int32) &&& 31)) 121 (by decide)) rfl ml_L_74 sm_L_low in_L co_L_low dyS_L_low rfl rfl ⟨(Nat.le_of_ble_eq_true rfl), (Nat.le_of_ble_eq_true rfl)⟩ dL_law_235 rfl (Nat.le_of_ble_eq_true rfl) (g_fni ?_)
                        refine g_bipush C (v := 60) dL_law_238 (by decide) ?_
                        refine g_isub C dL_law_240 ?_
                        refine g_nmi C (fun v35 ev35 => ?_)
                        refine g_istore C (i := 11) (lv' := [(11, .int v35), (10, .int (f_L_low v3 201)), (9, .int (f_L_low v4 8)), (6, .int v4), (8, .int (f_L_low v2 12)), (7, .int v3), (0, .ref (tt 8)), (1, .ref (ad 0)), (2, .ref (ad 53)), (3, .ref (ad 54)), (4, .int (s1.1)), (5, .int (nI j1))]) dL_law_241 (by decide) rfl ?_
                        refine g_aload_n C (i := 1) dL_law_243 rfl 7 rfl ?_
                        refine g_iload C (i := 9) dL_law_244 2 rfl ?_
                        refine g_iload C (i := 10) dL_law_246 1 rfl ?_
                        refine g_iload C (i := 11) dL_law_248 0 rfl ?_
                        refine g_iconst C (v := 5) dL_law_250 (by decide) ?_
                        refine g_callV C (st := []) (c_X10_fill l D ad dA z0 tt (s1.2.1) (s1.2.2) (f_L_low v4 8) (f_L_low v3 201) v35 5) rfl ml_L_85 im_X10_fill se_X10_fill in_X10 co_X10_fill dyV_X10_fill rfl rfl ⟨(Nat.le_of_ble_eq_true rfl), (Nat.le_of_ble_eq_true rfl)⟩ 0 10 (fun f => at_0 ad dA (s1.2.1) f) rfl dL_law_251 rfl (Nat.le_of_ble_eq_true rfl) (g_fni ?_)
                        refine g_nmi C (fun v36 ev36 => ?_)
                        refine g_nms C (fun σ37 eσ37 => ?_)
                        refine g_istore C (i := 12) (lv' := [(12, .int v36), (11, .int v35), (10, .int (f_L_low v3 201)), (9, .int (f_L_low v4 8)), (6, .int v4), (8, .int (f_L_low v2 12)), (7, .int v3), (0, .ref (tt 8)), (1, .ref (ad 0)), (2, .ref (ad 53)), (3, .ref (ad 54)), (4, .int (s1.1)), (5, .int (nI j1))]) dL_law_254 (by decide) rfl ?_
                        refine g_iload C (i := 12) dL_law_256 0 rfl ?_
                        refine g_if_lt C (tgt := 282) dL_law_258 (by decide) (fun h34 => ?_) (fun h34 => ?_)
                        · refine g_iconst C (v := 0) dL_law_282 (by decide) ?_
                          have e0 : f_L_law tt σ φ = 0 := by
                            subst eσ37
                            subst ev36
                            subst ev35
                            subst ev4
                            subst ev3
                            subst ev2
                            have eF := hF1.trans (loopE_inl n1 ((b_L_law_99_eq _ _ _).trans ((if_pos h9).trans ((if_neg h10).trans (if_pos h34)))))
                            exact ((f_L_law_eq _ _ _).trans ((if_pos h1).trans ((if_pos h2).trans ((if_pos h3).trans ((if_pos h4).trans ((if_pos h5).trans ((if_pos h6).trans ((if_pos h7).trans (sumE_inl eF)))))))))
                          exact hi _ _ _ _ _ dL_law_283 (lv_narrowZ (Or.inl rfl)).1 e0.symm
                        · refine g_iload C (i := 12) dL_law_261 0 rfl ?_
                          refine g_bipush C (v := 10) dL_law_263 (by decide) ?_
                          refine g_icmp_gt C (tgt := 282) dL_law_265 (by decide) (fun h35 => ?_) (fun h35 => ?_)
                          · refine g_iconst C (v := 0) dL_law_282 (by decide) ?_
                            have e0 : f_L_law tt σ φ = 0 := by
                              subst eσ37
                              subst ev36
                              subst ev35
                              subst ev4
                              subst ev3
                              subst ev2
                              have eF := hF1.trans (loopE_inl n1 ((b_L_law_99_eq _ _ _).trans ((if_pos h9).trans ((if_neg h10).trans ((if_neg h34).trans (if_pos h35))))))
                              exact ((f_L_law_eq _ _ _).trans ((if_pos h1).trans ((if_pos h2).trans ((if_pos h3).trans ((if_pos h4).trans ((if_pos h5).trans ((if_pos h6).trans ((if_pos h7).trans (sumE_inl eF)))))))))
                            exact hi _ _ _ _ _ dL_law_283 (lv_narrowZ (Or.inl rfl)).1 e0.symm
                          · refine g_aload_n C (i := 1) dL_law_268 rfl 8 rfl ?_
                            refine g_iload C (i := 9) dL_law_269 3 rfl ?_
                            refine g_iload C (i := 10) dL_law_271 2 rfl ?_
                            refine g_iload C (i := 11) dL_law_273 1 rfl ?_
                            refine g_iconst C (v := 5) dL_law_275 (by decide) ?_
                            refine g_callV C (st := []) (c_X10_fill l D ad dA z0 tt σ37 (s1.2.2) (f_L_low v4 8) (f_L_low v3 201) v35 5) rfl ml_L_85 im_X10_fill se_X10_fill in_X10 co_X10_fill dyV_X10_fill rfl rfl ⟨(Nat.le_of_ble_eq_true rfl), (Nat.le_of_ble_eq_true rfl)⟩ 0 10 (fun f => at_0 ad dA σ37 f) rfl dL_law_276 rfl (Nat.le_of_ble_eq_true rfl) (g_fni ?_)
                            refine g_nmi C (fun v38 ev38 => ?_)
                            refine g_nms C (fun σ39 eσ39 => ?_)
                            refine g_if_eq C (tgt := 284) dL_law_279 (by decide) (fun h36 => ?_) (fun h36 => ?_)
                            · refine g_goto C (tgt := 659) dL_law_284 (by decide) ?_
                              refine g_iinc C (i := 5) (v := nI (j1 + 1)) (lv' := [(5, .int (nI (j1 + 1))), (12, .int v36), (11, .int v35), (10, .int (f_L_low v3 201)), (9, .int (f_L_low v4 8)), (6, .int v4), (8, .int (f_L_low v2 12)), (7, .int v3), (0, .ref (tt 8)), (1, .ref (ad 0)), (2, .ref (ad 53)), (3, .ref (ad 54)), (4, .int (s1.1))]) dL_law_659 12 rfl (nI_1 _) (by decide) rfl ?_
                              refine g_goto C (tgt := 99) dL_law_662 (by decide) ?_
                              refine g_loc C [8, 9, 10, 11, 12, 0] rfl ?_
                              rw [hK]
                              refine CMh.low ?_
                              refine kk (s1.1, σ39, s1.2.2) ?_
                              subst eσ39
                              subst ev38
                              subst eσ37
                              subst ev36
                              subst ev35
                              subst ev4
                              subst ev3
                              subst ev2
                              exact ((b_L_law_99_eq _ _ _).trans ((if_pos h9).trans ((if_neg h10).trans ((if_neg h34).trans ((if_neg h35).trans (if_pos h36))))))
                            · refine g_iconst C (v := 0) dL_law_282 (by decide) ?_
                              have e0 : f_L_law tt σ φ = 0 := by
                                subst eσ39
                                subst ev38
                                subst eσ37
                                subst ev36
                                subst ev35
                                subst ev4
                                subst ev3
                                subst ev2
                                have eF := hF1.trans (loopE_inl n1 ((b_L_law_99_eq _ _ _).trans ((if_pos h9).trans ((if_neg h10).trans ((if_neg h34).trans ((if_neg h35).trans (if_neg h36)))))))
                                exact ((f_L_law_eq _ _ _).trans ((if_pos h1).trans ((if_pos h2).trans ((if_pos h3).trans ((if_pos h4).trans ((if_pos h5).trans ((if_pos h6).trans ((if_pos h7).trans (sumE_inl eF)))))))))
                              exact hi _ _ _ _ _ dL_law_283 (lv_narrowZ (Or.inl rfl)).1 e0.symm
                    · refine g_aload_n C (i := 1) dL_law_158 rfl 5 rfl ?_
                      refine g_iload C (i := 9) dL_law_159 0 rfl ?_
                      refine g_iload C (i := 6) dL_law_161 1 rfl ?_
                      refine g_iconst C (v := 3) dL_law_163 (by decide) ?_
                      refine g_ishr C dL_law_164 ?_
                      refine g_bipush C (v := 10) dL_law_165 (by decide) ?_
                      refine g_callS C (st := [.int (f_L_low v4 8), .ref (ad 0)]) (c_L_low l D ad dA z0 tt (s1.2.1) (s1.2.2) (v4 >>> ((3 : Int32) &&& 31)) 10 (by decide)) rfl ml_L_74 sm_L_low in_L co_L_low dyS_L_low rfl rfl ⟨(Nat.le_of_ble_eq_true rfl), (Nat.le_of_ble_eq_true rfl)⟩ dL_law_167 rfl (Nat.le_of_ble_eq_true rfl) (g_fni ?_)
                      refine g_iload C (i := 7) dL_law_170 3 rfl ?_
                      refine g_sipush C (v := 201) dL_law_172 (by decide) ?_
                      refine g_callS C (st := [.int (f_L_low (v4 >>> ((3 : Int32) &&& 31)) 10), .int (f_L_low v4 8), .ref (ad 0)]) (c_L_low l D ad dA z0 tt (s1.2.1) (s1.2.2) v3 201 (by decide)) rfl ml_L_74 sm_L_low in_L co_L_low dyS_L_low rfl rfl ⟨(Nat.le_of_ble_eq_true rfl), (Nat.le_of_ble_eq_true rfl)⟩ dL_law_175 rfl (Nat.le_of_ble_eq_true rfl) (g_fni ?_)
                      refine g_iload C (i := 7) dL_law_178 3 rfl ?_
                      refine g_bipush C (v := 8) dL_law_180 (by decide) ?_
                      refine g_ishr C dL_law_182 ?_
                      refine g_bipush C (v := 121) dL_law_183 (by decide) ?_
                      refine g_callS C (st := [.int (f_L_low v3 201), .int (f_L_low (v4 >>> ((3 : Int32) &&& 31)) 10), .int (f_L_low v4 8), .ref (ad 0)]) (c_L_low l D ad dA z0 tt (s1.2.1) (s1.2.2) (v3 >>> ((8 : Int32) &&& 31)) 121 (by decide)) rfl ml_L_74 sm_L_low in_L co_L_low dyS_L_low rfl rfl ⟨(Nat.le_of_ble_eq_true rfl), (Nat.le_of_ble_eq_true rfl)⟩ dL_law_185 rfl (Nat.le_of_ble_eq_true rfl) (g_fni ?_)
                      refine g_bipush C (v := 60) dL_law_188 (by decide) ?_
                      refine g_isub C dL_law_190 ?_
                      refine g_iload C (i := 7) dL_law_191 3 rfl ?_
                      refine g_bipush C (v := 15) dL_law_193 (by decide) ?_
                      refine g_ishr C dL_law_195 ?_
                      refine g_bipush C (v := 121) dL_law_196 (by decide) ?_
                      refine g_callS C (st := [.int ((f_L_low (v3 >>> ((8 : Int32) &&& 31)) 121) - 60), .int (f_L_low v3 201), .int (f_L_low (v4 >>> ((3 : Int32) &&& 31)) 10), .int (f_L_low v4 8), .ref (ad 0)]) (c_L_low l D ad dA z0 tt (s1.2.1) (s1.2.2) (v3 >>> ((15 : Int32) &&& 31)) 121 (by decide)) rfl ml_L_74 sm_L_low in_L co_L_low dyS_L_low rfl rfl ⟨(Nat.le_of_ble_eq_true rfl), (Nat.le_of_ble_eq_true rfl)⟩ dL_law_198 rfl (Nat.le_of_ble_eq_true rfl) (g_fni ?_)
                      refine g_bipush C (v := 60) dL_law_201 (by decide) ?_
                      refine g_isub C dL_law_203 ?_
                      refine g_callV C (st := []) (c_X10_setSegment l D ad dA z0 tt (s1.2.1) (s1.2.2) (f_L_low v4 8) (f_L_low (v4 >>> ((3 : Int32) &&& 31)) 10) (f_L_low v3 201) ((f_L_low (v3 >>> ((8 : Int32) &&& 31)) 121) - 60) ((f_L_low (v3 >>> ((15 : Int32) &&& 31)) 121) - 60)) rfl ml_L_81 im_X10_setSegment se_X10_setSegment in_X10 co_X10_setSegment dyV_X10_setSegment rfl rfl ⟨(Nat.le_of_ble_eq_true rfl), (Nat.le_of_ble_eq_true rfl)⟩ 0 10 (fun f => at_0 ad dA (s1.2.1) f) rfl dL_law_204 rfl (Nat.le_of_ble_eq_true rfl) (g_fni ?_)
                      refine g_nmi C (fun v40 ev40 => ?_)
                      refine g_nms C (fun σ41 eσ41 => ?_)
                      refine g_if_ge C (tgt := 659) dL_law_207 (by decide) (fun h37 => ?_) (fun h37 => ?_)
                      · refine g_iinc C (i := 5) (v := nI (j1 + 1)) (lv' := [(5, .int (nI (j1 + 1))), (9, .int (f_L_low v4 8)), (6, .int v4), (8, .int (f_L_low v2 12)), (7, .int v3), (0, .ref (tt 8)), (1, .ref (ad 0)), (2, .ref (ad 53)), (3, .ref (ad 54)), (4, .int (s1.1))]) dL_law_659 9 rfl (nI_1 _) (by decide) rfl ?_
                        refine g_goto C (tgt := 99) dL_law_662 (by decide) ?_
                        refine g_loc C [5, 6, 7, 8, 9, 0] rfl ?_
                        rw [hK]
                        refine CMh.low ?_
                        refine kk (s1.1, σ41, s1.2.2) ?_
                        subst eσ41
                        subst ev40
                        subst ev4
                        subst ev3
                        subst ev2
                        exact ((b_L_law_99_eq _ _ _).trans ((if_neg h9).trans (if_pos h37)))
                      · refine g_iconst C (v := 0) dL_law_210 (by decide) ?_
                        have e0 : f_L_law tt σ φ = 0 := by
                          subst eσ41
                          subst ev40
                          subst ev4
                          subst ev3
                          subst ev2
                          have eF := hF1.trans (loopE_inl n1 ((b_L_law_99_eq _ _ _).trans ((if_neg h9).trans (if_neg h37))))
                          exact ((f_L_law_eq _ _ _).trans ((if_pos h1).trans ((if_pos h2).trans ((if_pos h3).trans ((if_pos h4).trans ((if_pos h5).trans ((if_pos h6).trans ((if_pos h7).trans (sumE_inl eF)))))))))
                        exact hi _ _ _ _ _ dL_law_211 (lv_narrowZ (Or.inl rfl)).1 e0.symm
                · intro t1 hF1 hI1
                  change KK 0 (t1.2.1) (t1.2.2) 99 [(0, .ref (tt 8)), (1, .ref (ad 0)), (2, .ref (ad 53)), (3, .ref (ad 54)), (4, .int (t1.1)), (5, .int (nI 40))] []
                  obtain ⟨K, hK, C, hi⟩ := CMh.K 0
                  rw [← hK]
                  refine g_iload C (i := 5) dL_law_99 5 rfl ?_
                  refine g_bipush C (v := 40) dL_law_101 (by decide) ?_
                  refine g_icmp_ge C (tgt := 665) dL_law_103 (by decide) (fun h38 => ?_) (fun h38 => ?_)
                  · refine g_aload_n C (i := 1) dL_law_665 rfl 1 rfl ?_
                    refine g_callS C (st := []) (c_L_errors l D ad dA z0 tt (t1.2.1) (t1.2.2) ) rfl ml_L_128 sm_L_errors in_L co_L_errors dyS_L_errors rfl rfl ⟨(Nat.le_of_ble_eq_true rfl), (Nat.le_of_ble_eq_true rfl)⟩ dL_law_666 rfl (Nat.le_of_ble_eq_true rfl) (g_fni ?_)
                    refine g_nmi C (fun v42 ev42 => ?_)
                    refine g_nms C (fun σ43 eσ43 => ?_)
                    have e0 : f_L_law tt σ φ = v42 := by
                      subst eσ43
                      subst ev42
                      exact ((f_L_law_eq _ _ _).trans ((if_pos h1).trans ((if_pos h2).trans ((if_pos h3).trans ((if_pos h4).trans ((if_pos h5).trans ((if_pos h6).trans ((if_pos h7).trans (sumE_inr hF1)))))))))
                    exact hi _ _ _ _ _ dL_law_669 (lv_narrowZ (show v42 = 0 ∨ v42 = 1 from Or.inr (by rw [← ev42, errors_1]))).1 e0.symm
                  · exact absurd (nI_le (Nat.le_refl _) (by decide)) h38
              · refine g_iconst C (v := 0) dL_law_91 (by decide) ?_
                have e0 : f_L_law tt σ φ = 0 := by
                  exact ((f_L_law_eq _ _ _).trans ((if_pos h1).trans ((if_pos h2).trans ((if_pos h3).trans ((if_pos h4).trans ((if_pos h5).trans ((if_pos h6).trans (if_neg h7))))))))
                exact hi _ _ _ _ _ dL_law_92 (lv_narrowZ (Or.inl rfl)).1 e0.symm
