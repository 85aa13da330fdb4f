/-! the law's combs -/
def b_L_combs_213 (j4 : Nat) (j5 : Nat) (s5 : Sg) (v14 : Int32) (j17 : Nat) (s17 : Int32 × Int32 × Int32) : Int32 × Int32 × Int32 := let v18 : Int32 := f_L_at s5 (nI j4) ((f_X10_line s5 (nI j4) 1) + ((16 + (8 * (nI j5))) + nI j17)); let v19 : Int32 := (if (v14 - v14 / 2 * 2) = 1 then (f_L_at s5 ((nI j4) - 1) ((f_X10_line s5 ((nI j4) - 1) 1) + ((16 + (8 * (nI j5))) + nI j17))) else 0); let v21 : Int32 := (if v14 ≤ 1 then 0 else (f_L_at s5 ((nI j4) + 1) ((f_X10_line s5 ((nI j4) + 1) 1) + ((16 + (8 * (nI j5))) + nI j17)))); let v23 : Int32 := (if v14 = 0 then (((2 * v18) - (f_L_at s5 (nI j4) (((f_X10_line s5 (nI j4) 1) + ((16 + (8 * (nI j5))) + nI j17)) - 2))) - (f_L_at s5 (nI j4) (((f_X10_line s5 (nI j4) 1) + ((16 + (8 * (nI j5))) + nI j17)) + 2))) else (if v14 = 1 then (2 * (v18 - v19)) else (if v14 = 2 then (2 * (v18 - v21)) else (((2 * v18) - v19) - v21)))); let v25 : Int32 := (s17.2.1) + (v23 * (f_L_sine (((f_X10_line s5 (nI j4) 1) + ((16 + (8 * (nI j5))) + nI j17)) + (2 * (nI j4))))); let v26 : Int32 := (s17.2.2) + (v23 * (f_L_cosine (((f_X10_line s5 (nI j4) 1) + ((16 + (8 * (nI j5))) + nI j17)) + (2 * (nI j4))))); ((s17.1) - v23, v25, v26)
theorem b_L_combs_213_eq (j4 : Nat) (j5 : Nat) (s5 : Sg) (v14 : Int32) (j17 : Nat) (s17 : Int32 × Int32 × Int32) : b_L_combs_213 j4 j5 s5 v14 j17 s17 = (let v18 : Int32 := f_L_at s5 (nI j4) ((f_X10_line s5 (nI j4) 1) + ((16 + (8 * (nI j5))) + nI j17)); let v19 : Int32 := (if (v14 - v14 / 2 * 2) = 1 then (f_L_at s5 ((nI j4) - 1) ((f_X10_line s5 ((nI j4) - 1) 1) + ((16 + (8 * (nI j5))) + nI j17))) else 0); let v21 : Int32 := (if v14 ≤ 1 then 0 else (f_L_at s5 ((nI j4) + 1) ((f_X10_line s5 ((nI j4) + 1) 1) + ((16 + (8 * (nI j5))) + nI j17)))); let v23 : Int32 := (if v14 = 0 then (((2 * v18) - (f_L_at s5 (nI j4) (((f_X10_line s5 (nI j4) 1) + ((16 + (8 * (nI j5))) + nI j17)) - 2))) - (f_L_at s5 (nI j4) (((f_X10_line s5 (nI j4) 1) + ((16 + (8 * (nI j5))) + nI j17)) + 2))) else (if v14 = 1 then (2 * (v18 - v19)) else (if v14 = 2 then (2 * (v18 - v21)) else (((2 * v18) - v19) - v21)))); let v25 : Int32 := (s17.2.1) + (v23 * (f_L_sine (((f_X10_line s5 (nI j4) 1) + ((16 + (8 * (nI j5))) + nI j17)) + (2 * (nI j4))))); let v26 : Int32 := (s17.2.2) + (v23 * (f_L_cosine (((f_X10_line s5 (nI j4) 1) + ((16 + (8 * (nI j5))) + nI j17)) + (2 * (nI j4))))); ((s17.1) - v23, v25, v26)) := rfl
def b_L_combs_49 (σ : Sg) (φ : Fl) (v1 : Int32) (j4 : Nat) (j5 : Nat) (s5 : Sg) : (Int32 × Sg) ⊕ (Sg) := let v6 : Int32 := (if (f_X10_count σ 17) = 3 then (f_L_near s5 (nI j4) ((nI j4) - 1) (nI j5)) else (if (nI j4) ≤ 0 then 0 else 1)); let v8 : Int32 := (if (f_X10_count σ 17) = 3 then (f_L_near s5 (nI j4) ((nI j4) + 1) (nI j5)) else (if 7 ≤ (nI j4) then 0 else 1)); let v14 : Int32 := (if v1 = 1 then 0 else (if (f_X10_count σ 17) = 0 then 0 else (if (f_X10_count σ 17) = 1 then (if v6 = 0 then 2 else 1) else (let v10 : Int32 := (if v6 = 0 then 0 else 1); let v12 : Int32 := (if v8 = 0 then 0 else 2); v10 + v12)))); let v16 : Int32 := 4 * (f_L_sum s5 (nI j4) (nI j5)); let t17 : Int32 × Int32 × Int32 := loopF (b_L_combs_213 j4 j5 s5 v14) (cnt8 (16 + (8 * (nI j5)))) (v16, 0, 0); let σ27 : Sg := sw s5 55 v14.toNatClampNeg ((s5 55 v14.toNatClampNeg) + 1); let v28 : Int32 := (if (f_X10_line σ27 (nI j4) 6) = 0 then 1 else (if (t17.2.1) = 0 then (if (t17.2.2) = 0 then 1 else 0) else 0)); let v30 : Int32 := (if v1 = 0 then 1 else (if (nI j4) = 0 then 1 else 0)); if (f_X10_combed σ27 (nI j4) (nI j5)) = v14 then (if (f_X10_luma σ27 (nI j4) (nI j5)) = (f_L_floor (t17.1) 32) then (if v30 = 0 then (.inr σ27) else (if v28 = 0 then (.inr σ27) else (if (f_X10_thousandths σ27 φ (nI j4) (nI j5) 0) = 0 then (if (f_X10_thousandths σ27 φ (nI j4) (nI j5) 1) = 0 then (.inr σ27) else (.inl (0, σ27))) else (.inl (0, σ27))))) else (.inl (0, σ27))) else (.inl (0, σ27))
theorem b_L_combs_49_eq (σ : Sg) (φ : Fl) (v1 : Int32) (j4 : Nat) (j5 : Nat) (s5 : Sg) : b_L_combs_49 σ φ v1 j4 j5 s5 = (let v6 : Int32 := (if (f_X10_count σ 17) = 3 then (f_L_near s5 (nI j4) ((nI j4) - 1) (nI j5)) else (if (nI j4) ≤ 0 then 0 else 1)); let v8 : Int32 := (if (f_X10_count σ 17) = 3 then (f_L_near s5 (nI j4) ((nI j4) + 1) (nI j5)) else (if 7 ≤ (nI j4) then 0 else 1)); let v14 : Int32 := (if v1 = 1 then 0 else (if (f_X10_count σ 17) = 0 then 0 else (if (f_X10_count σ 17) = 1 then (if v6 = 0 then 2 else 1) else (let v10 : Int32 := (if v6 = 0 then 0 else 1); let v12 : Int32 := (if v8 = 0 then 0 else 2); v10 + v12)))); let v16 : Int32 := 4 * (f_L_sum s5 (nI j4) (nI j5)); let t17 : Int32 × Int32 × Int32 := loopF (b_L_combs_213 j4 j5 s5 v14) (cnt8 (16 + (8 * (nI j5)))) (v16, 0, 0); let σ27 : Sg := sw s5 55 v14.toNatClampNeg ((s5 55 v14.toNatClampNeg) + 1); let v28 : Int32 := (if (f_X10_line σ27 (nI j4) 6) = 0 then 1 else (if (t17.2.1) = 0 then (if (t17.2.2) = 0 then 1 else 0) else 0)); let v30 : Int32 := (if v1 = 0 then 1 else (if (nI j4) = 0 then 1 else 0)); if (f_X10_combed σ27 (nI j4) (nI j5)) = v14 then (if (f_X10_luma σ27 (nI j4) (nI j5)) = (f_L_floor (t17.1) 32) then (if v30 = 0 then (.inr σ27) else (if v28 = 0 then (.inr σ27) else (if (f_X10_thousandths σ27 φ (nI j4) (nI j5) 0) = 0 then (if (f_X10_thousandths σ27 φ (nI j4) (nI j5) 1) = 0 then (.inr σ27) else (.inl (0, σ27))) else (.inl (0, σ27))))) else (.inl (0, σ27))) else (.inl (0, σ27))) := rfl
def b_L_combs_39 (σ : Sg) (φ : Fl) (v1 : Int32) (j4 : Nat) (s4 : Sg) : (Int32 × Sg) ⊕ (Sg) := sumB (loopE (b_L_combs_49 σ φ v1 j4) 10 0 s4) (fun t5 => .inr t5)
theorem b_L_combs_39_eq (σ : Sg) (φ : Fl) (v1 : Int32) (j4 : Nat) (s4 : Sg) : b_L_combs_39 σ φ v1 j4 s4 = (sumB (loopE (b_L_combs_49 σ φ v1 j4) 10 0 s4) (fun t5 => .inr t5)) := rfl
def f_L_combs (σ : Sg) (φ : Fl) : Int32 × Sg := let v1 : Int32 := (if (f_X10_count σ 18) = 2 then (f_X10_count σ 1) else (f_X10_count σ 18)); let σ3 : Sg := va_up σ 55 (fun _ => 0); sumE (loopE (b_L_combs_39 σ φ v1) 8 0 σ3) (fun t4 => if (f_X10_count t4 9) = (t4 55 (0 : Int32).toNatClampNeg) then (if (f_X10_count t4 10) = (t4 55 (1 : Int32).toNatClampNeg) then (if (f_X10_count t4 11) = (t4 55 (2 : Int32).toNatClampNeg) then (if (f_X10_count t4 12) = (t4 55 (3 : Int32).toNatClampNeg) then (1, t4) else (0, t4)) else (0, t4)) else (0, t4)) else (0, t4))
theorem f_L_combs_eq (σ : Sg) (φ : Fl) : f_L_combs σ φ = (let v1 : Int32 := (if (f_X10_count σ 18) = 2 then (f_X10_count σ 1) else (f_X10_count σ 18)); let σ3 : Sg := va_up σ 55 (fun _ => 0); sumE (loopE (b_L_combs_39 σ φ v1) 8 0 σ3) (fun t4 => if (f_X10_count t4 9) = (t4 55 (0 : Int32).toNatClampNeg) then (if (f_X10_count t4 10) = (t4 55 (1 : Int32).toNatClampNeg) then (if (f_X10_count t4 11) = (t4 55 (2 : Int32).toNatClampNeg) then (if (f_X10_count t4 12) = (t4 55 (3 : Int32).toNatClampNeg) then (1, t4) else (0, t4)) else (0, t4)) else (0, t4)) else (0, t4))) := rfl
set_option maxRecDepth 100000 in
set_option maxHeartbeats 4000000 in
theorem c_L_combs (l : Launch) (D : va_G) (ad : Nat → Nat) (dA : Nat → ClassId) (z0 : Nat) (tt : Nat → Nat) (σ : Sg) (φ : Fl)  (h99 : ad 99 = 0) : MC1 l D ad dA z0 tt yL_combs (Cond.code yL_combs cL_combs 18 (some .boolean) :: lw_all) { frames := 8, cells := 1, slots := 4, locals := 184 } [.ref (ad 0)] σ φ (Fn (some (.int (f_L_combs σ φ).1)) (f_L_combs σ φ).2 φ) := by
  refine mk_MC1 h99 (by decide) rfl rfl (Nat.le_of_ble_eq_true rfl) ?_
  intro K C nw
  change K σ φ 0 [(0, .ref (ad 0))] []
  refine g_aload_n C (i := 0) dL_combs_0 rfl 0 rfl ?_
  refine g_bipush C (v := 18) dL_combs_1 (by decide) ?_
  refine g_callV C (st := []) (c_X10_count l D ad dA z0 tt σ φ 18) rfl ml_L_35 im_X10_count se_X10_count in_X10 co_X10_count dyV_X10_count rfl rfl ⟨(Nat.le_of_ble_eq_true rfl), (Nat.le_of_ble_eq_true rfl)⟩ 0 10 (fun f => at_0 ad dA σ f) rfl dL_combs_3 rfl (Nat.le_of_ble_eq_true rfl) (g_fni ?_)
  refine g_iconst C (v := 2) dL_combs_6 (by decide) ?_
  have J2 : ∀ (v1 : Int32), (if (f_X10_count σ 18) = 2 then (f_X10_count σ 1) else (f_X10_count σ 18)) = v1 → K σ φ 24 [(0, .ref (ad 0))] [.int v1] := by
    intro v1 ev1
    refine g_istore_n C (i := 1) (lv' := [(1, .int v1), (0, .ref (ad 0))]) dL_combs_24 rfl (by decide) rfl ?_
    refine g_aload_n C (i := 0) dL_combs_25 rfl 1 rfl ?_
    refine g_bipush C (v := 17) dL_combs_26 (by decide) ?_
    refine g_callV C (st := []) (c_X10_count l D ad dA z0 tt σ φ 17) rfl ml_L_35 im_X10_count se_X10_count in_X10 co_X10_count dyV_X10_count rfl rfl ⟨(Nat.le_of_ble_eq_true rfl), (Nat.le_of_ble_eq_true rfl)⟩ 0 10 (fun f => at_0 ad dA σ f) rfl dL_combs_28 rfl (Nat.le_of_ble_eq_true rfl) (g_fni ?_)
    refine g_istore_n C (i := 2) (lv' := [(2, .int (f_X10_count σ 17)), (1, .int v1), (0, .ref (ad 0))]) dL_combs_31 rfl (by decide) rfl ?_
    refine g_iconst C (v := 4) dL_combs_32 (by decide) ?_
    refine nw _ _ _ _ [] (fun ad => [(2, .int (f_X10_count σ 17)), (1, .int v1), (0, .ref (ad 0))]) (fun ad hk => by rw [hk 0 (by decide)]) dL_combs_33 (fun K ad ha hk C hi => ?_)
    refine g_nms C (fun σ3 eσ3 => ?_)
    refine g_astore_n C (i := 3) (lv' := [(3, .ref (ad 55)), (2, .int (f_X10_count σ 17)), (1, .int v1), (0, .ref (ad 0))]) dL_combs_35 rfl (by decide) rfl ?_
    refine g_iconst C (v := 0) dL_combs_36 (by decide) ?_
    refine g_istore C (i := 4) (lv' := [(4, .int 0), (3, .ref (ad 55)), (2, .int (f_X10_count σ 17)), (1, .int v1), (0, .ref (ad 0))]) dL_combs_37 (by decide) rfl ?_
    refine g_loc C (lv' := [(0, .ref (ad 0)), (1, .int v1), (2, .int (f_X10_count σ 17)), (3, .ref (ad 55)), (4, .int 0)]) [4, 3, 2, 1, 0] rfl ?_
    refine loopE_ind (b_L_combs_39 σ φ v1) 8 (fun (j4 : Nat) (s4 : Sg) => K s4 φ 39 [(0, .ref (ad 0)), (1, .int v1), (2, .int (f_X10_count σ 17)), (3, .ref (ad 55)), (4, .int (nI j4))] []) σ3 ?_ ?_
    · intro n4 j4 s4 hn hF4 kk
      have hj4 : j4 < 8 := by omega
      change K s4 φ 39 [(0, .ref (ad 0)), (1, .int v1), (2, .int (f_X10_count σ 17)), (3, .ref (ad 55)), (4, .int (nI j4))] []
      refine g_iload C (i := 4) dL_combs_39 4 rfl ?_
      refine g_bipush C (v := 8) dL_combs_41 (by decide) ?_
      refine g_icmp_ge C (tgt := 575) dL_combs_43 (by decide) (fun h2 => ?_) (fun h2 => ?_)
      · exact absurd h2 (nI_ge hj4 (by decide))
      · refine g_iconst C (v := 0) dL_combs_46 (by decide) ?_
        refine g_istore C (i := 5) (lv' := [(5, .int 0), (0, .ref (ad 0)), (1, .int v1), (2, .int (f_X10_count σ 17)), (3, .ref (ad 55)), (4, .int (nI j4))]) dL_combs_47 (by decide) rfl ?_
        refine g_loc C (lv' := [(0, .ref (ad 0)), (1, .int v1), (2, .int (f_X10_count σ 17)), (3, .ref (ad 55)), (4, .int (nI j4)), (5, .int 0)]) [1, 2, 3, 4, 5, 0] rfl ?_
        refine loopE_ind (b_L_combs_49 σ φ v1 j4) 10 (fun (j5 : Nat) (s5 : Sg) => K s5 φ 49 [(0, .ref (ad 0)), (1, .int v1), (2, .int (f_X10_count σ 17)), (3, .ref (ad 55)), (4, .int (nI j4)), (5, .int (nI j5))] []) s4 ?_ ?_
        · intro n5 j5 s5 hn hF5 kk
          have hj5 : j5 < 10 := by omega
          change K s5 φ 49 [(0, .ref (ad 0)), (1, .int v1), (2, .int (f_X10_count σ 17)), (3, .ref (ad 55)), (4, .int (nI j4)), (5, .int (nI j5))] []
          refine g_iload C (i := 5) dL_combs_49 5 rfl ?_
          refine g_bipush C (v := 10) dL_combs_51 (by decide) ?_
          refine g_icmp_ge C (tgt := 569) dL_combs_53 (by decide) (fun h3 => ?_) (fun h3 => ?_)
          · exact absurd h3 (nI_ge hj5 (by decide))
          · refine g_iload_n C (i := 2) dL_combs_56 rfl 2 rfl ?_
            refine g_iconst C (v := 3) dL_combs_57 (by decide) ?_
            have J7 : ∀ (v6 : Int32), (if (f_X10_count σ 17) = 3 then (f_L_near s5 (nI j4) ((nI j4) - 1) (nI j5)) else (if (nI j4) ≤ 0 then 0 else 1)) = v6 → K s5 φ 86 [(0, .ref (ad 0)), (1, .int v1), (2, .int (f_X10_count σ 17)), (3, .ref (ad 55)), (4, .int (nI j4)), (5, .int (nI j5))] [.int v6] := by
              intro v6 ev6
              refine g_istore C (i := 6) (lv' := [(6, .int v6), (0, .ref (ad 0)), (1, .int v1), (2, .int (f_X10_count σ 17)), (3, .ref (ad 55)), (4, .int (nI j4)), (5, .int (nI j5))]) dL_combs_86 (by decide) rfl ?_
              refine g_iload_n C (i := 2) dL_combs_88 rfl 3 rfl ?_
              refine g_iconst C (v := 3) dL_combs_89 (by decide) ?_
              have J9 : ∀ (v8 : Int32), (if (f_X10_count σ 17) = 3 then (f_L_near s5 (nI j4) ((nI j4) + 1) (nI j5)) else (if 7 ≤ (nI j4) then 0 else 1)) = v8 → K s5 φ 120 [(0, .ref (ad 0)), (1, .int v1), (2, .int (f_X10_count σ 17)), (3, .ref (ad 55)), (4, .int (nI j4)), (5, .int (nI j5)), (6, .int v6)] [.int v8] := by
                intro v8 ev8
                refine g_istore C (i := 7) (lv' := [(7, .int v8), (0, .ref (ad 0)), (1, .int v1), (2, .int (f_X10_count σ 17)), (3, .ref (ad 55)), (4, .int (nI j4)), (5, .int (nI j5)), (6, .int v6)]) dL_combs_120 (by decide) rfl ?_
                refine g_iload_n C (i := 1) dL_combs_122 rfl 2 rfl ?_
                refine g_iconst C (v := 1) dL_combs_123 (by decide) ?_
                have J15 : ∀ (v14 : Int32), (if v1 = 1 then 0 else (if (f_X10_count σ 17) = 0 then 0 else (if (f_X10_count σ 17) = 1 then (if v6 = 0 then 2 else 1) else (let v10 : Int32 := (if v6 = 0 then 0 else 1); let v12 : Int32 := (if v8 = 0 then 0 else 2); v10 + v12)))) = v14 → K s5 φ 174 [(0, .ref (ad 0)), (1, .int v1), (2, .int (f_X10_count σ 17)), (3, .ref (ad 55)), (4, .int (nI j4)), (5, .int (nI j5))] [.int v14] := by
                  intro v14 ev14
                  refine g_istore C (i := 8) (lv' := [(8, .int v14), (0, .ref (ad 0)), (1, .int v1), (2, .int (f_X10_count σ 17)), (3, .ref (ad 55)), (4, .int (nI j4)), (5, .int (nI j5))]) dL_combs_174 (by decide) rfl ?_
                  refine g_iconst C (v := 4) dL_combs_176 (by decide) ?_
                  refine g_aload_n C (i := 0) dL_combs_177 rfl 1 rfl ?_
                  refine g_iload C (i := 4) dL_combs_178 5 rfl ?_
                  refine g_iload C (i := 5) dL_combs_180 6 rfl ?_
                  refine g_callS C (st := [.int 4]) (c_L_sum l D ad dA z0 tt s5 φ (nI j4) (nI j5)) rfl ml_L_42 sm_L_sum in_L co_L_sum dyS_L_sum rfl rfl ⟨(Nat.le_of_ble_eq_true rfl), (Nat.le_of_ble_eq_true rfl)⟩ dL_combs_182 rfl (Nat.le_of_ble_eq_true rfl) (g_fni ?_)
                  refine g_imul C dL_combs_185 ?_
                  refine g_nmi C (fun v16 ev16 => ?_)
                  refine g_istore C (i := 9) (lv' := [(9, .int v16), (8, .int v14), (0, .ref (ad 0)), (1, .int v1), (2, .int (f_X10_count σ 17)), (3, .ref (ad 55)), (4, .int (nI j4)), (5, .int (nI j5))]) dL_combs_186 (by decide) rfl ?_
                  refine g_aload_n C (i := 0) dL_combs_188 rfl 2 rfl ?_
                  refine g_iload C (i := 4) dL_combs_189 6 rfl ?_
                  refine g_iconst C (v := 1) dL_combs_191 (by decide) ?_
                  refine g_callV C (st := []) (c_X10_line l D ad dA z0 tt s5 φ (nI j4) 1) rfl ml_L_38 im_X10_line se_X10_line in_X10 co_X10_line dyV_X10_line rfl rfl ⟨(Nat.le_of_ble_eq_true rfl), (Nat.le_of_ble_eq_true rfl)⟩ 0 10 (fun f => at_0 ad dA s5 f) rfl dL_combs_192 rfl (Nat.le_of_ble_eq_true rfl) (g_fni ?_)
                  refine g_istore C (i := 10) (lv' := [(10, .int (f_X10_line s5 (nI j4) 1)), (9, .int v16), (8, .int v14), (0, .ref (ad 0)), (1, .int v1), (2, .int (f_X10_count σ 17)), (3, .ref (ad 55)), (4, .int (nI j4)), (5, .int (nI j5))]) dL_combs_195 (by decide) rfl ?_
                  refine g_iconst C (v := 0) dL_combs_197 (by decide) ?_
                  refine g_istore C (i := 11) (lv' := [(11, .int 0), (10, .int (f_X10_line s5 (nI j4) 1)), (9, .int v16), (8, .int v14), (0, .ref (ad 0)), (1, .int v1), (2, .int (f_X10_count σ 17)), (3, .ref (ad 55)), (4, .int (nI j4)), (5, .int (nI j5))]) dL_combs_198 (by decide) rfl ?_
                  refine g_iconst C (v := 0) dL_combs_200 (by decide) ?_
                  refine g_istore C (i := 12) (lv' := [(12, .int 0), (11, .int 0), (10, .int (f_X10_line s5 (nI j4) 1)), (9, .int v16), (8, .int v14), (0, .ref (ad 0)), (1, .int v1), (2, .int (f_X10_count σ 17)), (3, .ref (ad 55)), (4, .int (nI j4)), (5, .int (nI j5))]) dL_combs_201 (by decide) rfl ?_
                  refine g_bipush C (v := 16) dL_combs_203 (by decide) ?_
                  refine g_bipush C (v := 8) dL_combs_205 (by decide) ?_
                  refine g_iload C (i := 5) dL_combs_207 10 rfl ?_
                  refine g_imul C dL_combs_209 ?_
                  refine g_iadd C dL_combs_210 ?_
                  refine g_istore C (i := 13) (lv' := [(13, .int (16 + (8 * (nI j5)))), (12, .int 0), (11, .int 0), (10, .int (f_X10_line s5 (nI j4) 1)), (9, .int v16), (8, .int v14), (0, .ref (ad 0)), (1, .int v1), (2, .int (f_X10_count σ 17)), (3, .ref (ad 55)), (4, .int (nI j4)), (5, .int (nI j5))]) dL_combs_211 (by decide) rfl ?_
                  refine g_loc C (lv' := [(0, .ref (ad 0)), (1, .int v1), (2, .int (f_X10_count σ 17)), (3, .ref (ad 55)), (4, .int (nI j4)), (5, .int (nI j5)), (8, .int v14), (9, .int v16), (10, .int (f_X10_line s5 (nI j4) 1)), (11, .int 0), (12, .int 0), (13, .int (16 + (8 * (nI j5))))]) [6, 7, 8, 9, 10, 11, 5, 4, 3, 2, 1, 0] rfl ?_
                  refine g_lvq C (lv' := [(0, .ref (ad 0)), (1, .int v1), (2, .int (f_X10_count σ 17)), (3, .ref (ad 55)), (4, .int (nI j4)), (5, .int (nI j5)), (8, .int v14), (9, .int v16), (10, .int (f_X10_line s5 (nI j4) 1)), (11, .int 0), (12, .int 0), (13, .int ((16 + (8 * (nI j5))) + nI 0))]) (by rw [nI_s0]) ?_
                  refine loopF_ind (b_L_combs_213 j4 j5 s5 v14) (cnt8 (16 + (8 * (nI j5)))) (fun (j17 : Nat) (s17 : Int32 × Int32 × Int32) => K s5 φ 213 [(0, .ref (ad 0)), (1, .int v1), (2, .int (f_X10_count σ 17)), (3, .ref (ad 55)), (4, .int (nI j4)), (5, .int (nI j5)), (8, .int v14), (9, .int (s17.1)), (10, .int (f_X10_line s5 (nI j4) 1)), (11, .int (s17.2.1)), (12, .int (s17.2.2)), (13, .int ((16 + (8 * (nI j5))) + nI j17))] []) (v16, 0, 0) ?_ ?_
                  · intro j17 s17 hj17 kk
                    change K s5 φ 213 [(0, .ref (ad 0)), (1, .int v1), (2, .int (f_X10_count σ 17)), (3, .ref (ad 55)), (4, .int (nI j4)), (5, .int (nI j5)), (8, .int v14), (9, .int (s17.1)), (10, .int (f_X10_line s5 (nI j4) 1)), (11, .int (s17.2.1)), (12, .int (s17.2.2)), (13, .int ((16 + (8 * (nI j5))) + nI j17))] []
                    refine g_iload C (i := 13) dL_combs_213 11 rfl ?_
                    refine g_bipush C (v := 24) dL_combs_215 (by decide) ?_
                    refine g_bipush C (v := 8) dL_combs_217 (by decide) ?_
                    refine g_iload C (i := 5) dL_combs_219 5 rfl ?_
                    refine g_imul C dL_combs_221 ?_
                    refine g_iadd C dL_combs_222 ?_
                    refine g_icmp_ge C (tgt := 444) dL_combs_223 (by decide) (fun h14 => ?_) (fun h14 => ?_)
                    · have q := h14; rw [c24_eq] at q; exact absurd q (c8_step hj17)
                    · refine g_aload_n C (i := 0) dL_combs_226 rfl 0 rfl ?_
                      refine g_iload C (i := 4) dL_combs_227 4 rfl ?_
                      refine g_iload C (i := 10) dL_combs_229 8 rfl ?_
                      refine g_iload C (i := 13) dL_combs_231 11 rfl ?_
                      refine g_iadd C dL_combs_233 ?_
                      refine g_callS C (st := []) (c_L_at l D ad dA z0 tt s5 φ (nI j4) ((f_X10_line s5 (nI j4) 1) + ((16 + (8 * (nI j5))) + nI j17))) rfl ml_L_22 sm_L_at in_L co_L_at dyS_L_at rfl rfl ⟨(Nat.le_of_ble_eq_true rfl), (Nat.le_of_ble_eq_true rfl)⟩ dL_combs_234 rfl (Nat.le_of_ble_eq_true rfl) (g_fni ?_)
                      refine g_nmi C (fun v18 ev18 => ?_)
                      refine g_istore C (i := 14) (lv' := [(14, .int v18), (0, .ref (ad 0)), (1, .int v1), (2, .int (f_X10_count σ 17)), (3, .ref (ad 55)), (4, .int (nI j4)), (5, .int (nI j5)), (8, .int v14), (9, .int (s17.1)), (10, .int (f_X10_line s5 (nI j4) 1)), (11, .int (s17.2.1)), (12, .int (s17.2.2)), (13, .int ((16 + (8 * (nI j5))) + nI j17))]) dL_combs_237 (by decide) rfl ?_
                      refine g_iload C (i := 8) dL_combs_239 7 rfl ?_
                      refine g_iconst C (v := 2) dL_combs_241 (by decide) ?_
                      refine g_irem C dL_combs_242 (by decide) ?_
                      refine g_iconst C (v := 1) dL_combs_243 (by decide) ?_
                      have J20 : ∀ (v19 : Int32), (if (v14 - v14 / 2 * 2) = 1 then (f_L_at s5 ((nI j4) - 1) ((f_X10_line s5 ((nI j4) - 1) 1) + ((16 + (8 * (nI j5))) + nI j17))) else 0) = v19 → K s5 φ 271 [(0, .ref (ad 0)), (1, .int v1), (2, .int (f_X10_count σ 17)), (3, .ref (ad 55)), (4, .int (nI j4)), (5, .int (nI j5)), (8, .int v14), (9, .int (s17.1)), (10, .int (f_X10_line s5 (nI j4) 1)), (11, .int (s17.2.1)), (12, .int (s17.2.2)), (13, .int ((16 + (8 * (nI j5))) + nI j17)), (14, .int v18)] [.int v19] := by
                        intro v19 ev19
                        refine g_istore C (i := 15) (lv' := [(15, .int v19), (0, .ref (ad 0)), (1, .int v1), (2, .int (f_X10_count σ 17)), (3, .ref (ad 55)), (4, .int (nI j4)), (5, .int (nI j5)), (8, .int v14), (9, .int (s17.1)), (10, .int (f_X10_line s5 (nI j4) 1)), (11, .int (s17.2.1)), (12, .int (s17.2.2)), (13, .int ((16 + (8 * (nI j5))) + nI j17)), (14, .int v18)]) dL_combs_271 (by decide) rfl ?_
                        refine g_iload C (i := 8) dL_combs_273 7 rfl ?_
                        refine g_iconst C (v := 1) dL_combs_275 (by decide) ?_
                        have J22 : ∀ (v21 : Int32), (if v14 ≤ 1 then 0 else (f_L_at s5 ((nI j4) + 1) ((f_X10_line s5 ((nI j4) + 1) 1) + ((16 + (8 * (nI j5))) + nI j17)))) = v21 → K s5 φ 303 [(0, .ref (ad 0)), (1, .int v1), (2, .int (f_X10_count σ 17)), (3, .ref (ad 55)), (4, .int (nI j4)), (5, .int (nI j5)), (8, .int v14), (9, .int (s17.1)), (10, .int (f_X10_line s5 (nI j4) 1)), (11, .int (s17.2.1)), (12, .int (s17.2.2)), (13, .int ((16 + (8 * (nI j5))) + nI j17)), (14, .int v18), (15, .int v19)] [.int v21] := by
                          intro v21 ev21
                          refine g_istore C (i := 16) (lv' := [(16, .int v21), (0, .ref (ad 0)), (1, .int v1), (2, .int (f_X10_count σ 17)), (3, .ref (ad 55)), (4, .int (nI j4)), (5, .int (nI j5)), (8, .int v14), (9, .int (s17.1)), (10, .int (f_X10_line s5 (nI j4) 1)), (11, .int (s17.2.1)), (12, .int (s17.2.2)), (13, .int ((16 + (8 * (nI j5))) + nI j17)), (14, .int v18), (15, .int v19)]) dL_combs_303 (by decide) rfl ?_
                          refine g_iload C (i := 8) dL_combs_305 7 rfl ?_
                          have J24 : ∀ (v23 : Int32), (if v14 = 0 then (((2 * v18) - (f_L_at s5 (nI j4) (((f_X10_line s5 (nI j4) 1) + ((16 + (8 * (nI j5))) + nI j17)) - 2))) - (f_L_at s5 (nI j4) (((f_X10_line s5 (nI j4) 1) + ((16 + (8 * (nI j5))) + nI j17)) + 2))) else (if v14 = 1 then (2 * (v18 - v19)) else (if v14 = 2 then (2 * (v18 - v21)) else (((2 * v18) - v19) - v21)))) = v23 → K s5 φ 387 [(0, .ref (ad 0)), (1, .int v1), (2, .int (f_X10_count σ 17)), (3, .ref (ad 55)), (4, .int (nI j4)), (5, .int (nI j5)), (8, .int v14), (9, .int (s17.1)), (10, .int (f_X10_line s5 (nI j4) 1)), (11, .int (s17.2.1)), (12, .int (s17.2.2)), (13, .int ((16 + (8 * (nI j5))) + nI j17))] [.int v23] := by
                            intro v23 ev23
                            refine g_istore C (i := 17) (lv' := [(17, .int v23), (0, .ref (ad 0)), (1, .int v1), (2, .int (f_X10_count σ 17)), (3, .ref (ad 55)), (4, .int (nI j4)), (5, .int (nI j5)), (8, .int v14), (9, .int (s17.1)), (10, .int (f_X10_line s5 (nI j4) 1)), (11, .int (s17.2.1)), (12, .int (s17.2.2)), (13, .int ((16 + (8 * (nI j5))) + nI j17))]) dL_combs_387 (by decide) rfl ?_
                            refine g_iload C (i := 9) dL_combs_389 8 rfl ?_
                            refine g_iload C (i := 17) dL_combs_391 0 rfl ?_
                            refine g_isub C dL_combs_393 ?_
                            refine g_istore C (i := 9) (lv' := [(9, .int ((s17.1) - v23)), (17, .int v23), (0, .ref (ad 0)), (1, .int v1), (2, .int (f_X10_count σ 17)), (3, .ref (ad 55)), (4, .int (nI j4)), (5, .int (nI j5)), (8, .int v14), (10, .int (f_X10_line s5 (nI j4) 1)), (11, .int (s17.2.1)), (12, .int (s17.2.2)), (13, .int ((16 + (8 * (nI j5))) + nI j17))]) dL_combs_394 (by decide) rfl ?_
                            refine g_iload C (i := 11) dL_combs_396 10 rfl ?_
                            refine g_iload C (i := 17) dL_combs_398 1 rfl ?_
                            refine g_iload C (i := 10) dL_combs_400 9 rfl ?_
                            refine g_iload C (i := 13) dL_combs_402 12 rfl ?_
                            refine g_iadd C dL_combs_404 ?_
                            refine g_iconst C (v := 2) dL_combs_405 (by decide) ?_
                            refine g_iload C (i := 4) dL_combs_406 6 rfl ?_
                            refine g_imul C dL_combs_408 ?_
                            refine g_iadd C dL_combs_409 ?_
                            refine g_callS C (st := [.int v23, .int (s17.2.1)]) (c_L_sine l D ad dA z0 tt s5 φ (((f_X10_line s5 (nI j4) 1) + ((16 + (8 * (nI j5))) + nI j17)) + (2 * (nI j4)))) rfl ml_L_15 sm_L_sine in_L co_L_sine dyS_L_sine rfl rfl ⟨(Nat.le_of_ble_eq_true rfl), (Nat.le_of_ble_eq_true rfl)⟩ dL_combs_410 rfl (Nat.le_of_ble_eq_true rfl) (g_fni ?_)
                            refine g_imul C dL_combs_413 ?_
                            refine g_iadd C dL_combs_414 ?_
                            refine g_nmi C (fun v25 ev25 => ?_)
                            refine g_istore C (i := 11) (lv' := [(11, .int v25), (9, .int ((s17.1) - v23)), (17, .int v23), (0, .ref (ad 0)), (1, .int v1), (2, .int (f_X10_count σ 17)), (3, .ref (ad 55)), (4, .int (nI j4)), (5, .int (nI j5)), (8, .int v14), (10, .int (f_X10_line s5 (nI j4) 1)), (12, .int (s17.2.2)), (13, .int ((16 + (8 * (nI j5))) + nI j17))]) dL_combs_415 (by decide) rfl ?_
                            refine g_iload C (i := 12) dL_combs_417 11 rfl ?_
                            refine g_iload C (i := 17) dL_combs_419 2 rfl ?_
                            refine g_iload C (i := 10) dL_combs_421 10 rfl ?_
                            refine g_iload C (i := 13) dL_combs_423 12 rfl ?_
                            refine g_iadd C dL_combs_425 ?_
                            refine g_iconst C (v := 2) dL_combs_426 (by decide) ?_
                            refine g_iload C (i := 4) dL_combs_427 7 rfl ?_
                            refine g_imul C dL_combs_429 ?_
                            refine g_iadd C dL_combs_430 ?_
                            refine g_callS C (st := [.int v23, .int (s17.2.2)]) (c_L_cosine l D ad dA z0 tt s5 φ (((f_X10_line s5 (nI j4) 1) + ((16 + (8 * (nI j5))) + nI j17)) + (2 * (nI j4)))) rfl ml_L_29 sm_L_cosine in_L co_L_cosine dyS_L_cosine rfl rfl ⟨(Nat.le_of_ble_eq_true rfl), (Nat.le_of_ble_eq_true rfl)⟩ dL_combs_431 rfl (Nat.le_of_ble_eq_true rfl) (g_fni ?_)
                            refine g_imul C dL_combs_434 ?_
                            refine g_iadd C dL_combs_435 ?_
                            refine g_nmi C (fun v26 ev26 => ?_)
                            refine g_istore C (i := 12) (lv' := [(12, .int v26), (11, .int v25), (9, .int ((s17.1) - v23)), (17, .int v23), (0, .ref (ad 0)), (1, .int v1), (2, .int (f_X10_count σ 17)), (3, .ref (ad 55)), (4, .int (nI j4)), (5, .int (nI j5)), (8, .int v14), (10, .int (f_X10_line s5 (nI j4) 1)), (13, .int ((16 + (8 * (nI j5))) + nI j17))]) dL_combs_436 (by decide) rfl ?_
                            refine g_iinc C (i := 13) (v := (16 + (8 * (nI j5))) + nI (j17 + 1)) (lv' := [(13, .int ((16 + (8 * (nI j5))) + nI (j17 + 1))), (12, .int v26), (11, .int v25), (9, .int ((s17.1) - v23)), (17, .int v23), (0, .ref (ad 0)), (1, .int v1), (2, .int (f_X10_count σ 17)), (3, .ref (ad 55)), (4, .int (nI j4)), (5, .int (nI j5)), (8, .int v14), (10, .int (f_X10_line s5 (nI j4) 1))]) dL_combs_438 12 rfl (nI_1s _ _) (by decide) rfl ?_
                            refine g_goto C (tgt := 213) dL_combs_441 (by decide) ?_
                            refine g_loc C [5, 6, 7, 8, 9, 10, 11, 3, 12, 2, 1, 0] rfl ?_
                            refine kk ((s17.1) - v23, v25, v26) ?_
                            subst ev26
                            subst ev25
                            subst ev23
                            subst ev21
                            subst ev19
                            subst ev18
                            exact b_L_combs_213_eq _ _ _ _ _ _
                          refine g_if_ne C (tgt := 345) dL_combs_307 (by decide) (fun h17 => ?_) (fun h17 => ?_)
                          · refine g_iload C (i := 8) dL_combs_345 7 rfl ?_
                            refine g_iconst C (v := 1) dL_combs_347 (by decide) ?_
                            refine g_icmp_ne C (tgt := 361) dL_combs_348 (by decide) (fun h18 => ?_) (fun h18 => ?_)
                            · refine g_iload C (i := 8) dL_combs_361 7 rfl ?_
                              refine g_iconst C (v := 2) dL_combs_363 (by decide) ?_
                              refine g_icmp_ne C (tgt := 377) dL_combs_364 (by decide) (fun h19 => ?_) (fun h19 => ?_)
                              · refine g_iconst C (v := 2) dL_combs_377 (by decide) ?_
                                refine g_iload C (i := 14) dL_combs_378 13 rfl ?_
                                refine g_imul C dL_combs_380 ?_
                                refine g_iload C (i := 15) dL_combs_381 14 rfl ?_
                                refine g_isub C dL_combs_383 ?_
                                refine g_iload C (i := 16) dL_combs_384 0 rfl ?_
                                refine g_isub C dL_combs_386 ?_
                                refine g_loc C [1, 2, 3, 4, 5, 6, 7, 8, 9, 10, 11, 12] rfl ?_
                                exact J24 _ (((if_neg h17).trans ((if_neg h18).trans (if_neg h19))))
                              · refine g_iconst C (v := 2) dL_combs_367 (by decide) ?_
                                refine g_iload C (i := 14) dL_combs_368 13 rfl ?_
                                refine g_iload C (i := 16) dL_combs_370 0 rfl ?_
                                refine g_isub C dL_combs_372 ?_
                                refine g_imul C dL_combs_373 ?_
                                refine g_goto C (tgt := 387) dL_combs_374 (by decide) ?_
                                refine g_loc C [1, 2, 3, 4, 5, 6, 7, 8, 9, 10, 11, 12] rfl ?_
                                exact J24 _ (((if_neg h17).trans ((if_neg h18).trans (if_pos h19))))
                            · refine g_iconst C (v := 2) dL_combs_351 (by decide) ?_
                              refine g_iload C (i := 14) dL_combs_352 13 rfl ?_
                              refine g_iload C (i := 15) dL_combs_354 14 rfl ?_
                              refine g_isub C dL_combs_356 ?_
                              refine g_imul C dL_combs_357 ?_
                              refine g_goto C (tgt := 387) dL_combs_358 (by decide) ?_
                              refine g_loc C [1, 2, 3, 4, 5, 6, 7, 8, 9, 10, 11, 12] rfl ?_
                              exact J24 _ (((if_neg h17).trans (if_pos h18)))
                          · refine g_iconst C (v := 2) dL_combs_310 (by decide) ?_
                            refine g_iload C (i := 14) dL_combs_311 13 rfl ?_
                            refine g_imul C dL_combs_313 ?_
                            refine g_aload_n C (i := 0) dL_combs_314 rfl 1 rfl ?_
                            refine g_iload C (i := 4) dL_combs_315 5 rfl ?_
                            refine g_iload C (i := 10) dL_combs_317 9 rfl ?_
                            refine g_iload C (i := 13) dL_combs_319 12 rfl ?_
                            refine g_iadd C dL_combs_321 ?_
                            refine g_iconst C (v := 2) dL_combs_322 (by decide) ?_
                            refine g_isub C dL_combs_323 ?_
                            refine g_callS C (st := [.int (2 * v18)]) (c_L_at l D ad dA z0 tt s5 φ (nI j4) (((f_X10_line s5 (nI j4) 1) + ((16 + (8 * (nI j5))) + nI j17)) - 2)) rfl ml_L_22 sm_L_at in_L co_L_at dyS_L_at rfl rfl ⟨(Nat.le_of_ble_eq_true rfl), (Nat.le_of_ble_eq_true rfl)⟩ dL_combs_324 rfl (Nat.le_of_ble_eq_true rfl) (g_fni ?_)
                            refine g_isub C dL_combs_327 ?_
                            refine g_aload_n C (i := 0) dL_combs_328 rfl 1 rfl ?_
                            refine g_iload C (i := 4) dL_combs_329 5 rfl ?_
                            refine g_iload C (i := 10) dL_combs_331 9 rfl ?_
                            refine g_iload C (i := 13) dL_combs_333 12 rfl ?_
                            refine g_iadd C dL_combs_335 ?_
                            refine g_iconst C (v := 2) dL_combs_336 (by decide) ?_
                            refine g_iadd C dL_combs_337 ?_
                            refine g_callS C (st := [.int ((2 * v18) - (f_L_at s5 (nI j4) (((f_X10_line s5 (nI j4) 1) + ((16 + (8 * (nI j5))) + nI j17)) - 2)))]) (c_L_at l D ad dA z0 tt s5 φ (nI j4) (((f_X10_line s5 (nI j4) 1) + ((16 + (8 * (nI j5))) + nI j17)) + 2)) rfl ml_L_22 sm_L_at in_L co_L_at dyS_L_at rfl rfl ⟨(Nat.le_of_ble_eq_true rfl), (Nat.le_of_ble_eq_true rfl)⟩ dL_combs_338 rfl (Nat.le_of_ble_eq_true rfl) (g_fni ?_)
                            refine g_isub C dL_combs_341 ?_
                            refine g_goto C (tgt := 387) dL_combs_342 (by decide) ?_
                            refine g_loc C [1, 2, 3, 4, 5, 6, 7, 8, 9, 10, 11, 12] rfl ?_
                            exact J24 _ ((if_pos h17))
                        refine g_icmp_le C (tgt := 302) dL_combs_276 (by decide) (fun h16 => ?_) (fun h16 => ?_)
                        · refine g_iconst C (v := 0) dL_combs_302 (by decide) ?_
                          refine g_loc C [1, 2, 3, 4, 5, 6, 7, 8, 9, 10, 11, 12, 13, 0] rfl ?_
                          exact J22 _ ((if_pos h16))
                        · refine g_aload_n C (i := 0) dL_combs_279 rfl 1 rfl ?_
                          refine g_iload C (i := 4) dL_combs_280 5 rfl ?_
                          refine g_iconst C (v := 1) dL_combs_282 (by decide) ?_
                          refine g_iadd C dL_combs_283 ?_
                          refine g_aload_n C (i := 0) dL_combs_284 rfl 1 rfl ?_
                          refine g_iload C (i := 4) dL_combs_285 5 rfl ?_
                          refine g_iconst C (v := 1) dL_combs_287 (by decide) ?_
                          refine g_iadd C dL_combs_288 ?_
                          refine g_iconst C (v := 1) dL_combs_289 (by decide) ?_
                          refine g_callV C (st := [.int ((nI j4) + 1), .ref (ad 0)]) (c_X10_line l D ad dA z0 tt s5 φ ((nI j4) + 1) 1) rfl ml_L_38 im_X10_line se_X10_line in_X10 co_X10_line dyV_X10_line rfl rfl ⟨(Nat.le_of_ble_eq_true rfl), (Nat.le_of_ble_eq_true rfl)⟩ 0 10 (fun f => at_0 ad dA s5 f) rfl dL_combs_290 rfl (Nat.le_of_ble_eq_true rfl) (g_fni ?_)
                          refine g_iload C (i := 13) dL_combs_293 12 rfl ?_
                          refine g_iadd C dL_combs_295 ?_
                          refine g_callS C (st := []) (c_L_at l D ad dA z0 tt s5 φ ((nI j4) + 1) ((f_X10_line s5 ((nI j4) + 1) 1) + ((16 + (8 * (nI j5))) + nI j17))) rfl ml_L_22 sm_L_at in_L co_L_at dyS_L_at rfl rfl ⟨(Nat.le_of_ble_eq_true rfl), (Nat.le_of_ble_eq_true rfl)⟩ dL_combs_296 rfl (Nat.le_of_ble_eq_true rfl) (g_fni ?_)
                          refine g_goto C (tgt := 303) dL_combs_299 (by decide) ?_
                          refine g_loc C [1, 2, 3, 4, 5, 6, 7, 8, 9, 10, 11, 12, 13, 0] rfl ?_
                          exact J22 _ ((if_neg h16))
                      refine g_icmp_ne C (tgt := 270) dL_combs_244 (by decide) (fun h15 => ?_) (fun h15 => ?_)
                      · refine g_iconst C (v := 0) dL_combs_270 (by decide) ?_
                        refine g_loc C [1, 2, 3, 4, 5, 6, 7, 8, 9, 10, 11, 12, 0] rfl ?_
                        exact J20 _ ((if_neg h15))
                      · refine g_aload_n C (i := 0) dL_combs_247 rfl 1 rfl ?_
                        refine g_iload C (i := 4) dL_combs_248 5 rfl ?_
                        refine g_iconst C (v := 1) dL_combs_250 (by decide) ?_
                        refine g_isub C dL_combs_251 ?_
                        refine g_aload_n C (i := 0) dL_combs_252 rfl 1 rfl ?_
                        refine g_iload C (i := 4) dL_combs_253 5 rfl ?_
                        refine g_iconst C (v := 1) dL_combs_255 (by decide) ?_
                        refine g_isub C dL_combs_256 ?_
                        refine g_iconst C (v := 1) dL_combs_257 (by decide) ?_
                        refine g_callV C (st := [.int ((nI j4) - 1), .ref (ad 0)]) (c_X10_line l D ad dA z0 tt s5 φ ((nI j4) - 1) 1) rfl ml_L_38 im_X10_line se_X10_line in_X10 co_X10_line dyV_X10_line rfl rfl ⟨(Nat.le_of_ble_eq_true rfl), (Nat.le_of_ble_eq_true rfl)⟩ 0 10 (fun f => at_0 ad dA s5 f) rfl dL_combs_258 rfl (Nat.le_of_ble_eq_true rfl) (g_fni ?_)
                        refine g_iload C (i := 13) dL_combs_261 12 rfl ?_
                        refine g_iadd C dL_combs_263 ?_
                        refine g_callS C (st := []) (c_L_at l D ad dA z0 tt s5 φ ((nI j4) - 1) ((f_X10_line s5 ((nI j4) - 1) 1) + ((16 + (8 * (nI j5))) + nI j17))) rfl ml_L_22 sm_L_at in_L co_L_at dyS_L_at rfl rfl ⟨(Nat.le_of_ble_eq_true rfl), (Nat.le_of_ble_eq_true rfl)⟩ dL_combs_264 rfl (Nat.le_of_ble_eq_true rfl) (g_fni ?_)
                        refine g_goto C (tgt := 271) dL_combs_267 (by decide) ?_
                        refine g_loc C [1, 2, 3, 4, 5, 6, 7, 8, 9, 10, 11, 12, 0] rfl ?_
                        exact J20 _ ((if_pos h15))
                  · generalize et17 : loopF (b_L_combs_213 j4 j5 s5 v14) (cnt8 (16 + (8 * (nI j5)))) (v16, 0, 0) = t17
                    change K s5 φ 213 [(0, .ref (ad 0)), (1, .int v1), (2, .int (f_X10_count σ 17)), (3, .ref (ad 55)), (4, .int (nI j4)), (5, .int (nI j5)), (8, .int v14), (9, .int (t17.1)), (10, .int (f_X10_line s5 (nI j4) 1)), (11, .int (t17.2.1)), (12, .int (t17.2.2)), (13, .int ((16 + (8 * (nI j5))) + nI (cnt8 (16 + (8 * (nI j5))))))] []
                    refine g_iload C (i := 13) dL_combs_213 11 rfl ?_
                    refine g_bipush C (v := 24) dL_combs_215 (by decide) ?_
                    refine g_bipush C (v := 8) dL_combs_217 (by decide) ?_
                    refine g_iload C (i := 5) dL_combs_219 5 rfl ?_
                    refine g_imul C dL_combs_221 ?_
                    refine g_iadd C dL_combs_222 ?_
                    refine g_icmp_ge C (tgt := 444) dL_combs_223 (by decide) (fun h20 => ?_) (fun h20 => ?_)
                    · refine g_aload_n C (i := 3) dL_combs_444 rfl 3 rfl ?_
                      refine g_iload C (i := 8) dL_combs_445 6 rfl ?_
                      refine g_dup2 C dL_combs_447 rfl rfl ?_
                      refine ld_55 C ha (by rw [← ev14]; exact way_in) dL_combs_448 ?_
                      refine g_iconst C (v := 1) dL_combs_449 (by decide) ?_
                      refine g_iadd C dL_combs_450 ?_
                      refine sd_55 C ha (by rw [← ev14]; exact way_in) dL_combs_451 ?_
                      refine g_nms C (fun σ27 eσ27 => ?_)
                      refine g_aload_n C (i := 0) dL_combs_452 rfl 0 rfl ?_
                      refine g_iload C (i := 4) dL_combs_453 4 rfl ?_
                      refine g_bipush C (v := 6) dL_combs_455 (by decide) ?_
                      refine g_callV C (st := []) (c_X10_line l D ad dA z0 tt σ27 φ (nI j4) 6) rfl ml_L_38 im_X10_line se_X10_line in_X10 co_X10_line dyV_X10_line rfl rfl ⟨(Nat.le_of_ble_eq_true rfl), (Nat.le_of_ble_eq_true rfl)⟩ 0 10 (fun f => at_0 ad dA σ27 f) rfl dL_combs_457 rfl (Nat.le_of_ble_eq_true rfl) (g_fni ?_)
                      have J29 : ∀ (v28 : Int32), (if (f_X10_line σ27 (nI j4) 6) = 0 then 1 else (if (t17.2.1) = 0 then (if (t17.2.2) = 0 then 1 else 0) else 0)) = v28 → K σ27 φ 478 [(0, .ref (ad 0)), (1, .int v1), (2, .int (f_X10_count σ 17)), (3, .ref (ad 55)), (4, .int (nI j4)), (5, .int (nI j5)), (8, .int v14), (9, .int (t17.1))] [.int v28] := by
                        intro v28 ev28
                        refine g_istore C (i := 13) (lv' := [(13, .int v28), (0, .ref (ad 0)), (1, .int v1), (2, .int (f_X10_count σ 17)), (3, .ref (ad 55)), (4, .int (nI j4)), (5, .int (nI j5)), (8, .int v14), (9, .int (t17.1))]) dL_combs_478 (by decide) rfl ?_
                        refine g_iload_n C (i := 1) dL_combs_480 rfl 2 rfl ?_
                        have J31 : ∀ (v30 : Int32), (if v1 = 0 then 1 else (if (nI j4) = 0 then 1 else 0)) = v30 → K σ27 φ 494 [(0, .ref (ad 0)), (1, .int v1), (2, .int (f_X10_count σ 17)), (3, .ref (ad 55)), (4, .int (nI j4)), (5, .int (nI j5)), (8, .int v14), (9, .int (t17.1)), (13, .int v28)] [.int v30] := by
                          intro v30 ev30
                          refine g_istore C (i := 14) (lv' := [(14, .int v30), (0, .ref (ad 0)), (1, .int v1), (2, .int (f_X10_count σ 17)), (3, .ref (ad 55)), (4, .int (nI j4)), (5, .int (nI j5)), (8, .int v14), (9, .int (t17.1)), (13, .int v28)]) dL_combs_494 (by decide) rfl ?_
                          refine g_aload_n C (i := 0) dL_combs_496 rfl 1 rfl ?_
                          refine g_iload C (i := 4) dL_combs_497 5 rfl ?_
                          refine g_iload C (i := 5) dL_combs_499 6 rfl ?_
                          refine g_callV C (st := []) (c_X10_combed l D ad dA z0 tt σ27 φ (nI j4) (nI j5)) rfl ml_L_49 im_X10_combed se_X10_combed in_X10 co_X10_combed dyV_X10_combed rfl rfl ⟨(Nat.le_of_ble_eq_true rfl), (Nat.le_of_ble_eq_true rfl)⟩ 0 10 (fun f => at_0 ad dA σ27 f) rfl dL_combs_501 rfl (Nat.le_of_ble_eq_true rfl) (g_fni ?_)
                          refine g_iload C (i := 8) dL_combs_504 7 rfl ?_
                          refine g_icmp_ne C (tgt := 561) dL_combs_506 (by decide) (fun h26 => ?_) (fun h26 => ?_)
                          · refine g_iconst C (v := 0) dL_combs_561 (by decide) ?_
                            have e0 : f_L_combs σ φ = (0, σ27) := by
                              subst ev30
                              subst ev28
                              subst eσ27
                              subst et17
                              subst ev16
                              subst ev14
                              subst ev8
                              subst ev6
                              subst eσ3
                              subst ev1
                              have eF := hF5.trans (loopE_inl n5 ((b_L_combs_49_eq _ _ _ _ _ _).trans (if_neg h26)))
                              have eF := hF4.trans (loopE_inl n4 ((b_L_combs_39_eq _ _ _ _ _).trans (sumB_inl eF)))
                              exact ((f_L_combs_eq _ _).trans (sumE_inl eF))
                            exact hi _ _ _ _ _ _ rfl dL_combs_562 (lv_narrowZ (Or.inl rfl)).1 ⟨(congrArg (fun z => some (Value.int z.1)) e0).symm, (congrArg (fun z => z.2) e0).symm, rfl⟩
                          · refine g_aload_n C (i := 0) dL_combs_509 rfl 1 rfl ?_
                            refine g_iload C (i := 4) dL_combs_510 5 rfl ?_
                            refine g_iload C (i := 5) dL_combs_512 6 rfl ?_
                            refine g_callV C (st := []) (c_X10_luma l D ad dA z0 tt σ27 φ (nI j4) (nI j5)) rfl ml_L_52 im_X10_luma se_X10_luma in_X10 co_X10_luma dyV_X10_luma rfl rfl ⟨(Nat.le_of_ble_eq_true rfl), (Nat.le_of_ble_eq_true rfl)⟩ 0 10 (fun f => at_0 ad dA σ27 f) rfl dL_combs_514 rfl (Nat.le_of_ble_eq_true rfl) (g_fni ?_)
                            refine g_iload C (i := 9) dL_combs_517 8 rfl ?_
                            refine g_bipush C (v := 32) dL_combs_519 (by decide) ?_
                            refine g_callS C (st := [.int (f_X10_luma σ27 (nI j4) (nI j5))]) (c_L_floor l D ad dA z0 tt σ27 φ (t17.1) 32 (by decide)) rfl ml_L_26 sm_L_floor in_L co_L_floor dyS_L_floor rfl rfl ⟨(Nat.le_of_ble_eq_true rfl), (Nat.le_of_ble_eq_true rfl)⟩ dL_combs_521 rfl (Nat.le_of_ble_eq_true rfl) (g_fni ?_)
                            refine g_icmp_ne C (tgt := 561) dL_combs_524 (by decide) (fun h27 => ?_) (fun h27 => ?_)
                            · refine g_iconst C (v := 0) dL_combs_561 (by decide) ?_
                              have e0 : f_L_combs σ φ = (0, σ27) := by
                                subst ev30
                                subst ev28
                                subst eσ27
                                subst et17
                                subst ev16
                                subst ev14
                                subst ev8
                                subst ev6
                                subst eσ3
                                subst ev1
                                have eF := hF5.trans (loopE_inl n5 ((b_L_combs_49_eq _ _ _ _ _ _).trans ((if_pos h26).trans (if_neg h27))))
                                have eF := hF4.trans (loopE_inl n4 ((b_L_combs_39_eq _ _ _ _ _).trans (sumB_inl eF)))
                                exact ((f_L_combs_eq _ _).trans (sumE_inl eF))
                              exact hi _ _ _ _ _ _ rfl dL_combs_562 (lv_narrowZ (Or.inl rfl)).1 ⟨(congrArg (fun z => some (Value.int z.1)) e0).symm, (congrArg (fun z => z.2) e0).symm, rfl⟩
                            · refine g_iload C (i := 14) dL_combs_527 0 rfl ?_
                              refine g_if_eq C (tgt := 563) dL_combs_529 (by decide) (fun h28 => ?_) (fun h28 => ?_)
                              · refine g_iinc C (i := 5) (v := nI (j5 + 1)) (lv' := [(5, .int (nI (j5 + 1))), (14, .int v30), (0, .ref (ad 0)), (1, .int v1), (2, .int (f_X10_count σ 17)), (3, .ref (ad 55)), (4, .int (nI j4)), (8, .int v14), (9, .int (t17.1)), (13, .int v28)]) dL_combs_563 6 rfl (nI_1 _) (by decide) rfl ?_
                                refine g_goto C (tgt := 49) dL_combs_566 (by decide) ?_
                                refine g_loc C [2, 3, 4, 5, 6, 0] rfl ?_
                                refine kk σ27 ?_
                                subst ev30
                                subst ev28
                                subst eσ27
                                subst et17
                                subst ev16
                                subst ev14
                                subst ev8
                                subst ev6
                                exact ((b_L_combs_49_eq _ _ _ _ _ _).trans ((if_pos h26).trans ((if_pos h27).trans (if_pos h28))))
                              · refine g_iload C (i := 13) dL_combs_532 9 rfl ?_
                                refine g_if_eq C (tgt := 563) dL_combs_534 (by decide) (fun h29 => ?_) (fun h29 => ?_)
                                · refine g_iinc C (i := 5) (v := nI (j5 + 1)) (lv' := [(5, .int (nI (j5 + 1))), (14, .int v30), (0, .ref (ad 0)), (1, .int v1), (2, .int (f_X10_count σ 17)), (3, .ref (ad 55)), (4, .int (nI j4)), (8, .int v14), (9, .int (t17.1)), (13, .int v28)]) dL_combs_563 6 rfl (nI_1 _) (by decide) rfl ?_
                                  refine g_goto C (tgt := 49) dL_combs_566 (by decide) ?_
                                  refine g_loc C [2, 3, 4, 5, 6, 0] rfl ?_
                                  refine kk σ27 ?_
                                  subst ev30
                                  subst ev28
                                  subst eσ27
                                  subst et17
                                  subst ev16
                                  subst ev14
                                  subst ev8
                                  subst ev6
                                  exact ((b_L_combs_49_eq _ _ _ _ _ _).trans ((if_pos h26).trans ((if_pos h27).trans ((if_neg h28).trans (if_pos h29)))))
                                · refine g_aload_n C (i := 0) dL_combs_537 rfl 1 rfl ?_
                                  refine g_iload C (i := 4) dL_combs_538 5 rfl ?_
                                  refine g_iload C (i := 5) dL_combs_540 6 rfl ?_
                                  refine g_iconst C (v := 0) dL_combs_542 (by decide) ?_
                                  refine g_callV C (st := []) (c_X10_thousandths l D ad dA z0 tt σ27 φ (nI j4) (nI j5) 0) rfl ml_L_55 im_X10_thousandths se_X10_thousandths in_X10 co_X10_thousandths dyV_X10_thousandths rfl rfl ⟨(Nat.le_of_ble_eq_true rfl), (Nat.le_of_ble_eq_true rfl)⟩ 0 10 (fun f => at_0 ad dA σ27 f) rfl dL_combs_543 rfl (Nat.le_of_ble_eq_true rfl) (g_fni ?_)
                                  refine g_if_ne C (tgt := 561) dL_combs_546 (by decide) (fun h30 => ?_) (fun h30 => ?_)
                                  · refine g_iconst C (v := 0) dL_combs_561 (by decide) ?_
                                    have e0 : f_L_combs σ φ = (0, σ27) := by
                                      subst ev30
                                      subst ev28
                                      subst eσ27
                                      subst et17
                                      subst ev16
                                      subst ev14
                                      subst ev8
                                      subst ev6
                                      subst eσ3
                                      subst ev1
                                      have eF := hF5.trans (loopE_inl n5 ((b_L_combs_49_eq _ _ _ _ _ _).trans ((if_pos h26).trans ((if_pos h27).trans ((if_neg h28).trans ((if_neg h29).trans (if_neg h30)))))))
                                      have eF := hF4.trans (loopE_inl n4 ((b_L_combs_39_eq _ _ _ _ _).trans (sumB_inl eF)))
                                      exact ((f_L_combs_eq _ _).trans (sumE_inl eF))
                                    exact hi _ _ _ _ _ _ rfl dL_combs_562 (lv_narrowZ (Or.inl rfl)).1 ⟨(congrArg (fun z => some (Value.int z.1)) e0).symm, (congrArg (fun z => z.2) e0).symm, rfl⟩
                                  · refine g_aload_n C (i := 0) dL_combs_549 rfl 1 rfl ?_
                                    refine g_iload C (i := 4) dL_combs_550 5 rfl ?_
                                    refine g_iload C (i := 5) dL_combs_552 6 rfl ?_
                                    refine g_iconst C (v := 1) dL_combs_554 (by decide) ?_
                                    refine g_callV C (st := []) (c_X10_thousandths l D ad dA z0 tt σ27 φ (nI j4) (nI j5) 1) rfl ml_L_55 im_X10_thousandths se_X10_thousandths in_X10 co_X10_thousandths dyV_X10_thousandths rfl rfl ⟨(Nat.le_of_ble_eq_true rfl), (Nat.le_of_ble_eq_true rfl)⟩ 0 10 (fun f => at_0 ad dA σ27 f) rfl dL_combs_555 rfl (Nat.le_of_ble_eq_true rfl) (g_fni ?_)
                                    refine g_if_eq C (tgt := 563) dL_combs_558 (by decide) (fun h31 => ?_) (fun h31 => ?_)
                                    · refine g_iinc C (i := 5) (v := nI (j5 + 1)) (lv' := [(5, .int (nI (j5 + 1))), (14, .int v30), (0, .ref (ad 0)), (1, .int v1), (2, .int (f_X10_count σ 17)), (3, .ref (ad 55)), (4, .int (nI j4)), (8, .int v14), (9, .int (t17.1)), (13, .int v28)]) dL_combs_563 6 rfl (nI_1 _) (by decide) rfl ?_
                                      refine g_goto C (tgt := 49) dL_combs_566 (by decide) ?_
                                      refine g_loc C [2, 3, 4, 5, 6, 0] rfl ?_
                                      refine kk σ27 ?_
                                      subst ev30
                                      subst ev28
                                      subst eσ27
                                      subst et17
                                      subst ev16
                                      subst ev14
                                      subst ev8
                                      subst ev6
                                      exact ((b_L_combs_49_eq _ _ _ _ _ _).trans ((if_pos h26).trans ((if_pos h27).trans ((if_neg h28).trans ((if_neg h29).trans ((if_pos h30).trans (if_pos h31)))))))
                                    · refine g_iconst C (v := 0) dL_combs_561 (by decide) ?_
                                      have e0 : f_L_combs σ φ = (0, σ27) := by
                                        subst ev30
                                        subst ev28
                                        subst eσ27
                                        subst et17
                                        subst ev16
                                        subst ev14
                                        subst ev8
                                        subst ev6
                                        subst eσ3
                                        subst ev1
                                        have eF := hF5.trans (loopE_inl n5 ((b_L_combs_49_eq _ _ _ _ _ _).trans ((if_pos h26).trans ((if_pos h27).trans ((if_neg h28).trans ((if_neg h29).trans ((if_pos h30).trans (if_neg h31))))))))
                                        have eF := hF4.trans (loopE_inl n4 ((b_L_combs_39_eq _ _ _ _ _).trans (sumB_inl eF)))
                                        exact ((f_L_combs_eq _ _).trans (sumE_inl eF))
                                      exact hi _ _ _ _ _ _ rfl dL_combs_562 (lv_narrowZ (Or.inl rfl)).1 ⟨(congrArg (fun z => some (Value.int z.1)) e0).symm, (congrArg (fun z => z.2) e0).symm, rfl⟩
                        refine g_if_eq C (tgt := 489) dL_combs_481 (by decide) (fun h24 => ?_) (fun h24 => ?_)
                        · refine g_iconst C (v := 1) dL_combs_489 (by decide) ?_
                          refine g_goto C (tgt := 494) dL_combs_490 (by decide) ?_
                          refine g_loc C [1, 2, 3, 4, 5, 6, 7, 8, 0] rfl ?_
                          exact J31 _ ((if_pos h24))
                        · refine g_iload C (i := 4) dL_combs_484 5 rfl ?_
                          refine g_if_ne C (tgt := 493) dL_combs_486 (by decide) (fun h25 => ?_) (fun h25 => ?_)
                          · refine g_iconst C (v := 0) dL_combs_493 (by decide) ?_
                            refine g_loc C [1, 2, 3, 4, 5, 6, 7, 8, 0] rfl ?_
                            exact J31 _ (((if_neg h24).trans (if_neg h25)))
                          · refine g_iconst C (v := 1) dL_combs_489 (by decide) ?_
                            refine g_goto C (tgt := 494) dL_combs_490 (by decide) ?_
                            refine g_loc C [1, 2, 3, 4, 5, 6, 7, 8, 0] rfl ?_
                            exact J31 _ (((if_neg h24).trans (if_pos h25)))
                      refine g_if_eq C (tgt := 473) dL_combs_460 (by decide) (fun h21 => ?_) (fun h21 => ?_)
                      · refine g_iconst C (v := 1) dL_combs_473 (by decide) ?_
                        refine g_goto C (tgt := 478) dL_combs_474 (by decide) ?_
                        refine g_loc C [0, 1, 2, 3, 4, 5, 6, 7] rfl ?_
                        exact J29 _ ((if_pos h21))
                      · refine g_iload C (i := 11) dL_combs_463 9 rfl ?_
                        refine g_if_ne C (tgt := 477) dL_combs_465 (by decide) (fun h22 => ?_) (fun h22 => ?_)
                        · refine g_iconst C (v := 0) dL_combs_477 (by decide) ?_
                          refine g_loc C [0, 1, 2, 3, 4, 5, 6, 7] rfl ?_
                          exact J29 _ (((if_neg h21).trans (if_neg h22)))
                        · refine g_iload C (i := 12) dL_combs_468 10 rfl ?_
                          refine g_if_ne C (tgt := 477) dL_combs_470 (by decide) (fun h23 => ?_) (fun h23 => ?_)
                          · refine g_iconst C (v := 0) dL_combs_477 (by decide) ?_
                            refine g_loc C [0, 1, 2, 3, 4, 5, 6, 7] rfl ?_
                            exact J29 _ (((if_neg h21).trans ((if_pos h22).trans (if_neg h23))))
                          · refine g_iconst C (v := 1) dL_combs_473 (by decide) ?_
                            refine g_goto C (tgt := 478) dL_combs_474 (by decide) ?_
                            refine g_loc C [0, 1, 2, 3, 4, 5, 6, 7] rfl ?_
                            exact J29 _ (((if_neg h21).trans ((if_pos h22).trans (if_pos h23))))
                    · refine absurd ?_ h20; rw [c24_eq]; exact c8_exit _
                refine g_icmp_eq C (tgt := 131) dL_combs_124 (by decide) (fun h8 => ?_) (fun h8 => ?_)
                · refine g_iconst C (v := 0) dL_combs_131 (by decide) ?_
                  refine g_goto C (tgt := 174) dL_combs_132 (by decide) ?_
                  refine g_loc C [1, 2, 3, 4, 5, 6] rfl ?_
                  exact J15 _ ((if_pos h8))
                · refine g_iload_n C (i := 2) dL_combs_127 rfl 3 rfl ?_
                  refine g_if_ne C (tgt := 135) dL_combs_128 (by decide) (fun h9 => ?_) (fun h9 => ?_)
                  · refine g_iload_n C (i := 2) dL_combs_135 rfl 3 rfl ?_
                    refine g_iconst C (v := 1) dL_combs_136 (by decide) ?_
                    refine g_icmp_ne C (tgt := 153) dL_combs_137 (by decide) (fun h10 => ?_) (fun h10 => ?_)
                    · refine g_iload C (i := 6) dL_combs_153 7 rfl ?_
                      have J11 : ∀ (v10 : Int32), (if v6 = 0 then 0 else 1) = v10 → K s5 φ 163 [(0, .ref (ad 0)), (1, .int v1), (2, .int (f_X10_count σ 17)), (3, .ref (ad 55)), (4, .int (nI j4)), (5, .int (nI j5)), (7, .int v8)] [.int v10] := by
                        intro v10 ev10
                        refine g_iload C (i := 7) dL_combs_163 6 rfl ?_
                        have J13 : ∀ (v12 : Int32), (if v8 = 0 then 0 else 2) = v12 → K s5 φ 173 [(0, .ref (ad 0)), (1, .int v1), (2, .int (f_X10_count σ 17)), (3, .ref (ad 55)), (4, .int (nI j4)), (5, .int (nI j5))] [.int v12, .int v10] := by
                          intro v12 ev12
                          refine g_iadd C dL_combs_173 ?_
                          refine g_loc C [0, 1, 2, 3, 4, 5] rfl ?_
                          subst ev12
                          subst ev10
                          exact J15 _ (((if_neg h8).trans ((if_neg h9).trans (if_neg h10))))
                        refine g_if_eq C (tgt := 172) dL_combs_165 (by decide) (fun h12 => ?_) (fun h12 => ?_)
                        · refine g_iconst C (v := 0) dL_combs_172 (by decide) ?_
                          refine g_loc C [0, 1, 2, 3, 4, 5] rfl ?_
                          exact J13 _ ((if_pos h12))
                        · refine g_iconst C (v := 2) dL_combs_168 (by decide) ?_
                          refine g_goto C (tgt := 173) dL_combs_169 (by decide) ?_
                          refine g_loc C [0, 1, 2, 3, 4, 5] rfl ?_
                          exact J13 _ ((if_neg h12))
                      refine g_if_eq C (tgt := 162) dL_combs_155 (by decide) (fun h11 => ?_) (fun h11 => ?_)
                      · refine g_iconst C (v := 0) dL_combs_162 (by decide) ?_
                        refine g_loc C [1, 2, 3, 4, 5, 6, 0] rfl ?_
                        exact J11 _ ((if_pos h11))
                      · refine g_iconst C (v := 1) dL_combs_158 (by decide) ?_
                        refine g_goto C (tgt := 163) dL_combs_159 (by decide) ?_
                        refine g_loc C [1, 2, 3, 4, 5, 6, 0] rfl ?_
                        exact J11 _ ((if_neg h11))
                    · refine g_iload C (i := 6) dL_combs_140 7 rfl ?_
                      refine g_if_eq C (tgt := 149) dL_combs_142 (by decide) (fun h13 => ?_) (fun h13 => ?_)
                      · refine g_iconst C (v := 2) dL_combs_149 (by decide) ?_
                        refine g_goto C (tgt := 174) dL_combs_150 (by decide) ?_
                        refine g_loc C [1, 2, 3, 4, 5, 6] rfl ?_
                        exact J15 _ (((if_neg h8).trans ((if_neg h9).trans ((if_pos h10).trans (if_pos h13)))))
                      · refine g_iconst C (v := 1) dL_combs_145 (by decide) ?_
                        refine g_goto C (tgt := 174) dL_combs_146 (by decide) ?_
                        refine g_loc C [1, 2, 3, 4, 5, 6] rfl ?_
                        exact J15 _ (((if_neg h8).trans ((if_neg h9).trans ((if_pos h10).trans (if_neg h13)))))
                  · refine g_iconst C (v := 0) dL_combs_131 (by decide) ?_
                    refine g_goto C (tgt := 174) dL_combs_132 (by decide) ?_
                    refine g_loc C [1, 2, 3, 4, 5, 6] rfl ?_
                    exact J15 _ (((if_neg h8).trans (if_pos h9)))
              refine g_icmp_ne C (tgt := 108) dL_combs_90 (by decide) (fun h6 => ?_) (fun h6 => ?_)
              · refine g_iload C (i := 4) dL_combs_108 5 rfl ?_
                refine g_bipush C (v := 7) dL_combs_110 (by decide) ?_
                refine g_icmp_ge C (tgt := 119) dL_combs_112 (by decide) (fun h7 => ?_) (fun h7 => ?_)
                · refine g_iconst C (v := 0) dL_combs_119 (by decide) ?_
                  refine g_loc C [1, 2, 3, 4, 5, 6, 0] rfl ?_
                  exact J9 _ (((if_neg h6).trans (if_pos h7)))
                · refine g_iconst C (v := 1) dL_combs_115 (by decide) ?_
                  refine g_goto C (tgt := 120) dL_combs_116 (by decide) ?_
                  refine g_loc C [1, 2, 3, 4, 5, 6, 0] rfl ?_
                  exact J9 _ (((if_neg h6).trans (if_neg h7)))
              · refine g_aload_n C (i := 0) dL_combs_93 rfl 1 rfl ?_
                refine g_iload C (i := 4) dL_combs_94 5 rfl ?_
                refine g_iload C (i := 4) dL_combs_96 5 rfl ?_
                refine g_iconst C (v := 1) dL_combs_98 (by decide) ?_
                refine g_iadd C dL_combs_99 ?_
                refine g_iload C (i := 5) dL_combs_100 6 rfl ?_
                refine g_callS C (st := []) (c_L_near l D ad dA z0 tt s5 φ (nI j4) ((nI j4) + 1) (nI j5)) rfl ml_L_45 sm_L_near in_L co_L_near dyS_L_near rfl rfl ⟨(Nat.le_of_ble_eq_true rfl), (Nat.le_of_ble_eq_true rfl)⟩ dL_combs_102 rfl (Nat.le_of_ble_eq_true rfl) (g_fni ?_)
                refine g_goto C (tgt := 120) dL_combs_105 (by decide) ?_
                refine g_loc C [1, 2, 3, 4, 5, 6, 0] rfl ?_
                exact J9 _ ((if_pos h6))
            refine g_icmp_ne C (tgt := 76) dL_combs_58 (by decide) (fun h4 => ?_) (fun h4 => ?_)
            · refine g_iload C (i := 4) dL_combs_76 4 rfl ?_
              refine g_if_le C (tgt := 85) dL_combs_78 (by decide) (fun h5 => ?_) (fun h5 => ?_)
              · refine g_iconst C (v := 0) dL_combs_85 (by decide) ?_
                refine g_loc C [0, 1, 2, 3, 4, 5] rfl ?_
                exact J7 _ (((if_neg h4).trans (if_pos h5)))
              · refine g_iconst C (v := 1) dL_combs_81 (by decide) ?_
                refine g_goto C (tgt := 86) dL_combs_82 (by decide) ?_
                refine g_loc C [0, 1, 2, 3, 4, 5] rfl ?_
                exact J7 _ (((if_neg h4).trans (if_neg h5)))
            · refine g_aload_n C (i := 0) dL_combs_61 rfl 0 rfl ?_
              refine g_iload C (i := 4) dL_combs_62 4 rfl ?_
              refine g_iload C (i := 4) dL_combs_64 4 rfl ?_
              refine g_iconst C (v := 1) dL_combs_66 (by decide) ?_
              refine g_isub C dL_combs_67 ?_
              refine g_iload C (i := 5) dL_combs_68 5 rfl ?_
              refine g_callS C (st := []) (c_L_near l D ad dA z0 tt s5 φ (nI j4) ((nI j4) - 1) (nI j5)) rfl ml_L_45 sm_L_near in_L co_L_near dyS_L_near rfl rfl ⟨(Nat.le_of_ble_eq_true rfl), (Nat.le_of_ble_eq_true rfl)⟩ dL_combs_70 rfl (Nat.le_of_ble_eq_true rfl) (g_fni ?_)
              refine g_goto C (tgt := 86) dL_combs_73 (by decide) ?_
              refine g_loc C [0, 1, 2, 3, 4, 5] rfl ?_
              exact J7 _ ((if_pos h4))
        · intro t5 hF5
          change K t5 φ 49 [(0, .ref (ad 0)), (1, .int v1), (2, .int (f_X10_count σ 17)), (3, .ref (ad 55)), (4, .int (nI j4)), (5, .int (nI 10))] []
          refine g_iload C (i := 5) dL_combs_49 5 rfl ?_
          refine g_bipush C (v := 10) dL_combs_51 (by decide) ?_
          refine g_icmp_ge C (tgt := 569) dL_combs_53 (by decide) (fun h32 => ?_) (fun h32 => ?_)
          · refine g_iinc C (i := 4) (v := nI (j4 + 1)) (lv' := [(4, .int (nI (j4 + 1))), (0, .ref (ad 0)), (1, .int v1), (2, .int (f_X10_count σ 17)), (3, .ref (ad 55)), (5, .int (nI 10))]) dL_combs_569 4 rfl (nI_1 _) (by decide) rfl ?_
            refine g_goto C (tgt := 39) dL_combs_572 (by decide) ?_
            refine g_loc C [1, 2, 3, 4, 0] rfl ?_
            refine kk t5 ?_
            exact ((b_L_combs_39_eq _ _ _ _ _).trans (sumB_inr hF5))
          · exact absurd (nI_le (Nat.le_refl _) (by decide)) h32
    · intro t4 hF4
      change K t4 φ 39 [(0, .ref (ad 0)), (1, .int v1), (2, .int (f_X10_count σ 17)), (3, .ref (ad 55)), (4, .int (nI 8))] []
      refine g_iload C (i := 4) dL_combs_39 4 rfl ?_
      refine g_bipush C (v := 8) dL_combs_41 (by decide) ?_
      refine g_icmp_ge C (tgt := 575) dL_combs_43 (by decide) (fun h33 => ?_) (fun h33 => ?_)
      · refine g_aload_n C (i := 0) dL_combs_575 rfl 0 rfl ?_
        refine g_bipush C (v := 9) dL_combs_576 (by decide) ?_
        refine g_callV C (st := []) (c_X10_count l D ad dA z0 tt t4 φ 9) rfl ml_L_35 im_X10_count se_X10_count in_X10 co_X10_count dyV_X10_count rfl rfl ⟨(Nat.le_of_ble_eq_true rfl), (Nat.le_of_ble_eq_true rfl)⟩ 0 10 (fun f => at_0 ad dA t4 f) rfl dL_combs_578 rfl (Nat.le_of_ble_eq_true rfl) (g_fni ?_)
        refine g_aload_n C (i := 3) dL_combs_581 rfl 3 rfl ?_
        refine g_iconst C (v := 0) dL_combs_582 (by decide) ?_
        refine ld_55 C ha (vp_lit (by decide)) dL_combs_583 ?_
        refine g_icmp_ne C (tgt := 627) dL_combs_584 (by decide) (fun h34 => ?_) (fun h34 => ?_)
        · refine g_iconst C (v := 0) dL_combs_627 (by decide) ?_
          have e0 : f_L_combs σ φ = (0, t4) := by
            subst eσ3
            subst ev1
            exact ((f_L_combs_eq _ _).trans ((sumE_inr hF4).trans (if_neg h34)))
          exact hi _ _ _ _ _ _ rfl dL_combs_628 (lv_narrowZ (Or.inl rfl)).1 ⟨(congrArg (fun z => some (Value.int z.1)) e0).symm, (congrArg (fun z => z.2) e0).symm, rfl⟩
        · refine g_aload_n C (i := 0) dL_combs_587 rfl 0 rfl ?_
          refine g_bipush C (v := 10) dL_combs_588 (by decide) ?_
          refine g_callV C (st := []) (c_X10_count l D ad dA z0 tt t4 φ 10) rfl ml_L_35 im_X10_count se_X10_count in_X10 co_X10_count dyV_X10_count rfl rfl ⟨(Nat.le_of_ble_eq_true rfl), (Nat.le_of_ble_eq_true rfl)⟩ 0 10 (fun f => at_0 ad dA t4 f) rfl dL_combs_590 rfl (Nat.le_of_ble_eq_true rfl) (g_fni ?_)
          refine g_aload_n C (i := 3) dL_combs_593 rfl 3 rfl ?_
          refine g_iconst C (v := 1) dL_combs_594 (by decide) ?_
          refine ld_55 C ha (vp_lit (by decide)) dL_combs_595 ?_
          refine g_icmp_ne C (tgt := 627) dL_combs_596 (by decide) (fun h35 => ?_) (fun h35 => ?_)
          · refine g_iconst C (v := 0) dL_combs_627 (by decide) ?_
            have e0 : f_L_combs σ φ = (0, t4) := by
              subst eσ3
              subst ev1
              exact ((f_L_combs_eq _ _).trans ((sumE_inr hF4).trans ((if_pos h34).trans (if_neg h35))))
            exact hi _ _ _ _ _ _ rfl dL_combs_628 (lv_narrowZ (Or.inl rfl)).1 ⟨(congrArg (fun z => some (Value.int z.1)) e0).symm, (congrArg (fun z => z.2) e0).symm, rfl⟩
          · refine g_aload_n C (i := 0) dL_combs_599 rfl 0 rfl ?_
            refine g_bipush C (v := 11) dL_combs_600 (by decide) ?_
            refine g_callV C (st := []) (c_X10_count l D ad dA z0 tt t4 φ 11) rfl ml_L_35 im_X10_count se_X10_count in_X10 co_X10_count dyV_X10_count rfl rfl ⟨(Nat.le_of_ble_eq_true rfl), (Nat.le_of_ble_eq_true rfl)⟩ 0 10 (fun f => at_0 ad dA t4 f) rfl dL_combs_602 rfl (Nat.le_of_ble_eq_true rfl) (g_fni ?_)
            refine g_aload_n C (i := 3) dL_combs_605 rfl 3 rfl ?_
            refine g_iconst C (v := 2) dL_combs_606 (by decide) ?_
            refine ld_55 C ha (vp_lit (by decide)) dL_combs_607 ?_
            refine g_icmp_ne C (tgt := 627) dL_combs_608 (by decide) (fun h36 => ?_) (fun h36 => ?_)
            · refine g_iconst C (v := 0) dL_combs_627 (by decide) ?_
              have e0 : f_L_combs σ φ = (0, t4) := by
                subst eσ3
                subst ev1
                exact ((f_L_combs_eq _ _).trans ((sumE_inr hF4).trans ((if_pos h34).trans ((if_pos h35).trans (if_neg h36)))))
              exact hi _ _ _ _ _ _ rfl dL_combs_628 (lv_narrowZ (Or.inl rfl)).1 ⟨(congrArg (fun z => some (Value.int z.1)) e0).symm, (congrArg (fun z => z.2) e0).symm, rfl⟩
            · refine g_aload_n C (i := 0) dL_combs_611 rfl 0 rfl ?_
              refine g_bipush C (v := 12) dL_combs_612 (by decide) ?_
              refine g_callV C (st := []) (c_X10_count l D ad dA z0 tt t4 φ 12) rfl ml_L_35 im_X10_count se_X10_count in_X10 co_X10_count dyV_X10_count rfl rfl ⟨(Nat.le_of_ble_eq_true rfl), (Nat.le_of_ble_eq_true rfl)⟩ 0 10 (fun f => at_0 ad dA t4 f) rfl dL_combs_614 rfl (Nat.le_of_ble_eq_true rfl) (g_fni ?_)
              refine g_aload_n C (i := 3) dL_combs_617 rfl 3 rfl ?_
              refine g_iconst C (v := 3) dL_combs_618 (by decide) ?_
              refine ld_55 C ha (vp_lit (by decide)) dL_combs_619 ?_
              refine g_icmp_ne C (tgt := 627) dL_combs_620 (by decide) (fun h37 => ?_) (fun h37 => ?_)
              · refine g_iconst C (v := 0) dL_combs_627 (by decide) ?_
                have e0 : f_L_combs σ φ = (0, t4) := by
                  subst eσ3
                  subst ev1
                  exact ((f_L_combs_eq _ _).trans ((sumE_inr hF4).trans ((if_pos h34).trans ((if_pos h35).trans ((if_pos h36).trans (if_neg h37))))))
                exact hi _ _ _ _ _ _ rfl dL_combs_628 (lv_narrowZ (Or.inl rfl)).1 ⟨(congrArg (fun z => some (Value.int z.1)) e0).symm, (congrArg (fun z => z.2) e0).symm, rfl⟩
              · refine g_iconst C (v := 1) dL_combs_623 (by decide) ?_
                refine g_goto C (tgt := 628) dL_combs_624 (by decide) ?_
                have e0 : f_L_combs σ φ = (1, t4) := by
                  subst eσ3
                  subst ev1
                  exact ((f_L_combs_eq _ _).trans ((sumE_inr hF4).trans ((if_pos h34).trans ((if_pos h35).trans ((if_pos h36).trans (if_pos h37))))))
                exact hi _ _ _ _ _ _ rfl dL_combs_628 (lv_narrowZ (Or.inr rfl)).1 ⟨(congrArg (fun z => some (Value.int z.1)) e0).symm, (congrArg (fun z => z.2) e0).symm, rfl⟩
      · exact absurd (nI_le (Nat.le_refl _) (by decide)) h33
  refine g_icmp_ne C (tgt := 18) dL_combs_7 (by decide) (fun h1 => ?_) (fun h1 => ?_)
  · refine g_aload_n C (i := 0) dL_combs_18 rfl 0 rfl ?_
    refine g_bipush C (v := 18) dL_combs_19 (by decide) ?_
    refine g_callV C (st := []) (c_X10_count l D ad dA z0 tt σ φ 18) rfl ml_L_35 im_X10_count se_X10_count in_X10 co_X10_count dyV_X10_count rfl rfl ⟨(Nat.le_of_ble_eq_true rfl), (Nat.le_of_ble_eq_true rfl)⟩ 0 10 (fun f => at_0 ad dA σ f) rfl dL_combs_21 rfl (Nat.le_of_ble_eq_true rfl) (g_fni ?_)
    refine g_loc C [0] rfl ?_
    exact J2 _ ((if_neg h1))
  · refine g_aload_n C (i := 0) dL_combs_10 rfl 0 rfl ?_
    refine g_iconst C (v := 1) dL_combs_11 (by decide) ?_
    refine g_callV C (st := []) (c_X10_count l D ad dA z0 tt σ φ 1) rfl ml_L_35 im_X10_count se_X10_count in_X10 co_X10_count dyV_X10_count rfl rfl ⟨(Nat.le_of_ble_eq_true rfl), (Nat.le_of_ble_eq_true rfl)⟩ 0 10 (fun f => at_0 ad dA σ f) rfl dL_combs_12 rfl (Nat.le_of_ble_eq_true rfl) (g_fni ?_)
    refine g_goto C (tgt := 24) dL_combs_15 (by decide) ?_
    refine g_loc C [0] rfl ?_
    exact J2 _ ((if_pos h1))
