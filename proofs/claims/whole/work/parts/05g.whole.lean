section
/-! the loop of the law -/
section
variable {K : KT} {l : Launch} {D : va_G} {ad : Nat → Nat} {dA : Nat → ClassId} {z0 : Nat} {tt : Nat → Nat} {b L : Nat} {xs : Nat → Int32}
set_option maxRecDepth 100000 in
set_option maxHeartbeats 4000000 in
theorem k_step (C : CL K l D ad dA z0 tt b L xs) {i m : Nat} {σ : Sg} {φ : Fl} (hi0 : i ≤ L + 6) (hL : L ≤ 3072) (hm : m < 2 ^ 30) (h : Rel m σ φ σ φ) (ih : i + 6 ≤ L → ∀ (σ' : Sg) (φ' : Fl), Rel (m + 1) σ' φ' σ' φ' → K σ' φ' 18 [(3, .int (nI (i + 6))), (2, .ref (ad 53)), (1, .ref (ad 0)), (0, .ref b)] []) : K σ φ 18 [(3, .int (nI i)), (2, .ref (ad 53)), (1, .ref (ad 0)), (0, .ref b)] [] := by
  refine g_iload_n C.C dL_law_18 (i := 3) rfl 0 rfl ?_
  refine g_aload_n C.C dL_law_19 (i := 0) rfl 3 rfl ?_
  refine g_slen C dL_law_20 ?_
  refine g_bipush C.C (v := 6) dL_law_21 rfl ?_
  refine g_isub C.C dL_law_23 ?_
  have e : (nI L - 6).toInt = (L : Int) - 6 := by
    rw [Int32.toInt_sub, nI_toInt (by omega), show (6 : Int32).toInt = 6 from rfl]
    exact tq_bm (by omega) (by omega)
  refine g_icmp_gt C.C dL_law_24 (tgt := 912) (by decide) (fun _ => ?_) (fun hc => ?_)
  · refine g_iconst C.C (v := 1) dL_law_912 rfl ?_
    exact g_end C dL_law_913
  · have hi : i + 6 ≤ L := by
      rw [i32_lt, e, nI_toInt (by omega)] at hc
      omega
    have back : ∀ (σ' : Sg) (φ' : Fl), Rel (m + 1) σ' φ' σ' φ' → K σ' φ' 906 [(3, .int (nI i)), (2, .ref (ad 53)), (1, .ref (ad 0)), (0, .ref b)] [] := fun σ' φ' hr => by
      refine g_iinc C.C dL_law_906 0 rfl (v := nI (i + 6)) (nI_add i 6) (by decide) (lv' := [(3, .int (nI (i + 6))), (2, .ref (ad 53)), (1, .ref (ad 0)), (0, .ref b)]) rfl ?_
      exact g_goto C.C dL_law_909 (tgt := 18) (by decide) (ih hi σ' φ' hr)
    refine g_aload_n C.C dL_law_27 (i := 0) rfl 3 rfl ?_
    refine g_iload_n C.C dL_law_28 (i := 3) rfl 0 rfl ?_
    refine g_sld C (vp_in_nI (by omega) (by omega)) dL_law_29 ?_
    rw [nI_clamp (by omega)]
    refine g_bipush C.C (v := 31) dL_law_30 rfl ?_
    refine g_iand C.C dL_law_32 ?_
    obtain ⟨j, hj, ej⟩ := pk_andE (xs i) (m := 31) 5 (by decide)
    rw [ej]
    by_cases hj2 : j < 20
    · have : j = 0 ∨ j = 1 ∨ j = 2 ∨ j = 3 ∨ j = 4 ∨ j = 5 ∨ j = 6 ∨ j = 7 ∨ j = 8 ∨ j = 9 ∨ j = 10 ∨ j = 11 ∨ j = 12 ∨ j = 13 ∨ j = 14 ∨ j = 15 ∨ j = 16 ∨ j = 17 ∨ j = 18 ∨ j = 19 := by omega
      rcases this with rfl | rfl | rfl | rfl | rfl | rfl | rfl | rfl | rfl | rfl | rfl | rfl | rfl | rfl | rfl | rfl | rfl | rfl | rfl | rfl
      · exact g_tableIn C.C dL_law_33 (off := 95) (tgt := 128) (by decide) (by decide) rfl (by decide) (k_0 C hi hL hm h back)
      · exact g_tableIn C.C dL_law_33 (off := 158) (tgt := 191) (by decide) (by decide) rfl (by decide) (k_1 C hi hL hm h back)
      · exact g_tableIn C.C dL_law_33 (off := 211) (tgt := 244) (by decide) (by decide) rfl (by decide) (k_2 C hi hL hm h back)
      · exact g_tableIn C.C dL_law_33 (off := 274) (tgt := 307) (by decide) (by decide) rfl (by decide) (k_3 C hi hL hm h back)
      · exact g_tableIn C.C dL_law_33 (off := 323) (tgt := 356) (by decide) (by decide) rfl (by decide) (k_4 C hi hL hm h back)
      · exact g_tableIn C.C dL_law_33 (off := 346) (tgt := 379) (by decide) (by decide) rfl (by decide) (k_5 C hi hL hm h back)
      · exact g_tableIn C.C dL_law_33 (off := 371) (tgt := 404) (by decide) (by decide) rfl (by decide) (k_6 C hi hL hm h back)
      · exact g_tableIn C.C dL_law_33 (off := 384) (tgt := 417) (by decide) (by decide) rfl (by decide) (k_7 C hi hL hm h back)
      · exact g_tableIn C.C dL_law_33 (off := 407) (tgt := 440) (by decide) (by decide) rfl (by decide) (k_8 C hi hL hm h back)
      · exact g_tableIn C.C dL_law_33 (off := 440) (tgt := 473) (by decide) (by decide) rfl (by decide) (k_9 C hi hL hm h back)
      · exact g_tableIn C.C dL_law_33 (off := 473) (tgt := 506) (by decide) (by decide) rfl (by decide) (k_10 C hi hL hm h back)
      · exact g_tableIn C.C dL_law_33 (off := 486) (tgt := 519) (by decide) (by decide) rfl (by decide) (k_11 C hi hL hm h back)
      · exact g_tableIn C.C dL_law_33 (off := 519) (tgt := 552) (by decide) (by decide) rfl (by decide) (k_12 C hi hL hm h back)
      · exact g_tableIn C.C dL_law_33 (off := 552) (tgt := 585) (by decide) (by decide) rfl (by decide) (k_13 C hi hL hm h back)
      · exact g_tableIn C.C dL_law_33 (off := 585) (tgt := 618) (by decide) (by decide) rfl (by decide) (k_14 C hi hL hm h back)
      · exact g_tableIn C.C dL_law_33 (off := 648) (tgt := 681) (by decide) (by decide) rfl (by decide) (k_15 C hi hL hm h back)
      · exact g_tableIn C.C dL_law_33 (off := 711) (tgt := 744) (by decide) (by decide) rfl (by decide) (k_16 C hi hL hm h back)
      · exact g_tableIn C.C dL_law_33 (off := 754) (tgt := 787) (by decide) (by decide) rfl (by decide) (k_17 C hi hL hm h back)
      · exact g_tableIn C.C dL_law_33 (off := 817) (tgt := 850) (by decide) (by decide) rfl (by decide) (k_18 C hi hL hm h back)
      · exact g_tableIn C.C dL_law_33 (off := 850) (tgt := 883) (by decide) (by decide) rfl (by decide) (k_19 C hi hL hm h back)
    · exact g_tableOut C.C dL_law_33 (tgt := 906) (.inr (by rw [nI_toInt (by omega)]; omega)) (by decide) (back _ _ (Rel_mono h))
theorem k_loop (C : CL K l D ad dA z0 tt b L xs) (hL : L ≤ 3072) : ∀ (n i m : Nat) (σ : Sg) (φ : Fl), L < i + n → i ≤ L + 6 → m ≤ i → Rel m σ φ σ φ → K σ φ 18 [(3, .int (nI i)), (2, .ref (ad 53)), (1, .ref (ad 0)), (0, .ref b)] [] := by
  intro n
  induction n with
  | zero => intro i m σ φ h1 h2 h3 h; exact k_step C h2 hL (by omega) h (fun q => absurd q (by omega))
  | succ n ih => intro i m σ φ h1 h2 h3 h; exact k_step C h2 hL (by omega) h (fun q σ' φ' hr => ih (i + 6) (m + 1) σ' φ' (by omega) (by omega) (by omega) hr)
end
/-! what the constructors leave -/
def sg0 : Sg := fun k => match k with
  | 6 => upd (upd (upd (upd (upd (upd (upd (upd (fun _ => 0) 0 20) 1 20) 2 20) 3 20) 4 20) 5 20) 6 20) 7 20
  | 58 => upd (upd (upd (upd (upd (upd (upd (upd (fun _ => 0) 0 20) 1 20) 2 20) 3 20) 4 20) 5 20) 6 20) 7 20
  | 14 => upd (upd (upd (upd (fun _ => 0) 0 8) 1 10) 2 3) 3 2
  | 62 => upd (upd (upd (upd (fun _ => 0) 0 8) 1 10) 2 3) 3 2
  | _ => fun _ => 0
def fl0 : Fl := fun _ _ => 0
theorem sg0_58 : ∀ k, 0 ≤ (sg0 58 k).toInt ∧ (sg0 58 k).toInt ≤ 40 := by
  have z : ∀ k : Nat, (0 : Int) ≤ ((fun _ => 0 : Nat → Int32) k).toInt ∧ ((fun _ => 0 : Nat → Int32) k).toInt ≤ 40 := fun k => (show (0 : Int) ≤ (0 : Int32).toInt ∧ (0 : Int32).toInt ≤ 40 from by decide)
  have v : (0 : Int) ≤ (20 : Int32).toInt ∧ (20 : Int32).toInt ≤ 40 := by decide
  exact bnd_upd (bnd_upd (bnd_upd (bnd_upd (bnd_upd (bnd_upd (bnd_upd (bnd_upd z v 0) v 1) v 2) v 3) v 4) v 5) v 6) v 7
theorem rel0 : Rel 0 sg0 fl0 sg0 fl0 := by
  have z : ∀ (h : Int) (_ : 0 ≤ h) (l : Int) (_ : l ≤ 0), l ≤ (0 : Int32).toInt ∧ (0 : Int32).toInt ≤ h := fun h a l b => ⟨b, a⟩
  refine ⟨⟨rfl, rfl, rfl, rfl, rfl, rfl, rfl, rfl, rfl⟩, ⟨fun k => z _ (by decide) _ (by decide), fun k => z _ (by decide) _ (by decide), fun k => z _ (by decide) _ (by decide), sg0_58, fun k => z _ (by decide) _ (by decide)⟩, ⟨rfl, vp_lit (by decide), vp_lit (by decide)⟩, ⟨rfl, rfl, vp_lit (by decide)⟩, ⟨rfl, 0, Nat.le_refl _, rfl⟩, ⟨fun i => .inr ⟨rfl, (show (0 : Int32) ≤ 0 from by decide)⟩, rfl, rfl, rfl, rfl, rfl, rfl, rfl, rfl, rfl, fun k _ => rfl, fun k => (show bndL 0 from ⟨by decide, by decide⟩), rfl, rfl, fun q => absurd (show sg0 53 13 ≤ 1 by decide) q⟩, ⟨rfl, rfl, rfl, rfl, rfl, rfl⟩⟩

set_option maxRecDepth 100000 in
set_option maxHeartbeats 8000000 in
/-- the law, from its entry -/
theorem whole_start {p : Program} {e : Env} {s : State} {m : MethodId} {below : List Frame} {meth : Method} {c : Code} (l : Launch) (hflags : l.flags = flags0) {b L : Nat} {xs : Nat → Int32} (hL : L ≤ 3072) (C0 : lw_At p s m meth c b L xs) : W p l e room_1 s m #[Value.ref b] below meth c s.heap [] 0 0 (lw_Z below #[Value.ref b] s) (entryFrame m ([Value.ref b] : List Value).toArray 8) := by
  obtain ⟨hx, hb, hr, hml, hown, hts0, hX, hbl, hlocks, hgv⟩ := C0
  have hts : ∀ w ∈ lw_all, w.before #[Value.ref b] s = true := fun w h => hts0 w (lw_all_tbl h)
  obtain ⟨tt, hST⟩ := st_all hgv hts0
  obtain ⟨D, dA, hK, hMA⟩ := k_all hts0
  have hNW := nw_of hts0
  have hl := lv_entry ([.ref b]) (n := 8) (Nat.le_of_ble_eq_true rfl)
  rw [lg_entry_eq]
  generalize (lg_sl ([.ref b]) ++ List.replicate (8 - (lg_sl ([.ref b])).length) Slot.unset).toArray = ls at hl ⊢
  have hl : lv_has ls 8 [(0, .ref b)] := hl
  obtain ⟨z, hz⟩ : ∃ z, z = s.heap.size := ⟨_, rfl⟩
  have C : CN false (GN p l e room_1 s m #[Value.ref b] below meth c (lw_Z below #[Value.ref b] s) 8 D (fun q => s.heap.size ≤ q)) l D dA code R_law 8 room_1 := ⟨p, e, s, m, _, below, meth, c, _, _, rfl, hx, hb, hml, hown, hts, hK, hNW, hMA, fun q => absurd q (by decide), fun q h => h⟩
  have start : GN p l e room_1 s m #[Value.ref b] below meth c (lw_Z below #[Value.ref b] s) 8 D (fun q => s.heap.size ≤ q) [] z 0 0 0 [(0, .ref b)] [] := by
    refine n_new C iu_10 tyX10 tyX10_ok cl_L_7 it_X10 in_X10 (ci := 10) (T := TX10) (N := 11) rfl (fs := [.null, .null, .null, .null, .null, .null, .null, .null, .null, .null, .int 0]) (fun j hj => by rcases (show j = 0 ∨ j = 1 ∨ j = 2 ∨ j = 3 ∨ j = 4 ∨ j = 5 ∨ j = 6 ∨ j = 7 ∨ j = 8 ∨ j = 9 ∨ j = 10 by omega) with rfl | rfl | rfl | rfl | rfl | rfl | rfl | rfl | rfl | rfl | rfl <;> rfl) (Nat.le_of_ble_eq_true rfl) (Nat.le_of_ble_eq_true rfl) dL_law_0 (ws' := [(z, .inr (10, [.null, .null, .null, .null, .null, .null, .null, .null, .null, .null, .int 0]))]) (n' := z + 1) (ce' := 1) (sl' := 11) rfl rfl rfl rfl ?_
    refine n_dup C dL_law_3 ?_
    refine n_call C (wr := []) (c_X10_init l D dA z (z + 1) (fun i => z + (17 + i)) (fun i => by omega)) rfl ml_L_9 im_X10_init in_X10 co_X10_init dyS_X10_init rfl rfl ⟨Nat.le_of_ble_eq_true rfl, Nat.le_of_ble_eq_true rfl⟩ rfl rfl ⟨Nat.le_of_ble_eq_true rfl, Nat.le_of_ble_eq_true rfl⟩ dL_law_4 (Nat.le_of_ble_eq_true rfl) (n' := z + 53) (ce' := 53) (sl' := 2352) rfl rfl rfl rfl ?_
    refine n_astore C dL_law_7 (i := 1) rfl (by decide) (lv' := [(1, .ref z), (0, .ref b)]) rfl ?_
    refine n_new C iu_11 tyX11 tyX11_ok cl_L_10 it_X11 in_X11 (ci := 11) (T := TX11) (N := 35) rfl (fs := [.null, .null, .null, .null, .null, .null, .null, .null, .int 0, .null, .int 0, .null, .null, .int 0, .null, .null, .null, .null, .null, .null, .null, .null, .int 0, .int 0, .null, .null, .null, .null, .null, .null, .null, .null, .null, .null, .null]) (fun j hj => by rcases (show j = 0 ∨ j = 1 ∨ j = 2 ∨ j = 3 ∨ j = 4 ∨ j = 5 ∨ j = 6 ∨ j = 7 ∨ j = 8 ∨ j = 9 ∨ j = 10 ∨ j = 11 ∨ j = 12 ∨ j = 13 ∨ j = 14 ∨ j = 15 ∨ j = 16 ∨ j = 17 ∨ j = 18 ∨ j = 19 ∨ j = 20 ∨ j = 21 ∨ j = 22 ∨ j = 23 ∨ j = 24 ∨ j = 25 ∨ j = 26 ∨ j = 27 ∨ j = 28 ∨ j = 29 ∨ j = 30 ∨ j = 31 ∨ j = 32 ∨ j = 33 ∨ j = 34 by omega) with rfl | rfl | rfl | rfl | rfl | rfl | rfl | rfl | rfl | rfl | rfl | rfl | rfl | rfl | rfl | rfl | rfl | rfl | rfl | rfl | rfl | rfl | rfl | rfl | rfl | rfl | rfl | rfl | rfl | rfl | rfl | rfl | rfl | rfl | rfl <;> rfl) (Nat.le_of_ble_eq_true rfl) (Nat.le_of_ble_eq_true rfl) dL_law_8 (n' := z + 54) (ce' := 54) (sl' := 2387) rfl rfl rfl rfl ?_
    refine n_dup C dL_law_11 ?_
    refine n_call C (c_X11_init l D dA (z + 53) (z + 54)) rfl ml_L_12 im_X11_init in_X11 co_X11_init dyS_X11_init rfl rfl ⟨Nat.le_of_ble_eq_true rfl, Nat.le_of_ble_eq_true rfl⟩ rfl rfl ⟨Nat.le_of_ble_eq_true rfl, Nat.le_of_ble_eq_true rfl⟩ dL_law_12 (Nat.le_of_ble_eq_true rfl) (ws' := wJ (fun k => z + k) dA sg0 fl0) (n' := z + 84) (ce' := 84) (sl' := 3479) rfl rfl rfl rfl ?_
    refine n_astore C dL_law_15 (i := 2) rfl (by decide) (lv' := [(2, .ref (z + 53)), (1, .ref z), (0, .ref b)]) rfl ?_
    refine n_iconst C (v := 0) dL_law_16 rfl ?_
    refine n_istore C dL_law_17 (i := 3) rfl (by decide) (lv' := [(3, .int 0), (2, .ref (z + 53)), (1, .ref z), (0, .ref b)]) rfl ?_
    intro H locs ls' hn hP hD hS hls
    refine W.base ?_
    have hE : EnvU D (fun k => z + k) dA z tt s := ⟨hK, hNW, by rw [hz]; exact hST, by rw [hz]; exact Nat.le_refl _, fun σ φ => D_ext (ws := []) (n := z) (N := 84) ⟨fun i j p q h => by simp at h, fun k q h => by simp at h⟩ (fun k q h => by simp at h) rfl (fun q h => h)⟩
    have CC : CL (GK p l e room_1 s m #[Value.ref b] below meth c (lw_Z below #[Value.ref b] s) 8 z D (fun k => z + k) dA 84 3479) l D (fun k => z + k) dA z tt b L xs := ⟨p, e, s, m, below, meth, c, _, _, rfl, hx, hb, hml, hown, hts, hE, Nat.le_of_ble_eq_true rfl, Nat.le_of_ble_eq_true rfl, hX, hbl, hz, hr, hlocks⟩
    exact k_loop CC hL (L + 1) 0 0 sg0 fl0 (by omega) (by omega) (Nat.le_refl _) rel0 s.drawn H locs ls' [(3, .int 0), (2, .ref (z + 53)), (1, .ref z), (0, .ref b)] [] (Drawn.sameBut.refl s.drawn lw_cs) ⟨fl0, fun k j => alike32_refl _, hP⟩ (by rw [hz]; exact hS) hls ⟨⟨rfl, rfl⟩, ⟨rfl, rfl⟩, ⟨rfl, rfl⟩, ⟨rfl, rfl⟩, True.intro⟩ True.intro
  exact start s.heap [] ls hz.symm (fun k q h => by simp at h) ⟨fun i j p q h => by simp at h, fun k q h => by simp at h⟩ va_S.rf hl
end
