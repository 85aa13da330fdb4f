section
/-! what the constructors leave -/
/-- the cells alone -/
def wC (ad : Nat → Nat) (dA : Nat → ClassId) (σ : Sg) (φ : Fl) : va_W := [
  (ad 0, .inr (10, [.ref (ad 1), .ref (ad 10), .ref (ad 13), .ref (ad 15), .ref (ad 25), .ref (ad 30), .ref (ad 35), .ref (ad 38), .ref (ad 44), .ref (ad 49), .int (σ 0 10)])),
  (ad 1, .inr (7, [.ref (ad 2), .ref (ad 3), .ref (ad 4), .ref (ad 5), .ref (ad 6), .ref (ad 7), .ref (ad 8), .ref (ad 9), .int (σ 1 8)])),
  (ad 2, .inl (dA 0, 80, .inl (σ 2))),
  (ad 3, .inl (dA 0, 80, .inl (σ 3))),
  (ad 4, .inl (dA 0, 80, .inl (σ 4))),
  (ad 5, .inl (dA 0, 8, .inl (σ 5))),
  (ad 6, .inl (dA 0, 8, .inl (σ 6))),
  (ad 7, .inl (dA 0, 8, .inl (σ 7))),
  (ad 8, .inl (dA 0, 8, .inl (σ 8))),
  (ad 9, .inl (dA 1, 8, .inl (σ 9))),
  (ad 10, .inr (0, [.ref (ad 11), .int (σ 10 1), .ref (ad 12), .int (σ 10 3)])),
  (ad 11, .inl (dA 2, 60, .inl (σ 11))),
  (ad 12, .inl (dA 0, 10, .inl (σ 12))),
  (ad 13, .inr (8, [.ref (ad 14)])),
  (ad 14, .inl (dA 0, 4, .inl (σ 14))),
  (ad 15, .inr (9, [.ref (ad 16)])),
  (ad 16, .inl (dA 4, 8, .inr (.inr (.inr (.inr (fun i => if i < 8 then some (ad (17 + i)) else none)))))),
  (ad 17, .inl (dA 0, 112, .inl (σ 17))),
  (ad 18, .inl (dA 0, 112, .inl (σ 18))),
  (ad 19, .inl (dA 0, 112, .inl (σ 19))),
  (ad 20, .inl (dA 0, 112, .inl (σ 20))),
  (ad 21, .inl (dA 0, 112, .inl (σ 21))),
  (ad 22, .inl (dA 0, 112, .inl (σ 22))),
  (ad 23, .inl (dA 0, 112, .inl (σ 23))),
  (ad 24, .inl (dA 0, 112, .inl (σ 24))),
  (ad 25, .inr (4, [.ref (ad 26), .ref (ad 27), .ref (ad 28), .ref (ad 29), .int (σ 25 4), .int (σ 25 5), .int (σ 25 6), .int (σ 25 7)])),
  (ad 26, .inl (dA 0, 8, .inl (σ 26))),
  (ad 27, .inl (dA 0, 8, .inl (σ 27))),
  (ad 28, .inl (dA 0, 8, .inl (σ 28))),
  (ad 29, .inl (dA 1, 8, .inl (σ 29))),
  (ad 30, .inr (1, [.ref (ad 31), .ref (ad 32), .ref (ad 33), .ref (ad 34), .int (σ 30 4), .int (σ 30 5)])),
  (ad 31, .inl (dA 0, 8, .inl (σ 31))),
  (ad 32, .inl (dA 0, 8, .inl (σ 32))),
  (ad 33, .inl (dA 1, 8, .inl (σ 33))),
  (ad 34, .inl (dA 1, 8, .inl (σ 34))),
  (ad 35, .inr (6, [.ref (ad 36), .ref (ad 37)])),
  (ad 36, .inl (dA 3, 8, .inr (.inr (.inl (φ 36))))),
  (ad 37, .inl (dA 3, 8, .inr (.inr (.inl (φ 37))))),
  (ad 38, .inr (3, [.ref (ad 39), .ref (ad 40), .ref (ad 41), .ref (ad 42), .ref (ad 43)])),
  (ad 39, .inl (dA 0, 80, .inl (σ 39))),
  (ad 40, .inl (dA 0, 80, .inl (σ 40))),
  (ad 41, .inl (dA 0, 80, .inl (σ 41))),
  (ad 42, .inl (dA 0, 80, .inl (σ 42))),
  (ad 43, .inl (dA 0, 80, .inl (σ 43))),
  (ad 44, .inr (2, [.ref (ad 45), .ref (ad 46), .ref (ad 47), .ref (ad 48)])),
  (ad 45, .inl (dA 3, 80, .inr (.inr (.inl (φ 45))))),
  (ad 46, .inl (dA 3, 80, .inr (.inr (.inl (φ 46))))),
  (ad 47, .inl (dA 3, 80, .inr (.inr (.inl (φ 47))))),
  (ad 48, .inl (dA 3, 80, .inr (.inr (.inl (φ 48))))),
  (ad 49, .inr (5, [.ref (ad 50), .ref (ad 51), .ref (ad 52)])),
  (ad 50, .inl (dA 0, 80, .inl (σ 50))),
  (ad 51, .inl (dA 1, 80, .inl (σ 51))),
  (ad 52, .inl (dA 0, 80, .inl (σ 52))),
  (ad 53, .inl (dA 0, 40, .inl (σ 53))),
  (ad 54, .inl (dA 0, 40, .inl (σ 54)))]
/-- the world at the start, its cells one behind the other -/
theorem wJ_z (z : Nat) (dA : Nat → ClassId) (σ : Sg) (φ : Fl) : wJ (fun k => if k = 99 then 0 else z + k) dA σ φ = wC (fun k => z + k) dA σ φ := by
  unfold wJ exW
  rw [if_pos (show (fun k => if k = 99 then 0 else z + k) 99 = 0 from rfl), wJ_rows (ad := fun k => z + k) (ad' := (fun k => if k = 99 then 0 else z + k)) (fun k hk => if_neg (by omega)) 17 (by decide)]
  rfl
end
set_option maxRecDepth 100000 in
set_option maxHeartbeats 8000000 in
/-- the law, from its entry -/
theorem whole_start {p : Program} {e : Env} {s : State} {m : MethodId} {below : List Frame} {meth : Method} {c : Code} (l : Launch) (hflags : l.flags = flags0) {b L : Nat} {xs : Nat → Int32} (hL : L ≤ 260) (C0 : lw_At p s m meth c b L xs) : W p l e room_1 s m #[Value.ref b] below meth c s.heap [] 0 0 (lw_Z below #[Value.ref b] s) (entryFrame m ([Value.ref b] : List Value).toArray 13) := by
  obtain ⟨hx, hb, hr, hml, hown, hts0, hX, hbl, hlocks, hgv⟩ := C0
  have hts : ∀ w ∈ lw_all, w.before #[Value.ref b] s = true := fun w h => hts0 w (lw_all_tbl h)
  obtain ⟨tt, hST, htb, htL⟩ := st_all hX hbl hgv hts0
  obtain ⟨D, dA, hK, hMA⟩ := k_all hts0
  have hNW := nw_of hts0
  have hl := lv_entry ([.ref b]) (n := 13) (Nat.le_of_ble_eq_true rfl)
  rw [lg_entry_eq]
  generalize (lg_sl ([.ref b]) ++ List.replicate (13 - (lg_sl ([.ref b])).length) Slot.unset).toArray = ls at hl ⊢
  have hl : lv_has ls 13 [(0, .ref b)] := hl
  obtain ⟨z, hz⟩ : ∃ z, z = s.heap.size := ⟨_, rfl⟩
  have C : CN false (GN p l e room_1 s m #[Value.ref b] below meth c (lw_Z below #[Value.ref b] s) 13 D (fun q => s.heap.size ≤ q)) l D dA code R_law 13 room_1 := ⟨p, e, s, m, _, below, meth, c, _, _, rfl, hx, hb, hml, hown, hts, hK, hNW, hMA, fun q => absurd q (by decide), fun q h => h⟩
  have start : GN p l e room_1 s m #[Value.ref b] below meth c (lw_Z below #[Value.ref b] s) 13 D (fun q => s.heap.size ≤ q) [] z 0 0 0 [(0, .ref b)] [] := by
    refine n_new C iu_10 tyX10 tyX10_ok cl_L_10 it_X10 in_X10 (ci := 10) (T := TX10) (N := 11) rfl (fs := [.null, .null, .null, .null, .null, .null, .null, .null, .null, .null, .int 0]) (fun j hj => by rcases (show j = 0 ∨ j = 1 ∨ j = 2 ∨ j = 3 ∨ j = 4 ∨ j = 5 ∨ j = 6 ∨ j = 7 ∨ j = 8 ∨ j = 9 ∨ j = 10 by omega) with rfl | rfl | rfl | rfl | rfl | rfl | rfl | rfl | rfl | rfl | rfl <;> rfl) (Nat.le_of_ble_eq_true rfl) (Nat.le_of_ble_eq_true rfl) dL_law_0 (ws' := [(z, .inr (10, [.null, .null, .null, .null, .null, .null, .null, .null, .null, .null, .int 0]))]) (n' := z + 1) (ce' := 1) (sl' := 11) rfl rfl rfl rfl ?_
    refine n_dup C dL_law_3 ?_
    refine n_call C (wr := []) (c_X10_init l D dA z (z + 1) (fun i => z + (17 + i)) (fun i => by omega)) rfl ml_L_102 im_X10_init in_X10 co_X10_init dyS_X10_init rfl rfl ⟨Nat.le_of_ble_eq_true rfl, Nat.le_of_ble_eq_true rfl⟩ rfl rfl ⟨Nat.le_of_ble_eq_true rfl, Nat.le_of_ble_eq_true rfl⟩ dL_law_4 (Nat.le_of_ble_eq_true rfl) (n' := z + 53) (ce' := 53) (sl' := 2352) rfl rfl rfl rfl ?_
    refine n_astore C dL_law_7 (i := 1) rfl (by decide) (lv' := [(1, .ref z), (0, .ref b)]) rfl ?_
    refine n_bipush C (v := 40) dL_law_8 rfl ?_
    refine n_newa C (i := 0) (cA := dA 0) (ty := .int) rfl ac_int rfl (N := 40) (a0 := (40, .inl (fun _ => 0))) rfl (by decide) rfl (Nat.le_of_ble_eq_true rfl) (Nat.le_of_ble_eq_true rfl) (Nat.le_of_ble_eq_true rfl) dL_law_10 (n' := z + 54) (ce' := 54) (sl' := 2392) rfl rfl rfl rfl ?_
    refine n_astore C dL_law_12 (i := 2) rfl (by decide) (lv' := [(2, .ref (z + 53)), (1, .ref z), (0, .ref b)]) rfl ?_
    refine n_bipush C (v := 40) dL_law_13 rfl ?_
    refine n_newa C (i := 0) (cA := dA 0) (ty := .int) rfl ac_int rfl (N := 40) (a0 := (40, .inl (fun _ => 0))) rfl (by decide) rfl (Nat.le_of_ble_eq_true rfl) (Nat.le_of_ble_eq_true rfl) (Nat.le_of_ble_eq_true rfl) dL_law_15 (ws' := wC (fun k => z + k) dA sg0 fl0) (n' := z + 55) (ce' := 55) (sl' := 2432) rfl rfl rfl rfl ?_
    refine n_astore C dL_law_17 (i := 3) rfl (by decide) (lv' := [(3, .ref (z + 54)), (2, .ref (z + 53)), (1, .ref z), (0, .ref b)]) rfl ?_
    intro H locs ls' hn hP hD hS hls
    refine W.base ?_
    refine W.widen (k := 600000 - 40) (n := 7302250 - 4 * 40) (Nat.le_of_ble_eq_true rfl) (Nat.le_of_ble_eq_true rfl) ?_
    have hE : EnvU D (fun k => if k = 99 then 0 else z + k) dA z tt s := ⟨hK, hNW, by rw [hz]; exact hST, by rw [hz]; exact Nat.le_refl _, fun σ φ => by
      rw [wJ_z]
      exact D_ext (ws := []) (n := z) (N := 55) ⟨fun i j p q h => by simp at h, fun k q h => by simp at h⟩ (fun k q h => by simp at h) rfl (fun q h => h)⟩
    have CMh : CM (fun n => GK p l e room_1 s m #[Value.ref b] below meth c (lw_Z below #[Value.ref b] s) 13 z D (fun k => if k = 99 then 0 else z + k) dA (600000 - n) (7302250 - 4 * n)) l D (fun k => if k = 99 then 0 else z + k) dA z tt (fun v => v = f_L_law tt sg0 fl0) := ⟨p, e, s, m, b, below, meth, c, fun _ => rfl, hx, hb, hml, hown, hts, hE, hz, hr, hlocks, fun v hv => hv.trans (law_1 tt)⟩
    have main := c_L_law sg0 fl0 CMh rfl (by rw [htL]; exact hL) minv_0
    exact main s.drawn H locs ls' [(3, .ref (z + 54)), (2, .ref (z + 53)), (1, .ref z), (0, .ref b)] [] (Drawn.sameBut.refl s.drawn lw_cs) ⟨fl0, fun k j => alike32_refl _, by rw [wJ_z]; exact hP⟩ (by rw [hz]; exact hS) hls ⟨⟨rfl, rfl⟩, ⟨rfl, rfl⟩, ⟨rfl, rfl⟩, ⟨rfl, (show Value.ref b = .ref (tt 8) by rw [htb])⟩, True.intro⟩ True.intro
  exact start s.heap [] ls hz.symm (fun k q h => by simp at h) ⟨fun i j p q h => by simp at h, fun k q h => by simp at h⟩ va_S.rf hl

