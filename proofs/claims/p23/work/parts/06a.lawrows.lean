/-! what the law's own walks use -/
section LAWROWS
variable {K : KT} {l : Launch} {D : va_G} {ad : Nat → Nat} {dA : Nat → ClassId} {z0 : Nat} {tt : Nat → Nat} {cc : ByteArray} {own : String} {nL : Nat} {R : Room} {σ : Sg} {φ : Fl} {pc : Nat} {lv : List (Nat × Value)} {st : List Value}
theorem g_nml (C : Cx K l D ad dA z0 tt cc own nL R) {x : Int64} (k : ∀ y : Int64, x = y → K σ φ pc lv (.long y :: st)) : K σ φ pc lv (.long x :: st) := k x rfl
theorem at_55 (ha : ¬ ad 99 = 0) (dA : Nat → ClassId) (σ : Sg) (φ : Fl) : (wJ ad dA σ φ)[55]? = some (ad 55, .inl (dA 0, 4, .inl (σ 55))) := by
  unfold wJ exW
  rw [if_neg ha]
  rfl
theorem set_55 (ha : ¬ ad 99 = 0) (dA : Nat → ClassId) (σ : Sg) (φ : Fl) (f : Nat → Int32) : (wJ ad dA σ φ).set 55 (ad 55, .inl (dA 0, 4, .inl f)) = wJ ad dA (va_up σ 55 f) φ := by
  unfold wJ exW
  rw [if_neg ha, if_neg ha]
  rfl
theorem ld_55 (C : Cx K l D ad dA z0 tt cc own nL R) (ha : ¬ ad 99 = 0) {i : Int32} (hin : vp_in i 4) (hd : decode cc pc = .ok (.iaload, 1)) (k : K σ φ (pc + 1) lv (.int (σ 55 i.toNatClampNeg) :: st)) : K σ φ pc lv (.int i :: .ref (ad 55) :: st) := g_iald C 55 (fun f => at_55 ha dA σ f) hin hd k
theorem sd_55 (C : Cx K l D ad dA z0 tt cc own nL R) (ha : ¬ ad 99 = 0) {i x : Int32} (hin : vp_in i 4) (hd : decode cc pc = .ok (.iastore, 1)) (k : K (sw σ 55 i.toNatClampNeg x) φ (pc + 1) lv st) : K σ φ pc lv (.int x :: .int i :: .ref (ad 55) :: st) := g_iast C 55 (fun f => at_55 ha dA σ f) hin (fun f => set_55 ha dA σ f _) hd k
end LAWROWS
theorem wJ_55 {ad : Nat → Nat} (h : ad 99 = 0) (dA : Nat → ClassId) (σ : Sg) (φ : Fl) (f : Nat → Int32) : wJ ad dA (va_up σ 55 f) φ = wJ ad dA σ φ := by
  unfold wJ exW
  rw [if_pos h, if_pos h]
  rfl
theorem wJ_rows {ad ad' : Nat → Nat} (hk : ∀ k, k < 55 → ad' k = ad k) (r0 : Nat) (hr : r0 < 40) : (fun i => if i < 8 then some (ad' (r0 + i)) else none) = (fun i => if i < 8 then some (ad (r0 + i)) else none) := by
  funext i
  by_cases h : i < 8
  · rw [if_pos h, if_pos h, hk _ (by omega)]
  · rw [if_neg h, if_neg h]
theorem wJ_ext {ad ad' : Nat → Nat} (hk : ∀ k, k < 55 → ad' k = ad k) (h0 : ad 99 = 0) (h1 : ¬ ad' 99 = 0) (dA : Nat → ClassId) (σ : Sg) (φ : Fl) : wJ ad' dA σ φ = wJ ad dA σ φ ++ [(ad' 55, .inl (dA 0, 4, .inl (σ 55)))] := by
  unfold wJ exW
  rw [if_pos h0, if_neg h1, wJ_rows hk _ (by decide)]
  rw [hk 0 (by decide), hk 1 (by decide), hk 2 (by decide), hk 3 (by decide), hk 4 (by decide), hk 5 (by decide), hk 6 (by decide), hk 7 (by decide), hk 8 (by decide), hk 9 (by decide), hk 10 (by decide), hk 11 (by decide), hk 12 (by decide), hk 13 (by decide), hk 14 (by decide), hk 15 (by decide), hk 16 (by decide), hk 17 (by decide), hk 18 (by decide), hk 19 (by decide), hk 20 (by decide), hk 21 (by decide), hk 22 (by decide), hk 23 (by decide), hk 24 (by decide), hk 25 (by decide), hk 26 (by decide), hk 27 (by decide), hk 28 (by decide), hk 29 (by decide), hk 30 (by decide), hk 31 (by decide), hk 32 (by decide), hk 33 (by decide), hk 34 (by decide), hk 35 (by decide), hk 36 (by decide), hk 37 (by decide), hk 38 (by decide), hk 39 (by decide), hk 40 (by decide), hk 41 (by decide), hk 42 (by decide), hk 43 (by decide), hk 44 (by decide), hk 45 (by decide), hk 46 (by decide), hk 47 (by decide), hk 48 (by decide), hk 49 (by decide), hk 50 (by decide), hk 51 (by decide), hk 52 (by decide), hk 53 (by decide), hk 54 (by decide)]
  rfl
theorem wJ_adr {ad : Nat → Nat} (h : ad 99 = 0) (dA : Nat → ClassId) (σ s : Sg) (φ f : Fl) : (wJ ad dA σ φ).map Prod.fst = (wJ ad dA s f).map Prod.fst := by
  unfold wJ exW
  rw [if_pos h, if_pos h]
  rfl
/-- the contract of a method that makes one row of four -/
def MC1 (l : Launch) (D : va_G) (ad : Nat → Nat) (dA : Nat → ClassId) (z0 : Nat) (tt : Nat → Nat) (y : MethodName) (ws : List Cond) (rm : Room) (As : List Value) (σ : Sg) (φ : Fl) (P : Option Value → Sg → Fl → Prop) : Prop :=
  MetD lw_cs l y ws rm (PcG D ad dA z0 tt As σ φ) (QcG D ad dA z0 P) 1 4 (fun q => z0 ≤ q)
theorem mk_MC1 {l : Launch} {D : va_G} {ad : Nat → Nat} {dA : Nat → ClassId} {z0 : Nat} {tt : Nat → Nat} {y : MethodName} {rm : Room} {As : List Value} {σ : Sg} {φ : Fl} {P : Option Value → Sg → Fl → Prop} {cc : ByteArray} {nL : Nat} {ret : Option FieldType} (h99 : ad 99 = 0) (hy : plainName y.cls = true) (hrc : rm.cells = 1) (hrs : rm.slots = 4) (hlen : (lg_sl As).length ≤ nL)
    (body : ∀ K : KT, Cx K l D ad dA z0 tt cc y.cls nL rm →
      (∀ (σ : Sg) (φ : Fl) (pc : Nat) (lv : List (Nat × Value)) (st : List Value) (lvf : (Nat → Nat) → List (Nat × Value)), (∀ ad' : Nat → Nat, (∀ k, k < 55 → ad' k = ad k) → lvf ad' = lv) → decode cc pc = .ok (.newarray .int, 2) →
        (∀ (K' : KT) (ad' : Nat → Nat), ¬ ad' 99 = 0 → (∀ k, k < 55 → ad' k = ad k) → Cx K' l D ad' dA z0 tt cc y.cls nL rm →
          (∀ (v : Int32) (ty : FieldType) (σ' : Sg) (φ' : Fl) (pc : Nat) (lv : List (Nat × Value)), ret = some ty → decode cc pc = .ok (.ireturn, 1) → narrow ty (.int v) = .int v → P (some (.int v)) σ' φ' → K' σ' φ' pc lv [.int v]) →
          K' (va_up σ 55 (fun _ => 0)) φ (pc + 2) (lvf ad') (.ref (ad' 55) :: st)) → K σ φ pc lv (.int 4 :: st)) → K σ φ 0 (lv_args 0 As) []) :
    MC1 l D ad dA z0 tt y (Cond.code y cc nL ret :: lw_all) rm As σ φ P := by
  refine MetD.ofW (cc := cc) (maxL := nL) (ret := ret) hy rfl ?_
  intro p e s m args below meth c s₁ B hml hv hd0
  obtain ⟨⟨As0, rfl, hAs⟩, hE, hWd⟩ := hv
  have hx := B.exec
  have hb := B.bytes
  have hr := B.returns
  have hts0 := atoms_spec (ws := Cond.code y cc nL ret :: lw_all) B.pre
  have hts : ∀ w ∈ lw_all, w.before As0.toArray s = true := fun w h => hts0 w (List.mem_cons_of_mem _ h)
  have hown : s.vm.findClass y.cls = some m.cls := findClass_of_methodNamed B.named
  have hlocks := B.notSynchronized
  have hl := lv_entry As0 (n := nL) (by rw [alS_sl hAs]; exact hlen)
  rw [lg_entry_eq]
  have key := body (GK p l e (headSpec (Cond.code y cc nL ret :: lw_all) rm).room s m As0.toArray below meth c (MQD lw_cs below (QcG D ad dA z0 P) As0.toArray s 1 4 (fun q => z0 ≤ q)) nL z0 D ad dA 0 0)
    ⟨p, e, s, m, As0.toArray, below, meth, c, _, 0, 0, rfl, hx, hb, hml, hown, hts, hE, Nat.zero_le _, Nat.zero_le _⟩ ?_
  · exact key s.drawn s.heap [] _ _ [] hd0 hWd va_S.rf hl (alL_args 0 hAs) True.intro
  · intro σ1 φ1 pc lv st lvf hlv hdg kk d H locs ls l0 st0 hd hW hS hls hL hs
    obtain ⟨t1, rfl, g1⟩ := alS_int hs
    obtain ⟨φ0, hφ, hP⟩ := hW
    refine va_newaK (s := s.setDrawn d) (atype := .int) hx hb (dr_words hts d _ ac_int) rfl hdg rfl (by decide) (N := 4) rfl (Nat.le_of_ble_eq_true rfl) (by show 0 + 1 ≤ rm.cells; rw [hrc]; exact Nat.le_refl _) (by show 0 + 4 ≤ rm.slots; rw [hrs]; exact Nat.le_refl _) rfl (fun H1 cA e1 z1 o1 hAr hNm => ?_)
    have ec : cA = dA 0 := Option.some.inj (hNm.symm.trans (hE.1.2 0 _ rfl).2)
    subst ec
    obtain ⟨ad', h55, h99', hk⟩ : ∃ ad' : Nat → Nat, ad' 55 = H.size ∧ ¬ ad' 99 = 0 ∧ ∀ k, k < 55 → ad' k = ad k := ⟨fun k => if k = 55 then H.size else if k = 99 then 1 else ad k, rfl, (show ¬ (1 : Nat) = 0 by decide), fun k hk => by
      show (if k = 55 then H.size else if k = 99 then 1 else ad k) = ad k
      rw [if_neg (by omega), if_neg (by omega)]⟩
    have hz : z0 ≤ H.size := Nat.le_trans hE.2.2.2.1 hS.1
    have hlt : ∀ (σ : Sg) (φ : Fl) (k : Nat) (q : Nat × va_E), (wJ ad dA σ φ)[k]? = some q → q.1 < H.size := by
      intro σ2 φ2 k q hq
      have h1 : ((wJ ad dA σ2 φ2).map Prod.fst)[k]? = some q.1 := by rw [List.getElem?_map, hq]; rfl
      rw [wJ_adr h99 dA σ2 σ1 φ2 φ0, List.getElem?_map] at h1
      obtain ⟨q2, a1, a2⟩ := Option.map_eq_some_iff.mp h1
      rw [← a2]
      exact (hP k q2 a1).lt
    have hE' : EnvU D ad' dA z0 tt s := ⟨hE.1, hE.2.1, hE.2.2.1, hE.2.2.2.1, fun σ2 φ2 => by
      rw [wJ_ext hk h99 h99', h55]
      exact D_ext (N := 1) (hE.2.2.2.2 σ2 φ2) (hlt σ2 φ2) rfl (fun q hq => Nat.le_trans hz hq)⟩
    have back := kk (GK p l e (headSpec (Cond.code y cc nL ret :: lw_all) rm).room s m As0.toArray below meth c (MQD lw_cs below (QcG D ad dA z0 P) As0.toArray s 1 4 (fun q => z0 ≤ q)) nL z0 D ad' dA 1 4) ad' h99' hk
      ⟨p, e, s, m, As0.toArray, below, meth, c, _, 1, 4, rfl, hx, hb, hml, hown, hts, hE', by show 1 ≤ rm.cells; rw [hrc]; exact Nat.le_refl _, by show 4 ≤ rm.slots; rw [hrs]; exact Nat.le_refl _⟩ ?_
    · refine back d H1 locs ls l0 _ hd ⟨φ0, hφ, ?_⟩ ⟨Nat.le_trans hS.1 (by omega), fun x h1 h2 => (o1 x (Nat.lt_of_lt_of_le h1 hS.1)).trans (hS.2.1 x h1 h2), hS.2.2⟩ hls (by rw [hlv ad' hk]; exact hL) ⟨by rw [h55]; rfl, g1⟩
      rw [wJ_ext hk h99 h99', wJ_55 h99, h55]
      refine (hP.kept fun k q h => o1 q.1 (hlt σ1 φ0 k q h)).app fun k q h => ?_
      rcases k with _ | k
      · cases h
        exact e1
      · simp at h
    · intro v ty σ' φ' pc' lv' e1' hdg' hn hPv d' H' locs' ls' l0' st0' hd' hW' hS' hls' hL' hs'
      obtain ⟨st1, rfl, hs1⟩ := alS_int hs'
      cases alS_nil hs1
      obtain ⟨φ2, hφ2, hP2⟩ := hW'
      refine W.endD hd' ?_
      refine W.zret hx hb (hr.trans e1') hn (fun t ht hWm => ⟨⟨some (.int v), some (.int v), σ', φ', rfl, alS_rf _, hPv, φ2, hφ2, ?_⟩, hS'.F ht⟩) hS'.2.2 hdg' hlocks
      rw [ht]
      intro k q hq
      refine hP2 k q ?_
      rw [wJ_ext hk h99 h99', List.getElem?_append_left (List.getElem?_eq_some_iff.mp hq).1]
      exact hq
/-! counters that run down; bounds written another way -/
theorem kd_0 : (20 : Int32) - nI 0 = 20 := rfl
theorem kd_1 (j : Nat) : 20 - nI j + Int32.ofInt (-1) = 20 - nI (j + 1) := by
  rw [nI_succ, Int32.sub_eq_add_neg, Int32.sub_eq_add_neg, Int32.neg_add, Int32.sub_eq_add_neg, Int32.add_assoc]
  rfl
theorem kd_toInt {j : Nat} (h : j ≤ 21) : (20 - nI j : Int32).toInt = 20 - (j : Int) := pk_sub_toInt (a := 20) (b := j) (by omega) (by omega)
theorem kd_step {j : Nat} (h : j < 21) : ¬ 20 - nI j < 0 := by
  rw [i32_lt, kd_toInt (by omega), show (0 : Int32).toInt = 0 from rfl]
  omega
theorem kd_exit : (20 : Int32) - nI 21 < 0 := by decide
theorem c24_eq (a : Int32) : 24 + a = 16 + a + 8 := by
  rw [Int32.add_comm 16 a, Int32.add_assoc, Int32.add_comm]
  rfl
theorem scr_in {k : Int32} {N : Nat} (h0 : ¬ k < 0) (h : ¬ Int32.ofNat N ≤ k) (hN : N ≤ 260) : vp_in k N := by
  obtain ⟨j, hj, rfl⟩ := nI_of h0
  have h1 : ¬ nI N ≤ nI j := h
  rw [nI_leI (by omega) hj] at h1
  exact vp_in_nI (by omega) (by omega)
theorem way_in {p q r : Prop} [Decidable p] [Decidable q] [Decidable r] {a b : Int32} : vp_in (if p then 0 else (if q then 0 else (if r then (if a = 0 then 2 else 1) else (let v10 : Int32 := (if a = 0 then 0 else 1); let v12 : Int32 := (if b = 0 then 0 else 2); v10 + v12)))) 4 := by
  dsimp only
  by_cases h1 : p
  · rw [if_pos h1]; exact vp_lit (by decide)
  · by_cases h2 : q
    · rw [if_neg h1, if_pos h2]; exact vp_lit (by decide)
    · by_cases h3 : r
      · rw [if_neg h1, if_neg h2, if_pos h3]
        by_cases h4 : a = 0
        · rw [if_pos h4]; exact vp_lit (by decide)
        · rw [if_neg h4]; exact vp_lit (by decide)
      · rw [if_neg h1, if_neg h2, if_neg h3]
        by_cases h4 : a = 0
        · by_cases h5 : b = 0
          · rw [if_pos h4, if_pos h5]; exact vp_lit (by decide)
          · rw [if_pos h4, if_neg h5]; exact vp_lit (by decide)
        · by_cases h5 : b = 0
          · rw [if_neg h4, if_pos h5]; exact vp_lit (by decide)
          · rw [if_neg h4, if_neg h5]; exact vp_lit (by decide)

