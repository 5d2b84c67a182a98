set_option maxHeartbeats 4000000 in
set_option maxRecDepth 100000 in
theorem c_J6_bitCount_0f7a4 (l : Launch) (D : va_G) (cI cZ : ClassId) (ad : Nat → Nat) (x : Nat) (hx24 : x < 2 ^ 24) : Met l yJ6_bitCount_0f7a4 wsJ6_bitCount_0f7a4 ({ frames := 0, cells := 0, slots := 0, locals := 0 }) (pcP D [(cI, .int), (cZ, .boolean)] ([] : va_W) [.int (nI (x))]) (vp_Si (fun v => v = nI (bcN x))) 0 0 (fun _ => False) := by
  refine Met.ofW (cc := cJ6_bitCount_0f7a4) (maxL := 1) (ret := (some .int)) (by decide) rfl ?_
  intro p e s m args below meth c s₁ BB hml hv
  obtain ⟨rfl, hP, hK⟩ := hv
  have hx := BB.exec
  have hb := BB.bytes
  have hrt := BB.returns
  have hts := atoms_spec (ws := wsJ6_bitCount_0f7a4) BB.pre
  have hown : s.vm.findClass RJ6 = some m.cls := findClass_of_methodNamed BB.named
  have hlk := BB.notSynchronized
  have hl := lv_entry ([.int (nI (x))]) (n := 1) (Nat.le_of_ble_eq_true rfl)
  rw [lg_entry_eq]
  generalize (lg_sl ([.int (nI (x))]) ++ List.replicate (1 - (lg_sl ([.int (nI (x))])).length) Slot.unset).toArray = ls at hl ⊢
  have hl : lv_has ls 1 [(0, .int (nI (x)))] := hl
  refine lv_iload_n hx hb dJ6_bitCount_0f7a4_0 rfl (lv_at hl 0 rfl) ?_
  refine lv_iload_n hx hb dJ6_bitCount_0f7a4_1 rfl (lv_at hl 0 rfl) ?_
  refine lv_iconst (v := nI 1) hx hb dJ6_bitCount_0f7a4_2 (by decide) ?_
  refine lv_iushr (v := nI (x / 2)) hx hb dJ6_bitCount_0f7a4_3 (us_nI (by omega) ⟨1, by decide⟩) ?_
  refine lv_ldcw (v := nI 1431655765) hx hb hown (hts (.constant RJ6 265 (1431655765)) (by decide +kernel)) dJ6_bitCount_0f7a4_4 ?_
  refine lv_iand hx hb dJ6_bitCount_0f7a4_7 ?_
  rw [and_nI]
  refine lv_isub hx hb dJ6_bitCount_0f7a4_8 ?_
  rw [nI_sub (Nat.le_trans Nat.and_le_left (Nat.div_le_self x 2))]
  refine lv_istore_n (lv' := [(0, .int (nI (bc1 x)))]) hx hb dJ6_bitCount_0f7a4_9 rfl hl (by decide) rfl (fun ls hl => ?_)
  have h1 : bc1 x < 2 ^ 24 := Nat.lt_of_le_of_lt (Nat.sub_le _ _) hx24
  refine lv_iload_n hx hb dJ6_bitCount_0f7a4_10 rfl (lv_at hl 0 rfl) ?_
  refine lv_ldcw (v := nI 858993459) hx hb hown (hts (.constant RJ6 266 (858993459)) (by decide +kernel)) dJ6_bitCount_0f7a4_11 ?_
  refine lv_iand hx hb dJ6_bitCount_0f7a4_14 ?_
  rw [and_nI]
  refine lv_iload_n hx hb dJ6_bitCount_0f7a4_15 rfl (lv_at hl 0 rfl) ?_
  refine lv_iconst (v := nI 2) hx hb dJ6_bitCount_0f7a4_16 (by decide) ?_
  refine lv_iushr (v := nI (bc1 x / 4)) hx hb dJ6_bitCount_0f7a4_17 (us_nI (by omega) ⟨2, by decide⟩) ?_
  refine lv_ldcw (v := nI 858993459) hx hb hown (hts (.constant RJ6 266 (858993459)) (by decide +kernel)) dJ6_bitCount_0f7a4_18 ?_
  refine lv_iand hx hb dJ6_bitCount_0f7a4_21 ?_
  rw [and_nI]
  refine lv_iadd hx hb dJ6_bitCount_0f7a4_22 ?_
  rw [nI_add]
  refine lv_istore_n (lv' := [(0, .int (nI (bc2 (bc1 x))))]) hx hb dJ6_bitCount_0f7a4_23 rfl hl (by decide) rfl (fun ls hl => ?_)
  have h2 : bc2 (bc1 x) ≤ 858993459 + 858993459 := Nat.add_le_add Nat.and_le_right Nat.and_le_right
  refine lv_iload_n hx hb dJ6_bitCount_0f7a4_24 rfl (lv_at hl 0 rfl) ?_
  refine lv_iload_n hx hb dJ6_bitCount_0f7a4_25 rfl (lv_at hl 0 rfl) ?_
  refine lv_iconst (v := nI 4) hx hb dJ6_bitCount_0f7a4_26 (by decide) ?_
  refine lv_iushr (v := nI (bc2 (bc1 x) / 16)) hx hb dJ6_bitCount_0f7a4_27 (us_nI (by omega) ⟨4, by decide⟩) ?_
  refine lv_iadd hx hb dJ6_bitCount_0f7a4_28 ?_
  rw [nI_add]
  refine lv_ldcw (v := nI 252645135) hx hb hown (hts (.constant RJ6 267 (252645135)) (by decide +kernel)) dJ6_bitCount_0f7a4_29 ?_
  refine lv_iand hx hb dJ6_bitCount_0f7a4_32 ?_
  rw [and_nI]
  refine lv_istore_n (lv' := [(0, .int (nI (bc3 (bc2 (bc1 x)))))]) hx hb dJ6_bitCount_0f7a4_33 rfl hl (by decide) rfl (fun ls hl => ?_)
  have h3 : bc3 (bc2 (bc1 x)) ≤ 252645135 := Nat.and_le_right
  refine lv_iload_n hx hb dJ6_bitCount_0f7a4_34 rfl (lv_at hl 0 rfl) ?_
  refine lv_iload_n hx hb dJ6_bitCount_0f7a4_35 rfl (lv_at hl 0 rfl) ?_
  refine lv_bipush (v := nI 8) hx hb dJ6_bitCount_0f7a4_36 (by decide) ?_
  refine lv_iushr (v := nI (bc3 (bc2 (bc1 x)) / 256)) hx hb dJ6_bitCount_0f7a4_38 (us_nI (by omega) ⟨8, by decide⟩) ?_
  refine lv_iadd hx hb dJ6_bitCount_0f7a4_39 ?_
  rw [nI_add]
  refine lv_istore_n (lv' := [(0, .int (nI (bc4 (bc3 (bc2 (bc1 x))))))]) hx hb dJ6_bitCount_0f7a4_40 rfl hl (by decide) rfl (fun ls hl => ?_)
  have h4 : bc4 (bc3 (bc2 (bc1 x))) ≤ 252645135 + 252645135 := Nat.add_le_add h3 (Nat.le_trans (Nat.div_le_self _ _) h3)
  refine lv_iload_n hx hb dJ6_bitCount_0f7a4_41 rfl (lv_at hl 0 rfl) ?_
  refine lv_iload_n hx hb dJ6_bitCount_0f7a4_42 rfl (lv_at hl 0 rfl) ?_
  refine lv_bipush (v := nI 16) hx hb dJ6_bitCount_0f7a4_43 (by decide) ?_
  refine lv_iushr (v := nI (bc4 (bc3 (bc2 (bc1 x))) / 65536)) hx hb dJ6_bitCount_0f7a4_45 (us_nI (by omega) ⟨16, by decide⟩) ?_
  refine lv_iadd hx hb dJ6_bitCount_0f7a4_46 ?_
  rw [nI_add]
  refine lv_istore_n (lv' := [(0, .int (nI (bc5 (bc4 (bc3 (bc2 (bc1 x)))))))]) hx hb dJ6_bitCount_0f7a4_47 rfl hl (by decide) rfl (fun ls hl => ?_)
  refine lv_iload_n hx hb dJ6_bitCount_0f7a4_48 rfl (lv_at hl 0 rfl) ?_
  refine lv_bipush (v := nI 63) hx hb dJ6_bitCount_0f7a4_49 (by decide) ?_
  refine lv_iand hx hb dJ6_bitCount_0f7a4_51 ?_
  rw [and_nI]
  exact ri_ hx hb hrt hlk dJ6_bitCount_0f7a4_52 rfl
theorem bc_fin {N n0 : Nat} (hn : N ≤ 24) (h24 : n0 < 2 ^ 24) (hbd : bd N (nI n0)) : nI (bcN n0) = nI (cnt (fun k => hs (nI n0) (nI k)) N) := by
  rw [bcN_cnt h24]
  congr 1
  have h1 := cnt_add (fun k => n0.testBit k) N (24 - N)
  rw [show N + (24 - N) = 24 by omega] at h1
  rw [h1]
  have h2 : cnt (fun k => n0.testBit (N + k)) (24 - N) = 0 := by
    have h3 : cnt (fun k => n0.testBit (N + k)) (24 - N) = cnt (fun _ => false) (24 - N) := cnt_congr (fun j hj => by
      have h4 := hbd (N + j) (by omega)
      rwa [bt_nI _ (by omega)] at h4)
    rw [h3]
    generalize 24 - N = z
    induction z with
    | zero => rfl
    | succ z ih => simp [cnt, ih]
  have h5 : cnt (fun k => n0.testBit k) N = cnt (fun k => hs (nI n0) (nI k)) N := cnt_congr (fun j hj => by rw [hs_nI (by omega)])
  omega
set_option maxHeartbeats 4000000 in
set_option maxRecDepth 100000 in
theorem c_X2_heldCount (l : Launch) (D : va_G) (cI cZ : ClassId) (ad : Nat → Nat) (N : Nat) (A : Nat) (fl : Bool) (an : Nat → Int32) (nd : Nat → Int32) (wt : Nat → Int32) (B : Nat → Int32) (Hd : Nat → Int32) (O : Nat → Bool) (R : Nat) (HL : Nat → Int32) (LB : Nat → Int32) (SO : Nat → Bool) (NG : Nat → Bool) (WO : Nat → Bool) (SA : Nat) (SE : Nat) (x0 : Int32) (hA : A ≤ 9) (hR : R ≤ 40) (hn : N ≤ 24) (hH : okH N Hd R) (hN : okN N nd A) (hst : l.stackTraces = false) (sz : Nat) : vx_Met l yX2_heldCount wsX2_heldCount ({ frames := 7, cells := 1, slots := 6, locals := 111 }) (pcX D [(cI, .int), (cZ, .boolean)] sz (wK cI cZ ad N A fl an nd wt B Hd O R HL LB SO NG WO SA SE) [.ref (ad 0), .int (x0)]) (va_Qi (fun (r9 : Int32) (u9 : Unit) => (r9 = nI (cnt (fun k => hs (clo B Hd O R (bg nd x0 A)) (nI k)) N)) ∧ (inS x0 A = true) ∧ (True)) (wB D (va_A (wK cI cZ ad N A fl an nd wt B Hd O R HL LB SO NG WO SA SE) sz) (fun u9 : Unit => (wK cI cZ ad N A fl an nd wt B Hd O R HL LB SO NG WO SA SE))) (va_A (wK cI cZ ad N A fl an nd wt B Hd O R HL LB SO NG WO SA SE) sz)) (xX D (va_A (wK cI cZ ad N A fl an nd wt B Hd O R HL LB SO NG WO SA SE) sz) (fun (E9 : String) (u9 : Unit) => E9 = "java/lang/IllegalArgumentException" ∧ (inS x0 A = false)) (fun u9 : Unit => (wK cI cZ ad N A fl an nd wt B Hd O R HL LB SO NG WO SA SE))) 1 6 (va_A (wK cI cZ ad N A fl an nd wt B Hd O R HL LB SO NG WO SA SE) sz) := by
  refine vx_ofW (cc := cX2_heldCount) (maxL := 2) (ret := (some .int)) (by decide) rfl ?_
  intro p e s m args below meth c s₁ BB hml htab hv
  obtain ⟨rfl, hsz, hP, hK, hD0, hX, hZ⟩ := hv
  have hx := BB.exec
  have hb := BB.bytes
  have hrt := BB.returns
  have hts := atoms_spec (ws := wsX2_heldCount) BB.pre
  have hown : s.vm.findClass RX2 = some m.cls := findClass_of_methodNamed BB.named
  have hlk := BB.notSynchronized
  subst hsz
  have hD := hD0.self (sz := s.heap.size)
  generalize hAe : va_A (wK cI cZ ad N A fl an nd wt B Hd O R HL LB SO NG WO SA SE) s.heap.size = Ap at hD hZ ⊢
  have hAp : ∀ q : Nat, s.heap.size ≤ q → Ap q := fun q h => by rw [← hAe]; exact Or.inr h
  have hS : va_S Ap s.heap s.heap [] := va_S.rf
  have f22 := hts (.fieldLink RX2 22 "AssumptionKeeper" "rules" "LAssumptionKeeper$RuleBook;") (by decide +kernel)
  have hin2 : ∀ w ∈ u_ws RX2 TX2 8, w ∈ wsX2_heldCount := by decide +kernel
  have hl := lv_entry ([.ref (ad 0), .int (x0)]) (n := 2) (Nat.le_of_ble_eq_true rfl)
  rw [lg_entry_eq]
  generalize (lg_sl ([.ref (ad 0), .int (x0)]) ++ List.replicate (2 - (lg_sl ([.ref (ad 0), .int (x0)])).length) Slot.unset).toArray = ls at hl ⊢
  have hl : lv_has ls 2 [(0, .ref (ad 0)), (1, .int (x0))] := hl
  refine lv_aload_n hx hb dX2_heldCount_0 rfl (lv_at hl 0 rfl) ?_
  refine lv_iload_n hx hb dX2_heldCount_1 rfl (lv_at hl 1 rfl) ?_
  refine xu_v (wr := []) (vx_runV (As := [.int (x0)]) (rest := []) ⟨hx, hb, hml, hown, hts⟩ (c_X2_requireEnvironment l D cI cZ ad (N) (A) (fl) (an) (nd) (wt) (B) (Hd) (O) (R) (HL) (LB) (SO) (NG) (WO) (SA) (SE) (x0)  hst (s.heap).size) (cwV 1 hts gX2_heldCount_X2_requireEnvironment rfl rfl rfl (by decide +kernel) ⟨Nat.le_of_ble_eq_true rfl, Nat.le_of_ble_eq_true rfl⟩) (prx_V (q0 := 0) (ci := 2) (hP.sub (ws' := (wK cI cZ ad N A fl an nd wt B Hd O R HL LB SO NG WO SA SE)) [0, 1, 2, 3, 4, 5, 6, 7, 8, 9, 10, 11, 12, 13] rfl) (hD.sub (ws' := (wK cI cZ ad N A fl an nd wt B Hd O R HL LB SO NG WO SA SE)) [0, 1, 2, 3, 4, 5, 6, 7, 8, 9, 10, 11, 12, 13] (by decide) rfl) hK hX hZ hS (va_free (wc := (wK cI cZ ad N A fl an nd wt B Hd O R HL LB SO NG WO SA SE)) hD hS hAp [0, 1, 2, 3, 4, 5, 6, 7, 8, 9, 10, 11, 12, 13] rfl) rfl rfl) rfl rfl hl.1 rfl (lv_room (Nat.le_of_ble_eq_true rfl)) dX2_heldCount_2 ⟨Nat.le_of_ble_eq_true rfl, Nat.le_of_ble_eq_true rfl⟩) hP hD hS hAp [0, 1, 2, 3, 4, 5, 6, 7, 8, 9, 10, 11, 12, 13] [] rfl rfl (by decide) (by decide) (fun E_2 ce_2 q9_2 ux_2 H locs hxp_2 hP hD hS h7_2 h8_2 h9_2 => ?_) (fun u_2 H locs hq_2 hP hD hS => ?_)
  · skip
    have hP : va_P D vwCl (wK cI cZ ad N A fl an nd wt B Hd O R HL LB SO NG WO SA SE) H := hP
    have hD : va_D Ap (wK cI cZ ad N A fl an nd wt B Hd O R HL LB SO NG WO SA SE) := hD
    exact x_out (u := ()) htab hlk h7_2 h8_2 h9_2 hS hP hD (Nat.le_of_ble_eq_true rfl) (Nat.le_of_ble_eq_true rfl) (by obtain ⟨hE9, hc9⟩ := hxp_2; subst hE9; simp [hc9])
  · skip
    obtain ⟨hok_2, -⟩ := hq_2
    have hP : va_P D vwCl (wK cI cZ ad N A fl an nd wt B Hd O R HL LB SO NG WO SA SE) H := hP
    have hD : va_D Ap (wK cI cZ ad N A fl an nd wt B Hd O R HL LB SO NG WO SA SE) := hD
    refine W.widen (k := 1) (n := 6) (by decide) (by decide) ?_
    refine lv_aload_n hx hb dX2_heldCount_5 rfl (lv_at hl 0 rfl) ?_
    refine va_get (D := D) (ci := 2) (v := .ref (ad 4)) (C := RX2) (T := TX2) (N := 8) hx hb hts hin2 hown hK.1 hP 0 rfl rfl 3 (by decide) f22 (fun _ h9 => h9) rfl dX2_heldCount_6 ?_
    refine lv_aload_n hx hb dX2_heldCount_9 rfl (lv_at hl 0 rfl) ?_
    refine lv_iload_n hx hb dX2_heldCount_10 rfl (lv_at hl 1 rfl) ?_
    refine pu_i (va_runV (As := [.int (x0)]) (rest := [.ref (ad 4)]) ⟨hx, hb, hml, hown, hts⟩ (c_X2_nodesOf l D cI cZ ad (N) (A) (fl) (an) (nd) (wt) (B) (Hd) (O) (R) (HL) (LB) (SO) (NG) (WO) (SA) (SE) (x0) (by omega)) (cwV 1 hts gX2_heldCount_X2_nodesOf rfl rfl rfl (by decide +kernel) ⟨Nat.le_of_ble_eq_true rfl, Nat.le_of_ble_eq_true rfl⟩) (pre_V (q0 := 0) (ci := 2) (hP.sub (ws' := (wK cI cZ ad N A fl an nd wt B Hd O R HL LB SO NG WO SA SE)) [0, 1, 2, 3, 4, 5, 6, 7, 8, 9, 10, 11, 12, 13] rfl) hK rfl rfl) rfl rfl hl.1 rfl (lv_room (Nat.le_of_ble_eq_true rfl)) dX2_heldCount_11 ⟨Nat.le_of_ble_eq_true rfl, Nat.le_of_ble_eq_true rfl⟩) ?_
    refine pu_i (va_runV (As := [.int (bg nd x0 A)]) (rest := []) ⟨hx, hb, hml, hown, hts⟩ (c_X0_closure l D cI cZ (fun k => ad (k + 4)) (B) (Hd) (O) (R) (bg nd x0 A) (by omega)) (cwV 1 hts gX2_heldCount_X0_closure rfl rfl rfl (by decide +kernel) ⟨Nat.le_of_ble_eq_true rfl, Nat.le_of_ble_eq_true rfl⟩) (pre_V (q0 := 0) (ci := 0) (hP.sub (ws' := (wR cI cZ (fun k => ad (k + 4)) B Hd O R)) [4, 5, 6, 7] rfl) hK rfl rfl) rfl rfl hl.1 rfl (lv_room (Nat.le_of_ble_eq_true rfl)) dX2_heldCount_14 ⟨Nat.le_of_ble_eq_true rfl, Nat.le_of_ble_eq_true rfl⟩) ?_
    have hbd := clo_bd (B := B) (O := O) hn hH (bg_bd hn hN x0)
    obtain ⟨n0, hn0, hnv⟩ := bd_nat (fun k hk => hbd k (by omega))
    rw [hnv] at hbd ⊢
    refine pu_i (va_runS (As := [.int (nI (n0))]) (rest := []) ⟨hx, hb, hml, hown, hts⟩ (c_J6_bitCount_0f7a4 l D cI cZ ad (n0) (by omega)) (va_cwS 1 hts gX2_heldCount_J6_bitCount_0f7a4 rfl rfl rfl (by decide +kernel) ⟨Nat.le_of_ble_eq_true rfl, Nat.le_of_ble_eq_true rfl⟩) (pre_S (hP.sub (ws' := ([] : va_W)) [] rfl) hK) rfl rfl hl.1 rfl (lv_room (Nat.le_of_ble_eq_true rfl)) dX2_heldCount_17 ⟨Nat.le_of_ble_eq_true rfl, Nat.le_of_ble_eq_true rfl⟩) ?_
    exact vx_ret (mr_i (u := ()) hx hb hrt hlk dX2_heldCount_20 hS hP hD ⟨(bc_fin hn hn0 hbd), (hok_2), trivial⟩)
