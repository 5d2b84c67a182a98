set_option maxHeartbeats 4000000 in
set_option maxRecDepth 100000 in
theorem c_X2_labelSize (l : Launch) (D : va_G) (cI cZ : ClassId) (ad : Nat → Nat) (N : Nat) (A : Nat) (fl : Bool) (an : Nat → Int32) (nd : Nat → Int32) (wt : Nat → Int32) (B : Nat → Int32) (Hd : Nat → Int32) (O : Nat → Bool) (R : Nat) (HL : Nat → Int32) (LB : Nat → Int32) (SO : Nat → Bool) (NG : Nat → Bool) (WO : Nat → Bool) (SA : Nat) (SE : Nat) (x0 : Int32) (hA : A ≤ 9) (hR : R ≤ 40) (hn : N ≤ 24) (hH : okH N Hd R) (hN : okN N nd A) (hsv : fl = true → svOK B Hd O R nd A HL LB SO NG WO SA SE) (hst : l.stackTraces = false) (sz : Nat) : vx_Met l yX2_labelSize wsX2_labelSize ({ frames := 7, cells := 1, slots := 6, locals := 138 }) (pcX D [(cI, .int), (cZ, .boolean)] sz (wK cI cZ ad N A fl an nd wt B Hd O R HL LB SO NG WO SA SE) [.ref (ad 0), .int (x0)]) (va_Qi (fun (r9 : Int32) (u9 : (Bool) × (Nat → Int32) × (Nat → Int32) × (Nat → Bool) × (Nat → Bool) × (Nat → Bool) × (Nat) × (Nat)) => (r9 = nI (cnt (fun e => lbM (hdE B Hd O R nd A) (soE B Hd O R nd A) x0 e) (2 ^ A))) ∧ (inR x0 N = true) ∧ ((u9.1) = true → svOK B Hd O R nd A (u9.2.1) (u9.2.2.1) (u9.2.2.2.1) (u9.2.2.2.2.1) (u9.2.2.2.2.2.1) (u9.2.2.2.2.2.2.1) (u9.2.2.2.2.2.2.2)) ∧ (True)) (wB D (va_A (wK cI cZ ad N A fl an nd wt B Hd O R HL LB SO NG WO SA SE) sz) (fun u9 : (Bool) × (Nat → Int32) × (Nat → Int32) × (Nat → Bool) × (Nat → Bool) × (Nat → Bool) × (Nat) × (Nat) => (wK cI cZ ad N A (u9.1) an nd wt B Hd O R (u9.2.1) (u9.2.2.1) (u9.2.2.2.1) (u9.2.2.2.2.1) (u9.2.2.2.2.2.1) (u9.2.2.2.2.2.2.1) (u9.2.2.2.2.2.2.2)))) (va_A (wK cI cZ ad N A fl an nd wt B Hd O R HL LB SO NG WO SA SE) sz)) (xX D (va_A (wK cI cZ ad N A fl an nd wt B Hd O R HL LB SO NG WO SA SE) sz) (fun (E9 : String) (u9 : (Bool) × (Nat → Int32) × (Nat → Int32) × (Nat → Bool) × (Nat → Bool) × (Nat → Bool) × (Nat) × (Nat)) => (E9 = "java/lang/IndexOutOfBoundsException" ∧ (inR x0 N = false)) ∧ ((u9.1) = true → svOK B Hd O R nd A (u9.2.1) (u9.2.2.1) (u9.2.2.2.1) (u9.2.2.2.2.1) (u9.2.2.2.2.2.1) (u9.2.2.2.2.2.2.1) (u9.2.2.2.2.2.2.2))) (fun u9 : (Bool) × (Nat → Int32) × (Nat → Int32) × (Nat → Bool) × (Nat → Bool) × (Nat → Bool) × (Nat) × (Nat) => (wK cI cZ ad N A (u9.1) an nd wt B Hd O R (u9.2.1) (u9.2.2.1) (u9.2.2.2.1) (u9.2.2.2.2.1) (u9.2.2.2.2.2.1) (u9.2.2.2.2.2.2.1) (u9.2.2.2.2.2.2.2)))) 1 6 (va_A (wK cI cZ ad N A fl an nd wt B Hd O R HL LB SO NG WO SA SE) sz) := by
  refine vx_ofW (cc := cX2_labelSize) (maxL := 2) (ret := (some .int)) (by decide) rfl ?_
  intro p e s m args below meth c s₁ BB hml htab hv
  obtain ⟨rfl, hsz, hP, hK, hD0, hX, hZ⟩ := hv
  have hx := BB.exec
  have hb := BB.bytes
  have hrt := BB.returns
  have hts := atoms_spec (ws := wsX2_labelSize) BB.pre
  have hown : s.vm.findClass RX2 = some m.cls := findClass_of_methodNamed BB.named
  have hlk := BB.notSynchronized
  subst hsz
  have hD := hD0.self (sz := s.heap.size)
  generalize hAe : va_A (wK cI cZ ad N A fl an nd wt B Hd O R HL LB SO NG WO SA SE) s.heap.size = Ap at hD hZ ⊢
  have hAp : ∀ q : Nat, s.heap.size ≤ q → Ap q := fun q h => by rw [← hAe]; exact Or.inr h
  have hS : va_S Ap s.heap s.heap [] := va_S.rf
  have hl := lv_entry ([.ref (ad 0), .int (x0)]) (n := 2) (Nat.le_of_ble_eq_true rfl)
  rw [lg_entry_eq]
  generalize (lg_sl ([.ref (ad 0), .int (x0)]) ++ List.replicate (2 - (lg_sl ([.ref (ad 0), .int (x0)])).length) Slot.unset).toArray = ls at hl ⊢
  have hl : lv_has ls 2 [(0, .ref (ad 0)), (1, .int (x0))] := hl
  have h512 : 2 ^ A ≤ 512 := pow9 hA
  have hpos : 0 < 2 ^ A := Nat.two_pow_pos A
  refine lv_aload_n hx hb dX2_labelSize_0 rfl (lv_at hl 0 rfl) ?_
  refine lv_iload_n hx hb dX2_labelSize_1 rfl (lv_at hl 1 rfl) ?_
  refine xu_v (wr := []) (vx_runV (As := [.int (x0)]) (rest := []) ⟨hx, hb, hml, hown, hts⟩ (c_X2_requireNode l D cI cZ ad (N) (A) (fl) (an) (nd) (wt) (B) (Hd) (O) (R) (HL) (LB) (SO) (NG) (WO) (SA) (SE) (x0)  hst (s.heap).size) (cwV 1 hts gX2_labelSize_X2_requireNode rfl rfl rfl (by decide +kernel) ⟨Nat.le_of_ble_eq_true rfl, Nat.le_of_ble_eq_true rfl⟩) (prx_V (q0 := 0) (ci := 2) (hP.sub (ws' := (wK cI cZ ad N A fl an nd wt B Hd O R HL LB SO NG WO SA SE)) [0, 1, 2, 3, 4, 5, 6, 7, 8, 9, 10, 11, 12, 13] rfl) (hD.sub (ws' := (wK cI cZ ad N A fl an nd wt B Hd O R HL LB SO NG WO SA SE)) [0, 1, 2, 3, 4, 5, 6, 7, 8, 9, 10, 11, 12, 13] (by decide) rfl) hK hX hZ hS (va_free (wc := (wK cI cZ ad N A fl an nd wt B Hd O R HL LB SO NG WO SA SE)) hD hS hAp [0, 1, 2, 3, 4, 5, 6, 7, 8, 9, 10, 11, 12, 13] rfl) rfl rfl) rfl rfl hl.1 rfl (lv_room (Nat.le_of_ble_eq_true rfl)) dX2_labelSize_2 ⟨Nat.le_of_ble_eq_true rfl, Nat.le_of_ble_eq_true rfl⟩) hP hD hS hAp [0, 1, 2, 3, 4, 5, 6, 7, 8, 9, 10, 11, 12, 13] [] rfl rfl (by decide) (by decide) (fun E_2 ce_2 q9_2 ux_2 H locs hxp_2 hP hD hS h7_2 h8_2 h9_2 => ?_) (fun u_2 H locs hq_2 hP hD hS => ?_)
  · skip
    have hP : va_P D vwCl (wK cI cZ ad N A fl an nd wt B Hd O R HL LB SO NG WO SA SE) H := hP
    have hD : va_D Ap (wK cI cZ ad N A fl an nd wt B Hd O R HL LB SO NG WO SA SE) := hD
    exact x_out (u := (fl, HL, LB, SO, NG, WO, SA, SE)) htab hlk h7_2 h8_2 h9_2 hS hP hD (Nat.le_of_ble_eq_true rfl) (Nat.le_of_ble_eq_true rfl) (⟨by obtain ⟨hE9, hc9⟩ := hxp_2; subst hE9; simp [hc9], hsv⟩)
  · skip
    obtain ⟨hok_2, -⟩ := hq_2
    have hP : va_P D vwCl (wK cI cZ ad N A fl an nd wt B Hd O R HL LB SO NG WO SA SE) H := hP
    have hD : va_D Ap (wK cI cZ ad N A fl an nd wt B Hd O R HL LB SO NG WO SA SE) := hD
    refine W.widen (k := 1) (n := 6) (by decide) (by decide) ?_
    refine lv_aload_n hx hb dX2_labelSize_5 rfl (lv_at hl 0 rfl) ?_
    refine mu_a (wr := []) (va_runV (As := []) (rest := []) ⟨hx, hb, hml, hown, hts⟩ (c_X2_surveyNow l D cI cZ ad (N) (A) (fl) (an) (nd) (wt) (B) (Hd) (O) (R) (HL) (LB) (SO) (NG) (WO) (SA) (SE) (by omega) (by omega) (hn) (hH) (hN) (hsv) (H).size) (cwV 0 hts gX2_labelSize_X2_surveyNow rfl rfl rfl (by decide +kernel) ⟨Nat.le_of_ble_eq_true rfl, Nat.le_of_ble_eq_true rfl⟩) (prw_V (q0 := 0) (ci := 2) (hP.sub (ws' := (wK cI cZ ad N A fl an nd wt B Hd O R HL LB SO NG WO SA SE)) [0, 1, 2, 3, 4, 5, 6, 7, 8, 9, 10, 11, 12, 13] rfl) (hD.sub (ws' := (wK cI cZ ad N A fl an nd wt B Hd O R HL LB SO NG WO SA SE)) [0, 1, 2, 3, 4, 5, 6, 7, 8, 9, 10, 11, 12, 13] (by decide) rfl) hK rfl rfl) rfl rfl hl.1 rfl (lv_room (Nat.le_of_ble_eq_true rfl)) dX2_labelSize_6 ⟨Nat.le_of_ble_eq_true rfl, Nat.le_of_ble_eq_true rfl⟩) hP hD hS hAp [0, 1, 2, 3, 4, 5, 6, 7, 8, 9, 10, 11, 12, 13] [] rfl rfl (by decide) (by decide) (fun u_6 H locs hq_6 hP hD hS => ?_)
    obtain ⟨HL9_6, LB9_6, SO9_6, NG9_6, WO9_6⟩ := u_6
    obtain ⟨hsv_6, -⟩ := hq_6
    have hsv_6 : svOK B Hd O R nd A HL9_6 LB9_6 SO9_6 NG9_6 WO9_6 A (2 ^ A) := hsv_6
    have hP : va_P D vwCl (wK cI cZ ad N A true an nd wt B Hd O R HL9_6 LB9_6 SO9_6 NG9_6 WO9_6 A (2 ^ A)) H := hP
    have hD : va_D Ap (wK cI cZ ad N A true an nd wt B Hd O R HL9_6 LB9_6 SO9_6 NG9_6 WO9_6 A (2 ^ A)) := hD
    refine lv_iload_n hx hb dX2_labelSize_9 rfl (lv_at hl 1 rfl) ?_
    refine pu_i (va_runV (As := [.int (x0)]) (rest := []) ⟨hx, hb, hml, hown, hts⟩ (c_X1_sizeOfLabel l D cI cZ (fun k => ad (k + 8)) (HL9_6) (LB9_6) (SO9_6) (NG9_6) (WO9_6) (A) (2 ^ A) (x0) (by omega)) (cwV 1 hts gX2_labelSize_X1_sizeOfLabel rfl rfl rfl (by decide +kernel) ⟨Nat.le_of_ble_eq_true rfl, Nat.le_of_ble_eq_true rfl⟩) (pre_V (q0 := 0) (ci := 1) (hP.sub (ws' := (wS cI cZ (fun k => ad (k + 8)) HL9_6 LB9_6 SO9_6 NG9_6 WO9_6 A (2 ^ A))) [8, 9, 10, 11, 12, 13] rfl) hK rfl rfl) rfl rfl hl.1 rfl (lv_room (Nat.le_of_ble_eq_true rfl)) dX2_labelSize_10 ⟨Nat.le_of_ble_eq_true rfl, Nat.le_of_ble_eq_true rfl⟩) ?_
    exact vx_ret (mr_i (u := (true, HL9_6, LB9_6, SO9_6, NG9_6, WO9_6, A, 2 ^ A)) hx hb hrt hlk dX2_labelSize_13 hS hP hD ⟨(congrArg nI (cnt_congr (lbK hA hn hok_2 hsv_6))), (hok_2), (fun _ => hsv_6), trivial⟩)
set_option maxHeartbeats 4000000 in
set_option maxRecDepth 100000 in
theorem c_X2_label (l : Launch) (D : va_G) (cI cZ : ClassId) (ad : Nat → Nat) (N : Nat) (A : Nat) (fl : Bool) (an : Nat → Int32) (nd : Nat → Int32) (wt : Nat → Int32) (B : Nat → Int32) (Hd : Nat → Int32) (O : Nat → Bool) (R : Nat) (HL : Nat → Int32) (LB : Nat → Int32) (SO : Nat → Bool) (NG : Nat → Bool) (WO : Nat → Bool) (SA : Nat) (SE : Nat) (x0 : Int32) (y0 : Int32) (hA : A ≤ 9) (hR : R ≤ 40) (hn : N ≤ 24) (hH : okH N Hd R) (hN : okN N nd A) (hsv : fl = true → svOK B Hd O R nd A HL LB SO NG WO SA SE) (hst : l.stackTraces = false) (sz : Nat) : vx_Met l yX2_label wsX2_label ({ frames := 7, cells := 2, slots := 12, locals := 138 }) (pcX D [(cI, .int), (cZ, .boolean)] sz (wK cI cZ ad N A fl an nd wt B Hd O R HL LB SO NG WO SA SE) [.ref (ad 0), .int (x0), .int (y0)]) (va_Qi (fun (r9 : Int32) (u9 : (Bool) × (Nat → Int32) × (Nat → Int32) × (Nat → Bool) × (Nat → Bool) × (Nat → Bool) × (Nat) × (Nat)) => (r9 = nth (fun e => lbM (hdE B Hd O R nd A) (soE B Hd O R nd A) x0 e) (2 ^ A) y0) ∧ (inR x0 N = true ∧ ¬ nth (fun e => lbM (hdE B Hd O R nd A) (soE B Hd O R nd A) x0 e) (2 ^ A) y0 = -1) ∧ ((u9.1) = true → svOK B Hd O R nd A (u9.2.1) (u9.2.2.1) (u9.2.2.2.1) (u9.2.2.2.2.1) (u9.2.2.2.2.2.1) (u9.2.2.2.2.2.2.1) (u9.2.2.2.2.2.2.2)) ∧ (True)) (wB D (va_A (wK cI cZ ad N A fl an nd wt B Hd O R HL LB SO NG WO SA SE) sz) (fun u9 : (Bool) × (Nat → Int32) × (Nat → Int32) × (Nat → Bool) × (Nat → Bool) × (Nat → Bool) × (Nat) × (Nat) => (wK cI cZ ad N A (u9.1) an nd wt B Hd O R (u9.2.1) (u9.2.2.1) (u9.2.2.2.1) (u9.2.2.2.2.1) (u9.2.2.2.2.2.1) (u9.2.2.2.2.2.2.1) (u9.2.2.2.2.2.2.2)))) (va_A (wK cI cZ ad N A fl an nd wt B Hd O R HL LB SO NG WO SA SE) sz)) (xX D (va_A (wK cI cZ ad N A fl an nd wt B Hd O R HL LB SO NG WO SA SE) sz) (fun (E9 : String) (u9 : (Bool) × (Nat → Int32) × (Nat → Int32) × (Nat → Bool) × (Nat → Bool) × (Nat → Bool) × (Nat) × (Nat)) => (E9 = "java/lang/IndexOutOfBoundsException" ∧ (inR x0 N = false ∨ (inR x0 N = true ∧ nth (fun e => lbM (hdE B Hd O R nd A) (soE B Hd O R nd A) x0 e) (2 ^ A) y0 = -1))) ∧ ((u9.1) = true → svOK B Hd O R nd A (u9.2.1) (u9.2.2.1) (u9.2.2.2.1) (u9.2.2.2.2.1) (u9.2.2.2.2.2.1) (u9.2.2.2.2.2.2.1) (u9.2.2.2.2.2.2.2))) (fun u9 : (Bool) × (Nat → Int32) × (Nat → Int32) × (Nat → Bool) × (Nat → Bool) × (Nat → Bool) × (Nat) × (Nat) => (wK cI cZ ad N A (u9.1) an nd wt B Hd O R (u9.2.1) (u9.2.2.1) (u9.2.2.2.1) (u9.2.2.2.2.1) (u9.2.2.2.2.2.1) (u9.2.2.2.2.2.2.1) (u9.2.2.2.2.2.2.2)))) 2 12 (va_A (wK cI cZ ad N A fl an nd wt B Hd O R HL LB SO NG WO SA SE) sz) := by
  refine vx_ofW (cc := cX2_label) (maxL := 3) (ret := (some .int)) (by decide) rfl ?_
  intro p e s m args below meth c s₁ BB hml htab hv
  obtain ⟨rfl, hsz, hP, hK, hD0, hX, hZ⟩ := hv
  have hx := BB.exec
  have hb := BB.bytes
  have hrt := BB.returns
  have hts := atoms_spec (ws := wsX2_label) BB.pre
  have hown : s.vm.findClass RX2 = some m.cls := findClass_of_methodNamed BB.named
  have hlk := BB.notSynchronized
  subst hsz
  have hD := hD0.self (sz := s.heap.size)
  generalize hAe : va_A (wK cI cZ ad N A fl an nd wt B Hd O R HL LB SO NG WO SA SE) s.heap.size = Ap at hD hZ ⊢
  have hAp : ∀ q : Nat, s.heap.size ≤ q → Ap q := fun q h => by rw [← hAe]; exact Or.inr h
  have hS : va_S Ap s.heap s.heap [] := va_S.rf
  have hl := lv_entry ([.ref (ad 0), .int (x0), .int (y0)]) (n := 3) (Nat.le_of_ble_eq_true rfl)
  rw [lg_entry_eq]
  generalize (lg_sl ([.ref (ad 0), .int (x0), .int (y0)]) ++ List.replicate (3 - (lg_sl ([.ref (ad 0), .int (x0), .int (y0)])).length) Slot.unset).toArray = ls at hl ⊢
  have hl : lv_has ls 3 [(0, .ref (ad 0)), (1, .int (x0)), (2, .int (y0))] := hl
  have h512 : 2 ^ A ≤ 512 := pow9 hA
  have hpos : 0 < 2 ^ A := Nat.two_pow_pos A
  refine lv_aload_n hx hb dX2_label_0 rfl (lv_at hl 0 rfl) ?_
  refine lv_iload_n hx hb dX2_label_1 rfl (lv_at hl 1 rfl) ?_
  refine xu_v (wr := []) (vx_runV (As := [.int (x0)]) (rest := []) ⟨hx, hb, hml, hown, hts⟩ (c_X2_requireNode l D cI cZ ad (N) (A) (fl) (an) (nd) (wt) (B) (Hd) (O) (R) (HL) (LB) (SO) (NG) (WO) (SA) (SE) (x0)  hst (s.heap).size) (cwV 1 hts gX2_label_X2_requireNode rfl rfl rfl (by decide +kernel) ⟨Nat.le_of_ble_eq_true rfl, Nat.le_of_ble_eq_true rfl⟩) (prx_V (q0 := 0) (ci := 2) (hP.sub (ws' := (wK cI cZ ad N A fl an nd wt B Hd O R HL LB SO NG WO SA SE)) [0, 1, 2, 3, 4, 5, 6, 7, 8, 9, 10, 11, 12, 13] rfl) (hD.sub (ws' := (wK cI cZ ad N A fl an nd wt B Hd O R HL LB SO NG WO SA SE)) [0, 1, 2, 3, 4, 5, 6, 7, 8, 9, 10, 11, 12, 13] (by decide) rfl) hK hX hZ hS (va_free (wc := (wK cI cZ ad N A fl an nd wt B Hd O R HL LB SO NG WO SA SE)) hD hS hAp [0, 1, 2, 3, 4, 5, 6, 7, 8, 9, 10, 11, 12, 13] rfl) rfl rfl) rfl rfl hl.1 rfl (lv_room (Nat.le_of_ble_eq_true rfl)) dX2_label_2 ⟨Nat.le_of_ble_eq_true rfl, Nat.le_of_ble_eq_true rfl⟩) hP hD hS hAp [0, 1, 2, 3, 4, 5, 6, 7, 8, 9, 10, 11, 12, 13] [] rfl rfl (by decide) (by decide) (fun E_2 ce_2 q9_2 ux_2 H locs hxp_2 hP hD hS h7_2 h8_2 h9_2 => ?_) (fun u_2 H locs hq_2 hP hD hS => ?_)
  · skip
    have hP : va_P D vwCl (wK cI cZ ad N A fl an nd wt B Hd O R HL LB SO NG WO SA SE) H := hP
    have hD : va_D Ap (wK cI cZ ad N A fl an nd wt B Hd O R HL LB SO NG WO SA SE) := hD
    exact x_out (u := (fl, HL, LB, SO, NG, WO, SA, SE)) htab hlk h7_2 h8_2 h9_2 hS hP hD (Nat.le_of_ble_eq_true rfl) (Nat.le_of_ble_eq_true rfl) (⟨by obtain ⟨hE9, hc9⟩ := hxp_2; exact ⟨hE9, Or.inl hc9⟩, hsv⟩)
  · skip
    obtain ⟨hok_2, -⟩ := hq_2
    have hP : va_P D vwCl (wK cI cZ ad N A fl an nd wt B Hd O R HL LB SO NG WO SA SE) H := hP
    have hD : va_D Ap (wK cI cZ ad N A fl an nd wt B Hd O R HL LB SO NG WO SA SE) := hD
    refine W.widen (k := 1) (n := 6) (by decide) (by decide) ?_
    refine lv_aload_n hx hb dX2_label_5 rfl (lv_at hl 0 rfl) ?_
    refine mu_a (wr := []) (va_runV (As := []) (rest := []) ⟨hx, hb, hml, hown, hts⟩ (c_X2_surveyNow l D cI cZ ad (N) (A) (fl) (an) (nd) (wt) (B) (Hd) (O) (R) (HL) (LB) (SO) (NG) (WO) (SA) (SE) (by omega) (by omega) (hn) (hH) (hN) (hsv) (H).size) (cwV 0 hts gX2_label_X2_surveyNow rfl rfl rfl (by decide +kernel) ⟨Nat.le_of_ble_eq_true rfl, Nat.le_of_ble_eq_true rfl⟩) (prw_V (q0 := 0) (ci := 2) (hP.sub (ws' := (wK cI cZ ad N A fl an nd wt B Hd O R HL LB SO NG WO SA SE)) [0, 1, 2, 3, 4, 5, 6, 7, 8, 9, 10, 11, 12, 13] rfl) (hD.sub (ws' := (wK cI cZ ad N A fl an nd wt B Hd O R HL LB SO NG WO SA SE)) [0, 1, 2, 3, 4, 5, 6, 7, 8, 9, 10, 11, 12, 13] (by decide) rfl) hK rfl rfl) rfl rfl hl.1 rfl (lv_room (Nat.le_of_ble_eq_true rfl)) dX2_label_6 ⟨Nat.le_of_ble_eq_true rfl, Nat.le_of_ble_eq_true rfl⟩) hP hD hS hAp [0, 1, 2, 3, 4, 5, 6, 7, 8, 9, 10, 11, 12, 13] [] rfl rfl (by decide) (by decide) (fun u_6 H locs hq_6 hP hD hS => ?_)
    obtain ⟨HL9_6, LB9_6, SO9_6, NG9_6, WO9_6⟩ := u_6
    obtain ⟨hsv_6, -⟩ := hq_6
    have hsv_6 : svOK B Hd O R nd A HL9_6 LB9_6 SO9_6 NG9_6 WO9_6 A (2 ^ A) := hsv_6
    have hP : va_P D vwCl (wK cI cZ ad N A true an nd wt B Hd O R HL9_6 LB9_6 SO9_6 NG9_6 WO9_6 A (2 ^ A)) H := hP
    have hD : va_D Ap (wK cI cZ ad N A true an nd wt B Hd O R HL9_6 LB9_6 SO9_6 NG9_6 WO9_6 A (2 ^ A)) := hD
    refine lv_iload_n hx hb dX2_label_9 rfl (lv_at hl 1 rfl) ?_
    refine lv_iload_n hx hb dX2_label_10 rfl (lv_at hl 2 rfl) ?_
    refine pu_i (va_runV (As := [.int (x0), .int (y0)]) (rest := []) ⟨hx, hb, hml, hown, hts⟩ (c_X1_memberOfLabel l D cI cZ (fun k => ad (k + 8)) (HL9_6) (LB9_6) (SO9_6) (NG9_6) (WO9_6) (A) (2 ^ A) (x0) (y0) (by omega)) (cwV 2 hts gX2_label_X1_memberOfLabel rfl rfl rfl (by decide +kernel) ⟨Nat.le_of_ble_eq_true rfl, Nat.le_of_ble_eq_true rfl⟩) (pre_V (q0 := 0) (ci := 1) (hP.sub (ws' := (wS cI cZ (fun k => ad (k + 8)) HL9_6 LB9_6 SO9_6 NG9_6 WO9_6 A (2 ^ A))) [8, 9, 10, 11, 12, 13] rfl) hK rfl rfl) rfl rfl hl.1 rfl (lv_room (Nat.le_of_ble_eq_true rfl)) dX2_label_11 ⟨Nat.le_of_ble_eq_true rfl, Nat.le_of_ble_eq_true rfl⟩) ?_
    have hnth := nth_congr (q := y0) (lbK hA hn hok_2 hsv_6)
    refine xu_i (wr := [(ad 0, .inr (2, [.ref (ad 1), .ref (ad 2), .ref (ad 3), .ref (ad 4), .ref (ad 8), .int (nI (N)), .int (nI (A)), .int (bI (true))])), (ad 1, .inl (cI, 24, .inl an)), (ad 2, .inl (cI, 9, .inl nd)), (ad 3, .inl (cI, 9, .inl wt)), (ad 4, .inr (0, [.ref (ad 5), .ref (ad 6), .ref (ad 7), .int (nI (R))])), (ad 5, .inl (cI, 40, .inl B)), (ad 6, .inl (cI, 40, .inl Hd)), (ad 7, .inl (cZ, 40, .inl (fun j => bI (O j)))), (ad 8, .inr (1, [.ref (ad 9), .ref (ad 10), .ref (ad 11), .ref (ad 12), .ref (ad 13), .int (nI (A)), .int (nI (2 ^ A))])), (ad 9, .inl (cI, 512, .inl HL9_6)), (ad 10, .inl (cI, 512, .inl LB9_6)), (ad 11, .inl (cZ, 512, .inl (fun j => bI (SO9_6 j)))), (ad 12, .inl (cZ, 512, .inl (fun j => bI (NG9_6 j)))), (ad 13, .inl (cZ, 512, .inl (fun j => bI (WO9_6 j))))]) (vx_runS (As := [.int (nth (fun e => hs (LB9_6 e) x0) (2 ^ A) y0)]) (rest := []) ⟨hx, hb, hml, hown, hts⟩ (c_X2_requireFound l D cI cZ ad (nth (fun e => hs (LB9_6 e) x0) (2 ^ A) y0)  hst (H).size) (cwS 1 hts gX2_label_X2_requireFound rfl rfl rfl (by decide +kernel) ⟨Nat.le_of_ble_eq_true rfl, Nat.le_of_ble_eq_true rfl⟩) (prx_S (hP.sub (ws' := ([] : va_W)) [] rfl) (hD.sub (ws' := ([] : va_W)) [] (by decide) rfl) hK hX hZ hS (va_free (wc := ([] : va_W)) hD hS hAp [] rfl)) rfl rfl hl.1 rfl (lv_room (Nat.le_of_ble_eq_true rfl)) dX2_label_14 ⟨Nat.le_of_ble_eq_true rfl, Nat.le_of_ble_eq_true rfl⟩) hP hD hS hAp [] [0, 1, 2, 3, 4, 5, 6, 7, 8, 9, 10, 11, 12, 13] rfl rfl (by decide) (by decide) (fun E_14 ce_14 q9_14 ux_14 H locs hxp_14 hP hD hS h7_14 h8_14 h9_14 => ?_) (fun r_14 u_14 H locs hq_14 hP hD hS => ?_)
    · skip
      have hP : va_P D vwCl (wK cI cZ ad N A true an nd wt B Hd O R HL9_6 LB9_6 SO9_6 NG9_6 WO9_6 A (2 ^ A)) H := hP
      have hD : va_D Ap (wK cI cZ ad N A true an nd wt B Hd O R HL9_6 LB9_6 SO9_6 NG9_6 WO9_6 A (2 ^ A)) := hD
      exact x_out (u := (true, HL9_6, LB9_6, SO9_6, NG9_6, WO9_6, A, 2 ^ A)) htab hlk h7_14 h8_14 h9_14 hS hP hD (Nat.le_of_ble_eq_true rfl) (Nat.le_of_ble_eq_true rfl) (⟨by obtain ⟨hE9, hc9⟩ := hxp_14; exact ⟨hE9, Or.inr ⟨hok_2, hnth.symm.trans hc9⟩⟩, fun _ => hsv_6⟩)
    · skip
      obtain ⟨rfl, hok_14, -⟩ := hq_14
      have hP : va_P D vwCl (wK cI cZ ad N A true an nd wt B Hd O R HL9_6 LB9_6 SO9_6 NG9_6 WO9_6 A (2 ^ A)) H := hP
      have hD : va_D Ap (wK cI cZ ad N A true an nd wt B Hd O R HL9_6 LB9_6 SO9_6 NG9_6 WO9_6 A (2 ^ A)) := hD
      refine W.widen (k := 2) (n := 12) (by decide) (by decide) ?_
      exact vx_ret (mr_i (u := (true, HL9_6, LB9_6, SO9_6, NG9_6, WO9_6, A, 2 ^ A)) hx hb hrt hlk dX2_label_17 hS hP hD ⟨(hnth), (⟨hok_2, by rw [← hnth]; exact hok_14⟩), (fun _ => hsv_6), trivial⟩)
set_option maxHeartbeats 4000000 in
set_option maxRecDepth 100000 in
theorem c_X2_cheapest (l : Launch) (D : va_G) (cI cZ : ClassId) (ad : Nat → Nat) (N : Nat) (A : Nat) (fl : Bool) (an : Nat → Int32) (nd : Nat → Int32) (wt : Nat → Int32) (B : Nat → Int32) (Hd : Nat → Int32) (O : Nat → Bool) (R : Nat) (HL : Nat → Int32) (LB : Nat → Int32) (SO : Nat → Bool) (NG : Nat → Bool) (WO : Nat → Bool) (SA : Nat) (SE : Nat) (x0 : Int32) (hA : A ≤ 9) (hR : R ≤ 40) (hn : N ≤ 24) (hH : okH N Hd R) (hN : okN N nd A) (hsv : fl = true → svOK B Hd O R nd A HL LB SO NG WO SA SE) (hst : l.stackTraces = false) (sz : Nat) : vx_Met l yX2_cheapest wsX2_cheapest ({ frames := 7, cells := 1, slots := 6, locals := 138 }) (pcX D [(cI, .int), (cZ, .boolean)] sz (wK cI cZ ad N A fl an nd wt B Hd O R HL LB SO NG WO SA SE) [.ref (ad 0), .int (x0)]) (va_Qi (fun (r9 : Int32) (u9 : (Bool) × (Nat → Int32) × (Nat → Int32) × (Nat → Bool) × (Nat → Bool) × (Nat → Bool) × (Nat) × (Nat)) => (r9 = (chE (fun e => lbM (hdE B Hd O R nd A) (soE B Hd O R nd A) x0 e) wt A (2 ^ A)).1) ∧ (inR x0 N = true) ∧ ((u9.1) = true → svOK B Hd O R nd A (u9.2.1) (u9.2.2.1) (u9.2.2.2.1) (u9.2.2.2.2.1) (u9.2.2.2.2.2.1) (u9.2.2.2.2.2.2.1) (u9.2.2.2.2.2.2.2)) ∧ (True)) (wB D (va_A (wK cI cZ ad N A fl an nd wt B Hd O R HL LB SO NG WO SA SE) sz) (fun u9 : (Bool) × (Nat → Int32) × (Nat → Int32) × (Nat → Bool) × (Nat → Bool) × (Nat → Bool) × (Nat) × (Nat) => (wK cI cZ ad N A (u9.1) an nd wt B Hd O R (u9.2.1) (u9.2.2.1) (u9.2.2.2.1) (u9.2.2.2.2.1) (u9.2.2.2.2.2.1) (u9.2.2.2.2.2.2.1) (u9.2.2.2.2.2.2.2)))) (va_A (wK cI cZ ad N A fl an nd wt B Hd O R HL LB SO NG WO SA SE) sz)) (xX D (va_A (wK cI cZ ad N A fl an nd wt B Hd O R HL LB SO NG WO SA SE) sz) (fun (E9 : String) (u9 : (Bool) × (Nat → Int32) × (Nat → Int32) × (Nat → Bool) × (Nat → Bool) × (Nat → Bool) × (Nat) × (Nat)) => (E9 = "java/lang/IndexOutOfBoundsException" ∧ (inR x0 N = false)) ∧ ((u9.1) = true → svOK B Hd O R nd A (u9.2.1) (u9.2.2.1) (u9.2.2.2.1) (u9.2.2.2.2.1) (u9.2.2.2.2.2.1) (u9.2.2.2.2.2.2.1) (u9.2.2.2.2.2.2.2))) (fun u9 : (Bool) × (Nat → Int32) × (Nat → Int32) × (Nat → Bool) × (Nat → Bool) × (Nat → Bool) × (Nat) × (Nat) => (wK cI cZ ad N A (u9.1) an nd wt B Hd O R (u9.2.1) (u9.2.2.1) (u9.2.2.2.1) (u9.2.2.2.2.1) (u9.2.2.2.2.2.1) (u9.2.2.2.2.2.2.1) (u9.2.2.2.2.2.2.2)))) 1 6 (va_A (wK cI cZ ad N A fl an nd wt B Hd O R HL LB SO NG WO SA SE) sz) := by
  refine vx_ofW (cc := cX2_cheapest) (maxL := 7) (ret := (some .int)) (by decide) rfl ?_
  intro p e s m args below meth c s₁ BB hml htab hv
  obtain ⟨rfl, hsz, hP, hK, hD0, hX, hZ⟩ := hv
  have hx := BB.exec
  have hb := BB.bytes
  have hrt := BB.returns
  have hts := atoms_spec (ws := wsX2_cheapest) BB.pre
  have hown : s.vm.findClass RX2 = some m.cls := findClass_of_methodNamed BB.named
  have hlk := BB.notSynchronized
  subst hsz
  have hD := hD0.self (sz := s.heap.size)
  generalize hAe : va_A (wK cI cZ ad N A fl an nd wt B Hd O R HL LB SO NG WO SA SE) s.heap.size = Ap at hD hZ ⊢
  have hAp : ∀ q : Nat, s.heap.size ≤ q → Ap q := fun q h => by rw [← hAe]; exact Or.inr h
  have hS : va_S Ap s.heap s.heap [] := va_S.rf
  have hl := lv_entry ([.ref (ad 0), .int (x0)]) (n := 7) (Nat.le_of_ble_eq_true rfl)
  rw [lg_entry_eq]
  generalize (lg_sl ([.ref (ad 0), .int (x0)]) ++ List.replicate (7 - (lg_sl ([.ref (ad 0), .int (x0)])).length) Slot.unset).toArray = ls at hl ⊢
  have hl : lv_has ls 7 [(0, .ref (ad 0)), (1, .int (x0))] := hl
  have h512 : 2 ^ A ≤ 512 := pow9 hA
  have hpos : 0 < 2 ^ A := Nat.two_pow_pos A
  refine lv_aload_n hx hb dX2_cheapest_0 rfl (lv_at hl 0 rfl) ?_
  refine lv_iload_n hx hb dX2_cheapest_1 rfl (lv_at hl 1 rfl) ?_
  refine xu_v (wr := []) (vx_runV (As := [.int (x0)]) (rest := []) ⟨hx, hb, hml, hown, hts⟩ (c_X2_requireNode l D cI cZ ad (N) (A) (fl) (an) (nd) (wt) (B) (Hd) (O) (R) (HL) (LB) (SO) (NG) (WO) (SA) (SE) (x0)  hst (s.heap).size) (cwV 1 hts gX2_cheapest_X2_requireNode rfl rfl rfl (by decide +kernel) ⟨Nat.le_of_ble_eq_true rfl, Nat.le_of_ble_eq_true rfl⟩) (prx_V (q0 := 0) (ci := 2) (hP.sub (ws' := (wK cI cZ ad N A fl an nd wt B Hd O R HL LB SO NG WO SA SE)) [0, 1, 2, 3, 4, 5, 6, 7, 8, 9, 10, 11, 12, 13] rfl) (hD.sub (ws' := (wK cI cZ ad N A fl an nd wt B Hd O R HL LB SO NG WO SA SE)) [0, 1, 2, 3, 4, 5, 6, 7, 8, 9, 10, 11, 12, 13] (by decide) rfl) hK hX hZ hS (va_free (wc := (wK cI cZ ad N A fl an nd wt B Hd O R HL LB SO NG WO SA SE)) hD hS hAp [0, 1, 2, 3, 4, 5, 6, 7, 8, 9, 10, 11, 12, 13] rfl) rfl rfl) rfl rfl hl.1 rfl (lv_room (Nat.le_of_ble_eq_true rfl)) dX2_cheapest_2 ⟨Nat.le_of_ble_eq_true rfl, Nat.le_of_ble_eq_true rfl⟩) hP hD hS hAp [0, 1, 2, 3, 4, 5, 6, 7, 8, 9, 10, 11, 12, 13] [] rfl rfl (by decide) (by decide) (fun E_2 ce_2 q9_2 ux_2 H locs hxp_2 hP hD hS h7_2 h8_2 h9_2 => ?_) (fun u_2 H locs hq_2 hP hD hS => ?_)
  · skip
    have hP : va_P D vwCl (wK cI cZ ad N A fl an nd wt B Hd O R HL LB SO NG WO SA SE) H := hP
    have hD : va_D Ap (wK cI cZ ad N A fl an nd wt B Hd O R HL LB SO NG WO SA SE) := hD
    exact x_out (u := (fl, HL, LB, SO, NG, WO, SA, SE)) htab hlk h7_2 h8_2 h9_2 hS hP hD (Nat.le_of_ble_eq_true rfl) (Nat.le_of_ble_eq_true rfl) (⟨by obtain ⟨hE9, hc9⟩ := hxp_2; subst hE9; simp [hc9], hsv⟩)
  · skip
    obtain ⟨hok_2, -⟩ := hq_2
    have hP : va_P D vwCl (wK cI cZ ad N A fl an nd wt B Hd O R HL LB SO NG WO SA SE) H := hP
    have hD : va_D Ap (wK cI cZ ad N A fl an nd wt B Hd O R HL LB SO NG WO SA SE) := hD
    refine W.widen (k := 1) (n := 6) (by decide) (by decide) ?_
    refine lv_aload_n hx hb dX2_cheapest_5 rfl (lv_at hl 0 rfl) ?_
    refine mu_a (wr := []) (va_runV (As := []) (rest := []) ⟨hx, hb, hml, hown, hts⟩ (c_X2_surveyNow l D cI cZ ad (N) (A) (fl) (an) (nd) (wt) (B) (Hd) (O) (R) (HL) (LB) (SO) (NG) (WO) (SA) (SE) (by omega) (by omega) (hn) (hH) (hN) (hsv) (H).size) (cwV 0 hts gX2_cheapest_X2_surveyNow rfl rfl rfl (by decide +kernel) ⟨Nat.le_of_ble_eq_true rfl, Nat.le_of_ble_eq_true rfl⟩) (prw_V (q0 := 0) (ci := 2) (hP.sub (ws' := (wK cI cZ ad N A fl an nd wt B Hd O R HL LB SO NG WO SA SE)) [0, 1, 2, 3, 4, 5, 6, 7, 8, 9, 10, 11, 12, 13] rfl) (hD.sub (ws' := (wK cI cZ ad N A fl an nd wt B Hd O R HL LB SO NG WO SA SE)) [0, 1, 2, 3, 4, 5, 6, 7, 8, 9, 10, 11, 12, 13] (by decide) rfl) hK rfl rfl) rfl rfl hl.1 rfl (lv_room (Nat.le_of_ble_eq_true rfl)) dX2_cheapest_6 ⟨Nat.le_of_ble_eq_true rfl, Nat.le_of_ble_eq_true rfl⟩) hP hD hS hAp [0, 1, 2, 3, 4, 5, 6, 7, 8, 9, 10, 11, 12, 13] [] rfl rfl (by decide) (by decide) (fun u_6 H locs hq_6 hP hD hS => ?_)
    obtain ⟨HL9_6, LB9_6, SO9_6, NG9_6, WO9_6⟩ := u_6
    obtain ⟨hsv_6, -⟩ := hq_6
    have hsv_6 : svOK B Hd O R nd A HL9_6 LB9_6 SO9_6 NG9_6 WO9_6 A (2 ^ A) := hsv_6
    have hP : va_P D vwCl (wK cI cZ ad N A true an nd wt B Hd O R HL9_6 LB9_6 SO9_6 NG9_6 WO9_6 A (2 ^ A)) H := hP
    have hD : va_D Ap (wK cI cZ ad N A true an nd wt B Hd O R HL9_6 LB9_6 SO9_6 NG9_6 WO9_6 A (2 ^ A)) := hD
    refine lv_astore_n (lv' := [(2, .ref (ad 8)), (0, .ref (ad 0)), (1, .int (x0))]) hx hb dX2_cheapest_9 rfl hl (by decide) rfl (fun ls hl => ?_)
    refine lv_iconst (v := -1) hx hb dX2_cheapest_10 (by decide) ?_
    refine lv_istore_n (lv' := [(3, .int (-1)), (2, .ref (ad 8)), (0, .ref (ad 0)), (1, .int (x0))]) hx hb dX2_cheapest_11 rfl hl (by decide) rfl (fun ls hl => ?_)
    refine lv_iconst (v := nI (0)) hx hb dX2_cheapest_12 (by decide) ?_
    refine lv_istore (lv' := [(4, .int (nI (0))), (3, .int (-1)), (2, .ref (ad 8)), (0, .ref (ad 0)), (1, .int (x0))]) hx hb dX2_cheapest_13 hl (by decide) rfl (fun ls hl => ?_)
    refine lv_iconst (v := nI (0)) hx hb dX2_cheapest_15 (by decide) ?_
    refine lv_istore (lv' := [(5, .int (nI (0))), (4, .int (nI (0))), (3, .int (-1)), (2, .ref (ad 8)), (0, .ref (ad 0)), (1, .int (x0))]) hx hb dX2_cheapest_16 hl (by decide) rfl (fun ls hl => ?_)
    have lp_18 : ∀ (n18 i : Nat) (v3 : Int32) (v4 : Int32) (v5 : Int32), i ≤ 2 ^ A → 2 ^ A + 1 ≤ i + n18 → v3 = (chE (fun e => hs (LB9_6 e) x0) wt A i).1 → v4 = (chE (fun e => hs (LB9_6 e) x0) wt A i).2 → v5 = nI (i) → ∀ ls : Array Slot, lv_has ls 7 [(2, .ref (ad 8)), (0, .ref (ad 0)), (1, .int (x0)), (3, .int (v3)), (4, .int (v4)), (5, .int (v5))] → W p l e (headSpec wsX2_cheapest ({ frames := 7, cells := 1, slots := 6, locals := 138 })).room s m ([.ref (ad 0), .int (x0)]).toArray below meth c H locs 1 6 (vx_MQ below (va_Qi (fun (r9 : Int32) (u9 : (Bool) × (Nat → Int32) × (Nat → Int32) × (Nat → Bool) × (Nat → Bool) × (Nat → Bool) × (Nat) × (Nat)) => (r9 = (chE (fun e => lbM (hdE B Hd O R nd A) (soE B Hd O R nd A) x0 e) wt A (2 ^ A)).1) ∧ (inR x0 N = true) ∧ ((u9.1) = true → svOK B Hd O R nd A (u9.2.1) (u9.2.2.1) (u9.2.2.2.1) (u9.2.2.2.2.1) (u9.2.2.2.2.2.1) (u9.2.2.2.2.2.2.1) (u9.2.2.2.2.2.2.2)) ∧ (True)) (wB D Ap (fun u9 : (Bool) × (Nat → Int32) × (Nat → Int32) × (Nat → Bool) × (Nat → Bool) × (Nat → Bool) × (Nat) × (Nat) => (wK cI cZ ad N A (u9.1) an nd wt B Hd O R (u9.2.1) (u9.2.2.1) (u9.2.2.2.1) (u9.2.2.2.2.1) (u9.2.2.2.2.2.1) (u9.2.2.2.2.2.2.1) (u9.2.2.2.2.2.2.2)))) Ap) (xX D Ap (fun (E9 : String) (u9 : (Bool) × (Nat → Int32) × (Nat → Int32) × (Nat → Bool) × (Nat → Bool) × (Nat → Bool) × (Nat) × (Nat)) => (E9 = "java/lang/IndexOutOfBoundsException" ∧ (inR x0 N = false)) ∧ ((u9.1) = true → svOK B Hd O R nd A (u9.2.1) (u9.2.2.1) (u9.2.2.2.1) (u9.2.2.2.2.1) (u9.2.2.2.2.2.1) (u9.2.2.2.2.2.2.1) (u9.2.2.2.2.2.2.2))) (fun u9 : (Bool) × (Nat → Int32) × (Nat → Int32) × (Nat → Bool) × (Nat → Bool) × (Nat → Bool) × (Nat) × (Nat) => (wK cI cZ ad N A (u9.1) an nd wt B Hd O R (u9.2.1) (u9.2.2.1) (u9.2.2.2.1) (u9.2.2.2.2.1) (u9.2.2.2.2.2.1) (u9.2.2.2.2.2.2.1) (u9.2.2.2.2.2.2.2)))) ([.ref (ad 0), .int (x0)]).toArray s 1 6 Ap) (F0 m 18 ls []) := by
      intro n18
      induction n18 with
      | zero => intro i v3 v4 v5 h1 h2; exact absurd h2 (by omega)
      | succ n18 ih18 =>
        intro i v3 v4 v5 hi18 hn18  e3 e4 e5  ls hl
        subst e3 e4 e5
        have hl : lv_has ls 7 [(2, .ref (ad 8)), (0, .ref (ad 0)), (1, .int (x0)), (3, .int ((chE (fun e => hs (LB9_6 e) x0) wt A i).1)), (4, .int ((chE (fun e => hs (LB9_6 e) x0) wt A i).2)), (5, .int (nI (i)))] := hl
        refine lv_iload hx hb dX2_cheapest_18 (lv_at hl 5 rfl) ?_
        refine lv_aload_n hx hb dX2_cheapest_20 rfl (lv_at hl 0 rfl) ?_
        refine pu_i (va_runV (As := []) (rest := [.int (nI (i))]) ⟨hx, hb, hml, hown, hts⟩ (c_X1_environmentCount l D cI cZ (fun k => ad (k + 8)) (HL9_6) (LB9_6) (SO9_6) (NG9_6) (WO9_6) (A) (2 ^ A) ) (cwV 0 hts gX2_cheapest_X1_environmentCount rfl rfl rfl (by decide +kernel) ⟨Nat.le_of_ble_eq_true rfl, Nat.le_of_ble_eq_true rfl⟩) (pre_V (q0 := 0) (ci := 1) (hP.sub (ws' := (wS cI cZ (fun k => ad (k + 8)) HL9_6 LB9_6 SO9_6 NG9_6 WO9_6 A (2 ^ A))) [8, 9, 10, 11, 12, 13] rfl) hK rfl rfl) rfl rfl hl.1 rfl (lv_room (Nat.le_of_ble_eq_true rfl)) dX2_cheapest_21 ⟨Nat.le_of_ble_eq_true rfl, Nat.le_of_ble_eq_true rfl⟩) ?_
        refine lv_icmp_ge (tgt := 70) hx hb dX2_cheapest_24 (by decide) (fun c_24 => ?_) (fun c_24 => ?_)
        · skip
          have c_24 := (qI_le (a := (2 ^ A)) (b := i) (by omega) (by omega)).mp c_24
          refine lv_iload_n hx hb dX2_cheapest_70 rfl (lv_at hl 3 rfl) ?_
          exact vx_ret (mr_i (u := (true, HL9_6, LB9_6, SO9_6, NG9_6, WO9_6, A, 2 ^ A)) hx hb hrt hlk dX2_cheapest_71 hS hP hD ⟨(by have hi9 : i = 2 ^ A := (by omega); rw [hi9]; exact congrArg Prod.fst (chE_congr (lbK hA hn hok_2 hsv_6))), (hok_2), (fun _ => hsv_6), trivial⟩)
        · skip
          have c_24 := mt (qI_le (a := (2 ^ A)) (b := i) (by omega) (by omega)).mpr c_24
          refine lv_aload_n hx hb dX2_cheapest_27 rfl (lv_at hl 0 rfl) ?_
          refine lv_iload_n hx hb dX2_cheapest_28 rfl (lv_at hl 2 rfl) ?_
          refine lv_iload hx hb dX2_cheapest_29 (lv_at hl 5 rfl) ?_
          refine pu_i (va_runV (As := [.int (x0), .int (nI (i))]) (rest := []) ⟨hx, hb, hml, hown, hts⟩ (c_X1_isInLabel l D cI cZ (fun k => ad (k + 8)) (HL9_6) (LB9_6) (SO9_6) (NG9_6) (WO9_6) (A) (2 ^ A) (x0) (i) (by omega)) (cwV 2 hts gX2_cheapest_X1_isInLabel rfl rfl rfl (by decide +kernel) ⟨Nat.le_of_ble_eq_true rfl, Nat.le_of_ble_eq_true rfl⟩) (pre_V (q0 := 0) (ci := 1) (hP.sub (ws' := (wS cI cZ (fun k => ad (k + 8)) HL9_6 LB9_6 SO9_6 NG9_6 WO9_6 A (2 ^ A))) [8, 9, 10, 11, 12, 13] rfl) hK rfl rfl) rfl rfl hl.1 rfl (lv_room (Nat.le_of_ble_eq_true rfl)) dX2_cheapest_31 ⟨Nat.le_of_ble_eq_true rfl, Nat.le_of_ble_eq_true rfl⟩) ?_
          refine lv_if_eq (tgt := 64) hx hb dX2_cheapest_34 (by decide) (fun c_34 => ?_) (fun c_34 => ?_)
          · skip
            have c_34 := bI_eq0 c_34
            refine lv_iinc (v := nI (i + 1)) (lv' := [(5, .int (nI (i + 1))), (2, .ref (ad 8)), (0, .ref (ad 0)), (1, .int (x0)), (3, .int ((chE (fun e => hs (LB9_6 e) x0) wt A i).1)), (4, .int ((chE (fun e => hs (LB9_6 e) x0) wt A i).2))]) hx hb dX2_cheapest_64 hl (k := 5) rfl (nI_1 _) (by decide) rfl (fun ls hl => ?_)
            refine lv_goto (tgt := 18) hx hb dX2_cheapest_67 (by decide) ?_
            exact ih18 (i + 1) _ _ _  (by omega) (by omega)  (by first | rfl | (simp [chE, c_24, c_34]; done) | (simp only [chE, c_24, c_34]; rfl) | (simp_all [chE, c_24, c_34]; done)) (by first | rfl | (simp [chE, c_24, c_34]; done) | (simp only [chE, c_24, c_34]; rfl) | (simp_all [chE, c_24, c_34]; done)) (by first | rfl | (simp [chE, c_24, c_34]; done) | (simp only [chE, c_24, c_34]; rfl) | (simp_all [chE, c_24, c_34]; done))  ls (lv_sub hl [1, 2, 3, 4, 5, 0] rfl)
          · skip
            have c_34 := bI_ne0 c_34
            refine lv_aload_n hx hb dX2_cheapest_37 rfl (lv_at hl 1 rfl) ?_
            refine lv_iload hx hb dX2_cheapest_38 (lv_at hl 5 rfl) ?_
            refine pu_i (va_runV (As := [.int (nI (i))]) (rest := []) ⟨hx, hb, hml, hown, hts⟩ (c_X2_weightOf l D cI cZ ad (N) (A) (true) (an) (nd) (wt) (B) (Hd) (O) (R) (HL9_6) (LB9_6) (SO9_6) (NG9_6) (WO9_6) (A) (2 ^ A) (nI (i)) (by omega)) (cwV 1 hts gX2_cheapest_X2_weightOf rfl rfl rfl (by decide +kernel) ⟨Nat.le_of_ble_eq_true rfl, Nat.le_of_ble_eq_true rfl⟩) (pre_V (q0 := 0) (ci := 2) (hP.sub (ws' := (wK cI cZ ad N A true an nd wt B Hd O R HL9_6 LB9_6 SO9_6 NG9_6 WO9_6 A (2 ^ A))) [0, 1, 2, 3, 4, 5, 6, 7, 8, 9, 10, 11, 12, 13] rfl) hK rfl rfl) rfl rfl hl.1 rfl (lv_room (Nat.le_of_ble_eq_true rfl)) dX2_cheapest_40 ⟨Nat.le_of_ble_eq_true rfl, Nat.le_of_ble_eq_true rfl⟩) ?_
            refine lv_istore (lv' := [(6, .int (wo wt (nI (i)) A)), (2, .ref (ad 8)), (0, .ref (ad 0)), (1, .int (x0)), (3, .int ((chE (fun e => hs (LB9_6 e) x0) wt A i).1)), (4, .int ((chE (fun e => hs (LB9_6 e) x0) wt A i).2)), (5, .int (nI (i)))]) hx hb dX2_cheapest_43 hl (by decide) rfl (fun ls hl => ?_)
            refine lv_iload_n hx hb dX2_cheapest_45 rfl (lv_at hl 4 rfl) ?_
            refine lv_iconst (v := -1) hx hb dX2_cheapest_46 (by decide) ?_
            refine lv_icmp_eq (tgt := 57) hx hb dX2_cheapest_47 (by decide) (fun c_47 => ?_) (fun c_47 => ?_)
            · skip
              refine lv_iload hx hb dX2_cheapest_57 (lv_at hl 6 rfl) ?_
              refine lv_istore_n (lv' := [(3, .int (nI (i))), (6, .int (wo wt (nI (i)) A)), (2, .ref (ad 8)), (0, .ref (ad 0)), (1, .int (x0)), (4, .int ((chE (fun e => hs (LB9_6 e) x0) wt A i).2)), (5, .int (nI (i)))]) hx hb dX2_cheapest_59 rfl hl (by decide) rfl (fun ls hl => ?_)
              refine lv_iload hx hb dX2_cheapest_60 (lv_at hl 1 rfl) ?_
              refine lv_istore (lv' := [(4, .int (wo wt (nI (i)) A)), (3, .int (nI (i))), (6, .int (wo wt (nI (i)) A)), (2, .ref (ad 8)), (0, .ref (ad 0)), (1, .int (x0)), (5, .int (nI (i)))]) hx hb dX2_cheapest_62 hl (by decide) rfl (fun ls hl => ?_)
              refine lv_iinc (v := nI (i + 1)) (lv' := [(5, .int (nI (i + 1))), (4, .int (wo wt (nI (i)) A)), (3, .int (nI (i))), (6, .int (wo wt (nI (i)) A)), (2, .ref (ad 8)), (0, .ref (ad 0)), (1, .int (x0))]) hx hb dX2_cheapest_64 hl (k := 6) rfl (nI_1 _) (by decide) rfl (fun ls hl => ?_)
              refine lv_goto (tgt := 18) hx hb dX2_cheapest_67 (by decide) ?_
              exact ih18 (i + 1) _ _ _  (by omega) (by omega)  (by first | rfl | (simp [chE, c_24, c_34, c_47]; done) | (simp only [chE, c_24, c_34, c_47]; rfl) | (simp_all [chE, c_24, c_34, c_47]; done)) (by first | rfl | (simp [chE, c_24, c_34, c_47]; done) | (simp only [chE, c_24, c_34, c_47]; rfl) | (simp_all [chE, c_24, c_34, c_47]; done)) (by first | rfl | (simp [chE, c_24, c_34, c_47]; done) | (simp only [chE, c_24, c_34, c_47]; rfl) | (simp_all [chE, c_24, c_34, c_47]; done))  ls (lv_sub hl [4, 5, 6, 2, 1, 0] rfl)
            · skip
              refine lv_iload hx hb dX2_cheapest_50 (lv_at hl 0 rfl) ?_
              refine lv_iload hx hb dX2_cheapest_52 (lv_at hl 5 rfl) ?_
              refine lv_icmp_ge (tgt := 64) hx hb dX2_cheapest_54 (by decide) (fun c_54 => ?_) (fun c_54 => ?_)
              · skip
                refine lv_iinc (v := nI (i + 1)) (lv' := [(5, .int (nI (i + 1))), (6, .int (wo wt (nI (i)) A)), (2, .ref (ad 8)), (0, .ref (ad 0)), (1, .int (x0)), (3, .int ((chE (fun e => hs (LB9_6 e) x0) wt A i).1)), (4, .int ((chE (fun e => hs (LB9_6 e) x0) wt A i).2))]) hx hb dX2_cheapest_64 hl (k := 6) rfl (nI_1 _) (by decide) rfl (fun ls hl => ?_)
                refine lv_goto (tgt := 18) hx hb dX2_cheapest_67 (by decide) ?_
                exact ih18 (i + 1) _ _ _  (by omega) (by omega)  (by first | rfl | (simp [chE, c_24, c_34, c_47, c_54]; done) | (simp only [chE, c_24, c_34, c_47, c_54]; rfl) | (simp_all [chE, c_24, c_34, c_47, c_54]; done)) (by first | rfl | (simp [chE, c_24, c_34, c_47, c_54]; done) | (simp only [chE, c_24, c_34, c_47, c_54]; rfl) | (simp_all [chE, c_24, c_34, c_47, c_54]; done)) (by first | rfl | (simp [chE, c_24, c_34, c_47, c_54]; done) | (simp only [chE, c_24, c_34, c_47, c_54]; rfl) | (simp_all [chE, c_24, c_34, c_47, c_54]; done))  ls (lv_sub hl [2, 3, 4, 5, 6, 0] rfl)
              · skip
                refine lv_iload hx hb dX2_cheapest_57 (lv_at hl 6 rfl) ?_
                refine lv_istore_n (lv' := [(3, .int (nI (i))), (6, .int (wo wt (nI (i)) A)), (2, .ref (ad 8)), (0, .ref (ad 0)), (1, .int (x0)), (4, .int ((chE (fun e => hs (LB9_6 e) x0) wt A i).2)), (5, .int (nI (i)))]) hx hb dX2_cheapest_59 rfl hl (by decide) rfl (fun ls hl => ?_)
                refine lv_iload hx hb dX2_cheapest_60 (lv_at hl 1 rfl) ?_
                refine lv_istore (lv' := [(4, .int (wo wt (nI (i)) A)), (3, .int (nI (i))), (6, .int (wo wt (nI (i)) A)), (2, .ref (ad 8)), (0, .ref (ad 0)), (1, .int (x0)), (5, .int (nI (i)))]) hx hb dX2_cheapest_62 hl (by decide) rfl (fun ls hl => ?_)
                refine lv_iinc (v := nI (i + 1)) (lv' := [(5, .int (nI (i + 1))), (4, .int (wo wt (nI (i)) A)), (3, .int (nI (i))), (6, .int (wo wt (nI (i)) A)), (2, .ref (ad 8)), (0, .ref (ad 0)), (1, .int (x0))]) hx hb dX2_cheapest_64 hl (k := 6) rfl (nI_1 _) (by decide) rfl (fun ls hl => ?_)
                refine lv_goto (tgt := 18) hx hb dX2_cheapest_67 (by decide) ?_
                exact ih18 (i + 1) _ _ _  (by omega) (by omega)  (by first | rfl | (simp [chE, c_24, c_34, c_47, c_54]; done) | (simp only [chE, c_24, c_34, c_47, c_54]; rfl) | (simp_all [chE, c_24, c_34, c_47, c_54]; done)) (by first | rfl | (simp [chE, c_24, c_34, c_47, c_54]; done) | (simp only [chE, c_24, c_34, c_47, c_54]; rfl) | (simp_all [chE, c_24, c_34, c_47, c_54]; done)) (by first | rfl | (simp [chE, c_24, c_34, c_47, c_54]; done) | (simp only [chE, c_24, c_34, c_47, c_54]; rfl) | (simp_all [chE, c_24, c_34, c_47, c_54]; done))  ls (lv_sub hl [4, 5, 6, 2, 1, 0] rfl)
    exact lp_18 (2 ^ A + 1) (0) _ _ _  (by omega) (by omega)  (by first | rfl | (simp [chE]; done) | (simp only [chE]; rfl) | (simp_all [chE]; done)) (by first | rfl | (simp [chE]; done) | (simp only [chE]; rfl) | (simp_all [chE]; done)) (by first | rfl | (simp [chE]; done) | (simp only [chE]; rfl) | (simp_all [chE]; done))  ls (lv_sub hl [3, 4, 5, 2, 1, 0] rfl)
set_option maxHeartbeats 4000000 in
set_option maxRecDepth 100000 in
theorem c_X2_needed (l : Launch) (D : va_G) (cI cZ : ClassId) (ad : Nat → Nat) (N : Nat) (A : Nat) (fl : Bool) (an : Nat → Int32) (nd : Nat → Int32) (wt : Nat → Int32) (B : Nat → Int32) (Hd : Nat → Int32) (O : Nat → Bool) (R : Nat) (HL : Nat → Int32) (LB : Nat → Int32) (SO : Nat → Bool) (NG : Nat → Bool) (WO : Nat → Bool) (SA : Nat) (SE : Nat) (x0 : Int32) (hA : A ≤ 9) (hR : R ≤ 40) (hn : N ≤ 24) (hH : okH N Hd R) (hN : okN N nd A) (hsv : fl = true → svOK B Hd O R nd A HL LB SO NG WO SA SE) (hst : l.stackTraces = false) (sz : Nat) : vx_Met l yX2_needed wsX2_needed ({ frames := 7, cells := 1, slots := 6, locals := 138 }) (pcX D [(cI, .int), (cZ, .boolean)] sz (wK cI cZ ad N A fl an nd wt B Hd O R HL LB SO NG WO SA SE) [.ref (ad 0), .int (x0)]) (va_Qi (fun (r9 : Int32) (u9 : (Bool) × (Nat → Int32) × (Nat → Int32) × (Nat → Bool) × (Nat → Bool) × (Nat → Bool) × (Nat) × (Nat)) => (r9 = ndE (fun e => lbM (hdE B Hd O R nd A) (soE B Hd O R nd A) x0 e) (nI (2 ^ A - 1)) (2 ^ A)) ∧ (inR x0 N = true) ∧ ((u9.1) = true → svOK B Hd O R nd A (u9.2.1) (u9.2.2.1) (u9.2.2.2.1) (u9.2.2.2.2.1) (u9.2.2.2.2.2.1) (u9.2.2.2.2.2.2.1) (u9.2.2.2.2.2.2.2)) ∧ (True)) (wB D (va_A (wK cI cZ ad N A fl an nd wt B Hd O R HL LB SO NG WO SA SE) sz) (fun u9 : (Bool) × (Nat → Int32) × (Nat → Int32) × (Nat → Bool) × (Nat → Bool) × (Nat → Bool) × (Nat) × (Nat) => (wK cI cZ ad N A (u9.1) an nd wt B Hd O R (u9.2.1) (u9.2.2.1) (u9.2.2.2.1) (u9.2.2.2.2.1) (u9.2.2.2.2.2.1) (u9.2.2.2.2.2.2.1) (u9.2.2.2.2.2.2.2)))) (va_A (wK cI cZ ad N A fl an nd wt B Hd O R HL LB SO NG WO SA SE) sz)) (xX D (va_A (wK cI cZ ad N A fl an nd wt B Hd O R HL LB SO NG WO SA SE) sz) (fun (E9 : String) (u9 : (Bool) × (Nat → Int32) × (Nat → Int32) × (Nat → Bool) × (Nat → Bool) × (Nat → Bool) × (Nat) × (Nat)) => (E9 = "java/lang/IndexOutOfBoundsException" ∧ (inR x0 N = false)) ∧ ((u9.1) = true → svOK B Hd O R nd A (u9.2.1) (u9.2.2.1) (u9.2.2.2.1) (u9.2.2.2.2.1) (u9.2.2.2.2.2.1) (u9.2.2.2.2.2.2.1) (u9.2.2.2.2.2.2.2))) (fun u9 : (Bool) × (Nat → Int32) × (Nat → Int32) × (Nat → Bool) × (Nat → Bool) × (Nat → Bool) × (Nat) × (Nat) => (wK cI cZ ad N A (u9.1) an nd wt B Hd O R (u9.2.1) (u9.2.2.1) (u9.2.2.2.1) (u9.2.2.2.2.1) (u9.2.2.2.2.2.1) (u9.2.2.2.2.2.2.1) (u9.2.2.2.2.2.2.2)))) 1 6 (va_A (wK cI cZ ad N A fl an nd wt B Hd O R HL LB SO NG WO SA SE) sz) := by
  refine vx_ofW (cc := cX2_needed) (maxL := 5) (ret := (some .int)) (by decide) rfl ?_
  intro p e s m args below meth c s₁ BB hml htab hv
  obtain ⟨rfl, hsz, hP, hK, hD0, hX, hZ⟩ := hv
  have hx := BB.exec
  have hb := BB.bytes
  have hrt := BB.returns
  have hts := atoms_spec (ws := wsX2_needed) BB.pre
  have hown : s.vm.findClass RX2 = some m.cls := findClass_of_methodNamed BB.named
  have hlk := BB.notSynchronized
  subst hsz
  have hD := hD0.self (sz := s.heap.size)
  generalize hAe : va_A (wK cI cZ ad N A fl an nd wt B Hd O R HL LB SO NG WO SA SE) s.heap.size = Ap at hD hZ ⊢
  have hAp : ∀ q : Nat, s.heap.size ≤ q → Ap q := fun q h => by rw [← hAe]; exact Or.inr h
  have hS : va_S Ap s.heap s.heap [] := va_S.rf
  have hl := lv_entry ([.ref (ad 0), .int (x0)]) (n := 5) (Nat.le_of_ble_eq_true rfl)
  rw [lg_entry_eq]
  generalize (lg_sl ([.ref (ad 0), .int (x0)]) ++ List.replicate (5 - (lg_sl ([.ref (ad 0), .int (x0)])).length) Slot.unset).toArray = ls at hl ⊢
  have hl : lv_has ls 5 [(0, .ref (ad 0)), (1, .int (x0))] := hl
  have h512 : 2 ^ A ≤ 512 := pow9 hA
  have hpos : 0 < 2 ^ A := Nat.two_pow_pos A
  refine lv_aload_n hx hb dX2_needed_0 rfl (lv_at hl 0 rfl) ?_
  refine lv_iload_n hx hb dX2_needed_1 rfl (lv_at hl 1 rfl) ?_
  refine xu_v (wr := []) (vx_runV (As := [.int (x0)]) (rest := []) ⟨hx, hb, hml, hown, hts⟩ (c_X2_requireNode l D cI cZ ad (N) (A) (fl) (an) (nd) (wt) (B) (Hd) (O) (R) (HL) (LB) (SO) (NG) (WO) (SA) (SE) (x0)  hst (s.heap).size) (cwV 1 hts gX2_needed_X2_requireNode rfl rfl rfl (by decide +kernel) ⟨Nat.le_of_ble_eq_true rfl, Nat.le_of_ble_eq_true rfl⟩) (prx_V (q0 := 0) (ci := 2) (hP.sub (ws' := (wK cI cZ ad N A fl an nd wt B Hd O R HL LB SO NG WO SA SE)) [0, 1, 2, 3, 4, 5, 6, 7, 8, 9, 10, 11, 12, 13] rfl) (hD.sub (ws' := (wK cI cZ ad N A fl an nd wt B Hd O R HL LB SO NG WO SA SE)) [0, 1, 2, 3, 4, 5, 6, 7, 8, 9, 10, 11, 12, 13] (by decide) rfl) hK hX hZ hS (va_free (wc := (wK cI cZ ad N A fl an nd wt B Hd O R HL LB SO NG WO SA SE)) hD hS hAp [0, 1, 2, 3, 4, 5, 6, 7, 8, 9, 10, 11, 12, 13] rfl) rfl rfl) rfl rfl hl.1 rfl (lv_room (Nat.le_of_ble_eq_true rfl)) dX2_needed_2 ⟨Nat.le_of_ble_eq_true rfl, Nat.le_of_ble_eq_true rfl⟩) hP hD hS hAp [0, 1, 2, 3, 4, 5, 6, 7, 8, 9, 10, 11, 12, 13] [] rfl rfl (by decide) (by decide) (fun E_2 ce_2 q9_2 ux_2 H locs hxp_2 hP hD hS h7_2 h8_2 h9_2 => ?_) (fun u_2 H locs hq_2 hP hD hS => ?_)
  · skip
    have hP : va_P D vwCl (wK cI cZ ad N A fl an nd wt B Hd O R HL LB SO NG WO SA SE) H := hP
    have hD : va_D Ap (wK cI cZ ad N A fl an nd wt B Hd O R HL LB SO NG WO SA SE) := hD
    exact x_out (u := (fl, HL, LB, SO, NG, WO, SA, SE)) htab hlk h7_2 h8_2 h9_2 hS hP hD (Nat.le_of_ble_eq_true rfl) (Nat.le_of_ble_eq_true rfl) (⟨by obtain ⟨hE9, hc9⟩ := hxp_2; subst hE9; simp [hc9], hsv⟩)
  · skip
    obtain ⟨hok_2, -⟩ := hq_2
    have hP : va_P D vwCl (wK cI cZ ad N A fl an nd wt B Hd O R HL LB SO NG WO SA SE) H := hP
    have hD : va_D Ap (wK cI cZ ad N A fl an nd wt B Hd O R HL LB SO NG WO SA SE) := hD
    refine W.widen (k := 1) (n := 6) (by decide) (by decide) ?_
    refine lv_aload_n hx hb dX2_needed_5 rfl (lv_at hl 0 rfl) ?_
    refine mu_a (wr := []) (va_runV (As := []) (rest := []) ⟨hx, hb, hml, hown, hts⟩ (c_X2_surveyNow l D cI cZ ad (N) (A) (fl) (an) (nd) (wt) (B) (Hd) (O) (R) (HL) (LB) (SO) (NG) (WO) (SA) (SE) (by omega) (by omega) (hn) (hH) (hN) (hsv) (H).size) (cwV 0 hts gX2_needed_X2_surveyNow rfl rfl rfl (by decide +kernel) ⟨Nat.le_of_ble_eq_true rfl, Nat.le_of_ble_eq_true rfl⟩) (prw_V (q0 := 0) (ci := 2) (hP.sub (ws' := (wK cI cZ ad N A fl an nd wt B Hd O R HL LB SO NG WO SA SE)) [0, 1, 2, 3, 4, 5, 6, 7, 8, 9, 10, 11, 12, 13] rfl) (hD.sub (ws' := (wK cI cZ ad N A fl an nd wt B Hd O R HL LB SO NG WO SA SE)) [0, 1, 2, 3, 4, 5, 6, 7, 8, 9, 10, 11, 12, 13] (by decide) rfl) hK rfl rfl) rfl rfl hl.1 rfl (lv_room (Nat.le_of_ble_eq_true rfl)) dX2_needed_6 ⟨Nat.le_of_ble_eq_true rfl, Nat.le_of_ble_eq_true rfl⟩) hP hD hS hAp [0, 1, 2, 3, 4, 5, 6, 7, 8, 9, 10, 11, 12, 13] [] rfl rfl (by decide) (by decide) (fun u_6 H locs hq_6 hP hD hS => ?_)
    obtain ⟨HL9_6, LB9_6, SO9_6, NG9_6, WO9_6⟩ := u_6
    obtain ⟨hsv_6, -⟩ := hq_6
    have hsv_6 : svOK B Hd O R nd A HL9_6 LB9_6 SO9_6 NG9_6 WO9_6 A (2 ^ A) := hsv_6
    have hP : va_P D vwCl (wK cI cZ ad N A true an nd wt B Hd O R HL9_6 LB9_6 SO9_6 NG9_6 WO9_6 A (2 ^ A)) H := hP
    have hD : va_D Ap (wK cI cZ ad N A true an nd wt B Hd O R HL9_6 LB9_6 SO9_6 NG9_6 WO9_6 A (2 ^ A)) := hD
    refine lv_astore_n (lv' := [(2, .ref (ad 8)), (0, .ref (ad 0)), (1, .int (x0))]) hx hb dX2_needed_9 rfl hl (by decide) rfl (fun ls hl => ?_)
    refine lv_aload_n hx hb dX2_needed_10 rfl (lv_at hl 0 rfl) ?_
    refine pu_i (va_runV (As := []) (rest := []) ⟨hx, hb, hml, hown, hts⟩ (c_X1_environmentCount l D cI cZ (fun k => ad (k + 8)) (HL9_6) (LB9_6) (SO9_6) (NG9_6) (WO9_6) (A) (2 ^ A) ) (cwV 0 hts gX2_needed_X1_environmentCount rfl rfl rfl (by decide +kernel) ⟨Nat.le_of_ble_eq_true rfl, Nat.le_of_ble_eq_true rfl⟩) (pre_V (q0 := 0) (ci := 1) (hP.sub (ws' := (wS cI cZ (fun k => ad (k + 8)) HL9_6 LB9_6 SO9_6 NG9_6 WO9_6 A (2 ^ A))) [8, 9, 10, 11, 12, 13] rfl) hK rfl rfl) rfl rfl hl.1 rfl (lv_room (Nat.le_of_ble_eq_true rfl)) dX2_needed_11 ⟨Nat.le_of_ble_eq_true rfl, Nat.le_of_ble_eq_true rfl⟩) ?_
    refine lv_iconst (v := 1) hx hb dX2_needed_14 (by decide) ?_
    refine lv_isub hx hb dX2_needed_15 ?_
    rw [nI_sub1 (by omega)]
    refine lv_istore_n (lv' := [(3, .int (nI (((2 ^ A)) - 1))), (2, .ref (ad 8)), (0, .ref (ad 0)), (1, .int (x0))]) hx hb dX2_needed_16 rfl hl (by decide) rfl (fun ls hl => ?_)
    refine lv_iconst (v := nI (0)) hx hb dX2_needed_17 (by decide) ?_
    refine lv_istore (lv' := [(4, .int (nI (0))), (3, .int (nI (((2 ^ A)) - 1))), (2, .ref (ad 8)), (0, .ref (ad 0)), (1, .int (x0))]) hx hb dX2_needed_18 hl (by decide) rfl (fun ls hl => ?_)
    have lp_20 : ∀ (n20 i : Nat) (v3 : Int32) (v4 : Int32), i ≤ 2 ^ A → 2 ^ A + 1 ≤ i + n20 → v3 = ndE (fun e => hs (LB9_6 e) x0) (nI (2 ^ A - 1)) i → v4 = nI (i) → ∀ ls : Array Slot, lv_has ls 5 [(2, .ref (ad 8)), (0, .ref (ad 0)), (1, .int (x0)), (3, .int (v3)), (4, .int (v4))] → W p l e (headSpec wsX2_needed ({ frames := 7, cells := 1, slots := 6, locals := 138 })).room s m ([.ref (ad 0), .int (x0)]).toArray below meth c H locs 1 6 (vx_MQ below (va_Qi (fun (r9 : Int32) (u9 : (Bool) × (Nat → Int32) × (Nat → Int32) × (Nat → Bool) × (Nat → Bool) × (Nat → Bool) × (Nat) × (Nat)) => (r9 = ndE (fun e => lbM (hdE B Hd O R nd A) (soE B Hd O R nd A) x0 e) (nI (2 ^ A - 1)) (2 ^ A)) ∧ (inR x0 N = true) ∧ ((u9.1) = true → svOK B Hd O R nd A (u9.2.1) (u9.2.2.1) (u9.2.2.2.1) (u9.2.2.2.2.1) (u9.2.2.2.2.2.1) (u9.2.2.2.2.2.2.1) (u9.2.2.2.2.2.2.2)) ∧ (True)) (wB D Ap (fun u9 : (Bool) × (Nat → Int32) × (Nat → Int32) × (Nat → Bool) × (Nat → Bool) × (Nat → Bool) × (Nat) × (Nat) => (wK cI cZ ad N A (u9.1) an nd wt B Hd O R (u9.2.1) (u9.2.2.1) (u9.2.2.2.1) (u9.2.2.2.2.1) (u9.2.2.2.2.2.1) (u9.2.2.2.2.2.2.1) (u9.2.2.2.2.2.2.2)))) Ap) (xX D Ap (fun (E9 : String) (u9 : (Bool) × (Nat → Int32) × (Nat → Int32) × (Nat → Bool) × (Nat → Bool) × (Nat → Bool) × (Nat) × (Nat)) => (E9 = "java/lang/IndexOutOfBoundsException" ∧ (inR x0 N = false)) ∧ ((u9.1) = true → svOK B Hd O R nd A (u9.2.1) (u9.2.2.1) (u9.2.2.2.1) (u9.2.2.2.2.1) (u9.2.2.2.2.2.1) (u9.2.2.2.2.2.2.1) (u9.2.2.2.2.2.2.2))) (fun u9 : (Bool) × (Nat → Int32) × (Nat → Int32) × (Nat → Bool) × (Nat → Bool) × (Nat → Bool) × (Nat) × (Nat) => (wK cI cZ ad N A (u9.1) an nd wt B Hd O R (u9.2.1) (u9.2.2.1) (u9.2.2.2.1) (u9.2.2.2.2.1) (u9.2.2.2.2.2.1) (u9.2.2.2.2.2.2.1) (u9.2.2.2.2.2.2.2)))) ([.ref (ad 0), .int (x0)]).toArray s 1 6 Ap) (F0 m 20 ls []) := by
      intro n20
      induction n20 with
      | zero => intro i v3 v4 h1 h2; exact absurd h2 (by omega)
      | succ n20 ih20 =>
        intro i v3 v4 hi20 hn20  e3 e4  ls hl
        subst e3 e4
        have hl : lv_has ls 5 [(2, .ref (ad 8)), (0, .ref (ad 0)), (1, .int (x0)), (3, .int (ndE (fun e => hs (LB9_6 e) x0) (nI (2 ^ A - 1)) i)), (4, .int (nI (i)))] := hl
        refine lv_iload hx hb dX2_needed_20 (lv_at hl 4 rfl) ?_
        refine lv_aload_n hx hb dX2_needed_22 rfl (lv_at hl 0 rfl) ?_
        refine pu_i (va_runV (As := []) (rest := [.int (nI (i))]) ⟨hx, hb, hml, hown, hts⟩ (c_X1_environmentCount l D cI cZ (fun k => ad (k + 8)) (HL9_6) (LB9_6) (SO9_6) (NG9_6) (WO9_6) (A) (2 ^ A) ) (cwV 0 hts gX2_needed_X1_environmentCount rfl rfl rfl (by decide +kernel) ⟨Nat.le_of_ble_eq_true rfl, Nat.le_of_ble_eq_true rfl⟩) (pre_V (q0 := 0) (ci := 1) (hP.sub (ws' := (wS cI cZ (fun k => ad (k + 8)) HL9_6 LB9_6 SO9_6 NG9_6 WO9_6 A (2 ^ A))) [8, 9, 10, 11, 12, 13] rfl) hK rfl rfl) rfl rfl hl.1 rfl (lv_room (Nat.le_of_ble_eq_true rfl)) dX2_needed_23 ⟨Nat.le_of_ble_eq_true rfl, Nat.le_of_ble_eq_true rfl⟩) ?_
        refine lv_icmp_ge (tgt := 50) hx hb dX2_needed_26 (by decide) (fun c_26 => ?_) (fun c_26 => ?_)
        · skip
          have c_26 := (qI_le (a := (2 ^ A)) (b := i) (by omega) (by omega)).mp c_26
          refine lv_iload_n hx hb dX2_needed_50 rfl (lv_at hl 3 rfl) ?_
          exact vx_ret (mr_i (u := (true, HL9_6, LB9_6, SO9_6, NG9_6, WO9_6, A, 2 ^ A)) hx hb hrt hlk dX2_needed_51 hS hP hD ⟨(by have hi9 : i = 2 ^ A := (by omega); rw [hi9]; exact ndE_congr (lbK hA hn hok_2 hsv_6)), (hok_2), (fun _ => hsv_6), trivial⟩)
        · skip
          have c_26 := mt (qI_le (a := (2 ^ A)) (b := i) (by omega) (by omega)).mpr c_26
          refine lv_aload_n hx hb dX2_needed_29 rfl (lv_at hl 0 rfl) ?_
          refine lv_iload_n hx hb dX2_needed_30 rfl (lv_at hl 2 rfl) ?_
          refine lv_iload hx hb dX2_needed_31 (lv_at hl 4 rfl) ?_
          refine pu_i (va_runV (As := [.int (x0), .int (nI (i))]) (rest := []) ⟨hx, hb, hml, hown, hts⟩ (c_X1_isInLabel l D cI cZ (fun k => ad (k + 8)) (HL9_6) (LB9_6) (SO9_6) (NG9_6) (WO9_6) (A) (2 ^ A) (x0) (i) (by omega)) (cwV 2 hts gX2_needed_X1_isInLabel rfl rfl rfl (by decide +kernel) ⟨Nat.le_of_ble_eq_true rfl, Nat.le_of_ble_eq_true rfl⟩) (pre_V (q0 := 0) (ci := 1) (hP.sub (ws' := (wS cI cZ (fun k => ad (k + 8)) HL9_6 LB9_6 SO9_6 NG9_6 WO9_6 A (2 ^ A))) [8, 9, 10, 11, 12, 13] rfl) hK rfl rfl) rfl rfl hl.1 rfl (lv_room (Nat.le_of_ble_eq_true rfl)) dX2_needed_33 ⟨Nat.le_of_ble_eq_true rfl, Nat.le_of_ble_eq_true rfl⟩) ?_
          refine lv_if_eq (tgt := 44) hx hb dX2_needed_36 (by decide) (fun c_36 => ?_) (fun c_36 => ?_)
          · skip
            have c_36 := bI_eq0 c_36
            refine lv_iinc (v := nI (i + 1)) (lv' := [(4, .int (nI (i + 1))), (2, .ref (ad 8)), (0, .ref (ad 0)), (1, .int (x0)), (3, .int (ndE (fun e => hs (LB9_6 e) x0) (nI (2 ^ A - 1)) i))]) hx hb dX2_needed_44 hl (k := 4) rfl (nI_1 _) (by decide) rfl (fun ls hl => ?_)
            refine lv_goto (tgt := 20) hx hb dX2_needed_47 (by decide) ?_
            exact ih20 (i + 1) _ _  (by omega) (by omega)  (by first | rfl | (simp [ndE, c_26, c_36]; done) | (simp only [ndE, c_26, c_36]; rfl) | (simp_all [ndE, c_26, c_36]; done)) (by first | rfl | (simp [ndE, c_26, c_36]; done) | (simp only [ndE, c_26, c_36]; rfl) | (simp_all [ndE, c_26, c_36]; done))  ls (lv_sub hl [1, 2, 3, 4, 0] rfl)
          · skip
            have c_36 := bI_ne0 c_36
            refine lv_iload_n hx hb dX2_needed_39 rfl (lv_at hl 3 rfl) ?_
            refine lv_iload hx hb dX2_needed_40 (lv_at hl 4 rfl) ?_
            refine lv_iand hx hb dX2_needed_42 ?_
            refine lv_istore_n (lv' := [(3, .int ((ndE (fun e => hs (LB9_6 e) x0) (nI (2 ^ A - 1)) i) &&& (nI (i)))), (2, .ref (ad 8)), (0, .ref (ad 0)), (1, .int (x0)), (4, .int (nI (i)))]) hx hb dX2_needed_43 rfl hl (by decide) rfl (fun ls hl => ?_)
            refine lv_iinc (v := nI (i + 1)) (lv' := [(4, .int (nI (i + 1))), (3, .int ((ndE (fun e => hs (LB9_6 e) x0) (nI (2 ^ A - 1)) i) &&& (nI (i)))), (2, .ref (ad 8)), (0, .ref (ad 0)), (1, .int (x0))]) hx hb dX2_needed_44 hl (k := 4) rfl (nI_1 _) (by decide) rfl (fun ls hl => ?_)
            refine lv_goto (tgt := 20) hx hb dX2_needed_47 (by decide) ?_
            exact ih20 (i + 1) _ _  (by omega) (by omega)  (by first | rfl | (simp [ndE, c_26, c_36]; done) | (simp only [ndE, c_26, c_36]; rfl) | (simp_all [ndE, c_26, c_36]; done)) (by first | rfl | (simp [ndE, c_26, c_36]; done) | (simp only [ndE, c_26, c_36]; rfl) | (simp_all [ndE, c_26, c_36]; done))  ls (lv_sub hl [2, 3, 4, 1, 0] rfl)
    exact lp_20 (2 ^ A + 1) (0) _ _  (by omega) (by omega)  (by first | rfl | (simp [ndE]; done) | (simp only [ndE]; rfl) | (simp_all [ndE]; done)) (by first | rfl | (simp [ndE]; done) | (simp only [ndE]; rfl) | (simp_all [ndE]; done))  ls (lv_sub hl [2, 3, 4, 1, 0] rfl)
set_option maxHeartbeats 4000000 in
set_option maxRecDepth 100000 in
theorem c_X2_useful (l : Launch) (D : va_G) (cI cZ : ClassId) (ad : Nat → Nat) (N : Nat) (A : Nat) (fl : Bool) (an : Nat → Int32) (nd : Nat → Int32) (wt : Nat → Int32) (B : Nat → Int32) (Hd : Nat → Int32) (O : Nat → Bool) (R : Nat) (HL : Nat → Int32) (LB : Nat → Int32) (SO : Nat → Bool) (NG : Nat → Bool) (WO : Nat → Bool) (SA : Nat) (SE : Nat) (x0 : Int32) (hA : A ≤ 9) (hR : R ≤ 40) (hn : N ≤ 24) (hH : okH N Hd R) (hN : okN N nd A) (hsv : fl = true → svOK B Hd O R nd A HL LB SO NG WO SA SE) (hst : l.stackTraces = false) (sz : Nat) : vx_Met l yX2_useful wsX2_useful ({ frames := 7, cells := 1, slots := 6, locals := 138 }) (pcX D [(cI, .int), (cZ, .boolean)] sz (wK cI cZ ad N A fl an nd wt B Hd O R HL LB SO NG WO SA SE) [.ref (ad 0), .int (x0)]) (va_Qi (fun (r9 : Int32) (u9 : (Bool) × (Nat → Int32) × (Nat → Int32) × (Nat → Bool) × (Nat → Bool) × (Nat → Bool) × (Nat) × (Nat)) => (r9 = usE (fun e => lbM (hdE B Hd O R nd A) (soE B Hd O R nd A) x0 e) (2 ^ A)) ∧ (inR x0 N = true) ∧ ((u9.1) = true → svOK B Hd O R nd A (u9.2.1) (u9.2.2.1) (u9.2.2.2.1) (u9.2.2.2.2.1) (u9.2.2.2.2.2.1) (u9.2.2.2.2.2.2.1) (u9.2.2.2.2.2.2.2)) ∧ (True)) (wB D (va_A (wK cI cZ ad N A fl an nd wt B Hd O R HL LB SO NG WO SA SE) sz) (fun u9 : (Bool) × (Nat → Int32) × (Nat → Int32) × (Nat → Bool) × (Nat → Bool) × (Nat → Bool) × (Nat) × (Nat) => (wK cI cZ ad N A (u9.1) an nd wt B Hd O R (u9.2.1) (u9.2.2.1) (u9.2.2.2.1) (u9.2.2.2.2.1) (u9.2.2.2.2.2.1) (u9.2.2.2.2.2.2.1) (u9.2.2.2.2.2.2.2)))) (va_A (wK cI cZ ad N A fl an nd wt B Hd O R HL LB SO NG WO SA SE) sz)) (xX D (va_A (wK cI cZ ad N A fl an nd wt B Hd O R HL LB SO NG WO SA SE) sz) (fun (E9 : String) (u9 : (Bool) × (Nat → Int32) × (Nat → Int32) × (Nat → Bool) × (Nat → Bool) × (Nat → Bool) × (Nat) × (Nat)) => (E9 = "java/lang/IndexOutOfBoundsException" ∧ (inR x0 N = false)) ∧ ((u9.1) = true → svOK B Hd O R nd A (u9.2.1) (u9.2.2.1) (u9.2.2.2.1) (u9.2.2.2.2.1) (u9.2.2.2.2.2.1) (u9.2.2.2.2.2.2.1) (u9.2.2.2.2.2.2.2))) (fun u9 : (Bool) × (Nat → Int32) × (Nat → Int32) × (Nat → Bool) × (Nat → Bool) × (Nat → Bool) × (Nat) × (Nat) => (wK cI cZ ad N A (u9.1) an nd wt B Hd O R (u9.2.1) (u9.2.2.1) (u9.2.2.2.1) (u9.2.2.2.2.1) (u9.2.2.2.2.2.1) (u9.2.2.2.2.2.2.1) (u9.2.2.2.2.2.2.2)))) 1 6 (va_A (wK cI cZ ad N A fl an nd wt B Hd O R HL LB SO NG WO SA SE) sz) := by
  refine vx_ofW (cc := cX2_useful) (maxL := 5) (ret := (some .int)) (by decide) rfl ?_
  intro p e s m args below meth c s₁ BB hml htab hv
  obtain ⟨rfl, hsz, hP, hK, hD0, hX, hZ⟩ := hv
  have hx := BB.exec
  have hb := BB.bytes
  have hrt := BB.returns
  have hts := atoms_spec (ws := wsX2_useful) BB.pre
  have hown : s.vm.findClass RX2 = some m.cls := findClass_of_methodNamed BB.named
  have hlk := BB.notSynchronized
  subst hsz
  have hD := hD0.self (sz := s.heap.size)
  generalize hAe : va_A (wK cI cZ ad N A fl an nd wt B Hd O R HL LB SO NG WO SA SE) s.heap.size = Ap at hD hZ ⊢
  have hAp : ∀ q : Nat, s.heap.size ≤ q → Ap q := fun q h => by rw [← hAe]; exact Or.inr h
  have hS : va_S Ap s.heap s.heap [] := va_S.rf
  have hl := lv_entry ([.ref (ad 0), .int (x0)]) (n := 5) (Nat.le_of_ble_eq_true rfl)
  rw [lg_entry_eq]
  generalize (lg_sl ([.ref (ad 0), .int (x0)]) ++ List.replicate (5 - (lg_sl ([.ref (ad 0), .int (x0)])).length) Slot.unset).toArray = ls at hl ⊢
  have hl : lv_has ls 5 [(0, .ref (ad 0)), (1, .int (x0))] := hl
  have h512 : 2 ^ A ≤ 512 := pow9 hA
  have hpos : 0 < 2 ^ A := Nat.two_pow_pos A
  refine lv_aload_n hx hb dX2_useful_0 rfl (lv_at hl 0 rfl) ?_
  refine lv_iload_n hx hb dX2_useful_1 rfl (lv_at hl 1 rfl) ?_
  refine xu_v (wr := []) (vx_runV (As := [.int (x0)]) (rest := []) ⟨hx, hb, hml, hown, hts⟩ (c_X2_requireNode l D cI cZ ad (N) (A) (fl) (an) (nd) (wt) (B) (Hd) (O) (R) (HL) (LB) (SO) (NG) (WO) (SA) (SE) (x0)  hst (s.heap).size) (cwV 1 hts gX2_useful_X2_requireNode rfl rfl rfl (by decide +kernel) ⟨Nat.le_of_ble_eq_true rfl, Nat.le_of_ble_eq_true rfl⟩) (prx_V (q0 := 0) (ci := 2) (hP.sub (ws' := (wK cI cZ ad N A fl an nd wt B Hd O R HL LB SO NG WO SA SE)) [0, 1, 2, 3, 4, 5, 6, 7, 8, 9, 10, 11, 12, 13] rfl) (hD.sub (ws' := (wK cI cZ ad N A fl an nd wt B Hd O R HL LB SO NG WO SA SE)) [0, 1, 2, 3, 4, 5, 6, 7, 8, 9, 10, 11, 12, 13] (by decide) rfl) hK hX hZ hS (va_free (wc := (wK cI cZ ad N A fl an nd wt B Hd O R HL LB SO NG WO SA SE)) hD hS hAp [0, 1, 2, 3, 4, 5, 6, 7, 8, 9, 10, 11, 12, 13] rfl) rfl rfl) rfl rfl hl.1 rfl (lv_room (Nat.le_of_ble_eq_true rfl)) dX2_useful_2 ⟨Nat.le_of_ble_eq_true rfl, Nat.le_of_ble_eq_true rfl⟩) hP hD hS hAp [0, 1, 2, 3, 4, 5, 6, 7, 8, 9, 10, 11, 12, 13] [] rfl rfl (by decide) (by decide) (fun E_2 ce_2 q9_2 ux_2 H locs hxp_2 hP hD hS h7_2 h8_2 h9_2 => ?_) (fun u_2 H locs hq_2 hP hD hS => ?_)
  · skip
    have hP : va_P D vwCl (wK cI cZ ad N A fl an nd wt B Hd O R HL LB SO NG WO SA SE) H := hP
    have hD : va_D Ap (wK cI cZ ad N A fl an nd wt B Hd O R HL LB SO NG WO SA SE) := hD
    exact x_out (u := (fl, HL, LB, SO, NG, WO, SA, SE)) htab hlk h7_2 h8_2 h9_2 hS hP hD (Nat.le_of_ble_eq_true rfl) (Nat.le_of_ble_eq_true rfl) (⟨by obtain ⟨hE9, hc9⟩ := hxp_2; subst hE9; simp [hc9], hsv⟩)
  · skip
    obtain ⟨hok_2, -⟩ := hq_2
    have hP : va_P D vwCl (wK cI cZ ad N A fl an nd wt B Hd O R HL LB SO NG WO SA SE) H := hP
    have hD : va_D Ap (wK cI cZ ad N A fl an nd wt B Hd O R HL LB SO NG WO SA SE) := hD
    refine W.widen (k := 1) (n := 6) (by decide) (by decide) ?_
    refine lv_aload_n hx hb dX2_useful_5 rfl (lv_at hl 0 rfl) ?_
    refine mu_a (wr := []) (va_runV (As := []) (rest := []) ⟨hx, hb, hml, hown, hts⟩ (c_X2_surveyNow l D cI cZ ad (N) (A) (fl) (an) (nd) (wt) (B) (Hd) (O) (R) (HL) (LB) (SO) (NG) (WO) (SA) (SE) (by omega) (by omega) (hn) (hH) (hN) (hsv) (H).size) (cwV 0 hts gX2_useful_X2_surveyNow rfl rfl rfl (by decide +kernel) ⟨Nat.le_of_ble_eq_true rfl, Nat.le_of_ble_eq_true rfl⟩) (prw_V (q0 := 0) (ci := 2) (hP.sub (ws' := (wK cI cZ ad N A fl an nd wt B Hd O R HL LB SO NG WO SA SE)) [0, 1, 2, 3, 4, 5, 6, 7, 8, 9, 10, 11, 12, 13] rfl) (hD.sub (ws' := (wK cI cZ ad N A fl an nd wt B Hd O R HL LB SO NG WO SA SE)) [0, 1, 2, 3, 4, 5, 6, 7, 8, 9, 10, 11, 12, 13] (by decide) rfl) hK rfl rfl) rfl rfl hl.1 rfl (lv_room (Nat.le_of_ble_eq_true rfl)) dX2_useful_6 ⟨Nat.le_of_ble_eq_true rfl, Nat.le_of_ble_eq_true rfl⟩) hP hD hS hAp [0, 1, 2, 3, 4, 5, 6, 7, 8, 9, 10, 11, 12, 13] [] rfl rfl (by decide) (by decide) (fun u_6 H locs hq_6 hP hD hS => ?_)
    obtain ⟨HL9_6, LB9_6, SO9_6, NG9_6, WO9_6⟩ := u_6
    obtain ⟨hsv_6, -⟩ := hq_6
    have hsv_6 : svOK B Hd O R nd A HL9_6 LB9_6 SO9_6 NG9_6 WO9_6 A (2 ^ A) := hsv_6
    have hP : va_P D vwCl (wK cI cZ ad N A true an nd wt B Hd O R HL9_6 LB9_6 SO9_6 NG9_6 WO9_6 A (2 ^ A)) H := hP
    have hD : va_D Ap (wK cI cZ ad N A true an nd wt B Hd O R HL9_6 LB9_6 SO9_6 NG9_6 WO9_6 A (2 ^ A)) := hD
    refine lv_astore_n (lv' := [(2, .ref (ad 8)), (0, .ref (ad 0)), (1, .int (x0))]) hx hb dX2_useful_9 rfl hl (by decide) rfl (fun ls hl => ?_)
    refine lv_iconst (v := nI (0)) hx hb dX2_useful_10 (by decide) ?_
    refine lv_istore_n (lv' := [(3, .int (nI (0))), (2, .ref (ad 8)), (0, .ref (ad 0)), (1, .int (x0))]) hx hb dX2_useful_11 rfl hl (by decide) rfl (fun ls hl => ?_)
    refine lv_iconst (v := nI (0)) hx hb dX2_useful_12 (by decide) ?_
    refine lv_istore (lv' := [(4, .int (nI (0))), (3, .int (nI (0))), (2, .ref (ad 8)), (0, .ref (ad 0)), (1, .int (x0))]) hx hb dX2_useful_13 hl (by decide) rfl (fun ls hl => ?_)
    have lp_15 : ∀ (n15 i : Nat) (v3 : Int32) (v4 : Int32), i ≤ 2 ^ A → 2 ^ A + 1 ≤ i + n15 → v3 = usE (fun e => hs (LB9_6 e) x0) i → v4 = nI (i) → ∀ ls : Array Slot, lv_has ls 5 [(2, .ref (ad 8)), (0, .ref (ad 0)), (1, .int (x0)), (3, .int (v3)), (4, .int (v4))] → W p l e (headSpec wsX2_useful ({ frames := 7, cells := 1, slots := 6, locals := 138 })).room s m ([.ref (ad 0), .int (x0)]).toArray below meth c H locs 1 6 (vx_MQ below (va_Qi (fun (r9 : Int32) (u9 : (Bool) × (Nat → Int32) × (Nat → Int32) × (Nat → Bool) × (Nat → Bool) × (Nat → Bool) × (Nat) × (Nat)) => (r9 = usE (fun e => lbM (hdE B Hd O R nd A) (soE B Hd O R nd A) x0 e) (2 ^ A)) ∧ (inR x0 N = true) ∧ ((u9.1) = true → svOK B Hd O R nd A (u9.2.1) (u9.2.2.1) (u9.2.2.2.1) (u9.2.2.2.2.1) (u9.2.2.2.2.2.1) (u9.2.2.2.2.2.2.1) (u9.2.2.2.2.2.2.2)) ∧ (True)) (wB D Ap (fun u9 : (Bool) × (Nat → Int32) × (Nat → Int32) × (Nat → Bool) × (Nat → Bool) × (Nat → Bool) × (Nat) × (Nat) => (wK cI cZ ad N A (u9.1) an nd wt B Hd O R (u9.2.1) (u9.2.2.1) (u9.2.2.2.1) (u9.2.2.2.2.1) (u9.2.2.2.2.2.1) (u9.2.2.2.2.2.2.1) (u9.2.2.2.2.2.2.2)))) Ap) (xX D Ap (fun (E9 : String) (u9 : (Bool) × (Nat → Int32) × (Nat → Int32) × (Nat → Bool) × (Nat → Bool) × (Nat → Bool) × (Nat) × (Nat)) => (E9 = "java/lang/IndexOutOfBoundsException" ∧ (inR x0 N = false)) ∧ ((u9.1) = true → svOK B Hd O R nd A (u9.2.1) (u9.2.2.1) (u9.2.2.2.1) (u9.2.2.2.2.1) (u9.2.2.2.2.2.1) (u9.2.2.2.2.2.2.1) (u9.2.2.2.2.2.2.2))) (fun u9 : (Bool) × (Nat → Int32) × (Nat → Int32) × (Nat → Bool) × (Nat → Bool) × (Nat → Bool) × (Nat) × (Nat) => (wK cI cZ ad N A (u9.1) an nd wt B Hd O R (u9.2.1) (u9.2.2.1) (u9.2.2.2.1) (u9.2.2.2.2.1) (u9.2.2.2.2.2.1) (u9.2.2.2.2.2.2.1) (u9.2.2.2.2.2.2.2)))) ([.ref (ad 0), .int (x0)]).toArray s 1 6 Ap) (F0 m 15 ls []) := by
      intro n15
      induction n15 with
      | zero => intro i v3 v4 h1 h2; exact absurd h2 (by omega)
      | succ n15 ih15 =>
        intro i v3 v4 hi15 hn15  e3 e4  ls hl
        subst e3 e4
        have hl : lv_has ls 5 [(2, .ref (ad 8)), (0, .ref (ad 0)), (1, .int (x0)), (3, .int (usE (fun e => hs (LB9_6 e) x0) i)), (4, .int (nI (i)))] := hl
        refine lv_iload hx hb dX2_useful_15 (lv_at hl 4 rfl) ?_
        refine lv_aload_n hx hb dX2_useful_17 rfl (lv_at hl 0 rfl) ?_
        refine pu_i (va_runV (As := []) (rest := [.int (nI (i))]) ⟨hx, hb, hml, hown, hts⟩ (c_X1_environmentCount l D cI cZ (fun k => ad (k + 8)) (HL9_6) (LB9_6) (SO9_6) (NG9_6) (WO9_6) (A) (2 ^ A) ) (cwV 0 hts gX2_useful_X1_environmentCount rfl rfl rfl (by decide +kernel) ⟨Nat.le_of_ble_eq_true rfl, Nat.le_of_ble_eq_true rfl⟩) (pre_V (q0 := 0) (ci := 1) (hP.sub (ws' := (wS cI cZ (fun k => ad (k + 8)) HL9_6 LB9_6 SO9_6 NG9_6 WO9_6 A (2 ^ A))) [8, 9, 10, 11, 12, 13] rfl) hK rfl rfl) rfl rfl hl.1 rfl (lv_room (Nat.le_of_ble_eq_true rfl)) dX2_useful_18 ⟨Nat.le_of_ble_eq_true rfl, Nat.le_of_ble_eq_true rfl⟩) ?_
        refine lv_icmp_ge (tgt := 45) hx hb dX2_useful_21 (by decide) (fun c_21 => ?_) (fun c_21 => ?_)
        · skip
          have c_21 := (qI_le (a := (2 ^ A)) (b := i) (by omega) (by omega)).mp c_21
          refine lv_iload_n hx hb dX2_useful_45 rfl (lv_at hl 3 rfl) ?_
          exact vx_ret (mr_i (u := (true, HL9_6, LB9_6, SO9_6, NG9_6, WO9_6, A, 2 ^ A)) hx hb hrt hlk dX2_useful_46 hS hP hD ⟨(by have hi9 : i = 2 ^ A := (by omega); rw [hi9]; exact usE_congr (lbK hA hn hok_2 hsv_6)), (hok_2), (fun _ => hsv_6), trivial⟩)
        · skip
          have c_21 := mt (qI_le (a := (2 ^ A)) (b := i) (by omega) (by omega)).mpr c_21
          refine lv_aload_n hx hb dX2_useful_24 rfl (lv_at hl 0 rfl) ?_
          refine lv_iload_n hx hb dX2_useful_25 rfl (lv_at hl 2 rfl) ?_
          refine lv_iload hx hb dX2_useful_26 (lv_at hl 4 rfl) ?_
          refine pu_i (va_runV (As := [.int (x0), .int (nI (i))]) (rest := []) ⟨hx, hb, hml, hown, hts⟩ (c_X1_isInLabel l D cI cZ (fun k => ad (k + 8)) (HL9_6) (LB9_6) (SO9_6) (NG9_6) (WO9_6) (A) (2 ^ A) (x0) (i) (by omega)) (cwV 2 hts gX2_useful_X1_isInLabel rfl rfl rfl (by decide +kernel) ⟨Nat.le_of_ble_eq_true rfl, Nat.le_of_ble_eq_true rfl⟩) (pre_V (q0 := 0) (ci := 1) (hP.sub (ws' := (wS cI cZ (fun k => ad (k + 8)) HL9_6 LB9_6 SO9_6 NG9_6 WO9_6 A (2 ^ A))) [8, 9, 10, 11, 12, 13] rfl) hK rfl rfl) rfl rfl hl.1 rfl (lv_room (Nat.le_of_ble_eq_true rfl)) dX2_useful_28 ⟨Nat.le_of_ble_eq_true rfl, Nat.le_of_ble_eq_true rfl⟩) ?_
          refine lv_if_eq (tgt := 39) hx hb dX2_useful_31 (by decide) (fun c_31 => ?_) (fun c_31 => ?_)
          · skip
            have c_31 := bI_eq0 c_31
            refine lv_iinc (v := nI (i + 1)) (lv' := [(4, .int (nI (i + 1))), (2, .ref (ad 8)), (0, .ref (ad 0)), (1, .int (x0)), (3, .int (usE (fun e => hs (LB9_6 e) x0) i))]) hx hb dX2_useful_39 hl (k := 4) rfl (nI_1 _) (by decide) rfl (fun ls hl => ?_)
            refine lv_goto (tgt := 15) hx hb dX2_useful_42 (by decide) ?_
            exact ih15 (i + 1) _ _  (by omega) (by omega)  (by first | rfl | (simp [usE, c_21, c_31]; done) | (simp only [usE, c_21, c_31]; rfl) | (simp_all [usE, c_21, c_31]; done)) (by first | rfl | (simp [usE, c_21, c_31]; done) | (simp only [usE, c_21, c_31]; rfl) | (simp_all [usE, c_21, c_31]; done))  ls (lv_sub hl [1, 2, 3, 4, 0] rfl)
          · skip
            have c_31 := bI_ne0 c_31
            refine lv_iload_n hx hb dX2_useful_34 rfl (lv_at hl 3 rfl) ?_
            refine lv_iload hx hb dX2_useful_35 (lv_at hl 4 rfl) ?_
            refine lv_ior hx hb dX2_useful_37 ?_
            refine lv_istore_n (lv' := [(3, .int ((usE (fun e => hs (LB9_6 e) x0) i) ||| (nI (i)))), (2, .ref (ad 8)), (0, .ref (ad 0)), (1, .int (x0)), (4, .int (nI (i)))]) hx hb dX2_useful_38 rfl hl (by decide) rfl (fun ls hl => ?_)
            refine lv_iinc (v := nI (i + 1)) (lv' := [(4, .int (nI (i + 1))), (3, .int ((usE (fun e => hs (LB9_6 e) x0) i) ||| (nI (i)))), (2, .ref (ad 8)), (0, .ref (ad 0)), (1, .int (x0))]) hx hb dX2_useful_39 hl (k := 4) rfl (nI_1 _) (by decide) rfl (fun ls hl => ?_)
            refine lv_goto (tgt := 15) hx hb dX2_useful_42 (by decide) ?_
            exact ih15 (i + 1) _ _  (by omega) (by omega)  (by first | rfl | (simp [usE, c_21, c_31]; done) | (simp only [usE, c_21, c_31]; rfl) | (simp_all [usE, c_21, c_31]; done)) (by first | rfl | (simp [usE, c_21, c_31]; done) | (simp only [usE, c_21, c_31]; rfl) | (simp_all [usE, c_21, c_31]; done))  ls (lv_sub hl [2, 3, 4, 1, 0] rfl)
    exact lp_15 (2 ^ A + 1) (0) _ _  (by omega) (by omega)  (by first | rfl | (simp [usE]; done) | (simp only [usE]; rfl) | (simp_all [usE]; done)) (by first | rfl | (simp [usE]; done) | (simp only [usE]; rfl) | (simp_all [usE]; done))  ls (lv_sub hl [2, 3, 4, 1, 0] rfl)
set_option maxHeartbeats 4000000 in
set_option maxRecDepth 100000 in
theorem c_X2_nogoodCount (l : Launch) (D : va_G) (cI cZ : ClassId) (ad : Nat → Nat) (N : Nat) (A : Nat) (fl : Bool) (an : Nat → Int32) (nd : Nat → Int32) (wt : Nat → Int32) (B : Nat → Int32) (Hd : Nat → Int32) (O : Nat → Bool) (R : Nat) (HL : Nat → Int32) (LB : Nat → Int32) (SO : Nat → Bool) (NG : Nat → Bool) (WO : Nat → Bool) (SA : Nat) (SE : Nat) (hA : A ≤ 9) (hR : R ≤ 40) (hn : N ≤ 24) (hH : okH N Hd R) (hN : okN N nd A) (hsv : fl = true → svOK B Hd O R nd A HL LB SO NG WO SA SE) (sz : Nat) : Met l yX2_nogoodCount wsX2_nogoodCount ({ frames := 6, cells := 0, slots := 0, locals := 138 }) (pcW D [(cI, .int), (cZ, .boolean)] sz (wK cI cZ ad N A fl an nd wt B Hd O R HL LB SO NG WO SA SE) [.ref (ad 0)]) (va_Qi (fun (r9 : Int32) (u9 : (Bool) × (Nat → Int32) × (Nat → Int32) × (Nat → Bool) × (Nat → Bool) × (Nat → Bool) × (Nat) × (Nat)) => (r9 = nI (cnt (fun e => ngM (soE B Hd O R nd A) e) (2 ^ A))) ∧ ((u9.1) = true → svOK B Hd O R nd A (u9.2.1) (u9.2.2.1) (u9.2.2.2.1) (u9.2.2.2.2.1) (u9.2.2.2.2.2.1) (u9.2.2.2.2.2.2.1) (u9.2.2.2.2.2.2.2)) ∧ (True)) (wB D (va_A (wK cI cZ ad N A fl an nd wt B Hd O R HL LB SO NG WO SA SE) sz) (fun u9 : (Bool) × (Nat → Int32) × (Nat → Int32) × (Nat → Bool) × (Nat → Bool) × (Nat → Bool) × (Nat) × (Nat) => (wK cI cZ ad N A (u9.1) an nd wt B Hd O R (u9.2.1) (u9.2.2.1) (u9.2.2.2.1) (u9.2.2.2.2.1) (u9.2.2.2.2.2.1) (u9.2.2.2.2.2.2.1) (u9.2.2.2.2.2.2.2)))) (va_A (wK cI cZ ad N A fl an nd wt B Hd O R HL LB SO NG WO SA SE) sz)) 0 0 (va_A (wK cI cZ ad N A fl an nd wt B Hd O R HL LB SO NG WO SA SE) sz) := by
  refine Met.ofW (cc := cX2_nogoodCount) (maxL := 1) (ret := (some .int)) (by decide) rfl ?_
  intro p e s m args below meth c s₁ BB hml hv
  obtain ⟨rfl, hsz, hP, hK, hD0⟩ := hv
  have hx := BB.exec
  have hb := BB.bytes
  have hrt := BB.returns
  have hts := atoms_spec (ws := wsX2_nogoodCount) BB.pre
  have hown : s.vm.findClass RX2 = some m.cls := findClass_of_methodNamed BB.named
  have hlk := BB.notSynchronized
  subst hsz
  have hD := hD0.self (sz := s.heap.size)
  generalize hAe : va_A (wK cI cZ ad N A fl an nd wt B Hd O R HL LB SO NG WO SA SE) s.heap.size = Ap at hD ⊢
  have hAp : ∀ q : Nat, s.heap.size ≤ q → Ap q := fun q h => by rw [← hAe]; exact Or.inr h
  have hS : va_S Ap s.heap s.heap [] := va_S.rf
  have hl := lv_entry ([.ref (ad 0)]) (n := 1) (Nat.le_of_ble_eq_true rfl)
  rw [lg_entry_eq]
  generalize (lg_sl ([.ref (ad 0)]) ++ List.replicate (1 - (lg_sl ([.ref (ad 0)])).length) Slot.unset).toArray = ls at hl ⊢
  have hl : lv_has ls 1 [(0, .ref (ad 0))] := hl
  have h512 : 2 ^ A ≤ 512 := pow9 hA
  have hpos : 0 < 2 ^ A := Nat.two_pow_pos A
  refine lv_aload_n hx hb dX2_nogoodCount_0 rfl (lv_at hl 0 rfl) ?_
  refine mu_a (wr := []) (va_runV (As := []) (rest := []) ⟨hx, hb, hml, hown, hts⟩ (c_X2_surveyNow l D cI cZ ad (N) (A) (fl) (an) (nd) (wt) (B) (Hd) (O) (R) (HL) (LB) (SO) (NG) (WO) (SA) (SE) (by omega) (by omega) (hn) (hH) (hN) (hsv) (s.heap).size) (cwV 0 hts gX2_nogoodCount_X2_surveyNow rfl rfl rfl (by decide +kernel) ⟨Nat.le_of_ble_eq_true rfl, Nat.le_of_ble_eq_true rfl⟩) (prw_V (q0 := 0) (ci := 2) (hP.sub (ws' := (wK cI cZ ad N A fl an nd wt B Hd O R HL LB SO NG WO SA SE)) [0, 1, 2, 3, 4, 5, 6, 7, 8, 9, 10, 11, 12, 13] rfl) (hD.sub (ws' := (wK cI cZ ad N A fl an nd wt B Hd O R HL LB SO NG WO SA SE)) [0, 1, 2, 3, 4, 5, 6, 7, 8, 9, 10, 11, 12, 13] (by decide) rfl) hK rfl rfl) rfl rfl hl.1 rfl (lv_room (Nat.le_of_ble_eq_true rfl)) dX2_nogoodCount_1 ⟨Nat.le_of_ble_eq_true rfl, Nat.le_of_ble_eq_true rfl⟩) hP hD hS hAp [0, 1, 2, 3, 4, 5, 6, 7, 8, 9, 10, 11, 12, 13] [] rfl rfl (by decide) (by decide) (fun u_1 H locs hq_1 hP hD hS => ?_)
  obtain ⟨HL9_1, LB9_1, SO9_1, NG9_1, WO9_1⟩ := u_1
  obtain ⟨hsv_1, -⟩ := hq_1
  have hsv_1 : svOK B Hd O R nd A HL9_1 LB9_1 SO9_1 NG9_1 WO9_1 A (2 ^ A) := hsv_1
  have hP : va_P D vwCl (wK cI cZ ad N A true an nd wt B Hd O R HL9_1 LB9_1 SO9_1 NG9_1 WO9_1 A (2 ^ A)) H := hP
  have hD : va_D Ap (wK cI cZ ad N A true an nd wt B Hd O R HL9_1 LB9_1 SO9_1 NG9_1 WO9_1 A (2 ^ A)) := hD
  refine pu_i (va_runV (As := []) (rest := []) ⟨hx, hb, hml, hown, hts⟩ (c_X1_countNogoods l D cI cZ (fun k => ad (k + 8)) (HL9_1) (LB9_1) (SO9_1) (NG9_1) (WO9_1) (A) (2 ^ A) (by omega)) (cwV 0 hts gX2_nogoodCount_X1_countNogoods rfl rfl rfl (by decide +kernel) ⟨Nat.le_of_ble_eq_true rfl, Nat.le_of_ble_eq_true rfl⟩) (pre_V (q0 := 0) (ci := 1) (hP.sub (ws' := (wS cI cZ (fun k => ad (k + 8)) HL9_1 LB9_1 SO9_1 NG9_1 WO9_1 A (2 ^ A))) [8, 9, 10, 11, 12, 13] rfl) hK rfl rfl) rfl rfl hl.1 rfl (lv_room (Nat.le_of_ble_eq_true rfl)) dX2_nogoodCount_4 ⟨Nat.zero_le _, Nat.zero_le _⟩) ?_
  exact mr_i (u := (true, HL9_1, LB9_1, SO9_1, NG9_1, WO9_1, A, 2 ^ A)) hx hb hrt hlk dX2_nogoodCount_7 hS hP hD ⟨(congrArg nI (cnt_congr (ngK hA hsv_1))), (fun _ => hsv_1), trivial⟩
set_option maxHeartbeats 4000000 in
set_option maxRecDepth 100000 in
theorem c_X2_worldCount (l : Launch) (D : va_G) (cI cZ : ClassId) (ad : Nat → Nat) (N : Nat) (A : Nat) (fl : Bool) (an : Nat → Int32) (nd : Nat → Int32) (wt : Nat → Int32) (B : Nat → Int32) (Hd : Nat → Int32) (O : Nat → Bool) (R : Nat) (HL : Nat → Int32) (LB : Nat → Int32) (SO : Nat → Bool) (NG : Nat → Bool) (WO : Nat → Bool) (SA : Nat) (SE : Nat) (hA : A ≤ 9) (hR : R ≤ 40) (hn : N ≤ 24) (hH : okH N Hd R) (hN : okN N nd A) (hsv : fl = true → svOK B Hd O R nd A HL LB SO NG WO SA SE) (sz : Nat) : Met l yX2_worldCount wsX2_worldCount ({ frames := 6, cells := 0, slots := 0, locals := 138 }) (pcW D [(cI, .int), (cZ, .boolean)] sz (wK cI cZ ad N A fl an nd wt B Hd O R HL LB SO NG WO SA SE) [.ref (ad 0)]) (va_Qi (fun (r9 : Int32) (u9 : (Bool) × (Nat → Int32) × (Nat → Int32) × (Nat → Bool) × (Nat → Bool) × (Nat → Bool) × (Nat) × (Nat)) => (r9 = nI (cnt (fun e => woM A (soE B Hd O R nd A) e) (2 ^ A))) ∧ ((u9.1) = true → svOK B Hd O R nd A (u9.2.1) (u9.2.2.1) (u9.2.2.2.1) (u9.2.2.2.2.1) (u9.2.2.2.2.2.1) (u9.2.2.2.2.2.2.1) (u9.2.2.2.2.2.2.2)) ∧ (True)) (wB D (va_A (wK cI cZ ad N A fl an nd wt B Hd O R HL LB SO NG WO SA SE) sz) (fun u9 : (Bool) × (Nat → Int32) × (Nat → Int32) × (Nat → Bool) × (Nat → Bool) × (Nat → Bool) × (Nat) × (Nat) => (wK cI cZ ad N A (u9.1) an nd wt B Hd O R (u9.2.1) (u9.2.2.1) (u9.2.2.2.1) (u9.2.2.2.2.1) (u9.2.2.2.2.2.1) (u9.2.2.2.2.2.2.1) (u9.2.2.2.2.2.2.2)))) (va_A (wK cI cZ ad N A fl an nd wt B Hd O R HL LB SO NG WO SA SE) sz)) 0 0 (va_A (wK cI cZ ad N A fl an nd wt B Hd O R HL LB SO NG WO SA SE) sz) := by
  refine Met.ofW (cc := cX2_worldCount) (maxL := 1) (ret := (some .int)) (by decide) rfl ?_
  intro p e s m args below meth c s₁ BB hml hv
  obtain ⟨rfl, hsz, hP, hK, hD0⟩ := hv
  have hx := BB.exec
  have hb := BB.bytes
  have hrt := BB.returns
  have hts := atoms_spec (ws := wsX2_worldCount) BB.pre
  have hown : s.vm.findClass RX2 = some m.cls := findClass_of_methodNamed BB.named
  have hlk := BB.notSynchronized
  subst hsz
  have hD := hD0.self (sz := s.heap.size)
  generalize hAe : va_A (wK cI cZ ad N A fl an nd wt B Hd O R HL LB SO NG WO SA SE) s.heap.size = Ap at hD ⊢
  have hAp : ∀ q : Nat, s.heap.size ≤ q → Ap q := fun q h => by rw [← hAe]; exact Or.inr h
  have hS : va_S Ap s.heap s.heap [] := va_S.rf
  have hl := lv_entry ([.ref (ad 0)]) (n := 1) (Nat.le_of_ble_eq_true rfl)
  rw [lg_entry_eq]
  generalize (lg_sl ([.ref (ad 0)]) ++ List.replicate (1 - (lg_sl ([.ref (ad 0)])).length) Slot.unset).toArray = ls at hl ⊢
  have hl : lv_has ls 1 [(0, .ref (ad 0))] := hl
  have h512 : 2 ^ A ≤ 512 := pow9 hA
  have hpos : 0 < 2 ^ A := Nat.two_pow_pos A
  refine lv_aload_n hx hb dX2_worldCount_0 rfl (lv_at hl 0 rfl) ?_
  refine mu_a (wr := []) (va_runV (As := []) (rest := []) ⟨hx, hb, hml, hown, hts⟩ (c_X2_surveyNow l D cI cZ ad (N) (A) (fl) (an) (nd) (wt) (B) (Hd) (O) (R) (HL) (LB) (SO) (NG) (WO) (SA) (SE) (by omega) (by omega) (hn) (hH) (hN) (hsv) (s.heap).size) (cwV 0 hts gX2_worldCount_X2_surveyNow rfl rfl rfl (by decide +kernel) ⟨Nat.le_of_ble_eq_true rfl, Nat.le_of_ble_eq_true rfl⟩) (prw_V (q0 := 0) (ci := 2) (hP.sub (ws' := (wK cI cZ ad N A fl an nd wt B Hd O R HL LB SO NG WO SA SE)) [0, 1, 2, 3, 4, 5, 6, 7, 8, 9, 10, 11, 12, 13] rfl) (hD.sub (ws' := (wK cI cZ ad N A fl an nd wt B Hd O R HL LB SO NG WO SA SE)) [0, 1, 2, 3, 4, 5, 6, 7, 8, 9, 10, 11, 12, 13] (by decide) rfl) hK rfl rfl) rfl rfl hl.1 rfl (lv_room (Nat.le_of_ble_eq_true rfl)) dX2_worldCount_1 ⟨Nat.le_of_ble_eq_true rfl, Nat.le_of_ble_eq_true rfl⟩) hP hD hS hAp [0, 1, 2, 3, 4, 5, 6, 7, 8, 9, 10, 11, 12, 13] [] rfl rfl (by decide) (by decide) (fun u_1 H locs hq_1 hP hD hS => ?_)
  obtain ⟨HL9_1, LB9_1, SO9_1, NG9_1, WO9_1⟩ := u_1
  obtain ⟨hsv_1, -⟩ := hq_1
  have hsv_1 : svOK B Hd O R nd A HL9_1 LB9_1 SO9_1 NG9_1 WO9_1 A (2 ^ A) := hsv_1
  have hP : va_P D vwCl (wK cI cZ ad N A true an nd wt B Hd O R HL9_1 LB9_1 SO9_1 NG9_1 WO9_1 A (2 ^ A)) H := hP
  have hD : va_D Ap (wK cI cZ ad N A true an nd wt B Hd O R HL9_1 LB9_1 SO9_1 NG9_1 WO9_1 A (2 ^ A)) := hD
  refine pu_i (va_runV (As := []) (rest := []) ⟨hx, hb, hml, hown, hts⟩ (c_X1_countWorlds l D cI cZ (fun k => ad (k + 8)) (HL9_1) (LB9_1) (SO9_1) (NG9_1) (WO9_1) (A) (2 ^ A) (by omega)) (cwV 0 hts gX2_worldCount_X1_countWorlds rfl rfl rfl (by decide +kernel) ⟨Nat.le_of_ble_eq_true rfl, Nat.le_of_ble_eq_true rfl⟩) (pre_V (q0 := 0) (ci := 1) (hP.sub (ws' := (wS cI cZ (fun k => ad (k + 8)) HL9_1 LB9_1 SO9_1 NG9_1 WO9_1 A (2 ^ A))) [8, 9, 10, 11, 12, 13] rfl) hK rfl rfl) rfl rfl hl.1 rfl (lv_room (Nat.le_of_ble_eq_true rfl)) dX2_worldCount_4 ⟨Nat.zero_le _, Nat.zero_le _⟩) ?_
  exact mr_i (u := (true, HL9_1, LB9_1, SO9_1, NG9_1, WO9_1, A, 2 ^ A)) hx hb hrt hlk dX2_worldCount_7 hS hP hD ⟨(congrArg nI (cnt_congr (woK hA hsv_1))), (fun _ => hsv_1), trivial⟩
set_option maxHeartbeats 4000000 in
set_option maxRecDepth 100000 in
theorem c_X2_nogood (l : Launch) (D : va_G) (cI cZ : ClassId) (ad : Nat → Nat) (N : Nat) (A : Nat) (fl : Bool) (an : Nat → Int32) (nd : Nat → Int32) (wt : Nat → Int32) (B : Nat → Int32) (Hd : Nat → Int32) (O : Nat → Bool) (R : Nat) (HL : Nat → Int32) (LB : Nat → Int32) (SO : Nat → Bool) (NG : Nat → Bool) (WO : Nat → Bool) (SA : Nat) (SE : Nat) (x0 : Int32) (hA : A ≤ 9) (hR : R ≤ 40) (hn : N ≤ 24) (hH : okH N Hd R) (hN : okN N nd A) (hsv : fl = true → svOK B Hd O R nd A HL LB SO NG WO SA SE) (hst : l.stackTraces = false) (sz : Nat) : vx_Met l yX2_nogood wsX2_nogood ({ frames := 7, cells := 1, slots := 6, locals := 138 }) (pcX D [(cI, .int), (cZ, .boolean)] sz (wK cI cZ ad N A fl an nd wt B Hd O R HL LB SO NG WO SA SE) [.ref (ad 0), .int (x0)]) (va_Qi (fun (r9 : Int32) (u9 : (Bool) × (Nat → Int32) × (Nat → Int32) × (Nat → Bool) × (Nat → Bool) × (Nat → Bool) × (Nat) × (Nat)) => (r9 = nth (fun e => ngM (soE B Hd O R nd A) e) (2 ^ A) x0) ∧ (¬ nth (fun e => ngM (soE B Hd O R nd A) e) (2 ^ A) x0 = -1) ∧ ((u9.1) = true → svOK B Hd O R nd A (u9.2.1) (u9.2.2.1) (u9.2.2.2.1) (u9.2.2.2.2.1) (u9.2.2.2.2.2.1) (u9.2.2.2.2.2.2.1) (u9.2.2.2.2.2.2.2)) ∧ (True)) (wB D (va_A (wK cI cZ ad N A fl an nd wt B Hd O R HL LB SO NG WO SA SE) sz) (fun u9 : (Bool) × (Nat → Int32) × (Nat → Int32) × (Nat → Bool) × (Nat → Bool) × (Nat → Bool) × (Nat) × (Nat) => (wK cI cZ ad N A (u9.1) an nd wt B Hd O R (u9.2.1) (u9.2.2.1) (u9.2.2.2.1) (u9.2.2.2.2.1) (u9.2.2.2.2.2.1) (u9.2.2.2.2.2.2.1) (u9.2.2.2.2.2.2.2)))) (va_A (wK cI cZ ad N A fl an nd wt B Hd O R HL LB SO NG WO SA SE) sz)) (xX D (va_A (wK cI cZ ad N A fl an nd wt B Hd O R HL LB SO NG WO SA SE) sz) (fun (E9 : String) (u9 : (Bool) × (Nat → Int32) × (Nat → Int32) × (Nat → Bool) × (Nat → Bool) × (Nat → Bool) × (Nat) × (Nat)) => (E9 = "java/lang/IndexOutOfBoundsException" ∧ (nth (fun e => ngM (soE B Hd O R nd A) e) (2 ^ A) x0 = -1)) ∧ ((u9.1) = true → svOK B Hd O R nd A (u9.2.1) (u9.2.2.1) (u9.2.2.2.1) (u9.2.2.2.2.1) (u9.2.2.2.2.2.1) (u9.2.2.2.2.2.2.1) (u9.2.2.2.2.2.2.2))) (fun u9 : (Bool) × (Nat → Int32) × (Nat → Int32) × (Nat → Bool) × (Nat → Bool) × (Nat → Bool) × (Nat) × (Nat) => (wK cI cZ ad N A (u9.1) an nd wt B Hd O R (u9.2.1) (u9.2.2.1) (u9.2.2.2.1) (u9.2.2.2.2.1) (u9.2.2.2.2.2.1) (u9.2.2.2.2.2.2.1) (u9.2.2.2.2.2.2.2)))) 1 6 (va_A (wK cI cZ ad N A fl an nd wt B Hd O R HL LB SO NG WO SA SE) sz) := by
  refine vx_ofW (cc := cX2_nogood) (maxL := 2) (ret := (some .int)) (by decide) rfl ?_
  intro p e s m args below meth c s₁ BB hml htab hv
  obtain ⟨rfl, hsz, hP, hK, hD0, hX, hZ⟩ := hv
  have hx := BB.exec
  have hb := BB.bytes
  have hrt := BB.returns
  have hts := atoms_spec (ws := wsX2_nogood) BB.pre
  have hown : s.vm.findClass RX2 = some m.cls := findClass_of_methodNamed BB.named
  have hlk := BB.notSynchronized
  subst hsz
  have hD := hD0.self (sz := s.heap.size)
  generalize hAe : va_A (wK cI cZ ad N A fl an nd wt B Hd O R HL LB SO NG WO SA SE) s.heap.size = Ap at hD hZ ⊢
  have hAp : ∀ q : Nat, s.heap.size ≤ q → Ap q := fun q h => by rw [← hAe]; exact Or.inr h
  have hS : va_S Ap s.heap s.heap [] := va_S.rf
  have hl := lv_entry ([.ref (ad 0), .int (x0)]) (n := 2) (Nat.le_of_ble_eq_true rfl)
  rw [lg_entry_eq]
  generalize (lg_sl ([.ref (ad 0), .int (x0)]) ++ List.replicate (2 - (lg_sl ([.ref (ad 0), .int (x0)])).length) Slot.unset).toArray = ls at hl ⊢
  have hl : lv_has ls 2 [(0, .ref (ad 0)), (1, .int (x0))] := hl
  have h512 : 2 ^ A ≤ 512 := pow9 hA
  have hpos : 0 < 2 ^ A := Nat.two_pow_pos A
  refine lv_aload_n hx hb dX2_nogood_0 rfl (lv_at hl 0 rfl) ?_
  refine mu_a (wr := []) (va_runV (As := []) (rest := []) ⟨hx, hb, hml, hown, hts⟩ (c_X2_surveyNow l D cI cZ ad (N) (A) (fl) (an) (nd) (wt) (B) (Hd) (O) (R) (HL) (LB) (SO) (NG) (WO) (SA) (SE) (by omega) (by omega) (hn) (hH) (hN) (hsv) (s.heap).size) (cwV 0 hts gX2_nogood_X2_surveyNow rfl rfl rfl (by decide +kernel) ⟨Nat.le_of_ble_eq_true rfl, Nat.le_of_ble_eq_true rfl⟩) (prw_V (q0 := 0) (ci := 2) (hP.sub (ws' := (wK cI cZ ad N A fl an nd wt B Hd O R HL LB SO NG WO SA SE)) [0, 1, 2, 3, 4, 5, 6, 7, 8, 9, 10, 11, 12, 13] rfl) (hD.sub (ws' := (wK cI cZ ad N A fl an nd wt B Hd O R HL LB SO NG WO SA SE)) [0, 1, 2, 3, 4, 5, 6, 7, 8, 9, 10, 11, 12, 13] (by decide) rfl) hK rfl rfl) rfl rfl hl.1 rfl (lv_room (Nat.le_of_ble_eq_true rfl)) dX2_nogood_1 ⟨Nat.le_of_ble_eq_true rfl, Nat.le_of_ble_eq_true rfl⟩) hP hD hS hAp [0, 1, 2, 3, 4, 5, 6, 7, 8, 9, 10, 11, 12, 13] [] rfl rfl (by decide) (by decide) (fun u_1 H locs hq_1 hP hD hS => ?_)
  obtain ⟨HL9_1, LB9_1, SO9_1, NG9_1, WO9_1⟩ := u_1
  obtain ⟨hsv_1, -⟩ := hq_1
  have hsv_1 : svOK B Hd O R nd A HL9_1 LB9_1 SO9_1 NG9_1 WO9_1 A (2 ^ A) := hsv_1
  have hP : va_P D vwCl (wK cI cZ ad N A true an nd wt B Hd O R HL9_1 LB9_1 SO9_1 NG9_1 WO9_1 A (2 ^ A)) H := hP
  have hD : va_D Ap (wK cI cZ ad N A true an nd wt B Hd O R HL9_1 LB9_1 SO9_1 NG9_1 WO9_1 A (2 ^ A)) := hD
  refine lv_iload_n hx hb dX2_nogood_4 rfl (lv_at hl 1 rfl) ?_
  refine pu_i (va_runV (As := [.int (x0)]) (rest := []) ⟨hx, hb, hml, hown, hts⟩ (c_X1_nogoodAt l D cI cZ (fun k => ad (k + 8)) (HL9_1) (LB9_1) (SO9_1) (NG9_1) (WO9_1) (A) (2 ^ A) (x0) (by omega)) (cwV 1 hts gX2_nogood_X1_nogoodAt rfl rfl rfl (by decide +kernel) ⟨Nat.le_of_ble_eq_true rfl, Nat.le_of_ble_eq_true rfl⟩) (pre_V (q0 := 0) (ci := 1) (hP.sub (ws' := (wS cI cZ (fun k => ad (k + 8)) HL9_1 LB9_1 SO9_1 NG9_1 WO9_1 A (2 ^ A))) [8, 9, 10, 11, 12, 13] rfl) hK rfl rfl) rfl rfl hl.1 rfl (lv_room (Nat.le_of_ble_eq_true rfl)) dX2_nogood_5 ⟨Nat.le_of_ble_eq_true rfl, Nat.le_of_ble_eq_true rfl⟩) ?_
  have hnth := nth_congr (q := x0) (ngK hA hsv_1)
  refine xu_i (wr := [(ad 0, .inr (2, [.ref (ad 1), .ref (ad 2), .ref (ad 3), .ref (ad 4), .ref (ad 8), .int (nI (N)), .int (nI (A)), .int (bI (true))])), (ad 1, .inl (cI, 24, .inl an)), (ad 2, .inl (cI, 9, .inl nd)), (ad 3, .inl (cI, 9, .inl wt)), (ad 4, .inr (0, [.ref (ad 5), .ref (ad 6), .ref (ad 7), .int (nI (R))])), (ad 5, .inl (cI, 40, .inl B)), (ad 6, .inl (cI, 40, .inl Hd)), (ad 7, .inl (cZ, 40, .inl (fun j => bI (O j)))), (ad 8, .inr (1, [.ref (ad 9), .ref (ad 10), .ref (ad 11), .ref (ad 12), .ref (ad 13), .int (nI (A)), .int (nI (2 ^ A))])), (ad 9, .inl (cI, 512, .inl HL9_1)), (ad 10, .inl (cI, 512, .inl LB9_1)), (ad 11, .inl (cZ, 512, .inl (fun j => bI (SO9_1 j)))), (ad 12, .inl (cZ, 512, .inl (fun j => bI (NG9_1 j)))), (ad 13, .inl (cZ, 512, .inl (fun j => bI (WO9_1 j))))]) (vx_runS (As := [.int (nth NG9_1 (2 ^ A) x0)]) (rest := []) ⟨hx, hb, hml, hown, hts⟩ (c_X2_requireFound l D cI cZ ad (nth NG9_1 (2 ^ A) x0)  hst (H).size) (cwS 1 hts gX2_nogood_X2_requireFound rfl rfl rfl (by decide +kernel) ⟨Nat.le_of_ble_eq_true rfl, Nat.le_of_ble_eq_true rfl⟩) (prx_S (hP.sub (ws' := ([] : va_W)) [] rfl) (hD.sub (ws' := ([] : va_W)) [] (by decide) rfl) hK hX hZ hS (va_free (wc := ([] : va_W)) hD hS hAp [] rfl)) rfl rfl hl.1 rfl (lv_room (Nat.le_of_ble_eq_true rfl)) dX2_nogood_8 ⟨Nat.le_of_ble_eq_true rfl, Nat.le_of_ble_eq_true rfl⟩) hP hD hS hAp [] [0, 1, 2, 3, 4, 5, 6, 7, 8, 9, 10, 11, 12, 13] rfl rfl (by decide) (by decide) (fun E_8 ce_8 q9_8 ux_8 H locs hxp_8 hP hD hS h7_8 h8_8 h9_8 => ?_) (fun r_8 u_8 H locs hq_8 hP hD hS => ?_)
  · skip
    have hP : va_P D vwCl (wK cI cZ ad N A true an nd wt B Hd O R HL9_1 LB9_1 SO9_1 NG9_1 WO9_1 A (2 ^ A)) H := hP
    have hD : va_D Ap (wK cI cZ ad N A true an nd wt B Hd O R HL9_1 LB9_1 SO9_1 NG9_1 WO9_1 A (2 ^ A)) := hD
    exact x_out (u := (true, HL9_1, LB9_1, SO9_1, NG9_1, WO9_1, A, 2 ^ A)) htab hlk h7_8 h8_8 h9_8 hS hP hD (Nat.le_of_ble_eq_true rfl) (Nat.le_of_ble_eq_true rfl) (⟨by obtain ⟨hE9, hc9⟩ := hxp_8; exact ⟨hE9, hnth.symm.trans hc9⟩, fun _ => hsv_1⟩)
  · skip
    obtain ⟨rfl, hok_8, -⟩ := hq_8
    have hP : va_P D vwCl (wK cI cZ ad N A true an nd wt B Hd O R HL9_1 LB9_1 SO9_1 NG9_1 WO9_1 A (2 ^ A)) H := hP
    have hD : va_D Ap (wK cI cZ ad N A true an nd wt B Hd O R HL9_1 LB9_1 SO9_1 NG9_1 WO9_1 A (2 ^ A)) := hD
    refine W.widen (k := 1) (n := 6) (by decide) (by decide) ?_
    exact vx_ret (mr_i (u := (true, HL9_1, LB9_1, SO9_1, NG9_1, WO9_1, A, 2 ^ A)) hx hb hrt hlk dX2_nogood_11 hS hP hD ⟨(hnth), (by rw [← hnth]; exact hok_8), (fun _ => hsv_1), trivial⟩)
set_option maxHeartbeats 4000000 in
set_option maxRecDepth 100000 in
theorem c_X2_world (l : Launch) (D : va_G) (cI cZ : ClassId) (ad : Nat → Nat) (N : Nat) (A : Nat) (fl : Bool) (an : Nat → Int32) (nd : Nat → Int32) (wt : Nat → Int32) (B : Nat → Int32) (Hd : Nat → Int32) (O : Nat → Bool) (R : Nat) (HL : Nat → Int32) (LB : Nat → Int32) (SO : Nat → Bool) (NG : Nat → Bool) (WO : Nat → Bool) (SA : Nat) (SE : Nat) (x0 : Int32) (hA : A ≤ 9) (hR : R ≤ 40) (hn : N ≤ 24) (hH : okH N Hd R) (hN : okN N nd A) (hsv : fl = true → svOK B Hd O R nd A HL LB SO NG WO SA SE) (hst : l.stackTraces = false) (sz : Nat) : vx_Met l yX2_world wsX2_world ({ frames := 7, cells := 1, slots := 6, locals := 138 }) (pcX D [(cI, .int), (cZ, .boolean)] sz (wK cI cZ ad N A fl an nd wt B Hd O R HL LB SO NG WO SA SE) [.ref (ad 0), .int (x0)]) (va_Qi (fun (r9 : Int32) (u9 : (Bool) × (Nat → Int32) × (Nat → Int32) × (Nat → Bool) × (Nat → Bool) × (Nat → Bool) × (Nat) × (Nat)) => (r9 = nth (fun e => woM A (soE B Hd O R nd A) e) (2 ^ A) x0) ∧ (¬ nth (fun e => woM A (soE B Hd O R nd A) e) (2 ^ A) x0 = -1) ∧ ((u9.1) = true → svOK B Hd O R nd A (u9.2.1) (u9.2.2.1) (u9.2.2.2.1) (u9.2.2.2.2.1) (u9.2.2.2.2.2.1) (u9.2.2.2.2.2.2.1) (u9.2.2.2.2.2.2.2)) ∧ (True)) (wB D (va_A (wK cI cZ ad N A fl an nd wt B Hd O R HL LB SO NG WO SA SE) sz) (fun u9 : (Bool) × (Nat → Int32) × (Nat → Int32) × (Nat → Bool) × (Nat → Bool) × (Nat → Bool) × (Nat) × (Nat) => (wK cI cZ ad N A (u9.1) an nd wt B Hd O R (u9.2.1) (u9.2.2.1) (u9.2.2.2.1) (u9.2.2.2.2.1) (u9.2.2.2.2.2.1) (u9.2.2.2.2.2.2.1) (u9.2.2.2.2.2.2.2)))) (va_A (wK cI cZ ad N A fl an nd wt B Hd O R HL LB SO NG WO SA SE) sz)) (xX D (va_A (wK cI cZ ad N A fl an nd wt B Hd O R HL LB SO NG WO SA SE) sz) (fun (E9 : String) (u9 : (Bool) × (Nat → Int32) × (Nat → Int32) × (Nat → Bool) × (Nat → Bool) × (Nat → Bool) × (Nat) × (Nat)) => (E9 = "java/lang/IndexOutOfBoundsException" ∧ (nth (fun e => woM A (soE B Hd O R nd A) e) (2 ^ A) x0 = -1)) ∧ ((u9.1) = true → svOK B Hd O R nd A (u9.2.1) (u9.2.2.1) (u9.2.2.2.1) (u9.2.2.2.2.1) (u9.2.2.2.2.2.1) (u9.2.2.2.2.2.2.1) (u9.2.2.2.2.2.2.2))) (fun u9 : (Bool) × (Nat → Int32) × (Nat → Int32) × (Nat → Bool) × (Nat → Bool) × (Nat → Bool) × (Nat) × (Nat) => (wK cI cZ ad N A (u9.1) an nd wt B Hd O R (u9.2.1) (u9.2.2.1) (u9.2.2.2.1) (u9.2.2.2.2.1) (u9.2.2.2.2.2.1) (u9.2.2.2.2.2.2.1) (u9.2.2.2.2.2.2.2)))) 1 6 (va_A (wK cI cZ ad N A fl an nd wt B Hd O R HL LB SO NG WO SA SE) sz) := by
  refine vx_ofW (cc := cX2_world) (maxL := 2) (ret := (some .int)) (by decide) rfl ?_
  intro p e s m args below meth c s₁ BB hml htab hv
  obtain ⟨rfl, hsz, hP, hK, hD0, hX, hZ⟩ := hv
  have hx := BB.exec
  have hb := BB.bytes
  have hrt := BB.returns
  have hts := atoms_spec (ws := wsX2_world) BB.pre
  have hown : s.vm.findClass RX2 = some m.cls := findClass_of_methodNamed BB.named
  have hlk := BB.notSynchronized
  subst hsz
  have hD := hD0.self (sz := s.heap.size)
  generalize hAe : va_A (wK cI cZ ad N A fl an nd wt B Hd O R HL LB SO NG WO SA SE) s.heap.size = Ap at hD hZ ⊢
  have hAp : ∀ q : Nat, s.heap.size ≤ q → Ap q := fun q h => by rw [← hAe]; exact Or.inr h
  have hS : va_S Ap s.heap s.heap [] := va_S.rf
  have hl := lv_entry ([.ref (ad 0), .int (x0)]) (n := 2) (Nat.le_of_ble_eq_true rfl)
  rw [lg_entry_eq]
  generalize (lg_sl ([.ref (ad 0), .int (x0)]) ++ List.replicate (2 - (lg_sl ([.ref (ad 0), .int (x0)])).length) Slot.unset).toArray = ls at hl ⊢
  have hl : lv_has ls 2 [(0, .ref (ad 0)), (1, .int (x0))] := hl
  have h512 : 2 ^ A ≤ 512 := pow9 hA
  have hpos : 0 < 2 ^ A := Nat.two_pow_pos A
  refine lv_aload_n hx hb dX2_world_0 rfl (lv_at hl 0 rfl) ?_
  refine mu_a (wr := []) (va_runV (As := []) (rest := []) ⟨hx, hb, hml, hown, hts⟩ (c_X2_surveyNow l D cI cZ ad (N) (A) (fl) (an) (nd) (wt) (B) (Hd) (O) (R) (HL) (LB) (SO) (NG) (WO) (SA) (SE) (by omega) (by omega) (hn) (hH) (hN) (hsv) (s.heap).size) (cwV 0 hts gX2_world_X2_surveyNow rfl rfl rfl (by decide +kernel) ⟨Nat.le_of_ble_eq_true rfl, Nat.le_of_ble_eq_true rfl⟩) (prw_V (q0 := 0) (ci := 2) (hP.sub (ws' := (wK cI cZ ad N A fl an nd wt B Hd O R HL LB SO NG WO SA SE)) [0, 1, 2, 3, 4, 5, 6, 7, 8, 9, 10, 11, 12, 13] rfl) (hD.sub (ws' := (wK cI cZ ad N A fl an nd wt B Hd O R HL LB SO NG WO SA SE)) [0, 1, 2, 3, 4, 5, 6, 7, 8, 9, 10, 11, 12, 13] (by decide) rfl) hK rfl rfl) rfl rfl hl.1 rfl (lv_room (Nat.le_of_ble_eq_true rfl)) dX2_world_1 ⟨Nat.le_of_ble_eq_true rfl, Nat.le_of_ble_eq_true rfl⟩) hP hD hS hAp [0, 1, 2, 3, 4, 5, 6, 7, 8, 9, 10, 11, 12, 13] [] rfl rfl (by decide) (by decide) (fun u_1 H locs hq_1 hP hD hS => ?_)
  obtain ⟨HL9_1, LB9_1, SO9_1, NG9_1, WO9_1⟩ := u_1
  obtain ⟨hsv_1, -⟩ := hq_1
  have hsv_1 : svOK B Hd O R nd A HL9_1 LB9_1 SO9_1 NG9_1 WO9_1 A (2 ^ A) := hsv_1
  have hP : va_P D vwCl (wK cI cZ ad N A true an nd wt B Hd O R HL9_1 LB9_1 SO9_1 NG9_1 WO9_1 A (2 ^ A)) H := hP
  have hD : va_D Ap (wK cI cZ ad N A true an nd wt B Hd O R HL9_1 LB9_1 SO9_1 NG9_1 WO9_1 A (2 ^ A)) := hD
  refine lv_iload_n hx hb dX2_world_4 rfl (lv_at hl 1 rfl) ?_
  refine pu_i (va_runV (As := [.int (x0)]) (rest := []) ⟨hx, hb, hml, hown, hts⟩ (c_X1_worldAt l D cI cZ (fun k => ad (k + 8)) (HL9_1) (LB9_1) (SO9_1) (NG9_1) (WO9_1) (A) (2 ^ A) (x0) (by omega)) (cwV 1 hts gX2_world_X1_worldAt rfl rfl rfl (by decide +kernel) ⟨Nat.le_of_ble_eq_true rfl, Nat.le_of_ble_eq_true rfl⟩) (pre_V (q0 := 0) (ci := 1) (hP.sub (ws' := (wS cI cZ (fun k => ad (k + 8)) HL9_1 LB9_1 SO9_1 NG9_1 WO9_1 A (2 ^ A))) [8, 9, 10, 11, 12, 13] rfl) hK rfl rfl) rfl rfl hl.1 rfl (lv_room (Nat.le_of_ble_eq_true rfl)) dX2_world_5 ⟨Nat.le_of_ble_eq_true rfl, Nat.le_of_ble_eq_true rfl⟩) ?_
  have hnth := nth_congr (q := x0) (woK hA hsv_1)
  refine xu_i (wr := [(ad 0, .inr (2, [.ref (ad 1), .ref (ad 2), .ref (ad 3), .ref (ad 4), .ref (ad 8), .int (nI (N)), .int (nI (A)), .int (bI (true))])), (ad 1, .inl (cI, 24, .inl an)), (ad 2, .inl (cI, 9, .inl nd)), (ad 3, .inl (cI, 9, .inl wt)), (ad 4, .inr (0, [.ref (ad 5), .ref (ad 6), .ref (ad 7), .int (nI (R))])), (ad 5, .inl (cI, 40, .inl B)), (ad 6, .inl (cI, 40, .inl Hd)), (ad 7, .inl (cZ, 40, .inl (fun j => bI (O j)))), (ad 8, .inr (1, [.ref (ad 9), .ref (ad 10), .ref (ad 11), .ref (ad 12), .ref (ad 13), .int (nI (A)), .int (nI (2 ^ A))])), (ad 9, .inl (cI, 512, .inl HL9_1)), (ad 10, .inl (cI, 512, .inl LB9_1)), (ad 11, .inl (cZ, 512, .inl (fun j => bI (SO9_1 j)))), (ad 12, .inl (cZ, 512, .inl (fun j => bI (NG9_1 j)))), (ad 13, .inl (cZ, 512, .inl (fun j => bI (WO9_1 j))))]) (vx_runS (As := [.int (nth WO9_1 (2 ^ A) x0)]) (rest := []) ⟨hx, hb, hml, hown, hts⟩ (c_X2_requireFound l D cI cZ ad (nth WO9_1 (2 ^ A) x0)  hst (H).size) (cwS 1 hts gX2_world_X2_requireFound rfl rfl rfl (by decide +kernel) ⟨Nat.le_of_ble_eq_true rfl, Nat.le_of_ble_eq_true rfl⟩) (prx_S (hP.sub (ws' := ([] : va_W)) [] rfl) (hD.sub (ws' := ([] : va_W)) [] (by decide) rfl) hK hX hZ hS (va_free (wc := ([] : va_W)) hD hS hAp [] rfl)) rfl rfl hl.1 rfl (lv_room (Nat.le_of_ble_eq_true rfl)) dX2_world_8 ⟨Nat.le_of_ble_eq_true rfl, Nat.le_of_ble_eq_true rfl⟩) hP hD hS hAp [] [0, 1, 2, 3, 4, 5, 6, 7, 8, 9, 10, 11, 12, 13] rfl rfl (by decide) (by decide) (fun E_8 ce_8 q9_8 ux_8 H locs hxp_8 hP hD hS h7_8 h8_8 h9_8 => ?_) (fun r_8 u_8 H locs hq_8 hP hD hS => ?_)
  · skip
    have hP : va_P D vwCl (wK cI cZ ad N A true an nd wt B Hd O R HL9_1 LB9_1 SO9_1 NG9_1 WO9_1 A (2 ^ A)) H := hP
    have hD : va_D Ap (wK cI cZ ad N A true an nd wt B Hd O R HL9_1 LB9_1 SO9_1 NG9_1 WO9_1 A (2 ^ A)) := hD
    exact x_out (u := (true, HL9_1, LB9_1, SO9_1, NG9_1, WO9_1, A, 2 ^ A)) htab hlk h7_8 h8_8 h9_8 hS hP hD (Nat.le_of_ble_eq_true rfl) (Nat.le_of_ble_eq_true rfl) (⟨by obtain ⟨hE9, hc9⟩ := hxp_8; exact ⟨hE9, hnth.symm.trans hc9⟩, fun _ => hsv_1⟩)
  · skip
    obtain ⟨rfl, hok_8, -⟩ := hq_8
    have hP : va_P D vwCl (wK cI cZ ad N A true an nd wt B Hd O R HL9_1 LB9_1 SO9_1 NG9_1 WO9_1 A (2 ^ A)) H := hP
    have hD : va_D Ap (wK cI cZ ad N A true an nd wt B Hd O R HL9_1 LB9_1 SO9_1 NG9_1 WO9_1 A (2 ^ A)) := hD
    refine W.widen (k := 1) (n := 6) (by decide) (by decide) ?_
    exact vx_ret (mr_i (u := (true, HL9_1, LB9_1, SO9_1, NG9_1, WO9_1, A, 2 ^ A)) hx hb hrt hlk dX2_world_11 hS hP hD ⟨(hnth), (by rw [← hnth]; exact hok_8), (fun _ => hsv_1), trivial⟩)
set_option maxHeartbeats 4000000 in
set_option maxRecDepth 100000 in
theorem c_X2_worldsWith (l : Launch) (D : va_G) (cI cZ : ClassId) (ad : Nat → Nat) (N : Nat) (A : Nat) (fl : Bool) (an : Nat → Int32) (nd : Nat → Int32) (wt : Nat → Int32) (B : Nat → Int32) (Hd : Nat → Int32) (O : Nat → Bool) (R : Nat) (HL : Nat → Int32) (LB : Nat → Int32) (SO : Nat → Bool) (NG : Nat → Bool) (WO : Nat → Bool) (SA : Nat) (SE : Nat) (x0 : Int32) (hA : A ≤ 9) (hR : R ≤ 40) (hn : N ≤ 24) (hH : okH N Hd R) (hN : okN N nd A) (hsv : fl = true → svOK B Hd O R nd A HL LB SO NG WO SA SE) (hst : l.stackTraces = false) (sz : Nat) : vx_Met l yX2_worldsWith wsX2_worldsWith ({ frames := 7, cells := 1, slots := 6, locals := 138 }) (pcX D [(cI, .int), (cZ, .boolean)] sz (wK cI cZ ad N A fl an nd wt B Hd O R HL LB SO NG WO SA SE) [.ref (ad 0), .int (x0)]) (va_Qi (fun (r9 : Int32) (u9 : (Bool) × (Nat → Int32) × (Nat → Int32) × (Nat → Bool) × (Nat → Bool) × (Nat → Bool) × (Nat) × (Nat)) => (r9 = nI (cnt (fun e => woM A (soE B Hd O R nd A) e && hs ((hdE B Hd O R nd A) e) x0) (2 ^ A))) ∧ (inR x0 N = true) ∧ ((u9.1) = true → svOK B Hd O R nd A (u9.2.1) (u9.2.2.1) (u9.2.2.2.1) (u9.2.2.2.2.1) (u9.2.2.2.2.2.1) (u9.2.2.2.2.2.2.1) (u9.2.2.2.2.2.2.2)) ∧ (True)) (wB D (va_A (wK cI cZ ad N A fl an nd wt B Hd O R HL LB SO NG WO SA SE) sz) (fun u9 : (Bool) × (Nat → Int32) × (Nat → Int32) × (Nat → Bool) × (Nat → Bool) × (Nat → Bool) × (Nat) × (Nat) => (wK cI cZ ad N A (u9.1) an nd wt B Hd O R (u9.2.1) (u9.2.2.1) (u9.2.2.2.1) (u9.2.2.2.2.1) (u9.2.2.2.2.2.1) (u9.2.2.2.2.2.2.1) (u9.2.2.2.2.2.2.2)))) (va_A (wK cI cZ ad N A fl an nd wt B Hd O R HL LB SO NG WO SA SE) sz)) (xX D (va_A (wK cI cZ ad N A fl an nd wt B Hd O R HL LB SO NG WO SA SE) sz) (fun (E9 : String) (u9 : (Bool) × (Nat → Int32) × (Nat → Int32) × (Nat → Bool) × (Nat → Bool) × (Nat → Bool) × (Nat) × (Nat)) => (E9 = "java/lang/IndexOutOfBoundsException" ∧ (inR x0 N = false)) ∧ ((u9.1) = true → svOK B Hd O R nd A (u9.2.1) (u9.2.2.1) (u9.2.2.2.1) (u9.2.2.2.2.1) (u9.2.2.2.2.2.1) (u9.2.2.2.2.2.2.1) (u9.2.2.2.2.2.2.2))) (fun u9 : (Bool) × (Nat → Int32) × (Nat → Int32) × (Nat → Bool) × (Nat → Bool) × (Nat → Bool) × (Nat) × (Nat) => (wK cI cZ ad N A (u9.1) an nd wt B Hd O R (u9.2.1) (u9.2.2.1) (u9.2.2.2.1) (u9.2.2.2.2.1) (u9.2.2.2.2.2.1) (u9.2.2.2.2.2.2.1) (u9.2.2.2.2.2.2.2)))) 1 6 (va_A (wK cI cZ ad N A fl an nd wt B Hd O R HL LB SO NG WO SA SE) sz) := by
  refine vx_ofW (cc := cX2_worldsWith) (maxL := 5) (ret := (some .int)) (by decide) rfl ?_
  intro p e s m args below meth c s₁ BB hml htab hv
  obtain ⟨rfl, hsz, hP, hK, hD0, hX, hZ⟩ := hv
  have hx := BB.exec
  have hb := BB.bytes
  have hrt := BB.returns
  have hts := atoms_spec (ws := wsX2_worldsWith) BB.pre
  have hown : s.vm.findClass RX2 = some m.cls := findClass_of_methodNamed BB.named
  have hlk := BB.notSynchronized
  subst hsz
  have hD := hD0.self (sz := s.heap.size)
  generalize hAe : va_A (wK cI cZ ad N A fl an nd wt B Hd O R HL LB SO NG WO SA SE) s.heap.size = Ap at hD hZ ⊢
  have hAp : ∀ q : Nat, s.heap.size ≤ q → Ap q := fun q h => by rw [← hAe]; exact Or.inr h
  have hS : va_S Ap s.heap s.heap [] := va_S.rf
  have hl := lv_entry ([.ref (ad 0), .int (x0)]) (n := 5) (Nat.le_of_ble_eq_true rfl)
  rw [lg_entry_eq]
  generalize (lg_sl ([.ref (ad 0), .int (x0)]) ++ List.replicate (5 - (lg_sl ([.ref (ad 0), .int (x0)])).length) Slot.unset).toArray = ls at hl ⊢
  have hl : lv_has ls 5 [(0, .ref (ad 0)), (1, .int (x0))] := hl
  have h512 : 2 ^ A ≤ 512 := pow9 hA
  have hpos : 0 < 2 ^ A := Nat.two_pow_pos A
  refine lv_aload_n hx hb dX2_worldsWith_0 rfl (lv_at hl 0 rfl) ?_
  refine lv_iload_n hx hb dX2_worldsWith_1 rfl (lv_at hl 1 rfl) ?_
  refine xu_v (wr := []) (vx_runV (As := [.int (x0)]) (rest := []) ⟨hx, hb, hml, hown, hts⟩ (c_X2_requireNode l D cI cZ ad (N) (A) (fl) (an) (nd) (wt) (B) (Hd) (O) (R) (HL) (LB) (SO) (NG) (WO) (SA) (SE) (x0)  hst (s.heap).size) (cwV 1 hts gX2_worldsWith_X2_requireNode rfl rfl rfl (by decide +kernel) ⟨Nat.le_of_ble_eq_true rfl, Nat.le_of_ble_eq_true rfl⟩) (prx_V (q0 := 0) (ci := 2) (hP.sub (ws' := (wK cI cZ ad N A fl an nd wt B Hd O R HL LB SO NG WO SA SE)) [0, 1, 2, 3, 4, 5, 6, 7, 8, 9, 10, 11, 12, 13] rfl) (hD.sub (ws' := (wK cI cZ ad N A fl an nd wt B Hd O R HL LB SO NG WO SA SE)) [0, 1, 2, 3, 4, 5, 6, 7, 8, 9, 10, 11, 12, 13] (by decide) rfl) hK hX hZ hS (va_free (wc := (wK cI cZ ad N A fl an nd wt B Hd O R HL LB SO NG WO SA SE)) hD hS hAp [0, 1, 2, 3, 4, 5, 6, 7, 8, 9, 10, 11, 12, 13] rfl) rfl rfl) rfl rfl hl.1 rfl (lv_room (Nat.le_of_ble_eq_true rfl)) dX2_worldsWith_2 ⟨Nat.le_of_ble_eq_true rfl, Nat.le_of_ble_eq_true rfl⟩) hP hD hS hAp [0, 1, 2, 3, 4, 5, 6, 7, 8, 9, 10, 11, 12, 13] [] rfl rfl (by decide) (by decide) (fun E_2 ce_2 q9_2 ux_2 H locs hxp_2 hP hD hS h7_2 h8_2 h9_2 => ?_) (fun u_2 H locs hq_2 hP hD hS => ?_)
  · skip
    have hP : va_P D vwCl (wK cI cZ ad N A fl an nd wt B Hd O R HL LB SO NG WO SA SE) H := hP
    have hD : va_D Ap (wK cI cZ ad N A fl an nd wt B Hd O R HL LB SO NG WO SA SE) := hD
    exact x_out (u := (fl, HL, LB, SO, NG, WO, SA, SE)) htab hlk h7_2 h8_2 h9_2 hS hP hD (Nat.le_of_ble_eq_true rfl) (Nat.le_of_ble_eq_true rfl) (⟨by obtain ⟨hE9, hc9⟩ := hxp_2; subst hE9; simp [hc9], hsv⟩)
  · skip
    obtain ⟨hok_2, -⟩ := hq_2
    have hP : va_P D vwCl (wK cI cZ ad N A fl an nd wt B Hd O R HL LB SO NG WO SA SE) H := hP
    have hD : va_D Ap (wK cI cZ ad N A fl an nd wt B Hd O R HL LB SO NG WO SA SE) := hD
    refine W.widen (k := 1) (n := 6) (by decide) (by decide) ?_
    refine lv_aload_n hx hb dX2_worldsWith_5 rfl (lv_at hl 0 rfl) ?_
    refine mu_a (wr := []) (va_runV (As := []) (rest := []) ⟨hx, hb, hml, hown, hts⟩ (c_X2_surveyNow l D cI cZ ad (N) (A) (fl) (an) (nd) (wt) (B) (Hd) (O) (R) (HL) (LB) (SO) (NG) (WO) (SA) (SE) (by omega) (by omega) (hn) (hH) (hN) (hsv) (H).size) (cwV 0 hts gX2_worldsWith_X2_surveyNow rfl rfl rfl (by decide +kernel) ⟨Nat.le_of_ble_eq_true rfl, Nat.le_of_ble_eq_true rfl⟩) (prw_V (q0 := 0) (ci := 2) (hP.sub (ws' := (wK cI cZ ad N A fl an nd wt B Hd O R HL LB SO NG WO SA SE)) [0, 1, 2, 3, 4, 5, 6, 7, 8, 9, 10, 11, 12, 13] rfl) (hD.sub (ws' := (wK cI cZ ad N A fl an nd wt B Hd O R HL LB SO NG WO SA SE)) [0, 1, 2, 3, 4, 5, 6, 7, 8, 9, 10, 11, 12, 13] (by decide) rfl) hK rfl rfl) rfl rfl hl.1 rfl (lv_room (Nat.le_of_ble_eq_true rfl)) dX2_worldsWith_6 ⟨Nat.le_of_ble_eq_true rfl, Nat.le_of_ble_eq_true rfl⟩) hP hD hS hAp [0, 1, 2, 3, 4, 5, 6, 7, 8, 9, 10, 11, 12, 13] [] rfl rfl (by decide) (by decide) (fun u_6 H locs hq_6 hP hD hS => ?_)
    obtain ⟨HL9_6, LB9_6, SO9_6, NG9_6, WO9_6⟩ := u_6
    obtain ⟨hsv_6, -⟩ := hq_6
    have hsv_6 : svOK B Hd O R nd A HL9_6 LB9_6 SO9_6 NG9_6 WO9_6 A (2 ^ A) := hsv_6
    have hP : va_P D vwCl (wK cI cZ ad N A true an nd wt B Hd O R HL9_6 LB9_6 SO9_6 NG9_6 WO9_6 A (2 ^ A)) H := hP
    have hD : va_D Ap (wK cI cZ ad N A true an nd wt B Hd O R HL9_6 LB9_6 SO9_6 NG9_6 WO9_6 A (2 ^ A)) := hD
    refine lv_astore_n (lv' := [(2, .ref (ad 8)), (0, .ref (ad 0)), (1, .int (x0))]) hx hb dX2_worldsWith_9 rfl hl (by decide) rfl (fun ls hl => ?_)
    refine lv_iconst (v := nI (0)) hx hb dX2_worldsWith_10 (by decide) ?_
    refine lv_istore_n (lv' := [(3, .int (nI (0))), (2, .ref (ad 8)), (0, .ref (ad 0)), (1, .int (x0))]) hx hb dX2_worldsWith_11 rfl hl (by decide) rfl (fun ls hl => ?_)
    refine lv_iconst (v := nI (0)) hx hb dX2_worldsWith_12 (by decide) ?_
    refine lv_istore (lv' := [(4, .int (nI (0))), (3, .int (nI (0))), (2, .ref (ad 8)), (0, .ref (ad 0)), (1, .int (x0))]) hx hb dX2_worldsWith_13 hl (by decide) rfl (fun ls hl => ?_)
    have lp_15 : ∀ (n15 i : Nat) (v3 : Int32) (v4 : Int32), i ≤ 2 ^ A → 2 ^ A + 1 ≤ i + n15 → v3 = nI (cnt (fun e => WO9_6 e && hs (HL9_6 e) x0) i) → v4 = nI (i) → ∀ ls : Array Slot, lv_has ls 5 [(2, .ref (ad 8)), (0, .ref (ad 0)), (1, .int (x0)), (3, .int (v3)), (4, .int (v4))] → W p l e (headSpec wsX2_worldsWith ({ frames := 7, cells := 1, slots := 6, locals := 138 })).room s m ([.ref (ad 0), .int (x0)]).toArray below meth c H locs 1 6 (vx_MQ below (va_Qi (fun (r9 : Int32) (u9 : (Bool) × (Nat → Int32) × (Nat → Int32) × (Nat → Bool) × (Nat → Bool) × (Nat → Bool) × (Nat) × (Nat)) => (r9 = nI (cnt (fun e => woM A (soE B Hd O R nd A) e && hs ((hdE B Hd O R nd A) e) x0) (2 ^ A))) ∧ (inR x0 N = true) ∧ ((u9.1) = true → svOK B Hd O R nd A (u9.2.1) (u9.2.2.1) (u9.2.2.2.1) (u9.2.2.2.2.1) (u9.2.2.2.2.2.1) (u9.2.2.2.2.2.2.1) (u9.2.2.2.2.2.2.2)) ∧ (True)) (wB D Ap (fun u9 : (Bool) × (Nat → Int32) × (Nat → Int32) × (Nat → Bool) × (Nat → Bool) × (Nat → Bool) × (Nat) × (Nat) => (wK cI cZ ad N A (u9.1) an nd wt B Hd O R (u9.2.1) (u9.2.2.1) (u9.2.2.2.1) (u9.2.2.2.2.1) (u9.2.2.2.2.2.1) (u9.2.2.2.2.2.2.1) (u9.2.2.2.2.2.2.2)))) Ap) (xX D Ap (fun (E9 : String) (u9 : (Bool) × (Nat → Int32) × (Nat → Int32) × (Nat → Bool) × (Nat → Bool) × (Nat → Bool) × (Nat) × (Nat)) => (E9 = "java/lang/IndexOutOfBoundsException" ∧ (inR x0 N = false)) ∧ ((u9.1) = true → svOK B Hd O R nd A (u9.2.1) (u9.2.2.1) (u9.2.2.2.1) (u9.2.2.2.2.1) (u9.2.2.2.2.2.1) (u9.2.2.2.2.2.2.1) (u9.2.2.2.2.2.2.2))) (fun u9 : (Bool) × (Nat → Int32) × (Nat → Int32) × (Nat → Bool) × (Nat → Bool) × (Nat → Bool) × (Nat) × (Nat) => (wK cI cZ ad N A (u9.1) an nd wt B Hd O R (u9.2.1) (u9.2.2.1) (u9.2.2.2.1) (u9.2.2.2.2.1) (u9.2.2.2.2.2.1) (u9.2.2.2.2.2.2.1) (u9.2.2.2.2.2.2.2)))) ([.ref (ad 0), .int (x0)]).toArray s 1 6 Ap) (F0 m 15 ls []) := by
      intro n15
      induction n15 with
      | zero => intro i v3 v4 h1 h2; exact absurd h2 (by omega)
      | succ n15 ih15 =>
        intro i v3 v4 hi15 hn15  e3 e4  ls hl
        subst e3 e4
        have hl : lv_has ls 5 [(2, .ref (ad 8)), (0, .ref (ad 0)), (1, .int (x0)), (3, .int (nI (cnt (fun e => WO9_6 e && hs (HL9_6 e) x0) i))), (4, .int (nI (i)))] := hl
        have hcl := cnt_le (fun e => WO9_6 e && hs (HL9_6 e) x0) i
        refine lv_iload hx hb dX2_worldsWith_15 (lv_at hl 4 rfl) ?_
        refine lv_aload_n hx hb dX2_worldsWith_17 rfl (lv_at hl 0 rfl) ?_
        refine pu_i (va_runV (As := []) (rest := [.int (nI (i))]) ⟨hx, hb, hml, hown, hts⟩ (c_X1_environmentCount l D cI cZ (fun k => ad (k + 8)) (HL9_6) (LB9_6) (SO9_6) (NG9_6) (WO9_6) (A) (2 ^ A) ) (cwV 0 hts gX2_worldsWith_X1_environmentCount rfl rfl rfl (by decide +kernel) ⟨Nat.le_of_ble_eq_true rfl, Nat.le_of_ble_eq_true rfl⟩) (pre_V (q0 := 0) (ci := 1) (hP.sub (ws' := (wS cI cZ (fun k => ad (k + 8)) HL9_6 LB9_6 SO9_6 NG9_6 WO9_6 A (2 ^ A))) [8, 9, 10, 11, 12, 13] rfl) hK rfl rfl) rfl rfl hl.1 rfl (lv_room (Nat.le_of_ble_eq_true rfl)) dX2_worldsWith_18 ⟨Nat.le_of_ble_eq_true rfl, Nat.le_of_ble_eq_true rfl⟩) ?_
        refine lv_icmp_ge (tgt := 52) hx hb dX2_worldsWith_21 (by decide) (fun c_21 => ?_) (fun c_21 => ?_)
        · skip
          have c_21 := (qI_le (a := (2 ^ A)) (b := i) (by omega) (by omega)).mp c_21
          refine lv_iload_n hx hb dX2_worldsWith_52 rfl (lv_at hl 3 rfl) ?_
          exact vx_ret (mr_i (u := (true, HL9_6, LB9_6, SO9_6, NG9_6, WO9_6, A, 2 ^ A)) hx hb hrt hlk dX2_worldsWith_53 hS hP hD ⟨(by have hi9 : i = 2 ^ A := (by omega); rw [hi9]; exact congrArg nI (cnt_congr (whK hA hsv_6))), (hok_2), (fun _ => hsv_6), trivial⟩)
        · skip
          have c_21 := mt (qI_le (a := (2 ^ A)) (b := i) (by omega) (by omega)).mpr c_21
          refine lv_aload_n hx hb dX2_worldsWith_24 rfl (lv_at hl 0 rfl) ?_
          refine lv_iload hx hb dX2_worldsWith_25 (lv_at hl 4 rfl) ?_
          refine pu_i (va_runV (As := [.int (nI (i))]) (rest := []) ⟨hx, hb, hml, hown, hts⟩ (c_X1_isWorld l D cI cZ (fun k => ad (k + 8)) (HL9_6) (LB9_6) (SO9_6) (NG9_6) (WO9_6) (A) (2 ^ A) (i) (by omega)) (cwV 1 hts gX2_worldsWith_X1_isWorld rfl rfl rfl (by decide +kernel) ⟨Nat.le_of_ble_eq_true rfl, Nat.le_of_ble_eq_true rfl⟩) (pre_V (q0 := 0) (ci := 1) (hP.sub (ws' := (wS cI cZ (fun k => ad (k + 8)) HL9_6 LB9_6 SO9_6 NG9_6 WO9_6 A (2 ^ A))) [8, 9, 10, 11, 12, 13] rfl) hK rfl rfl) rfl rfl hl.1 rfl (lv_room (Nat.le_of_ble_eq_true rfl)) dX2_worldsWith_27 ⟨Nat.le_of_ble_eq_true rfl, Nat.le_of_ble_eq_true rfl⟩) ?_
          refine lv_if_eq (tgt := 46) hx hb dX2_worldsWith_30 (by decide) (fun c_30 => ?_) (fun c_30 => ?_)
          · skip
            have c_30 := bI_eq0 c_30
            refine lv_iinc (v := nI (i + 1)) (lv' := [(4, .int (nI (i + 1))), (2, .ref (ad 8)), (0, .ref (ad 0)), (1, .int (x0)), (3, .int (nI (cnt (fun e => WO9_6 e && hs (HL9_6 e) x0) i)))]) hx hb dX2_worldsWith_46 hl (k := 4) rfl (nI_1 _) (by decide) rfl (fun ls hl => ?_)
            refine lv_goto (tgt := 15) hx hb dX2_worldsWith_49 (by decide) ?_
            exact ih15 (i + 1) _ _  (by omega) (by omega)  (by first | rfl | (simp [cnt, c_21, c_30]; done) | (simp only [cnt, c_21, c_30]; rfl) | (simp_all [cnt, c_21, c_30]; done)) (by first | rfl | (simp [cnt, c_21, c_30]; done) | (simp only [cnt, c_21, c_30]; rfl) | (simp_all [cnt, c_21, c_30]; done))  ls (lv_sub hl [1, 2, 3, 4, 0] rfl)
          · skip
            have c_30 := bI_ne0 c_30
            refine lv_aload_n hx hb dX2_worldsWith_33 rfl (lv_at hl 0 rfl) ?_
            refine lv_iload_n hx hb dX2_worldsWith_34 rfl (lv_at hl 2 rfl) ?_
            refine lv_iload hx hb dX2_worldsWith_35 (lv_at hl 4 rfl) ?_
            refine pu_i (va_runV (As := [.int (x0), .int (nI (i))]) (rest := []) ⟨hx, hb, hml, hown, hts⟩ (c_X1_isHeld l D cI cZ (fun k => ad (k + 8)) (HL9_6) (LB9_6) (SO9_6) (NG9_6) (WO9_6) (A) (2 ^ A) (x0) (i) (by omega)) (cwV 2 hts gX2_worldsWith_X1_isHeld rfl rfl rfl (by decide +kernel) ⟨Nat.le_of_ble_eq_true rfl, Nat.le_of_ble_eq_true rfl⟩) (pre_V (q0 := 0) (ci := 1) (hP.sub (ws' := (wS cI cZ (fun k => ad (k + 8)) HL9_6 LB9_6 SO9_6 NG9_6 WO9_6 A (2 ^ A))) [8, 9, 10, 11, 12, 13] rfl) hK rfl rfl) rfl rfl hl.1 rfl (lv_room (Nat.le_of_ble_eq_true rfl)) dX2_worldsWith_37 ⟨Nat.le_of_ble_eq_true rfl, Nat.le_of_ble_eq_true rfl⟩) ?_
            refine lv_if_eq (tgt := 46) hx hb dX2_worldsWith_40 (by decide) (fun c_40 => ?_) (fun c_40 => ?_)
            · skip
              have c_40 := bI_eq0 c_40
              refine lv_iinc (v := nI (i + 1)) (lv' := [(4, .int (nI (i + 1))), (2, .ref (ad 8)), (0, .ref (ad 0)), (1, .int (x0)), (3, .int (nI (cnt (fun e => WO9_6 e && hs (HL9_6 e) x0) i)))]) hx hb dX2_worldsWith_46 hl (k := 4) rfl (nI_1 _) (by decide) rfl (fun ls hl => ?_)
              refine lv_goto (tgt := 15) hx hb dX2_worldsWith_49 (by decide) ?_
              exact ih15 (i + 1) _ _  (by omega) (by omega)  (by first | rfl | (simp [cnt, c_21, c_30, c_40]; done) | (simp only [cnt, c_21, c_30, c_40]; rfl) | (simp_all [cnt, c_21, c_30, c_40]; done)) (by first | rfl | (simp [cnt, c_21, c_30, c_40]; done) | (simp only [cnt, c_21, c_30, c_40]; rfl) | (simp_all [cnt, c_21, c_30, c_40]; done))  ls (lv_sub hl [1, 2, 3, 4, 0] rfl)
            · skip
              have c_40 := bI_ne0 c_40
              refine lv_iinc (v := nI ((cnt (fun e => WO9_6 e && hs (HL9_6 e) x0) i) + 1)) (lv' := [(3, .int (nI ((cnt (fun e => WO9_6 e && hs (HL9_6 e) x0) i) + 1))), (2, .ref (ad 8)), (0, .ref (ad 0)), (1, .int (x0)), (4, .int (nI (i)))]) hx hb dX2_worldsWith_43 hl (k := 3) rfl (nI_1 _) (by decide) rfl (fun ls hl => ?_)
              refine lv_iinc (v := nI (i + 1)) (lv' := [(4, .int (nI (i + 1))), (3, .int (nI ((cnt (fun e => WO9_6 e && hs (HL9_6 e) x0) i) + 1))), (2, .ref (ad 8)), (0, .ref (ad 0)), (1, .int (x0))]) hx hb dX2_worldsWith_46 hl (k := 4) rfl (nI_1 _) (by decide) rfl (fun ls hl => ?_)
              refine lv_goto (tgt := 15) hx hb dX2_worldsWith_49 (by decide) ?_
              exact ih15 (i + 1) _ _  (by omega) (by omega)  (by first | rfl | (simp [cnt, c_21, c_30, c_40]; done) | (simp only [cnt, c_21, c_30, c_40]; rfl) | (simp_all [cnt, c_21, c_30, c_40]; done)) (by first | rfl | (simp [cnt, c_21, c_30, c_40]; done) | (simp only [cnt, c_21, c_30, c_40]; rfl) | (simp_all [cnt, c_21, c_30, c_40]; done))  ls (lv_sub hl [2, 3, 4, 1, 0] rfl)
    exact lp_15 (2 ^ A + 1) (0) _ _  (by omega) (by omega)  (by first | rfl | (simp [cnt]; done) | (simp only [cnt]; rfl) | (simp_all [cnt]; done)) (by first | rfl | (simp [cnt]; done) | (simp only [cnt]; rfl) | (simp_all [cnt]; done))  ls (lv_sub hl [2, 3, 4, 1, 0] rfl)
set_option maxHeartbeats 4000000 in
set_option maxRecDepth 100000 in
theorem c_X2_belief (l : Launch) (D : va_G) (cI cZ : ClassId) (ad : Nat → Nat) (N : Nat) (A : Nat) (fl : Bool) (an : Nat → Int32) (nd : Nat → Int32) (wt : Nat → Int32) (B : Nat → Int32) (Hd : Nat → Int32) (O : Nat → Bool) (R : Nat) (HL : Nat → Int32) (LB : Nat → Int32) (SO : Nat → Bool) (NG : Nat → Bool) (WO : Nat → Bool) (SA : Nat) (SE : Nat) (x0 : Int32) (hA : A ≤ 9) (hR : R ≤ 40) (hn : N ≤ 24) (hH : okH N Hd R) (hN : okN N nd A) (hsv : fl = true → svOK B Hd O R nd A HL LB SO NG WO SA SE) (hst : l.stackTraces = false) (sz : Nat) : vx_Met l yX2_belief wsX2_belief ({ frames := 7, cells := 1, slots := 6, locals := 138 }) (pcX D [(cI, .int), (cZ, .boolean)] sz (wK cI cZ ad N A fl an nd wt B Hd O R HL LB SO NG WO SA SE) [.ref (ad 0), .int (x0)]) (va_Qd (fun (r9 : UInt64) (u9 : (Bool) × (Nat → Int32) × (Nat → Int32) × (Nat → Bool) × (Nat → Bool) × (Nat → Bool) × (Nat) × (Nat)) => (r9 = blE (cnt (soE B Hd O R nd A) (2 ^ A)) (cnt (fun e => (soE B Hd O R nd A) e && hs ((hdE B Hd O R nd A) e) x0) (2 ^ A))) ∧ (inR x0 N = true) ∧ ((u9.1) = true → svOK B Hd O R nd A (u9.2.1) (u9.2.2.1) (u9.2.2.2.1) (u9.2.2.2.2.1) (u9.2.2.2.2.2.1) (u9.2.2.2.2.2.2.1) (u9.2.2.2.2.2.2.2)) ∧ (True)) (wB D (va_A (wK cI cZ ad N A fl an nd wt B Hd O R HL LB SO NG WO SA SE) sz) (fun u9 : (Bool) × (Nat → Int32) × (Nat → Int32) × (Nat → Bool) × (Nat → Bool) × (Nat → Bool) × (Nat) × (Nat) => (wK cI cZ ad N A (u9.1) an nd wt B Hd O R (u9.2.1) (u9.2.2.1) (u9.2.2.2.1) (u9.2.2.2.2.1) (u9.2.2.2.2.2.1) (u9.2.2.2.2.2.2.1) (u9.2.2.2.2.2.2.2)))) (va_A (wK cI cZ ad N A fl an nd wt B Hd O R HL LB SO NG WO SA SE) sz)) (xX D (va_A (wK cI cZ ad N A fl an nd wt B Hd O R HL LB SO NG WO SA SE) sz) (fun (E9 : String) (u9 : (Bool) × (Nat → Int32) × (Nat → Int32) × (Nat → Bool) × (Nat → Bool) × (Nat → Bool) × (Nat) × (Nat)) => (E9 = "java/lang/IndexOutOfBoundsException" ∧ (inR x0 N = false)) ∧ ((u9.1) = true → svOK B Hd O R nd A (u9.2.1) (u9.2.2.1) (u9.2.2.2.1) (u9.2.2.2.2.1) (u9.2.2.2.2.2.1) (u9.2.2.2.2.2.2.1) (u9.2.2.2.2.2.2.2))) (fun u9 : (Bool) × (Nat → Int32) × (Nat → Int32) × (Nat → Bool) × (Nat → Bool) × (Nat → Bool) × (Nat) × (Nat) => (wK cI cZ ad N A (u9.1) an nd wt B Hd O R (u9.2.1) (u9.2.2.1) (u9.2.2.2.1) (u9.2.2.2.2.1) (u9.2.2.2.2.2.1) (u9.2.2.2.2.2.2.1) (u9.2.2.2.2.2.2.2)))) 1 6 (va_A (wK cI cZ ad N A fl an nd wt B Hd O R HL LB SO NG WO SA SE) sz) := by
  refine vx_ofW (cc := cX2_belief) (maxL := 6) (ret := (some .double)) (by decide) rfl ?_
  intro p e s m args below meth c s₁ BB hml htab hv
  obtain ⟨rfl, hsz, hP, hK, hD0, hX, hZ⟩ := hv
  have hx := BB.exec
  have hb := BB.bytes
  have hrt := BB.returns
  have hts := atoms_spec (ws := wsX2_belief) BB.pre
  have hown : s.vm.findClass RX2 = some m.cls := findClass_of_methodNamed BB.named
  have hlk := BB.notSynchronized
  subst hsz
  have hD := hD0.self (sz := s.heap.size)
  generalize hAe : va_A (wK cI cZ ad N A fl an nd wt B Hd O R HL LB SO NG WO SA SE) s.heap.size = Ap at hD hZ ⊢
  have hAp : ∀ q : Nat, s.heap.size ≤ q → Ap q := fun q h => by rw [← hAe]; exact Or.inr h
  have hS : va_S Ap s.heap s.heap [] := va_S.rf
  have hl := lv_entry ([.ref (ad 0), .int (x0)]) (n := 6) (Nat.le_of_ble_eq_true rfl)
  rw [lg_entry_eq]
  generalize (lg_sl ([.ref (ad 0), .int (x0)]) ++ List.replicate (6 - (lg_sl ([.ref (ad 0), .int (x0)])).length) Slot.unset).toArray = ls at hl ⊢
  have hl : lv_has ls 6 [(0, .ref (ad 0)), (1, .int (x0))] := hl
  have h512 : 2 ^ A ≤ 512 := pow9 hA
  have hpos : 0 < 2 ^ A := Nat.two_pow_pos A
  refine lv_aload_n hx hb dX2_belief_0 rfl (lv_at hl 0 rfl) ?_
  refine lv_iload_n hx hb dX2_belief_1 rfl (lv_at hl 1 rfl) ?_
  refine xu_v (wr := []) (vx_runV (As := [.int (x0)]) (rest := []) ⟨hx, hb, hml, hown, hts⟩ (c_X2_requireNode l D cI cZ ad (N) (A) (fl) (an) (nd) (wt) (B) (Hd) (O) (R) (HL) (LB) (SO) (NG) (WO) (SA) (SE) (x0)  hst (s.heap).size) (cwV 1 hts gX2_belief_X2_requireNode rfl rfl rfl (by decide +kernel) ⟨Nat.le_of_ble_eq_true rfl, Nat.le_of_ble_eq_true rfl⟩) (prx_V (q0 := 0) (ci := 2) (hP.sub (ws' := (wK cI cZ ad N A fl an nd wt B Hd O R HL LB SO NG WO SA SE)) [0, 1, 2, 3, 4, 5, 6, 7, 8, 9, 10, 11, 12, 13] rfl) (hD.sub (ws' := (wK cI cZ ad N A fl an nd wt B Hd O R HL LB SO NG WO SA SE)) [0, 1, 2, 3, 4, 5, 6, 7, 8, 9, 10, 11, 12, 13] (by decide) rfl) hK hX hZ hS (va_free (wc := (wK cI cZ ad N A fl an nd wt B Hd O R HL LB SO NG WO SA SE)) hD hS hAp [0, 1, 2, 3, 4, 5, 6, 7, 8, 9, 10, 11, 12, 13] rfl) rfl rfl) rfl rfl hl.1 rfl (lv_room (Nat.le_of_ble_eq_true rfl)) dX2_belief_2 ⟨Nat.le_of_ble_eq_true rfl, Nat.le_of_ble_eq_true rfl⟩) hP hD hS hAp [0, 1, 2, 3, 4, 5, 6, 7, 8, 9, 10, 11, 12, 13] [] rfl rfl (by decide) (by decide) (fun E_2 ce_2 q9_2 ux_2 H locs hxp_2 hP hD hS h7_2 h8_2 h9_2 => ?_) (fun u_2 H locs hq_2 hP hD hS => ?_)
  · skip
    have hP : va_P D vwCl (wK cI cZ ad N A fl an nd wt B Hd O R HL LB SO NG WO SA SE) H := hP
    have hD : va_D Ap (wK cI cZ ad N A fl an nd wt B Hd O R HL LB SO NG WO SA SE) := hD
    exact x_out (u := (fl, HL, LB, SO, NG, WO, SA, SE)) htab hlk h7_2 h8_2 h9_2 hS hP hD (Nat.le_of_ble_eq_true rfl) (Nat.le_of_ble_eq_true rfl) (⟨by obtain ⟨hE9, hc9⟩ := hxp_2; subst hE9; simp [hc9], hsv⟩)
  · skip
    obtain ⟨hok_2, -⟩ := hq_2
    have hP : va_P D vwCl (wK cI cZ ad N A fl an nd wt B Hd O R HL LB SO NG WO SA SE) H := hP
    have hD : va_D Ap (wK cI cZ ad N A fl an nd wt B Hd O R HL LB SO NG WO SA SE) := hD
    refine W.widen (k := 1) (n := 6) (by decide) (by decide) ?_
    refine lv_aload_n hx hb dX2_belief_5 rfl (lv_at hl 0 rfl) ?_
    refine mu_a (wr := []) (va_runV (As := []) (rest := []) ⟨hx, hb, hml, hown, hts⟩ (c_X2_surveyNow l D cI cZ ad (N) (A) (fl) (an) (nd) (wt) (B) (Hd) (O) (R) (HL) (LB) (SO) (NG) (WO) (SA) (SE) (by omega) (by omega) (hn) (hH) (hN) (hsv) (H).size) (cwV 0 hts gX2_belief_X2_surveyNow rfl rfl rfl (by decide +kernel) ⟨Nat.le_of_ble_eq_true rfl, Nat.le_of_ble_eq_true rfl⟩) (prw_V (q0 := 0) (ci := 2) (hP.sub (ws' := (wK cI cZ ad N A fl an nd wt B Hd O R HL LB SO NG WO SA SE)) [0, 1, 2, 3, 4, 5, 6, 7, 8, 9, 10, 11, 12, 13] rfl) (hD.sub (ws' := (wK cI cZ ad N A fl an nd wt B Hd O R HL LB SO NG WO SA SE)) [0, 1, 2, 3, 4, 5, 6, 7, 8, 9, 10, 11, 12, 13] (by decide) rfl) hK rfl rfl) rfl rfl hl.1 rfl (lv_room (Nat.le_of_ble_eq_true rfl)) dX2_belief_6 ⟨Nat.le_of_ble_eq_true rfl, Nat.le_of_ble_eq_true rfl⟩) hP hD hS hAp [0, 1, 2, 3, 4, 5, 6, 7, 8, 9, 10, 11, 12, 13] [] rfl rfl (by decide) (by decide) (fun u_6 H locs hq_6 hP hD hS => ?_)
    obtain ⟨HL9_6, LB9_6, SO9_6, NG9_6, WO9_6⟩ := u_6
    obtain ⟨hsv_6, -⟩ := hq_6
    have hsv_6 : svOK B Hd O R nd A HL9_6 LB9_6 SO9_6 NG9_6 WO9_6 A (2 ^ A) := hsv_6
    have hP : va_P D vwCl (wK cI cZ ad N A true an nd wt B Hd O R HL9_6 LB9_6 SO9_6 NG9_6 WO9_6 A (2 ^ A)) H := hP
    have hD : va_D Ap (wK cI cZ ad N A true an nd wt B Hd O R HL9_6 LB9_6 SO9_6 NG9_6 WO9_6 A (2 ^ A)) := hD
    refine lv_astore_n (lv' := [(2, .ref (ad 8)), (0, .ref (ad 0)), (1, .int (x0))]) hx hb dX2_belief_9 rfl hl (by decide) rfl (fun ls hl => ?_)
    refine lv_iconst (v := nI (0)) hx hb dX2_belief_10 (by decide) ?_
    refine lv_istore_n (lv' := [(3, .int (nI (0))), (2, .ref (ad 8)), (0, .ref (ad 0)), (1, .int (x0))]) hx hb dX2_belief_11 rfl hl (by decide) rfl (fun ls hl => ?_)
    refine lv_iconst (v := nI (0)) hx hb dX2_belief_12 (by decide) ?_
    refine lv_istore (lv' := [(4, .int (nI (0))), (3, .int (nI (0))), (2, .ref (ad 8)), (0, .ref (ad 0)), (1, .int (x0))]) hx hb dX2_belief_13 hl (by decide) rfl (fun ls hl => ?_)
    refine lv_iconst (v := nI (0)) hx hb dX2_belief_15 (by decide) ?_
    refine lv_istore (lv' := [(5, .int (nI (0))), (4, .int (nI (0))), (3, .int (nI (0))), (2, .ref (ad 8)), (0, .ref (ad 0)), (1, .int (x0))]) hx hb dX2_belief_16 hl (by decide) rfl (fun ls hl => ?_)
    have lp_18 : ∀ (n18 i : Nat) (v3 : Int32) (v4 : Int32) (v5 : Int32), i ≤ 2 ^ A → 2 ^ A + 1 ≤ i + n18 → v3 = nI (cnt SO9_6 i) → v4 = nI (cnt (fun e => SO9_6 e && hs (HL9_6 e) x0) i) → v5 = nI (i) → ∀ ls : Array Slot, lv_has ls 6 [(2, .ref (ad 8)), (0, .ref (ad 0)), (1, .int (x0)), (3, .int (v3)), (4, .int (v4)), (5, .int (v5))] → W p l e (headSpec wsX2_belief ({ frames := 7, cells := 1, slots := 6, locals := 138 })).room s m ([.ref (ad 0), .int (x0)]).toArray below meth c H locs 1 6 (vx_MQ below (va_Qd (fun (r9 : UInt64) (u9 : (Bool) × (Nat → Int32) × (Nat → Int32) × (Nat → Bool) × (Nat → Bool) × (Nat → Bool) × (Nat) × (Nat)) => (r9 = blE (cnt (soE B Hd O R nd A) (2 ^ A)) (cnt (fun e => (soE B Hd O R nd A) e && hs ((hdE B Hd O R nd A) e) x0) (2 ^ A))) ∧ (inR x0 N = true) ∧ ((u9.1) = true → svOK B Hd O R nd A (u9.2.1) (u9.2.2.1) (u9.2.2.2.1) (u9.2.2.2.2.1) (u9.2.2.2.2.2.1) (u9.2.2.2.2.2.2.1) (u9.2.2.2.2.2.2.2)) ∧ (True)) (wB D Ap (fun u9 : (Bool) × (Nat → Int32) × (Nat → Int32) × (Nat → Bool) × (Nat → Bool) × (Nat → Bool) × (Nat) × (Nat) => (wK cI cZ ad N A (u9.1) an nd wt B Hd O R (u9.2.1) (u9.2.2.1) (u9.2.2.2.1) (u9.2.2.2.2.1) (u9.2.2.2.2.2.1) (u9.2.2.2.2.2.2.1) (u9.2.2.2.2.2.2.2)))) Ap) (xX D Ap (fun (E9 : String) (u9 : (Bool) × (Nat → Int32) × (Nat → Int32) × (Nat → Bool) × (Nat → Bool) × (Nat → Bool) × (Nat) × (Nat)) => (E9 = "java/lang/IndexOutOfBoundsException" ∧ (inR x0 N = false)) ∧ ((u9.1) = true → svOK B Hd O R nd A (u9.2.1) (u9.2.2.1) (u9.2.2.2.1) (u9.2.2.2.2.1) (u9.2.2.2.2.2.1) (u9.2.2.2.2.2.2.1) (u9.2.2.2.2.2.2.2))) (fun u9 : (Bool) × (Nat → Int32) × (Nat → Int32) × (Nat → Bool) × (Nat → Bool) × (Nat → Bool) × (Nat) × (Nat) => (wK cI cZ ad N A (u9.1) an nd wt B Hd O R (u9.2.1) (u9.2.2.1) (u9.2.2.2.1) (u9.2.2.2.2.1) (u9.2.2.2.2.2.1) (u9.2.2.2.2.2.2.1) (u9.2.2.2.2.2.2.2)))) ([.ref (ad 0), .int (x0)]).toArray s 1 6 Ap) (F0 m 18 ls []) := by
      intro n18
      induction n18 with
      | zero => intro i v3 v4 v5 h1 h2; exact absurd h2 (by omega)
      | succ n18 ih18 =>
        intro i v3 v4 v5 hi18 hn18  e3 e4 e5  ls hl
        subst e3 e4 e5
        have hl : lv_has ls 6 [(2, .ref (ad 8)), (0, .ref (ad 0)), (1, .int (x0)), (3, .int (nI (cnt SO9_6 i))), (4, .int (nI (cnt (fun e => SO9_6 e && hs (HL9_6 e) x0) i))), (5, .int (nI (i)))] := hl
        have hcl1 := cnt_le SO9_6 i
        have hcl2 := cnt_le (fun e => SO9_6 e && hs (HL9_6 e) x0) i
        refine lv_iload hx hb dX2_belief_18 (lv_at hl 5 rfl) ?_
        refine lv_aload_n hx hb dX2_belief_20 rfl (lv_at hl 0 rfl) ?_
        refine pu_i (va_runV (As := []) (rest := [.int (nI (i))]) ⟨hx, hb, hml, hown, hts⟩ (c_X1_environmentCount l D cI cZ (fun k => ad (k + 8)) (HL9_6) (LB9_6) (SO9_6) (NG9_6) (WO9_6) (A) (2 ^ A) ) (cwV 0 hts gX2_belief_X1_environmentCount rfl rfl rfl (by decide +kernel) ⟨Nat.le_of_ble_eq_true rfl, Nat.le_of_ble_eq_true rfl⟩) (pre_V (q0 := 0) (ci := 1) (hP.sub (ws' := (wS cI cZ (fun k => ad (k + 8)) HL9_6 LB9_6 SO9_6 NG9_6 WO9_6 A (2 ^ A))) [8, 9, 10, 11, 12, 13] rfl) hK rfl rfl) rfl rfl hl.1 rfl (lv_room (Nat.le_of_ble_eq_true rfl)) dX2_belief_21 ⟨Nat.le_of_ble_eq_true rfl, Nat.le_of_ble_eq_true rfl⟩) ?_
        refine lv_icmp_ge (tgt := 58) hx hb dX2_belief_24 (by decide) (fun c_24 => ?_) (fun c_24 => ?_)
        · skip
          have c_24 := (qI_le (a := (2 ^ A)) (b := i) (by omega) (by omega)).mp c_24
          refine lv_iload_n hx hb dX2_belief_58 rfl (lv_at hl 3 rfl) ?_
          refine lv_if_ne (tgt := 64) hx hb dX2_belief_59 (by decide) (fun c_59 => ?_) (fun c_59 => ?_)
          · skip
            have c_59 := q0_ne (a := cnt SO9_6 i) (by omega) c_59
            refine lv_iload hx hb dX2_belief_64 (lv_at hl 4 rfl) ?_
            refine lv_i2d hx hb dX2_belief_66 ?_
            refine lv_iload_n hx hb dX2_belief_67 rfl (lv_at hl 3 rfl) ?_
            refine lv_i2d hx hb dX2_belief_68 ?_
            refine lv_ddiv hx hb dX2_belief_69 (bl_ok (by omega) (by omega) c_59) ?_
            exact vx_ret (mr_d (u := (true, HL9_6, LB9_6, SO9_6, NG9_6, WO9_6, A, 2 ^ A)) hx hb hrt hlk dX2_belief_70 hS hP hD ⟨(by have hi9 : i = 2 ^ A := (by omega); rw [← cnt_congr (svS hsv_6), ← cnt_congr (shK (x := x0) hsv_6), ← hi9]; simp [blE, c_59]), (hok_2), (fun _ => hsv_6), trivial⟩)
          · skip
            have c_59 := q0_eq (a := cnt SO9_6 i) (by omega) c_59
            refine lv_dconst0 hx hb dX2_belief_62 ?_
            exact vx_ret (mr_d (u := (true, HL9_6, LB9_6, SO9_6, NG9_6, WO9_6, A, 2 ^ A)) hx hb hrt hlk dX2_belief_63 hS hP hD ⟨(by have hi9 : i = 2 ^ A := (by omega); rw [← cnt_congr (svS hsv_6), ← cnt_congr (shK (x := x0) hsv_6), ← hi9]; simp [blE, c_59]), (hok_2), (fun _ => hsv_6), trivial⟩)
        · skip
          have c_24 := mt (qI_le (a := (2 ^ A)) (b := i) (by omega) (by omega)).mpr c_24
          refine lv_aload_n hx hb dX2_belief_27 rfl (lv_at hl 0 rfl) ?_
          refine lv_iload hx hb dX2_belief_28 (lv_at hl 5 rfl) ?_
          refine pu_i (va_runV (As := [.int (nI (i))]) (rest := []) ⟨hx, hb, hml, hown, hts⟩ (c_X1_isSound l D cI cZ (fun k => ad (k + 8)) (HL9_6) (LB9_6) (SO9_6) (NG9_6) (WO9_6) (A) (2 ^ A) (i) (by omega)) (cwV 1 hts gX2_belief_X1_isSound rfl rfl rfl (by decide +kernel) ⟨Nat.le_of_ble_eq_true rfl, Nat.le_of_ble_eq_true rfl⟩) (pre_V (q0 := 0) (ci := 1) (hP.sub (ws' := (wS cI cZ (fun k => ad (k + 8)) HL9_6 LB9_6 SO9_6 NG9_6 WO9_6 A (2 ^ A))) [8, 9, 10, 11, 12, 13] rfl) hK rfl rfl) rfl rfl hl.1 rfl (lv_room (Nat.le_of_ble_eq_true rfl)) dX2_belief_30 ⟨Nat.le_of_ble_eq_true rfl, Nat.le_of_ble_eq_true rfl⟩) ?_
          refine lv_if_eq (tgt := 52) hx hb dX2_belief_33 (by decide) (fun c_33 => ?_) (fun c_33 => ?_)
          · skip
            have c_33 := bI_eq0 c_33
            refine lv_iinc (v := nI (i + 1)) (lv' := [(5, .int (nI (i + 1))), (2, .ref (ad 8)), (0, .ref (ad 0)), (1, .int (x0)), (3, .int (nI (cnt SO9_6 i))), (4, .int (nI (cnt (fun e => SO9_6 e && hs (HL9_6 e) x0) i)))]) hx hb dX2_belief_52 hl (k := 5) rfl (nI_1 _) (by decide) rfl (fun ls hl => ?_)
            refine lv_goto (tgt := 18) hx hb dX2_belief_55 (by decide) ?_
            exact ih18 (i + 1) _ _ _  (by omega) (by omega)  (by first | rfl | (simp [cnt, c_24, c_33]; done) | (simp only [cnt, c_24, c_33]; rfl) | (simp_all [cnt, c_24, c_33]; done)) (by first | rfl | (simp [cnt, c_24, c_33]; done) | (simp only [cnt, c_24, c_33]; rfl) | (simp_all [cnt, c_24, c_33]; done)) (by first | rfl | (simp [cnt, c_24, c_33]; done) | (simp only [cnt, c_24, c_33]; rfl) | (simp_all [cnt, c_24, c_33]; done))  ls (lv_sub hl [1, 2, 3, 4, 5, 0] rfl)
          · skip
            have c_33 := bI_ne0 c_33
            refine lv_iinc (v := nI ((cnt SO9_6 i) + 1)) (lv' := [(3, .int (nI ((cnt SO9_6 i) + 1))), (2, .ref (ad 8)), (0, .ref (ad 0)), (1, .int (x0)), (4, .int (nI (cnt (fun e => SO9_6 e && hs (HL9_6 e) x0) i))), (5, .int (nI (i)))]) hx hb dX2_belief_36 hl (k := 3) rfl (nI_1 _) (by decide) rfl (fun ls hl => ?_)
            refine lv_aload_n hx hb dX2_belief_39 rfl (lv_at hl 1 rfl) ?_
            refine lv_iload_n hx hb dX2_belief_40 rfl (lv_at hl 3 rfl) ?_
            refine lv_iload hx hb dX2_belief_41 (lv_at hl 5 rfl) ?_
            refine pu_i (va_runV (As := [.int (x0), .int (nI (i))]) (rest := []) ⟨hx, hb, hml, hown, hts⟩ (c_X1_isHeld l D cI cZ (fun k => ad (k + 8)) (HL9_6) (LB9_6) (SO9_6) (NG9_6) (WO9_6) (A) (2 ^ A) (x0) (i) (by omega)) (cwV 2 hts gX2_belief_X1_isHeld rfl rfl rfl (by decide +kernel) ⟨Nat.le_of_ble_eq_true rfl, Nat.le_of_ble_eq_true rfl⟩) (pre_V (q0 := 0) (ci := 1) (hP.sub (ws' := (wS cI cZ (fun k => ad (k + 8)) HL9_6 LB9_6 SO9_6 NG9_6 WO9_6 A (2 ^ A))) [8, 9, 10, 11, 12, 13] rfl) hK rfl rfl) rfl rfl hl.1 rfl (lv_room (Nat.le_of_ble_eq_true rfl)) dX2_belief_43 ⟨Nat.le_of_ble_eq_true rfl, Nat.le_of_ble_eq_true rfl⟩) ?_
            refine lv_if_eq (tgt := 52) hx hb dX2_belief_46 (by decide) (fun c_46 => ?_) (fun c_46 => ?_)
            · skip
              have c_46 := bI_eq0 c_46
              refine lv_iinc (v := nI (i + 1)) (lv' := [(5, .int (nI (i + 1))), (3, .int (nI ((cnt SO9_6 i) + 1))), (2, .ref (ad 8)), (0, .ref (ad 0)), (1, .int (x0)), (4, .int (nI (cnt (fun e => SO9_6 e && hs (HL9_6 e) x0) i)))]) hx hb dX2_belief_52 hl (k := 5) rfl (nI_1 _) (by decide) rfl (fun ls hl => ?_)
              refine lv_goto (tgt := 18) hx hb dX2_belief_55 (by decide) ?_
              exact ih18 (i + 1) _ _ _  (by omega) (by omega)  (by first | rfl | (simp [cnt, c_24, c_33, c_46]; done) | (simp only [cnt, c_24, c_33, c_46]; rfl) | (simp_all [cnt, c_24, c_33, c_46]; done)) (by first | rfl | (simp [cnt, c_24, c_33, c_46]; done) | (simp only [cnt, c_24, c_33, c_46]; rfl) | (simp_all [cnt, c_24, c_33, c_46]; done)) (by first | rfl | (simp [cnt, c_24, c_33, c_46]; done) | (simp only [cnt, c_24, c_33, c_46]; rfl) | (simp_all [cnt, c_24, c_33, c_46]; done))  ls (lv_sub hl [2, 3, 4, 1, 5, 0] rfl)
            · skip
              have c_46 := bI_ne0 c_46
              refine lv_iinc (v := nI ((cnt (fun e => SO9_6 e && hs (HL9_6 e) x0) i) + 1)) (lv' := [(4, .int (nI ((cnt (fun e => SO9_6 e && hs (HL9_6 e) x0) i) + 1))), (3, .int (nI ((cnt SO9_6 i) + 1))), (2, .ref (ad 8)), (0, .ref (ad 0)), (1, .int (x0)), (5, .int (nI (i)))]) hx hb dX2_belief_49 hl (k := 4) rfl (nI_1 _) (by decide) rfl (fun ls hl => ?_)
              refine lv_iinc (v := nI (i + 1)) (lv' := [(5, .int (nI (i + 1))), (4, .int (nI ((cnt (fun e => SO9_6 e && hs (HL9_6 e) x0) i) + 1))), (3, .int (nI ((cnt SO9_6 i) + 1))), (2, .ref (ad 8)), (0, .ref (ad 0)), (1, .int (x0))]) hx hb dX2_belief_52 hl (k := 5) rfl (nI_1 _) (by decide) rfl (fun ls hl => ?_)
              refine lv_goto (tgt := 18) hx hb dX2_belief_55 (by decide) ?_
              exact ih18 (i + 1) _ _ _  (by omega) (by omega)  (by first | rfl | (simp [cnt, c_24, c_33, c_46]; done) | (simp only [cnt, c_24, c_33, c_46]; rfl) | (simp_all [cnt, c_24, c_33, c_46]; done)) (by first | rfl | (simp [cnt, c_24, c_33, c_46]; done) | (simp only [cnt, c_24, c_33, c_46]; rfl) | (simp_all [cnt, c_24, c_33, c_46]; done)) (by first | rfl | (simp [cnt, c_24, c_33, c_46]; done) | (simp only [cnt, c_24, c_33, c_46]; rfl) | (simp_all [cnt, c_24, c_33, c_46]; done))  ls (lv_sub hl [3, 4, 5, 2, 1, 0] rfl)
    exact lp_18 (2 ^ A + 1) (0) _ _ _  (by omega) (by omega)  (by first | rfl | (simp [cnt]; done) | (simp only [cnt]; rfl) | (simp_all [cnt]; done)) (by first | rfl | (simp [cnt]; done) | (simp only [cnt]; rfl) | (simp_all [cnt]; done)) (by first | rfl | (simp [cnt]; done) | (simp only [cnt]; rfl) | (simp_all [cnt]; done))  ls (lv_sub hl [3, 4, 5, 2, 1, 0] rfl)
set_option maxHeartbeats 4000000 in
set_option maxRecDepth 100000 in
theorem c_X2_implies (l : Launch) (D : va_G) (cI cZ : ClassId) (ad : Nat → Nat) (N : Nat) (A : Nat) (fl : Bool) (an : Nat → Int32) (nd : Nat → Int32) (wt : Nat → Int32) (B : Nat → Int32) (Hd : Nat → Int32) (O : Nat → Bool) (R : Nat) (HL : Nat → Int32) (LB : Nat → Int32) (SO : Nat → Bool) (NG : Nat → Bool) (WO : Nat → Bool) (SA : Nat) (SE : Nat) (x0 : Int32) (y0 : Int32) (hA : A ≤ 9) (hR : R ≤ 40) (hn : N ≤ 24) (hH : okH N Hd R) (hN : okN N nd A) (hsv : fl = true → svOK B Hd O R nd A HL LB SO NG WO SA SE) (hst : l.stackTraces = false) (sz : Nat) : vx_Met l yX2_implies wsX2_implies ({ frames := 7, cells := 2, slots := 12, locals := 138 }) (pcX D [(cI, .int), (cZ, .boolean)] sz (wK cI cZ ad N A fl an nd wt B Hd O R HL LB SO NG WO SA SE) [.ref (ad 0), .int (x0), .int (y0)]) (va_Qi (fun (r9 : Int32) (u9 : (Bool) × (Nat → Int32) × (Nat → Int32) × (Nat → Bool) × (Nat → Bool) × (Nat → Bool) × (Nat) × (Nat)) => (r9 = bI (!(ex (fun e => (soE B Hd O R nd A) e && (hs ((hdE B Hd O R nd A) e) x0 && !(hs ((hdE B Hd O R nd A) e) y0))) (2 ^ A)))) ∧ (inR x0 N = true ∧ inR y0 N = true) ∧ ((u9.1) = true → svOK B Hd O R nd A (u9.2.1) (u9.2.2.1) (u9.2.2.2.1) (u9.2.2.2.2.1) (u9.2.2.2.2.2.1) (u9.2.2.2.2.2.2.1) (u9.2.2.2.2.2.2.2)) ∧ (True)) (wB D (va_A (wK cI cZ ad N A fl an nd wt B Hd O R HL LB SO NG WO SA SE) sz) (fun u9 : (Bool) × (Nat → Int32) × (Nat → Int32) × (Nat → Bool) × (Nat → Bool) × (Nat → Bool) × (Nat) × (Nat) => (wK cI cZ ad N A (u9.1) an nd wt B Hd O R (u9.2.1) (u9.2.2.1) (u9.2.2.2.1) (u9.2.2.2.2.1) (u9.2.2.2.2.2.1) (u9.2.2.2.2.2.2.1) (u9.2.2.2.2.2.2.2)))) (va_A (wK cI cZ ad N A fl an nd wt B Hd O R HL LB SO NG WO SA SE) sz)) (xX D (va_A (wK cI cZ ad N A fl an nd wt B Hd O R HL LB SO NG WO SA SE) sz) (fun (E9 : String) (u9 : (Bool) × (Nat → Int32) × (Nat → Int32) × (Nat → Bool) × (Nat → Bool) × (Nat → Bool) × (Nat) × (Nat)) => (E9 = "java/lang/IndexOutOfBoundsException" ∧ (inR x0 N = false ∨ (inR x0 N = true ∧ inR y0 N = false))) ∧ ((u9.1) = true → svOK B Hd O R nd A (u9.2.1) (u9.2.2.1) (u9.2.2.2.1) (u9.2.2.2.2.1) (u9.2.2.2.2.2.1) (u9.2.2.2.2.2.2.1) (u9.2.2.2.2.2.2.2))) (fun u9 : (Bool) × (Nat → Int32) × (Nat → Int32) × (Nat → Bool) × (Nat → Bool) × (Nat → Bool) × (Nat) × (Nat) => (wK cI cZ ad N A (u9.1) an nd wt B Hd O R (u9.2.1) (u9.2.2.1) (u9.2.2.2.1) (u9.2.2.2.2.1) (u9.2.2.2.2.2.1) (u9.2.2.2.2.2.2.1) (u9.2.2.2.2.2.2.2)))) 2 12 (va_A (wK cI cZ ad N A fl an nd wt B Hd O R HL LB SO NG WO SA SE) sz) := by
  refine vx_ofW (cc := cX2_implies) (maxL := 5) (ret := (some .boolean)) (by decide) rfl ?_
  intro p e s m args below meth c s₁ BB hml htab hv
  obtain ⟨rfl, hsz, hP, hK, hD0, hX, hZ⟩ := hv
  have hx := BB.exec
  have hb := BB.bytes
  have hrt := BB.returns
  have hts := atoms_spec (ws := wsX2_implies) BB.pre
  have hown : s.vm.findClass RX2 = some m.cls := findClass_of_methodNamed BB.named
  have hlk := BB.notSynchronized
  subst hsz
  have hD := hD0.self (sz := s.heap.size)
  generalize hAe : va_A (wK cI cZ ad N A fl an nd wt B Hd O R HL LB SO NG WO SA SE) s.heap.size = Ap at hD hZ ⊢
  have hAp : ∀ q : Nat, s.heap.size ≤ q → Ap q := fun q h => by rw [← hAe]; exact Or.inr h
  have hS : va_S Ap s.heap s.heap [] := va_S.rf
  have hl := lv_entry ([.ref (ad 0), .int (x0), .int (y0)]) (n := 5) (Nat.le_of_ble_eq_true rfl)
  rw [lg_entry_eq]
  generalize (lg_sl ([.ref (ad 0), .int (x0), .int (y0)]) ++ List.replicate (5 - (lg_sl ([.ref (ad 0), .int (x0), .int (y0)])).length) Slot.unset).toArray = ls at hl ⊢
  have hl : lv_has ls 5 [(0, .ref (ad 0)), (1, .int (x0)), (2, .int (y0))] := hl
  have h512 : 2 ^ A ≤ 512 := pow9 hA
  have hpos : 0 < 2 ^ A := Nat.two_pow_pos A
  refine lv_aload_n hx hb dX2_implies_0 rfl (lv_at hl 0 rfl) ?_
  refine lv_iload_n hx hb dX2_implies_1 rfl (lv_at hl 1 rfl) ?_
  refine xu_v (wr := []) (vx_runV (As := [.int (x0)]) (rest := []) ⟨hx, hb, hml, hown, hts⟩ (c_X2_requireNode l D cI cZ ad (N) (A) (fl) (an) (nd) (wt) (B) (Hd) (O) (R) (HL) (LB) (SO) (NG) (WO) (SA) (SE) (x0)  hst (s.heap).size) (cwV 1 hts gX2_implies_X2_requireNode rfl rfl rfl (by decide +kernel) ⟨Nat.le_of_ble_eq_true rfl, Nat.le_of_ble_eq_true rfl⟩) (prx_V (q0 := 0) (ci := 2) (hP.sub (ws' := (wK cI cZ ad N A fl an nd wt B Hd O R HL LB SO NG WO SA SE)) [0, 1, 2, 3, 4, 5, 6, 7, 8, 9, 10, 11, 12, 13] rfl) (hD.sub (ws' := (wK cI cZ ad N A fl an nd wt B Hd O R HL LB SO NG WO SA SE)) [0, 1, 2, 3, 4, 5, 6, 7, 8, 9, 10, 11, 12, 13] (by decide) rfl) hK hX hZ hS (va_free (wc := (wK cI cZ ad N A fl an nd wt B Hd O R HL LB SO NG WO SA SE)) hD hS hAp [0, 1, 2, 3, 4, 5, 6, 7, 8, 9, 10, 11, 12, 13] rfl) rfl rfl) rfl rfl hl.1 rfl (lv_room (Nat.le_of_ble_eq_true rfl)) dX2_implies_2 ⟨Nat.le_of_ble_eq_true rfl, Nat.le_of_ble_eq_true rfl⟩) hP hD hS hAp [0, 1, 2, 3, 4, 5, 6, 7, 8, 9, 10, 11, 12, 13] [] rfl rfl (by decide) (by decide) (fun E_2 ce_2 q9_2 ux_2 H locs hxp_2 hP hD hS h7_2 h8_2 h9_2 => ?_) (fun u_2 H locs hq_2 hP hD hS => ?_)
  · skip
    have hP : va_P D vwCl (wK cI cZ ad N A fl an nd wt B Hd O R HL LB SO NG WO SA SE) H := hP
    have hD : va_D Ap (wK cI cZ ad N A fl an nd wt B Hd O R HL LB SO NG WO SA SE) := hD
    exact x_out (u := (fl, HL, LB, SO, NG, WO, SA, SE)) htab hlk h7_2 h8_2 h9_2 hS hP hD (Nat.le_of_ble_eq_true rfl) (Nat.le_of_ble_eq_true rfl) (⟨by obtain ⟨hE9, hc9⟩ := hxp_2; exact ⟨hE9, Or.inl hc9⟩, hsv⟩)
  · skip
    obtain ⟨hok_2, -⟩ := hq_2
    have hP : va_P D vwCl (wK cI cZ ad N A fl an nd wt B Hd O R HL LB SO NG WO SA SE) H := hP
    have hD : va_D Ap (wK cI cZ ad N A fl an nd wt B Hd O R HL LB SO NG WO SA SE) := hD
    refine W.widen (k := 1) (n := 6) (by decide) (by decide) ?_
    refine lv_aload_n hx hb dX2_implies_5 rfl (lv_at hl 0 rfl) ?_
    refine lv_iload_n hx hb dX2_implies_6 rfl (lv_at hl 2 rfl) ?_
    refine xu_v (wr := []) (vx_runV (As := [.int (y0)]) (rest := []) ⟨hx, hb, hml, hown, hts⟩ (c_X2_requireNode l D cI cZ ad (N) (A) (fl) (an) (nd) (wt) (B) (Hd) (O) (R) (HL) (LB) (SO) (NG) (WO) (SA) (SE) (y0)  hst (H).size) (cwV 1 hts gX2_implies_X2_requireNode rfl rfl rfl (by decide +kernel) ⟨Nat.le_of_ble_eq_true rfl, Nat.le_of_ble_eq_true rfl⟩) (prx_V (q0 := 0) (ci := 2) (hP.sub (ws' := (wK cI cZ ad N A fl an nd wt B Hd O R HL LB SO NG WO SA SE)) [0, 1, 2, 3, 4, 5, 6, 7, 8, 9, 10, 11, 12, 13] rfl) (hD.sub (ws' := (wK cI cZ ad N A fl an nd wt B Hd O R HL LB SO NG WO SA SE)) [0, 1, 2, 3, 4, 5, 6, 7, 8, 9, 10, 11, 12, 13] (by decide) rfl) hK hX hZ hS (va_free (wc := (wK cI cZ ad N A fl an nd wt B Hd O R HL LB SO NG WO SA SE)) hD hS hAp [0, 1, 2, 3, 4, 5, 6, 7, 8, 9, 10, 11, 12, 13] rfl) rfl rfl) rfl rfl hl.1 rfl (lv_room (Nat.le_of_ble_eq_true rfl)) dX2_implies_7 ⟨Nat.le_of_ble_eq_true rfl, Nat.le_of_ble_eq_true rfl⟩) hP hD hS hAp [0, 1, 2, 3, 4, 5, 6, 7, 8, 9, 10, 11, 12, 13] [] rfl rfl (by decide) (by decide) (fun E_7 ce_7 q9_7 ux_7 H locs hxp_7 hP hD hS h7_7 h8_7 h9_7 => ?_) (fun u_7 H locs hq_7 hP hD hS => ?_)
    · skip
      have hP : va_P D vwCl (wK cI cZ ad N A fl an nd wt B Hd O R HL LB SO NG WO SA SE) H := hP
      have hD : va_D Ap (wK cI cZ ad N A fl an nd wt B Hd O R HL LB SO NG WO SA SE) := hD
      exact x_out (u := (fl, HL, LB, SO, NG, WO, SA, SE)) htab hlk h7_7 h8_7 h9_7 hS hP hD (Nat.le_of_ble_eq_true rfl) (Nat.le_of_ble_eq_true rfl) (⟨by obtain ⟨hE9, hc9⟩ := hxp_7; exact ⟨hE9, Or.inr ⟨hok_2, hc9⟩⟩, hsv⟩)
    · skip
      obtain ⟨hok_7, -⟩ := hq_7
      have hP : va_P D vwCl (wK cI cZ ad N A fl an nd wt B Hd O R HL LB SO NG WO SA SE) H := hP
      have hD : va_D Ap (wK cI cZ ad N A fl an nd wt B Hd O R HL LB SO NG WO SA SE) := hD
      refine W.widen (k := 2) (n := 12) (by decide) (by decide) ?_
      refine lv_aload_n hx hb dX2_implies_10 rfl (lv_at hl 0 rfl) ?_
      refine mu_a (wr := []) (va_runV (As := []) (rest := []) ⟨hx, hb, hml, hown, hts⟩ (c_X2_surveyNow l D cI cZ ad (N) (A) (fl) (an) (nd) (wt) (B) (Hd) (O) (R) (HL) (LB) (SO) (NG) (WO) (SA) (SE) (by omega) (by omega) (hn) (hH) (hN) (hsv) (H).size) (cwV 0 hts gX2_implies_X2_surveyNow rfl rfl rfl (by decide +kernel) ⟨Nat.le_of_ble_eq_true rfl, Nat.le_of_ble_eq_true rfl⟩) (prw_V (q0 := 0) (ci := 2) (hP.sub (ws' := (wK cI cZ ad N A fl an nd wt B Hd O R HL LB SO NG WO SA SE)) [0, 1, 2, 3, 4, 5, 6, 7, 8, 9, 10, 11, 12, 13] rfl) (hD.sub (ws' := (wK cI cZ ad N A fl an nd wt B Hd O R HL LB SO NG WO SA SE)) [0, 1, 2, 3, 4, 5, 6, 7, 8, 9, 10, 11, 12, 13] (by decide) rfl) hK rfl rfl) rfl rfl hl.1 rfl (lv_room (Nat.le_of_ble_eq_true rfl)) dX2_implies_11 ⟨Nat.le_of_ble_eq_true rfl, Nat.le_of_ble_eq_true rfl⟩) hP hD hS hAp [0, 1, 2, 3, 4, 5, 6, 7, 8, 9, 10, 11, 12, 13] [] rfl rfl (by decide) (by decide) (fun u_11 H locs hq_11 hP hD hS => ?_)
      obtain ⟨HL9_11, LB9_11, SO9_11, NG9_11, WO9_11⟩ := u_11
      obtain ⟨hsv_11, -⟩ := hq_11
      have hsv_11 : svOK B Hd O R nd A HL9_11 LB9_11 SO9_11 NG9_11 WO9_11 A (2 ^ A) := hsv_11
      have hP : va_P D vwCl (wK cI cZ ad N A true an nd wt B Hd O R HL9_11 LB9_11 SO9_11 NG9_11 WO9_11 A (2 ^ A)) H := hP
      have hD : va_D Ap (wK cI cZ ad N A true an nd wt B Hd O R HL9_11 LB9_11 SO9_11 NG9_11 WO9_11 A (2 ^ A)) := hD
      refine lv_astore_n (lv' := [(3, .ref (ad 8)), (0, .ref (ad 0)), (1, .int (x0)), (2, .int (y0))]) hx hb dX2_implies_14 rfl hl (by decide) rfl (fun ls hl => ?_)
      refine lv_iconst (v := nI (0)) hx hb dX2_implies_15 (by decide) ?_
      refine lv_istore (lv' := [(4, .int (nI (0))), (3, .ref (ad 8)), (0, .ref (ad 0)), (1, .int (x0)), (2, .int (y0))]) hx hb dX2_implies_16 hl (by decide) rfl (fun ls hl => ?_)
      have lp_18 : ∀ (n18 i : Nat) (v4 : Int32), i ≤ 2 ^ A → 2 ^ A + 1 ≤ i + n18 → (∀ j, j < i → (fun e => SO9_11 e && (hs (HL9_11 e) x0 && !(hs (HL9_11 e) y0))) j = false) → v4 = nI (i) → ∀ ls : Array Slot, lv_has ls 5 [(3, .ref (ad 8)), (0, .ref (ad 0)), (1, .int (x0)), (2, .int (y0)), (4, .int (v4))] → W p l e (headSpec wsX2_implies ({ frames := 7, cells := 2, slots := 12, locals := 138 })).room s m ([.ref (ad 0), .int (x0), .int (y0)]).toArray below meth c H locs 2 12 (vx_MQ below (va_Qi (fun (r9 : Int32) (u9 : (Bool) × (Nat → Int32) × (Nat → Int32) × (Nat → Bool) × (Nat → Bool) × (Nat → Bool) × (Nat) × (Nat)) => (r9 = bI (!(ex (fun e => (soE B Hd O R nd A) e && (hs ((hdE B Hd O R nd A) e) x0 && !(hs ((hdE B Hd O R nd A) e) y0))) (2 ^ A)))) ∧ (inR x0 N = true ∧ inR y0 N = true) ∧ ((u9.1) = true → svOK B Hd O R nd A (u9.2.1) (u9.2.2.1) (u9.2.2.2.1) (u9.2.2.2.2.1) (u9.2.2.2.2.2.1) (u9.2.2.2.2.2.2.1) (u9.2.2.2.2.2.2.2)) ∧ (True)) (wB D Ap (fun u9 : (Bool) × (Nat → Int32) × (Nat → Int32) × (Nat → Bool) × (Nat → Bool) × (Nat → Bool) × (Nat) × (Nat) => (wK cI cZ ad N A (u9.1) an nd wt B Hd O R (u9.2.1) (u9.2.2.1) (u9.2.2.2.1) (u9.2.2.2.2.1) (u9.2.2.2.2.2.1) (u9.2.2.2.2.2.2.1) (u9.2.2.2.2.2.2.2)))) Ap) (xX D Ap (fun (E9 : String) (u9 : (Bool) × (Nat → Int32) × (Nat → Int32) × (Nat → Bool) × (Nat → Bool) × (Nat → Bool) × (Nat) × (Nat)) => (E9 = "java/lang/IndexOutOfBoundsException" ∧ (inR x0 N = false ∨ (inR x0 N = true ∧ inR y0 N = false))) ∧ ((u9.1) = true → svOK B Hd O R nd A (u9.2.1) (u9.2.2.1) (u9.2.2.2.1) (u9.2.2.2.2.1) (u9.2.2.2.2.2.1) (u9.2.2.2.2.2.2.1) (u9.2.2.2.2.2.2.2))) (fun u9 : (Bool) × (Nat → Int32) × (Nat → Int32) × (Nat → Bool) × (Nat → Bool) × (Nat → Bool) × (Nat) × (Nat) => (wK cI cZ ad N A (u9.1) an nd wt B Hd O R (u9.2.1) (u9.2.2.1) (u9.2.2.2.1) (u9.2.2.2.2.1) (u9.2.2.2.2.2.1) (u9.2.2.2.2.2.2.1) (u9.2.2.2.2.2.2.2)))) ([.ref (ad 0), .int (x0), .int (y0)]).toArray s 2 12 Ap) (F0 m 18 ls []) := by
        intro n18
        induction n18 with
        | zero => intro i v4 h1 h2; exact absurd h2 (by omega)
        | succ n18 ih18 =>
          intro i v4 hi18 hn18 hno e4  ls hl
          subst e4
          have hl : lv_has ls 5 [(3, .ref (ad 8)), (0, .ref (ad 0)), (1, .int (x0)), (2, .int (y0)), (4, .int (nI (i)))] := hl
          refine lv_iload hx hb dX2_implies_18 (lv_at hl 4 rfl) ?_
          refine lv_aload_n hx hb dX2_implies_20 rfl (lv_at hl 0 rfl) ?_
          refine pu_i (va_runV (As := []) (rest := [.int (nI (i))]) ⟨hx, hb, hml, hown, hts⟩ (c_X1_environmentCount l D cI cZ (fun k => ad (k + 8)) (HL9_11) (LB9_11) (SO9_11) (NG9_11) (WO9_11) (A) (2 ^ A) ) (cwV 0 hts gX2_implies_X1_environmentCount rfl rfl rfl (by decide +kernel) ⟨Nat.le_of_ble_eq_true rfl, Nat.le_of_ble_eq_true rfl⟩) (pre_V (q0 := 0) (ci := 1) (hP.sub (ws' := (wS cI cZ (fun k => ad (k + 8)) HL9_11 LB9_11 SO9_11 NG9_11 WO9_11 A (2 ^ A))) [8, 9, 10, 11, 12, 13] rfl) hK rfl rfl) rfl rfl hl.1 rfl (lv_room (Nat.le_of_ble_eq_true rfl)) dX2_implies_21 ⟨Nat.le_of_ble_eq_true rfl, Nat.le_of_ble_eq_true rfl⟩) ?_
          refine lv_icmp_ge (tgt := 64) hx hb dX2_implies_24 (by decide) (fun c_24 => ?_) (fun c_24 => ?_)
          · skip
            have c_24 := (qI_le (a := (2 ^ A)) (b := i) (by omega) (by omega)).mp c_24
            refine lv_iconst (v := 1) hx hb dX2_implies_64 (by decide) ?_
            exact vx_ret (mr_z (v := true) (u := (true, HL9_11, LB9_11, SO9_11, NG9_11, WO9_11, A, 2 ^ A)) hx hb hrt hlk dX2_implies_65 hS hP hD ⟨(by have hi9 : i = 2 ^ A := (by omega); rw [← ex_congr (imK (x := x0) (y := y0) hsv_11), ex_no (hi9 ▸ hno)]; rfl), (⟨hok_2, hok_7⟩), (fun _ => hsv_11), trivial⟩)
          · skip
            have c_24 := mt (qI_le (a := (2 ^ A)) (b := i) (by omega) (by omega)).mpr c_24
            refine lv_aload_n hx hb dX2_implies_27 rfl (lv_at hl 0 rfl) ?_
            refine lv_iload hx hb dX2_implies_28 (lv_at hl 4 rfl) ?_
            refine pu_i (va_runV (As := [.int (nI (i))]) (rest := []) ⟨hx, hb, hml, hown, hts⟩ (c_X1_isSound l D cI cZ (fun k => ad (k + 8)) (HL9_11) (LB9_11) (SO9_11) (NG9_11) (WO9_11) (A) (2 ^ A) (i) (by omega)) (cwV 1 hts gX2_implies_X1_isSound rfl rfl rfl (by decide +kernel) ⟨Nat.le_of_ble_eq_true rfl, Nat.le_of_ble_eq_true rfl⟩) (pre_V (q0 := 0) (ci := 1) (hP.sub (ws' := (wS cI cZ (fun k => ad (k + 8)) HL9_11 LB9_11 SO9_11 NG9_11 WO9_11 A (2 ^ A))) [8, 9, 10, 11, 12, 13] rfl) hK rfl rfl) rfl rfl hl.1 rfl (lv_room (Nat.le_of_ble_eq_true rfl)) dX2_implies_30 ⟨Nat.le_of_ble_eq_true rfl, Nat.le_of_ble_eq_true rfl⟩) ?_
            refine lv_if_eq (tgt := 58) hx hb dX2_implies_33 (by decide) (fun c_33 => ?_) (fun c_33 => ?_)
            · skip
              have c_33 := bI_eq0 c_33
              refine lv_iinc (v := nI (i + 1)) (lv' := [(4, .int (nI (i + 1))), (3, .ref (ad 8)), (0, .ref (ad 0)), (1, .int (x0)), (2, .int (y0))]) hx hb dX2_implies_58 hl (k := 4) rfl (nI_1 _) (by decide) rfl (fun ls hl => ?_)
              refine lv_goto (tgt := 18) hx hb dX2_implies_61 (by decide) ?_
              exact ih18 (i + 1) _  (by omega) (by omega) (no_succ hno (by simp [c_24, c_33])) (by first | rfl | (simp [c_24, c_33]; done) | (simp only [c_24, c_33]; rfl) | (simp_all [c_24, c_33]; done))  ls (lv_sub hl [1, 2, 3, 4, 0] rfl)
            · skip
              have c_33 := bI_ne0 c_33
              refine lv_aload_n hx hb dX2_implies_36 rfl (lv_at hl 0 rfl) ?_
              refine lv_iload_n hx hb dX2_implies_37 rfl (lv_at hl 2 rfl) ?_
              refine lv_iload hx hb dX2_implies_38 (lv_at hl 4 rfl) ?_
              refine pu_i (va_runV (As := [.int (x0), .int (nI (i))]) (rest := []) ⟨hx, hb, hml, hown, hts⟩ (c_X1_isHeld l D cI cZ (fun k => ad (k + 8)) (HL9_11) (LB9_11) (SO9_11) (NG9_11) (WO9_11) (A) (2 ^ A) (x0) (i) (by omega)) (cwV 2 hts gX2_implies_X1_isHeld rfl rfl rfl (by decide +kernel) ⟨Nat.le_of_ble_eq_true rfl, Nat.le_of_ble_eq_true rfl⟩) (pre_V (q0 := 0) (ci := 1) (hP.sub (ws' := (wS cI cZ (fun k => ad (k + 8)) HL9_11 LB9_11 SO9_11 NG9_11 WO9_11 A (2 ^ A))) [8, 9, 10, 11, 12, 13] rfl) hK rfl rfl) rfl rfl hl.1 rfl (lv_room (Nat.le_of_ble_eq_true rfl)) dX2_implies_40 ⟨Nat.le_of_ble_eq_true rfl, Nat.le_of_ble_eq_true rfl⟩) ?_
              refine lv_if_eq (tgt := 58) hx hb dX2_implies_43 (by decide) (fun c_43 => ?_) (fun c_43 => ?_)
              · skip
                have c_43 := bI_eq0 c_43
                refine lv_iinc (v := nI (i + 1)) (lv' := [(4, .int (nI (i + 1))), (3, .ref (ad 8)), (0, .ref (ad 0)), (1, .int (x0)), (2, .int (y0))]) hx hb dX2_implies_58 hl (k := 4) rfl (nI_1 _) (by decide) rfl (fun ls hl => ?_)
                refine lv_goto (tgt := 18) hx hb dX2_implies_61 (by decide) ?_
                exact ih18 (i + 1) _  (by omega) (by omega) (no_succ hno (by simp [c_24, c_33, c_43])) (by first | rfl | (simp [c_24, c_33, c_43]; done) | (simp only [c_24, c_33, c_43]; rfl) | (simp_all [c_24, c_33, c_43]; done))  ls (lv_sub hl [1, 2, 3, 4, 0] rfl)
              · skip
                have c_43 := bI_ne0 c_43
                refine lv_aload_n hx hb dX2_implies_46 rfl (lv_at hl 0 rfl) ?_
                refine lv_iload_n hx hb dX2_implies_47 rfl (lv_at hl 3 rfl) ?_
                refine lv_iload hx hb dX2_implies_48 (lv_at hl 4 rfl) ?_
                refine pu_i (va_runV (As := [.int (y0), .int (nI (i))]) (rest := []) ⟨hx, hb, hml, hown, hts⟩ (c_X1_isHeld l D cI cZ (fun k => ad (k + 8)) (HL9_11) (LB9_11) (SO9_11) (NG9_11) (WO9_11) (A) (2 ^ A) (y0) (i) (by omega)) (cwV 2 hts gX2_implies_X1_isHeld rfl rfl rfl (by decide +kernel) ⟨Nat.le_of_ble_eq_true rfl, Nat.le_of_ble_eq_true rfl⟩) (pre_V (q0 := 0) (ci := 1) (hP.sub (ws' := (wS cI cZ (fun k => ad (k + 8)) HL9_11 LB9_11 SO9_11 NG9_11 WO9_11 A (2 ^ A))) [8, 9, 10, 11, 12, 13] rfl) hK rfl rfl) rfl rfl hl.1 rfl (lv_room (Nat.le_of_ble_eq_true rfl)) dX2_implies_50 ⟨Nat.le_of_ble_eq_true rfl, Nat.le_of_ble_eq_true rfl⟩) ?_
                refine lv_if_ne (tgt := 58) hx hb dX2_implies_53 (by decide) (fun c_53 => ?_) (fun c_53 => ?_)
                · skip
                  have c_53 := bI_ne0 c_53
                  refine lv_iinc (v := nI (i + 1)) (lv' := [(4, .int (nI (i + 1))), (3, .ref (ad 8)), (0, .ref (ad 0)), (1, .int (x0)), (2, .int (y0))]) hx hb dX2_implies_58 hl (k := 4) rfl (nI_1 _) (by decide) rfl (fun ls hl => ?_)
                  refine lv_goto (tgt := 18) hx hb dX2_implies_61 (by decide) ?_
                  exact ih18 (i + 1) _  (by omega) (by omega) (no_succ hno (by simp [c_24, c_33, c_43, c_53])) (by first | rfl | (simp [c_24, c_33, c_43, c_53]; done) | (simp only [c_24, c_33, c_43, c_53]; rfl) | (simp_all [c_24, c_33, c_43, c_53]; done))  ls (lv_sub hl [1, 2, 3, 4, 0] rfl)
                · skip
                  have c_53 := bI_eq0 c_53
                  refine lv_iconst (v := 0) hx hb dX2_implies_56 (by decide) ?_
                  exact vx_ret (mr_z (v := false) (u := (true, HL9_11, LB9_11, SO9_11, NG9_11, WO9_11, A, 2 ^ A)) hx hb hrt hlk dX2_implies_57 hS hP hD ⟨(by rw [← ex_congr (imK (x := x0) (y := y0) hsv_11), ex_at (i := i) (by omega) (by simp [c_33, c_43, c_53])]; rfl), (⟨hok_2, hok_7⟩), (fun _ => hsv_11), trivial⟩)
      exact lp_18 (2 ^ A + 1) (0) _  (by omega) (by omega) (fun j hj => absurd hj (Nat.not_lt_zero j)) (by first | rfl | (simp []; done) | (simp only []; rfl) | (simp_all []; done))  ls (lv_sub hl [1, 2, 3, 4, 0] rfl)
set_option maxHeartbeats 4000000 in
set_option maxRecDepth 100000 in
theorem c_X2_excludes (l : Launch) (D : va_G) (cI cZ : ClassId) (ad : Nat → Nat) (N : Nat) (A : Nat) (fl : Bool) (an : Nat → Int32) (nd : Nat → Int32) (wt : Nat → Int32) (B : Nat → Int32) (Hd : Nat → Int32) (O : Nat → Bool) (R : Nat) (HL : Nat → Int32) (LB : Nat → Int32) (SO : Nat → Bool) (NG : Nat → Bool) (WO : Nat → Bool) (SA : Nat) (SE : Nat) (x0 : Int32) (y0 : Int32) (hA : A ≤ 9) (hR : R ≤ 40) (hn : N ≤ 24) (hH : okH N Hd R) (hN : okN N nd A) (hsv : fl = true → svOK B Hd O R nd A HL LB SO NG WO SA SE) (hst : l.stackTraces = false) (sz : Nat) : vx_Met l yX2_excludes wsX2_excludes ({ frames := 7, cells := 2, slots := 12, locals := 138 }) (pcX D [(cI, .int), (cZ, .boolean)] sz (wK cI cZ ad N A fl an nd wt B Hd O R HL LB SO NG WO SA SE) [.ref (ad 0), .int (x0), .int (y0)]) (va_Qi (fun (r9 : Int32) (u9 : (Bool) × (Nat → Int32) × (Nat → Int32) × (Nat → Bool) × (Nat → Bool) × (Nat → Bool) × (Nat) × (Nat)) => (r9 = bI (!(ex (fun e => (soE B Hd O R nd A) e && (hs ((hdE B Hd O R nd A) e) x0 && hs ((hdE B Hd O R nd A) e) y0)) (2 ^ A)))) ∧ (inR x0 N = true ∧ inR y0 N = true) ∧ ((u9.1) = true → svOK B Hd O R nd A (u9.2.1) (u9.2.2.1) (u9.2.2.2.1) (u9.2.2.2.2.1) (u9.2.2.2.2.2.1) (u9.2.2.2.2.2.2.1) (u9.2.2.2.2.2.2.2)) ∧ (True)) (wB D (va_A (wK cI cZ ad N A fl an nd wt B Hd O R HL LB SO NG WO SA SE) sz) (fun u9 : (Bool) × (Nat → Int32) × (Nat → Int32) × (Nat → Bool) × (Nat → Bool) × (Nat → Bool) × (Nat) × (Nat) => (wK cI cZ ad N A (u9.1) an nd wt B Hd O R (u9.2.1) (u9.2.2.1) (u9.2.2.2.1) (u9.2.2.2.2.1) (u9.2.2.2.2.2.1) (u9.2.2.2.2.2.2.1) (u9.2.2.2.2.2.2.2)))) (va_A (wK cI cZ ad N A fl an nd wt B Hd O R HL LB SO NG WO SA SE) sz)) (xX D (va_A (wK cI cZ ad N A fl an nd wt B Hd O R HL LB SO NG WO SA SE) sz) (fun (E9 : String) (u9 : (Bool) × (Nat → Int32) × (Nat → Int32) × (Nat → Bool) × (Nat → Bool) × (Nat → Bool) × (Nat) × (Nat)) => (E9 = "java/lang/IndexOutOfBoundsException" ∧ (inR x0 N = false ∨ (inR x0 N = true ∧ inR y0 N = false))) ∧ ((u9.1) = true → svOK B Hd O R nd A (u9.2.1) (u9.2.2.1) (u9.2.2.2.1) (u9.2.2.2.2.1) (u9.2.2.2.2.2.1) (u9.2.2.2.2.2.2.1) (u9.2.2.2.2.2.2.2))) (fun u9 : (Bool) × (Nat → Int32) × (Nat → Int32) × (Nat → Bool) × (Nat → Bool) × (Nat → Bool) × (Nat) × (Nat) => (wK cI cZ ad N A (u9.1) an nd wt B Hd O R (u9.2.1) (u9.2.2.1) (u9.2.2.2.1) (u9.2.2.2.2.1) (u9.2.2.2.2.2.1) (u9.2.2.2.2.2.2.1) (u9.2.2.2.2.2.2.2)))) 2 12 (va_A (wK cI cZ ad N A fl an nd wt B Hd O R HL LB SO NG WO SA SE) sz) := by
  refine vx_ofW (cc := cX2_excludes) (maxL := 5) (ret := (some .boolean)) (by decide) rfl ?_
  intro p e s m args below meth c s₁ BB hml htab hv
  obtain ⟨rfl, hsz, hP, hK, hD0, hX, hZ⟩ := hv
  have hx := BB.exec
  have hb := BB.bytes
  have hrt := BB.returns
  have hts := atoms_spec (ws := wsX2_excludes) BB.pre
  have hown : s.vm.findClass RX2 = some m.cls := findClass_of_methodNamed BB.named
  have hlk := BB.notSynchronized
  subst hsz
  have hD := hD0.self (sz := s.heap.size)
  generalize hAe : va_A (wK cI cZ ad N A fl an nd wt B Hd O R HL LB SO NG WO SA SE) s.heap.size = Ap at hD hZ ⊢
  have hAp : ∀ q : Nat, s.heap.size ≤ q → Ap q := fun q h => by rw [← hAe]; exact Or.inr h
  have hS : va_S Ap s.heap s.heap [] := va_S.rf
  have hl := lv_entry ([.ref (ad 0), .int (x0), .int (y0)]) (n := 5) (Nat.le_of_ble_eq_true rfl)
  rw [lg_entry_eq]
  generalize (lg_sl ([.ref (ad 0), .int (x0), .int (y0)]) ++ List.replicate (5 - (lg_sl ([.ref (ad 0), .int (x0), .int (y0)])).length) Slot.unset).toArray = ls at hl ⊢
  have hl : lv_has ls 5 [(0, .ref (ad 0)), (1, .int (x0)), (2, .int (y0))] := hl
  have h512 : 2 ^ A ≤ 512 := pow9 hA
  have hpos : 0 < 2 ^ A := Nat.two_pow_pos A
  refine lv_aload_n hx hb dX2_excludes_0 rfl (lv_at hl 0 rfl) ?_
  refine lv_iload_n hx hb dX2_excludes_1 rfl (lv_at hl 1 rfl) ?_
  refine xu_v (wr := []) (vx_runV (As := [.int (x0)]) (rest := []) ⟨hx, hb, hml, hown, hts⟩ (c_X2_requireNode l D cI cZ ad (N) (A) (fl) (an) (nd) (wt) (B) (Hd) (O) (R) (HL) (LB) (SO) (NG) (WO) (SA) (SE) (x0)  hst (s.heap).size) (cwV 1 hts gX2_excludes_X2_requireNode rfl rfl rfl (by decide +kernel) ⟨Nat.le_of_ble_eq_true rfl, Nat.le_of_ble_eq_true rfl⟩) (prx_V (q0 := 0) (ci := 2) (hP.sub (ws' := (wK cI cZ ad N A fl an nd wt B Hd O R HL LB SO NG WO SA SE)) [0, 1, 2, 3, 4, 5, 6, 7, 8, 9, 10, 11, 12, 13] rfl) (hD.sub (ws' := (wK cI cZ ad N A fl an nd wt B Hd O R HL LB SO NG WO SA SE)) [0, 1, 2, 3, 4, 5, 6, 7, 8, 9, 10, 11, 12, 13] (by decide) rfl) hK hX hZ hS (va_free (wc := (wK cI cZ ad N A fl an nd wt B Hd O R HL LB SO NG WO SA SE)) hD hS hAp [0, 1, 2, 3, 4, 5, 6, 7, 8, 9, 10, 11, 12, 13] rfl) rfl rfl) rfl rfl hl.1 rfl (lv_room (Nat.le_of_ble_eq_true rfl)) dX2_excludes_2 ⟨Nat.le_of_ble_eq_true rfl, Nat.le_of_ble_eq_true rfl⟩) hP hD hS hAp [0, 1, 2, 3, 4, 5, 6, 7, 8, 9, 10, 11, 12, 13] [] rfl rfl (by decide) (by decide) (fun E_2 ce_2 q9_2 ux_2 H locs hxp_2 hP hD hS h7_2 h8_2 h9_2 => ?_) (fun u_2 H locs hq_2 hP hD hS => ?_)
  · skip
    have hP : va_P D vwCl (wK cI cZ ad N A fl an nd wt B Hd O R HL LB SO NG WO SA SE) H := hP
    have hD : va_D Ap (wK cI cZ ad N A fl an nd wt B Hd O R HL LB SO NG WO SA SE) := hD
    exact x_out (u := (fl, HL, LB, SO, NG, WO, SA, SE)) htab hlk h7_2 h8_2 h9_2 hS hP hD (Nat.le_of_ble_eq_true rfl) (Nat.le_of_ble_eq_true rfl) (⟨by obtain ⟨hE9, hc9⟩ := hxp_2; exact ⟨hE9, Or.inl hc9⟩, hsv⟩)
  · skip
    obtain ⟨hok_2, -⟩ := hq_2
    have hP : va_P D vwCl (wK cI cZ ad N A fl an nd wt B Hd O R HL LB SO NG WO SA SE) H := hP
    have hD : va_D Ap (wK cI cZ ad N A fl an nd wt B Hd O R HL LB SO NG WO SA SE) := hD
    refine W.widen (k := 1) (n := 6) (by decide) (by decide) ?_
    refine lv_aload_n hx hb dX2_excludes_5 rfl (lv_at hl 0 rfl) ?_
    refine lv_iload_n hx hb dX2_excludes_6 rfl (lv_at hl 2 rfl) ?_
    refine xu_v (wr := []) (vx_runV (As := [.int (y0)]) (rest := []) ⟨hx, hb, hml, hown, hts⟩ (c_X2_requireNode l D cI cZ ad (N) (A) (fl) (an) (nd) (wt) (B) (Hd) (O) (R) (HL) (LB) (SO) (NG) (WO) (SA) (SE) (y0)  hst (H).size) (cwV 1 hts gX2_excludes_X2_requireNode rfl rfl rfl (by decide +kernel) ⟨Nat.le_of_ble_eq_true rfl, Nat.le_of_ble_eq_true rfl⟩) (prx_V (q0 := 0) (ci := 2) (hP.sub (ws' := (wK cI cZ ad N A fl an nd wt B Hd O R HL LB SO NG WO SA SE)) [0, 1, 2, 3, 4, 5, 6, 7, 8, 9, 10, 11, 12, 13] rfl) (hD.sub (ws' := (wK cI cZ ad N A fl an nd wt B Hd O R HL LB SO NG WO SA SE)) [0, 1, 2, 3, 4, 5, 6, 7, 8, 9, 10, 11, 12, 13] (by decide) rfl) hK hX hZ hS (va_free (wc := (wK cI cZ ad N A fl an nd wt B Hd O R HL LB SO NG WO SA SE)) hD hS hAp [0, 1, 2, 3, 4, 5, 6, 7, 8, 9, 10, 11, 12, 13] rfl) rfl rfl) rfl rfl hl.1 rfl (lv_room (Nat.le_of_ble_eq_true rfl)) dX2_excludes_7 ⟨Nat.le_of_ble_eq_true rfl, Nat.le_of_ble_eq_true rfl⟩) hP hD hS hAp [0, 1, 2, 3, 4, 5, 6, 7, 8, 9, 10, 11, 12, 13] [] rfl rfl (by decide) (by decide) (fun E_7 ce_7 q9_7 ux_7 H locs hxp_7 hP hD hS h7_7 h8_7 h9_7 => ?_) (fun u_7 H locs hq_7 hP hD hS => ?_)
    · skip
      have hP : va_P D vwCl (wK cI cZ ad N A fl an nd wt B Hd O R HL LB SO NG WO SA SE) H := hP
      have hD : va_D Ap (wK cI cZ ad N A fl an nd wt B Hd O R HL LB SO NG WO SA SE) := hD
      exact x_out (u := (fl, HL, LB, SO, NG, WO, SA, SE)) htab hlk h7_7 h8_7 h9_7 hS hP hD (Nat.le_of_ble_eq_true rfl) (Nat.le_of_ble_eq_true rfl) (⟨by obtain ⟨hE9, hc9⟩ := hxp_7; exact ⟨hE9, Or.inr ⟨hok_2, hc9⟩⟩, hsv⟩)
    · skip
      obtain ⟨hok_7, -⟩ := hq_7
      have hP : va_P D vwCl (wK cI cZ ad N A fl an nd wt B Hd O R HL LB SO NG WO SA SE) H := hP
      have hD : va_D Ap (wK cI cZ ad N A fl an nd wt B Hd O R HL LB SO NG WO SA SE) := hD
      refine W.widen (k := 2) (n := 12) (by decide) (by decide) ?_
      refine lv_aload_n hx hb dX2_excludes_10 rfl (lv_at hl 0 rfl) ?_
      refine mu_a (wr := []) (va_runV (As := []) (rest := []) ⟨hx, hb, hml, hown, hts⟩ (c_X2_surveyNow l D cI cZ ad (N) (A) (fl) (an) (nd) (wt) (B) (Hd) (O) (R) (HL) (LB) (SO) (NG) (WO) (SA) (SE) (by omega) (by omega) (hn) (hH) (hN) (hsv) (H).size) (cwV 0 hts gX2_excludes_X2_surveyNow rfl rfl rfl (by decide +kernel) ⟨Nat.le_of_ble_eq_true rfl, Nat.le_of_ble_eq_true rfl⟩) (prw_V (q0 := 0) (ci := 2) (hP.sub (ws' := (wK cI cZ ad N A fl an nd wt B Hd O R HL LB SO NG WO SA SE)) [0, 1, 2, 3, 4, 5, 6, 7, 8, 9, 10, 11, 12, 13] rfl) (hD.sub (ws' := (wK cI cZ ad N A fl an nd wt B Hd O R HL LB SO NG WO SA SE)) [0, 1, 2, 3, 4, 5, 6, 7, 8, 9, 10, 11, 12, 13] (by decide) rfl) hK rfl rfl) rfl rfl hl.1 rfl (lv_room (Nat.le_of_ble_eq_true rfl)) dX2_excludes_11 ⟨Nat.le_of_ble_eq_true rfl, Nat.le_of_ble_eq_true rfl⟩) hP hD hS hAp [0, 1, 2, 3, 4, 5, 6, 7, 8, 9, 10, 11, 12, 13] [] rfl rfl (by decide) (by decide) (fun u_11 H locs hq_11 hP hD hS => ?_)
      obtain ⟨HL9_11, LB9_11, SO9_11, NG9_11, WO9_11⟩ := u_11
      obtain ⟨hsv_11, -⟩ := hq_11
      have hsv_11 : svOK B Hd O R nd A HL9_11 LB9_11 SO9_11 NG9_11 WO9_11 A (2 ^ A) := hsv_11
      have hP : va_P D vwCl (wK cI cZ ad N A true an nd wt B Hd O R HL9_11 LB9_11 SO9_11 NG9_11 WO9_11 A (2 ^ A)) H := hP
      have hD : va_D Ap (wK cI cZ ad N A true an nd wt B Hd O R HL9_11 LB9_11 SO9_11 NG9_11 WO9_11 A (2 ^ A)) := hD
      refine lv_astore_n (lv' := [(3, .ref (ad 8)), (0, .ref (ad 0)), (1, .int (x0)), (2, .int (y0))]) hx hb dX2_excludes_14 rfl hl (by decide) rfl (fun ls hl => ?_)
      refine lv_iconst (v := nI (0)) hx hb dX2_excludes_15 (by decide) ?_
      refine lv_istore (lv' := [(4, .int (nI (0))), (3, .ref (ad 8)), (0, .ref (ad 0)), (1, .int (x0)), (2, .int (y0))]) hx hb dX2_excludes_16 hl (by decide) rfl (fun ls hl => ?_)
      have lp_18 : ∀ (n18 i : Nat) (v4 : Int32), i ≤ 2 ^ A → 2 ^ A + 1 ≤ i + n18 → (∀ j, j < i → (fun e => SO9_11 e && (hs (HL9_11 e) x0 && hs (HL9_11 e) y0)) j = false) → v4 = nI (i) → ∀ ls : Array Slot, lv_has ls 5 [(3, .ref (ad 8)), (0, .ref (ad 0)), (1, .int (x0)), (2, .int (y0)), (4, .int (v4))] → W p l e (headSpec wsX2_excludes ({ frames := 7, cells := 2, slots := 12, locals := 138 })).room s m ([.ref (ad 0), .int (x0), .int (y0)]).toArray below meth c H locs 2 12 (vx_MQ below (va_Qi (fun (r9 : Int32) (u9 : (Bool) × (Nat → Int32) × (Nat → Int32) × (Nat → Bool) × (Nat → Bool) × (Nat → Bool) × (Nat) × (Nat)) => (r9 = bI (!(ex (fun e => (soE B Hd O R nd A) e && (hs ((hdE B Hd O R nd A) e) x0 && hs ((hdE B Hd O R nd A) e) y0)) (2 ^ A)))) ∧ (inR x0 N = true ∧ inR y0 N = true) ∧ ((u9.1) = true → svOK B Hd O R nd A (u9.2.1) (u9.2.2.1) (u9.2.2.2.1) (u9.2.2.2.2.1) (u9.2.2.2.2.2.1) (u9.2.2.2.2.2.2.1) (u9.2.2.2.2.2.2.2)) ∧ (True)) (wB D Ap (fun u9 : (Bool) × (Nat → Int32) × (Nat → Int32) × (Nat → Bool) × (Nat → Bool) × (Nat → Bool) × (Nat) × (Nat) => (wK cI cZ ad N A (u9.1) an nd wt B Hd O R (u9.2.1) (u9.2.2.1) (u9.2.2.2.1) (u9.2.2.2.2.1) (u9.2.2.2.2.2.1) (u9.2.2.2.2.2.2.1) (u9.2.2.2.2.2.2.2)))) Ap) (xX D Ap (fun (E9 : String) (u9 : (Bool) × (Nat → Int32) × (Nat → Int32) × (Nat → Bool) × (Nat → Bool) × (Nat → Bool) × (Nat) × (Nat)) => (E9 = "java/lang/IndexOutOfBoundsException" ∧ (inR x0 N = false ∨ (inR x0 N = true ∧ inR y0 N = false))) ∧ ((u9.1) = true → svOK B Hd O R nd A (u9.2.1) (u9.2.2.1) (u9.2.2.2.1) (u9.2.2.2.2.1) (u9.2.2.2.2.2.1) (u9.2.2.2.2.2.2.1) (u9.2.2.2.2.2.2.2))) (fun u9 : (Bool) × (Nat → Int32) × (Nat → Int32) × (Nat → Bool) × (Nat → Bool) × (Nat → Bool) × (Nat) × (Nat) => (wK cI cZ ad N A (u9.1) an nd wt B Hd O R (u9.2.1) (u9.2.2.1) (u9.2.2.2.1) (u9.2.2.2.2.1) (u9.2.2.2.2.2.1) (u9.2.2.2.2.2.2.1) (u9.2.2.2.2.2.2.2)))) ([.ref (ad 0), .int (x0), .int (y0)]).toArray s 2 12 Ap) (F0 m 18 ls []) := by
        intro n18
        induction n18 with
        | zero => intro i v4 h1 h2; exact absurd h2 (by omega)
        | succ n18 ih18 =>
          intro i v4 hi18 hn18 hno e4  ls hl
          subst e4
          have hl : lv_has ls 5 [(3, .ref (ad 8)), (0, .ref (ad 0)), (1, .int (x0)), (2, .int (y0)), (4, .int (nI (i)))] := hl
          refine lv_iload hx hb dX2_excludes_18 (lv_at hl 4 rfl) ?_
          refine lv_aload_n hx hb dX2_excludes_20 rfl (lv_at hl 0 rfl) ?_
          refine pu_i (va_runV (As := []) (rest := [.int (nI (i))]) ⟨hx, hb, hml, hown, hts⟩ (c_X1_environmentCount l D cI cZ (fun k => ad (k + 8)) (HL9_11) (LB9_11) (SO9_11) (NG9_11) (WO9_11) (A) (2 ^ A) ) (cwV 0 hts gX2_excludes_X1_environmentCount rfl rfl rfl (by decide +kernel) ⟨Nat.le_of_ble_eq_true rfl, Nat.le_of_ble_eq_true rfl⟩) (pre_V (q0 := 0) (ci := 1) (hP.sub (ws' := (wS cI cZ (fun k => ad (k + 8)) HL9_11 LB9_11 SO9_11 NG9_11 WO9_11 A (2 ^ A))) [8, 9, 10, 11, 12, 13] rfl) hK rfl rfl) rfl rfl hl.1 rfl (lv_room (Nat.le_of_ble_eq_true rfl)) dX2_excludes_21 ⟨Nat.le_of_ble_eq_true rfl, Nat.le_of_ble_eq_true rfl⟩) ?_
          refine lv_icmp_ge (tgt := 64) hx hb dX2_excludes_24 (by decide) (fun c_24 => ?_) (fun c_24 => ?_)
          · skip
            have c_24 := (qI_le (a := (2 ^ A)) (b := i) (by omega) (by omega)).mp c_24
            refine lv_iconst (v := 1) hx hb dX2_excludes_64 (by decide) ?_
            exact vx_ret (mr_z (v := true) (u := (true, HL9_11, LB9_11, SO9_11, NG9_11, WO9_11, A, 2 ^ A)) hx hb hrt hlk dX2_excludes_65 hS hP hD ⟨(by have hi9 : i = 2 ^ A := (by omega); rw [← ex_congr (exK (x := x0) (y := y0) hsv_11), ex_no (hi9 ▸ hno)]; rfl), (⟨hok_2, hok_7⟩), (fun _ => hsv_11), trivial⟩)
          · skip
            have c_24 := mt (qI_le (a := (2 ^ A)) (b := i) (by omega) (by omega)).mpr c_24
            refine lv_aload_n hx hb dX2_excludes_27 rfl (lv_at hl 0 rfl) ?_
            refine lv_iload hx hb dX2_excludes_28 (lv_at hl 4 rfl) ?_
            refine pu_i (va_runV (As := [.int (nI (i))]) (rest := []) ⟨hx, hb, hml, hown, hts⟩ (c_X1_isSound l D cI cZ (fun k => ad (k + 8)) (HL9_11) (LB9_11) (SO9_11) (NG9_11) (WO9_11) (A) (2 ^ A) (i) (by omega)) (cwV 1 hts gX2_excludes_X1_isSound rfl rfl rfl (by decide +kernel) ⟨Nat.le_of_ble_eq_true rfl, Nat.le_of_ble_eq_true rfl⟩) (pre_V (q0 := 0) (ci := 1) (hP.sub (ws' := (wS cI cZ (fun k => ad (k + 8)) HL9_11 LB9_11 SO9_11 NG9_11 WO9_11 A (2 ^ A))) [8, 9, 10, 11, 12, 13] rfl) hK rfl rfl) rfl rfl hl.1 rfl (lv_room (Nat.le_of_ble_eq_true rfl)) dX2_excludes_30 ⟨Nat.le_of_ble_eq_true rfl, Nat.le_of_ble_eq_true rfl⟩) ?_
            refine lv_if_eq (tgt := 58) hx hb dX2_excludes_33 (by decide) (fun c_33 => ?_) (fun c_33 => ?_)
            · skip
              have c_33 := bI_eq0 c_33
              refine lv_iinc (v := nI (i + 1)) (lv' := [(4, .int (nI (i + 1))), (3, .ref (ad 8)), (0, .ref (ad 0)), (1, .int (x0)), (2, .int (y0))]) hx hb dX2_excludes_58 hl (k := 4) rfl (nI_1 _) (by decide) rfl (fun ls hl => ?_)
              refine lv_goto (tgt := 18) hx hb dX2_excludes_61 (by decide) ?_
              exact ih18 (i + 1) _  (by omega) (by omega) (no_succ hno (by simp [c_24, c_33])) (by first | rfl | (simp [c_24, c_33]; done) | (simp only [c_24, c_33]; rfl) | (simp_all [c_24, c_33]; done))  ls (lv_sub hl [1, 2, 3, 4, 0] rfl)
            · skip
              have c_33 := bI_ne0 c_33
              refine lv_aload_n hx hb dX2_excludes_36 rfl (lv_at hl 0 rfl) ?_
              refine lv_iload_n hx hb dX2_excludes_37 rfl (lv_at hl 2 rfl) ?_
              refine lv_iload hx hb dX2_excludes_38 (lv_at hl 4 rfl) ?_
              refine pu_i (va_runV (As := [.int (x0), .int (nI (i))]) (rest := []) ⟨hx, hb, hml, hown, hts⟩ (c_X1_isHeld l D cI cZ (fun k => ad (k + 8)) (HL9_11) (LB9_11) (SO9_11) (NG9_11) (WO9_11) (A) (2 ^ A) (x0) (i) (by omega)) (cwV 2 hts gX2_excludes_X1_isHeld rfl rfl rfl (by decide +kernel) ⟨Nat.le_of_ble_eq_true rfl, Nat.le_of_ble_eq_true rfl⟩) (pre_V (q0 := 0) (ci := 1) (hP.sub (ws' := (wS cI cZ (fun k => ad (k + 8)) HL9_11 LB9_11 SO9_11 NG9_11 WO9_11 A (2 ^ A))) [8, 9, 10, 11, 12, 13] rfl) hK rfl rfl) rfl rfl hl.1 rfl (lv_room (Nat.le_of_ble_eq_true rfl)) dX2_excludes_40 ⟨Nat.le_of_ble_eq_true rfl, Nat.le_of_ble_eq_true rfl⟩) ?_
              refine lv_if_eq (tgt := 58) hx hb dX2_excludes_43 (by decide) (fun c_43 => ?_) (fun c_43 => ?_)
              · skip
                have c_43 := bI_eq0 c_43
                refine lv_iinc (v := nI (i + 1)) (lv' := [(4, .int (nI (i + 1))), (3, .ref (ad 8)), (0, .ref (ad 0)), (1, .int (x0)), (2, .int (y0))]) hx hb dX2_excludes_58 hl (k := 4) rfl (nI_1 _) (by decide) rfl (fun ls hl => ?_)
                refine lv_goto (tgt := 18) hx hb dX2_excludes_61 (by decide) ?_
                exact ih18 (i + 1) _  (by omega) (by omega) (no_succ hno (by simp [c_24, c_33, c_43])) (by first | rfl | (simp [c_24, c_33, c_43]; done) | (simp only [c_24, c_33, c_43]; rfl) | (simp_all [c_24, c_33, c_43]; done))  ls (lv_sub hl [1, 2, 3, 4, 0] rfl)
              · skip
                have c_43 := bI_ne0 c_43
                refine lv_aload_n hx hb dX2_excludes_46 rfl (lv_at hl 0 rfl) ?_
                refine lv_iload_n hx hb dX2_excludes_47 rfl (lv_at hl 3 rfl) ?_
                refine lv_iload hx hb dX2_excludes_48 (lv_at hl 4 rfl) ?_
                refine pu_i (va_runV (As := [.int (y0), .int (nI (i))]) (rest := []) ⟨hx, hb, hml, hown, hts⟩ (c_X1_isHeld l D cI cZ (fun k => ad (k + 8)) (HL9_11) (LB9_11) (SO9_11) (NG9_11) (WO9_11) (A) (2 ^ A) (y0) (i) (by omega)) (cwV 2 hts gX2_excludes_X1_isHeld rfl rfl rfl (by decide +kernel) ⟨Nat.le_of_ble_eq_true rfl, Nat.le_of_ble_eq_true rfl⟩) (pre_V (q0 := 0) (ci := 1) (hP.sub (ws' := (wS cI cZ (fun k => ad (k + 8)) HL9_11 LB9_11 SO9_11 NG9_11 WO9_11 A (2 ^ A))) [8, 9, 10, 11, 12, 13] rfl) hK rfl rfl) rfl rfl hl.1 rfl (lv_room (Nat.le_of_ble_eq_true rfl)) dX2_excludes_50 ⟨Nat.le_of_ble_eq_true rfl, Nat.le_of_ble_eq_true rfl⟩) ?_
                refine lv_if_eq (tgt := 58) hx hb dX2_excludes_53 (by decide) (fun c_53 => ?_) (fun c_53 => ?_)
                · skip
                  have c_53 := bI_eq0 c_53
                  refine lv_iinc (v := nI (i + 1)) (lv' := [(4, .int (nI (i + 1))), (3, .ref (ad 8)), (0, .ref (ad 0)), (1, .int (x0)), (2, .int (y0))]) hx hb dX2_excludes_58 hl (k := 4) rfl (nI_1 _) (by decide) rfl (fun ls hl => ?_)
                  refine lv_goto (tgt := 18) hx hb dX2_excludes_61 (by decide) ?_
                  exact ih18 (i + 1) _  (by omega) (by omega) (no_succ hno (by simp [c_24, c_33, c_43, c_53])) (by first | rfl | (simp [c_24, c_33, c_43, c_53]; done) | (simp only [c_24, c_33, c_43, c_53]; rfl) | (simp_all [c_24, c_33, c_43, c_53]; done))  ls (lv_sub hl [1, 2, 3, 4, 0] rfl)
                · skip
                  have c_53 := bI_ne0 c_53
                  refine lv_iconst (v := 0) hx hb dX2_excludes_56 (by decide) ?_
                  exact vx_ret (mr_z (v := false) (u := (true, HL9_11, LB9_11, SO9_11, NG9_11, WO9_11, A, 2 ^ A)) hx hb hrt hlk dX2_excludes_57 hS hP hD ⟨(by rw [← ex_congr (exK (x := x0) (y := y0) hsv_11), ex_at (i := i) (by omega) (by simp [c_33, c_43, c_53])]; rfl), (⟨hok_2, hok_7⟩), (fun _ => hsv_11), trivial⟩)
      exact lp_18 (2 ^ A + 1) (0) _  (by omega) (by omega) (fun j hj => absurd hj (Nat.not_lt_zero j)) (by first | rfl | (simp []; done) | (simp only []; rfl) | (simp_all []; done))  ls (lv_sub hl [1, 2, 3, 4, 0] rfl)
set_option maxHeartbeats 4000000 in
set_option maxRecDepth 100000 in
theorem c_X2_digest (l : Launch) (D : va_G) (cI cZ : ClassId) (ad : Nat → Nat) (N : Nat) (A : Nat) (fl : Bool) (an : Nat → Int32) (nd : Nat → Int32) (wt : Nat → Int32) (B : Nat → Int32) (Hd : Nat → Int32) (O : Nat → Bool) (R : Nat) (HL : Nat → Int32) (LB : Nat → Int32) (SO : Nat → Bool) (NG : Nat → Bool) (WO : Nat → Bool) (SA : Nat) (SE : Nat) (hA : A ≤ 9) (hR : R ≤ 40) (hn : N ≤ 24) (hH : okH N Hd R) (hN : okN N nd A) (hsv : fl = true → svOK B Hd O R nd A HL LB SO NG WO SA SE) (sz : Nat) : Met l yX2_digest wsX2_digest ({ frames := 6, cells := 0, slots := 0, locals := 138 }) (pcW D [(cI, .int), (cZ, .boolean)] sz (wK cI cZ ad N A fl an nd wt B Hd O R HL LB SO NG WO SA SE) [.ref (ad 0)]) (va_Ql (fun (r9 : Int64) (u9 : (Bool) × (Nat → Int32) × (Nat → Int32) × (Nat → Bool) × (Nat → Bool) × (Nat → Bool) × (Nat) × (Nat)) => (r9 = dgE an wt B Hd O N A R (fun k e => lbM (hdE B Hd O R nd A) (soE B Hd O R nd A) (nI k) e) (fun e => ngM (soE B Hd O R nd A) e) (fun e => woM A (soE B Hd O R nd A) e)) ∧ ((u9.1) = true → svOK B Hd O R nd A (u9.2.1) (u9.2.2.1) (u9.2.2.2.1) (u9.2.2.2.2.1) (u9.2.2.2.2.2.1) (u9.2.2.2.2.2.2.1) (u9.2.2.2.2.2.2.2)) ∧ (True)) (wB D (va_A (wK cI cZ ad N A fl an nd wt B Hd O R HL LB SO NG WO SA SE) sz) (fun u9 : (Bool) × (Nat → Int32) × (Nat → Int32) × (Nat → Bool) × (Nat → Bool) × (Nat → Bool) × (Nat) × (Nat) => (wK cI cZ ad N A (u9.1) an nd wt B Hd O R (u9.2.1) (u9.2.2.1) (u9.2.2.2.1) (u9.2.2.2.2.1) (u9.2.2.2.2.2.1) (u9.2.2.2.2.2.2.1) (u9.2.2.2.2.2.2.2)))) (va_A (wK cI cZ ad N A fl an nd wt B Hd O R HL LB SO NG WO SA SE) sz)) 0 0 (va_A (wK cI cZ ad N A fl an nd wt B Hd O R HL LB SO NG WO SA SE) sz) := by
  refine Met.ofW (cc := cX2_digest) (maxL := 5) (ret := (some .long)) (by decide) rfl ?_
  intro p e s m args below meth c s₁ BB hml hv
  obtain ⟨rfl, hsz, hP, hK, hD0⟩ := hv
  have hx := BB.exec
  have hb := BB.bytes
  have hrt := BB.returns
  have hts := atoms_spec (ws := wsX2_digest) BB.pre
  have hown : s.vm.findClass RX2 = some m.cls := findClass_of_methodNamed BB.named
  have hlk := BB.notSynchronized
  subst hsz
  have hD := hD0.self (sz := s.heap.size)
  generalize hAe : va_A (wK cI cZ ad N A fl an nd wt B Hd O R HL LB SO NG WO SA SE) s.heap.size = Ap at hD ⊢
  have hAp : ∀ q : Nat, s.heap.size ≤ q → Ap q := fun q h => by rw [← hAe]; exact Or.inr h
  have hS : va_S Ap s.heap s.heap [] := va_S.rf
  have f9 := hts (.fieldLink RX2 9 "AssumptionKeeper" "assumptionNumbers" "[I") (by decide +kernel)
  have f16 := hts (.fieldLink RX2 16 "AssumptionKeeper" "weights" "[I") (by decide +kernel)
  have f22 := hts (.fieldLink RX2 22 "AssumptionKeeper" "rules" "LAssumptionKeeper$RuleBook;") (by decide +kernel)
  have f33 := hts (.fieldLink RX2 33 "AssumptionKeeper" "nodes" "I") (by decide +kernel)
  have f37 := hts (.fieldLink RX2 37 "AssumptionKeeper" "assumptions" "I") (by decide +kernel)
  have hin2 : ∀ w ∈ u_ws RX2 TX2 8, w ∈ wsX2_digest := by decide +kernel
  have hl := lv_entry ([.ref (ad 0)]) (n := 5) (Nat.le_of_ble_eq_true rfl)
  rw [lg_entry_eq]
  generalize (lg_sl ([.ref (ad 0)]) ++ List.replicate (5 - (lg_sl ([.ref (ad 0)])).length) Slot.unset).toArray = ls at hl ⊢
  have hl : lv_has ls 5 [(0, .ref (ad 0))] := hl
  have h512 : 2 ^ A ≤ 512 := pow9 hA
  have hpos : 0 < 2 ^ A := Nat.two_pow_pos A
  refine lv_aload_n hx hb dX2_digest_0 rfl (lv_at hl 0 rfl) ?_
  refine mu_a (wr := []) (va_runV (As := []) (rest := []) ⟨hx, hb, hml, hown, hts⟩ (c_X2_surveyNow l D cI cZ ad (N) (A) (fl) (an) (nd) (wt) (B) (Hd) (O) (R) (HL) (LB) (SO) (NG) (WO) (SA) (SE) (by omega) (by omega) (hn) (hH) (hN) (hsv) (s.heap).size) (cwV 0 hts gX2_digest_X2_surveyNow rfl rfl rfl (by decide +kernel) ⟨Nat.le_of_ble_eq_true rfl, Nat.le_of_ble_eq_true rfl⟩) (prw_V (q0 := 0) (ci := 2) (hP.sub (ws' := (wK cI cZ ad N A fl an nd wt B Hd O R HL LB SO NG WO SA SE)) [0, 1, 2, 3, 4, 5, 6, 7, 8, 9, 10, 11, 12, 13] rfl) (hD.sub (ws' := (wK cI cZ ad N A fl an nd wt B Hd O R HL LB SO NG WO SA SE)) [0, 1, 2, 3, 4, 5, 6, 7, 8, 9, 10, 11, 12, 13] (by decide) rfl) hK rfl rfl) rfl rfl hl.1 rfl (lv_room (Nat.le_of_ble_eq_true rfl)) dX2_digest_1 ⟨Nat.le_of_ble_eq_true rfl, Nat.le_of_ble_eq_true rfl⟩) hP hD hS hAp [0, 1, 2, 3, 4, 5, 6, 7, 8, 9, 10, 11, 12, 13] [] rfl rfl (by decide) (by decide) (fun u_1 H locs hq_1 hP hD hS => ?_)
  obtain ⟨HL9_1, LB9_1, SO9_1, NG9_1, WO9_1⟩ := u_1
  obtain ⟨hsv_1, -⟩ := hq_1
  have hsv_1 : svOK B Hd O R nd A HL9_1 LB9_1 SO9_1 NG9_1 WO9_1 A (2 ^ A) := hsv_1
  have hP : va_P D vwCl (wK cI cZ ad N A true an nd wt B Hd O R HL9_1 LB9_1 SO9_1 NG9_1 WO9_1 A (2 ^ A)) H := hP
  have hD : va_D Ap (wK cI cZ ad N A true an nd wt B Hd O R HL9_1 LB9_1 SO9_1 NG9_1 WO9_1 A (2 ^ A)) := hD
  refine lv_astore_n (lv' := [(1, .ref (ad 8)), (0, .ref (ad 0))]) hx hb dX2_digest_4 rfl hl (by decide) rfl (fun ls hl => ?_)
  refine lv_ldc2 hx hb hown (hts (.constantLong RX2 179 (113)) (by decide +kernel)) dX2_digest_5 ?_
  refine lv_aload_n hx hb dX2_digest_8 rfl (lv_at hl 1 rfl) ?_
  refine va_get (D := D) (ci := 2) (v := .int (nI (N))) (C := RX2) (T := TX2) (N := 8) hx hb hts hin2 hown hK.1 hP 0 rfl rfl 5 (by decide) f33 (fun _ h9 => h9) rfl dX2_digest_9 ?_
  refine lv_i2l hx hb dX2_digest_12 rfl ?_
  refine pu_l (va_runS (As := [.long (113), .long ((nI (N)).toInt64)]) (rest := []) ⟨hx, hb, hml, hown, hts⟩ (c_X2_mix l D cI cZ ad (113) ((nI (N)).toInt64) ) (cwS 2 hts gX2_digest_X2_mix rfl rfl rfl (by decide +kernel) ⟨Nat.le_of_ble_eq_true rfl, Nat.le_of_ble_eq_true rfl⟩) (pre_S (hP.sub (ws' := ([] : va_W)) [] rfl) hK) rfl rfl hl.1 rfl (lv_room (Nat.le_of_ble_eq_true rfl)) dX2_digest_13 ⟨Nat.zero_le _, Nat.zero_le _⟩) ?_
  refine lv_lstore_n (lv' := [(2, .long (mx 113 ((nI (N)).toInt64))), (1, .ref (ad 8)), (0, .ref (ad 0))]) hx hb dX2_digest_16 rfl hl (by decide) rfl (fun ls hl => ?_)
  refine lv_iconst (v := nI (0)) hx hb dX2_digest_17 (by decide) ?_
  refine lv_istore (lv' := [(4, .int (nI (0))), (2, .long (mx 113 ((nI (N)).toInt64))), (1, .ref (ad 8)), (0, .ref (ad 0))]) hx hb dX2_digest_18 hl (by decide) rfl (fun ls hl => ?_)
  have lp_20 : ∀ (n20 i : Nat) (v2 : Int64) (v4 : Int32), i ≤ N → N + 1 ≤ i + n20 → v2 = dgN an (fun k e => hs (LB9_1 e) (nI k)) (2 ^ A) (mx 113 (nI N).toInt64) i → v4 = nI (i) → ∀ ls : Array Slot, lv_has ls 5 [(1, .ref (ad 8)), (0, .ref (ad 0)), (2, .long (v2)), (4, .int (v4))] → W p l e (headSpec wsX2_digest ({ frames := 6, cells := 0, slots := 0, locals := 138 })).room s m ([.ref (ad 0)]).toArray below meth c H locs 0 0 (MQ below (va_Ql (fun (r9 : Int64) (u9 : (Bool) × (Nat → Int32) × (Nat → Int32) × (Nat → Bool) × (Nat → Bool) × (Nat → Bool) × (Nat) × (Nat)) => (r9 = dgE an wt B Hd O N A R (fun k e => lbM (hdE B Hd O R nd A) (soE B Hd O R nd A) (nI k) e) (fun e => ngM (soE B Hd O R nd A) e) (fun e => woM A (soE B Hd O R nd A) e)) ∧ ((u9.1) = true → svOK B Hd O R nd A (u9.2.1) (u9.2.2.1) (u9.2.2.2.1) (u9.2.2.2.2.1) (u9.2.2.2.2.2.1) (u9.2.2.2.2.2.2.1) (u9.2.2.2.2.2.2.2)) ∧ (True)) (wB D Ap (fun u9 : (Bool) × (Nat → Int32) × (Nat → Int32) × (Nat → Bool) × (Nat → Bool) × (Nat → Bool) × (Nat) × (Nat) => (wK cI cZ ad N A (u9.1) an nd wt B Hd O R (u9.2.1) (u9.2.2.1) (u9.2.2.2.1) (u9.2.2.2.2.1) (u9.2.2.2.2.2.1) (u9.2.2.2.2.2.2.1) (u9.2.2.2.2.2.2.2)))) Ap) ([.ref (ad 0)]).toArray s 0 0 Ap) (F0 m 20 ls []) := by
    intro n20
    induction n20 with
    | zero => intro i v2 v4 h1 h2; exact absurd h2 (by omega)
    | succ n20 ih20 =>
      intro i v2 v4 hi20 hn20  e2 e4  ls hl
      subst e2 e4
      have hl : lv_has ls 5 [(1, .ref (ad 8)), (0, .ref (ad 0)), (2, .long (dgN an (fun k e => hs (LB9_1 e) (nI k)) (2 ^ A) (mx 113 (nI N).toInt64) i)), (4, .int (nI (i)))] := hl
      refine lv_iload hx hb dX2_digest_20 (lv_at hl 3 rfl) ?_
      refine lv_aload_n hx hb dX2_digest_22 rfl (lv_at hl 1 rfl) ?_
      refine va_get (D := D) (ci := 2) (v := .int (nI (N))) (C := RX2) (T := TX2) (N := 8) hx hb hts hin2 hown hK.1 hP 0 rfl rfl 5 (by decide) f33 (fun _ h9 => h9) rfl dX2_digest_23 ?_
      refine lv_icmp_ge (tgt := 56) hx hb dX2_digest_26 (by decide) (fun c_26 => ?_) (fun c_26 => ?_)
      · skip
        have c_26 := (qI_le (a := N) (b := i) (by omega) (by omega)).mp c_26
        refine lv_lload_n hx hb dX2_digest_56 rfl (lv_at hl 2 rfl) ?_
        refine lv_aload_n hx hb dX2_digest_57 rfl (lv_at hl 1 rfl) ?_
        refine va_get (D := D) (ci := 2) (v := .int (nI (A))) (C := RX2) (T := TX2) (N := 8) hx hb hts hin2 hown hK.1 hP 0 rfl rfl 6 (by decide) f37 (fun _ h9 => h9) rfl dX2_digest_58 ?_
        refine lv_i2l hx hb dX2_digest_61 rfl ?_
        refine pu_l (va_runS (As := [.long (dgN an (fun k e => hs (LB9_1 e) (nI k)) (2 ^ A) (mx 113 (nI N).toInt64) i), .long ((nI (A)).toInt64)]) (rest := []) ⟨hx, hb, hml, hown, hts⟩ (c_X2_mix l D cI cZ ad (dgN an (fun k e => hs (LB9_1 e) (nI k)) (2 ^ A) (mx 113 (nI N).toInt64) i) ((nI (A)).toInt64) ) (cwS 2 hts gX2_digest_X2_mix rfl rfl rfl (by decide +kernel) ⟨Nat.le_of_ble_eq_true rfl, Nat.le_of_ble_eq_true rfl⟩) (pre_S (hP.sub (ws' := ([] : va_W)) [] rfl) hK) rfl rfl hl.1 rfl (lv_room (Nat.le_of_ble_eq_true rfl)) dX2_digest_62 ⟨Nat.zero_le _, Nat.zero_le _⟩) ?_
        refine lv_lstore_n (lv' := [(2, .long (mx (dgN an (fun k e => hs (LB9_1 e) (nI k)) (2 ^ A) (mx 113 (nI N).toInt64) i) ((nI (A)).toInt64))), (1, .ref (ad 8)), (0, .ref (ad 0)), (4, .int (nI (i)))]) hx hb dX2_digest_65 rfl hl (by decide) rfl (fun ls hl => ?_)
        refine lv_iconst (v := nI (0)) hx hb dX2_digest_66 (by decide) ?_
        refine lv_istore (lv' := [(4, .int (nI (0))), (2, .long (mx (dgN an (fun k e => hs (LB9_1 e) (nI k)) (2 ^ A) (mx 113 (nI N).toInt64) i) ((nI (A)).toInt64))), (1, .ref (ad 8)), (0, .ref (ad 0))]) hx hb dX2_digest_67 hl (by decide) rfl (fun ls hl => ?_)
        have lp_69 : ∀ (n69 i2 : Nat) (v2 : Int64) (v4 : Int32), i2 ≤ A → A + 1 ≤ i2 + n69 → v2 = dgW wt (mx (dgN an (fun k e => hs (LB9_1 e) (nI k)) (2 ^ A) (mx 113 (nI N).toInt64) N) (nI A).toInt64) i2 → v4 = nI (i2) → ∀ ls : Array Slot, lv_has ls 5 [(1, .ref (ad 8)), (0, .ref (ad 0)), (2, .long (v2)), (4, .int (v4))] → W p l e (headSpec wsX2_digest ({ frames := 6, cells := 0, slots := 0, locals := 138 })).room s m ([.ref (ad 0)]).toArray below meth c H locs 0 0 (MQ below (va_Ql (fun (r9 : Int64) (u9 : (Bool) × (Nat → Int32) × (Nat → Int32) × (Nat → Bool) × (Nat → Bool) × (Nat → Bool) × (Nat) × (Nat)) => (r9 = dgE an wt B Hd O N A R (fun k e => lbM (hdE B Hd O R nd A) (soE B Hd O R nd A) (nI k) e) (fun e => ngM (soE B Hd O R nd A) e) (fun e => woM A (soE B Hd O R nd A) e)) ∧ ((u9.1) = true → svOK B Hd O R nd A (u9.2.1) (u9.2.2.1) (u9.2.2.2.1) (u9.2.2.2.2.1) (u9.2.2.2.2.2.1) (u9.2.2.2.2.2.2.1) (u9.2.2.2.2.2.2.2)) ∧ (True)) (wB D Ap (fun u9 : (Bool) × (Nat → Int32) × (Nat → Int32) × (Nat → Bool) × (Nat → Bool) × (Nat → Bool) × (Nat) × (Nat) => (wK cI cZ ad N A (u9.1) an nd wt B Hd O R (u9.2.1) (u9.2.2.1) (u9.2.2.2.1) (u9.2.2.2.2.1) (u9.2.2.2.2.2.1) (u9.2.2.2.2.2.2.1) (u9.2.2.2.2.2.2.2)))) Ap) ([.ref (ad 0)]).toArray s 0 0 Ap) (F0 m 69 ls []) := by
          intro n69
          induction n69 with
          | zero => intro i2 v2 v4 h1 h2; exact absurd h2 (by omega)
          | succ n69 ih69 =>
            intro i2 v2 v4 hi69 hn69  e2 e4  ls hl
            subst e2 e4
            have hl : lv_has ls 5 [(1, .ref (ad 8)), (0, .ref (ad 0)), (2, .long (dgW wt (mx (dgN an (fun k e => hs (LB9_1 e) (nI k)) (2 ^ A) (mx 113 (nI N).toInt64) N) (nI A).toInt64) i2)), (4, .int (nI (i2)))] := hl
            refine lv_iload hx hb dX2_digest_69 (lv_at hl 3 rfl) ?_
            refine lv_aload_n hx hb dX2_digest_71 rfl (lv_at hl 1 rfl) ?_
            refine va_get (D := D) (ci := 2) (v := .int (nI (A))) (C := RX2) (T := TX2) (N := 8) hx hb hts hin2 hown hK.1 hP 0 rfl rfl 6 (by decide) f37 (fun _ h9 => h9) rfl dX2_digest_72 ?_
            refine lv_icmp_ge (tgt := 97) hx hb dX2_digest_75 (by decide) (fun c_75 => ?_) (fun c_75 => ?_)
            · skip
              have c_75 := (qI_le (a := A) (b := i2) (by omega) (by omega)).mp c_75
              refine lv_aload_n hx hb dX2_digest_97 rfl (lv_at hl 1 rfl) ?_
              refine va_get (D := D) (ci := 2) (v := .ref (ad 4)) (C := RX2) (T := TX2) (N := 8) hx hb hts hin2 hown hK.1 hP 0 rfl rfl 3 (by decide) f22 (fun _ h9 => h9) rfl dX2_digest_98 ?_
              refine lv_lload_n hx hb dX2_digest_101 rfl (lv_at hl 2 rfl) ?_
              refine pu_l (va_runV (As := [.long (dgW wt (mx (dgN an (fun k e => hs (LB9_1 e) (nI k)) (2 ^ A) (mx 113 (nI N).toInt64) N) (nI A).toInt64) i2)]) (rest := []) ⟨hx, hb, hml, hown, hts⟩ (c_X0_mixRules l D cI cZ (fun k => ad (k + 4)) (B) (Hd) (O) (R) (dgW wt (mx (dgN an (fun k e => hs (LB9_1 e) (nI k)) (2 ^ A) (mx 113 (nI N).toInt64) N) (nI A).toInt64) i2) (by omega)) (cwV 1 hts gX2_digest_X0_mixRules rfl rfl rfl (by decide +kernel) ⟨Nat.le_of_ble_eq_true rfl, Nat.le_of_ble_eq_true rfl⟩) (pre_V (q0 := 0) (ci := 0) (hP.sub (ws' := (wR cI cZ (fun k => ad (k + 4)) B Hd O R)) [4, 5, 6, 7] rfl) hK rfl rfl) rfl rfl hl.1 rfl (lv_room (Nat.le_of_ble_eq_true rfl)) dX2_digest_102 ⟨Nat.zero_le _, Nat.zero_le _⟩) ?_
              refine lv_lstore_n (lv' := [(2, .long (mxR B Hd O (mx (dgW wt (mx (dgN an (fun k e => hs (LB9_1 e) (nI k)) (2 ^ A) (mx 113 (nI N).toInt64) N) (nI A).toInt64) i2) (nI R).toInt64) R)), (1, .ref (ad 8)), (0, .ref (ad 0)), (4, .int (nI (i2)))]) hx hb dX2_digest_105 rfl hl (by decide) rfl (fun ls hl => ?_)
              refine lv_aload_n hx hb dX2_digest_106 rfl (lv_at hl 1 rfl) ?_
              refine lv_lload_n hx hb dX2_digest_107 rfl (lv_at hl 0 rfl) ?_
              refine pu_l (va_runV (As := [.long (mxR B Hd O (mx (dgW wt (mx (dgN an (fun k e => hs (LB9_1 e) (nI k)) (2 ^ A) (mx 113 (nI N).toInt64) N) (nI A).toInt64) i2) (nI R).toInt64) R)]) (rest := []) ⟨hx, hb, hml, hown, hts⟩ (c_X1_mixNogoods l D cI cZ (fun k => ad (k + 8)) (HL9_1) (LB9_1) (SO9_1) (NG9_1) (WO9_1) (A) (2 ^ A) (mxR B Hd O (mx (dgW wt (mx (dgN an (fun k e => hs (LB9_1 e) (nI k)) (2 ^ A) (mx 113 (nI N).toInt64) N) (nI A).toInt64) i2) (nI R).toInt64) R) (by omega)) (cwV 1 hts gX2_digest_X1_mixNogoods rfl rfl rfl (by decide +kernel) ⟨Nat.le_of_ble_eq_true rfl, Nat.le_of_ble_eq_true rfl⟩) (pre_V (q0 := 0) (ci := 1) (hP.sub (ws' := (wS cI cZ (fun k => ad (k + 8)) HL9_1 LB9_1 SO9_1 NG9_1 WO9_1 A (2 ^ A))) [8, 9, 10, 11, 12, 13] rfl) hK rfl rfl) rfl rfl hl.1 rfl (lv_room (Nat.le_of_ble_eq_true rfl)) dX2_digest_108 ⟨Nat.zero_le _, Nat.zero_le _⟩) ?_
              refine lv_lstore_n (lv' := [(2, .long (mxS NG9_1 (mxR B Hd O (mx (dgW wt (mx (dgN an (fun k e => hs (LB9_1 e) (nI k)) (2 ^ A) (mx 113 (nI N).toInt64) N) (nI A).toInt64) i2) (nI R).toInt64) R) (2 ^ A))), (1, .ref (ad 8)), (0, .ref (ad 0)), (4, .int (nI (i2)))]) hx hb dX2_digest_111 rfl hl (by decide) rfl (fun ls hl => ?_)
              refine lv_aload_n hx hb dX2_digest_112 rfl (lv_at hl 1 rfl) ?_
              refine lv_lload_n hx hb dX2_digest_113 rfl (lv_at hl 0 rfl) ?_
              refine pu_l (va_runV (As := [.long (mxS NG9_1 (mxR B Hd O (mx (dgW wt (mx (dgN an (fun k e => hs (LB9_1 e) (nI k)) (2 ^ A) (mx 113 (nI N).toInt64) N) (nI A).toInt64) i2) (nI R).toInt64) R) (2 ^ A))]) (rest := []) ⟨hx, hb, hml, hown, hts⟩ (c_X1_mixWorlds l D cI cZ (fun k => ad (k + 8)) (HL9_1) (LB9_1) (SO9_1) (NG9_1) (WO9_1) (A) (2 ^ A) (mxS NG9_1 (mxR B Hd O (mx (dgW wt (mx (dgN an (fun k e => hs (LB9_1 e) (nI k)) (2 ^ A) (mx 113 (nI N).toInt64) N) (nI A).toInt64) i2) (nI R).toInt64) R) (2 ^ A)) (by omega)) (cwV 1 hts gX2_digest_X1_mixWorlds rfl rfl rfl (by decide +kernel) ⟨Nat.le_of_ble_eq_true rfl, Nat.le_of_ble_eq_true rfl⟩) (pre_V (q0 := 0) (ci := 1) (hP.sub (ws' := (wS cI cZ (fun k => ad (k + 8)) HL9_1 LB9_1 SO9_1 NG9_1 WO9_1 A (2 ^ A))) [8, 9, 10, 11, 12, 13] rfl) hK rfl rfl) rfl rfl hl.1 rfl (lv_room (Nat.le_of_ble_eq_true rfl)) dX2_digest_114 ⟨Nat.zero_le _, Nat.zero_le _⟩) ?_
              exact mr_l (u := (true, HL9_1, LB9_1, SO9_1, NG9_1, WO9_1, A, 2 ^ A)) hx hb hrt hlk dX2_digest_117 hS hP hD ⟨(by have hi9 : i2 = A := (by omega); rw [hi9]; exact dgE_congr (fun k hk => lbK hA hn (inR_nI (by omega) hk) hsv_1) (ngK hA hsv_1) (woK hA hsv_1)), (fun _ => hsv_1), trivial⟩
            · skip
              have c_75 := mt (qI_le (a := A) (b := i2) (by omega) (by omega)).mpr c_75
              refine lv_lload_n hx hb dX2_digest_78 rfl (lv_at hl 2 rfl) ?_
              refine lv_aload_n hx hb dX2_digest_79 rfl (lv_at hl 1 rfl) ?_
              refine va_get (D := D) (ci := 2) (v := .ref (ad 3)) (C := RX2) (T := TX2) (N := 8) hx hb hts hin2 hown hK.1 hP 0 rfl rfl 2 (by decide) f16 (fun _ h9 => h9) rfl dX2_digest_80 ?_
              refine lv_iload hx hb dX2_digest_83 (lv_at hl 3 rfl) ?_
              refine ai_ (D := D) (f := wt) (i := i2) hx hb hK hP 3 0 rfl rfl (by omega) (by decide) dX2_digest_85 ?_
              refine lv_i2l hx hb dX2_digest_86 rfl ?_
              refine pu_l (va_runS (As := [.long (dgW wt (mx (dgN an (fun k e => hs (LB9_1 e) (nI k)) (2 ^ A) (mx 113 (nI N).toInt64) N) (nI A).toInt64) i2), .long ((wt (i2)).toInt64)]) (rest := []) ⟨hx, hb, hml, hown, hts⟩ (c_X2_mix l D cI cZ ad (dgW wt (mx (dgN an (fun k e => hs (LB9_1 e) (nI k)) (2 ^ A) (mx 113 (nI N).toInt64) N) (nI A).toInt64) i2) ((wt (i2)).toInt64) ) (cwS 2 hts gX2_digest_X2_mix rfl rfl rfl (by decide +kernel) ⟨Nat.le_of_ble_eq_true rfl, Nat.le_of_ble_eq_true rfl⟩) (pre_S (hP.sub (ws' := ([] : va_W)) [] rfl) hK) rfl rfl hl.1 rfl (lv_room (Nat.le_of_ble_eq_true rfl)) dX2_digest_87 ⟨Nat.zero_le _, Nat.zero_le _⟩) ?_
              refine lv_lstore_n (lv' := [(2, .long (mx (dgW wt (mx (dgN an (fun k e => hs (LB9_1 e) (nI k)) (2 ^ A) (mx 113 (nI N).toInt64) N) (nI A).toInt64) i2) ((wt (i2)).toInt64))), (1, .ref (ad 8)), (0, .ref (ad 0)), (4, .int (nI (i2)))]) hx hb dX2_digest_90 rfl hl (by decide) rfl (fun ls hl => ?_)
              refine lv_iinc (v := nI (i2 + 1)) (lv' := [(4, .int (nI (i2 + 1))), (2, .long (mx (dgW wt (mx (dgN an (fun k e => hs (LB9_1 e) (nI k)) (2 ^ A) (mx 113 (nI N).toInt64) N) (nI A).toInt64) i2) ((wt (i2)).toInt64))), (1, .ref (ad 8)), (0, .ref (ad 0))]) hx hb dX2_digest_91 hl (k := 3) rfl (nI_1 _) (by decide) rfl (fun ls hl => ?_)
              refine lv_goto (tgt := 69) hx hb dX2_digest_94 (by decide) ?_
              exact ih69 (i2 + 1) _ _  (by omega) (by omega)  (by first | rfl | (simp [dgW, c_26, c_75]; done) | (simp only [dgW, c_26, c_75]; rfl) | (simp_all [dgW, c_26, c_75]; done)) (by first | rfl | (simp [dgW, c_26, c_75]; done) | (simp only [dgW, c_26, c_75]; rfl) | (simp_all [dgW, c_26, c_75]; done))  ls (lv_sub hl [2, 3, 1, 0] rfl)
        exact lp_69 (A + 1) (0) _ _  (by omega) (by omega)  (by have hi9 : i = N := (by omega); rw [hi9]; rfl) (by first | rfl | (simp [dgW, c_26]; done) | (simp only [dgW, c_26]; rfl) | (simp_all [dgW, c_26]; done))  ls (lv_sub hl [2, 3, 1, 0] rfl)
      · skip
        have c_26 := mt (qI_le (a := N) (b := i) (by omega) (by omega)).mpr c_26
        refine lv_lload_n hx hb dX2_digest_29 rfl (lv_at hl 2 rfl) ?_
        refine lv_aload_n hx hb dX2_digest_30 rfl (lv_at hl 1 rfl) ?_
        refine va_get (D := D) (ci := 2) (v := .ref (ad 1)) (C := RX2) (T := TX2) (N := 8) hx hb hts hin2 hown hK.1 hP 0 rfl rfl 0 (by decide) f9 (fun _ h9 => h9) rfl dX2_digest_31 ?_
        refine lv_iload hx hb dX2_digest_34 (lv_at hl 3 rfl) ?_
        refine ai_ (D := D) (f := an) (i := i) hx hb hK hP 1 0 rfl rfl (by omega) (by decide) dX2_digest_36 ?_
        refine lv_i2l hx hb dX2_digest_37 rfl ?_
        refine pu_l (va_runS (As := [.long (dgN an (fun k e => hs (LB9_1 e) (nI k)) (2 ^ A) (mx 113 (nI N).toInt64) i), .long ((an (i)).toInt64)]) (rest := []) ⟨hx, hb, hml, hown, hts⟩ (c_X2_mix l D cI cZ ad (dgN an (fun k e => hs (LB9_1 e) (nI k)) (2 ^ A) (mx 113 (nI N).toInt64) i) ((an (i)).toInt64) ) (cwS 2 hts gX2_digest_X2_mix rfl rfl rfl (by decide +kernel) ⟨Nat.le_of_ble_eq_true rfl, Nat.le_of_ble_eq_true rfl⟩) (pre_S (hP.sub (ws' := ([] : va_W)) [] rfl) hK) rfl rfl hl.1 rfl (lv_room (Nat.le_of_ble_eq_true rfl)) dX2_digest_38 ⟨Nat.zero_le _, Nat.zero_le _⟩) ?_
        refine lv_lstore_n (lv' := [(2, .long (mx (dgN an (fun k e => hs (LB9_1 e) (nI k)) (2 ^ A) (mx 113 (nI N).toInt64) i) ((an (i)).toInt64))), (1, .ref (ad 8)), (0, .ref (ad 0)), (4, .int (nI (i)))]) hx hb dX2_digest_41 rfl hl (by decide) rfl (fun ls hl => ?_)
        refine lv_aload_n hx hb dX2_digest_42 rfl (lv_at hl 1 rfl) ?_
        refine lv_lload_n hx hb dX2_digest_43 rfl (lv_at hl 0 rfl) ?_
        refine lv_iload hx hb dX2_digest_44 (lv_at hl 3 rfl) ?_
        refine pu_l (va_runV (As := [.long (mx (dgN an (fun k e => hs (LB9_1 e) (nI k)) (2 ^ A) (mx 113 (nI N).toInt64) i) ((an (i)).toInt64)), .int (nI (i))]) (rest := []) ⟨hx, hb, hml, hown, hts⟩ (c_X1_mixLabel l D cI cZ (fun k => ad (k + 8)) (HL9_1) (LB9_1) (SO9_1) (NG9_1) (WO9_1) (A) (2 ^ A) (mx (dgN an (fun k e => hs (LB9_1 e) (nI k)) (2 ^ A) (mx 113 (nI N).toInt64) i) ((an (i)).toInt64)) (nI (i)) (by omega)) (cwV 2 hts gX2_digest_X1_mixLabel rfl rfl rfl (by decide +kernel) ⟨Nat.le_of_ble_eq_true rfl, Nat.le_of_ble_eq_true rfl⟩) (pre_V (q0 := 0) (ci := 1) (hP.sub (ws' := (wS cI cZ (fun k => ad (k + 8)) HL9_1 LB9_1 SO9_1 NG9_1 WO9_1 A (2 ^ A))) [8, 9, 10, 11, 12, 13] rfl) hK rfl rfl) rfl rfl hl.1 rfl (lv_room (Nat.le_of_ble_eq_true rfl)) dX2_digest_46 ⟨Nat.zero_le _, Nat.zero_le _⟩) ?_
        refine lv_lstore_n (lv' := [(2, .long (mxS (fun e => hs (LB9_1 e) (nI (i))) (mx (dgN an (fun k e => hs (LB9_1 e) (nI k)) (2 ^ A) (mx 113 (nI N).toInt64) i) ((an (i)).toInt64)) (2 ^ A))), (1, .ref (ad 8)), (0, .ref (ad 0)), (4, .int (nI (i)))]) hx hb dX2_digest_49 rfl hl (by decide) rfl (fun ls hl => ?_)
        refine lv_iinc (v := nI (i + 1)) (lv' := [(4, .int (nI (i + 1))), (2, .long (mxS (fun e => hs (LB9_1 e) (nI (i))) (mx (dgN an (fun k e => hs (LB9_1 e) (nI k)) (2 ^ A) (mx 113 (nI N).toInt64) i) ((an (i)).toInt64)) (2 ^ A))), (1, .ref (ad 8)), (0, .ref (ad 0))]) hx hb dX2_digest_50 hl (k := 3) rfl (nI_1 _) (by decide) rfl (fun ls hl => ?_)
        refine lv_goto (tgt := 20) hx hb dX2_digest_53 (by decide) ?_
        exact ih20 (i + 1) _ _  (by omega) (by omega)  (by first | rfl | (simp [dgN, c_26]; done) | (simp only [dgN, c_26]; rfl) | (simp_all [dgN, c_26]; done)) (by first | rfl | (simp [dgN, c_26]; done) | (simp only [dgN, c_26]; rfl) | (simp_all [dgN, c_26]; done))  ls (lv_sub hl [2, 3, 1, 0] rfl)
  exact lp_20 (N + 1) (0) _ _  (by omega) (by omega)  (by first | rfl | (simp [dgN]; done) | (simp only [dgN]; rfl) | (simp_all [dgN]; done)) (by first | rfl | (simp [dgN]; done) | (simp only [dgN]; rfl) | (simp_all [dgN]; done))  ls (lv_sub hl [2, 3, 1, 0] rfl)
