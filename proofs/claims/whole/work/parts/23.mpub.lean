set_option maxHeartbeats 4000000 in
set_option maxRecDepth 100000 in
theorem c_X3_addStatement (l : Launch) (D : va_G) (cI cZ : ClassId) (ad : Nat → Nat) (th : Int32) (N : Nat) (A : Nat) (R : Nat) (kw : Bool) (an : Nat → Int32) (nd : Nat → Int32) (wt : Nat → Int32) (B : Nat → Int32) (Hd : Nat → Int32) (O : Nat → Bool) (HL : Nat → Int32) (CO : Nat → Bool) (hn : N ≤ 24) (sz : Nat) : Met l yX3_addStatement wsX3_addStatement ({ frames := 1, cells := 0, slots := 0, locals := 21 }) (pcW D [(cI, .int), (cZ, .boolean)] sz (wM cI cZ ad th N A R kw an nd wt B Hd O HL CO) [.ref (ad 0)]) (va_Qi (fun (r9 : Int32) (u9 : (Int32) × (Nat → Int32) × (Nat) × (Bool)) => ((24 ≤ N ∧ (u9.1) = 1 ∧ (u9.2.1) = an ∧ (u9.2.2.1) = N ∧ (u9.2.2.2) = kw) ∨ (N < 24 ∧ (u9.1) = 0 ∧ r9 = nI N ∧ (u9.2.1) = upd an N (-1) ∧ (u9.2.2.1) = N + 1 ∧ (u9.2.2.2) = false)) ∧ (True)) (wB D (va_A (wM cI cZ ad th N A R kw an nd wt B Hd O HL CO) sz) (fun u9 : (Int32) × (Nat → Int32) × (Nat) × (Bool) => (wM cI cZ ad (u9.1) (u9.2.2.1) A R (u9.2.2.2) (u9.2.1) nd wt B Hd O HL CO))) (va_A (wM cI cZ ad th N A R kw an nd wt B Hd O HL CO) sz)) 0 0 (va_A (wM cI cZ ad th N A R kw an nd wt B Hd O HL CO) sz) := by
  refine Met.ofW (cc := cX3_addStatement) (maxL := 1) (ret := (some .int)) (by decide) rfl ?_
  intro p e s m args below meth c s₁ BB hml hv
  obtain ⟨rfl, hsz, hP, hK, hD0⟩ := hv
  have hx := BB.exec
  have hb := BB.bytes
  have hrt := BB.returns
  have hts := atoms_spec (ws := wsX3_addStatement) BB.pre
  have hown : s.vm.findClass RX3 = some m.cls := findClass_of_methodNamed BB.named
  have hlk := BB.notSynchronized
  subst hsz
  have hD := hD0.self (sz := s.heap.size)
  generalize hAe : va_A (wM cI cZ ad th N A R kw an nd wt B Hd O HL CO) s.heap.size = Ap at hD ⊢
  have hAp : ∀ q : Nat, s.heap.size ≤ q → Ap q := fun q h => by rw [← hAe]; exact Or.inr h
  have hS : va_S Ap s.heap s.heap [] := va_S.rf
  have f35 := hts (.fieldLink RX3 35 "AssumptionKeeperModel" "thrown" "I") (by decide +kernel)
  have f39 := hts (.fieldLink RX3 39 "AssumptionKeeperModel" "nodes" "I") (by decide +kernel)
  have hin3 : ∀ w ∈ u_ws RX3 TX3 13, w ∈ wsX3_addStatement := by decide +kernel
  have hl := lv_entry ([.ref (ad 0)]) (n := 1) (Nat.le_of_ble_eq_true rfl)
  rw [lg_entry_eq]
  generalize (lg_sl ([.ref (ad 0)]) ++ List.replicate (1 - (lg_sl ([.ref (ad 0)])).length) Slot.unset).toArray = ls at hl ⊢
  have hl : lv_has ls 1 [(0, .ref (ad 0))] := hl
  refine lv_aload_n hx hb dX3_addStatement_0 rfl (lv_at hl 0 rfl) ?_
  refine lv_iconst (v := 0) hx hb dX3_addStatement_1 (by decide) ?_
  refine va_put (D := D) (ci := 3) (v := .int (0)) (ty := .int) (C := RX3) (T := TX3) (N := 13) hx hb hts hin3 tyX3 tyX3_ok nmX3 hown hK.1 hP hD hS 0 rfl rfl 0 (by decide) f35 (fun _ h9 => h9) rfl (by decide +kernel) rfl rfl (Nat.le_of_ble_eq_true rfl) dX3_addStatement_2 (fun H locs hP hD hS => ?_)
  have hP : va_P D vwCl (wM cI cZ ad 0 N A R kw an nd wt B Hd O HL CO) H := hP
  have hD : va_D Ap (wM cI cZ ad 0 N A R kw an nd wt B Hd O HL CO) := hD
  refine lv_aload_n hx hb dX3_addStatement_5 rfl (lv_at hl 0 rfl) ?_
  refine va_get (D := D) (ci := 3) (v := .int (nI (N))) (C := RX3) (T := TX3) (N := 13) hx hb hts hin3 hown hK.1 hP 0 rfl rfl 1 (by decide) f39 (fun _ h9 => h9) rfl dX3_addStatement_6 ?_
  refine lv_bipush (v := 24) hx hb dX3_addStatement_9 (by decide) ?_
  refine lv_icmp_ne (tgt := 22) hx hb dX3_addStatement_11 (by decide) (fun c_11 => ?_) (fun c_11 => ?_)
  · skip
    have c_11 := mt (qI_inj (a := N) (b := 24) (by omega) (by omega)).mpr c_11
    refine lv_aload_n hx hb dX3_addStatement_22 rfl (lv_at hl 0 rfl) ?_
    refine lv_iconst (v := -1) hx hb dX3_addStatement_23 (by decide) ?_
    refine mu_i (wr := []) (va_runV (As := [.int (-1)]) (rest := []) ⟨hx, hb, hml, hown, hts⟩ (c_X3_add l D cI cZ ad (0) (N) (A) (R) (kw) (an) (nd) (wt) (B) (Hd) (O) (HL) (CO) (-1) (by omega) (H).size) (cwV 1 hts gX3_addStatement_X3_add rfl rfl rfl (by decide +kernel) ⟨Nat.le_of_ble_eq_true rfl, Nat.le_of_ble_eq_true rfl⟩) (prw_V (q0 := 0) (ci := 3) (hP.sub (ws' := (wM cI cZ ad 0 N A R kw an nd wt B Hd O HL CO)) [0, 1, 2, 3, 4, 5, 6, 7, 8] rfl) (hD.sub (ws' := (wM cI cZ ad 0 N A R kw an nd wt B Hd O HL CO)) [0, 1, 2, 3, 4, 5, 6, 7, 8] (by decide) rfl) hK rfl rfl) rfl rfl hl.1 rfl (lv_room (Nat.le_of_ble_eq_true rfl)) dX3_addStatement_24 ⟨Nat.le_of_ble_eq_true rfl, Nat.le_of_ble_eq_true rfl⟩) hP hD hS hAp [0, 1, 2, 3, 4, 5, 6, 7, 8] [] rfl rfl (by decide) (by decide) (fun r_24 u_24 H locs hq_24 hP hD hS => ?_)
    obtain ⟨rfl, -⟩ := hq_24
    have hP : va_P D vwCl (wM cI cZ ad 0 (N + 1) A R false (upd an N (-1)) nd wt B Hd O HL CO) H := hP
    have hD : va_D Ap (wM cI cZ ad 0 (N + 1) A R false (upd an N (-1)) nd wt B Hd O HL CO) := hD
    exact mr_i (u := (0, upd an N (-1), N + 1, false)) hx hb hrt hlk dX3_addStatement_27 hS hP hD ⟨(by have h9 := c_11; first | exact Or.inl ⟨by omega, rfl, rfl, rfl, rfl⟩ | exact Or.inr ⟨by omega, rfl, rfl, rfl, rfl, rfl⟩), trivial⟩
  · skip
    have c_11 := (qI_inj (a := N) (b := 24) (by omega) (by omega)).mp c_11
    refine lv_aload_n hx hb dX3_addStatement_14 rfl (lv_at hl 0 rfl) ?_
    refine lv_iconst (v := 1) hx hb dX3_addStatement_15 (by decide) ?_
    refine mu_i (wr := []) (va_runV (As := [.int (1)]) (rest := []) ⟨hx, hb, hml, hown, hts⟩ (c_X3_no l D cI cZ ad (0) (N) (A) (R) (kw) (an) (nd) (wt) (B) (Hd) (O) (HL) (CO) (1)  (H).size) (cwV 1 hts gX3_addStatement_X3_no rfl rfl rfl (by decide +kernel) ⟨Nat.le_of_ble_eq_true rfl, Nat.le_of_ble_eq_true rfl⟩) (prw_V (q0 := 0) (ci := 3) (hP.sub (ws' := (wM cI cZ ad 0 N A R kw an nd wt B Hd O HL CO)) [0, 1, 2, 3, 4, 5, 6, 7, 8] rfl) (hD.sub (ws' := (wM cI cZ ad 0 N A R kw an nd wt B Hd O HL CO)) [0, 1, 2, 3, 4, 5, 6, 7, 8] (by decide) rfl) hK rfl rfl) rfl rfl hl.1 rfl (lv_room (Nat.le_of_ble_eq_true rfl)) dX3_addStatement_16 ⟨Nat.le_of_ble_eq_true rfl, Nat.le_of_ble_eq_true rfl⟩) hP hD hS hAp [0, 1, 2, 3, 4, 5, 6, 7, 8] [] rfl rfl (by decide) (by decide) (fun r_16 u_16 H locs hq_16 hP hD hS => ?_)
    obtain ⟨rfl, -⟩ := hq_16
    have hP : va_P D vwCl (wM cI cZ ad 1 N A R kw an nd wt B Hd O HL CO) H := hP
    have hD : va_D Ap (wM cI cZ ad 1 N A R kw an nd wt B Hd O HL CO) := hD
    refine lv_goto (tgt := 27) hx hb dX3_addStatement_19 (by decide) ?_
    exact mr_i (u := (1, an, N, kw)) hx hb hrt hlk dX3_addStatement_27 hS hP hD ⟨(by have h9 := c_11; first | exact Or.inl ⟨by omega, rfl, rfl, rfl, rfl⟩ | exact Or.inr ⟨by omega, rfl, rfl, rfl, rfl, rfl⟩), trivial⟩
set_option maxHeartbeats 4000000 in
set_option maxRecDepth 100000 in
theorem c_X3_addAssumption (l : Launch) (D : va_G) (cI cZ : ClassId) (ad : Nat → Nat) (th : Int32) (N : Nat) (A : Nat) (R : Nat) (kw : Bool) (an : Nat → Int32) (nd : Nat → Int32) (wt : Nat → Int32) (B : Nat → Int32) (Hd : Nat → Int32) (O : Nat → Bool) (HL : Nat → Int32) (CO : Nat → Bool) (x0 : Int32) (hn : N ≤ 24) (hA : A ≤ 9) (sz : Nat) : Met l yX3_addAssumption wsX3_addAssumption ({ frames := 1, cells := 0, slots := 0, locals := 21 }) (pcW D [(cI, .int), (cZ, .boolean)] sz (wM cI cZ ad th N A R kw an nd wt B Hd O HL CO) [.ref (ad 0), .int (x0)]) (va_Qi (fun (r9 : Int32) (u9 : (Int32) × (Nat → Int32) × (Nat) × (Bool) × (Nat → Int32) × (Nat → Int32) × (Nat)) => ((okW x0 = false ∧ (u9.1) = 1 ∧ (u9.2.1) = an ∧ (u9.2.2.1) = N ∧ (u9.2.2.2.1) = kw ∧ (u9.2.2.2.2.1) = nd ∧ (u9.2.2.2.2.2.1) = wt ∧ (u9.2.2.2.2.2.2) = A) ∨ (okW x0 = true ∧ (24 ≤ N ∨ 9 ≤ A) ∧ (u9.1) = 2 ∧ (u9.2.1) = an ∧ (u9.2.2.1) = N ∧ (u9.2.2.2.1) = kw ∧ (u9.2.2.2.2.1) = nd ∧ (u9.2.2.2.2.2.1) = wt ∧ (u9.2.2.2.2.2.2) = A) ∨ (okW x0 = true ∧ N < 24 ∧ A < 9 ∧ (u9.1) = 0 ∧ r9 = nI N ∧ (u9.2.1) = upd an N (nI A) ∧ (u9.2.2.1) = N + 1 ∧ (u9.2.2.2.1) = false ∧ (u9.2.2.2.2.1) = upd nd A (nI N) ∧ (u9.2.2.2.2.2.1) = upd wt A x0 ∧ (u9.2.2.2.2.2.2) = A + 1)) ∧ (True)) (wB D (va_A (wM cI cZ ad th N A R kw an nd wt B Hd O HL CO) sz) (fun u9 : (Int32) × (Nat → Int32) × (Nat) × (Bool) × (Nat → Int32) × (Nat → Int32) × (Nat) => (wM cI cZ ad (u9.1) (u9.2.2.1) (u9.2.2.2.2.2.2) R (u9.2.2.2.1) (u9.2.1) (u9.2.2.2.2.1) (u9.2.2.2.2.2.1) B Hd O HL CO))) (va_A (wM cI cZ ad th N A R kw an nd wt B Hd O HL CO) sz)) 0 0 (va_A (wM cI cZ ad th N A R kw an nd wt B Hd O HL CO) sz) := by
  refine Met.ofW (cc := cX3_addAssumption) (maxL := 2) (ret := (some .int)) (by decide) rfl ?_
  intro p e s m args below meth c s₁ BB hml hv
  obtain ⟨rfl, hsz, hP, hK, hD0⟩ := hv
  have hx := BB.exec
  have hb := BB.bytes
  have hrt := BB.returns
  have hts := atoms_spec (ws := wsX3_addAssumption) BB.pre
  have hown : s.vm.findClass RX3 = some m.cls := findClass_of_methodNamed BB.named
  have hlk := BB.notSynchronized
  subst hsz
  have hD := hD0.self (sz := s.heap.size)
  generalize hAe : va_A (wM cI cZ ad th N A R kw an nd wt B Hd O HL CO) s.heap.size = Ap at hD ⊢
  have hAp : ∀ q : Nat, s.heap.size ≤ q → Ap q := fun q h => by rw [← hAe]; exact Or.inr h
  have hS : va_S Ap s.heap s.heap [] := va_S.rf
  have f13 := hts (.fieldLink RX3 13 "AssumptionKeeperModel" "nodeNumbers" "[I") (by decide +kernel)
  have f16 := hts (.fieldLink RX3 16 "AssumptionKeeperModel" "weights" "[I") (by decide +kernel)
  have f35 := hts (.fieldLink RX3 35 "AssumptionKeeperModel" "thrown" "I") (by decide +kernel)
  have f39 := hts (.fieldLink RX3 39 "AssumptionKeeperModel" "nodes" "I") (by decide +kernel)
  have f42 := hts (.fieldLink RX3 42 "AssumptionKeeperModel" "assumptions" "I") (by decide +kernel)
  have hin3 : ∀ w ∈ u_ws RX3 TX3 13, w ∈ wsX3_addAssumption := by decide +kernel
  have hl := lv_entry ([.ref (ad 0), .int (x0)]) (n := 2) (Nat.le_of_ble_eq_true rfl)
  rw [lg_entry_eq]
  generalize (lg_sl ([.ref (ad 0), .int (x0)]) ++ List.replicate (2 - (lg_sl ([.ref (ad 0), .int (x0)])).length) Slot.unset).toArray = ls at hl ⊢
  have hl : lv_has ls 2 [(0, .ref (ad 0)), (1, .int (x0))] := hl
  refine lv_aload_n hx hb dX3_addAssumption_0 rfl (lv_at hl 0 rfl) ?_
  refine lv_iconst (v := 0) hx hb dX3_addAssumption_1 (by decide) ?_
  refine va_put (D := D) (ci := 3) (v := .int (0)) (ty := .int) (C := RX3) (T := TX3) (N := 13) hx hb hts hin3 tyX3 tyX3_ok nmX3 hown hK.1 hP hD hS 0 rfl rfl 0 (by decide) f35 (fun _ h9 => h9) rfl (by decide +kernel) rfl rfl (Nat.le_of_ble_eq_true rfl) dX3_addAssumption_2 (fun H locs hP hD hS => ?_)
  have hP : va_P D vwCl (wM cI cZ ad 0 N A R kw an nd wt B Hd O HL CO) H := hP
  have hD : va_D Ap (wM cI cZ ad 0 N A R kw an nd wt B Hd O HL CO) := hD
  refine lv_iload_n hx hb dX3_addAssumption_5 rfl (lv_at hl 1 rfl) ?_
  refine pu_i (va_runS (As := [.int (x0)]) (rest := []) ⟨hx, hb, hml, hown, hts⟩ (c_X3_isWeight l D cI cZ ad (x0) ) (cwS 1 hts gX3_addAssumption_X3_isWeight rfl rfl rfl (by decide +kernel) ⟨Nat.le_of_ble_eq_true rfl, Nat.le_of_ble_eq_true rfl⟩) (pre_S (hP.sub (ws' := ([] : va_W)) [] rfl) hK) rfl rfl hl.1 rfl (lv_room (Nat.le_of_ble_eq_true rfl)) dX3_addAssumption_6 ⟨Nat.zero_le _, Nat.zero_le _⟩) ?_
  refine lv_if_ne (tgt := 18) hx hb dX3_addAssumption_9 (by decide) (fun c_9 => ?_) (fun c_9 => ?_)
  · skip
    have c_9 := bI_ne0 c_9
    refine lv_aload_n hx hb dX3_addAssumption_18 rfl (lv_at hl 0 rfl) ?_
    refine va_get (D := D) (ci := 3) (v := .int (nI (N))) (C := RX3) (T := TX3) (N := 13) hx hb hts hin3 hown hK.1 hP 0 rfl rfl 1 (by decide) f39 (fun _ h9 => h9) rfl dX3_addAssumption_19 ?_
    refine lv_bipush (v := 24) hx hb dX3_addAssumption_22 (by decide) ?_
    refine lv_icmp_eq (tgt := 36) hx hb dX3_addAssumption_24 (by decide) (fun c_24 => ?_) (fun c_24 => ?_)
    · skip
      have c_24 := (qI_inj (a := N) (b := 24) (by omega) (by omega)).mp c_24
      refine lv_aload_n hx hb dX3_addAssumption_36 rfl (lv_at hl 0 rfl) ?_
      refine lv_iconst (v := 2) hx hb dX3_addAssumption_37 (by decide) ?_
      refine mu_i (wr := []) (va_runV (As := [.int (2)]) (rest := []) ⟨hx, hb, hml, hown, hts⟩ (c_X3_no l D cI cZ ad (0) (N) (A) (R) (kw) (an) (nd) (wt) (B) (Hd) (O) (HL) (CO) (2)  (H).size) (cwV 1 hts gX3_addAssumption_X3_no rfl rfl rfl (by decide +kernel) ⟨Nat.le_of_ble_eq_true rfl, Nat.le_of_ble_eq_true rfl⟩) (prw_V (q0 := 0) (ci := 3) (hP.sub (ws' := (wM cI cZ ad 0 N A R kw an nd wt B Hd O HL CO)) [0, 1, 2, 3, 4, 5, 6, 7, 8] rfl) (hD.sub (ws' := (wM cI cZ ad 0 N A R kw an nd wt B Hd O HL CO)) [0, 1, 2, 3, 4, 5, 6, 7, 8] (by decide) rfl) hK rfl rfl) rfl rfl hl.1 rfl (lv_room (Nat.le_of_ble_eq_true rfl)) dX3_addAssumption_38 ⟨Nat.le_of_ble_eq_true rfl, Nat.le_of_ble_eq_true rfl⟩) hP hD hS hAp [0, 1, 2, 3, 4, 5, 6, 7, 8] [] rfl rfl (by decide) (by decide) (fun r_38 u_38 H locs hq_38 hP hD hS => ?_)
      obtain ⟨rfl, -⟩ := hq_38
      have hP : va_P D vwCl (wM cI cZ ad 2 N A R kw an nd wt B Hd O HL CO) H := hP
      have hD : va_D Ap (wM cI cZ ad 2 N A R kw an nd wt B Hd O HL CO) := hD
      exact mr_i (u := (2, an, N, kw, nd, wt, A)) hx hb hrt hlk dX3_addAssumption_41 hS hP hD ⟨(by first | exact Or.inl ⟨c_9, rfl, rfl, rfl, rfl, rfl, rfl, rfl⟩ | exact Or.inr (Or.inl ⟨c_9, by omega, rfl, rfl, rfl, rfl, rfl, rfl, rfl⟩) | exact Or.inr (Or.inr ⟨c_9, by omega, by omega, rfl, rfl, rfl, rfl, rfl, rfl, rfl, rfl⟩)), trivial⟩
    · skip
      have c_24 := mt (qI_inj (a := N) (b := 24) (by omega) (by omega)).mpr c_24
      refine lv_aload_n hx hb dX3_addAssumption_27 rfl (lv_at hl 0 rfl) ?_
      refine va_get (D := D) (ci := 3) (v := .int (nI (A))) (C := RX3) (T := TX3) (N := 13) hx hb hts hin3 hown hK.1 hP 0 rfl rfl 3 (by decide) f42 (fun _ h9 => h9) rfl dX3_addAssumption_28 ?_
      refine lv_bipush (v := 9) hx hb dX3_addAssumption_31 (by decide) ?_
      refine lv_icmp_ne (tgt := 42) hx hb dX3_addAssumption_33 (by decide) (fun c_33 => ?_) (fun c_33 => ?_)
      · skip
        have c_33 := mt (qI_inj (a := A) (b := 9) (by omega) (by omega)).mpr c_33
        refine lv_aload_n hx hb dX3_addAssumption_42 rfl (lv_at hl 0 rfl) ?_
        refine va_get (D := D) (ci := 3) (v := .ref (ad 2)) (C := RX3) (T := TX3) (N := 13) hx hb hts hin3 hown hK.1 hP 0 rfl rfl 4 (by decide) f13 (fun _ h9 => h9) rfl dX3_addAssumption_43 ?_
        refine lv_aload_n hx hb dX3_addAssumption_46 rfl (lv_at hl 0 rfl) ?_
        refine va_get (D := D) (ci := 3) (v := .int (nI (A))) (C := RX3) (T := TX3) (N := 13) hx hb hts hin3 hown hK.1 hP 0 rfl rfl 3 (by decide) f42 (fun _ h9 => h9) rfl dX3_addAssumption_47 ?_
        refine lv_aload_n hx hb dX3_addAssumption_50 rfl (lv_at hl 0 rfl) ?_
        refine va_get (D := D) (ci := 3) (v := .int (nI (N))) (C := RX3) (T := TX3) (N := 13) hx hb hts hin3 hown hK.1 hP 0 rfl rfl 1 (by decide) f39 (fun _ h9 => h9) rfl dX3_addAssumption_51 ?_
        refine si_ (D := D) (f := nd) (i := A) (x := nI (N)) hx hb hK hP hD hS 2 0 rfl rfl (by omega) (by decide) dX3_addAssumption_54 (fun H locs hP hD hS => ?_)
        have hP : va_P D vwCl (wM cI cZ ad 0 N A R kw an (upd nd (A) (nI (N))) wt B Hd O HL CO) H := hP
        have hD : va_D Ap (wM cI cZ ad 0 N A R kw an (upd nd (A) (nI (N))) wt B Hd O HL CO) := hD
        refine lv_aload_n hx hb dX3_addAssumption_55 rfl (lv_at hl 0 rfl) ?_
        refine va_get (D := D) (ci := 3) (v := .ref (ad 3)) (C := RX3) (T := TX3) (N := 13) hx hb hts hin3 hown hK.1 hP 0 rfl rfl 5 (by decide) f16 (fun _ h9 => h9) rfl dX3_addAssumption_56 ?_
        refine lv_aload_n hx hb dX3_addAssumption_59 rfl (lv_at hl 0 rfl) ?_
        refine va_get (D := D) (ci := 3) (v := .int (nI (A))) (C := RX3) (T := TX3) (N := 13) hx hb hts hin3 hown hK.1 hP 0 rfl rfl 3 (by decide) f42 (fun _ h9 => h9) rfl dX3_addAssumption_60 ?_
        refine lv_iload_n hx hb dX3_addAssumption_63 rfl (lv_at hl 1 rfl) ?_
        refine si_ (D := D) (f := wt) (i := A) (x := x0) hx hb hK hP hD hS 3 0 rfl rfl (by omega) (by decide) dX3_addAssumption_64 (fun H locs hP hD hS => ?_)
        have hP : va_P D vwCl (wM cI cZ ad 0 N A R kw an (upd nd (A) (nI (N))) (upd wt (A) (x0)) B Hd O HL CO) H := hP
        have hD : va_D Ap (wM cI cZ ad 0 N A R kw an (upd nd (A) (nI (N))) (upd wt (A) (x0)) B Hd O HL CO) := hD
        refine lv_aload_n hx hb dX3_addAssumption_65 rfl (lv_at hl 0 rfl) ?_
        refine lv_dup hx hb dX3_addAssumption_66 rfl ?_
        refine va_get (D := D) (ci := 3) (v := .int (nI (A))) (C := RX3) (T := TX3) (N := 13) hx hb hts hin3 hown hK.1 hP 0 rfl rfl 3 (by decide) f42 (fun _ h9 => h9) rfl dX3_addAssumption_67 ?_
        refine lv_iconst (v := 1) hx hb dX3_addAssumption_70 (by decide) ?_
        refine lv_iadd hx hb dX3_addAssumption_71 ?_
        rw [nI_1]
        refine va_put (D := D) (ci := 3) (v := .int (nI (A + 1))) (ty := .int) (C := RX3) (T := TX3) (N := 13) hx hb hts hin3 tyX3 tyX3_ok nmX3 hown hK.1 hP hD hS 0 rfl rfl 3 (by decide) f42 (fun _ h9 => h9) rfl (by decide +kernel) rfl rfl (Nat.le_of_ble_eq_true rfl) dX3_addAssumption_72 (fun H locs hP hD hS => ?_)
        have hP : va_P D vwCl (wM cI cZ ad 0 N (A + 1) R kw an (upd nd (A) (nI (N))) (upd wt (A) (x0)) B Hd O HL CO) H := hP
        have hD : va_D Ap (wM cI cZ ad 0 N (A + 1) R kw an (upd nd (A) (nI (N))) (upd wt (A) (x0)) B Hd O HL CO) := hD
        refine lv_aload_n hx hb dX3_addAssumption_75 rfl (lv_at hl 0 rfl) ?_
        refine lv_aload_n hx hb dX3_addAssumption_76 rfl (lv_at hl 0 rfl) ?_
        refine va_get (D := D) (ci := 3) (v := .int (nI (A + 1))) (C := RX3) (T := TX3) (N := 13) hx hb hts hin3 hown hK.1 hP 0 rfl rfl 3 (by decide) f42 (fun _ h9 => h9) rfl dX3_addAssumption_77 ?_
        refine lv_iconst (v := 1) hx hb dX3_addAssumption_80 (by decide) ?_
        refine lv_isub hx hb dX3_addAssumption_81 ?_
        rw [nI_sub1 (by omega)]
        refine mu_i (wr := []) (va_runV (As := [.int (nI ((A + 1) - 1))]) (rest := []) ⟨hx, hb, hml, hown, hts⟩ (c_X3_add l D cI cZ ad (0) (N) (A + 1) (R) (kw) (an) (upd nd (A) (nI (N))) (upd wt (A) (x0)) (B) (Hd) (O) (HL) (CO) (nI ((A + 1) - 1)) (by omega) (H).size) (cwV 1 hts gX3_addAssumption_X3_add rfl rfl rfl (by decide +kernel) ⟨Nat.le_of_ble_eq_true rfl, Nat.le_of_ble_eq_true rfl⟩) (prw_V (q0 := 0) (ci := 3) (hP.sub (ws' := (wM cI cZ ad 0 N (A + 1) R kw an (upd nd (A) (nI (N))) (upd wt (A) (x0)) B Hd O HL CO)) [0, 1, 2, 3, 4, 5, 6, 7, 8] rfl) (hD.sub (ws' := (wM cI cZ ad 0 N (A + 1) R kw an (upd nd (A) (nI (N))) (upd wt (A) (x0)) B Hd O HL CO)) [0, 1, 2, 3, 4, 5, 6, 7, 8] (by decide) rfl) hK rfl rfl) rfl rfl hl.1 rfl (lv_room (Nat.le_of_ble_eq_true rfl)) dX3_addAssumption_82 ⟨Nat.le_of_ble_eq_true rfl, Nat.le_of_ble_eq_true rfl⟩) hP hD hS hAp [0, 1, 2, 3, 4, 5, 6, 7, 8] [] rfl rfl (by decide) (by decide) (fun r_82 u_82 H locs hq_82 hP hD hS => ?_)
        obtain ⟨rfl, -⟩ := hq_82
        have hP : va_P D vwCl (wM cI cZ ad 0 (N + 1) (A + 1) R false (upd an N (nI ((A + 1) - 1))) (upd nd (A) (nI (N))) (upd wt (A) (x0)) B Hd O HL CO) H := hP
        have hD : va_D Ap (wM cI cZ ad 0 (N + 1) (A + 1) R false (upd an N (nI ((A + 1) - 1))) (upd nd (A) (nI (N))) (upd wt (A) (x0)) B Hd O HL CO) := hD
        exact mr_i (u := (0, upd an N (nI ((A + 1) - 1)), N + 1, false, upd nd (A) (nI (N)), upd wt (A) (x0), A + 1)) hx hb hrt hlk dX3_addAssumption_85 hS hP hD ⟨(by first | exact Or.inl ⟨c_9, rfl, rfl, rfl, rfl, rfl, rfl, rfl⟩ | exact Or.inr (Or.inl ⟨c_9, by omega, rfl, rfl, rfl, rfl, rfl, rfl, rfl⟩) | exact Or.inr (Or.inr ⟨c_9, by omega, by omega, rfl, rfl, rfl, rfl, rfl, rfl, rfl, rfl⟩)), trivial⟩
      · skip
        have c_33 := (qI_inj (a := A) (b := 9) (by omega) (by omega)).mp c_33
        refine lv_aload_n hx hb dX3_addAssumption_36 rfl (lv_at hl 0 rfl) ?_
        refine lv_iconst (v := 2) hx hb dX3_addAssumption_37 (by decide) ?_
        refine mu_i (wr := []) (va_runV (As := [.int (2)]) (rest := []) ⟨hx, hb, hml, hown, hts⟩ (c_X3_no l D cI cZ ad (0) (N) (A) (R) (kw) (an) (nd) (wt) (B) (Hd) (O) (HL) (CO) (2)  (H).size) (cwV 1 hts gX3_addAssumption_X3_no rfl rfl rfl (by decide +kernel) ⟨Nat.le_of_ble_eq_true rfl, Nat.le_of_ble_eq_true rfl⟩) (prw_V (q0 := 0) (ci := 3) (hP.sub (ws' := (wM cI cZ ad 0 N A R kw an nd wt B Hd O HL CO)) [0, 1, 2, 3, 4, 5, 6, 7, 8] rfl) (hD.sub (ws' := (wM cI cZ ad 0 N A R kw an nd wt B Hd O HL CO)) [0, 1, 2, 3, 4, 5, 6, 7, 8] (by decide) rfl) hK rfl rfl) rfl rfl hl.1 rfl (lv_room (Nat.le_of_ble_eq_true rfl)) dX3_addAssumption_38 ⟨Nat.le_of_ble_eq_true rfl, Nat.le_of_ble_eq_true rfl⟩) hP hD hS hAp [0, 1, 2, 3, 4, 5, 6, 7, 8] [] rfl rfl (by decide) (by decide) (fun r_38 u_38 H locs hq_38 hP hD hS => ?_)
        obtain ⟨rfl, -⟩ := hq_38
        have hP : va_P D vwCl (wM cI cZ ad 2 N A R kw an nd wt B Hd O HL CO) H := hP
        have hD : va_D Ap (wM cI cZ ad 2 N A R kw an nd wt B Hd O HL CO) := hD
        exact mr_i (u := (2, an, N, kw, nd, wt, A)) hx hb hrt hlk dX3_addAssumption_41 hS hP hD ⟨(by first | exact Or.inl ⟨c_9, rfl, rfl, rfl, rfl, rfl, rfl, rfl⟩ | exact Or.inr (Or.inl ⟨c_9, by omega, rfl, rfl, rfl, rfl, rfl, rfl, rfl⟩) | exact Or.inr (Or.inr ⟨c_9, by omega, by omega, rfl, rfl, rfl, rfl, rfl, rfl, rfl, rfl⟩)), trivial⟩
  · skip
    have c_9 := bI_eq0 c_9
    refine lv_aload_n hx hb dX3_addAssumption_12 rfl (lv_at hl 0 rfl) ?_
    refine lv_iconst (v := 1) hx hb dX3_addAssumption_13 (by decide) ?_
    refine mu_i (wr := []) (va_runV (As := [.int (1)]) (rest := []) ⟨hx, hb, hml, hown, hts⟩ (c_X3_no l D cI cZ ad (0) (N) (A) (R) (kw) (an) (nd) (wt) (B) (Hd) (O) (HL) (CO) (1)  (H).size) (cwV 1 hts gX3_addAssumption_X3_no rfl rfl rfl (by decide +kernel) ⟨Nat.le_of_ble_eq_true rfl, Nat.le_of_ble_eq_true rfl⟩) (prw_V (q0 := 0) (ci := 3) (hP.sub (ws' := (wM cI cZ ad 0 N A R kw an nd wt B Hd O HL CO)) [0, 1, 2, 3, 4, 5, 6, 7, 8] rfl) (hD.sub (ws' := (wM cI cZ ad 0 N A R kw an nd wt B Hd O HL CO)) [0, 1, 2, 3, 4, 5, 6, 7, 8] (by decide) rfl) hK rfl rfl) rfl rfl hl.1 rfl (lv_room (Nat.le_of_ble_eq_true rfl)) dX3_addAssumption_14 ⟨Nat.le_of_ble_eq_true rfl, Nat.le_of_ble_eq_true rfl⟩) hP hD hS hAp [0, 1, 2, 3, 4, 5, 6, 7, 8] [] rfl rfl (by decide) (by decide) (fun r_14 u_14 H locs hq_14 hP hD hS => ?_)
    obtain ⟨rfl, -⟩ := hq_14
    have hP : va_P D vwCl (wM cI cZ ad 1 N A R kw an nd wt B Hd O HL CO) H := hP
    have hD : va_D Ap (wM cI cZ ad 1 N A R kw an nd wt B Hd O HL CO) := hD
    exact mr_i (u := (1, an, N, kw, nd, wt, A)) hx hb hrt hlk dX3_addAssumption_17 hS hP hD ⟨(by first | exact Or.inl ⟨c_9, rfl, rfl, rfl, rfl, rfl, rfl, rfl⟩ | exact Or.inr (Or.inl ⟨c_9, by omega, rfl, rfl, rfl, rfl, rfl, rfl, rfl⟩) | exact Or.inr (Or.inr ⟨c_9, by omega, by omega, rfl, rfl, rfl, rfl, rfl, rfl, rfl, rfl⟩)), trivial⟩
set_option maxHeartbeats 4000000 in
set_option maxRecDepth 100000 in
theorem c_X3_setWeight (l : Launch) (D : va_G) (cI cZ : ClassId) (ad : Nat → Nat) (th : Int32) (N : Nat) (A : Nat) (R : Nat) (kw : Bool) (an : Nat → Int32) (nd : Nat → Int32) (wt : Nat → Int32) (B : Nat → Int32) (Hd : Nat → Int32) (O : Nat → Bool) (HL : Nat → Int32) (CO : Nat → Bool) (x0 : Int32) (y0 : Int32) (hA : A ≤ 9) (sz : Nat) : Met l yX3_setWeight wsX3_setWeight ({ frames := 1, cells := 0, slots := 0, locals := 21 }) (pcW D [(cI, .int), (cZ, .boolean)] sz (wM cI cZ ad th N A R kw an nd wt B Hd O HL CO) [.ref (ad 0), .int (x0), .int (y0)]) (va_Qi (fun (r9 : Int32) (u9 : (Int32) × (Nat → Int32)) => ((inR x0 A = false ∧ (u9.1) = 1 ∧ (u9.2) = wt) ∨ (inR x0 A = true ∧ okW y0 = false ∧ (u9.1) = 2 ∧ (u9.2) = wt) ∨ (inR x0 A = true ∧ okW y0 = true ∧ (u9.1) = 0 ∧ ∃ j, j < A ∧ x0 = nI j ∧ r9 = wt j ∧ (u9.2) = upd wt j y0)) ∧ (True)) (wB D (va_A (wM cI cZ ad th N A R kw an nd wt B Hd O HL CO) sz) (fun u9 : (Int32) × (Nat → Int32) => (wM cI cZ ad (u9.1) N A R kw an nd (u9.2) B Hd O HL CO))) (va_A (wM cI cZ ad th N A R kw an nd wt B Hd O HL CO) sz)) 0 0 (va_A (wM cI cZ ad th N A R kw an nd wt B Hd O HL CO) sz) := by
  refine Met.ofW (cc := cX3_setWeight) (maxL := 4) (ret := (some .int)) (by decide) rfl ?_
  intro p e s m args below meth c s₁ BB hml hv
  obtain ⟨rfl, hsz, hP, hK, hD0⟩ := hv
  have hx := BB.exec
  have hb := BB.bytes
  have hrt := BB.returns
  have hts := atoms_spec (ws := wsX3_setWeight) BB.pre
  have hown : s.vm.findClass RX3 = some m.cls := findClass_of_methodNamed BB.named
  have hlk := BB.notSynchronized
  subst hsz
  have hD := hD0.self (sz := s.heap.size)
  generalize hAe : va_A (wM cI cZ ad th N A R kw an nd wt B Hd O HL CO) s.heap.size = Ap at hD ⊢
  have hAp : ∀ q : Nat, s.heap.size ≤ q → Ap q := fun q h => by rw [← hAe]; exact Or.inr h
  have hS : va_S Ap s.heap s.heap [] := va_S.rf
  have f16 := hts (.fieldLink RX3 16 "AssumptionKeeperModel" "weights" "[I") (by decide +kernel)
  have f35 := hts (.fieldLink RX3 35 "AssumptionKeeperModel" "thrown" "I") (by decide +kernel)
  have hin3 : ∀ w ∈ u_ws RX3 TX3 13, w ∈ wsX3_setWeight := by decide +kernel
  have hl := lv_entry ([.ref (ad 0), .int (x0), .int (y0)]) (n := 4) (Nat.le_of_ble_eq_true rfl)
  rw [lg_entry_eq]
  generalize (lg_sl ([.ref (ad 0), .int (x0), .int (y0)]) ++ List.replicate (4 - (lg_sl ([.ref (ad 0), .int (x0), .int (y0)])).length) Slot.unset).toArray = ls at hl ⊢
  have hl : lv_has ls 4 [(0, .ref (ad 0)), (1, .int (x0)), (2, .int (y0))] := hl
  refine lv_aload_n hx hb dX3_setWeight_0 rfl (lv_at hl 0 rfl) ?_
  refine lv_iconst (v := 0) hx hb dX3_setWeight_1 (by decide) ?_
  refine va_put (D := D) (ci := 3) (v := .int (0)) (ty := .int) (C := RX3) (T := TX3) (N := 13) hx hb hts hin3 tyX3 tyX3_ok nmX3 hown hK.1 hP hD hS 0 rfl rfl 0 (by decide) f35 (fun _ h9 => h9) rfl (by decide +kernel) rfl rfl (Nat.le_of_ble_eq_true rfl) dX3_setWeight_2 (fun H locs hP hD hS => ?_)
  have hP : va_P D vwCl (wM cI cZ ad 0 N A R kw an nd wt B Hd O HL CO) H := hP
  have hD : va_D Ap (wM cI cZ ad 0 N A R kw an nd wt B Hd O HL CO) := hD
  refine lv_aload_n hx hb dX3_setWeight_5 rfl (lv_at hl 0 rfl) ?_
  refine lv_iload_n hx hb dX3_setWeight_6 rfl (lv_at hl 1 rfl) ?_
  refine pu_i (va_runV (As := [.int (x0)]) (rest := []) ⟨hx, hb, hml, hown, hts⟩ (c_X3_isAssumption l D cI cZ ad (0) (N) (A) (R) (kw) (an) (nd) (wt) (B) (Hd) (O) (HL) (CO) (x0) ) (cwV 1 hts gX3_setWeight_X3_isAssumption rfl rfl rfl (by decide +kernel) ⟨Nat.le_of_ble_eq_true rfl, Nat.le_of_ble_eq_true rfl⟩) (pre_V (q0 := 0) (ci := 3) (hP.sub (ws' := (wM cI cZ ad 0 N A R kw an nd wt B Hd O HL CO)) [0, 1, 2, 3, 4, 5, 6, 7, 8] rfl) hK rfl rfl) rfl rfl hl.1 rfl (lv_room (Nat.le_of_ble_eq_true rfl)) dX3_setWeight_7 ⟨Nat.zero_le _, Nat.zero_le _⟩) ?_
  refine lv_if_ne (tgt := 19) hx hb dX3_setWeight_10 (by decide) (fun c_10 => ?_) (fun c_10 => ?_)
  · skip
    have c_10 := bI_ne0 c_10
    refine lv_iload_n hx hb dX3_setWeight_19 rfl (lv_at hl 2 rfl) ?_
    refine pu_i (va_runS (As := [.int (y0)]) (rest := []) ⟨hx, hb, hml, hown, hts⟩ (c_X3_isWeight l D cI cZ ad (y0) ) (cwS 1 hts gX3_setWeight_X3_isWeight rfl rfl rfl (by decide +kernel) ⟨Nat.le_of_ble_eq_true rfl, Nat.le_of_ble_eq_true rfl⟩) (pre_S (hP.sub (ws' := ([] : va_W)) [] rfl) hK) rfl rfl hl.1 rfl (lv_room (Nat.le_of_ble_eq_true rfl)) dX3_setWeight_20 ⟨Nat.zero_le _, Nat.zero_le _⟩) ?_
    refine lv_if_ne (tgt := 32) hx hb dX3_setWeight_23 (by decide) (fun c_23 => ?_) (fun c_23 => ?_)
    · skip
      have c_23 := bI_ne0 c_23
      obtain ⟨j0, hj0, rfl⟩ := inR_nat c_10
      refine lv_aload_n hx hb dX3_setWeight_32 rfl (lv_at hl 0 rfl) ?_
      refine va_get (D := D) (ci := 3) (v := .ref (ad 3)) (C := RX3) (T := TX3) (N := 13) hx hb hts hin3 hown hK.1 hP 0 rfl rfl 5 (by decide) f16 (fun _ h9 => h9) rfl dX3_setWeight_33 ?_
      refine lv_iload_n hx hb dX3_setWeight_36 rfl (lv_at hl 1 rfl) ?_
      refine ai_ (D := D) (f := wt) (i := j0) hx hb hK hP 3 0 rfl rfl (by omega) (by decide) dX3_setWeight_37 ?_
      refine lv_istore_n (lv' := [(3, .int (wt (j0))), (0, .ref (ad 0)), (1, .int (nI (j0))), (2, .int (y0))]) hx hb dX3_setWeight_38 rfl hl (by decide) rfl (fun ls hl => ?_)
      refine lv_aload_n hx hb dX3_setWeight_39 rfl (lv_at hl 1 rfl) ?_
      refine va_get (D := D) (ci := 3) (v := .ref (ad 3)) (C := RX3) (T := TX3) (N := 13) hx hb hts hin3 hown hK.1 hP 0 rfl rfl 5 (by decide) f16 (fun _ h9 => h9) rfl dX3_setWeight_40 ?_
      refine lv_iload_n hx hb dX3_setWeight_43 rfl (lv_at hl 2 rfl) ?_
      refine lv_iload_n hx hb dX3_setWeight_44 rfl (lv_at hl 3 rfl) ?_
      refine si_ (D := D) (f := wt) (i := j0) (x := y0) hx hb hK hP hD hS 3 0 rfl rfl (by omega) (by decide) dX3_setWeight_45 (fun H locs hP hD hS => ?_)
      have hP : va_P D vwCl (wM cI cZ ad 0 N A R kw an nd (upd wt (j0) (y0)) B Hd O HL CO) H := hP
      have hD : va_D Ap (wM cI cZ ad 0 N A R kw an nd (upd wt (j0) (y0)) B Hd O HL CO) := hD
      refine lv_iload_n hx hb dX3_setWeight_46 rfl (lv_at hl 0 rfl) ?_
      exact mr_i (u := (0, upd wt (j0) (y0))) hx hb hrt hlk dX3_setWeight_47 hS hP hD ⟨(by first | exact Or.inl ⟨c_10, rfl, rfl⟩ | exact Or.inr (Or.inl ⟨c_10, c_23, rfl, rfl⟩) | exact Or.inr (Or.inr ⟨c_10, c_23, rfl, j0, hj0, rfl, rfl, rfl⟩)), trivial⟩
    · skip
      have c_23 := bI_eq0 c_23
      refine lv_aload_n hx hb dX3_setWeight_26 rfl (lv_at hl 0 rfl) ?_
      refine lv_iconst (v := 2) hx hb dX3_setWeight_27 (by decide) ?_
      refine mu_i (wr := []) (va_runV (As := [.int (2)]) (rest := []) ⟨hx, hb, hml, hown, hts⟩ (c_X3_no l D cI cZ ad (0) (N) (A) (R) (kw) (an) (nd) (wt) (B) (Hd) (O) (HL) (CO) (2)  (H).size) (cwV 1 hts gX3_setWeight_X3_no rfl rfl rfl (by decide +kernel) ⟨Nat.le_of_ble_eq_true rfl, Nat.le_of_ble_eq_true rfl⟩) (prw_V (q0 := 0) (ci := 3) (hP.sub (ws' := (wM cI cZ ad 0 N A R kw an nd wt B Hd O HL CO)) [0, 1, 2, 3, 4, 5, 6, 7, 8] rfl) (hD.sub (ws' := (wM cI cZ ad 0 N A R kw an nd wt B Hd O HL CO)) [0, 1, 2, 3, 4, 5, 6, 7, 8] (by decide) rfl) hK rfl rfl) rfl rfl hl.1 rfl (lv_room (Nat.le_of_ble_eq_true rfl)) dX3_setWeight_28 ⟨Nat.le_of_ble_eq_true rfl, Nat.le_of_ble_eq_true rfl⟩) hP hD hS hAp [0, 1, 2, 3, 4, 5, 6, 7, 8] [] rfl rfl (by decide) (by decide) (fun r_28 u_28 H locs hq_28 hP hD hS => ?_)
      obtain ⟨rfl, -⟩ := hq_28
      have hP : va_P D vwCl (wM cI cZ ad 2 N A R kw an nd wt B Hd O HL CO) H := hP
      have hD : va_D Ap (wM cI cZ ad 2 N A R kw an nd wt B Hd O HL CO) := hD
      exact mr_i (u := (2, wt)) hx hb hrt hlk dX3_setWeight_31 hS hP hD ⟨(by first | exact Or.inl ⟨c_10, rfl, rfl⟩ | exact Or.inr (Or.inl ⟨c_10, c_23, rfl, rfl⟩) | exact Or.inr (Or.inr ⟨c_10, c_23, rfl, j0, hj0, rfl, rfl, rfl⟩)), trivial⟩
  · skip
    have c_10 := bI_eq0 c_10
    refine lv_aload_n hx hb dX3_setWeight_13 rfl (lv_at hl 0 rfl) ?_
    refine lv_iconst (v := 1) hx hb dX3_setWeight_14 (by decide) ?_
    refine mu_i (wr := []) (va_runV (As := [.int (1)]) (rest := []) ⟨hx, hb, hml, hown, hts⟩ (c_X3_no l D cI cZ ad (0) (N) (A) (R) (kw) (an) (nd) (wt) (B) (Hd) (O) (HL) (CO) (1)  (H).size) (cwV 1 hts gX3_setWeight_X3_no rfl rfl rfl (by decide +kernel) ⟨Nat.le_of_ble_eq_true rfl, Nat.le_of_ble_eq_true rfl⟩) (prw_V (q0 := 0) (ci := 3) (hP.sub (ws' := (wM cI cZ ad 0 N A R kw an nd wt B Hd O HL CO)) [0, 1, 2, 3, 4, 5, 6, 7, 8] rfl) (hD.sub (ws' := (wM cI cZ ad 0 N A R kw an nd wt B Hd O HL CO)) [0, 1, 2, 3, 4, 5, 6, 7, 8] (by decide) rfl) hK rfl rfl) rfl rfl hl.1 rfl (lv_room (Nat.le_of_ble_eq_true rfl)) dX3_setWeight_15 ⟨Nat.le_of_ble_eq_true rfl, Nat.le_of_ble_eq_true rfl⟩) hP hD hS hAp [0, 1, 2, 3, 4, 5, 6, 7, 8] [] rfl rfl (by decide) (by decide) (fun r_15 u_15 H locs hq_15 hP hD hS => ?_)
    obtain ⟨rfl, -⟩ := hq_15
    have hP : va_P D vwCl (wM cI cZ ad 1 N A R kw an nd wt B Hd O HL CO) H := hP
    have hD : va_D Ap (wM cI cZ ad 1 N A R kw an nd wt B Hd O HL CO) := hD
    exact mr_i (u := (1, wt)) hx hb hrt hlk dX3_setWeight_18 hS hP hD ⟨(by first | exact Or.inl ⟨c_10, rfl, rfl⟩ | exact Or.inr (Or.inl ⟨c_10, c_23, rfl, rfl⟩) | exact Or.inr (Or.inr ⟨c_10, c_23, rfl, j0, hj0, rfl, rfl, rfl⟩)), trivial⟩
set_option maxHeartbeats 4000000 in
set_option maxRecDepth 100000 in
theorem c_X3_addRule (l : Launch) (D : va_G) (cI cZ : ClassId) (ad : Nat → Nat) (th : Int32) (N : Nat) (A : Nat) (R : Nat) (kw : Bool) (an : Nat → Int32) (nd : Nat → Int32) (wt : Nat → Int32) (B : Nat → Int32) (Hd : Nat → Int32) (O : Nat → Bool) (HL : Nat → Int32) (CO : Nat → Bool) (x0 : Int32) (y0 : Int32) (hn : N ≤ 24) (hR : R ≤ 40) (sz : Nat) : Met l yX3_addRule wsX3_addRule ({ frames := 1, cells := 0, slots := 0, locals := 21 }) (pcW D [(cI, .int), (cZ, .boolean)] sz (wM cI cZ ad th N A R kw an nd wt B Hd O HL CO) [.ref (ad 0), .int (x0), .int (y0)]) (va_Qi (fun (r9 : Int32) (u9 : (Int32) × (Nat → Int32) × (Nat → Int32) × (Nat → Bool) × (Nat) × (Bool)) => ((inS x0 N = false ∧ (u9.1) = 1 ∧ (u9.2.1) = B ∧ (u9.2.2.1) = Hd ∧ (u9.2.2.2.1) = O ∧ (u9.2.2.2.2.1) = R ∧ (u9.2.2.2.2.2) = kw) ∨ (inS x0 N = true ∧ ¬ y0 = -1 ∧ inR y0 N = false ∧ (u9.1) = 2 ∧ (u9.2.1) = B ∧ (u9.2.2.1) = Hd ∧ (u9.2.2.2.1) = O ∧ (u9.2.2.2.2.1) = R ∧ (u9.2.2.2.2.2) = kw) ∨ (inS x0 N = true ∧ (y0 = -1 ∨ inR y0 N = true) ∧ 40 ≤ R ∧ (u9.1) = 3 ∧ (u9.2.1) = B ∧ (u9.2.2.1) = Hd ∧ (u9.2.2.2.1) = O ∧ (u9.2.2.2.2.1) = R ∧ (u9.2.2.2.2.2) = kw) ∨ (inS x0 N = true ∧ (y0 = -1 ∨ inR y0 N = true) ∧ R < 40 ∧ (u9.1) = 0 ∧ r9 = nI R ∧ (u9.2.1) = upd B R x0 ∧ (u9.2.2.1) = upd Hd R y0 ∧ (u9.2.2.2.1) = updB O R true ∧ (u9.2.2.2.2.1) = R + 1 ∧ (u9.2.2.2.2.2) = false)) ∧ (True)) (wB D (va_A (wM cI cZ ad th N A R kw an nd wt B Hd O HL CO) sz) (fun u9 : (Int32) × (Nat → Int32) × (Nat → Int32) × (Nat → Bool) × (Nat) × (Bool) => (wM cI cZ ad (u9.1) N A (u9.2.2.2.2.1) (u9.2.2.2.2.2) an nd wt (u9.2.1) (u9.2.2.1) (u9.2.2.2.1) HL CO))) (va_A (wM cI cZ ad th N A R kw an nd wt B Hd O HL CO) sz)) 0 0 (va_A (wM cI cZ ad th N A R kw an nd wt B Hd O HL CO) sz) := by
  refine Met.ofW (cc := cX3_addRule) (maxL := 3) (ret := (some .int)) (by decide) rfl ?_
  intro p e s m args below meth c s₁ BB hml hv
  obtain ⟨rfl, hsz, hP, hK, hD0⟩ := hv
  have hx := BB.exec
  have hb := BB.bytes
  have hrt := BB.returns
  have hts := atoms_spec (ws := wsX3_addRule) BB.pre
  have hown : s.vm.findClass RX3 = some m.cls := findClass_of_methodNamed BB.named
  have hlk := BB.notSynchronized
  subst hsz
  have hD := hD0.self (sz := s.heap.size)
  generalize hAe : va_A (wM cI cZ ad th N A R kw an nd wt B Hd O HL CO) s.heap.size = Ap at hD ⊢
  have hAp : ∀ q : Nat, s.heap.size ≤ q → Ap q := fun q h => by rw [← hAe]; exact Or.inr h
  have hS : va_S Ap s.heap s.heap [] := va_S.rf
  have f19 := hts (.fieldLink RX3 19 "AssumptionKeeperModel" "bodies" "[I") (by decide +kernel)
  have f22 := hts (.fieldLink RX3 22 "AssumptionKeeperModel" "heads" "[I") (by decide +kernel)
  have f25 := hts (.fieldLink RX3 25 "AssumptionKeeperModel" "areOn" "[Z") (by decide +kernel)
  have f35 := hts (.fieldLink RX3 35 "AssumptionKeeperModel" "thrown" "I") (by decide +kernel)
  have f39 := hts (.fieldLink RX3 39 "AssumptionKeeperModel" "nodes" "I") (by decide +kernel)
  have f45 := hts (.fieldLink RX3 45 "AssumptionKeeperModel" "isKnown" "Z") (by decide +kernel)
  have f66 := hts (.fieldLink RX3 66 "AssumptionKeeperModel" "rules" "I") (by decide +kernel)
  have hin3 : ∀ w ∈ u_ws RX3 TX3 13, w ∈ wsX3_addRule := by decide +kernel
  have hl := lv_entry ([.ref (ad 0), .int (x0), .int (y0)]) (n := 3) (Nat.le_of_ble_eq_true rfl)
  rw [lg_entry_eq]
  generalize (lg_sl ([.ref (ad 0), .int (x0), .int (y0)]) ++ List.replicate (3 - (lg_sl ([.ref (ad 0), .int (x0), .int (y0)])).length) Slot.unset).toArray = ls at hl ⊢
  have hl : lv_has ls 3 [(0, .ref (ad 0)), (1, .int (x0)), (2, .int (y0))] := hl
  refine lv_aload_n hx hb dX3_addRule_0 rfl (lv_at hl 0 rfl) ?_
  refine lv_iconst (v := 0) hx hb dX3_addRule_1 (by decide) ?_
  refine va_put (D := D) (ci := 3) (v := .int (0)) (ty := .int) (C := RX3) (T := TX3) (N := 13) hx hb hts hin3 tyX3 tyX3_ok nmX3 hown hK.1 hP hD hS 0 rfl rfl 0 (by decide) f35 (fun _ h9 => h9) rfl (by decide +kernel) rfl rfl (Nat.le_of_ble_eq_true rfl) dX3_addRule_2 (fun H locs hP hD hS => ?_)
  have hP : va_P D vwCl (wM cI cZ ad 0 N A R kw an nd wt B Hd O HL CO) H := hP
  have hD : va_D Ap (wM cI cZ ad 0 N A R kw an nd wt B Hd O HL CO) := hD
  refine lv_iload_n hx hb dX3_addRule_5 rfl (lv_at hl 1 rfl) ?_
  refine lv_if_lt (tgt := 18) hx hb dX3_addRule_6 (by decide) (fun c_6 => ?_) (fun c_6 => ?_)
  · skip
    have hin0 : inS x0 N = false := by first | (simp [inS, c_6]; done) | (cases hq : inS x0 N with | false => rfl | true => exact absurd ((shr_0 hn c_6).mpr hq) c_15)
    refine lv_aload_n hx hb dX3_addRule_18 rfl (lv_at hl 0 rfl) ?_
    refine lv_iconst (v := 1) hx hb dX3_addRule_19 (by decide) ?_
    refine mu_i (wr := []) (va_runV (As := [.int (1)]) (rest := []) ⟨hx, hb, hml, hown, hts⟩ (c_X3_no l D cI cZ ad (0) (N) (A) (R) (kw) (an) (nd) (wt) (B) (Hd) (O) (HL) (CO) (1)  (H).size) (cwV 1 hts gX3_addRule_X3_no rfl rfl rfl (by decide +kernel) ⟨Nat.le_of_ble_eq_true rfl, Nat.le_of_ble_eq_true rfl⟩) (prw_V (q0 := 0) (ci := 3) (hP.sub (ws' := (wM cI cZ ad 0 N A R kw an nd wt B Hd O HL CO)) [0, 1, 2, 3, 4, 5, 6, 7, 8] rfl) (hD.sub (ws' := (wM cI cZ ad 0 N A R kw an nd wt B Hd O HL CO)) [0, 1, 2, 3, 4, 5, 6, 7, 8] (by decide) rfl) hK rfl rfl) rfl rfl hl.1 rfl (lv_room (Nat.le_of_ble_eq_true rfl)) dX3_addRule_20 ⟨Nat.le_of_ble_eq_true rfl, Nat.le_of_ble_eq_true rfl⟩) hP hD hS hAp [0, 1, 2, 3, 4, 5, 6, 7, 8] [] rfl rfl (by decide) (by decide) (fun r_20 u_20 H locs hq_20 hP hD hS => ?_)
    obtain ⟨rfl, -⟩ := hq_20
    have hP : va_P D vwCl (wM cI cZ ad 1 N A R kw an nd wt B Hd O HL CO) H := hP
    have hD : va_D Ap (wM cI cZ ad 1 N A R kw an nd wt B Hd O HL CO) := hD
    exact mr_i (u := (1, B, Hd, O, R, kw)) hx hb hrt hlk dX3_addRule_23 hS hP hD ⟨(Or.inl ⟨hin0, rfl, rfl, rfl, rfl, rfl, rfl⟩), trivial⟩
  · skip
    refine lv_iload_n hx hb dX3_addRule_9 rfl (lv_at hl 1 rfl) ?_
    refine lv_aload_n hx hb dX3_addRule_10 rfl (lv_at hl 0 rfl) ?_
    refine va_get (D := D) (ci := 3) (v := .int (nI (N))) (C := RX3) (T := TX3) (N := 13) hx hb hts hin3 hown hK.1 hP 0 rfl rfl 1 (by decide) f39 (fun _ h9 => h9) rfl dX3_addRule_11 ?_
    refine lv_ishr hx hb dX3_addRule_14 ?_
    refine lv_if_eq (tgt := 24) hx hb dX3_addRule_15 (by decide) (fun c_15 => ?_) (fun c_15 => ?_)
    · skip
      have hin1 : inS x0 N = true := (shr_0 hn c_6).mp c_15
      refine lv_iload_n hx hb dX3_addRule_24 rfl (lv_at hl 2 rfl) ?_
      refine lv_iconst (v := -1) hx hb dX3_addRule_25 (by decide) ?_
      refine lv_icmp_eq (tgt := 43) hx hb dX3_addRule_26 (by decide) (fun c_26 => ?_) (fun c_26 => ?_)
      · skip
        refine lv_aload_n hx hb dX3_addRule_43 rfl (lv_at hl 0 rfl) ?_
        refine va_get (D := D) (ci := 3) (v := .int (nI (R))) (C := RX3) (T := TX3) (N := 13) hx hb hts hin3 hown hK.1 hP 0 rfl rfl 6 (by decide) f66 (fun _ h9 => h9) rfl dX3_addRule_44 ?_
        refine lv_bipush (v := 40) hx hb dX3_addRule_47 (by decide) ?_
        refine lv_icmp_ne (tgt := 58) hx hb dX3_addRule_49 (by decide) (fun c_49 => ?_) (fun c_49 => ?_)
        · skip
          have c_49 := mt (qI_inj (a := R) (b := 40) (by omega) (by omega)).mpr c_49
          refine lv_aload_n hx hb dX3_addRule_58 rfl (lv_at hl 0 rfl) ?_
          refine va_get (D := D) (ci := 3) (v := .ref (ad 4)) (C := RX3) (T := TX3) (N := 13) hx hb hts hin3 hown hK.1 hP 0 rfl rfl 7 (by decide) f19 (fun _ h9 => h9) rfl dX3_addRule_59 ?_
          refine lv_aload_n hx hb dX3_addRule_62 rfl (lv_at hl 0 rfl) ?_
          refine va_get (D := D) (ci := 3) (v := .int (nI (R))) (C := RX3) (T := TX3) (N := 13) hx hb hts hin3 hown hK.1 hP 0 rfl rfl 6 (by decide) f66 (fun _ h9 => h9) rfl dX3_addRule_63 ?_
          refine lv_iload_n hx hb dX3_addRule_66 rfl (lv_at hl 1 rfl) ?_
          refine si_ (D := D) (f := B) (i := R) (x := x0) hx hb hK hP hD hS 4 0 rfl rfl (by omega) (by decide) dX3_addRule_67 (fun H locs hP hD hS => ?_)
          have hP : va_P D vwCl (wM cI cZ ad 0 N A R kw an nd wt (upd B (R) (x0)) Hd O HL CO) H := hP
          have hD : va_D Ap (wM cI cZ ad 0 N A R kw an nd wt (upd B (R) (x0)) Hd O HL CO) := hD
          refine lv_aload_n hx hb dX3_addRule_68 rfl (lv_at hl 0 rfl) ?_
          refine va_get (D := D) (ci := 3) (v := .ref (ad 5)) (C := RX3) (T := TX3) (N := 13) hx hb hts hin3 hown hK.1 hP 0 rfl rfl 8 (by decide) f22 (fun _ h9 => h9) rfl dX3_addRule_69 ?_
          refine lv_aload_n hx hb dX3_addRule_72 rfl (lv_at hl 0 rfl) ?_
          refine va_get (D := D) (ci := 3) (v := .int (nI (R))) (C := RX3) (T := TX3) (N := 13) hx hb hts hin3 hown hK.1 hP 0 rfl rfl 6 (by decide) f66 (fun _ h9 => h9) rfl dX3_addRule_73 ?_
          refine lv_iload_n hx hb dX3_addRule_76 rfl (lv_at hl 2 rfl) ?_
          refine si_ (D := D) (f := Hd) (i := R) (x := y0) hx hb hK hP hD hS 5 0 rfl rfl (by omega) (by decide) dX3_addRule_77 (fun H locs hP hD hS => ?_)
          have hP : va_P D vwCl (wM cI cZ ad 0 N A R kw an nd wt (upd B (R) (x0)) (upd Hd (R) (y0)) O HL CO) H := hP
          have hD : va_D Ap (wM cI cZ ad 0 N A R kw an nd wt (upd B (R) (x0)) (upd Hd (R) (y0)) O HL CO) := hD
          refine lv_aload_n hx hb dX3_addRule_78 rfl (lv_at hl 0 rfl) ?_
          refine va_get (D := D) (ci := 3) (v := .ref (ad 6)) (C := RX3) (T := TX3) (N := 13) hx hb hts hin3 hown hK.1 hP 0 rfl rfl 9 (by decide) f25 (fun _ h9 => h9) rfl dX3_addRule_79 ?_
          refine lv_aload_n hx hb dX3_addRule_82 rfl (lv_at hl 0 rfl) ?_
          refine va_get (D := D) (ci := 3) (v := .int (nI (R))) (C := RX3) (T := TX3) (N := 13) hx hb hts hin3 hown hK.1 hP 0 rfl rfl 6 (by decide) f66 (fun _ h9 => h9) rfl dX3_addRule_83 ?_
          refine lv_iconst (v := 1) hx hb dX3_addRule_86 (by decide) ?_
          refine sz_ (D := D) (f := O) (i := R) (x := true) hx hb hK hP hD hS 6 1 rfl rfl (by omega) (by decide) dX3_addRule_87 (fun H locs hP hD hS => ?_)
          have hP : va_P D vwCl (wM cI cZ ad 0 N A R kw an nd wt (upd B (R) (x0)) (upd Hd (R) (y0)) (updB O (R) (true)) HL CO) H := hP
          have hD : va_D Ap (wM cI cZ ad 0 N A R kw an nd wt (upd B (R) (x0)) (upd Hd (R) (y0)) (updB O (R) (true)) HL CO) := hD
          refine lv_aload_n hx hb dX3_addRule_88 rfl (lv_at hl 0 rfl) ?_
          refine lv_dup hx hb dX3_addRule_89 rfl ?_
          refine va_get (D := D) (ci := 3) (v := .int (nI (R))) (C := RX3) (T := TX3) (N := 13) hx hb hts hin3 hown hK.1 hP 0 rfl rfl 6 (by decide) f66 (fun _ h9 => h9) rfl dX3_addRule_90 ?_
          refine lv_iconst (v := 1) hx hb dX3_addRule_93 (by decide) ?_
          refine lv_iadd hx hb dX3_addRule_94 ?_
          rw [nI_1]
          refine va_put (D := D) (ci := 3) (v := .int (nI (R + 1))) (ty := .int) (C := RX3) (T := TX3) (N := 13) hx hb hts hin3 tyX3 tyX3_ok nmX3 hown hK.1 hP hD hS 0 rfl rfl 6 (by decide) f66 (fun _ h9 => h9) rfl (by decide +kernel) rfl rfl (Nat.le_of_ble_eq_true rfl) dX3_addRule_95 (fun H locs hP hD hS => ?_)
          have hP : va_P D vwCl (wM cI cZ ad 0 N A (R + 1) kw an nd wt (upd B (R) (x0)) (upd Hd (R) (y0)) (updB O (R) (true)) HL CO) H := hP
          have hD : va_D Ap (wM cI cZ ad 0 N A (R + 1) kw an nd wt (upd B (R) (x0)) (upd Hd (R) (y0)) (updB O (R) (true)) HL CO) := hD
          refine lv_aload_n hx hb dX3_addRule_98 rfl (lv_at hl 0 rfl) ?_
          refine lv_iconst (v := 0) hx hb dX3_addRule_99 (by decide) ?_
          refine va_put (D := D) (ci := 3) (v := .int (bI (false))) (ty := .boolean) (C := RX3) (T := TX3) (N := 13) hx hb hts hin3 tyX3 tyX3_ok nmX3 hown hK.1 hP hD hS 0 rfl rfl 10 (by decide) f45 (fun _ h9 => h9) rfl (by decide +kernel) (bI_nar _) rfl (Nat.le_of_ble_eq_true rfl) dX3_addRule_100 (fun H locs hP hD hS => ?_)
          have hP : va_P D vwCl (wM cI cZ ad 0 N A (R + 1) false an nd wt (upd B (R) (x0)) (upd Hd (R) (y0)) (updB O (R) (true)) HL CO) H := hP
          have hD : va_D Ap (wM cI cZ ad 0 N A (R + 1) false an nd wt (upd B (R) (x0)) (upd Hd (R) (y0)) (updB O (R) (true)) HL CO) := hD
          refine lv_aload_n hx hb dX3_addRule_103 rfl (lv_at hl 0 rfl) ?_
          refine va_get (D := D) (ci := 3) (v := .int (nI (R + 1))) (C := RX3) (T := TX3) (N := 13) hx hb hts hin3 hown hK.1 hP 0 rfl rfl 6 (by decide) f66 (fun _ h9 => h9) rfl dX3_addRule_104 ?_
          refine lv_iconst (v := 1) hx hb dX3_addRule_107 (by decide) ?_
          refine lv_isub hx hb dX3_addRule_108 ?_
          rw [nI_sub1 (by omega)]
          exact mr_i (u := (0, upd B (R) (x0), upd Hd (R) (y0), updB O (R) (true), R + 1, false)) hx hb hrt hlk dX3_addRule_109 hS hP hD ⟨(Or.inr (Or.inr (Or.inr ⟨hin1, by first | exact Or.inl c_26 | exact Or.inr c_34, by omega, rfl, rfl, rfl, rfl, rfl, rfl, rfl⟩))), trivial⟩
        · skip
          have c_49 := (qI_inj (a := R) (b := 40) (by omega) (by omega)).mp c_49
          refine lv_aload_n hx hb dX3_addRule_52 rfl (lv_at hl 0 rfl) ?_
          refine lv_iconst (v := 3) hx hb dX3_addRule_53 (by decide) ?_
          refine mu_i (wr := []) (va_runV (As := [.int (3)]) (rest := []) ⟨hx, hb, hml, hown, hts⟩ (c_X3_no l D cI cZ ad (0) (N) (A) (R) (kw) (an) (nd) (wt) (B) (Hd) (O) (HL) (CO) (3)  (H).size) (cwV 1 hts gX3_addRule_X3_no rfl rfl rfl (by decide +kernel) ⟨Nat.le_of_ble_eq_true rfl, Nat.le_of_ble_eq_true rfl⟩) (prw_V (q0 := 0) (ci := 3) (hP.sub (ws' := (wM cI cZ ad 0 N A R kw an nd wt B Hd O HL CO)) [0, 1, 2, 3, 4, 5, 6, 7, 8] rfl) (hD.sub (ws' := (wM cI cZ ad 0 N A R kw an nd wt B Hd O HL CO)) [0, 1, 2, 3, 4, 5, 6, 7, 8] (by decide) rfl) hK rfl rfl) rfl rfl hl.1 rfl (lv_room (Nat.le_of_ble_eq_true rfl)) dX3_addRule_54 ⟨Nat.le_of_ble_eq_true rfl, Nat.le_of_ble_eq_true rfl⟩) hP hD hS hAp [0, 1, 2, 3, 4, 5, 6, 7, 8] [] rfl rfl (by decide) (by decide) (fun r_54 u_54 H locs hq_54 hP hD hS => ?_)
          obtain ⟨rfl, -⟩ := hq_54
          have hP : va_P D vwCl (wM cI cZ ad 3 N A R kw an nd wt B Hd O HL CO) H := hP
          have hD : va_D Ap (wM cI cZ ad 3 N A R kw an nd wt B Hd O HL CO) := hD
          exact mr_i (u := (3, B, Hd, O, R, kw)) hx hb hrt hlk dX3_addRule_57 hS hP hD ⟨(Or.inr (Or.inr (Or.inl ⟨hin1, by first | exact Or.inl c_26 | exact Or.inr c_34, by omega, rfl, rfl, rfl, rfl, rfl, rfl⟩))), trivial⟩
      · skip
        refine lv_aload_n hx hb dX3_addRule_29 rfl (lv_at hl 0 rfl) ?_
        refine lv_iload_n hx hb dX3_addRule_30 rfl (lv_at hl 2 rfl) ?_
        refine pu_i (va_runV (As := [.int (y0)]) (rest := []) ⟨hx, hb, hml, hown, hts⟩ (c_X3_isNode l D cI cZ ad (0) (N) (A) (R) (kw) (an) (nd) (wt) (B) (Hd) (O) (HL) (CO) (y0) ) (cwV 1 hts gX3_addRule_X3_isNode rfl rfl rfl (by decide +kernel) ⟨Nat.le_of_ble_eq_true rfl, Nat.le_of_ble_eq_true rfl⟩) (pre_V (q0 := 0) (ci := 3) (hP.sub (ws' := (wM cI cZ ad 0 N A R kw an nd wt B Hd O HL CO)) [0, 1, 2, 3, 4, 5, 6, 7, 8] rfl) hK rfl rfl) rfl rfl hl.1 rfl (lv_room (Nat.le_of_ble_eq_true rfl)) dX3_addRule_31 ⟨Nat.zero_le _, Nat.zero_le _⟩) ?_
        refine lv_if_ne (tgt := 43) hx hb dX3_addRule_34 (by decide) (fun c_34 => ?_) (fun c_34 => ?_)
        · skip
          have c_34 := bI_ne0 c_34
          refine lv_aload_n hx hb dX3_addRule_43 rfl (lv_at hl 0 rfl) ?_
          refine va_get (D := D) (ci := 3) (v := .int (nI (R))) (C := RX3) (T := TX3) (N := 13) hx hb hts hin3 hown hK.1 hP 0 rfl rfl 6 (by decide) f66 (fun _ h9 => h9) rfl dX3_addRule_44 ?_
          refine lv_bipush (v := 40) hx hb dX3_addRule_47 (by decide) ?_
          refine lv_icmp_ne (tgt := 58) hx hb dX3_addRule_49 (by decide) (fun c_49 => ?_) (fun c_49 => ?_)
          · skip
            have c_49 := mt (qI_inj (a := R) (b := 40) (by omega) (by omega)).mpr c_49
            refine lv_aload_n hx hb dX3_addRule_58 rfl (lv_at hl 0 rfl) ?_
            refine va_get (D := D) (ci := 3) (v := .ref (ad 4)) (C := RX3) (T := TX3) (N := 13) hx hb hts hin3 hown hK.1 hP 0 rfl rfl 7 (by decide) f19 (fun _ h9 => h9) rfl dX3_addRule_59 ?_
            refine lv_aload_n hx hb dX3_addRule_62 rfl (lv_at hl 0 rfl) ?_
            refine va_get (D := D) (ci := 3) (v := .int (nI (R))) (C := RX3) (T := TX3) (N := 13) hx hb hts hin3 hown hK.1 hP 0 rfl rfl 6 (by decide) f66 (fun _ h9 => h9) rfl dX3_addRule_63 ?_
            refine lv_iload_n hx hb dX3_addRule_66 rfl (lv_at hl 1 rfl) ?_
            refine si_ (D := D) (f := B) (i := R) (x := x0) hx hb hK hP hD hS 4 0 rfl rfl (by omega) (by decide) dX3_addRule_67 (fun H locs hP hD hS => ?_)
            have hP : va_P D vwCl (wM cI cZ ad 0 N A R kw an nd wt (upd B (R) (x0)) Hd O HL CO) H := hP
            have hD : va_D Ap (wM cI cZ ad 0 N A R kw an nd wt (upd B (R) (x0)) Hd O HL CO) := hD
            refine lv_aload_n hx hb dX3_addRule_68 rfl (lv_at hl 0 rfl) ?_
            refine va_get (D := D) (ci := 3) (v := .ref (ad 5)) (C := RX3) (T := TX3) (N := 13) hx hb hts hin3 hown hK.1 hP 0 rfl rfl 8 (by decide) f22 (fun _ h9 => h9) rfl dX3_addRule_69 ?_
            refine lv_aload_n hx hb dX3_addRule_72 rfl (lv_at hl 0 rfl) ?_
            refine va_get (D := D) (ci := 3) (v := .int (nI (R))) (C := RX3) (T := TX3) (N := 13) hx hb hts hin3 hown hK.1 hP 0 rfl rfl 6 (by decide) f66 (fun _ h9 => h9) rfl dX3_addRule_73 ?_
            refine lv_iload_n hx hb dX3_addRule_76 rfl (lv_at hl 2 rfl) ?_
            refine si_ (D := D) (f := Hd) (i := R) (x := y0) hx hb hK hP hD hS 5 0 rfl rfl (by omega) (by decide) dX3_addRule_77 (fun H locs hP hD hS => ?_)
            have hP : va_P D vwCl (wM cI cZ ad 0 N A R kw an nd wt (upd B (R) (x0)) (upd Hd (R) (y0)) O HL CO) H := hP
            have hD : va_D Ap (wM cI cZ ad 0 N A R kw an nd wt (upd B (R) (x0)) (upd Hd (R) (y0)) O HL CO) := hD
            refine lv_aload_n hx hb dX3_addRule_78 rfl (lv_at hl 0 rfl) ?_
            refine va_get (D := D) (ci := 3) (v := .ref (ad 6)) (C := RX3) (T := TX3) (N := 13) hx hb hts hin3 hown hK.1 hP 0 rfl rfl 9 (by decide) f25 (fun _ h9 => h9) rfl dX3_addRule_79 ?_
            refine lv_aload_n hx hb dX3_addRule_82 rfl (lv_at hl 0 rfl) ?_
            refine va_get (D := D) (ci := 3) (v := .int (nI (R))) (C := RX3) (T := TX3) (N := 13) hx hb hts hin3 hown hK.1 hP 0 rfl rfl 6 (by decide) f66 (fun _ h9 => h9) rfl dX3_addRule_83 ?_
            refine lv_iconst (v := 1) hx hb dX3_addRule_86 (by decide) ?_
            refine sz_ (D := D) (f := O) (i := R) (x := true) hx hb hK hP hD hS 6 1 rfl rfl (by omega) (by decide) dX3_addRule_87 (fun H locs hP hD hS => ?_)
            have hP : va_P D vwCl (wM cI cZ ad 0 N A R kw an nd wt (upd B (R) (x0)) (upd Hd (R) (y0)) (updB O (R) (true)) HL CO) H := hP
            have hD : va_D Ap (wM cI cZ ad 0 N A R kw an nd wt (upd B (R) (x0)) (upd Hd (R) (y0)) (updB O (R) (true)) HL CO) := hD
            refine lv_aload_n hx hb dX3_addRule_88 rfl (lv_at hl 0 rfl) ?_
            refine lv_dup hx hb dX3_addRule_89 rfl ?_
            refine va_get (D := D) (ci := 3) (v := .int (nI (R))) (C := RX3) (T := TX3) (N := 13) hx hb hts hin3 hown hK.1 hP 0 rfl rfl 6 (by decide) f66 (fun _ h9 => h9) rfl dX3_addRule_90 ?_
            refine lv_iconst (v := 1) hx hb dX3_addRule_93 (by decide) ?_
            refine lv_iadd hx hb dX3_addRule_94 ?_
            rw [nI_1]
            refine va_put (D := D) (ci := 3) (v := .int (nI (R + 1))) (ty := .int) (C := RX3) (T := TX3) (N := 13) hx hb hts hin3 tyX3 tyX3_ok nmX3 hown hK.1 hP hD hS 0 rfl rfl 6 (by decide) f66 (fun _ h9 => h9) rfl (by decide +kernel) rfl rfl (Nat.le_of_ble_eq_true rfl) dX3_addRule_95 (fun H locs hP hD hS => ?_)
            have hP : va_P D vwCl (wM cI cZ ad 0 N A (R + 1) kw an nd wt (upd B (R) (x0)) (upd Hd (R) (y0)) (updB O (R) (true)) HL CO) H := hP
            have hD : va_D Ap (wM cI cZ ad 0 N A (R + 1) kw an nd wt (upd B (R) (x0)) (upd Hd (R) (y0)) (updB O (R) (true)) HL CO) := hD
            refine lv_aload_n hx hb dX3_addRule_98 rfl (lv_at hl 0 rfl) ?_
            refine lv_iconst (v := 0) hx hb dX3_addRule_99 (by decide) ?_
            refine va_put (D := D) (ci := 3) (v := .int (bI (false))) (ty := .boolean) (C := RX3) (T := TX3) (N := 13) hx hb hts hin3 tyX3 tyX3_ok nmX3 hown hK.1 hP hD hS 0 rfl rfl 10 (by decide) f45 (fun _ h9 => h9) rfl (by decide +kernel) (bI_nar _) rfl (Nat.le_of_ble_eq_true rfl) dX3_addRule_100 (fun H locs hP hD hS => ?_)
            have hP : va_P D vwCl (wM cI cZ ad 0 N A (R + 1) false an nd wt (upd B (R) (x0)) (upd Hd (R) (y0)) (updB O (R) (true)) HL CO) H := hP
            have hD : va_D Ap (wM cI cZ ad 0 N A (R + 1) false an nd wt (upd B (R) (x0)) (upd Hd (R) (y0)) (updB O (R) (true)) HL CO) := hD
            refine lv_aload_n hx hb dX3_addRule_103 rfl (lv_at hl 0 rfl) ?_
            refine va_get (D := D) (ci := 3) (v := .int (nI (R + 1))) (C := RX3) (T := TX3) (N := 13) hx hb hts hin3 hown hK.1 hP 0 rfl rfl 6 (by decide) f66 (fun _ h9 => h9) rfl dX3_addRule_104 ?_
            refine lv_iconst (v := 1) hx hb dX3_addRule_107 (by decide) ?_
            refine lv_isub hx hb dX3_addRule_108 ?_
            rw [nI_sub1 (by omega)]
            exact mr_i (u := (0, upd B (R) (x0), upd Hd (R) (y0), updB O (R) (true), R + 1, false)) hx hb hrt hlk dX3_addRule_109 hS hP hD ⟨(Or.inr (Or.inr (Or.inr ⟨hin1, by first | exact Or.inl c_26 | exact Or.inr c_34, by omega, rfl, rfl, rfl, rfl, rfl, rfl, rfl⟩))), trivial⟩
          · skip
            have c_49 := (qI_inj (a := R) (b := 40) (by omega) (by omega)).mp c_49
            refine lv_aload_n hx hb dX3_addRule_52 rfl (lv_at hl 0 rfl) ?_
            refine lv_iconst (v := 3) hx hb dX3_addRule_53 (by decide) ?_
            refine mu_i (wr := []) (va_runV (As := [.int (3)]) (rest := []) ⟨hx, hb, hml, hown, hts⟩ (c_X3_no l D cI cZ ad (0) (N) (A) (R) (kw) (an) (nd) (wt) (B) (Hd) (O) (HL) (CO) (3)  (H).size) (cwV 1 hts gX3_addRule_X3_no rfl rfl rfl (by decide +kernel) ⟨Nat.le_of_ble_eq_true rfl, Nat.le_of_ble_eq_true rfl⟩) (prw_V (q0 := 0) (ci := 3) (hP.sub (ws' := (wM cI cZ ad 0 N A R kw an nd wt B Hd O HL CO)) [0, 1, 2, 3, 4, 5, 6, 7, 8] rfl) (hD.sub (ws' := (wM cI cZ ad 0 N A R kw an nd wt B Hd O HL CO)) [0, 1, 2, 3, 4, 5, 6, 7, 8] (by decide) rfl) hK rfl rfl) rfl rfl hl.1 rfl (lv_room (Nat.le_of_ble_eq_true rfl)) dX3_addRule_54 ⟨Nat.le_of_ble_eq_true rfl, Nat.le_of_ble_eq_true rfl⟩) hP hD hS hAp [0, 1, 2, 3, 4, 5, 6, 7, 8] [] rfl rfl (by decide) (by decide) (fun r_54 u_54 H locs hq_54 hP hD hS => ?_)
            obtain ⟨rfl, -⟩ := hq_54
            have hP : va_P D vwCl (wM cI cZ ad 3 N A R kw an nd wt B Hd O HL CO) H := hP
            have hD : va_D Ap (wM cI cZ ad 3 N A R kw an nd wt B Hd O HL CO) := hD
            exact mr_i (u := (3, B, Hd, O, R, kw)) hx hb hrt hlk dX3_addRule_57 hS hP hD ⟨(Or.inr (Or.inr (Or.inl ⟨hin1, by first | exact Or.inl c_26 | exact Or.inr c_34, by omega, rfl, rfl, rfl, rfl, rfl, rfl⟩))), trivial⟩
        · skip
          have c_34 := bI_eq0 c_34
          refine lv_aload_n hx hb dX3_addRule_37 rfl (lv_at hl 0 rfl) ?_
          refine lv_iconst (v := 2) hx hb dX3_addRule_38 (by decide) ?_
          refine mu_i (wr := []) (va_runV (As := [.int (2)]) (rest := []) ⟨hx, hb, hml, hown, hts⟩ (c_X3_no l D cI cZ ad (0) (N) (A) (R) (kw) (an) (nd) (wt) (B) (Hd) (O) (HL) (CO) (2)  (H).size) (cwV 1 hts gX3_addRule_X3_no rfl rfl rfl (by decide +kernel) ⟨Nat.le_of_ble_eq_true rfl, Nat.le_of_ble_eq_true rfl⟩) (prw_V (q0 := 0) (ci := 3) (hP.sub (ws' := (wM cI cZ ad 0 N A R kw an nd wt B Hd O HL CO)) [0, 1, 2, 3, 4, 5, 6, 7, 8] rfl) (hD.sub (ws' := (wM cI cZ ad 0 N A R kw an nd wt B Hd O HL CO)) [0, 1, 2, 3, 4, 5, 6, 7, 8] (by decide) rfl) hK rfl rfl) rfl rfl hl.1 rfl (lv_room (Nat.le_of_ble_eq_true rfl)) dX3_addRule_39 ⟨Nat.le_of_ble_eq_true rfl, Nat.le_of_ble_eq_true rfl⟩) hP hD hS hAp [0, 1, 2, 3, 4, 5, 6, 7, 8] [] rfl rfl (by decide) (by decide) (fun r_39 u_39 H locs hq_39 hP hD hS => ?_)
          obtain ⟨rfl, -⟩ := hq_39
          have hP : va_P D vwCl (wM cI cZ ad 2 N A R kw an nd wt B Hd O HL CO) H := hP
          have hD : va_D Ap (wM cI cZ ad 2 N A R kw an nd wt B Hd O HL CO) := hD
          exact mr_i (u := (2, B, Hd, O, R, kw)) hx hb hrt hlk dX3_addRule_42 hS hP hD ⟨(Or.inr (Or.inl ⟨hin1, c_26, c_34, rfl, rfl, rfl, rfl, rfl, rfl⟩)), trivial⟩
    · skip
      have hin0 : inS x0 N = false := by first | (simp [inS, c_6]; done) | (cases hq : inS x0 N with | false => rfl | true => exact absurd ((shr_0 hn c_6).mpr hq) c_15)
      refine lv_aload_n hx hb dX3_addRule_18 rfl (lv_at hl 0 rfl) ?_
      refine lv_iconst (v := 1) hx hb dX3_addRule_19 (by decide) ?_
      refine mu_i (wr := []) (va_runV (As := [.int (1)]) (rest := []) ⟨hx, hb, hml, hown, hts⟩ (c_X3_no l D cI cZ ad (0) (N) (A) (R) (kw) (an) (nd) (wt) (B) (Hd) (O) (HL) (CO) (1)  (H).size) (cwV 1 hts gX3_addRule_X3_no rfl rfl rfl (by decide +kernel) ⟨Nat.le_of_ble_eq_true rfl, Nat.le_of_ble_eq_true rfl⟩) (prw_V (q0 := 0) (ci := 3) (hP.sub (ws' := (wM cI cZ ad 0 N A R kw an nd wt B Hd O HL CO)) [0, 1, 2, 3, 4, 5, 6, 7, 8] rfl) (hD.sub (ws' := (wM cI cZ ad 0 N A R kw an nd wt B Hd O HL CO)) [0, 1, 2, 3, 4, 5, 6, 7, 8] (by decide) rfl) hK rfl rfl) rfl rfl hl.1 rfl (lv_room (Nat.le_of_ble_eq_true rfl)) dX3_addRule_20 ⟨Nat.le_of_ble_eq_true rfl, Nat.le_of_ble_eq_true rfl⟩) hP hD hS hAp [0, 1, 2, 3, 4, 5, 6, 7, 8] [] rfl rfl (by decide) (by decide) (fun r_20 u_20 H locs hq_20 hP hD hS => ?_)
      obtain ⟨rfl, -⟩ := hq_20
      have hP : va_P D vwCl (wM cI cZ ad 1 N A R kw an nd wt B Hd O HL CO) H := hP
      have hD : va_D Ap (wM cI cZ ad 1 N A R kw an nd wt B Hd O HL CO) := hD
      exact mr_i (u := (1, B, Hd, O, R, kw)) hx hb hrt hlk dX3_addRule_23 hS hP hD ⟨(Or.inl ⟨hin0, rfl, rfl, rfl, rfl, rfl, rfl⟩), trivial⟩
set_option maxHeartbeats 4000000 in
set_option maxRecDepth 100000 in
theorem c_X3_turn (l : Launch) (D : va_G) (cI cZ : ClassId) (ad : Nat → Nat) (th : Int32) (N : Nat) (A : Nat) (R : Nat) (kw : Bool) (an : Nat → Int32) (nd : Nat → Int32) (wt : Nat → Int32) (B : Nat → Int32) (Hd : Nat → Int32) (O : Nat → Bool) (HL : Nat → Int32) (CO : Nat → Bool) (x0 : Int32) (b0 : Bool) (hR : R ≤ 40) (sz : Nat) : Met l yX3_turn wsX3_turn ({ frames := 0, cells := 0, slots := 0, locals := 0 }) (pcW D [(cI, .int), (cZ, .boolean)] sz (wM cI cZ ad th N A R kw an nd wt B Hd O HL CO) [.ref (ad 0), .int (x0), .int (bI (b0))]) (va_Qi (fun (r9 : Int32) (u9 : (Int32) × (Nat → Bool) × (Bool)) => ((inR x0 R = false ∧ (u9.1) = 1 ∧ (u9.2.1) = O ∧ (u9.2.2) = kw) ∨ (inR x0 R = true ∧ (u9.1) = 0 ∧ (u9.2.2) = false ∧ ∃ j, j < R ∧ x0 = nI j ∧ r9 = bI (O j) ∧ (u9.2.1) = updB O j b0)) ∧ (True)) (wB D (va_A (wM cI cZ ad th N A R kw an nd wt B Hd O HL CO) sz) (fun u9 : (Int32) × (Nat → Bool) × (Bool) => (wM cI cZ ad (u9.1) N A R (u9.2.2) an nd wt B Hd (u9.2.1) HL CO))) (va_A (wM cI cZ ad th N A R kw an nd wt B Hd O HL CO) sz)) 0 0 (va_A (wM cI cZ ad th N A R kw an nd wt B Hd O HL CO) sz) := by
  refine Met.ofW (cc := cX3_turn) (maxL := 4) (ret := (some .boolean)) (by decide) rfl ?_
  intro p e s m args below meth c s₁ BB hml hv
  obtain ⟨rfl, hsz, hP, hK, hD0⟩ := hv
  have hx := BB.exec
  have hb := BB.bytes
  have hrt := BB.returns
  have hts := atoms_spec (ws := wsX3_turn) BB.pre
  have hown : s.vm.findClass RX3 = some m.cls := findClass_of_methodNamed BB.named
  have hlk := BB.notSynchronized
  subst hsz
  have hD := hD0.self (sz := s.heap.size)
  generalize hAe : va_A (wM cI cZ ad th N A R kw an nd wt B Hd O HL CO) s.heap.size = Ap at hD ⊢
  have hAp : ∀ q : Nat, s.heap.size ≤ q → Ap q := fun q h => by rw [← hAe]; exact Or.inr h
  have hS : va_S Ap s.heap s.heap [] := va_S.rf
  have f25 := hts (.fieldLink RX3 25 "AssumptionKeeperModel" "areOn" "[Z") (by decide +kernel)
  have f35 := hts (.fieldLink RX3 35 "AssumptionKeeperModel" "thrown" "I") (by decide +kernel)
  have f45 := hts (.fieldLink RX3 45 "AssumptionKeeperModel" "isKnown" "Z") (by decide +kernel)
  have f66 := hts (.fieldLink RX3 66 "AssumptionKeeperModel" "rules" "I") (by decide +kernel)
  have hin3 : ∀ w ∈ u_ws RX3 TX3 13, w ∈ wsX3_turn := by decide +kernel
  have hl := lv_entry ([.ref (ad 0), .int (x0), .int (bI (b0))]) (n := 4) (Nat.le_of_ble_eq_true rfl)
  rw [lg_entry_eq]
  generalize (lg_sl ([.ref (ad 0), .int (x0), .int (bI (b0))]) ++ List.replicate (4 - (lg_sl ([.ref (ad 0), .int (x0), .int (bI (b0))])).length) Slot.unset).toArray = ls at hl ⊢
  have hl : lv_has ls 4 [(0, .ref (ad 0)), (1, .int (x0)), (2, .int (bI (b0)))] := hl
  refine lv_aload_n hx hb dX3_turn_0 rfl (lv_at hl 0 rfl) ?_
  refine lv_iload_n hx hb dX3_turn_1 rfl (lv_at hl 1 rfl) ?_
  refine lv_if_lt (tgt := 13) hx hb dX3_turn_2 (by decide) (fun c_2 => ?_) (fun c_2 => ?_)
  · skip
    refine lv_iconst (v := 1) hx hb dX3_turn_13 (by decide) ?_
    refine lv_goto (tgt := 18) hx hb dX3_turn_14 (by decide) ?_
    refine va_put (D := D) (ci := 3) (v := .int (1)) (ty := .int) (C := RX3) (T := TX3) (N := 13) hx hb hts hin3 tyX3 tyX3_ok nmX3 hown hK.1 hP hD hS 0 rfl rfl 0 (by decide) f35 (fun _ h9 => h9) rfl (by decide +kernel) rfl rfl (Nat.le_of_ble_eq_true rfl) dX3_turn_18 (fun H locs hP hD hS => ?_)
    have hP : va_P D vwCl (wM cI cZ ad 1 N A R kw an nd wt B Hd O HL CO) H := hP
    have hD : va_D Ap (wM cI cZ ad 1 N A R kw an nd wt B Hd O HL CO) := hD
    refine lv_aload_n hx hb dX3_turn_21 rfl (lv_at hl 0 rfl) ?_
    refine va_get (D := D) (ci := 3) (v := .int (1)) (C := RX3) (T := TX3) (N := 13) hx hb hts hin3 hown hK.1 hP 0 rfl rfl 0 (by decide) f35 (fun _ h9 => h9) rfl dX3_turn_22 ?_
    refine lv_if_eq (tgt := 30) hx hb dX3_turn_25 (by decide) (fun c_25 => ?_) (fun c_25 => ?_)
    · skip
      exact absurd c_25 (by decide)
    · skip
      refine lv_iconst (v := 0) hx hb dX3_turn_28 (by decide) ?_
      exact mr_z (v := false) (u := (1, O, kw)) hx hb hrt hlk dX3_turn_29 hS hP hD ⟨(Or.inl ⟨by first | (simp [inR, c_2]; done) | simp [inR, Int32.not_lt.mp c_10], rfl, rfl, rfl⟩), trivial⟩
  · skip
    refine lv_iload_n hx hb dX3_turn_5 rfl (lv_at hl 1 rfl) ?_
    refine lv_aload_n hx hb dX3_turn_6 rfl (lv_at hl 0 rfl) ?_
    refine va_get (D := D) (ci := 3) (v := .int (nI (R))) (C := RX3) (T := TX3) (N := 13) hx hb hts hin3 hown hK.1 hP 0 rfl rfl 6 (by decide) f66 (fun _ h9 => h9) rfl dX3_turn_7 ?_
    refine lv_icmp_lt (tgt := 17) hx hb dX3_turn_10 (by decide) (fun c_10 => ?_) (fun c_10 => ?_)
    · skip
      refine lv_iconst (v := 0) hx hb dX3_turn_17 (by decide) ?_
      refine va_put (D := D) (ci := 3) (v := .int (0)) (ty := .int) (C := RX3) (T := TX3) (N := 13) hx hb hts hin3 tyX3 tyX3_ok nmX3 hown hK.1 hP hD hS 0 rfl rfl 0 (by decide) f35 (fun _ h9 => h9) rfl (by decide +kernel) rfl rfl (Nat.le_of_ble_eq_true rfl) dX3_turn_18 (fun H locs hP hD hS => ?_)
      have hP : va_P D vwCl (wM cI cZ ad 0 N A R kw an nd wt B Hd O HL CO) H := hP
      have hD : va_D Ap (wM cI cZ ad 0 N A R kw an nd wt B Hd O HL CO) := hD
      refine lv_aload_n hx hb dX3_turn_21 rfl (lv_at hl 0 rfl) ?_
      refine va_get (D := D) (ci := 3) (v := .int (0)) (C := RX3) (T := TX3) (N := 13) hx hb hts hin3 hown hK.1 hP 0 rfl rfl 0 (by decide) f35 (fun _ h9 => h9) rfl dX3_turn_22 ?_
      refine lv_if_eq (tgt := 30) hx hb dX3_turn_25 (by decide) (fun c_25 => ?_) (fun c_25 => ?_)
      · skip
        have hok : inR x0 R = true := by simp [inR, c_2, Int32.not_le.mpr c_10]
        obtain ⟨j0, hj0, rfl⟩ := inR_nat hok
        refine lv_aload_n hx hb dX3_turn_30 rfl (lv_at hl 0 rfl) ?_
        refine va_get (D := D) (ci := 3) (v := .ref (ad 6)) (C := RX3) (T := TX3) (N := 13) hx hb hts hin3 hown hK.1 hP 0 rfl rfl 9 (by decide) f25 (fun _ h9 => h9) rfl dX3_turn_31 ?_
        refine lv_iload_n hx hb dX3_turn_34 rfl (lv_at hl 1 rfl) ?_
        refine az_ (D := D) (f := O) (i := j0) hx hb hK hP 6 1 rfl rfl (by omega) (by decide) dX3_turn_35 ?_
        refine lv_istore_n (lv' := [(3, .int (bI (O (j0)))), (0, .ref (ad 0)), (1, .int (nI (j0))), (2, .int (bI (b0)))]) hx hb dX3_turn_36 rfl hl (by decide) rfl (fun ls hl => ?_)
        refine lv_aload_n hx hb dX3_turn_37 rfl (lv_at hl 1 rfl) ?_
        refine va_get (D := D) (ci := 3) (v := .ref (ad 6)) (C := RX3) (T := TX3) (N := 13) hx hb hts hin3 hown hK.1 hP 0 rfl rfl 9 (by decide) f25 (fun _ h9 => h9) rfl dX3_turn_38 ?_
        refine lv_iload_n hx hb dX3_turn_41 rfl (lv_at hl 2 rfl) ?_
        refine lv_iload_n hx hb dX3_turn_42 rfl (lv_at hl 3 rfl) ?_
        refine sz_ (D := D) (f := O) (i := j0) (x := b0) hx hb hK hP hD hS 6 1 rfl rfl (by omega) (by decide) dX3_turn_43 (fun H locs hP hD hS => ?_)
        have hP : va_P D vwCl (wM cI cZ ad 0 N A R kw an nd wt B Hd (updB O (j0) (b0)) HL CO) H := hP
        have hD : va_D Ap (wM cI cZ ad 0 N A R kw an nd wt B Hd (updB O (j0) (b0)) HL CO) := hD
        refine lv_aload_n hx hb dX3_turn_44 rfl (lv_at hl 1 rfl) ?_
        refine lv_iconst (v := 0) hx hb dX3_turn_45 (by decide) ?_
        refine va_put (D := D) (ci := 3) (v := .int (bI (false))) (ty := .boolean) (C := RX3) (T := TX3) (N := 13) hx hb hts hin3 tyX3 tyX3_ok nmX3 hown hK.1 hP hD hS 0 rfl rfl 10 (by decide) f45 (fun _ h9 => h9) rfl (by decide +kernel) (bI_nar _) rfl (Nat.le_of_ble_eq_true rfl) dX3_turn_46 (fun H locs hP hD hS => ?_)
        have hP : va_P D vwCl (wM cI cZ ad 0 N A R false an nd wt B Hd (updB O (j0) (b0)) HL CO) H := hP
        have hD : va_D Ap (wM cI cZ ad 0 N A R false an nd wt B Hd (updB O (j0) (b0)) HL CO) := hD
        refine lv_iload_n hx hb dX3_turn_49 rfl (lv_at hl 0 rfl) ?_
        exact mr_z (v := O (j0)) (u := (0, updB O (j0) (b0), false)) hx hb hrt hlk dX3_turn_50 hS hP hD ⟨(Or.inr ⟨hok, rfl, rfl, j0, hj0, rfl, rfl, rfl⟩), trivial⟩
      · skip
        exact absurd c_25 (by decide)
    · skip
      refine lv_iconst (v := 1) hx hb dX3_turn_13 (by decide) ?_
      refine lv_goto (tgt := 18) hx hb dX3_turn_14 (by decide) ?_
      refine va_put (D := D) (ci := 3) (v := .int (1)) (ty := .int) (C := RX3) (T := TX3) (N := 13) hx hb hts hin3 tyX3 tyX3_ok nmX3 hown hK.1 hP hD hS 0 rfl rfl 0 (by decide) f35 (fun _ h9 => h9) rfl (by decide +kernel) rfl rfl (Nat.le_of_ble_eq_true rfl) dX3_turn_18 (fun H locs hP hD hS => ?_)
      have hP : va_P D vwCl (wM cI cZ ad 1 N A R kw an nd wt B Hd O HL CO) H := hP
      have hD : va_D Ap (wM cI cZ ad 1 N A R kw an nd wt B Hd O HL CO) := hD
      refine lv_aload_n hx hb dX3_turn_21 rfl (lv_at hl 0 rfl) ?_
      refine va_get (D := D) (ci := 3) (v := .int (1)) (C := RX3) (T := TX3) (N := 13) hx hb hts hin3 hown hK.1 hP 0 rfl rfl 0 (by decide) f35 (fun _ h9 => h9) rfl dX3_turn_22 ?_
      refine lv_if_eq (tgt := 30) hx hb dX3_turn_25 (by decide) (fun c_25 => ?_) (fun c_25 => ?_)
      · skip
        exact absurd c_25 (by decide)
      · skip
        refine lv_iconst (v := 0) hx hb dX3_turn_28 (by decide) ?_
        exact mr_z (v := false) (u := (1, O, kw)) hx hb hrt hlk dX3_turn_29 hS hP hD ⟨(Or.inl ⟨by first | (simp [inR, c_2]; done) | simp [inR, Int32.not_lt.mp c_10], rfl, rfl, rfl⟩), trivial⟩
set_option maxHeartbeats 4000000 in
set_option maxRecDepth 100000 in
theorem c_X3_drop (l : Launch) (D : va_G) (cI cZ : ClassId) (ad : Nat → Nat) (th : Int32) (N : Nat) (A : Nat) (R : Nat) (kw : Bool) (an : Nat → Int32) (nd : Nat → Int32) (wt : Nat → Int32) (B : Nat → Int32) (Hd : Nat → Int32) (O : Nat → Bool) (HL : Nat → Int32) (CO : Nat → Bool) (hR : R ≤ 40) (sz : Nat) : Met l yX3_drop wsX3_drop ({ frames := 1, cells := 0, slots := 0, locals := 21 }) (pcW D [(cI, .int), (cZ, .boolean)] sz (wM cI cZ ad th N A R kw an nd wt B Hd O HL CO) [.ref (ad 0)]) (va_Qi (fun (r9 : Int32) (u9 : (Int32) × (Nat) × (Bool)) => ((R = 0 ∧ (u9.1) = 1 ∧ (u9.2.1) = R ∧ (u9.2.2) = kw) ∨ (0 < R ∧ (u9.1) = 0 ∧ r9 = nI (R - 1) ∧ (u9.2.1) = R - 1 ∧ (u9.2.2) = false)) ∧ (True)) (wB D (va_A (wM cI cZ ad th N A R kw an nd wt B Hd O HL CO) sz) (fun u9 : (Int32) × (Nat) × (Bool) => (wM cI cZ ad (u9.1) N A (u9.2.1) (u9.2.2) an nd wt B Hd O HL CO))) (va_A (wM cI cZ ad th N A R kw an nd wt B Hd O HL CO) sz)) 0 0 (va_A (wM cI cZ ad th N A R kw an nd wt B Hd O HL CO) sz) := by
  refine Met.ofW (cc := cX3_drop) (maxL := 1) (ret := (some .int)) (by decide) rfl ?_
  intro p e s m args below meth c s₁ BB hml hv
  obtain ⟨rfl, hsz, hP, hK, hD0⟩ := hv
  have hx := BB.exec
  have hb := BB.bytes
  have hrt := BB.returns
  have hts := atoms_spec (ws := wsX3_drop) BB.pre
  have hown : s.vm.findClass RX3 = some m.cls := findClass_of_methodNamed BB.named
  have hlk := BB.notSynchronized
  subst hsz
  have hD := hD0.self (sz := s.heap.size)
  generalize hAe : va_A (wM cI cZ ad th N A R kw an nd wt B Hd O HL CO) s.heap.size = Ap at hD ⊢
  have hAp : ∀ q : Nat, s.heap.size ≤ q → Ap q := fun q h => by rw [← hAe]; exact Or.inr h
  have hS : va_S Ap s.heap s.heap [] := va_S.rf
  have f35 := hts (.fieldLink RX3 35 "AssumptionKeeperModel" "thrown" "I") (by decide +kernel)
  have f45 := hts (.fieldLink RX3 45 "AssumptionKeeperModel" "isKnown" "Z") (by decide +kernel)
  have f66 := hts (.fieldLink RX3 66 "AssumptionKeeperModel" "rules" "I") (by decide +kernel)
  have hin3 : ∀ w ∈ u_ws RX3 TX3 13, w ∈ wsX3_drop := by decide +kernel
  have hl := lv_entry ([.ref (ad 0)]) (n := 1) (Nat.le_of_ble_eq_true rfl)
  rw [lg_entry_eq]
  generalize (lg_sl ([.ref (ad 0)]) ++ List.replicate (1 - (lg_sl ([.ref (ad 0)])).length) Slot.unset).toArray = ls at hl ⊢
  have hl : lv_has ls 1 [(0, .ref (ad 0))] := hl
  refine lv_aload_n hx hb dX3_drop_0 rfl (lv_at hl 0 rfl) ?_
  refine lv_iconst (v := 0) hx hb dX3_drop_1 (by decide) ?_
  refine va_put (D := D) (ci := 3) (v := .int (0)) (ty := .int) (C := RX3) (T := TX3) (N := 13) hx hb hts hin3 tyX3 tyX3_ok nmX3 hown hK.1 hP hD hS 0 rfl rfl 0 (by decide) f35 (fun _ h9 => h9) rfl (by decide +kernel) rfl rfl (Nat.le_of_ble_eq_true rfl) dX3_drop_2 (fun H locs hP hD hS => ?_)
  have hP : va_P D vwCl (wM cI cZ ad 0 N A R kw an nd wt B Hd O HL CO) H := hP
  have hD : va_D Ap (wM cI cZ ad 0 N A R kw an nd wt B Hd O HL CO) := hD
  refine lv_aload_n hx hb dX3_drop_5 rfl (lv_at hl 0 rfl) ?_
  refine va_get (D := D) (ci := 3) (v := .int (nI (R))) (C := RX3) (T := TX3) (N := 13) hx hb hts hin3 hown hK.1 hP 0 rfl rfl 6 (by decide) f66 (fun _ h9 => h9) rfl dX3_drop_6 ?_
  refine lv_if_ne (tgt := 18) hx hb dX3_drop_9 (by decide) (fun c_9 => ?_) (fun c_9 => ?_)
  · skip
    have c_9 := q0_ne (a := R) (by omega) c_9
    refine lv_aload_n hx hb dX3_drop_18 rfl (lv_at hl 0 rfl) ?_
    refine lv_dup hx hb dX3_drop_19 rfl ?_
    refine va_get (D := D) (ci := 3) (v := .int (nI (R))) (C := RX3) (T := TX3) (N := 13) hx hb hts hin3 hown hK.1 hP 0 rfl rfl 6 (by decide) f66 (fun _ h9 => h9) rfl dX3_drop_20 ?_
    refine lv_iconst (v := 1) hx hb dX3_drop_23 (by decide) ?_
    refine lv_isub hx hb dX3_drop_24 ?_
    rw [nI_sub1 (by omega)]
    refine va_put (D := D) (ci := 3) (v := .int (nI (R - 1))) (ty := .int) (C := RX3) (T := TX3) (N := 13) hx hb hts hin3 tyX3 tyX3_ok nmX3 hown hK.1 hP hD hS 0 rfl rfl 6 (by decide) f66 (fun _ h9 => h9) rfl (by decide +kernel) rfl rfl (Nat.le_of_ble_eq_true rfl) dX3_drop_25 (fun H locs hP hD hS => ?_)
    have hP : va_P D vwCl (wM cI cZ ad 0 N A (R - 1) kw an nd wt B Hd O HL CO) H := hP
    have hD : va_D Ap (wM cI cZ ad 0 N A (R - 1) kw an nd wt B Hd O HL CO) := hD
    refine lv_aload_n hx hb dX3_drop_28 rfl (lv_at hl 0 rfl) ?_
    refine lv_iconst (v := 0) hx hb dX3_drop_29 (by decide) ?_
    refine va_put (D := D) (ci := 3) (v := .int (bI (false))) (ty := .boolean) (C := RX3) (T := TX3) (N := 13) hx hb hts hin3 tyX3 tyX3_ok nmX3 hown hK.1 hP hD hS 0 rfl rfl 10 (by decide) f45 (fun _ h9 => h9) rfl (by decide +kernel) (bI_nar _) rfl (Nat.le_of_ble_eq_true rfl) dX3_drop_30 (fun H locs hP hD hS => ?_)
    have hP : va_P D vwCl (wM cI cZ ad 0 N A (R - 1) false an nd wt B Hd O HL CO) H := hP
    have hD : va_D Ap (wM cI cZ ad 0 N A (R - 1) false an nd wt B Hd O HL CO) := hD
    refine lv_aload_n hx hb dX3_drop_33 rfl (lv_at hl 0 rfl) ?_
    refine va_get (D := D) (ci := 3) (v := .int (nI (R - 1))) (C := RX3) (T := TX3) (N := 13) hx hb hts hin3 hown hK.1 hP 0 rfl rfl 6 (by decide) f66 (fun _ h9 => h9) rfl dX3_drop_34 ?_
    exact mr_i (u := (0, R - 1, false)) hx hb hrt hlk dX3_drop_37 hS hP hD ⟨(by have h9 := c_9; first | exact Or.inl ⟨h9, rfl, rfl, rfl⟩ | exact Or.inr ⟨by omega, rfl, rfl, rfl, rfl⟩), trivial⟩
  · skip
    have c_9 := q0_eq (a := R) (by omega) c_9
    refine lv_aload_n hx hb dX3_drop_12 rfl (lv_at hl 0 rfl) ?_
    refine lv_iconst (v := 1) hx hb dX3_drop_13 (by decide) ?_
    refine mu_i (wr := []) (va_runV (As := [.int (1)]) (rest := []) ⟨hx, hb, hml, hown, hts⟩ (c_X3_no l D cI cZ ad (0) (N) (A) (R) (kw) (an) (nd) (wt) (B) (Hd) (O) (HL) (CO) (1)  (H).size) (cwV 1 hts gX3_drop_X3_no rfl rfl rfl (by decide +kernel) ⟨Nat.le_of_ble_eq_true rfl, Nat.le_of_ble_eq_true rfl⟩) (prw_V (q0 := 0) (ci := 3) (hP.sub (ws' := (wM cI cZ ad 0 N A R kw an nd wt B Hd O HL CO)) [0, 1, 2, 3, 4, 5, 6, 7, 8] rfl) (hD.sub (ws' := (wM cI cZ ad 0 N A R kw an nd wt B Hd O HL CO)) [0, 1, 2, 3, 4, 5, 6, 7, 8] (by decide) rfl) hK rfl rfl) rfl rfl hl.1 rfl (lv_room (Nat.le_of_ble_eq_true rfl)) dX3_drop_14 ⟨Nat.le_of_ble_eq_true rfl, Nat.le_of_ble_eq_true rfl⟩) hP hD hS hAp [0, 1, 2, 3, 4, 5, 6, 7, 8] [] rfl rfl (by decide) (by decide) (fun r_14 u_14 H locs hq_14 hP hD hS => ?_)
    obtain ⟨rfl, -⟩ := hq_14
    have hP : va_P D vwCl (wM cI cZ ad 1 N A R kw an nd wt B Hd O HL CO) H := hP
    have hD : va_D Ap (wM cI cZ ad 1 N A R kw an nd wt B Hd O HL CO) := hD
    exact mr_i (u := (1, R, kw)) hx hb hrt hlk dX3_drop_17 hS hP hD ⟨(by have h9 := c_9; first | exact Or.inl ⟨h9, rfl, rfl, rfl⟩ | exact Or.inr ⟨by omega, rfl, rfl, rfl, rfl⟩), trivial⟩
set_option maxHeartbeats 4000000 in
set_option maxRecDepth 100000 in
theorem c_X3_nodeCount (l : Launch) (D : va_G) (cI cZ : ClassId) (ad : Nat → Nat) (th : Int32) (N : Nat) (A : Nat) (R : Nat) (kw : Bool) (an : Nat → Int32) (nd : Nat → Int32) (wt : Nat → Int32) (B : Nat → Int32) (Hd : Nat → Int32) (O : Nat → Bool) (HL : Nat → Int32) (CO : Nat → Bool) (sz : Nat) : Met l yX3_nodeCount wsX3_nodeCount ({ frames := 0, cells := 0, slots := 0, locals := 0 }) (pcW D [(cI, .int), (cZ, .boolean)] sz (wM cI cZ ad th N A R kw an nd wt B Hd O HL CO) [.ref (ad 0)]) (va_Qi (fun (r9 : Int32) (u9 : Unit) => (r9 = nI (N)) ∧ (True)) (wB D (va_A (wM cI cZ ad th N A R kw an nd wt B Hd O HL CO) sz) (fun u9 : Unit => (wM cI cZ ad 0 N A R kw an nd wt B Hd O HL CO))) (va_A (wM cI cZ ad th N A R kw an nd wt B Hd O HL CO) sz)) 0 0 (va_A (wM cI cZ ad th N A R kw an nd wt B Hd O HL CO) sz) := by
  refine Met.ofW (cc := cX3_nodeCount) (maxL := 1) (ret := (some .int)) (by decide) rfl ?_
  intro p e s m args below meth c s₁ BB hml hv
  obtain ⟨rfl, hsz, hP, hK, hD0⟩ := hv
  have hx := BB.exec
  have hb := BB.bytes
  have hrt := BB.returns
  have hts := atoms_spec (ws := wsX3_nodeCount) BB.pre
  have hown : s.vm.findClass RX3 = some m.cls := findClass_of_methodNamed BB.named
  have hlk := BB.notSynchronized
  subst hsz
  have hD := hD0.self (sz := s.heap.size)
  generalize hAe : va_A (wM cI cZ ad th N A R kw an nd wt B Hd O HL CO) s.heap.size = Ap at hD ⊢
  have hAp : ∀ q : Nat, s.heap.size ≤ q → Ap q := fun q h => by rw [← hAe]; exact Or.inr h
  have hS : va_S Ap s.heap s.heap [] := va_S.rf
  have f35 := hts (.fieldLink RX3 35 "AssumptionKeeperModel" "thrown" "I") (by decide +kernel)
  have f39 := hts (.fieldLink RX3 39 "AssumptionKeeperModel" "nodes" "I") (by decide +kernel)
  have hin3 : ∀ w ∈ u_ws RX3 TX3 13, w ∈ wsX3_nodeCount := by decide +kernel
  have hl := lv_entry ([.ref (ad 0)]) (n := 1) (Nat.le_of_ble_eq_true rfl)
  rw [lg_entry_eq]
  generalize (lg_sl ([.ref (ad 0)]) ++ List.replicate (1 - (lg_sl ([.ref (ad 0)])).length) Slot.unset).toArray = ls at hl ⊢
  have hl : lv_has ls 1 [(0, .ref (ad 0))] := hl
  refine lv_aload_n hx hb dX3_nodeCount_0 rfl (lv_at hl 0 rfl) ?_
  refine lv_iconst (v := 0) hx hb dX3_nodeCount_1 (by decide) ?_
  refine va_put (D := D) (ci := 3) (v := .int (0)) (ty := .int) (C := RX3) (T := TX3) (N := 13) hx hb hts hin3 tyX3 tyX3_ok nmX3 hown hK.1 hP hD hS 0 rfl rfl 0 (by decide) f35 (fun _ h9 => h9) rfl (by decide +kernel) rfl rfl (Nat.le_of_ble_eq_true rfl) dX3_nodeCount_2 (fun H locs hP hD hS => ?_)
  have hP : va_P D vwCl (wM cI cZ ad 0 N A R kw an nd wt B Hd O HL CO) H := hP
  have hD : va_D Ap (wM cI cZ ad 0 N A R kw an nd wt B Hd O HL CO) := hD
  refine lv_aload_n hx hb dX3_nodeCount_5 rfl (lv_at hl 0 rfl) ?_
  refine va_get (D := D) (ci := 3) (v := .int (nI (N))) (C := RX3) (T := TX3) (N := 13) hx hb hts hin3 hown hK.1 hP 0 rfl rfl 1 (by decide) f39 (fun _ h9 => h9) rfl dX3_nodeCount_6 ?_
  exact mr_i (u := ()) hx hb hrt hlk dX3_nodeCount_9 hS hP hD ⟨(by first | rfl | (simp []; done) | (simp only []; rfl) | (simp_all []; done)), trivial⟩
set_option maxHeartbeats 4000000 in
set_option maxRecDepth 100000 in
theorem c_X3_assumptionCount (l : Launch) (D : va_G) (cI cZ : ClassId) (ad : Nat → Nat) (th : Int32) (N : Nat) (A : Nat) (R : Nat) (kw : Bool) (an : Nat → Int32) (nd : Nat → Int32) (wt : Nat → Int32) (B : Nat → Int32) (Hd : Nat → Int32) (O : Nat → Bool) (HL : Nat → Int32) (CO : Nat → Bool) (sz : Nat) : Met l yX3_assumptionCount wsX3_assumptionCount ({ frames := 0, cells := 0, slots := 0, locals := 0 }) (pcW D [(cI, .int), (cZ, .boolean)] sz (wM cI cZ ad th N A R kw an nd wt B Hd O HL CO) [.ref (ad 0)]) (va_Qi (fun (r9 : Int32) (u9 : Unit) => (r9 = nI (A)) ∧ (True)) (wB D (va_A (wM cI cZ ad th N A R kw an nd wt B Hd O HL CO) sz) (fun u9 : Unit => (wM cI cZ ad 0 N A R kw an nd wt B Hd O HL CO))) (va_A (wM cI cZ ad th N A R kw an nd wt B Hd O HL CO) sz)) 0 0 (va_A (wM cI cZ ad th N A R kw an nd wt B Hd O HL CO) sz) := by
  refine Met.ofW (cc := cX3_assumptionCount) (maxL := 1) (ret := (some .int)) (by decide) rfl ?_
  intro p e s m args below meth c s₁ BB hml hv
  obtain ⟨rfl, hsz, hP, hK, hD0⟩ := hv
  have hx := BB.exec
  have hb := BB.bytes
  have hrt := BB.returns
  have hts := atoms_spec (ws := wsX3_assumptionCount) BB.pre
  have hown : s.vm.findClass RX3 = some m.cls := findClass_of_methodNamed BB.named
  have hlk := BB.notSynchronized
  subst hsz
  have hD := hD0.self (sz := s.heap.size)
  generalize hAe : va_A (wM cI cZ ad th N A R kw an nd wt B Hd O HL CO) s.heap.size = Ap at hD ⊢
  have hAp : ∀ q : Nat, s.heap.size ≤ q → Ap q := fun q h => by rw [← hAe]; exact Or.inr h
  have hS : va_S Ap s.heap s.heap [] := va_S.rf
  have f35 := hts (.fieldLink RX3 35 "AssumptionKeeperModel" "thrown" "I") (by decide +kernel)
  have f42 := hts (.fieldLink RX3 42 "AssumptionKeeperModel" "assumptions" "I") (by decide +kernel)
  have hin3 : ∀ w ∈ u_ws RX3 TX3 13, w ∈ wsX3_assumptionCount := by decide +kernel
  have hl := lv_entry ([.ref (ad 0)]) (n := 1) (Nat.le_of_ble_eq_true rfl)
  rw [lg_entry_eq]
  generalize (lg_sl ([.ref (ad 0)]) ++ List.replicate (1 - (lg_sl ([.ref (ad 0)])).length) Slot.unset).toArray = ls at hl ⊢
  have hl : lv_has ls 1 [(0, .ref (ad 0))] := hl
  refine lv_aload_n hx hb dX3_assumptionCount_0 rfl (lv_at hl 0 rfl) ?_
  refine lv_iconst (v := 0) hx hb dX3_assumptionCount_1 (by decide) ?_
  refine va_put (D := D) (ci := 3) (v := .int (0)) (ty := .int) (C := RX3) (T := TX3) (N := 13) hx hb hts hin3 tyX3 tyX3_ok nmX3 hown hK.1 hP hD hS 0 rfl rfl 0 (by decide) f35 (fun _ h9 => h9) rfl (by decide +kernel) rfl rfl (Nat.le_of_ble_eq_true rfl) dX3_assumptionCount_2 (fun H locs hP hD hS => ?_)
  have hP : va_P D vwCl (wM cI cZ ad 0 N A R kw an nd wt B Hd O HL CO) H := hP
  have hD : va_D Ap (wM cI cZ ad 0 N A R kw an nd wt B Hd O HL CO) := hD
  refine lv_aload_n hx hb dX3_assumptionCount_5 rfl (lv_at hl 0 rfl) ?_
  refine va_get (D := D) (ci := 3) (v := .int (nI (A))) (C := RX3) (T := TX3) (N := 13) hx hb hts hin3 hown hK.1 hP 0 rfl rfl 3 (by decide) f42 (fun _ h9 => h9) rfl dX3_assumptionCount_6 ?_
  exact mr_i (u := ()) hx hb hrt hlk dX3_assumptionCount_9 hS hP hD ⟨(by first | rfl | (simp []; done) | (simp only []; rfl) | (simp_all []; done)), trivial⟩
set_option maxHeartbeats 4000000 in
set_option maxRecDepth 100000 in
theorem c_X3_thrown (l : Launch) (D : va_G) (cI cZ : ClassId) (ad : Nat → Nat) (th : Int32) (N : Nat) (A : Nat) (R : Nat) (kw : Bool) (an : Nat → Int32) (nd : Nat → Int32) (wt : Nat → Int32) (B : Nat → Int32) (Hd : Nat → Int32) (O : Nat → Bool) (HL : Nat → Int32) (CO : Nat → Bool) : Met l yX3_thrown wsX3_thrown (({ frames := 0, cells := 0, slots := 0, locals := 0 })) (pcP D [(cI, .int), (cZ, .boolean)] (wM cI cZ ad th N A R kw an nd wt B Hd O HL CO) [.ref (ad 0)]) (vp_Si (fun v => v = th)) 0 0 (fun _ => False) := by
  refine Met.ofW (cc := cX3_thrown) (maxL := 1) (ret := (some .int)) (by decide) rfl ?_
  intro p e s m args below meth c s₁ BB hml hv
  obtain ⟨rfl, hP, hK⟩ := hv
  have hx := BB.exec
  have hb := BB.bytes
  have hrt := BB.returns
  have hts := atoms_spec (ws := wsX3_thrown) BB.pre
  have hown : s.vm.findClass RX3 = some m.cls := findClass_of_methodNamed BB.named
  have hlk := BB.notSynchronized
  have f35 := hts (.fieldLink RX3 35 "AssumptionKeeperModel" "thrown" "I") (by decide +kernel)
  have hin3 : ∀ w ∈ u_ws RX3 TX3 13, w ∈ wsX3_thrown := by decide +kernel
  have hl := lv_entry ([.ref (ad 0)]) (n := 1) (Nat.le_of_ble_eq_true rfl)
  rw [lg_entry_eq]
  generalize (lg_sl ([.ref (ad 0)]) ++ List.replicate (1 - (lg_sl ([.ref (ad 0)])).length) Slot.unset).toArray = ls at hl ⊢
  have hl : lv_has ls 1 [(0, .ref (ad 0))] := hl
  refine lv_aload_n hx hb dX3_thrown_0 rfl (lv_at hl 0 rfl) ?_
  refine va_get (D := D) (ci := 3) (v := .int (th)) (C := RX3) (T := TX3) (N := 13) hx hb hts hin3 hown hK.1 hP 0 rfl rfl 0 (by decide) f35 (fun _ h9 => h9) rfl dX3_thrown_1 ?_
  exact ri_ hx hb hrt hlk dX3_thrown_4 (by first | rfl | (simp []; done) | (simp only []; rfl) | (simp_all []; done))
set_option maxHeartbeats 4000000 in
set_option maxRecDepth 100000 in
theorem c_X3_assumptionOf (l : Launch) (D : va_G) (cI cZ : ClassId) (ad : Nat → Nat) (th : Int32) (N : Nat) (A : Nat) (R : Nat) (kw : Bool) (an : Nat → Int32) (nd : Nat → Int32) (wt : Nat → Int32) (B : Nat → Int32) (Hd : Nat → Int32) (O : Nat → Bool) (HL : Nat → Int32) (CO : Nat → Bool) (x0 : Int32) (hn : N ≤ 24) (sz : Nat) : Met l yX3_assumptionOf wsX3_assumptionOf ({ frames := 1, cells := 0, slots := 0, locals := 21 }) (pcW D [(cI, .int), (cZ, .boolean)] sz (wM cI cZ ad th N A R kw an nd wt B Hd O HL CO) [.ref (ad 0), .int (x0)]) (va_Qi (fun (r9 : Int32) (u9 : (Int32)) => ((inR x0 N = false ∧ u9 = 1) ∨ (inR x0 N = true ∧ u9 = 0 ∧ ∃ j, j < N ∧ x0 = nI j ∧ r9 = an j)) ∧ (True)) (wB D (va_A (wM cI cZ ad th N A R kw an nd wt B Hd O HL CO) sz) (fun u9 : (Int32) => (wM cI cZ ad u9 N A R kw an nd wt B Hd O HL CO))) (va_A (wM cI cZ ad th N A R kw an nd wt B Hd O HL CO) sz)) 0 0 (va_A (wM cI cZ ad th N A R kw an nd wt B Hd O HL CO) sz) := by
  refine Met.ofW (cc := cX3_assumptionOf) (maxL := 2) (ret := (some .int)) (by decide) rfl ?_
  intro p e s m args below meth c s₁ BB hml hv
  obtain ⟨rfl, hsz, hP, hK, hD0⟩ := hv
  have hx := BB.exec
  have hb := BB.bytes
  have hrt := BB.returns
  have hts := atoms_spec (ws := wsX3_assumptionOf) BB.pre
  have hown : s.vm.findClass RX3 = some m.cls := findClass_of_methodNamed BB.named
  have hlk := BB.notSynchronized
  subst hsz
  have hD := hD0.self (sz := s.heap.size)
  generalize hAe : va_A (wM cI cZ ad th N A R kw an nd wt B Hd O HL CO) s.heap.size = Ap at hD ⊢
  have hAp : ∀ q : Nat, s.heap.size ≤ q → Ap q := fun q h => by rw [← hAe]; exact Or.inr h
  have hS : va_S Ap s.heap s.heap [] := va_S.rf
  have f9 := hts (.fieldLink RX3 9 "AssumptionKeeperModel" "assumptionNumbers" "[I") (by decide +kernel)
  have f35 := hts (.fieldLink RX3 35 "AssumptionKeeperModel" "thrown" "I") (by decide +kernel)
  have hin3 : ∀ w ∈ u_ws RX3 TX3 13, w ∈ wsX3_assumptionOf := by decide +kernel
  have hl := lv_entry ([.ref (ad 0), .int (x0)]) (n := 2) (Nat.le_of_ble_eq_true rfl)
  rw [lg_entry_eq]
  generalize (lg_sl ([.ref (ad 0), .int (x0)]) ++ List.replicate (2 - (lg_sl ([.ref (ad 0), .int (x0)])).length) Slot.unset).toArray = ls at hl ⊢
  have hl : lv_has ls 2 [(0, .ref (ad 0)), (1, .int (x0))] := hl
  refine lv_aload_n hx hb dX3_assumptionOf_0 rfl (lv_at hl 0 rfl) ?_
  refine lv_iconst (v := 0) hx hb dX3_assumptionOf_1 (by decide) ?_
  refine va_put (D := D) (ci := 3) (v := .int (0)) (ty := .int) (C := RX3) (T := TX3) (N := 13) hx hb hts hin3 tyX3 tyX3_ok nmX3 hown hK.1 hP hD hS 0 rfl rfl 0 (by decide) f35 (fun _ h9 => h9) rfl (by decide +kernel) rfl rfl (Nat.le_of_ble_eq_true rfl) dX3_assumptionOf_2 (fun H locs hP hD hS => ?_)
  have hP : va_P D vwCl (wM cI cZ ad 0 N A R kw an nd wt B Hd O HL CO) H := hP
  have hD : va_D Ap (wM cI cZ ad 0 N A R kw an nd wt B Hd O HL CO) := hD
  refine lv_aload_n hx hb dX3_assumptionOf_5 rfl (lv_at hl 0 rfl) ?_
  refine lv_iload_n hx hb dX3_assumptionOf_6 rfl (lv_at hl 1 rfl) ?_
  refine pu_i (va_runV (As := [.int (x0)]) (rest := []) ⟨hx, hb, hml, hown, hts⟩ (c_X3_isNode l D cI cZ ad (0) (N) (A) (R) (kw) (an) (nd) (wt) (B) (Hd) (O) (HL) (CO) (x0) ) (cwV 1 hts gX3_assumptionOf_X3_isNode rfl rfl rfl (by decide +kernel) ⟨Nat.le_of_ble_eq_true rfl, Nat.le_of_ble_eq_true rfl⟩) (pre_V (q0 := 0) (ci := 3) (hP.sub (ws' := (wM cI cZ ad 0 N A R kw an nd wt B Hd O HL CO)) [0, 1, 2, 3, 4, 5, 6, 7, 8] rfl) hK rfl rfl) rfl rfl hl.1 rfl (lv_room (Nat.le_of_ble_eq_true rfl)) dX3_assumptionOf_7 ⟨Nat.zero_le _, Nat.zero_le _⟩) ?_
  refine lv_if_eq (tgt := 22) hx hb dX3_assumptionOf_10 (by decide) (fun c_10 => ?_) (fun c_10 => ?_)
  · skip
    have c_10 := bI_eq0 c_10
    refine lv_aload_n hx hb dX3_assumptionOf_22 rfl (lv_at hl 0 rfl) ?_
    refine lv_iconst (v := 1) hx hb dX3_assumptionOf_23 (by decide) ?_
    refine mu_i (wr := []) (va_runV (As := [.int (1)]) (rest := []) ⟨hx, hb, hml, hown, hts⟩ (c_X3_no l D cI cZ ad (0) (N) (A) (R) (kw) (an) (nd) (wt) (B) (Hd) (O) (HL) (CO) (1)  (H).size) (cwV 1 hts gX3_assumptionOf_X3_no rfl rfl rfl (by decide +kernel) ⟨Nat.le_of_ble_eq_true rfl, Nat.le_of_ble_eq_true rfl⟩) (prw_V (q0 := 0) (ci := 3) (hP.sub (ws' := (wM cI cZ ad 0 N A R kw an nd wt B Hd O HL CO)) [0, 1, 2, 3, 4, 5, 6, 7, 8] rfl) (hD.sub (ws' := (wM cI cZ ad 0 N A R kw an nd wt B Hd O HL CO)) [0, 1, 2, 3, 4, 5, 6, 7, 8] (by decide) rfl) hK rfl rfl) rfl rfl hl.1 rfl (lv_room (Nat.le_of_ble_eq_true rfl)) dX3_assumptionOf_24 ⟨Nat.le_of_ble_eq_true rfl, Nat.le_of_ble_eq_true rfl⟩) hP hD hS hAp [0, 1, 2, 3, 4, 5, 6, 7, 8] [] rfl rfl (by decide) (by decide) (fun r_24 u_24 H locs hq_24 hP hD hS => ?_)
    obtain ⟨rfl, -⟩ := hq_24
    have hP : va_P D vwCl (wM cI cZ ad 1 N A R kw an nd wt B Hd O HL CO) H := hP
    have hD : va_D Ap (wM cI cZ ad 1 N A R kw an nd wt B Hd O HL CO) := hD
    exact mr_i (u := (1)) hx hb hrt hlk dX3_assumptionOf_27 hS hP hD ⟨(by first | exact Or.inl ⟨c_10, rfl⟩ | exact Or.inr ⟨c_10, rfl, j0, hj0, rfl, rfl⟩), trivial⟩
  · skip
    have c_10 := bI_ne0 c_10
    obtain ⟨j0, hj0, rfl⟩ := inR_nat c_10
    refine lv_aload_n hx hb dX3_assumptionOf_13 rfl (lv_at hl 0 rfl) ?_
    refine va_get (D := D) (ci := 3) (v := .ref (ad 1)) (C := RX3) (T := TX3) (N := 13) hx hb hts hin3 hown hK.1 hP 0 rfl rfl 2 (by decide) f9 (fun _ h9 => h9) rfl dX3_assumptionOf_14 ?_
    refine lv_iload_n hx hb dX3_assumptionOf_17 rfl (lv_at hl 1 rfl) ?_
    refine ai_ (D := D) (f := an) (i := j0) hx hb hK hP 1 0 rfl rfl (by omega) (by decide) dX3_assumptionOf_18 ?_
    refine lv_goto (tgt := 27) hx hb dX3_assumptionOf_19 (by decide) ?_
    exact mr_i (u := (0)) hx hb hrt hlk dX3_assumptionOf_27 hS hP hD ⟨(by first | exact Or.inl ⟨c_10, rfl⟩ | exact Or.inr ⟨c_10, rfl, j0, hj0, rfl, rfl⟩), trivial⟩
set_option maxHeartbeats 4000000 in
set_option maxRecDepth 100000 in
theorem c_X3_nodeOf (l : Launch) (D : va_G) (cI cZ : ClassId) (ad : Nat → Nat) (th : Int32) (N : Nat) (A : Nat) (R : Nat) (kw : Bool) (an : Nat → Int32) (nd : Nat → Int32) (wt : Nat → Int32) (B : Nat → Int32) (Hd : Nat → Int32) (O : Nat → Bool) (HL : Nat → Int32) (CO : Nat → Bool) (x0 : Int32) (hA : A ≤ 9) (sz : Nat) : Met l yX3_nodeOf wsX3_nodeOf ({ frames := 1, cells := 0, slots := 0, locals := 21 }) (pcW D [(cI, .int), (cZ, .boolean)] sz (wM cI cZ ad th N A R kw an nd wt B Hd O HL CO) [.ref (ad 0), .int (x0)]) (va_Qi (fun (r9 : Int32) (u9 : (Int32)) => ((inR x0 A = false ∧ u9 = 1) ∨ (inR x0 A = true ∧ u9 = 0 ∧ ∃ j, j < A ∧ x0 = nI j ∧ r9 = nd j)) ∧ (True)) (wB D (va_A (wM cI cZ ad th N A R kw an nd wt B Hd O HL CO) sz) (fun u9 : (Int32) => (wM cI cZ ad u9 N A R kw an nd wt B Hd O HL CO))) (va_A (wM cI cZ ad th N A R kw an nd wt B Hd O HL CO) sz)) 0 0 (va_A (wM cI cZ ad th N A R kw an nd wt B Hd O HL CO) sz) := by
  refine Met.ofW (cc := cX3_nodeOf) (maxL := 2) (ret := (some .int)) (by decide) rfl ?_
  intro p e s m args below meth c s₁ BB hml hv
  obtain ⟨rfl, hsz, hP, hK, hD0⟩ := hv
  have hx := BB.exec
  have hb := BB.bytes
  have hrt := BB.returns
  have hts := atoms_spec (ws := wsX3_nodeOf) BB.pre
  have hown : s.vm.findClass RX3 = some m.cls := findClass_of_methodNamed BB.named
  have hlk := BB.notSynchronized
  subst hsz
  have hD := hD0.self (sz := s.heap.size)
  generalize hAe : va_A (wM cI cZ ad th N A R kw an nd wt B Hd O HL CO) s.heap.size = Ap at hD ⊢
  have hAp : ∀ q : Nat, s.heap.size ≤ q → Ap q := fun q h => by rw [← hAe]; exact Or.inr h
  have hS : va_S Ap s.heap s.heap [] := va_S.rf
  have f13 := hts (.fieldLink RX3 13 "AssumptionKeeperModel" "nodeNumbers" "[I") (by decide +kernel)
  have f35 := hts (.fieldLink RX3 35 "AssumptionKeeperModel" "thrown" "I") (by decide +kernel)
  have hin3 : ∀ w ∈ u_ws RX3 TX3 13, w ∈ wsX3_nodeOf := by decide +kernel
  have hl := lv_entry ([.ref (ad 0), .int (x0)]) (n := 2) (Nat.le_of_ble_eq_true rfl)
  rw [lg_entry_eq]
  generalize (lg_sl ([.ref (ad 0), .int (x0)]) ++ List.replicate (2 - (lg_sl ([.ref (ad 0), .int (x0)])).length) Slot.unset).toArray = ls at hl ⊢
  have hl : lv_has ls 2 [(0, .ref (ad 0)), (1, .int (x0))] := hl
  refine lv_aload_n hx hb dX3_nodeOf_0 rfl (lv_at hl 0 rfl) ?_
  refine lv_iconst (v := 0) hx hb dX3_nodeOf_1 (by decide) ?_
  refine va_put (D := D) (ci := 3) (v := .int (0)) (ty := .int) (C := RX3) (T := TX3) (N := 13) hx hb hts hin3 tyX3 tyX3_ok nmX3 hown hK.1 hP hD hS 0 rfl rfl 0 (by decide) f35 (fun _ h9 => h9) rfl (by decide +kernel) rfl rfl (Nat.le_of_ble_eq_true rfl) dX3_nodeOf_2 (fun H locs hP hD hS => ?_)
  have hP : va_P D vwCl (wM cI cZ ad 0 N A R kw an nd wt B Hd O HL CO) H := hP
  have hD : va_D Ap (wM cI cZ ad 0 N A R kw an nd wt B Hd O HL CO) := hD
  refine lv_aload_n hx hb dX3_nodeOf_5 rfl (lv_at hl 0 rfl) ?_
  refine lv_iload_n hx hb dX3_nodeOf_6 rfl (lv_at hl 1 rfl) ?_
  refine pu_i (va_runV (As := [.int (x0)]) (rest := []) ⟨hx, hb, hml, hown, hts⟩ (c_X3_isAssumption l D cI cZ ad (0) (N) (A) (R) (kw) (an) (nd) (wt) (B) (Hd) (O) (HL) (CO) (x0) ) (cwV 1 hts gX3_nodeOf_X3_isAssumption rfl rfl rfl (by decide +kernel) ⟨Nat.le_of_ble_eq_true rfl, Nat.le_of_ble_eq_true rfl⟩) (pre_V (q0 := 0) (ci := 3) (hP.sub (ws' := (wM cI cZ ad 0 N A R kw an nd wt B Hd O HL CO)) [0, 1, 2, 3, 4, 5, 6, 7, 8] rfl) hK rfl rfl) rfl rfl hl.1 rfl (lv_room (Nat.le_of_ble_eq_true rfl)) dX3_nodeOf_7 ⟨Nat.zero_le _, Nat.zero_le _⟩) ?_
  refine lv_if_eq (tgt := 22) hx hb dX3_nodeOf_10 (by decide) (fun c_10 => ?_) (fun c_10 => ?_)
  · skip
    have c_10 := bI_eq0 c_10
    refine lv_aload_n hx hb dX3_nodeOf_22 rfl (lv_at hl 0 rfl) ?_
    refine lv_iconst (v := 1) hx hb dX3_nodeOf_23 (by decide) ?_
    refine mu_i (wr := []) (va_runV (As := [.int (1)]) (rest := []) ⟨hx, hb, hml, hown, hts⟩ (c_X3_no l D cI cZ ad (0) (N) (A) (R) (kw) (an) (nd) (wt) (B) (Hd) (O) (HL) (CO) (1)  (H).size) (cwV 1 hts gX3_nodeOf_X3_no rfl rfl rfl (by decide +kernel) ⟨Nat.le_of_ble_eq_true rfl, Nat.le_of_ble_eq_true rfl⟩) (prw_V (q0 := 0) (ci := 3) (hP.sub (ws' := (wM cI cZ ad 0 N A R kw an nd wt B Hd O HL CO)) [0, 1, 2, 3, 4, 5, 6, 7, 8] rfl) (hD.sub (ws' := (wM cI cZ ad 0 N A R kw an nd wt B Hd O HL CO)) [0, 1, 2, 3, 4, 5, 6, 7, 8] (by decide) rfl) hK rfl rfl) rfl rfl hl.1 rfl (lv_room (Nat.le_of_ble_eq_true rfl)) dX3_nodeOf_24 ⟨Nat.le_of_ble_eq_true rfl, Nat.le_of_ble_eq_true rfl⟩) hP hD hS hAp [0, 1, 2, 3, 4, 5, 6, 7, 8] [] rfl rfl (by decide) (by decide) (fun r_24 u_24 H locs hq_24 hP hD hS => ?_)
    obtain ⟨rfl, -⟩ := hq_24
    have hP : va_P D vwCl (wM cI cZ ad 1 N A R kw an nd wt B Hd O HL CO) H := hP
    have hD : va_D Ap (wM cI cZ ad 1 N A R kw an nd wt B Hd O HL CO) := hD
    exact mr_i (u := (1)) hx hb hrt hlk dX3_nodeOf_27 hS hP hD ⟨(by first | exact Or.inl ⟨c_10, rfl⟩ | exact Or.inr ⟨c_10, rfl, j0, hj0, rfl, rfl⟩), trivial⟩
  · skip
    have c_10 := bI_ne0 c_10
    obtain ⟨j0, hj0, rfl⟩ := inR_nat c_10
    refine lv_aload_n hx hb dX3_nodeOf_13 rfl (lv_at hl 0 rfl) ?_
    refine va_get (D := D) (ci := 3) (v := .ref (ad 2)) (C := RX3) (T := TX3) (N := 13) hx hb hts hin3 hown hK.1 hP 0 rfl rfl 4 (by decide) f13 (fun _ h9 => h9) rfl dX3_nodeOf_14 ?_
    refine lv_iload_n hx hb dX3_nodeOf_17 rfl (lv_at hl 1 rfl) ?_
    refine ai_ (D := D) (f := nd) (i := j0) hx hb hK hP 2 0 rfl rfl (by omega) (by decide) dX3_nodeOf_18 ?_
    refine lv_goto (tgt := 27) hx hb dX3_nodeOf_19 (by decide) ?_
    exact mr_i (u := (0)) hx hb hrt hlk dX3_nodeOf_27 hS hP hD ⟨(by first | exact Or.inl ⟨c_10, rfl⟩ | exact Or.inr ⟨c_10, rfl, j0, hj0, rfl, rfl⟩), trivial⟩
set_option maxHeartbeats 4000000 in
set_option maxRecDepth 100000 in
theorem c_X3_asks (l : Launch) (D : va_G) (cI cZ : ClassId) (ad : Nat → Nat) (th : Int32) (N : Nat) (A : Nat) (R : Nat) (kw : Bool) (an : Nat → Int32) (nd : Nat → Int32) (wt : Nat → Int32) (B : Nat → Int32) (Hd : Nat → Int32) (O : Nat → Bool) (HL : Nat → Int32) (CO : Nat → Bool) (x : Int32) (y : Int32) (hA : A ≤ 9) (hR : R ≤ 40) (hn : N ≤ 24) (hH : okH N Hd R) (hN : okN N nd A) (hkw : kw = true → knOK B Hd O R nd A HL CO) (sz : Nat) : Met l yX3_asks wsX3_asks ({ frames := 3, cells := 0, slots := 0, locals := 68 }) (pcW D [(cI, .int), (cZ, .boolean)] sz (wM cI cZ ad th N A R kw an nd wt B Hd O HL CO) [.ref (ad 0), .int (x), .int (y)]) (va_Qi (fun (r9 : Int32) (u9 : (Int32) × (Nat → Int32) × (Nat → Bool)) => (r9 = bI (inR x N && inS y A)) ∧ ((u9.1) = tNE (inR x N) (inS y A)) ∧ (knOK B Hd O R nd A (u9.2.1) (u9.2.2)) ∧ (True)) (wB D (va_A (wM cI cZ ad th N A R kw an nd wt B Hd O HL CO) sz) (fun u9 : (Int32) × (Nat → Int32) × (Nat → Bool) => (wM cI cZ ad (u9.1) N A R true an nd wt B Hd O (u9.2.1) (u9.2.2)))) (va_A (wM cI cZ ad th N A R kw an nd wt B Hd O HL CO) sz)) 0 0 (va_A (wM cI cZ ad th N A R kw an nd wt B Hd O HL CO) sz) := by
  refine Met.ofW (cc := cX3_asks) (maxL := 3) (ret := (some .boolean)) (by decide) rfl ?_
  intro p e s m args below meth c s₁ BB hml hv
  obtain ⟨rfl, hsz, hP, hK, hD0⟩ := hv
  have hx := BB.exec
  have hb := BB.bytes
  have hrt := BB.returns
  have hts := atoms_spec (ws := wsX3_asks) BB.pre
  have hown : s.vm.findClass RX3 = some m.cls := findClass_of_methodNamed BB.named
  have hlk := BB.notSynchronized
  subst hsz
  have hD := hD0.self (sz := s.heap.size)
  generalize hAe : va_A (wM cI cZ ad th N A R kw an nd wt B Hd O HL CO) s.heap.size = Ap at hD ⊢
  have hAp : ∀ q : Nat, s.heap.size ≤ q → Ap q := fun q h => by rw [← hAe]; exact Or.inr h
  have hS : va_S Ap s.heap s.heap [] := va_S.rf
  have f35 := hts (.fieldLink RX3 35 "AssumptionKeeperModel" "thrown" "I") (by decide +kernel)
  have hin3 : ∀ w ∈ u_ws RX3 TX3 13, w ∈ wsX3_asks := by decide +kernel
  have hl := lv_entry ([.ref (ad 0), .int (x), .int (y)]) (n := 3) (Nat.le_of_ble_eq_true rfl)
  rw [lg_entry_eq]
  generalize (lg_sl ([.ref (ad 0), .int (x), .int (y)]) ++ List.replicate (3 - (lg_sl ([.ref (ad 0), .int (x), .int (y)])).length) Slot.unset).toArray = ls at hl ⊢
  have hl : lv_has ls 3 [(0, .ref (ad 0)), (1, .int (x)), (2, .int (y))] := hl
  refine lv_aload_n hx hb dX3_asks_0 rfl (lv_at hl 0 rfl) ?_
  refine lv_aload_n hx hb dX3_asks_1 rfl (lv_at hl 0 rfl) ?_
  refine lv_iload_n hx hb dX3_asks_2 rfl (lv_at hl 1 rfl) ?_
  refine pu_i (va_runV (As := [.int (x)]) (rest := [.ref (ad 0)]) ⟨hx, hb, hml, hown, hts⟩ (c_X3_isNode l D cI cZ ad (th) (N) (A) (R) (kw) (an) (nd) (wt) (B) (Hd) (O) (HL) (CO) (x) ) (cwV 1 hts gX3_asks_X3_isNode rfl rfl rfl (by decide +kernel) ⟨Nat.le_of_ble_eq_true rfl, Nat.le_of_ble_eq_true rfl⟩) (pre_V (q0 := 0) (ci := 3) (hP.sub (ws' := (wM cI cZ ad th N A R kw an nd wt B Hd O HL CO)) [0, 1, 2, 3, 4, 5, 6, 7, 8] rfl) hK rfl rfl) rfl rfl hl.1 rfl (lv_room (Nat.le_of_ble_eq_true rfl)) dX3_asks_3 ⟨Nat.zero_le _, Nat.zero_le _⟩) ?_
  refine lv_if_ne (tgt := 13) hx hb dX3_asks_6 (by decide) (fun c_6 => ?_) (fun c_6 => ?_)
  · skip
    have c_6 := bI_ne0 c_6
    refine lv_aload_n hx hb dX3_asks_13 rfl (lv_at hl 0 rfl) ?_
    refine lv_iload_n hx hb dX3_asks_14 rfl (lv_at hl 2 rfl) ?_
    refine pu_i (va_runV (As := [.int (y)]) (rest := [.ref (ad 0)]) ⟨hx, hb, hml, hown, hts⟩ (c_X3_isEnvironment l D cI cZ ad (th) (N) (A) (R) (kw) (an) (nd) (wt) (B) (Hd) (O) (HL) (CO) (y) ) (cwV 1 hts gX3_asks_X3_isEnvironment rfl rfl rfl (by decide +kernel) ⟨Nat.le_of_ble_eq_true rfl, Nat.le_of_ble_eq_true rfl⟩) (pre_V (q0 := 0) (ci := 3) (hP.sub (ws' := (wM cI cZ ad th N A R kw an nd wt B Hd O HL CO)) [0, 1, 2, 3, 4, 5, 6, 7, 8] rfl) hK rfl rfl) rfl rfl hl.1 rfl (lv_room (Nat.le_of_ble_eq_true rfl)) dX3_asks_15 ⟨Nat.zero_le _, Nat.zero_le _⟩) ?_
    refine lv_if_ne (tgt := 25) hx hb dX3_asks_18 (by decide) (fun c_18 => ?_) (fun c_18 => ?_)
    · skip
      have c_18 := bI_ne0 c_18
      refine lv_iconst (v := 0) hx hb dX3_asks_25 (by decide) ?_
      refine va_put (D := D) (ci := 3) (v := .int (0)) (ty := .int) (C := RX3) (T := TX3) (N := 13) hx hb hts hin3 tyX3 tyX3_ok nmX3 hown hK.1 hP hD hS 0 rfl rfl 0 (by decide) f35 (fun _ h9 => h9) rfl (by decide +kernel) rfl rfl (Nat.le_of_ble_eq_true rfl) dX3_asks_26 (fun H locs hP hD hS => ?_)
      have hP : va_P D vwCl (wM cI cZ ad 0 N A R kw an nd wt B Hd O HL CO) H := hP
      have hD : va_D Ap (wM cI cZ ad 0 N A R kw an nd wt B Hd O HL CO) := hD
      refine lv_aload_n hx hb dX3_asks_29 rfl (lv_at hl 0 rfl) ?_
      refine mu_v (wr := []) (va_runV (As := []) (rest := []) ⟨hx, hb, hml, hown, hts⟩ (c_X3_know l D cI cZ ad (0) (N) (A) (R) (kw) (an) (nd) (wt) (B) (Hd) (O) (HL) (CO) (by omega) (by omega) (hn) (hH) (hN) (hkw) (H).size) (cwV 0 hts gX3_asks_X3_know rfl rfl rfl (by decide +kernel) ⟨Nat.le_of_ble_eq_true rfl, Nat.le_of_ble_eq_true rfl⟩) (prw_V (q0 := 0) (ci := 3) (hP.sub (ws' := (wM cI cZ ad 0 N A R kw an nd wt B Hd O HL CO)) [0, 1, 2, 3, 4, 5, 6, 7, 8] rfl) (hD.sub (ws' := (wM cI cZ ad 0 N A R kw an nd wt B Hd O HL CO)) [0, 1, 2, 3, 4, 5, 6, 7, 8] (by decide) rfl) hK rfl rfl) rfl rfl hl.1 rfl (lv_room (Nat.le_of_ble_eq_true rfl)) dX3_asks_30 ⟨Nat.le_of_ble_eq_true rfl, Nat.le_of_ble_eq_true rfl⟩) hP hD hS hAp [0, 1, 2, 3, 4, 5, 6, 7, 8] [] rfl rfl (by decide) (by decide) (fun u_30 H locs hq_30 hP hD hS => ?_)
      obtain ⟨HL9_30, CO9_30⟩ := u_30
      obtain ⟨hkn_30, -⟩ := hq_30
      have hkn_30 : knOK B Hd O R nd A HL9_30 CO9_30 := hkn_30
      have hP : va_P D vwCl (wM cI cZ ad 0 N A R true an nd wt B Hd O HL9_30 CO9_30) H := hP
      have hD : va_D Ap (wM cI cZ ad 0 N A R true an nd wt B Hd O HL9_30 CO9_30) := hD
      refine lv_aload_n hx hb dX3_asks_33 rfl (lv_at hl 0 rfl) ?_
      refine va_get (D := D) (ci := 3) (v := .int (0)) (C := RX3) (T := TX3) (N := 13) hx hb hts hin3 hown hK.1 hP 0 rfl rfl 0 (by decide) f35 (fun _ h9 => h9) rfl dX3_asks_34 ?_
      refine lv_if_ne (tgt := 44) hx hb dX3_asks_37 (by decide) (fun c_37 => ?_) (fun c_37 => ?_)
      · skip
        exact absurd c_37 (by decide)
      · skip
        refine lv_iconst (v := 1) hx hb dX3_asks_40 (by decide) ?_
        refine lv_goto (tgt := 45) hx hb dX3_asks_41 (by decide) ?_
        exact mr_z (v := true) (u := (0, HL9_30, CO9_30)) hx hb hrt hlk dX3_asks_45 hS hP hD ⟨(by first | rfl | (simp [tNE, tB, c_6, c_18, c_37]; done) | (simp only [tNE, tB, c_6, c_18, c_37]; rfl) | (simp_all [tNE, tB, c_6, c_18, c_37]; done)), (by first | rfl | (simp [tNE, tB, c_6, c_18, c_37]; done) | (simp only [tNE, tB, c_6, c_18, c_37]; rfl) | (simp_all [tNE, tB, c_6, c_18, c_37]; done)), (hkn_30), trivial⟩
    · skip
      have c_18 := bI_eq0 c_18
      refine lv_iconst (v := 2) hx hb dX3_asks_21 (by decide) ?_
      refine lv_goto (tgt := 26) hx hb dX3_asks_22 (by decide) ?_
      refine va_put (D := D) (ci := 3) (v := .int (2)) (ty := .int) (C := RX3) (T := TX3) (N := 13) hx hb hts hin3 tyX3 tyX3_ok nmX3 hown hK.1 hP hD hS 0 rfl rfl 0 (by decide) f35 (fun _ h9 => h9) rfl (by decide +kernel) rfl rfl (Nat.le_of_ble_eq_true rfl) dX3_asks_26 (fun H locs hP hD hS => ?_)
      have hP : va_P D vwCl (wM cI cZ ad 2 N A R kw an nd wt B Hd O HL CO) H := hP
      have hD : va_D Ap (wM cI cZ ad 2 N A R kw an nd wt B Hd O HL CO) := hD
      refine lv_aload_n hx hb dX3_asks_29 rfl (lv_at hl 0 rfl) ?_
      refine mu_v (wr := []) (va_runV (As := []) (rest := []) ⟨hx, hb, hml, hown, hts⟩ (c_X3_know l D cI cZ ad (2) (N) (A) (R) (kw) (an) (nd) (wt) (B) (Hd) (O) (HL) (CO) (by omega) (by omega) (hn) (hH) (hN) (hkw) (H).size) (cwV 0 hts gX3_asks_X3_know rfl rfl rfl (by decide +kernel) ⟨Nat.le_of_ble_eq_true rfl, Nat.le_of_ble_eq_true rfl⟩) (prw_V (q0 := 0) (ci := 3) (hP.sub (ws' := (wM cI cZ ad 2 N A R kw an nd wt B Hd O HL CO)) [0, 1, 2, 3, 4, 5, 6, 7, 8] rfl) (hD.sub (ws' := (wM cI cZ ad 2 N A R kw an nd wt B Hd O HL CO)) [0, 1, 2, 3, 4, 5, 6, 7, 8] (by decide) rfl) hK rfl rfl) rfl rfl hl.1 rfl (lv_room (Nat.le_of_ble_eq_true rfl)) dX3_asks_30 ⟨Nat.le_of_ble_eq_true rfl, Nat.le_of_ble_eq_true rfl⟩) hP hD hS hAp [0, 1, 2, 3, 4, 5, 6, 7, 8] [] rfl rfl (by decide) (by decide) (fun u_30 H locs hq_30 hP hD hS => ?_)
      obtain ⟨HL9_30, CO9_30⟩ := u_30
      obtain ⟨hkn_30, -⟩ := hq_30
      have hkn_30 : knOK B Hd O R nd A HL9_30 CO9_30 := hkn_30
      have hP : va_P D vwCl (wM cI cZ ad 2 N A R true an nd wt B Hd O HL9_30 CO9_30) H := hP
      have hD : va_D Ap (wM cI cZ ad 2 N A R true an nd wt B Hd O HL9_30 CO9_30) := hD
      refine lv_aload_n hx hb dX3_asks_33 rfl (lv_at hl 0 rfl) ?_
      refine va_get (D := D) (ci := 3) (v := .int (2)) (C := RX3) (T := TX3) (N := 13) hx hb hts hin3 hown hK.1 hP 0 rfl rfl 0 (by decide) f35 (fun _ h9 => h9) rfl dX3_asks_34 ?_
      refine lv_if_ne (tgt := 44) hx hb dX3_asks_37 (by decide) (fun c_37 => ?_) (fun c_37 => ?_)
      · skip
        refine lv_iconst (v := 0) hx hb dX3_asks_44 (by decide) ?_
        exact mr_z (v := false) (u := (2, HL9_30, CO9_30)) hx hb hrt hlk dX3_asks_45 hS hP hD ⟨(by first | rfl | (simp [tNE, tB, c_6, c_18, c_37]; done) | (simp only [tNE, tB, c_6, c_18, c_37]; rfl) | (simp_all [tNE, tB, c_6, c_18, c_37]; done)), (by first | rfl | (simp [tNE, tB, c_6, c_18, c_37]; done) | (simp only [tNE, tB, c_6, c_18, c_37]; rfl) | (simp_all [tNE, tB, c_6, c_18, c_37]; done)), (hkn_30), trivial⟩
      · skip
        exact absurd c_37 (by decide)
  · skip
    have c_6 := bI_eq0 c_6
    refine lv_iconst (v := 1) hx hb dX3_asks_9 (by decide) ?_
    refine lv_goto (tgt := 26) hx hb dX3_asks_10 (by decide) ?_
    refine va_put (D := D) (ci := 3) (v := .int (1)) (ty := .int) (C := RX3) (T := TX3) (N := 13) hx hb hts hin3 tyX3 tyX3_ok nmX3 hown hK.1 hP hD hS 0 rfl rfl 0 (by decide) f35 (fun _ h9 => h9) rfl (by decide +kernel) rfl rfl (Nat.le_of_ble_eq_true rfl) dX3_asks_26 (fun H locs hP hD hS => ?_)
    have hP : va_P D vwCl (wM cI cZ ad 1 N A R kw an nd wt B Hd O HL CO) H := hP
    have hD : va_D Ap (wM cI cZ ad 1 N A R kw an nd wt B Hd O HL CO) := hD
    refine lv_aload_n hx hb dX3_asks_29 rfl (lv_at hl 0 rfl) ?_
    refine mu_v (wr := []) (va_runV (As := []) (rest := []) ⟨hx, hb, hml, hown, hts⟩ (c_X3_know l D cI cZ ad (1) (N) (A) (R) (kw) (an) (nd) (wt) (B) (Hd) (O) (HL) (CO) (by omega) (by omega) (hn) (hH) (hN) (hkw) (H).size) (cwV 0 hts gX3_asks_X3_know rfl rfl rfl (by decide +kernel) ⟨Nat.le_of_ble_eq_true rfl, Nat.le_of_ble_eq_true rfl⟩) (prw_V (q0 := 0) (ci := 3) (hP.sub (ws' := (wM cI cZ ad 1 N A R kw an nd wt B Hd O HL CO)) [0, 1, 2, 3, 4, 5, 6, 7, 8] rfl) (hD.sub (ws' := (wM cI cZ ad 1 N A R kw an nd wt B Hd O HL CO)) [0, 1, 2, 3, 4, 5, 6, 7, 8] (by decide) rfl) hK rfl rfl) rfl rfl hl.1 rfl (lv_room (Nat.le_of_ble_eq_true rfl)) dX3_asks_30 ⟨Nat.le_of_ble_eq_true rfl, Nat.le_of_ble_eq_true rfl⟩) hP hD hS hAp [0, 1, 2, 3, 4, 5, 6, 7, 8] [] rfl rfl (by decide) (by decide) (fun u_30 H locs hq_30 hP hD hS => ?_)
    obtain ⟨HL9_30, CO9_30⟩ := u_30
    obtain ⟨hkn_30, -⟩ := hq_30
    have hkn_30 : knOK B Hd O R nd A HL9_30 CO9_30 := hkn_30
    have hP : va_P D vwCl (wM cI cZ ad 1 N A R true an nd wt B Hd O HL9_30 CO9_30) H := hP
    have hD : va_D Ap (wM cI cZ ad 1 N A R true an nd wt B Hd O HL9_30 CO9_30) := hD
    refine lv_aload_n hx hb dX3_asks_33 rfl (lv_at hl 0 rfl) ?_
    refine va_get (D := D) (ci := 3) (v := .int (1)) (C := RX3) (T := TX3) (N := 13) hx hb hts hin3 hown hK.1 hP 0 rfl rfl 0 (by decide) f35 (fun _ h9 => h9) rfl dX3_asks_34 ?_
    refine lv_if_ne (tgt := 44) hx hb dX3_asks_37 (by decide) (fun c_37 => ?_) (fun c_37 => ?_)
    · skip
      refine lv_iconst (v := 0) hx hb dX3_asks_44 (by decide) ?_
      exact mr_z (v := false) (u := (1, HL9_30, CO9_30)) hx hb hrt hlk dX3_asks_45 hS hP hD ⟨(by first | rfl | (simp [tNE, tB, c_6, c_37]; done) | (simp only [tNE, tB, c_6, c_37]; rfl) | (simp_all [tNE, tB, c_6, c_37]; done)), (by first | rfl | (simp [tNE, tB, c_6, c_37]; done) | (simp only [tNE, tB, c_6, c_37]; rfl) | (simp_all [tNE, tB, c_6, c_37]; done)), (hkn_30), trivial⟩
    · skip
      exact absurd c_37 (by decide)
set_option maxHeartbeats 4000000 in
set_option maxRecDepth 100000 in
theorem c_X3_asksEnvironment (l : Launch) (D : va_G) (cI cZ : ClassId) (ad : Nat → Nat) (th : Int32) (N : Nat) (A : Nat) (R : Nat) (kw : Bool) (an : Nat → Int32) (nd : Nat → Int32) (wt : Nat → Int32) (B : Nat → Int32) (Hd : Nat → Int32) (O : Nat → Bool) (HL : Nat → Int32) (CO : Nat → Bool) (x : Int32) (hA : A ≤ 9) (hR : R ≤ 40) (hn : N ≤ 24) (hH : okH N Hd R) (hN : okN N nd A) (hkw : kw = true → knOK B Hd O R nd A HL CO) (sz : Nat) : Met l yX3_asksEnvironment wsX3_asksEnvironment ({ frames := 3, cells := 0, slots := 0, locals := 68 }) (pcW D [(cI, .int), (cZ, .boolean)] sz (wM cI cZ ad th N A R kw an nd wt B Hd O HL CO) [.ref (ad 0), .int (x)]) (va_Qi (fun (r9 : Int32) (u9 : (Int32) × (Nat → Int32) × (Nat → Bool)) => (r9 = bI (inS x A)) ∧ ((u9.1) = tB (inS x A)) ∧ (knOK B Hd O R nd A (u9.2.1) (u9.2.2)) ∧ (True)) (wB D (va_A (wM cI cZ ad th N A R kw an nd wt B Hd O HL CO) sz) (fun u9 : (Int32) × (Nat → Int32) × (Nat → Bool) => (wM cI cZ ad (u9.1) N A R true an nd wt B Hd O (u9.2.1) (u9.2.2)))) (va_A (wM cI cZ ad th N A R kw an nd wt B Hd O HL CO) sz)) 0 0 (va_A (wM cI cZ ad th N A R kw an nd wt B Hd O HL CO) sz) := by
  refine Met.ofW (cc := cX3_asksEnvironment) (maxL := 2) (ret := (some .boolean)) (by decide) rfl ?_
  intro p e s m args below meth c s₁ BB hml hv
  obtain ⟨rfl, hsz, hP, hK, hD0⟩ := hv
  have hx := BB.exec
  have hb := BB.bytes
  have hrt := BB.returns
  have hts := atoms_spec (ws := wsX3_asksEnvironment) BB.pre
  have hown : s.vm.findClass RX3 = some m.cls := findClass_of_methodNamed BB.named
  have hlk := BB.notSynchronized
  subst hsz
  have hD := hD0.self (sz := s.heap.size)
  generalize hAe : va_A (wM cI cZ ad th N A R kw an nd wt B Hd O HL CO) s.heap.size = Ap at hD ⊢
  have hAp : ∀ q : Nat, s.heap.size ≤ q → Ap q := fun q h => by rw [← hAe]; exact Or.inr h
  have hS : va_S Ap s.heap s.heap [] := va_S.rf
  have f35 := hts (.fieldLink RX3 35 "AssumptionKeeperModel" "thrown" "I") (by decide +kernel)
  have hin3 : ∀ w ∈ u_ws RX3 TX3 13, w ∈ wsX3_asksEnvironment := by decide +kernel
  have hl := lv_entry ([.ref (ad 0), .int (x)]) (n := 2) (Nat.le_of_ble_eq_true rfl)
  rw [lg_entry_eq]
  generalize (lg_sl ([.ref (ad 0), .int (x)]) ++ List.replicate (2 - (lg_sl ([.ref (ad 0), .int (x)])).length) Slot.unset).toArray = ls at hl ⊢
  have hl : lv_has ls 2 [(0, .ref (ad 0)), (1, .int (x))] := hl
  refine lv_aload_n hx hb dX3_asksEnvironment_0 rfl (lv_at hl 0 rfl) ?_
  refine lv_aload_n hx hb dX3_asksEnvironment_1 rfl (lv_at hl 0 rfl) ?_
  refine lv_iload_n hx hb dX3_asksEnvironment_2 rfl (lv_at hl 1 rfl) ?_
  refine pu_i (va_runV (As := [.int (x)]) (rest := [.ref (ad 0)]) ⟨hx, hb, hml, hown, hts⟩ (c_X3_isEnvironment l D cI cZ ad (th) (N) (A) (R) (kw) (an) (nd) (wt) (B) (Hd) (O) (HL) (CO) (x) ) (cwV 1 hts gX3_asksEnvironment_X3_isEnvironment rfl rfl rfl (by decide +kernel) ⟨Nat.le_of_ble_eq_true rfl, Nat.le_of_ble_eq_true rfl⟩) (pre_V (q0 := 0) (ci := 3) (hP.sub (ws' := (wM cI cZ ad th N A R kw an nd wt B Hd O HL CO)) [0, 1, 2, 3, 4, 5, 6, 7, 8] rfl) hK rfl rfl) rfl rfl hl.1 rfl (lv_room (Nat.le_of_ble_eq_true rfl)) dX3_asksEnvironment_3 ⟨Nat.zero_le _, Nat.zero_le _⟩) ?_
  refine lv_if_eq (tgt := 13) hx hb dX3_asksEnvironment_6 (by decide) (fun c_6 => ?_) (fun c_6 => ?_)
  · skip
    have c_6 := bI_eq0 c_6
    refine lv_iconst (v := 1) hx hb dX3_asksEnvironment_13 (by decide) ?_
    refine va_put (D := D) (ci := 3) (v := .int (1)) (ty := .int) (C := RX3) (T := TX3) (N := 13) hx hb hts hin3 tyX3 tyX3_ok nmX3 hown hK.1 hP hD hS 0 rfl rfl 0 (by decide) f35 (fun _ h9 => h9) rfl (by decide +kernel) rfl rfl (Nat.le_of_ble_eq_true rfl) dX3_asksEnvironment_14 (fun H locs hP hD hS => ?_)
    have hP : va_P D vwCl (wM cI cZ ad 1 N A R kw an nd wt B Hd O HL CO) H := hP
    have hD : va_D Ap (wM cI cZ ad 1 N A R kw an nd wt B Hd O HL CO) := hD
    refine lv_aload_n hx hb dX3_asksEnvironment_17 rfl (lv_at hl 0 rfl) ?_
    refine mu_v (wr := []) (va_runV (As := []) (rest := []) ⟨hx, hb, hml, hown, hts⟩ (c_X3_know l D cI cZ ad (1) (N) (A) (R) (kw) (an) (nd) (wt) (B) (Hd) (O) (HL) (CO) (by omega) (by omega) (hn) (hH) (hN) (hkw) (H).size) (cwV 0 hts gX3_asksEnvironment_X3_know rfl rfl rfl (by decide +kernel) ⟨Nat.le_of_ble_eq_true rfl, Nat.le_of_ble_eq_true rfl⟩) (prw_V (q0 := 0) (ci := 3) (hP.sub (ws' := (wM cI cZ ad 1 N A R kw an nd wt B Hd O HL CO)) [0, 1, 2, 3, 4, 5, 6, 7, 8] rfl) (hD.sub (ws' := (wM cI cZ ad 1 N A R kw an nd wt B Hd O HL CO)) [0, 1, 2, 3, 4, 5, 6, 7, 8] (by decide) rfl) hK rfl rfl) rfl rfl hl.1 rfl (lv_room (Nat.le_of_ble_eq_true rfl)) dX3_asksEnvironment_18 ⟨Nat.le_of_ble_eq_true rfl, Nat.le_of_ble_eq_true rfl⟩) hP hD hS hAp [0, 1, 2, 3, 4, 5, 6, 7, 8] [] rfl rfl (by decide) (by decide) (fun u_18 H locs hq_18 hP hD hS => ?_)
    obtain ⟨HL9_18, CO9_18⟩ := u_18
    obtain ⟨hkn_18, -⟩ := hq_18
    have hkn_18 : knOK B Hd O R nd A HL9_18 CO9_18 := hkn_18
    have hP : va_P D vwCl (wM cI cZ ad 1 N A R true an nd wt B Hd O HL9_18 CO9_18) H := hP
    have hD : va_D Ap (wM cI cZ ad 1 N A R true an nd wt B Hd O HL9_18 CO9_18) := hD
    refine lv_aload_n hx hb dX3_asksEnvironment_21 rfl (lv_at hl 0 rfl) ?_
    refine va_get (D := D) (ci := 3) (v := .int (1)) (C := RX3) (T := TX3) (N := 13) hx hb hts hin3 hown hK.1 hP 0 rfl rfl 0 (by decide) f35 (fun _ h9 => h9) rfl dX3_asksEnvironment_22 ?_
    refine lv_if_ne (tgt := 32) hx hb dX3_asksEnvironment_25 (by decide) (fun c_25 => ?_) (fun c_25 => ?_)
    · skip
      refine lv_iconst (v := 0) hx hb dX3_asksEnvironment_32 (by decide) ?_
      exact mr_z (v := false) (u := (1, HL9_18, CO9_18)) hx hb hrt hlk dX3_asksEnvironment_33 hS hP hD ⟨(by first | rfl | (simp [tNE, tB, c_6, c_25]; done) | (simp only [tNE, tB, c_6, c_25]; rfl) | (simp_all [tNE, tB, c_6, c_25]; done)), (by first | rfl | (simp [tNE, tB, c_6, c_25]; done) | (simp only [tNE, tB, c_6, c_25]; rfl) | (simp_all [tNE, tB, c_6, c_25]; done)), (hkn_18), trivial⟩
    · skip
      exact absurd c_25 (by decide)
  · skip
    have c_6 := bI_ne0 c_6
    refine lv_iconst (v := 0) hx hb dX3_asksEnvironment_9 (by decide) ?_
    refine lv_goto (tgt := 14) hx hb dX3_asksEnvironment_10 (by decide) ?_
    refine va_put (D := D) (ci := 3) (v := .int (0)) (ty := .int) (C := RX3) (T := TX3) (N := 13) hx hb hts hin3 tyX3 tyX3_ok nmX3 hown hK.1 hP hD hS 0 rfl rfl 0 (by decide) f35 (fun _ h9 => h9) rfl (by decide +kernel) rfl rfl (Nat.le_of_ble_eq_true rfl) dX3_asksEnvironment_14 (fun H locs hP hD hS => ?_)
    have hP : va_P D vwCl (wM cI cZ ad 0 N A R kw an nd wt B Hd O HL CO) H := hP
    have hD : va_D Ap (wM cI cZ ad 0 N A R kw an nd wt B Hd O HL CO) := hD
    refine lv_aload_n hx hb dX3_asksEnvironment_17 rfl (lv_at hl 0 rfl) ?_
    refine mu_v (wr := []) (va_runV (As := []) (rest := []) ⟨hx, hb, hml, hown, hts⟩ (c_X3_know l D cI cZ ad (0) (N) (A) (R) (kw) (an) (nd) (wt) (B) (Hd) (O) (HL) (CO) (by omega) (by omega) (hn) (hH) (hN) (hkw) (H).size) (cwV 0 hts gX3_asksEnvironment_X3_know rfl rfl rfl (by decide +kernel) ⟨Nat.le_of_ble_eq_true rfl, Nat.le_of_ble_eq_true rfl⟩) (prw_V (q0 := 0) (ci := 3) (hP.sub (ws' := (wM cI cZ ad 0 N A R kw an nd wt B Hd O HL CO)) [0, 1, 2, 3, 4, 5, 6, 7, 8] rfl) (hD.sub (ws' := (wM cI cZ ad 0 N A R kw an nd wt B Hd O HL CO)) [0, 1, 2, 3, 4, 5, 6, 7, 8] (by decide) rfl) hK rfl rfl) rfl rfl hl.1 rfl (lv_room (Nat.le_of_ble_eq_true rfl)) dX3_asksEnvironment_18 ⟨Nat.le_of_ble_eq_true rfl, Nat.le_of_ble_eq_true rfl⟩) hP hD hS hAp [0, 1, 2, 3, 4, 5, 6, 7, 8] [] rfl rfl (by decide) (by decide) (fun u_18 H locs hq_18 hP hD hS => ?_)
    obtain ⟨HL9_18, CO9_18⟩ := u_18
    obtain ⟨hkn_18, -⟩ := hq_18
    have hkn_18 : knOK B Hd O R nd A HL9_18 CO9_18 := hkn_18
    have hP : va_P D vwCl (wM cI cZ ad 0 N A R true an nd wt B Hd O HL9_18 CO9_18) H := hP
    have hD : va_D Ap (wM cI cZ ad 0 N A R true an nd wt B Hd O HL9_18 CO9_18) := hD
    refine lv_aload_n hx hb dX3_asksEnvironment_21 rfl (lv_at hl 0 rfl) ?_
    refine va_get (D := D) (ci := 3) (v := .int (0)) (C := RX3) (T := TX3) (N := 13) hx hb hts hin3 hown hK.1 hP 0 rfl rfl 0 (by decide) f35 (fun _ h9 => h9) rfl dX3_asksEnvironment_22 ?_
    refine lv_if_ne (tgt := 32) hx hb dX3_asksEnvironment_25 (by decide) (fun c_25 => ?_) (fun c_25 => ?_)
    · skip
      exact absurd c_25 (by decide)
    · skip
      refine lv_iconst (v := 1) hx hb dX3_asksEnvironment_28 (by decide) ?_
      refine lv_goto (tgt := 33) hx hb dX3_asksEnvironment_29 (by decide) ?_
      exact mr_z (v := true) (u := (0, HL9_18, CO9_18)) hx hb hrt hlk dX3_asksEnvironment_33 hS hP hD ⟨(by first | rfl | (simp [tNE, tB, c_6, c_25]; done) | (simp only [tNE, tB, c_6, c_25]; rfl) | (simp_all [tNE, tB, c_6, c_25]; done)), (by first | rfl | (simp [tNE, tB, c_6, c_25]; done) | (simp only [tNE, tB, c_6, c_25]; rfl) | (simp_all [tNE, tB, c_6, c_25]; done)), (hkn_18), trivial⟩
set_option maxHeartbeats 4000000 in
set_option maxRecDepth 100000 in
theorem c_X3_asksNode (l : Launch) (D : va_G) (cI cZ : ClassId) (ad : Nat → Nat) (th : Int32) (N : Nat) (A : Nat) (R : Nat) (kw : Bool) (an : Nat → Int32) (nd : Nat → Int32) (wt : Nat → Int32) (B : Nat → Int32) (Hd : Nat → Int32) (O : Nat → Bool) (HL : Nat → Int32) (CO : Nat → Bool) (x : Int32) (hA : A ≤ 9) (hR : R ≤ 40) (hn : N ≤ 24) (hH : okH N Hd R) (hN : okN N nd A) (hkw : kw = true → knOK B Hd O R nd A HL CO) (sz : Nat) : Met l yX3_asksNode wsX3_asksNode ({ frames := 3, cells := 0, slots := 0, locals := 68 }) (pcW D [(cI, .int), (cZ, .boolean)] sz (wM cI cZ ad th N A R kw an nd wt B Hd O HL CO) [.ref (ad 0), .int (x)]) (va_Qi (fun (r9 : Int32) (u9 : (Int32) × (Nat → Int32) × (Nat → Bool)) => (r9 = bI (inR x N)) ∧ ((u9.1) = tB (inR x N)) ∧ (knOK B Hd O R nd A (u9.2.1) (u9.2.2)) ∧ (True)) (wB D (va_A (wM cI cZ ad th N A R kw an nd wt B Hd O HL CO) sz) (fun u9 : (Int32) × (Nat → Int32) × (Nat → Bool) => (wM cI cZ ad (u9.1) N A R true an nd wt B Hd O (u9.2.1) (u9.2.2)))) (va_A (wM cI cZ ad th N A R kw an nd wt B Hd O HL CO) sz)) 0 0 (va_A (wM cI cZ ad th N A R kw an nd wt B Hd O HL CO) sz) := by
  refine Met.ofW (cc := cX3_asksNode) (maxL := 2) (ret := (some .boolean)) (by decide) rfl ?_
  intro p e s m args below meth c s₁ BB hml hv
  obtain ⟨rfl, hsz, hP, hK, hD0⟩ := hv
  have hx := BB.exec
  have hb := BB.bytes
  have hrt := BB.returns
  have hts := atoms_spec (ws := wsX3_asksNode) BB.pre
  have hown : s.vm.findClass RX3 = some m.cls := findClass_of_methodNamed BB.named
  have hlk := BB.notSynchronized
  subst hsz
  have hD := hD0.self (sz := s.heap.size)
  generalize hAe : va_A (wM cI cZ ad th N A R kw an nd wt B Hd O HL CO) s.heap.size = Ap at hD ⊢
  have hAp : ∀ q : Nat, s.heap.size ≤ q → Ap q := fun q h => by rw [← hAe]; exact Or.inr h
  have hS : va_S Ap s.heap s.heap [] := va_S.rf
  have f35 := hts (.fieldLink RX3 35 "AssumptionKeeperModel" "thrown" "I") (by decide +kernel)
  have hin3 : ∀ w ∈ u_ws RX3 TX3 13, w ∈ wsX3_asksNode := by decide +kernel
  have hl := lv_entry ([.ref (ad 0), .int (x)]) (n := 2) (Nat.le_of_ble_eq_true rfl)
  rw [lg_entry_eq]
  generalize (lg_sl ([.ref (ad 0), .int (x)]) ++ List.replicate (2 - (lg_sl ([.ref (ad 0), .int (x)])).length) Slot.unset).toArray = ls at hl ⊢
  have hl : lv_has ls 2 [(0, .ref (ad 0)), (1, .int (x))] := hl
  refine lv_aload_n hx hb dX3_asksNode_0 rfl (lv_at hl 0 rfl) ?_
  refine lv_aload_n hx hb dX3_asksNode_1 rfl (lv_at hl 0 rfl) ?_
  refine lv_iload_n hx hb dX3_asksNode_2 rfl (lv_at hl 1 rfl) ?_
  refine pu_i (va_runV (As := [.int (x)]) (rest := [.ref (ad 0)]) ⟨hx, hb, hml, hown, hts⟩ (c_X3_isNode l D cI cZ ad (th) (N) (A) (R) (kw) (an) (nd) (wt) (B) (Hd) (O) (HL) (CO) (x) ) (cwV 1 hts gX3_asksNode_X3_isNode rfl rfl rfl (by decide +kernel) ⟨Nat.le_of_ble_eq_true rfl, Nat.le_of_ble_eq_true rfl⟩) (pre_V (q0 := 0) (ci := 3) (hP.sub (ws' := (wM cI cZ ad th N A R kw an nd wt B Hd O HL CO)) [0, 1, 2, 3, 4, 5, 6, 7, 8] rfl) hK rfl rfl) rfl rfl hl.1 rfl (lv_room (Nat.le_of_ble_eq_true rfl)) dX3_asksNode_3 ⟨Nat.zero_le _, Nat.zero_le _⟩) ?_
  refine lv_if_eq (tgt := 13) hx hb dX3_asksNode_6 (by decide) (fun c_6 => ?_) (fun c_6 => ?_)
  · skip
    have c_6 := bI_eq0 c_6
    refine lv_iconst (v := 1) hx hb dX3_asksNode_13 (by decide) ?_
    refine va_put (D := D) (ci := 3) (v := .int (1)) (ty := .int) (C := RX3) (T := TX3) (N := 13) hx hb hts hin3 tyX3 tyX3_ok nmX3 hown hK.1 hP hD hS 0 rfl rfl 0 (by decide) f35 (fun _ h9 => h9) rfl (by decide +kernel) rfl rfl (Nat.le_of_ble_eq_true rfl) dX3_asksNode_14 (fun H locs hP hD hS => ?_)
    have hP : va_P D vwCl (wM cI cZ ad 1 N A R kw an nd wt B Hd O HL CO) H := hP
    have hD : va_D Ap (wM cI cZ ad 1 N A R kw an nd wt B Hd O HL CO) := hD
    refine lv_aload_n hx hb dX3_asksNode_17 rfl (lv_at hl 0 rfl) ?_
    refine mu_v (wr := []) (va_runV (As := []) (rest := []) ⟨hx, hb, hml, hown, hts⟩ (c_X3_know l D cI cZ ad (1) (N) (A) (R) (kw) (an) (nd) (wt) (B) (Hd) (O) (HL) (CO) (by omega) (by omega) (hn) (hH) (hN) (hkw) (H).size) (cwV 0 hts gX3_asksNode_X3_know rfl rfl rfl (by decide +kernel) ⟨Nat.le_of_ble_eq_true rfl, Nat.le_of_ble_eq_true rfl⟩) (prw_V (q0 := 0) (ci := 3) (hP.sub (ws' := (wM cI cZ ad 1 N A R kw an nd wt B Hd O HL CO)) [0, 1, 2, 3, 4, 5, 6, 7, 8] rfl) (hD.sub (ws' := (wM cI cZ ad 1 N A R kw an nd wt B Hd O HL CO)) [0, 1, 2, 3, 4, 5, 6, 7, 8] (by decide) rfl) hK rfl rfl) rfl rfl hl.1 rfl (lv_room (Nat.le_of_ble_eq_true rfl)) dX3_asksNode_18 ⟨Nat.le_of_ble_eq_true rfl, Nat.le_of_ble_eq_true rfl⟩) hP hD hS hAp [0, 1, 2, 3, 4, 5, 6, 7, 8] [] rfl rfl (by decide) (by decide) (fun u_18 H locs hq_18 hP hD hS => ?_)
    obtain ⟨HL9_18, CO9_18⟩ := u_18
    obtain ⟨hkn_18, -⟩ := hq_18
    have hkn_18 : knOK B Hd O R nd A HL9_18 CO9_18 := hkn_18
    have hP : va_P D vwCl (wM cI cZ ad 1 N A R true an nd wt B Hd O HL9_18 CO9_18) H := hP
    have hD : va_D Ap (wM cI cZ ad 1 N A R true an nd wt B Hd O HL9_18 CO9_18) := hD
    refine lv_aload_n hx hb dX3_asksNode_21 rfl (lv_at hl 0 rfl) ?_
    refine va_get (D := D) (ci := 3) (v := .int (1)) (C := RX3) (T := TX3) (N := 13) hx hb hts hin3 hown hK.1 hP 0 rfl rfl 0 (by decide) f35 (fun _ h9 => h9) rfl dX3_asksNode_22 ?_
    refine lv_if_ne (tgt := 32) hx hb dX3_asksNode_25 (by decide) (fun c_25 => ?_) (fun c_25 => ?_)
    · skip
      refine lv_iconst (v := 0) hx hb dX3_asksNode_32 (by decide) ?_
      exact mr_z (v := false) (u := (1, HL9_18, CO9_18)) hx hb hrt hlk dX3_asksNode_33 hS hP hD ⟨(by first | rfl | (simp [tNE, tB, c_6, c_25]; done) | (simp only [tNE, tB, c_6, c_25]; rfl) | (simp_all [tNE, tB, c_6, c_25]; done)), (by first | rfl | (simp [tNE, tB, c_6, c_25]; done) | (simp only [tNE, tB, c_6, c_25]; rfl) | (simp_all [tNE, tB, c_6, c_25]; done)), (hkn_18), trivial⟩
    · skip
      exact absurd c_25 (by decide)
  · skip
    have c_6 := bI_ne0 c_6
    refine lv_iconst (v := 0) hx hb dX3_asksNode_9 (by decide) ?_
    refine lv_goto (tgt := 14) hx hb dX3_asksNode_10 (by decide) ?_
    refine va_put (D := D) (ci := 3) (v := .int (0)) (ty := .int) (C := RX3) (T := TX3) (N := 13) hx hb hts hin3 tyX3 tyX3_ok nmX3 hown hK.1 hP hD hS 0 rfl rfl 0 (by decide) f35 (fun _ h9 => h9) rfl (by decide +kernel) rfl rfl (Nat.le_of_ble_eq_true rfl) dX3_asksNode_14 (fun H locs hP hD hS => ?_)
    have hP : va_P D vwCl (wM cI cZ ad 0 N A R kw an nd wt B Hd O HL CO) H := hP
    have hD : va_D Ap (wM cI cZ ad 0 N A R kw an nd wt B Hd O HL CO) := hD
    refine lv_aload_n hx hb dX3_asksNode_17 rfl (lv_at hl 0 rfl) ?_
    refine mu_v (wr := []) (va_runV (As := []) (rest := []) ⟨hx, hb, hml, hown, hts⟩ (c_X3_know l D cI cZ ad (0) (N) (A) (R) (kw) (an) (nd) (wt) (B) (Hd) (O) (HL) (CO) (by omega) (by omega) (hn) (hH) (hN) (hkw) (H).size) (cwV 0 hts gX3_asksNode_X3_know rfl rfl rfl (by decide +kernel) ⟨Nat.le_of_ble_eq_true rfl, Nat.le_of_ble_eq_true rfl⟩) (prw_V (q0 := 0) (ci := 3) (hP.sub (ws' := (wM cI cZ ad 0 N A R kw an nd wt B Hd O HL CO)) [0, 1, 2, 3, 4, 5, 6, 7, 8] rfl) (hD.sub (ws' := (wM cI cZ ad 0 N A R kw an nd wt B Hd O HL CO)) [0, 1, 2, 3, 4, 5, 6, 7, 8] (by decide) rfl) hK rfl rfl) rfl rfl hl.1 rfl (lv_room (Nat.le_of_ble_eq_true rfl)) dX3_asksNode_18 ⟨Nat.le_of_ble_eq_true rfl, Nat.le_of_ble_eq_true rfl⟩) hP hD hS hAp [0, 1, 2, 3, 4, 5, 6, 7, 8] [] rfl rfl (by decide) (by decide) (fun u_18 H locs hq_18 hP hD hS => ?_)
    obtain ⟨HL9_18, CO9_18⟩ := u_18
    obtain ⟨hkn_18, -⟩ := hq_18
    have hkn_18 : knOK B Hd O R nd A HL9_18 CO9_18 := hkn_18
    have hP : va_P D vwCl (wM cI cZ ad 0 N A R true an nd wt B Hd O HL9_18 CO9_18) H := hP
    have hD : va_D Ap (wM cI cZ ad 0 N A R true an nd wt B Hd O HL9_18 CO9_18) := hD
    refine lv_aload_n hx hb dX3_asksNode_21 rfl (lv_at hl 0 rfl) ?_
    refine va_get (D := D) (ci := 3) (v := .int (0)) (C := RX3) (T := TX3) (N := 13) hx hb hts hin3 hown hK.1 hP 0 rfl rfl 0 (by decide) f35 (fun _ h9 => h9) rfl dX3_asksNode_22 ?_
    refine lv_if_ne (tgt := 32) hx hb dX3_asksNode_25 (by decide) (fun c_25 => ?_) (fun c_25 => ?_)
    · skip
      exact absurd c_25 (by decide)
    · skip
      refine lv_iconst (v := 1) hx hb dX3_asksNode_28 (by decide) ?_
      refine lv_goto (tgt := 33) hx hb dX3_asksNode_29 (by decide) ?_
      exact mr_z (v := true) (u := (0, HL9_18, CO9_18)) hx hb hrt hlk dX3_asksNode_33 hS hP hD ⟨(by first | rfl | (simp [tNE, tB, c_6, c_25]; done) | (simp only [tNE, tB, c_6, c_25]; rfl) | (simp_all [tNE, tB, c_6, c_25]; done)), (by first | rfl | (simp [tNE, tB, c_6, c_25]; done) | (simp only [tNE, tB, c_6, c_25]; rfl) | (simp_all [tNE, tB, c_6, c_25]; done)), (hkn_18), trivial⟩
set_option maxHeartbeats 4000000 in
set_option maxRecDepth 100000 in
theorem c_X3_asksPair (l : Launch) (D : va_G) (cI cZ : ClassId) (ad : Nat → Nat) (th : Int32) (N : Nat) (A : Nat) (R : Nat) (kw : Bool) (an : Nat → Int32) (nd : Nat → Int32) (wt : Nat → Int32) (B : Nat → Int32) (Hd : Nat → Int32) (O : Nat → Bool) (HL : Nat → Int32) (CO : Nat → Bool) (x : Int32) (y : Int32) (hA : A ≤ 9) (hR : R ≤ 40) (hn : N ≤ 24) (hH : okH N Hd R) (hN : okN N nd A) (hkw : kw = true → knOK B Hd O R nd A HL CO) (sz : Nat) : Met l yX3_asksPair wsX3_asksPair ({ frames := 3, cells := 0, slots := 0, locals := 68 }) (pcW D [(cI, .int), (cZ, .boolean)] sz (wM cI cZ ad th N A R kw an nd wt B Hd O HL CO) [.ref (ad 0), .int (x), .int (y)]) (va_Qi (fun (r9 : Int32) (u9 : (Int32) × (Nat → Int32) × (Nat → Bool)) => (r9 = bI (inR x N && inR y N)) ∧ ((u9.1) = tB (inR x N && inR y N)) ∧ (knOK B Hd O R nd A (u9.2.1) (u9.2.2)) ∧ (True)) (wB D (va_A (wM cI cZ ad th N A R kw an nd wt B Hd O HL CO) sz) (fun u9 : (Int32) × (Nat → Int32) × (Nat → Bool) => (wM cI cZ ad (u9.1) N A R true an nd wt B Hd O (u9.2.1) (u9.2.2)))) (va_A (wM cI cZ ad th N A R kw an nd wt B Hd O HL CO) sz)) 0 0 (va_A (wM cI cZ ad th N A R kw an nd wt B Hd O HL CO) sz) := by
  refine Met.ofW (cc := cX3_asksPair) (maxL := 3) (ret := (some .boolean)) (by decide) rfl ?_
  intro p e s m args below meth c s₁ BB hml hv
  obtain ⟨rfl, hsz, hP, hK, hD0⟩ := hv
  have hx := BB.exec
  have hb := BB.bytes
  have hrt := BB.returns
  have hts := atoms_spec (ws := wsX3_asksPair) BB.pre
  have hown : s.vm.findClass RX3 = some m.cls := findClass_of_methodNamed BB.named
  have hlk := BB.notSynchronized
  subst hsz
  have hD := hD0.self (sz := s.heap.size)
  generalize hAe : va_A (wM cI cZ ad th N A R kw an nd wt B Hd O HL CO) s.heap.size = Ap at hD ⊢
  have hAp : ∀ q : Nat, s.heap.size ≤ q → Ap q := fun q h => by rw [← hAe]; exact Or.inr h
  have hS : va_S Ap s.heap s.heap [] := va_S.rf
  have f35 := hts (.fieldLink RX3 35 "AssumptionKeeperModel" "thrown" "I") (by decide +kernel)
  have hin3 : ∀ w ∈ u_ws RX3 TX3 13, w ∈ wsX3_asksPair := by decide +kernel
  have hl := lv_entry ([.ref (ad 0), .int (x), .int (y)]) (n := 3) (Nat.le_of_ble_eq_true rfl)
  rw [lg_entry_eq]
  generalize (lg_sl ([.ref (ad 0), .int (x), .int (y)]) ++ List.replicate (3 - (lg_sl ([.ref (ad 0), .int (x), .int (y)])).length) Slot.unset).toArray = ls at hl ⊢
  have hl : lv_has ls 3 [(0, .ref (ad 0)), (1, .int (x)), (2, .int (y))] := hl
  refine lv_aload_n hx hb dX3_asksPair_0 rfl (lv_at hl 0 rfl) ?_
  refine lv_aload_n hx hb dX3_asksPair_1 rfl (lv_at hl 0 rfl) ?_
  refine lv_iload_n hx hb dX3_asksPair_2 rfl (lv_at hl 1 rfl) ?_
  refine pu_i (va_runV (As := [.int (x)]) (rest := [.ref (ad 0)]) ⟨hx, hb, hml, hown, hts⟩ (c_X3_isNode l D cI cZ ad (th) (N) (A) (R) (kw) (an) (nd) (wt) (B) (Hd) (O) (HL) (CO) (x) ) (cwV 1 hts gX3_asksPair_X3_isNode rfl rfl rfl (by decide +kernel) ⟨Nat.le_of_ble_eq_true rfl, Nat.le_of_ble_eq_true rfl⟩) (pre_V (q0 := 0) (ci := 3) (hP.sub (ws' := (wM cI cZ ad th N A R kw an nd wt B Hd O HL CO)) [0, 1, 2, 3, 4, 5, 6, 7, 8] rfl) hK rfl rfl) rfl rfl hl.1 rfl (lv_room (Nat.le_of_ble_eq_true rfl)) dX3_asksPair_3 ⟨Nat.zero_le _, Nat.zero_le _⟩) ?_
  refine lv_if_eq (tgt := 21) hx hb dX3_asksPair_6 (by decide) (fun c_6 => ?_) (fun c_6 => ?_)
  · skip
    have c_6 := bI_eq0 c_6
    refine lv_iconst (v := 1) hx hb dX3_asksPair_21 (by decide) ?_
    refine va_put (D := D) (ci := 3) (v := .int (1)) (ty := .int) (C := RX3) (T := TX3) (N := 13) hx hb hts hin3 tyX3 tyX3_ok nmX3 hown hK.1 hP hD hS 0 rfl rfl 0 (by decide) f35 (fun _ h9 => h9) rfl (by decide +kernel) rfl rfl (Nat.le_of_ble_eq_true rfl) dX3_asksPair_22 (fun H locs hP hD hS => ?_)
    have hP : va_P D vwCl (wM cI cZ ad 1 N A R kw an nd wt B Hd O HL CO) H := hP
    have hD : va_D Ap (wM cI cZ ad 1 N A R kw an nd wt B Hd O HL CO) := hD
    refine lv_aload_n hx hb dX3_asksPair_25 rfl (lv_at hl 0 rfl) ?_
    refine mu_v (wr := []) (va_runV (As := []) (rest := []) ⟨hx, hb, hml, hown, hts⟩ (c_X3_know l D cI cZ ad (1) (N) (A) (R) (kw) (an) (nd) (wt) (B) (Hd) (O) (HL) (CO) (by omega) (by omega) (hn) (hH) (hN) (hkw) (H).size) (cwV 0 hts gX3_asksPair_X3_know rfl rfl rfl (by decide +kernel) ⟨Nat.le_of_ble_eq_true rfl, Nat.le_of_ble_eq_true rfl⟩) (prw_V (q0 := 0) (ci := 3) (hP.sub (ws' := (wM cI cZ ad 1 N A R kw an nd wt B Hd O HL CO)) [0, 1, 2, 3, 4, 5, 6, 7, 8] rfl) (hD.sub (ws' := (wM cI cZ ad 1 N A R kw an nd wt B Hd O HL CO)) [0, 1, 2, 3, 4, 5, 6, 7, 8] (by decide) rfl) hK rfl rfl) rfl rfl hl.1 rfl (lv_room (Nat.le_of_ble_eq_true rfl)) dX3_asksPair_26 ⟨Nat.le_of_ble_eq_true rfl, Nat.le_of_ble_eq_true rfl⟩) hP hD hS hAp [0, 1, 2, 3, 4, 5, 6, 7, 8] [] rfl rfl (by decide) (by decide) (fun u_26 H locs hq_26 hP hD hS => ?_)
    obtain ⟨HL9_26, CO9_26⟩ := u_26
    obtain ⟨hkn_26, -⟩ := hq_26
    have hkn_26 : knOK B Hd O R nd A HL9_26 CO9_26 := hkn_26
    have hP : va_P D vwCl (wM cI cZ ad 1 N A R true an nd wt B Hd O HL9_26 CO9_26) H := hP
    have hD : va_D Ap (wM cI cZ ad 1 N A R true an nd wt B Hd O HL9_26 CO9_26) := hD
    refine lv_aload_n hx hb dX3_asksPair_29 rfl (lv_at hl 0 rfl) ?_
    refine va_get (D := D) (ci := 3) (v := .int (1)) (C := RX3) (T := TX3) (N := 13) hx hb hts hin3 hown hK.1 hP 0 rfl rfl 0 (by decide) f35 (fun _ h9 => h9) rfl dX3_asksPair_30 ?_
    refine lv_if_ne (tgt := 40) hx hb dX3_asksPair_33 (by decide) (fun c_33 => ?_) (fun c_33 => ?_)
    · skip
      refine lv_iconst (v := 0) hx hb dX3_asksPair_40 (by decide) ?_
      exact mr_z (v := false) (u := (1, HL9_26, CO9_26)) hx hb hrt hlk dX3_asksPair_41 hS hP hD ⟨(by first | rfl | (simp [tNE, tB, c_6, c_33]; done) | (simp only [tNE, tB, c_6, c_33]; rfl) | (simp_all [tNE, tB, c_6, c_33]; done)), (by first | rfl | (simp [tNE, tB, c_6, c_33]; done) | (simp only [tNE, tB, c_6, c_33]; rfl) | (simp_all [tNE, tB, c_6, c_33]; done)), (hkn_26), trivial⟩
    · skip
      exact absurd c_33 (by decide)
  · skip
    have c_6 := bI_ne0 c_6
    refine lv_aload_n hx hb dX3_asksPair_9 rfl (lv_at hl 0 rfl) ?_
    refine lv_iload_n hx hb dX3_asksPair_10 rfl (lv_at hl 2 rfl) ?_
    refine pu_i (va_runV (As := [.int (y)]) (rest := [.ref (ad 0)]) ⟨hx, hb, hml, hown, hts⟩ (c_X3_isNode l D cI cZ ad (th) (N) (A) (R) (kw) (an) (nd) (wt) (B) (Hd) (O) (HL) (CO) (y) ) (cwV 1 hts gX3_asksPair_X3_isNode rfl rfl rfl (by decide +kernel) ⟨Nat.le_of_ble_eq_true rfl, Nat.le_of_ble_eq_true rfl⟩) (pre_V (q0 := 0) (ci := 3) (hP.sub (ws' := (wM cI cZ ad th N A R kw an nd wt B Hd O HL CO)) [0, 1, 2, 3, 4, 5, 6, 7, 8] rfl) hK rfl rfl) rfl rfl hl.1 rfl (lv_room (Nat.le_of_ble_eq_true rfl)) dX3_asksPair_11 ⟨Nat.zero_le _, Nat.zero_le _⟩) ?_
    refine lv_if_eq (tgt := 21) hx hb dX3_asksPair_14 (by decide) (fun c_14 => ?_) (fun c_14 => ?_)
    · skip
      have c_14 := bI_eq0 c_14
      refine lv_iconst (v := 1) hx hb dX3_asksPair_21 (by decide) ?_
      refine va_put (D := D) (ci := 3) (v := .int (1)) (ty := .int) (C := RX3) (T := TX3) (N := 13) hx hb hts hin3 tyX3 tyX3_ok nmX3 hown hK.1 hP hD hS 0 rfl rfl 0 (by decide) f35 (fun _ h9 => h9) rfl (by decide +kernel) rfl rfl (Nat.le_of_ble_eq_true rfl) dX3_asksPair_22 (fun H locs hP hD hS => ?_)
      have hP : va_P D vwCl (wM cI cZ ad 1 N A R kw an nd wt B Hd O HL CO) H := hP
      have hD : va_D Ap (wM cI cZ ad 1 N A R kw an nd wt B Hd O HL CO) := hD
      refine lv_aload_n hx hb dX3_asksPair_25 rfl (lv_at hl 0 rfl) ?_
      refine mu_v (wr := []) (va_runV (As := []) (rest := []) ⟨hx, hb, hml, hown, hts⟩ (c_X3_know l D cI cZ ad (1) (N) (A) (R) (kw) (an) (nd) (wt) (B) (Hd) (O) (HL) (CO) (by omega) (by omega) (hn) (hH) (hN) (hkw) (H).size) (cwV 0 hts gX3_asksPair_X3_know rfl rfl rfl (by decide +kernel) ⟨Nat.le_of_ble_eq_true rfl, Nat.le_of_ble_eq_true rfl⟩) (prw_V (q0 := 0) (ci := 3) (hP.sub (ws' := (wM cI cZ ad 1 N A R kw an nd wt B Hd O HL CO)) [0, 1, 2, 3, 4, 5, 6, 7, 8] rfl) (hD.sub (ws' := (wM cI cZ ad 1 N A R kw an nd wt B Hd O HL CO)) [0, 1, 2, 3, 4, 5, 6, 7, 8] (by decide) rfl) hK rfl rfl) rfl rfl hl.1 rfl (lv_room (Nat.le_of_ble_eq_true rfl)) dX3_asksPair_26 ⟨Nat.le_of_ble_eq_true rfl, Nat.le_of_ble_eq_true rfl⟩) hP hD hS hAp [0, 1, 2, 3, 4, 5, 6, 7, 8] [] rfl rfl (by decide) (by decide) (fun u_26 H locs hq_26 hP hD hS => ?_)
      obtain ⟨HL9_26, CO9_26⟩ := u_26
      obtain ⟨hkn_26, -⟩ := hq_26
      have hkn_26 : knOK B Hd O R nd A HL9_26 CO9_26 := hkn_26
      have hP : va_P D vwCl (wM cI cZ ad 1 N A R true an nd wt B Hd O HL9_26 CO9_26) H := hP
      have hD : va_D Ap (wM cI cZ ad 1 N A R true an nd wt B Hd O HL9_26 CO9_26) := hD
      refine lv_aload_n hx hb dX3_asksPair_29 rfl (lv_at hl 0 rfl) ?_
      refine va_get (D := D) (ci := 3) (v := .int (1)) (C := RX3) (T := TX3) (N := 13) hx hb hts hin3 hown hK.1 hP 0 rfl rfl 0 (by decide) f35 (fun _ h9 => h9) rfl dX3_asksPair_30 ?_
      refine lv_if_ne (tgt := 40) hx hb dX3_asksPair_33 (by decide) (fun c_33 => ?_) (fun c_33 => ?_)
      · skip
        refine lv_iconst (v := 0) hx hb dX3_asksPair_40 (by decide) ?_
        exact mr_z (v := false) (u := (1, HL9_26, CO9_26)) hx hb hrt hlk dX3_asksPair_41 hS hP hD ⟨(by first | rfl | (simp [tNE, tB, c_6, c_14, c_33]; done) | (simp only [tNE, tB, c_6, c_14, c_33]; rfl) | (simp_all [tNE, tB, c_6, c_14, c_33]; done)), (by first | rfl | (simp [tNE, tB, c_6, c_14, c_33]; done) | (simp only [tNE, tB, c_6, c_14, c_33]; rfl) | (simp_all [tNE, tB, c_6, c_14, c_33]; done)), (hkn_26), trivial⟩
      · skip
        exact absurd c_33 (by decide)
    · skip
      have c_14 := bI_ne0 c_14
      refine lv_iconst (v := 0) hx hb dX3_asksPair_17 (by decide) ?_
      refine lv_goto (tgt := 22) hx hb dX3_asksPair_18 (by decide) ?_
      refine va_put (D := D) (ci := 3) (v := .int (0)) (ty := .int) (C := RX3) (T := TX3) (N := 13) hx hb hts hin3 tyX3 tyX3_ok nmX3 hown hK.1 hP hD hS 0 rfl rfl 0 (by decide) f35 (fun _ h9 => h9) rfl (by decide +kernel) rfl rfl (Nat.le_of_ble_eq_true rfl) dX3_asksPair_22 (fun H locs hP hD hS => ?_)
      have hP : va_P D vwCl (wM cI cZ ad 0 N A R kw an nd wt B Hd O HL CO) H := hP
      have hD : va_D Ap (wM cI cZ ad 0 N A R kw an nd wt B Hd O HL CO) := hD
      refine lv_aload_n hx hb dX3_asksPair_25 rfl (lv_at hl 0 rfl) ?_
      refine mu_v (wr := []) (va_runV (As := []) (rest := []) ⟨hx, hb, hml, hown, hts⟩ (c_X3_know l D cI cZ ad (0) (N) (A) (R) (kw) (an) (nd) (wt) (B) (Hd) (O) (HL) (CO) (by omega) (by omega) (hn) (hH) (hN) (hkw) (H).size) (cwV 0 hts gX3_asksPair_X3_know rfl rfl rfl (by decide +kernel) ⟨Nat.le_of_ble_eq_true rfl, Nat.le_of_ble_eq_true rfl⟩) (prw_V (q0 := 0) (ci := 3) (hP.sub (ws' := (wM cI cZ ad 0 N A R kw an nd wt B Hd O HL CO)) [0, 1, 2, 3, 4, 5, 6, 7, 8] rfl) (hD.sub (ws' := (wM cI cZ ad 0 N A R kw an nd wt B Hd O HL CO)) [0, 1, 2, 3, 4, 5, 6, 7, 8] (by decide) rfl) hK rfl rfl) rfl rfl hl.1 rfl (lv_room (Nat.le_of_ble_eq_true rfl)) dX3_asksPair_26 ⟨Nat.le_of_ble_eq_true rfl, Nat.le_of_ble_eq_true rfl⟩) hP hD hS hAp [0, 1, 2, 3, 4, 5, 6, 7, 8] [] rfl rfl (by decide) (by decide) (fun u_26 H locs hq_26 hP hD hS => ?_)
      obtain ⟨HL9_26, CO9_26⟩ := u_26
      obtain ⟨hkn_26, -⟩ := hq_26
      have hkn_26 : knOK B Hd O R nd A HL9_26 CO9_26 := hkn_26
      have hP : va_P D vwCl (wM cI cZ ad 0 N A R true an nd wt B Hd O HL9_26 CO9_26) H := hP
      have hD : va_D Ap (wM cI cZ ad 0 N A R true an nd wt B Hd O HL9_26 CO9_26) := hD
      refine lv_aload_n hx hb dX3_asksPair_29 rfl (lv_at hl 0 rfl) ?_
      refine va_get (D := D) (ci := 3) (v := .int (0)) (C := RX3) (T := TX3) (N := 13) hx hb hts hin3 hown hK.1 hP 0 rfl rfl 0 (by decide) f35 (fun _ h9 => h9) rfl dX3_asksPair_30 ?_
      refine lv_if_ne (tgt := 40) hx hb dX3_asksPair_33 (by decide) (fun c_33 => ?_) (fun c_33 => ?_)
      · skip
        exact absurd c_33 (by decide)
      · skip
        refine lv_iconst (v := 1) hx hb dX3_asksPair_36 (by decide) ?_
        refine lv_goto (tgt := 41) hx hb dX3_asksPair_37 (by decide) ?_
        exact mr_z (v := true) (u := (0, HL9_26, CO9_26)) hx hb hrt hlk dX3_asksPair_41 hS hP hD ⟨(by first | rfl | (simp [tNE, tB, c_6, c_14, c_33]; done) | (simp only [tNE, tB, c_6, c_14, c_33]; rfl) | (simp_all [tNE, tB, c_6, c_14, c_33]; done)), (by first | rfl | (simp [tNE, tB, c_6, c_14, c_33]; done) | (simp only [tNE, tB, c_6, c_14, c_33]; rfl) | (simp_all [tNE, tB, c_6, c_14, c_33]; done)), (hkn_26), trivial⟩
set_option maxHeartbeats 4000000 in
set_option maxRecDepth 100000 in
theorem c_X3_holds (l : Launch) (D : va_G) (cI cZ : ClassId) (ad : Nat → Nat) (th : Int32) (N : Nat) (A : Nat) (R : Nat) (kw : Bool) (an : Nat → Int32) (nd : Nat → Int32) (wt : Nat → Int32) (B : Nat → Int32) (Hd : Nat → Int32) (O : Nat → Bool) (HL : Nat → Int32) (CO : Nat → Bool) (x0 : Int32) (y0 : Int32) (hA : A ≤ 9) (hR : R ≤ 40) (hn : N ≤ 24) (hH : okH N Hd R) (hN : okN N nd A) (hkw : kw = true → knOK B Hd O R nd A HL CO) (sz : Nat) : Met l yX3_holds wsX3_holds ({ frames := 4, cells := 0, slots := 0, locals := 90 }) (pcW D [(cI, .int), (cZ, .boolean)] sz (wM cI cZ ad th N A R kw an nd wt B Hd O HL CO) [.ref (ad 0), .int (x0), .int (y0)]) (va_Qi (fun (r9 : Int32) (u9 : (Int32) × (Nat → Int32) × (Nat → Bool) × (Bool)) => ((u9.1) = tNE (inR x0 N) (inS y0 A)) ∧ ((u9.2.2.2) = true → knOK B Hd O R nd A (u9.2.1) (u9.2.2.1)) ∧ (inR x0 N = true → inS y0 A = true → r9 = bI (hs (clo B Hd O R (bg nd y0 A)) x0)) ∧ (True)) (wB D (va_A (wM cI cZ ad th N A R kw an nd wt B Hd O HL CO) sz) (fun u9 : (Int32) × (Nat → Int32) × (Nat → Bool) × (Bool) => (wM cI cZ ad (u9.1) N A R (u9.2.2.2) an nd wt B Hd O (u9.2.1) (u9.2.2.1)))) (va_A (wM cI cZ ad th N A R kw an nd wt B Hd O HL CO) sz)) 0 0 (va_A (wM cI cZ ad th N A R kw an nd wt B Hd O HL CO) sz) := by
  refine Met.ofW (cc := cX3_holds) (maxL := 3) (ret := (some .boolean)) (by decide) rfl ?_
  intro p e s m args below meth c s₁ BB hml hv
  obtain ⟨rfl, hsz, hP, hK, hD0⟩ := hv
  have hx := BB.exec
  have hb := BB.bytes
  have hrt := BB.returns
  have hts := atoms_spec (ws := wsX3_holds) BB.pre
  have hown : s.vm.findClass RX3 = some m.cls := findClass_of_methodNamed BB.named
  have hlk := BB.notSynchronized
  subst hsz
  have hD := hD0.self (sz := s.heap.size)
  generalize hAe : va_A (wM cI cZ ad th N A R kw an nd wt B Hd O HL CO) s.heap.size = Ap at hD ⊢
  have hAp : ∀ q : Nat, s.heap.size ≤ q → Ap q := fun q h => by rw [← hAe]; exact Or.inr h
  have hS : va_S Ap s.heap s.heap [] := va_S.rf
  have hl := lv_entry ([.ref (ad 0), .int (x0), .int (y0)]) (n := 3) (Nat.le_of_ble_eq_true rfl)
  rw [lg_entry_eq]
  generalize (lg_sl ([.ref (ad 0), .int (x0), .int (y0)]) ++ List.replicate (3 - (lg_sl ([.ref (ad 0), .int (x0), .int (y0)])).length) Slot.unset).toArray = ls at hl ⊢
  have hl : lv_has ls 3 [(0, .ref (ad 0)), (1, .int (x0)), (2, .int (y0))] := hl
  have h512 : 2 ^ A ≤ 512 := pow9 hA
  have hpos : 0 < 2 ^ A := Nat.two_pow_pos A
  refine lv_aload_n hx hb dX3_holds_0 rfl (lv_at hl 0 rfl) ?_
  refine lv_iload_n hx hb dX3_holds_1 rfl (lv_at hl 1 rfl) ?_
  refine lv_iload_n hx hb dX3_holds_2 rfl (lv_at hl 2 rfl) ?_
  refine mu_i (wr := []) (va_runV (As := [.int (x0), .int (y0)]) (rest := []) ⟨hx, hb, hml, hown, hts⟩ (c_X3_asks l D cI cZ ad (th) (N) (A) (R) (kw) (an) (nd) (wt) (B) (Hd) (O) (HL) (CO) (x0) (y0) (by omega) (by omega) (hn) (hH) (hN) (hkw) (s.heap).size) (cwV 2 hts gX3_holds_X3_asks rfl rfl rfl (by decide +kernel) ⟨Nat.le_of_ble_eq_true rfl, Nat.le_of_ble_eq_true rfl⟩) (prw_V (q0 := 0) (ci := 3) (hP.sub (ws' := (wM cI cZ ad th N A R kw an nd wt B Hd O HL CO)) [0, 1, 2, 3, 4, 5, 6, 7, 8] rfl) (hD.sub (ws' := (wM cI cZ ad th N A R kw an nd wt B Hd O HL CO)) [0, 1, 2, 3, 4, 5, 6, 7, 8] (by decide) rfl) hK rfl rfl) rfl rfl hl.1 rfl (lv_room (Nat.le_of_ble_eq_true rfl)) dX3_holds_3 ⟨Nat.le_of_ble_eq_true rfl, Nat.le_of_ble_eq_true rfl⟩) hP hD hS hAp [0, 1, 2, 3, 4, 5, 6, 7, 8] [] rfl rfl (by decide) (by decide) (fun r_3 u_3 H locs hq_3 hP hD hS => ?_)
  obtain ⟨th9_3, HL9_3, CO9_3⟩ := u_3
  obtain ⟨rfl, hthp_3, hkn_3, -⟩ := hq_3
  have hthp_3 : th9_3 = tNE (inR x0 N) (inS y0 A) := hthp_3
  have hkn_3 : knOK B Hd O R nd A HL9_3 CO9_3 := hkn_3
  have hP : va_P D vwCl (wM cI cZ ad th9_3 N A R true an nd wt B Hd O HL9_3 CO9_3) H := hP
  have hD : va_D Ap (wM cI cZ ad th9_3 N A R true an nd wt B Hd O HL9_3 CO9_3) := hD
  refine lv_if_eq (tgt := 22) hx hb dX3_holds_6 (by decide) (fun c_6 => ?_) (fun c_6 => ?_)
  · skip
    have c_6 := bI_eq0 c_6
    refine lv_iconst (v := 0) hx hb dX3_holds_22 (by decide) ?_
    exact mr_z (v := false) (u := (th9_3, HL9_3, CO9_3, true)) hx hb hrt hlk dX3_holds_23 hS hP hD ⟨(hthp_3), (fun _ => hkn_3), (by intro h1 h2; first | (rw [h1, h2] at c_6; cases c_6; done) | (have h9 := c_15; rw [knH hkn_3 e0 he0] at h9; exact (congrArg bI h9).symm)), trivial⟩
  · skip
    have c_6 := bI_ne0 c_6
    have hab : inR x0 N = true ∧ inS y0 A = true := by simpa using c_6
    obtain ⟨e0, he0, rfl⟩ := inS_nat (by omega) (hab.2)
    refine lv_aload_n hx hb dX3_holds_9 rfl (lv_at hl 0 rfl) ?_
    refine lv_iload_n hx hb dX3_holds_10 rfl (lv_at hl 1 rfl) ?_
    refine lv_iload_n hx hb dX3_holds_11 rfl (lv_at hl 2 rfl) ?_
    refine pu_i (va_runV (As := [.int (x0), .int (nI (e0))]) (rest := []) ⟨hx, hb, hml, hown, hts⟩ (c_X3_has l D cI cZ ad (th9_3) (N) (A) (R) (true) (an) (nd) (wt) (B) (Hd) (O) (HL9_3) (CO9_3) (x0) (e0) (by omega)) (cwV 2 hts gX3_holds_X3_has rfl rfl rfl (by decide +kernel) ⟨Nat.le_of_ble_eq_true rfl, Nat.le_of_ble_eq_true rfl⟩) (pre_V (q0 := 0) (ci := 3) (hP.sub (ws' := (wM cI cZ ad th9_3 N A R true an nd wt B Hd O HL9_3 CO9_3)) [0, 1, 2, 3, 4, 5, 6, 7, 8] rfl) hK rfl rfl) rfl rfl hl.1 rfl (lv_room (Nat.le_of_ble_eq_true rfl)) dX3_holds_12 ⟨Nat.zero_le _, Nat.zero_le _⟩) ?_
    refine lv_if_eq (tgt := 22) hx hb dX3_holds_15 (by decide) (fun c_15 => ?_) (fun c_15 => ?_)
    · skip
      have c_15 := bI_eq0 c_15
      refine lv_iconst (v := 0) hx hb dX3_holds_22 (by decide) ?_
      exact mr_z (v := false) (u := (th9_3, HL9_3, CO9_3, true)) hx hb hrt hlk dX3_holds_23 hS hP hD ⟨(hthp_3), (fun _ => hkn_3), (by intro h1 h2; first | (rw [h1, h2] at c_6; cases c_6; done) | (have h9 := c_15; rw [knH hkn_3 e0 he0] at h9; exact (congrArg bI h9).symm)), trivial⟩
    · skip
      have c_15 := bI_ne0 c_15
      refine lv_iconst (v := 1) hx hb dX3_holds_18 (by decide) ?_
      refine lv_goto (tgt := 23) hx hb dX3_holds_19 (by decide) ?_
      exact mr_z (v := true) (u := (th9_3, HL9_3, CO9_3, true)) hx hb hrt hlk dX3_holds_23 hS hP hD ⟨(hthp_3), (fun _ => hkn_3), (by intro h1 h2; first | (rw [h1, h2] at c_6; cases c_6; done) | (have h9 := c_15; rw [knH hkn_3 e0 he0] at h9; exact (congrArg bI h9).symm)), trivial⟩
set_option maxHeartbeats 4000000 in
set_option maxRecDepth 100000 in
theorem c_X3_depth (l : Launch) (D : va_G) (cI cZ : ClassId) (ad : Nat → Nat) (th : Int32) (N : Nat) (A : Nat) (R : Nat) (kw : Bool) (an : Nat → Int32) (nd : Nat → Int32) (wt : Nat → Int32) (B : Nat → Int32) (Hd : Nat → Int32) (O : Nat → Bool) (HL : Nat → Int32) (CO : Nat → Bool) (x0 : Int32) (y0 : Int32) (hA : A ≤ 9) (hR : R ≤ 40) (hn : N ≤ 24) (hH : okH N Hd R) (hN : okN N nd A) (hkw : kw = true → knOK B Hd O R nd A HL CO) (sz : Nat) : Met l yX3_depth wsX3_depth ({ frames := 4, cells := 0, slots := 0, locals := 90 }) (pcW D [(cI, .int), (cZ, .boolean)] sz (wM cI cZ ad th N A R kw an nd wt B Hd O HL CO) [.ref (ad 0), .int (x0), .int (y0)]) (va_Qi (fun (r9 : Int32) (u9 : (Int32) × (Nat → Int32) × (Nat → Bool) × (Bool)) => ((u9.1) = tNE (inR x0 N) (inS y0 A)) ∧ ((u9.2.2.2) = true → knOK B Hd O R nd A (u9.2.1) (u9.2.2.1)) ∧ (inR x0 N = true → inS y0 A = true → r9 = fndI (fun d => hs (itr (fun y => aR B Hd O y R) (bg nd y0 A) d) x0) 25 (-1)) ∧ (True)) (wB D (va_A (wM cI cZ ad th N A R kw an nd wt B Hd O HL CO) sz) (fun u9 : (Int32) × (Nat → Int32) × (Nat → Bool) × (Bool) => (wM cI cZ ad (u9.1) N A R (u9.2.2.2) an nd wt B Hd O (u9.2.1) (u9.2.2.1)))) (va_A (wM cI cZ ad th N A R kw an nd wt B Hd O HL CO) sz)) 0 0 (va_A (wM cI cZ ad th N A R kw an nd wt B Hd O HL CO) sz) := by
  refine Met.ofW (cc := cX3_depth) (maxL := 3) (ret := (some .int)) (by decide) rfl ?_
  intro p e s m args below meth c s₁ BB hml hv
  obtain ⟨rfl, hsz, hP, hK, hD0⟩ := hv
  have hx := BB.exec
  have hb := BB.bytes
  have hrt := BB.returns
  have hts := atoms_spec (ws := wsX3_depth) BB.pre
  have hown : s.vm.findClass RX3 = some m.cls := findClass_of_methodNamed BB.named
  have hlk := BB.notSynchronized
  subst hsz
  have hD := hD0.self (sz := s.heap.size)
  generalize hAe : va_A (wM cI cZ ad th N A R kw an nd wt B Hd O HL CO) s.heap.size = Ap at hD ⊢
  have hAp : ∀ q : Nat, s.heap.size ≤ q → Ap q := fun q h => by rw [← hAe]; exact Or.inr h
  have hS : va_S Ap s.heap s.heap [] := va_S.rf
  have hl := lv_entry ([.ref (ad 0), .int (x0), .int (y0)]) (n := 3) (Nat.le_of_ble_eq_true rfl)
  rw [lg_entry_eq]
  generalize (lg_sl ([.ref (ad 0), .int (x0), .int (y0)]) ++ List.replicate (3 - (lg_sl ([.ref (ad 0), .int (x0), .int (y0)])).length) Slot.unset).toArray = ls at hl ⊢
  have hl : lv_has ls 3 [(0, .ref (ad 0)), (1, .int (x0)), (2, .int (y0))] := hl
  have h512 : 2 ^ A ≤ 512 := pow9 hA
  have hpos : 0 < 2 ^ A := Nat.two_pow_pos A
  refine lv_aload_n hx hb dX3_depth_0 rfl (lv_at hl 0 rfl) ?_
  refine lv_iload_n hx hb dX3_depth_1 rfl (lv_at hl 1 rfl) ?_
  refine lv_iload_n hx hb dX3_depth_2 rfl (lv_at hl 2 rfl) ?_
  refine mu_i (wr := []) (va_runV (As := [.int (x0), .int (y0)]) (rest := []) ⟨hx, hb, hml, hown, hts⟩ (c_X3_asks l D cI cZ ad (th) (N) (A) (R) (kw) (an) (nd) (wt) (B) (Hd) (O) (HL) (CO) (x0) (y0) (by omega) (by omega) (hn) (hH) (hN) (hkw) (s.heap).size) (cwV 2 hts gX3_depth_X3_asks rfl rfl rfl (by decide +kernel) ⟨Nat.le_of_ble_eq_true rfl, Nat.le_of_ble_eq_true rfl⟩) (prw_V (q0 := 0) (ci := 3) (hP.sub (ws' := (wM cI cZ ad th N A R kw an nd wt B Hd O HL CO)) [0, 1, 2, 3, 4, 5, 6, 7, 8] rfl) (hD.sub (ws' := (wM cI cZ ad th N A R kw an nd wt B Hd O HL CO)) [0, 1, 2, 3, 4, 5, 6, 7, 8] (by decide) rfl) hK rfl rfl) rfl rfl hl.1 rfl (lv_room (Nat.le_of_ble_eq_true rfl)) dX3_depth_3 ⟨Nat.le_of_ble_eq_true rfl, Nat.le_of_ble_eq_true rfl⟩) hP hD hS hAp [0, 1, 2, 3, 4, 5, 6, 7, 8] [] rfl rfl (by decide) (by decide) (fun r_3 u_3 H locs hq_3 hP hD hS => ?_)
  obtain ⟨th9_3, HL9_3, CO9_3⟩ := u_3
  obtain ⟨rfl, hthp_3, hkn_3, -⟩ := hq_3
  have hthp_3 : th9_3 = tNE (inR x0 N) (inS y0 A) := hthp_3
  have hkn_3 : knOK B Hd O R nd A HL9_3 CO9_3 := hkn_3
  have hP : va_P D vwCl (wM cI cZ ad th9_3 N A R true an nd wt B Hd O HL9_3 CO9_3) H := hP
  have hD : va_D Ap (wM cI cZ ad th9_3 N A R true an nd wt B Hd O HL9_3 CO9_3) := hD
  refine lv_if_eq (tgt := 18) hx hb dX3_depth_6 (by decide) (fun c_6 => ?_) (fun c_6 => ?_)
  · skip
    have c_6 := bI_eq0 c_6
    refine lv_iconst (v := 0) hx hb dX3_depth_18 (by decide) ?_
    exact mr_i (u := (th9_3, HL9_3, CO9_3, true)) hx hb hrt hlk dX3_depth_19 hS hP hD ⟨(hthp_3), (fun _ => hkn_3), (by intro h1 h2; first | rfl | (rw [h1, h2] at c_6; cases c_6; done)), trivial⟩
  · skip
    have c_6 := bI_ne0 c_6
    have hab : inR x0 N = true ∧ inS y0 A = true := by simpa using c_6
    obtain ⟨e0, he0, rfl⟩ := inS_nat (by omega) (hab.2)
    refine lv_aload_n hx hb dX3_depth_9 rfl (lv_at hl 0 rfl) ?_
    refine lv_iload_n hx hb dX3_depth_10 rfl (lv_at hl 1 rfl) ?_
    refine lv_iload_n hx hb dX3_depth_11 rfl (lv_at hl 2 rfl) ?_
    refine pu_i (va_runV (As := [.int (x0), .int (nI (e0))]) (rest := []) ⟨hx, hb, hml, hown, hts⟩ (c_X3_depthIn l D cI cZ ad (th9_3) (N) (A) (R) (true) (an) (nd) (wt) (B) (Hd) (O) (HL9_3) (CO9_3) (x0) (e0) (by omega) (by omega) (by omega) (knH hkn_3 e0 he0) (hup_ hn hab.1 _)) (cwV 2 hts gX3_depth_X3_depthIn rfl rfl rfl (by decide +kernel) ⟨Nat.le_of_ble_eq_true rfl, Nat.le_of_ble_eq_true rfl⟩) (pre_V (q0 := 0) (ci := 3) (hP.sub (ws' := (wM cI cZ ad th9_3 N A R true an nd wt B Hd O HL9_3 CO9_3)) [0, 1, 2, 3, 4, 5, 6, 7, 8] rfl) hK rfl rfl) rfl rfl hl.1 rfl (lv_room (Nat.le_of_ble_eq_true rfl)) dX3_depth_12 ⟨Nat.zero_le _, Nat.zero_le _⟩) ?_
    refine lv_goto (tgt := 19) hx hb dX3_depth_15 (by decide) ?_
    exact mr_i (u := (th9_3, HL9_3, CO9_3, true)) hx hb hrt hlk dX3_depth_19 hS hP hD ⟨(hthp_3), (fun _ => hkn_3), (by intro h1 h2; first | rfl | (rw [h1, h2] at c_6; cases c_6; done)), trivial⟩
set_option maxHeartbeats 4000000 in
set_option maxRecDepth 100000 in
theorem c_X3_support (l : Launch) (D : va_G) (cI cZ : ClassId) (ad : Nat → Nat) (th : Int32) (N : Nat) (A : Nat) (R : Nat) (kw : Bool) (an : Nat → Int32) (nd : Nat → Int32) (wt : Nat → Int32) (B : Nat → Int32) (Hd : Nat → Int32) (O : Nat → Bool) (HL : Nat → Int32) (CO : Nat → Bool) (x0 : Int32) (y0 : Int32) (hA : A ≤ 9) (hR : R ≤ 40) (hn : N ≤ 24) (hH : okH N Hd R) (hN : okN N nd A) (hkw : kw = true → knOK B Hd O R nd A HL CO) (sz : Nat) : Met l yX3_support wsX3_support ({ frames := 4, cells := 0, slots := 0, locals := 90 }) (pcW D [(cI, .int), (cZ, .boolean)] sz (wM cI cZ ad th N A R kw an nd wt B Hd O HL CO) [.ref (ad 0), .int (x0), .int (y0)]) (va_Qi (fun (r9 : Int32) (u9 : (Int32) × (Nat → Int32) × (Nat → Bool) × (Bool)) => ((u9.1) = tNE (inR x0 N) (inS y0 A)) ∧ ((u9.2.2.2) = true → knOK B Hd O R nd A (u9.2.1) (u9.2.2.1)) ∧ (inR x0 N = true → inS y0 A = true → r9 = supE B Hd O R (bg nd y0 A) x0) ∧ (True)) (wB D (va_A (wM cI cZ ad th N A R kw an nd wt B Hd O HL CO) sz) (fun u9 : (Int32) × (Nat → Int32) × (Nat → Bool) × (Bool) => (wM cI cZ ad (u9.1) N A R (u9.2.2.2) an nd wt B Hd O (u9.2.1) (u9.2.2.1)))) (va_A (wM cI cZ ad th N A R kw an nd wt B Hd O HL CO) sz)) 0 0 (va_A (wM cI cZ ad th N A R kw an nd wt B Hd O HL CO) sz) := by
  refine Met.ofW (cc := cX3_support) (maxL := 6) (ret := (some .int)) (by decide) rfl ?_
  intro p e s m args below meth c s₁ BB hml hv
  obtain ⟨rfl, hsz, hP, hK, hD0⟩ := hv
  have hx := BB.exec
  have hb := BB.bytes
  have hrt := BB.returns
  have hts := atoms_spec (ws := wsX3_support) BB.pre
  have hown : s.vm.findClass RX3 = some m.cls := findClass_of_methodNamed BB.named
  have hlk := BB.notSynchronized
  subst hsz
  have hD := hD0.self (sz := s.heap.size)
  generalize hAe : va_A (wM cI cZ ad th N A R kw an nd wt B Hd O HL CO) s.heap.size = Ap at hD ⊢
  have hAp : ∀ q : Nat, s.heap.size ≤ q → Ap q := fun q h => by rw [← hAe]; exact Or.inr h
  have hS : va_S Ap s.heap s.heap [] := va_S.rf
  have f19 := hts (.fieldLink RX3 19 "AssumptionKeeperModel" "bodies" "[I") (by decide +kernel)
  have f22 := hts (.fieldLink RX3 22 "AssumptionKeeperModel" "heads" "[I") (by decide +kernel)
  have f25 := hts (.fieldLink RX3 25 "AssumptionKeeperModel" "areOn" "[Z") (by decide +kernel)
  have hin3 : ∀ w ∈ u_ws RX3 TX3 13, w ∈ wsX3_support := by decide +kernel
  have hl := lv_entry ([.ref (ad 0), .int (x0), .int (y0)]) (n := 6) (Nat.le_of_ble_eq_true rfl)
  rw [lg_entry_eq]
  generalize (lg_sl ([.ref (ad 0), .int (x0), .int (y0)]) ++ List.replicate (6 - (lg_sl ([.ref (ad 0), .int (x0), .int (y0)])).length) Slot.unset).toArray = ls at hl ⊢
  have hl : lv_has ls 6 [(0, .ref (ad 0)), (1, .int (x0)), (2, .int (y0))] := hl
  have h512 : 2 ^ A ≤ 512 := pow9 hA
  have hpos : 0 < 2 ^ A := Nat.two_pow_pos A
  refine lv_aload_n hx hb dX3_support_0 rfl (lv_at hl 0 rfl) ?_
  refine lv_iload_n hx hb dX3_support_1 rfl (lv_at hl 1 rfl) ?_
  refine lv_iload_n hx hb dX3_support_2 rfl (lv_at hl 2 rfl) ?_
  refine mu_i (wr := []) (va_runV (As := [.int (x0), .int (y0)]) (rest := []) ⟨hx, hb, hml, hown, hts⟩ (c_X3_asks l D cI cZ ad (th) (N) (A) (R) (kw) (an) (nd) (wt) (B) (Hd) (O) (HL) (CO) (x0) (y0) (by omega) (by omega) (hn) (hH) (hN) (hkw) (s.heap).size) (cwV 2 hts gX3_support_X3_asks rfl rfl rfl (by decide +kernel) ⟨Nat.le_of_ble_eq_true rfl, Nat.le_of_ble_eq_true rfl⟩) (prw_V (q0 := 0) (ci := 3) (hP.sub (ws' := (wM cI cZ ad th N A R kw an nd wt B Hd O HL CO)) [0, 1, 2, 3, 4, 5, 6, 7, 8] rfl) (hD.sub (ws' := (wM cI cZ ad th N A R kw an nd wt B Hd O HL CO)) [0, 1, 2, 3, 4, 5, 6, 7, 8] (by decide) rfl) hK rfl rfl) rfl rfl hl.1 rfl (lv_room (Nat.le_of_ble_eq_true rfl)) dX3_support_3 ⟨Nat.le_of_ble_eq_true rfl, Nat.le_of_ble_eq_true rfl⟩) hP hD hS hAp [0, 1, 2, 3, 4, 5, 6, 7, 8] [] rfl rfl (by decide) (by decide) (fun r_3 u_3 H locs hq_3 hP hD hS => ?_)
  obtain ⟨th9_3, HL9_3, CO9_3⟩ := u_3
  obtain ⟨rfl, hthp_3, hkn_3, -⟩ := hq_3
  have hthp_3 : th9_3 = tNE (inR x0 N) (inS y0 A) := hthp_3
  have hkn_3 : knOK B Hd O R nd A HL9_3 CO9_3 := hkn_3
  have hP : va_P D vwCl (wM cI cZ ad th9_3 N A R true an nd wt B Hd O HL9_3 CO9_3) H := hP
  have hD : va_D Ap (wM cI cZ ad th9_3 N A R true an nd wt B Hd O HL9_3 CO9_3) := hD
  refine lv_if_ne (tgt := 11) hx hb dX3_support_6 (by decide) (fun c_6 => ?_) (fun c_6 => ?_)
  · skip
    have c_6 := bI_ne0 c_6
    have hab : inR x0 N = true ∧ inS y0 A = true := by simpa using c_6
    obtain ⟨e0, he0, rfl⟩ := inS_nat (by omega) (hab.2)
    refine lv_aload_n hx hb dX3_support_11 rfl (lv_at hl 0 rfl) ?_
    refine lv_iload_n hx hb dX3_support_12 rfl (lv_at hl 1 rfl) ?_
    refine lv_iload_n hx hb dX3_support_13 rfl (lv_at hl 2 rfl) ?_
    refine pu_i (va_runV (As := [.int (x0), .int (nI (e0))]) (rest := []) ⟨hx, hb, hml, hown, hts⟩ (c_X3_depthIn l D cI cZ ad (th9_3) (N) (A) (R) (true) (an) (nd) (wt) (B) (Hd) (O) (HL9_3) (CO9_3) (x0) (e0) (by omega) (by omega) (by omega) (knH hkn_3 e0 he0) (hup_ hn hab.1 _)) (cwV 2 hts gX3_support_X3_depthIn rfl rfl rfl (by decide +kernel) ⟨Nat.le_of_ble_eq_true rfl, Nat.le_of_ble_eq_true rfl⟩) (pre_V (q0 := 0) (ci := 3) (hP.sub (ws' := (wM cI cZ ad th9_3 N A R true an nd wt B Hd O HL9_3 CO9_3)) [0, 1, 2, 3, 4, 5, 6, 7, 8] rfl) hK rfl rfl) rfl rfl hl.1 rfl (lv_room (Nat.le_of_ble_eq_true rfl)) dX3_support_14 ⟨Nat.zero_le _, Nat.zero_le _⟩) ?_
    refine lv_istore_n (lv' := [(3, .int (fndI (fun d => hs (itr (fun y => aR B Hd O y R) (bg nd (nI e0) A) d) x0) 25 (-1))), (0, .ref (ad 0)), (1, .int (x0)), (2, .int (nI (e0)))]) hx hb dX3_support_17 rfl hl (by decide) rfl (fun ls hl => ?_)
    refine lv_iload_n hx hb dX3_support_18 rfl (lv_at hl 0 rfl) ?_
    refine lv_if_gt (tgt := 33) hx hb dX3_support_19 (by decide) (fun c_19 => ?_) (fun c_19 => ?_)
    · skip
      obtain ⟨d0, hd1, hd2, hdv, hPd, hnd⟩ := fnd_pos c_19
      rw [hdv] at hl
      refine lv_aload_n hx hb dX3_support_33 rfl (lv_at hl 1 rfl) ?_
      refine lv_iload_n hx hb dX3_support_34 rfl (lv_at hl 3 rfl) ?_
      refine pu_i (va_runV (As := [.int (nI (e0))]) (rest := []) ⟨hx, hb, hml, hown, hts⟩ (c_X3_begin l D cI cZ ad (th9_3) (N) (A) (R) (true) (an) (nd) (wt) (B) (Hd) (O) (HL9_3) (CO9_3) (nI (e0)) (by omega)) (cwV 1 hts gX3_support_X3_begin rfl rfl rfl (by decide +kernel) ⟨Nat.le_of_ble_eq_true rfl, Nat.le_of_ble_eq_true rfl⟩) (pre_V (q0 := 0) (ci := 3) (hP.sub (ws' := (wM cI cZ ad th9_3 N A R true an nd wt B Hd O HL9_3 CO9_3)) [0, 1, 2, 3, 4, 5, 6, 7, 8] rfl) hK rfl rfl) rfl rfl hl.1 rfl (lv_room (Nat.le_of_ble_eq_true rfl)) dX3_support_35 ⟨Nat.zero_le _, Nat.zero_le _⟩) ?_
      refine lv_istore (lv' := [(4, .int (bg nd (nI (e0)) A)), (3, .int (nI (d0))), (0, .ref (ad 0)), (1, .int (x0)), (2, .int (nI (e0)))]) hx hb dX3_support_38 hl (by decide) rfl (fun ls hl => ?_)
      refine lv_iconst (v := nI (1)) hx hb dX3_support_40 (by decide) ?_
      refine lv_istore (lv' := [(5, .int (nI (1))), (4, .int (bg nd (nI (e0)) A)), (3, .int (nI (d0))), (0, .ref (ad 0)), (1, .int (x0)), (2, .int (nI (e0)))]) hx hb dX3_support_41 hl (by decide) rfl (fun ls hl => ?_)
      have lp_43 : ∀ (n43 i : Nat) (v4 : Int32) (v5 : Int32), i ≤ d0 - 1 → d0 - 1 + 1 ≤ i + n43 → v4 = itr (fun y => aR B Hd O y R) (bg nd (nI (e0)) A) i → v5 = nI (i + 1) → ∀ ls : Array Slot, lv_has ls 6 [(3, .int (nI (d0))), (0, .ref (ad 0)), (1, .int (x0)), (2, .int (nI (e0))), (4, .int (v4)), (5, .int (v5))] → W p l e (headSpec wsX3_support ({ frames := 4, cells := 0, slots := 0, locals := 90 })).room s m ([.ref (ad 0), .int (x0), .int ((nI (e0)))]).toArray below meth c H locs 0 0 (MQ below (va_Qi (fun (r9 : Int32) (u9 : (Int32) × (Nat → Int32) × (Nat → Bool) × (Bool)) => ((u9.1) = tNE (inR x0 N) (inS (nI (e0)) A)) ∧ ((u9.2.2.2) = true → knOK B Hd O R nd A (u9.2.1) (u9.2.2.1)) ∧ (inR x0 N = true → inS (nI (e0)) A = true → r9 = supE B Hd O R (bg nd (nI (e0)) A) x0) ∧ (True)) (wB D Ap (fun u9 : (Int32) × (Nat → Int32) × (Nat → Bool) × (Bool) => (wM cI cZ ad (u9.1) N A R (u9.2.2.2) an nd wt B Hd O (u9.2.1) (u9.2.2.1)))) Ap) ([.ref (ad 0), .int (x0), .int ((nI (e0)))]).toArray s 0 0 Ap) (F0 m 43 ls []) := by
        intro n43
        induction n43 with
        | zero => intro i v4 v5 h1 h2; exact absurd h2 (by omega)
        | succ n43 ih43 =>
          intro i v4 v5 hi43 hn43  e4 e5  ls hl
          subst e4 e5
          have hl : lv_has ls 6 [(3, .int (nI (d0))), (0, .ref (ad 0)), (1, .int (x0)), (2, .int (nI (e0))), (4, .int (itr (fun y => aR B Hd O y R) (bg nd (nI (e0)) A) i)), (5, .int (nI (i + 1)))] := hl
          refine lv_iload hx hb dX3_support_43 (lv_at hl 5 rfl) ?_
          refine lv_iload_n hx hb dX3_support_45 rfl (lv_at hl 0 rfl) ?_
          refine lv_icmp_ge (tgt := 63) hx hb dX3_support_46 (by decide) (fun c_46 => ?_) (fun c_46 => ?_)
          · skip
            have c_46 := (qI_le (a := d0) (b := i + 1) (by omega) (by omega)).mp c_46
            have hi9 : i = d0 - 1 := (by omega)
            rw [hi9] at hl
            have hup1 : hs (aR B Hd O (itr (fun y => aR B Hd O y R) (bg nd (nI (e0)) A) (d0 - 1)) R) x0 = true := by have h9 := hPd; rw [show d0 = (d0 - 1) + 1 by omega] at h9; exact h9
            have hup0 : hs (itr (fun y => aR B Hd O y R) (bg nd (nI (e0)) A) (d0 - 1)) x0 = false := hnd (d0 - 1) (by omega)
            have hexi := fires_ex hn hab.1 hH hup1 hup0
            refine lv_iconst (v := nI (0)) hx hb dX3_support_63 (by decide) ?_
            refine lv_istore (lv' := [(5, .int (nI (0))), (3, .int (nI (d0))), (0, .ref (ad 0)), (1, .int (x0)), (2, .int (nI (e0))), (4, .int (itr (fun y => aR B Hd O y R) (bg nd (nI (e0)) A) (d0 - 1)))]) hx hb dX3_support_64 hl (by decide) rfl (fun ls hl => ?_)
            have lp_66 : ∀ (n66 r : Nat) (v5 : Int32), r ≤ R → R + 1 ≤ r + n66 → (∀ j, j < r → (fun r => Hd r == x0 && fi B O (itr (fun y => aR B Hd O y R) (bg nd (nI (e0)) A) (d0 - 1)) r) j = false) → v5 = nI (r) → ∀ ls : Array Slot, lv_has ls 6 [(0, .ref (ad 0)), (1, .int (x0)), (2, .int (nI (e0))), (4, .int (itr (fun y => aR B Hd O y R) (bg nd (nI (e0)) A) (d0 - 1))), (5, .int (v5))] → W p l e (headSpec wsX3_support ({ frames := 4, cells := 0, slots := 0, locals := 90 })).room s m ([.ref (ad 0), .int (x0), .int ((nI (e0)))]).toArray below meth c H locs 0 0 (MQ below (va_Qi (fun (r9 : Int32) (u9 : (Int32) × (Nat → Int32) × (Nat → Bool) × (Bool)) => ((u9.1) = tNE (inR x0 N) (inS (nI (e0)) A)) ∧ ((u9.2.2.2) = true → knOK B Hd O R nd A (u9.2.1) (u9.2.2.1)) ∧ (inR x0 N = true → inS (nI (e0)) A = true → r9 = supE B Hd O R (bg nd (nI (e0)) A) x0) ∧ (True)) (wB D Ap (fun u9 : (Int32) × (Nat → Int32) × (Nat → Bool) × (Bool) => (wM cI cZ ad (u9.1) N A R (u9.2.2.2) an nd wt B Hd O (u9.2.1) (u9.2.2.1)))) Ap) ([.ref (ad 0), .int (x0), .int ((nI (e0)))]).toArray s 0 0 Ap) (F0 m 66 ls []) := by
              intro n66
              induction n66 with
              | zero => intro r v5 h1 h2; exact absurd h2 (by omega)
              | succ n66 ih66 =>
                intro r v5 hi66 hn66 hno e5  ls hl
                subst e5
                have hl : lv_has ls 6 [(0, .ref (ad 0)), (1, .int (x0)), (2, .int (nI (e0))), (4, .int (itr (fun y => aR B Hd O y R) (bg nd (nI (e0)) A) (d0 - 1))), (5, .int (nI (r)))] := hl
                have hrR : r < R := by
                  rcases Nat.lt_or_ge r R with q9 | q9
                  · exact q9
                  · obtain ⟨r0, hr1, hr2⟩ := hexi
                    rw [hno r0 (by omega)] at hr2; cases hr2
                refine lv_aload_n hx hb dX3_support_66 rfl (lv_at hl 0 rfl) ?_
                refine va_get (D := D) (ci := 3) (v := .ref (ad 6)) (C := RX3) (T := TX3) (N := 13) hx hb hts hin3 hown hK.1 hP 0 rfl rfl 9 (by decide) f25 (fun _ h9 => h9) rfl dX3_support_67 ?_
                refine lv_iload hx hb dX3_support_70 (lv_at hl 4 rfl) ?_
                refine az_ (D := D) (f := O) (i := r) hx hb hK hP 6 1 rfl rfl (by omega) (by decide) dX3_support_72 ?_
                refine lv_if_eq (tgt := 102) hx hb dX3_support_73 (by decide) (fun c_73 => ?_) (fun c_73 => ?_)
                · skip
                  have c_73 := bI_eq0 c_73
                  refine lv_iinc (v := nI (r + 1)) (lv' := [(5, .int (nI (r + 1))), (0, .ref (ad 0)), (1, .int (x0)), (2, .int (nI (e0))), (4, .int (itr (fun y => aR B Hd O y R) (bg nd (nI (e0)) A) (d0 - 1)))]) hx hb dX3_support_102 hl (k := 4) rfl (nI_1 _) (by decide) rfl (fun ls hl => ?_)
                  refine lv_goto (tgt := 66) hx hb dX3_support_105 (by decide) ?_
                  exact ih66 (r + 1) _  (by omega) (by omega) (no_succ hno (by simp [fi, c_6, c_19, c_46, c_73])) (by first | rfl | (simp [c_6, c_19, c_46, c_73]; done) | (simp only [c_6, c_19, c_46, c_73]; rfl) | (simp_all [c_6, c_19, c_46, c_73]; done))  ls (lv_sub hl [1, 2, 3, 4, 0] rfl)
                · skip
                  have c_73 := bI_ne0 c_73
                  refine lv_aload_n hx hb dX3_support_76 rfl (lv_at hl 0 rfl) ?_
                  refine va_get (D := D) (ci := 3) (v := .ref (ad 5)) (C := RX3) (T := TX3) (N := 13) hx hb hts hin3 hown hK.1 hP 0 rfl rfl 8 (by decide) f22 (fun _ h9 => h9) rfl dX3_support_77 ?_
                  refine lv_iload hx hb dX3_support_80 (lv_at hl 4 rfl) ?_
                  refine ai_ (D := D) (f := Hd) (i := r) hx hb hK hP 5 0 rfl rfl (by omega) (by decide) dX3_support_82 ?_
                  refine lv_iload_n hx hb dX3_support_83 rfl (lv_at hl 1 rfl) ?_
                  refine lv_icmp_ne (tgt := 102) hx hb dX3_support_84 (by decide) (fun c_84 => ?_) (fun c_84 => ?_)
                  · skip
                    refine lv_iinc (v := nI (r + 1)) (lv' := [(5, .int (nI (r + 1))), (0, .ref (ad 0)), (1, .int (x0)), (2, .int (nI (e0))), (4, .int (itr (fun y => aR B Hd O y R) (bg nd (nI (e0)) A) (d0 - 1)))]) hx hb dX3_support_102 hl (k := 4) rfl (nI_1 _) (by decide) rfl (fun ls hl => ?_)
                    refine lv_goto (tgt := 66) hx hb dX3_support_105 (by decide) ?_
                    exact ih66 (r + 1) _  (by omega) (by omega) (no_succ hno (by simp [fi, c_6, c_19, c_46, c_73, c_84])) (by first | rfl | (simp [c_6, c_19, c_46, c_73, c_84]; done) | (simp only [c_6, c_19, c_46, c_73, c_84]; rfl) | (simp_all [c_6, c_19, c_46, c_73, c_84]; done))  ls (lv_sub hl [1, 2, 3, 4, 0] rfl)
                  · skip
                    refine lv_aload_n hx hb dX3_support_87 rfl (lv_at hl 0 rfl) ?_
                    refine va_get (D := D) (ci := 3) (v := .ref (ad 4)) (C := RX3) (T := TX3) (N := 13) hx hb hts hin3 hown hK.1 hP 0 rfl rfl 7 (by decide) f19 (fun _ h9 => h9) rfl dX3_support_88 ?_
                    refine lv_iload hx hb dX3_support_91 (lv_at hl 4 rfl) ?_
                    refine ai_ (D := D) (f := B) (i := r) hx hb hK hP 4 0 rfl rfl (by omega) (by decide) dX3_support_93 ?_
                    refine lv_iload hx hb dX3_support_94 (lv_at hl 3 rfl) ?_
                    refine pu_i (va_runS (As := [.int (B (r)), .int (itr (fun y => aR B Hd O y R) (bg nd (nI (e0)) A) (d0 - 1))]) (rest := []) ⟨hx, hb, hml, hown, hts⟩ (c_X3_isIn l D cI cZ ad (B (r)) (itr (fun y => aR B Hd O y R) (bg nd (nI (e0)) A) (d0 - 1)) ) (cwS 2 hts gX3_support_X3_isIn rfl rfl rfl (by decide +kernel) ⟨Nat.le_of_ble_eq_true rfl, Nat.le_of_ble_eq_true rfl⟩) (pre_S (hP.sub (ws' := ([] : va_W)) [] rfl) hK) rfl rfl hl.1 rfl (lv_room (Nat.le_of_ble_eq_true rfl)) dX3_support_96 ⟨Nat.zero_le _, Nat.zero_le _⟩) ?_
                    refine lv_if_ne (tgt := 108) hx hb dX3_support_99 (by decide) (fun c_99 => ?_) (fun c_99 => ?_)
                    · skip
                      have c_99 := bI_ne0 c_99
                      refine lv_iload hx hb dX3_support_108 (lv_at hl 4 rfl) ?_
                      exact mr_i (u := (th9_3, HL9_3, CO9_3, true)) hx hb hrt hlk dX3_support_110 hS hP hD ⟨(hthp_3), (fun _ => hkn_3), (fun _ _ => by rw [supE_at (x := bg nd (nI (e0)) A) (k := x0) (i := d0 - 1) (hnd 0 (by omega)) (by omega) hup1 (fun j hj => hnd (j + 1) (by omega))]; exact (fndI_at (P := (fun r => Hd r == x0 && fi B O (itr (fun y => aR B Hd O y R) (bg nd (nI (e0)) A) (d0 - 1)) r)) (i := r) hrR (by simp [fi, c_6, c_19, c_46, c_73, c_84, c_99]) hno).symm), trivial⟩
                    · skip
                      have c_99 := bI_eq0 c_99
                      refine lv_iinc (v := nI (r + 1)) (lv' := [(5, .int (nI (r + 1))), (0, .ref (ad 0)), (1, .int (x0)), (2, .int (nI (e0))), (4, .int (itr (fun y => aR B Hd O y R) (bg nd (nI (e0)) A) (d0 - 1)))]) hx hb dX3_support_102 hl (k := 4) rfl (nI_1 _) (by decide) rfl (fun ls hl => ?_)
                      refine lv_goto (tgt := 66) hx hb dX3_support_105 (by decide) ?_
                      exact ih66 (r + 1) _  (by omega) (by omega) (no_succ hno (by simp [fi, c_6, c_19, c_46, c_73, c_84, c_99])) (by first | rfl | (simp [c_6, c_19, c_46, c_73, c_84, c_99]; done) | (simp only [c_6, c_19, c_46, c_73, c_84, c_99]; rfl) | (simp_all [c_6, c_19, c_46, c_73, c_84, c_99]; done))  ls (lv_sub hl [1, 2, 3, 4, 0] rfl)
            exact lp_66 (R + 1) (0) _  (by omega) (by omega) (fun j hj => absurd hj (Nat.not_lt_zero j)) (by first | rfl | (simp [c_6, c_19, c_46]; done) | (simp only [c_6, c_19, c_46]; rfl) | (simp_all [c_6, c_19, c_46]; done))  ls (lv_sub hl [2, 3, 4, 5, 0] rfl)
          · skip
            have c_46 := mt (qI_le (a := d0) (b := i + 1) (by omega) (by omega)).mpr c_46
            refine lv_aload_n hx hb dX3_support_49 rfl (lv_at hl 1 rfl) ?_
            refine lv_iload hx hb dX3_support_50 (lv_at hl 4 rfl) ?_
            refine pu_i (va_runV (As := [.int (itr (fun y => aR B Hd O y R) (bg nd (nI (e0)) A) i)]) (rest := []) ⟨hx, hb, hml, hown, hts⟩ (c_X3_goOn l D cI cZ ad (th9_3) (N) (A) (R) (true) (an) (nd) (wt) (B) (Hd) (O) (HL9_3) (CO9_3) (itr (fun y => aR B Hd O y R) (bg nd (nI (e0)) A) i) (by omega)) (cwV 1 hts gX3_support_X3_goOn rfl rfl rfl (by decide +kernel) ⟨Nat.le_of_ble_eq_true rfl, Nat.le_of_ble_eq_true rfl⟩) (pre_V (q0 := 0) (ci := 3) (hP.sub (ws' := (wM cI cZ ad th9_3 N A R true an nd wt B Hd O HL9_3 CO9_3)) [0, 1, 2, 3, 4, 5, 6, 7, 8] rfl) hK rfl rfl) rfl rfl hl.1 rfl (lv_room (Nat.le_of_ble_eq_true rfl)) dX3_support_52 ⟨Nat.zero_le _, Nat.zero_le _⟩) ?_
            refine lv_istore (lv' := [(4, .int (aR B Hd O (itr (fun y => aR B Hd O y R) (bg nd (nI (e0)) A) i) R)), (3, .int (nI (d0))), (0, .ref (ad 0)), (1, .int (x0)), (2, .int (nI (e0))), (5, .int (nI (i + 1)))]) hx hb dX3_support_55 hl (by decide) rfl (fun ls hl => ?_)
            refine lv_iinc (v := nI ((i + 1) + 1)) (lv' := [(5, .int (nI ((i + 1) + 1))), (4, .int (aR B Hd O (itr (fun y => aR B Hd O y R) (bg nd (nI (e0)) A) i) R)), (3, .int (nI (d0))), (0, .ref (ad 0)), (1, .int (x0)), (2, .int (nI (e0)))]) hx hb dX3_support_57 hl (k := 5) rfl (nI_1 _) (by decide) rfl (fun ls hl => ?_)
            refine lv_goto (tgt := 43) hx hb dX3_support_60 (by decide) ?_
            exact ih43 (i + 1) _ _  (by omega) (by omega)  (by first | rfl | (simp [c_6, c_19, c_46]; done) | (simp only [c_6, c_19, c_46]; rfl) | (simp_all [c_6, c_19, c_46]; done)) (by first | rfl | (simp [c_6, c_19, c_46]; done) | (simp only [c_6, c_19, c_46]; rfl) | (simp_all [c_6, c_19, c_46]; done))  ls (lv_sub hl [2, 3, 4, 5, 1, 0] rfl)
      exact lp_43 (d0 - 1 + 1) (0) _ _  (by omega) (by omega)  (by first | rfl | (simp [c_6, c_19]; done) | (simp only [c_6, c_19]; rfl) | (simp_all [c_6, c_19]; done)) (by first | rfl | (simp [c_6, c_19]; done) | (simp only [c_6, c_19]; rfl) | (simp_all [c_6, c_19]; done))  ls (lv_sub hl [2, 3, 4, 5, 1, 0] rfl)
    · skip
      refine lv_iload_n hx hb dX3_support_22 rfl (lv_at hl 0 rfl) ?_
      refine lv_if_ne (tgt := 30) hx hb dX3_support_23 (by decide) (fun c_23 => ?_) (fun c_23 => ?_)
      · skip
        refine lv_bipush (v := -2) hx hb dX3_support_30 (by decide) ?_
        exact mr_i (u := (th9_3, HL9_3, CO9_3, true)) hx hb hrt hlk dX3_support_32 hS hP hD ⟨(hthp_3), (fun _ => hkn_3), (by intro _ _; first | (have h9 : hs (bg nd (nI (e0)) A) x0 = true := fnd_zero c_23; simp [supE, h9]; done) | exact (supE_no (x := (bg nd (nI (e0)) A)) (k := x0) (fnd_neg c_19 c_23 0 (by decide)) (fun j hj => fnd_neg c_19 c_23 (j + 1) (by omega))).symm), trivial⟩
      · skip
        refine lv_iconst (v := -1) hx hb dX3_support_26 (by decide) ?_
        refine lv_goto (tgt := 32) hx hb dX3_support_27 (by decide) ?_
        exact mr_i (u := (th9_3, HL9_3, CO9_3, true)) hx hb hrt hlk dX3_support_32 hS hP hD ⟨(hthp_3), (fun _ => hkn_3), (by intro _ _; first | (have h9 : hs (bg nd (nI (e0)) A) x0 = true := fnd_zero c_23; simp [supE, h9]; done) | exact (supE_no (x := (bg nd (nI (e0)) A)) (k := x0) (fnd_neg c_19 c_23 0 (by decide)) (fun j hj => fnd_neg c_19 c_23 (j + 1) (by omega))).symm), trivial⟩
  · skip
    have c_6 := bI_eq0 c_6
    refine lv_iconst (v := 0) hx hb dX3_support_9 (by decide) ?_
    exact mr_i (u := (th9_3, HL9_3, CO9_3, true)) hx hb hrt hlk dX3_support_10 hS hP hD ⟨(hthp_3), (fun _ => hkn_3), (fun h1 h2 => by rw [h1, h2] at c_6; cases c_6), trivial⟩
set_option maxHeartbeats 4000000 in
set_option maxRecDepth 100000 in
theorem c_X3_heldCount (l : Launch) (D : va_G) (cI cZ : ClassId) (ad : Nat → Nat) (th : Int32) (N : Nat) (A : Nat) (R : Nat) (kw : Bool) (an : Nat → Int32) (nd : Nat → Int32) (wt : Nat → Int32) (B : Nat → Int32) (Hd : Nat → Int32) (O : Nat → Bool) (HL : Nat → Int32) (CO : Nat → Bool) (x0 : Int32) (hA : A ≤ 9) (hR : R ≤ 40) (hn : N ≤ 24) (hH : okH N Hd R) (hN : okN N nd A) (hkw : kw = true → knOK B Hd O R nd A HL CO) (sz : Nat) : Met l yX3_heldCount wsX3_heldCount ({ frames := 4, cells := 0, slots := 0, locals := 89 }) (pcW D [(cI, .int), (cZ, .boolean)] sz (wM cI cZ ad th N A R kw an nd wt B Hd O HL CO) [.ref (ad 0), .int (x0)]) (va_Qi (fun (r9 : Int32) (u9 : (Int32) × (Nat → Int32) × (Nat → Bool) × (Bool)) => ((u9.1) = tB (inS x0 A)) ∧ ((u9.2.2.2) = true → knOK B Hd O R nd A (u9.2.1) (u9.2.2.1)) ∧ (inS x0 A = true → r9 = nI (cnt (fun k => hs (clo B Hd O R (bg nd x0 A)) (nI k)) N)) ∧ (True)) (wB D (va_A (wM cI cZ ad th N A R kw an nd wt B Hd O HL CO) sz) (fun u9 : (Int32) × (Nat → Int32) × (Nat → Bool) × (Bool) => (wM cI cZ ad (u9.1) N A R (u9.2.2.2) an nd wt B Hd O (u9.2.1) (u9.2.2.1)))) (va_A (wM cI cZ ad th N A R kw an nd wt B Hd O HL CO) sz)) 0 0 (va_A (wM cI cZ ad th N A R kw an nd wt B Hd O HL CO) sz) := by
  refine Met.ofW (cc := cX3_heldCount) (maxL := 4) (ret := (some .int)) (by decide) rfl ?_
  intro p e s m args below meth c s₁ BB hml hv
  obtain ⟨rfl, hsz, hP, hK, hD0⟩ := hv
  have hx := BB.exec
  have hb := BB.bytes
  have hrt := BB.returns
  have hts := atoms_spec (ws := wsX3_heldCount) BB.pre
  have hown : s.vm.findClass RX3 = some m.cls := findClass_of_methodNamed BB.named
  have hlk := BB.notSynchronized
  subst hsz
  have hD := hD0.self (sz := s.heap.size)
  generalize hAe : va_A (wM cI cZ ad th N A R kw an nd wt B Hd O HL CO) s.heap.size = Ap at hD ⊢
  have hAp : ∀ q : Nat, s.heap.size ≤ q → Ap q := fun q h => by rw [← hAe]; exact Or.inr h
  have hS : va_S Ap s.heap s.heap [] := va_S.rf
  have f39 := hts (.fieldLink RX3 39 "AssumptionKeeperModel" "nodes" "I") (by decide +kernel)
  have hin3 : ∀ w ∈ u_ws RX3 TX3 13, w ∈ wsX3_heldCount := by decide +kernel
  have hl := lv_entry ([.ref (ad 0), .int (x0)]) (n := 4) (Nat.le_of_ble_eq_true rfl)
  rw [lg_entry_eq]
  generalize (lg_sl ([.ref (ad 0), .int (x0)]) ++ List.replicate (4 - (lg_sl ([.ref (ad 0), .int (x0)])).length) Slot.unset).toArray = ls at hl ⊢
  have hl : lv_has ls 4 [(0, .ref (ad 0)), (1, .int (x0))] := hl
  have h512 : 2 ^ A ≤ 512 := pow9 hA
  have hpos : 0 < 2 ^ A := Nat.two_pow_pos A
  refine lv_aload_n hx hb dX3_heldCount_0 rfl (lv_at hl 0 rfl) ?_
  refine lv_iload_n hx hb dX3_heldCount_1 rfl (lv_at hl 1 rfl) ?_
  refine mu_i (wr := []) (va_runV (As := [.int (x0)]) (rest := []) ⟨hx, hb, hml, hown, hts⟩ (c_X3_asksEnvironment l D cI cZ ad (th) (N) (A) (R) (kw) (an) (nd) (wt) (B) (Hd) (O) (HL) (CO) (x0) (by omega) (by omega) (hn) (hH) (hN) (hkw) (s.heap).size) (cwV 1 hts gX3_heldCount_X3_asksEnvironment rfl rfl rfl (by decide +kernel) ⟨Nat.le_of_ble_eq_true rfl, Nat.le_of_ble_eq_true rfl⟩) (prw_V (q0 := 0) (ci := 3) (hP.sub (ws' := (wM cI cZ ad th N A R kw an nd wt B Hd O HL CO)) [0, 1, 2, 3, 4, 5, 6, 7, 8] rfl) (hD.sub (ws' := (wM cI cZ ad th N A R kw an nd wt B Hd O HL CO)) [0, 1, 2, 3, 4, 5, 6, 7, 8] (by decide) rfl) hK rfl rfl) rfl rfl hl.1 rfl (lv_room (Nat.le_of_ble_eq_true rfl)) dX3_heldCount_2 ⟨Nat.le_of_ble_eq_true rfl, Nat.le_of_ble_eq_true rfl⟩) hP hD hS hAp [0, 1, 2, 3, 4, 5, 6, 7, 8] [] rfl rfl (by decide) (by decide) (fun r_2 u_2 H locs hq_2 hP hD hS => ?_)
  obtain ⟨th9_2, HL9_2, CO9_2⟩ := u_2
  obtain ⟨rfl, hthp_2, hkn_2, -⟩ := hq_2
  have hthp_2 : th9_2 = tB (inS x0 A) := hthp_2
  have hkn_2 : knOK B Hd O R nd A HL9_2 CO9_2 := hkn_2
  have hP : va_P D vwCl (wM cI cZ ad th9_2 N A R true an nd wt B Hd O HL9_2 CO9_2) H := hP
  have hD : va_D Ap (wM cI cZ ad th9_2 N A R true an nd wt B Hd O HL9_2 CO9_2) := hD
  refine lv_if_ne (tgt := 10) hx hb dX3_heldCount_5 (by decide) (fun c_5 => ?_) (fun c_5 => ?_)
  · skip
    have c_5 := bI_ne0 c_5
    obtain ⟨e0, he0, rfl⟩ := inS_nat (by omega) (c_5)
    refine lv_iconst (v := nI (0)) hx hb dX3_heldCount_10 (by decide) ?_
    refine lv_istore_n (lv' := [(2, .int (nI (0))), (0, .ref (ad 0)), (1, .int (nI (e0)))]) hx hb dX3_heldCount_11 rfl hl (by decide) rfl (fun ls hl => ?_)
    refine lv_iconst (v := nI (0)) hx hb dX3_heldCount_12 (by decide) ?_
    refine lv_istore_n (lv' := [(3, .int (nI (0))), (2, .int (nI (0))), (0, .ref (ad 0)), (1, .int (nI (e0)))]) hx hb dX3_heldCount_13 rfl hl (by decide) rfl (fun ls hl => ?_)
    have lp_14 : ∀ (n14 i : Nat) (v2 : Int32) (v3 : Int32), i ≤ N → N + 1 ≤ i + n14 → v2 = nI (cnt (fun k => hs (HL9_2 e0) (nI k)) i) → v3 = nI (i) → ∀ ls : Array Slot, lv_has ls 4 [(0, .ref (ad 0)), (1, .int (nI (e0))), (2, .int (v2)), (3, .int (v3))] → W p l e (headSpec wsX3_heldCount ({ frames := 4, cells := 0, slots := 0, locals := 89 })).room s m ([.ref (ad 0), .int ((nI (e0)))]).toArray below meth c H locs 0 0 (MQ below (va_Qi (fun (r9 : Int32) (u9 : (Int32) × (Nat → Int32) × (Nat → Bool) × (Bool)) => ((u9.1) = tB (inS (nI (e0)) A)) ∧ ((u9.2.2.2) = true → knOK B Hd O R nd A (u9.2.1) (u9.2.2.1)) ∧ (inS (nI (e0)) A = true → r9 = nI (cnt (fun k => hs (clo B Hd O R (bg nd (nI (e0)) A)) (nI k)) N)) ∧ (True)) (wB D Ap (fun u9 : (Int32) × (Nat → Int32) × (Nat → Bool) × (Bool) => (wM cI cZ ad (u9.1) N A R (u9.2.2.2) an nd wt B Hd O (u9.2.1) (u9.2.2.1)))) Ap) ([.ref (ad 0), .int ((nI (e0)))]).toArray s 0 0 Ap) (F0 m 14 ls []) := by
      intro n14
      induction n14 with
      | zero => intro i v2 v3 h1 h2; exact absurd h2 (by omega)
      | succ n14 ih14 =>
        intro i v2 v3 hi14 hn14  e2 e3  ls hl
        subst e2 e3
        have hl : lv_has ls 4 [(0, .ref (ad 0)), (1, .int (nI (e0))), (2, .int (nI (cnt (fun k => hs (HL9_2 e0) (nI k)) i))), (3, .int (nI (i)))] := hl
        have hcl := cnt_le (fun k => hs (HL9_2 e0) (nI k)) i
        refine lv_iload_n hx hb dX3_heldCount_14 rfl (lv_at hl 3 rfl) ?_
        refine lv_aload_n hx hb dX3_heldCount_15 rfl (lv_at hl 0 rfl) ?_
        refine va_get (D := D) (ci := 3) (v := .int (nI (N))) (C := RX3) (T := TX3) (N := 13) hx hb hts hin3 hown hK.1 hP 0 rfl rfl 1 (by decide) f39 (fun _ h9 => h9) rfl dX3_heldCount_16 ?_
        refine lv_icmp_ge (tgt := 45) hx hb dX3_heldCount_19 (by decide) (fun c_19 => ?_) (fun c_19 => ?_)
        · skip
          have c_19 := (qI_le (a := N) (b := i) (by omega) (by omega)).mp c_19
          refine lv_iload_n hx hb dX3_heldCount_45 rfl (lv_at hl 2 rfl) ?_
          exact mr_i (u := (th9_2, HL9_2, CO9_2, true)) hx hb hrt hlk dX3_heldCount_46 hS hP hD ⟨(hthp_2), (fun _ => hkn_2), (fun _ => by have hi9 : i = N := (by omega); rw [hi9, knH hkn_2 e0 he0]; rfl), trivial⟩
        · skip
          have c_19 := mt (qI_le (a := N) (b := i) (by omega) (by omega)).mpr c_19
          refine lv_iload_n hx hb dX3_heldCount_22 rfl (lv_at hl 2 rfl) ?_
          refine lv_aload_n hx hb dX3_heldCount_23 rfl (lv_at hl 0 rfl) ?_
          refine lv_iload_n hx hb dX3_heldCount_24 rfl (lv_at hl 3 rfl) ?_
          refine lv_iload_n hx hb dX3_heldCount_25 rfl (lv_at hl 1 rfl) ?_
          refine pu_i (va_runV (As := [.int (nI (i)), .int (nI (e0))]) (rest := [.int (nI (cnt (fun k => hs (HL9_2 e0) (nI k)) i))]) ⟨hx, hb, hml, hown, hts⟩ (c_X3_has l D cI cZ ad (th9_2) (N) (A) (R) (true) (an) (nd) (wt) (B) (Hd) (O) (HL9_2) (CO9_2) (nI (i)) (e0) (by omega)) (cwV 2 hts gX3_heldCount_X3_has rfl rfl rfl (by decide +kernel) ⟨Nat.le_of_ble_eq_true rfl, Nat.le_of_ble_eq_true rfl⟩) (pre_V (q0 := 0) (ci := 3) (hP.sub (ws' := (wM cI cZ ad th9_2 N A R true an nd wt B Hd O HL9_2 CO9_2)) [0, 1, 2, 3, 4, 5, 6, 7, 8] rfl) hK rfl rfl) rfl rfl hl.1 rfl (lv_room (Nat.le_of_ble_eq_true rfl)) dX3_heldCount_26 ⟨Nat.zero_le _, Nat.zero_le _⟩) ?_
          refine lv_if_eq (tgt := 36) hx hb dX3_heldCount_29 (by decide) (fun c_29 => ?_) (fun c_29 => ?_)
          · skip
            have c_29 := bI_eq0 c_29
            refine lv_iconst (v := 0) hx hb dX3_heldCount_36 (by decide) ?_
            refine lv_iadd hx hb dX3_heldCount_37 ?_
            rw [Int32.add_zero]
            refine lv_istore_n (lv' := [(2, .int (nI (cnt (fun k => hs (HL9_2 e0) (nI k)) i))), (0, .ref (ad 0)), (1, .int (nI (e0))), (3, .int (nI (i)))]) hx hb dX3_heldCount_38 rfl hl (by decide) rfl (fun ls hl => ?_)
            refine lv_iinc (v := nI (i + 1)) (lv' := [(3, .int (nI (i + 1))), (2, .int (nI (cnt (fun k => hs (HL9_2 e0) (nI k)) i))), (0, .ref (ad 0)), (1, .int (nI (e0)))]) hx hb dX3_heldCount_39 hl (k := 3) rfl (nI_1 _) (by decide) rfl (fun ls hl => ?_)
            refine lv_goto (tgt := 14) hx hb dX3_heldCount_42 (by decide) ?_
            exact ih14 (i + 1) _ _  (by omega) (by omega)  (by first | rfl | (simp [cnt, c_5, c_19, c_29]; done) | (simp only [cnt, c_5, c_19, c_29]; rfl) | (simp_all [cnt, c_5, c_19, c_29]; done)) (by first | rfl | (simp [cnt, c_5, c_19, c_29]; done) | (simp only [cnt, c_5, c_19, c_29]; rfl) | (simp_all [cnt, c_5, c_19, c_29]; done))  ls (lv_sub hl [2, 3, 1, 0] rfl)
          · skip
            have c_29 := bI_ne0 c_29
            refine lv_iconst (v := 1) hx hb dX3_heldCount_32 (by decide) ?_
            refine lv_goto (tgt := 37) hx hb dX3_heldCount_33 (by decide) ?_
            refine lv_iadd hx hb dX3_heldCount_37 ?_
            rw [nI_1]
            refine lv_istore_n (lv' := [(2, .int (nI ((cnt (fun k => hs (HL9_2 e0) (nI k)) i) + 1))), (0, .ref (ad 0)), (1, .int (nI (e0))), (3, .int (nI (i)))]) hx hb dX3_heldCount_38 rfl hl (by decide) rfl (fun ls hl => ?_)
            refine lv_iinc (v := nI (i + 1)) (lv' := [(3, .int (nI (i + 1))), (2, .int (nI ((cnt (fun k => hs (HL9_2 e0) (nI k)) i) + 1))), (0, .ref (ad 0)), (1, .int (nI (e0)))]) hx hb dX3_heldCount_39 hl (k := 3) rfl (nI_1 _) (by decide) rfl (fun ls hl => ?_)
            refine lv_goto (tgt := 14) hx hb dX3_heldCount_42 (by decide) ?_
            exact ih14 (i + 1) _ _  (by omega) (by omega)  (by first | rfl | (simp [cnt, c_5, c_19, c_29]; done) | (simp only [cnt, c_5, c_19, c_29]; rfl) | (simp_all [cnt, c_5, c_19, c_29]; done)) (by first | rfl | (simp [cnt, c_5, c_19, c_29]; done) | (simp only [cnt, c_5, c_19, c_29]; rfl) | (simp_all [cnt, c_5, c_19, c_29]; done))  ls (lv_sub hl [2, 3, 1, 0] rfl)
    exact lp_14 (N + 1) (0) _ _  (by omega) (by omega)  (by first | rfl | (simp [cnt, c_5]; done) | (simp only [cnt, c_5]; rfl) | (simp_all [cnt, c_5]; done)) (by first | rfl | (simp [cnt, c_5]; done) | (simp only [cnt, c_5]; rfl) | (simp_all [cnt, c_5]; done))  ls (lv_sub hl [2, 3, 1, 0] rfl)
  · skip
    have c_5 := bI_eq0 c_5
    refine lv_iconst (v := 0) hx hb dX3_heldCount_8 (by decide) ?_
    exact mr_i (u := (th9_2, HL9_2, CO9_2, true)) hx hb hrt hlk dX3_heldCount_9 hS hP hD ⟨(hthp_2), (fun _ => hkn_2), (fun h1 => by rw [h1] at c_5; cases c_5), trivial⟩
set_option maxHeartbeats 4000000 in
set_option maxRecDepth 100000 in
theorem c_X3_isConsistent (l : Launch) (D : va_G) (cI cZ : ClassId) (ad : Nat → Nat) (th : Int32) (N : Nat) (A : Nat) (R : Nat) (kw : Bool) (an : Nat → Int32) (nd : Nat → Int32) (wt : Nat → Int32) (B : Nat → Int32) (Hd : Nat → Int32) (O : Nat → Bool) (HL : Nat → Int32) (CO : Nat → Bool) (x0 : Int32) (hA : A ≤ 9) (hR : R ≤ 40) (hn : N ≤ 24) (hH : okH N Hd R) (hN : okN N nd A) (hkw : kw = true → knOK B Hd O R nd A HL CO) (sz : Nat) : Met l yX3_isConsistent wsX3_isConsistent ({ frames := 4, cells := 0, slots := 0, locals := 89 }) (pcW D [(cI, .int), (cZ, .boolean)] sz (wM cI cZ ad th N A R kw an nd wt B Hd O HL CO) [.ref (ad 0), .int (x0)]) (va_Qi (fun (r9 : Int32) (u9 : (Int32) × (Nat → Int32) × (Nat → Bool) × (Bool)) => ((u9.1) = tB (inS x0 A)) ∧ ((u9.2.2.2) = true → knOK B Hd O R nd A (u9.2.1) (u9.2.2.1)) ∧ (inS x0 A = true → r9 = bI (!(ct B Hd O R (clo B Hd O R (bg nd x0 A))))) ∧ (True)) (wB D (va_A (wM cI cZ ad th N A R kw an nd wt B Hd O HL CO) sz) (fun u9 : (Int32) × (Nat → Int32) × (Nat → Bool) × (Bool) => (wM cI cZ ad (u9.1) N A R (u9.2.2.2) an nd wt B Hd O (u9.2.1) (u9.2.2.1)))) (va_A (wM cI cZ ad th N A R kw an nd wt B Hd O HL CO) sz)) 0 0 (va_A (wM cI cZ ad th N A R kw an nd wt B Hd O HL CO) sz) := by
  refine Met.ofW (cc := cX3_isConsistent) (maxL := 2) (ret := (some .boolean)) (by decide) rfl ?_
  intro p e s m args below meth c s₁ BB hml hv
  obtain ⟨rfl, hsz, hP, hK, hD0⟩ := hv
  have hx := BB.exec
  have hb := BB.bytes
  have hrt := BB.returns
  have hts := atoms_spec (ws := wsX3_isConsistent) BB.pre
  have hown : s.vm.findClass RX3 = some m.cls := findClass_of_methodNamed BB.named
  have hlk := BB.notSynchronized
  subst hsz
  have hD := hD0.self (sz := s.heap.size)
  generalize hAe : va_A (wM cI cZ ad th N A R kw an nd wt B Hd O HL CO) s.heap.size = Ap at hD ⊢
  have hAp : ∀ q : Nat, s.heap.size ≤ q → Ap q := fun q h => by rw [← hAe]; exact Or.inr h
  have hS : va_S Ap s.heap s.heap [] := va_S.rf
  have f32 := hts (.fieldLink RX3 32 "AssumptionKeeperModel" "areConsistent" "[Z") (by decide +kernel)
  have hin3 : ∀ w ∈ u_ws RX3 TX3 13, w ∈ wsX3_isConsistent := by decide +kernel
  have hl := lv_entry ([.ref (ad 0), .int (x0)]) (n := 2) (Nat.le_of_ble_eq_true rfl)
  rw [lg_entry_eq]
  generalize (lg_sl ([.ref (ad 0), .int (x0)]) ++ List.replicate (2 - (lg_sl ([.ref (ad 0), .int (x0)])).length) Slot.unset).toArray = ls at hl ⊢
  have hl : lv_has ls 2 [(0, .ref (ad 0)), (1, .int (x0))] := hl
  have h512 : 2 ^ A ≤ 512 := pow9 hA
  have hpos : 0 < 2 ^ A := Nat.two_pow_pos A
  refine lv_aload_n hx hb dX3_isConsistent_0 rfl (lv_at hl 0 rfl) ?_
  refine lv_iload_n hx hb dX3_isConsistent_1 rfl (lv_at hl 1 rfl) ?_
  refine mu_i (wr := []) (va_runV (As := [.int (x0)]) (rest := []) ⟨hx, hb, hml, hown, hts⟩ (c_X3_asksEnvironment l D cI cZ ad (th) (N) (A) (R) (kw) (an) (nd) (wt) (B) (Hd) (O) (HL) (CO) (x0) (by omega) (by omega) (hn) (hH) (hN) (hkw) (s.heap).size) (cwV 1 hts gX3_isConsistent_X3_asksEnvironment rfl rfl rfl (by decide +kernel) ⟨Nat.le_of_ble_eq_true rfl, Nat.le_of_ble_eq_true rfl⟩) (prw_V (q0 := 0) (ci := 3) (hP.sub (ws' := (wM cI cZ ad th N A R kw an nd wt B Hd O HL CO)) [0, 1, 2, 3, 4, 5, 6, 7, 8] rfl) (hD.sub (ws' := (wM cI cZ ad th N A R kw an nd wt B Hd O HL CO)) [0, 1, 2, 3, 4, 5, 6, 7, 8] (by decide) rfl) hK rfl rfl) rfl rfl hl.1 rfl (lv_room (Nat.le_of_ble_eq_true rfl)) dX3_isConsistent_2 ⟨Nat.le_of_ble_eq_true rfl, Nat.le_of_ble_eq_true rfl⟩) hP hD hS hAp [0, 1, 2, 3, 4, 5, 6, 7, 8] [] rfl rfl (by decide) (by decide) (fun r_2 u_2 H locs hq_2 hP hD hS => ?_)
  obtain ⟨th9_2, HL9_2, CO9_2⟩ := u_2
  obtain ⟨rfl, hthp_2, hkn_2, -⟩ := hq_2
  have hthp_2 : th9_2 = tB (inS x0 A) := hthp_2
  have hkn_2 : knOK B Hd O R nd A HL9_2 CO9_2 := hkn_2
  have hP : va_P D vwCl (wM cI cZ ad th9_2 N A R true an nd wt B Hd O HL9_2 CO9_2) H := hP
  have hD : va_D Ap (wM cI cZ ad th9_2 N A R true an nd wt B Hd O HL9_2 CO9_2) := hD
  refine lv_if_eq (tgt := 21) hx hb dX3_isConsistent_5 (by decide) (fun c_5 => ?_) (fun c_5 => ?_)
  · skip
    have c_5 := bI_eq0 c_5
    refine lv_iconst (v := 0) hx hb dX3_isConsistent_21 (by decide) ?_
    exact mr_z (v := false) (u := (th9_2, HL9_2, CO9_2, true)) hx hb hrt hlk dX3_isConsistent_22 hS hP hD ⟨(hthp_2), (fun _ => hkn_2), (by intro h1; first | (rw [h1] at c_5; cases c_5; done) | (have h9 := c_14; rw [knC hkn_2 e0 he0] at h9; exact (congrArg bI h9).symm)), trivial⟩
  · skip
    have c_5 := bI_ne0 c_5
    obtain ⟨e0, he0, rfl⟩ := inS_nat (by omega) (c_5)
    refine lv_aload_n hx hb dX3_isConsistent_8 rfl (lv_at hl 0 rfl) ?_
    refine va_get (D := D) (ci := 3) (v := .ref (ad 8)) (C := RX3) (T := TX3) (N := 13) hx hb hts hin3 hown hK.1 hP 0 rfl rfl 12 (by decide) f32 (fun _ h9 => h9) rfl dX3_isConsistent_9 ?_
    refine lv_iload_n hx hb dX3_isConsistent_12 rfl (lv_at hl 1 rfl) ?_
    refine az_ (D := D) (f := CO9_2) (i := e0) hx hb hK hP 8 1 rfl rfl (by omega) (by decide) dX3_isConsistent_13 ?_
    refine lv_if_eq (tgt := 21) hx hb dX3_isConsistent_14 (by decide) (fun c_14 => ?_) (fun c_14 => ?_)
    · skip
      have c_14 := bI_eq0 c_14
      refine lv_iconst (v := 0) hx hb dX3_isConsistent_21 (by decide) ?_
      exact mr_z (v := false) (u := (th9_2, HL9_2, CO9_2, true)) hx hb hrt hlk dX3_isConsistent_22 hS hP hD ⟨(hthp_2), (fun _ => hkn_2), (by intro h1; first | (rw [h1] at c_5; cases c_5; done) | (have h9 := c_14; rw [knC hkn_2 e0 he0] at h9; exact (congrArg bI h9).symm)), trivial⟩
    · skip
      have c_14 := bI_ne0 c_14
      refine lv_iconst (v := 1) hx hb dX3_isConsistent_17 (by decide) ?_
      refine lv_goto (tgt := 22) hx hb dX3_isConsistent_18 (by decide) ?_
      exact mr_z (v := true) (u := (th9_2, HL9_2, CO9_2, true)) hx hb hrt hlk dX3_isConsistent_22 hS hP hD ⟨(hthp_2), (fun _ => hkn_2), (by intro h1; first | (rw [h1] at c_5; cases c_5; done) | (have h9 := c_14; rw [knC hkn_2 e0 he0] at h9; exact (congrArg bI h9).symm)), trivial⟩
set_option maxHeartbeats 4000000 in
set_option maxRecDepth 100000 in
theorem c_X3_cost (l : Launch) (D : va_G) (cI cZ : ClassId) (ad : Nat → Nat) (th : Int32) (N : Nat) (A : Nat) (R : Nat) (kw : Bool) (an : Nat → Int32) (nd : Nat → Int32) (wt : Nat → Int32) (B : Nat → Int32) (Hd : Nat → Int32) (O : Nat → Bool) (HL : Nat → Int32) (CO : Nat → Bool) (x0 : Int32) (hA : A ≤ 9) (hR : R ≤ 40) (hn : N ≤ 24) (hH : okH N Hd R) (hN : okN N nd A) (hkw : kw = true → knOK B Hd O R nd A HL CO) (sz : Nat) : Met l yX3_cost wsX3_cost ({ frames := 4, cells := 0, slots := 0, locals := 89 }) (pcW D [(cI, .int), (cZ, .boolean)] sz (wM cI cZ ad th N A R kw an nd wt B Hd O HL CO) [.ref (ad 0), .int (x0)]) (va_Qi (fun (r9 : Int32) (u9 : (Int32) × (Nat → Int32) × (Nat → Bool) × (Bool)) => ((u9.1) = tB (inS x0 A)) ∧ ((u9.2.2.2) = true → knOK B Hd O R nd A (u9.2.1) (u9.2.2.1)) ∧ (inS x0 A = true → r9 = wo wt x0 A) ∧ (True)) (wB D (va_A (wM cI cZ ad th N A R kw an nd wt B Hd O HL CO) sz) (fun u9 : (Int32) × (Nat → Int32) × (Nat → Bool) × (Bool) => (wM cI cZ ad (u9.1) N A R (u9.2.2.2) an nd wt B Hd O (u9.2.1) (u9.2.2.1)))) (va_A (wM cI cZ ad th N A R kw an nd wt B Hd O HL CO) sz)) 0 0 (va_A (wM cI cZ ad th N A R kw an nd wt B Hd O HL CO) sz) := by
  refine Met.ofW (cc := cX3_cost) (maxL := 2) (ret := (some .int)) (by decide) rfl ?_
  intro p e s m args below meth c s₁ BB hml hv
  obtain ⟨rfl, hsz, hP, hK, hD0⟩ := hv
  have hx := BB.exec
  have hb := BB.bytes
  have hrt := BB.returns
  have hts := atoms_spec (ws := wsX3_cost) BB.pre
  have hown : s.vm.findClass RX3 = some m.cls := findClass_of_methodNamed BB.named
  have hlk := BB.notSynchronized
  subst hsz
  have hD := hD0.self (sz := s.heap.size)
  generalize hAe : va_A (wM cI cZ ad th N A R kw an nd wt B Hd O HL CO) s.heap.size = Ap at hD ⊢
  have hAp : ∀ q : Nat, s.heap.size ≤ q → Ap q := fun q h => by rw [← hAe]; exact Or.inr h
  have hS : va_S Ap s.heap s.heap [] := va_S.rf
  have hl := lv_entry ([.ref (ad 0), .int (x0)]) (n := 2) (Nat.le_of_ble_eq_true rfl)
  rw [lg_entry_eq]
  generalize (lg_sl ([.ref (ad 0), .int (x0)]) ++ List.replicate (2 - (lg_sl ([.ref (ad 0), .int (x0)])).length) Slot.unset).toArray = ls at hl ⊢
  have hl : lv_has ls 2 [(0, .ref (ad 0)), (1, .int (x0))] := hl
  have h512 : 2 ^ A ≤ 512 := pow9 hA
  have hpos : 0 < 2 ^ A := Nat.two_pow_pos A
  refine lv_aload_n hx hb dX3_cost_0 rfl (lv_at hl 0 rfl) ?_
  refine lv_iload_n hx hb dX3_cost_1 rfl (lv_at hl 1 rfl) ?_
  refine mu_i (wr := []) (va_runV (As := [.int (x0)]) (rest := []) ⟨hx, hb, hml, hown, hts⟩ (c_X3_asksEnvironment l D cI cZ ad (th) (N) (A) (R) (kw) (an) (nd) (wt) (B) (Hd) (O) (HL) (CO) (x0) (by omega) (by omega) (hn) (hH) (hN) (hkw) (s.heap).size) (cwV 1 hts gX3_cost_X3_asksEnvironment rfl rfl rfl (by decide +kernel) ⟨Nat.le_of_ble_eq_true rfl, Nat.le_of_ble_eq_true rfl⟩) (prw_V (q0 := 0) (ci := 3) (hP.sub (ws' := (wM cI cZ ad th N A R kw an nd wt B Hd O HL CO)) [0, 1, 2, 3, 4, 5, 6, 7, 8] rfl) (hD.sub (ws' := (wM cI cZ ad th N A R kw an nd wt B Hd O HL CO)) [0, 1, 2, 3, 4, 5, 6, 7, 8] (by decide) rfl) hK rfl rfl) rfl rfl hl.1 rfl (lv_room (Nat.le_of_ble_eq_true rfl)) dX3_cost_2 ⟨Nat.le_of_ble_eq_true rfl, Nat.le_of_ble_eq_true rfl⟩) hP hD hS hAp [0, 1, 2, 3, 4, 5, 6, 7, 8] [] rfl rfl (by decide) (by decide) (fun r_2 u_2 H locs hq_2 hP hD hS => ?_)
  obtain ⟨th9_2, HL9_2, CO9_2⟩ := u_2
  obtain ⟨rfl, hthp_2, hkn_2, -⟩ := hq_2
  have hthp_2 : th9_2 = tB (inS x0 A) := hthp_2
  have hkn_2 : knOK B Hd O R nd A HL9_2 CO9_2 := hkn_2
  have hP : va_P D vwCl (wM cI cZ ad th9_2 N A R true an nd wt B Hd O HL9_2 CO9_2) H := hP
  have hD : va_D Ap (wM cI cZ ad th9_2 N A R true an nd wt B Hd O HL9_2 CO9_2) := hD
  refine lv_if_eq (tgt := 16) hx hb dX3_cost_5 (by decide) (fun c_5 => ?_) (fun c_5 => ?_)
  · skip
    have c_5 := bI_eq0 c_5
    refine lv_iconst (v := 0) hx hb dX3_cost_16 (by decide) ?_
    exact mr_i (u := (th9_2, HL9_2, CO9_2, true)) hx hb hrt hlk dX3_cost_17 hS hP hD ⟨(hthp_2), (fun _ => hkn_2), (by intro h1; first | rfl | (rw [h1] at c_5; cases c_5; done)), trivial⟩
  · skip
    have c_5 := bI_ne0 c_5
    refine lv_aload_n hx hb dX3_cost_8 rfl (lv_at hl 0 rfl) ?_
    refine lv_iload_n hx hb dX3_cost_9 rfl (lv_at hl 1 rfl) ?_
    refine pu_i (va_runV (As := [.int (x0)]) (rest := []) ⟨hx, hb, hml, hown, hts⟩ (c_X3_costOf l D cI cZ ad (th9_2) (N) (A) (R) (true) (an) (nd) (wt) (B) (Hd) (O) (HL9_2) (CO9_2) (x0) (by omega)) (cwV 1 hts gX3_cost_X3_costOf rfl rfl rfl (by decide +kernel) ⟨Nat.le_of_ble_eq_true rfl, Nat.le_of_ble_eq_true rfl⟩) (pre_V (q0 := 0) (ci := 3) (hP.sub (ws' := (wM cI cZ ad th9_2 N A R true an nd wt B Hd O HL9_2 CO9_2)) [0, 1, 2, 3, 4, 5, 6, 7, 8] rfl) hK rfl rfl) rfl rfl hl.1 rfl (lv_room (Nat.le_of_ble_eq_true rfl)) dX3_cost_10 ⟨Nat.zero_le _, Nat.zero_le _⟩) ?_
    refine lv_goto (tgt := 17) hx hb dX3_cost_13 (by decide) ?_
    exact mr_i (u := (th9_2, HL9_2, CO9_2, true)) hx hb hrt hlk dX3_cost_17 hS hP hD ⟨(hthp_2), (fun _ => hkn_2), (by intro h1; first | rfl | (rw [h1] at c_5; cases c_5; done)), trivial⟩
set_option maxHeartbeats 4000000 in
set_option maxRecDepth 100000 in
theorem c_X3_extend (l : Launch) (D : va_G) (cI cZ : ClassId) (ad : Nat → Nat) (th : Int32) (N : Nat) (A : Nat) (R : Nat) (kw : Bool) (an : Nat → Int32) (nd : Nat → Int32) (wt : Nat → Int32) (B : Nat → Int32) (Hd : Nat → Int32) (O : Nat → Bool) (HL : Nat → Int32) (CO : Nat → Bool) (x0 : Int32) (hA : A ≤ 9) (hR : R ≤ 40) (hn : N ≤ 24) (hH : okH N Hd R) (hN : okN N nd A) (hkw : kw = true → knOK B Hd O R nd A HL CO) (hw : ∀ a, a < A → 0 < wt a) (sz : Nat) : Met l yX3_extend wsX3_extend ({ frames := 4, cells := 0, slots := 0, locals := 89 }) (pcW D [(cI, .int), (cZ, .boolean)] sz (wM cI cZ ad th N A R kw an nd wt B Hd O HL CO) [.ref (ad 0), .int (x0)]) (va_Qi (fun (r9 : Int32) (u9 : (Int32) × (Nat → Int32) × (Nat → Bool) × (Bool)) => ((u9.1) = (if inS x0 A = true then (if ct B Hd O R (clo B Hd O R (bg nd x0 A)) = true then 2 else 0) else 1)) ∧ ((u9.2.2.2) = true → knOK B Hd O R nd A (u9.2.1) (u9.2.2.1)) ∧ (inS x0 A = true → ct B Hd O R (clo B Hd O R (bg nd x0 A)) = false → r9 = (xtS wt A (fun y => !(ct B Hd O R (clo B Hd O R (bg nd y A)))) x0 x0 A).1) ∧ (True)) (wB D (va_A (wM cI cZ ad th N A R kw an nd wt B Hd O HL CO) sz) (fun u9 : (Int32) × (Nat → Int32) × (Nat → Bool) × (Bool) => (wM cI cZ ad (u9.1) N A R (u9.2.2.2) an nd wt B Hd O (u9.2.1) (u9.2.2.1)))) (va_A (wM cI cZ ad th N A R kw an nd wt B Hd O HL CO) sz)) 0 0 (va_A (wM cI cZ ad th N A R kw an nd wt B Hd O HL CO) sz) := by
  refine Met.ofW (cc := cX3_extend) (maxL := 6) (ret := (some .int)) (by decide) rfl ?_
  intro p e s m args below meth c s₁ BB hml hv
  obtain ⟨rfl, hsz, hP, hK, hD0⟩ := hv
  have hx := BB.exec
  have hb := BB.bytes
  have hrt := BB.returns
  have hts := atoms_spec (ws := wsX3_extend) BB.pre
  have hown : s.vm.findClass RX3 = some m.cls := findClass_of_methodNamed BB.named
  have hlk := BB.notSynchronized
  subst hsz
  have hD := hD0.self (sz := s.heap.size)
  generalize hAe : va_A (wM cI cZ ad th N A R kw an nd wt B Hd O HL CO) s.heap.size = Ap at hD ⊢
  have hAp : ∀ q : Nat, s.heap.size ≤ q → Ap q := fun q h => by rw [← hAe]; exact Or.inr h
  have hS : va_S Ap s.heap s.heap [] := va_S.rf
  have f16 := hts (.fieldLink RX3 16 "AssumptionKeeperModel" "weights" "[I") (by decide +kernel)
  have f32 := hts (.fieldLink RX3 32 "AssumptionKeeperModel" "areConsistent" "[Z") (by decide +kernel)
  have f42 := hts (.fieldLink RX3 42 "AssumptionKeeperModel" "assumptions" "I") (by decide +kernel)
  have hin3 : ∀ w ∈ u_ws RX3 TX3 13, w ∈ wsX3_extend := by decide +kernel
  have hl := lv_entry ([.ref (ad 0), .int (x0)]) (n := 6) (Nat.le_of_ble_eq_true rfl)
  rw [lg_entry_eq]
  generalize (lg_sl ([.ref (ad 0), .int (x0)]) ++ List.replicate (6 - (lg_sl ([.ref (ad 0), .int (x0)])).length) Slot.unset).toArray = ls at hl ⊢
  have hl : lv_has ls 6 [(0, .ref (ad 0)), (1, .int (x0))] := hl
  have h512 : 2 ^ A ≤ 512 := pow9 hA
  have hpos : 0 < 2 ^ A := Nat.two_pow_pos A
  refine lv_aload_n hx hb dX3_extend_0 rfl (lv_at hl 0 rfl) ?_
  refine lv_iload_n hx hb dX3_extend_1 rfl (lv_at hl 1 rfl) ?_
  refine mu_i (wr := []) (va_runV (As := [.int (x0)]) (rest := []) ⟨hx, hb, hml, hown, hts⟩ (c_X3_asksEnvironment l D cI cZ ad (th) (N) (A) (R) (kw) (an) (nd) (wt) (B) (Hd) (O) (HL) (CO) (x0) (by omega) (by omega) (hn) (hH) (hN) (hkw) (s.heap).size) (cwV 1 hts gX3_extend_X3_asksEnvironment rfl rfl rfl (by decide +kernel) ⟨Nat.le_of_ble_eq_true rfl, Nat.le_of_ble_eq_true rfl⟩) (prw_V (q0 := 0) (ci := 3) (hP.sub (ws' := (wM cI cZ ad th N A R kw an nd wt B Hd O HL CO)) [0, 1, 2, 3, 4, 5, 6, 7, 8] rfl) (hD.sub (ws' := (wM cI cZ ad th N A R kw an nd wt B Hd O HL CO)) [0, 1, 2, 3, 4, 5, 6, 7, 8] (by decide) rfl) hK rfl rfl) rfl rfl hl.1 rfl (lv_room (Nat.le_of_ble_eq_true rfl)) dX3_extend_2 ⟨Nat.le_of_ble_eq_true rfl, Nat.le_of_ble_eq_true rfl⟩) hP hD hS hAp [0, 1, 2, 3, 4, 5, 6, 7, 8] [] rfl rfl (by decide) (by decide) (fun r_2 u_2 H locs hq_2 hP hD hS => ?_)
  obtain ⟨th9_2, HL9_2, CO9_2⟩ := u_2
  obtain ⟨rfl, hthp_2, hkn_2, -⟩ := hq_2
  have hthp_2 : th9_2 = tB (inS x0 A) := hthp_2
  have hkn_2 : knOK B Hd O R nd A HL9_2 CO9_2 := hkn_2
  have hP : va_P D vwCl (wM cI cZ ad th9_2 N A R true an nd wt B Hd O HL9_2 CO9_2) H := hP
  have hD : va_D Ap (wM cI cZ ad th9_2 N A R true an nd wt B Hd O HL9_2 CO9_2) := hD
  refine lv_if_ne (tgt := 10) hx hb dX3_extend_5 (by decide) (fun c_5 => ?_) (fun c_5 => ?_)
  · skip
    have c_5 := bI_ne0 c_5
    obtain ⟨e0, he0, rfl⟩ := inS_nat (by omega) (c_5)
    refine lv_aload_n hx hb dX3_extend_10 rfl (lv_at hl 0 rfl) ?_
    refine va_get (D := D) (ci := 3) (v := .ref (ad 8)) (C := RX3) (T := TX3) (N := 13) hx hb hts hin3 hown hK.1 hP 0 rfl rfl 12 (by decide) f32 (fun _ h9 => h9) rfl dX3_extend_11 ?_
    refine lv_iload_n hx hb dX3_extend_14 rfl (lv_at hl 1 rfl) ?_
    refine az_ (D := D) (f := CO9_2) (i := e0) hx hb hK hP 8 1 rfl rfl (by omega) (by decide) dX3_extend_15 ?_
    refine lv_if_ne (tgt := 25) hx hb dX3_extend_16 (by decide) (fun c_16 => ?_) (fun c_16 => ?_)
    · skip
      have c_16 := bI_ne0 c_16
      refine lv_iload_n hx hb dX3_extend_25 rfl (lv_at hl 1 rfl) ?_
      refine lv_istore_n (lv' := [(2, .int (nI (e0))), (0, .ref (ad 0)), (1, .int (nI (e0)))]) hx hb dX3_extend_26 rfl hl (by decide) rfl (fun ls hl => ?_)
      refine lv_iload_n hx hb dX3_extend_27 rfl (lv_at hl 2 rfl) ?_
      refine lv_istore_n (lv' := [(3, .int (nI (e0))), (2, .int (nI (e0))), (0, .ref (ad 0)), (1, .int (nI (e0)))]) hx hb dX3_extend_28 rfl hl (by decide) rfl (fun ls hl => ?_)
      have lp_29 : ∀ (n29 i : Nat) (v2 : Int32) (v3 : Int32), i ≤ A → A + 1 ≤ i + n29 → (xtI wt A (fun y => !(ct B Hd O R (clo B Hd O R (bg nd y A)))) (nI e0) i) → v2 = (xtS wt A (fun y => !(ct B Hd O R (clo B Hd O R (bg nd y A)))) (nI e0) (nI e0) i).1 → v3 = (xtS wt A (fun y => !(ct B Hd O R (clo B Hd O R (bg nd y A)))) (nI e0) (nI e0) i).2 → ∀ ls : Array Slot, lv_has ls 6 [(0, .ref (ad 0)), (1, .int (nI (e0))), (2, .int (v2)), (3, .int (v3))] → W p l e (headSpec wsX3_extend ({ frames := 4, cells := 0, slots := 0, locals := 89 })).room s m ([.ref (ad 0), .int ((nI (e0)))]).toArray below meth c H locs 0 0 (MQ below (va_Qi (fun (r9 : Int32) (u9 : (Int32) × (Nat → Int32) × (Nat → Bool) × (Bool)) => ((u9.1) = (if inS (nI (e0)) A = true then (if ct B Hd O R (clo B Hd O R (bg nd (nI (e0)) A)) = true then 2 else 0) else 1)) ∧ ((u9.2.2.2) = true → knOK B Hd O R nd A (u9.2.1) (u9.2.2.1)) ∧ (inS (nI (e0)) A = true → ct B Hd O R (clo B Hd O R (bg nd (nI (e0)) A)) = false → r9 = (xtS wt A (fun y => !(ct B Hd O R (clo B Hd O R (bg nd y A)))) (nI (e0)) (nI (e0)) A).1) ∧ (True)) (wB D Ap (fun u9 : (Int32) × (Nat → Int32) × (Nat → Bool) × (Bool) => (wM cI cZ ad (u9.1) N A R (u9.2.2.2) an nd wt B Hd O (u9.2.1) (u9.2.2.1)))) Ap) ([.ref (ad 0), .int ((nI (e0)))]).toArray s 0 0 Ap) (F0 m 29 ls []) := by
        intro n29
        induction n29 with
        | zero => intro i v2 v3 h1 h2; exact absurd h2 (by omega)
        | succ n29 ih29 =>
          intro i v2 v3 hi29 hn29 hx9 e2 e3  ls hl
          subst e2 e3
          have hl : lv_has ls 6 [(0, .ref (ad 0)), (1, .int (nI (e0))), (2, .int ((xtS wt A (fun y => !(ct B Hd O R (clo B Hd O R (bg nd y A)))) (nI e0) (nI e0) i).1)), (3, .int ((xtS wt A (fun y => !(ct B Hd O R (clo B Hd O R (bg nd y A)))) (nI e0) (nI e0) i).2))] := hl
          obtain ⟨m9, t9, hm9, ht9, hxt, hct⟩ := hx9
          have hia : i ≤ A := Nat.le_trans hct (cnt_le _ A)
          rw [hxt] at hl
          refine lv_iload_n hx hb dX3_extend_29 rfl (lv_at hl 3 rfl) ?_
          refine lv_iconst (v := 1) hx hb dX3_extend_30 (by decide) ?_
          refine lv_aload_n hx hb dX3_extend_31 rfl (lv_at hl 0 rfl) ?_
          refine va_get (D := D) (ci := 3) (v := .int (nI (A))) (C := RX3) (T := TX3) (N := 13) hx hb hts hin3 hown hK.1 hP 0 rfl rfl 3 (by decide) f42 (fun _ h9 => h9) rfl dX3_extend_32 ?_
          refine lv_ishl hx hb dX3_extend_35 ?_
          rw [sh1_eq (by omega)]
          refine lv_iconst (v := 1) hx hb dX3_extend_36 (by decide) ?_
          refine lv_isub hx hb dX3_extend_37 ?_
          rw [nI_sub1 (by omega)]
          refine lv_icmp_eq (tgt := 129) hx hb dX3_extend_38 (by decide) (fun c_38 => ?_) (fun c_38 => ?_)
          · skip
            have c_38 := (qI_inj (a := t9) (b := (2 ^ A) - 1) (by omega) (by omega)).mp c_38
            refine lv_iload_n hx hb dX3_extend_129 rfl (lv_at hl 2 rfl) ?_
            exact mr_i (u := (th9_2, HL9_2, CO9_2, true)) hx hb hrt hlk dX3_extend_130 hS hP hD ⟨(by have h9 := c_16; rw [knC hkn_2 e0 he0] at h9; have h8 : ct B Hd O R (clo B Hd O R (bg nd (nI (e0)) A)) = false := nb_t h9; rw [hthp_2, c_5, h8]; rfl), (fun _ => hkn_2), (fun _ _ => xt_end hA hia hxt c_38), trivial⟩
          · skip
            have c_38 := mt (qI_inj (a := t9) (b := (2 ^ A) - 1) (by omega) (by omega)).mpr c_38
            refine lv_iconst (v := -1) hx hb dX3_extend_41 (by decide) ?_
            refine lv_istore (lv' := [(4, .int (-1)), (0, .ref (ad 0)), (1, .int (nI (e0))), (2, .int (nI (m9))), (3, .int (nI (t9)))]) hx hb dX3_extend_42 hl (by decide) rfl (fun ls hl => ?_)
            refine lv_iconst (v := nI (0)) hx hb dX3_extend_44 (by decide) ?_
            refine lv_istore (lv' := [(5, .int (nI (0))), (4, .int (-1)), (0, .ref (ad 0)), (1, .int (nI (e0))), (2, .int (nI (m9))), (3, .int (nI (t9)))]) hx hb dX3_extend_45 hl (by decide) rfl (fun ls hl => ?_)
            have lp_47 : ∀ (n47 j : Nat) (v4 : Int32) (v5 : Int32), j ≤ A → A + 1 ≤ j + n47 → v4 = (hvO wt (nI (t9)) j).1 → v5 = nI (j) → ∀ ls : Array Slot, lv_has ls 6 [(0, .ref (ad 0)), (1, .int (nI (e0))), (2, .int (nI (m9))), (3, .int (nI (t9))), (4, .int (v4)), (5, .int (v5))] → W p l e (headSpec wsX3_extend ({ frames := 4, cells := 0, slots := 0, locals := 89 })).room s m ([.ref (ad 0), .int ((nI (e0)))]).toArray below meth c H locs 0 0 (MQ below (va_Qi (fun (r9 : Int32) (u9 : (Int32) × (Nat → Int32) × (Nat → Bool) × (Bool)) => ((u9.1) = (if inS (nI (e0)) A = true then (if ct B Hd O R (clo B Hd O R (bg nd (nI (e0)) A)) = true then 2 else 0) else 1)) ∧ ((u9.2.2.2) = true → knOK B Hd O R nd A (u9.2.1) (u9.2.2.1)) ∧ (inS (nI (e0)) A = true → ct B Hd O R (clo B Hd O R (bg nd (nI (e0)) A)) = false → r9 = (xtS wt A (fun y => !(ct B Hd O R (clo B Hd O R (bg nd y A)))) (nI (e0)) (nI (e0)) A).1) ∧ (True)) (wB D Ap (fun u9 : (Int32) × (Nat → Int32) × (Nat → Bool) × (Bool) => (wM cI cZ ad (u9.1) N A R (u9.2.2.2) an nd wt B Hd O (u9.2.1) (u9.2.2.1)))) Ap) ([.ref (ad 0), .int ((nI (e0)))]).toArray s 0 0 Ap) (F0 m 47 ls []) := by
              intro n47
              induction n47 with
              | zero => intro j v4 v5 h1 h2; exact absurd h2 (by omega)
              | succ n47 ih47 =>
                intro j v4 v5 hi47 hn47  e4 e5  ls hl
                subst e4 e5
                have hl : lv_has ls 6 [(0, .ref (ad 0)), (1, .int (nI (e0))), (2, .int (nI (m9))), (3, .int (nI (t9))), (4, .int ((hvO wt (nI (t9)) j).1)), (5, .int (nI (j)))] := hl
                refine lv_iload hx hb dX3_extend_47 (lv_at hl 5 rfl) ?_
                refine lv_aload_n hx hb dX3_extend_49 rfl (lv_at hl 0 rfl) ?_
                refine va_get (D := D) (ci := 3) (v := .int (nI (A))) (C := RX3) (T := TX3) (N := 13) hx hb hts hin3 hown hK.1 hP 0 rfl rfl 3 (by decide) f42 (fun _ h9 => h9) rfl dX3_extend_50 ?_
                refine lv_icmp_ge (tgt := 98) hx hb dX3_extend_53 (by decide) (fun c_53 => ?_) (fun c_53 => ?_)
                · skip
                  have c_53 := (qI_le (a := A) (b := j) (by omega) (by omega)).mp c_53
                  have hlt9 : i < A := Nat.lt_of_le_of_lt hct (cnt_all (not_full ht9 c_38))
                  have hj9 : j = A := (by omega)
                  obtain ⟨k9, hk9, hkv9, hkb9⟩ := hv_take hA hw ht9 c_38
                  rw [hj9, hkv9] at hl
                  have hcn9 : (fun y => !(ct B Hd O R (clo B Hd O R (bg nd y A)))) (nI (m9 ||| 2 ^ k9)) = CO9_2 (m9 ||| 2 ^ k9) := (knC hkn_2 _ (or_lt hm9 hk9)).symm
                  refine lv_iload_n hx hb dX3_extend_98 rfl (lv_at hl 3 rfl) ?_
                  refine lv_iconst (v := 1) hx hb dX3_extend_99 (by decide) ?_
                  refine lv_iload hx hb dX3_extend_100 (lv_at hl 4 rfl) ?_
                  refine lv_ishl hx hb dX3_extend_102 ?_
                  refine lv_ior hx hb dX3_extend_103 ?_
                  refine lv_istore_n (lv' := [(3, .int ((nI (t9)) ||| ((1) <<< ((nI (k9)) &&& 31)))), (0, .ref (ad 0)), (1, .int (nI (e0))), (2, .int (nI (m9))), (4, .int (nI (k9))), (5, .int (nI (A)))]) hx hb dX3_extend_104 rfl hl (by decide) rfl (fun ls hl => ?_)
                  refine lv_aload_n hx hb dX3_extend_105 rfl (lv_at hl 1 rfl) ?_
                  refine va_get (D := D) (ci := 3) (v := .ref (ad 8)) (C := RX3) (T := TX3) (N := 13) hx hb hts hin3 hown hK.1 hP 0 rfl rfl 12 (by decide) f32 (fun _ h9 => h9) rfl dX3_extend_106 ?_
                  refine lv_iload_n hx hb dX3_extend_109 rfl (lv_at hl 3 rfl) ?_
                  refine lv_iconst (v := 1) hx hb dX3_extend_110 (by decide) ?_
                  refine lv_iload hx hb dX3_extend_111 (lv_at hl 4 rfl) ?_
                  refine lv_ishl hx hb dX3_extend_113 ?_
                  refine lv_ior hx hb dX3_extend_114 ?_
                  rw [or_bit (by omega)]
                  refine az_ (D := D) (f := CO9_2) (i := m9 ||| 2 ^ k9) hx hb hK hP 8 1 rfl rfl (Nat.lt_of_lt_of_le (or_lt hm9 hk9) h512) (by decide) dX3_extend_115 ?_
                  refine lv_if_eq (tgt := 126) hx hb dX3_extend_116 (by decide) (fun c_116 => ?_) (fun c_116 => ?_)
                  · skip
                    have c_116 := bI_eq0 c_116
                    refine lv_goto (tgt := 29) hx hb dX3_extend_126 (by decide) ?_
                    exact ih29 (i + 1) _ _  (by omega) (by omega) (xt_next hA hk9 hm9 ht9 hct hxt hkv9 hkb9) (by rw [xt_step hA hk9 hxt hkv9]; first | (rw [if_pos (hcn9.trans c_116)]; exact or_bit (by omega)) | rw [if_neg (fun h9 => absurd ((hcn9.symm.trans h9).symm.trans c_116) (by decide))]) (by rw [xt_step hA hk9 hxt hkv9]; exact or_bit (by omega))  ls (lv_sub hl [1, 2, 3, 0] rfl)
                  · skip
                    have c_116 := bI_ne0 c_116
                    refine lv_iload_n hx hb dX3_extend_119 rfl (lv_at hl 3 rfl) ?_
                    refine lv_iconst (v := 1) hx hb dX3_extend_120 (by decide) ?_
                    refine lv_iload hx hb dX3_extend_121 (lv_at hl 4 rfl) ?_
                    refine lv_ishl hx hb dX3_extend_123 ?_
                    refine lv_ior hx hb dX3_extend_124 ?_
                    refine lv_istore_n (lv' := [(2, .int ((nI (m9)) ||| ((1) <<< ((nI (k9)) &&& 31)))), (3, .int ((nI (t9)) ||| ((1) <<< ((nI (k9)) &&& 31)))), (0, .ref (ad 0)), (1, .int (nI (e0))), (4, .int (nI (k9))), (5, .int (nI (A)))]) hx hb dX3_extend_125 rfl hl (by decide) rfl (fun ls hl => ?_)
                    refine lv_goto (tgt := 29) hx hb dX3_extend_126 (by decide) ?_
                    exact ih29 (i + 1) _ _  (by omega) (by omega) (xt_next hA hk9 hm9 ht9 hct hxt hkv9 hkb9) (by rw [xt_step hA hk9 hxt hkv9]; first | (rw [if_pos (hcn9.trans c_116)]; exact or_bit (by omega)) | rw [if_neg (fun h9 => absurd ((hcn9.symm.trans h9).symm.trans c_116) (by decide))]) (by rw [xt_step hA hk9 hxt hkv9]; exact or_bit (by omega))  ls (lv_sub hl [2, 3, 0, 1] rfl)
                · skip
                  have c_53 := mt (qI_le (a := A) (b := j) (by omega) (by omega)).mpr c_53
                  refine lv_iload_n hx hb dX3_extend_56 rfl (lv_at hl 3 rfl) ?_
                  refine lv_iload hx hb dX3_extend_57 (lv_at hl 5 rfl) ?_
                  refine lv_ishr hx hb dX3_extend_59 ?_
                  refine lv_iconst (v := 1) hx hb dX3_extend_60 (by decide) ?_
                  refine lv_iand hx hb dX3_extend_61 ?_
                  refine lv_if_ne (tgt := 92) hx hb dX3_extend_62 (by decide) (fun c_62 => ?_) (fun c_62 => ?_)
                  · skip
                    have c_62 := hs_n0 c_62
                    refine lv_iinc (v := nI (j + 1)) (lv' := [(5, .int (nI (j + 1))), (0, .ref (ad 0)), (1, .int (nI (e0))), (2, .int (nI (m9))), (3, .int (nI (t9))), (4, .int ((hvO wt (nI (t9)) j).1))]) hx hb dX3_extend_92 hl (k := 5) rfl (nI_1 _) (by decide) rfl (fun ls hl => ?_)
                    refine lv_goto (tgt := 47) hx hb dX3_extend_95 (by decide) ?_
                    exact ih47 (j + 1) _ _  (by omega) (by omega)  (by first | exact hv_s0 c_62 hkv8 hkw8 c_85 | exact hv_s1 c_62 hkv8 hkw8 c_85 | exact hv_s2 c_62 | exact hv_s3 (by omega) c_62 (hw j (by omega)) c_68) (by first | rfl | (simp [c_5, c_16, c_38, c_53, c_62]; done) | (simp only [c_5, c_16, c_38, c_53, c_62]; rfl) | (simp_all [c_5, c_16, c_38, c_53, c_62]; done))  ls (lv_sub hl [1, 2, 3, 4, 5, 0] rfl)
                  · skip
                    have c_62 := hs_0 c_62
                    refine lv_iload hx hb dX3_extend_65 (lv_at hl 4 rfl) ?_
                    refine lv_iconst (v := -1) hx hb dX3_extend_67 (by decide) ?_
                    refine lv_icmp_eq (tgt := 88) hx hb dX3_extend_68 (by decide) (fun c_68 => ?_) (fun c_68 => ?_)
                    · skip
                      refine lv_iload hx hb dX3_extend_88 (lv_at hl 5 rfl) ?_
                      refine lv_istore (lv' := [(4, .int (nI (j))), (0, .ref (ad 0)), (1, .int (nI (e0))), (2, .int (nI (m9))), (3, .int (nI (t9))), (5, .int (nI (j)))]) hx hb dX3_extend_90 hl (by decide) rfl (fun ls hl => ?_)
                      refine lv_iinc (v := nI (j + 1)) (lv' := [(5, .int (nI (j + 1))), (4, .int (nI (j))), (0, .ref (ad 0)), (1, .int (nI (e0))), (2, .int (nI (m9))), (3, .int (nI (t9)))]) hx hb dX3_extend_92 hl (k := 5) rfl (nI_1 _) (by decide) rfl (fun ls hl => ?_)
                      refine lv_goto (tgt := 47) hx hb dX3_extend_95 (by decide) ?_
                      exact ih47 (j + 1) _ _  (by omega) (by omega)  (by first | exact hv_s0 c_62 hkv8 hkw8 c_85 | exact hv_s1 c_62 hkv8 hkw8 c_85 | exact hv_s2 c_62 | exact hv_s3 (by omega) c_62 (hw j (by omega)) c_68) (by first | rfl | (simp [c_5, c_16, c_38, c_53, c_62, c_68]; done) | (simp only [c_5, c_16, c_38, c_53, c_62, c_68]; rfl) | (simp_all [c_5, c_16, c_38, c_53, c_62, c_68]; done))  ls (lv_sub hl [2, 3, 4, 5, 1, 0] rfl)
                    · skip
                      obtain ⟨k8, hk8, hkv8, hkw8⟩ : ∃ k, k < j ∧ (hvO wt (nI (t9)) j).1 = nI k ∧ (hvO wt (nI (t9)) j).2 = wt k := by
                       rcases hv_inv (wt := wt) (nI (t9)) j with h9 | ⟨k, h9, h8, h7, -⟩
                       · exact absurd h9.1 c_68
                       · exact ⟨k, h9, h8, h7⟩
                      rw [hkv8] at hl
                      refine lv_aload_n hx hb dX3_extend_71 rfl (lv_at hl 0 rfl) ?_
                      refine va_get (D := D) (ci := 3) (v := .ref (ad 3)) (C := RX3) (T := TX3) (N := 13) hx hb hts hin3 hown hK.1 hP 0 rfl rfl 5 (by decide) f16 (fun _ h9 => h9) rfl dX3_extend_72 ?_
                      refine lv_iload hx hb dX3_extend_75 (lv_at hl 5 rfl) ?_
                      refine ai_ (D := D) (f := wt) (i := j) hx hb hK hP 3 0 rfl rfl (by omega) (by decide) dX3_extend_77 ?_
                      refine lv_aload_n hx hb dX3_extend_78 rfl (lv_at hl 0 rfl) ?_
                      refine va_get (D := D) (ci := 3) (v := .ref (ad 3)) (C := RX3) (T := TX3) (N := 13) hx hb hts hin3 hown hK.1 hP 0 rfl rfl 5 (by decide) f16 (fun _ h9 => h9) rfl dX3_extend_79 ?_
                      refine lv_iload hx hb dX3_extend_82 (lv_at hl 4 rfl) ?_
                      refine ai_ (D := D) (f := wt) (i := k8) hx hb hK hP 3 0 rfl rfl (by omega) (by decide) dX3_extend_84 ?_
                      refine lv_icmp_le (tgt := 92) hx hb dX3_extend_85 (by decide) (fun c_85 => ?_) (fun c_85 => ?_)
                      · skip
                        refine lv_iinc (v := nI (j + 1)) (lv' := [(5, .int (nI (j + 1))), (0, .ref (ad 0)), (1, .int (nI (e0))), (2, .int (nI (m9))), (3, .int (nI (t9))), (4, .int (nI (k8)))]) hx hb dX3_extend_92 hl (k := 5) rfl (nI_1 _) (by decide) rfl (fun ls hl => ?_)
                        refine lv_goto (tgt := 47) hx hb dX3_extend_95 (by decide) ?_
                        exact ih47 (j + 1) _ _  (by omega) (by omega)  (by first | exact hv_s0 c_62 hkv8 hkw8 c_85 | exact hv_s1 c_62 hkv8 hkw8 c_85 | exact hv_s2 c_62 | exact hv_s3 (by omega) c_62 (hw j (by omega)) c_68) (by first | rfl | (simp [c_5, c_16, c_38, c_53, c_62, c_68, c_85]; done) | (simp only [c_5, c_16, c_38, c_53, c_62, c_68, c_85]; rfl) | (simp_all [c_5, c_16, c_38, c_53, c_62, c_68, c_85]; done))  ls (lv_sub hl [1, 2, 3, 4, 5, 0] rfl)
                      · skip
                        refine lv_iload hx hb dX3_extend_88 (lv_at hl 5 rfl) ?_
                        refine lv_istore (lv' := [(4, .int (nI (j))), (0, .ref (ad 0)), (1, .int (nI (e0))), (2, .int (nI (m9))), (3, .int (nI (t9))), (5, .int (nI (j)))]) hx hb dX3_extend_90 hl (by decide) rfl (fun ls hl => ?_)
                        refine lv_iinc (v := nI (j + 1)) (lv' := [(5, .int (nI (j + 1))), (4, .int (nI (j))), (0, .ref (ad 0)), (1, .int (nI (e0))), (2, .int (nI (m9))), (3, .int (nI (t9)))]) hx hb dX3_extend_92 hl (k := 5) rfl (nI_1 _) (by decide) rfl (fun ls hl => ?_)
                        refine lv_goto (tgt := 47) hx hb dX3_extend_95 (by decide) ?_
                        exact ih47 (j + 1) _ _  (by omega) (by omega)  (by first | exact hv_s0 c_62 hkv8 hkw8 c_85 | exact hv_s1 c_62 hkv8 hkw8 c_85 | exact hv_s2 c_62 | exact hv_s3 (by omega) c_62 (hw j (by omega)) c_68) (by first | rfl | (simp [c_5, c_16, c_38, c_53, c_62, c_68, c_85]; done) | (simp only [c_5, c_16, c_38, c_53, c_62, c_68, c_85]; rfl) | (simp_all [c_5, c_16, c_38, c_53, c_62, c_68, c_85]; done))  ls (lv_sub hl [2, 3, 4, 5, 1, 0] rfl)
            exact lp_47 (A + 1) (0) _ _  (by omega) (by omega)  (by first | rfl | (simp [c_5, c_16, c_38]; done) | (simp only [c_5, c_16, c_38]; rfl) | (simp_all [c_5, c_16, c_38]; done)) (by first | rfl | (simp [c_5, c_16, c_38]; done) | (simp only [c_5, c_16, c_38]; rfl) | (simp_all [c_5, c_16, c_38]; done))  ls (lv_sub hl [2, 3, 4, 5, 1, 0] rfl)
      exact lp_29 (A + 1) (0) _ _  (by omega) (by omega) (⟨e0, e0, he0, he0, rfl, Nat.zero_le _⟩) (by first | rfl | (simp [c_5, c_16]; done) | (simp only [c_5, c_16]; rfl) | (simp_all [c_5, c_16]; done)) (by first | rfl | (simp [c_5, c_16]; done) | (simp only [c_5, c_16]; rfl) | (simp_all [c_5, c_16]; done))  ls (lv_sub hl [2, 3, 1, 0] rfl)
    · skip
      have c_16 := bI_eq0 c_16
      refine lv_aload_n hx hb dX3_extend_19 rfl (lv_at hl 0 rfl) ?_
      refine lv_iconst (v := 2) hx hb dX3_extend_20 (by decide) ?_
      refine mu_i (wr := []) (va_runV (As := [.int (2)]) (rest := []) ⟨hx, hb, hml, hown, hts⟩ (c_X3_no l D cI cZ ad (th9_2) (N) (A) (R) (true) (an) (nd) (wt) (B) (Hd) (O) (HL9_2) (CO9_2) (2)  (H).size) (cwV 1 hts gX3_extend_X3_no rfl rfl rfl (by decide +kernel) ⟨Nat.le_of_ble_eq_true rfl, Nat.le_of_ble_eq_true rfl⟩) (prw_V (q0 := 0) (ci := 3) (hP.sub (ws' := (wM cI cZ ad th9_2 N A R true an nd wt B Hd O HL9_2 CO9_2)) [0, 1, 2, 3, 4, 5, 6, 7, 8] rfl) (hD.sub (ws' := (wM cI cZ ad th9_2 N A R true an nd wt B Hd O HL9_2 CO9_2)) [0, 1, 2, 3, 4, 5, 6, 7, 8] (by decide) rfl) hK rfl rfl) rfl rfl hl.1 rfl (lv_room (Nat.le_of_ble_eq_true rfl)) dX3_extend_21 ⟨Nat.le_of_ble_eq_true rfl, Nat.le_of_ble_eq_true rfl⟩) hP hD hS hAp [0, 1, 2, 3, 4, 5, 6, 7, 8] [] rfl rfl (by decide) (by decide) (fun r_21 u_21 H locs hq_21 hP hD hS => ?_)
      obtain ⟨rfl, -⟩ := hq_21
      have hP : va_P D vwCl (wM cI cZ ad 2 N A R true an nd wt B Hd O HL9_2 CO9_2) H := hP
      have hD : va_D Ap (wM cI cZ ad 2 N A R true an nd wt B Hd O HL9_2 CO9_2) := hD
      exact mr_i (u := (2, HL9_2, CO9_2, true)) hx hb hrt hlk dX3_extend_24 hS hP hD ⟨(by have h9 := c_16; rw [knC hkn_2 e0 he0] at h9; have h8 : ct B Hd O R (clo B Hd O R (bg nd (nI (e0)) A)) = true := nb_f h9; simp [c_5, h8]), (fun _ => hkn_2), (fun _ h2 => by have h9 := c_16; rw [knC hkn_2 e0 he0] at h9; have h8 : ct B Hd O R (clo B Hd O R (bg nd (nI (e0)) A)) = true := nb_f h9; rw [h8] at h2; cases h2), trivial⟩
  · skip
    have c_5 := bI_eq0 c_5
    refine lv_iconst (v := 0) hx hb dX3_extend_8 (by decide) ?_
    exact mr_i (u := (th9_2, HL9_2, CO9_2, true)) hx hb hrt hlk dX3_extend_9 hS hP hD ⟨(by rw [hthp_2, c_5]; rfl), (fun _ => hkn_2), (fun h1 _ => by rw [h1] at c_5; cases c_5), trivial⟩
set_option maxHeartbeats 4000000 in
set_option maxRecDepth 100000 in
theorem c_X3_labelSize (l : Launch) (D : va_G) (cI cZ : ClassId) (ad : Nat → Nat) (th : Int32) (N : Nat) (A : Nat) (R : Nat) (kw : Bool) (an : Nat → Int32) (nd : Nat → Int32) (wt : Nat → Int32) (B : Nat → Int32) (Hd : Nat → Int32) (O : Nat → Bool) (HL : Nat → Int32) (CO : Nat → Bool) (x0 : Int32) (hA : A ≤ 9) (hR : R ≤ 40) (hn : N ≤ 24) (hH : okH N Hd R) (hN : okN N nd A) (hkw : kw = true → knOK B Hd O R nd A HL CO) (sz : Nat) : Met l yX3_labelSize wsX3_labelSize ({ frames := 4, cells := 0, slots := 0, locals := 92 }) (pcW D [(cI, .int), (cZ, .boolean)] sz (wM cI cZ ad th N A R kw an nd wt B Hd O HL CO) [.ref (ad 0), .int (x0)]) (va_Qi (fun (r9 : Int32) (u9 : (Int32) × (Nat → Int32) × (Nat → Bool) × (Bool)) => ((u9.1) = tB (inR x0 N)) ∧ ((u9.2.2.2) = true → knOK B Hd O R nd A (u9.2.1) (u9.2.2.1)) ∧ (inR x0 N = true → r9 = nI (cnt (fun e => lbM (hdE B Hd O R nd A) (soE B Hd O R nd A) x0 e) (2 ^ A))) ∧ (True)) (wB D (va_A (wM cI cZ ad th N A R kw an nd wt B Hd O HL CO) sz) (fun u9 : (Int32) × (Nat → Int32) × (Nat → Bool) × (Bool) => (wM cI cZ ad (u9.1) N A R (u9.2.2.2) an nd wt B Hd O (u9.2.1) (u9.2.2.1)))) (va_A (wM cI cZ ad th N A R kw an nd wt B Hd O HL CO) sz)) 0 0 (va_A (wM cI cZ ad th N A R kw an nd wt B Hd O HL CO) sz) := by
  refine Met.ofW (cc := cX3_labelSize) (maxL := 2) (ret := (some .int)) (by decide) rfl ?_
  intro p e s m args below meth c s₁ BB hml hv
  obtain ⟨rfl, hsz, hP, hK, hD0⟩ := hv
  have hx := BB.exec
  have hb := BB.bytes
  have hrt := BB.returns
  have hts := atoms_spec (ws := wsX3_labelSize) BB.pre
  have hown : s.vm.findClass RX3 = some m.cls := findClass_of_methodNamed BB.named
  have hlk := BB.notSynchronized
  subst hsz
  have hD := hD0.self (sz := s.heap.size)
  generalize hAe : va_A (wM cI cZ ad th N A R kw an nd wt B Hd O HL CO) s.heap.size = Ap at hD ⊢
  have hAp : ∀ q : Nat, s.heap.size ≤ q → Ap q := fun q h => by rw [← hAe]; exact Or.inr h
  have hS : va_S Ap s.heap s.heap [] := va_S.rf
  have hl := lv_entry ([.ref (ad 0), .int (x0)]) (n := 2) (Nat.le_of_ble_eq_true rfl)
  rw [lg_entry_eq]
  generalize (lg_sl ([.ref (ad 0), .int (x0)]) ++ List.replicate (2 - (lg_sl ([.ref (ad 0), .int (x0)])).length) Slot.unset).toArray = ls at hl ⊢
  have hl : lv_has ls 2 [(0, .ref (ad 0)), (1, .int (x0))] := hl
  have h512 : 2 ^ A ≤ 512 := pow9 hA
  have hpos : 0 < 2 ^ A := Nat.two_pow_pos A
  refine lv_aload_n hx hb dX3_labelSize_0 rfl (lv_at hl 0 rfl) ?_
  refine lv_iload_n hx hb dX3_labelSize_1 rfl (lv_at hl 1 rfl) ?_
  refine mu_i (wr := []) (va_runV (As := [.int (x0)]) (rest := []) ⟨hx, hb, hml, hown, hts⟩ (c_X3_asksNode l D cI cZ ad (th) (N) (A) (R) (kw) (an) (nd) (wt) (B) (Hd) (O) (HL) (CO) (x0) (by omega) (by omega) (hn) (hH) (hN) (hkw) (s.heap).size) (cwV 1 hts gX3_labelSize_X3_asksNode rfl rfl rfl (by decide +kernel) ⟨Nat.le_of_ble_eq_true rfl, Nat.le_of_ble_eq_true rfl⟩) (prw_V (q0 := 0) (ci := 3) (hP.sub (ws' := (wM cI cZ ad th N A R kw an nd wt B Hd O HL CO)) [0, 1, 2, 3, 4, 5, 6, 7, 8] rfl) (hD.sub (ws' := (wM cI cZ ad th N A R kw an nd wt B Hd O HL CO)) [0, 1, 2, 3, 4, 5, 6, 7, 8] (by decide) rfl) hK rfl rfl) rfl rfl hl.1 rfl (lv_room (Nat.le_of_ble_eq_true rfl)) dX3_labelSize_2 ⟨Nat.le_of_ble_eq_true rfl, Nat.le_of_ble_eq_true rfl⟩) hP hD hS hAp [0, 1, 2, 3, 4, 5, 6, 7, 8] [] rfl rfl (by decide) (by decide) (fun r_2 u_2 H locs hq_2 hP hD hS => ?_)
  obtain ⟨th9_2, HL9_2, CO9_2⟩ := u_2
  obtain ⟨rfl, hthp_2, hkn_2, -⟩ := hq_2
  have hthp_2 : th9_2 = tB (inR x0 N) := hthp_2
  have hkn_2 : knOK B Hd O R nd A HL9_2 CO9_2 := hkn_2
  have hP : va_P D vwCl (wM cI cZ ad th9_2 N A R true an nd wt B Hd O HL9_2 CO9_2) H := hP
  have hD : va_D Ap (wM cI cZ ad th9_2 N A R true an nd wt B Hd O HL9_2 CO9_2) := hD
  refine lv_if_eq (tgt := 17) hx hb dX3_labelSize_5 (by decide) (fun c_5 => ?_) (fun c_5 => ?_)
  · skip
    have c_5 := bI_eq0 c_5
    refine lv_iconst (v := 0) hx hb dX3_labelSize_17 (by decide) ?_
    exact mr_i (u := (th9_2, HL9_2, CO9_2, true)) hx hb hrt hlk dX3_labelSize_18 hS hP hD ⟨(hthp_2), (fun _ => hkn_2), (by intro h1; first | (rw [h1] at c_5; cases c_5; done) | exact congrArg nI (cnt_congr (lbJ hkn_2))), trivial⟩
  · skip
    have c_5 := bI_ne0 c_5
    refine lv_aload_n hx hb dX3_labelSize_8 rfl (lv_at hl 0 rfl) ?_
    refine lv_iconst (v := 0) hx hb dX3_labelSize_9 (by decide) ?_
    refine lv_iload_n hx hb dX3_labelSize_10 rfl (lv_at hl 1 rfl) ?_
    refine pu_i (va_runV (As := [.int (0), .int (x0)]) (rest := []) ⟨hx, hb, hml, hown, hts⟩ (c_X3_count_0 l D cI cZ ad (th9_2) (N) (A) (R) (true) (an) (nd) (wt) (B) (Hd) (O) (HL9_2) (CO9_2) (x0) (by omega)) (cwV 2 hts gX3_labelSize_X3_count rfl rfl rfl (by decide +kernel) ⟨Nat.le_of_ble_eq_true rfl, Nat.le_of_ble_eq_true rfl⟩) (pre_V (q0 := 0) (ci := 3) (hP.sub (ws' := (wM cI cZ ad th9_2 N A R true an nd wt B Hd O HL9_2 CO9_2)) [0, 1, 2, 3, 4, 5, 6, 7, 8] rfl) hK rfl rfl) rfl rfl hl.1 rfl (lv_room (Nat.le_of_ble_eq_true rfl)) dX3_labelSize_11 ⟨Nat.zero_le _, Nat.zero_le _⟩) ?_
    refine lv_goto (tgt := 18) hx hb dX3_labelSize_14 (by decide) ?_
    exact mr_i (u := (th9_2, HL9_2, CO9_2, true)) hx hb hrt hlk dX3_labelSize_18 hS hP hD ⟨(hthp_2), (fun _ => hkn_2), (by intro h1; first | (rw [h1] at c_5; cases c_5; done) | exact congrArg nI (cnt_congr (lbJ hkn_2))), trivial⟩
set_option maxHeartbeats 4000000 in
set_option maxRecDepth 100000 in
theorem c_X3_label (l : Launch) (D : va_G) (cI cZ : ClassId) (ad : Nat → Nat) (th : Int32) (N : Nat) (A : Nat) (R : Nat) (kw : Bool) (an : Nat → Int32) (nd : Nat → Int32) (wt : Nat → Int32) (B : Nat → Int32) (Hd : Nat → Int32) (O : Nat → Bool) (HL : Nat → Int32) (CO : Nat → Bool) (x0 : Int32) (y0 : Int32) (hA : A ≤ 9) (hR : R ≤ 40) (hn : N ≤ 24) (hH : okH N Hd R) (hN : okN N nd A) (hkw : kw = true → knOK B Hd O R nd A HL CO) (sz : Nat) : Met l yX3_label wsX3_label ({ frames := 4, cells := 0, slots := 0, locals := 94 }) (pcW D [(cI, .int), (cZ, .boolean)] sz (wM cI cZ ad th N A R kw an nd wt B Hd O HL CO) [.ref (ad 0), .int (x0), .int (y0)]) (va_Qi (fun (r9 : Int32) (u9 : (Int32) × (Nat → Int32) × (Nat → Bool) × (Bool)) => ((u9.1) = (if inR x0 N = true then (if nth (fun e => lbM (hdE B Hd O R nd A) (soE B Hd O R nd A) x0 e) (2 ^ A) y0 = -1 then 1 else 0) else 1)) ∧ ((u9.2.2.2) = true → knOK B Hd O R nd A (u9.2.1) (u9.2.2.1)) ∧ (inR x0 N = true → ¬ nth (fun e => lbM (hdE B Hd O R nd A) (soE B Hd O R nd A) x0 e) (2 ^ A) y0 = -1 → r9 = nth (fun e => lbM (hdE B Hd O R nd A) (soE B Hd O R nd A) x0 e) (2 ^ A) y0) ∧ (True)) (wB D (va_A (wM cI cZ ad th N A R kw an nd wt B Hd O HL CO) sz) (fun u9 : (Int32) × (Nat → Int32) × (Nat → Bool) × (Bool) => (wM cI cZ ad (u9.1) N A R (u9.2.2.2) an nd wt B Hd O (u9.2.1) (u9.2.2.1)))) (va_A (wM cI cZ ad th N A R kw an nd wt B Hd O HL CO) sz)) 0 0 (va_A (wM cI cZ ad th N A R kw an nd wt B Hd O HL CO) sz) := by
  refine Met.ofW (cc := cX3_label) (maxL := 4) (ret := (some .int)) (by decide) rfl ?_
  intro p e s m args below meth c s₁ BB hml hv
  obtain ⟨rfl, hsz, hP, hK, hD0⟩ := hv
  have hx := BB.exec
  have hb := BB.bytes
  have hrt := BB.returns
  have hts := atoms_spec (ws := wsX3_label) BB.pre
  have hown : s.vm.findClass RX3 = some m.cls := findClass_of_methodNamed BB.named
  have hlk := BB.notSynchronized
  subst hsz
  have hD := hD0.self (sz := s.heap.size)
  generalize hAe : va_A (wM cI cZ ad th N A R kw an nd wt B Hd O HL CO) s.heap.size = Ap at hD ⊢
  have hAp : ∀ q : Nat, s.heap.size ≤ q → Ap q := fun q h => by rw [← hAe]; exact Or.inr h
  have hS : va_S Ap s.heap s.heap [] := va_S.rf
  have hl := lv_entry ([.ref (ad 0), .int (x0), .int (y0)]) (n := 4) (Nat.le_of_ble_eq_true rfl)
  rw [lg_entry_eq]
  generalize (lg_sl ([.ref (ad 0), .int (x0), .int (y0)]) ++ List.replicate (4 - (lg_sl ([.ref (ad 0), .int (x0), .int (y0)])).length) Slot.unset).toArray = ls at hl ⊢
  have hl : lv_has ls 4 [(0, .ref (ad 0)), (1, .int (x0)), (2, .int (y0))] := hl
  have h512 : 2 ^ A ≤ 512 := pow9 hA
  have hpos : 0 < 2 ^ A := Nat.two_pow_pos A
  refine lv_aload_n hx hb dX3_label_0 rfl (lv_at hl 0 rfl) ?_
  refine lv_iload_n hx hb dX3_label_1 rfl (lv_at hl 1 rfl) ?_
  refine mu_i (wr := []) (va_runV (As := [.int (x0)]) (rest := []) ⟨hx, hb, hml, hown, hts⟩ (c_X3_asksNode l D cI cZ ad (th) (N) (A) (R) (kw) (an) (nd) (wt) (B) (Hd) (O) (HL) (CO) (x0) (by omega) (by omega) (hn) (hH) (hN) (hkw) (s.heap).size) (cwV 1 hts gX3_label_X3_asksNode rfl rfl rfl (by decide +kernel) ⟨Nat.le_of_ble_eq_true rfl, Nat.le_of_ble_eq_true rfl⟩) (prw_V (q0 := 0) (ci := 3) (hP.sub (ws' := (wM cI cZ ad th N A R kw an nd wt B Hd O HL CO)) [0, 1, 2, 3, 4, 5, 6, 7, 8] rfl) (hD.sub (ws' := (wM cI cZ ad th N A R kw an nd wt B Hd O HL CO)) [0, 1, 2, 3, 4, 5, 6, 7, 8] (by decide) rfl) hK rfl rfl) rfl rfl hl.1 rfl (lv_room (Nat.le_of_ble_eq_true rfl)) dX3_label_2 ⟨Nat.le_of_ble_eq_true rfl, Nat.le_of_ble_eq_true rfl⟩) hP hD hS hAp [0, 1, 2, 3, 4, 5, 6, 7, 8] [] rfl rfl (by decide) (by decide) (fun r_2 u_2 H locs hq_2 hP hD hS => ?_)
  obtain ⟨th9_2, HL9_2, CO9_2⟩ := u_2
  obtain ⟨rfl, hthp_2, hkn_2, -⟩ := hq_2
  have hthp_2 : th9_2 = tB (inR x0 N) := hthp_2
  have hkn_2 : knOK B Hd O R nd A HL9_2 CO9_2 := hkn_2
  have hP : va_P D vwCl (wM cI cZ ad th9_2 N A R true an nd wt B Hd O HL9_2 CO9_2) H := hP
  have hD : va_D Ap (wM cI cZ ad th9_2 N A R true an nd wt B Hd O HL9_2 CO9_2) := hD
  refine lv_if_ne (tgt := 10) hx hb dX3_label_5 (by decide) (fun c_5 => ?_) (fun c_5 => ?_)
  · skip
    have c_5 := bI_ne0 c_5
    refine lv_aload_n hx hb dX3_label_10 rfl (lv_at hl 0 rfl) ?_
    refine lv_iconst (v := 0) hx hb dX3_label_11 (by decide) ?_
    refine lv_iload_n hx hb dX3_label_12 rfl (lv_at hl 1 rfl) ?_
    refine lv_iload_n hx hb dX3_label_13 rfl (lv_at hl 2 rfl) ?_
    refine pu_i (va_runV (As := [.int (0), .int (x0), .int (y0)]) (rest := []) ⟨hx, hb, hml, hown, hts⟩ (c_X3_find_0 l D cI cZ ad (th9_2) (N) (A) (R) (true) (an) (nd) (wt) (B) (Hd) (O) (HL9_2) (CO9_2) (x0) (y0) (by omega)) (cwV 3 hts gX3_label_X3_find rfl rfl rfl (by decide +kernel) ⟨Nat.le_of_ble_eq_true rfl, Nat.le_of_ble_eq_true rfl⟩) (pre_V (q0 := 0) (ci := 3) (hP.sub (ws' := (wM cI cZ ad th9_2 N A R true an nd wt B Hd O HL9_2 CO9_2)) [0, 1, 2, 3, 4, 5, 6, 7, 8] rfl) hK rfl rfl) rfl rfl hl.1 rfl (lv_room (Nat.le_of_ble_eq_true rfl)) dX3_label_14 ⟨Nat.zero_le _, Nat.zero_le _⟩) ?_
    have hnth := nth_congr (q := y0) (lbJ (x := x0) hkn_2)
    refine lv_istore_n (lv' := [(3, .int (nth (fun e => lbM HL9_2 CO9_2 x0 e) (2 ^ A) y0)), (0, .ref (ad 0)), (1, .int (x0)), (2, .int (y0))]) hx hb dX3_label_17 rfl hl (by decide) rfl (fun ls hl => ?_)
    refine lv_iload_n hx hb dX3_label_18 rfl (lv_at hl 0 rfl) ?_
    refine lv_iconst (v := -1) hx hb dX3_label_19 (by decide) ?_
    refine lv_icmp_ne (tgt := 31) hx hb dX3_label_20 (by decide) (fun c_20 => ?_) (fun c_20 => ?_)
    · skip
      refine lv_iload_n hx hb dX3_label_31 rfl (lv_at hl 0 rfl) ?_
      exact mr_i (u := (th9_2, HL9_2, CO9_2, true)) hx hb hrt hlk dX3_label_32 hS hP hD ⟨(by first | (rw [c_5, if_pos rfl, if_pos (hnth.symm.trans c_20)]; done) | (rw [hthp_2, c_5, if_pos rfl, if_neg (fun h9 => c_20 (hnth.trans h9))]; rfl)), (fun _ => hkn_2), (fun _ h2 => by first | exact absurd (hnth.symm.trans c_20) h2 | exact hnth), trivial⟩
    · skip
      refine lv_aload_n hx hb dX3_label_23 rfl (lv_at hl 1 rfl) ?_
      refine lv_iconst (v := 1) hx hb dX3_label_24 (by decide) ?_
      refine mu_i (wr := []) (va_runV (As := [.int (1)]) (rest := []) ⟨hx, hb, hml, hown, hts⟩ (c_X3_no l D cI cZ ad (th9_2) (N) (A) (R) (true) (an) (nd) (wt) (B) (Hd) (O) (HL9_2) (CO9_2) (1)  (H).size) (cwV 1 hts gX3_label_X3_no rfl rfl rfl (by decide +kernel) ⟨Nat.le_of_ble_eq_true rfl, Nat.le_of_ble_eq_true rfl⟩) (prw_V (q0 := 0) (ci := 3) (hP.sub (ws' := (wM cI cZ ad th9_2 N A R true an nd wt B Hd O HL9_2 CO9_2)) [0, 1, 2, 3, 4, 5, 6, 7, 8] rfl) (hD.sub (ws' := (wM cI cZ ad th9_2 N A R true an nd wt B Hd O HL9_2 CO9_2)) [0, 1, 2, 3, 4, 5, 6, 7, 8] (by decide) rfl) hK rfl rfl) rfl rfl hl.1 rfl (lv_room (Nat.le_of_ble_eq_true rfl)) dX3_label_25 ⟨Nat.le_of_ble_eq_true rfl, Nat.le_of_ble_eq_true rfl⟩) hP hD hS hAp [0, 1, 2, 3, 4, 5, 6, 7, 8] [] rfl rfl (by decide) (by decide) (fun r_25 u_25 H locs hq_25 hP hD hS => ?_)
      obtain ⟨rfl, -⟩ := hq_25
      have hP : va_P D vwCl (wM cI cZ ad 1 N A R true an nd wt B Hd O HL9_2 CO9_2) H := hP
      have hD : va_D Ap (wM cI cZ ad 1 N A R true an nd wt B Hd O HL9_2 CO9_2) := hD
      refine lv_goto (tgt := 32) hx hb dX3_label_28 (by decide) ?_
      exact mr_i (u := (1, HL9_2, CO9_2, true)) hx hb hrt hlk dX3_label_32 hS hP hD ⟨(by first | (rw [c_5, if_pos rfl, if_pos (hnth.symm.trans c_20)]; done) | (rw [hthp_2, c_5, if_pos rfl, if_neg (fun h9 => c_20 (hnth.trans h9))]; rfl)), (fun _ => hkn_2), (fun _ h2 => by first | exact absurd (hnth.symm.trans c_20) h2 | exact hnth), trivial⟩
  · skip
    have c_5 := bI_eq0 c_5
    refine lv_iconst (v := 0) hx hb dX3_label_8 (by decide) ?_
    exact mr_i (u := (th9_2, HL9_2, CO9_2, true)) hx hb hrt hlk dX3_label_9 hS hP hD ⟨(by rw [hthp_2, c_5]; rfl), (fun _ => hkn_2), (fun h1 _ => by rw [h1] at c_5; cases c_5), trivial⟩
set_option maxHeartbeats 4000000 in
set_option maxRecDepth 100000 in
theorem c_X3_cheapest (l : Launch) (D : va_G) (cI cZ : ClassId) (ad : Nat → Nat) (th : Int32) (N : Nat) (A : Nat) (R : Nat) (kw : Bool) (an : Nat → Int32) (nd : Nat → Int32) (wt : Nat → Int32) (B : Nat → Int32) (Hd : Nat → Int32) (O : Nat → Bool) (HL : Nat → Int32) (CO : Nat → Bool) (x0 : Int32) (hA : A ≤ 9) (hR : R ≤ 40) (hn : N ≤ 24) (hH : okH N Hd R) (hN : okN N nd A) (hkw : kw = true → knOK B Hd O R nd A HL CO) (sz : Nat) : Met l yX3_cheapest wsX3_cheapest ({ frames := 4, cells := 0, slots := 0, locals := 89 }) (pcW D [(cI, .int), (cZ, .boolean)] sz (wM cI cZ ad th N A R kw an nd wt B Hd O HL CO) [.ref (ad 0), .int (x0)]) (va_Qi (fun (r9 : Int32) (u9 : (Int32) × (Nat → Int32) × (Nat → Bool) × (Bool)) => ((u9.1) = tB (inR x0 N)) ∧ ((u9.2.2.2) = true → knOK B Hd O R nd A (u9.2.1) (u9.2.2.1)) ∧ (inR x0 N = true → r9 = (chE (fun e => lbM (hdE B Hd O R nd A) (soE B Hd O R nd A) x0 e) wt A (2 ^ A)).1) ∧ (True)) (wB D (va_A (wM cI cZ ad th N A R kw an nd wt B Hd O HL CO) sz) (fun u9 : (Int32) × (Nat → Int32) × (Nat → Bool) × (Bool) => (wM cI cZ ad (u9.1) N A R (u9.2.2.2) an nd wt B Hd O (u9.2.1) (u9.2.2.1)))) (va_A (wM cI cZ ad th N A R kw an nd wt B Hd O HL CO) sz)) 0 0 (va_A (wM cI cZ ad th N A R kw an nd wt B Hd O HL CO) sz) := by
  refine Met.ofW (cc := cX3_cheapest) (maxL := 4) (ret := (some .int)) (by decide) rfl ?_
  intro p e s m args below meth c s₁ BB hml hv
  obtain ⟨rfl, hsz, hP, hK, hD0⟩ := hv
  have hx := BB.exec
  have hb := BB.bytes
  have hrt := BB.returns
  have hts := atoms_spec (ws := wsX3_cheapest) BB.pre
  have hown : s.vm.findClass RX3 = some m.cls := findClass_of_methodNamed BB.named
  have hlk := BB.notSynchronized
  subst hsz
  have hD := hD0.self (sz := s.heap.size)
  generalize hAe : va_A (wM cI cZ ad th N A R kw an nd wt B Hd O HL CO) s.heap.size = Ap at hD ⊢
  have hAp : ∀ q : Nat, s.heap.size ≤ q → Ap q := fun q h => by rw [← hAe]; exact Or.inr h
  have hS : va_S Ap s.heap s.heap [] := va_S.rf
  have f42 := hts (.fieldLink RX3 42 "AssumptionKeeperModel" "assumptions" "I") (by decide +kernel)
  have hin3 : ∀ w ∈ u_ws RX3 TX3 13, w ∈ wsX3_cheapest := by decide +kernel
  have hl := lv_entry ([.ref (ad 0), .int (x0)]) (n := 4) (Nat.le_of_ble_eq_true rfl)
  rw [lg_entry_eq]
  generalize (lg_sl ([.ref (ad 0), .int (x0)]) ++ List.replicate (4 - (lg_sl ([.ref (ad 0), .int (x0)])).length) Slot.unset).toArray = ls at hl ⊢
  have hl : lv_has ls 4 [(0, .ref (ad 0)), (1, .int (x0))] := hl
  have h512 : 2 ^ A ≤ 512 := pow9 hA
  have hpos : 0 < 2 ^ A := Nat.two_pow_pos A
  refine lv_aload_n hx hb dX3_cheapest_0 rfl (lv_at hl 0 rfl) ?_
  refine lv_iload_n hx hb dX3_cheapest_1 rfl (lv_at hl 1 rfl) ?_
  refine mu_i (wr := []) (va_runV (As := [.int (x0)]) (rest := []) ⟨hx, hb, hml, hown, hts⟩ (c_X3_asksNode l D cI cZ ad (th) (N) (A) (R) (kw) (an) (nd) (wt) (B) (Hd) (O) (HL) (CO) (x0) (by omega) (by omega) (hn) (hH) (hN) (hkw) (s.heap).size) (cwV 1 hts gX3_cheapest_X3_asksNode rfl rfl rfl (by decide +kernel) ⟨Nat.le_of_ble_eq_true rfl, Nat.le_of_ble_eq_true rfl⟩) (prw_V (q0 := 0) (ci := 3) (hP.sub (ws' := (wM cI cZ ad th N A R kw an nd wt B Hd O HL CO)) [0, 1, 2, 3, 4, 5, 6, 7, 8] rfl) (hD.sub (ws' := (wM cI cZ ad th N A R kw an nd wt B Hd O HL CO)) [0, 1, 2, 3, 4, 5, 6, 7, 8] (by decide) rfl) hK rfl rfl) rfl rfl hl.1 rfl (lv_room (Nat.le_of_ble_eq_true rfl)) dX3_cheapest_2 ⟨Nat.le_of_ble_eq_true rfl, Nat.le_of_ble_eq_true rfl⟩) hP hD hS hAp [0, 1, 2, 3, 4, 5, 6, 7, 8] [] rfl rfl (by decide) (by decide) (fun r_2 u_2 H locs hq_2 hP hD hS => ?_)
  obtain ⟨th9_2, HL9_2, CO9_2⟩ := u_2
  obtain ⟨rfl, hthp_2, hkn_2, -⟩ := hq_2
  have hthp_2 : th9_2 = tB (inR x0 N) := hthp_2
  have hkn_2 : knOK B Hd O R nd A HL9_2 CO9_2 := hkn_2
  have hP : va_P D vwCl (wM cI cZ ad th9_2 N A R true an nd wt B Hd O HL9_2 CO9_2) H := hP
  have hD : va_D Ap (wM cI cZ ad th9_2 N A R true an nd wt B Hd O HL9_2 CO9_2) := hD
  refine lv_if_ne (tgt := 10) hx hb dX3_cheapest_5 (by decide) (fun c_5 => ?_) (fun c_5 => ?_)
  · skip
    have c_5 := bI_ne0 c_5
    refine lv_iconst (v := -1) hx hb dX3_cheapest_10 (by decide) ?_
    refine lv_istore_n (lv' := [(2, .int (-1)), (0, .ref (ad 0)), (1, .int (x0))]) hx hb dX3_cheapest_11 rfl hl (by decide) rfl (fun ls hl => ?_)
    refine lv_iconst (v := nI (0)) hx hb dX3_cheapest_12 (by decide) ?_
    refine lv_istore_n (lv' := [(3, .int (nI (0))), (2, .int (-1)), (0, .ref (ad 0)), (1, .int (x0))]) hx hb dX3_cheapest_13 rfl hl (by decide) rfl (fun ls hl => ?_)
    have lp_14 : ∀ (n14 i : Nat) (v2 : Int32) (v3 : Int32), i ≤ 2 ^ A → 2 ^ A + 1 ≤ i + n14 → v2 = (chE (fun e => lbM HL9_2 CO9_2 x0 e) wt A i).1 → v3 = nI (i) → ∀ ls : Array Slot, lv_has ls 4 [(0, .ref (ad 0)), (1, .int (x0)), (2, .int (v2)), (3, .int (v3))] → W p l e (headSpec wsX3_cheapest ({ frames := 4, cells := 0, slots := 0, locals := 89 })).room s m ([.ref (ad 0), .int (x0)]).toArray below meth c H locs 0 0 (MQ below (va_Qi (fun (r9 : Int32) (u9 : (Int32) × (Nat → Int32) × (Nat → Bool) × (Bool)) => ((u9.1) = tB (inR x0 N)) ∧ ((u9.2.2.2) = true → knOK B Hd O R nd A (u9.2.1) (u9.2.2.1)) ∧ (inR x0 N = true → r9 = (chE (fun e => lbM (hdE B Hd O R nd A) (soE B Hd O R nd A) x0 e) wt A (2 ^ A)).1) ∧ (True)) (wB D Ap (fun u9 : (Int32) × (Nat → Int32) × (Nat → Bool) × (Bool) => (wM cI cZ ad (u9.1) N A R (u9.2.2.2) an nd wt B Hd O (u9.2.1) (u9.2.2.1)))) Ap) ([.ref (ad 0), .int (x0)]).toArray s 0 0 Ap) (F0 m 14 ls []) := by
      intro n14
      induction n14 with
      | zero => intro i v2 v3 h1 h2; exact absurd h2 (by omega)
      | succ n14 ih14 =>
        intro i v2 v3 hi14 hn14  e2 e3  ls hl
        subst e2 e3
        have hl : lv_has ls 4 [(0, .ref (ad 0)), (1, .int (x0)), (2, .int ((chE (fun e => lbM HL9_2 CO9_2 x0 e) wt A i).1)), (3, .int (nI (i)))] := hl
        refine lv_iload_n hx hb dX3_cheapest_14 rfl (lv_at hl 3 rfl) ?_
        refine lv_iconst (v := 1) hx hb dX3_cheapest_15 (by decide) ?_
        refine lv_aload_n hx hb dX3_cheapest_16 rfl (lv_at hl 0 rfl) ?_
        refine va_get (D := D) (ci := 3) (v := .int (nI (A))) (C := RX3) (T := TX3) (N := 13) hx hb hts hin3 hown hK.1 hP 0 rfl rfl 3 (by decide) f42 (fun _ h9 => h9) rfl dX3_cheapest_17 ?_
        refine lv_ishl hx hb dX3_cheapest_20 ?_
        rw [sh1_eq (by omega)]
        refine lv_icmp_ge (tgt := 59) hx hb dX3_cheapest_21 (by decide) (fun c_21 => ?_) (fun c_21 => ?_)
        · skip
          have c_21 := (qI_le (a := 2 ^ A) (b := i) (by omega) (by omega)).mp c_21
          refine lv_iload_n hx hb dX3_cheapest_59 rfl (lv_at hl 2 rfl) ?_
          exact mr_i (u := (th9_2, HL9_2, CO9_2, true)) hx hb hrt hlk dX3_cheapest_60 hS hP hD ⟨(hthp_2), (fun _ => hkn_2), (fun _ => by have hi9 : i = 2 ^ A := (by omega); rw [hi9]; exact congrArg Prod.fst (chE_congr (lbJ hkn_2))), trivial⟩
        · skip
          have c_21 := mt (qI_le (a := 2 ^ A) (b := i) (by omega) (by omega)).mpr c_21
          refine lv_aload_n hx hb dX3_cheapest_24 rfl (lv_at hl 0 rfl) ?_
          refine lv_iload_n hx hb dX3_cheapest_25 rfl (lv_at hl 1 rfl) ?_
          refine lv_iload_n hx hb dX3_cheapest_26 rfl (lv_at hl 3 rfl) ?_
          refine pu_i (va_runV (As := [.int (x0), .int (nI (i))]) (rest := []) ⟨hx, hb, hml, hown, hts⟩ (c_X3_isLabel l D cI cZ ad (th9_2) (N) (A) (R) (true) (an) (nd) (wt) (B) (Hd) (O) (HL9_2) (CO9_2) (x0) (i) (by omega)) (cwV 2 hts gX3_cheapest_X3_isLabel rfl rfl rfl (by decide +kernel) ⟨Nat.le_of_ble_eq_true rfl, Nat.le_of_ble_eq_true rfl⟩) (pre_V (q0 := 0) (ci := 3) (hP.sub (ws' := (wM cI cZ ad th9_2 N A R true an nd wt B Hd O HL9_2 CO9_2)) [0, 1, 2, 3, 4, 5, 6, 7, 8] rfl) hK rfl rfl) rfl rfl hl.1 rfl (lv_room (Nat.le_of_ble_eq_true rfl)) dX3_cheapest_27 ⟨Nat.zero_le _, Nat.zero_le _⟩) ?_
          refine lv_if_eq (tgt := 53) hx hb dX3_cheapest_30 (by decide) (fun c_30 => ?_) (fun c_30 => ?_)
          · skip
            have c_30 := bI_eq0 c_30
            refine lv_iinc (v := nI (i + 1)) (lv' := [(3, .int (nI (i + 1))), (0, .ref (ad 0)), (1, .int (x0)), (2, .int ((chE (fun e => lbM HL9_2 CO9_2 x0 e) wt A i).1))]) hx hb dX3_cheapest_53 hl (k := 3) rfl (nI_1 _) (by decide) rfl (fun ls hl => ?_)
            refine lv_goto (tgt := 14) hx hb dX3_cheapest_56 (by decide) ?_
            exact ih14 (i + 1) _ _  (by omega) (by omega)  (by first | exact ch_a c_30 | exact ch_b c_30 c_35 | exact ch_c (by omega) c_30 c_35 c_48 | exact ch_d (by omega) c_30 c_35 c_48) (by first | rfl | (simp [c_5, c_21, c_30]; done) | (simp only [c_5, c_21, c_30]; rfl) | (simp_all [c_5, c_21, c_30]; done))  ls (lv_sub hl [1, 2, 3, 0] rfl)
          · skip
            have c_30 := bI_ne0 c_30
            refine lv_iload_n hx hb dX3_cheapest_33 rfl (lv_at hl 2 rfl) ?_
            refine lv_iconst (v := -1) hx hb dX3_cheapest_34 (by decide) ?_
            refine lv_icmp_eq (tgt := 51) hx hb dX3_cheapest_35 (by decide) (fun c_35 => ?_) (fun c_35 => ?_)
            · skip
              refine lv_iload_n hx hb dX3_cheapest_51 rfl (lv_at hl 3 rfl) ?_
              refine lv_istore_n (lv' := [(2, .int (nI (i))), (0, .ref (ad 0)), (1, .int (x0)), (3, .int (nI (i)))]) hx hb dX3_cheapest_52 rfl hl (by decide) rfl (fun ls hl => ?_)
              refine lv_iinc (v := nI (i + 1)) (lv' := [(3, .int (nI (i + 1))), (2, .int (nI (i))), (0, .ref (ad 0)), (1, .int (x0))]) hx hb dX3_cheapest_53 hl (k := 3) rfl (nI_1 _) (by decide) rfl (fun ls hl => ?_)
              refine lv_goto (tgt := 14) hx hb dX3_cheapest_56 (by decide) ?_
              exact ih14 (i + 1) _ _  (by omega) (by omega)  (by first | exact ch_a c_30 | exact ch_b c_30 c_35 | exact ch_c (by omega) c_30 c_35 c_48 | exact ch_d (by omega) c_30 c_35 c_48) (by first | rfl | (simp [c_5, c_21, c_30, c_35]; done) | (simp only [c_5, c_21, c_30, c_35]; rfl) | (simp_all [c_5, c_21, c_30, c_35]; done))  ls (lv_sub hl [2, 3, 1, 0] rfl)
            · skip
              refine lv_aload_n hx hb dX3_cheapest_38 rfl (lv_at hl 0 rfl) ?_
              refine lv_iload_n hx hb dX3_cheapest_39 rfl (lv_at hl 3 rfl) ?_
              refine pu_i (va_runV (As := [.int (nI (i))]) (rest := []) ⟨hx, hb, hml, hown, hts⟩ (c_X3_costOf l D cI cZ ad (th9_2) (N) (A) (R) (true) (an) (nd) (wt) (B) (Hd) (O) (HL9_2) (CO9_2) (nI (i)) (by omega)) (cwV 1 hts gX3_cheapest_X3_costOf rfl rfl rfl (by decide +kernel) ⟨Nat.le_of_ble_eq_true rfl, Nat.le_of_ble_eq_true rfl⟩) (pre_V (q0 := 0) (ci := 3) (hP.sub (ws' := (wM cI cZ ad th9_2 N A R true an nd wt B Hd O HL9_2 CO9_2)) [0, 1, 2, 3, 4, 5, 6, 7, 8] rfl) hK rfl rfl) rfl rfl hl.1 rfl (lv_room (Nat.le_of_ble_eq_true rfl)) dX3_cheapest_40 ⟨Nat.zero_le _, Nat.zero_le _⟩) ?_
              refine lv_aload_n hx hb dX3_cheapest_43 rfl (lv_at hl 0 rfl) ?_
              refine lv_iload_n hx hb dX3_cheapest_44 rfl (lv_at hl 2 rfl) ?_
              refine pu_i (va_runV (As := [.int ((chE (fun e => lbM HL9_2 CO9_2 x0 e) wt A i).1)]) (rest := [.int (wo wt (nI (i)) A)]) ⟨hx, hb, hml, hown, hts⟩ (c_X3_costOf l D cI cZ ad (th9_2) (N) (A) (R) (true) (an) (nd) (wt) (B) (Hd) (O) (HL9_2) (CO9_2) ((chE (fun e => lbM HL9_2 CO9_2 x0 e) wt A i).1) (by omega)) (cwV 1 hts gX3_cheapest_X3_costOf rfl rfl rfl (by decide +kernel) ⟨Nat.le_of_ble_eq_true rfl, Nat.le_of_ble_eq_true rfl⟩) (pre_V (q0 := 0) (ci := 3) (hP.sub (ws' := (wM cI cZ ad th9_2 N A R true an nd wt B Hd O HL9_2 CO9_2)) [0, 1, 2, 3, 4, 5, 6, 7, 8] rfl) hK rfl rfl) rfl rfl hl.1 rfl (lv_room (Nat.le_of_ble_eq_true rfl)) dX3_cheapest_45 ⟨Nat.zero_le _, Nat.zero_le _⟩) ?_
              refine lv_icmp_ge (tgt := 53) hx hb dX3_cheapest_48 (by decide) (fun c_48 => ?_) (fun c_48 => ?_)
              · skip
                refine lv_iinc (v := nI (i + 1)) (lv' := [(3, .int (nI (i + 1))), (0, .ref (ad 0)), (1, .int (x0)), (2, .int ((chE (fun e => lbM HL9_2 CO9_2 x0 e) wt A i).1))]) hx hb dX3_cheapest_53 hl (k := 3) rfl (nI_1 _) (by decide) rfl (fun ls hl => ?_)
                refine lv_goto (tgt := 14) hx hb dX3_cheapest_56 (by decide) ?_
                exact ih14 (i + 1) _ _  (by omega) (by omega)  (by first | exact ch_a c_30 | exact ch_b c_30 c_35 | exact ch_c (by omega) c_30 c_35 c_48 | exact ch_d (by omega) c_30 c_35 c_48) (by first | rfl | (simp [c_5, c_21, c_30, c_35, c_48]; done) | (simp only [c_5, c_21, c_30, c_35, c_48]; rfl) | (simp_all [c_5, c_21, c_30, c_35, c_48]; done))  ls (lv_sub hl [1, 2, 3, 0] rfl)
              · skip
                refine lv_iload_n hx hb dX3_cheapest_51 rfl (lv_at hl 3 rfl) ?_
                refine lv_istore_n (lv' := [(2, .int (nI (i))), (0, .ref (ad 0)), (1, .int (x0)), (3, .int (nI (i)))]) hx hb dX3_cheapest_52 rfl hl (by decide) rfl (fun ls hl => ?_)
                refine lv_iinc (v := nI (i + 1)) (lv' := [(3, .int (nI (i + 1))), (2, .int (nI (i))), (0, .ref (ad 0)), (1, .int (x0))]) hx hb dX3_cheapest_53 hl (k := 3) rfl (nI_1 _) (by decide) rfl (fun ls hl => ?_)
                refine lv_goto (tgt := 14) hx hb dX3_cheapest_56 (by decide) ?_
                exact ih14 (i + 1) _ _  (by omega) (by omega)  (by first | exact ch_a c_30 | exact ch_b c_30 c_35 | exact ch_c (by omega) c_30 c_35 c_48 | exact ch_d (by omega) c_30 c_35 c_48) (by first | rfl | (simp [c_5, c_21, c_30, c_35, c_48]; done) | (simp only [c_5, c_21, c_30, c_35, c_48]; rfl) | (simp_all [c_5, c_21, c_30, c_35, c_48]; done))  ls (lv_sub hl [2, 3, 1, 0] rfl)
    exact lp_14 (2 ^ A + 1) (0) _ _  (by omega) (by omega)  (by first | rfl | (simp [c_5]; done) | (simp only [c_5]; rfl) | (simp_all [c_5]; done)) (by first | rfl | (simp [c_5]; done) | (simp only [c_5]; rfl) | (simp_all [c_5]; done))  ls (lv_sub hl [2, 3, 1, 0] rfl)
  · skip
    have c_5 := bI_eq0 c_5
    refine lv_iconst (v := 0) hx hb dX3_cheapest_8 (by decide) ?_
    exact mr_i (u := (th9_2, HL9_2, CO9_2, true)) hx hb hrt hlk dX3_cheapest_9 hS hP hD ⟨(hthp_2), (fun _ => hkn_2), (fun h1 => by rw [h1] at c_5; cases c_5), trivial⟩
set_option maxHeartbeats 4000000 in
set_option maxRecDepth 100000 in
theorem c_X3_needed (l : Launch) (D : va_G) (cI cZ : ClassId) (ad : Nat → Nat) (th : Int32) (N : Nat) (A : Nat) (R : Nat) (kw : Bool) (an : Nat → Int32) (nd : Nat → Int32) (wt : Nat → Int32) (B : Nat → Int32) (Hd : Nat → Int32) (O : Nat → Bool) (HL : Nat → Int32) (CO : Nat → Bool) (x0 : Int32) (hA : A ≤ 9) (hR : R ≤ 40) (hn : N ≤ 24) (hH : okH N Hd R) (hN : okN N nd A) (hkw : kw = true → knOK B Hd O R nd A HL CO) (sz : Nat) : Met l yX3_needed wsX3_needed ({ frames := 4, cells := 0, slots := 0, locals := 89 }) (pcW D [(cI, .int), (cZ, .boolean)] sz (wM cI cZ ad th N A R kw an nd wt B Hd O HL CO) [.ref (ad 0), .int (x0)]) (va_Qi (fun (r9 : Int32) (u9 : (Int32) × (Nat → Int32) × (Nat → Bool) × (Bool)) => ((u9.1) = tB (inR x0 N)) ∧ ((u9.2.2.2) = true → knOK B Hd O R nd A (u9.2.1) (u9.2.2.1)) ∧ (inR x0 N = true → r9 = ndE (fun e => lbM (hdE B Hd O R nd A) (soE B Hd O R nd A) x0 e) (nI (2 ^ A - 1)) (2 ^ A)) ∧ (True)) (wB D (va_A (wM cI cZ ad th N A R kw an nd wt B Hd O HL CO) sz) (fun u9 : (Int32) × (Nat → Int32) × (Nat → Bool) × (Bool) => (wM cI cZ ad (u9.1) N A R (u9.2.2.2) an nd wt B Hd O (u9.2.1) (u9.2.2.1)))) (va_A (wM cI cZ ad th N A R kw an nd wt B Hd O HL CO) sz)) 0 0 (va_A (wM cI cZ ad th N A R kw an nd wt B Hd O HL CO) sz) := by
  refine Met.ofW (cc := cX3_needed) (maxL := 4) (ret := (some .int)) (by decide) rfl ?_
  intro p e s m args below meth c s₁ BB hml hv
  obtain ⟨rfl, hsz, hP, hK, hD0⟩ := hv
  have hx := BB.exec
  have hb := BB.bytes
  have hrt := BB.returns
  have hts := atoms_spec (ws := wsX3_needed) BB.pre
  have hown : s.vm.findClass RX3 = some m.cls := findClass_of_methodNamed BB.named
  have hlk := BB.notSynchronized
  subst hsz
  have hD := hD0.self (sz := s.heap.size)
  generalize hAe : va_A (wM cI cZ ad th N A R kw an nd wt B Hd O HL CO) s.heap.size = Ap at hD ⊢
  have hAp : ∀ q : Nat, s.heap.size ≤ q → Ap q := fun q h => by rw [← hAe]; exact Or.inr h
  have hS : va_S Ap s.heap s.heap [] := va_S.rf
  have f42 := hts (.fieldLink RX3 42 "AssumptionKeeperModel" "assumptions" "I") (by decide +kernel)
  have hin3 : ∀ w ∈ u_ws RX3 TX3 13, w ∈ wsX3_needed := by decide +kernel
  have hl := lv_entry ([.ref (ad 0), .int (x0)]) (n := 4) (Nat.le_of_ble_eq_true rfl)
  rw [lg_entry_eq]
  generalize (lg_sl ([.ref (ad 0), .int (x0)]) ++ List.replicate (4 - (lg_sl ([.ref (ad 0), .int (x0)])).length) Slot.unset).toArray = ls at hl ⊢
  have hl : lv_has ls 4 [(0, .ref (ad 0)), (1, .int (x0))] := hl
  have h512 : 2 ^ A ≤ 512 := pow9 hA
  have hpos : 0 < 2 ^ A := Nat.two_pow_pos A
  refine lv_aload_n hx hb dX3_needed_0 rfl (lv_at hl 0 rfl) ?_
  refine lv_iload_n hx hb dX3_needed_1 rfl (lv_at hl 1 rfl) ?_
  refine mu_i (wr := []) (va_runV (As := [.int (x0)]) (rest := []) ⟨hx, hb, hml, hown, hts⟩ (c_X3_asksNode l D cI cZ ad (th) (N) (A) (R) (kw) (an) (nd) (wt) (B) (Hd) (O) (HL) (CO) (x0) (by omega) (by omega) (hn) (hH) (hN) (hkw) (s.heap).size) (cwV 1 hts gX3_needed_X3_asksNode rfl rfl rfl (by decide +kernel) ⟨Nat.le_of_ble_eq_true rfl, Nat.le_of_ble_eq_true rfl⟩) (prw_V (q0 := 0) (ci := 3) (hP.sub (ws' := (wM cI cZ ad th N A R kw an nd wt B Hd O HL CO)) [0, 1, 2, 3, 4, 5, 6, 7, 8] rfl) (hD.sub (ws' := (wM cI cZ ad th N A R kw an nd wt B Hd O HL CO)) [0, 1, 2, 3, 4, 5, 6, 7, 8] (by decide) rfl) hK rfl rfl) rfl rfl hl.1 rfl (lv_room (Nat.le_of_ble_eq_true rfl)) dX3_needed_2 ⟨Nat.le_of_ble_eq_true rfl, Nat.le_of_ble_eq_true rfl⟩) hP hD hS hAp [0, 1, 2, 3, 4, 5, 6, 7, 8] [] rfl rfl (by decide) (by decide) (fun r_2 u_2 H locs hq_2 hP hD hS => ?_)
  obtain ⟨th9_2, HL9_2, CO9_2⟩ := u_2
  obtain ⟨rfl, hthp_2, hkn_2, -⟩ := hq_2
  have hthp_2 : th9_2 = tB (inR x0 N) := hthp_2
  have hkn_2 : knOK B Hd O R nd A HL9_2 CO9_2 := hkn_2
  have hP : va_P D vwCl (wM cI cZ ad th9_2 N A R true an nd wt B Hd O HL9_2 CO9_2) H := hP
  have hD : va_D Ap (wM cI cZ ad th9_2 N A R true an nd wt B Hd O HL9_2 CO9_2) := hD
  refine lv_if_ne (tgt := 10) hx hb dX3_needed_5 (by decide) (fun c_5 => ?_) (fun c_5 => ?_)
  · skip
    have c_5 := bI_ne0 c_5
    refine lv_iconst (v := 1) hx hb dX3_needed_10 (by decide) ?_
    refine lv_aload_n hx hb dX3_needed_11 rfl (lv_at hl 0 rfl) ?_
    refine va_get (D := D) (ci := 3) (v := .int (nI (A))) (C := RX3) (T := TX3) (N := 13) hx hb hts hin3 hown hK.1 hP 0 rfl rfl 3 (by decide) f42 (fun _ h9 => h9) rfl dX3_needed_12 ?_
    refine lv_ishl hx hb dX3_needed_15 ?_
    rw [sh1_eq (by omega)]
    refine lv_iconst (v := 1) hx hb dX3_needed_16 (by decide) ?_
    refine lv_isub hx hb dX3_needed_17 ?_
    rw [nI_sub1 (by omega)]
    refine lv_istore_n (lv' := [(2, .int (nI ((2 ^ A) - 1))), (0, .ref (ad 0)), (1, .int (x0))]) hx hb dX3_needed_18 rfl hl (by decide) rfl (fun ls hl => ?_)
    refine lv_iconst (v := nI (0)) hx hb dX3_needed_19 (by decide) ?_
    refine lv_istore_n (lv' := [(3, .int (nI (0))), (2, .int (nI ((2 ^ A) - 1))), (0, .ref (ad 0)), (1, .int (x0))]) hx hb dX3_needed_20 rfl hl (by decide) rfl (fun ls hl => ?_)
    have lp_21 : ∀ (n21 i : Nat) (v2 : Int32) (v3 : Int32), i ≤ 2 ^ A → 2 ^ A + 1 ≤ i + n21 → v2 = ndE (fun e => lbM HL9_2 CO9_2 x0 e) (nI (2 ^ A - 1)) i → v3 = nI (i) → ∀ ls : Array Slot, lv_has ls 4 [(0, .ref (ad 0)), (1, .int (x0)), (2, .int (v2)), (3, .int (v3))] → W p l e (headSpec wsX3_needed ({ frames := 4, cells := 0, slots := 0, locals := 89 })).room s m ([.ref (ad 0), .int (x0)]).toArray below meth c H locs 0 0 (MQ below (va_Qi (fun (r9 : Int32) (u9 : (Int32) × (Nat → Int32) × (Nat → Bool) × (Bool)) => ((u9.1) = tB (inR x0 N)) ∧ ((u9.2.2.2) = true → knOK B Hd O R nd A (u9.2.1) (u9.2.2.1)) ∧ (inR x0 N = true → r9 = ndE (fun e => lbM (hdE B Hd O R nd A) (soE B Hd O R nd A) x0 e) (nI (2 ^ A - 1)) (2 ^ A)) ∧ (True)) (wB D Ap (fun u9 : (Int32) × (Nat → Int32) × (Nat → Bool) × (Bool) => (wM cI cZ ad (u9.1) N A R (u9.2.2.2) an nd wt B Hd O (u9.2.1) (u9.2.2.1)))) Ap) ([.ref (ad 0), .int (x0)]).toArray s 0 0 Ap) (F0 m 21 ls []) := by
      intro n21
      induction n21 with
      | zero => intro i v2 v3 h1 h2; exact absurd h2 (by omega)
      | succ n21 ih21 =>
        intro i v2 v3 hi21 hn21  e2 e3  ls hl
        subst e2 e3
        have hl : lv_has ls 4 [(0, .ref (ad 0)), (1, .int (x0)), (2, .int (ndE (fun e => lbM HL9_2 CO9_2 x0 e) (nI (2 ^ A - 1)) i)), (3, .int (nI (i)))] := hl
        refine lv_iload_n hx hb dX3_needed_21 rfl (lv_at hl 3 rfl) ?_
        refine lv_iconst (v := 1) hx hb dX3_needed_22 (by decide) ?_
        refine lv_aload_n hx hb dX3_needed_23 rfl (lv_at hl 0 rfl) ?_
        refine va_get (D := D) (ci := 3) (v := .int (nI (A))) (C := RX3) (T := TX3) (N := 13) hx hb hts hin3 hown hK.1 hP 0 rfl rfl 3 (by decide) f42 (fun _ h9 => h9) rfl dX3_needed_24 ?_
        refine lv_ishl hx hb dX3_needed_27 ?_
        rw [sh1_eq (by omega)]
        refine lv_icmp_ge (tgt := 50) hx hb dX3_needed_28 (by decide) (fun c_28 => ?_) (fun c_28 => ?_)
        · skip
          have c_28 := (qI_le (a := 2 ^ A) (b := i) (by omega) (by omega)).mp c_28
          refine lv_iload_n hx hb dX3_needed_50 rfl (lv_at hl 2 rfl) ?_
          exact mr_i (u := (th9_2, HL9_2, CO9_2, true)) hx hb hrt hlk dX3_needed_51 hS hP hD ⟨(hthp_2), (fun _ => hkn_2), (fun _ => by have hi9 : i = 2 ^ A := (by omega); rw [hi9]; exact ndE_congr (lbJ hkn_2)), trivial⟩
        · skip
          have c_28 := mt (qI_le (a := 2 ^ A) (b := i) (by omega) (by omega)).mpr c_28
          refine lv_aload_n hx hb dX3_needed_31 rfl (lv_at hl 0 rfl) ?_
          refine lv_iload_n hx hb dX3_needed_32 rfl (lv_at hl 1 rfl) ?_
          refine lv_iload_n hx hb dX3_needed_33 rfl (lv_at hl 3 rfl) ?_
          refine pu_i (va_runV (As := [.int (x0), .int (nI (i))]) (rest := []) ⟨hx, hb, hml, hown, hts⟩ (c_X3_isLabel l D cI cZ ad (th9_2) (N) (A) (R) (true) (an) (nd) (wt) (B) (Hd) (O) (HL9_2) (CO9_2) (x0) (i) (by omega)) (cwV 2 hts gX3_needed_X3_isLabel rfl rfl rfl (by decide +kernel) ⟨Nat.le_of_ble_eq_true rfl, Nat.le_of_ble_eq_true rfl⟩) (pre_V (q0 := 0) (ci := 3) (hP.sub (ws' := (wM cI cZ ad th9_2 N A R true an nd wt B Hd O HL9_2 CO9_2)) [0, 1, 2, 3, 4, 5, 6, 7, 8] rfl) hK rfl rfl) rfl rfl hl.1 rfl (lv_room (Nat.le_of_ble_eq_true rfl)) dX3_needed_34 ⟨Nat.zero_le _, Nat.zero_le _⟩) ?_
          refine lv_if_eq (tgt := 44) hx hb dX3_needed_37 (by decide) (fun c_37 => ?_) (fun c_37 => ?_)
          · skip
            have c_37 := bI_eq0 c_37
            refine lv_iinc (v := nI (i + 1)) (lv' := [(3, .int (nI (i + 1))), (0, .ref (ad 0)), (1, .int (x0)), (2, .int (ndE (fun e => lbM HL9_2 CO9_2 x0 e) (nI (2 ^ A - 1)) i))]) hx hb dX3_needed_44 hl (k := 3) rfl (nI_1 _) (by decide) rfl (fun ls hl => ?_)
            refine lv_goto (tgt := 21) hx hb dX3_needed_47 (by decide) ?_
            exact ih21 (i + 1) _ _  (by omega) (by omega)  (by first | rfl | (simp [ndE, c_5, c_28, c_37]; done) | (simp only [ndE, c_5, c_28, c_37]; rfl) | (simp_all [ndE, c_5, c_28, c_37]; done)) (by first | rfl | (simp [ndE, c_5, c_28, c_37]; done) | (simp only [ndE, c_5, c_28, c_37]; rfl) | (simp_all [ndE, c_5, c_28, c_37]; done))  ls (lv_sub hl [1, 2, 3, 0] rfl)
          · skip
            have c_37 := bI_ne0 c_37
            refine lv_iload_n hx hb dX3_needed_40 rfl (lv_at hl 2 rfl) ?_
            refine lv_iload_n hx hb dX3_needed_41 rfl (lv_at hl 3 rfl) ?_
            refine lv_iand hx hb dX3_needed_42 ?_
            refine lv_istore_n (lv' := [(2, .int ((ndE (fun e => lbM HL9_2 CO9_2 x0 e) (nI (2 ^ A - 1)) i) &&& (nI (i)))), (0, .ref (ad 0)), (1, .int (x0)), (3, .int (nI (i)))]) hx hb dX3_needed_43 rfl hl (by decide) rfl (fun ls hl => ?_)
            refine lv_iinc (v := nI (i + 1)) (lv' := [(3, .int (nI (i + 1))), (2, .int ((ndE (fun e => lbM HL9_2 CO9_2 x0 e) (nI (2 ^ A - 1)) i) &&& (nI (i)))), (0, .ref (ad 0)), (1, .int (x0))]) hx hb dX3_needed_44 hl (k := 3) rfl (nI_1 _) (by decide) rfl (fun ls hl => ?_)
            refine lv_goto (tgt := 21) hx hb dX3_needed_47 (by decide) ?_
            exact ih21 (i + 1) _ _  (by omega) (by omega)  (by first | rfl | (simp [ndE, c_5, c_28, c_37]; done) | (simp only [ndE, c_5, c_28, c_37]; rfl) | (simp_all [ndE, c_5, c_28, c_37]; done)) (by first | rfl | (simp [ndE, c_5, c_28, c_37]; done) | (simp only [ndE, c_5, c_28, c_37]; rfl) | (simp_all [ndE, c_5, c_28, c_37]; done))  ls (lv_sub hl [2, 3, 1, 0] rfl)
    exact lp_21 (2 ^ A + 1) (0) _ _  (by omega) (by omega)  (by first | rfl | (simp [ndE, c_5]; done) | (simp only [ndE, c_5]; rfl) | (simp_all [ndE, c_5]; done)) (by first | rfl | (simp [ndE, c_5]; done) | (simp only [ndE, c_5]; rfl) | (simp_all [ndE, c_5]; done))  ls (lv_sub hl [2, 3, 1, 0] rfl)
  · skip
    have c_5 := bI_eq0 c_5
    refine lv_iconst (v := 0) hx hb dX3_needed_8 (by decide) ?_
    exact mr_i (u := (th9_2, HL9_2, CO9_2, true)) hx hb hrt hlk dX3_needed_9 hS hP hD ⟨(hthp_2), (fun _ => hkn_2), (fun h1 => by rw [h1] at c_5; cases c_5), trivial⟩
set_option maxHeartbeats 4000000 in
set_option maxRecDepth 100000 in
theorem c_X3_useful (l : Launch) (D : va_G) (cI cZ : ClassId) (ad : Nat → Nat) (th : Int32) (N : Nat) (A : Nat) (R : Nat) (kw : Bool) (an : Nat → Int32) (nd : Nat → Int32) (wt : Nat → Int32) (B : Nat → Int32) (Hd : Nat → Int32) (O : Nat → Bool) (HL : Nat → Int32) (CO : Nat → Bool) (x0 : Int32) (hA : A ≤ 9) (hR : R ≤ 40) (hn : N ≤ 24) (hH : okH N Hd R) (hN : okN N nd A) (hkw : kw = true → knOK B Hd O R nd A HL CO) (sz : Nat) : Met l yX3_useful wsX3_useful ({ frames := 4, cells := 0, slots := 0, locals := 89 }) (pcW D [(cI, .int), (cZ, .boolean)] sz (wM cI cZ ad th N A R kw an nd wt B Hd O HL CO) [.ref (ad 0), .int (x0)]) (va_Qi (fun (r9 : Int32) (u9 : (Int32) × (Nat → Int32) × (Nat → Bool) × (Bool)) => ((u9.1) = tB (inR x0 N)) ∧ ((u9.2.2.2) = true → knOK B Hd O R nd A (u9.2.1) (u9.2.2.1)) ∧ (inR x0 N = true → r9 = usE (fun e => lbM (hdE B Hd O R nd A) (soE B Hd O R nd A) x0 e) (2 ^ A)) ∧ (True)) (wB D (va_A (wM cI cZ ad th N A R kw an nd wt B Hd O HL CO) sz) (fun u9 : (Int32) × (Nat → Int32) × (Nat → Bool) × (Bool) => (wM cI cZ ad (u9.1) N A R (u9.2.2.2) an nd wt B Hd O (u9.2.1) (u9.2.2.1)))) (va_A (wM cI cZ ad th N A R kw an nd wt B Hd O HL CO) sz)) 0 0 (va_A (wM cI cZ ad th N A R kw an nd wt B Hd O HL CO) sz) := by
  refine Met.ofW (cc := cX3_useful) (maxL := 4) (ret := (some .int)) (by decide) rfl ?_
  intro p e s m args below meth c s₁ BB hml hv
  obtain ⟨rfl, hsz, hP, hK, hD0⟩ := hv
  have hx := BB.exec
  have hb := BB.bytes
  have hrt := BB.returns
  have hts := atoms_spec (ws := wsX3_useful) BB.pre
  have hown : s.vm.findClass RX3 = some m.cls := findClass_of_methodNamed BB.named
  have hlk := BB.notSynchronized
  subst hsz
  have hD := hD0.self (sz := s.heap.size)
  generalize hAe : va_A (wM cI cZ ad th N A R kw an nd wt B Hd O HL CO) s.heap.size = Ap at hD ⊢
  have hAp : ∀ q : Nat, s.heap.size ≤ q → Ap q := fun q h => by rw [← hAe]; exact Or.inr h
  have hS : va_S Ap s.heap s.heap [] := va_S.rf
  have f42 := hts (.fieldLink RX3 42 "AssumptionKeeperModel" "assumptions" "I") (by decide +kernel)
  have hin3 : ∀ w ∈ u_ws RX3 TX3 13, w ∈ wsX3_useful := by decide +kernel
  have hl := lv_entry ([.ref (ad 0), .int (x0)]) (n := 4) (Nat.le_of_ble_eq_true rfl)
  rw [lg_entry_eq]
  generalize (lg_sl ([.ref (ad 0), .int (x0)]) ++ List.replicate (4 - (lg_sl ([.ref (ad 0), .int (x0)])).length) Slot.unset).toArray = ls at hl ⊢
  have hl : lv_has ls 4 [(0, .ref (ad 0)), (1, .int (x0))] := hl
  have h512 : 2 ^ A ≤ 512 := pow9 hA
  have hpos : 0 < 2 ^ A := Nat.two_pow_pos A
  refine lv_aload_n hx hb dX3_useful_0 rfl (lv_at hl 0 rfl) ?_
  refine lv_iload_n hx hb dX3_useful_1 rfl (lv_at hl 1 rfl) ?_
  refine mu_i (wr := []) (va_runV (As := [.int (x0)]) (rest := []) ⟨hx, hb, hml, hown, hts⟩ (c_X3_asksNode l D cI cZ ad (th) (N) (A) (R) (kw) (an) (nd) (wt) (B) (Hd) (O) (HL) (CO) (x0) (by omega) (by omega) (hn) (hH) (hN) (hkw) (s.heap).size) (cwV 1 hts gX3_useful_X3_asksNode rfl rfl rfl (by decide +kernel) ⟨Nat.le_of_ble_eq_true rfl, Nat.le_of_ble_eq_true rfl⟩) (prw_V (q0 := 0) (ci := 3) (hP.sub (ws' := (wM cI cZ ad th N A R kw an nd wt B Hd O HL CO)) [0, 1, 2, 3, 4, 5, 6, 7, 8] rfl) (hD.sub (ws' := (wM cI cZ ad th N A R kw an nd wt B Hd O HL CO)) [0, 1, 2, 3, 4, 5, 6, 7, 8] (by decide) rfl) hK rfl rfl) rfl rfl hl.1 rfl (lv_room (Nat.le_of_ble_eq_true rfl)) dX3_useful_2 ⟨Nat.le_of_ble_eq_true rfl, Nat.le_of_ble_eq_true rfl⟩) hP hD hS hAp [0, 1, 2, 3, 4, 5, 6, 7, 8] [] rfl rfl (by decide) (by decide) (fun r_2 u_2 H locs hq_2 hP hD hS => ?_)
  obtain ⟨th9_2, HL9_2, CO9_2⟩ := u_2
  obtain ⟨rfl, hthp_2, hkn_2, -⟩ := hq_2
  have hthp_2 : th9_2 = tB (inR x0 N) := hthp_2
  have hkn_2 : knOK B Hd O R nd A HL9_2 CO9_2 := hkn_2
  have hP : va_P D vwCl (wM cI cZ ad th9_2 N A R true an nd wt B Hd O HL9_2 CO9_2) H := hP
  have hD : va_D Ap (wM cI cZ ad th9_2 N A R true an nd wt B Hd O HL9_2 CO9_2) := hD
  refine lv_if_ne (tgt := 10) hx hb dX3_useful_5 (by decide) (fun c_5 => ?_) (fun c_5 => ?_)
  · skip
    have c_5 := bI_ne0 c_5
    refine lv_iconst (v := nI (0)) hx hb dX3_useful_10 (by decide) ?_
    refine lv_istore_n (lv' := [(2, .int (nI (0))), (0, .ref (ad 0)), (1, .int (x0))]) hx hb dX3_useful_11 rfl hl (by decide) rfl (fun ls hl => ?_)
    refine lv_iconst (v := nI (0)) hx hb dX3_useful_12 (by decide) ?_
    refine lv_istore_n (lv' := [(3, .int (nI (0))), (2, .int (nI (0))), (0, .ref (ad 0)), (1, .int (x0))]) hx hb dX3_useful_13 rfl hl (by decide) rfl (fun ls hl => ?_)
    have lp_14 : ∀ (n14 i : Nat) (v2 : Int32) (v3 : Int32), i ≤ 2 ^ A → 2 ^ A + 1 ≤ i + n14 → v2 = usE (fun e => lbM HL9_2 CO9_2 x0 e) i → v3 = nI (i) → ∀ ls : Array Slot, lv_has ls 4 [(0, .ref (ad 0)), (1, .int (x0)), (2, .int (v2)), (3, .int (v3))] → W p l e (headSpec wsX3_useful ({ frames := 4, cells := 0, slots := 0, locals := 89 })).room s m ([.ref (ad 0), .int (x0)]).toArray below meth c H locs 0 0 (MQ below (va_Qi (fun (r9 : Int32) (u9 : (Int32) × (Nat → Int32) × (Nat → Bool) × (Bool)) => ((u9.1) = tB (inR x0 N)) ∧ ((u9.2.2.2) = true → knOK B Hd O R nd A (u9.2.1) (u9.2.2.1)) ∧ (inR x0 N = true → r9 = usE (fun e => lbM (hdE B Hd O R nd A) (soE B Hd O R nd A) x0 e) (2 ^ A)) ∧ (True)) (wB D Ap (fun u9 : (Int32) × (Nat → Int32) × (Nat → Bool) × (Bool) => (wM cI cZ ad (u9.1) N A R (u9.2.2.2) an nd wt B Hd O (u9.2.1) (u9.2.2.1)))) Ap) ([.ref (ad 0), .int (x0)]).toArray s 0 0 Ap) (F0 m 14 ls []) := by
      intro n14
      induction n14 with
      | zero => intro i v2 v3 h1 h2; exact absurd h2 (by omega)
      | succ n14 ih14 =>
        intro i v2 v3 hi14 hn14  e2 e3  ls hl
        subst e2 e3
        have hl : lv_has ls 4 [(0, .ref (ad 0)), (1, .int (x0)), (2, .int (usE (fun e => lbM HL9_2 CO9_2 x0 e) i)), (3, .int (nI (i)))] := hl
        refine lv_iload_n hx hb dX3_useful_14 rfl (lv_at hl 3 rfl) ?_
        refine lv_iconst (v := 1) hx hb dX3_useful_15 (by decide) ?_
        refine lv_aload_n hx hb dX3_useful_16 rfl (lv_at hl 0 rfl) ?_
        refine va_get (D := D) (ci := 3) (v := .int (nI (A))) (C := RX3) (T := TX3) (N := 13) hx hb hts hin3 hown hK.1 hP 0 rfl rfl 3 (by decide) f42 (fun _ h9 => h9) rfl dX3_useful_17 ?_
        refine lv_ishl hx hb dX3_useful_20 ?_
        rw [sh1_eq (by omega)]
        refine lv_icmp_ge (tgt := 43) hx hb dX3_useful_21 (by decide) (fun c_21 => ?_) (fun c_21 => ?_)
        · skip
          have c_21 := (qI_le (a := 2 ^ A) (b := i) (by omega) (by omega)).mp c_21
          refine lv_iload_n hx hb dX3_useful_43 rfl (lv_at hl 2 rfl) ?_
          exact mr_i (u := (th9_2, HL9_2, CO9_2, true)) hx hb hrt hlk dX3_useful_44 hS hP hD ⟨(hthp_2), (fun _ => hkn_2), (fun _ => by have hi9 : i = 2 ^ A := (by omega); rw [hi9]; exact usE_congr (lbJ hkn_2)), trivial⟩
        · skip
          have c_21 := mt (qI_le (a := 2 ^ A) (b := i) (by omega) (by omega)).mpr c_21
          refine lv_aload_n hx hb dX3_useful_24 rfl (lv_at hl 0 rfl) ?_
          refine lv_iload_n hx hb dX3_useful_25 rfl (lv_at hl 1 rfl) ?_
          refine lv_iload_n hx hb dX3_useful_26 rfl (lv_at hl 3 rfl) ?_
          refine pu_i (va_runV (As := [.int (x0), .int (nI (i))]) (rest := []) ⟨hx, hb, hml, hown, hts⟩ (c_X3_isLabel l D cI cZ ad (th9_2) (N) (A) (R) (true) (an) (nd) (wt) (B) (Hd) (O) (HL9_2) (CO9_2) (x0) (i) (by omega)) (cwV 2 hts gX3_useful_X3_isLabel rfl rfl rfl (by decide +kernel) ⟨Nat.le_of_ble_eq_true rfl, Nat.le_of_ble_eq_true rfl⟩) (pre_V (q0 := 0) (ci := 3) (hP.sub (ws' := (wM cI cZ ad th9_2 N A R true an nd wt B Hd O HL9_2 CO9_2)) [0, 1, 2, 3, 4, 5, 6, 7, 8] rfl) hK rfl rfl) rfl rfl hl.1 rfl (lv_room (Nat.le_of_ble_eq_true rfl)) dX3_useful_27 ⟨Nat.zero_le _, Nat.zero_le _⟩) ?_
          refine lv_if_eq (tgt := 37) hx hb dX3_useful_30 (by decide) (fun c_30 => ?_) (fun c_30 => ?_)
          · skip
            have c_30 := bI_eq0 c_30
            refine lv_iinc (v := nI (i + 1)) (lv' := [(3, .int (nI (i + 1))), (0, .ref (ad 0)), (1, .int (x0)), (2, .int (usE (fun e => lbM HL9_2 CO9_2 x0 e) i))]) hx hb dX3_useful_37 hl (k := 3) rfl (nI_1 _) (by decide) rfl (fun ls hl => ?_)
            refine lv_goto (tgt := 14) hx hb dX3_useful_40 (by decide) ?_
            exact ih14 (i + 1) _ _  (by omega) (by omega)  (by first | rfl | (simp [usE, c_5, c_21, c_30]; done) | (simp only [usE, c_5, c_21, c_30]; rfl) | (simp_all [usE, c_5, c_21, c_30]; done)) (by first | rfl | (simp [usE, c_5, c_21, c_30]; done) | (simp only [usE, c_5, c_21, c_30]; rfl) | (simp_all [usE, c_5, c_21, c_30]; done))  ls (lv_sub hl [1, 2, 3, 0] rfl)
          · skip
            have c_30 := bI_ne0 c_30
            refine lv_iload_n hx hb dX3_useful_33 rfl (lv_at hl 2 rfl) ?_
            refine lv_iload_n hx hb dX3_useful_34 rfl (lv_at hl 3 rfl) ?_
            refine lv_ior hx hb dX3_useful_35 ?_
            refine lv_istore_n (lv' := [(2, .int ((usE (fun e => lbM HL9_2 CO9_2 x0 e) i) ||| (nI (i)))), (0, .ref (ad 0)), (1, .int (x0)), (3, .int (nI (i)))]) hx hb dX3_useful_36 rfl hl (by decide) rfl (fun ls hl => ?_)
            refine lv_iinc (v := nI (i + 1)) (lv' := [(3, .int (nI (i + 1))), (2, .int ((usE (fun e => lbM HL9_2 CO9_2 x0 e) i) ||| (nI (i)))), (0, .ref (ad 0)), (1, .int (x0))]) hx hb dX3_useful_37 hl (k := 3) rfl (nI_1 _) (by decide) rfl (fun ls hl => ?_)
            refine lv_goto (tgt := 14) hx hb dX3_useful_40 (by decide) ?_
            exact ih14 (i + 1) _ _  (by omega) (by omega)  (by first | rfl | (simp [usE, c_5, c_21, c_30]; done) | (simp only [usE, c_5, c_21, c_30]; rfl) | (simp_all [usE, c_5, c_21, c_30]; done)) (by first | rfl | (simp [usE, c_5, c_21, c_30]; done) | (simp only [usE, c_5, c_21, c_30]; rfl) | (simp_all [usE, c_5, c_21, c_30]; done))  ls (lv_sub hl [2, 3, 1, 0] rfl)
    exact lp_14 (2 ^ A + 1) (0) _ _  (by omega) (by omega)  (by first | rfl | (simp [usE, c_5]; done) | (simp only [usE, c_5]; rfl) | (simp_all [usE, c_5]; done)) (by first | rfl | (simp [usE, c_5]; done) | (simp only [usE, c_5]; rfl) | (simp_all [usE, c_5]; done))  ls (lv_sub hl [2, 3, 1, 0] rfl)
  · skip
    have c_5 := bI_eq0 c_5
    refine lv_iconst (v := 0) hx hb dX3_useful_8 (by decide) ?_
    exact mr_i (u := (th9_2, HL9_2, CO9_2, true)) hx hb hrt hlk dX3_useful_9 hS hP hD ⟨(hthp_2), (fun _ => hkn_2), (fun h1 => by rw [h1] at c_5; cases c_5), trivial⟩
set_option maxHeartbeats 4000000 in
set_option maxRecDepth 100000 in
theorem c_X3_nogoodCount (l : Launch) (D : va_G) (cI cZ : ClassId) (ad : Nat → Nat) (th : Int32) (N : Nat) (A : Nat) (R : Nat) (kw : Bool) (an : Nat → Int32) (nd : Nat → Int32) (wt : Nat → Int32) (B : Nat → Int32) (Hd : Nat → Int32) (O : Nat → Bool) (HL : Nat → Int32) (CO : Nat → Bool) (hA : A ≤ 9) (hR : R ≤ 40) (hn : N ≤ 24) (hH : okH N Hd R) (hN : okN N nd A) (hkw : kw = true → knOK B Hd O R nd A HL CO) (sz : Nat) : Met l yX3_nogoodCount wsX3_nogoodCount ({ frames := 3, cells := 0, slots := 0, locals := 68 }) (pcW D [(cI, .int), (cZ, .boolean)] sz (wM cI cZ ad th N A R kw an nd wt B Hd O HL CO) [.ref (ad 0)]) (va_Qi (fun (r9 : Int32) (u9 : (Nat → Int32) × (Nat → Bool)) => (r9 = nI (cnt (fun e => ngM (soE B Hd O R nd A) e) (2 ^ A))) ∧ (knOK B Hd O R nd A (u9.1) (u9.2)) ∧ (True)) (wB D (va_A (wM cI cZ ad th N A R kw an nd wt B Hd O HL CO) sz) (fun u9 : (Nat → Int32) × (Nat → Bool) => (wM cI cZ ad 0 N A R true an nd wt B Hd O (u9.1) (u9.2)))) (va_A (wM cI cZ ad th N A R kw an nd wt B Hd O HL CO) sz)) 0 0 (va_A (wM cI cZ ad th N A R kw an nd wt B Hd O HL CO) sz) := by
  refine Met.ofW (cc := cX3_nogoodCount) (maxL := 1) (ret := (some .int)) (by decide) rfl ?_
  intro p e s m args below meth c s₁ BB hml hv
  obtain ⟨rfl, hsz, hP, hK, hD0⟩ := hv
  have hx := BB.exec
  have hb := BB.bytes
  have hrt := BB.returns
  have hts := atoms_spec (ws := wsX3_nogoodCount) BB.pre
  have hown : s.vm.findClass RX3 = some m.cls := findClass_of_methodNamed BB.named
  have hlk := BB.notSynchronized
  subst hsz
  have hD := hD0.self (sz := s.heap.size)
  generalize hAe : va_A (wM cI cZ ad th N A R kw an nd wt B Hd O HL CO) s.heap.size = Ap at hD ⊢
  have hAp : ∀ q : Nat, s.heap.size ≤ q → Ap q := fun q h => by rw [← hAe]; exact Or.inr h
  have hS : va_S Ap s.heap s.heap [] := va_S.rf
  have f35 := hts (.fieldLink RX3 35 "AssumptionKeeperModel" "thrown" "I") (by decide +kernel)
  have hin3 : ∀ w ∈ u_ws RX3 TX3 13, w ∈ wsX3_nogoodCount := by decide +kernel
  have hl := lv_entry ([.ref (ad 0)]) (n := 1) (Nat.le_of_ble_eq_true rfl)
  rw [lg_entry_eq]
  generalize (lg_sl ([.ref (ad 0)]) ++ List.replicate (1 - (lg_sl ([.ref (ad 0)])).length) Slot.unset).toArray = ls at hl ⊢
  have hl : lv_has ls 1 [(0, .ref (ad 0))] := hl
  refine lv_aload_n hx hb dX3_nogoodCount_0 rfl (lv_at hl 0 rfl) ?_
  refine lv_iconst (v := 0) hx hb dX3_nogoodCount_1 (by decide) ?_
  refine va_put (D := D) (ci := 3) (v := .int (0)) (ty := .int) (C := RX3) (T := TX3) (N := 13) hx hb hts hin3 tyX3 tyX3_ok nmX3 hown hK.1 hP hD hS 0 rfl rfl 0 (by decide) f35 (fun _ h9 => h9) rfl (by decide +kernel) rfl rfl (Nat.le_of_ble_eq_true rfl) dX3_nogoodCount_2 (fun H locs hP hD hS => ?_)
  have hP : va_P D vwCl (wM cI cZ ad 0 N A R kw an nd wt B Hd O HL CO) H := hP
  have hD : va_D Ap (wM cI cZ ad 0 N A R kw an nd wt B Hd O HL CO) := hD
  refine lv_aload_n hx hb dX3_nogoodCount_5 rfl (lv_at hl 0 rfl) ?_
  refine mu_v (wr := []) (va_runV (As := []) (rest := []) ⟨hx, hb, hml, hown, hts⟩ (c_X3_know l D cI cZ ad (0) (N) (A) (R) (kw) (an) (nd) (wt) (B) (Hd) (O) (HL) (CO) (by omega) (by omega) (hn) (hH) (hN) (hkw) (H).size) (cwV 0 hts gX3_nogoodCount_X3_know rfl rfl rfl (by decide +kernel) ⟨Nat.le_of_ble_eq_true rfl, Nat.le_of_ble_eq_true rfl⟩) (prw_V (q0 := 0) (ci := 3) (hP.sub (ws' := (wM cI cZ ad 0 N A R kw an nd wt B Hd O HL CO)) [0, 1, 2, 3, 4, 5, 6, 7, 8] rfl) (hD.sub (ws' := (wM cI cZ ad 0 N A R kw an nd wt B Hd O HL CO)) [0, 1, 2, 3, 4, 5, 6, 7, 8] (by decide) rfl) hK rfl rfl) rfl rfl hl.1 rfl (lv_room (Nat.le_of_ble_eq_true rfl)) dX3_nogoodCount_6 ⟨Nat.le_of_ble_eq_true rfl, Nat.le_of_ble_eq_true rfl⟩) hP hD hS hAp [0, 1, 2, 3, 4, 5, 6, 7, 8] [] rfl rfl (by decide) (by decide) (fun u_6 H locs hq_6 hP hD hS => ?_)
  obtain ⟨HL9_6, CO9_6⟩ := u_6
  obtain ⟨hkn_6, -⟩ := hq_6
  have hkn_6 : knOK B Hd O R nd A HL9_6 CO9_6 := hkn_6
  have hP : va_P D vwCl (wM cI cZ ad 0 N A R true an nd wt B Hd O HL9_6 CO9_6) H := hP
  have hD : va_D Ap (wM cI cZ ad 0 N A R true an nd wt B Hd O HL9_6 CO9_6) := hD
  refine lv_aload_n hx hb dX3_nogoodCount_9 rfl (lv_at hl 0 rfl) ?_
  refine lv_iconst (v := 1) hx hb dX3_nogoodCount_10 (by decide) ?_
  refine lv_iconst (v := 0) hx hb dX3_nogoodCount_11 (by decide) ?_
  refine pu_i (va_runV (As := [.int (1), .int (0)]) (rest := []) ⟨hx, hb, hml, hown, hts⟩ (c_X3_count_1 l D cI cZ ad (0) (N) (A) (R) (true) (an) (nd) (wt) (B) (Hd) (O) (HL9_6) (CO9_6) (0) (by omega)) (cwV 2 hts gX3_nogoodCount_X3_count rfl rfl rfl (by decide +kernel) ⟨Nat.le_of_ble_eq_true rfl, Nat.le_of_ble_eq_true rfl⟩) (pre_V (q0 := 0) (ci := 3) (hP.sub (ws' := (wM cI cZ ad 0 N A R true an nd wt B Hd O HL9_6 CO9_6)) [0, 1, 2, 3, 4, 5, 6, 7, 8] rfl) hK rfl rfl) rfl rfl hl.1 rfl (lv_room (Nat.le_of_ble_eq_true rfl)) dX3_nogoodCount_12 ⟨Nat.zero_le _, Nat.zero_le _⟩) ?_
  exact mr_i (u := (HL9_6, CO9_6)) hx hb hrt hlk dX3_nogoodCount_15 hS hP hD ⟨(congrArg nI (cnt_congr (ngJ hkn_6))), (hkn_6), trivial⟩
set_option maxHeartbeats 4000000 in
set_option maxRecDepth 100000 in
theorem c_X3_worldCount (l : Launch) (D : va_G) (cI cZ : ClassId) (ad : Nat → Nat) (th : Int32) (N : Nat) (A : Nat) (R : Nat) (kw : Bool) (an : Nat → Int32) (nd : Nat → Int32) (wt : Nat → Int32) (B : Nat → Int32) (Hd : Nat → Int32) (O : Nat → Bool) (HL : Nat → Int32) (CO : Nat → Bool) (hA : A ≤ 9) (hR : R ≤ 40) (hn : N ≤ 24) (hH : okH N Hd R) (hN : okN N nd A) (hkw : kw = true → knOK B Hd O R nd A HL CO) (sz : Nat) : Met l yX3_worldCount wsX3_worldCount ({ frames := 3, cells := 0, slots := 0, locals := 68 }) (pcW D [(cI, .int), (cZ, .boolean)] sz (wM cI cZ ad th N A R kw an nd wt B Hd O HL CO) [.ref (ad 0)]) (va_Qi (fun (r9 : Int32) (u9 : (Nat → Int32) × (Nat → Bool)) => (r9 = nI (cnt (fun e => woM A (soE B Hd O R nd A) e) (2 ^ A))) ∧ (knOK B Hd O R nd A (u9.1) (u9.2)) ∧ (True)) (wB D (va_A (wM cI cZ ad th N A R kw an nd wt B Hd O HL CO) sz) (fun u9 : (Nat → Int32) × (Nat → Bool) => (wM cI cZ ad 0 N A R true an nd wt B Hd O (u9.1) (u9.2)))) (va_A (wM cI cZ ad th N A R kw an nd wt B Hd O HL CO) sz)) 0 0 (va_A (wM cI cZ ad th N A R kw an nd wt B Hd O HL CO) sz) := by
  refine Met.ofW (cc := cX3_worldCount) (maxL := 1) (ret := (some .int)) (by decide) rfl ?_
  intro p e s m args below meth c s₁ BB hml hv
  obtain ⟨rfl, hsz, hP, hK, hD0⟩ := hv
  have hx := BB.exec
  have hb := BB.bytes
  have hrt := BB.returns
  have hts := atoms_spec (ws := wsX3_worldCount) BB.pre
  have hown : s.vm.findClass RX3 = some m.cls := findClass_of_methodNamed BB.named
  have hlk := BB.notSynchronized
  subst hsz
  have hD := hD0.self (sz := s.heap.size)
  generalize hAe : va_A (wM cI cZ ad th N A R kw an nd wt B Hd O HL CO) s.heap.size = Ap at hD ⊢
  have hAp : ∀ q : Nat, s.heap.size ≤ q → Ap q := fun q h => by rw [← hAe]; exact Or.inr h
  have hS : va_S Ap s.heap s.heap [] := va_S.rf
  have f35 := hts (.fieldLink RX3 35 "AssumptionKeeperModel" "thrown" "I") (by decide +kernel)
  have hin3 : ∀ w ∈ u_ws RX3 TX3 13, w ∈ wsX3_worldCount := by decide +kernel
  have hl := lv_entry ([.ref (ad 0)]) (n := 1) (Nat.le_of_ble_eq_true rfl)
  rw [lg_entry_eq]
  generalize (lg_sl ([.ref (ad 0)]) ++ List.replicate (1 - (lg_sl ([.ref (ad 0)])).length) Slot.unset).toArray = ls at hl ⊢
  have hl : lv_has ls 1 [(0, .ref (ad 0))] := hl
  refine lv_aload_n hx hb dX3_worldCount_0 rfl (lv_at hl 0 rfl) ?_
  refine lv_iconst (v := 0) hx hb dX3_worldCount_1 (by decide) ?_
  refine va_put (D := D) (ci := 3) (v := .int (0)) (ty := .int) (C := RX3) (T := TX3) (N := 13) hx hb hts hin3 tyX3 tyX3_ok nmX3 hown hK.1 hP hD hS 0 rfl rfl 0 (by decide) f35 (fun _ h9 => h9) rfl (by decide +kernel) rfl rfl (Nat.le_of_ble_eq_true rfl) dX3_worldCount_2 (fun H locs hP hD hS => ?_)
  have hP : va_P D vwCl (wM cI cZ ad 0 N A R kw an nd wt B Hd O HL CO) H := hP
  have hD : va_D Ap (wM cI cZ ad 0 N A R kw an nd wt B Hd O HL CO) := hD
  refine lv_aload_n hx hb dX3_worldCount_5 rfl (lv_at hl 0 rfl) ?_
  refine mu_v (wr := []) (va_runV (As := []) (rest := []) ⟨hx, hb, hml, hown, hts⟩ (c_X3_know l D cI cZ ad (0) (N) (A) (R) (kw) (an) (nd) (wt) (B) (Hd) (O) (HL) (CO) (by omega) (by omega) (hn) (hH) (hN) (hkw) (H).size) (cwV 0 hts gX3_worldCount_X3_know rfl rfl rfl (by decide +kernel) ⟨Nat.le_of_ble_eq_true rfl, Nat.le_of_ble_eq_true rfl⟩) (prw_V (q0 := 0) (ci := 3) (hP.sub (ws' := (wM cI cZ ad 0 N A R kw an nd wt B Hd O HL CO)) [0, 1, 2, 3, 4, 5, 6, 7, 8] rfl) (hD.sub (ws' := (wM cI cZ ad 0 N A R kw an nd wt B Hd O HL CO)) [0, 1, 2, 3, 4, 5, 6, 7, 8] (by decide) rfl) hK rfl rfl) rfl rfl hl.1 rfl (lv_room (Nat.le_of_ble_eq_true rfl)) dX3_worldCount_6 ⟨Nat.le_of_ble_eq_true rfl, Nat.le_of_ble_eq_true rfl⟩) hP hD hS hAp [0, 1, 2, 3, 4, 5, 6, 7, 8] [] rfl rfl (by decide) (by decide) (fun u_6 H locs hq_6 hP hD hS => ?_)
  obtain ⟨HL9_6, CO9_6⟩ := u_6
  obtain ⟨hkn_6, -⟩ := hq_6
  have hkn_6 : knOK B Hd O R nd A HL9_6 CO9_6 := hkn_6
  have hP : va_P D vwCl (wM cI cZ ad 0 N A R true an nd wt B Hd O HL9_6 CO9_6) H := hP
  have hD : va_D Ap (wM cI cZ ad 0 N A R true an nd wt B Hd O HL9_6 CO9_6) := hD
  refine lv_aload_n hx hb dX3_worldCount_9 rfl (lv_at hl 0 rfl) ?_
  refine lv_iconst (v := 2) hx hb dX3_worldCount_10 (by decide) ?_
  refine lv_iconst (v := 0) hx hb dX3_worldCount_11 (by decide) ?_
  refine pu_i (va_runV (As := [.int (2), .int (0)]) (rest := []) ⟨hx, hb, hml, hown, hts⟩ (c_X3_count_2 l D cI cZ ad (0) (N) (A) (R) (true) (an) (nd) (wt) (B) (Hd) (O) (HL9_6) (CO9_6) (0) (by omega)) (cwV 2 hts gX3_worldCount_X3_count rfl rfl rfl (by decide +kernel) ⟨Nat.le_of_ble_eq_true rfl, Nat.le_of_ble_eq_true rfl⟩) (pre_V (q0 := 0) (ci := 3) (hP.sub (ws' := (wM cI cZ ad 0 N A R true an nd wt B Hd O HL9_6 CO9_6)) [0, 1, 2, 3, 4, 5, 6, 7, 8] rfl) hK rfl rfl) rfl rfl hl.1 rfl (lv_room (Nat.le_of_ble_eq_true rfl)) dX3_worldCount_12 ⟨Nat.zero_le _, Nat.zero_le _⟩) ?_
  exact mr_i (u := (HL9_6, CO9_6)) hx hb hrt hlk dX3_worldCount_15 hS hP hD ⟨(congrArg nI (cnt_congr (woJ hkn_6))), (hkn_6), trivial⟩
set_option maxHeartbeats 4000000 in
set_option maxRecDepth 100000 in
theorem c_X3_nogood (l : Launch) (D : va_G) (cI cZ : ClassId) (ad : Nat → Nat) (th : Int32) (N : Nat) (A : Nat) (R : Nat) (kw : Bool) (an : Nat → Int32) (nd : Nat → Int32) (wt : Nat → Int32) (B : Nat → Int32) (Hd : Nat → Int32) (O : Nat → Bool) (HL : Nat → Int32) (CO : Nat → Bool) (x0 : Int32) (hA : A ≤ 9) (hR : R ≤ 40) (hn : N ≤ 24) (hH : okH N Hd R) (hN : okN N nd A) (hkw : kw = true → knOK B Hd O R nd A HL CO) (sz : Nat) : Met l yX3_nogood wsX3_nogood ({ frames := 3, cells := 0, slots := 0, locals := 70 }) (pcW D [(cI, .int), (cZ, .boolean)] sz (wM cI cZ ad th N A R kw an nd wt B Hd O HL CO) [.ref (ad 0), .int (x0)]) (va_Qi (fun (r9 : Int32) (u9 : (Int32) × (Nat → Int32) × (Nat → Bool)) => ((u9.1) = (if nth (fun e => ngM (soE B Hd O R nd A) e) (2 ^ A) x0 = -1 then 1 else 0)) ∧ (knOK B Hd O R nd A (u9.2.1) (u9.2.2)) ∧ (¬ nth (fun e => ngM (soE B Hd O R nd A) e) (2 ^ A) x0 = -1 → r9 = nth (fun e => ngM (soE B Hd O R nd A) e) (2 ^ A) x0) ∧ (True)) (wB D (va_A (wM cI cZ ad th N A R kw an nd wt B Hd O HL CO) sz) (fun u9 : (Int32) × (Nat → Int32) × (Nat → Bool) => (wM cI cZ ad (u9.1) N A R true an nd wt B Hd O (u9.2.1) (u9.2.2)))) (va_A (wM cI cZ ad th N A R kw an nd wt B Hd O HL CO) sz)) 0 0 (va_A (wM cI cZ ad th N A R kw an nd wt B Hd O HL CO) sz) := by
  refine Met.ofW (cc := cX3_nogood) (maxL := 3) (ret := (some .int)) (by decide) rfl ?_
  intro p e s m args below meth c s₁ BB hml hv
  obtain ⟨rfl, hsz, hP, hK, hD0⟩ := hv
  have hx := BB.exec
  have hb := BB.bytes
  have hrt := BB.returns
  have hts := atoms_spec (ws := wsX3_nogood) BB.pre
  have hown : s.vm.findClass RX3 = some m.cls := findClass_of_methodNamed BB.named
  have hlk := BB.notSynchronized
  subst hsz
  have hD := hD0.self (sz := s.heap.size)
  generalize hAe : va_A (wM cI cZ ad th N A R kw an nd wt B Hd O HL CO) s.heap.size = Ap at hD ⊢
  have hAp : ∀ q : Nat, s.heap.size ≤ q → Ap q := fun q h => by rw [← hAe]; exact Or.inr h
  have hS : va_S Ap s.heap s.heap [] := va_S.rf
  have f35 := hts (.fieldLink RX3 35 "AssumptionKeeperModel" "thrown" "I") (by decide +kernel)
  have hin3 : ∀ w ∈ u_ws RX3 TX3 13, w ∈ wsX3_nogood := by decide +kernel
  have hl := lv_entry ([.ref (ad 0), .int (x0)]) (n := 3) (Nat.le_of_ble_eq_true rfl)
  rw [lg_entry_eq]
  generalize (lg_sl ([.ref (ad 0), .int (x0)]) ++ List.replicate (3 - (lg_sl ([.ref (ad 0), .int (x0)])).length) Slot.unset).toArray = ls at hl ⊢
  have hl : lv_has ls 3 [(0, .ref (ad 0)), (1, .int (x0))] := hl
  refine lv_aload_n hx hb dX3_nogood_0 rfl (lv_at hl 0 rfl) ?_
  refine lv_iconst (v := 0) hx hb dX3_nogood_1 (by decide) ?_
  refine va_put (D := D) (ci := 3) (v := .int (0)) (ty := .int) (C := RX3) (T := TX3) (N := 13) hx hb hts hin3 tyX3 tyX3_ok nmX3 hown hK.1 hP hD hS 0 rfl rfl 0 (by decide) f35 (fun _ h9 => h9) rfl (by decide +kernel) rfl rfl (Nat.le_of_ble_eq_true rfl) dX3_nogood_2 (fun H locs hP hD hS => ?_)
  have hP : va_P D vwCl (wM cI cZ ad 0 N A R kw an nd wt B Hd O HL CO) H := hP
  have hD : va_D Ap (wM cI cZ ad 0 N A R kw an nd wt B Hd O HL CO) := hD
  refine lv_aload_n hx hb dX3_nogood_5 rfl (lv_at hl 0 rfl) ?_
  refine mu_v (wr := []) (va_runV (As := []) (rest := []) ⟨hx, hb, hml, hown, hts⟩ (c_X3_know l D cI cZ ad (0) (N) (A) (R) (kw) (an) (nd) (wt) (B) (Hd) (O) (HL) (CO) (by omega) (by omega) (hn) (hH) (hN) (hkw) (H).size) (cwV 0 hts gX3_nogood_X3_know rfl rfl rfl (by decide +kernel) ⟨Nat.le_of_ble_eq_true rfl, Nat.le_of_ble_eq_true rfl⟩) (prw_V (q0 := 0) (ci := 3) (hP.sub (ws' := (wM cI cZ ad 0 N A R kw an nd wt B Hd O HL CO)) [0, 1, 2, 3, 4, 5, 6, 7, 8] rfl) (hD.sub (ws' := (wM cI cZ ad 0 N A R kw an nd wt B Hd O HL CO)) [0, 1, 2, 3, 4, 5, 6, 7, 8] (by decide) rfl) hK rfl rfl) rfl rfl hl.1 rfl (lv_room (Nat.le_of_ble_eq_true rfl)) dX3_nogood_6 ⟨Nat.le_of_ble_eq_true rfl, Nat.le_of_ble_eq_true rfl⟩) hP hD hS hAp [0, 1, 2, 3, 4, 5, 6, 7, 8] [] rfl rfl (by decide) (by decide) (fun u_6 H locs hq_6 hP hD hS => ?_)
  obtain ⟨HL9_6, CO9_6⟩ := u_6
  obtain ⟨hkn_6, -⟩ := hq_6
  have hkn_6 : knOK B Hd O R nd A HL9_6 CO9_6 := hkn_6
  have hP : va_P D vwCl (wM cI cZ ad 0 N A R true an nd wt B Hd O HL9_6 CO9_6) H := hP
  have hD : va_D Ap (wM cI cZ ad 0 N A R true an nd wt B Hd O HL9_6 CO9_6) := hD
  refine lv_aload_n hx hb dX3_nogood_9 rfl (lv_at hl 0 rfl) ?_
  refine lv_iconst (v := 1) hx hb dX3_nogood_10 (by decide) ?_
  refine lv_iconst (v := 0) hx hb dX3_nogood_11 (by decide) ?_
  refine lv_iload_n hx hb dX3_nogood_12 rfl (lv_at hl 1 rfl) ?_
  refine pu_i (va_runV (As := [.int (1), .int (0), .int (x0)]) (rest := []) ⟨hx, hb, hml, hown, hts⟩ (c_X3_find_1 l D cI cZ ad (0) (N) (A) (R) (true) (an) (nd) (wt) (B) (Hd) (O) (HL9_6) (CO9_6) (0) (x0) (by omega)) (cwV 3 hts gX3_nogood_X3_find rfl rfl rfl (by decide +kernel) ⟨Nat.le_of_ble_eq_true rfl, Nat.le_of_ble_eq_true rfl⟩) (pre_V (q0 := 0) (ci := 3) (hP.sub (ws' := (wM cI cZ ad 0 N A R true an nd wt B Hd O HL9_6 CO9_6)) [0, 1, 2, 3, 4, 5, 6, 7, 8] rfl) hK rfl rfl) rfl rfl hl.1 rfl (lv_room (Nat.le_of_ble_eq_true rfl)) dX3_nogood_13 ⟨Nat.zero_le _, Nat.zero_le _⟩) ?_
  have hnth := nth_congr (q := x0) (ngJ hkn_6)
  refine lv_istore_n (lv' := [(2, .int (nth (fun e => ngM CO9_6 e) (2 ^ A) x0)), (0, .ref (ad 0)), (1, .int (x0))]) hx hb dX3_nogood_16 rfl hl (by decide) rfl (fun ls hl => ?_)
  refine lv_iload_n hx hb dX3_nogood_17 rfl (lv_at hl 0 rfl) ?_
  refine lv_iconst (v := -1) hx hb dX3_nogood_18 (by decide) ?_
  refine lv_icmp_ne (tgt := 30) hx hb dX3_nogood_19 (by decide) (fun c_19 => ?_) (fun c_19 => ?_)
  · skip
    refine lv_iload_n hx hb dX3_nogood_30 rfl (lv_at hl 0 rfl) ?_
    exact mr_i (u := (0, HL9_6, CO9_6)) hx hb hrt hlk dX3_nogood_31 hS hP hD ⟨(by first | (rw [if_pos (hnth.symm.trans c_19)]; done) | (rw [if_neg (fun h9 => c_19 (hnth.trans h9))]; done)), (hkn_6), (fun h2 => by first | exact absurd (hnth.symm.trans c_19) h2 | exact hnth), trivial⟩
  · skip
    refine lv_aload_n hx hb dX3_nogood_22 rfl (lv_at hl 1 rfl) ?_
    refine lv_iconst (v := 1) hx hb dX3_nogood_23 (by decide) ?_
    refine mu_i (wr := []) (va_runV (As := [.int (1)]) (rest := []) ⟨hx, hb, hml, hown, hts⟩ (c_X3_no l D cI cZ ad (0) (N) (A) (R) (true) (an) (nd) (wt) (B) (Hd) (O) (HL9_6) (CO9_6) (1)  (H).size) (cwV 1 hts gX3_nogood_X3_no rfl rfl rfl (by decide +kernel) ⟨Nat.le_of_ble_eq_true rfl, Nat.le_of_ble_eq_true rfl⟩) (prw_V (q0 := 0) (ci := 3) (hP.sub (ws' := (wM cI cZ ad 0 N A R true an nd wt B Hd O HL9_6 CO9_6)) [0, 1, 2, 3, 4, 5, 6, 7, 8] rfl) (hD.sub (ws' := (wM cI cZ ad 0 N A R true an nd wt B Hd O HL9_6 CO9_6)) [0, 1, 2, 3, 4, 5, 6, 7, 8] (by decide) rfl) hK rfl rfl) rfl rfl hl.1 rfl (lv_room (Nat.le_of_ble_eq_true rfl)) dX3_nogood_24 ⟨Nat.le_of_ble_eq_true rfl, Nat.le_of_ble_eq_true rfl⟩) hP hD hS hAp [0, 1, 2, 3, 4, 5, 6, 7, 8] [] rfl rfl (by decide) (by decide) (fun r_24 u_24 H locs hq_24 hP hD hS => ?_)
    obtain ⟨rfl, -⟩ := hq_24
    have hP : va_P D vwCl (wM cI cZ ad 1 N A R true an nd wt B Hd O HL9_6 CO9_6) H := hP
    have hD : va_D Ap (wM cI cZ ad 1 N A R true an nd wt B Hd O HL9_6 CO9_6) := hD
    refine lv_goto (tgt := 31) hx hb dX3_nogood_27 (by decide) ?_
    exact mr_i (u := (1, HL9_6, CO9_6)) hx hb hrt hlk dX3_nogood_31 hS hP hD ⟨(by first | (rw [if_pos (hnth.symm.trans c_19)]; done) | (rw [if_neg (fun h9 => c_19 (hnth.trans h9))]; done)), (hkn_6), (fun h2 => by first | exact absurd (hnth.symm.trans c_19) h2 | exact hnth), trivial⟩
set_option maxHeartbeats 4000000 in
set_option maxRecDepth 100000 in
theorem c_X3_world (l : Launch) (D : va_G) (cI cZ : ClassId) (ad : Nat → Nat) (th : Int32) (N : Nat) (A : Nat) (R : Nat) (kw : Bool) (an : Nat → Int32) (nd : Nat → Int32) (wt : Nat → Int32) (B : Nat → Int32) (Hd : Nat → Int32) (O : Nat → Bool) (HL : Nat → Int32) (CO : Nat → Bool) (x0 : Int32) (hA : A ≤ 9) (hR : R ≤ 40) (hn : N ≤ 24) (hH : okH N Hd R) (hN : okN N nd A) (hkw : kw = true → knOK B Hd O R nd A HL CO) (sz : Nat) : Met l yX3_world wsX3_world ({ frames := 3, cells := 0, slots := 0, locals := 70 }) (pcW D [(cI, .int), (cZ, .boolean)] sz (wM cI cZ ad th N A R kw an nd wt B Hd O HL CO) [.ref (ad 0), .int (x0)]) (va_Qi (fun (r9 : Int32) (u9 : (Int32) × (Nat → Int32) × (Nat → Bool)) => ((u9.1) = (if nth (fun e => woM A (soE B Hd O R nd A) e) (2 ^ A) x0 = -1 then 1 else 0)) ∧ (knOK B Hd O R nd A (u9.2.1) (u9.2.2)) ∧ (¬ nth (fun e => woM A (soE B Hd O R nd A) e) (2 ^ A) x0 = -1 → r9 = nth (fun e => woM A (soE B Hd O R nd A) e) (2 ^ A) x0) ∧ (True)) (wB D (va_A (wM cI cZ ad th N A R kw an nd wt B Hd O HL CO) sz) (fun u9 : (Int32) × (Nat → Int32) × (Nat → Bool) => (wM cI cZ ad (u9.1) N A R true an nd wt B Hd O (u9.2.1) (u9.2.2)))) (va_A (wM cI cZ ad th N A R kw an nd wt B Hd O HL CO) sz)) 0 0 (va_A (wM cI cZ ad th N A R kw an nd wt B Hd O HL CO) sz) := by
  refine Met.ofW (cc := cX3_world) (maxL := 3) (ret := (some .int)) (by decide) rfl ?_
  intro p e s m args below meth c s₁ BB hml hv
  obtain ⟨rfl, hsz, hP, hK, hD0⟩ := hv
  have hx := BB.exec
  have hb := BB.bytes
  have hrt := BB.returns
  have hts := atoms_spec (ws := wsX3_world) BB.pre
  have hown : s.vm.findClass RX3 = some m.cls := findClass_of_methodNamed BB.named
  have hlk := BB.notSynchronized
  subst hsz
  have hD := hD0.self (sz := s.heap.size)
  generalize hAe : va_A (wM cI cZ ad th N A R kw an nd wt B Hd O HL CO) s.heap.size = Ap at hD ⊢
  have hAp : ∀ q : Nat, s.heap.size ≤ q → Ap q := fun q h => by rw [← hAe]; exact Or.inr h
  have hS : va_S Ap s.heap s.heap [] := va_S.rf
  have f35 := hts (.fieldLink RX3 35 "AssumptionKeeperModel" "thrown" "I") (by decide +kernel)
  have hin3 : ∀ w ∈ u_ws RX3 TX3 13, w ∈ wsX3_world := by decide +kernel
  have hl := lv_entry ([.ref (ad 0), .int (x0)]) (n := 3) (Nat.le_of_ble_eq_true rfl)
  rw [lg_entry_eq]
  generalize (lg_sl ([.ref (ad 0), .int (x0)]) ++ List.replicate (3 - (lg_sl ([.ref (ad 0), .int (x0)])).length) Slot.unset).toArray = ls at hl ⊢
  have hl : lv_has ls 3 [(0, .ref (ad 0)), (1, .int (x0))] := hl
  refine lv_aload_n hx hb dX3_world_0 rfl (lv_at hl 0 rfl) ?_
  refine lv_iconst (v := 0) hx hb dX3_world_1 (by decide) ?_
  refine va_put (D := D) (ci := 3) (v := .int (0)) (ty := .int) (C := RX3) (T := TX3) (N := 13) hx hb hts hin3 tyX3 tyX3_ok nmX3 hown hK.1 hP hD hS 0 rfl rfl 0 (by decide) f35 (fun _ h9 => h9) rfl (by decide +kernel) rfl rfl (Nat.le_of_ble_eq_true rfl) dX3_world_2 (fun H locs hP hD hS => ?_)
  have hP : va_P D vwCl (wM cI cZ ad 0 N A R kw an nd wt B Hd O HL CO) H := hP
  have hD : va_D Ap (wM cI cZ ad 0 N A R kw an nd wt B Hd O HL CO) := hD
  refine lv_aload_n hx hb dX3_world_5 rfl (lv_at hl 0 rfl) ?_
  refine mu_v (wr := []) (va_runV (As := []) (rest := []) ⟨hx, hb, hml, hown, hts⟩ (c_X3_know l D cI cZ ad (0) (N) (A) (R) (kw) (an) (nd) (wt) (B) (Hd) (O) (HL) (CO) (by omega) (by omega) (hn) (hH) (hN) (hkw) (H).size) (cwV 0 hts gX3_world_X3_know rfl rfl rfl (by decide +kernel) ⟨Nat.le_of_ble_eq_true rfl, Nat.le_of_ble_eq_true rfl⟩) (prw_V (q0 := 0) (ci := 3) (hP.sub (ws' := (wM cI cZ ad 0 N A R kw an nd wt B Hd O HL CO)) [0, 1, 2, 3, 4, 5, 6, 7, 8] rfl) (hD.sub (ws' := (wM cI cZ ad 0 N A R kw an nd wt B Hd O HL CO)) [0, 1, 2, 3, 4, 5, 6, 7, 8] (by decide) rfl) hK rfl rfl) rfl rfl hl.1 rfl (lv_room (Nat.le_of_ble_eq_true rfl)) dX3_world_6 ⟨Nat.le_of_ble_eq_true rfl, Nat.le_of_ble_eq_true rfl⟩) hP hD hS hAp [0, 1, 2, 3, 4, 5, 6, 7, 8] [] rfl rfl (by decide) (by decide) (fun u_6 H locs hq_6 hP hD hS => ?_)
  obtain ⟨HL9_6, CO9_6⟩ := u_6
  obtain ⟨hkn_6, -⟩ := hq_6
  have hkn_6 : knOK B Hd O R nd A HL9_6 CO9_6 := hkn_6
  have hP : va_P D vwCl (wM cI cZ ad 0 N A R true an nd wt B Hd O HL9_6 CO9_6) H := hP
  have hD : va_D Ap (wM cI cZ ad 0 N A R true an nd wt B Hd O HL9_6 CO9_6) := hD
  refine lv_aload_n hx hb dX3_world_9 rfl (lv_at hl 0 rfl) ?_
  refine lv_iconst (v := 2) hx hb dX3_world_10 (by decide) ?_
  refine lv_iconst (v := 0) hx hb dX3_world_11 (by decide) ?_
  refine lv_iload_n hx hb dX3_world_12 rfl (lv_at hl 1 rfl) ?_
  refine pu_i (va_runV (As := [.int (2), .int (0), .int (x0)]) (rest := []) ⟨hx, hb, hml, hown, hts⟩ (c_X3_find_2 l D cI cZ ad (0) (N) (A) (R) (true) (an) (nd) (wt) (B) (Hd) (O) (HL9_6) (CO9_6) (0) (x0) (by omega)) (cwV 3 hts gX3_world_X3_find rfl rfl rfl (by decide +kernel) ⟨Nat.le_of_ble_eq_true rfl, Nat.le_of_ble_eq_true rfl⟩) (pre_V (q0 := 0) (ci := 3) (hP.sub (ws' := (wM cI cZ ad 0 N A R true an nd wt B Hd O HL9_6 CO9_6)) [0, 1, 2, 3, 4, 5, 6, 7, 8] rfl) hK rfl rfl) rfl rfl hl.1 rfl (lv_room (Nat.le_of_ble_eq_true rfl)) dX3_world_13 ⟨Nat.zero_le _, Nat.zero_le _⟩) ?_
  have hnth := nth_congr (q := x0) (woJ hkn_6)
  refine lv_istore_n (lv' := [(2, .int (nth (fun e => woM A CO9_6 e) (2 ^ A) x0)), (0, .ref (ad 0)), (1, .int (x0))]) hx hb dX3_world_16 rfl hl (by decide) rfl (fun ls hl => ?_)
  refine lv_iload_n hx hb dX3_world_17 rfl (lv_at hl 0 rfl) ?_
  refine lv_iconst (v := -1) hx hb dX3_world_18 (by decide) ?_
  refine lv_icmp_ne (tgt := 30) hx hb dX3_world_19 (by decide) (fun c_19 => ?_) (fun c_19 => ?_)
  · skip
    refine lv_iload_n hx hb dX3_world_30 rfl (lv_at hl 0 rfl) ?_
    exact mr_i (u := (0, HL9_6, CO9_6)) hx hb hrt hlk dX3_world_31 hS hP hD ⟨(by first | (rw [if_pos (hnth.symm.trans c_19)]; done) | (rw [if_neg (fun h9 => c_19 (hnth.trans h9))]; done)), (hkn_6), (fun h2 => by first | exact absurd (hnth.symm.trans c_19) h2 | exact hnth), trivial⟩
  · skip
    refine lv_aload_n hx hb dX3_world_22 rfl (lv_at hl 1 rfl) ?_
    refine lv_iconst (v := 1) hx hb dX3_world_23 (by decide) ?_
    refine mu_i (wr := []) (va_runV (As := [.int (1)]) (rest := []) ⟨hx, hb, hml, hown, hts⟩ (c_X3_no l D cI cZ ad (0) (N) (A) (R) (true) (an) (nd) (wt) (B) (Hd) (O) (HL9_6) (CO9_6) (1)  (H).size) (cwV 1 hts gX3_world_X3_no rfl rfl rfl (by decide +kernel) ⟨Nat.le_of_ble_eq_true rfl, Nat.le_of_ble_eq_true rfl⟩) (prw_V (q0 := 0) (ci := 3) (hP.sub (ws' := (wM cI cZ ad 0 N A R true an nd wt B Hd O HL9_6 CO9_6)) [0, 1, 2, 3, 4, 5, 6, 7, 8] rfl) (hD.sub (ws' := (wM cI cZ ad 0 N A R true an nd wt B Hd O HL9_6 CO9_6)) [0, 1, 2, 3, 4, 5, 6, 7, 8] (by decide) rfl) hK rfl rfl) rfl rfl hl.1 rfl (lv_room (Nat.le_of_ble_eq_true rfl)) dX3_world_24 ⟨Nat.le_of_ble_eq_true rfl, Nat.le_of_ble_eq_true rfl⟩) hP hD hS hAp [0, 1, 2, 3, 4, 5, 6, 7, 8] [] rfl rfl (by decide) (by decide) (fun r_24 u_24 H locs hq_24 hP hD hS => ?_)
    obtain ⟨rfl, -⟩ := hq_24
    have hP : va_P D vwCl (wM cI cZ ad 1 N A R true an nd wt B Hd O HL9_6 CO9_6) H := hP
    have hD : va_D Ap (wM cI cZ ad 1 N A R true an nd wt B Hd O HL9_6 CO9_6) := hD
    refine lv_goto (tgt := 31) hx hb dX3_world_27 (by decide) ?_
    exact mr_i (u := (1, HL9_6, CO9_6)) hx hb hrt hlk dX3_world_31 hS hP hD ⟨(by first | (rw [if_pos (hnth.symm.trans c_19)]; done) | (rw [if_neg (fun h9 => c_19 (hnth.trans h9))]; done)), (hkn_6), (fun h2 => by first | exact absurd (hnth.symm.trans c_19) h2 | exact hnth), trivial⟩
set_option maxHeartbeats 4000000 in
set_option maxRecDepth 100000 in
theorem c_X3_worldsWith (l : Launch) (D : va_G) (cI cZ : ClassId) (ad : Nat → Nat) (th : Int32) (N : Nat) (A : Nat) (R : Nat) (kw : Bool) (an : Nat → Int32) (nd : Nat → Int32) (wt : Nat → Int32) (B : Nat → Int32) (Hd : Nat → Int32) (O : Nat → Bool) (HL : Nat → Int32) (CO : Nat → Bool) (x0 : Int32) (hA : A ≤ 9) (hR : R ≤ 40) (hn : N ≤ 24) (hH : okH N Hd R) (hN : okN N nd A) (hkw : kw = true → knOK B Hd O R nd A HL CO) (sz : Nat) : Met l yX3_worldsWith wsX3_worldsWith ({ frames := 4, cells := 0, slots := 0, locals := 89 }) (pcW D [(cI, .int), (cZ, .boolean)] sz (wM cI cZ ad th N A R kw an nd wt B Hd O HL CO) [.ref (ad 0), .int (x0)]) (va_Qi (fun (r9 : Int32) (u9 : (Int32) × (Nat → Int32) × (Nat → Bool) × (Bool)) => ((u9.1) = tB (inR x0 N)) ∧ ((u9.2.2.2) = true → knOK B Hd O R nd A (u9.2.1) (u9.2.2.1)) ∧ (inR x0 N = true → r9 = nI (cnt (fun e => woM A (soE B Hd O R nd A) e && hs ((hdE B Hd O R nd A) e) x0) (2 ^ A))) ∧ (True)) (wB D (va_A (wM cI cZ ad th N A R kw an nd wt B Hd O HL CO) sz) (fun u9 : (Int32) × (Nat → Int32) × (Nat → Bool) × (Bool) => (wM cI cZ ad (u9.1) N A R (u9.2.2.2) an nd wt B Hd O (u9.2.1) (u9.2.2.1)))) (va_A (wM cI cZ ad th N A R kw an nd wt B Hd O HL CO) sz)) 0 0 (va_A (wM cI cZ ad th N A R kw an nd wt B Hd O HL CO) sz) := by
  refine Met.ofW (cc := cX3_worldsWith) (maxL := 4) (ret := (some .int)) (by decide) rfl ?_
  intro p e s m args below meth c s₁ BB hml hv
  obtain ⟨rfl, hsz, hP, hK, hD0⟩ := hv
  have hx := BB.exec
  have hb := BB.bytes
  have hrt := BB.returns
  have hts := atoms_spec (ws := wsX3_worldsWith) BB.pre
  have hown : s.vm.findClass RX3 = some m.cls := findClass_of_methodNamed BB.named
  have hlk := BB.notSynchronized
  subst hsz
  have hD := hD0.self (sz := s.heap.size)
  generalize hAe : va_A (wM cI cZ ad th N A R kw an nd wt B Hd O HL CO) s.heap.size = Ap at hD ⊢
  have hAp : ∀ q : Nat, s.heap.size ≤ q → Ap q := fun q h => by rw [← hAe]; exact Or.inr h
  have hS : va_S Ap s.heap s.heap [] := va_S.rf
  have f42 := hts (.fieldLink RX3 42 "AssumptionKeeperModel" "assumptions" "I") (by decide +kernel)
  have hin3 : ∀ w ∈ u_ws RX3 TX3 13, w ∈ wsX3_worldsWith := by decide +kernel
  have hl := lv_entry ([.ref (ad 0), .int (x0)]) (n := 4) (Nat.le_of_ble_eq_true rfl)
  rw [lg_entry_eq]
  generalize (lg_sl ([.ref (ad 0), .int (x0)]) ++ List.replicate (4 - (lg_sl ([.ref (ad 0), .int (x0)])).length) Slot.unset).toArray = ls at hl ⊢
  have hl : lv_has ls 4 [(0, .ref (ad 0)), (1, .int (x0))] := hl
  have h512 : 2 ^ A ≤ 512 := pow9 hA
  have hpos : 0 < 2 ^ A := Nat.two_pow_pos A
  refine lv_aload_n hx hb dX3_worldsWith_0 rfl (lv_at hl 0 rfl) ?_
  refine lv_iload_n hx hb dX3_worldsWith_1 rfl (lv_at hl 1 rfl) ?_
  refine mu_i (wr := []) (va_runV (As := [.int (x0)]) (rest := []) ⟨hx, hb, hml, hown, hts⟩ (c_X3_asksNode l D cI cZ ad (th) (N) (A) (R) (kw) (an) (nd) (wt) (B) (Hd) (O) (HL) (CO) (x0) (by omega) (by omega) (hn) (hH) (hN) (hkw) (s.heap).size) (cwV 1 hts gX3_worldsWith_X3_asksNode rfl rfl rfl (by decide +kernel) ⟨Nat.le_of_ble_eq_true rfl, Nat.le_of_ble_eq_true rfl⟩) (prw_V (q0 := 0) (ci := 3) (hP.sub (ws' := (wM cI cZ ad th N A R kw an nd wt B Hd O HL CO)) [0, 1, 2, 3, 4, 5, 6, 7, 8] rfl) (hD.sub (ws' := (wM cI cZ ad th N A R kw an nd wt B Hd O HL CO)) [0, 1, 2, 3, 4, 5, 6, 7, 8] (by decide) rfl) hK rfl rfl) rfl rfl hl.1 rfl (lv_room (Nat.le_of_ble_eq_true rfl)) dX3_worldsWith_2 ⟨Nat.le_of_ble_eq_true rfl, Nat.le_of_ble_eq_true rfl⟩) hP hD hS hAp [0, 1, 2, 3, 4, 5, 6, 7, 8] [] rfl rfl (by decide) (by decide) (fun r_2 u_2 H locs hq_2 hP hD hS => ?_)
  obtain ⟨th9_2, HL9_2, CO9_2⟩ := u_2
  obtain ⟨rfl, hthp_2, hkn_2, -⟩ := hq_2
  have hthp_2 : th9_2 = tB (inR x0 N) := hthp_2
  have hkn_2 : knOK B Hd O R nd A HL9_2 CO9_2 := hkn_2
  have hP : va_P D vwCl (wM cI cZ ad th9_2 N A R true an nd wt B Hd O HL9_2 CO9_2) H := hP
  have hD : va_D Ap (wM cI cZ ad th9_2 N A R true an nd wt B Hd O HL9_2 CO9_2) := hD
  refine lv_if_ne (tgt := 10) hx hb dX3_worldsWith_5 (by decide) (fun c_5 => ?_) (fun c_5 => ?_)
  · skip
    have c_5 := bI_ne0 c_5
    refine lv_iconst (v := nI (0)) hx hb dX3_worldsWith_10 (by decide) ?_
    refine lv_istore_n (lv' := [(2, .int (nI (0))), (0, .ref (ad 0)), (1, .int (x0))]) hx hb dX3_worldsWith_11 rfl hl (by decide) rfl (fun ls hl => ?_)
    refine lv_iconst (v := nI (0)) hx hb dX3_worldsWith_12 (by decide) ?_
    refine lv_istore_n (lv' := [(3, .int (nI (0))), (2, .int (nI (0))), (0, .ref (ad 0)), (1, .int (x0))]) hx hb dX3_worldsWith_13 rfl hl (by decide) rfl (fun ls hl => ?_)
    have lp_14 : ∀ (n14 i : Nat) (v2 : Int32) (v3 : Int32), i ≤ 2 ^ A → 2 ^ A + 1 ≤ i + n14 → v2 = nI (cnt (fun e => hs (HL9_2 e) x0 && woM A CO9_2 e) i) → v3 = nI (i) → ∀ ls : Array Slot, lv_has ls 4 [(0, .ref (ad 0)), (1, .int (x0)), (2, .int (v2)), (3, .int (v3))] → W p l e (headSpec wsX3_worldsWith ({ frames := 4, cells := 0, slots := 0, locals := 89 })).room s m ([.ref (ad 0), .int (x0)]).toArray below meth c H locs 0 0 (MQ below (va_Qi (fun (r9 : Int32) (u9 : (Int32) × (Nat → Int32) × (Nat → Bool) × (Bool)) => ((u9.1) = tB (inR x0 N)) ∧ ((u9.2.2.2) = true → knOK B Hd O R nd A (u9.2.1) (u9.2.2.1)) ∧ (inR x0 N = true → r9 = nI (cnt (fun e => woM A (soE B Hd O R nd A) e && hs ((hdE B Hd O R nd A) e) x0) (2 ^ A))) ∧ (True)) (wB D Ap (fun u9 : (Int32) × (Nat → Int32) × (Nat → Bool) × (Bool) => (wM cI cZ ad (u9.1) N A R (u9.2.2.2) an nd wt B Hd O (u9.2.1) (u9.2.2.1)))) Ap) ([.ref (ad 0), .int (x0)]).toArray s 0 0 Ap) (F0 m 14 ls []) := by
      intro n14
      induction n14 with
      | zero => intro i v2 v3 h1 h2; exact absurd h2 (by omega)
      | succ n14 ih14 =>
        intro i v2 v3 hi14 hn14  e2 e3  ls hl
        subst e2 e3
        have hl : lv_has ls 4 [(0, .ref (ad 0)), (1, .int (x0)), (2, .int (nI (cnt (fun e => hs (HL9_2 e) x0 && woM A CO9_2 e) i))), (3, .int (nI (i)))] := hl
        have hcl := cnt_le (fun e => hs (HL9_2 e) x0 && woM A CO9_2 e) i
        refine lv_iload_n hx hb dX3_worldsWith_14 rfl (lv_at hl 3 rfl) ?_
        refine lv_iconst (v := 1) hx hb dX3_worldsWith_15 (by decide) ?_
        refine lv_aload_n hx hb dX3_worldsWith_16 rfl (lv_at hl 0 rfl) ?_
        refine va_get (D := D) (ci := 3) (v := .int (nI (A))) (C := RX3) (T := TX3) (N := 13) hx hb hts hin3 hown hK.1 hP 0 rfl rfl 3 (by decide) f42 (fun _ h9 => h9) rfl dX3_worldsWith_17 ?_
        refine lv_ishl hx hb dX3_worldsWith_20 ?_
        rw [sh1_eq (by omega)]
        refine lv_icmp_ge (tgt := 55) hx hb dX3_worldsWith_21 (by decide) (fun c_21 => ?_) (fun c_21 => ?_)
        · skip
          have c_21 := (qI_le (a := 2 ^ A) (b := i) (by omega) (by omega)).mp c_21
          refine lv_iload_n hx hb dX3_worldsWith_55 rfl (lv_at hl 2 rfl) ?_
          exact mr_i (u := (th9_2, HL9_2, CO9_2, true)) hx hb hrt hlk dX3_worldsWith_56 hS hP hD ⟨(hthp_2), (fun _ => hkn_2), (fun _ => by have hi9 : i = 2 ^ A := (by omega); rw [hi9]; exact congrArg nI (cnt_congr (fun e he => by rw [knH hkn_2 e he, woJ hkn_2 e he, Bool.and_comm]))), trivial⟩
        · skip
          have c_21 := mt (qI_le (a := 2 ^ A) (b := i) (by omega) (by omega)).mpr c_21
          refine lv_iload_n hx hb dX3_worldsWith_24 rfl (lv_at hl 2 rfl) ?_
          refine lv_aload_n hx hb dX3_worldsWith_25 rfl (lv_at hl 0 rfl) ?_
          refine lv_iload_n hx hb dX3_worldsWith_26 rfl (lv_at hl 1 rfl) ?_
          refine lv_iload_n hx hb dX3_worldsWith_27 rfl (lv_at hl 3 rfl) ?_
          refine pu_i (va_runV (As := [.int (x0), .int (nI (i))]) (rest := [.int (nI (cnt (fun e => hs (HL9_2 e) x0 && woM A CO9_2 e) i))]) ⟨hx, hb, hml, hown, hts⟩ (c_X3_has l D cI cZ ad (th9_2) (N) (A) (R) (true) (an) (nd) (wt) (B) (Hd) (O) (HL9_2) (CO9_2) (x0) (i) (by omega)) (cwV 2 hts gX3_worldsWith_X3_has rfl rfl rfl (by decide +kernel) ⟨Nat.le_of_ble_eq_true rfl, Nat.le_of_ble_eq_true rfl⟩) (pre_V (q0 := 0) (ci := 3) (hP.sub (ws' := (wM cI cZ ad th9_2 N A R true an nd wt B Hd O HL9_2 CO9_2)) [0, 1, 2, 3, 4, 5, 6, 7, 8] rfl) hK rfl rfl) rfl rfl hl.1 rfl (lv_room (Nat.le_of_ble_eq_true rfl)) dX3_worldsWith_28 ⟨Nat.zero_le _, Nat.zero_le _⟩) ?_
          refine lv_if_eq (tgt := 46) hx hb dX3_worldsWith_31 (by decide) (fun c_31 => ?_) (fun c_31 => ?_)
          · skip
            have c_31 := bI_eq0 c_31
            refine lv_iconst (v := 0) hx hb dX3_worldsWith_46 (by decide) ?_
            refine lv_iadd hx hb dX3_worldsWith_47 ?_
            rw [Int32.add_zero]
            refine lv_istore_n (lv' := [(2, .int (nI (cnt (fun e => hs (HL9_2 e) x0 && woM A CO9_2 e) i))), (0, .ref (ad 0)), (1, .int (x0)), (3, .int (nI (i)))]) hx hb dX3_worldsWith_48 rfl hl (by decide) rfl (fun ls hl => ?_)
            refine lv_iinc (v := nI (i + 1)) (lv' := [(3, .int (nI (i + 1))), (2, .int (nI (cnt (fun e => hs (HL9_2 e) x0 && woM A CO9_2 e) i))), (0, .ref (ad 0)), (1, .int (x0))]) hx hb dX3_worldsWith_49 hl (k := 3) rfl (nI_1 _) (by decide) rfl (fun ls hl => ?_)
            refine lv_goto (tgt := 14) hx hb dX3_worldsWith_52 (by decide) ?_
            exact ih14 (i + 1) _ _  (by omega) (by omega)  (by first | rfl | (simp [cnt, c_5, c_21, c_31]; done) | (simp only [cnt, c_5, c_21, c_31]; rfl) | (simp_all [cnt, c_5, c_21, c_31]; done)) (by first | rfl | (simp [cnt, c_5, c_21, c_31]; done) | (simp only [cnt, c_5, c_21, c_31]; rfl) | (simp_all [cnt, c_5, c_21, c_31]; done))  ls (lv_sub hl [2, 3, 1, 0] rfl)
          · skip
            have c_31 := bI_ne0 c_31
            refine lv_aload_n hx hb dX3_worldsWith_34 rfl (lv_at hl 0 rfl) ?_
            refine lv_iload_n hx hb dX3_worldsWith_35 rfl (lv_at hl 3 rfl) ?_
            refine pu_i (va_runV (As := [.int (nI (i))]) (rest := [.int (nI (cnt (fun e => hs (HL9_2 e) x0 && woM A CO9_2 e) i))]) ⟨hx, hb, hml, hown, hts⟩ (c_X3_isWorld l D cI cZ ad (th9_2) (N) (A) (R) (true) (an) (nd) (wt) (B) (Hd) (O) (HL9_2) (CO9_2) (i) (by omega) (by omega)) (cwV 1 hts gX3_worldsWith_X3_isWorld rfl rfl rfl (by decide +kernel) ⟨Nat.le_of_ble_eq_true rfl, Nat.le_of_ble_eq_true rfl⟩) (pre_V (q0 := 0) (ci := 3) (hP.sub (ws' := (wM cI cZ ad th9_2 N A R true an nd wt B Hd O HL9_2 CO9_2)) [0, 1, 2, 3, 4, 5, 6, 7, 8] rfl) hK rfl rfl) rfl rfl hl.1 rfl (lv_room (Nat.le_of_ble_eq_true rfl)) dX3_worldsWith_36 ⟨Nat.zero_le _, Nat.zero_le _⟩) ?_
            refine lv_if_eq (tgt := 46) hx hb dX3_worldsWith_39 (by decide) (fun c_39 => ?_) (fun c_39 => ?_)
            · skip
              have c_39 := bI_eq0 c_39
              refine lv_iconst (v := 0) hx hb dX3_worldsWith_46 (by decide) ?_
              refine lv_iadd hx hb dX3_worldsWith_47 ?_
              rw [Int32.add_zero]
              refine lv_istore_n (lv' := [(2, .int (nI (cnt (fun e => hs (HL9_2 e) x0 && woM A CO9_2 e) i))), (0, .ref (ad 0)), (1, .int (x0)), (3, .int (nI (i)))]) hx hb dX3_worldsWith_48 rfl hl (by decide) rfl (fun ls hl => ?_)
              refine lv_iinc (v := nI (i + 1)) (lv' := [(3, .int (nI (i + 1))), (2, .int (nI (cnt (fun e => hs (HL9_2 e) x0 && woM A CO9_2 e) i))), (0, .ref (ad 0)), (1, .int (x0))]) hx hb dX3_worldsWith_49 hl (k := 3) rfl (nI_1 _) (by decide) rfl (fun ls hl => ?_)
              refine lv_goto (tgt := 14) hx hb dX3_worldsWith_52 (by decide) ?_
              exact ih14 (i + 1) _ _  (by omega) (by omega)  (by first | rfl | (simp [cnt, c_5, c_21, c_31, c_39]; done) | (simp only [cnt, c_5, c_21, c_31, c_39]; rfl) | (simp_all [cnt, c_5, c_21, c_31, c_39]; done)) (by first | rfl | (simp [cnt, c_5, c_21, c_31, c_39]; done) | (simp only [cnt, c_5, c_21, c_31, c_39]; rfl) | (simp_all [cnt, c_5, c_21, c_31, c_39]; done))  ls (lv_sub hl [2, 3, 1, 0] rfl)
            · skip
              have c_39 := bI_ne0 c_39
              refine lv_iconst (v := 1) hx hb dX3_worldsWith_42 (by decide) ?_
              refine lv_goto (tgt := 47) hx hb dX3_worldsWith_43 (by decide) ?_
              refine lv_iadd hx hb dX3_worldsWith_47 ?_
              rw [nI_1]
              refine lv_istore_n (lv' := [(2, .int (nI ((cnt (fun e => hs (HL9_2 e) x0 && woM A CO9_2 e) i) + 1))), (0, .ref (ad 0)), (1, .int (x0)), (3, .int (nI (i)))]) hx hb dX3_worldsWith_48 rfl hl (by decide) rfl (fun ls hl => ?_)
              refine lv_iinc (v := nI (i + 1)) (lv' := [(3, .int (nI (i + 1))), (2, .int (nI ((cnt (fun e => hs (HL9_2 e) x0 && woM A CO9_2 e) i) + 1))), (0, .ref (ad 0)), (1, .int (x0))]) hx hb dX3_worldsWith_49 hl (k := 3) rfl (nI_1 _) (by decide) rfl (fun ls hl => ?_)
              refine lv_goto (tgt := 14) hx hb dX3_worldsWith_52 (by decide) ?_
              exact ih14 (i + 1) _ _  (by omega) (by omega)  (by first | rfl | (simp [cnt, c_5, c_21, c_31, c_39]; done) | (simp only [cnt, c_5, c_21, c_31, c_39]; rfl) | (simp_all [cnt, c_5, c_21, c_31, c_39]; done)) (by first | rfl | (simp [cnt, c_5, c_21, c_31, c_39]; done) | (simp only [cnt, c_5, c_21, c_31, c_39]; rfl) | (simp_all [cnt, c_5, c_21, c_31, c_39]; done))  ls (lv_sub hl [2, 3, 1, 0] rfl)
    exact lp_14 (2 ^ A + 1) (0) _ _  (by omega) (by omega)  (by first | rfl | (simp [cnt, c_5]; done) | (simp only [cnt, c_5]; rfl) | (simp_all [cnt, c_5]; done)) (by first | rfl | (simp [cnt, c_5]; done) | (simp only [cnt, c_5]; rfl) | (simp_all [cnt, c_5]; done))  ls (lv_sub hl [2, 3, 1, 0] rfl)
  · skip
    have c_5 := bI_eq0 c_5
    refine lv_iconst (v := 0) hx hb dX3_worldsWith_8 (by decide) ?_
    exact mr_i (u := (th9_2, HL9_2, CO9_2, true)) hx hb hrt hlk dX3_worldsWith_9 hS hP hD ⟨(hthp_2), (fun _ => hkn_2), (fun h1 => by rw [h1] at c_5; cases c_5), trivial⟩
set_option maxHeartbeats 4000000 in
set_option maxRecDepth 100000 in
theorem c_X3_belief (l : Launch) (D : va_G) (cI cZ : ClassId) (ad : Nat → Nat) (th : Int32) (N : Nat) (A : Nat) (R : Nat) (kw : Bool) (an : Nat → Int32) (nd : Nat → Int32) (wt : Nat → Int32) (B : Nat → Int32) (Hd : Nat → Int32) (O : Nat → Bool) (HL : Nat → Int32) (CO : Nat → Bool) (x0 : Int32) (hA : A ≤ 9) (hR : R ≤ 40) (hn : N ≤ 24) (hH : okH N Hd R) (hN : okN N nd A) (hkw : kw = true → knOK B Hd O R nd A HL CO) (sz : Nat) : Met l yX3_belief wsX3_belief ({ frames := 4, cells := 0, slots := 0, locals := 89 }) (pcW D [(cI, .int), (cZ, .boolean)] sz (wM cI cZ ad th N A R kw an nd wt B Hd O HL CO) [.ref (ad 0), .int (x0)]) (va_Qd (fun (r9 : UInt64) (u9 : (Int32) × (Nat → Int32) × (Nat → Bool) × (Bool)) => ((u9.1) = tB (inR x0 N)) ∧ ((u9.2.2.2) = true → knOK B Hd O R nd A (u9.2.1) (u9.2.2.1)) ∧ (inR x0 N = true → r9 = blE (cnt (soE B Hd O R nd A) (2 ^ A)) (cnt (fun e => gd (hdE B Hd O R nd A) (soE B Hd O R nd A) x0 e) (2 ^ A))) ∧ (True)) (wB D (va_A (wM cI cZ ad th N A R kw an nd wt B Hd O HL CO) sz) (fun u9 : (Int32) × (Nat → Int32) × (Nat → Bool) × (Bool) => (wM cI cZ ad (u9.1) N A R (u9.2.2.2) an nd wt B Hd O (u9.2.1) (u9.2.2.1)))) (va_A (wM cI cZ ad th N A R kw an nd wt B Hd O HL CO) sz)) 0 0 (va_A (wM cI cZ ad th N A R kw an nd wt B Hd O HL CO) sz) := by
  refine Met.ofW (cc := cX3_belief) (maxL := 5) (ret := (some .double)) (by decide) rfl ?_
  intro p e s m args below meth c s₁ BB hml hv
  obtain ⟨rfl, hsz, hP, hK, hD0⟩ := hv
  have hx := BB.exec
  have hb := BB.bytes
  have hrt := BB.returns
  have hts := atoms_spec (ws := wsX3_belief) BB.pre
  have hown : s.vm.findClass RX3 = some m.cls := findClass_of_methodNamed BB.named
  have hlk := BB.notSynchronized
  subst hsz
  have hD := hD0.self (sz := s.heap.size)
  generalize hAe : va_A (wM cI cZ ad th N A R kw an nd wt B Hd O HL CO) s.heap.size = Ap at hD ⊢
  have hAp : ∀ q : Nat, s.heap.size ≤ q → Ap q := fun q h => by rw [← hAe]; exact Or.inr h
  have hS : va_S Ap s.heap s.heap [] := va_S.rf
  have f32 := hts (.fieldLink RX3 32 "AssumptionKeeperModel" "areConsistent" "[Z") (by decide +kernel)
  have f42 := hts (.fieldLink RX3 42 "AssumptionKeeperModel" "assumptions" "I") (by decide +kernel)
  have hin3 : ∀ w ∈ u_ws RX3 TX3 13, w ∈ wsX3_belief := by decide +kernel
  have hl := lv_entry ([.ref (ad 0), .int (x0)]) (n := 5) (Nat.le_of_ble_eq_true rfl)
  rw [lg_entry_eq]
  generalize (lg_sl ([.ref (ad 0), .int (x0)]) ++ List.replicate (5 - (lg_sl ([.ref (ad 0), .int (x0)])).length) Slot.unset).toArray = ls at hl ⊢
  have hl : lv_has ls 5 [(0, .ref (ad 0)), (1, .int (x0))] := hl
  have h512 : 2 ^ A ≤ 512 := pow9 hA
  have hpos : 0 < 2 ^ A := Nat.two_pow_pos A
  refine lv_aload_n hx hb dX3_belief_0 rfl (lv_at hl 0 rfl) ?_
  refine lv_iload_n hx hb dX3_belief_1 rfl (lv_at hl 1 rfl) ?_
  refine mu_i (wr := []) (va_runV (As := [.int (x0)]) (rest := []) ⟨hx, hb, hml, hown, hts⟩ (c_X3_asksNode l D cI cZ ad (th) (N) (A) (R) (kw) (an) (nd) (wt) (B) (Hd) (O) (HL) (CO) (x0) (by omega) (by omega) (hn) (hH) (hN) (hkw) (s.heap).size) (cwV 1 hts gX3_belief_X3_asksNode rfl rfl rfl (by decide +kernel) ⟨Nat.le_of_ble_eq_true rfl, Nat.le_of_ble_eq_true rfl⟩) (prw_V (q0 := 0) (ci := 3) (hP.sub (ws' := (wM cI cZ ad th N A R kw an nd wt B Hd O HL CO)) [0, 1, 2, 3, 4, 5, 6, 7, 8] rfl) (hD.sub (ws' := (wM cI cZ ad th N A R kw an nd wt B Hd O HL CO)) [0, 1, 2, 3, 4, 5, 6, 7, 8] (by decide) rfl) hK rfl rfl) rfl rfl hl.1 rfl (lv_room (Nat.le_of_ble_eq_true rfl)) dX3_belief_2 ⟨Nat.le_of_ble_eq_true rfl, Nat.le_of_ble_eq_true rfl⟩) hP hD hS hAp [0, 1, 2, 3, 4, 5, 6, 7, 8] [] rfl rfl (by decide) (by decide) (fun r_2 u_2 H locs hq_2 hP hD hS => ?_)
  obtain ⟨th9_2, HL9_2, CO9_2⟩ := u_2
  obtain ⟨rfl, hthp_2, hkn_2, -⟩ := hq_2
  have hthp_2 : th9_2 = tB (inR x0 N) := hthp_2
  have hkn_2 : knOK B Hd O R nd A HL9_2 CO9_2 := hkn_2
  have hP : va_P D vwCl (wM cI cZ ad th9_2 N A R true an nd wt B Hd O HL9_2 CO9_2) H := hP
  have hD : va_D Ap (wM cI cZ ad th9_2 N A R true an nd wt B Hd O HL9_2 CO9_2) := hD
  refine lv_if_ne (tgt := 10) hx hb dX3_belief_5 (by decide) (fun c_5 => ?_) (fun c_5 => ?_)
  · skip
    have c_5 := bI_ne0 c_5
    refine lv_iconst (v := nI (0)) hx hb dX3_belief_10 (by decide) ?_
    refine lv_istore_n (lv' := [(2, .int (nI (0))), (0, .ref (ad 0)), (1, .int (x0))]) hx hb dX3_belief_11 rfl hl (by decide) rfl (fun ls hl => ?_)
    refine lv_iconst (v := nI (0)) hx hb dX3_belief_12 (by decide) ?_
    refine lv_istore_n (lv' := [(3, .int (nI (0))), (2, .int (nI (0))), (0, .ref (ad 0)), (1, .int (x0))]) hx hb dX3_belief_13 rfl hl (by decide) rfl (fun ls hl => ?_)
    refine lv_iconst (v := nI (0)) hx hb dX3_belief_14 (by decide) ?_
    refine lv_istore (lv' := [(4, .int (nI (0))), (3, .int (nI (0))), (2, .int (nI (0))), (0, .ref (ad 0)), (1, .int (x0))]) hx hb dX3_belief_15 hl (by decide) rfl (fun ls hl => ?_)
    have lp_17 : ∀ (n17 i : Nat) (v2 : Int32) (v3 : Int32) (v4 : Int32), i ≤ 2 ^ A → 2 ^ A + 1 ≤ i + n17 → v2 = nI (cnt (fun e => gd HL9_2 CO9_2 x0 e) i) → v3 = nI (cnt CO9_2 i) → v4 = nI (i) → ∀ ls : Array Slot, lv_has ls 5 [(0, .ref (ad 0)), (1, .int (x0)), (2, .int (v2)), (3, .int (v3)), (4, .int (v4))] → W p l e (headSpec wsX3_belief ({ frames := 4, cells := 0, slots := 0, locals := 89 })).room s m ([.ref (ad 0), .int (x0)]).toArray below meth c H locs 0 0 (MQ below (va_Qd (fun (r9 : UInt64) (u9 : (Int32) × (Nat → Int32) × (Nat → Bool) × (Bool)) => ((u9.1) = tB (inR x0 N)) ∧ ((u9.2.2.2) = true → knOK B Hd O R nd A (u9.2.1) (u9.2.2.1)) ∧ (inR x0 N = true → r9 = blE (cnt (soE B Hd O R nd A) (2 ^ A)) (cnt (fun e => gd (hdE B Hd O R nd A) (soE B Hd O R nd A) x0 e) (2 ^ A))) ∧ (True)) (wB D Ap (fun u9 : (Int32) × (Nat → Int32) × (Nat → Bool) × (Bool) => (wM cI cZ ad (u9.1) N A R (u9.2.2.2) an nd wt B Hd O (u9.2.1) (u9.2.2.1)))) Ap) ([.ref (ad 0), .int (x0)]).toArray s 0 0 Ap) (F0 m 17 ls []) := by
      intro n17
      induction n17 with
      | zero => intro i v2 v3 v4 h1 h2; exact absurd h2 (by omega)
      | succ n17 ih17 =>
        intro i v2 v3 v4 hi17 hn17  e2 e3 e4  ls hl
        subst e2 e3 e4
        have hl : lv_has ls 5 [(0, .ref (ad 0)), (1, .int (x0)), (2, .int (nI (cnt (fun e => gd HL9_2 CO9_2 x0 e) i))), (3, .int (nI (cnt CO9_2 i))), (4, .int (nI (i)))] := hl
        have hcl1 := cnt_le (fun e => gd HL9_2 CO9_2 x0 e) i
        have hcl2 := cnt_le CO9_2 i
        refine lv_iload hx hb dX3_belief_17 (lv_at hl 4 rfl) ?_
        refine lv_iconst (v := 1) hx hb dX3_belief_19 (by decide) ?_
        refine lv_aload_n hx hb dX3_belief_20 rfl (lv_at hl 0 rfl) ?_
        refine va_get (D := D) (ci := 3) (v := .int (nI (A))) (C := RX3) (T := TX3) (N := 13) hx hb hts hin3 hown hK.1 hP 0 rfl rfl 3 (by decide) f42 (fun _ h9 => h9) rfl dX3_belief_21 ?_
        refine lv_ishl hx hb dX3_belief_24 ?_
        rw [sh1_eq (by omega)]
        refine lv_icmp_ge (tgt := 70) hx hb dX3_belief_25 (by decide) (fun c_25 => ?_) (fun c_25 => ?_)
        · skip
          have c_25 := (qI_le (a := 2 ^ A) (b := i) (by omega) (by omega)).mp c_25
          refine lv_iload_n hx hb dX3_belief_70 rfl (lv_at hl 3 rfl) ?_
          refine lv_if_ne (tgt := 78) hx hb dX3_belief_71 (by decide) (fun c_71 => ?_) (fun c_71 => ?_)
          · skip
            have c_71 := q0_ne (a := cnt CO9_2 i) (by omega) c_71
            refine lv_iload_n hx hb dX3_belief_78 rfl (lv_at hl 2 rfl) ?_
            refine lv_i2d hx hb dX3_belief_79 ?_
            refine lv_iload_n hx hb dX3_belief_80 rfl (lv_at hl 3 rfl) ?_
            refine lv_i2d hx hb dX3_belief_81 ?_
            refine lv_ddiv hx hb dX3_belief_82 (bl_ok (by omega) (by omega) c_71) ?_
            exact mr_d (u := (th9_2, HL9_2, CO9_2, true)) hx hb hrt hlk dX3_belief_83 hS hP hD ⟨(hthp_2), (fun _ => hkn_2), (fun _ => by have hi9 : i = 2 ^ A := (by omega); rw [← cnt_congr (knC hkn_2), ← cnt_congr (gdJ (x := x0) hkn_2), ← hi9]; simp [blE, c_71]), trivial⟩
          · skip
            have c_71 := q0_eq (a := cnt CO9_2 i) (by omega) c_71
            refine lv_dconst0 hx hb dX3_belief_74 ?_
            refine lv_goto (tgt := 83) hx hb dX3_belief_75 (by decide) ?_
            exact mr_d (u := (th9_2, HL9_2, CO9_2, true)) hx hb hrt hlk dX3_belief_83 hS hP hD ⟨(hthp_2), (fun _ => hkn_2), (fun _ => by have hi9 : i = 2 ^ A := (by omega); rw [← cnt_congr (knC hkn_2), ← cnt_congr (gdJ (x := x0) hkn_2), ← hi9]; simp [blE, c_71]), trivial⟩
        · skip
          have c_25 := mt (qI_le (a := 2 ^ A) (b := i) (by omega) (by omega)).mpr c_25
          refine lv_iload_n hx hb dX3_belief_28 rfl (lv_at hl 3 rfl) ?_
          refine lv_aload_n hx hb dX3_belief_29 rfl (lv_at hl 0 rfl) ?_
          refine va_get (D := D) (ci := 3) (v := .ref (ad 8)) (C := RX3) (T := TX3) (N := 13) hx hb hts hin3 hown hK.1 hP 0 rfl rfl 12 (by decide) f32 (fun _ h9 => h9) rfl dX3_belief_30 ?_
          refine lv_iload hx hb dX3_belief_33 (lv_at hl 4 rfl) ?_
          refine az_ (D := D) (f := CO9_2) (i := i) hx hb hK hP 8 1 rfl rfl (by omega) (by decide) dX3_belief_35 ?_
          refine lv_if_eq (tgt := 43) hx hb dX3_belief_36 (by decide) (fun c_36 => ?_) (fun c_36 => ?_)
          · skip
            have c_36 := bI_eq0 c_36
            refine lv_iconst (v := 0) hx hb dX3_belief_43 (by decide) ?_
            refine lv_iadd hx hb dX3_belief_44 ?_
            rw [Int32.add_zero]
            refine lv_istore_n (lv' := [(3, .int (nI (cnt CO9_2 i))), (0, .ref (ad 0)), (1, .int (x0)), (2, .int (nI (cnt (fun e => gd HL9_2 CO9_2 x0 e) i))), (4, .int (nI (i)))]) hx hb dX3_belief_45 rfl hl (by decide) rfl (fun ls hl => ?_)
            refine lv_iload_n hx hb dX3_belief_46 rfl (lv_at hl 3 rfl) ?_
            refine lv_aload_n hx hb dX3_belief_47 rfl (lv_at hl 1 rfl) ?_
            refine lv_iload_n hx hb dX3_belief_48 rfl (lv_at hl 2 rfl) ?_
            refine lv_iload hx hb dX3_belief_49 (lv_at hl 4 rfl) ?_
            refine pu_i (va_runV (As := [.int (x0), .int (nI (i))]) (rest := [.int (nI (cnt (fun e => gd HL9_2 CO9_2 x0 e) i))]) ⟨hx, hb, hml, hown, hts⟩ (c_X3_isGood l D cI cZ ad (th9_2) (N) (A) (R) (true) (an) (nd) (wt) (B) (Hd) (O) (HL9_2) (CO9_2) (x0) (i) (by omega)) (cwV 2 hts gX3_belief_X3_isGood rfl rfl rfl (by decide +kernel) ⟨Nat.le_of_ble_eq_true rfl, Nat.le_of_ble_eq_true rfl⟩) (pre_V (q0 := 0) (ci := 3) (hP.sub (ws' := (wM cI cZ ad th9_2 N A R true an nd wt B Hd O HL9_2 CO9_2)) [0, 1, 2, 3, 4, 5, 6, 7, 8] rfl) hK rfl rfl) rfl rfl hl.1 rfl (lv_room (Nat.le_of_ble_eq_true rfl)) dX3_belief_51 ⟨Nat.zero_le _, Nat.zero_le _⟩) ?_
            refine lv_if_eq (tgt := 61) hx hb dX3_belief_54 (by decide) (fun c_54 => ?_) (fun c_54 => ?_)
            · skip
              have c_54 := bI_eq0 c_54
              refine lv_iconst (v := 0) hx hb dX3_belief_61 (by decide) ?_
              refine lv_iadd hx hb dX3_belief_62 ?_
              rw [Int32.add_zero]
              refine lv_istore_n (lv' := [(2, .int (nI (cnt (fun e => gd HL9_2 CO9_2 x0 e) i))), (3, .int (nI (cnt CO9_2 i))), (0, .ref (ad 0)), (1, .int (x0)), (4, .int (nI (i)))]) hx hb dX3_belief_63 rfl hl (by decide) rfl (fun ls hl => ?_)
              refine lv_iinc (v := nI (i + 1)) (lv' := [(4, .int (nI (i + 1))), (2, .int (nI (cnt (fun e => gd HL9_2 CO9_2 x0 e) i))), (3, .int (nI (cnt CO9_2 i))), (0, .ref (ad 0)), (1, .int (x0))]) hx hb dX3_belief_64 hl (k := 4) rfl (nI_1 _) (by decide) rfl (fun ls hl => ?_)
              refine lv_goto (tgt := 17) hx hb dX3_belief_67 (by decide) ?_
              exact ih17 (i + 1) _ _ _  (by omega) (by omega)  (by first | rfl | (simp [cnt, c_5, c_25, c_36, c_54]; done) | (simp only [cnt, c_5, c_25, c_36, c_54]; rfl) | (simp_all [cnt, c_5, c_25, c_36, c_54]; done)) (by first | rfl | (simp [cnt, c_5, c_25, c_36, c_54]; done) | (simp only [cnt, c_5, c_25, c_36, c_54]; rfl) | (simp_all [cnt, c_5, c_25, c_36, c_54]; done)) (by first | rfl | (simp [cnt, c_5, c_25, c_36, c_54]; done) | (simp only [cnt, c_5, c_25, c_36, c_54]; rfl) | (simp_all [cnt, c_5, c_25, c_36, c_54]; done))  ls (lv_sub hl [3, 4, 1, 2, 0] rfl)
            · skip
              have c_54 := bI_ne0 c_54
              refine lv_iconst (v := 1) hx hb dX3_belief_57 (by decide) ?_
              refine lv_goto (tgt := 62) hx hb dX3_belief_58 (by decide) ?_
              refine lv_iadd hx hb dX3_belief_62 ?_
              rw [nI_1]
              refine lv_istore_n (lv' := [(2, .int (nI ((cnt (fun e => gd HL9_2 CO9_2 x0 e) i) + 1))), (3, .int (nI (cnt CO9_2 i))), (0, .ref (ad 0)), (1, .int (x0)), (4, .int (nI (i)))]) hx hb dX3_belief_63 rfl hl (by decide) rfl (fun ls hl => ?_)
              refine lv_iinc (v := nI (i + 1)) (lv' := [(4, .int (nI (i + 1))), (2, .int (nI ((cnt (fun e => gd HL9_2 CO9_2 x0 e) i) + 1))), (3, .int (nI (cnt CO9_2 i))), (0, .ref (ad 0)), (1, .int (x0))]) hx hb dX3_belief_64 hl (k := 4) rfl (nI_1 _) (by decide) rfl (fun ls hl => ?_)
              refine lv_goto (tgt := 17) hx hb dX3_belief_67 (by decide) ?_
              exact ih17 (i + 1) _ _ _  (by omega) (by omega)  (by first | rfl | (simp [cnt, c_5, c_25, c_36, c_54]; done) | (simp only [cnt, c_5, c_25, c_36, c_54]; rfl) | (simp_all [cnt, c_5, c_25, c_36, c_54]; done)) (by first | rfl | (simp [cnt, c_5, c_25, c_36, c_54]; done) | (simp only [cnt, c_5, c_25, c_36, c_54]; rfl) | (simp_all [cnt, c_5, c_25, c_36, c_54]; done)) (by first | rfl | (simp [cnt, c_5, c_25, c_36, c_54]; done) | (simp only [cnt, c_5, c_25, c_36, c_54]; rfl) | (simp_all [cnt, c_5, c_25, c_36, c_54]; done))  ls (lv_sub hl [3, 4, 1, 2, 0] rfl)
          · skip
            have c_36 := bI_ne0 c_36
            refine lv_iconst (v := 1) hx hb dX3_belief_39 (by decide) ?_
            refine lv_goto (tgt := 44) hx hb dX3_belief_40 (by decide) ?_
            refine lv_iadd hx hb dX3_belief_44 ?_
            rw [nI_1]
            refine lv_istore_n (lv' := [(3, .int (nI ((cnt CO9_2 i) + 1))), (0, .ref (ad 0)), (1, .int (x0)), (2, .int (nI (cnt (fun e => gd HL9_2 CO9_2 x0 e) i))), (4, .int (nI (i)))]) hx hb dX3_belief_45 rfl hl (by decide) rfl (fun ls hl => ?_)
            refine lv_iload_n hx hb dX3_belief_46 rfl (lv_at hl 3 rfl) ?_
            refine lv_aload_n hx hb dX3_belief_47 rfl (lv_at hl 1 rfl) ?_
            refine lv_iload_n hx hb dX3_belief_48 rfl (lv_at hl 2 rfl) ?_
            refine lv_iload hx hb dX3_belief_49 (lv_at hl 4 rfl) ?_
            refine pu_i (va_runV (As := [.int (x0), .int (nI (i))]) (rest := [.int (nI (cnt (fun e => gd HL9_2 CO9_2 x0 e) i))]) ⟨hx, hb, hml, hown, hts⟩ (c_X3_isGood l D cI cZ ad (th9_2) (N) (A) (R) (true) (an) (nd) (wt) (B) (Hd) (O) (HL9_2) (CO9_2) (x0) (i) (by omega)) (cwV 2 hts gX3_belief_X3_isGood rfl rfl rfl (by decide +kernel) ⟨Nat.le_of_ble_eq_true rfl, Nat.le_of_ble_eq_true rfl⟩) (pre_V (q0 := 0) (ci := 3) (hP.sub (ws' := (wM cI cZ ad th9_2 N A R true an nd wt B Hd O HL9_2 CO9_2)) [0, 1, 2, 3, 4, 5, 6, 7, 8] rfl) hK rfl rfl) rfl rfl hl.1 rfl (lv_room (Nat.le_of_ble_eq_true rfl)) dX3_belief_51 ⟨Nat.zero_le _, Nat.zero_le _⟩) ?_
            refine lv_if_eq (tgt := 61) hx hb dX3_belief_54 (by decide) (fun c_54 => ?_) (fun c_54 => ?_)
            · skip
              have c_54 := bI_eq0 c_54
              refine lv_iconst (v := 0) hx hb dX3_belief_61 (by decide) ?_
              refine lv_iadd hx hb dX3_belief_62 ?_
              rw [Int32.add_zero]
              refine lv_istore_n (lv' := [(2, .int (nI (cnt (fun e => gd HL9_2 CO9_2 x0 e) i))), (3, .int (nI ((cnt CO9_2 i) + 1))), (0, .ref (ad 0)), (1, .int (x0)), (4, .int (nI (i)))]) hx hb dX3_belief_63 rfl hl (by decide) rfl (fun ls hl => ?_)
              refine lv_iinc (v := nI (i + 1)) (lv' := [(4, .int (nI (i + 1))), (2, .int (nI (cnt (fun e => gd HL9_2 CO9_2 x0 e) i))), (3, .int (nI ((cnt CO9_2 i) + 1))), (0, .ref (ad 0)), (1, .int (x0))]) hx hb dX3_belief_64 hl (k := 4) rfl (nI_1 _) (by decide) rfl (fun ls hl => ?_)
              refine lv_goto (tgt := 17) hx hb dX3_belief_67 (by decide) ?_
              exact ih17 (i + 1) _ _ _  (by omega) (by omega)  (by first | rfl | (simp [cnt, c_5, c_25, c_36, c_54]; done) | (simp only [cnt, c_5, c_25, c_36, c_54]; rfl) | (simp_all [cnt, c_5, c_25, c_36, c_54]; done)) (by first | rfl | (simp [cnt, c_5, c_25, c_36, c_54]; done) | (simp only [cnt, c_5, c_25, c_36, c_54]; rfl) | (simp_all [cnt, c_5, c_25, c_36, c_54]; done)) (by first | rfl | (simp [cnt, c_5, c_25, c_36, c_54]; done) | (simp only [cnt, c_5, c_25, c_36, c_54]; rfl) | (simp_all [cnt, c_5, c_25, c_36, c_54]; done))  ls (lv_sub hl [3, 4, 1, 2, 0] rfl)
            · skip
              have c_54 := bI_ne0 c_54
              refine lv_iconst (v := 1) hx hb dX3_belief_57 (by decide) ?_
              refine lv_goto (tgt := 62) hx hb dX3_belief_58 (by decide) ?_
              refine lv_iadd hx hb dX3_belief_62 ?_
              rw [nI_1]
              refine lv_istore_n (lv' := [(2, .int (nI ((cnt (fun e => gd HL9_2 CO9_2 x0 e) i) + 1))), (3, .int (nI ((cnt CO9_2 i) + 1))), (0, .ref (ad 0)), (1, .int (x0)), (4, .int (nI (i)))]) hx hb dX3_belief_63 rfl hl (by decide) rfl (fun ls hl => ?_)
              refine lv_iinc (v := nI (i + 1)) (lv' := [(4, .int (nI (i + 1))), (2, .int (nI ((cnt (fun e => gd HL9_2 CO9_2 x0 e) i) + 1))), (3, .int (nI ((cnt CO9_2 i) + 1))), (0, .ref (ad 0)), (1, .int (x0))]) hx hb dX3_belief_64 hl (k := 4) rfl (nI_1 _) (by decide) rfl (fun ls hl => ?_)
              refine lv_goto (tgt := 17) hx hb dX3_belief_67 (by decide) ?_
              exact ih17 (i + 1) _ _ _  (by omega) (by omega)  (by first | rfl | (simp [cnt, c_5, c_25, c_36, c_54]; done) | (simp only [cnt, c_5, c_25, c_36, c_54]; rfl) | (simp_all [cnt, c_5, c_25, c_36, c_54]; done)) (by first | rfl | (simp [cnt, c_5, c_25, c_36, c_54]; done) | (simp only [cnt, c_5, c_25, c_36, c_54]; rfl) | (simp_all [cnt, c_5, c_25, c_36, c_54]; done)) (by first | rfl | (simp [cnt, c_5, c_25, c_36, c_54]; done) | (simp only [cnt, c_5, c_25, c_36, c_54]; rfl) | (simp_all [cnt, c_5, c_25, c_36, c_54]; done))  ls (lv_sub hl [3, 4, 1, 2, 0] rfl)
    exact lp_17 (2 ^ A + 1) (0) _ _ _  (by omega) (by omega)  (by first | rfl | (simp [cnt, c_5]; done) | (simp only [cnt, c_5]; rfl) | (simp_all [cnt, c_5]; done)) (by first | rfl | (simp [cnt, c_5]; done) | (simp only [cnt, c_5]; rfl) | (simp_all [cnt, c_5]; done)) (by first | rfl | (simp [cnt, c_5]; done) | (simp only [cnt, c_5]; rfl) | (simp_all [cnt, c_5]; done))  ls (lv_sub hl [3, 4, 2, 1, 0] rfl)
  · skip
    have c_5 := bI_eq0 c_5
    refine lv_dconst0 hx hb dX3_belief_8 ?_
    exact mr_d (u := (th9_2, HL9_2, CO9_2, true)) hx hb hrt hlk dX3_belief_9 hS hP hD ⟨(hthp_2), (fun _ => hkn_2), (fun h1 => by rw [h1] at c_5; cases c_5), trivial⟩
set_option maxHeartbeats 4000000 in
set_option maxRecDepth 100000 in
theorem c_X3_implies (l : Launch) (D : va_G) (cI cZ : ClassId) (ad : Nat → Nat) (th : Int32) (N : Nat) (A : Nat) (R : Nat) (kw : Bool) (an : Nat → Int32) (nd : Nat → Int32) (wt : Nat → Int32) (B : Nat → Int32) (Hd : Nat → Int32) (O : Nat → Bool) (HL : Nat → Int32) (CO : Nat → Bool) (x0 : Int32) (y0 : Int32) (hA : A ≤ 9) (hR : R ≤ 40) (hn : N ≤ 24) (hH : okH N Hd R) (hN : okN N nd A) (hkw : kw = true → knOK B Hd O R nd A HL CO) (sz : Nat) : Met l yX3_implies wsX3_implies ({ frames := 4, cells := 0, slots := 0, locals := 90 }) (pcW D [(cI, .int), (cZ, .boolean)] sz (wM cI cZ ad th N A R kw an nd wt B Hd O HL CO) [.ref (ad 0), .int (x0), .int (y0)]) (va_Qi (fun (r9 : Int32) (u9 : (Int32) × (Nat → Int32) × (Nat → Bool) × (Bool)) => ((u9.1) = tB (inR x0 N && inR y0 N)) ∧ ((u9.2.2.2) = true → knOK B Hd O R nd A (u9.2.1) (u9.2.2.1)) ∧ (inR x0 N = true → inR y0 N = true → r9 = bI (!(ex (fun e => (soE B Hd O R nd A) e && (hs ((hdE B Hd O R nd A) e) x0 && !(hs ((hdE B Hd O R nd A) e) y0))) (2 ^ A)))) ∧ (True)) (wB D (va_A (wM cI cZ ad th N A R kw an nd wt B Hd O HL CO) sz) (fun u9 : (Int32) × (Nat → Int32) × (Nat → Bool) × (Bool) => (wM cI cZ ad (u9.1) N A R (u9.2.2.2) an nd wt B Hd O (u9.2.1) (u9.2.2.1)))) (va_A (wM cI cZ ad th N A R kw an nd wt B Hd O HL CO) sz)) 0 0 (va_A (wM cI cZ ad th N A R kw an nd wt B Hd O HL CO) sz) := by
  refine Met.ofW (cc := cX3_implies) (maxL := 3) (ret := (some .boolean)) (by decide) rfl ?_
  intro p e s m args below meth c s₁ BB hml hv
  obtain ⟨rfl, hsz, hP, hK, hD0⟩ := hv
  have hx := BB.exec
  have hb := BB.bytes
  have hrt := BB.returns
  have hts := atoms_spec (ws := wsX3_implies) BB.pre
  have hown : s.vm.findClass RX3 = some m.cls := findClass_of_methodNamed BB.named
  have hlk := BB.notSynchronized
  subst hsz
  have hD := hD0.self (sz := s.heap.size)
  generalize hAe : va_A (wM cI cZ ad th N A R kw an nd wt B Hd O HL CO) s.heap.size = Ap at hD ⊢
  have hAp : ∀ q : Nat, s.heap.size ≤ q → Ap q := fun q h => by rw [← hAe]; exact Or.inr h
  have hS : va_S Ap s.heap s.heap [] := va_S.rf
  have hl := lv_entry ([.ref (ad 0), .int (x0), .int (y0)]) (n := 3) (Nat.le_of_ble_eq_true rfl)
  rw [lg_entry_eq]
  generalize (lg_sl ([.ref (ad 0), .int (x0), .int (y0)]) ++ List.replicate (3 - (lg_sl ([.ref (ad 0), .int (x0), .int (y0)])).length) Slot.unset).toArray = ls at hl ⊢
  have hl : lv_has ls 3 [(0, .ref (ad 0)), (1, .int (x0)), (2, .int (y0))] := hl
  have h512 : 2 ^ A ≤ 512 := pow9 hA
  have hpos : 0 < 2 ^ A := Nat.two_pow_pos A
  refine lv_aload_n hx hb dX3_implies_0 rfl (lv_at hl 0 rfl) ?_
  refine lv_iload_n hx hb dX3_implies_1 rfl (lv_at hl 1 rfl) ?_
  refine lv_iload_n hx hb dX3_implies_2 rfl (lv_at hl 2 rfl) ?_
  refine mu_i (wr := []) (va_runV (As := [.int (x0), .int (y0)]) (rest := []) ⟨hx, hb, hml, hown, hts⟩ (c_X3_asksPair l D cI cZ ad (th) (N) (A) (R) (kw) (an) (nd) (wt) (B) (Hd) (O) (HL) (CO) (x0) (y0) (by omega) (by omega) (hn) (hH) (hN) (hkw) (s.heap).size) (cwV 2 hts gX3_implies_X3_asksPair rfl rfl rfl (by decide +kernel) ⟨Nat.le_of_ble_eq_true rfl, Nat.le_of_ble_eq_true rfl⟩) (prw_V (q0 := 0) (ci := 3) (hP.sub (ws' := (wM cI cZ ad th N A R kw an nd wt B Hd O HL CO)) [0, 1, 2, 3, 4, 5, 6, 7, 8] rfl) (hD.sub (ws' := (wM cI cZ ad th N A R kw an nd wt B Hd O HL CO)) [0, 1, 2, 3, 4, 5, 6, 7, 8] (by decide) rfl) hK rfl rfl) rfl rfl hl.1 rfl (lv_room (Nat.le_of_ble_eq_true rfl)) dX3_implies_3 ⟨Nat.le_of_ble_eq_true rfl, Nat.le_of_ble_eq_true rfl⟩) hP hD hS hAp [0, 1, 2, 3, 4, 5, 6, 7, 8] [] rfl rfl (by decide) (by decide) (fun r_3 u_3 H locs hq_3 hP hD hS => ?_)
  obtain ⟨th9_3, HL9_3, CO9_3⟩ := u_3
  obtain ⟨rfl, hthp_3, hkn_3, -⟩ := hq_3
  have hthp_3 : th9_3 = tB (inR x0 N && inR y0 N) := hthp_3
  have hkn_3 : knOK B Hd O R nd A HL9_3 CO9_3 := hkn_3
  have hP : va_P D vwCl (wM cI cZ ad th9_3 N A R true an nd wt B Hd O HL9_3 CO9_3) H := hP
  have hD : va_D Ap (wM cI cZ ad th9_3 N A R true an nd wt B Hd O HL9_3 CO9_3) := hD
  refine lv_if_eq (tgt := 23) hx hb dX3_implies_6 (by decide) (fun c_6 => ?_) (fun c_6 => ?_)
  · skip
    have c_6 := bI_eq0 c_6
    refine lv_iconst (v := 0) hx hb dX3_implies_23 (by decide) ?_
    exact mr_z (v := false) (u := (th9_3, HL9_3, CO9_3, true)) hx hb hrt hlk dX3_implies_24 hS hP hD ⟨(hthp_3), (fun _ => hkn_3), (by intro h1 h2; first | (rw [h1, h2] at c_6; cases c_6; done) | exact congrArg bI (by have h9 := ex_congr (P := (fun j => gd HL9_3 CO9_3 x0 j && (hs (HL9_3 j) y0 == false))) (Q := (fun e => (soE B Hd O R nd A) e && (hs ((hdE B Hd O R nd A) e) x0 && !(hs ((hdE B Hd O R nd A) e) y0)))) (n := 2 ^ A) (fun e he => by unfold gd; rw [knH hkn_3 e he, knC hkn_3 e he]; cases soE B Hd O R nd A e <;> cases hs (hdE B Hd O R nd A e) x0 <;> cases hs (hdE B Hd O R nd A e) y0 <;> rfl); rw [← h9, c_16]; rfl)), trivial⟩
  · skip
    have c_6 := bI_ne0 c_6
    refine lv_aload_n hx hb dX3_implies_9 rfl (lv_at hl 0 rfl) ?_
    refine lv_iload_n hx hb dX3_implies_10 rfl (lv_at hl 1 rfl) ?_
    refine lv_iload_n hx hb dX3_implies_11 rfl (lv_at hl 2 rfl) ?_
    refine lv_iconst (v := 0) hx hb dX3_implies_12 (by decide) ?_
    refine pu_i (va_runV (As := [.int (x0), .int (y0), .int (0)]) (rest := []) ⟨hx, hb, hml, hown, hts⟩ (c_X3_isNever l D cI cZ ad (th9_3) (N) (A) (R) (true) (an) (nd) (wt) (B) (Hd) (O) (HL9_3) (CO9_3) (x0) (y0) (false) (by omega)) (cwV 3 hts gX3_implies_X3_isNever rfl rfl rfl (by decide +kernel) ⟨Nat.le_of_ble_eq_true rfl, Nat.le_of_ble_eq_true rfl⟩) (pre_V (q0 := 0) (ci := 3) (hP.sub (ws' := (wM cI cZ ad th9_3 N A R true an nd wt B Hd O HL9_3 CO9_3)) [0, 1, 2, 3, 4, 5, 6, 7, 8] rfl) hK rfl rfl) rfl rfl hl.1 rfl (lv_room (Nat.le_of_ble_eq_true rfl)) dX3_implies_13 ⟨Nat.zero_le _, Nat.zero_le _⟩) ?_
    refine lv_if_eq (tgt := 23) hx hb dX3_implies_16 (by decide) (fun c_16 => ?_) (fun c_16 => ?_)
    · skip
      have c_16 := bI_eq0 c_16
      have c_16 := nb_f c_16
      refine lv_iconst (v := 0) hx hb dX3_implies_23 (by decide) ?_
      exact mr_z (v := false) (u := (th9_3, HL9_3, CO9_3, true)) hx hb hrt hlk dX3_implies_24 hS hP hD ⟨(hthp_3), (fun _ => hkn_3), (by intro h1 h2; first | (rw [h1, h2] at c_6; cases c_6; done) | exact congrArg bI (by have h9 := ex_congr (P := (fun j => gd HL9_3 CO9_3 x0 j && (hs (HL9_3 j) y0 == false))) (Q := (fun e => (soE B Hd O R nd A) e && (hs ((hdE B Hd O R nd A) e) x0 && !(hs ((hdE B Hd O R nd A) e) y0)))) (n := 2 ^ A) (fun e he => by unfold gd; rw [knH hkn_3 e he, knC hkn_3 e he]; cases soE B Hd O R nd A e <;> cases hs (hdE B Hd O R nd A e) x0 <;> cases hs (hdE B Hd O R nd A e) y0 <;> rfl); rw [← h9, c_16]; rfl)), trivial⟩
    · skip
      have c_16 := bI_ne0 c_16
      have c_16 := nb_t c_16
      refine lv_iconst (v := 1) hx hb dX3_implies_19 (by decide) ?_
      refine lv_goto (tgt := 24) hx hb dX3_implies_20 (by decide) ?_
      exact mr_z (v := true) (u := (th9_3, HL9_3, CO9_3, true)) hx hb hrt hlk dX3_implies_24 hS hP hD ⟨(hthp_3), (fun _ => hkn_3), (by intro h1 h2; first | (rw [h1, h2] at c_6; cases c_6; done) | exact congrArg bI (by have h9 := ex_congr (P := (fun j => gd HL9_3 CO9_3 x0 j && (hs (HL9_3 j) y0 == false))) (Q := (fun e => (soE B Hd O R nd A) e && (hs ((hdE B Hd O R nd A) e) x0 && !(hs ((hdE B Hd O R nd A) e) y0)))) (n := 2 ^ A) (fun e he => by unfold gd; rw [knH hkn_3 e he, knC hkn_3 e he]; cases soE B Hd O R nd A e <;> cases hs (hdE B Hd O R nd A e) x0 <;> cases hs (hdE B Hd O R nd A e) y0 <;> rfl); rw [← h9, c_16]; rfl)), trivial⟩
set_option maxHeartbeats 4000000 in
set_option maxRecDepth 100000 in
theorem c_X3_excludes (l : Launch) (D : va_G) (cI cZ : ClassId) (ad : Nat → Nat) (th : Int32) (N : Nat) (A : Nat) (R : Nat) (kw : Bool) (an : Nat → Int32) (nd : Nat → Int32) (wt : Nat → Int32) (B : Nat → Int32) (Hd : Nat → Int32) (O : Nat → Bool) (HL : Nat → Int32) (CO : Nat → Bool) (x0 : Int32) (y0 : Int32) (hA : A ≤ 9) (hR : R ≤ 40) (hn : N ≤ 24) (hH : okH N Hd R) (hN : okN N nd A) (hkw : kw = true → knOK B Hd O R nd A HL CO) (sz : Nat) : Met l yX3_excludes wsX3_excludes ({ frames := 4, cells := 0, slots := 0, locals := 90 }) (pcW D [(cI, .int), (cZ, .boolean)] sz (wM cI cZ ad th N A R kw an nd wt B Hd O HL CO) [.ref (ad 0), .int (x0), .int (y0)]) (va_Qi (fun (r9 : Int32) (u9 : (Int32) × (Nat → Int32) × (Nat → Bool) × (Bool)) => ((u9.1) = tB (inR x0 N && inR y0 N)) ∧ ((u9.2.2.2) = true → knOK B Hd O R nd A (u9.2.1) (u9.2.2.1)) ∧ (inR x0 N = true → inR y0 N = true → r9 = bI (!(ex (fun e => (soE B Hd O R nd A) e && (hs ((hdE B Hd O R nd A) e) x0 && hs ((hdE B Hd O R nd A) e) y0)) (2 ^ A)))) ∧ (True)) (wB D (va_A (wM cI cZ ad th N A R kw an nd wt B Hd O HL CO) sz) (fun u9 : (Int32) × (Nat → Int32) × (Nat → Bool) × (Bool) => (wM cI cZ ad (u9.1) N A R (u9.2.2.2) an nd wt B Hd O (u9.2.1) (u9.2.2.1)))) (va_A (wM cI cZ ad th N A R kw an nd wt B Hd O HL CO) sz)) 0 0 (va_A (wM cI cZ ad th N A R kw an nd wt B Hd O HL CO) sz) := by
  refine Met.ofW (cc := cX3_excludes) (maxL := 3) (ret := (some .boolean)) (by decide) rfl ?_
  intro p e s m args below meth c s₁ BB hml hv
  obtain ⟨rfl, hsz, hP, hK, hD0⟩ := hv
  have hx := BB.exec
  have hb := BB.bytes
  have hrt := BB.returns
  have hts := atoms_spec (ws := wsX3_excludes) BB.pre
  have hown : s.vm.findClass RX3 = some m.cls := findClass_of_methodNamed BB.named
  have hlk := BB.notSynchronized
  subst hsz
  have hD := hD0.self (sz := s.heap.size)
  generalize hAe : va_A (wM cI cZ ad th N A R kw an nd wt B Hd O HL CO) s.heap.size = Ap at hD ⊢
  have hAp : ∀ q : Nat, s.heap.size ≤ q → Ap q := fun q h => by rw [← hAe]; exact Or.inr h
  have hS : va_S Ap s.heap s.heap [] := va_S.rf
  have hl := lv_entry ([.ref (ad 0), .int (x0), .int (y0)]) (n := 3) (Nat.le_of_ble_eq_true rfl)
  rw [lg_entry_eq]
  generalize (lg_sl ([.ref (ad 0), .int (x0), .int (y0)]) ++ List.replicate (3 - (lg_sl ([.ref (ad 0), .int (x0), .int (y0)])).length) Slot.unset).toArray = ls at hl ⊢
  have hl : lv_has ls 3 [(0, .ref (ad 0)), (1, .int (x0)), (2, .int (y0))] := hl
  have h512 : 2 ^ A ≤ 512 := pow9 hA
  have hpos : 0 < 2 ^ A := Nat.two_pow_pos A
  refine lv_aload_n hx hb dX3_excludes_0 rfl (lv_at hl 0 rfl) ?_
  refine lv_iload_n hx hb dX3_excludes_1 rfl (lv_at hl 1 rfl) ?_
  refine lv_iload_n hx hb dX3_excludes_2 rfl (lv_at hl 2 rfl) ?_
  refine mu_i (wr := []) (va_runV (As := [.int (x0), .int (y0)]) (rest := []) ⟨hx, hb, hml, hown, hts⟩ (c_X3_asksPair l D cI cZ ad (th) (N) (A) (R) (kw) (an) (nd) (wt) (B) (Hd) (O) (HL) (CO) (x0) (y0) (by omega) (by omega) (hn) (hH) (hN) (hkw) (s.heap).size) (cwV 2 hts gX3_excludes_X3_asksPair rfl rfl rfl (by decide +kernel) ⟨Nat.le_of_ble_eq_true rfl, Nat.le_of_ble_eq_true rfl⟩) (prw_V (q0 := 0) (ci := 3) (hP.sub (ws' := (wM cI cZ ad th N A R kw an nd wt B Hd O HL CO)) [0, 1, 2, 3, 4, 5, 6, 7, 8] rfl) (hD.sub (ws' := (wM cI cZ ad th N A R kw an nd wt B Hd O HL CO)) [0, 1, 2, 3, 4, 5, 6, 7, 8] (by decide) rfl) hK rfl rfl) rfl rfl hl.1 rfl (lv_room (Nat.le_of_ble_eq_true rfl)) dX3_excludes_3 ⟨Nat.le_of_ble_eq_true rfl, Nat.le_of_ble_eq_true rfl⟩) hP hD hS hAp [0, 1, 2, 3, 4, 5, 6, 7, 8] [] rfl rfl (by decide) (by decide) (fun r_3 u_3 H locs hq_3 hP hD hS => ?_)
  obtain ⟨th9_3, HL9_3, CO9_3⟩ := u_3
  obtain ⟨rfl, hthp_3, hkn_3, -⟩ := hq_3
  have hthp_3 : th9_3 = tB (inR x0 N && inR y0 N) := hthp_3
  have hkn_3 : knOK B Hd O R nd A HL9_3 CO9_3 := hkn_3
  have hP : va_P D vwCl (wM cI cZ ad th9_3 N A R true an nd wt B Hd O HL9_3 CO9_3) H := hP
  have hD : va_D Ap (wM cI cZ ad th9_3 N A R true an nd wt B Hd O HL9_3 CO9_3) := hD
  refine lv_if_eq (tgt := 23) hx hb dX3_excludes_6 (by decide) (fun c_6 => ?_) (fun c_6 => ?_)
  · skip
    have c_6 := bI_eq0 c_6
    refine lv_iconst (v := 0) hx hb dX3_excludes_23 (by decide) ?_
    exact mr_z (v := false) (u := (th9_3, HL9_3, CO9_3, true)) hx hb hrt hlk dX3_excludes_24 hS hP hD ⟨(hthp_3), (fun _ => hkn_3), (by intro h1 h2; first | (rw [h1, h2] at c_6; cases c_6; done) | exact congrArg bI (by have h9 := ex_congr (P := (fun j => gd HL9_3 CO9_3 x0 j && (hs (HL9_3 j) y0 == true))) (Q := (fun e => (soE B Hd O R nd A) e && (hs ((hdE B Hd O R nd A) e) x0 && hs ((hdE B Hd O R nd A) e) y0))) (n := 2 ^ A) (fun e he => by unfold gd; rw [knH hkn_3 e he, knC hkn_3 e he]; cases soE B Hd O R nd A e <;> cases hs (hdE B Hd O R nd A e) x0 <;> cases hs (hdE B Hd O R nd A e) y0 <;> rfl); rw [← h9, c_16]; rfl)), trivial⟩
  · skip
    have c_6 := bI_ne0 c_6
    refine lv_aload_n hx hb dX3_excludes_9 rfl (lv_at hl 0 rfl) ?_
    refine lv_iload_n hx hb dX3_excludes_10 rfl (lv_at hl 1 rfl) ?_
    refine lv_iload_n hx hb dX3_excludes_11 rfl (lv_at hl 2 rfl) ?_
    refine lv_iconst (v := 1) hx hb dX3_excludes_12 (by decide) ?_
    refine pu_i (va_runV (As := [.int (x0), .int (y0), .int (1)]) (rest := []) ⟨hx, hb, hml, hown, hts⟩ (c_X3_isNever l D cI cZ ad (th9_3) (N) (A) (R) (true) (an) (nd) (wt) (B) (Hd) (O) (HL9_3) (CO9_3) (x0) (y0) (true) (by omega)) (cwV 3 hts gX3_excludes_X3_isNever rfl rfl rfl (by decide +kernel) ⟨Nat.le_of_ble_eq_true rfl, Nat.le_of_ble_eq_true rfl⟩) (pre_V (q0 := 0) (ci := 3) (hP.sub (ws' := (wM cI cZ ad th9_3 N A R true an nd wt B Hd O HL9_3 CO9_3)) [0, 1, 2, 3, 4, 5, 6, 7, 8] rfl) hK rfl rfl) rfl rfl hl.1 rfl (lv_room (Nat.le_of_ble_eq_true rfl)) dX3_excludes_13 ⟨Nat.zero_le _, Nat.zero_le _⟩) ?_
    refine lv_if_eq (tgt := 23) hx hb dX3_excludes_16 (by decide) (fun c_16 => ?_) (fun c_16 => ?_)
    · skip
      have c_16 := bI_eq0 c_16
      have c_16 := nb_f c_16
      refine lv_iconst (v := 0) hx hb dX3_excludes_23 (by decide) ?_
      exact mr_z (v := false) (u := (th9_3, HL9_3, CO9_3, true)) hx hb hrt hlk dX3_excludes_24 hS hP hD ⟨(hthp_3), (fun _ => hkn_3), (by intro h1 h2; first | (rw [h1, h2] at c_6; cases c_6; done) | exact congrArg bI (by have h9 := ex_congr (P := (fun j => gd HL9_3 CO9_3 x0 j && (hs (HL9_3 j) y0 == true))) (Q := (fun e => (soE B Hd O R nd A) e && (hs ((hdE B Hd O R nd A) e) x0 && hs ((hdE B Hd O R nd A) e) y0))) (n := 2 ^ A) (fun e he => by unfold gd; rw [knH hkn_3 e he, knC hkn_3 e he]; cases soE B Hd O R nd A e <;> cases hs (hdE B Hd O R nd A e) x0 <;> cases hs (hdE B Hd O R nd A e) y0 <;> rfl); rw [← h9, c_16]; rfl)), trivial⟩
    · skip
      have c_16 := bI_ne0 c_16
      have c_16 := nb_t c_16
      refine lv_iconst (v := 1) hx hb dX3_excludes_19 (by decide) ?_
      refine lv_goto (tgt := 24) hx hb dX3_excludes_20 (by decide) ?_
      exact mr_z (v := true) (u := (th9_3, HL9_3, CO9_3, true)) hx hb hrt hlk dX3_excludes_24 hS hP hD ⟨(hthp_3), (fun _ => hkn_3), (by intro h1 h2; first | (rw [h1, h2] at c_6; cases c_6; done) | exact congrArg bI (by have h9 := ex_congr (P := (fun j => gd HL9_3 CO9_3 x0 j && (hs (HL9_3 j) y0 == true))) (Q := (fun e => (soE B Hd O R nd A) e && (hs ((hdE B Hd O R nd A) e) x0 && hs ((hdE B Hd O R nd A) e) y0))) (n := 2 ^ A) (fun e he => by unfold gd; rw [knH hkn_3 e he, knC hkn_3 e he]; cases soE B Hd O R nd A e <;> cases hs (hdE B Hd O R nd A e) x0 <;> cases hs (hdE B Hd O R nd A e) y0 <;> rfl); rw [← h9, c_16]; rfl)), trivial⟩
set_option maxHeartbeats 4000000 in
set_option maxRecDepth 100000 in
theorem c_X3_digest (l : Launch) (D : va_G) (cI cZ : ClassId) (ad : Nat → Nat) (th : Int32) (N : Nat) (A : Nat) (R : Nat) (kw : Bool) (an : Nat → Int32) (nd : Nat → Int32) (wt : Nat → Int32) (B : Nat → Int32) (Hd : Nat → Int32) (O : Nat → Bool) (HL : Nat → Int32) (CO : Nat → Bool) (hA : A ≤ 9) (hR : R ≤ 40) (hn : N ≤ 24) (hH : okH N Hd R) (hN : okN N nd A) (hkw : kw = true → knOK B Hd O R nd A HL CO) (sz : Nat) : Met l yX3_digest wsX3_digest ({ frames := 5, cells := 0, slots := 0, locals := 119 }) (pcW D [(cI, .int), (cZ, .boolean)] sz (wM cI cZ ad th N A R kw an nd wt B Hd O HL CO) [.ref (ad 0)]) (va_Ql (fun (r9 : Int64) (u9 : (Nat → Int32) × (Nat → Bool)) => (r9 = dgE an wt B Hd O N A R (fun k e => lbM (hdE B Hd O R nd A) (soE B Hd O R nd A) (nI k) e) (fun e => ngM (soE B Hd O R nd A) e) (fun e => woM A (soE B Hd O R nd A) e)) ∧ (knOK B Hd O R nd A (u9.1) (u9.2)) ∧ (True)) (wB D (va_A (wM cI cZ ad th N A R kw an nd wt B Hd O HL CO) sz) (fun u9 : (Nat → Int32) × (Nat → Bool) => (wM cI cZ ad 0 N A R true an nd wt B Hd O (u9.1) (u9.2)))) (va_A (wM cI cZ ad th N A R kw an nd wt B Hd O HL CO) sz)) 0 0 (va_A (wM cI cZ ad th N A R kw an nd wt B Hd O HL CO) sz) := by
  refine Met.ofW (cc := cX3_digest) (maxL := 4) (ret := (some .long)) (by decide) rfl ?_
  intro p e s m args below meth c s₁ BB hml hv
  obtain ⟨rfl, hsz, hP, hK, hD0⟩ := hv
  have hx := BB.exec
  have hb := BB.bytes
  have hrt := BB.returns
  have hts := atoms_spec (ws := wsX3_digest) BB.pre
  have hown : s.vm.findClass RX3 = some m.cls := findClass_of_methodNamed BB.named
  have hlk := BB.notSynchronized
  subst hsz
  have hD := hD0.self (sz := s.heap.size)
  generalize hAe : va_A (wM cI cZ ad th N A R kw an nd wt B Hd O HL CO) s.heap.size = Ap at hD ⊢
  have hAp : ∀ q : Nat, s.heap.size ≤ q → Ap q := fun q h => by rw [← hAe]; exact Or.inr h
  have hS : va_S Ap s.heap s.heap [] := va_S.rf
  have f9 := hts (.fieldLink RX3 9 "AssumptionKeeperModel" "assumptionNumbers" "[I") (by decide +kernel)
  have f16 := hts (.fieldLink RX3 16 "AssumptionKeeperModel" "weights" "[I") (by decide +kernel)
  have f19 := hts (.fieldLink RX3 19 "AssumptionKeeperModel" "bodies" "[I") (by decide +kernel)
  have f22 := hts (.fieldLink RX3 22 "AssumptionKeeperModel" "heads" "[I") (by decide +kernel)
  have f25 := hts (.fieldLink RX3 25 "AssumptionKeeperModel" "areOn" "[Z") (by decide +kernel)
  have f35 := hts (.fieldLink RX3 35 "AssumptionKeeperModel" "thrown" "I") (by decide +kernel)
  have f39 := hts (.fieldLink RX3 39 "AssumptionKeeperModel" "nodes" "I") (by decide +kernel)
  have f42 := hts (.fieldLink RX3 42 "AssumptionKeeperModel" "assumptions" "I") (by decide +kernel)
  have f66 := hts (.fieldLink RX3 66 "AssumptionKeeperModel" "rules" "I") (by decide +kernel)
  have hin3 : ∀ w ∈ u_ws RX3 TX3 13, w ∈ wsX3_digest := by decide +kernel
  have hl := lv_entry ([.ref (ad 0)]) (n := 4) (Nat.le_of_ble_eq_true rfl)
  rw [lg_entry_eq]
  generalize (lg_sl ([.ref (ad 0)]) ++ List.replicate (4 - (lg_sl ([.ref (ad 0)])).length) Slot.unset).toArray = ls at hl ⊢
  have hl : lv_has ls 4 [(0, .ref (ad 0))] := hl
  have h512 : 2 ^ A ≤ 512 := pow9 hA
  have hpos : 0 < 2 ^ A := Nat.two_pow_pos A
  refine lv_aload_n hx hb dX3_digest_0 rfl (lv_at hl 0 rfl) ?_
  refine lv_iconst (v := 0) hx hb dX3_digest_1 (by decide) ?_
  refine va_put (D := D) (ci := 3) (v := .int (0)) (ty := .int) (C := RX3) (T := TX3) (N := 13) hx hb hts hin3 tyX3 tyX3_ok nmX3 hown hK.1 hP hD hS 0 rfl rfl 0 (by decide) f35 (fun _ h9 => h9) rfl (by decide +kernel) rfl rfl (Nat.le_of_ble_eq_true rfl) dX3_digest_2 (fun H locs hP hD hS => ?_)
  have hP : va_P D vwCl (wM cI cZ ad 0 N A R kw an nd wt B Hd O HL CO) H := hP
  have hD : va_D Ap (wM cI cZ ad 0 N A R kw an nd wt B Hd O HL CO) := hD
  refine lv_aload_n hx hb dX3_digest_5 rfl (lv_at hl 0 rfl) ?_
  refine mu_v (wr := []) (va_runV (As := []) (rest := []) ⟨hx, hb, hml, hown, hts⟩ (c_X3_know l D cI cZ ad (0) (N) (A) (R) (kw) (an) (nd) (wt) (B) (Hd) (O) (HL) (CO) (by omega) (by omega) (hn) (hH) (hN) (hkw) (H).size) (cwV 0 hts gX3_digest_X3_know rfl rfl rfl (by decide +kernel) ⟨Nat.le_of_ble_eq_true rfl, Nat.le_of_ble_eq_true rfl⟩) (prw_V (q0 := 0) (ci := 3) (hP.sub (ws' := (wM cI cZ ad 0 N A R kw an nd wt B Hd O HL CO)) [0, 1, 2, 3, 4, 5, 6, 7, 8] rfl) (hD.sub (ws' := (wM cI cZ ad 0 N A R kw an nd wt B Hd O HL CO)) [0, 1, 2, 3, 4, 5, 6, 7, 8] (by decide) rfl) hK rfl rfl) rfl rfl hl.1 rfl (lv_room (Nat.le_of_ble_eq_true rfl)) dX3_digest_6 ⟨Nat.le_of_ble_eq_true rfl, Nat.le_of_ble_eq_true rfl⟩) hP hD hS hAp [0, 1, 2, 3, 4, 5, 6, 7, 8] [] rfl rfl (by decide) (by decide) (fun u_6 H locs hq_6 hP hD hS => ?_)
  obtain ⟨HL9_6, CO9_6⟩ := u_6
  obtain ⟨hkn_6, -⟩ := hq_6
  have hkn_6 : knOK B Hd O R nd A HL9_6 CO9_6 := hkn_6
  have hP : va_P D vwCl (wM cI cZ ad 0 N A R true an nd wt B Hd O HL9_6 CO9_6) H := hP
  have hD : va_D Ap (wM cI cZ ad 0 N A R true an nd wt B Hd O HL9_6 CO9_6) := hD
  refine lv_ldc2 hx hb hown (hts (.constantLong RX3 132 (3503)) (by decide +kernel)) dX3_digest_9 ?_
  refine lv_aload_n hx hb dX3_digest_12 rfl (lv_at hl 0 rfl) ?_
  refine va_get (D := D) (ci := 3) (v := .int (nI (N))) (C := RX3) (T := TX3) (N := 13) hx hb hts hin3 hown hK.1 hP 0 rfl rfl 1 (by decide) f39 (fun _ h9 => h9) rfl dX3_digest_13 ?_
  refine lv_i2l hx hb dX3_digest_16 rfl ?_
  refine lv_ladd hx hb dX3_digest_17 ?_
  refine lv_lstore_n (lv' := [(1, .long ((3503) + ((nI (N)).toInt64))), (0, .ref (ad 0))]) hx hb dX3_digest_18 rfl hl (by decide) rfl (fun ls hl => ?_)
  refine lv_iconst (v := nI (0)) hx hb dX3_digest_19 (by decide) ?_
  refine lv_istore_n (lv' := [(3, .int (nI (0))), (1, .long ((3503) + ((nI (N)).toInt64))), (0, .ref (ad 0))]) hx hb dX3_digest_20 rfl hl (by decide) rfl (fun ls hl => ?_)
  have lp_21 : ∀ (n21 i : Nat) (v1 : Int64) (v3 : Int32), i ≤ N → N + 1 ≤ i + n21 → v1 = dgN an (fun k e => lbM HL9_6 CO9_6 (nI k) e) (2 ^ A) (mx 113 (nI N).toInt64) i → v3 = nI (i) → ∀ ls : Array Slot, lv_has ls 4 [(0, .ref (ad 0)), (1, .long (v1)), (3, .int (v3))] → W p l e (headSpec wsX3_digest ({ frames := 5, cells := 0, slots := 0, locals := 119 })).room s m ([.ref (ad 0)]).toArray below meth c H locs 0 0 (MQ below (va_Ql (fun (r9 : Int64) (u9 : (Nat → Int32) × (Nat → Bool)) => (r9 = dgE an wt B Hd O N A R (fun k e => lbM (hdE B Hd O R nd A) (soE B Hd O R nd A) (nI k) e) (fun e => ngM (soE B Hd O R nd A) e) (fun e => woM A (soE B Hd O R nd A) e)) ∧ (knOK B Hd O R nd A (u9.1) (u9.2)) ∧ (True)) (wB D Ap (fun u9 : (Nat → Int32) × (Nat → Bool) => (wM cI cZ ad 0 N A R true an nd wt B Hd O (u9.1) (u9.2)))) Ap) ([.ref (ad 0)]).toArray s 0 0 Ap) (F0 m 21 ls []) := by
    intro n21
    induction n21 with
    | zero => intro i v1 v3 h1 h2; exact absurd h2 (by omega)
    | succ n21 ih21 =>
      intro i v1 v3 hi21 hn21  e1 e3  ls hl
      subst e1 e3
      have hl : lv_has ls 4 [(0, .ref (ad 0)), (1, .long (dgN an (fun k e => lbM HL9_6 CO9_6 (nI k) e) (2 ^ A) (mx 113 (nI N).toInt64) i)), (3, .int (nI (i)))] := hl
      refine lv_iload_n hx hb dX3_digest_21 rfl (lv_at hl 2 rfl) ?_
      refine lv_aload_n hx hb dX3_digest_22 rfl (lv_at hl 0 rfl) ?_
      refine va_get (D := D) (ci := 3) (v := .int (nI (N))) (C := RX3) (T := TX3) (N := 13) hx hb hts hin3 hown hK.1 hP 0 rfl rfl 1 (by decide) f39 (fun _ h9 => h9) rfl dX3_digest_23 ?_
      refine lv_icmp_ge (tgt := 55) hx hb dX3_digest_26 (by decide) (fun c_26 => ?_) (fun c_26 => ?_)
      · skip
        have c_26 := (qI_le (a := N) (b := i) (by omega) (by omega)).mp c_26
        refine lv_lload_n hx hb dX3_digest_55 rfl (lv_at hl 1 rfl) ?_
        refine lv_ldc2 hx hb hown (hts (.constantLong RX3 130 (31)) (by decide +kernel)) dX3_digest_56 ?_
        refine lv_lmul hx hb dX3_digest_59 ?_
        refine lv_aload_n hx hb dX3_digest_60 rfl (lv_at hl 0 rfl) ?_
        refine va_get (D := D) (ci := 3) (v := .int (nI (A))) (C := RX3) (T := TX3) (N := 13) hx hb hts hin3 hown hK.1 hP 0 rfl rfl 3 (by decide) f42 (fun _ h9 => h9) rfl dX3_digest_61 ?_
        refine lv_i2l hx hb dX3_digest_64 rfl ?_
        refine lv_ladd hx hb dX3_digest_65 ?_
        refine lv_lstore_n (lv' := [(1, .long (((dgN an (fun k e => lbM HL9_6 CO9_6 (nI k) e) (2 ^ A) (mx 113 (nI N).toInt64) i) * (31)) + ((nI (A)).toInt64))), (0, .ref (ad 0)), (3, .int (nI (i)))]) hx hb dX3_digest_66 rfl hl (by decide) rfl (fun ls hl => ?_)
        refine lv_iconst (v := nI (0)) hx hb dX3_digest_67 (by decide) ?_
        refine lv_istore_n (lv' := [(3, .int (nI (0))), (1, .long (((dgN an (fun k e => lbM HL9_6 CO9_6 (nI k) e) (2 ^ A) (mx 113 (nI N).toInt64) i) * (31)) + ((nI (A)).toInt64))), (0, .ref (ad 0))]) hx hb dX3_digest_68 rfl hl (by decide) rfl (fun ls hl => ?_)
        have lp_69 : ∀ (n69 i2 : Nat) (v1 : Int64) (v3 : Int32), i2 ≤ A → A + 1 ≤ i2 + n69 → v1 = dgW wt (mx (dgN an (fun k e => lbM HL9_6 CO9_6 (nI k) e) (2 ^ A) (mx 113 (nI N).toInt64) N) (nI A).toInt64) i2 → v3 = nI (i2) → ∀ ls : Array Slot, lv_has ls 4 [(0, .ref (ad 0)), (1, .long (v1)), (3, .int (v3))] → W p l e (headSpec wsX3_digest ({ frames := 5, cells := 0, slots := 0, locals := 119 })).room s m ([.ref (ad 0)]).toArray below meth c H locs 0 0 (MQ below (va_Ql (fun (r9 : Int64) (u9 : (Nat → Int32) × (Nat → Bool)) => (r9 = dgE an wt B Hd O N A R (fun k e => lbM (hdE B Hd O R nd A) (soE B Hd O R nd A) (nI k) e) (fun e => ngM (soE B Hd O R nd A) e) (fun e => woM A (soE B Hd O R nd A) e)) ∧ (knOK B Hd O R nd A (u9.1) (u9.2)) ∧ (True)) (wB D Ap (fun u9 : (Nat → Int32) × (Nat → Bool) => (wM cI cZ ad 0 N A R true an nd wt B Hd O (u9.1) (u9.2)))) Ap) ([.ref (ad 0)]).toArray s 0 0 Ap) (F0 m 69 ls []) := by
          intro n69
          induction n69 with
          | zero => intro i2 v1 v3 h1 h2; exact absurd h2 (by omega)
          | succ n69 ih69 =>
            intro i2 v1 v3 hi69 hn69  e1 e3  ls hl
            subst e1 e3
            have hl : lv_has ls 4 [(0, .ref (ad 0)), (1, .long (dgW wt (mx (dgN an (fun k e => lbM HL9_6 CO9_6 (nI k) e) (2 ^ A) (mx 113 (nI N).toInt64) N) (nI A).toInt64) i2)), (3, .int (nI (i2)))] := hl
            refine lv_iload_n hx hb dX3_digest_69 rfl (lv_at hl 2 rfl) ?_
            refine lv_aload_n hx hb dX3_digest_70 rfl (lv_at hl 0 rfl) ?_
            refine va_get (D := D) (ci := 3) (v := .int (nI (A))) (C := RX3) (T := TX3) (N := 13) hx hb hts hin3 hown hK.1 hP 0 rfl rfl 3 (by decide) f42 (fun _ h9 => h9) rfl dX3_digest_71 ?_
            refine lv_icmp_ge (tgt := 97) hx hb dX3_digest_74 (by decide) (fun c_74 => ?_) (fun c_74 => ?_)
            · skip
              have c_74 := (qI_le (a := A) (b := i2) (by omega) (by omega)).mp c_74
              refine lv_lload_n hx hb dX3_digest_97 rfl (lv_at hl 1 rfl) ?_
              refine lv_ldc2 hx hb hown (hts (.constantLong RX3 130 (31)) (by decide +kernel)) dX3_digest_98 ?_
              refine lv_lmul hx hb dX3_digest_101 ?_
              refine lv_aload_n hx hb dX3_digest_102 rfl (lv_at hl 0 rfl) ?_
              refine va_get (D := D) (ci := 3) (v := .int (nI (R))) (C := RX3) (T := TX3) (N := 13) hx hb hts hin3 hown hK.1 hP 0 rfl rfl 6 (by decide) f66 (fun _ h9 => h9) rfl dX3_digest_103 ?_
              refine lv_i2l hx hb dX3_digest_106 rfl ?_
              refine lv_ladd hx hb dX3_digest_107 ?_
              refine lv_lstore_n (lv' := [(1, .long (((dgW wt (mx (dgN an (fun k e => lbM HL9_6 CO9_6 (nI k) e) (2 ^ A) (mx 113 (nI N).toInt64) N) (nI A).toInt64) i2) * (31)) + ((nI (R)).toInt64))), (0, .ref (ad 0)), (3, .int (nI (i2)))]) hx hb dX3_digest_108 rfl hl (by decide) rfl (fun ls hl => ?_)
              refine lv_iconst (v := nI (0)) hx hb dX3_digest_109 (by decide) ?_
              refine lv_istore_n (lv' := [(3, .int (nI (0))), (1, .long (((dgW wt (mx (dgN an (fun k e => lbM HL9_6 CO9_6 (nI k) e) (2 ^ A) (mx 113 (nI N).toInt64) N) (nI A).toInt64) i2) * (31)) + ((nI (R)).toInt64))), (0, .ref (ad 0))]) hx hb dX3_digest_110 rfl hl (by decide) rfl (fun ls hl => ?_)
              have lp_111 : ∀ (n111 i3 : Nat) (v1 : Int64) (v3 : Int32), i3 ≤ R → R + 1 ≤ i3 + n111 → v1 = mxR B Hd O (mx (dgW wt (mx (dgN an (fun k e => lbM HL9_6 CO9_6 (nI k) e) (2 ^ A) (mx 113 (nI N).toInt64) N) (nI A).toInt64) A) (nI R).toInt64) i3 → v3 = nI (i3) → ∀ ls : Array Slot, lv_has ls 4 [(0, .ref (ad 0)), (1, .long (v1)), (3, .int (v3))] → W p l e (headSpec wsX3_digest ({ frames := 5, cells := 0, slots := 0, locals := 119 })).room s m ([.ref (ad 0)]).toArray below meth c H locs 0 0 (MQ below (va_Ql (fun (r9 : Int64) (u9 : (Nat → Int32) × (Nat → Bool)) => (r9 = dgE an wt B Hd O N A R (fun k e => lbM (hdE B Hd O R nd A) (soE B Hd O R nd A) (nI k) e) (fun e => ngM (soE B Hd O R nd A) e) (fun e => woM A (soE B Hd O R nd A) e)) ∧ (knOK B Hd O R nd A (u9.1) (u9.2)) ∧ (True)) (wB D Ap (fun u9 : (Nat → Int32) × (Nat → Bool) => (wM cI cZ ad 0 N A R true an nd wt B Hd O (u9.1) (u9.2)))) Ap) ([.ref (ad 0)]).toArray s 0 0 Ap) (F0 m 111 ls []) := by
                intro n111
                induction n111 with
                | zero => intro i3 v1 v3 h1 h2; exact absurd h2 (by omega)
                | succ n111 ih111 =>
                  intro i3 v1 v3 hi111 hn111  e1 e3  ls hl
                  subst e1 e3
                  have hl : lv_has ls 4 [(0, .ref (ad 0)), (1, .long (mxR B Hd O (mx (dgW wt (mx (dgN an (fun k e => lbM HL9_6 CO9_6 (nI k) e) (2 ^ A) (mx 113 (nI N).toInt64) N) (nI A).toInt64) A) (nI R).toInt64) i3)), (3, .int (nI (i3)))] := hl
                  refine lv_iload_n hx hb dX3_digest_111 rfl (lv_at hl 2 rfl) ?_
                  refine lv_aload_n hx hb dX3_digest_112 rfl (lv_at hl 0 rfl) ?_
                  refine va_get (D := D) (ci := 3) (v := .int (nI (R))) (C := RX3) (T := TX3) (N := 13) hx hb hts hin3 hown hK.1 hP 0 rfl rfl 6 (by decide) f66 (fun _ h9 => h9) rfl dX3_digest_113 ?_
                  refine lv_icmp_ge (tgt := 170) hx hb dX3_digest_116 (by decide) (fun c_116 => ?_) (fun c_116 => ?_)
                  · skip
                    have c_116 := (qI_le (a := R) (b := i3) (by omega) (by omega)).mp c_116
                    refine lv_aload_n hx hb dX3_digest_170 rfl (lv_at hl 0 rfl) ?_
                    refine lv_aload_n hx hb dX3_digest_171 rfl (lv_at hl 0 rfl) ?_
                    refine lv_lload_n hx hb dX3_digest_172 rfl (lv_at hl 1 rfl) ?_
                    refine lv_iconst (v := 1) hx hb dX3_digest_173 (by decide) ?_
                    refine lv_iconst (v := 0) hx hb dX3_digest_174 (by decide) ?_
                    refine pu_l (va_runV (As := [.long (mxR B Hd O (mx (dgW wt (mx (dgN an (fun k e => lbM HL9_6 CO9_6 (nI k) e) (2 ^ A) (mx 113 (nI N).toInt64) N) (nI A).toInt64) A) (nI R).toInt64) i3), .int (1), .int (0)]) (rest := [.ref (ad 0)]) ⟨hx, hb, hml, hown, hts⟩ (c_X3_digestAll_1 l D cI cZ ad (0) (N) (A) (R) (true) (an) (nd) (wt) (B) (Hd) (O) (HL9_6) (CO9_6) (mxR B Hd O (mx (dgW wt (mx (dgN an (fun k e => lbM HL9_6 CO9_6 (nI k) e) (2 ^ A) (mx 113 (nI N).toInt64) N) (nI A).toInt64) A) (nI R).toInt64) i3) (0) (by omega)) (cwV 3 hts gX3_digest_X3_digestAll rfl rfl rfl (by decide +kernel) ⟨Nat.le_of_ble_eq_true rfl, Nat.le_of_ble_eq_true rfl⟩) (pre_V (q0 := 0) (ci := 3) (hP.sub (ws' := (wM cI cZ ad 0 N A R true an nd wt B Hd O HL9_6 CO9_6)) [0, 1, 2, 3, 4, 5, 6, 7, 8] rfl) hK rfl rfl) rfl rfl hl.1 rfl (lv_room (Nat.le_of_ble_eq_true rfl)) dX3_digest_175 ⟨Nat.zero_le _, Nat.zero_le _⟩) ?_
                    refine lv_iconst (v := 2) hx hb dX3_digest_178 (by decide) ?_
                    refine lv_iconst (v := 0) hx hb dX3_digest_179 (by decide) ?_
                    refine pu_l (va_runV (As := [.long (mxS (fun e => ngM CO9_6 e) (mxR B Hd O (mx (dgW wt (mx (dgN an (fun k e => lbM HL9_6 CO9_6 (nI k) e) (2 ^ A) (mx 113 (nI N).toInt64) N) (nI A).toInt64) A) (nI R).toInt64) i3) (2 ^ A)), .int (2), .int (0)]) (rest := []) ⟨hx, hb, hml, hown, hts⟩ (c_X3_digestAll_2 l D cI cZ ad (0) (N) (A) (R) (true) (an) (nd) (wt) (B) (Hd) (O) (HL9_6) (CO9_6) (mxS (fun e => ngM CO9_6 e) (mxR B Hd O (mx (dgW wt (mx (dgN an (fun k e => lbM HL9_6 CO9_6 (nI k) e) (2 ^ A) (mx 113 (nI N).toInt64) N) (nI A).toInt64) A) (nI R).toInt64) i3) (2 ^ A)) (0) (by omega)) (cwV 3 hts gX3_digest_X3_digestAll rfl rfl rfl (by decide +kernel) ⟨Nat.le_of_ble_eq_true rfl, Nat.le_of_ble_eq_true rfl⟩) (pre_V (q0 := 0) (ci := 3) (hP.sub (ws' := (wM cI cZ ad 0 N A R true an nd wt B Hd O HL9_6 CO9_6)) [0, 1, 2, 3, 4, 5, 6, 7, 8] rfl) hK rfl rfl) rfl rfl hl.1 rfl (lv_room (Nat.le_of_ble_eq_true rfl)) dX3_digest_180 ⟨Nat.zero_le _, Nat.zero_le _⟩) ?_
                    exact mr_l (u := (HL9_6, CO9_6)) hx hb hrt hlk dX3_digest_183 hS hP hD ⟨(by have hi9 : i3 = R := (by omega); rw [hi9]; exact dgE_congr (fun k hk => lbJ hkn_6) (ngJ hkn_6) (woJ hkn_6)), (hkn_6), trivial⟩
                  · skip
                    have c_116 := mt (qI_le (a := R) (b := i3) (by omega) (by omega)).mpr c_116
                    refine lv_lload_n hx hb dX3_digest_119 rfl (lv_at hl 1 rfl) ?_
                    refine lv_ldc2 hx hb hown (hts (.constantLong RX3 130 (31)) (by decide +kernel)) dX3_digest_120 ?_
                    refine lv_lmul hx hb dX3_digest_123 ?_
                    refine lv_aload_n hx hb dX3_digest_124 rfl (lv_at hl 0 rfl) ?_
                    refine va_get (D := D) (ci := 3) (v := .ref (ad 4)) (C := RX3) (T := TX3) (N := 13) hx hb hts hin3 hown hK.1 hP 0 rfl rfl 7 (by decide) f19 (fun _ h9 => h9) rfl dX3_digest_125 ?_
                    refine lv_iload_n hx hb dX3_digest_128 rfl (lv_at hl 2 rfl) ?_
                    refine ai_ (D := D) (f := B) (i := i3) hx hb hK hP 4 0 rfl rfl (by omega) (by decide) dX3_digest_129 ?_
                    refine lv_i2l hx hb dX3_digest_130 rfl ?_
                    refine lv_ladd hx hb dX3_digest_131 ?_
                    refine lv_ldc2 hx hb hown (hts (.constantLong RX3 130 (31)) (by decide +kernel)) dX3_digest_132 ?_
                    refine lv_lmul hx hb dX3_digest_135 ?_
                    refine lv_aload_n hx hb dX3_digest_136 rfl (lv_at hl 0 rfl) ?_
                    refine va_get (D := D) (ci := 3) (v := .ref (ad 5)) (C := RX3) (T := TX3) (N := 13) hx hb hts hin3 hown hK.1 hP 0 rfl rfl 8 (by decide) f22 (fun _ h9 => h9) rfl dX3_digest_137 ?_
                    refine lv_iload_n hx hb dX3_digest_140 rfl (lv_at hl 2 rfl) ?_
                    refine ai_ (D := D) (f := Hd) (i := i3) hx hb hK hP 5 0 rfl rfl (by omega) (by decide) dX3_digest_141 ?_
                    refine lv_i2l hx hb dX3_digest_142 rfl ?_
                    refine lv_ladd hx hb dX3_digest_143 ?_
                    refine lv_ldc2 hx hb hown (hts (.constantLong RX3 130 (31)) (by decide +kernel)) dX3_digest_144 ?_
                    refine lv_lmul hx hb dX3_digest_147 ?_
                    refine lv_aload_n hx hb dX3_digest_148 rfl (lv_at hl 0 rfl) ?_
                    refine va_get (D := D) (ci := 3) (v := .ref (ad 6)) (C := RX3) (T := TX3) (N := 13) hx hb hts hin3 hown hK.1 hP 0 rfl rfl 9 (by decide) f25 (fun _ h9 => h9) rfl dX3_digest_149 ?_
                    refine lv_iload_n hx hb dX3_digest_152 rfl (lv_at hl 2 rfl) ?_
                    refine az_ (D := D) (f := O) (i := i3) hx hb hK hP 6 1 rfl rfl (by omega) (by decide) dX3_digest_153 ?_
                    refine lv_if_eq (tgt := 161) hx hb dX3_digest_154 (by decide) (fun c_154 => ?_) (fun c_154 => ?_)
                    · skip
                      have c_154 := bI_eq0 c_154
                      refine lv_lconst (v := 0) hx hb dX3_digest_161 rfl ?_
                      refine lv_ladd hx hb dX3_digest_162 ?_
                      refine lv_lstore_n (lv' := [(1, .long (((((((mxR B Hd O (mx (dgW wt (mx (dgN an (fun k e => lbM HL9_6 CO9_6 (nI k) e) (2 ^ A) (mx 113 (nI N).toInt64) N) (nI A).toInt64) A) (nI R).toInt64) i3) * (31)) + ((B (i3)).toInt64)) * (31)) + ((Hd (i3)).toInt64)) * (31)) + (0))), (0, .ref (ad 0)), (3, .int (nI (i3)))]) hx hb dX3_digest_163 rfl hl (by decide) rfl (fun ls hl => ?_)
                      refine lv_iinc (v := nI (i3 + 1)) (lv' := [(3, .int (nI (i3 + 1))), (1, .long (((((((mxR B Hd O (mx (dgW wt (mx (dgN an (fun k e => lbM HL9_6 CO9_6 (nI k) e) (2 ^ A) (mx 113 (nI N).toInt64) N) (nI A).toInt64) A) (nI R).toInt64) i3) * (31)) + ((B (i3)).toInt64)) * (31)) + ((Hd (i3)).toInt64)) * (31)) + (0))), (0, .ref (ad 0))]) hx hb dX3_digest_164 hl (k := 2) rfl (nI_1 _) (by decide) rfl (fun ls hl => ?_)
                      refine lv_goto (tgt := 111) hx hb dX3_digest_167 (by decide) ?_
                      exact ih111 (i3 + 1) _ _  (by omega) (by omega)  (by simp only [mxR, mx, c_154]; rfl) (by first | rfl | (simp [mxR, mx, c_26, c_74, c_116, c_154]; done) | (simp only [mxR, mx, c_26, c_74, c_116, c_154]; rfl) | (simp_all [mxR, mx, c_26, c_74, c_116, c_154]; done))  ls (lv_sub hl [2, 1, 0] rfl)
                    · skip
                      have c_154 := bI_ne0 c_154
                      refine lv_lconst (v := 1) hx hb dX3_digest_157 rfl ?_
                      refine lv_goto (tgt := 162) hx hb dX3_digest_158 (by decide) ?_
                      refine lv_ladd hx hb dX3_digest_162 ?_
                      refine lv_lstore_n (lv' := [(1, .long (((((((mxR B Hd O (mx (dgW wt (mx (dgN an (fun k e => lbM HL9_6 CO9_6 (nI k) e) (2 ^ A) (mx 113 (nI N).toInt64) N) (nI A).toInt64) A) (nI R).toInt64) i3) * (31)) + ((B (i3)).toInt64)) * (31)) + ((Hd (i3)).toInt64)) * (31)) + (1))), (0, .ref (ad 0)), (3, .int (nI (i3)))]) hx hb dX3_digest_163 rfl hl (by decide) rfl (fun ls hl => ?_)
                      refine lv_iinc (v := nI (i3 + 1)) (lv' := [(3, .int (nI (i3 + 1))), (1, .long (((((((mxR B Hd O (mx (dgW wt (mx (dgN an (fun k e => lbM HL9_6 CO9_6 (nI k) e) (2 ^ A) (mx 113 (nI N).toInt64) N) (nI A).toInt64) A) (nI R).toInt64) i3) * (31)) + ((B (i3)).toInt64)) * (31)) + ((Hd (i3)).toInt64)) * (31)) + (1))), (0, .ref (ad 0))]) hx hb dX3_digest_164 hl (k := 2) rfl (nI_1 _) (by decide) rfl (fun ls hl => ?_)
                      refine lv_goto (tgt := 111) hx hb dX3_digest_167 (by decide) ?_
                      exact ih111 (i3 + 1) _ _  (by omega) (by omega)  (by simp only [mxR, mx, c_154]; rfl) (by first | rfl | (simp [mxR, mx, c_26, c_74, c_116, c_154]; done) | (simp only [mxR, mx, c_26, c_74, c_116, c_154]; rfl) | (simp_all [mxR, mx, c_26, c_74, c_116, c_154]; done))  ls (lv_sub hl [2, 1, 0] rfl)
              exact lp_111 (R + 1) (0) _ _  (by omega) (by omega)  (by have hi9 : i2 = A := (by omega); rw [hi9]; rfl) (by first | rfl | (simp [mxR, mx, c_26, c_74]; done) | (simp only [mxR, mx, c_26, c_74]; rfl) | (simp_all [mxR, mx, c_26, c_74]; done))  ls (lv_sub hl [2, 1, 0] rfl)
            · skip
              have c_74 := mt (qI_le (a := A) (b := i2) (by omega) (by omega)).mpr c_74
              refine lv_lload_n hx hb dX3_digest_77 rfl (lv_at hl 1 rfl) ?_
              refine lv_ldc2 hx hb hown (hts (.constantLong RX3 130 (31)) (by decide +kernel)) dX3_digest_78 ?_
              refine lv_lmul hx hb dX3_digest_81 ?_
              refine lv_aload_n hx hb dX3_digest_82 rfl (lv_at hl 0 rfl) ?_
              refine va_get (D := D) (ci := 3) (v := .ref (ad 3)) (C := RX3) (T := TX3) (N := 13) hx hb hts hin3 hown hK.1 hP 0 rfl rfl 5 (by decide) f16 (fun _ h9 => h9) rfl dX3_digest_83 ?_
              refine lv_iload_n hx hb dX3_digest_86 rfl (lv_at hl 2 rfl) ?_
              refine ai_ (D := D) (f := wt) (i := i2) hx hb hK hP 3 0 rfl rfl (by omega) (by decide) dX3_digest_87 ?_
              refine lv_i2l hx hb dX3_digest_88 rfl ?_
              refine lv_ladd hx hb dX3_digest_89 ?_
              refine lv_lstore_n (lv' := [(1, .long (((dgW wt (mx (dgN an (fun k e => lbM HL9_6 CO9_6 (nI k) e) (2 ^ A) (mx 113 (nI N).toInt64) N) (nI A).toInt64) i2) * (31)) + ((wt (i2)).toInt64))), (0, .ref (ad 0)), (3, .int (nI (i2)))]) hx hb dX3_digest_90 rfl hl (by decide) rfl (fun ls hl => ?_)
              refine lv_iinc (v := nI (i2 + 1)) (lv' := [(3, .int (nI (i2 + 1))), (1, .long (((dgW wt (mx (dgN an (fun k e => lbM HL9_6 CO9_6 (nI k) e) (2 ^ A) (mx 113 (nI N).toInt64) N) (nI A).toInt64) i2) * (31)) + ((wt (i2)).toInt64))), (0, .ref (ad 0))]) hx hb dX3_digest_91 hl (k := 2) rfl (nI_1 _) (by decide) rfl (fun ls hl => ?_)
              refine lv_goto (tgt := 69) hx hb dX3_digest_94 (by decide) ?_
              exact ih69 (i2 + 1) _ _  (by omega) (by omega)  (by first | rfl | (simp [dgW, mx, c_26, c_74]; done) | (simp only [dgW, mx, c_26, c_74]; rfl) | (simp_all [dgW, mx, c_26, c_74]; done)) (by first | rfl | (simp [dgW, mx, c_26, c_74]; done) | (simp only [dgW, mx, c_26, c_74]; rfl) | (simp_all [dgW, mx, c_26, c_74]; done))  ls (lv_sub hl [2, 1, 0] rfl)
        exact lp_69 (A + 1) (0) _ _  (by omega) (by omega)  (by have hi9 : i = N := (by omega); rw [hi9]; rfl) (by first | rfl | (simp [dgW, mx, c_26]; done) | (simp only [dgW, mx, c_26]; rfl) | (simp_all [dgW, mx, c_26]; done))  ls (lv_sub hl [2, 1, 0] rfl)
      · skip
        have c_26 := mt (qI_le (a := N) (b := i) (by omega) (by omega)).mpr c_26
        refine lv_aload_n hx hb dX3_digest_29 rfl (lv_at hl 0 rfl) ?_
        refine lv_lload_n hx hb dX3_digest_30 rfl (lv_at hl 1 rfl) ?_
        refine lv_ldc2 hx hb hown (hts (.constantLong RX3 130 (31)) (by decide +kernel)) dX3_digest_31 ?_
        refine lv_lmul hx hb dX3_digest_34 ?_
        refine lv_aload_n hx hb dX3_digest_35 rfl (lv_at hl 0 rfl) ?_
        refine va_get (D := D) (ci := 3) (v := .ref (ad 1)) (C := RX3) (T := TX3) (N := 13) hx hb hts hin3 hown hK.1 hP 0 rfl rfl 2 (by decide) f9 (fun _ h9 => h9) rfl dX3_digest_36 ?_
        refine lv_iload_n hx hb dX3_digest_39 rfl (lv_at hl 2 rfl) ?_
        refine ai_ (D := D) (f := an) (i := i) hx hb hK hP 1 0 rfl rfl (by omega) (by decide) dX3_digest_40 ?_
        refine lv_i2l hx hb dX3_digest_41 rfl ?_
        refine lv_ladd hx hb dX3_digest_42 ?_
        refine lv_iconst (v := 0) hx hb dX3_digest_43 (by decide) ?_
        refine lv_iload_n hx hb dX3_digest_44 rfl (lv_at hl 2 rfl) ?_
        refine pu_l (va_runV (As := [.long (((dgN an (fun k e => lbM HL9_6 CO9_6 (nI k) e) (2 ^ A) (mx 113 (nI N).toInt64) i) * (31)) + ((an (i)).toInt64)), .int (0), .int (nI (i))]) (rest := []) ⟨hx, hb, hml, hown, hts⟩ (c_X3_digestAll_0 l D cI cZ ad (0) (N) (A) (R) (true) (an) (nd) (wt) (B) (Hd) (O) (HL9_6) (CO9_6) (((dgN an (fun k e => lbM HL9_6 CO9_6 (nI k) e) (2 ^ A) (mx 113 (nI N).toInt64) i) * (31)) + ((an (i)).toInt64)) (nI (i)) (by omega)) (cwV 3 hts gX3_digest_X3_digestAll rfl rfl rfl (by decide +kernel) ⟨Nat.le_of_ble_eq_true rfl, Nat.le_of_ble_eq_true rfl⟩) (pre_V (q0 := 0) (ci := 3) (hP.sub (ws' := (wM cI cZ ad 0 N A R true an nd wt B Hd O HL9_6 CO9_6)) [0, 1, 2, 3, 4, 5, 6, 7, 8] rfl) hK rfl rfl) rfl rfl hl.1 rfl (lv_room (Nat.le_of_ble_eq_true rfl)) dX3_digest_45 ⟨Nat.zero_le _, Nat.zero_le _⟩) ?_
        refine lv_lstore_n (lv' := [(1, .long (mxS (fun e => lbM HL9_6 CO9_6 (nI (i)) e) (((dgN an (fun k e => lbM HL9_6 CO9_6 (nI k) e) (2 ^ A) (mx 113 (nI N).toInt64) i) * (31)) + ((an (i)).toInt64)) (2 ^ A))), (0, .ref (ad 0)), (3, .int (nI (i)))]) hx hb dX3_digest_48 rfl hl (by decide) rfl (fun ls hl => ?_)
        refine lv_iinc (v := nI (i + 1)) (lv' := [(3, .int (nI (i + 1))), (1, .long (mxS (fun e => lbM HL9_6 CO9_6 (nI (i)) e) (((dgN an (fun k e => lbM HL9_6 CO9_6 (nI k) e) (2 ^ A) (mx 113 (nI N).toInt64) i) * (31)) + ((an (i)).toInt64)) (2 ^ A))), (0, .ref (ad 0))]) hx hb dX3_digest_49 hl (k := 2) rfl (nI_1 _) (by decide) rfl (fun ls hl => ?_)
        refine lv_goto (tgt := 21) hx hb dX3_digest_52 (by decide) ?_
        exact ih21 (i + 1) _ _  (by omega) (by omega)  (by first | rfl | (simp [dgN, mx, c_26]; done) | (simp only [dgN, mx, c_26]; rfl) | (simp_all [dgN, mx, c_26]; done)) (by first | rfl | (simp [dgN, mx, c_26]; done) | (simp only [dgN, mx, c_26]; rfl) | (simp_all [dgN, mx, c_26]; done))  ls (lv_sub hl [2, 1, 0] rfl)
  exact lp_21 (N + 1) (0) _ _  (by omega) (by omega)  (by first | rfl | (simp [dgN, mx]; done) | (simp only [dgN, mx]; rfl) | (simp_all [dgN, mx]; done)) (by first | rfl | (simp [dgN, mx]; done) | (simp only [dgN, mx]; rfl) | (simp_all [dgN, mx]; done))  ls (lv_sub hl [2, 1, 0] rfl)
