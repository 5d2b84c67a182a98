set_option maxHeartbeats 4000000 in
set_option maxRecDepth 100000 in
theorem c_X2_requireNode (l : Launch) (D : va_G) (cI cZ : ClassId) (ad : Nat → Nat) (N : Nat) (A : Nat) (fl : Bool) (an : Nat → Int32) (nd : Nat → Int32) (wt : Nat → Int32) (B : Nat → Int32) (Hd : Nat → Int32) (O : Nat → Bool) (R : Nat) (HL : Nat → Int32) (LB : Nat → Int32) (SO : Nat → Bool) (NG : Nat → Bool) (WO : Nat → Bool) (SA : Nat) (SE : Nat) (x : Int32) (hst : l.stackTraces = false) (sz : Nat) : vx_Met l yX2_requireNode wsX2_requireNode ({ frames := 6, cells := 1, slots := 6, locals := 90 }) (pcX D [(cI, .int), (cZ, .boolean)] sz (wK cI cZ ad N A fl an nd wt B Hd O R HL LB SO NG WO SA SE) [.ref (ad 0), .int (x)]) (va_Qv (fun u9 : Unit => (inR x N = true) ∧ (True)) (wB D (va_A (wK cI cZ ad N A fl an nd wt B Hd O R HL LB SO NG WO SA SE) sz) (fun u9 : Unit => (wK cI cZ ad N A fl an nd wt B Hd O R HL LB SO NG WO SA SE))) (va_A (wK cI cZ ad N A fl an nd wt B Hd O R HL LB SO NG WO SA SE) sz)) (xX D (va_A (wK cI cZ ad N A fl an nd wt B Hd O R HL LB SO NG WO SA SE) sz) (fun (E9 : String) (u9 : Unit) => E9 = "java/lang/IndexOutOfBoundsException" ∧ (inR x N = false)) (fun u9 : Unit => (wK cI cZ ad N A fl an nd wt B Hd O R HL LB SO NG WO SA SE))) 1 6 (va_A (wK cI cZ ad N A fl an nd wt B Hd O R HL LB SO NG WO SA SE) sz) := by
  refine vx_ofW (cc := cX2_requireNode) (maxL := 2) (ret := none) (by decide) rfl ?_
  intro p e s m args below meth c s₁ BB hml htab hv
  obtain ⟨rfl, hsz, hP, hK, hD0, hX, hZ⟩ := hv
  have hx := BB.exec
  have hb := BB.bytes
  have hrt := BB.returns
  have hts := atoms_spec (ws := wsX2_requireNode) BB.pre
  have hown : s.vm.findClass RX2 = some m.cls := findClass_of_methodNamed BB.named
  have hlk := BB.notSynchronized
  subst hsz
  have hD := hD0.self (sz := s.heap.size)
  generalize hAe : va_A (wK cI cZ ad N A fl an nd wt B Hd O R HL LB SO NG WO SA SE) s.heap.size = Ap at hD hZ ⊢
  have hAp : ∀ q : Nat, s.heap.size ≤ q → Ap q := fun q h => by rw [← hAe]; exact Or.inr h
  have hS : va_S Ap s.heap s.heap [] := va_S.rf
  have f33 := hts (.fieldLink RX2 33 "AssumptionKeeper" "nodes" "I") (by decide +kernel)
  have hin2 : ∀ w ∈ u_ws RX2 TX2 8, w ∈ wsX2_requireNode := by decide +kernel
  have ha_94 : ∀ w ∈ (vx_atS RX2 94 "java/lang/IndexOutOfBoundsException" ["java/lang/RuntimeException", "java/lang/Exception"]).filter goodWord, w ∈ wsX2_requireNode := by first | exact fun w h => List.mem_cons_of_mem _ (List.mem_append_right _ h) | decide +kernel
  have hl := lv_entry ([.ref (ad 0), .int (x)]) (n := 2) (Nat.le_of_ble_eq_true rfl)
  rw [lg_entry_eq]
  generalize (lg_sl ([.ref (ad 0), .int (x)]) ++ List.replicate (2 - (lg_sl ([.ref (ad 0), .int (x)])).length) Slot.unset).toArray = ls at hl ⊢
  have hl : lv_has ls 2 [(0, .ref (ad 0)), (1, .int (x))] := hl
  refine lv_iload_n hx hb dX2_requireNode_0 rfl (lv_at hl 1 rfl) ?_
  refine lv_if_lt (tgt := 12) hx hb dX2_requireNode_1 (by decide) (fun c_1 => ?_) (fun c_1 => ?_)
  · skip
    obtain ⟨sa_12, hstr_12⟩ := hX.1 (199, "there is no such node") (by decide +kernel)
    exact vx_throwS (sa := sa_12) (A := Ap) (cls := "java/lang/IndexOutOfBoundsException") (names := ["java/lang/RuntimeException", "java/lang/Exception"]) hx hb hst hown (by decide) (by decide) (hts (.classLink RX2 90 "java/lang/IndexOutOfBoundsException") (by decide +kernel)) (hts (.initialized "java/lang/IndexOutOfBoundsException") (by decide +kernel)) hstr_12 (vx_hat (fun w h => hts w (ha_94 w h)) xb_94 (xN_use hX)) xg_94 hZ.1 hZ.2 hS (hl.1.trans hml.symm) dX2_requireNode_12 dX2_requireNode_15 dX2_requireNode_16 dX2_requireNode_18 dX2_requireNode_21 (fun x9 hx9 => (htab x9 hx9).elim) (Nat.le_of_ble_eq_true rfl) (Nat.le_of_ble_eq_true rfl) (Nat.le_of_ble_eq_true rfl) (Nat.le_of_ble_eq_true rfl) hlk (x_end (u := ()) hS hP hD (by first | (simp [inR, c_1]; done) | simp [inR, Int32.not_lt.mp c_9])) hS.2.2 (Nat.le_of_ble_eq_true rfl) (Nat.le_of_ble_eq_true rfl)
  · skip
    refine lv_iload_n hx hb dX2_requireNode_4 rfl (lv_at hl 1 rfl) ?_
    refine lv_aload_n hx hb dX2_requireNode_5 rfl (lv_at hl 0 rfl) ?_
    refine va_get (D := D) (ci := 2) (v := .int (nI (N))) (C := RX2) (T := TX2) (N := 8) hx hb hts hin2 hown hK.1 hP 0 rfl rfl 5 (by decide) f33 (fun _ h9 => h9) rfl dX2_requireNode_6 ?_
    refine lv_icmp_lt (tgt := 22) hx hb dX2_requireNode_9 (by decide) (fun c_9 => ?_) (fun c_9 => ?_)
    · skip
      refine W.widen (k := 1) (n := 6) (by decide) (by decide) ?_
      exact vx_ret (mr_v (u := ()) hx hb hrt hlk dX2_requireNode_22 hS hP hD ⟨(by simp [inR, c_1, Int32.not_le.mpr c_9]), trivial⟩)
    · skip
      obtain ⟨sa_12, hstr_12⟩ := hX.1 (199, "there is no such node") (by decide +kernel)
      exact vx_throwS (sa := sa_12) (A := Ap) (cls := "java/lang/IndexOutOfBoundsException") (names := ["java/lang/RuntimeException", "java/lang/Exception"]) hx hb hst hown (by decide) (by decide) (hts (.classLink RX2 90 "java/lang/IndexOutOfBoundsException") (by decide +kernel)) (hts (.initialized "java/lang/IndexOutOfBoundsException") (by decide +kernel)) hstr_12 (vx_hat (fun w h => hts w (ha_94 w h)) xb_94 (xN_use hX)) xg_94 hZ.1 hZ.2 hS (hl.1.trans hml.symm) dX2_requireNode_12 dX2_requireNode_15 dX2_requireNode_16 dX2_requireNode_18 dX2_requireNode_21 (fun x9 hx9 => (htab x9 hx9).elim) (Nat.le_of_ble_eq_true rfl) (Nat.le_of_ble_eq_true rfl) (Nat.le_of_ble_eq_true rfl) (Nat.le_of_ble_eq_true rfl) hlk (x_end (u := ()) hS hP hD (by first | (simp [inR, c_1]; done) | simp [inR, Int32.not_lt.mp c_9])) hS.2.2 (Nat.le_of_ble_eq_true rfl) (Nat.le_of_ble_eq_true rfl)
set_option maxHeartbeats 4000000 in
set_option maxRecDepth 100000 in
theorem c_X2_requireAssumption (l : Launch) (D : va_G) (cI cZ : ClassId) (ad : Nat → Nat) (N : Nat) (A : Nat) (fl : Bool) (an : Nat → Int32) (nd : Nat → Int32) (wt : Nat → Int32) (B : Nat → Int32) (Hd : Nat → Int32) (O : Nat → Bool) (R : Nat) (HL : Nat → Int32) (LB : Nat → Int32) (SO : Nat → Bool) (NG : Nat → Bool) (WO : Nat → Bool) (SA : Nat) (SE : Nat) (x : Int32) (hst : l.stackTraces = false) (sz : Nat) : vx_Met l yX2_requireAssumption wsX2_requireAssumption ({ frames := 6, cells := 1, slots := 6, locals := 90 }) (pcX D [(cI, .int), (cZ, .boolean)] sz (wK cI cZ ad N A fl an nd wt B Hd O R HL LB SO NG WO SA SE) [.ref (ad 0), .int (x)]) (va_Qv (fun u9 : Unit => (inR x A = true) ∧ (True)) (wB D (va_A (wK cI cZ ad N A fl an nd wt B Hd O R HL LB SO NG WO SA SE) sz) (fun u9 : Unit => (wK cI cZ ad N A fl an nd wt B Hd O R HL LB SO NG WO SA SE))) (va_A (wK cI cZ ad N A fl an nd wt B Hd O R HL LB SO NG WO SA SE) sz)) (xX D (va_A (wK cI cZ ad N A fl an nd wt B Hd O R HL LB SO NG WO SA SE) sz) (fun (E9 : String) (u9 : Unit) => E9 = "java/lang/IndexOutOfBoundsException" ∧ (inR x A = false)) (fun u9 : Unit => (wK cI cZ ad N A fl an nd wt B Hd O R HL LB SO NG WO SA SE))) 1 6 (va_A (wK cI cZ ad N A fl an nd wt B Hd O R HL LB SO NG WO SA SE) sz) := by
  refine vx_ofW (cc := cX2_requireAssumption) (maxL := 2) (ret := none) (by decide) rfl ?_
  intro p e s m args below meth c s₁ BB hml htab hv
  obtain ⟨rfl, hsz, hP, hK, hD0, hX, hZ⟩ := hv
  have hx := BB.exec
  have hb := BB.bytes
  have hrt := BB.returns
  have hts := atoms_spec (ws := wsX2_requireAssumption) BB.pre
  have hown : s.vm.findClass RX2 = some m.cls := findClass_of_methodNamed BB.named
  have hlk := BB.notSynchronized
  subst hsz
  have hD := hD0.self (sz := s.heap.size)
  generalize hAe : va_A (wK cI cZ ad N A fl an nd wt B Hd O R HL LB SO NG WO SA SE) s.heap.size = Ap at hD hZ ⊢
  have hAp : ∀ q : Nat, s.heap.size ≤ q → Ap q := fun q h => by rw [← hAe]; exact Or.inr h
  have hS : va_S Ap s.heap s.heap [] := va_S.rf
  have f37 := hts (.fieldLink RX2 37 "AssumptionKeeper" "assumptions" "I") (by decide +kernel)
  have hin2 : ∀ w ∈ u_ws RX2 TX2 8, w ∈ wsX2_requireAssumption := by decide +kernel
  have ha_94 : ∀ w ∈ (vx_atS RX2 94 "java/lang/IndexOutOfBoundsException" ["java/lang/RuntimeException", "java/lang/Exception"]).filter goodWord, w ∈ wsX2_requireAssumption := by first | exact fun w h => List.mem_cons_of_mem _ (List.mem_append_right _ h) | decide +kernel
  have hl := lv_entry ([.ref (ad 0), .int (x)]) (n := 2) (Nat.le_of_ble_eq_true rfl)
  rw [lg_entry_eq]
  generalize (lg_sl ([.ref (ad 0), .int (x)]) ++ List.replicate (2 - (lg_sl ([.ref (ad 0), .int (x)])).length) Slot.unset).toArray = ls at hl ⊢
  have hl : lv_has ls 2 [(0, .ref (ad 0)), (1, .int (x))] := hl
  refine lv_iload_n hx hb dX2_requireAssumption_0 rfl (lv_at hl 1 rfl) ?_
  refine lv_if_lt (tgt := 12) hx hb dX2_requireAssumption_1 (by decide) (fun c_1 => ?_) (fun c_1 => ?_)
  · skip
    obtain ⟨sa_12, hstr_12⟩ := hX.1 (201, "there is no such assumption") (by decide +kernel)
    exact vx_throwS (sa := sa_12) (A := Ap) (cls := "java/lang/IndexOutOfBoundsException") (names := ["java/lang/RuntimeException", "java/lang/Exception"]) hx hb hst hown (by decide) (by decide) (hts (.classLink RX2 90 "java/lang/IndexOutOfBoundsException") (by decide +kernel)) (hts (.initialized "java/lang/IndexOutOfBoundsException") (by decide +kernel)) hstr_12 (vx_hat (fun w h => hts w (ha_94 w h)) xb_94 (xN_use hX)) xg_94 hZ.1 hZ.2 hS (hl.1.trans hml.symm) dX2_requireAssumption_12 dX2_requireAssumption_15 dX2_requireAssumption_16 dX2_requireAssumption_18 dX2_requireAssumption_21 (fun x9 hx9 => (htab x9 hx9).elim) (Nat.le_of_ble_eq_true rfl) (Nat.le_of_ble_eq_true rfl) (Nat.le_of_ble_eq_true rfl) (Nat.le_of_ble_eq_true rfl) hlk (x_end (u := ()) hS hP hD (by first | (simp [inR, c_1]; done) | simp [inR, Int32.not_lt.mp c_9])) hS.2.2 (Nat.le_of_ble_eq_true rfl) (Nat.le_of_ble_eq_true rfl)
  · skip
    refine lv_iload_n hx hb dX2_requireAssumption_4 rfl (lv_at hl 1 rfl) ?_
    refine lv_aload_n hx hb dX2_requireAssumption_5 rfl (lv_at hl 0 rfl) ?_
    refine va_get (D := D) (ci := 2) (v := .int (nI (A))) (C := RX2) (T := TX2) (N := 8) hx hb hts hin2 hown hK.1 hP 0 rfl rfl 6 (by decide) f37 (fun _ h9 => h9) rfl dX2_requireAssumption_6 ?_
    refine lv_icmp_lt (tgt := 22) hx hb dX2_requireAssumption_9 (by decide) (fun c_9 => ?_) (fun c_9 => ?_)
    · skip
      refine W.widen (k := 1) (n := 6) (by decide) (by decide) ?_
      exact vx_ret (mr_v (u := ()) hx hb hrt hlk dX2_requireAssumption_22 hS hP hD ⟨(by simp [inR, c_1, Int32.not_le.mpr c_9]), trivial⟩)
    · skip
      obtain ⟨sa_12, hstr_12⟩ := hX.1 (201, "there is no such assumption") (by decide +kernel)
      exact vx_throwS (sa := sa_12) (A := Ap) (cls := "java/lang/IndexOutOfBoundsException") (names := ["java/lang/RuntimeException", "java/lang/Exception"]) hx hb hst hown (by decide) (by decide) (hts (.classLink RX2 90 "java/lang/IndexOutOfBoundsException") (by decide +kernel)) (hts (.initialized "java/lang/IndexOutOfBoundsException") (by decide +kernel)) hstr_12 (vx_hat (fun w h => hts w (ha_94 w h)) xb_94 (xN_use hX)) xg_94 hZ.1 hZ.2 hS (hl.1.trans hml.symm) dX2_requireAssumption_12 dX2_requireAssumption_15 dX2_requireAssumption_16 dX2_requireAssumption_18 dX2_requireAssumption_21 (fun x9 hx9 => (htab x9 hx9).elim) (Nat.le_of_ble_eq_true rfl) (Nat.le_of_ble_eq_true rfl) (Nat.le_of_ble_eq_true rfl) (Nat.le_of_ble_eq_true rfl) hlk (x_end (u := ()) hS hP hD (by first | (simp [inR, c_1]; done) | simp [inR, Int32.not_lt.mp c_9])) hS.2.2 (Nat.le_of_ble_eq_true rfl) (Nat.le_of_ble_eq_true rfl)
set_option maxHeartbeats 4000000 in
set_option maxRecDepth 100000 in
theorem c_X2_requireEnvironment (l : Launch) (D : va_G) (cI cZ : ClassId) (ad : Nat → Nat) (N : Nat) (A : Nat) (fl : Bool) (an : Nat → Int32) (nd : Nat → Int32) (wt : Nat → Int32) (B : Nat → Int32) (Hd : Nat → Int32) (O : Nat → Bool) (R : Nat) (HL : Nat → Int32) (LB : Nat → Int32) (SO : Nat → Bool) (NG : Nat → Bool) (WO : Nat → Bool) (SA : Nat) (SE : Nat) (x : Int32) (hst : l.stackTraces = false) (sz : Nat) : vx_Met l yX2_requireEnvironment wsX2_requireEnvironment ({ frames := 6, cells := 1, slots := 6, locals := 90 }) (pcX D [(cI, .int), (cZ, .boolean)] sz (wK cI cZ ad N A fl an nd wt B Hd O R HL LB SO NG WO SA SE) [.ref (ad 0), .int (x)]) (va_Qv (fun u9 : Unit => (inS x A = true) ∧ (True)) (wB D (va_A (wK cI cZ ad N A fl an nd wt B Hd O R HL LB SO NG WO SA SE) sz) (fun u9 : Unit => (wK cI cZ ad N A fl an nd wt B Hd O R HL LB SO NG WO SA SE))) (va_A (wK cI cZ ad N A fl an nd wt B Hd O R HL LB SO NG WO SA SE) sz)) (xX D (va_A (wK cI cZ ad N A fl an nd wt B Hd O R HL LB SO NG WO SA SE) sz) (fun (E9 : String) (u9 : Unit) => E9 = "java/lang/IllegalArgumentException" ∧ (inS x A = false)) (fun u9 : Unit => (wK cI cZ ad N A fl an nd wt B Hd O R HL LB SO NG WO SA SE))) 1 6 (va_A (wK cI cZ ad N A fl an nd wt B Hd O R HL LB SO NG WO SA SE) sz) := by
  refine vx_ofW (cc := cX2_requireEnvironment) (maxL := 2) (ret := none) (by decide) rfl ?_
  intro p e s m args below meth c s₁ BB hml htab hv
  obtain ⟨rfl, hsz, hP, hK, hD0, hX, hZ⟩ := hv
  have hx := BB.exec
  have hb := BB.bytes
  have hrt := BB.returns
  have hts := atoms_spec (ws := wsX2_requireEnvironment) BB.pre
  have hown : s.vm.findClass RX2 = some m.cls := findClass_of_methodNamed BB.named
  have hlk := BB.notSynchronized
  subst hsz
  have hD := hD0.self (sz := s.heap.size)
  generalize hAe : va_A (wK cI cZ ad N A fl an nd wt B Hd O R HL LB SO NG WO SA SE) s.heap.size = Ap at hD hZ ⊢
  have hAp : ∀ q : Nat, s.heap.size ≤ q → Ap q := fun q h => by rw [← hAe]; exact Or.inr h
  have hS : va_S Ap s.heap s.heap [] := va_S.rf
  have f37 := hts (.fieldLink RX2 37 "AssumptionKeeper" "assumptions" "I") (by decide +kernel)
  have hin2 : ∀ w ∈ u_ws RX2 TX2 8, w ∈ wsX2_requireEnvironment := by decide +kernel
  have ha_72 : ∀ w ∈ (vx_atS RX2 72 "java/lang/IllegalArgumentException" ["java/lang/RuntimeException", "java/lang/Exception"]).filter goodWord, w ∈ wsX2_requireEnvironment := by first | exact fun w h => List.mem_cons_of_mem _ (List.mem_append_right _ h) | decide +kernel
  have hl := lv_entry ([.ref (ad 0), .int (x)]) (n := 2) (Nat.le_of_ble_eq_true rfl)
  rw [lg_entry_eq]
  generalize (lg_sl ([.ref (ad 0), .int (x)]) ++ List.replicate (2 - (lg_sl ([.ref (ad 0), .int (x)])).length) Slot.unset).toArray = ls at hl ⊢
  have hl : lv_has ls 2 [(0, .ref (ad 0)), (1, .int (x))] := hl
  refine lv_aload_n hx hb dX2_requireEnvironment_0 rfl (lv_at hl 0 rfl) ?_
  refine va_get (D := D) (ci := 2) (v := .int (nI (A))) (C := RX2) (T := TX2) (N := 8) hx hb hts hin2 hown hK.1 hP 0 rfl rfl 6 (by decide) f37 (fun _ h9 => h9) rfl dX2_requireEnvironment_1 ?_
  refine lv_iload_n hx hb dX2_requireEnvironment_4 rfl (lv_at hl 1 rfl) ?_
  refine pu_i (va_runS (As := [.int (nI (A)), .int (x)]) (rest := []) ⟨hx, hb, hml, hown, hts⟩ (c_X2_isSetOf l D cI cZ ad (A) (x) ) (cwS 2 hts gX2_requireEnvironment_X2_isSetOf rfl rfl rfl (by decide +kernel) ⟨Nat.le_of_ble_eq_true rfl, Nat.le_of_ble_eq_true rfl⟩) (pre_S (hP.sub (ws' := ([] : va_W)) [] rfl) hK) rfl rfl hl.1 rfl (lv_room (Nat.le_of_ble_eq_true rfl)) dX2_requireEnvironment_5 ⟨Nat.le_of_ble_eq_true rfl, Nat.le_of_ble_eq_true rfl⟩) ?_
  refine lv_if_ne (tgt := 21) hx hb dX2_requireEnvironment_8 (by decide) (fun c_8 => ?_) (fun c_8 => ?_)
  · skip
    have c_8 := bI_ne0 c_8
    refine W.widen (k := 1) (n := 6) (by decide) (by decide) ?_
    exact vx_ret (mr_v (u := ()) hx hb hrt hlk dX2_requireEnvironment_21 hS hP hD ⟨(by first | rfl | (simp [c_8]; done) | (simp only [c_8]; rfl) | (simp_all [c_8]; done)), trivial⟩)
  · skip
    have c_8 := bI_eq0 c_8
    obtain ⟨sa_11, hstr_11⟩ := hX.1 (203, "this is no environment of the assumptions") (by decide +kernel)
    exact vx_throwS (sa := sa_11) (A := Ap) (cls := "java/lang/IllegalArgumentException") (names := ["java/lang/RuntimeException", "java/lang/Exception"]) hx hb hst hown (by decide) (by decide) (hts (.classLink RX2 68 "java/lang/IllegalArgumentException") (by decide +kernel)) (hts (.initialized "java/lang/IllegalArgumentException") (by decide +kernel)) hstr_11 (vx_hat (fun w h => hts w (ha_72 w h)) xb_72 (xN_use hX)) xg_72 hZ.1 hZ.2 hS (hl.1.trans hml.symm) dX2_requireEnvironment_11 dX2_requireEnvironment_14 dX2_requireEnvironment_15 dX2_requireEnvironment_17 dX2_requireEnvironment_20 (fun x9 hx9 => (htab x9 hx9).elim) (Nat.le_of_ble_eq_true rfl) (Nat.le_of_ble_eq_true rfl) (Nat.le_of_ble_eq_true rfl) (Nat.le_of_ble_eq_true rfl) hlk (x_end (u := ()) hS hP hD (by simp [c_8])) hS.2.2 (Nat.le_of_ble_eq_true rfl) (Nat.le_of_ble_eq_true rfl)
set_option maxHeartbeats 4000000 in
set_option maxRecDepth 100000 in
theorem c_X2_requireWeight (l : Launch) (D : va_G) (cI cZ : ClassId) (ad : Nat → Nat) (x : Int32) (hst : l.stackTraces = false) (sz : Nat) : vx_Met l yX2_requireWeight wsX2_requireWeight ({ frames := 6, cells := 1, slots := 6, locals := 90 }) (pcX D [(cI, .int), (cZ, .boolean)] sz ([] : va_W) [.int (x)]) (va_Qv (fun u9 : Unit => (okW x = true) ∧ (True)) (wB D (va_A ([] : va_W) sz) (fun u9 : Unit => ([] : va_W))) (va_A ([] : va_W) sz)) (xX D (va_A ([] : va_W) sz) (fun (E9 : String) (u9 : Unit) => E9 = "java/lang/IllegalArgumentException" ∧ (okW x = false)) (fun u9 : Unit => ([] : va_W))) 1 6 (va_A ([] : va_W) sz) := by
  refine vx_ofW (cc := cX2_requireWeight) (maxL := 1) (ret := none) (by decide) rfl ?_
  intro p e s m args below meth c s₁ BB hml htab hv
  obtain ⟨rfl, hsz, hP, hK, hD0, hX, hZ⟩ := hv
  have hx := BB.exec
  have hb := BB.bytes
  have hrt := BB.returns
  have hts := atoms_spec (ws := wsX2_requireWeight) BB.pre
  have hown : s.vm.findClass RX2 = some m.cls := findClass_of_methodNamed BB.named
  have hlk := BB.notSynchronized
  subst hsz
  have hD := hD0.self (sz := s.heap.size)
  generalize hAe : va_A ([] : va_W) s.heap.size = Ap at hD hZ ⊢
  have hAp : ∀ q : Nat, s.heap.size ≤ q → Ap q := fun q h => by rw [← hAe]; exact Or.inr h
  have hS : va_S Ap s.heap s.heap [] := va_S.rf
  have ha_72 : ∀ w ∈ (vx_atS RX2 72 "java/lang/IllegalArgumentException" ["java/lang/RuntimeException", "java/lang/Exception"]).filter goodWord, w ∈ wsX2_requireWeight := by first | exact fun w h => List.mem_cons_of_mem _ (List.mem_append_right _ h) | decide +kernel
  have hl := lv_entry ([.int (x)]) (n := 1) (Nat.le_of_ble_eq_true rfl)
  rw [lg_entry_eq]
  generalize (lg_sl ([.int (x)]) ++ List.replicate (1 - (lg_sl ([.int (x)])).length) Slot.unset).toArray = ls at hl ⊢
  have hl : lv_has ls 1 [(0, .int (x))] := hl
  refine lv_iload_n hx hb dX2_requireWeight_0 rfl (lv_at hl 0 rfl) ?_
  refine lv_iconst (v := nI (1)) hx hb dX2_requireWeight_1 (by decide) ?_
  refine lv_icmp_lt (tgt := 11) hx hb dX2_requireWeight_2 (by decide) (fun c_2 => ?_) (fun c_2 => ?_)
  · skip
    obtain ⟨sa_11, hstr_11⟩ := hX.1 (205, "the weight is not 1 to 100") (by decide +kernel)
    exact vx_throwS (sa := sa_11) (A := Ap) (cls := "java/lang/IllegalArgumentException") (names := ["java/lang/RuntimeException", "java/lang/Exception"]) hx hb hst hown (by decide) (by decide) (hts (.classLink RX2 68 "java/lang/IllegalArgumentException") (by decide +kernel)) (hts (.initialized "java/lang/IllegalArgumentException") (by decide +kernel)) hstr_11 (vx_hat (fun w h => hts w (ha_72 w h)) xb_72 (xN_use hX)) xg_72 hZ.1 hZ.2 hS (hl.1.trans hml.symm) dX2_requireWeight_11 dX2_requireWeight_14 dX2_requireWeight_15 dX2_requireWeight_17 dX2_requireWeight_20 (fun x9 hx9 => (htab x9 hx9).elim) (Nat.le_of_ble_eq_true rfl) (Nat.le_of_ble_eq_true rfl) (Nat.le_of_ble_eq_true rfl) (Nat.le_of_ble_eq_true rfl) hlk (x_end (u := ()) hS hP hD (by first | (simp [okW, c_2]; done) | simp [okW, Int32.not_le.mp c_8])) hS.2.2 (Nat.le_of_ble_eq_true rfl) (Nat.le_of_ble_eq_true rfl)
  · skip
    refine lv_iload_n hx hb dX2_requireWeight_5 rfl (lv_at hl 0 rfl) ?_
    refine lv_bipush (v := nI (100)) hx hb dX2_requireWeight_6 (by decide) ?_
    refine lv_icmp_le (tgt := 21) hx hb dX2_requireWeight_8 (by decide) (fun c_8 => ?_) (fun c_8 => ?_)
    · skip
      refine W.widen (k := 1) (n := 6) (by decide) (by decide) ?_
      exact vx_ret (mr_v (u := ()) hx hb hrt hlk dX2_requireWeight_21 hS hP hD ⟨(by simp [okW, c_2, Int32.not_lt.mpr c_8]), trivial⟩)
    · skip
      obtain ⟨sa_11, hstr_11⟩ := hX.1 (205, "the weight is not 1 to 100") (by decide +kernel)
      exact vx_throwS (sa := sa_11) (A := Ap) (cls := "java/lang/IllegalArgumentException") (names := ["java/lang/RuntimeException", "java/lang/Exception"]) hx hb hst hown (by decide) (by decide) (hts (.classLink RX2 68 "java/lang/IllegalArgumentException") (by decide +kernel)) (hts (.initialized "java/lang/IllegalArgumentException") (by decide +kernel)) hstr_11 (vx_hat (fun w h => hts w (ha_72 w h)) xb_72 (xN_use hX)) xg_72 hZ.1 hZ.2 hS (hl.1.trans hml.symm) dX2_requireWeight_11 dX2_requireWeight_14 dX2_requireWeight_15 dX2_requireWeight_17 dX2_requireWeight_20 (fun x9 hx9 => (htab x9 hx9).elim) (Nat.le_of_ble_eq_true rfl) (Nat.le_of_ble_eq_true rfl) (Nat.le_of_ble_eq_true rfl) (Nat.le_of_ble_eq_true rfl) hlk (x_end (u := ()) hS hP hD (by first | (simp [okW, c_2]; done) | simp [okW, Int32.not_le.mp c_8])) hS.2.2 (Nat.le_of_ble_eq_true rfl) (Nat.le_of_ble_eq_true rfl)
set_option maxHeartbeats 4000000 in
set_option maxRecDepth 100000 in
theorem c_X2_requireFound (l : Launch) (D : va_G) (cI cZ : ClassId) (ad : Nat → Nat) (x : Int32) (hst : l.stackTraces = false) (sz : Nat) : vx_Met l yX2_requireFound wsX2_requireFound ({ frames := 6, cells := 1, slots := 6, locals := 90 }) (pcX D [(cI, .int), (cZ, .boolean)] sz ([] : va_W) [.int (x)]) (va_Qi (fun (r9 : Int32) (u9 : Unit) => (r9 = x) ∧ (¬ x = -1) ∧ (True)) (wB D (va_A ([] : va_W) sz) (fun u9 : Unit => ([] : va_W))) (va_A ([] : va_W) sz)) (xX D (va_A ([] : va_W) sz) (fun (E9 : String) (u9 : Unit) => E9 = "java/lang/IndexOutOfBoundsException" ∧ (x = -1)) (fun u9 : Unit => ([] : va_W))) 1 6 (va_A ([] : va_W) sz) := by
  refine vx_ofW (cc := cX2_requireFound) (maxL := 1) (ret := (some .int)) (by decide) rfl ?_
  intro p e s m args below meth c s₁ BB hml htab hv
  obtain ⟨rfl, hsz, hP, hK, hD0, hX, hZ⟩ := hv
  have hx := BB.exec
  have hb := BB.bytes
  have hrt := BB.returns
  have hts := atoms_spec (ws := wsX2_requireFound) BB.pre
  have hown : s.vm.findClass RX2 = some m.cls := findClass_of_methodNamed BB.named
  have hlk := BB.notSynchronized
  subst hsz
  have hD := hD0.self (sz := s.heap.size)
  generalize hAe : va_A ([] : va_W) s.heap.size = Ap at hD hZ ⊢
  have hAp : ∀ q : Nat, s.heap.size ≤ q → Ap q := fun q h => by rw [← hAe]; exact Or.inr h
  have hS : va_S Ap s.heap s.heap [] := va_S.rf
  have ha_94 : ∀ w ∈ (vx_atS RX2 94 "java/lang/IndexOutOfBoundsException" ["java/lang/RuntimeException", "java/lang/Exception"]).filter goodWord, w ∈ wsX2_requireFound := by first | exact fun w h => List.mem_cons_of_mem _ (List.mem_append_right _ h) | decide +kernel
  have hl := lv_entry ([.int (x)]) (n := 1) (Nat.le_of_ble_eq_true rfl)
  rw [lg_entry_eq]
  generalize (lg_sl ([.int (x)]) ++ List.replicate (1 - (lg_sl ([.int (x)])).length) Slot.unset).toArray = ls at hl ⊢
  have hl : lv_has ls 1 [(0, .int (x))] := hl
  refine lv_iload_n hx hb dX2_requireFound_0 rfl (lv_at hl 0 rfl) ?_
  refine lv_iconst (v := -1) hx hb dX2_requireFound_1 (by decide) ?_
  refine lv_icmp_ne (tgt := 15) hx hb dX2_requireFound_2 (by decide) (fun c_2 => ?_) (fun c_2 => ?_)
  · skip
    refine lv_iload_n hx hb dX2_requireFound_15 rfl (lv_at hl 0 rfl) ?_
    refine W.widen (k := 1) (n := 6) (by decide) (by decide) ?_
    exact vx_ret (mr_i (u := ()) hx hb hrt hlk dX2_requireFound_16 hS hP hD ⟨(by first | rfl | (simp [c_2]; done) | (simp only [c_2]; rfl) | (simp_all [c_2]; done)), (by first | rfl | (simp [c_2]; done) | (simp only [c_2]; rfl) | (simp_all [c_2]; done)), trivial⟩)
  · skip
    obtain ⟨sa_5, hstr_5⟩ := hX.1 (207, "there is no environment of this number") (by decide +kernel)
    exact vx_throwS (sa := sa_5) (A := Ap) (cls := "java/lang/IndexOutOfBoundsException") (names := ["java/lang/RuntimeException", "java/lang/Exception"]) hx hb hst hown (by decide) (by decide) (hts (.classLink RX2 90 "java/lang/IndexOutOfBoundsException") (by decide +kernel)) (hts (.initialized "java/lang/IndexOutOfBoundsException") (by decide +kernel)) hstr_5 (vx_hat (fun w h => hts w (ha_94 w h)) xb_94 (xN_use hX)) xg_94 hZ.1 hZ.2 hS (hl.1.trans hml.symm) dX2_requireFound_5 dX2_requireFound_8 dX2_requireFound_9 dX2_requireFound_11 dX2_requireFound_14 (fun x9 hx9 => (htab x9 hx9).elim) (Nat.le_of_ble_eq_true rfl) (Nat.le_of_ble_eq_true rfl) (Nat.le_of_ble_eq_true rfl) (Nat.le_of_ble_eq_true rfl) hlk (x_end (u := ()) hS hP hD (by simp [c_2])) hS.2.2 (Nat.le_of_ble_eq_true rfl) (Nat.le_of_ble_eq_true rfl)
set_option maxHeartbeats 4000000 in
set_option maxRecDepth 100000 in
theorem c_X2_addStatement (l : Launch) (D : va_G) (cI cZ : ClassId) (ad : Nat → Nat) (N : Nat) (A : Nat) (fl : Bool) (an : Nat → Int32) (nd : Nat → Int32) (wt : Nat → Int32) (B : Nat → Int32) (Hd : Nat → Int32) (O : Nat → Bool) (R : Nat) (HL : Nat → Int32) (LB : Nat → Int32) (SO : Nat → Bool) (NG : Nat → Bool) (WO : Nat → Bool) (SA : Nat) (SE : Nat) (hn : N ≤ 24) (hst : l.stackTraces = false) (sz : Nat) : vx_Met l yX2_addStatement wsX2_addStatement ({ frames := 6, cells := 1, slots := 6, locals := 90 }) (pcX D [(cI, .int), (cZ, .boolean)] sz (wK cI cZ ad N A fl an nd wt B Hd O R HL LB SO NG WO SA SE) [.ref (ad 0)]) (va_Qi (fun (r9 : Int32) (u9 : Unit) => (r9 = nI (N)) ∧ (N < 24) ∧ (True)) (wB D (va_A (wK cI cZ ad N A fl an nd wt B Hd O R HL LB SO NG WO SA SE) sz) (fun u9 : Unit => (wK cI cZ ad (N + 1) A false (upd an N (-1)) nd wt B Hd O R HL LB SO NG WO SA SE))) (va_A (wK cI cZ ad N A fl an nd wt B Hd O R HL LB SO NG WO SA SE) sz)) (xX D (va_A (wK cI cZ ad N A fl an nd wt B Hd O R HL LB SO NG WO SA SE) sz) (fun (E9 : String) (u9 : Unit) => E9 = "java/lang/IllegalStateException" ∧ (24 ≤ N)) (fun u9 : Unit => (wK cI cZ ad N A fl an nd wt B Hd O R HL LB SO NG WO SA SE))) 1 6 (va_A (wK cI cZ ad N A fl an nd wt B Hd O R HL LB SO NG WO SA SE) sz) := by
  refine vx_ofW (cc := cX2_addStatement) (maxL := 1) (ret := (some .int)) (by decide) rfl ?_
  intro p e s m args below meth c s₁ BB hml htab hv
  obtain ⟨rfl, hsz, hP, hK, hD0, hX, hZ⟩ := hv
  have hx := BB.exec
  have hb := BB.bytes
  have hrt := BB.returns
  have hts := atoms_spec (ws := wsX2_addStatement) BB.pre
  have hown : s.vm.findClass RX2 = some m.cls := findClass_of_methodNamed BB.named
  have hlk := BB.notSynchronized
  subst hsz
  have hD := hD0.self (sz := s.heap.size)
  generalize hAe : va_A (wK cI cZ ad N A fl an nd wt B Hd O R HL LB SO NG WO SA SE) s.heap.size = Ap at hD hZ ⊢
  have hAp : ∀ q : Nat, s.heap.size ≤ q → Ap q := fun q h => by rw [← hAe]; exact Or.inr h
  have hS : va_S Ap s.heap s.heap [] := va_S.rf
  have f33 := hts (.fieldLink RX2 33 "AssumptionKeeper" "nodes" "I") (by decide +kernel)
  have hin2 : ∀ w ∈ u_ws RX2 TX2 8, w ∈ wsX2_addStatement := by decide +kernel
  have ha_48 : ∀ w ∈ (vx_atS RX2 48 "java/lang/IllegalStateException" ["java/lang/RuntimeException", "java/lang/Exception"]).filter goodWord, w ∈ wsX2_addStatement := by first | exact fun w h => List.mem_cons_of_mem _ (List.mem_append_right _ h) | decide +kernel
  have hl := lv_entry ([.ref (ad 0)]) (n := 1) (Nat.le_of_ble_eq_true rfl)
  rw [lg_entry_eq]
  generalize (lg_sl ([.ref (ad 0)]) ++ List.replicate (1 - (lg_sl ([.ref (ad 0)])).length) Slot.unset).toArray = ls at hl ⊢
  have hl : lv_has ls 1 [(0, .ref (ad 0))] := hl
  refine lv_aload_n hx hb dX2_addStatement_0 rfl (lv_at hl 0 rfl) ?_
  refine va_get (D := D) (ci := 2) (v := .int (nI (N))) (C := RX2) (T := TX2) (N := 8) hx hb hts hin2 hown hK.1 hP 0 rfl rfl 5 (by decide) f33 (fun _ h9 => h9) rfl dX2_addStatement_1 ?_
  refine lv_bipush (v := nI (24)) hx hb dX2_addStatement_4 (by decide) ?_
  refine lv_icmp_lt (tgt := 19) hx hb dX2_addStatement_6 (by decide) (fun c_6 => ?_) (fun c_6 => ?_)
  · skip
    have c_6 := (qI_lt (a := N) (b := 24) (by omega) (by omega)).mp c_6
    refine lv_aload_n hx hb dX2_addStatement_19 rfl (lv_at hl 0 rfl) ?_
    refine lv_iconst (v := -1) hx hb dX2_addStatement_20 (by decide) ?_
    refine mu_i (wr := []) (va_runV (As := [.int (-1)]) (rest := []) ⟨hx, hb, hml, hown, hts⟩ (c_X2_appendNode l D cI cZ ad (N) (A) (fl) (an) (nd) (wt) (B) (Hd) (O) (R) (HL) (LB) (SO) (NG) (WO) (SA) (SE) (-1) (by omega) (s.heap).size) (cwV 1 hts gX2_addStatement_X2_appendNode rfl rfl rfl (by decide +kernel) ⟨Nat.le_of_ble_eq_true rfl, Nat.le_of_ble_eq_true rfl⟩) (prw_V (q0 := 0) (ci := 2) (hP.sub (ws' := (wK cI cZ ad N A fl an nd wt B Hd O R HL LB SO NG WO SA SE)) [0, 1, 2, 3, 4, 5, 6, 7, 8, 9, 10, 11, 12, 13] rfl) (hD.sub (ws' := (wK cI cZ ad N A fl an nd wt B Hd O R HL LB SO NG WO SA SE)) [0, 1, 2, 3, 4, 5, 6, 7, 8, 9, 10, 11, 12, 13] (by decide) rfl) hK rfl rfl) rfl rfl hl.1 rfl (lv_room (Nat.le_of_ble_eq_true rfl)) dX2_addStatement_21 ⟨Nat.le_of_ble_eq_true rfl, Nat.le_of_ble_eq_true rfl⟩) hP hD hS hAp [0, 1, 2, 3, 4, 5, 6, 7, 8, 9, 10, 11, 12, 13] [] rfl rfl (by decide) (by decide) (fun r_21 u_21 H locs hq_21 hP hD hS => ?_)
    obtain ⟨rfl, -⟩ := hq_21
    have hP : va_P D vwCl (wK cI cZ ad (N + 1) A false (upd an N (-1)) nd wt B Hd O R HL LB SO NG WO SA SE) H := hP
    have hD : va_D Ap (wK cI cZ ad (N + 1) A false (upd an N (-1)) nd wt B Hd O R HL LB SO NG WO SA SE) := hD
    refine W.widen (k := 1) (n := 6) (by decide) (by decide) ?_
    exact vx_ret (mr_i (u := ()) hx hb hrt hlk dX2_addStatement_24 hS hP hD ⟨(by first | rfl | (simp [c_6]; done) | (simp only [c_6]; rfl) | (simp_all [c_6]; done)), (by omega), trivial⟩)
  · skip
    have c_6 := mt (qI_lt (a := N) (b := 24) (by omega) (by omega)).mpr c_6
    obtain ⟨sa_9, hstr_9⟩ := hX.1 (46, "there are 24 nodes") (by decide +kernel)
    exact vx_throwS (sa := sa_9) (A := Ap) (cls := "java/lang/IllegalStateException") (names := ["java/lang/RuntimeException", "java/lang/Exception"]) hx hb hst hown (by decide) (by decide) (hts (.classLink RX2 44 "java/lang/IllegalStateException") (by decide +kernel)) (hts (.initialized "java/lang/IllegalStateException") (by decide +kernel)) hstr_9 (vx_hat (fun w h => hts w (ha_48 w h)) xb_48 (xN_use hX)) xg_48 hZ.1 hZ.2 hS (hl.1.trans hml.symm) dX2_addStatement_9 dX2_addStatement_12 dX2_addStatement_13 dX2_addStatement_15 dX2_addStatement_18 (fun x9 hx9 => (htab x9 hx9).elim) (Nat.le_of_ble_eq_true rfl) (Nat.le_of_ble_eq_true rfl) (Nat.le_of_ble_eq_true rfl) (Nat.le_of_ble_eq_true rfl) hlk (x_end (u := ()) hS hP hD (by simp; omega)) hS.2.2 (Nat.le_of_ble_eq_true rfl) (Nat.le_of_ble_eq_true rfl)
set_option maxHeartbeats 4000000 in
set_option maxRecDepth 100000 in
theorem c_X2_addAssumption (l : Launch) (D : va_G) (cI cZ : ClassId) (ad : Nat → Nat) (N : Nat) (A : Nat) (fl : Bool) (an : Nat → Int32) (nd : Nat → Int32) (wt : Nat → Int32) (B : Nat → Int32) (Hd : Nat → Int32) (O : Nat → Bool) (R : Nat) (HL : Nat → Int32) (LB : Nat → Int32) (SO : Nat → Bool) (NG : Nat → Bool) (WO : Nat → Bool) (SA : Nat) (SE : Nat) (x0 : Int32) (hn : N ≤ 24) (hA : A ≤ 9) (hst : l.stackTraces = false) (sz : Nat) : vx_Met l yX2_addAssumption wsX2_addAssumption ({ frames := 7, cells := 2, slots := 12, locals := 110 }) (pcX D [(cI, .int), (cZ, .boolean)] sz (wK cI cZ ad N A fl an nd wt B Hd O R HL LB SO NG WO SA SE) [.ref (ad 0), .int (x0)]) (va_Qi (fun (r9 : Int32) (u9 : Unit) => (r9 = nI (N)) ∧ (okW x0 = true ∧ N < 24 ∧ A < 9) ∧ (True)) (wB D (va_A (wK cI cZ ad N A fl an nd wt B Hd O R HL LB SO NG WO SA SE) sz) (fun u9 : Unit => (wK cI cZ ad (N + 1) (A + 1) false (upd an N (nI A)) (upd nd A (nI N)) (upd wt A x0) B Hd O R HL LB SO NG WO SA SE))) (va_A (wK cI cZ ad N A fl an nd wt B Hd O R HL LB SO NG WO SA SE) sz)) (xX D (va_A (wK cI cZ ad N A fl an nd wt B Hd O R HL LB SO NG WO SA SE) sz) (fun (E9 : String) (u9 : Unit) => (E9 = "java/lang/IllegalArgumentException" ∧ (okW x0 = false)) ∨ (E9 = "java/lang/IllegalStateException" ∧ (okW x0 = true ∧ (24 ≤ N ∨ 9 ≤ A)))) (fun u9 : Unit => (wK cI cZ ad N A fl an nd wt B Hd O R HL LB SO NG WO SA SE))) 2 12 (va_A (wK cI cZ ad N A fl an nd wt B Hd O R HL LB SO NG WO SA SE) sz) := by
  refine vx_ofW (cc := cX2_addAssumption) (maxL := 3) (ret := (some .int)) (by decide) rfl ?_
  intro p e s m args below meth c s₁ BB hml htab hv
  obtain ⟨rfl, hsz, hP, hK, hD0, hX, hZ⟩ := hv
  have hx := BB.exec
  have hb := BB.bytes
  have hrt := BB.returns
  have hts := atoms_spec (ws := wsX2_addAssumption) BB.pre
  have hown : s.vm.findClass RX2 = some m.cls := findClass_of_methodNamed BB.named
  have hlk := BB.notSynchronized
  subst hsz
  have hD := hD0.self (sz := s.heap.size)
  generalize hAe : va_A (wK cI cZ ad N A fl an nd wt B Hd O R HL LB SO NG WO SA SE) s.heap.size = Ap at hD hZ ⊢
  have hAp : ∀ q : Nat, s.heap.size ≤ q → Ap q := fun q h => by rw [← hAe]; exact Or.inr h
  have hS : va_S Ap s.heap s.heap [] := va_S.rf
  have f13 := hts (.fieldLink RX2 13 "AssumptionKeeper" "assumptionNodes" "[I") (by decide +kernel)
  have f16 := hts (.fieldLink RX2 16 "AssumptionKeeper" "weights" "[I") (by decide +kernel)
  have f33 := hts (.fieldLink RX2 33 "AssumptionKeeper" "nodes" "I") (by decide +kernel)
  have f37 := hts (.fieldLink RX2 37 "AssumptionKeeper" "assumptions" "I") (by decide +kernel)
  have hin2 : ∀ w ∈ u_ws RX2 TX2 8, w ∈ wsX2_addAssumption := by decide +kernel
  have ha_48 : ∀ w ∈ (vx_atS RX2 48 "java/lang/IllegalStateException" ["java/lang/RuntimeException", "java/lang/Exception"]).filter goodWord, w ∈ wsX2_addAssumption := by first | exact fun w h => List.mem_cons_of_mem _ (List.mem_append_right _ h) | decide +kernel
  have hl := lv_entry ([.ref (ad 0), .int (x0)]) (n := 3) (Nat.le_of_ble_eq_true rfl)
  rw [lg_entry_eq]
  generalize (lg_sl ([.ref (ad 0), .int (x0)]) ++ List.replicate (3 - (lg_sl ([.ref (ad 0), .int (x0)])).length) Slot.unset).toArray = ls at hl ⊢
  have hl : lv_has ls 3 [(0, .ref (ad 0)), (1, .int (x0))] := hl
  refine lv_iload_n hx hb dX2_addAssumption_0 rfl (lv_at hl 1 rfl) ?_
  refine xu_v (wr := [(ad 0, .inr (2, [.ref (ad 1), .ref (ad 2), .ref (ad 3), .ref (ad 4), .ref (ad 8), .int (nI (N)), .int (nI (A)), .int (bI (fl))])), (ad 1, .inl (cI, 24, .inl an)), (ad 2, .inl (cI, 9, .inl nd)), (ad 3, .inl (cI, 9, .inl wt)), (ad 4, .inr (0, [.ref (ad 5), .ref (ad 6), .ref (ad 7), .int (nI (R))])), (ad 5, .inl (cI, 40, .inl B)), (ad 6, .inl (cI, 40, .inl Hd)), (ad 7, .inl (cZ, 40, .inl (fun j => bI (O j)))), (ad 8, .inr (1, [.ref (ad 9), .ref (ad 10), .ref (ad 11), .ref (ad 12), .ref (ad 13), .int (nI (SA)), .int (nI (SE))])), (ad 9, .inl (cI, 512, .inl HL)), (ad 10, .inl (cI, 512, .inl LB)), (ad 11, .inl (cZ, 512, .inl (fun j => bI (SO j)))), (ad 12, .inl (cZ, 512, .inl (fun j => bI (NG j)))), (ad 13, .inl (cZ, 512, .inl (fun j => bI (WO j))))]) (vx_runS (As := [.int (x0)]) (rest := []) ⟨hx, hb, hml, hown, hts⟩ (c_X2_requireWeight l D cI cZ ad (x0)  hst (s.heap).size) (cwS 1 hts gX2_addAssumption_X2_requireWeight rfl rfl rfl (by decide +kernel) ⟨Nat.le_of_ble_eq_true rfl, Nat.le_of_ble_eq_true rfl⟩) (prx_S (hP.sub (ws' := ([] : va_W)) [] rfl) (hD.sub (ws' := ([] : va_W)) [] (by decide) rfl) hK hX hZ hS (va_free (wc := ([] : va_W)) hD hS hAp [] rfl)) rfl rfl hl.1 rfl (lv_room (Nat.le_of_ble_eq_true rfl)) dX2_addAssumption_1 ⟨Nat.le_of_ble_eq_true rfl, Nat.le_of_ble_eq_true rfl⟩) hP hD hS hAp [] [0, 1, 2, 3, 4, 5, 6, 7, 8, 9, 10, 11, 12, 13] rfl rfl (by decide) (by decide) (fun E_1 ce_1 q9_1 ux_1 H locs hxp_1 hP hD hS h7_1 h8_1 h9_1 => ?_) (fun u_1 H locs hq_1 hP hD hS => ?_)
  · skip
    have hP : va_P D vwCl (wK cI cZ ad N A fl an nd wt B Hd O R HL LB SO NG WO SA SE) H := hP
    have hD : va_D Ap (wK cI cZ ad N A fl an nd wt B Hd O R HL LB SO NG WO SA SE) := hD
    exact x_out (u := ()) htab hlk h7_1 h8_1 h9_1 hS hP hD (Nat.le_of_ble_eq_true rfl) (Nat.le_of_ble_eq_true rfl) (by obtain ⟨hE9, hc9⟩ := hxp_1; subst hE9; simp [hc9])
  · skip
    obtain ⟨hok_1, -⟩ := hq_1
    have hP : va_P D vwCl (wK cI cZ ad N A fl an nd wt B Hd O R HL LB SO NG WO SA SE) H := hP
    have hD : va_D Ap (wK cI cZ ad N A fl an nd wt B Hd O R HL LB SO NG WO SA SE) := hD
    refine W.widen (k := 1) (n := 6) (by decide) (by decide) ?_
    refine lv_aload_n hx hb dX2_addAssumption_4 rfl (lv_at hl 0 rfl) ?_
    refine va_get (D := D) (ci := 2) (v := .int (nI (N))) (C := RX2) (T := TX2) (N := 8) hx hb hts hin2 hown hK.1 hP 0 rfl rfl 5 (by decide) f33 (fun _ h9 => h9) rfl dX2_addAssumption_5 ?_
    refine lv_bipush (v := nI (24)) hx hb dX2_addAssumption_8 (by decide) ?_
    refine lv_icmp_ge (tgt := 22) hx hb dX2_addAssumption_10 (by decide) (fun c_10 => ?_) (fun c_10 => ?_)
    · skip
      have c_10 := (qI_le (a := 24) (b := N) (by omega) (by omega)).mp c_10
      obtain ⟨sa_22, hstr_22⟩ := hX.1 (59, "there are 24 nodes or 9 assumptions") (by decide +kernel)
      exact vx_throwS (sa := sa_22) (A := Ap) (cls := "java/lang/IllegalStateException") (names := ["java/lang/RuntimeException", "java/lang/Exception"]) hx hb hst hown (by decide) (by decide) (hts (.classLink RX2 44 "java/lang/IllegalStateException") (by decide +kernel)) (hts (.initialized "java/lang/IllegalStateException") (by decide +kernel)) hstr_22 (vx_hat (fun w h => hts w (ha_48 w h)) xb_48 (xN_use hX)) xg_48 hZ.1 hZ.2 hS (hl.1.trans hml.symm) dX2_addAssumption_22 dX2_addAssumption_25 dX2_addAssumption_26 dX2_addAssumption_28 dX2_addAssumption_31 (fun x9 hx9 => (htab x9 hx9).elim) (Nat.le_of_ble_eq_true rfl) (Nat.le_of_ble_eq_true rfl) (Nat.le_of_ble_eq_true rfl) (Nat.le_of_ble_eq_true rfl) hlk (x_end (u := ()) hS hP hD (by simp [hok_1]; omega)) hS.2.2 (Nat.le_of_ble_eq_true rfl) (Nat.le_of_ble_eq_true rfl)
    · skip
      have c_10 := mt (qI_le (a := 24) (b := N) (by omega) (by omega)).mpr c_10
      refine lv_aload_n hx hb dX2_addAssumption_13 rfl (lv_at hl 0 rfl) ?_
      refine va_get (D := D) (ci := 2) (v := .int (nI (A))) (C := RX2) (T := TX2) (N := 8) hx hb hts hin2 hown hK.1 hP 0 rfl rfl 6 (by decide) f37 (fun _ h9 => h9) rfl dX2_addAssumption_14 ?_
      refine lv_bipush (v := nI (9)) hx hb dX2_addAssumption_17 (by decide) ?_
      refine lv_icmp_lt (tgt := 32) hx hb dX2_addAssumption_19 (by decide) (fun c_19 => ?_) (fun c_19 => ?_)
      · skip
        have c_19 := (qI_lt (a := A) (b := 9) (by omega) (by omega)).mp c_19
        refine lv_aload_n hx hb dX2_addAssumption_32 rfl (lv_at hl 0 rfl) ?_
        refine va_get (D := D) (ci := 2) (v := .int (nI (A))) (C := RX2) (T := TX2) (N := 8) hx hb hts hin2 hown hK.1 hP 0 rfl rfl 6 (by decide) f37 (fun _ h9 => h9) rfl dX2_addAssumption_33 ?_
        refine lv_istore_n (lv' := [(2, .int (nI (A))), (0, .ref (ad 0)), (1, .int (x0))]) hx hb dX2_addAssumption_36 rfl hl (by decide) rfl (fun ls hl => ?_)
        refine lv_aload_n hx hb dX2_addAssumption_37 rfl (lv_at hl 1 rfl) ?_
        refine va_get (D := D) (ci := 2) (v := .ref (ad 2)) (C := RX2) (T := TX2) (N := 8) hx hb hts hin2 hown hK.1 hP 0 rfl rfl 1 (by decide) f13 (fun _ h9 => h9) rfl dX2_addAssumption_38 ?_
        refine lv_iload_n hx hb dX2_addAssumption_41 rfl (lv_at hl 0 rfl) ?_
        refine lv_aload_n hx hb dX2_addAssumption_42 rfl (lv_at hl 1 rfl) ?_
        refine va_get (D := D) (ci := 2) (v := .int (nI (N))) (C := RX2) (T := TX2) (N := 8) hx hb hts hin2 hown hK.1 hP 0 rfl rfl 5 (by decide) f33 (fun _ h9 => h9) rfl dX2_addAssumption_43 ?_
        refine si_ (D := D) (f := nd) (i := A) (x := nI (N)) hx hb hK hP hD hS 2 0 rfl rfl (by omega) (by decide) dX2_addAssumption_46 (fun H locs hP hD hS => ?_)
        have hP : va_P D vwCl (wK cI cZ ad N A fl an (upd nd (A) (nI (N))) wt B Hd O R HL LB SO NG WO SA SE) H := hP
        have hD : va_D Ap (wK cI cZ ad N A fl an (upd nd (A) (nI (N))) wt B Hd O R HL LB SO NG WO SA SE) := hD
        refine lv_aload_n hx hb dX2_addAssumption_47 rfl (lv_at hl 1 rfl) ?_
        refine va_get (D := D) (ci := 2) (v := .ref (ad 3)) (C := RX2) (T := TX2) (N := 8) hx hb hts hin2 hown hK.1 hP 0 rfl rfl 2 (by decide) f16 (fun _ h9 => h9) rfl dX2_addAssumption_48 ?_
        refine lv_iload_n hx hb dX2_addAssumption_51 rfl (lv_at hl 0 rfl) ?_
        refine lv_iload_n hx hb dX2_addAssumption_52 rfl (lv_at hl 2 rfl) ?_
        refine si_ (D := D) (f := wt) (i := A) (x := x0) hx hb hK hP hD hS 3 0 rfl rfl (by omega) (by decide) dX2_addAssumption_53 (fun H locs hP hD hS => ?_)
        have hP : va_P D vwCl (wK cI cZ ad N A fl an (upd nd (A) (nI (N))) (upd wt (A) (x0)) B Hd O R HL LB SO NG WO SA SE) H := hP
        have hD : va_D Ap (wK cI cZ ad N A fl an (upd nd (A) (nI (N))) (upd wt (A) (x0)) B Hd O R HL LB SO NG WO SA SE) := hD
        refine lv_aload_n hx hb dX2_addAssumption_54 rfl (lv_at hl 1 rfl) ?_
        refine lv_iload_n hx hb dX2_addAssumption_55 rfl (lv_at hl 0 rfl) ?_
        refine lv_iconst (v := 1) hx hb dX2_addAssumption_56 (by decide) ?_
        refine lv_iadd hx hb dX2_addAssumption_57 ?_
        rw [nI_1]
        refine va_put (D := D) (ci := 2) (v := .int (nI (A + 1))) (ty := .int) (C := RX2) (T := TX2) (N := 8) hx hb hts hin2 tyX2 tyX2_ok nmX2 hown hK.1 hP hD hS 0 rfl rfl 6 (by decide) f37 (fun _ h9 => h9) rfl (by decide +kernel) rfl rfl (Nat.le_of_ble_eq_true rfl) dX2_addAssumption_58 (fun H locs hP hD hS => ?_)
        have hP : va_P D vwCl (wK cI cZ ad N (A + 1) fl an (upd nd (A) (nI (N))) (upd wt (A) (x0)) B Hd O R HL LB SO NG WO SA SE) H := hP
        have hD : va_D Ap (wK cI cZ ad N (A + 1) fl an (upd nd (A) (nI (N))) (upd wt (A) (x0)) B Hd O R HL LB SO NG WO SA SE) := hD
        refine lv_aload_n hx hb dX2_addAssumption_61 rfl (lv_at hl 1 rfl) ?_
        refine lv_iload_n hx hb dX2_addAssumption_62 rfl (lv_at hl 0 rfl) ?_
        refine mu_i (wr := []) (va_runV (As := [.int (nI (A))]) (rest := []) ⟨hx, hb, hml, hown, hts⟩ (c_X2_appendNode l D cI cZ ad (N) (A + 1) (fl) (an) (upd nd (A) (nI (N))) (upd wt (A) (x0)) (B) (Hd) (O) (R) (HL) (LB) (SO) (NG) (WO) (SA) (SE) (nI (A)) (by omega) (H).size) (cwV 1 hts gX2_addAssumption_X2_appendNode rfl rfl rfl (by decide +kernel) ⟨Nat.le_of_ble_eq_true rfl, Nat.le_of_ble_eq_true rfl⟩) (prw_V (q0 := 0) (ci := 2) (hP.sub (ws' := (wK cI cZ ad N (A + 1) fl an (upd nd (A) (nI (N))) (upd wt (A) (x0)) B Hd O R HL LB SO NG WO SA SE)) [0, 1, 2, 3, 4, 5, 6, 7, 8, 9, 10, 11, 12, 13] rfl) (hD.sub (ws' := (wK cI cZ ad N (A + 1) fl an (upd nd (A) (nI (N))) (upd wt (A) (x0)) B Hd O R HL LB SO NG WO SA SE)) [0, 1, 2, 3, 4, 5, 6, 7, 8, 9, 10, 11, 12, 13] (by decide) rfl) hK rfl rfl) rfl rfl hl.1 rfl (lv_room (Nat.le_of_ble_eq_true rfl)) dX2_addAssumption_63 ⟨Nat.le_of_ble_eq_true rfl, Nat.le_of_ble_eq_true rfl⟩) hP hD hS hAp [0, 1, 2, 3, 4, 5, 6, 7, 8, 9, 10, 11, 12, 13] [] rfl rfl (by decide) (by decide) (fun r_63 u_63 H locs hq_63 hP hD hS => ?_)
        obtain ⟨rfl, -⟩ := hq_63
        have hP : va_P D vwCl (wK cI cZ ad (N + 1) (A + 1) false (upd an N (nI (A))) (upd nd (A) (nI (N))) (upd wt (A) (x0)) B Hd O R HL LB SO NG WO SA SE) H := hP
        have hD : va_D Ap (wK cI cZ ad (N + 1) (A + 1) false (upd an N (nI (A))) (upd nd (A) (nI (N))) (upd wt (A) (x0)) B Hd O R HL LB SO NG WO SA SE) := hD
        refine W.widen (k := 2) (n := 12) (by decide) (by decide) ?_
        exact vx_ret (mr_i (u := ()) hx hb hrt hlk dX2_addAssumption_66 hS hP hD ⟨(by first | rfl | (simp [c_10, c_19]; done) | (simp only [c_10, c_19]; rfl) | (simp_all [c_10, c_19]; done)), (⟨hok_1, by omega, by omega⟩), trivial⟩)
      · skip
        have c_19 := mt (qI_lt (a := A) (b := 9) (by omega) (by omega)).mpr c_19
        obtain ⟨sa_22, hstr_22⟩ := hX.1 (59, "there are 24 nodes or 9 assumptions") (by decide +kernel)
        exact vx_throwS (sa := sa_22) (A := Ap) (cls := "java/lang/IllegalStateException") (names := ["java/lang/RuntimeException", "java/lang/Exception"]) hx hb hst hown (by decide) (by decide) (hts (.classLink RX2 44 "java/lang/IllegalStateException") (by decide +kernel)) (hts (.initialized "java/lang/IllegalStateException") (by decide +kernel)) hstr_22 (vx_hat (fun w h => hts w (ha_48 w h)) xb_48 (xN_use hX)) xg_48 hZ.1 hZ.2 hS (hl.1.trans hml.symm) dX2_addAssumption_22 dX2_addAssumption_25 dX2_addAssumption_26 dX2_addAssumption_28 dX2_addAssumption_31 (fun x9 hx9 => (htab x9 hx9).elim) (Nat.le_of_ble_eq_true rfl) (Nat.le_of_ble_eq_true rfl) (Nat.le_of_ble_eq_true rfl) (Nat.le_of_ble_eq_true rfl) hlk (x_end (u := ()) hS hP hD (by simp [hok_1]; omega)) hS.2.2 (Nat.le_of_ble_eq_true rfl) (Nat.le_of_ble_eq_true rfl)
set_option maxHeartbeats 4000000 in
set_option maxRecDepth 100000 in
theorem c_X2_setWeight (l : Launch) (D : va_G) (cI cZ : ClassId) (ad : Nat → Nat) (N : Nat) (A : Nat) (fl : Bool) (an : Nat → Int32) (nd : Nat → Int32) (wt : Nat → Int32) (B : Nat → Int32) (Hd : Nat → Int32) (O : Nat → Bool) (R : Nat) (HL : Nat → Int32) (LB : Nat → Int32) (SO : Nat → Bool) (NG : Nat → Bool) (WO : Nat → Bool) (SA : Nat) (SE : Nat) (x0 : Int32) (y0 : Int32) (hA : A ≤ 9) (hst : l.stackTraces = false) (sz : Nat) : vx_Met l yX2_setWeight wsX2_setWeight ({ frames := 7, cells := 2, slots := 12, locals := 111 }) (pcX D [(cI, .int), (cZ, .boolean)] sz (wK cI cZ ad N A fl an nd wt B Hd O R HL LB SO NG WO SA SE) [.ref (ad 0), .int (x0), .int (y0)]) (va_Qi (fun (r9 : Int32) (u9 : (Nat → Int32)) => (inR x0 A = true ∧ okW y0 = true) ∧ (∃ j, j < A ∧ x0 = nI j ∧ r9 = wt j ∧ u9 = upd wt j y0) ∧ (True)) (wB D (va_A (wK cI cZ ad N A fl an nd wt B Hd O R HL LB SO NG WO SA SE) sz) (fun u9 : (Nat → Int32) => (wK cI cZ ad N A fl an nd u9 B Hd O R HL LB SO NG WO SA SE))) (va_A (wK cI cZ ad N A fl an nd wt B Hd O R HL LB SO NG WO SA SE) sz)) (xX D (va_A (wK cI cZ ad N A fl an nd wt B Hd O R HL LB SO NG WO SA SE) sz) (fun (E9 : String) (u9 : Unit) => (E9 = "java/lang/IndexOutOfBoundsException" ∧ (inR x0 A = false)) ∨ (E9 = "java/lang/IllegalArgumentException" ∧ (inR x0 A = true ∧ okW y0 = false))) (fun u9 : Unit => (wK cI cZ ad N A fl an nd wt B Hd O R HL LB SO NG WO SA SE))) 2 12 (va_A (wK cI cZ ad N A fl an nd wt B Hd O R HL LB SO NG WO SA SE) sz) := by
  refine vx_ofW (cc := cX2_setWeight) (maxL := 4) (ret := (some .int)) (by decide) rfl ?_
  intro p e s m args below meth c s₁ BB hml htab hv
  obtain ⟨rfl, hsz, hP, hK, hD0, hX, hZ⟩ := hv
  have hx := BB.exec
  have hb := BB.bytes
  have hrt := BB.returns
  have hts := atoms_spec (ws := wsX2_setWeight) BB.pre
  have hown : s.vm.findClass RX2 = some m.cls := findClass_of_methodNamed BB.named
  have hlk := BB.notSynchronized
  subst hsz
  have hD := hD0.self (sz := s.heap.size)
  generalize hAe : va_A (wK cI cZ ad N A fl an nd wt B Hd O R HL LB SO NG WO SA SE) s.heap.size = Ap at hD hZ ⊢
  have hAp : ∀ q : Nat, s.heap.size ≤ q → Ap q := fun q h => by rw [← hAe]; exact Or.inr h
  have hS : va_S Ap s.heap s.heap [] := va_S.rf
  have f16 := hts (.fieldLink RX2 16 "AssumptionKeeper" "weights" "[I") (by decide +kernel)
  have hin2 : ∀ w ∈ u_ws RX2 TX2 8, w ∈ wsX2_setWeight := by decide +kernel
  have hl := lv_entry ([.ref (ad 0), .int (x0), .int (y0)]) (n := 4) (Nat.le_of_ble_eq_true rfl)
  rw [lg_entry_eq]
  generalize (lg_sl ([.ref (ad 0), .int (x0), .int (y0)]) ++ List.replicate (4 - (lg_sl ([.ref (ad 0), .int (x0), .int (y0)])).length) Slot.unset).toArray = ls at hl ⊢
  have hl : lv_has ls 4 [(0, .ref (ad 0)), (1, .int (x0)), (2, .int (y0))] := hl
  refine lv_aload_n hx hb dX2_setWeight_0 rfl (lv_at hl 0 rfl) ?_
  refine lv_iload_n hx hb dX2_setWeight_1 rfl (lv_at hl 1 rfl) ?_
  refine xu_v (wr := []) (vx_runV (As := [.int (x0)]) (rest := []) ⟨hx, hb, hml, hown, hts⟩ (c_X2_requireAssumption l D cI cZ ad (N) (A) (fl) (an) (nd) (wt) (B) (Hd) (O) (R) (HL) (LB) (SO) (NG) (WO) (SA) (SE) (x0)  hst (s.heap).size) (cwV 1 hts gX2_setWeight_X2_requireAssumption rfl rfl rfl (by decide +kernel) ⟨Nat.le_of_ble_eq_true rfl, Nat.le_of_ble_eq_true rfl⟩) (prx_V (q0 := 0) (ci := 2) (hP.sub (ws' := (wK cI cZ ad N A fl an nd wt B Hd O R HL LB SO NG WO SA SE)) [0, 1, 2, 3, 4, 5, 6, 7, 8, 9, 10, 11, 12, 13] rfl) (hD.sub (ws' := (wK cI cZ ad N A fl an nd wt B Hd O R HL LB SO NG WO SA SE)) [0, 1, 2, 3, 4, 5, 6, 7, 8, 9, 10, 11, 12, 13] (by decide) rfl) hK hX hZ hS (va_free (wc := (wK cI cZ ad N A fl an nd wt B Hd O R HL LB SO NG WO SA SE)) hD hS hAp [0, 1, 2, 3, 4, 5, 6, 7, 8, 9, 10, 11, 12, 13] rfl) rfl rfl) rfl rfl hl.1 rfl (lv_room (Nat.le_of_ble_eq_true rfl)) dX2_setWeight_2 ⟨Nat.le_of_ble_eq_true rfl, Nat.le_of_ble_eq_true rfl⟩) hP hD hS hAp [0, 1, 2, 3, 4, 5, 6, 7, 8, 9, 10, 11, 12, 13] [] rfl rfl (by decide) (by decide) (fun E_2 ce_2 q9_2 ux_2 H locs hxp_2 hP hD hS h7_2 h8_2 h9_2 => ?_) (fun u_2 H locs hq_2 hP hD hS => ?_)
  · skip
    have hP : va_P D vwCl (wK cI cZ ad N A fl an nd wt B Hd O R HL LB SO NG WO SA SE) H := hP
    have hD : va_D Ap (wK cI cZ ad N A fl an nd wt B Hd O R HL LB SO NG WO SA SE) := hD
    exact x_out (u := ()) htab hlk h7_2 h8_2 h9_2 hS hP hD (Nat.le_of_ble_eq_true rfl) (Nat.le_of_ble_eq_true rfl) (by obtain ⟨hE9, hc9⟩ := hxp_2; subst hE9; simp [hc9])
  · skip
    obtain ⟨hok_2, -⟩ := hq_2
    have hP : va_P D vwCl (wK cI cZ ad N A fl an nd wt B Hd O R HL LB SO NG WO SA SE) H := hP
    have hD : va_D Ap (wK cI cZ ad N A fl an nd wt B Hd O R HL LB SO NG WO SA SE) := hD
    refine W.widen (k := 1) (n := 6) (by decide) (by decide) ?_
    refine lv_iload_n hx hb dX2_setWeight_5 rfl (lv_at hl 2 rfl) ?_
    refine xu_v (wr := [(ad 0, .inr (2, [.ref (ad 1), .ref (ad 2), .ref (ad 3), .ref (ad 4), .ref (ad 8), .int (nI (N)), .int (nI (A)), .int (bI (fl))])), (ad 1, .inl (cI, 24, .inl an)), (ad 2, .inl (cI, 9, .inl nd)), (ad 3, .inl (cI, 9, .inl wt)), (ad 4, .inr (0, [.ref (ad 5), .ref (ad 6), .ref (ad 7), .int (nI (R))])), (ad 5, .inl (cI, 40, .inl B)), (ad 6, .inl (cI, 40, .inl Hd)), (ad 7, .inl (cZ, 40, .inl (fun j => bI (O j)))), (ad 8, .inr (1, [.ref (ad 9), .ref (ad 10), .ref (ad 11), .ref (ad 12), .ref (ad 13), .int (nI (SA)), .int (nI (SE))])), (ad 9, .inl (cI, 512, .inl HL)), (ad 10, .inl (cI, 512, .inl LB)), (ad 11, .inl (cZ, 512, .inl (fun j => bI (SO j)))), (ad 12, .inl (cZ, 512, .inl (fun j => bI (NG j)))), (ad 13, .inl (cZ, 512, .inl (fun j => bI (WO j))))]) (vx_runS (As := [.int (y0)]) (rest := []) ⟨hx, hb, hml, hown, hts⟩ (c_X2_requireWeight l D cI cZ ad (y0)  hst (H).size) (cwS 1 hts gX2_setWeight_X2_requireWeight rfl rfl rfl (by decide +kernel) ⟨Nat.le_of_ble_eq_true rfl, Nat.le_of_ble_eq_true rfl⟩) (prx_S (hP.sub (ws' := ([] : va_W)) [] rfl) (hD.sub (ws' := ([] : va_W)) [] (by decide) rfl) hK hX hZ hS (va_free (wc := ([] : va_W)) hD hS hAp [] rfl)) rfl rfl hl.1 rfl (lv_room (Nat.le_of_ble_eq_true rfl)) dX2_setWeight_6 ⟨Nat.le_of_ble_eq_true rfl, Nat.le_of_ble_eq_true rfl⟩) hP hD hS hAp [] [0, 1, 2, 3, 4, 5, 6, 7, 8, 9, 10, 11, 12, 13] rfl rfl (by decide) (by decide) (fun E_6 ce_6 q9_6 ux_6 H locs hxp_6 hP hD hS h7_6 h8_6 h9_6 => ?_) (fun u_6 H locs hq_6 hP hD hS => ?_)
    · skip
      have hP : va_P D vwCl (wK cI cZ ad N A fl an nd wt B Hd O R HL LB SO NG WO SA SE) H := hP
      have hD : va_D Ap (wK cI cZ ad N A fl an nd wt B Hd O R HL LB SO NG WO SA SE) := hD
      exact x_out (u := ()) htab hlk h7_6 h8_6 h9_6 hS hP hD (Nat.le_of_ble_eq_true rfl) (Nat.le_of_ble_eq_true rfl) (by obtain ⟨hE9, hc9⟩ := hxp_6; subst hE9; simp [hc9, hok_2])
    · skip
      obtain ⟨hok_6, -⟩ := hq_6
      have hP : va_P D vwCl (wK cI cZ ad N A fl an nd wt B Hd O R HL LB SO NG WO SA SE) H := hP
      have hD : va_D Ap (wK cI cZ ad N A fl an nd wt B Hd O R HL LB SO NG WO SA SE) := hD
      refine W.widen (k := 2) (n := 12) (by decide) (by decide) ?_
      obtain ⟨j0, hj0, rfl⟩ := inR_nat hok_2
      refine lv_aload_n hx hb dX2_setWeight_9 rfl (lv_at hl 0 rfl) ?_
      refine va_get (D := D) (ci := 2) (v := .ref (ad 3)) (C := RX2) (T := TX2) (N := 8) hx hb hts hin2 hown hK.1 hP 0 rfl rfl 2 (by decide) f16 (fun _ h9 => h9) rfl dX2_setWeight_10 ?_
      refine lv_iload_n hx hb dX2_setWeight_13 rfl (lv_at hl 1 rfl) ?_
      refine ai_ (D := D) (f := wt) (i := j0) hx hb hK hP 3 0 rfl rfl (by omega) (by decide) dX2_setWeight_14 ?_
      refine lv_istore_n (lv' := [(3, .int (wt (j0))), (0, .ref (ad 0)), (1, .int (nI (j0))), (2, .int (y0))]) hx hb dX2_setWeight_15 rfl hl (by decide) rfl (fun ls hl => ?_)
      refine lv_aload_n hx hb dX2_setWeight_16 rfl (lv_at hl 1 rfl) ?_
      refine va_get (D := D) (ci := 2) (v := .ref (ad 3)) (C := RX2) (T := TX2) (N := 8) hx hb hts hin2 hown hK.1 hP 0 rfl rfl 2 (by decide) f16 (fun _ h9 => h9) rfl dX2_setWeight_17 ?_
      refine lv_iload_n hx hb dX2_setWeight_20 rfl (lv_at hl 2 rfl) ?_
      refine lv_iload_n hx hb dX2_setWeight_21 rfl (lv_at hl 3 rfl) ?_
      refine si_ (D := D) (f := wt) (i := j0) (x := y0) hx hb hK hP hD hS 3 0 rfl rfl (by omega) (by decide) dX2_setWeight_22 (fun H locs hP hD hS => ?_)
      have hP : va_P D vwCl (wK cI cZ ad N A fl an nd (upd wt (j0) (y0)) B Hd O R HL LB SO NG WO SA SE) H := hP
      have hD : va_D Ap (wK cI cZ ad N A fl an nd (upd wt (j0) (y0)) B Hd O R HL LB SO NG WO SA SE) := hD
      refine lv_iload_n hx hb dX2_setWeight_23 rfl (lv_at hl 0 rfl) ?_
      exact vx_ret (mr_i (u := (upd wt (j0) (y0))) hx hb hrt hlk dX2_setWeight_24 hS hP hD ⟨(⟨hok_2, hok_6⟩), (⟨j0, hj0, rfl, rfl, rfl⟩), trivial⟩)
set_option maxHeartbeats 4000000 in
set_option maxRecDepth 100000 in
theorem c_X2_addRule (l : Launch) (D : va_G) (cI cZ : ClassId) (ad : Nat → Nat) (N : Nat) (A : Nat) (fl : Bool) (an : Nat → Int32) (nd : Nat → Int32) (wt : Nat → Int32) (B : Nat → Int32) (Hd : Nat → Int32) (O : Nat → Bool) (R : Nat) (HL : Nat → Int32) (LB : Nat → Int32) (SO : Nat → Bool) (NG : Nat → Bool) (WO : Nat → Bool) (SA : Nat) (SE : Nat) (x0 : Int32) (y0 : Int32) (hR : R ≤ 40) (hst : l.stackTraces = false) (sz : Nat) : vx_Met l yX2_addRule wsX2_addRule ({ frames := 7, cells := 2, slots := 12, locals := 111 }) (pcX D [(cI, .int), (cZ, .boolean)] sz (wK cI cZ ad N A fl an nd wt B Hd O R HL LB SO NG WO SA SE) [.ref (ad 0), .int (x0), .int (y0)]) (va_Qi (fun (r9 : Int32) (u9 : Unit) => (r9 = nI (R)) ∧ (inS x0 N = true ∧ (y0 = -1 ∨ inR y0 N = true) ∧ R < 40) ∧ (True)) (wB D (va_A (wK cI cZ ad N A fl an nd wt B Hd O R HL LB SO NG WO SA SE) sz) (fun u9 : Unit => (wK cI cZ ad N A false an nd wt (upd B R x0) (upd Hd R y0) (updB O R true) (R + 1) HL LB SO NG WO SA SE))) (va_A (wK cI cZ ad N A fl an nd wt B Hd O R HL LB SO NG WO SA SE) sz)) (xX D (va_A (wK cI cZ ad N A fl an nd wt B Hd O R HL LB SO NG WO SA SE) sz) (fun (E9 : String) (u9 : Unit) => (E9 = "java/lang/IllegalArgumentException" ∧ (inS x0 N = false)) ∨ (E9 = "java/lang/IndexOutOfBoundsException" ∧ (inS x0 N = true ∧ ¬ y0 = -1 ∧ inR y0 N = false)) ∨ (E9 = "java/lang/IllegalStateException" ∧ (inS x0 N = true ∧ (y0 = -1 ∨ inR y0 N = true) ∧ 40 ≤ R))) (fun u9 : Unit => (wK cI cZ ad N A fl an nd wt B Hd O R HL LB SO NG WO SA SE))) 2 12 (va_A (wK cI cZ ad N A fl an nd wt B Hd O R HL LB SO NG WO SA SE) sz) := by
  refine vx_ofW (cc := cX2_addRule) (maxL := 3) (ret := (some .int)) (by decide) rfl ?_
  intro p e s m args below meth c s₁ BB hml htab hv
  obtain ⟨rfl, hsz, hP, hK, hD0, hX, hZ⟩ := hv
  have hx := BB.exec
  have hb := BB.bytes
  have hrt := BB.returns
  have hts := atoms_spec (ws := wsX2_addRule) BB.pre
  have hown : s.vm.findClass RX2 = some m.cls := findClass_of_methodNamed BB.named
  have hlk := BB.notSynchronized
  subst hsz
  have hD := hD0.self (sz := s.heap.size)
  generalize hAe : va_A (wK cI cZ ad N A fl an nd wt B Hd O R HL LB SO NG WO SA SE) s.heap.size = Ap at hD hZ ⊢
  have hAp : ∀ q : Nat, s.heap.size ≤ q → Ap q := fun q h => by rw [← hAe]; exact Or.inr h
  have hS : va_S Ap s.heap s.heap [] := va_S.rf
  have f22 := hts (.fieldLink RX2 22 "AssumptionKeeper" "rules" "LAssumptionKeeper$RuleBook;") (by decide +kernel)
  have f33 := hts (.fieldLink RX2 33 "AssumptionKeeper" "nodes" "I") (by decide +kernel)
  have f40 := hts (.fieldLink RX2 40 "AssumptionKeeper" "isSurveyed" "Z") (by decide +kernel)
  have hin2 : ∀ w ∈ u_ws RX2 TX2 8, w ∈ wsX2_addRule := by decide +kernel
  have ha_48 : ∀ w ∈ (vx_atS RX2 48 "java/lang/IllegalStateException" ["java/lang/RuntimeException", "java/lang/Exception"]).filter goodWord, w ∈ wsX2_addRule := by first | exact fun w h => List.mem_cons_of_mem _ (List.mem_append_right _ h) | decide +kernel
  have ha_72 : ∀ w ∈ (vx_atS RX2 72 "java/lang/IllegalArgumentException" ["java/lang/RuntimeException", "java/lang/Exception"]).filter goodWord, w ∈ wsX2_addRule := by first | exact fun w h => List.mem_cons_of_mem _ (List.mem_append_right _ h) | decide +kernel
  have hl := lv_entry ([.ref (ad 0), .int (x0), .int (y0)]) (n := 3) (Nat.le_of_ble_eq_true rfl)
  rw [lg_entry_eq]
  generalize (lg_sl ([.ref (ad 0), .int (x0), .int (y0)]) ++ List.replicate (3 - (lg_sl ([.ref (ad 0), .int (x0), .int (y0)])).length) Slot.unset).toArray = ls at hl ⊢
  have hl : lv_has ls 3 [(0, .ref (ad 0)), (1, .int (x0)), (2, .int (y0))] := hl
  refine lv_aload_n hx hb dX2_addRule_0 rfl (lv_at hl 0 rfl) ?_
  refine va_get (D := D) (ci := 2) (v := .int (nI (N))) (C := RX2) (T := TX2) (N := 8) hx hb hts hin2 hown hK.1 hP 0 rfl rfl 5 (by decide) f33 (fun _ h9 => h9) rfl dX2_addRule_1 ?_
  refine lv_iload_n hx hb dX2_addRule_4 rfl (lv_at hl 1 rfl) ?_
  refine pu_i (va_runS (As := [.int (nI (N)), .int (x0)]) (rest := []) ⟨hx, hb, hml, hown, hts⟩ (c_X2_isSetOf l D cI cZ ad (N) (x0) ) (cwS 2 hts gX2_addRule_X2_isSetOf rfl rfl rfl (by decide +kernel) ⟨Nat.le_of_ble_eq_true rfl, Nat.le_of_ble_eq_true rfl⟩) (pre_S (hP.sub (ws' := ([] : va_W)) [] rfl) hK) rfl rfl hl.1 rfl (lv_room (Nat.le_of_ble_eq_true rfl)) dX2_addRule_5 ⟨Nat.le_of_ble_eq_true rfl, Nat.le_of_ble_eq_true rfl⟩) ?_
  refine lv_if_ne (tgt := 21) hx hb dX2_addRule_8 (by decide) (fun c_8 => ?_) (fun c_8 => ?_)
  · skip
    have c_8 := bI_ne0 c_8
    refine lv_iload_n hx hb dX2_addRule_21 rfl (lv_at hl 2 rfl) ?_
    refine lv_iconst (v := -1) hx hb dX2_addRule_22 (by decide) ?_
    refine lv_icmp_eq (tgt := 31) hx hb dX2_addRule_23 (by decide) (fun c_23 => ?_) (fun c_23 => ?_)
    · skip
      refine lv_aload_n hx hb dX2_addRule_31 rfl (lv_at hl 0 rfl) ?_
      refine va_get (D := D) (ci := 2) (v := .ref (ad 4)) (C := RX2) (T := TX2) (N := 8) hx hb hts hin2 hown hK.1 hP 0 rfl rfl 3 (by decide) f22 (fun _ h9 => h9) rfl dX2_addRule_32 ?_
      refine pu_i (va_runV (As := []) (rest := []) ⟨hx, hb, hml, hown, hts⟩ (c_X0_isFull l D cI cZ (fun k => ad (k + 4)) (B) (Hd) (O) (R) (by omega)) (cwV 0 hts gX2_addRule_X0_isFull rfl rfl rfl (by decide +kernel) ⟨Nat.le_of_ble_eq_true rfl, Nat.le_of_ble_eq_true rfl⟩) (pre_V (q0 := 0) (ci := 0) (hP.sub (ws' := (wR cI cZ (fun k => ad (k + 4)) B Hd O R)) [4, 5, 6, 7] rfl) hK rfl rfl) rfl rfl hl.1 rfl (lv_room (Nat.le_of_ble_eq_true rfl)) dX2_addRule_35 ⟨Nat.le_of_ble_eq_true rfl, Nat.le_of_ble_eq_true rfl⟩) ?_
      refine lv_if_eq (tgt := 51) hx hb dX2_addRule_38 (by decide) (fun c_38 => ?_) (fun c_38 => ?_)
      · skip
        have c_38 := bI_eq0 c_38
        refine lv_aload_n hx hb dX2_addRule_51 rfl (lv_at hl 0 rfl) ?_
        refine lv_iconst (v := 0) hx hb dX2_addRule_52 (by decide) ?_
        refine va_put (D := D) (ci := 2) (v := .int (bI (false))) (ty := .boolean) (C := RX2) (T := TX2) (N := 8) hx hb hts hin2 tyX2 tyX2_ok nmX2 hown hK.1 hP hD hS 0 rfl rfl 7 (by decide) f40 (fun _ h9 => h9) rfl (by decide +kernel) (bI_nar _) rfl (Nat.le_of_ble_eq_true rfl) dX2_addRule_53 (fun H locs hP hD hS => ?_)
        have hP : va_P D vwCl (wK cI cZ ad N A false an nd wt B Hd O R HL LB SO NG WO SA SE) H := hP
        have hD : va_D Ap (wK cI cZ ad N A false an nd wt B Hd O R HL LB SO NG WO SA SE) := hD
        refine lv_aload_n hx hb dX2_addRule_56 rfl (lv_at hl 0 rfl) ?_
        refine va_get (D := D) (ci := 2) (v := .ref (ad 4)) (C := RX2) (T := TX2) (N := 8) hx hb hts hin2 hown hK.1 hP 0 rfl rfl 3 (by decide) f22 (fun _ h9 => h9) rfl dX2_addRule_57 ?_
        refine lv_iload_n hx hb dX2_addRule_60 rfl (lv_at hl 1 rfl) ?_
        refine lv_iload_n hx hb dX2_addRule_61 rfl (lv_at hl 2 rfl) ?_
        refine mu_i (wr := [(ad 0, .inr (2, [.ref (ad 1), .ref (ad 2), .ref (ad 3), .ref (ad 4), .ref (ad 8), .int (nI (N)), .int (nI (A)), .int (bI (false))])), (ad 1, .inl (cI, 24, .inl an)), (ad 2, .inl (cI, 9, .inl nd)), (ad 3, .inl (cI, 9, .inl wt)), (ad 8, .inr (1, [.ref (ad 9), .ref (ad 10), .ref (ad 11), .ref (ad 12), .ref (ad 13), .int (nI (SA)), .int (nI (SE))])), (ad 9, .inl (cI, 512, .inl HL)), (ad 10, .inl (cI, 512, .inl LB)), (ad 11, .inl (cZ, 512, .inl (fun j => bI (SO j)))), (ad 12, .inl (cZ, 512, .inl (fun j => bI (NG j)))), (ad 13, .inl (cZ, 512, .inl (fun j => bI (WO j))))]) (va_runV (As := [.int (x0), .int (y0)]) (rest := []) ⟨hx, hb, hml, hown, hts⟩ (c_X0_append l D cI cZ (fun k => ad (k + 4)) (B) (Hd) (O) (R) (x0) (y0) (by simpa using c_38) (H).size) (cwV 2 hts gX2_addRule_X0_append rfl rfl rfl (by decide +kernel) ⟨Nat.le_of_ble_eq_true rfl, Nat.le_of_ble_eq_true rfl⟩) (prw_V (q0 := 0) (ci := 0) (hP.sub (ws' := (wR cI cZ (fun k => ad (k + 4)) B Hd O R)) [4, 5, 6, 7] rfl) (hD.sub (ws' := (wR cI cZ (fun k => ad (k + 4)) B Hd O R)) [4, 5, 6, 7] (by decide) rfl) hK rfl rfl) rfl rfl hl.1 rfl (lv_room (Nat.le_of_ble_eq_true rfl)) dX2_addRule_62 ⟨Nat.le_of_ble_eq_true rfl, Nat.le_of_ble_eq_true rfl⟩) hP hD hS hAp [4, 5, 6, 7] [0, 1, 2, 3, 8, 9, 10, 11, 12, 13] rfl rfl (by decide) (by decide) (fun r_62 u_62 H locs hq_62 hP hD hS => ?_)
        obtain ⟨rfl, -⟩ := hq_62
        have hP : va_P D vwCl (wK cI cZ ad N A false an nd wt (upd B R x0) (upd Hd R y0) (updB O R true) (R + 1) HL LB SO NG WO SA SE) H := hP.sub [0, 1, 2, 3, 10, 11, 12, 13, 4, 5, 6, 7, 8, 9] rfl
        have hD : va_D Ap (wK cI cZ ad N A false an nd wt (upd B R x0) (upd Hd R y0) (updB O R true) (R + 1) HL LB SO NG WO SA SE) := hD.sub [0, 1, 2, 3, 10, 11, 12, 13, 4, 5, 6, 7, 8, 9] (by decide) rfl
        refine W.widen (k := 2) (n := 12) (by decide) (by decide) ?_
        exact vx_ret (mr_i (u := ()) hx hb hrt hlk dX2_addRule_65 hS hP hD ⟨(by first | rfl | (simp [c_8, c_23, c_38]; done) | (simp only [c_8, c_23, c_38]; rfl) | (simp_all [c_8, c_23, c_38]; done)), (by first | exact ⟨c_8, Or.inl c_23, by simpa using c_38⟩ | exact ⟨c_8, Or.inr hok_28, by simpa using c_38⟩), trivial⟩)
      · skip
        have c_38 := bI_ne0 c_38
        obtain ⟨sa_41, hstr_41⟩ := hX.1 (80, "there are 40 rules") (by decide +kernel)
        exact vx_throwS (sa := sa_41) (A := Ap) (cls := "java/lang/IllegalStateException") (names := ["java/lang/RuntimeException", "java/lang/Exception"]) hx hb hst hown (by decide) (by decide) (hts (.classLink RX2 44 "java/lang/IllegalStateException") (by decide +kernel)) (hts (.initialized "java/lang/IllegalStateException") (by decide +kernel)) hstr_41 (vx_hat (fun w h => hts w (ha_48 w h)) xb_48 (xN_use hX)) xg_48 hZ.1 hZ.2 hS (hl.1.trans hml.symm) dX2_addRule_41 dX2_addRule_44 dX2_addRule_45 dX2_addRule_47 dX2_addRule_50 (fun x9 hx9 => (htab x9 hx9).elim) (Nat.le_of_ble_eq_true rfl) (Nat.le_of_ble_eq_true rfl) (Nat.le_of_ble_eq_true rfl) (Nat.le_of_ble_eq_true rfl) hlk (x_end (u := ()) hS hP hD (by have h40 : 40 ≤ R := (by simpa using c_38); first | (simp [c_8, c_23, h40]; done) | simp [c_8, hok_28, h40])) hS.2.2 (Nat.le_of_ble_eq_true rfl) (Nat.le_of_ble_eq_true rfl)
    · skip
      refine lv_aload_n hx hb dX2_addRule_26 rfl (lv_at hl 0 rfl) ?_
      refine lv_iload_n hx hb dX2_addRule_27 rfl (lv_at hl 2 rfl) ?_
      refine xu_v (wr := []) (vx_runV (As := [.int (y0)]) (rest := []) ⟨hx, hb, hml, hown, hts⟩ (c_X2_requireNode l D cI cZ ad (N) (A) (fl) (an) (nd) (wt) (B) (Hd) (O) (R) (HL) (LB) (SO) (NG) (WO) (SA) (SE) (y0)  hst (s.heap).size) (cwV 1 hts gX2_addRule_X2_requireNode rfl rfl rfl (by decide +kernel) ⟨Nat.le_of_ble_eq_true rfl, Nat.le_of_ble_eq_true rfl⟩) (prx_V (q0 := 0) (ci := 2) (hP.sub (ws' := (wK cI cZ ad N A fl an nd wt B Hd O R HL LB SO NG WO SA SE)) [0, 1, 2, 3, 4, 5, 6, 7, 8, 9, 10, 11, 12, 13] rfl) (hD.sub (ws' := (wK cI cZ ad N A fl an nd wt B Hd O R HL LB SO NG WO SA SE)) [0, 1, 2, 3, 4, 5, 6, 7, 8, 9, 10, 11, 12, 13] (by decide) rfl) hK hX hZ hS (va_free (wc := (wK cI cZ ad N A fl an nd wt B Hd O R HL LB SO NG WO SA SE)) hD hS hAp [0, 1, 2, 3, 4, 5, 6, 7, 8, 9, 10, 11, 12, 13] rfl) rfl rfl) rfl rfl hl.1 rfl (lv_room (Nat.le_of_ble_eq_true rfl)) dX2_addRule_28 ⟨Nat.le_of_ble_eq_true rfl, Nat.le_of_ble_eq_true rfl⟩) hP hD hS hAp [0, 1, 2, 3, 4, 5, 6, 7, 8, 9, 10, 11, 12, 13] [] rfl rfl (by decide) (by decide) (fun E_28 ce_28 q9_28 ux_28 H locs hxp_28 hP hD hS h7_28 h8_28 h9_28 => ?_) (fun u_28 H locs hq_28 hP hD hS => ?_)
      · skip
        have hP : va_P D vwCl (wK cI cZ ad N A fl an nd wt B Hd O R HL LB SO NG WO SA SE) H := hP
        have hD : va_D Ap (wK cI cZ ad N A fl an nd wt B Hd O R HL LB SO NG WO SA SE) := hD
        exact x_out (u := ()) htab hlk h7_28 h8_28 h9_28 hS hP hD (Nat.le_of_ble_eq_true rfl) (Nat.le_of_ble_eq_true rfl) (by obtain ⟨hE9, hc9⟩ := hxp_28; subst hE9; simp [hc9, c_8, c_23])
      · skip
        obtain ⟨hok_28, -⟩ := hq_28
        have hP : va_P D vwCl (wK cI cZ ad N A fl an nd wt B Hd O R HL LB SO NG WO SA SE) H := hP
        have hD : va_D Ap (wK cI cZ ad N A fl an nd wt B Hd O R HL LB SO NG WO SA SE) := hD
        refine W.widen (k := 1) (n := 6) (by decide) (by decide) ?_
        refine lv_aload_n hx hb dX2_addRule_31 rfl (lv_at hl 0 rfl) ?_
        refine va_get (D := D) (ci := 2) (v := .ref (ad 4)) (C := RX2) (T := TX2) (N := 8) hx hb hts hin2 hown hK.1 hP 0 rfl rfl 3 (by decide) f22 (fun _ h9 => h9) rfl dX2_addRule_32 ?_
        refine pu_i (va_runV (As := []) (rest := []) ⟨hx, hb, hml, hown, hts⟩ (c_X0_isFull l D cI cZ (fun k => ad (k + 4)) (B) (Hd) (O) (R) (by omega)) (cwV 0 hts gX2_addRule_X0_isFull rfl rfl rfl (by decide +kernel) ⟨Nat.le_of_ble_eq_true rfl, Nat.le_of_ble_eq_true rfl⟩) (pre_V (q0 := 0) (ci := 0) (hP.sub (ws' := (wR cI cZ (fun k => ad (k + 4)) B Hd O R)) [4, 5, 6, 7] rfl) hK rfl rfl) rfl rfl hl.1 rfl (lv_room (Nat.le_of_ble_eq_true rfl)) dX2_addRule_35 ⟨Nat.le_of_ble_eq_true rfl, Nat.le_of_ble_eq_true rfl⟩) ?_
        refine lv_if_eq (tgt := 51) hx hb dX2_addRule_38 (by decide) (fun c_38 => ?_) (fun c_38 => ?_)
        · skip
          have c_38 := bI_eq0 c_38
          refine lv_aload_n hx hb dX2_addRule_51 rfl (lv_at hl 0 rfl) ?_
          refine lv_iconst (v := 0) hx hb dX2_addRule_52 (by decide) ?_
          refine va_put (D := D) (ci := 2) (v := .int (bI (false))) (ty := .boolean) (C := RX2) (T := TX2) (N := 8) hx hb hts hin2 tyX2 tyX2_ok nmX2 hown hK.1 hP hD hS 0 rfl rfl 7 (by decide) f40 (fun _ h9 => h9) rfl (by decide +kernel) (bI_nar _) rfl (Nat.le_of_ble_eq_true rfl) dX2_addRule_53 (fun H locs hP hD hS => ?_)
          have hP : va_P D vwCl (wK cI cZ ad N A false an nd wt B Hd O R HL LB SO NG WO SA SE) H := hP
          have hD : va_D Ap (wK cI cZ ad N A false an nd wt B Hd O R HL LB SO NG WO SA SE) := hD
          refine lv_aload_n hx hb dX2_addRule_56 rfl (lv_at hl 0 rfl) ?_
          refine va_get (D := D) (ci := 2) (v := .ref (ad 4)) (C := RX2) (T := TX2) (N := 8) hx hb hts hin2 hown hK.1 hP 0 rfl rfl 3 (by decide) f22 (fun _ h9 => h9) rfl dX2_addRule_57 ?_
          refine lv_iload_n hx hb dX2_addRule_60 rfl (lv_at hl 1 rfl) ?_
          refine lv_iload_n hx hb dX2_addRule_61 rfl (lv_at hl 2 rfl) ?_
          refine mu_i (wr := [(ad 0, .inr (2, [.ref (ad 1), .ref (ad 2), .ref (ad 3), .ref (ad 4), .ref (ad 8), .int (nI (N)), .int (nI (A)), .int (bI (false))])), (ad 1, .inl (cI, 24, .inl an)), (ad 2, .inl (cI, 9, .inl nd)), (ad 3, .inl (cI, 9, .inl wt)), (ad 8, .inr (1, [.ref (ad 9), .ref (ad 10), .ref (ad 11), .ref (ad 12), .ref (ad 13), .int (nI (SA)), .int (nI (SE))])), (ad 9, .inl (cI, 512, .inl HL)), (ad 10, .inl (cI, 512, .inl LB)), (ad 11, .inl (cZ, 512, .inl (fun j => bI (SO j)))), (ad 12, .inl (cZ, 512, .inl (fun j => bI (NG j)))), (ad 13, .inl (cZ, 512, .inl (fun j => bI (WO j))))]) (va_runV (As := [.int (x0), .int (y0)]) (rest := []) ⟨hx, hb, hml, hown, hts⟩ (c_X0_append l D cI cZ (fun k => ad (k + 4)) (B) (Hd) (O) (R) (x0) (y0) (by simpa using c_38) (H).size) (cwV 2 hts gX2_addRule_X0_append rfl rfl rfl (by decide +kernel) ⟨Nat.le_of_ble_eq_true rfl, Nat.le_of_ble_eq_true rfl⟩) (prw_V (q0 := 0) (ci := 0) (hP.sub (ws' := (wR cI cZ (fun k => ad (k + 4)) B Hd O R)) [4, 5, 6, 7] rfl) (hD.sub (ws' := (wR cI cZ (fun k => ad (k + 4)) B Hd O R)) [4, 5, 6, 7] (by decide) rfl) hK rfl rfl) rfl rfl hl.1 rfl (lv_room (Nat.le_of_ble_eq_true rfl)) dX2_addRule_62 ⟨Nat.le_of_ble_eq_true rfl, Nat.le_of_ble_eq_true rfl⟩) hP hD hS hAp [4, 5, 6, 7] [0, 1, 2, 3, 8, 9, 10, 11, 12, 13] rfl rfl (by decide) (by decide) (fun r_62 u_62 H locs hq_62 hP hD hS => ?_)
          obtain ⟨rfl, -⟩ := hq_62
          have hP : va_P D vwCl (wK cI cZ ad N A false an nd wt (upd B R x0) (upd Hd R y0) (updB O R true) (R + 1) HL LB SO NG WO SA SE) H := hP.sub [0, 1, 2, 3, 10, 11, 12, 13, 4, 5, 6, 7, 8, 9] rfl
          have hD : va_D Ap (wK cI cZ ad N A false an nd wt (upd B R x0) (upd Hd R y0) (updB O R true) (R + 1) HL LB SO NG WO SA SE) := hD.sub [0, 1, 2, 3, 10, 11, 12, 13, 4, 5, 6, 7, 8, 9] (by decide) rfl
          refine W.widen (k := 2) (n := 12) (by decide) (by decide) ?_
          exact vx_ret (mr_i (u := ()) hx hb hrt hlk dX2_addRule_65 hS hP hD ⟨(by first | rfl | (simp [c_8, c_23, c_38]; done) | (simp only [c_8, c_23, c_38]; rfl) | (simp_all [c_8, c_23, c_38]; done)), (by first | exact ⟨c_8, Or.inl c_23, by simpa using c_38⟩ | exact ⟨c_8, Or.inr hok_28, by simpa using c_38⟩), trivial⟩)
        · skip
          have c_38 := bI_ne0 c_38
          obtain ⟨sa_41, hstr_41⟩ := hX.1 (80, "there are 40 rules") (by decide +kernel)
          exact vx_throwS (sa := sa_41) (A := Ap) (cls := "java/lang/IllegalStateException") (names := ["java/lang/RuntimeException", "java/lang/Exception"]) hx hb hst hown (by decide) (by decide) (hts (.classLink RX2 44 "java/lang/IllegalStateException") (by decide +kernel)) (hts (.initialized "java/lang/IllegalStateException") (by decide +kernel)) hstr_41 (vx_hat (fun w h => hts w (ha_48 w h)) xb_48 (xN_use hX)) xg_48 hZ.1 hZ.2 hS (hl.1.trans hml.symm) dX2_addRule_41 dX2_addRule_44 dX2_addRule_45 dX2_addRule_47 dX2_addRule_50 (fun x9 hx9 => (htab x9 hx9).elim) (Nat.le_of_ble_eq_true rfl) (Nat.le_of_ble_eq_true rfl) (Nat.le_of_ble_eq_true rfl) (Nat.le_of_ble_eq_true rfl) hlk (x_end (u := ()) hS hP hD (by have h40 : 40 ≤ R := (by simpa using c_38); first | (simp [c_8, c_23, h40]; done) | simp [c_8, hok_28, h40])) hS.2.2 (Nat.le_of_ble_eq_true rfl) (Nat.le_of_ble_eq_true rfl)
  · skip
    have c_8 := bI_eq0 c_8
    obtain ⟨sa_11, hstr_11⟩ := hX.1 (70, "the body contains something that is no node") (by decide +kernel)
    exact vx_throwS (sa := sa_11) (A := Ap) (cls := "java/lang/IllegalArgumentException") (names := ["java/lang/RuntimeException", "java/lang/Exception"]) hx hb hst hown (by decide) (by decide) (hts (.classLink RX2 68 "java/lang/IllegalArgumentException") (by decide +kernel)) (hts (.initialized "java/lang/IllegalArgumentException") (by decide +kernel)) hstr_11 (vx_hat (fun w h => hts w (ha_72 w h)) xb_72 (xN_use hX)) xg_72 hZ.1 hZ.2 hS (hl.1.trans hml.symm) dX2_addRule_11 dX2_addRule_14 dX2_addRule_15 dX2_addRule_17 dX2_addRule_20 (fun x9 hx9 => (htab x9 hx9).elim) (Nat.le_of_ble_eq_true rfl) (Nat.le_of_ble_eq_true rfl) (Nat.le_of_ble_eq_true rfl) (Nat.le_of_ble_eq_true rfl) hlk (x_end (u := ()) hS hP hD (by simp [c_8])) hS.2.2 (Nat.le_of_ble_eq_true rfl) (Nat.le_of_ble_eq_true rfl)
set_option maxHeartbeats 4000000 in
set_option maxRecDepth 100000 in
theorem c_X2_turn (l : Launch) (D : va_G) (cI cZ : ClassId) (ad : Nat → Nat) (N : Nat) (A : Nat) (fl : Bool) (an : Nat → Int32) (nd : Nat → Int32) (wt : Nat → Int32) (B : Nat → Int32) (Hd : Nat → Int32) (O : Nat → Bool) (R : Nat) (HL : Nat → Int32) (LB : Nat → Int32) (SO : Nat → Bool) (NG : Nat → Bool) (WO : Nat → Bool) (SA : Nat) (SE : Nat) (x0 : Int32) (b0 : Bool) (hR : R ≤ 40) (hst : l.stackTraces = false) (sz : Nat) : vx_Met l yX2_turn wsX2_turn ({ frames := 6, cells := 1, slots := 6, locals := 90 }) (pcX D [(cI, .int), (cZ, .boolean)] sz (wK cI cZ ad N A fl an nd wt B Hd O R HL LB SO NG WO SA SE) [.ref (ad 0), .int (x0), .int (bI (b0))]) (va_Qi (fun (r9 : Int32) (u9 : (Nat → Bool)) => (inR x0 R = true) ∧ (∃ j, j < R ∧ x0 = nI j ∧ r9 = bI (O j) ∧ u9 = updB O j b0) ∧ (True)) (wB D (va_A (wK cI cZ ad N A fl an nd wt B Hd O R HL LB SO NG WO SA SE) sz) (fun u9 : (Nat → Bool) => (wK cI cZ ad N A false an nd wt B Hd u9 R HL LB SO NG WO SA SE))) (va_A (wK cI cZ ad N A fl an nd wt B Hd O R HL LB SO NG WO SA SE) sz)) (xX D (va_A (wK cI cZ ad N A fl an nd wt B Hd O R HL LB SO NG WO SA SE) sz) (fun (E9 : String) (u9 : Unit) => E9 = "java/lang/IndexOutOfBoundsException" ∧ (inR x0 R = false)) (fun u9 : Unit => (wK cI cZ ad N A fl an nd wt B Hd O R HL LB SO NG WO SA SE))) 1 6 (va_A (wK cI cZ ad N A fl an nd wt B Hd O R HL LB SO NG WO SA SE) sz) := by
  refine vx_ofW (cc := cX2_turn) (maxL := 3) (ret := (some .boolean)) (by decide) rfl ?_
  intro p e s m args below meth c s₁ BB hml htab hv
  obtain ⟨rfl, hsz, hP, hK, hD0, hX, hZ⟩ := hv
  have hx := BB.exec
  have hb := BB.bytes
  have hrt := BB.returns
  have hts := atoms_spec (ws := wsX2_turn) BB.pre
  have hown : s.vm.findClass RX2 = some m.cls := findClass_of_methodNamed BB.named
  have hlk := BB.notSynchronized
  subst hsz
  have hD := hD0.self (sz := s.heap.size)
  generalize hAe : va_A (wK cI cZ ad N A fl an nd wt B Hd O R HL LB SO NG WO SA SE) s.heap.size = Ap at hD hZ ⊢
  have hAp : ∀ q : Nat, s.heap.size ≤ q → Ap q := fun q h => by rw [← hAe]; exact Or.inr h
  have hS : va_S Ap s.heap s.heap [] := va_S.rf
  have f22 := hts (.fieldLink RX2 22 "AssumptionKeeper" "rules" "LAssumptionKeeper$RuleBook;") (by decide +kernel)
  have f40 := hts (.fieldLink RX2 40 "AssumptionKeeper" "isSurveyed" "Z") (by decide +kernel)
  have hin2 : ∀ w ∈ u_ws RX2 TX2 8, w ∈ wsX2_turn := by decide +kernel
  have ha_94 : ∀ w ∈ (vx_atS RX2 94 "java/lang/IndexOutOfBoundsException" ["java/lang/RuntimeException", "java/lang/Exception"]).filter goodWord, w ∈ wsX2_turn := by first | exact fun w h => List.mem_cons_of_mem _ (List.mem_append_right _ h) | decide +kernel
  have hl := lv_entry ([.ref (ad 0), .int (x0), .int (bI (b0))]) (n := 3) (Nat.le_of_ble_eq_true rfl)
  rw [lg_entry_eq]
  generalize (lg_sl ([.ref (ad 0), .int (x0), .int (bI (b0))]) ++ List.replicate (3 - (lg_sl ([.ref (ad 0), .int (x0), .int (bI (b0))])).length) Slot.unset).toArray = ls at hl ⊢
  have hl : lv_has ls 3 [(0, .ref (ad 0)), (1, .int (x0)), (2, .int (bI (b0)))] := hl
  refine lv_iload_n hx hb dX2_turn_0 rfl (lv_at hl 1 rfl) ?_
  refine lv_if_lt (tgt := 15) hx hb dX2_turn_1 (by decide) (fun c_1 => ?_) (fun c_1 => ?_)
  · skip
    obtain ⟨sa_15, hstr_15⟩ := hX.1 (92, "there is no such rule") (by decide +kernel)
    exact vx_throwS (sa := sa_15) (A := Ap) (cls := "java/lang/IndexOutOfBoundsException") (names := ["java/lang/RuntimeException", "java/lang/Exception"]) hx hb hst hown (by decide) (by decide) (hts (.classLink RX2 90 "java/lang/IndexOutOfBoundsException") (by decide +kernel)) (hts (.initialized "java/lang/IndexOutOfBoundsException") (by decide +kernel)) hstr_15 (vx_hat (fun w h => hts w (ha_94 w h)) xb_94 (xN_use hX)) xg_94 hZ.1 hZ.2 hS (hl.1.trans hml.symm) dX2_turn_15 dX2_turn_18 dX2_turn_19 dX2_turn_21 dX2_turn_24 (fun x9 hx9 => (htab x9 hx9).elim) (Nat.le_of_ble_eq_true rfl) (Nat.le_of_ble_eq_true rfl) (Nat.le_of_ble_eq_true rfl) (Nat.le_of_ble_eq_true rfl) hlk (x_end (u := ()) hS hP hD (by first | (simp [inR, c_1]; done) | simp [inR, Int32.not_lt.mp c_12])) hS.2.2 (Nat.le_of_ble_eq_true rfl) (Nat.le_of_ble_eq_true rfl)
  · skip
    refine lv_iload_n hx hb dX2_turn_4 rfl (lv_at hl 1 rfl) ?_
    refine lv_aload_n hx hb dX2_turn_5 rfl (lv_at hl 0 rfl) ?_
    refine va_get (D := D) (ci := 2) (v := .ref (ad 4)) (C := RX2) (T := TX2) (N := 8) hx hb hts hin2 hown hK.1 hP 0 rfl rfl 3 (by decide) f22 (fun _ h9 => h9) rfl dX2_turn_6 ?_
    refine pu_i (va_runV (As := []) (rest := [.int (x0)]) ⟨hx, hb, hml, hown, hts⟩ (c_X0_size l D cI cZ (fun k => ad (k + 4)) (B) (Hd) (O) (R) ) (cwV 0 hts gX2_turn_X0_size rfl rfl rfl (by decide +kernel) ⟨Nat.le_of_ble_eq_true rfl, Nat.le_of_ble_eq_true rfl⟩) (pre_V (q0 := 0) (ci := 0) (hP.sub (ws' := (wR cI cZ (fun k => ad (k + 4)) B Hd O R)) [4, 5, 6, 7] rfl) hK rfl rfl) rfl rfl hl.1 rfl (lv_room (Nat.le_of_ble_eq_true rfl)) dX2_turn_9 ⟨Nat.le_of_ble_eq_true rfl, Nat.le_of_ble_eq_true rfl⟩) ?_
    refine lv_icmp_lt (tgt := 25) hx hb dX2_turn_12 (by decide) (fun c_12 => ?_) (fun c_12 => ?_)
    · skip
      have hok : inR x0 R = true := by simp [inR, c_1, Int32.not_le.mpr c_12]
      obtain ⟨j0, hj0, rfl⟩ := inR_nat hok
      refine lv_aload_n hx hb dX2_turn_25 rfl (lv_at hl 0 rfl) ?_
      refine lv_iconst (v := 0) hx hb dX2_turn_26 (by decide) ?_
      refine va_put (D := D) (ci := 2) (v := .int (bI (false))) (ty := .boolean) (C := RX2) (T := TX2) (N := 8) hx hb hts hin2 tyX2 tyX2_ok nmX2 hown hK.1 hP hD hS 0 rfl rfl 7 (by decide) f40 (fun _ h9 => h9) rfl (by decide +kernel) (bI_nar _) rfl (Nat.le_of_ble_eq_true rfl) dX2_turn_27 (fun H locs hP hD hS => ?_)
      have hP : va_P D vwCl (wK cI cZ ad N A false an nd wt B Hd O R HL LB SO NG WO SA SE) H := hP
      have hD : va_D Ap (wK cI cZ ad N A false an nd wt B Hd O R HL LB SO NG WO SA SE) := hD
      refine lv_aload_n hx hb dX2_turn_30 rfl (lv_at hl 0 rfl) ?_
      refine va_get (D := D) (ci := 2) (v := .ref (ad 4)) (C := RX2) (T := TX2) (N := 8) hx hb hts hin2 hown hK.1 hP 0 rfl rfl 3 (by decide) f22 (fun _ h9 => h9) rfl dX2_turn_31 ?_
      refine lv_iload_n hx hb dX2_turn_34 rfl (lv_at hl 1 rfl) ?_
      refine lv_iload_n hx hb dX2_turn_35 rfl (lv_at hl 2 rfl) ?_
      refine mu_i (wr := [(ad 0, .inr (2, [.ref (ad 1), .ref (ad 2), .ref (ad 3), .ref (ad 4), .ref (ad 8), .int (nI (N)), .int (nI (A)), .int (bI (false))])), (ad 1, .inl (cI, 24, .inl an)), (ad 2, .inl (cI, 9, .inl nd)), (ad 3, .inl (cI, 9, .inl wt)), (ad 8, .inr (1, [.ref (ad 9), .ref (ad 10), .ref (ad 11), .ref (ad 12), .ref (ad 13), .int (nI (SA)), .int (nI (SE))])), (ad 9, .inl (cI, 512, .inl HL)), (ad 10, .inl (cI, 512, .inl LB)), (ad 11, .inl (cZ, 512, .inl (fun j => bI (SO j)))), (ad 12, .inl (cZ, 512, .inl (fun j => bI (NG j)))), (ad 13, .inl (cZ, 512, .inl (fun j => bI (WO j))))]) (va_runV (As := [.int (nI (j0)), .int (bI (b0))]) (rest := []) ⟨hx, hb, hml, hown, hts⟩ (c_X0_switchTo l D cI cZ (fun k => ad (k + 4)) (B) (Hd) (O) (R) (j0) (b0) (by omega) (H).size) (cwV 2 hts gX2_turn_X0_switchTo rfl rfl rfl (by decide +kernel) ⟨Nat.le_of_ble_eq_true rfl, Nat.le_of_ble_eq_true rfl⟩) (prw_V (q0 := 0) (ci := 0) (hP.sub (ws' := (wR cI cZ (fun k => ad (k + 4)) B Hd O R)) [4, 5, 6, 7] rfl) (hD.sub (ws' := (wR cI cZ (fun k => ad (k + 4)) B Hd O R)) [4, 5, 6, 7] (by decide) rfl) hK rfl rfl) rfl rfl hl.1 rfl (lv_room (Nat.le_of_ble_eq_true rfl)) dX2_turn_36 ⟨Nat.le_of_ble_eq_true rfl, Nat.le_of_ble_eq_true rfl⟩) hP hD hS hAp [4, 5, 6, 7] [0, 1, 2, 3, 8, 9, 10, 11, 12, 13] rfl rfl (by decide) (by decide) (fun r_36 u_36 H locs hq_36 hP hD hS => ?_)
      obtain ⟨rfl, -⟩ := hq_36
      have hP : va_P D vwCl (wK cI cZ ad N A false an nd wt B Hd (updB O j0 b0) R HL LB SO NG WO SA SE) H := hP.sub [0, 1, 2, 3, 10, 11, 12, 13, 4, 5, 6, 7, 8, 9] rfl
      have hD : va_D Ap (wK cI cZ ad N A false an nd wt B Hd (updB O j0 b0) R HL LB SO NG WO SA SE) := hD.sub [0, 1, 2, 3, 10, 11, 12, 13, 4, 5, 6, 7, 8, 9] (by decide) rfl
      refine W.widen (k := 1) (n := 6) (by decide) (by decide) ?_
      exact vx_ret (mr_z (v := O j0) (u := (updB O j0 b0)) hx hb hrt hlk dX2_turn_39 hS hP hD ⟨(hok), (⟨j0, hj0, rfl, rfl, rfl⟩), trivial⟩)
    · skip
      obtain ⟨sa_15, hstr_15⟩ := hX.1 (92, "there is no such rule") (by decide +kernel)
      exact vx_throwS (sa := sa_15) (A := Ap) (cls := "java/lang/IndexOutOfBoundsException") (names := ["java/lang/RuntimeException", "java/lang/Exception"]) hx hb hst hown (by decide) (by decide) (hts (.classLink RX2 90 "java/lang/IndexOutOfBoundsException") (by decide +kernel)) (hts (.initialized "java/lang/IndexOutOfBoundsException") (by decide +kernel)) hstr_15 (vx_hat (fun w h => hts w (ha_94 w h)) xb_94 (xN_use hX)) xg_94 hZ.1 hZ.2 hS (hl.1.trans hml.symm) dX2_turn_15 dX2_turn_18 dX2_turn_19 dX2_turn_21 dX2_turn_24 (fun x9 hx9 => (htab x9 hx9).elim) (Nat.le_of_ble_eq_true rfl) (Nat.le_of_ble_eq_true rfl) (Nat.le_of_ble_eq_true rfl) (Nat.le_of_ble_eq_true rfl) hlk (x_end (u := ()) hS hP hD (by first | (simp [inR, c_1]; done) | simp [inR, Int32.not_lt.mp c_12])) hS.2.2 (Nat.le_of_ble_eq_true rfl) (Nat.le_of_ble_eq_true rfl)
set_option maxHeartbeats 4000000 in
set_option maxRecDepth 100000 in
theorem c_X2_drop (l : Launch) (D : va_G) (cI cZ : ClassId) (ad : Nat → Nat) (N : Nat) (A : Nat) (fl : Bool) (an : Nat → Int32) (nd : Nat → Int32) (wt : Nat → Int32) (B : Nat → Int32) (Hd : Nat → Int32) (O : Nat → Bool) (R : Nat) (HL : Nat → Int32) (LB : Nat → Int32) (SO : Nat → Bool) (NG : Nat → Bool) (WO : Nat → Bool) (SA : Nat) (SE : Nat) (hR : R ≤ 40) (hst : l.stackTraces = false) (sz : Nat) : vx_Met l yX2_drop wsX2_drop ({ frames := 6, cells := 1, slots := 6, locals := 90 }) (pcX D [(cI, .int), (cZ, .boolean)] sz (wK cI cZ ad N A fl an nd wt B Hd O R HL LB SO NG WO SA SE) [.ref (ad 0)]) (va_Qi (fun (r9 : Int32) (u9 : Unit) => (r9 = nI (R - 1)) ∧ (0 < R) ∧ (True)) (wB D (va_A (wK cI cZ ad N A fl an nd wt B Hd O R HL LB SO NG WO SA SE) sz) (fun u9 : Unit => (wK cI cZ ad N A false an nd wt B Hd O (R - 1) HL LB SO NG WO SA SE))) (va_A (wK cI cZ ad N A fl an nd wt B Hd O R HL LB SO NG WO SA SE) sz)) (xX D (va_A (wK cI cZ ad N A fl an nd wt B Hd O R HL LB SO NG WO SA SE) sz) (fun (E9 : String) (u9 : Unit) => E9 = "java/lang/IllegalStateException" ∧ (R = 0)) (fun u9 : Unit => (wK cI cZ ad N A fl an nd wt B Hd O R HL LB SO NG WO SA SE))) 1 6 (va_A (wK cI cZ ad N A fl an nd wt B Hd O R HL LB SO NG WO SA SE) sz) := by
  refine vx_ofW (cc := cX2_drop) (maxL := 1) (ret := (some .int)) (by decide) rfl ?_
  intro p e s m args below meth c s₁ BB hml htab hv
  obtain ⟨rfl, hsz, hP, hK, hD0, hX, hZ⟩ := hv
  have hx := BB.exec
  have hb := BB.bytes
  have hrt := BB.returns
  have hts := atoms_spec (ws := wsX2_drop) BB.pre
  have hown : s.vm.findClass RX2 = some m.cls := findClass_of_methodNamed BB.named
  have hlk := BB.notSynchronized
  subst hsz
  have hD := hD0.self (sz := s.heap.size)
  generalize hAe : va_A (wK cI cZ ad N A fl an nd wt B Hd O R HL LB SO NG WO SA SE) s.heap.size = Ap at hD hZ ⊢
  have hAp : ∀ q : Nat, s.heap.size ≤ q → Ap q := fun q h => by rw [← hAe]; exact Or.inr h
  have hS : va_S Ap s.heap s.heap [] := va_S.rf
  have f22 := hts (.fieldLink RX2 22 "AssumptionKeeper" "rules" "LAssumptionKeeper$RuleBook;") (by decide +kernel)
  have f40 := hts (.fieldLink RX2 40 "AssumptionKeeper" "isSurveyed" "Z") (by decide +kernel)
  have hin2 : ∀ w ∈ u_ws RX2 TX2 8, w ∈ wsX2_drop := by decide +kernel
  have ha_48 : ∀ w ∈ (vx_atS RX2 48 "java/lang/IllegalStateException" ["java/lang/RuntimeException", "java/lang/Exception"]).filter goodWord, w ∈ wsX2_drop := by first | exact fun w h => List.mem_cons_of_mem _ (List.mem_append_right _ h) | decide +kernel
  have hl := lv_entry ([.ref (ad 0)]) (n := 1) (Nat.le_of_ble_eq_true rfl)
  rw [lg_entry_eq]
  generalize (lg_sl ([.ref (ad 0)]) ++ List.replicate (1 - (lg_sl ([.ref (ad 0)])).length) Slot.unset).toArray = ls at hl ⊢
  have hl : lv_has ls 1 [(0, .ref (ad 0))] := hl
  refine lv_aload_n hx hb dX2_drop_0 rfl (lv_at hl 0 rfl) ?_
  refine va_get (D := D) (ci := 2) (v := .ref (ad 4)) (C := RX2) (T := TX2) (N := 8) hx hb hts hin2 hown hK.1 hP 0 rfl rfl 3 (by decide) f22 (fun _ h9 => h9) rfl dX2_drop_1 ?_
  refine pu_i (va_runV (As := []) (rest := []) ⟨hx, hb, hml, hown, hts⟩ (c_X0_size l D cI cZ (fun k => ad (k + 4)) (B) (Hd) (O) (R) ) (cwV 0 hts gX2_drop_X0_size rfl rfl rfl (by decide +kernel) ⟨Nat.le_of_ble_eq_true rfl, Nat.le_of_ble_eq_true rfl⟩) (pre_V (q0 := 0) (ci := 0) (hP.sub (ws' := (wR cI cZ (fun k => ad (k + 4)) B Hd O R)) [4, 5, 6, 7] rfl) hK rfl rfl) rfl rfl hl.1 rfl (lv_room (Nat.le_of_ble_eq_true rfl)) dX2_drop_4 ⟨Nat.le_of_ble_eq_true rfl, Nat.le_of_ble_eq_true rfl⟩) ?_
  refine lv_if_gt (tgt := 20) hx hb dX2_drop_7 (by decide) (fun c_7 => ?_) (fun c_7 => ?_)
  · skip
    have c_7 := q0_gt (a := R) (by omega) c_7
    refine lv_aload_n hx hb dX2_drop_20 rfl (lv_at hl 0 rfl) ?_
    refine lv_iconst (v := 0) hx hb dX2_drop_21 (by decide) ?_
    refine va_put (D := D) (ci := 2) (v := .int (bI (false))) (ty := .boolean) (C := RX2) (T := TX2) (N := 8) hx hb hts hin2 tyX2 tyX2_ok nmX2 hown hK.1 hP hD hS 0 rfl rfl 7 (by decide) f40 (fun _ h9 => h9) rfl (by decide +kernel) (bI_nar _) rfl (Nat.le_of_ble_eq_true rfl) dX2_drop_22 (fun H locs hP hD hS => ?_)
    have hP : va_P D vwCl (wK cI cZ ad N A false an nd wt B Hd O R HL LB SO NG WO SA SE) H := hP
    have hD : va_D Ap (wK cI cZ ad N A false an nd wt B Hd O R HL LB SO NG WO SA SE) := hD
    refine lv_aload_n hx hb dX2_drop_25 rfl (lv_at hl 0 rfl) ?_
    refine va_get (D := D) (ci := 2) (v := .ref (ad 4)) (C := RX2) (T := TX2) (N := 8) hx hb hts hin2 hown hK.1 hP 0 rfl rfl 3 (by decide) f22 (fun _ h9 => h9) rfl dX2_drop_26 ?_
    refine mu_i (wr := [(ad 0, .inr (2, [.ref (ad 1), .ref (ad 2), .ref (ad 3), .ref (ad 4), .ref (ad 8), .int (nI (N)), .int (nI (A)), .int (bI (false))])), (ad 1, .inl (cI, 24, .inl an)), (ad 2, .inl (cI, 9, .inl nd)), (ad 3, .inl (cI, 9, .inl wt)), (ad 8, .inr (1, [.ref (ad 9), .ref (ad 10), .ref (ad 11), .ref (ad 12), .ref (ad 13), .int (nI (SA)), .int (nI (SE))])), (ad 9, .inl (cI, 512, .inl HL)), (ad 10, .inl (cI, 512, .inl LB)), (ad 11, .inl (cZ, 512, .inl (fun j => bI (SO j)))), (ad 12, .inl (cZ, 512, .inl (fun j => bI (NG j)))), (ad 13, .inl (cZ, 512, .inl (fun j => bI (WO j))))]) (va_runV (As := []) (rest := []) ⟨hx, hb, hml, hown, hts⟩ (c_X0_removeLast l D cI cZ (fun k => ad (k + 4)) (B) (Hd) (O) (R) (by omega) (H).size) (cwV 0 hts gX2_drop_X0_removeLast rfl rfl rfl (by decide +kernel) ⟨Nat.le_of_ble_eq_true rfl, Nat.le_of_ble_eq_true rfl⟩) (prw_V (q0 := 0) (ci := 0) (hP.sub (ws' := (wR cI cZ (fun k => ad (k + 4)) B Hd O R)) [4, 5, 6, 7] rfl) (hD.sub (ws' := (wR cI cZ (fun k => ad (k + 4)) B Hd O R)) [4, 5, 6, 7] (by decide) rfl) hK rfl rfl) rfl rfl hl.1 rfl (lv_room (Nat.le_of_ble_eq_true rfl)) dX2_drop_29 ⟨Nat.le_of_ble_eq_true rfl, Nat.le_of_ble_eq_true rfl⟩) hP hD hS hAp [4, 5, 6, 7] [0, 1, 2, 3, 8, 9, 10, 11, 12, 13] rfl rfl (by decide) (by decide) (fun r_29 u_29 H locs hq_29 hP hD hS => ?_)
    obtain ⟨rfl, -⟩ := hq_29
    have hP : va_P D vwCl (wK cI cZ ad N A false an nd wt B Hd O (R - 1) HL LB SO NG WO SA SE) H := hP.sub [0, 1, 2, 3, 10, 11, 12, 13, 4, 5, 6, 7, 8, 9] rfl
    have hD : va_D Ap (wK cI cZ ad N A false an nd wt B Hd O (R - 1) HL LB SO NG WO SA SE) := hD.sub [0, 1, 2, 3, 10, 11, 12, 13, 4, 5, 6, 7, 8, 9] (by decide) rfl
    refine W.widen (k := 1) (n := 6) (by decide) (by decide) ?_
    exact vx_ret (mr_i (u := ()) hx hb hrt hlk dX2_drop_32 hS hP hD ⟨(by first | rfl | (simp [c_7]; done) | (simp only [c_7]; rfl) | (simp_all [c_7]; done)), (by omega), trivial⟩)
  · skip
    have c_7 := q0_ngt (a := R) (by omega) c_7
    obtain ⟨sa_10, hstr_10⟩ := hX.1 (99, "there is no rule") (by decide +kernel)
    exact vx_throwS (sa := sa_10) (A := Ap) (cls := "java/lang/IllegalStateException") (names := ["java/lang/RuntimeException", "java/lang/Exception"]) hx hb hst hown (by decide) (by decide) (hts (.classLink RX2 44 "java/lang/IllegalStateException") (by decide +kernel)) (hts (.initialized "java/lang/IllegalStateException") (by decide +kernel)) hstr_10 (vx_hat (fun w h => hts w (ha_48 w h)) xb_48 (xN_use hX)) xg_48 hZ.1 hZ.2 hS (hl.1.trans hml.symm) dX2_drop_10 dX2_drop_13 dX2_drop_14 dX2_drop_16 dX2_drop_19 (fun x9 hx9 => (htab x9 hx9).elim) (Nat.le_of_ble_eq_true rfl) (Nat.le_of_ble_eq_true rfl) (Nat.le_of_ble_eq_true rfl) (Nat.le_of_ble_eq_true rfl) hlk (x_end (u := ()) hS hP hD (by simp; omega)) hS.2.2 (Nat.le_of_ble_eq_true rfl) (Nat.le_of_ble_eq_true rfl)
set_option maxHeartbeats 4000000 in
set_option maxRecDepth 100000 in
theorem c_X2_nodeCount (l : Launch) (D : va_G) (cI cZ : ClassId) (ad : Nat → Nat) (N : Nat) (A : Nat) (fl : Bool) (an : Nat → Int32) (nd : Nat → Int32) (wt : Nat → Int32) (B : Nat → Int32) (Hd : Nat → Int32) (O : Nat → Bool) (R : Nat) (HL : Nat → Int32) (LB : Nat → Int32) (SO : Nat → Bool) (NG : Nat → Bool) (WO : Nat → Bool) (SA : Nat) (SE : Nat) : Met l yX2_nodeCount wsX2_nodeCount (({ frames := 0, cells := 0, slots := 0, locals := 0 })) (pcP D [(cI, .int), (cZ, .boolean)] (wK cI cZ ad N A fl an nd wt B Hd O R HL LB SO NG WO SA SE) [.ref (ad 0)]) (vp_Si (fun v => v = nI (N))) 0 0 (fun _ => False) := by
  refine Met.ofW (cc := cX2_nodeCount) (maxL := 1) (ret := (some .int)) (by decide) rfl ?_
  intro p e s m args below meth c s₁ BB hml hv
  obtain ⟨rfl, hP, hK⟩ := hv
  have hx := BB.exec
  have hb := BB.bytes
  have hrt := BB.returns
  have hts := atoms_spec (ws := wsX2_nodeCount) BB.pre
  have hown : s.vm.findClass RX2 = some m.cls := findClass_of_methodNamed BB.named
  have hlk := BB.notSynchronized
  have f33 := hts (.fieldLink RX2 33 "AssumptionKeeper" "nodes" "I") (by decide +kernel)
  have hin2 : ∀ w ∈ u_ws RX2 TX2 8, w ∈ wsX2_nodeCount := by decide +kernel
  have hl := lv_entry ([.ref (ad 0)]) (n := 1) (Nat.le_of_ble_eq_true rfl)
  rw [lg_entry_eq]
  generalize (lg_sl ([.ref (ad 0)]) ++ List.replicate (1 - (lg_sl ([.ref (ad 0)])).length) Slot.unset).toArray = ls at hl ⊢
  have hl : lv_has ls 1 [(0, .ref (ad 0))] := hl
  refine lv_aload_n hx hb dX2_nodeCount_0 rfl (lv_at hl 0 rfl) ?_
  refine va_get (D := D) (ci := 2) (v := .int (nI (N))) (C := RX2) (T := TX2) (N := 8) hx hb hts hin2 hown hK.1 hP 0 rfl rfl 5 (by decide) f33 (fun _ h9 => h9) rfl dX2_nodeCount_1 ?_
  exact ri_ hx hb hrt hlk dX2_nodeCount_4 (by first | rfl | (simp []; done) | (simp only []; rfl) | (simp_all []; done))
set_option maxHeartbeats 4000000 in
set_option maxRecDepth 100000 in
theorem c_X2_assumptionCount (l : Launch) (D : va_G) (cI cZ : ClassId) (ad : Nat → Nat) (N : Nat) (A : Nat) (fl : Bool) (an : Nat → Int32) (nd : Nat → Int32) (wt : Nat → Int32) (B : Nat → Int32) (Hd : Nat → Int32) (O : Nat → Bool) (R : Nat) (HL : Nat → Int32) (LB : Nat → Int32) (SO : Nat → Bool) (NG : Nat → Bool) (WO : Nat → Bool) (SA : Nat) (SE : Nat) : Met l yX2_assumptionCount wsX2_assumptionCount (({ frames := 0, cells := 0, slots := 0, locals := 0 })) (pcP D [(cI, .int), (cZ, .boolean)] (wK cI cZ ad N A fl an nd wt B Hd O R HL LB SO NG WO SA SE) [.ref (ad 0)]) (vp_Si (fun v => v = nI (A))) 0 0 (fun _ => False) := by
  refine Met.ofW (cc := cX2_assumptionCount) (maxL := 1) (ret := (some .int)) (by decide) rfl ?_
  intro p e s m args below meth c s₁ BB hml hv
  obtain ⟨rfl, hP, hK⟩ := hv
  have hx := BB.exec
  have hb := BB.bytes
  have hrt := BB.returns
  have hts := atoms_spec (ws := wsX2_assumptionCount) BB.pre
  have hown : s.vm.findClass RX2 = some m.cls := findClass_of_methodNamed BB.named
  have hlk := BB.notSynchronized
  have f37 := hts (.fieldLink RX2 37 "AssumptionKeeper" "assumptions" "I") (by decide +kernel)
  have hin2 : ∀ w ∈ u_ws RX2 TX2 8, w ∈ wsX2_assumptionCount := by decide +kernel
  have hl := lv_entry ([.ref (ad 0)]) (n := 1) (Nat.le_of_ble_eq_true rfl)
  rw [lg_entry_eq]
  generalize (lg_sl ([.ref (ad 0)]) ++ List.replicate (1 - (lg_sl ([.ref (ad 0)])).length) Slot.unset).toArray = ls at hl ⊢
  have hl : lv_has ls 1 [(0, .ref (ad 0))] := hl
  refine lv_aload_n hx hb dX2_assumptionCount_0 rfl (lv_at hl 0 rfl) ?_
  refine va_get (D := D) (ci := 2) (v := .int (nI (A))) (C := RX2) (T := TX2) (N := 8) hx hb hts hin2 hown hK.1 hP 0 rfl rfl 6 (by decide) f37 (fun _ h9 => h9) rfl dX2_assumptionCount_1 ?_
  exact ri_ hx hb hrt hlk dX2_assumptionCount_4 (by first | rfl | (simp []; done) | (simp only []; rfl) | (simp_all []; done))
set_option maxHeartbeats 4000000 in
set_option maxRecDepth 100000 in
theorem c_X2_assumptionOf (l : Launch) (D : va_G) (cI cZ : ClassId) (ad : Nat → Nat) (N : Nat) (A : Nat) (fl : Bool) (an : Nat → Int32) (nd : Nat → Int32) (wt : Nat → Int32) (B : Nat → Int32) (Hd : Nat → Int32) (O : Nat → Bool) (R : Nat) (HL : Nat → Int32) (LB : Nat → Int32) (SO : Nat → Bool) (NG : Nat → Bool) (WO : Nat → Bool) (SA : Nat) (SE : Nat) (x0 : Int32) (hn : N ≤ 24) (hst : l.stackTraces = false) (sz : Nat) : vx_Met l yX2_assumptionOf wsX2_assumptionOf ({ frames := 7, cells := 1, slots := 6, locals := 111 }) (pcX D [(cI, .int), (cZ, .boolean)] sz (wK cI cZ ad N A fl an nd wt B Hd O R HL LB SO NG WO SA SE) [.ref (ad 0), .int (x0)]) (va_Qi (fun (r9 : Int32) (u9 : Unit) => (inR x0 N = true) ∧ (∃ j, j < N ∧ x0 = nI j ∧ r9 = an j) ∧ (True)) (wB D (va_A (wK cI cZ ad N A fl an nd wt B Hd O R HL LB SO NG WO SA SE) sz) (fun u9 : Unit => (wK cI cZ ad N A fl an nd wt B Hd O R HL LB SO NG WO SA SE))) (va_A (wK cI cZ ad N A fl an nd wt B Hd O R HL LB SO NG WO SA SE) sz)) (xX D (va_A (wK cI cZ ad N A fl an nd wt B Hd O R HL LB SO NG WO SA SE) sz) (fun (E9 : String) (u9 : Unit) => E9 = "java/lang/IndexOutOfBoundsException" ∧ (inR x0 N = false)) (fun u9 : Unit => (wK cI cZ ad N A fl an nd wt B Hd O R HL LB SO NG WO SA SE))) 1 6 (va_A (wK cI cZ ad N A fl an nd wt B Hd O R HL LB SO NG WO SA SE) sz) := by
  refine vx_ofW (cc := cX2_assumptionOf) (maxL := 2) (ret := (some .int)) (by decide) rfl ?_
  intro p e s m args below meth c s₁ BB hml htab hv
  obtain ⟨rfl, hsz, hP, hK, hD0, hX, hZ⟩ := hv
  have hx := BB.exec
  have hb := BB.bytes
  have hrt := BB.returns
  have hts := atoms_spec (ws := wsX2_assumptionOf) BB.pre
  have hown : s.vm.findClass RX2 = some m.cls := findClass_of_methodNamed BB.named
  have hlk := BB.notSynchronized
  subst hsz
  have hD := hD0.self (sz := s.heap.size)
  generalize hAe : va_A (wK cI cZ ad N A fl an nd wt B Hd O R HL LB SO NG WO SA SE) s.heap.size = Ap at hD hZ ⊢
  have hAp : ∀ q : Nat, s.heap.size ≤ q → Ap q := fun q h => by rw [← hAe]; exact Or.inr h
  have hS : va_S Ap s.heap s.heap [] := va_S.rf
  have f9 := hts (.fieldLink RX2 9 "AssumptionKeeper" "assumptionNumbers" "[I") (by decide +kernel)
  have hin2 : ∀ w ∈ u_ws RX2 TX2 8, w ∈ wsX2_assumptionOf := by decide +kernel
  have hl := lv_entry ([.ref (ad 0), .int (x0)]) (n := 2) (Nat.le_of_ble_eq_true rfl)
  rw [lg_entry_eq]
  generalize (lg_sl ([.ref (ad 0), .int (x0)]) ++ List.replicate (2 - (lg_sl ([.ref (ad 0), .int (x0)])).length) Slot.unset).toArray = ls at hl ⊢
  have hl : lv_has ls 2 [(0, .ref (ad 0)), (1, .int (x0))] := hl
  refine lv_aload_n hx hb dX2_assumptionOf_0 rfl (lv_at hl 0 rfl) ?_
  refine lv_iload_n hx hb dX2_assumptionOf_1 rfl (lv_at hl 1 rfl) ?_
  refine xu_v (wr := []) (vx_runV (As := [.int (x0)]) (rest := []) ⟨hx, hb, hml, hown, hts⟩ (c_X2_requireNode l D cI cZ ad (N) (A) (fl) (an) (nd) (wt) (B) (Hd) (O) (R) (HL) (LB) (SO) (NG) (WO) (SA) (SE) (x0)  hst (s.heap).size) (cwV 1 hts gX2_assumptionOf_X2_requireNode rfl rfl rfl (by decide +kernel) ⟨Nat.le_of_ble_eq_true rfl, Nat.le_of_ble_eq_true rfl⟩) (prx_V (q0 := 0) (ci := 2) (hP.sub (ws' := (wK cI cZ ad N A fl an nd wt B Hd O R HL LB SO NG WO SA SE)) [0, 1, 2, 3, 4, 5, 6, 7, 8, 9, 10, 11, 12, 13] rfl) (hD.sub (ws' := (wK cI cZ ad N A fl an nd wt B Hd O R HL LB SO NG WO SA SE)) [0, 1, 2, 3, 4, 5, 6, 7, 8, 9, 10, 11, 12, 13] (by decide) rfl) hK hX hZ hS (va_free (wc := (wK cI cZ ad N A fl an nd wt B Hd O R HL LB SO NG WO SA SE)) hD hS hAp [0, 1, 2, 3, 4, 5, 6, 7, 8, 9, 10, 11, 12, 13] rfl) rfl rfl) rfl rfl hl.1 rfl (lv_room (Nat.le_of_ble_eq_true rfl)) dX2_assumptionOf_2 ⟨Nat.le_of_ble_eq_true rfl, Nat.le_of_ble_eq_true rfl⟩) hP hD hS hAp [0, 1, 2, 3, 4, 5, 6, 7, 8, 9, 10, 11, 12, 13] [] rfl rfl (by decide) (by decide) (fun E_2 ce_2 q9_2 ux_2 H locs hxp_2 hP hD hS h7_2 h8_2 h9_2 => ?_) (fun u_2 H locs hq_2 hP hD hS => ?_)
  · skip
    have hP : va_P D vwCl (wK cI cZ ad N A fl an nd wt B Hd O R HL LB SO NG WO SA SE) H := hP
    have hD : va_D Ap (wK cI cZ ad N A fl an nd wt B Hd O R HL LB SO NG WO SA SE) := hD
    exact x_out (u := ()) htab hlk h7_2 h8_2 h9_2 hS hP hD (Nat.le_of_ble_eq_true rfl) (Nat.le_of_ble_eq_true rfl) (by obtain ⟨hE9, hc9⟩ := hxp_2; subst hE9; simp [hc9])
  · skip
    obtain ⟨hok_2, -⟩ := hq_2
    have hP : va_P D vwCl (wK cI cZ ad N A fl an nd wt B Hd O R HL LB SO NG WO SA SE) H := hP
    have hD : va_D Ap (wK cI cZ ad N A fl an nd wt B Hd O R HL LB SO NG WO SA SE) := hD
    refine W.widen (k := 1) (n := 6) (by decide) (by decide) ?_
    obtain ⟨j0, hj0, rfl⟩ := inR_nat hok_2
    refine lv_aload_n hx hb dX2_assumptionOf_5 rfl (lv_at hl 0 rfl) ?_
    refine va_get (D := D) (ci := 2) (v := .ref (ad 1)) (C := RX2) (T := TX2) (N := 8) hx hb hts hin2 hown hK.1 hP 0 rfl rfl 0 (by decide) f9 (fun _ h9 => h9) rfl dX2_assumptionOf_6 ?_
    refine lv_iload_n hx hb dX2_assumptionOf_9 rfl (lv_at hl 1 rfl) ?_
    refine ai_ (D := D) (f := an) (i := j0) hx hb hK hP 1 0 rfl rfl (by omega) (by decide) dX2_assumptionOf_10 ?_
    exact vx_ret (mr_i (u := ()) hx hb hrt hlk dX2_assumptionOf_11 hS hP hD ⟨(hok_2), (⟨j0, hj0, rfl, rfl⟩), trivial⟩)
set_option maxHeartbeats 4000000 in
set_option maxRecDepth 100000 in
theorem c_X2_nodeOf (l : Launch) (D : va_G) (cI cZ : ClassId) (ad : Nat → Nat) (N : Nat) (A : Nat) (fl : Bool) (an : Nat → Int32) (nd : Nat → Int32) (wt : Nat → Int32) (B : Nat → Int32) (Hd : Nat → Int32) (O : Nat → Bool) (R : Nat) (HL : Nat → Int32) (LB : Nat → Int32) (SO : Nat → Bool) (NG : Nat → Bool) (WO : Nat → Bool) (SA : Nat) (SE : Nat) (x0 : Int32) (hA : A ≤ 9) (hst : l.stackTraces = false) (sz : Nat) : vx_Met l yX2_nodeOf wsX2_nodeOf ({ frames := 7, cells := 1, slots := 6, locals := 111 }) (pcX D [(cI, .int), (cZ, .boolean)] sz (wK cI cZ ad N A fl an nd wt B Hd O R HL LB SO NG WO SA SE) [.ref (ad 0), .int (x0)]) (va_Qi (fun (r9 : Int32) (u9 : Unit) => (inR x0 A = true) ∧ (∃ j, j < A ∧ x0 = nI j ∧ r9 = nd j) ∧ (True)) (wB D (va_A (wK cI cZ ad N A fl an nd wt B Hd O R HL LB SO NG WO SA SE) sz) (fun u9 : Unit => (wK cI cZ ad N A fl an nd wt B Hd O R HL LB SO NG WO SA SE))) (va_A (wK cI cZ ad N A fl an nd wt B Hd O R HL LB SO NG WO SA SE) sz)) (xX D (va_A (wK cI cZ ad N A fl an nd wt B Hd O R HL LB SO NG WO SA SE) sz) (fun (E9 : String) (u9 : Unit) => E9 = "java/lang/IndexOutOfBoundsException" ∧ (inR x0 A = false)) (fun u9 : Unit => (wK cI cZ ad N A fl an nd wt B Hd O R HL LB SO NG WO SA SE))) 1 6 (va_A (wK cI cZ ad N A fl an nd wt B Hd O R HL LB SO NG WO SA SE) sz) := by
  refine vx_ofW (cc := cX2_nodeOf) (maxL := 2) (ret := (some .int)) (by decide) rfl ?_
  intro p e s m args below meth c s₁ BB hml htab hv
  obtain ⟨rfl, hsz, hP, hK, hD0, hX, hZ⟩ := hv
  have hx := BB.exec
  have hb := BB.bytes
  have hrt := BB.returns
  have hts := atoms_spec (ws := wsX2_nodeOf) BB.pre
  have hown : s.vm.findClass RX2 = some m.cls := findClass_of_methodNamed BB.named
  have hlk := BB.notSynchronized
  subst hsz
  have hD := hD0.self (sz := s.heap.size)
  generalize hAe : va_A (wK cI cZ ad N A fl an nd wt B Hd O R HL LB SO NG WO SA SE) s.heap.size = Ap at hD hZ ⊢
  have hAp : ∀ q : Nat, s.heap.size ≤ q → Ap q := fun q h => by rw [← hAe]; exact Or.inr h
  have hS : va_S Ap s.heap s.heap [] := va_S.rf
  have f13 := hts (.fieldLink RX2 13 "AssumptionKeeper" "assumptionNodes" "[I") (by decide +kernel)
  have hin2 : ∀ w ∈ u_ws RX2 TX2 8, w ∈ wsX2_nodeOf := by decide +kernel
  have hl := lv_entry ([.ref (ad 0), .int (x0)]) (n := 2) (Nat.le_of_ble_eq_true rfl)
  rw [lg_entry_eq]
  generalize (lg_sl ([.ref (ad 0), .int (x0)]) ++ List.replicate (2 - (lg_sl ([.ref (ad 0), .int (x0)])).length) Slot.unset).toArray = ls at hl ⊢
  have hl : lv_has ls 2 [(0, .ref (ad 0)), (1, .int (x0))] := hl
  refine lv_aload_n hx hb dX2_nodeOf_0 rfl (lv_at hl 0 rfl) ?_
  refine lv_iload_n hx hb dX2_nodeOf_1 rfl (lv_at hl 1 rfl) ?_
  refine xu_v (wr := []) (vx_runV (As := [.int (x0)]) (rest := []) ⟨hx, hb, hml, hown, hts⟩ (c_X2_requireAssumption l D cI cZ ad (N) (A) (fl) (an) (nd) (wt) (B) (Hd) (O) (R) (HL) (LB) (SO) (NG) (WO) (SA) (SE) (x0)  hst (s.heap).size) (cwV 1 hts gX2_nodeOf_X2_requireAssumption rfl rfl rfl (by decide +kernel) ⟨Nat.le_of_ble_eq_true rfl, Nat.le_of_ble_eq_true rfl⟩) (prx_V (q0 := 0) (ci := 2) (hP.sub (ws' := (wK cI cZ ad N A fl an nd wt B Hd O R HL LB SO NG WO SA SE)) [0, 1, 2, 3, 4, 5, 6, 7, 8, 9, 10, 11, 12, 13] rfl) (hD.sub (ws' := (wK cI cZ ad N A fl an nd wt B Hd O R HL LB SO NG WO SA SE)) [0, 1, 2, 3, 4, 5, 6, 7, 8, 9, 10, 11, 12, 13] (by decide) rfl) hK hX hZ hS (va_free (wc := (wK cI cZ ad N A fl an nd wt B Hd O R HL LB SO NG WO SA SE)) hD hS hAp [0, 1, 2, 3, 4, 5, 6, 7, 8, 9, 10, 11, 12, 13] rfl) rfl rfl) rfl rfl hl.1 rfl (lv_room (Nat.le_of_ble_eq_true rfl)) dX2_nodeOf_2 ⟨Nat.le_of_ble_eq_true rfl, Nat.le_of_ble_eq_true rfl⟩) hP hD hS hAp [0, 1, 2, 3, 4, 5, 6, 7, 8, 9, 10, 11, 12, 13] [] rfl rfl (by decide) (by decide) (fun E_2 ce_2 q9_2 ux_2 H locs hxp_2 hP hD hS h7_2 h8_2 h9_2 => ?_) (fun u_2 H locs hq_2 hP hD hS => ?_)
  · skip
    have hP : va_P D vwCl (wK cI cZ ad N A fl an nd wt B Hd O R HL LB SO NG WO SA SE) H := hP
    have hD : va_D Ap (wK cI cZ ad N A fl an nd wt B Hd O R HL LB SO NG WO SA SE) := hD
    exact x_out (u := ()) htab hlk h7_2 h8_2 h9_2 hS hP hD (Nat.le_of_ble_eq_true rfl) (Nat.le_of_ble_eq_true rfl) (by obtain ⟨hE9, hc9⟩ := hxp_2; subst hE9; simp [hc9])
  · skip
    obtain ⟨hok_2, -⟩ := hq_2
    have hP : va_P D vwCl (wK cI cZ ad N A fl an nd wt B Hd O R HL LB SO NG WO SA SE) H := hP
    have hD : va_D Ap (wK cI cZ ad N A fl an nd wt B Hd O R HL LB SO NG WO SA SE) := hD
    refine W.widen (k := 1) (n := 6) (by decide) (by decide) ?_
    obtain ⟨j0, hj0, rfl⟩ := inR_nat hok_2
    refine lv_aload_n hx hb dX2_nodeOf_5 rfl (lv_at hl 0 rfl) ?_
    refine va_get (D := D) (ci := 2) (v := .ref (ad 2)) (C := RX2) (T := TX2) (N := 8) hx hb hts hin2 hown hK.1 hP 0 rfl rfl 1 (by decide) f13 (fun _ h9 => h9) rfl dX2_nodeOf_6 ?_
    refine lv_iload_n hx hb dX2_nodeOf_9 rfl (lv_at hl 1 rfl) ?_
    refine ai_ (D := D) (f := nd) (i := j0) hx hb hK hP 2 0 rfl rfl (by omega) (by decide) dX2_nodeOf_10 ?_
    exact vx_ret (mr_i (u := ()) hx hb hrt hlk dX2_nodeOf_11 hS hP hD ⟨(hok_2), (⟨j0, hj0, rfl, rfl⟩), trivial⟩)
set_option maxHeartbeats 4000000 in
set_option maxRecDepth 100000 in
theorem c_X2_holds (l : Launch) (D : va_G) (cI cZ : ClassId) (ad : Nat → Nat) (N : Nat) (A : Nat) (fl : Bool) (an : Nat → Int32) (nd : Nat → Int32) (wt : Nat → Int32) (B : Nat → Int32) (Hd : Nat → Int32) (O : Nat → Bool) (R : Nat) (HL : Nat → Int32) (LB : Nat → Int32) (SO : Nat → Bool) (NG : Nat → Bool) (WO : Nat → Bool) (SA : Nat) (SE : Nat) (x0 : Int32) (y0 : Int32) (hA : A ≤ 9) (hR : R ≤ 40) (hst : l.stackTraces = false) (sz : Nat) : vx_Met l yX2_holds wsX2_holds ({ frames := 7, cells := 2, slots := 12, locals := 111 }) (pcX D [(cI, .int), (cZ, .boolean)] sz (wK cI cZ ad N A fl an nd wt B Hd O R HL LB SO NG WO SA SE) [.ref (ad 0), .int (x0), .int (y0)]) (va_Qi (fun (r9 : Int32) (u9 : Unit) => (r9 = bI (hs (clo B Hd O R (bg nd y0 A)) x0)) ∧ (inR x0 N = true ∧ inS y0 A = true) ∧ (True)) (wB D (va_A (wK cI cZ ad N A fl an nd wt B Hd O R HL LB SO NG WO SA SE) sz) (fun u9 : Unit => (wK cI cZ ad N A fl an nd wt B Hd O R HL LB SO NG WO SA SE))) (va_A (wK cI cZ ad N A fl an nd wt B Hd O R HL LB SO NG WO SA SE) sz)) (xX D (va_A (wK cI cZ ad N A fl an nd wt B Hd O R HL LB SO NG WO SA SE) sz) (fun (E9 : String) (u9 : Unit) => (E9 = "java/lang/IndexOutOfBoundsException" ∧ (inR x0 N = false)) ∨ (E9 = "java/lang/IllegalArgumentException" ∧ (inR x0 N = true ∧ inS y0 A = false))) (fun u9 : Unit => (wK cI cZ ad N A fl an nd wt B Hd O R HL LB SO NG WO SA SE))) 2 12 (va_A (wK cI cZ ad N A fl an nd wt B Hd O R HL LB SO NG WO SA SE) sz) := by
  refine vx_ofW (cc := cX2_holds) (maxL := 3) (ret := (some .boolean)) (by decide) rfl ?_
  intro p e s m args below meth c s₁ BB hml htab hv
  obtain ⟨rfl, hsz, hP, hK, hD0, hX, hZ⟩ := hv
  have hx := BB.exec
  have hb := BB.bytes
  have hrt := BB.returns
  have hts := atoms_spec (ws := wsX2_holds) BB.pre
  have hown : s.vm.findClass RX2 = some m.cls := findClass_of_methodNamed BB.named
  have hlk := BB.notSynchronized
  subst hsz
  have hD := hD0.self (sz := s.heap.size)
  generalize hAe : va_A (wK cI cZ ad N A fl an nd wt B Hd O R HL LB SO NG WO SA SE) s.heap.size = Ap at hD hZ ⊢
  have hAp : ∀ q : Nat, s.heap.size ≤ q → Ap q := fun q h => by rw [← hAe]; exact Or.inr h
  have hS : va_S Ap s.heap s.heap [] := va_S.rf
  have f22 := hts (.fieldLink RX2 22 "AssumptionKeeper" "rules" "LAssumptionKeeper$RuleBook;") (by decide +kernel)
  have hin2 : ∀ w ∈ u_ws RX2 TX2 8, w ∈ wsX2_holds := by decide +kernel
  have hl := lv_entry ([.ref (ad 0), .int (x0), .int (y0)]) (n := 3) (Nat.le_of_ble_eq_true rfl)
  rw [lg_entry_eq]
  generalize (lg_sl ([.ref (ad 0), .int (x0), .int (y0)]) ++ List.replicate (3 - (lg_sl ([.ref (ad 0), .int (x0), .int (y0)])).length) Slot.unset).toArray = ls at hl ⊢
  have hl : lv_has ls 3 [(0, .ref (ad 0)), (1, .int (x0)), (2, .int (y0))] := hl
  refine lv_aload_n hx hb dX2_holds_0 rfl (lv_at hl 0 rfl) ?_
  refine lv_iload_n hx hb dX2_holds_1 rfl (lv_at hl 1 rfl) ?_
  refine xu_v (wr := []) (vx_runV (As := [.int (x0)]) (rest := []) ⟨hx, hb, hml, hown, hts⟩ (c_X2_requireNode l D cI cZ ad (N) (A) (fl) (an) (nd) (wt) (B) (Hd) (O) (R) (HL) (LB) (SO) (NG) (WO) (SA) (SE) (x0)  hst (s.heap).size) (cwV 1 hts gX2_holds_X2_requireNode rfl rfl rfl (by decide +kernel) ⟨Nat.le_of_ble_eq_true rfl, Nat.le_of_ble_eq_true rfl⟩) (prx_V (q0 := 0) (ci := 2) (hP.sub (ws' := (wK cI cZ ad N A fl an nd wt B Hd O R HL LB SO NG WO SA SE)) [0, 1, 2, 3, 4, 5, 6, 7, 8, 9, 10, 11, 12, 13] rfl) (hD.sub (ws' := (wK cI cZ ad N A fl an nd wt B Hd O R HL LB SO NG WO SA SE)) [0, 1, 2, 3, 4, 5, 6, 7, 8, 9, 10, 11, 12, 13] (by decide) rfl) hK hX hZ hS (va_free (wc := (wK cI cZ ad N A fl an nd wt B Hd O R HL LB SO NG WO SA SE)) hD hS hAp [0, 1, 2, 3, 4, 5, 6, 7, 8, 9, 10, 11, 12, 13] rfl) rfl rfl) rfl rfl hl.1 rfl (lv_room (Nat.le_of_ble_eq_true rfl)) dX2_holds_2 ⟨Nat.le_of_ble_eq_true rfl, Nat.le_of_ble_eq_true rfl⟩) hP hD hS hAp [0, 1, 2, 3, 4, 5, 6, 7, 8, 9, 10, 11, 12, 13] [] rfl rfl (by decide) (by decide) (fun E_2 ce_2 q9_2 ux_2 H locs hxp_2 hP hD hS h7_2 h8_2 h9_2 => ?_) (fun u_2 H locs hq_2 hP hD hS => ?_)
  · skip
    have hP : va_P D vwCl (wK cI cZ ad N A fl an nd wt B Hd O R HL LB SO NG WO SA SE) H := hP
    have hD : va_D Ap (wK cI cZ ad N A fl an nd wt B Hd O R HL LB SO NG WO SA SE) := hD
    exact x_out (u := ()) htab hlk h7_2 h8_2 h9_2 hS hP hD (Nat.le_of_ble_eq_true rfl) (Nat.le_of_ble_eq_true rfl) (by obtain ⟨hE9, hc9⟩ := hxp_2; subst hE9; simp [hc9])
  · skip
    obtain ⟨hok_2, -⟩ := hq_2
    have hP : va_P D vwCl (wK cI cZ ad N A fl an nd wt B Hd O R HL LB SO NG WO SA SE) H := hP
    have hD : va_D Ap (wK cI cZ ad N A fl an nd wt B Hd O R HL LB SO NG WO SA SE) := hD
    refine W.widen (k := 1) (n := 6) (by decide) (by decide) ?_
    refine lv_aload_n hx hb dX2_holds_5 rfl (lv_at hl 0 rfl) ?_
    refine lv_iload_n hx hb dX2_holds_6 rfl (lv_at hl 2 rfl) ?_
    refine xu_v (wr := []) (vx_runV (As := [.int (y0)]) (rest := []) ⟨hx, hb, hml, hown, hts⟩ (c_X2_requireEnvironment l D cI cZ ad (N) (A) (fl) (an) (nd) (wt) (B) (Hd) (O) (R) (HL) (LB) (SO) (NG) (WO) (SA) (SE) (y0)  hst (H).size) (cwV 1 hts gX2_holds_X2_requireEnvironment rfl rfl rfl (by decide +kernel) ⟨Nat.le_of_ble_eq_true rfl, Nat.le_of_ble_eq_true rfl⟩) (prx_V (q0 := 0) (ci := 2) (hP.sub (ws' := (wK cI cZ ad N A fl an nd wt B Hd O R HL LB SO NG WO SA SE)) [0, 1, 2, 3, 4, 5, 6, 7, 8, 9, 10, 11, 12, 13] rfl) (hD.sub (ws' := (wK cI cZ ad N A fl an nd wt B Hd O R HL LB SO NG WO SA SE)) [0, 1, 2, 3, 4, 5, 6, 7, 8, 9, 10, 11, 12, 13] (by decide) rfl) hK hX hZ hS (va_free (wc := (wK cI cZ ad N A fl an nd wt B Hd O R HL LB SO NG WO SA SE)) hD hS hAp [0, 1, 2, 3, 4, 5, 6, 7, 8, 9, 10, 11, 12, 13] rfl) rfl rfl) rfl rfl hl.1 rfl (lv_room (Nat.le_of_ble_eq_true rfl)) dX2_holds_7 ⟨Nat.le_of_ble_eq_true rfl, Nat.le_of_ble_eq_true rfl⟩) hP hD hS hAp [0, 1, 2, 3, 4, 5, 6, 7, 8, 9, 10, 11, 12, 13] [] rfl rfl (by decide) (by decide) (fun E_7 ce_7 q9_7 ux_7 H locs hxp_7 hP hD hS h7_7 h8_7 h9_7 => ?_) (fun u_7 H locs hq_7 hP hD hS => ?_)
    · skip
      have hP : va_P D vwCl (wK cI cZ ad N A fl an nd wt B Hd O R HL LB SO NG WO SA SE) H := hP
      have hD : va_D Ap (wK cI cZ ad N A fl an nd wt B Hd O R HL LB SO NG WO SA SE) := hD
      exact x_out (u := ()) htab hlk h7_7 h8_7 h9_7 hS hP hD (Nat.le_of_ble_eq_true rfl) (Nat.le_of_ble_eq_true rfl) (by obtain ⟨hE9, hc9⟩ := hxp_7; subst hE9; simp [hc9, hok_2])
    · skip
      obtain ⟨hok_7, -⟩ := hq_7
      have hP : va_P D vwCl (wK cI cZ ad N A fl an nd wt B Hd O R HL LB SO NG WO SA SE) H := hP
      have hD : va_D Ap (wK cI cZ ad N A fl an nd wt B Hd O R HL LB SO NG WO SA SE) := hD
      refine W.widen (k := 2) (n := 12) (by decide) (by decide) ?_
      refine lv_aload_n hx hb dX2_holds_10 rfl (lv_at hl 0 rfl) ?_
      refine va_get (D := D) (ci := 2) (v := .ref (ad 4)) (C := RX2) (T := TX2) (N := 8) hx hb hts hin2 hown hK.1 hP 0 rfl rfl 3 (by decide) f22 (fun _ h9 => h9) rfl dX2_holds_11 ?_
      refine lv_aload_n hx hb dX2_holds_14 rfl (lv_at hl 0 rfl) ?_
      refine lv_iload_n hx hb dX2_holds_15 rfl (lv_at hl 2 rfl) ?_
      refine pu_i (va_runV (As := [.int (y0)]) (rest := [.ref (ad 4)]) ⟨hx, hb, hml, hown, hts⟩ (c_X2_nodesOf l D cI cZ ad (N) (A) (fl) (an) (nd) (wt) (B) (Hd) (O) (R) (HL) (LB) (SO) (NG) (WO) (SA) (SE) (y0) (by omega)) (cwV 1 hts gX2_holds_X2_nodesOf rfl rfl rfl (by decide +kernel) ⟨Nat.le_of_ble_eq_true rfl, Nat.le_of_ble_eq_true rfl⟩) (pre_V (q0 := 0) (ci := 2) (hP.sub (ws' := (wK cI cZ ad N A fl an nd wt B Hd O R HL LB SO NG WO SA SE)) [0, 1, 2, 3, 4, 5, 6, 7, 8, 9, 10, 11, 12, 13] rfl) hK rfl rfl) rfl rfl hl.1 rfl (lv_room (Nat.le_of_ble_eq_true rfl)) dX2_holds_16 ⟨Nat.le_of_ble_eq_true rfl, Nat.le_of_ble_eq_true rfl⟩) ?_
      refine pu_i (va_runV (As := [.int (bg nd y0 A)]) (rest := []) ⟨hx, hb, hml, hown, hts⟩ (c_X0_closure l D cI cZ (fun k => ad (k + 4)) (B) (Hd) (O) (R) (bg nd y0 A) (by omega)) (cwV 1 hts gX2_holds_X0_closure rfl rfl rfl (by decide +kernel) ⟨Nat.le_of_ble_eq_true rfl, Nat.le_of_ble_eq_true rfl⟩) (pre_V (q0 := 0) (ci := 0) (hP.sub (ws' := (wR cI cZ (fun k => ad (k + 4)) B Hd O R)) [4, 5, 6, 7] rfl) hK rfl rfl) rfl rfl hl.1 rfl (lv_room (Nat.le_of_ble_eq_true rfl)) dX2_holds_19 ⟨Nat.le_of_ble_eq_true rfl, Nat.le_of_ble_eq_true rfl⟩) ?_
      refine lv_iload_n hx hb dX2_holds_22 rfl (lv_at hl 1 rfl) ?_
      refine pu_i (va_runS (As := [.int (clo B Hd O R (bg nd y0 A)), .int (x0)]) (rest := []) ⟨hx, hb, hml, hown, hts⟩ (c_X2_contains l D cI cZ ad (clo B Hd O R (bg nd y0 A)) (x0) ) (cwS 2 hts gX2_holds_X2_contains rfl rfl rfl (by decide +kernel) ⟨Nat.le_of_ble_eq_true rfl, Nat.le_of_ble_eq_true rfl⟩) (pre_S (hP.sub (ws' := ([] : va_W)) [] rfl) hK) rfl rfl hl.1 rfl (lv_room (Nat.le_of_ble_eq_true rfl)) dX2_holds_23 ⟨Nat.le_of_ble_eq_true rfl, Nat.le_of_ble_eq_true rfl⟩) ?_
      exact vx_ret (mr_z (v := hs (clo B Hd O R (bg nd y0 A)) x0) (u := ()) hx hb hrt hlk dX2_holds_26 hS hP hD ⟨(by first | rfl | (simp []; done) | (simp only []; rfl) | (simp_all []; done)), (⟨hok_2, hok_7⟩), trivial⟩)
set_option maxHeartbeats 4000000 in
set_option maxRecDepth 100000 in
theorem c_X2_depth (l : Launch) (D : va_G) (cI cZ : ClassId) (ad : Nat → Nat) (N : Nat) (A : Nat) (fl : Bool) (an : Nat → Int32) (nd : Nat → Int32) (wt : Nat → Int32) (B : Nat → Int32) (Hd : Nat → Int32) (O : Nat → Bool) (R : Nat) (HL : Nat → Int32) (LB : Nat → Int32) (SO : Nat → Bool) (NG : Nat → Bool) (WO : Nat → Bool) (SA : Nat) (SE : Nat) (x0 : Int32) (y0 : Int32) (hA : A ≤ 9) (hR : R ≤ 40) (hst : l.stackTraces = false) (sz : Nat) : vx_Met l yX2_depth wsX2_depth ({ frames := 7, cells := 2, slots := 12, locals := 111 }) (pcX D [(cI, .int), (cZ, .boolean)] sz (wK cI cZ ad N A fl an nd wt B Hd O R HL LB SO NG WO SA SE) [.ref (ad 0), .int (x0), .int (y0)]) (va_Qi (fun (r9 : Int32) (u9 : Unit) => (r9 = fndI (fun d => hs (itr (fun y => aR B Hd O y R) (bg nd y0 A) d) x0) 25 (-1)) ∧ (inR x0 N = true ∧ inS y0 A = true) ∧ (True)) (wB D (va_A (wK cI cZ ad N A fl an nd wt B Hd O R HL LB SO NG WO SA SE) sz) (fun u9 : Unit => (wK cI cZ ad N A fl an nd wt B Hd O R HL LB SO NG WO SA SE))) (va_A (wK cI cZ ad N A fl an nd wt B Hd O R HL LB SO NG WO SA SE) sz)) (xX D (va_A (wK cI cZ ad N A fl an nd wt B Hd O R HL LB SO NG WO SA SE) sz) (fun (E9 : String) (u9 : Unit) => (E9 = "java/lang/IndexOutOfBoundsException" ∧ (inR x0 N = false)) ∨ (E9 = "java/lang/IllegalArgumentException" ∧ (inR x0 N = true ∧ inS y0 A = false))) (fun u9 : Unit => (wK cI cZ ad N A fl an nd wt B Hd O R HL LB SO NG WO SA SE))) 2 12 (va_A (wK cI cZ ad N A fl an nd wt B Hd O R HL LB SO NG WO SA SE) sz) := by
  refine vx_ofW (cc := cX2_depth) (maxL := 5) (ret := (some .int)) (by decide) rfl ?_
  intro p e s m args below meth c s₁ BB hml htab hv
  obtain ⟨rfl, hsz, hP, hK, hD0, hX, hZ⟩ := hv
  have hx := BB.exec
  have hb := BB.bytes
  have hrt := BB.returns
  have hts := atoms_spec (ws := wsX2_depth) BB.pre
  have hown : s.vm.findClass RX2 = some m.cls := findClass_of_methodNamed BB.named
  have hlk := BB.notSynchronized
  subst hsz
  have hD := hD0.self (sz := s.heap.size)
  generalize hAe : va_A (wK cI cZ ad N A fl an nd wt B Hd O R HL LB SO NG WO SA SE) s.heap.size = Ap at hD hZ ⊢
  have hAp : ∀ q : Nat, s.heap.size ≤ q → Ap q := fun q h => by rw [← hAe]; exact Or.inr h
  have hS : va_S Ap s.heap s.heap [] := va_S.rf
  have f22 := hts (.fieldLink RX2 22 "AssumptionKeeper" "rules" "LAssumptionKeeper$RuleBook;") (by decide +kernel)
  have hin2 : ∀ w ∈ u_ws RX2 TX2 8, w ∈ wsX2_depth := by decide +kernel
  have hl := lv_entry ([.ref (ad 0), .int (x0), .int (y0)]) (n := 5) (Nat.le_of_ble_eq_true rfl)
  rw [lg_entry_eq]
  generalize (lg_sl ([.ref (ad 0), .int (x0), .int (y0)]) ++ List.replicate (5 - (lg_sl ([.ref (ad 0), .int (x0), .int (y0)])).length) Slot.unset).toArray = ls at hl ⊢
  have hl : lv_has ls 5 [(0, .ref (ad 0)), (1, .int (x0)), (2, .int (y0))] := hl
  refine lv_aload_n hx hb dX2_depth_0 rfl (lv_at hl 0 rfl) ?_
  refine lv_iload_n hx hb dX2_depth_1 rfl (lv_at hl 1 rfl) ?_
  refine xu_v (wr := []) (vx_runV (As := [.int (x0)]) (rest := []) ⟨hx, hb, hml, hown, hts⟩ (c_X2_requireNode l D cI cZ ad (N) (A) (fl) (an) (nd) (wt) (B) (Hd) (O) (R) (HL) (LB) (SO) (NG) (WO) (SA) (SE) (x0)  hst (s.heap).size) (cwV 1 hts gX2_depth_X2_requireNode rfl rfl rfl (by decide +kernel) ⟨Nat.le_of_ble_eq_true rfl, Nat.le_of_ble_eq_true rfl⟩) (prx_V (q0 := 0) (ci := 2) (hP.sub (ws' := (wK cI cZ ad N A fl an nd wt B Hd O R HL LB SO NG WO SA SE)) [0, 1, 2, 3, 4, 5, 6, 7, 8, 9, 10, 11, 12, 13] rfl) (hD.sub (ws' := (wK cI cZ ad N A fl an nd wt B Hd O R HL LB SO NG WO SA SE)) [0, 1, 2, 3, 4, 5, 6, 7, 8, 9, 10, 11, 12, 13] (by decide) rfl) hK hX hZ hS (va_free (wc := (wK cI cZ ad N A fl an nd wt B Hd O R HL LB SO NG WO SA SE)) hD hS hAp [0, 1, 2, 3, 4, 5, 6, 7, 8, 9, 10, 11, 12, 13] rfl) rfl rfl) rfl rfl hl.1 rfl (lv_room (Nat.le_of_ble_eq_true rfl)) dX2_depth_2 ⟨Nat.le_of_ble_eq_true rfl, Nat.le_of_ble_eq_true rfl⟩) hP hD hS hAp [0, 1, 2, 3, 4, 5, 6, 7, 8, 9, 10, 11, 12, 13] [] rfl rfl (by decide) (by decide) (fun E_2 ce_2 q9_2 ux_2 H locs hxp_2 hP hD hS h7_2 h8_2 h9_2 => ?_) (fun u_2 H locs hq_2 hP hD hS => ?_)
  · skip
    have hP : va_P D vwCl (wK cI cZ ad N A fl an nd wt B Hd O R HL LB SO NG WO SA SE) H := hP
    have hD : va_D Ap (wK cI cZ ad N A fl an nd wt B Hd O R HL LB SO NG WO SA SE) := hD
    exact x_out (u := ()) htab hlk h7_2 h8_2 h9_2 hS hP hD (Nat.le_of_ble_eq_true rfl) (Nat.le_of_ble_eq_true rfl) (by obtain ⟨hE9, hc9⟩ := hxp_2; subst hE9; simp [hc9])
  · skip
    obtain ⟨hok_2, -⟩ := hq_2
    have hP : va_P D vwCl (wK cI cZ ad N A fl an nd wt B Hd O R HL LB SO NG WO SA SE) H := hP
    have hD : va_D Ap (wK cI cZ ad N A fl an nd wt B Hd O R HL LB SO NG WO SA SE) := hD
    refine W.widen (k := 1) (n := 6) (by decide) (by decide) ?_
    refine lv_aload_n hx hb dX2_depth_5 rfl (lv_at hl 0 rfl) ?_
    refine lv_iload_n hx hb dX2_depth_6 rfl (lv_at hl 2 rfl) ?_
    refine xu_v (wr := []) (vx_runV (As := [.int (y0)]) (rest := []) ⟨hx, hb, hml, hown, hts⟩ (c_X2_requireEnvironment l D cI cZ ad (N) (A) (fl) (an) (nd) (wt) (B) (Hd) (O) (R) (HL) (LB) (SO) (NG) (WO) (SA) (SE) (y0)  hst (H).size) (cwV 1 hts gX2_depth_X2_requireEnvironment rfl rfl rfl (by decide +kernel) ⟨Nat.le_of_ble_eq_true rfl, Nat.le_of_ble_eq_true rfl⟩) (prx_V (q0 := 0) (ci := 2) (hP.sub (ws' := (wK cI cZ ad N A fl an nd wt B Hd O R HL LB SO NG WO SA SE)) [0, 1, 2, 3, 4, 5, 6, 7, 8, 9, 10, 11, 12, 13] rfl) (hD.sub (ws' := (wK cI cZ ad N A fl an nd wt B Hd O R HL LB SO NG WO SA SE)) [0, 1, 2, 3, 4, 5, 6, 7, 8, 9, 10, 11, 12, 13] (by decide) rfl) hK hX hZ hS (va_free (wc := (wK cI cZ ad N A fl an nd wt B Hd O R HL LB SO NG WO SA SE)) hD hS hAp [0, 1, 2, 3, 4, 5, 6, 7, 8, 9, 10, 11, 12, 13] rfl) rfl rfl) rfl rfl hl.1 rfl (lv_room (Nat.le_of_ble_eq_true rfl)) dX2_depth_7 ⟨Nat.le_of_ble_eq_true rfl, Nat.le_of_ble_eq_true rfl⟩) hP hD hS hAp [0, 1, 2, 3, 4, 5, 6, 7, 8, 9, 10, 11, 12, 13] [] rfl rfl (by decide) (by decide) (fun E_7 ce_7 q9_7 ux_7 H locs hxp_7 hP hD hS h7_7 h8_7 h9_7 => ?_) (fun u_7 H locs hq_7 hP hD hS => ?_)
    · skip
      have hP : va_P D vwCl (wK cI cZ ad N A fl an nd wt B Hd O R HL LB SO NG WO SA SE) H := hP
      have hD : va_D Ap (wK cI cZ ad N A fl an nd wt B Hd O R HL LB SO NG WO SA SE) := hD
      exact x_out (u := ()) htab hlk h7_7 h8_7 h9_7 hS hP hD (Nat.le_of_ble_eq_true rfl) (Nat.le_of_ble_eq_true rfl) (by obtain ⟨hE9, hc9⟩ := hxp_7; subst hE9; simp [hc9, hok_2])
    · skip
      obtain ⟨hok_7, -⟩ := hq_7
      have hP : va_P D vwCl (wK cI cZ ad N A fl an nd wt B Hd O R HL LB SO NG WO SA SE) H := hP
      have hD : va_D Ap (wK cI cZ ad N A fl an nd wt B Hd O R HL LB SO NG WO SA SE) := hD
      refine W.widen (k := 2) (n := 12) (by decide) (by decide) ?_
      refine lv_aload_n hx hb dX2_depth_10 rfl (lv_at hl 0 rfl) ?_
      refine lv_iload_n hx hb dX2_depth_11 rfl (lv_at hl 2 rfl) ?_
      refine pu_i (va_runV (As := [.int (y0)]) (rest := []) ⟨hx, hb, hml, hown, hts⟩ (c_X2_nodesOf l D cI cZ ad (N) (A) (fl) (an) (nd) (wt) (B) (Hd) (O) (R) (HL) (LB) (SO) (NG) (WO) (SA) (SE) (y0) (by omega)) (cwV 1 hts gX2_depth_X2_nodesOf rfl rfl rfl (by decide +kernel) ⟨Nat.le_of_ble_eq_true rfl, Nat.le_of_ble_eq_true rfl⟩) (pre_V (q0 := 0) (ci := 2) (hP.sub (ws' := (wK cI cZ ad N A fl an nd wt B Hd O R HL LB SO NG WO SA SE)) [0, 1, 2, 3, 4, 5, 6, 7, 8, 9, 10, 11, 12, 13] rfl) hK rfl rfl) rfl rfl hl.1 rfl (lv_room (Nat.le_of_ble_eq_true rfl)) dX2_depth_12 ⟨Nat.le_of_ble_eq_true rfl, Nat.le_of_ble_eq_true rfl⟩) ?_
      refine lv_istore_n (lv' := [(3, .int (bg nd y0 A)), (0, .ref (ad 0)), (1, .int (x0)), (2, .int (y0))]) hx hb dX2_depth_15 rfl hl (by decide) rfl (fun ls hl => ?_)
      refine lv_iconst (v := nI (0)) hx hb dX2_depth_16 (by decide) ?_
      refine lv_istore (lv' := [(4, .int (nI (0))), (3, .int (bg nd y0 A)), (0, .ref (ad 0)), (1, .int (x0)), (2, .int (y0))]) hx hb dX2_depth_17 hl (by decide) rfl (fun ls hl => ?_)
      have lp_19 : ∀ (n19 i : Nat) (v3 : Int32) (v4 : Int32), i ≤ 25 → 25 + 1 ≤ i + n19 → (∀ j, j < i → (fun d => hs (itr (fun y => aR B Hd O y R) (bg nd y0 A) d) x0) j = false) → v3 = itr (fun y => aR B Hd O y R) (bg nd y0 A) i → v4 = nI (i) → ∀ ls : Array Slot, lv_has ls 5 [(0, .ref (ad 0)), (1, .int (x0)), (2, .int (y0)), (3, .int (v3)), (4, .int (v4))] → W p l e (headSpec wsX2_depth ({ frames := 7, cells := 2, slots := 12, locals := 111 })).room s m ([.ref (ad 0), .int (x0), .int (y0)]).toArray below meth c H locs 2 12 (vx_MQ below (va_Qi (fun (r9 : Int32) (u9 : Unit) => (r9 = fndI (fun d => hs (itr (fun y => aR B Hd O y R) (bg nd y0 A) d) x0) 25 (-1)) ∧ (inR x0 N = true ∧ inS y0 A = true) ∧ (True)) (wB D Ap (fun u9 : Unit => (wK cI cZ ad N A fl an nd wt B Hd O R HL LB SO NG WO SA SE))) Ap) (xX D Ap (fun (E9 : String) (u9 : Unit) => (E9 = "java/lang/IndexOutOfBoundsException" ∧ (inR x0 N = false)) ∨ (E9 = "java/lang/IllegalArgumentException" ∧ (inR x0 N = true ∧ inS y0 A = false))) (fun u9 : Unit => (wK cI cZ ad N A fl an nd wt B Hd O R HL LB SO NG WO SA SE))) ([.ref (ad 0), .int (x0), .int (y0)]).toArray s 2 12 Ap) (F0 m 19 ls []) := by
        intro n19
        induction n19 with
        | zero => intro i v3 v4 h1 h2; exact absurd h2 (by omega)
        | succ n19 ih19 =>
          intro i v3 v4 hi19 hn19 hno e3 e4  ls hl
          subst e3 e4
          have hl : lv_has ls 5 [(0, .ref (ad 0)), (1, .int (x0)), (2, .int (y0)), (3, .int (itr (fun y => aR B Hd O y R) (bg nd y0 A) i)), (4, .int (nI (i)))] := hl
          refine lv_iload hx hb dX2_depth_19 (lv_at hl 4 rfl) ?_
          refine lv_bipush (v := nI (24)) hx hb dX2_depth_21 (by decide) ?_
          refine lv_icmp_gt (tgt := 52) hx hb dX2_depth_23 (by decide) (fun c_23 => ?_) (fun c_23 => ?_)
          · skip
            have c_23 := (qI_lt (a := 24) (b := i) (by omega) (by omega)).mp c_23
            refine lv_iconst (v := -1) hx hb dX2_depth_52 (by decide) ?_
            exact vx_ret (mr_i (u := ()) hx hb hrt hlk dX2_depth_53 hS hP hD ⟨(by obtain rfl : i = 25 := (by omega); exact (fndI_no hno).symm), (⟨hok_2, hok_7⟩), trivial⟩)
          · skip
            have c_23 := mt (qI_lt (a := 24) (b := i) (by omega) (by omega)).mpr c_23
            refine lv_iload_n hx hb dX2_depth_26 rfl (lv_at hl 3 rfl) ?_
            refine lv_iload_n hx hb dX2_depth_27 rfl (lv_at hl 1 rfl) ?_
            refine pu_i (va_runS (As := [.int (itr (fun y => aR B Hd O y R) (bg nd y0 A) i), .int (x0)]) (rest := []) ⟨hx, hb, hml, hown, hts⟩ (c_X2_contains l D cI cZ ad (itr (fun y => aR B Hd O y R) (bg nd y0 A) i) (x0) ) (cwS 2 hts gX2_depth_X2_contains rfl rfl rfl (by decide +kernel) ⟨Nat.le_of_ble_eq_true rfl, Nat.le_of_ble_eq_true rfl⟩) (pre_S (hP.sub (ws' := ([] : va_W)) [] rfl) hK) rfl rfl hl.1 rfl (lv_room (Nat.le_of_ble_eq_true rfl)) dX2_depth_28 ⟨Nat.le_of_ble_eq_true rfl, Nat.le_of_ble_eq_true rfl⟩) ?_
            refine lv_if_eq (tgt := 37) hx hb dX2_depth_31 (by decide) (fun c_31 => ?_) (fun c_31 => ?_)
            · skip
              have c_31 := bI_eq0 c_31
              refine lv_aload_n hx hb dX2_depth_37 rfl (lv_at hl 0 rfl) ?_
              refine va_get (D := D) (ci := 2) (v := .ref (ad 4)) (C := RX2) (T := TX2) (N := 8) hx hb hts hin2 hown hK.1 hP 0 rfl rfl 3 (by decide) f22 (fun _ h9 => h9) rfl dX2_depth_38 ?_
              refine lv_iload_n hx hb dX2_depth_41 rfl (lv_at hl 3 rfl) ?_
              refine pu_i (va_runV (As := [.int (itr (fun y => aR B Hd O y R) (bg nd y0 A) i)]) (rest := []) ⟨hx, hb, hml, hown, hts⟩ (c_X0_afterRound l D cI cZ (fun k => ad (k + 4)) (B) (Hd) (O) (R) (itr (fun y => aR B Hd O y R) (bg nd y0 A) i) (by omega)) (cwV 1 hts gX2_depth_X0_afterRound rfl rfl rfl (by decide +kernel) ⟨Nat.le_of_ble_eq_true rfl, Nat.le_of_ble_eq_true rfl⟩) (pre_V (q0 := 0) (ci := 0) (hP.sub (ws' := (wR cI cZ (fun k => ad (k + 4)) B Hd O R)) [4, 5, 6, 7] rfl) hK rfl rfl) rfl rfl hl.1 rfl (lv_room (Nat.le_of_ble_eq_true rfl)) dX2_depth_42 ⟨Nat.le_of_ble_eq_true rfl, Nat.le_of_ble_eq_true rfl⟩) ?_
              refine lv_istore_n (lv' := [(3, .int (aR B Hd O (itr (fun y => aR B Hd O y R) (bg nd y0 A) i) R)), (0, .ref (ad 0)), (1, .int (x0)), (2, .int (y0)), (4, .int (nI (i)))]) hx hb dX2_depth_45 rfl hl (by decide) rfl (fun ls hl => ?_)
              refine lv_iinc (v := nI (i + 1)) (lv' := [(4, .int (nI (i + 1))), (3, .int (aR B Hd O (itr (fun y => aR B Hd O y R) (bg nd y0 A) i) R)), (0, .ref (ad 0)), (1, .int (x0)), (2, .int (y0))]) hx hb dX2_depth_46 hl (k := 4) rfl (nI_1 _) (by decide) rfl (fun ls hl => ?_)
              refine lv_goto (tgt := 19) hx hb dX2_depth_49 (by decide) ?_
              exact ih19 (i + 1) _ _  (by omega) (by omega) (no_succ hno c_31) (by first | rfl | (simp [c_23, c_31]; done) | (simp only [c_23, c_31]; rfl) | (simp_all [c_23, c_31]; done)) (by first | rfl | (simp [c_23, c_31]; done) | (simp only [c_23, c_31]; rfl) | (simp_all [c_23, c_31]; done))  ls (lv_sub hl [2, 3, 4, 1, 0] rfl)
            · skip
              have c_31 := bI_ne0 c_31
              refine lv_iload hx hb dX2_depth_34 (lv_at hl 4 rfl) ?_
              exact vx_ret (mr_i (u := ()) hx hb hrt hlk dX2_depth_36 hS hP hD ⟨((fndI_at (P := (fun d => hs (itr (fun y => aR B Hd O y R) (bg nd y0 A) d) x0)) (i := i) (by omega) c_31 hno).symm), (⟨hok_2, hok_7⟩), trivial⟩)
      exact lp_19 (25 + 1) (0) _ _  (by omega) (by omega) (fun j hj => absurd hj (Nat.not_lt_zero j)) (by first | rfl | (simp []; done) | (simp only []; rfl) | (simp_all []; done)) (by first | rfl | (simp []; done) | (simp only []; rfl) | (simp_all []; done))  ls (lv_sub hl [2, 3, 4, 1, 0] rfl)
set_option maxHeartbeats 4000000 in
set_option maxRecDepth 100000 in
theorem c_X2_support (l : Launch) (D : va_G) (cI cZ : ClassId) (ad : Nat → Nat) (N : Nat) (A : Nat) (fl : Bool) (an : Nat → Int32) (nd : Nat → Int32) (wt : Nat → Int32) (B : Nat → Int32) (Hd : Nat → Int32) (O : Nat → Bool) (R : Nat) (HL : Nat → Int32) (LB : Nat → Int32) (SO : Nat → Bool) (NG : Nat → Bool) (WO : Nat → Bool) (SA : Nat) (SE : Nat) (x0 : Int32) (y0 : Int32) (hA : A ≤ 9) (hR : R ≤ 40) (hst : l.stackTraces = false) (sz : Nat) : vx_Met l yX2_support wsX2_support ({ frames := 7, cells := 2, slots := 12, locals := 111 }) (pcX D [(cI, .int), (cZ, .boolean)] sz (wK cI cZ ad N A fl an nd wt B Hd O R HL LB SO NG WO SA SE) [.ref (ad 0), .int (x0), .int (y0)]) (va_Qi (fun (r9 : Int32) (u9 : Unit) => (r9 = supE B Hd O R (bg nd y0 A) x0) ∧ (inR x0 N = true ∧ inS y0 A = true) ∧ (True)) (wB D (va_A (wK cI cZ ad N A fl an nd wt B Hd O R HL LB SO NG WO SA SE) sz) (fun u9 : Unit => (wK cI cZ ad N A fl an nd wt B Hd O R HL LB SO NG WO SA SE))) (va_A (wK cI cZ ad N A fl an nd wt B Hd O R HL LB SO NG WO SA SE) sz)) (xX D (va_A (wK cI cZ ad N A fl an nd wt B Hd O R HL LB SO NG WO SA SE) sz) (fun (E9 : String) (u9 : Unit) => (E9 = "java/lang/IndexOutOfBoundsException" ∧ (inR x0 N = false)) ∨ (E9 = "java/lang/IllegalArgumentException" ∧ (inR x0 N = true ∧ inS y0 A = false))) (fun u9 : Unit => (wK cI cZ ad N A fl an nd wt B Hd O R HL LB SO NG WO SA SE))) 2 12 (va_A (wK cI cZ ad N A fl an nd wt B Hd O R HL LB SO NG WO SA SE) sz) := by
  refine vx_ofW (cc := cX2_support) (maxL := 6) (ret := (some .int)) (by decide) rfl ?_
  intro p e s m args below meth c s₁ BB hml htab hv
  obtain ⟨rfl, hsz, hP, hK, hD0, hX, hZ⟩ := hv
  have hx := BB.exec
  have hb := BB.bytes
  have hrt := BB.returns
  have hts := atoms_spec (ws := wsX2_support) BB.pre
  have hown : s.vm.findClass RX2 = some m.cls := findClass_of_methodNamed BB.named
  have hlk := BB.notSynchronized
  subst hsz
  have hD := hD0.self (sz := s.heap.size)
  generalize hAe : va_A (wK cI cZ ad N A fl an nd wt B Hd O R HL LB SO NG WO SA SE) s.heap.size = Ap at hD hZ ⊢
  have hAp : ∀ q : Nat, s.heap.size ≤ q → Ap q := fun q h => by rw [← hAe]; exact Or.inr h
  have hS : va_S Ap s.heap s.heap [] := va_S.rf
  have f22 := hts (.fieldLink RX2 22 "AssumptionKeeper" "rules" "LAssumptionKeeper$RuleBook;") (by decide +kernel)
  have hin2 : ∀ w ∈ u_ws RX2 TX2 8, w ∈ wsX2_support := by decide +kernel
  have hl := lv_entry ([.ref (ad 0), .int (x0), .int (y0)]) (n := 6) (Nat.le_of_ble_eq_true rfl)
  rw [lg_entry_eq]
  generalize (lg_sl ([.ref (ad 0), .int (x0), .int (y0)]) ++ List.replicate (6 - (lg_sl ([.ref (ad 0), .int (x0), .int (y0)])).length) Slot.unset).toArray = ls at hl ⊢
  have hl : lv_has ls 6 [(0, .ref (ad 0)), (1, .int (x0)), (2, .int (y0))] := hl
  refine lv_aload_n hx hb dX2_support_0 rfl (lv_at hl 0 rfl) ?_
  refine lv_iload_n hx hb dX2_support_1 rfl (lv_at hl 1 rfl) ?_
  refine xu_v (wr := []) (vx_runV (As := [.int (x0)]) (rest := []) ⟨hx, hb, hml, hown, hts⟩ (c_X2_requireNode l D cI cZ ad (N) (A) (fl) (an) (nd) (wt) (B) (Hd) (O) (R) (HL) (LB) (SO) (NG) (WO) (SA) (SE) (x0)  hst (s.heap).size) (cwV 1 hts gX2_support_X2_requireNode rfl rfl rfl (by decide +kernel) ⟨Nat.le_of_ble_eq_true rfl, Nat.le_of_ble_eq_true rfl⟩) (prx_V (q0 := 0) (ci := 2) (hP.sub (ws' := (wK cI cZ ad N A fl an nd wt B Hd O R HL LB SO NG WO SA SE)) [0, 1, 2, 3, 4, 5, 6, 7, 8, 9, 10, 11, 12, 13] rfl) (hD.sub (ws' := (wK cI cZ ad N A fl an nd wt B Hd O R HL LB SO NG WO SA SE)) [0, 1, 2, 3, 4, 5, 6, 7, 8, 9, 10, 11, 12, 13] (by decide) rfl) hK hX hZ hS (va_free (wc := (wK cI cZ ad N A fl an nd wt B Hd O R HL LB SO NG WO SA SE)) hD hS hAp [0, 1, 2, 3, 4, 5, 6, 7, 8, 9, 10, 11, 12, 13] rfl) rfl rfl) rfl rfl hl.1 rfl (lv_room (Nat.le_of_ble_eq_true rfl)) dX2_support_2 ⟨Nat.le_of_ble_eq_true rfl, Nat.le_of_ble_eq_true rfl⟩) hP hD hS hAp [0, 1, 2, 3, 4, 5, 6, 7, 8, 9, 10, 11, 12, 13] [] rfl rfl (by decide) (by decide) (fun E_2 ce_2 q9_2 ux_2 H locs hxp_2 hP hD hS h7_2 h8_2 h9_2 => ?_) (fun u_2 H locs hq_2 hP hD hS => ?_)
  · skip
    have hP : va_P D vwCl (wK cI cZ ad N A fl an nd wt B Hd O R HL LB SO NG WO SA SE) H := hP
    have hD : va_D Ap (wK cI cZ ad N A fl an nd wt B Hd O R HL LB SO NG WO SA SE) := hD
    exact x_out (u := ()) htab hlk h7_2 h8_2 h9_2 hS hP hD (Nat.le_of_ble_eq_true rfl) (Nat.le_of_ble_eq_true rfl) (by obtain ⟨hE9, hc9⟩ := hxp_2; subst hE9; simp [hc9])
  · skip
    obtain ⟨hok_2, -⟩ := hq_2
    have hP : va_P D vwCl (wK cI cZ ad N A fl an nd wt B Hd O R HL LB SO NG WO SA SE) H := hP
    have hD : va_D Ap (wK cI cZ ad N A fl an nd wt B Hd O R HL LB SO NG WO SA SE) := hD
    refine W.widen (k := 1) (n := 6) (by decide) (by decide) ?_
    refine lv_aload_n hx hb dX2_support_5 rfl (lv_at hl 0 rfl) ?_
    refine lv_iload_n hx hb dX2_support_6 rfl (lv_at hl 2 rfl) ?_
    refine xu_v (wr := []) (vx_runV (As := [.int (y0)]) (rest := []) ⟨hx, hb, hml, hown, hts⟩ (c_X2_requireEnvironment l D cI cZ ad (N) (A) (fl) (an) (nd) (wt) (B) (Hd) (O) (R) (HL) (LB) (SO) (NG) (WO) (SA) (SE) (y0)  hst (H).size) (cwV 1 hts gX2_support_X2_requireEnvironment rfl rfl rfl (by decide +kernel) ⟨Nat.le_of_ble_eq_true rfl, Nat.le_of_ble_eq_true rfl⟩) (prx_V (q0 := 0) (ci := 2) (hP.sub (ws' := (wK cI cZ ad N A fl an nd wt B Hd O R HL LB SO NG WO SA SE)) [0, 1, 2, 3, 4, 5, 6, 7, 8, 9, 10, 11, 12, 13] rfl) (hD.sub (ws' := (wK cI cZ ad N A fl an nd wt B Hd O R HL LB SO NG WO SA SE)) [0, 1, 2, 3, 4, 5, 6, 7, 8, 9, 10, 11, 12, 13] (by decide) rfl) hK hX hZ hS (va_free (wc := (wK cI cZ ad N A fl an nd wt B Hd O R HL LB SO NG WO SA SE)) hD hS hAp [0, 1, 2, 3, 4, 5, 6, 7, 8, 9, 10, 11, 12, 13] rfl) rfl rfl) rfl rfl hl.1 rfl (lv_room (Nat.le_of_ble_eq_true rfl)) dX2_support_7 ⟨Nat.le_of_ble_eq_true rfl, Nat.le_of_ble_eq_true rfl⟩) hP hD hS hAp [0, 1, 2, 3, 4, 5, 6, 7, 8, 9, 10, 11, 12, 13] [] rfl rfl (by decide) (by decide) (fun E_7 ce_7 q9_7 ux_7 H locs hxp_7 hP hD hS h7_7 h8_7 h9_7 => ?_) (fun u_7 H locs hq_7 hP hD hS => ?_)
    · skip
      have hP : va_P D vwCl (wK cI cZ ad N A fl an nd wt B Hd O R HL LB SO NG WO SA SE) H := hP
      have hD : va_D Ap (wK cI cZ ad N A fl an nd wt B Hd O R HL LB SO NG WO SA SE) := hD
      exact x_out (u := ()) htab hlk h7_7 h8_7 h9_7 hS hP hD (Nat.le_of_ble_eq_true rfl) (Nat.le_of_ble_eq_true rfl) (by obtain ⟨hE9, hc9⟩ := hxp_7; subst hE9; simp [hc9, hok_2])
    · skip
      obtain ⟨hok_7, -⟩ := hq_7
      have hP : va_P D vwCl (wK cI cZ ad N A fl an nd wt B Hd O R HL LB SO NG WO SA SE) H := hP
      have hD : va_D Ap (wK cI cZ ad N A fl an nd wt B Hd O R HL LB SO NG WO SA SE) := hD
      refine W.widen (k := 2) (n := 12) (by decide) (by decide) ?_
      refine lv_aload_n hx hb dX2_support_10 rfl (lv_at hl 0 rfl) ?_
      refine lv_iload_n hx hb dX2_support_11 rfl (lv_at hl 2 rfl) ?_
      refine pu_i (va_runV (As := [.int (y0)]) (rest := []) ⟨hx, hb, hml, hown, hts⟩ (c_X2_nodesOf l D cI cZ ad (N) (A) (fl) (an) (nd) (wt) (B) (Hd) (O) (R) (HL) (LB) (SO) (NG) (WO) (SA) (SE) (y0) (by omega)) (cwV 1 hts gX2_support_X2_nodesOf rfl rfl rfl (by decide +kernel) ⟨Nat.le_of_ble_eq_true rfl, Nat.le_of_ble_eq_true rfl⟩) (pre_V (q0 := 0) (ci := 2) (hP.sub (ws' := (wK cI cZ ad N A fl an nd wt B Hd O R HL LB SO NG WO SA SE)) [0, 1, 2, 3, 4, 5, 6, 7, 8, 9, 10, 11, 12, 13] rfl) hK rfl rfl) rfl rfl hl.1 rfl (lv_room (Nat.le_of_ble_eq_true rfl)) dX2_support_12 ⟨Nat.le_of_ble_eq_true rfl, Nat.le_of_ble_eq_true rfl⟩) ?_
      refine lv_istore_n (lv' := [(3, .int (bg nd y0 A)), (0, .ref (ad 0)), (1, .int (x0)), (2, .int (y0))]) hx hb dX2_support_15 rfl hl (by decide) rfl (fun ls hl => ?_)
      refine lv_iload_n hx hb dX2_support_16 rfl (lv_at hl 0 rfl) ?_
      refine lv_iload_n hx hb dX2_support_17 rfl (lv_at hl 2 rfl) ?_
      refine pu_i (va_runS (As := [.int (bg nd y0 A), .int (x0)]) (rest := []) ⟨hx, hb, hml, hown, hts⟩ (c_X2_contains l D cI cZ ad (bg nd y0 A) (x0) ) (cwS 2 hts gX2_support_X2_contains rfl rfl rfl (by decide +kernel) ⟨Nat.le_of_ble_eq_true rfl, Nat.le_of_ble_eq_true rfl⟩) (pre_S (hP.sub (ws' := ([] : va_W)) [] rfl) hK) rfl rfl hl.1 rfl (lv_room (Nat.le_of_ble_eq_true rfl)) dX2_support_18 ⟨Nat.le_of_ble_eq_true rfl, Nat.le_of_ble_eq_true rfl⟩) ?_
      refine lv_if_eq (tgt := 26) hx hb dX2_support_21 (by decide) (fun c_21 => ?_) (fun c_21 => ?_)
      · skip
        have c_21 := bI_eq0 c_21
        refine lv_iconst (v := nI (1)) hx hb dX2_support_26 (by decide) ?_
        refine lv_istore (lv' := [(4, .int (nI (1))), (3, .int (bg nd y0 A)), (0, .ref (ad 0)), (1, .int (x0)), (2, .int (y0))]) hx hb dX2_support_27 hl (by decide) rfl (fun ls hl => ?_)
        have lp_29 : ∀ (n29 i : Nat) (v3 : Int32) (v4 : Int32), i ≤ 24 → 24 + 1 ≤ i + n29 → (∀ j, j < i → (fun d => hs (itr (fun y => aR B Hd O y R) (bg nd y0 A) (d + 1)) x0) j = false) → v3 = itr (fun y => aR B Hd O y R) (bg nd y0 A) i → v4 = nI (i + 1) → ∀ ls : Array Slot, lv_has ls 6 [(0, .ref (ad 0)), (1, .int (x0)), (2, .int (y0)), (3, .int (v3)), (4, .int (v4))] → W p l e (headSpec wsX2_support ({ frames := 7, cells := 2, slots := 12, locals := 111 })).room s m ([.ref (ad 0), .int (x0), .int (y0)]).toArray below meth c H locs 2 12 (vx_MQ below (va_Qi (fun (r9 : Int32) (u9 : Unit) => (r9 = supE B Hd O R (bg nd y0 A) x0) ∧ (inR x0 N = true ∧ inS y0 A = true) ∧ (True)) (wB D Ap (fun u9 : Unit => (wK cI cZ ad N A fl an nd wt B Hd O R HL LB SO NG WO SA SE))) Ap) (xX D Ap (fun (E9 : String) (u9 : Unit) => (E9 = "java/lang/IndexOutOfBoundsException" ∧ (inR x0 N = false)) ∨ (E9 = "java/lang/IllegalArgumentException" ∧ (inR x0 N = true ∧ inS y0 A = false))) (fun u9 : Unit => (wK cI cZ ad N A fl an nd wt B Hd O R HL LB SO NG WO SA SE))) ([.ref (ad 0), .int (x0), .int (y0)]).toArray s 2 12 Ap) (F0 m 29 ls []) := by
          intro n29
          induction n29 with
          | zero => intro i v3 v4 h1 h2; exact absurd h2 (by omega)
          | succ n29 ih29 =>
            intro i v3 v4 hi29 hn29 hno e3 e4  ls hl
            subst e3 e4
            have hl : lv_has ls 6 [(0, .ref (ad 0)), (1, .int (x0)), (2, .int (y0)), (3, .int (itr (fun y => aR B Hd O y R) (bg nd y0 A) i)), (4, .int (nI (i + 1)))] := hl
            refine lv_iload hx hb dX2_support_29 (lv_at hl 4 rfl) ?_
            refine lv_bipush (v := nI (24)) hx hb dX2_support_31 (by decide) ?_
            refine lv_icmp_gt (tgt := 74) hx hb dX2_support_33 (by decide) (fun c_33 => ?_) (fun c_33 => ?_)
            · skip
              have c_33 := (qI_lt (a := 24) (b := i + 1) (by omega) (by omega)).mp c_33
              refine lv_bipush (v := -2) hx hb dX2_support_74 (by decide) ?_
              exact vx_ret (mr_i (u := ()) hx hb hrt hlk dX2_support_76 hS hP hD ⟨(by obtain rfl : i = 24 := (by omega); exact (supE_no c_21 hno).symm), (⟨hok_2, hok_7⟩), trivial⟩)
            · skip
              have c_33 := mt (qI_lt (a := 24) (b := i + 1) (by omega) (by omega)).mpr c_33
              refine lv_aload_n hx hb dX2_support_36 rfl (lv_at hl 0 rfl) ?_
              refine va_get (D := D) (ci := 2) (v := .ref (ad 4)) (C := RX2) (T := TX2) (N := 8) hx hb hts hin2 hown hK.1 hP 0 rfl rfl 3 (by decide) f22 (fun _ h9 => h9) rfl dX2_support_37 ?_
              refine lv_iload_n hx hb dX2_support_40 rfl (lv_at hl 3 rfl) ?_
              refine pu_i (va_runV (As := [.int (itr (fun y => aR B Hd O y R) (bg nd y0 A) i)]) (rest := []) ⟨hx, hb, hml, hown, hts⟩ (c_X0_afterRound l D cI cZ (fun k => ad (k + 4)) (B) (Hd) (O) (R) (itr (fun y => aR B Hd O y R) (bg nd y0 A) i) (by omega)) (cwV 1 hts gX2_support_X0_afterRound rfl rfl rfl (by decide +kernel) ⟨Nat.le_of_ble_eq_true rfl, Nat.le_of_ble_eq_true rfl⟩) (pre_V (q0 := 0) (ci := 0) (hP.sub (ws' := (wR cI cZ (fun k => ad (k + 4)) B Hd O R)) [4, 5, 6, 7] rfl) hK rfl rfl) rfl rfl hl.1 rfl (lv_room (Nat.le_of_ble_eq_true rfl)) dX2_support_41 ⟨Nat.le_of_ble_eq_true rfl, Nat.le_of_ble_eq_true rfl⟩) ?_
              refine lv_istore (lv' := [(5, .int (aR B Hd O (itr (fun y => aR B Hd O y R) (bg nd y0 A) i) R)), (0, .ref (ad 0)), (1, .int (x0)), (2, .int (y0)), (3, .int (itr (fun y => aR B Hd O y R) (bg nd y0 A) i)), (4, .int (nI (i + 1)))]) hx hb dX2_support_44 hl (by decide) rfl (fun ls hl => ?_)
              refine lv_iload hx hb dX2_support_46 (lv_at hl 0 rfl) ?_
              refine lv_iload_n hx hb dX2_support_48 rfl (lv_at hl 2 rfl) ?_
              refine pu_i (va_runS (As := [.int (aR B Hd O (itr (fun y => aR B Hd O y R) (bg nd y0 A) i) R), .int (x0)]) (rest := []) ⟨hx, hb, hml, hown, hts⟩ (c_X2_contains l D cI cZ ad (aR B Hd O (itr (fun y => aR B Hd O y R) (bg nd y0 A) i) R) (x0) ) (cwS 2 hts gX2_support_X2_contains rfl rfl rfl (by decide +kernel) ⟨Nat.le_of_ble_eq_true rfl, Nat.le_of_ble_eq_true rfl⟩) (pre_S (hP.sub (ws' := ([] : va_W)) [] rfl) hK) rfl rfl hl.1 rfl (lv_room (Nat.le_of_ble_eq_true rfl)) dX2_support_49 ⟨Nat.le_of_ble_eq_true rfl, Nat.le_of_ble_eq_true rfl⟩) ?_
              refine lv_if_eq (tgt := 65) hx hb dX2_support_52 (by decide) (fun c_52 => ?_) (fun c_52 => ?_)
              · skip
                have c_52 := bI_eq0 c_52
                refine lv_iload hx hb dX2_support_65 (lv_at hl 0 rfl) ?_
                refine lv_istore_n (lv' := [(3, .int (aR B Hd O (itr (fun y => aR B Hd O y R) (bg nd y0 A) i) R)), (5, .int (aR B Hd O (itr (fun y => aR B Hd O y R) (bg nd y0 A) i) R)), (0, .ref (ad 0)), (1, .int (x0)), (2, .int (y0)), (4, .int (nI (i + 1)))]) hx hb dX2_support_67 rfl hl (by decide) rfl (fun ls hl => ?_)
                refine lv_iinc (v := nI ((i + 1) + 1)) (lv' := [(4, .int (nI ((i + 1) + 1))), (3, .int (aR B Hd O (itr (fun y => aR B Hd O y R) (bg nd y0 A) i) R)), (5, .int (aR B Hd O (itr (fun y => aR B Hd O y R) (bg nd y0 A) i) R)), (0, .ref (ad 0)), (1, .int (x0)), (2, .int (y0))]) hx hb dX2_support_68 hl (k := 5) rfl (nI_1 _) (by decide) rfl (fun ls hl => ?_)
                refine lv_goto (tgt := 29) hx hb dX2_support_71 (by decide) ?_
                exact ih29 (i + 1) _ _  (by omega) (by omega) (no_succ hno c_52) (by first | rfl | (simp [c_21, c_33, c_52]; done) | (simp only [c_21, c_33, c_52]; rfl) | (simp_all [c_21, c_33, c_52]; done)) (by first | rfl | (simp [c_21, c_33, c_52]; done) | (simp only [c_21, c_33, c_52]; rfl) | (simp_all [c_21, c_33, c_52]; done))  ls (lv_sub hl [3, 4, 5, 1, 0] rfl)
              · skip
                have c_52 := bI_ne0 c_52
                refine lv_aload_n hx hb dX2_support_55 rfl (lv_at hl 1 rfl) ?_
                refine va_get (D := D) (ci := 2) (v := .ref (ad 4)) (C := RX2) (T := TX2) (N := 8) hx hb hts hin2 hown hK.1 hP 0 rfl rfl 3 (by decide) f22 (fun _ h9 => h9) rfl dX2_support_56 ?_
                refine lv_iload_n hx hb dX2_support_59 rfl (lv_at hl 2 rfl) ?_
                refine lv_iload_n hx hb dX2_support_60 rfl (lv_at hl 4 rfl) ?_
                refine pu_i (va_runV (As := [.int (x0), .int (itr (fun y => aR B Hd O y R) (bg nd y0 A) i)]) (rest := []) ⟨hx, hb, hml, hown, hts⟩ (c_X0_firstDeriving l D cI cZ (fun k => ad (k + 4)) (B) (Hd) (O) (R) (x0) (itr (fun y => aR B Hd O y R) (bg nd y0 A) i) (by omega)) (cwV 2 hts gX2_support_X0_firstDeriving rfl rfl rfl (by decide +kernel) ⟨Nat.le_of_ble_eq_true rfl, Nat.le_of_ble_eq_true rfl⟩) (pre_V (q0 := 0) (ci := 0) (hP.sub (ws' := (wR cI cZ (fun k => ad (k + 4)) B Hd O R)) [4, 5, 6, 7] rfl) hK rfl rfl) rfl rfl hl.1 rfl (lv_room (Nat.le_of_ble_eq_true rfl)) dX2_support_61 ⟨Nat.le_of_ble_eq_true rfl, Nat.le_of_ble_eq_true rfl⟩) ?_
                exact vx_ret (mr_i (u := ()) hx hb hrt hlk dX2_support_64 hS hP hD ⟨((supE_at c_21 (by omega) c_52 hno).symm), (⟨hok_2, hok_7⟩), trivial⟩)
        exact lp_29 (24 + 1) (0) _ _  (by omega) (by omega) (fun j hj => absurd hj (Nat.not_lt_zero j)) (by first | rfl | (simp [c_21]; done) | (simp only [c_21]; rfl) | (simp_all [c_21]; done)) (by first | rfl | (simp [c_21]; done) | (simp only [c_21]; rfl) | (simp_all [c_21]; done))  ls (lv_sub hl [2, 3, 4, 1, 0] rfl)
      · skip
        have c_21 := bI_ne0 c_21
        refine lv_iconst (v := -1) hx hb dX2_support_24 (by decide) ?_
        exact vx_ret (mr_i (u := ()) hx hb hrt hlk dX2_support_25 hS hP hD ⟨(by simp [supE, c_21]), (⟨hok_2, hok_7⟩), trivial⟩)
set_option maxHeartbeats 4000000 in
set_option maxRecDepth 100000 in
theorem c_X2_isConsistent (l : Launch) (D : va_G) (cI cZ : ClassId) (ad : Nat → Nat) (N : Nat) (A : Nat) (fl : Bool) (an : Nat → Int32) (nd : Nat → Int32) (wt : Nat → Int32) (B : Nat → Int32) (Hd : Nat → Int32) (O : Nat → Bool) (R : Nat) (HL : Nat → Int32) (LB : Nat → Int32) (SO : Nat → Bool) (NG : Nat → Bool) (WO : Nat → Bool) (SA : Nat) (SE : Nat) (x0 : Int32) (hA : A ≤ 9) (hR : R ≤ 40) (hst : l.stackTraces = false) (sz : Nat) : vx_Met l yX2_isConsistent wsX2_isConsistent ({ frames := 7, cells := 1, slots := 6, locals := 111 }) (pcX D [(cI, .int), (cZ, .boolean)] sz (wK cI cZ ad N A fl an nd wt B Hd O R HL LB SO NG WO SA SE) [.ref (ad 0), .int (x0)]) (va_Qi (fun (r9 : Int32) (u9 : Unit) => (r9 = bI (!(ct B Hd O R (clo B Hd O R (bg nd x0 A))))) ∧ (inS x0 A = true) ∧ (True)) (wB D (va_A (wK cI cZ ad N A fl an nd wt B Hd O R HL LB SO NG WO SA SE) sz) (fun u9 : Unit => (wK cI cZ ad N A fl an nd wt B Hd O R HL LB SO NG WO SA SE))) (va_A (wK cI cZ ad N A fl an nd wt B Hd O R HL LB SO NG WO SA SE) sz)) (xX D (va_A (wK cI cZ ad N A fl an nd wt B Hd O R HL LB SO NG WO SA SE) sz) (fun (E9 : String) (u9 : Unit) => E9 = "java/lang/IllegalArgumentException" ∧ (inS x0 A = false)) (fun u9 : Unit => (wK cI cZ ad N A fl an nd wt B Hd O R HL LB SO NG WO SA SE))) 1 6 (va_A (wK cI cZ ad N A fl an nd wt B Hd O R HL LB SO NG WO SA SE) sz) := by
  refine vx_ofW (cc := cX2_isConsistent) (maxL := 2) (ret := (some .boolean)) (by decide) rfl ?_
  intro p e s m args below meth c s₁ BB hml htab hv
  obtain ⟨rfl, hsz, hP, hK, hD0, hX, hZ⟩ := hv
  have hx := BB.exec
  have hb := BB.bytes
  have hrt := BB.returns
  have hts := atoms_spec (ws := wsX2_isConsistent) BB.pre
  have hown : s.vm.findClass RX2 = some m.cls := findClass_of_methodNamed BB.named
  have hlk := BB.notSynchronized
  subst hsz
  have hD := hD0.self (sz := s.heap.size)
  generalize hAe : va_A (wK cI cZ ad N A fl an nd wt B Hd O R HL LB SO NG WO SA SE) s.heap.size = Ap at hD hZ ⊢
  have hAp : ∀ q : Nat, s.heap.size ≤ q → Ap q := fun q h => by rw [← hAe]; exact Or.inr h
  have hS : va_S Ap s.heap s.heap [] := va_S.rf
  have hl := lv_entry ([.ref (ad 0), .int (x0)]) (n := 2) (Nat.le_of_ble_eq_true rfl)
  rw [lg_entry_eq]
  generalize (lg_sl ([.ref (ad 0), .int (x0)]) ++ List.replicate (2 - (lg_sl ([.ref (ad 0), .int (x0)])).length) Slot.unset).toArray = ls at hl ⊢
  have hl : lv_has ls 2 [(0, .ref (ad 0)), (1, .int (x0))] := hl
  refine lv_aload_n hx hb dX2_isConsistent_0 rfl (lv_at hl 0 rfl) ?_
  refine lv_iload_n hx hb dX2_isConsistent_1 rfl (lv_at hl 1 rfl) ?_
  refine xu_v (wr := []) (vx_runV (As := [.int (x0)]) (rest := []) ⟨hx, hb, hml, hown, hts⟩ (c_X2_requireEnvironment l D cI cZ ad (N) (A) (fl) (an) (nd) (wt) (B) (Hd) (O) (R) (HL) (LB) (SO) (NG) (WO) (SA) (SE) (x0)  hst (s.heap).size) (cwV 1 hts gX2_isConsistent_X2_requireEnvironment rfl rfl rfl (by decide +kernel) ⟨Nat.le_of_ble_eq_true rfl, Nat.le_of_ble_eq_true rfl⟩) (prx_V (q0 := 0) (ci := 2) (hP.sub (ws' := (wK cI cZ ad N A fl an nd wt B Hd O R HL LB SO NG WO SA SE)) [0, 1, 2, 3, 4, 5, 6, 7, 8, 9, 10, 11, 12, 13] rfl) (hD.sub (ws' := (wK cI cZ ad N A fl an nd wt B Hd O R HL LB SO NG WO SA SE)) [0, 1, 2, 3, 4, 5, 6, 7, 8, 9, 10, 11, 12, 13] (by decide) rfl) hK hX hZ hS (va_free (wc := (wK cI cZ ad N A fl an nd wt B Hd O R HL LB SO NG WO SA SE)) hD hS hAp [0, 1, 2, 3, 4, 5, 6, 7, 8, 9, 10, 11, 12, 13] rfl) rfl rfl) rfl rfl hl.1 rfl (lv_room (Nat.le_of_ble_eq_true rfl)) dX2_isConsistent_2 ⟨Nat.le_of_ble_eq_true rfl, Nat.le_of_ble_eq_true rfl⟩) hP hD hS hAp [0, 1, 2, 3, 4, 5, 6, 7, 8, 9, 10, 11, 12, 13] [] rfl rfl (by decide) (by decide) (fun E_2 ce_2 q9_2 ux_2 H locs hxp_2 hP hD hS h7_2 h8_2 h9_2 => ?_) (fun u_2 H locs hq_2 hP hD hS => ?_)
  · skip
    have hP : va_P D vwCl (wK cI cZ ad N A fl an nd wt B Hd O R HL LB SO NG WO SA SE) H := hP
    have hD : va_D Ap (wK cI cZ ad N A fl an nd wt B Hd O R HL LB SO NG WO SA SE) := hD
    exact x_out (u := ()) htab hlk h7_2 h8_2 h9_2 hS hP hD (Nat.le_of_ble_eq_true rfl) (Nat.le_of_ble_eq_true rfl) (by obtain ⟨hE9, hc9⟩ := hxp_2; subst hE9; simp [hc9])
  · skip
    obtain ⟨hok_2, -⟩ := hq_2
    have hP : va_P D vwCl (wK cI cZ ad N A fl an nd wt B Hd O R HL LB SO NG WO SA SE) H := hP
    have hD : va_D Ap (wK cI cZ ad N A fl an nd wt B Hd O R HL LB SO NG WO SA SE) := hD
    refine W.widen (k := 1) (n := 6) (by decide) (by decide) ?_
    refine lv_aload_n hx hb dX2_isConsistent_5 rfl (lv_at hl 0 rfl) ?_
    refine lv_iload_n hx hb dX2_isConsistent_6 rfl (lv_at hl 1 rfl) ?_
    refine pu_i (va_runV (As := [.int (x0)]) (rest := []) ⟨hx, hb, hml, hown, hts⟩ (c_X2_isFreeOfContradiction l D cI cZ ad (N) (A) (fl) (an) (nd) (wt) (B) (Hd) (O) (R) (HL) (LB) (SO) (NG) (WO) (SA) (SE) (x0) (by omega) (by omega)) (cwV 1 hts gX2_isConsistent_X2_isFreeOfContradiction rfl rfl rfl (by decide +kernel) ⟨Nat.le_of_ble_eq_true rfl, Nat.le_of_ble_eq_true rfl⟩) (pre_V (q0 := 0) (ci := 2) (hP.sub (ws' := (wK cI cZ ad N A fl an nd wt B Hd O R HL LB SO NG WO SA SE)) [0, 1, 2, 3, 4, 5, 6, 7, 8, 9, 10, 11, 12, 13] rfl) hK rfl rfl) rfl rfl hl.1 rfl (lv_room (Nat.le_of_ble_eq_true rfl)) dX2_isConsistent_7 ⟨Nat.le_of_ble_eq_true rfl, Nat.le_of_ble_eq_true rfl⟩) ?_
    exact vx_ret (mr_z (v := !(ct B Hd O R (clo B Hd O R (bg nd x0 A)))) (u := ()) hx hb hrt hlk dX2_isConsistent_10 hS hP hD ⟨(by first | rfl | (simp []; done) | (simp only []; rfl) | (simp_all []; done)), (hok_2), trivial⟩)
set_option maxHeartbeats 4000000 in
set_option maxRecDepth 100000 in
theorem c_X2_cost (l : Launch) (D : va_G) (cI cZ : ClassId) (ad : Nat → Nat) (N : Nat) (A : Nat) (fl : Bool) (an : Nat → Int32) (nd : Nat → Int32) (wt : Nat → Int32) (B : Nat → Int32) (Hd : Nat → Int32) (O : Nat → Bool) (R : Nat) (HL : Nat → Int32) (LB : Nat → Int32) (SO : Nat → Bool) (NG : Nat → Bool) (WO : Nat → Bool) (SA : Nat) (SE : Nat) (x0 : Int32) (hA : A ≤ 9) (hst : l.stackTraces = false) (sz : Nat) : vx_Met l yX2_cost wsX2_cost ({ frames := 7, cells := 1, slots := 6, locals := 111 }) (pcX D [(cI, .int), (cZ, .boolean)] sz (wK cI cZ ad N A fl an nd wt B Hd O R HL LB SO NG WO SA SE) [.ref (ad 0), .int (x0)]) (va_Qi (fun (r9 : Int32) (u9 : Unit) => (r9 = wo wt x0 A) ∧ (inS x0 A = true) ∧ (True)) (wB D (va_A (wK cI cZ ad N A fl an nd wt B Hd O R HL LB SO NG WO SA SE) sz) (fun u9 : Unit => (wK cI cZ ad N A fl an nd wt B Hd O R HL LB SO NG WO SA SE))) (va_A (wK cI cZ ad N A fl an nd wt B Hd O R HL LB SO NG WO SA SE) sz)) (xX D (va_A (wK cI cZ ad N A fl an nd wt B Hd O R HL LB SO NG WO SA SE) sz) (fun (E9 : String) (u9 : Unit) => E9 = "java/lang/IllegalArgumentException" ∧ (inS x0 A = false)) (fun u9 : Unit => (wK cI cZ ad N A fl an nd wt B Hd O R HL LB SO NG WO SA SE))) 1 6 (va_A (wK cI cZ ad N A fl an nd wt B Hd O R HL LB SO NG WO SA SE) sz) := by
  refine vx_ofW (cc := cX2_cost) (maxL := 2) (ret := (some .int)) (by decide) rfl ?_
  intro p e s m args below meth c s₁ BB hml htab hv
  obtain ⟨rfl, hsz, hP, hK, hD0, hX, hZ⟩ := hv
  have hx := BB.exec
  have hb := BB.bytes
  have hrt := BB.returns
  have hts := atoms_spec (ws := wsX2_cost) BB.pre
  have hown : s.vm.findClass RX2 = some m.cls := findClass_of_methodNamed BB.named
  have hlk := BB.notSynchronized
  subst hsz
  have hD := hD0.self (sz := s.heap.size)
  generalize hAe : va_A (wK cI cZ ad N A fl an nd wt B Hd O R HL LB SO NG WO SA SE) s.heap.size = Ap at hD hZ ⊢
  have hAp : ∀ q : Nat, s.heap.size ≤ q → Ap q := fun q h => by rw [← hAe]; exact Or.inr h
  have hS : va_S Ap s.heap s.heap [] := va_S.rf
  have hl := lv_entry ([.ref (ad 0), .int (x0)]) (n := 2) (Nat.le_of_ble_eq_true rfl)
  rw [lg_entry_eq]
  generalize (lg_sl ([.ref (ad 0), .int (x0)]) ++ List.replicate (2 - (lg_sl ([.ref (ad 0), .int (x0)])).length) Slot.unset).toArray = ls at hl ⊢
  have hl : lv_has ls 2 [(0, .ref (ad 0)), (1, .int (x0))] := hl
  refine lv_aload_n hx hb dX2_cost_0 rfl (lv_at hl 0 rfl) ?_
  refine lv_iload_n hx hb dX2_cost_1 rfl (lv_at hl 1 rfl) ?_
  refine xu_v (wr := []) (vx_runV (As := [.int (x0)]) (rest := []) ⟨hx, hb, hml, hown, hts⟩ (c_X2_requireEnvironment l D cI cZ ad (N) (A) (fl) (an) (nd) (wt) (B) (Hd) (O) (R) (HL) (LB) (SO) (NG) (WO) (SA) (SE) (x0)  hst (s.heap).size) (cwV 1 hts gX2_cost_X2_requireEnvironment rfl rfl rfl (by decide +kernel) ⟨Nat.le_of_ble_eq_true rfl, Nat.le_of_ble_eq_true rfl⟩) (prx_V (q0 := 0) (ci := 2) (hP.sub (ws' := (wK cI cZ ad N A fl an nd wt B Hd O R HL LB SO NG WO SA SE)) [0, 1, 2, 3, 4, 5, 6, 7, 8, 9, 10, 11, 12, 13] rfl) (hD.sub (ws' := (wK cI cZ ad N A fl an nd wt B Hd O R HL LB SO NG WO SA SE)) [0, 1, 2, 3, 4, 5, 6, 7, 8, 9, 10, 11, 12, 13] (by decide) rfl) hK hX hZ hS (va_free (wc := (wK cI cZ ad N A fl an nd wt B Hd O R HL LB SO NG WO SA SE)) hD hS hAp [0, 1, 2, 3, 4, 5, 6, 7, 8, 9, 10, 11, 12, 13] rfl) rfl rfl) rfl rfl hl.1 rfl (lv_room (Nat.le_of_ble_eq_true rfl)) dX2_cost_2 ⟨Nat.le_of_ble_eq_true rfl, Nat.le_of_ble_eq_true rfl⟩) hP hD hS hAp [0, 1, 2, 3, 4, 5, 6, 7, 8, 9, 10, 11, 12, 13] [] rfl rfl (by decide) (by decide) (fun E_2 ce_2 q9_2 ux_2 H locs hxp_2 hP hD hS h7_2 h8_2 h9_2 => ?_) (fun u_2 H locs hq_2 hP hD hS => ?_)
  · skip
    have hP : va_P D vwCl (wK cI cZ ad N A fl an nd wt B Hd O R HL LB SO NG WO SA SE) H := hP
    have hD : va_D Ap (wK cI cZ ad N A fl an nd wt B Hd O R HL LB SO NG WO SA SE) := hD
    exact x_out (u := ()) htab hlk h7_2 h8_2 h9_2 hS hP hD (Nat.le_of_ble_eq_true rfl) (Nat.le_of_ble_eq_true rfl) (by obtain ⟨hE9, hc9⟩ := hxp_2; subst hE9; simp [hc9])
  · skip
    obtain ⟨hok_2, -⟩ := hq_2
    have hP : va_P D vwCl (wK cI cZ ad N A fl an nd wt B Hd O R HL LB SO NG WO SA SE) H := hP
    have hD : va_D Ap (wK cI cZ ad N A fl an nd wt B Hd O R HL LB SO NG WO SA SE) := hD
    refine W.widen (k := 1) (n := 6) (by decide) (by decide) ?_
    refine lv_aload_n hx hb dX2_cost_5 rfl (lv_at hl 0 rfl) ?_
    refine lv_iload_n hx hb dX2_cost_6 rfl (lv_at hl 1 rfl) ?_
    refine pu_i (va_runV (As := [.int (x0)]) (rest := []) ⟨hx, hb, hml, hown, hts⟩ (c_X2_weightOf l D cI cZ ad (N) (A) (fl) (an) (nd) (wt) (B) (Hd) (O) (R) (HL) (LB) (SO) (NG) (WO) (SA) (SE) (x0) (by omega)) (cwV 1 hts gX2_cost_X2_weightOf rfl rfl rfl (by decide +kernel) ⟨Nat.le_of_ble_eq_true rfl, Nat.le_of_ble_eq_true rfl⟩) (pre_V (q0 := 0) (ci := 2) (hP.sub (ws' := (wK cI cZ ad N A fl an nd wt B Hd O R HL LB SO NG WO SA SE)) [0, 1, 2, 3, 4, 5, 6, 7, 8, 9, 10, 11, 12, 13] rfl) hK rfl rfl) rfl rfl hl.1 rfl (lv_room (Nat.le_of_ble_eq_true rfl)) dX2_cost_7 ⟨Nat.le_of_ble_eq_true rfl, Nat.le_of_ble_eq_true rfl⟩) ?_
    exact vx_ret (mr_i (u := ()) hx hb hrt hlk dX2_cost_10 hS hP hD ⟨(by first | rfl | (simp []; done) | (simp only []; rfl) | (simp_all []; done)), (hok_2), trivial⟩)
set_option maxHeartbeats 4000000 in
set_option maxRecDepth 100000 in
theorem c_X2_extend (l : Launch) (D : va_G) (cI cZ : ClassId) (ad : Nat → Nat) (N : Nat) (A : Nat) (fl : Bool) (an : Nat → Int32) (nd : Nat → Int32) (wt : Nat → Int32) (B : Nat → Int32) (Hd : Nat → Int32) (O : Nat → Bool) (R : Nat) (HL : Nat → Int32) (LB : Nat → Int32) (SO : Nat → Bool) (NG : Nat → Bool) (WO : Nat → Bool) (SA : Nat) (SE : Nat) (x0 : Int32) (hA : A ≤ 9) (hR : R ≤ 40) (hst : l.stackTraces = false) (sz : Nat) : vx_Met l yX2_extend wsX2_extend ({ frames := 7, cells := 2, slots := 12, locals := 111 }) (pcX D [(cI, .int), (cZ, .boolean)] sz (wK cI cZ ad N A fl an nd wt B Hd O R HL LB SO NG WO SA SE) [.ref (ad 0), .int (x0)]) (va_Qi (fun (r9 : Int32) (u9 : Unit) => (r9 = (xtS wt A (fun y => !(ct B Hd O R (clo B Hd O R (bg nd y A)))) x0 x0 A).1) ∧ (inS x0 A = true ∧ ct B Hd O R (clo B Hd O R (bg nd x0 A)) = false) ∧ (True)) (wB D (va_A (wK cI cZ ad N A fl an nd wt B Hd O R HL LB SO NG WO SA SE) sz) (fun u9 : Unit => (wK cI cZ ad N A fl an nd wt B Hd O R HL LB SO NG WO SA SE))) (va_A (wK cI cZ ad N A fl an nd wt B Hd O R HL LB SO NG WO SA SE) sz)) (xX D (va_A (wK cI cZ ad N A fl an nd wt B Hd O R HL LB SO NG WO SA SE) sz) (fun (E9 : String) (u9 : Unit) => (E9 = "java/lang/IllegalArgumentException" ∧ (inS x0 A = false)) ∨ (E9 = "java/lang/IllegalStateException" ∧ (inS x0 A = true ∧ ct B Hd O R (clo B Hd O R (bg nd x0 A)) = true))) (fun u9 : Unit => (wK cI cZ ad N A fl an nd wt B Hd O R HL LB SO NG WO SA SE))) 2 12 (va_A (wK cI cZ ad N A fl an nd wt B Hd O R HL LB SO NG WO SA SE) sz) := by
  refine vx_ofW (cc := cX2_extend) (maxL := 6) (ret := (some .int)) (by decide) rfl ?_
  intro p e s m args below meth c s₁ BB hml htab hv
  obtain ⟨rfl, hsz, hP, hK, hD0, hX, hZ⟩ := hv
  have hx := BB.exec
  have hb := BB.bytes
  have hrt := BB.returns
  have hts := atoms_spec (ws := wsX2_extend) BB.pre
  have hown : s.vm.findClass RX2 = some m.cls := findClass_of_methodNamed BB.named
  have hlk := BB.notSynchronized
  subst hsz
  have hD := hD0.self (sz := s.heap.size)
  generalize hAe : va_A (wK cI cZ ad N A fl an nd wt B Hd O R HL LB SO NG WO SA SE) s.heap.size = Ap at hD hZ ⊢
  have hAp : ∀ q : Nat, s.heap.size ≤ q → Ap q := fun q h => by rw [← hAe]; exact Or.inr h
  have hS : va_S Ap s.heap s.heap [] := va_S.rf
  have f37 := hts (.fieldLink RX2 37 "AssumptionKeeper" "assumptions" "I") (by decide +kernel)
  have hin2 : ∀ w ∈ u_ws RX2 TX2 8, w ∈ wsX2_extend := by decide +kernel
  have ha_48 : ∀ w ∈ (vx_atS RX2 48 "java/lang/IllegalStateException" ["java/lang/RuntimeException", "java/lang/Exception"]).filter goodWord, w ∈ wsX2_extend := by first | exact fun w h => List.mem_cons_of_mem _ (List.mem_append_right _ h) | decide +kernel
  have hl := lv_entry ([.ref (ad 0), .int (x0)]) (n := 6) (Nat.le_of_ble_eq_true rfl)
  rw [lg_entry_eq]
  generalize (lg_sl ([.ref (ad 0), .int (x0)]) ++ List.replicate (6 - (lg_sl ([.ref (ad 0), .int (x0)])).length) Slot.unset).toArray = ls at hl ⊢
  have hl : lv_has ls 6 [(0, .ref (ad 0)), (1, .int (x0))] := hl
  refine lv_aload_n hx hb dX2_extend_0 rfl (lv_at hl 0 rfl) ?_
  refine lv_iload_n hx hb dX2_extend_1 rfl (lv_at hl 1 rfl) ?_
  refine xu_v (wr := []) (vx_runV (As := [.int (x0)]) (rest := []) ⟨hx, hb, hml, hown, hts⟩ (c_X2_requireEnvironment l D cI cZ ad (N) (A) (fl) (an) (nd) (wt) (B) (Hd) (O) (R) (HL) (LB) (SO) (NG) (WO) (SA) (SE) (x0)  hst (s.heap).size) (cwV 1 hts gX2_extend_X2_requireEnvironment rfl rfl rfl (by decide +kernel) ⟨Nat.le_of_ble_eq_true rfl, Nat.le_of_ble_eq_true rfl⟩) (prx_V (q0 := 0) (ci := 2) (hP.sub (ws' := (wK cI cZ ad N A fl an nd wt B Hd O R HL LB SO NG WO SA SE)) [0, 1, 2, 3, 4, 5, 6, 7, 8, 9, 10, 11, 12, 13] rfl) (hD.sub (ws' := (wK cI cZ ad N A fl an nd wt B Hd O R HL LB SO NG WO SA SE)) [0, 1, 2, 3, 4, 5, 6, 7, 8, 9, 10, 11, 12, 13] (by decide) rfl) hK hX hZ hS (va_free (wc := (wK cI cZ ad N A fl an nd wt B Hd O R HL LB SO NG WO SA SE)) hD hS hAp [0, 1, 2, 3, 4, 5, 6, 7, 8, 9, 10, 11, 12, 13] rfl) rfl rfl) rfl rfl hl.1 rfl (lv_room (Nat.le_of_ble_eq_true rfl)) dX2_extend_2 ⟨Nat.le_of_ble_eq_true rfl, Nat.le_of_ble_eq_true rfl⟩) hP hD hS hAp [0, 1, 2, 3, 4, 5, 6, 7, 8, 9, 10, 11, 12, 13] [] rfl rfl (by decide) (by decide) (fun E_2 ce_2 q9_2 ux_2 H locs hxp_2 hP hD hS h7_2 h8_2 h9_2 => ?_) (fun u_2 H locs hq_2 hP hD hS => ?_)
  · skip
    have hP : va_P D vwCl (wK cI cZ ad N A fl an nd wt B Hd O R HL LB SO NG WO SA SE) H := hP
    have hD : va_D Ap (wK cI cZ ad N A fl an nd wt B Hd O R HL LB SO NG WO SA SE) := hD
    exact x_out (u := ()) htab hlk h7_2 h8_2 h9_2 hS hP hD (Nat.le_of_ble_eq_true rfl) (Nat.le_of_ble_eq_true rfl) (by obtain ⟨hE9, hc9⟩ := hxp_2; subst hE9; simp [hc9])
  · skip
    obtain ⟨hok_2, -⟩ := hq_2
    have hP : va_P D vwCl (wK cI cZ ad N A fl an nd wt B Hd O R HL LB SO NG WO SA SE) H := hP
    have hD : va_D Ap (wK cI cZ ad N A fl an nd wt B Hd O R HL LB SO NG WO SA SE) := hD
    refine W.widen (k := 1) (n := 6) (by decide) (by decide) ?_
    refine lv_aload_n hx hb dX2_extend_5 rfl (lv_at hl 0 rfl) ?_
    refine lv_iload_n hx hb dX2_extend_6 rfl (lv_at hl 1 rfl) ?_
    refine pu_i (va_runV (As := [.int (x0)]) (rest := []) ⟨hx, hb, hml, hown, hts⟩ (c_X2_isFreeOfContradiction l D cI cZ ad (N) (A) (fl) (an) (nd) (wt) (B) (Hd) (O) (R) (HL) (LB) (SO) (NG) (WO) (SA) (SE) (x0) (by omega) (by omega)) (cwV 1 hts gX2_extend_X2_isFreeOfContradiction rfl rfl rfl (by decide +kernel) ⟨Nat.le_of_ble_eq_true rfl, Nat.le_of_ble_eq_true rfl⟩) (pre_V (q0 := 0) (ci := 2) (hP.sub (ws' := (wK cI cZ ad N A fl an nd wt B Hd O R HL LB SO NG WO SA SE)) [0, 1, 2, 3, 4, 5, 6, 7, 8, 9, 10, 11, 12, 13] rfl) hK rfl rfl) rfl rfl hl.1 rfl (lv_room (Nat.le_of_ble_eq_true rfl)) dX2_extend_7 ⟨Nat.le_of_ble_eq_true rfl, Nat.le_of_ble_eq_true rfl⟩) ?_
    refine lv_if_ne (tgt := 23) hx hb dX2_extend_10 (by decide) (fun c_10 => ?_) (fun c_10 => ?_)
    · skip
      have c_10 := bI_ne0 c_10
      have c_10 := nb_t c_10
      refine lv_iload_n hx hb dX2_extend_23 rfl (lv_at hl 1 rfl) ?_
      refine lv_istore_n (lv' := [(2, .int (x0)), (0, .ref (ad 0)), (1, .int (x0))]) hx hb dX2_extend_24 rfl hl (by decide) rfl (fun ls hl => ?_)
      refine lv_iload_n hx hb dX2_extend_25 rfl (lv_at hl 2 rfl) ?_
      refine lv_istore_n (lv' := [(3, .int (x0)), (2, .int (x0)), (0, .ref (ad 0)), (1, .int (x0))]) hx hb dX2_extend_26 rfl hl (by decide) rfl (fun ls hl => ?_)
      refine lv_iconst (v := nI (0)) hx hb dX2_extend_27 (by decide) ?_
      refine lv_istore (lv' := [(4, .int (nI (0))), (3, .int (x0)), (2, .int (x0)), (0, .ref (ad 0)), (1, .int (x0))]) hx hb dX2_extend_28 hl (by decide) rfl (fun ls hl => ?_)
      have lp_30 : ∀ (n30 i : Nat) (v2 : Int32) (v3 : Int32) (v4 : Int32), i ≤ A → A + 1 ≤ i + n30 → v2 = (xtS wt A (fun y => !(ct B Hd O R (clo B Hd O R (bg nd y A)))) x0 x0 i).1 → v3 = (xtS wt A (fun y => !(ct B Hd O R (clo B Hd O R (bg nd y A)))) x0 x0 i).2 → v4 = nI (i) → ∀ ls : Array Slot, lv_has ls 6 [(0, .ref (ad 0)), (1, .int (x0)), (2, .int (v2)), (3, .int (v3)), (4, .int (v4))] → W p l e (headSpec wsX2_extend ({ frames := 7, cells := 2, slots := 12, locals := 111 })).room s m ([.ref (ad 0), .int (x0)]).toArray below meth c H locs 1 6 (vx_MQ below (va_Qi (fun (r9 : Int32) (u9 : Unit) => (r9 = (xtS wt A (fun y => !(ct B Hd O R (clo B Hd O R (bg nd y A)))) x0 x0 A).1) ∧ (inS x0 A = true ∧ ct B Hd O R (clo B Hd O R (bg nd x0 A)) = false) ∧ (True)) (wB D Ap (fun u9 : Unit => (wK cI cZ ad N A fl an nd wt B Hd O R HL LB SO NG WO SA SE))) Ap) (xX D Ap (fun (E9 : String) (u9 : Unit) => (E9 = "java/lang/IllegalArgumentException" ∧ (inS x0 A = false)) ∨ (E9 = "java/lang/IllegalStateException" ∧ (inS x0 A = true ∧ ct B Hd O R (clo B Hd O R (bg nd x0 A)) = true))) (fun u9 : Unit => (wK cI cZ ad N A fl an nd wt B Hd O R HL LB SO NG WO SA SE))) ([.ref (ad 0), .int (x0)]).toArray s 2 12 Ap) (F0 m 30 ls []) := by
        intro n30
        induction n30 with
        | zero => intro i v2 v3 v4 h1 h2; exact absurd h2 (by omega)
        | succ n30 ih30 =>
          intro i v2 v3 v4 hi30 hn30  e2 e3 e4  ls hl
          subst e2 e3 e4
          have hl : lv_has ls 6 [(0, .ref (ad 0)), (1, .int (x0)), (2, .int ((xtS wt A (fun y => !(ct B Hd O R (clo B Hd O R (bg nd y A)))) x0 x0 i).1)), (3, .int ((xtS wt A (fun y => !(ct B Hd O R (clo B Hd O R (bg nd y A)))) x0 x0 i).2)), (4, .int (nI (i)))] := hl
          refine lv_iload hx hb dX2_extend_30 (lv_at hl 4 rfl) ?_
          refine lv_aload_n hx hb dX2_extend_32 rfl (lv_at hl 0 rfl) ?_
          refine va_get (D := D) (ci := 2) (v := .int (nI (A))) (C := RX2) (T := TX2) (N := 8) hx hb hts hin2 hown hK.1 hP 0 rfl rfl 6 (by decide) f37 (fun _ h9 => h9) rfl dX2_extend_33 ?_
          refine lv_icmp_ge (tgt := 88) hx hb dX2_extend_36 (by decide) (fun c_36 => ?_) (fun c_36 => ?_)
          · skip
            have c_36 := (qI_le (a := A) (b := i) (by omega) (by omega)).mp c_36
            refine lv_iload_n hx hb dX2_extend_88 rfl (lv_at hl 2 rfl) ?_
            refine W.widen (k := 2) (n := 12) (by decide) (by decide) ?_
            exact vx_ret (mr_i (u := ()) hx hb hrt hlk dX2_extend_89 hS hP hD ⟨(by first | exact (congrArg Prod.fst (xtS_stop (i := i) (n := A) c_49 (Nat.le_of_not_le c_36))).symm | (obtain rfl : i = A := (by omega); rfl)), (⟨hok_2, c_10⟩), trivial⟩)
          · skip
            have c_36 := mt (qI_le (a := A) (b := i) (by omega) (by omega)).mpr c_36
            refine lv_aload_n hx hb dX2_extend_39 rfl (lv_at hl 0 rfl) ?_
            refine lv_iload_n hx hb dX2_extend_40 rfl (lv_at hl 3 rfl) ?_
            refine pu_i (va_runV (As := [.int ((xtS wt A (fun y => !(ct B Hd O R (clo B Hd O R (bg nd y A)))) x0 x0 i).2)]) (rest := []) ⟨hx, hb, hml, hown, hts⟩ (c_X2_heaviestOutside l D cI cZ ad (N) (A) (fl) (an) (nd) (wt) (B) (Hd) (O) (R) (HL) (LB) (SO) (NG) (WO) (SA) (SE) ((xtS wt A (fun y => !(ct B Hd O R (clo B Hd O R (bg nd y A)))) x0 x0 i).2) (by omega)) (cwV 1 hts gX2_extend_X2_heaviestOutside rfl rfl rfl (by decide +kernel) ⟨Nat.le_of_ble_eq_true rfl, Nat.le_of_ble_eq_true rfl⟩) (pre_V (q0 := 0) (ci := 2) (hP.sub (ws' := (wK cI cZ ad N A fl an nd wt B Hd O R HL LB SO NG WO SA SE)) [0, 1, 2, 3, 4, 5, 6, 7, 8, 9, 10, 11, 12, 13] rfl) hK rfl rfl) rfl rfl hl.1 rfl (lv_room (Nat.le_of_ble_eq_true rfl)) dX2_extend_41 ⟨Nat.le_of_ble_eq_true rfl, Nat.le_of_ble_eq_true rfl⟩) ?_
            refine lv_istore (lv' := [(5, .int ((hvO wt ((xtS wt A (fun y => !(ct B Hd O R (clo B Hd O R (bg nd y A)))) x0 x0 i).2) A).1)), (0, .ref (ad 0)), (1, .int (x0)), (2, .int ((xtS wt A (fun y => !(ct B Hd O R (clo B Hd O R (bg nd y A)))) x0 x0 i).1)), (3, .int ((xtS wt A (fun y => !(ct B Hd O R (clo B Hd O R (bg nd y A)))) x0 x0 i).2)), (4, .int (nI (i)))]) hx hb dX2_extend_44 hl (by decide) rfl (fun ls hl => ?_)
            refine lv_iload hx hb dX2_extend_46 (lv_at hl 0 rfl) ?_
            refine lv_iconst (v := -1) hx hb dX2_extend_48 (by decide) ?_
            refine lv_icmp_ne (tgt := 55) hx hb dX2_extend_49 (by decide) (fun c_49 => ?_) (fun c_49 => ?_)
            · skip
              refine lv_iload_n hx hb dX2_extend_55 rfl (lv_at hl 4 rfl) ?_
              refine lv_iconst (v := 1) hx hb dX2_extend_56 (by decide) ?_
              refine lv_iload hx hb dX2_extend_57 (lv_at hl 0 rfl) ?_
              refine lv_ishl hx hb dX2_extend_59 ?_
              refine lv_ior hx hb dX2_extend_60 ?_
              refine lv_istore_n (lv' := [(3, .int (((xtS wt A (fun y => !(ct B Hd O R (clo B Hd O R (bg nd y A)))) x0 x0 i).2) ||| ((1) <<< (((hvO wt ((xtS wt A (fun y => !(ct B Hd O R (clo B Hd O R (bg nd y A)))) x0 x0 i).2) A).1) &&& 31)))), (5, .int ((hvO wt ((xtS wt A (fun y => !(ct B Hd O R (clo B Hd O R (bg nd y A)))) x0 x0 i).2) A).1)), (0, .ref (ad 0)), (1, .int (x0)), (2, .int ((xtS wt A (fun y => !(ct B Hd O R (clo B Hd O R (bg nd y A)))) x0 x0 i).1)), (4, .int (nI (i)))]) hx hb dX2_extend_61 rfl hl (by decide) rfl (fun ls hl => ?_)
              refine lv_aload_n hx hb dX2_extend_62 rfl (lv_at hl 2 rfl) ?_
              refine lv_iload_n hx hb dX2_extend_63 rfl (lv_at hl 4 rfl) ?_
              refine lv_iconst (v := 1) hx hb dX2_extend_64 (by decide) ?_
              refine lv_iload hx hb dX2_extend_65 (lv_at hl 1 rfl) ?_
              refine lv_ishl hx hb dX2_extend_67 ?_
              refine lv_ior hx hb dX2_extend_68 ?_
              refine pu_i (va_runV (As := [.int (((xtS wt A (fun y => !(ct B Hd O R (clo B Hd O R (bg nd y A)))) x0 x0 i).1) ||| ((1) <<< (((hvO wt ((xtS wt A (fun y => !(ct B Hd O R (clo B Hd O R (bg nd y A)))) x0 x0 i).2) A).1) &&& 31)))]) (rest := []) ⟨hx, hb, hml, hown, hts⟩ (c_X2_isFreeOfContradiction l D cI cZ ad (N) (A) (fl) (an) (nd) (wt) (B) (Hd) (O) (R) (HL) (LB) (SO) (NG) (WO) (SA) (SE) (((xtS wt A (fun y => !(ct B Hd O R (clo B Hd O R (bg nd y A)))) x0 x0 i).1) ||| ((1) <<< (((hvO wt ((xtS wt A (fun y => !(ct B Hd O R (clo B Hd O R (bg nd y A)))) x0 x0 i).2) A).1) &&& 31))) (by omega) (by omega)) (cwV 1 hts gX2_extend_X2_isFreeOfContradiction rfl rfl rfl (by decide +kernel) ⟨Nat.le_of_ble_eq_true rfl, Nat.le_of_ble_eq_true rfl⟩) (pre_V (q0 := 0) (ci := 2) (hP.sub (ws' := (wK cI cZ ad N A fl an nd wt B Hd O R HL LB SO NG WO SA SE)) [0, 1, 2, 3, 4, 5, 6, 7, 8, 9, 10, 11, 12, 13] rfl) hK rfl rfl) rfl rfl hl.1 rfl (lv_room (Nat.le_of_ble_eq_true rfl)) dX2_extend_69 ⟨Nat.le_of_ble_eq_true rfl, Nat.le_of_ble_eq_true rfl⟩) ?_
              refine lv_if_eq (tgt := 82) hx hb dX2_extend_72 (by decide) (fun c_72 => ?_) (fun c_72 => ?_)
              · skip
                have c_72 := bI_eq0 c_72
                have c_72 := nb_f c_72
                refine lv_iinc (v := nI (i + 1)) (lv' := [(4, .int (nI (i + 1))), (3, .int (((xtS wt A (fun y => !(ct B Hd O R (clo B Hd O R (bg nd y A)))) x0 x0 i).2) ||| ((1) <<< (((hvO wt ((xtS wt A (fun y => !(ct B Hd O R (clo B Hd O R (bg nd y A)))) x0 x0 i).2) A).1) &&& 31)))), (5, .int ((hvO wt ((xtS wt A (fun y => !(ct B Hd O R (clo B Hd O R (bg nd y A)))) x0 x0 i).2) A).1)), (0, .ref (ad 0)), (1, .int (x0)), (2, .int ((xtS wt A (fun y => !(ct B Hd O R (clo B Hd O R (bg nd y A)))) x0 x0 i).1))]) hx hb dX2_extend_82 hl (k := 5) rfl (nI_1 _) (by decide) rfl (fun ls hl => ?_)
                refine lv_goto (tgt := 30) hx hb dX2_extend_85 (by decide) ?_
                exact ih30 (i + 1) _ _ _  (by omega) (by omega)  (by first | rfl | (simp [xtS, sh1, c_10, c_36, c_49, c_72]; done) | (simp only [xtS, sh1, c_10, c_36, c_49, c_72]; rfl) | (simp_all [xtS, sh1, c_10, c_36, c_49, c_72]; done)) (by first | rfl | (simp [xtS, sh1, c_10, c_36, c_49, c_72]; done) | (simp only [xtS, sh1, c_10, c_36, c_49, c_72]; rfl) | (simp_all [xtS, sh1, c_10, c_36, c_49, c_72]; done)) (by first | rfl | (simp [xtS, sh1, c_10, c_36, c_49, c_72]; done) | (simp only [xtS, sh1, c_10, c_36, c_49, c_72]; rfl) | (simp_all [xtS, sh1, c_10, c_36, c_49, c_72]; done))  ls (lv_sub hl [3, 4, 5, 1, 0] rfl)
              · skip
                have c_72 := bI_ne0 c_72
                have c_72 := nb_t c_72
                refine lv_iload_n hx hb dX2_extend_75 rfl (lv_at hl 4 rfl) ?_
                refine lv_iconst (v := 1) hx hb dX2_extend_76 (by decide) ?_
                refine lv_iload hx hb dX2_extend_77 (lv_at hl 1 rfl) ?_
                refine lv_ishl hx hb dX2_extend_79 ?_
                refine lv_ior hx hb dX2_extend_80 ?_
                refine lv_istore_n (lv' := [(2, .int (((xtS wt A (fun y => !(ct B Hd O R (clo B Hd O R (bg nd y A)))) x0 x0 i).1) ||| ((1) <<< (((hvO wt ((xtS wt A (fun y => !(ct B Hd O R (clo B Hd O R (bg nd y A)))) x0 x0 i).2) A).1) &&& 31)))), (3, .int (((xtS wt A (fun y => !(ct B Hd O R (clo B Hd O R (bg nd y A)))) x0 x0 i).2) ||| ((1) <<< (((hvO wt ((xtS wt A (fun y => !(ct B Hd O R (clo B Hd O R (bg nd y A)))) x0 x0 i).2) A).1) &&& 31)))), (5, .int ((hvO wt ((xtS wt A (fun y => !(ct B Hd O R (clo B Hd O R (bg nd y A)))) x0 x0 i).2) A).1)), (0, .ref (ad 0)), (1, .int (x0)), (4, .int (nI (i)))]) hx hb dX2_extend_81 rfl hl (by decide) rfl (fun ls hl => ?_)
                refine lv_iinc (v := nI (i + 1)) (lv' := [(4, .int (nI (i + 1))), (2, .int (((xtS wt A (fun y => !(ct B Hd O R (clo B Hd O R (bg nd y A)))) x0 x0 i).1) ||| ((1) <<< (((hvO wt ((xtS wt A (fun y => !(ct B Hd O R (clo B Hd O R (bg nd y A)))) x0 x0 i).2) A).1) &&& 31)))), (3, .int (((xtS wt A (fun y => !(ct B Hd O R (clo B Hd O R (bg nd y A)))) x0 x0 i).2) ||| ((1) <<< (((hvO wt ((xtS wt A (fun y => !(ct B Hd O R (clo B Hd O R (bg nd y A)))) x0 x0 i).2) A).1) &&& 31)))), (5, .int ((hvO wt ((xtS wt A (fun y => !(ct B Hd O R (clo B Hd O R (bg nd y A)))) x0 x0 i).2) A).1)), (0, .ref (ad 0)), (1, .int (x0))]) hx hb dX2_extend_82 hl (k := 5) rfl (nI_1 _) (by decide) rfl (fun ls hl => ?_)
                refine lv_goto (tgt := 30) hx hb dX2_extend_85 (by decide) ?_
                exact ih30 (i + 1) _ _ _  (by omega) (by omega)  (by first | rfl | (simp [xtS, sh1, c_10, c_36, c_49, c_72]; done) | (simp only [xtS, sh1, c_10, c_36, c_49, c_72]; rfl) | (simp_all [xtS, sh1, c_10, c_36, c_49, c_72]; done)) (by first | rfl | (simp [xtS, sh1, c_10, c_36, c_49, c_72]; done) | (simp only [xtS, sh1, c_10, c_36, c_49, c_72]; rfl) | (simp_all [xtS, sh1, c_10, c_36, c_49, c_72]; done)) (by first | rfl | (simp [xtS, sh1, c_10, c_36, c_49, c_72]; done) | (simp only [xtS, sh1, c_10, c_36, c_49, c_72]; rfl) | (simp_all [xtS, sh1, c_10, c_36, c_49, c_72]; done))  ls (lv_sub hl [4, 5, 1, 2, 0] rfl)
            · skip
              refine lv_goto (tgt := 88) hx hb dX2_extend_52 (by decide) ?_
              refine lv_iload_n hx hb dX2_extend_88 rfl (lv_at hl 3 rfl) ?_
              refine W.widen (k := 2) (n := 12) (by decide) (by decide) ?_
              exact vx_ret (mr_i (u := ()) hx hb hrt hlk dX2_extend_89 hS hP hD ⟨(by first | exact (congrArg Prod.fst (xtS_stop (i := i) (n := A) c_49 (Nat.le_of_not_le c_36))).symm | (obtain rfl : i = A := (by omega); rfl)), (⟨hok_2, c_10⟩), trivial⟩)
      exact lp_30 (A + 1) (0) _ _ _  (by omega) (by omega)  (by first | rfl | (simp [xtS, sh1, c_10]; done) | (simp only [xtS, sh1, c_10]; rfl) | (simp_all [xtS, sh1, c_10]; done)) (by first | rfl | (simp [xtS, sh1, c_10]; done) | (simp only [xtS, sh1, c_10]; rfl) | (simp_all [xtS, sh1, c_10]; done)) (by first | rfl | (simp [xtS, sh1, c_10]; done) | (simp only [xtS, sh1, c_10]; rfl) | (simp_all [xtS, sh1, c_10]; done))  ls (lv_sub hl [3, 4, 2, 1, 0] rfl)
    · skip
      have c_10 := bI_eq0 c_10
      have c_10 := nb_f c_10
      obtain ⟨sa_13, hstr_13⟩ := hX.1 (134, "the environment is inconsistent") (by decide +kernel)
      exact vx_throwS (sa := sa_13) (A := Ap) (cls := "java/lang/IllegalStateException") (names := ["java/lang/RuntimeException", "java/lang/Exception"]) hx hb hst hown (by decide) (by decide) (hts (.classLink RX2 44 "java/lang/IllegalStateException") (by decide +kernel)) (hts (.initialized "java/lang/IllegalStateException") (by decide +kernel)) hstr_13 (vx_hat (fun w h => hts w (ha_48 w h)) xb_48 (xN_use hX)) xg_48 hZ.1 hZ.2 hS (hl.1.trans hml.symm) dX2_extend_13 dX2_extend_16 dX2_extend_17 dX2_extend_19 dX2_extend_22 (fun x9 hx9 => (htab x9 hx9).elim) (Nat.le_of_ble_eq_true rfl) (Nat.le_of_ble_eq_true rfl) (Nat.le_of_ble_eq_true rfl) (Nat.le_of_ble_eq_true rfl) hlk (x_end (u := ()) hS hP hD (by simp [hok_2, c_10])) hS.2.2 (Nat.le_of_ble_eq_true rfl) (Nat.le_of_ble_eq_true rfl)
