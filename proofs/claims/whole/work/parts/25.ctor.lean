set_option maxHeartbeats 4000000 in
set_option maxRecDepth 100000 in
theorem c_X0_init (l : Launch) (D : va_G) (cI cZ : ClassId) (ad : Nat → Nat) (h0 : Nat) (sz : Nat) : Met l yX0_init wsX0_init ({ frames := 1, cells := 3, slots := 120, locals := 14 }) (pcW D [(cI, .int), (cZ, .boolean)] sz [(h0, .inr (0, [.null, .null, .null, .int (0)]))] [.ref (h0)]) (va_Qv (fun u9 : (Nat) × (Nat) × (Nat) => (True)) (wB D (va_A [(h0, .inr (0, [.null, .null, .null, .int (0)]))] sz) (fun u9 : (Nat) × (Nat) × (Nat) => (wR cI cZ (adl [h0, u9.1, u9.2.1, u9.2.2]) ((fun _ => 0)) ((fun _ => 0)) ((fun _ => false)) 0))) (va_A [(h0, .inr (0, [.null, .null, .null, .int (0)]))] sz)) 3 120 (va_A [(h0, .inr (0, [.null, .null, .null, .int (0)]))] sz) := by
  refine Met.ofW (cc := cX0_init) (maxL := 1) (ret := none) (by decide) rfl ?_
  intro p e s m args below meth c s₁ BB hml hv
  obtain ⟨rfl, hsz, hP, hK, hD0⟩ := hv
  have hx := BB.exec
  have hb := BB.bytes
  have hrt := BB.returns
  have hts := atoms_spec (ws := wsX0_init) BB.pre
  have hown : s.vm.findClass RX0 = some m.cls := findClass_of_methodNamed BB.named
  have hlk := BB.notSynchronized
  have hinit : meth.name = "<init>" := (name_of_methodNamed BB.named BB.method).1
  subst hsz
  have hD := hD0.self (sz := s.heap.size)
  generalize hAe : va_A [(h0, .inr (0, [.null, .null, .null, .int (0)]))] s.heap.size = Ap at hD ⊢
  have hAp : ∀ q : Nat, s.heap.size ≤ q → Ap q := fun q h => by rw [← hAe]; exact Or.inr h
  have hS : va_S Ap s.heap s.heap [] := va_S.rf
  have f9 := hts (.fieldLink RX0 9 "AssumptionKeeper$RuleBook" "bodies" "[I") (by decide +kernel)
  have f15 := hts (.fieldLink RX0 15 "AssumptionKeeper$RuleBook" "heads" "[I") (by decide +kernel)
  have f18 := hts (.fieldLink RX0 18 "AssumptionKeeper$RuleBook" "areOn" "[Z") (by decide +kernel)
  have f22 := hts (.fieldLink RX0 22 "AssumptionKeeper$RuleBook" "count" "I") (by decide +kernel)
  have hin0 : ∀ w ∈ u_ws RX0 TX0 4, w ∈ wsX0_init := by decide +kernel
  have hl := lv_entry ([.ref (h0)]) (n := 1) (Nat.le_of_ble_eq_true rfl)
  rw [lg_entry_eq]
  generalize (lg_sl ([.ref (h0)]) ++ List.replicate (1 - (lg_sl ([.ref (h0)])).length) Slot.unset).toArray = ls at hl ⊢
  have hl : lv_has ls 1 [(0, .ref (h0))] := hl
  refine lv_aload_n hx hb dX0_init_0 rfl (lv_at hl 0 rfl) ?_
  refine W.objInit hx hb hown (hts (.methodLink RX0 3 objectInit) (by decide +kernel)) (hts (.instanceMethod objectInit) (by decide +kernel)) (hts (.code objectInit ⟨#[0xb1]⟩ 1 none) (by decide +kernel)) rfl (by rw [hml]; exact hl.1) rfl dX0_init_1 (Nat.le_of_ble_eq_true rfl) (Nat.le_of_ble_eq_true rfl) ?_
  refine W.eq (g2 := F0 m 4 ls []) rfl ?_
  refine lv_aload_n hx hb dX0_init_4 rfl (lv_at hl 0 rfl) ?_
  refine lv_bipush (v := 40) hx hb dX0_init_5 (by decide) ?_
  refine na_i (n := 40) hx hb (hts (.arrayClass .int) (by decide +kernel)) hK hP hD hS hAp 0 rfl (by decide) (Nat.le_of_ble_eq_true rfl) (Nat.le_of_ble_eq_true rfl) dX0_init_7 (fun q7 H hP hD hS => ?_)
  refine W.widen (k := 1) (n := 40) (by decide) (by decide) ?_
  have hP : va_P D vwCl [(h0, .inr (0, [.null, .null, .null, .int (0)])), (q7, .inl (cI, 40, .inl ((fun _ => 0))))] H := hP
  have hD : va_D Ap [(h0, .inr (0, [.null, .null, .null, .int (0)])), (q7, .inl (cI, 40, .inl ((fun _ => 0))))] := hD
  refine va_putF (D := D) (ci := 0) (v := .ref (q7)) (ty := (.array .int)) (C := RX0) (T := TX0) (N := 4) hx hb hts hin0 tyX0 tyX0_ok nmX0 hown hK.1 hP hD hS 0 rfl rfl 0 (by decide) f9 (fun _ h9 => h9) rfl hinit rfl (by decide +kernel) rfl rfl (Nat.le_of_ble_eq_true rfl) dX0_init_9 (fun H locs hP hD hS => ?_)
  have hP : va_P D vwCl [(h0, .inr (0, [.ref (q7), .null, .null, .int (0)])), (q7, .inl (cI, 40, .inl ((fun _ => 0))))] H := hP
  have hD : va_D Ap [(h0, .inr (0, [.ref (q7), .null, .null, .int (0)])), (q7, .inl (cI, 40, .inl ((fun _ => 0))))] := hD
  refine lv_aload_n hx hb dX0_init_12 rfl (lv_at hl 0 rfl) ?_
  refine lv_bipush (v := 40) hx hb dX0_init_13 (by decide) ?_
  refine na_i (n := 40) hx hb (hts (.arrayClass .int) (by decide +kernel)) hK hP hD hS hAp 0 rfl (by decide) (Nat.le_of_ble_eq_true rfl) (Nat.le_of_ble_eq_true rfl) dX0_init_15 (fun q15 H hP hD hS => ?_)
  refine W.widen (k := 2) (n := 80) (Nat.le_of_ble_eq_true rfl) (Nat.le_of_ble_eq_true rfl) ?_
  have hP : va_P D vwCl [(h0, .inr (0, [.ref (q7), .null, .null, .int (0)])), (q7, .inl (cI, 40, .inl ((fun _ => 0)))), (q15, .inl (cI, 40, .inl ((fun _ => 0))))] H := hP
  have hD : va_D Ap [(h0, .inr (0, [.ref (q7), .null, .null, .int (0)])), (q7, .inl (cI, 40, .inl ((fun _ => 0)))), (q15, .inl (cI, 40, .inl ((fun _ => 0))))] := hD
  refine va_putF (D := D) (ci := 0) (v := .ref (q15)) (ty := (.array .int)) (C := RX0) (T := TX0) (N := 4) hx hb hts hin0 tyX0 tyX0_ok nmX0 hown hK.1 hP hD hS 0 rfl rfl 1 (by decide) f15 (fun _ h9 => h9) rfl hinit rfl (by decide +kernel) rfl rfl (Nat.le_of_ble_eq_true rfl) dX0_init_17 (fun H locs hP hD hS => ?_)
  have hP : va_P D vwCl [(h0, .inr (0, [.ref (q7), .ref (q15), .null, .int (0)])), (q7, .inl (cI, 40, .inl ((fun _ => 0)))), (q15, .inl (cI, 40, .inl ((fun _ => 0))))] H := hP
  have hD : va_D Ap [(h0, .inr (0, [.ref (q7), .ref (q15), .null, .int (0)])), (q7, .inl (cI, 40, .inl ((fun _ => 0)))), (q15, .inl (cI, 40, .inl ((fun _ => 0))))] := hD
  refine lv_aload_n hx hb dX0_init_20 rfl (lv_at hl 0 rfl) ?_
  refine lv_bipush (v := 40) hx hb dX0_init_21 (by decide) ?_
  refine na_z (n := 40) hx hb (hts (.arrayClass .boolean) (by decide +kernel)) hK hP hD hS hAp 1 rfl (by decide) (Nat.le_of_ble_eq_true rfl) (Nat.le_of_ble_eq_true rfl) dX0_init_23 (fun q23 H hP hD hS => ?_)
  refine W.widen (k := 3) (n := 120) (Nat.le_of_ble_eq_true rfl) (Nat.le_of_ble_eq_true rfl) ?_
  have hP : va_P D vwCl [(h0, .inr (0, [.ref (q7), .ref (q15), .null, .int (0)])), (q7, .inl (cI, 40, .inl ((fun _ => 0)))), (q15, .inl (cI, 40, .inl ((fun _ => 0)))), (q23, .inl (cZ, 40, .inl (fun j => bI (((fun _ => false)) j))))] H := hP
  have hD : va_D Ap [(h0, .inr (0, [.ref (q7), .ref (q15), .null, .int (0)])), (q7, .inl (cI, 40, .inl ((fun _ => 0)))), (q15, .inl (cI, 40, .inl ((fun _ => 0)))), (q23, .inl (cZ, 40, .inl (fun j => bI (((fun _ => false)) j))))] := hD
  refine va_putF (D := D) (ci := 0) (v := .ref (q23)) (ty := (.array .boolean)) (C := RX0) (T := TX0) (N := 4) hx hb hts hin0 tyX0 tyX0_ok nmX0 hown hK.1 hP hD hS 0 rfl rfl 2 (by decide) f18 (fun _ h9 => h9) rfl hinit rfl (by decide +kernel) rfl rfl (Nat.le_of_ble_eq_true rfl) dX0_init_25 (fun H locs hP hD hS => ?_)
  have hP : va_P D vwCl [(h0, .inr (0, [.ref (q7), .ref (q15), .ref (q23), .int (0)])), (q7, .inl (cI, 40, .inl ((fun _ => 0)))), (q15, .inl (cI, 40, .inl ((fun _ => 0)))), (q23, .inl (cZ, 40, .inl (fun j => bI (((fun _ => false)) j))))] H := hP
  have hD : va_D Ap [(h0, .inr (0, [.ref (q7), .ref (q15), .ref (q23), .int (0)])), (q7, .inl (cI, 40, .inl ((fun _ => 0)))), (q15, .inl (cI, 40, .inl ((fun _ => 0)))), (q23, .inl (cZ, 40, .inl (fun j => bI (((fun _ => false)) j))))] := hD
  refine lv_aload_n hx hb dX0_init_28 rfl (lv_at hl 0 rfl) ?_
  refine lv_iconst (v := 0) hx hb dX0_init_29 (by decide) ?_
  refine va_put (D := D) (ci := 0) (v := .int (0)) (ty := .int) (C := RX0) (T := TX0) (N := 4) hx hb hts hin0 tyX0 tyX0_ok nmX0 hown hK.1 hP hD hS 0 rfl rfl 3 (by decide) f22 (fun _ h9 => h9) rfl (by decide +kernel) rfl rfl (Nat.le_of_ble_eq_true rfl) dX0_init_30 (fun H locs hP hD hS => ?_)
  have hP : va_P D vwCl [(h0, .inr (0, [.ref (q7), .ref (q15), .ref (q23), .int (0)])), (q7, .inl (cI, 40, .inl ((fun _ => 0)))), (q15, .inl (cI, 40, .inl ((fun _ => 0)))), (q23, .inl (cZ, 40, .inl (fun j => bI (((fun _ => false)) j))))] H := hP
  have hD : va_D Ap [(h0, .inr (0, [.ref (q7), .ref (q15), .ref (q23), .int (0)])), (q7, .inl (cI, 40, .inl ((fun _ => 0)))), (q15, .inl (cI, 40, .inl ((fun _ => 0)))), (q23, .inl (cZ, 40, .inl (fun j => bI (((fun _ => false)) j))))] := hD
  have hP : va_P D vwCl (wR cI cZ (adl [h0, q7, q15, q23]) ((fun _ => 0)) ((fun _ => 0)) ((fun _ => false)) 0) H := hP.sub [0, 1, 2, 3] rfl
  have hD : va_D Ap (wR cI cZ (adl [h0, q7, q15, q23]) ((fun _ => 0)) ((fun _ => 0)) ((fun _ => false)) 0) := hD.sub [0, 1, 2, 3] (by decide) rfl
  exact mr_v (u := (q7, q15, q23)) hx hb hrt hlk dX0_init_33 hS hP hD trivial
set_option maxHeartbeats 4000000 in
set_option maxRecDepth 100000 in
theorem c_X1_init (l : Launch) (D : va_G) (cI cZ : ClassId) (ad : Nat → Nat) (h0 : Nat) (sz : Nat) : Met l yX1_init wsX1_init ({ frames := 1, cells := 5, slots := 2560, locals := 14 }) (pcW D [(cI, .int), (cZ, .boolean)] sz [(h0, .inr (1, [.null, .null, .null, .null, .null, .int (0), .int (0)]))] [.ref (h0)]) (va_Qv (fun u9 : (Nat) × (Nat) × (Nat) × (Nat) × (Nat) => (True)) (wB D (va_A [(h0, .inr (1, [.null, .null, .null, .null, .null, .int (0), .int (0)]))] sz) (fun u9 : (Nat) × (Nat) × (Nat) × (Nat) × (Nat) => (wS cI cZ (adl [h0, u9.1, u9.2.1, u9.2.2.1, u9.2.2.2.1, u9.2.2.2.2]) ((fun _ => 0)) ((fun _ => 0)) ((fun _ => false)) ((fun _ => false)) ((fun _ => false)) 0 1))) (va_A [(h0, .inr (1, [.null, .null, .null, .null, .null, .int (0), .int (0)]))] sz)) 5 2560 (va_A [(h0, .inr (1, [.null, .null, .null, .null, .null, .int (0), .int (0)]))] sz) := by
  refine Met.ofW (cc := cX1_init) (maxL := 1) (ret := none) (by decide) rfl ?_
  intro p e s m args below meth c s₁ BB hml hv
  obtain ⟨rfl, hsz, hP, hK, hD0⟩ := hv
  have hx := BB.exec
  have hb := BB.bytes
  have hrt := BB.returns
  have hts := atoms_spec (ws := wsX1_init) BB.pre
  have hown : s.vm.findClass RX1 = some m.cls := findClass_of_methodNamed BB.named
  have hlk := BB.notSynchronized
  have hinit : meth.name = "<init>" := (name_of_methodNamed BB.named BB.method).1
  subst hsz
  have hD := hD0.self (sz := s.heap.size)
  generalize hAe : va_A [(h0, .inr (1, [.null, .null, .null, .null, .null, .int (0), .int (0)]))] s.heap.size = Ap at hD ⊢
  have hAp : ∀ q : Nat, s.heap.size ≤ q → Ap q := fun q h => by rw [← hAe]; exact Or.inr h
  have hS : va_S Ap s.heap s.heap [] := va_S.rf
  have f9 := hts (.fieldLink RX1 9 "AssumptionKeeper$Survey" "held" "[I") (by decide +kernel)
  have f15 := hts (.fieldLink RX1 15 "AssumptionKeeper$Survey" "labelled" "[I") (by decide +kernel)
  have f18 := hts (.fieldLink RX1 18 "AssumptionKeeper$Survey" "areSound" "[Z") (by decide +kernel)
  have f22 := hts (.fieldLink RX1 22 "AssumptionKeeper$Survey" "areNogoods" "[Z") (by decide +kernel)
  have f25 := hts (.fieldLink RX1 25 "AssumptionKeeper$Survey" "areWorlds" "[Z") (by decide +kernel)
  have f28 := hts (.fieldLink RX1 28 "AssumptionKeeper$Survey" "assumptions" "I") (by decide +kernel)
  have f32 := hts (.fieldLink RX1 32 "AssumptionKeeper$Survey" "environments" "I") (by decide +kernel)
  have hin1 : ∀ w ∈ u_ws RX1 TX1 7, w ∈ wsX1_init := by decide +kernel
  have hl := lv_entry ([.ref (h0)]) (n := 1) (Nat.le_of_ble_eq_true rfl)
  rw [lg_entry_eq]
  generalize (lg_sl ([.ref (h0)]) ++ List.replicate (1 - (lg_sl ([.ref (h0)])).length) Slot.unset).toArray = ls at hl ⊢
  have hl : lv_has ls 1 [(0, .ref (h0))] := hl
  refine lv_aload_n hx hb dX1_init_0 rfl (lv_at hl 0 rfl) ?_
  refine W.objInit hx hb hown (hts (.methodLink RX1 3 objectInit) (by decide +kernel)) (hts (.instanceMethod objectInit) (by decide +kernel)) (hts (.code objectInit ⟨#[0xb1]⟩ 1 none) (by decide +kernel)) rfl (by rw [hml]; exact hl.1) rfl dX1_init_1 (Nat.le_of_ble_eq_true rfl) (Nat.le_of_ble_eq_true rfl) ?_
  refine W.eq (g2 := F0 m 4 ls []) rfl ?_
  refine lv_aload_n hx hb dX1_init_4 rfl (lv_at hl 0 rfl) ?_
  refine lv_sipush (v := 512) hx hb dX1_init_5 (by decide) ?_
  refine na_i (n := 512) hx hb (hts (.arrayClass .int) (by decide +kernel)) hK hP hD hS hAp 0 rfl (by decide) (Nat.le_of_ble_eq_true rfl) (Nat.le_of_ble_eq_true rfl) dX1_init_8 (fun q8 H hP hD hS => ?_)
  refine W.widen (k := 1) (n := 512) (Nat.le_of_ble_eq_true rfl) (Nat.le_of_ble_eq_true rfl) ?_
  have hP : va_P D vwCl [(h0, .inr (1, [.null, .null, .null, .null, .null, .int (0), .int (0)])), (q8, .inl (cI, 512, .inl ((fun _ => 0))))] H := hP
  have hD : va_D Ap [(h0, .inr (1, [.null, .null, .null, .null, .null, .int (0), .int (0)])), (q8, .inl (cI, 512, .inl ((fun _ => 0))))] := hD
  refine va_putF (D := D) (ci := 1) (v := .ref (q8)) (ty := (.array .int)) (C := RX1) (T := TX1) (N := 7) hx hb hts hin1 tyX1 tyX1_ok nmX1 hown hK.1 hP hD hS 0 rfl rfl 0 (by decide) f9 (fun _ h9 => h9) rfl hinit rfl (by decide +kernel) rfl rfl (Nat.le_of_ble_eq_true rfl) dX1_init_10 (fun H locs hP hD hS => ?_)
  have hP : va_P D vwCl [(h0, .inr (1, [.ref (q8), .null, .null, .null, .null, .int (0), .int (0)])), (q8, .inl (cI, 512, .inl ((fun _ => 0))))] H := hP
  have hD : va_D Ap [(h0, .inr (1, [.ref (q8), .null, .null, .null, .null, .int (0), .int (0)])), (q8, .inl (cI, 512, .inl ((fun _ => 0))))] := hD
  refine lv_aload_n hx hb dX1_init_13 rfl (lv_at hl 0 rfl) ?_
  refine lv_sipush (v := 512) hx hb dX1_init_14 (by decide) ?_
  refine na_i (n := 512) hx hb (hts (.arrayClass .int) (by decide +kernel)) hK hP hD hS hAp 0 rfl (by decide) (Nat.le_of_ble_eq_true rfl) (Nat.le_of_ble_eq_true rfl) dX1_init_17 (fun q17 H hP hD hS => ?_)
  refine W.widen (k := 2) (n := 1024) (Nat.le_of_ble_eq_true rfl) (Nat.le_of_ble_eq_true rfl) ?_
  have hP : va_P D vwCl [(h0, .inr (1, [.ref (q8), .null, .null, .null, .null, .int (0), .int (0)])), (q8, .inl (cI, 512, .inl ((fun _ => 0)))), (q17, .inl (cI, 512, .inl ((fun _ => 0))))] H := hP
  have hD : va_D Ap [(h0, .inr (1, [.ref (q8), .null, .null, .null, .null, .int (0), .int (0)])), (q8, .inl (cI, 512, .inl ((fun _ => 0)))), (q17, .inl (cI, 512, .inl ((fun _ => 0))))] := hD
  refine va_putF (D := D) (ci := 1) (v := .ref (q17)) (ty := (.array .int)) (C := RX1) (T := TX1) (N := 7) hx hb hts hin1 tyX1 tyX1_ok nmX1 hown hK.1 hP hD hS 0 rfl rfl 1 (by decide) f15 (fun _ h9 => h9) rfl hinit rfl (by decide +kernel) rfl rfl (Nat.le_of_ble_eq_true rfl) dX1_init_19 (fun H locs hP hD hS => ?_)
  have hP : va_P D vwCl [(h0, .inr (1, [.ref (q8), .ref (q17), .null, .null, .null, .int (0), .int (0)])), (q8, .inl (cI, 512, .inl ((fun _ => 0)))), (q17, .inl (cI, 512, .inl ((fun _ => 0))))] H := hP
  have hD : va_D Ap [(h0, .inr (1, [.ref (q8), .ref (q17), .null, .null, .null, .int (0), .int (0)])), (q8, .inl (cI, 512, .inl ((fun _ => 0)))), (q17, .inl (cI, 512, .inl ((fun _ => 0))))] := hD
  refine lv_aload_n hx hb dX1_init_22 rfl (lv_at hl 0 rfl) ?_
  refine lv_sipush (v := 512) hx hb dX1_init_23 (by decide) ?_
  refine na_z (n := 512) hx hb (hts (.arrayClass .boolean) (by decide +kernel)) hK hP hD hS hAp 1 rfl (by decide) (Nat.le_of_ble_eq_true rfl) (Nat.le_of_ble_eq_true rfl) dX1_init_26 (fun q26 H hP hD hS => ?_)
  refine W.widen (k := 3) (n := 1536) (Nat.le_of_ble_eq_true rfl) (Nat.le_of_ble_eq_true rfl) ?_
  have hP : va_P D vwCl [(h0, .inr (1, [.ref (q8), .ref (q17), .null, .null, .null, .int (0), .int (0)])), (q8, .inl (cI, 512, .inl ((fun _ => 0)))), (q17, .inl (cI, 512, .inl ((fun _ => 0)))), (q26, .inl (cZ, 512, .inl (fun j => bI (((fun _ => false)) j))))] H := hP
  have hD : va_D Ap [(h0, .inr (1, [.ref (q8), .ref (q17), .null, .null, .null, .int (0), .int (0)])), (q8, .inl (cI, 512, .inl ((fun _ => 0)))), (q17, .inl (cI, 512, .inl ((fun _ => 0)))), (q26, .inl (cZ, 512, .inl (fun j => bI (((fun _ => false)) j))))] := hD
  refine va_putF (D := D) (ci := 1) (v := .ref (q26)) (ty := (.array .boolean)) (C := RX1) (T := TX1) (N := 7) hx hb hts hin1 tyX1 tyX1_ok nmX1 hown hK.1 hP hD hS 0 rfl rfl 2 (by decide) f18 (fun _ h9 => h9) rfl hinit rfl (by decide +kernel) rfl rfl (Nat.le_of_ble_eq_true rfl) dX1_init_28 (fun H locs hP hD hS => ?_)
  have hP : va_P D vwCl [(h0, .inr (1, [.ref (q8), .ref (q17), .ref (q26), .null, .null, .int (0), .int (0)])), (q8, .inl (cI, 512, .inl ((fun _ => 0)))), (q17, .inl (cI, 512, .inl ((fun _ => 0)))), (q26, .inl (cZ, 512, .inl (fun j => bI (((fun _ => false)) j))))] H := hP
  have hD : va_D Ap [(h0, .inr (1, [.ref (q8), .ref (q17), .ref (q26), .null, .null, .int (0), .int (0)])), (q8, .inl (cI, 512, .inl ((fun _ => 0)))), (q17, .inl (cI, 512, .inl ((fun _ => 0)))), (q26, .inl (cZ, 512, .inl (fun j => bI (((fun _ => false)) j))))] := hD
  refine lv_aload_n hx hb dX1_init_31 rfl (lv_at hl 0 rfl) ?_
  refine lv_sipush (v := 512) hx hb dX1_init_32 (by decide) ?_
  refine na_z (n := 512) hx hb (hts (.arrayClass .boolean) (by decide +kernel)) hK hP hD hS hAp 1 rfl (by decide) (Nat.le_of_ble_eq_true rfl) (Nat.le_of_ble_eq_true rfl) dX1_init_35 (fun q35 H hP hD hS => ?_)
  refine W.widen (k := 4) (n := 2048) (Nat.le_of_ble_eq_true rfl) (Nat.le_of_ble_eq_true rfl) ?_
  have hP : va_P D vwCl [(h0, .inr (1, [.ref (q8), .ref (q17), .ref (q26), .null, .null, .int (0), .int (0)])), (q8, .inl (cI, 512, .inl ((fun _ => 0)))), (q17, .inl (cI, 512, .inl ((fun _ => 0)))), (q26, .inl (cZ, 512, .inl (fun j => bI (((fun _ => false)) j)))), (q35, .inl (cZ, 512, .inl (fun j => bI (((fun _ => false)) j))))] H := hP
  have hD : va_D Ap [(h0, .inr (1, [.ref (q8), .ref (q17), .ref (q26), .null, .null, .int (0), .int (0)])), (q8, .inl (cI, 512, .inl ((fun _ => 0)))), (q17, .inl (cI, 512, .inl ((fun _ => 0)))), (q26, .inl (cZ, 512, .inl (fun j => bI (((fun _ => false)) j)))), (q35, .inl (cZ, 512, .inl (fun j => bI (((fun _ => false)) j))))] := hD
  refine va_putF (D := D) (ci := 1) (v := .ref (q35)) (ty := (.array .boolean)) (C := RX1) (T := TX1) (N := 7) hx hb hts hin1 tyX1 tyX1_ok nmX1 hown hK.1 hP hD hS 0 rfl rfl 3 (by decide) f22 (fun _ h9 => h9) rfl hinit rfl (by decide +kernel) rfl rfl (Nat.le_of_ble_eq_true rfl) dX1_init_37 (fun H locs hP hD hS => ?_)
  have hP : va_P D vwCl [(h0, .inr (1, [.ref (q8), .ref (q17), .ref (q26), .ref (q35), .null, .int (0), .int (0)])), (q8, .inl (cI, 512, .inl ((fun _ => 0)))), (q17, .inl (cI, 512, .inl ((fun _ => 0)))), (q26, .inl (cZ, 512, .inl (fun j => bI (((fun _ => false)) j)))), (q35, .inl (cZ, 512, .inl (fun j => bI (((fun _ => false)) j))))] H := hP
  have hD : va_D Ap [(h0, .inr (1, [.ref (q8), .ref (q17), .ref (q26), .ref (q35), .null, .int (0), .int (0)])), (q8, .inl (cI, 512, .inl ((fun _ => 0)))), (q17, .inl (cI, 512, .inl ((fun _ => 0)))), (q26, .inl (cZ, 512, .inl (fun j => bI (((fun _ => false)) j)))), (q35, .inl (cZ, 512, .inl (fun j => bI (((fun _ => false)) j))))] := hD
  refine lv_aload_n hx hb dX1_init_40 rfl (lv_at hl 0 rfl) ?_
  refine lv_sipush (v := 512) hx hb dX1_init_41 (by decide) ?_
  refine na_z (n := 512) hx hb (hts (.arrayClass .boolean) (by decide +kernel)) hK hP hD hS hAp 1 rfl (by decide) (Nat.le_of_ble_eq_true rfl) (Nat.le_of_ble_eq_true rfl) dX1_init_44 (fun q44 H hP hD hS => ?_)
  refine W.widen (k := 5) (n := 2560) (Nat.le_of_ble_eq_true rfl) (Nat.le_of_ble_eq_true rfl) ?_
  have hP : va_P D vwCl [(h0, .inr (1, [.ref (q8), .ref (q17), .ref (q26), .ref (q35), .null, .int (0), .int (0)])), (q8, .inl (cI, 512, .inl ((fun _ => 0)))), (q17, .inl (cI, 512, .inl ((fun _ => 0)))), (q26, .inl (cZ, 512, .inl (fun j => bI (((fun _ => false)) j)))), (q35, .inl (cZ, 512, .inl (fun j => bI (((fun _ => false)) j)))), (q44, .inl (cZ, 512, .inl (fun j => bI (((fun _ => false)) j))))] H := hP
  have hD : va_D Ap [(h0, .inr (1, [.ref (q8), .ref (q17), .ref (q26), .ref (q35), .null, .int (0), .int (0)])), (q8, .inl (cI, 512, .inl ((fun _ => 0)))), (q17, .inl (cI, 512, .inl ((fun _ => 0)))), (q26, .inl (cZ, 512, .inl (fun j => bI (((fun _ => false)) j)))), (q35, .inl (cZ, 512, .inl (fun j => bI (((fun _ => false)) j)))), (q44, .inl (cZ, 512, .inl (fun j => bI (((fun _ => false)) j))))] := hD
  refine va_putF (D := D) (ci := 1) (v := .ref (q44)) (ty := (.array .boolean)) (C := RX1) (T := TX1) (N := 7) hx hb hts hin1 tyX1 tyX1_ok nmX1 hown hK.1 hP hD hS 0 rfl rfl 4 (by decide) f25 (fun _ h9 => h9) rfl hinit rfl (by decide +kernel) rfl rfl (Nat.le_of_ble_eq_true rfl) dX1_init_46 (fun H locs hP hD hS => ?_)
  have hP : va_P D vwCl [(h0, .inr (1, [.ref (q8), .ref (q17), .ref (q26), .ref (q35), .ref (q44), .int (0), .int (0)])), (q8, .inl (cI, 512, .inl ((fun _ => 0)))), (q17, .inl (cI, 512, .inl ((fun _ => 0)))), (q26, .inl (cZ, 512, .inl (fun j => bI (((fun _ => false)) j)))), (q35, .inl (cZ, 512, .inl (fun j => bI (((fun _ => false)) j)))), (q44, .inl (cZ, 512, .inl (fun j => bI (((fun _ => false)) j))))] H := hP
  have hD : va_D Ap [(h0, .inr (1, [.ref (q8), .ref (q17), .ref (q26), .ref (q35), .ref (q44), .int (0), .int (0)])), (q8, .inl (cI, 512, .inl ((fun _ => 0)))), (q17, .inl (cI, 512, .inl ((fun _ => 0)))), (q26, .inl (cZ, 512, .inl (fun j => bI (((fun _ => false)) j)))), (q35, .inl (cZ, 512, .inl (fun j => bI (((fun _ => false)) j)))), (q44, .inl (cZ, 512, .inl (fun j => bI (((fun _ => false)) j))))] := hD
  refine lv_aload_n hx hb dX1_init_49 rfl (lv_at hl 0 rfl) ?_
  refine lv_iconst (v := 0) hx hb dX1_init_50 (by decide) ?_
  refine va_put (D := D) (ci := 1) (v := .int (0)) (ty := .int) (C := RX1) (T := TX1) (N := 7) hx hb hts hin1 tyX1 tyX1_ok nmX1 hown hK.1 hP hD hS 0 rfl rfl 5 (by decide) f28 (fun _ h9 => h9) rfl (by decide +kernel) rfl rfl (Nat.le_of_ble_eq_true rfl) dX1_init_51 (fun H locs hP hD hS => ?_)
  have hP : va_P D vwCl [(h0, .inr (1, [.ref (q8), .ref (q17), .ref (q26), .ref (q35), .ref (q44), .int (0), .int (0)])), (q8, .inl (cI, 512, .inl ((fun _ => 0)))), (q17, .inl (cI, 512, .inl ((fun _ => 0)))), (q26, .inl (cZ, 512, .inl (fun j => bI (((fun _ => false)) j)))), (q35, .inl (cZ, 512, .inl (fun j => bI (((fun _ => false)) j)))), (q44, .inl (cZ, 512, .inl (fun j => bI (((fun _ => false)) j))))] H := hP
  have hD : va_D Ap [(h0, .inr (1, [.ref (q8), .ref (q17), .ref (q26), .ref (q35), .ref (q44), .int (0), .int (0)])), (q8, .inl (cI, 512, .inl ((fun _ => 0)))), (q17, .inl (cI, 512, .inl ((fun _ => 0)))), (q26, .inl (cZ, 512, .inl (fun j => bI (((fun _ => false)) j)))), (q35, .inl (cZ, 512, .inl (fun j => bI (((fun _ => false)) j)))), (q44, .inl (cZ, 512, .inl (fun j => bI (((fun _ => false)) j))))] := hD
  refine lv_aload_n hx hb dX1_init_54 rfl (lv_at hl 0 rfl) ?_
  refine lv_iconst (v := 1) hx hb dX1_init_55 (by decide) ?_
  refine va_put (D := D) (ci := 1) (v := .int (1)) (ty := .int) (C := RX1) (T := TX1) (N := 7) hx hb hts hin1 tyX1 tyX1_ok nmX1 hown hK.1 hP hD hS 0 rfl rfl 6 (by decide) f32 (fun _ h9 => h9) rfl (by decide +kernel) rfl rfl (Nat.le_of_ble_eq_true rfl) dX1_init_56 (fun H locs hP hD hS => ?_)
  have hP : va_P D vwCl [(h0, .inr (1, [.ref (q8), .ref (q17), .ref (q26), .ref (q35), .ref (q44), .int (0), .int (1)])), (q8, .inl (cI, 512, .inl ((fun _ => 0)))), (q17, .inl (cI, 512, .inl ((fun _ => 0)))), (q26, .inl (cZ, 512, .inl (fun j => bI (((fun _ => false)) j)))), (q35, .inl (cZ, 512, .inl (fun j => bI (((fun _ => false)) j)))), (q44, .inl (cZ, 512, .inl (fun j => bI (((fun _ => false)) j))))] H := hP
  have hD : va_D Ap [(h0, .inr (1, [.ref (q8), .ref (q17), .ref (q26), .ref (q35), .ref (q44), .int (0), .int (1)])), (q8, .inl (cI, 512, .inl ((fun _ => 0)))), (q17, .inl (cI, 512, .inl ((fun _ => 0)))), (q26, .inl (cZ, 512, .inl (fun j => bI (((fun _ => false)) j)))), (q35, .inl (cZ, 512, .inl (fun j => bI (((fun _ => false)) j)))), (q44, .inl (cZ, 512, .inl (fun j => bI (((fun _ => false)) j))))] := hD
  have hP : va_P D vwCl (wS cI cZ (adl [h0, q8, q17, q26, q35, q44]) ((fun _ => 0)) ((fun _ => 0)) ((fun _ => false)) ((fun _ => false)) ((fun _ => false)) 0 1) H := hP.sub [0, 1, 2, 3, 4, 5] rfl
  have hD : va_D Ap (wS cI cZ (adl [h0, q8, q17, q26, q35, q44]) ((fun _ => 0)) ((fun _ => 0)) ((fun _ => false)) ((fun _ => false)) ((fun _ => false)) 0 1) := hD.sub [0, 1, 2, 3, 4, 5] (by decide) rfl
  exact mr_v (u := (q8, q17, q26, q35, q44)) hx hb hrt hlk dX1_init_59 hS hP hD trivial
set_option maxHeartbeats 4000000 in
set_option maxRecDepth 100000 in
theorem c_X2_init (l : Launch) (D : va_G) (cI cZ : ClassId) (ad : Nat → Nat) (h0 : Nat) (sz : Nat) : Met l yX2_init wsX2_init ({ frames := 2, cells := 13, slots := 2733, locals := 34 }) (pcW D [(cI, .int), (cZ, .boolean)] sz [(h0, .inr (2, [.null, .null, .null, .null, .null, .int (0), .int (0), .int (0)]))] [.ref (h0)]) (va_Qv (fun u9 : (Nat) × (Nat) × (Nat) × (Nat) × (Nat) × (Nat) × (Nat) × (Nat) × (Nat) × (Nat) × (Nat) × (Nat) × (Nat) => (True)) (wB D (va_A [(h0, .inr (2, [.null, .null, .null, .null, .null, .int (0), .int (0), .int (0)]))] sz) (fun u9 : (Nat) × (Nat) × (Nat) × (Nat) × (Nat) × (Nat) × (Nat) × (Nat) × (Nat) × (Nat) × (Nat) × (Nat) × (Nat) => (wK cI cZ (adl [h0, u9.1, u9.2.1, u9.2.2.1, u9.2.2.2.1, u9.2.2.2.2.1, u9.2.2.2.2.2.1, u9.2.2.2.2.2.2.1, u9.2.2.2.2.2.2.2.1, u9.2.2.2.2.2.2.2.2.1, u9.2.2.2.2.2.2.2.2.2.1, u9.2.2.2.2.2.2.2.2.2.2.1, u9.2.2.2.2.2.2.2.2.2.2.2.1, u9.2.2.2.2.2.2.2.2.2.2.2.2]) 0 0 false ((fun _ => 0)) ((fun _ => 0)) ((fun _ => 0)) ((fun _ => 0)) ((fun _ => 0)) ((fun _ => false)) 0 ((fun _ => 0)) ((fun _ => 0)) ((fun _ => false)) ((fun _ => false)) ((fun _ => false)) 0 1))) (va_A [(h0, .inr (2, [.null, .null, .null, .null, .null, .int (0), .int (0), .int (0)]))] sz)) 13 2733 (va_A [(h0, .inr (2, [.null, .null, .null, .null, .null, .int (0), .int (0), .int (0)]))] sz) := by
  refine Met.ofW (cc := cX2_init) (maxL := 1) (ret := none) (by decide) rfl ?_
  intro p e s m args below meth c s₁ BB hml hv
  obtain ⟨rfl, hsz, hP, hK, hD0⟩ := hv
  have hx := BB.exec
  have hb := BB.bytes
  have hrt := BB.returns
  have hts := atoms_spec (ws := wsX2_init) BB.pre
  have hown : s.vm.findClass RX2 = some m.cls := findClass_of_methodNamed BB.named
  have hlk := BB.notSynchronized
  have hinit : meth.name = "<init>" := (name_of_methodNamed BB.named BB.method).1
  subst hsz
  have hD := hD0.self (sz := s.heap.size)
  generalize hAe : va_A [(h0, .inr (2, [.null, .null, .null, .null, .null, .int (0), .int (0), .int (0)]))] s.heap.size = Ap at hD ⊢
  have hAp : ∀ q : Nat, s.heap.size ≤ q → Ap q := fun q h => by rw [← hAe]; exact Or.inr h
  have hS : va_S Ap s.heap s.heap [] := va_S.rf
  have f9 := hts (.fieldLink RX2 9 "AssumptionKeeper" "assumptionNumbers" "[I") (by decide +kernel)
  have f13 := hts (.fieldLink RX2 13 "AssumptionKeeper" "assumptionNodes" "[I") (by decide +kernel)
  have f16 := hts (.fieldLink RX2 16 "AssumptionKeeper" "weights" "[I") (by decide +kernel)
  have f22 := hts (.fieldLink RX2 22 "AssumptionKeeper" "rules" "LAssumptionKeeper$RuleBook;") (by decide +kernel)
  have f29 := hts (.fieldLink RX2 29 "AssumptionKeeper" "survey" "LAssumptionKeeper$Survey;") (by decide +kernel)
  have f33 := hts (.fieldLink RX2 33 "AssumptionKeeper" "nodes" "I") (by decide +kernel)
  have f37 := hts (.fieldLink RX2 37 "AssumptionKeeper" "assumptions" "I") (by decide +kernel)
  have f40 := hts (.fieldLink RX2 40 "AssumptionKeeper" "isSurveyed" "Z") (by decide +kernel)
  have hin2 : ∀ w ∈ u_ws RX2 TX2 8, w ∈ wsX2_init := by decide +kernel
  have hin0 : ∀ w ∈ u_ws RX0 TX0 4, w ∈ wsX2_init := by decide +kernel
  have hin1 : ∀ w ∈ u_ws RX1 TX1 7, w ∈ wsX2_init := by decide +kernel
  have hl := lv_entry ([.ref (h0)]) (n := 1) (Nat.le_of_ble_eq_true rfl)
  rw [lg_entry_eq]
  generalize (lg_sl ([.ref (h0)]) ++ List.replicate (1 - (lg_sl ([.ref (h0)])).length) Slot.unset).toArray = ls at hl ⊢
  have hl : lv_has ls 1 [(0, .ref (h0))] := hl
  refine lv_aload_n hx hb dX2_init_0 rfl (lv_at hl 0 rfl) ?_
  refine W.objInit hx hb hown (hts (.methodLink RX2 3 objectInit) (by decide +kernel)) (hts (.instanceMethod objectInit) (by decide +kernel)) (hts (.code objectInit ⟨#[0xb1]⟩ 1 none) (by decide +kernel)) rfl (by rw [hml]; exact hl.1) rfl dX2_init_1 (Nat.le_of_ble_eq_true rfl) (Nat.le_of_ble_eq_true rfl) ?_
  refine W.eq (g2 := F0 m 4 ls []) rfl ?_
  refine lv_aload_n hx hb dX2_init_4 rfl (lv_at hl 0 rfl) ?_
  refine lv_bipush (v := 24) hx hb dX2_init_5 (by decide) ?_
  refine na_i (n := 24) hx hb (hts (.arrayClass .int) (by decide +kernel)) hK hP hD hS hAp 0 rfl (by decide) (Nat.le_of_ble_eq_true rfl) (Nat.le_of_ble_eq_true rfl) dX2_init_7 (fun q7 H hP hD hS => ?_)
  refine W.widen (k := 1) (n := 24) (by decide) (by decide) ?_
  have hP : va_P D vwCl [(h0, .inr (2, [.null, .null, .null, .null, .null, .int (0), .int (0), .int (0)])), (q7, .inl (cI, 24, .inl ((fun _ => 0))))] H := hP
  have hD : va_D Ap [(h0, .inr (2, [.null, .null, .null, .null, .null, .int (0), .int (0), .int (0)])), (q7, .inl (cI, 24, .inl ((fun _ => 0))))] := hD
  refine va_putF (D := D) (ci := 2) (v := .ref (q7)) (ty := (.array .int)) (C := RX2) (T := TX2) (N := 8) hx hb hts hin2 tyX2 tyX2_ok nmX2 hown hK.1 hP hD hS 0 rfl rfl 0 (by decide) f9 (fun _ h9 => h9) rfl hinit rfl (by decide +kernel) rfl rfl (Nat.le_of_ble_eq_true rfl) dX2_init_9 (fun H locs hP hD hS => ?_)
  have hP : va_P D vwCl [(h0, .inr (2, [.ref (q7), .null, .null, .null, .null, .int (0), .int (0), .int (0)])), (q7, .inl (cI, 24, .inl ((fun _ => 0))))] H := hP
  have hD : va_D Ap [(h0, .inr (2, [.ref (q7), .null, .null, .null, .null, .int (0), .int (0), .int (0)])), (q7, .inl (cI, 24, .inl ((fun _ => 0))))] := hD
  refine lv_aload_n hx hb dX2_init_12 rfl (lv_at hl 0 rfl) ?_
  refine lv_bipush (v := 9) hx hb dX2_init_13 (by decide) ?_
  refine na_i (n := 9) hx hb (hts (.arrayClass .int) (by decide +kernel)) hK hP hD hS hAp 0 rfl (by decide) (Nat.le_of_ble_eq_true rfl) (Nat.le_of_ble_eq_true rfl) dX2_init_15 (fun q15 H hP hD hS => ?_)
  refine W.widen (k := 2) (n := 33) (by decide) (by decide) ?_
  have hP : va_P D vwCl [(h0, .inr (2, [.ref (q7), .null, .null, .null, .null, .int (0), .int (0), .int (0)])), (q7, .inl (cI, 24, .inl ((fun _ => 0)))), (q15, .inl (cI, 9, .inl ((fun _ => 0))))] H := hP
  have hD : va_D Ap [(h0, .inr (2, [.ref (q7), .null, .null, .null, .null, .int (0), .int (0), .int (0)])), (q7, .inl (cI, 24, .inl ((fun _ => 0)))), (q15, .inl (cI, 9, .inl ((fun _ => 0))))] := hD
  refine va_putF (D := D) (ci := 2) (v := .ref (q15)) (ty := (.array .int)) (C := RX2) (T := TX2) (N := 8) hx hb hts hin2 tyX2 tyX2_ok nmX2 hown hK.1 hP hD hS 0 rfl rfl 1 (by decide) f13 (fun _ h9 => h9) rfl hinit rfl (by decide +kernel) rfl rfl (Nat.le_of_ble_eq_true rfl) dX2_init_17 (fun H locs hP hD hS => ?_)
  have hP : va_P D vwCl [(h0, .inr (2, [.ref (q7), .ref (q15), .null, .null, .null, .int (0), .int (0), .int (0)])), (q7, .inl (cI, 24, .inl ((fun _ => 0)))), (q15, .inl (cI, 9, .inl ((fun _ => 0))))] H := hP
  have hD : va_D Ap [(h0, .inr (2, [.ref (q7), .ref (q15), .null, .null, .null, .int (0), .int (0), .int (0)])), (q7, .inl (cI, 24, .inl ((fun _ => 0)))), (q15, .inl (cI, 9, .inl ((fun _ => 0))))] := hD
  refine lv_aload_n hx hb dX2_init_20 rfl (lv_at hl 0 rfl) ?_
  refine lv_bipush (v := 9) hx hb dX2_init_21 (by decide) ?_
  refine na_i (n := 9) hx hb (hts (.arrayClass .int) (by decide +kernel)) hK hP hD hS hAp 0 rfl (by decide) (Nat.le_of_ble_eq_true rfl) (Nat.le_of_ble_eq_true rfl) dX2_init_23 (fun q23 H hP hD hS => ?_)
  refine W.widen (k := 3) (n := 42) (by decide) (by decide) ?_
  have hP : va_P D vwCl [(h0, .inr (2, [.ref (q7), .ref (q15), .null, .null, .null, .int (0), .int (0), .int (0)])), (q7, .inl (cI, 24, .inl ((fun _ => 0)))), (q15, .inl (cI, 9, .inl ((fun _ => 0)))), (q23, .inl (cI, 9, .inl ((fun _ => 0))))] H := hP
  have hD : va_D Ap [(h0, .inr (2, [.ref (q7), .ref (q15), .null, .null, .null, .int (0), .int (0), .int (0)])), (q7, .inl (cI, 24, .inl ((fun _ => 0)))), (q15, .inl (cI, 9, .inl ((fun _ => 0)))), (q23, .inl (cI, 9, .inl ((fun _ => 0))))] := hD
  refine va_putF (D := D) (ci := 2) (v := .ref (q23)) (ty := (.array .int)) (C := RX2) (T := TX2) (N := 8) hx hb hts hin2 tyX2 tyX2_ok nmX2 hown hK.1 hP hD hS 0 rfl rfl 2 (by decide) f16 (fun _ h9 => h9) rfl hinit rfl (by decide +kernel) rfl rfl (Nat.le_of_ble_eq_true rfl) dX2_init_25 (fun H locs hP hD hS => ?_)
  have hP : va_P D vwCl [(h0, .inr (2, [.ref (q7), .ref (q15), .ref (q23), .null, .null, .int (0), .int (0), .int (0)])), (q7, .inl (cI, 24, .inl ((fun _ => 0)))), (q15, .inl (cI, 9, .inl ((fun _ => 0)))), (q23, .inl (cI, 9, .inl ((fun _ => 0))))] H := hP
  have hD : va_D Ap [(h0, .inr (2, [.ref (q7), .ref (q15), .ref (q23), .null, .null, .int (0), .int (0), .int (0)])), (q7, .inl (cI, 24, .inl ((fun _ => 0)))), (q15, .inl (cI, 9, .inl ((fun _ => 0)))), (q23, .inl (cI, 9, .inl ((fun _ => 0))))] := hD
  refine lv_aload_n hx hb dX2_init_28 rfl (lv_at hl 0 rfl) ?_
  refine va_new (ci := 0) (fs := [.null, .null, .null, .int 0]) (C := RX0) (T := TX0) (N := 4) hx hb hts hin0 tyX0 tyX0_ok hown (hts (.classLink RX2 19 RX0) (by decide +kernel)) (hts (.instantiable RX0 4) (by decide +kernel)) (hts (.initialized RX0) (by decide +kernel)) hK.1 hP hD hS hAp rfl (fun j hj => by rcases (show j = 0 ∨ j = 1 ∨ j = 2 ∨ j = 3 by omega) with rfl | rfl | rfl | rfl <;> rfl) (Nat.le_of_ble_eq_true rfl) (Nat.le_of_ble_eq_true rfl) dX2_init_29 (fun q29 H hP hD hS => ?_)
  refine W.widen (k := 4) (n := 46) (by decide) (by decide) ?_
  have hP : va_P D vwCl [(h0, .inr (2, [.ref (q7), .ref (q15), .ref (q23), .null, .null, .int (0), .int (0), .int (0)])), (q7, .inl (cI, 24, .inl ((fun _ => 0)))), (q15, .inl (cI, 9, .inl ((fun _ => 0)))), (q23, .inl (cI, 9, .inl ((fun _ => 0)))), (q29, .inr (0, [.null, .null, .null, .int (0)]))] H := hP
  have hD : va_D Ap [(h0, .inr (2, [.ref (q7), .ref (q15), .ref (q23), .null, .null, .int (0), .int (0), .int (0)])), (q7, .inl (cI, 24, .inl ((fun _ => 0)))), (q15, .inl (cI, 9, .inl ((fun _ => 0)))), (q23, .inl (cI, 9, .inl ((fun _ => 0)))), (q29, .inr (0, [.null, .null, .null, .int (0)]))] := hD
  refine lv_dup hx hb dX2_init_32 rfl ?_
  refine mu_v (wr := [(h0, .inr (2, [.ref (q7), .ref (q15), .ref (q23), .null, .null, .int (0), .int (0), .int (0)])), (q7, .inl (cI, 24, .inl ((fun _ => 0)))), (q15, .inl (cI, 9, .inl ((fun _ => 0)))), (q23, .inl (cI, 9, .inl ((fun _ => 0))))]) (va_runI (As := []) (rest := [.ref (q29), .ref (h0)]) ⟨hx, hb, hml, hown, hts⟩ (c_X0_init l D cI cZ ad (q29)  (H).size) (cwI 0 hts gX2_init_X0_init rfl rfl rfl (hts (.initialized RX0) (by decide +kernel)) (hts (.methodLink RX2 21 yX0_init) (by decide +kernel)) (hts (.instanceMethod yX0_init) (by decide +kernel)) rfl (by decide +kernel) ⟨Nat.le_of_ble_eq_true rfl, Nat.le_of_ble_eq_true rfl⟩) (prw_S (av := .ref (q29) :: []) (hP.sub (ws' := [(q29, .inr (0, [.null, .null, .null, .int (0)]))]) [4] rfl) (hD.sub (ws' := [(q29, .inr (0, [.null, .null, .null, .int (0)]))]) [4] (by decide) rfl) hK) rfl rfl hl.1 rfl (lv_room (Nat.le_of_ble_eq_true rfl)) dX2_init_33 ⟨Nat.le_of_ble_eq_true rfl, Nat.le_of_ble_eq_true rfl⟩) hP hD hS hAp [4] [0, 1, 2, 3] rfl rfl (by decide) (by decide) (fun u_33 H locs hq_33 hP hD hS => ?_)
  obtain ⟨q1_33, q2_33, q3_33⟩ := u_33
  have hP : va_P D vwCl [(h0, .inr (2, [.ref (q7), .ref (q15), .ref (q23), .null, .null, .int (0), .int (0), .int (0)])), (q7, .inl (cI, 24, .inl ((fun _ => 0)))), (q15, .inl (cI, 9, .inl ((fun _ => 0)))), (q23, .inl (cI, 9, .inl ((fun _ => 0)))), (q29, .inr (0, [.ref (q1_33), .ref (q2_33), .ref (q3_33), .int (nI (0))])), (q1_33, .inl (cI, 40, .inl ((fun _ => 0)))), (q2_33, .inl (cI, 40, .inl ((fun _ => 0)))), (q3_33, .inl (cZ, 40, .inl (fun j => bI (((fun _ => false)) j))))] H := hP
  have hD : va_D Ap [(h0, .inr (2, [.ref (q7), .ref (q15), .ref (q23), .null, .null, .int (0), .int (0), .int (0)])), (q7, .inl (cI, 24, .inl ((fun _ => 0)))), (q15, .inl (cI, 9, .inl ((fun _ => 0)))), (q23, .inl (cI, 9, .inl ((fun _ => 0)))), (q29, .inr (0, [.ref (q1_33), .ref (q2_33), .ref (q3_33), .int (nI (0))])), (q1_33, .inl (cI, 40, .inl ((fun _ => 0)))), (q2_33, .inl (cI, 40, .inl ((fun _ => 0)))), (q3_33, .inl (cZ, 40, .inl (fun j => bI (((fun _ => false)) j))))] := hD
  refine W.widen (k := 7) (n := 166) (Nat.le_of_ble_eq_true rfl) (Nat.le_of_ble_eq_true rfl) ?_
  refine va_putF (D := D) (ci := 2) (v := .ref (q29)) (ty := (.object "AssumptionKeeper$RuleBook")) (C := RX2) (T := TX2) (N := 8) hx hb hts hin2 tyX2 tyX2_ok nmX2 hown hK.1 hP hD hS 0 rfl rfl 3 (by decide) f22 (fun _ h9 => h9) rfl hinit rfl (by decide +kernel) rfl rfl (Nat.le_of_ble_eq_true rfl) dX2_init_36 (fun H locs hP hD hS => ?_)
  have hP : va_P D vwCl [(h0, .inr (2, [.ref (q7), .ref (q15), .ref (q23), .ref (q29), .null, .int (0), .int (0), .int (0)])), (q7, .inl (cI, 24, .inl ((fun _ => 0)))), (q15, .inl (cI, 9, .inl ((fun _ => 0)))), (q23, .inl (cI, 9, .inl ((fun _ => 0)))), (q29, .inr (0, [.ref (q1_33), .ref (q2_33), .ref (q3_33), .int (nI (0))])), (q1_33, .inl (cI, 40, .inl ((fun _ => 0)))), (q2_33, .inl (cI, 40, .inl ((fun _ => 0)))), (q3_33, .inl (cZ, 40, .inl (fun j => bI (((fun _ => false)) j))))] H := hP
  have hD : va_D Ap [(h0, .inr (2, [.ref (q7), .ref (q15), .ref (q23), .ref (q29), .null, .int (0), .int (0), .int (0)])), (q7, .inl (cI, 24, .inl ((fun _ => 0)))), (q15, .inl (cI, 9, .inl ((fun _ => 0)))), (q23, .inl (cI, 9, .inl ((fun _ => 0)))), (q29, .inr (0, [.ref (q1_33), .ref (q2_33), .ref (q3_33), .int (nI (0))])), (q1_33, .inl (cI, 40, .inl ((fun _ => 0)))), (q2_33, .inl (cI, 40, .inl ((fun _ => 0)))), (q3_33, .inl (cZ, 40, .inl (fun j => bI (((fun _ => false)) j))))] := hD
  refine lv_aload_n hx hb dX2_init_39 rfl (lv_at hl 0 rfl) ?_
  refine va_new (ci := 1) (fs := [.null, .null, .null, .null, .null, .int 0, .int 0]) (C := RX1) (T := TX1) (N := 7) hx hb hts hin1 tyX1 tyX1_ok hown (hts (.classLink RX2 26 RX1) (by decide +kernel)) (hts (.instantiable RX1 7) (by decide +kernel)) (hts (.initialized RX1) (by decide +kernel)) hK.1 hP hD hS hAp rfl (fun j hj => by rcases (show j = 0 ∨ j = 1 ∨ j = 2 ∨ j = 3 ∨ j = 4 ∨ j = 5 ∨ j = 6 by omega) with rfl | rfl | rfl | rfl | rfl | rfl | rfl <;> rfl) (Nat.le_of_ble_eq_true rfl) (Nat.le_of_ble_eq_true rfl) dX2_init_40 (fun q40 H hP hD hS => ?_)
  refine W.widen (k := 8) (n := 173) (Nat.le_of_ble_eq_true rfl) (Nat.le_of_ble_eq_true rfl) ?_
  have hP : va_P D vwCl [(h0, .inr (2, [.ref (q7), .ref (q15), .ref (q23), .ref (q29), .null, .int (0), .int (0), .int (0)])), (q7, .inl (cI, 24, .inl ((fun _ => 0)))), (q15, .inl (cI, 9, .inl ((fun _ => 0)))), (q23, .inl (cI, 9, .inl ((fun _ => 0)))), (q29, .inr (0, [.ref (q1_33), .ref (q2_33), .ref (q3_33), .int (nI (0))])), (q1_33, .inl (cI, 40, .inl ((fun _ => 0)))), (q2_33, .inl (cI, 40, .inl ((fun _ => 0)))), (q3_33, .inl (cZ, 40, .inl (fun j => bI (((fun _ => false)) j)))), (q40, .inr (1, [.null, .null, .null, .null, .null, .int (0), .int (0)]))] H := hP
  have hD : va_D Ap [(h0, .inr (2, [.ref (q7), .ref (q15), .ref (q23), .ref (q29), .null, .int (0), .int (0), .int (0)])), (q7, .inl (cI, 24, .inl ((fun _ => 0)))), (q15, .inl (cI, 9, .inl ((fun _ => 0)))), (q23, .inl (cI, 9, .inl ((fun _ => 0)))), (q29, .inr (0, [.ref (q1_33), .ref (q2_33), .ref (q3_33), .int (nI (0))])), (q1_33, .inl (cI, 40, .inl ((fun _ => 0)))), (q2_33, .inl (cI, 40, .inl ((fun _ => 0)))), (q3_33, .inl (cZ, 40, .inl (fun j => bI (((fun _ => false)) j)))), (q40, .inr (1, [.null, .null, .null, .null, .null, .int (0), .int (0)]))] := hD
  refine lv_dup hx hb dX2_init_43 rfl ?_
  refine mu_v (wr := [(h0, .inr (2, [.ref (q7), .ref (q15), .ref (q23), .ref (q29), .null, .int (0), .int (0), .int (0)])), (q7, .inl (cI, 24, .inl ((fun _ => 0)))), (q15, .inl (cI, 9, .inl ((fun _ => 0)))), (q23, .inl (cI, 9, .inl ((fun _ => 0)))), (q29, .inr (0, [.ref (q1_33), .ref (q2_33), .ref (q3_33), .int (nI (0))])), (q1_33, .inl (cI, 40, .inl ((fun _ => 0)))), (q2_33, .inl (cI, 40, .inl ((fun _ => 0)))), (q3_33, .inl (cZ, 40, .inl (fun j => bI (((fun _ => false)) j))))]) (va_runI (As := []) (rest := [.ref (q40), .ref (h0)]) ⟨hx, hb, hml, hown, hts⟩ (c_X1_init l D cI cZ ad (q40)  (H).size) (cwI 0 hts gX2_init_X1_init rfl rfl rfl (hts (.initialized RX1) (by decide +kernel)) (hts (.methodLink RX2 28 yX1_init) (by decide +kernel)) (hts (.instanceMethod yX1_init) (by decide +kernel)) rfl (by decide +kernel) ⟨Nat.le_of_ble_eq_true rfl, Nat.le_of_ble_eq_true rfl⟩) (prw_S (av := .ref (q40) :: []) (hP.sub (ws' := [(q40, .inr (1, [.null, .null, .null, .null, .null, .int (0), .int (0)]))]) [8] rfl) (hD.sub (ws' := [(q40, .inr (1, [.null, .null, .null, .null, .null, .int (0), .int (0)]))]) [8] (by decide) rfl) hK) rfl rfl hl.1 rfl (lv_room (Nat.le_of_ble_eq_true rfl)) dX2_init_44 ⟨Nat.le_of_ble_eq_true rfl, Nat.le_of_ble_eq_true rfl⟩) hP hD hS hAp [8] [0, 1, 2, 3, 4, 5, 6, 7] rfl rfl (by decide) (by decide) (fun u_44 H locs hq_44 hP hD hS => ?_)
  obtain ⟨q1_44, q2_44, q3_44, q4_44, q5_44⟩ := u_44
  have hP : va_P D vwCl [(h0, .inr (2, [.ref (q7), .ref (q15), .ref (q23), .ref (q29), .null, .int (0), .int (0), .int (0)])), (q7, .inl (cI, 24, .inl ((fun _ => 0)))), (q15, .inl (cI, 9, .inl ((fun _ => 0)))), (q23, .inl (cI, 9, .inl ((fun _ => 0)))), (q29, .inr (0, [.ref (q1_33), .ref (q2_33), .ref (q3_33), .int (nI (0))])), (q1_33, .inl (cI, 40, .inl ((fun _ => 0)))), (q2_33, .inl (cI, 40, .inl ((fun _ => 0)))), (q3_33, .inl (cZ, 40, .inl (fun j => bI (((fun _ => false)) j)))), (q40, .inr (1, [.ref (q1_44), .ref (q2_44), .ref (q3_44), .ref (q4_44), .ref (q5_44), .int (nI (0)), .int (nI (1))])), (q1_44, .inl (cI, 512, .inl ((fun _ => 0)))), (q2_44, .inl (cI, 512, .inl ((fun _ => 0)))), (q3_44, .inl (cZ, 512, .inl (fun j => bI (((fun _ => false)) j)))), (q4_44, .inl (cZ, 512, .inl (fun j => bI (((fun _ => false)) j)))), (q5_44, .inl (cZ, 512, .inl (fun j => bI (((fun _ => false)) j))))] H := hP
  have hD : va_D Ap [(h0, .inr (2, [.ref (q7), .ref (q15), .ref (q23), .ref (q29), .null, .int (0), .int (0), .int (0)])), (q7, .inl (cI, 24, .inl ((fun _ => 0)))), (q15, .inl (cI, 9, .inl ((fun _ => 0)))), (q23, .inl (cI, 9, .inl ((fun _ => 0)))), (q29, .inr (0, [.ref (q1_33), .ref (q2_33), .ref (q3_33), .int (nI (0))])), (q1_33, .inl (cI, 40, .inl ((fun _ => 0)))), (q2_33, .inl (cI, 40, .inl ((fun _ => 0)))), (q3_33, .inl (cZ, 40, .inl (fun j => bI (((fun _ => false)) j)))), (q40, .inr (1, [.ref (q1_44), .ref (q2_44), .ref (q3_44), .ref (q4_44), .ref (q5_44), .int (nI (0)), .int (nI (1))])), (q1_44, .inl (cI, 512, .inl ((fun _ => 0)))), (q2_44, .inl (cI, 512, .inl ((fun _ => 0)))), (q3_44, .inl (cZ, 512, .inl (fun j => bI (((fun _ => false)) j)))), (q4_44, .inl (cZ, 512, .inl (fun j => bI (((fun _ => false)) j)))), (q5_44, .inl (cZ, 512, .inl (fun j => bI (((fun _ => false)) j))))] := hD
  refine W.widen (k := 13) (n := 2733) (Nat.le_of_ble_eq_true rfl) (Nat.le_of_ble_eq_true rfl) ?_
  refine va_putF (D := D) (ci := 2) (v := .ref (q40)) (ty := (.object "AssumptionKeeper$Survey")) (C := RX2) (T := TX2) (N := 8) hx hb hts hin2 tyX2 tyX2_ok nmX2 hown hK.1 hP hD hS 0 rfl rfl 4 (by decide) f29 (fun _ h9 => h9) rfl hinit rfl (by decide +kernel) rfl rfl (Nat.le_of_ble_eq_true rfl) dX2_init_47 (fun H locs hP hD hS => ?_)
  have hP : va_P D vwCl [(h0, .inr (2, [.ref (q7), .ref (q15), .ref (q23), .ref (q29), .ref (q40), .int (0), .int (0), .int (0)])), (q7, .inl (cI, 24, .inl ((fun _ => 0)))), (q15, .inl (cI, 9, .inl ((fun _ => 0)))), (q23, .inl (cI, 9, .inl ((fun _ => 0)))), (q29, .inr (0, [.ref (q1_33), .ref (q2_33), .ref (q3_33), .int (nI (0))])), (q1_33, .inl (cI, 40, .inl ((fun _ => 0)))), (q2_33, .inl (cI, 40, .inl ((fun _ => 0)))), (q3_33, .inl (cZ, 40, .inl (fun j => bI (((fun _ => false)) j)))), (q40, .inr (1, [.ref (q1_44), .ref (q2_44), .ref (q3_44), .ref (q4_44), .ref (q5_44), .int (nI (0)), .int (nI (1))])), (q1_44, .inl (cI, 512, .inl ((fun _ => 0)))), (q2_44, .inl (cI, 512, .inl ((fun _ => 0)))), (q3_44, .inl (cZ, 512, .inl (fun j => bI (((fun _ => false)) j)))), (q4_44, .inl (cZ, 512, .inl (fun j => bI (((fun _ => false)) j)))), (q5_44, .inl (cZ, 512, .inl (fun j => bI (((fun _ => false)) j))))] H := hP
  have hD : va_D Ap [(h0, .inr (2, [.ref (q7), .ref (q15), .ref (q23), .ref (q29), .ref (q40), .int (0), .int (0), .int (0)])), (q7, .inl (cI, 24, .inl ((fun _ => 0)))), (q15, .inl (cI, 9, .inl ((fun _ => 0)))), (q23, .inl (cI, 9, .inl ((fun _ => 0)))), (q29, .inr (0, [.ref (q1_33), .ref (q2_33), .ref (q3_33), .int (nI (0))])), (q1_33, .inl (cI, 40, .inl ((fun _ => 0)))), (q2_33, .inl (cI, 40, .inl ((fun _ => 0)))), (q3_33, .inl (cZ, 40, .inl (fun j => bI (((fun _ => false)) j)))), (q40, .inr (1, [.ref (q1_44), .ref (q2_44), .ref (q3_44), .ref (q4_44), .ref (q5_44), .int (nI (0)), .int (nI (1))])), (q1_44, .inl (cI, 512, .inl ((fun _ => 0)))), (q2_44, .inl (cI, 512, .inl ((fun _ => 0)))), (q3_44, .inl (cZ, 512, .inl (fun j => bI (((fun _ => false)) j)))), (q4_44, .inl (cZ, 512, .inl (fun j => bI (((fun _ => false)) j)))), (q5_44, .inl (cZ, 512, .inl (fun j => bI (((fun _ => false)) j))))] := hD
  refine lv_aload_n hx hb dX2_init_50 rfl (lv_at hl 0 rfl) ?_
  refine lv_iconst (v := 0) hx hb dX2_init_51 (by decide) ?_
  refine va_put (D := D) (ci := 2) (v := .int (0)) (ty := .int) (C := RX2) (T := TX2) (N := 8) hx hb hts hin2 tyX2 tyX2_ok nmX2 hown hK.1 hP hD hS 0 rfl rfl 5 (by decide) f33 (fun _ h9 => h9) rfl (by decide +kernel) rfl rfl (Nat.le_of_ble_eq_true rfl) dX2_init_52 (fun H locs hP hD hS => ?_)
  have hP : va_P D vwCl [(h0, .inr (2, [.ref (q7), .ref (q15), .ref (q23), .ref (q29), .ref (q40), .int (0), .int (0), .int (0)])), (q7, .inl (cI, 24, .inl ((fun _ => 0)))), (q15, .inl (cI, 9, .inl ((fun _ => 0)))), (q23, .inl (cI, 9, .inl ((fun _ => 0)))), (q29, .inr (0, [.ref (q1_33), .ref (q2_33), .ref (q3_33), .int (nI (0))])), (q1_33, .inl (cI, 40, .inl ((fun _ => 0)))), (q2_33, .inl (cI, 40, .inl ((fun _ => 0)))), (q3_33, .inl (cZ, 40, .inl (fun j => bI (((fun _ => false)) j)))), (q40, .inr (1, [.ref (q1_44), .ref (q2_44), .ref (q3_44), .ref (q4_44), .ref (q5_44), .int (nI (0)), .int (nI (1))])), (q1_44, .inl (cI, 512, .inl ((fun _ => 0)))), (q2_44, .inl (cI, 512, .inl ((fun _ => 0)))), (q3_44, .inl (cZ, 512, .inl (fun j => bI (((fun _ => false)) j)))), (q4_44, .inl (cZ, 512, .inl (fun j => bI (((fun _ => false)) j)))), (q5_44, .inl (cZ, 512, .inl (fun j => bI (((fun _ => false)) j))))] H := hP
  have hD : va_D Ap [(h0, .inr (2, [.ref (q7), .ref (q15), .ref (q23), .ref (q29), .ref (q40), .int (0), .int (0), .int (0)])), (q7, .inl (cI, 24, .inl ((fun _ => 0)))), (q15, .inl (cI, 9, .inl ((fun _ => 0)))), (q23, .inl (cI, 9, .inl ((fun _ => 0)))), (q29, .inr (0, [.ref (q1_33), .ref (q2_33), .ref (q3_33), .int (nI (0))])), (q1_33, .inl (cI, 40, .inl ((fun _ => 0)))), (q2_33, .inl (cI, 40, .inl ((fun _ => 0)))), (q3_33, .inl (cZ, 40, .inl (fun j => bI (((fun _ => false)) j)))), (q40, .inr (1, [.ref (q1_44), .ref (q2_44), .ref (q3_44), .ref (q4_44), .ref (q5_44), .int (nI (0)), .int (nI (1))])), (q1_44, .inl (cI, 512, .inl ((fun _ => 0)))), (q2_44, .inl (cI, 512, .inl ((fun _ => 0)))), (q3_44, .inl (cZ, 512, .inl (fun j => bI (((fun _ => false)) j)))), (q4_44, .inl (cZ, 512, .inl (fun j => bI (((fun _ => false)) j)))), (q5_44, .inl (cZ, 512, .inl (fun j => bI (((fun _ => false)) j))))] := hD
  refine lv_aload_n hx hb dX2_init_55 rfl (lv_at hl 0 rfl) ?_
  refine lv_iconst (v := 0) hx hb dX2_init_56 (by decide) ?_
  refine va_put (D := D) (ci := 2) (v := .int (0)) (ty := .int) (C := RX2) (T := TX2) (N := 8) hx hb hts hin2 tyX2 tyX2_ok nmX2 hown hK.1 hP hD hS 0 rfl rfl 6 (by decide) f37 (fun _ h9 => h9) rfl (by decide +kernel) rfl rfl (Nat.le_of_ble_eq_true rfl) dX2_init_57 (fun H locs hP hD hS => ?_)
  have hP : va_P D vwCl [(h0, .inr (2, [.ref (q7), .ref (q15), .ref (q23), .ref (q29), .ref (q40), .int (0), .int (0), .int (0)])), (q7, .inl (cI, 24, .inl ((fun _ => 0)))), (q15, .inl (cI, 9, .inl ((fun _ => 0)))), (q23, .inl (cI, 9, .inl ((fun _ => 0)))), (q29, .inr (0, [.ref (q1_33), .ref (q2_33), .ref (q3_33), .int (nI (0))])), (q1_33, .inl (cI, 40, .inl ((fun _ => 0)))), (q2_33, .inl (cI, 40, .inl ((fun _ => 0)))), (q3_33, .inl (cZ, 40, .inl (fun j => bI (((fun _ => false)) j)))), (q40, .inr (1, [.ref (q1_44), .ref (q2_44), .ref (q3_44), .ref (q4_44), .ref (q5_44), .int (nI (0)), .int (nI (1))])), (q1_44, .inl (cI, 512, .inl ((fun _ => 0)))), (q2_44, .inl (cI, 512, .inl ((fun _ => 0)))), (q3_44, .inl (cZ, 512, .inl (fun j => bI (((fun _ => false)) j)))), (q4_44, .inl (cZ, 512, .inl (fun j => bI (((fun _ => false)) j)))), (q5_44, .inl (cZ, 512, .inl (fun j => bI (((fun _ => false)) j))))] H := hP
  have hD : va_D Ap [(h0, .inr (2, [.ref (q7), .ref (q15), .ref (q23), .ref (q29), .ref (q40), .int (0), .int (0), .int (0)])), (q7, .inl (cI, 24, .inl ((fun _ => 0)))), (q15, .inl (cI, 9, .inl ((fun _ => 0)))), (q23, .inl (cI, 9, .inl ((fun _ => 0)))), (q29, .inr (0, [.ref (q1_33), .ref (q2_33), .ref (q3_33), .int (nI (0))])), (q1_33, .inl (cI, 40, .inl ((fun _ => 0)))), (q2_33, .inl (cI, 40, .inl ((fun _ => 0)))), (q3_33, .inl (cZ, 40, .inl (fun j => bI (((fun _ => false)) j)))), (q40, .inr (1, [.ref (q1_44), .ref (q2_44), .ref (q3_44), .ref (q4_44), .ref (q5_44), .int (nI (0)), .int (nI (1))])), (q1_44, .inl (cI, 512, .inl ((fun _ => 0)))), (q2_44, .inl (cI, 512, .inl ((fun _ => 0)))), (q3_44, .inl (cZ, 512, .inl (fun j => bI (((fun _ => false)) j)))), (q4_44, .inl (cZ, 512, .inl (fun j => bI (((fun _ => false)) j)))), (q5_44, .inl (cZ, 512, .inl (fun j => bI (((fun _ => false)) j))))] := hD
  refine lv_aload_n hx hb dX2_init_60 rfl (lv_at hl 0 rfl) ?_
  refine lv_iconst (v := 0) hx hb dX2_init_61 (by decide) ?_
  refine va_put (D := D) (ci := 2) (v := .int (bI (false))) (ty := .boolean) (C := RX2) (T := TX2) (N := 8) hx hb hts hin2 tyX2 tyX2_ok nmX2 hown hK.1 hP hD hS 0 rfl rfl 7 (by decide) f40 (fun _ h9 => h9) rfl (by decide +kernel) (bI_nar _) rfl (Nat.le_of_ble_eq_true rfl) dX2_init_62 (fun H locs hP hD hS => ?_)
  have hP : va_P D vwCl [(h0, .inr (2, [.ref (q7), .ref (q15), .ref (q23), .ref (q29), .ref (q40), .int (0), .int (0), .int (bI (false))])), (q7, .inl (cI, 24, .inl ((fun _ => 0)))), (q15, .inl (cI, 9, .inl ((fun _ => 0)))), (q23, .inl (cI, 9, .inl ((fun _ => 0)))), (q29, .inr (0, [.ref (q1_33), .ref (q2_33), .ref (q3_33), .int (nI (0))])), (q1_33, .inl (cI, 40, .inl ((fun _ => 0)))), (q2_33, .inl (cI, 40, .inl ((fun _ => 0)))), (q3_33, .inl (cZ, 40, .inl (fun j => bI (((fun _ => false)) j)))), (q40, .inr (1, [.ref (q1_44), .ref (q2_44), .ref (q3_44), .ref (q4_44), .ref (q5_44), .int (nI (0)), .int (nI (1))])), (q1_44, .inl (cI, 512, .inl ((fun _ => 0)))), (q2_44, .inl (cI, 512, .inl ((fun _ => 0)))), (q3_44, .inl (cZ, 512, .inl (fun j => bI (((fun _ => false)) j)))), (q4_44, .inl (cZ, 512, .inl (fun j => bI (((fun _ => false)) j)))), (q5_44, .inl (cZ, 512, .inl (fun j => bI (((fun _ => false)) j))))] H := hP
  have hD : va_D Ap [(h0, .inr (2, [.ref (q7), .ref (q15), .ref (q23), .ref (q29), .ref (q40), .int (0), .int (0), .int (bI (false))])), (q7, .inl (cI, 24, .inl ((fun _ => 0)))), (q15, .inl (cI, 9, .inl ((fun _ => 0)))), (q23, .inl (cI, 9, .inl ((fun _ => 0)))), (q29, .inr (0, [.ref (q1_33), .ref (q2_33), .ref (q3_33), .int (nI (0))])), (q1_33, .inl (cI, 40, .inl ((fun _ => 0)))), (q2_33, .inl (cI, 40, .inl ((fun _ => 0)))), (q3_33, .inl (cZ, 40, .inl (fun j => bI (((fun _ => false)) j)))), (q40, .inr (1, [.ref (q1_44), .ref (q2_44), .ref (q3_44), .ref (q4_44), .ref (q5_44), .int (nI (0)), .int (nI (1))])), (q1_44, .inl (cI, 512, .inl ((fun _ => 0)))), (q2_44, .inl (cI, 512, .inl ((fun _ => 0)))), (q3_44, .inl (cZ, 512, .inl (fun j => bI (((fun _ => false)) j)))), (q4_44, .inl (cZ, 512, .inl (fun j => bI (((fun _ => false)) j)))), (q5_44, .inl (cZ, 512, .inl (fun j => bI (((fun _ => false)) j))))] := hD
  have hP : va_P D vwCl (wK cI cZ (adl [h0, q7, q15, q23, q29, q1_33, q2_33, q3_33, q40, q1_44, q2_44, q3_44, q4_44, q5_44]) 0 0 false ((fun _ => 0)) ((fun _ => 0)) ((fun _ => 0)) ((fun _ => 0)) ((fun _ => 0)) ((fun _ => false)) 0 ((fun _ => 0)) ((fun _ => 0)) ((fun _ => false)) ((fun _ => false)) ((fun _ => false)) 0 1) H := hP.sub [0, 1, 2, 3, 4, 5, 6, 7, 8, 9, 10, 11, 12, 13] rfl
  have hD : va_D Ap (wK cI cZ (adl [h0, q7, q15, q23, q29, q1_33, q2_33, q3_33, q40, q1_44, q2_44, q3_44, q4_44, q5_44]) 0 0 false ((fun _ => 0)) ((fun _ => 0)) ((fun _ => 0)) ((fun _ => 0)) ((fun _ => 0)) ((fun _ => false)) 0 ((fun _ => 0)) ((fun _ => 0)) ((fun _ => false)) ((fun _ => false)) ((fun _ => false)) 0 1) := hD.sub [0, 1, 2, 3, 4, 5, 6, 7, 8, 9, 10, 11, 12, 13] (by decide) rfl
  exact mr_v (u := (q7, q15, q23, q29, q1_33, q2_33, q3_33, q40, q1_44, q2_44, q3_44, q4_44, q5_44)) hx hb hrt hlk dX2_init_65 hS hP hD trivial
set_option maxHeartbeats 4000000 in
set_option maxRecDepth 100000 in
theorem c_X3_init (l : Launch) (D : va_G) (cI cZ : ClassId) (ad : Nat → Nat) (h0 : Nat) (sz : Nat) : Met l yX3_init wsX3_init ({ frames := 1, cells := 8, slots := 1186, locals := 14 }) (pcW D [(cI, .int), (cZ, .boolean)] sz [(h0, .inr (3, [.int (0), .int (0), .null, .int (0), .null, .null, .int (0), .null, .null, .null, .int (0), .null, .null]))] [.ref (h0)]) (va_Qv (fun u9 : (Nat) × (Nat) × (Nat) × (Nat) × (Nat) × (Nat) × (Nat) × (Nat) => (True)) (wB D (va_A [(h0, .inr (3, [.int (0), .int (0), .null, .int (0), .null, .null, .int (0), .null, .null, .null, .int (0), .null, .null]))] sz) (fun u9 : (Nat) × (Nat) × (Nat) × (Nat) × (Nat) × (Nat) × (Nat) × (Nat) => (wM cI cZ (adl [h0, u9.1, u9.2.1, u9.2.2.1, u9.2.2.2.1, u9.2.2.2.2.1, u9.2.2.2.2.2.1, u9.2.2.2.2.2.2.1, u9.2.2.2.2.2.2.2]) 0 0 0 0 false ((fun _ => 0)) ((fun _ => 0)) ((fun _ => 0)) ((fun _ => 0)) ((fun _ => 0)) ((fun _ => false)) ((fun _ => 0)) ((fun _ => false))))) (va_A [(h0, .inr (3, [.int (0), .int (0), .null, .int (0), .null, .null, .int (0), .null, .null, .null, .int (0), .null, .null]))] sz)) 8 1186 (va_A [(h0, .inr (3, [.int (0), .int (0), .null, .int (0), .null, .null, .int (0), .null, .null, .null, .int (0), .null, .null]))] sz) := by
  refine Met.ofW (cc := cX3_init) (maxL := 1) (ret := none) (by decide) rfl ?_
  intro p e s m args below meth c s₁ BB hml hv
  obtain ⟨rfl, hsz, hP, hK, hD0⟩ := hv
  have hx := BB.exec
  have hb := BB.bytes
  have hrt := BB.returns
  have hts := atoms_spec (ws := wsX3_init) BB.pre
  have hown : s.vm.findClass RX3 = some m.cls := findClass_of_methodNamed BB.named
  have hlk := BB.notSynchronized
  have hinit : meth.name = "<init>" := (name_of_methodNamed BB.named BB.method).1
  subst hsz
  have hD := hD0.self (sz := s.heap.size)
  generalize hAe : va_A [(h0, .inr (3, [.int (0), .int (0), .null, .int (0), .null, .null, .int (0), .null, .null, .null, .int (0), .null, .null]))] s.heap.size = Ap at hD ⊢
  have hAp : ∀ q : Nat, s.heap.size ≤ q → Ap q := fun q h => by rw [← hAe]; exact Or.inr h
  have hS : va_S Ap s.heap s.heap [] := va_S.rf
  have f9 := hts (.fieldLink RX3 9 "AssumptionKeeperModel" "assumptionNumbers" "[I") (by decide +kernel)
  have f13 := hts (.fieldLink RX3 13 "AssumptionKeeperModel" "nodeNumbers" "[I") (by decide +kernel)
  have f16 := hts (.fieldLink RX3 16 "AssumptionKeeperModel" "weights" "[I") (by decide +kernel)
  have f19 := hts (.fieldLink RX3 19 "AssumptionKeeperModel" "bodies" "[I") (by decide +kernel)
  have f22 := hts (.fieldLink RX3 22 "AssumptionKeeperModel" "heads" "[I") (by decide +kernel)
  have f25 := hts (.fieldLink RX3 25 "AssumptionKeeperModel" "areOn" "[Z") (by decide +kernel)
  have f29 := hts (.fieldLink RX3 29 "AssumptionKeeperModel" "held" "[I") (by decide +kernel)
  have f32 := hts (.fieldLink RX3 32 "AssumptionKeeperModel" "areConsistent" "[Z") (by decide +kernel)
  have hin3 : ∀ w ∈ u_ws RX3 TX3 13, w ∈ wsX3_init := by decide +kernel
  have hl := lv_entry ([.ref (h0)]) (n := 1) (Nat.le_of_ble_eq_true rfl)
  rw [lg_entry_eq]
  generalize (lg_sl ([.ref (h0)]) ++ List.replicate (1 - (lg_sl ([.ref (h0)])).length) Slot.unset).toArray = ls at hl ⊢
  have hl : lv_has ls 1 [(0, .ref (h0))] := hl
  refine lv_aload_n hx hb dX3_init_0 rfl (lv_at hl 0 rfl) ?_
  refine W.objInit hx hb hown (hts (.methodLink RX3 1 objectInit) (by decide +kernel)) (hts (.instanceMethod objectInit) (by decide +kernel)) (hts (.code objectInit ⟨#[0xb1]⟩ 1 none) (by decide +kernel)) rfl (by rw [hml]; exact hl.1) rfl dX3_init_1 (Nat.le_of_ble_eq_true rfl) (Nat.le_of_ble_eq_true rfl) ?_
  refine W.eq (g2 := F0 m 4 ls []) rfl ?_
  refine lv_aload_n hx hb dX3_init_4 rfl (lv_at hl 0 rfl) ?_
  refine lv_bipush (v := 24) hx hb dX3_init_5 (by decide) ?_
  refine na_i (n := 24) hx hb (hts (.arrayClass .int) (by decide +kernel)) hK hP hD hS hAp 0 rfl (by decide) (Nat.le_of_ble_eq_true rfl) (Nat.le_of_ble_eq_true rfl) dX3_init_7 (fun q7 H hP hD hS => ?_)
  refine W.widen (k := 1) (n := 24) (by decide) (by decide) ?_
  have hP : va_P D vwCl [(h0, .inr (3, [.int (0), .int (0), .null, .int (0), .null, .null, .int (0), .null, .null, .null, .int (0), .null, .null])), (q7, .inl (cI, 24, .inl ((fun _ => 0))))] H := hP
  have hD : va_D Ap [(h0, .inr (3, [.int (0), .int (0), .null, .int (0), .null, .null, .int (0), .null, .null, .null, .int (0), .null, .null])), (q7, .inl (cI, 24, .inl ((fun _ => 0))))] := hD
  refine va_putF (D := D) (ci := 3) (v := .ref (q7)) (ty := (.array .int)) (C := RX3) (T := TX3) (N := 13) hx hb hts hin3 tyX3 tyX3_ok nmX3 hown hK.1 hP hD hS 0 rfl rfl 2 (by decide) f9 (fun _ h9 => h9) rfl hinit rfl (by decide +kernel) rfl rfl (Nat.le_of_ble_eq_true rfl) dX3_init_9 (fun H locs hP hD hS => ?_)
  have hP : va_P D vwCl [(h0, .inr (3, [.int (0), .int (0), .ref (q7), .int (0), .null, .null, .int (0), .null, .null, .null, .int (0), .null, .null])), (q7, .inl (cI, 24, .inl ((fun _ => 0))))] H := hP
  have hD : va_D Ap [(h0, .inr (3, [.int (0), .int (0), .ref (q7), .int (0), .null, .null, .int (0), .null, .null, .null, .int (0), .null, .null])), (q7, .inl (cI, 24, .inl ((fun _ => 0))))] := hD
  refine lv_aload_n hx hb dX3_init_12 rfl (lv_at hl 0 rfl) ?_
  refine lv_bipush (v := 9) hx hb dX3_init_13 (by decide) ?_
  refine na_i (n := 9) hx hb (hts (.arrayClass .int) (by decide +kernel)) hK hP hD hS hAp 0 rfl (by decide) (Nat.le_of_ble_eq_true rfl) (Nat.le_of_ble_eq_true rfl) dX3_init_15 (fun q15 H hP hD hS => ?_)
  refine W.widen (k := 2) (n := 33) (by decide) (by decide) ?_
  have hP : va_P D vwCl [(h0, .inr (3, [.int (0), .int (0), .ref (q7), .int (0), .null, .null, .int (0), .null, .null, .null, .int (0), .null, .null])), (q7, .inl (cI, 24, .inl ((fun _ => 0)))), (q15, .inl (cI, 9, .inl ((fun _ => 0))))] H := hP
  have hD : va_D Ap [(h0, .inr (3, [.int (0), .int (0), .ref (q7), .int (0), .null, .null, .int (0), .null, .null, .null, .int (0), .null, .null])), (q7, .inl (cI, 24, .inl ((fun _ => 0)))), (q15, .inl (cI, 9, .inl ((fun _ => 0))))] := hD
  refine va_putF (D := D) (ci := 3) (v := .ref (q15)) (ty := (.array .int)) (C := RX3) (T := TX3) (N := 13) hx hb hts hin3 tyX3 tyX3_ok nmX3 hown hK.1 hP hD hS 0 rfl rfl 4 (by decide) f13 (fun _ h9 => h9) rfl hinit rfl (by decide +kernel) rfl rfl (Nat.le_of_ble_eq_true rfl) dX3_init_17 (fun H locs hP hD hS => ?_)
  have hP : va_P D vwCl [(h0, .inr (3, [.int (0), .int (0), .ref (q7), .int (0), .ref (q15), .null, .int (0), .null, .null, .null, .int (0), .null, .null])), (q7, .inl (cI, 24, .inl ((fun _ => 0)))), (q15, .inl (cI, 9, .inl ((fun _ => 0))))] H := hP
  have hD : va_D Ap [(h0, .inr (3, [.int (0), .int (0), .ref (q7), .int (0), .ref (q15), .null, .int (0), .null, .null, .null, .int (0), .null, .null])), (q7, .inl (cI, 24, .inl ((fun _ => 0)))), (q15, .inl (cI, 9, .inl ((fun _ => 0))))] := hD
  refine lv_aload_n hx hb dX3_init_20 rfl (lv_at hl 0 rfl) ?_
  refine lv_bipush (v := 9) hx hb dX3_init_21 (by decide) ?_
  refine na_i (n := 9) hx hb (hts (.arrayClass .int) (by decide +kernel)) hK hP hD hS hAp 0 rfl (by decide) (Nat.le_of_ble_eq_true rfl) (Nat.le_of_ble_eq_true rfl) dX3_init_23 (fun q23 H hP hD hS => ?_)
  refine W.widen (k := 3) (n := 42) (by decide) (by decide) ?_
  have hP : va_P D vwCl [(h0, .inr (3, [.int (0), .int (0), .ref (q7), .int (0), .ref (q15), .null, .int (0), .null, .null, .null, .int (0), .null, .null])), (q7, .inl (cI, 24, .inl ((fun _ => 0)))), (q15, .inl (cI, 9, .inl ((fun _ => 0)))), (q23, .inl (cI, 9, .inl ((fun _ => 0))))] H := hP
  have hD : va_D Ap [(h0, .inr (3, [.int (0), .int (0), .ref (q7), .int (0), .ref (q15), .null, .int (0), .null, .null, .null, .int (0), .null, .null])), (q7, .inl (cI, 24, .inl ((fun _ => 0)))), (q15, .inl (cI, 9, .inl ((fun _ => 0)))), (q23, .inl (cI, 9, .inl ((fun _ => 0))))] := hD
  refine va_putF (D := D) (ci := 3) (v := .ref (q23)) (ty := (.array .int)) (C := RX3) (T := TX3) (N := 13) hx hb hts hin3 tyX3 tyX3_ok nmX3 hown hK.1 hP hD hS 0 rfl rfl 5 (by decide) f16 (fun _ h9 => h9) rfl hinit rfl (by decide +kernel) rfl rfl (Nat.le_of_ble_eq_true rfl) dX3_init_25 (fun H locs hP hD hS => ?_)
  have hP : va_P D vwCl [(h0, .inr (3, [.int (0), .int (0), .ref (q7), .int (0), .ref (q15), .ref (q23), .int (0), .null, .null, .null, .int (0), .null, .null])), (q7, .inl (cI, 24, .inl ((fun _ => 0)))), (q15, .inl (cI, 9, .inl ((fun _ => 0)))), (q23, .inl (cI, 9, .inl ((fun _ => 0))))] H := hP
  have hD : va_D Ap [(h0, .inr (3, [.int (0), .int (0), .ref (q7), .int (0), .ref (q15), .ref (q23), .int (0), .null, .null, .null, .int (0), .null, .null])), (q7, .inl (cI, 24, .inl ((fun _ => 0)))), (q15, .inl (cI, 9, .inl ((fun _ => 0)))), (q23, .inl (cI, 9, .inl ((fun _ => 0))))] := hD
  refine lv_aload_n hx hb dX3_init_28 rfl (lv_at hl 0 rfl) ?_
  refine lv_bipush (v := 40) hx hb dX3_init_29 (by decide) ?_
  refine na_i (n := 40) hx hb (hts (.arrayClass .int) (by decide +kernel)) hK hP hD hS hAp 0 rfl (by decide) (Nat.le_of_ble_eq_true rfl) (Nat.le_of_ble_eq_true rfl) dX3_init_31 (fun q31 H hP hD hS => ?_)
  refine W.widen (k := 4) (n := 82) (Nat.le_of_ble_eq_true rfl) (Nat.le_of_ble_eq_true rfl) ?_
  have hP : va_P D vwCl [(h0, .inr (3, [.int (0), .int (0), .ref (q7), .int (0), .ref (q15), .ref (q23), .int (0), .null, .null, .null, .int (0), .null, .null])), (q7, .inl (cI, 24, .inl ((fun _ => 0)))), (q15, .inl (cI, 9, .inl ((fun _ => 0)))), (q23, .inl (cI, 9, .inl ((fun _ => 0)))), (q31, .inl (cI, 40, .inl ((fun _ => 0))))] H := hP
  have hD : va_D Ap [(h0, .inr (3, [.int (0), .int (0), .ref (q7), .int (0), .ref (q15), .ref (q23), .int (0), .null, .null, .null, .int (0), .null, .null])), (q7, .inl (cI, 24, .inl ((fun _ => 0)))), (q15, .inl (cI, 9, .inl ((fun _ => 0)))), (q23, .inl (cI, 9, .inl ((fun _ => 0)))), (q31, .inl (cI, 40, .inl ((fun _ => 0))))] := hD
  refine va_putF (D := D) (ci := 3) (v := .ref (q31)) (ty := (.array .int)) (C := RX3) (T := TX3) (N := 13) hx hb hts hin3 tyX3 tyX3_ok nmX3 hown hK.1 hP hD hS 0 rfl rfl 7 (by decide) f19 (fun _ h9 => h9) rfl hinit rfl (by decide +kernel) rfl rfl (Nat.le_of_ble_eq_true rfl) dX3_init_33 (fun H locs hP hD hS => ?_)
  have hP : va_P D vwCl [(h0, .inr (3, [.int (0), .int (0), .ref (q7), .int (0), .ref (q15), .ref (q23), .int (0), .ref (q31), .null, .null, .int (0), .null, .null])), (q7, .inl (cI, 24, .inl ((fun _ => 0)))), (q15, .inl (cI, 9, .inl ((fun _ => 0)))), (q23, .inl (cI, 9, .inl ((fun _ => 0)))), (q31, .inl (cI, 40, .inl ((fun _ => 0))))] H := hP
  have hD : va_D Ap [(h0, .inr (3, [.int (0), .int (0), .ref (q7), .int (0), .ref (q15), .ref (q23), .int (0), .ref (q31), .null, .null, .int (0), .null, .null])), (q7, .inl (cI, 24, .inl ((fun _ => 0)))), (q15, .inl (cI, 9, .inl ((fun _ => 0)))), (q23, .inl (cI, 9, .inl ((fun _ => 0)))), (q31, .inl (cI, 40, .inl ((fun _ => 0))))] := hD
  refine lv_aload_n hx hb dX3_init_36 rfl (lv_at hl 0 rfl) ?_
  refine lv_bipush (v := 40) hx hb dX3_init_37 (by decide) ?_
  refine na_i (n := 40) hx hb (hts (.arrayClass .int) (by decide +kernel)) hK hP hD hS hAp 0 rfl (by decide) (Nat.le_of_ble_eq_true rfl) (Nat.le_of_ble_eq_true rfl) dX3_init_39 (fun q39 H hP hD hS => ?_)
  refine W.widen (k := 5) (n := 122) (Nat.le_of_ble_eq_true rfl) (Nat.le_of_ble_eq_true rfl) ?_
  have hP : va_P D vwCl [(h0, .inr (3, [.int (0), .int (0), .ref (q7), .int (0), .ref (q15), .ref (q23), .int (0), .ref (q31), .null, .null, .int (0), .null, .null])), (q7, .inl (cI, 24, .inl ((fun _ => 0)))), (q15, .inl (cI, 9, .inl ((fun _ => 0)))), (q23, .inl (cI, 9, .inl ((fun _ => 0)))), (q31, .inl (cI, 40, .inl ((fun _ => 0)))), (q39, .inl (cI, 40, .inl ((fun _ => 0))))] H := hP
  have hD : va_D Ap [(h0, .inr (3, [.int (0), .int (0), .ref (q7), .int (0), .ref (q15), .ref (q23), .int (0), .ref (q31), .null, .null, .int (0), .null, .null])), (q7, .inl (cI, 24, .inl ((fun _ => 0)))), (q15, .inl (cI, 9, .inl ((fun _ => 0)))), (q23, .inl (cI, 9, .inl ((fun _ => 0)))), (q31, .inl (cI, 40, .inl ((fun _ => 0)))), (q39, .inl (cI, 40, .inl ((fun _ => 0))))] := hD
  refine va_putF (D := D) (ci := 3) (v := .ref (q39)) (ty := (.array .int)) (C := RX3) (T := TX3) (N := 13) hx hb hts hin3 tyX3 tyX3_ok nmX3 hown hK.1 hP hD hS 0 rfl rfl 8 (by decide) f22 (fun _ h9 => h9) rfl hinit rfl (by decide +kernel) rfl rfl (Nat.le_of_ble_eq_true rfl) dX3_init_41 (fun H locs hP hD hS => ?_)
  have hP : va_P D vwCl [(h0, .inr (3, [.int (0), .int (0), .ref (q7), .int (0), .ref (q15), .ref (q23), .int (0), .ref (q31), .ref (q39), .null, .int (0), .null, .null])), (q7, .inl (cI, 24, .inl ((fun _ => 0)))), (q15, .inl (cI, 9, .inl ((fun _ => 0)))), (q23, .inl (cI, 9, .inl ((fun _ => 0)))), (q31, .inl (cI, 40, .inl ((fun _ => 0)))), (q39, .inl (cI, 40, .inl ((fun _ => 0))))] H := hP
  have hD : va_D Ap [(h0, .inr (3, [.int (0), .int (0), .ref (q7), .int (0), .ref (q15), .ref (q23), .int (0), .ref (q31), .ref (q39), .null, .int (0), .null, .null])), (q7, .inl (cI, 24, .inl ((fun _ => 0)))), (q15, .inl (cI, 9, .inl ((fun _ => 0)))), (q23, .inl (cI, 9, .inl ((fun _ => 0)))), (q31, .inl (cI, 40, .inl ((fun _ => 0)))), (q39, .inl (cI, 40, .inl ((fun _ => 0))))] := hD
  refine lv_aload_n hx hb dX3_init_44 rfl (lv_at hl 0 rfl) ?_
  refine lv_bipush (v := 40) hx hb dX3_init_45 (by decide) ?_
  refine na_z (n := 40) hx hb (hts (.arrayClass .boolean) (by decide +kernel)) hK hP hD hS hAp 1 rfl (by decide) (Nat.le_of_ble_eq_true rfl) (Nat.le_of_ble_eq_true rfl) dX3_init_47 (fun q47 H hP hD hS => ?_)
  refine W.widen (k := 6) (n := 162) (Nat.le_of_ble_eq_true rfl) (Nat.le_of_ble_eq_true rfl) ?_
  have hP : va_P D vwCl [(h0, .inr (3, [.int (0), .int (0), .ref (q7), .int (0), .ref (q15), .ref (q23), .int (0), .ref (q31), .ref (q39), .null, .int (0), .null, .null])), (q7, .inl (cI, 24, .inl ((fun _ => 0)))), (q15, .inl (cI, 9, .inl ((fun _ => 0)))), (q23, .inl (cI, 9, .inl ((fun _ => 0)))), (q31, .inl (cI, 40, .inl ((fun _ => 0)))), (q39, .inl (cI, 40, .inl ((fun _ => 0)))), (q47, .inl (cZ, 40, .inl (fun j => bI (((fun _ => false)) j))))] H := hP
  have hD : va_D Ap [(h0, .inr (3, [.int (0), .int (0), .ref (q7), .int (0), .ref (q15), .ref (q23), .int (0), .ref (q31), .ref (q39), .null, .int (0), .null, .null])), (q7, .inl (cI, 24, .inl ((fun _ => 0)))), (q15, .inl (cI, 9, .inl ((fun _ => 0)))), (q23, .inl (cI, 9, .inl ((fun _ => 0)))), (q31, .inl (cI, 40, .inl ((fun _ => 0)))), (q39, .inl (cI, 40, .inl ((fun _ => 0)))), (q47, .inl (cZ, 40, .inl (fun j => bI (((fun _ => false)) j))))] := hD
  refine va_putF (D := D) (ci := 3) (v := .ref (q47)) (ty := (.array .boolean)) (C := RX3) (T := TX3) (N := 13) hx hb hts hin3 tyX3 tyX3_ok nmX3 hown hK.1 hP hD hS 0 rfl rfl 9 (by decide) f25 (fun _ h9 => h9) rfl hinit rfl (by decide +kernel) rfl rfl (Nat.le_of_ble_eq_true rfl) dX3_init_49 (fun H locs hP hD hS => ?_)
  have hP : va_P D vwCl [(h0, .inr (3, [.int (0), .int (0), .ref (q7), .int (0), .ref (q15), .ref (q23), .int (0), .ref (q31), .ref (q39), .ref (q47), .int (0), .null, .null])), (q7, .inl (cI, 24, .inl ((fun _ => 0)))), (q15, .inl (cI, 9, .inl ((fun _ => 0)))), (q23, .inl (cI, 9, .inl ((fun _ => 0)))), (q31, .inl (cI, 40, .inl ((fun _ => 0)))), (q39, .inl (cI, 40, .inl ((fun _ => 0)))), (q47, .inl (cZ, 40, .inl (fun j => bI (((fun _ => false)) j))))] H := hP
  have hD : va_D Ap [(h0, .inr (3, [.int (0), .int (0), .ref (q7), .int (0), .ref (q15), .ref (q23), .int (0), .ref (q31), .ref (q39), .ref (q47), .int (0), .null, .null])), (q7, .inl (cI, 24, .inl ((fun _ => 0)))), (q15, .inl (cI, 9, .inl ((fun _ => 0)))), (q23, .inl (cI, 9, .inl ((fun _ => 0)))), (q31, .inl (cI, 40, .inl ((fun _ => 0)))), (q39, .inl (cI, 40, .inl ((fun _ => 0)))), (q47, .inl (cZ, 40, .inl (fun j => bI (((fun _ => false)) j))))] := hD
  refine lv_aload_n hx hb dX3_init_52 rfl (lv_at hl 0 rfl) ?_
  refine lv_sipush (v := 512) hx hb dX3_init_53 (by decide) ?_
  refine na_i (n := 512) hx hb (hts (.arrayClass .int) (by decide +kernel)) hK hP hD hS hAp 0 rfl (by decide) (Nat.le_of_ble_eq_true rfl) (Nat.le_of_ble_eq_true rfl) dX3_init_56 (fun q56 H hP hD hS => ?_)
  refine W.widen (k := 7) (n := 674) (Nat.le_of_ble_eq_true rfl) (Nat.le_of_ble_eq_true rfl) ?_
  have hP : va_P D vwCl [(h0, .inr (3, [.int (0), .int (0), .ref (q7), .int (0), .ref (q15), .ref (q23), .int (0), .ref (q31), .ref (q39), .ref (q47), .int (0), .null, .null])), (q7, .inl (cI, 24, .inl ((fun _ => 0)))), (q15, .inl (cI, 9, .inl ((fun _ => 0)))), (q23, .inl (cI, 9, .inl ((fun _ => 0)))), (q31, .inl (cI, 40, .inl ((fun _ => 0)))), (q39, .inl (cI, 40, .inl ((fun _ => 0)))), (q47, .inl (cZ, 40, .inl (fun j => bI (((fun _ => false)) j)))), (q56, .inl (cI, 512, .inl ((fun _ => 0))))] H := hP
  have hD : va_D Ap [(h0, .inr (3, [.int (0), .int (0), .ref (q7), .int (0), .ref (q15), .ref (q23), .int (0), .ref (q31), .ref (q39), .ref (q47), .int (0), .null, .null])), (q7, .inl (cI, 24, .inl ((fun _ => 0)))), (q15, .inl (cI, 9, .inl ((fun _ => 0)))), (q23, .inl (cI, 9, .inl ((fun _ => 0)))), (q31, .inl (cI, 40, .inl ((fun _ => 0)))), (q39, .inl (cI, 40, .inl ((fun _ => 0)))), (q47, .inl (cZ, 40, .inl (fun j => bI (((fun _ => false)) j)))), (q56, .inl (cI, 512, .inl ((fun _ => 0))))] := hD
  refine va_putF (D := D) (ci := 3) (v := .ref (q56)) (ty := (.array .int)) (C := RX3) (T := TX3) (N := 13) hx hb hts hin3 tyX3 tyX3_ok nmX3 hown hK.1 hP hD hS 0 rfl rfl 11 (by decide) f29 (fun _ h9 => h9) rfl hinit rfl (by decide +kernel) rfl rfl (Nat.le_of_ble_eq_true rfl) dX3_init_58 (fun H locs hP hD hS => ?_)
  have hP : va_P D vwCl [(h0, .inr (3, [.int (0), .int (0), .ref (q7), .int (0), .ref (q15), .ref (q23), .int (0), .ref (q31), .ref (q39), .ref (q47), .int (0), .ref (q56), .null])), (q7, .inl (cI, 24, .inl ((fun _ => 0)))), (q15, .inl (cI, 9, .inl ((fun _ => 0)))), (q23, .inl (cI, 9, .inl ((fun _ => 0)))), (q31, .inl (cI, 40, .inl ((fun _ => 0)))), (q39, .inl (cI, 40, .inl ((fun _ => 0)))), (q47, .inl (cZ, 40, .inl (fun j => bI (((fun _ => false)) j)))), (q56, .inl (cI, 512, .inl ((fun _ => 0))))] H := hP
  have hD : va_D Ap [(h0, .inr (3, [.int (0), .int (0), .ref (q7), .int (0), .ref (q15), .ref (q23), .int (0), .ref (q31), .ref (q39), .ref (q47), .int (0), .ref (q56), .null])), (q7, .inl (cI, 24, .inl ((fun _ => 0)))), (q15, .inl (cI, 9, .inl ((fun _ => 0)))), (q23, .inl (cI, 9, .inl ((fun _ => 0)))), (q31, .inl (cI, 40, .inl ((fun _ => 0)))), (q39, .inl (cI, 40, .inl ((fun _ => 0)))), (q47, .inl (cZ, 40, .inl (fun j => bI (((fun _ => false)) j)))), (q56, .inl (cI, 512, .inl ((fun _ => 0))))] := hD
  refine lv_aload_n hx hb dX3_init_61 rfl (lv_at hl 0 rfl) ?_
  refine lv_sipush (v := 512) hx hb dX3_init_62 (by decide) ?_
  refine na_z (n := 512) hx hb (hts (.arrayClass .boolean) (by decide +kernel)) hK hP hD hS hAp 1 rfl (by decide) (Nat.le_of_ble_eq_true rfl) (Nat.le_of_ble_eq_true rfl) dX3_init_65 (fun q65 H hP hD hS => ?_)
  refine W.widen (k := 8) (n := 1186) (Nat.le_of_ble_eq_true rfl) (Nat.le_of_ble_eq_true rfl) ?_
  have hP : va_P D vwCl [(h0, .inr (3, [.int (0), .int (0), .ref (q7), .int (0), .ref (q15), .ref (q23), .int (0), .ref (q31), .ref (q39), .ref (q47), .int (0), .ref (q56), .null])), (q7, .inl (cI, 24, .inl ((fun _ => 0)))), (q15, .inl (cI, 9, .inl ((fun _ => 0)))), (q23, .inl (cI, 9, .inl ((fun _ => 0)))), (q31, .inl (cI, 40, .inl ((fun _ => 0)))), (q39, .inl (cI, 40, .inl ((fun _ => 0)))), (q47, .inl (cZ, 40, .inl (fun j => bI (((fun _ => false)) j)))), (q56, .inl (cI, 512, .inl ((fun _ => 0)))), (q65, .inl (cZ, 512, .inl (fun j => bI (((fun _ => false)) j))))] H := hP
  have hD : va_D Ap [(h0, .inr (3, [.int (0), .int (0), .ref (q7), .int (0), .ref (q15), .ref (q23), .int (0), .ref (q31), .ref (q39), .ref (q47), .int (0), .ref (q56), .null])), (q7, .inl (cI, 24, .inl ((fun _ => 0)))), (q15, .inl (cI, 9, .inl ((fun _ => 0)))), (q23, .inl (cI, 9, .inl ((fun _ => 0)))), (q31, .inl (cI, 40, .inl ((fun _ => 0)))), (q39, .inl (cI, 40, .inl ((fun _ => 0)))), (q47, .inl (cZ, 40, .inl (fun j => bI (((fun _ => false)) j)))), (q56, .inl (cI, 512, .inl ((fun _ => 0)))), (q65, .inl (cZ, 512, .inl (fun j => bI (((fun _ => false)) j))))] := hD
  refine va_putF (D := D) (ci := 3) (v := .ref (q65)) (ty := (.array .boolean)) (C := RX3) (T := TX3) (N := 13) hx hb hts hin3 tyX3 tyX3_ok nmX3 hown hK.1 hP hD hS 0 rfl rfl 12 (by decide) f32 (fun _ h9 => h9) rfl hinit rfl (by decide +kernel) rfl rfl (Nat.le_of_ble_eq_true rfl) dX3_init_67 (fun H locs hP hD hS => ?_)
  have hP : va_P D vwCl [(h0, .inr (3, [.int (0), .int (0), .ref (q7), .int (0), .ref (q15), .ref (q23), .int (0), .ref (q31), .ref (q39), .ref (q47), .int (0), .ref (q56), .ref (q65)])), (q7, .inl (cI, 24, .inl ((fun _ => 0)))), (q15, .inl (cI, 9, .inl ((fun _ => 0)))), (q23, .inl (cI, 9, .inl ((fun _ => 0)))), (q31, .inl (cI, 40, .inl ((fun _ => 0)))), (q39, .inl (cI, 40, .inl ((fun _ => 0)))), (q47, .inl (cZ, 40, .inl (fun j => bI (((fun _ => false)) j)))), (q56, .inl (cI, 512, .inl ((fun _ => 0)))), (q65, .inl (cZ, 512, .inl (fun j => bI (((fun _ => false)) j))))] H := hP
  have hD : va_D Ap [(h0, .inr (3, [.int (0), .int (0), .ref (q7), .int (0), .ref (q15), .ref (q23), .int (0), .ref (q31), .ref (q39), .ref (q47), .int (0), .ref (q56), .ref (q65)])), (q7, .inl (cI, 24, .inl ((fun _ => 0)))), (q15, .inl (cI, 9, .inl ((fun _ => 0)))), (q23, .inl (cI, 9, .inl ((fun _ => 0)))), (q31, .inl (cI, 40, .inl ((fun _ => 0)))), (q39, .inl (cI, 40, .inl ((fun _ => 0)))), (q47, .inl (cZ, 40, .inl (fun j => bI (((fun _ => false)) j)))), (q56, .inl (cI, 512, .inl ((fun _ => 0)))), (q65, .inl (cZ, 512, .inl (fun j => bI (((fun _ => false)) j))))] := hD
  have hP : va_P D vwCl (wM cI cZ (adl [h0, q7, q15, q23, q31, q39, q47, q56, q65]) 0 0 0 0 false ((fun _ => 0)) ((fun _ => 0)) ((fun _ => 0)) ((fun _ => 0)) ((fun _ => 0)) ((fun _ => false)) ((fun _ => 0)) ((fun _ => false))) H := hP.sub [0, 1, 2, 3, 4, 5, 6, 7, 8] rfl
  have hD : va_D Ap (wM cI cZ (adl [h0, q7, q15, q23, q31, q39, q47, q56, q65]) 0 0 0 0 false ((fun _ => 0)) ((fun _ => 0)) ((fun _ => 0)) ((fun _ => 0)) ((fun _ => 0)) ((fun _ => false)) ((fun _ => 0)) ((fun _ => false))) := hD.sub [0, 1, 2, 3, 4, 5, 6, 7, 8] (by decide) rfl
  exact mr_v (u := (q7, q15, q23, q31, q39, q47, q56, q65)) hx hb hrt hlk dX3_init_70 hS hP hD trivial
