set_option maxHeartbeats 4000000 in
set_option maxRecDepth 100000 in
theorem c_X0_append (l : Launch) (D : va_G) (cI cZ : ClassId) (ad : Nat → Nat) (B : Nat → Int32) (Hd : Nat → Int32) (O : Nat → Bool) (R : Nat) (x : Int32) (h : Int32) (hR : R < 40) (sz : Nat) : Met l yX0_append wsX0_append ({ frames := 0, cells := 0, slots := 0, locals := 0 }) (pcW D [(cI, .int), (cZ, .boolean)] sz (wR cI cZ ad B Hd O R) [.ref (ad 0), .int (x), .int (h)]) (va_Qi (fun (r9 : Int32) (u9 : Unit) => (r9 = nI (R)) ∧ (True)) (wB D (va_A (wR cI cZ ad B Hd O R) sz) (fun u9 : Unit => (wR cI cZ ad (upd B R x) (upd Hd R h) (updB O R true) (R + 1)))) (va_A (wR cI cZ ad B Hd O R) sz)) 0 0 (va_A (wR cI cZ ad B Hd O R) sz) := by
  refine Met.ofW (cc := cX0_append) (maxL := 4) (ret := (some .int)) (by decide) rfl ?_
  intro p e s m args below meth c s₁ BB hml hv
  obtain ⟨rfl, hsz, hP, hK, hD0⟩ := hv
  have hx := BB.exec
  have hb := BB.bytes
  have hrt := BB.returns
  have hts := atoms_spec (ws := wsX0_append) BB.pre
  have hown : s.vm.findClass RX0 = some m.cls := findClass_of_methodNamed BB.named
  have hlk := BB.notSynchronized
  subst hsz
  have hD := hD0.self (sz := s.heap.size)
  generalize hAe : va_A (wR cI cZ ad B Hd O R) s.heap.size = Ap at hD ⊢
  have hAp : ∀ q : Nat, s.heap.size ≤ q → Ap q := fun q h => by rw [← hAe]; exact Or.inr h
  have hS : va_S Ap s.heap s.heap [] := va_S.rf
  have f9 := hts (.fieldLink RX0 9 "AssumptionKeeper$RuleBook" "bodies" "[I") (by decide +kernel)
  have f15 := hts (.fieldLink RX0 15 "AssumptionKeeper$RuleBook" "heads" "[I") (by decide +kernel)
  have f18 := hts (.fieldLink RX0 18 "AssumptionKeeper$RuleBook" "areOn" "[Z") (by decide +kernel)
  have f22 := hts (.fieldLink RX0 22 "AssumptionKeeper$RuleBook" "count" "I") (by decide +kernel)
  have hin0 : ∀ w ∈ u_ws RX0 TX0 4, w ∈ wsX0_append := by decide +kernel
  have hl := lv_entry ([.ref (ad 0), .int (x), .int (h)]) (n := 4) (Nat.le_of_ble_eq_true rfl)
  rw [lg_entry_eq]
  generalize (lg_sl ([.ref (ad 0), .int (x), .int (h)]) ++ List.replicate (4 - (lg_sl ([.ref (ad 0), .int (x), .int (h)])).length) Slot.unset).toArray = ls at hl ⊢
  have hl : lv_has ls 4 [(0, .ref (ad 0)), (1, .int (x)), (2, .int (h))] := hl
  refine lv_aload_n hx hb dX0_append_0 rfl (lv_at hl 0 rfl) ?_
  refine va_get (D := D) (ci := 0) (v := .int (nI (R))) (C := RX0) (T := TX0) (N := 4) hx hb hts hin0 hown hK.1 hP 0 rfl rfl 3 (by decide) f22 (fun _ h9 => h9) rfl dX0_append_1 ?_
  refine lv_istore_n (lv' := [(3, .int (nI (R))), (0, .ref (ad 0)), (1, .int (x)), (2, .int (h))]) hx hb dX0_append_4 rfl hl (by decide) rfl (fun ls hl => ?_)
  refine lv_aload_n hx hb dX0_append_5 rfl (lv_at hl 1 rfl) ?_
  refine va_get (D := D) (ci := 0) (v := .ref (ad 1)) (C := RX0) (T := TX0) (N := 4) hx hb hts hin0 hown hK.1 hP 0 rfl rfl 0 (by decide) f9 (fun _ h9 => h9) rfl dX0_append_6 ?_
  refine lv_iload_n hx hb dX0_append_9 rfl (lv_at hl 0 rfl) ?_
  refine lv_iload_n hx hb dX0_append_10 rfl (lv_at hl 2 rfl) ?_
  refine si_ (D := D) (f := B) (i := R) (x := x) hx hb hK hP hD hS 1 0 rfl rfl (by omega) (by decide) dX0_append_11 (fun H locs hP hD hS => ?_)
  have hP : va_P D vwCl (wR cI cZ ad (upd B (R) (x)) Hd O R) H := hP
  have hD : va_D Ap (wR cI cZ ad (upd B (R) (x)) Hd O R) := hD
  refine lv_aload_n hx hb dX0_append_12 rfl (lv_at hl 1 rfl) ?_
  refine va_get (D := D) (ci := 0) (v := .ref (ad 2)) (C := RX0) (T := TX0) (N := 4) hx hb hts hin0 hown hK.1 hP 0 rfl rfl 1 (by decide) f15 (fun _ h9 => h9) rfl dX0_append_13 ?_
  refine lv_iload_n hx hb dX0_append_16 rfl (lv_at hl 0 rfl) ?_
  refine lv_iload_n hx hb dX0_append_17 rfl (lv_at hl 3 rfl) ?_
  refine si_ (D := D) (f := Hd) (i := R) (x := h) hx hb hK hP hD hS 2 0 rfl rfl (by omega) (by decide) dX0_append_18 (fun H locs hP hD hS => ?_)
  have hP : va_P D vwCl (wR cI cZ ad (upd B (R) (x)) (upd Hd (R) (h)) O R) H := hP
  have hD : va_D Ap (wR cI cZ ad (upd B (R) (x)) (upd Hd (R) (h)) O R) := hD
  refine lv_aload_n hx hb dX0_append_19 rfl (lv_at hl 1 rfl) ?_
  refine va_get (D := D) (ci := 0) (v := .ref (ad 3)) (C := RX0) (T := TX0) (N := 4) hx hb hts hin0 hown hK.1 hP 0 rfl rfl 2 (by decide) f18 (fun _ h9 => h9) rfl dX0_append_20 ?_
  refine lv_iload_n hx hb dX0_append_23 rfl (lv_at hl 0 rfl) ?_
  refine lv_iconst (v := 1) hx hb dX0_append_24 (by decide) ?_
  refine sz_ (D := D) (f := O) (i := R) (x := true) hx hb hK hP hD hS 3 1 rfl rfl (by omega) (by decide) dX0_append_25 (fun H locs hP hD hS => ?_)
  have hP : va_P D vwCl (wR cI cZ ad (upd B (R) (x)) (upd Hd (R) (h)) (updB O (R) (true)) R) H := hP
  have hD : va_D Ap (wR cI cZ ad (upd B (R) (x)) (upd Hd (R) (h)) (updB O (R) (true)) R) := hD
  refine lv_aload_n hx hb dX0_append_26 rfl (lv_at hl 1 rfl) ?_
  refine lv_iload_n hx hb dX0_append_27 rfl (lv_at hl 0 rfl) ?_
  refine lv_iconst (v := 1) hx hb dX0_append_28 (by decide) ?_
  refine lv_iadd hx hb dX0_append_29 ?_
  rw [nI_1]
  refine va_put (D := D) (ci := 0) (v := .int (nI (R + 1))) (ty := .int) (C := RX0) (T := TX0) (N := 4) hx hb hts hin0 tyX0 tyX0_ok nmX0 hown hK.1 hP hD hS 0 rfl rfl 3 (by decide) f22 (fun _ h9 => h9) rfl (by decide +kernel) rfl rfl (Nat.le_of_ble_eq_true rfl) dX0_append_30 (fun H locs hP hD hS => ?_)
  have hP : va_P D vwCl (wR cI cZ ad (upd B (R) (x)) (upd Hd (R) (h)) (updB O (R) (true)) (R + 1)) H := hP
  have hD : va_D Ap (wR cI cZ ad (upd B (R) (x)) (upd Hd (R) (h)) (updB O (R) (true)) (R + 1)) := hD
  refine lv_iload_n hx hb dX0_append_33 rfl (lv_at hl 0 rfl) ?_
  exact mr_i (u := ()) hx hb hrt hlk dX0_append_34 hS hP hD ⟨(by first | rfl | (simp []; done) | (simp only []; rfl) | (simp_all []; done)), trivial⟩
set_option maxHeartbeats 4000000 in
set_option maxRecDepth 100000 in
theorem c_X0_removeLast (l : Launch) (D : va_G) (cI cZ : ClassId) (ad : Nat → Nat) (B : Nat → Int32) (Hd : Nat → Int32) (O : Nat → Bool) (R : Nat) (h1 : 1 ≤ R) (sz : Nat) : Met l yX0_removeLast wsX0_removeLast ({ frames := 0, cells := 0, slots := 0, locals := 0 }) (pcW D [(cI, .int), (cZ, .boolean)] sz (wR cI cZ ad B Hd O R) [.ref (ad 0)]) (va_Qi (fun (r9 : Int32) (u9 : Unit) => (r9 = nI (R - 1)) ∧ (True)) (wB D (va_A (wR cI cZ ad B Hd O R) sz) (fun u9 : Unit => (wR cI cZ ad B Hd O (R - 1)))) (va_A (wR cI cZ ad B Hd O R) sz)) 0 0 (va_A (wR cI cZ ad B Hd O R) sz) := by
  refine Met.ofW (cc := cX0_removeLast) (maxL := 1) (ret := (some .int)) (by decide) rfl ?_
  intro p e s m args below meth c s₁ BB hml hv
  obtain ⟨rfl, hsz, hP, hK, hD0⟩ := hv
  have hx := BB.exec
  have hb := BB.bytes
  have hrt := BB.returns
  have hts := atoms_spec (ws := wsX0_removeLast) BB.pre
  have hown : s.vm.findClass RX0 = some m.cls := findClass_of_methodNamed BB.named
  have hlk := BB.notSynchronized
  subst hsz
  have hD := hD0.self (sz := s.heap.size)
  generalize hAe : va_A (wR cI cZ ad B Hd O R) s.heap.size = Ap at hD ⊢
  have hAp : ∀ q : Nat, s.heap.size ≤ q → Ap q := fun q h => by rw [← hAe]; exact Or.inr h
  have hS : va_S Ap s.heap s.heap [] := va_S.rf
  have f22 := hts (.fieldLink RX0 22 "AssumptionKeeper$RuleBook" "count" "I") (by decide +kernel)
  have hin0 : ∀ w ∈ u_ws RX0 TX0 4, w ∈ wsX0_removeLast := by decide +kernel
  have hl := lv_entry ([.ref (ad 0)]) (n := 1) (Nat.le_of_ble_eq_true rfl)
  rw [lg_entry_eq]
  generalize (lg_sl ([.ref (ad 0)]) ++ List.replicate (1 - (lg_sl ([.ref (ad 0)])).length) Slot.unset).toArray = ls at hl ⊢
  have hl : lv_has ls 1 [(0, .ref (ad 0))] := hl
  refine lv_aload_n hx hb dX0_removeLast_0 rfl (lv_at hl 0 rfl) ?_
  refine lv_dup hx hb dX0_removeLast_1 rfl ?_
  refine va_get (D := D) (ci := 0) (v := .int (nI (R))) (C := RX0) (T := TX0) (N := 4) hx hb hts hin0 hown hK.1 hP 0 rfl rfl 3 (by decide) f22 (fun _ h9 => h9) rfl dX0_removeLast_2 ?_
  refine lv_iconst (v := 1) hx hb dX0_removeLast_5 (by decide) ?_
  refine lv_isub hx hb dX0_removeLast_6 ?_
  rw [nI_sub1 (by omega)]
  refine va_put (D := D) (ci := 0) (v := .int (nI (R - 1))) (ty := .int) (C := RX0) (T := TX0) (N := 4) hx hb hts hin0 tyX0 tyX0_ok nmX0 hown hK.1 hP hD hS 0 rfl rfl 3 (by decide) f22 (fun _ h9 => h9) rfl (by decide +kernel) rfl rfl (Nat.le_of_ble_eq_true rfl) dX0_removeLast_7 (fun H locs hP hD hS => ?_)
  have hP : va_P D vwCl (wR cI cZ ad B Hd O (R - 1)) H := hP
  have hD : va_D Ap (wR cI cZ ad B Hd O (R - 1)) := hD
  refine lv_aload_n hx hb dX0_removeLast_10 rfl (lv_at hl 0 rfl) ?_
  refine va_get (D := D) (ci := 0) (v := .int (nI (R - 1))) (C := RX0) (T := TX0) (N := 4) hx hb hts hin0 hown hK.1 hP 0 rfl rfl 3 (by decide) f22 (fun _ h9 => h9) rfl dX0_removeLast_11 ?_
  exact mr_i (u := ()) hx hb hrt hlk dX0_removeLast_14 hS hP hD ⟨(by first | rfl | (simp []; done) | (simp only []; rfl) | (simp_all []; done)), trivial⟩
set_option maxHeartbeats 4000000 in
set_option maxRecDepth 100000 in
theorem c_X0_switchTo (l : Launch) (D : va_G) (cI cZ : ClassId) (ad : Nat → Nat) (B : Nat → Int32) (Hd : Nat → Int32) (O : Nat → Bool) (R : Nat) (r : Nat) (b : Bool) (hr : r < 40) (sz : Nat) : Met l yX0_switchTo wsX0_switchTo ({ frames := 0, cells := 0, slots := 0, locals := 0 }) (pcW D [(cI, .int), (cZ, .boolean)] sz (wR cI cZ ad B Hd O R) [.ref (ad 0), .int (nI (r)), .int (bI (b))]) (va_Qi (fun (r9 : Int32) (u9 : Unit) => (r9 = bI (O r)) ∧ (True)) (wB D (va_A (wR cI cZ ad B Hd O R) sz) (fun u9 : Unit => (wR cI cZ ad B Hd (updB O r b) R))) (va_A (wR cI cZ ad B Hd O R) sz)) 0 0 (va_A (wR cI cZ ad B Hd O R) sz) := by
  refine Met.ofW (cc := cX0_switchTo) (maxL := 4) (ret := (some .boolean)) (by decide) rfl ?_
  intro p e s m args below meth c s₁ BB hml hv
  obtain ⟨rfl, hsz, hP, hK, hD0⟩ := hv
  have hx := BB.exec
  have hb := BB.bytes
  have hrt := BB.returns
  have hts := atoms_spec (ws := wsX0_switchTo) BB.pre
  have hown : s.vm.findClass RX0 = some m.cls := findClass_of_methodNamed BB.named
  have hlk := BB.notSynchronized
  subst hsz
  have hD := hD0.self (sz := s.heap.size)
  generalize hAe : va_A (wR cI cZ ad B Hd O R) s.heap.size = Ap at hD ⊢
  have hAp : ∀ q : Nat, s.heap.size ≤ q → Ap q := fun q h => by rw [← hAe]; exact Or.inr h
  have hS : va_S Ap s.heap s.heap [] := va_S.rf
  have f18 := hts (.fieldLink RX0 18 "AssumptionKeeper$RuleBook" "areOn" "[Z") (by decide +kernel)
  have hin0 : ∀ w ∈ u_ws RX0 TX0 4, w ∈ wsX0_switchTo := by decide +kernel
  have hl := lv_entry ([.ref (ad 0), .int (nI (r)), .int (bI (b))]) (n := 4) (Nat.le_of_ble_eq_true rfl)
  rw [lg_entry_eq]
  generalize (lg_sl ([.ref (ad 0), .int (nI (r)), .int (bI (b))]) ++ List.replicate (4 - (lg_sl ([.ref (ad 0), .int (nI (r)), .int (bI (b))])).length) Slot.unset).toArray = ls at hl ⊢
  have hl : lv_has ls 4 [(0, .ref (ad 0)), (1, .int (nI (r))), (2, .int (bI (b)))] := hl
  refine lv_aload_n hx hb dX0_switchTo_0 rfl (lv_at hl 0 rfl) ?_
  refine va_get (D := D) (ci := 0) (v := .ref (ad 3)) (C := RX0) (T := TX0) (N := 4) hx hb hts hin0 hown hK.1 hP 0 rfl rfl 2 (by decide) f18 (fun _ h9 => h9) rfl dX0_switchTo_1 ?_
  refine lv_iload_n hx hb dX0_switchTo_4 rfl (lv_at hl 1 rfl) ?_
  refine az_ (D := D) (f := O) (i := r) hx hb hK hP 3 1 rfl rfl (by omega) (by decide) dX0_switchTo_5 ?_
  refine lv_istore_n (lv' := [(3, .int (bI (O (r)))), (0, .ref (ad 0)), (1, .int (nI (r))), (2, .int (bI (b)))]) hx hb dX0_switchTo_6 rfl hl (by decide) rfl (fun ls hl => ?_)
  refine lv_aload_n hx hb dX0_switchTo_7 rfl (lv_at hl 1 rfl) ?_
  refine va_get (D := D) (ci := 0) (v := .ref (ad 3)) (C := RX0) (T := TX0) (N := 4) hx hb hts hin0 hown hK.1 hP 0 rfl rfl 2 (by decide) f18 (fun _ h9 => h9) rfl dX0_switchTo_8 ?_
  refine lv_iload_n hx hb dX0_switchTo_11 rfl (lv_at hl 2 rfl) ?_
  refine lv_iload_n hx hb dX0_switchTo_12 rfl (lv_at hl 3 rfl) ?_
  refine sz_ (D := D) (f := O) (i := r) (x := b) hx hb hK hP hD hS 3 1 rfl rfl (by omega) (by decide) dX0_switchTo_13 (fun H locs hP hD hS => ?_)
  have hP : va_P D vwCl (wR cI cZ ad B Hd (updB O (r) (b)) R) H := hP
  have hD : va_D Ap (wR cI cZ ad B Hd (updB O (r) (b)) R) := hD
  refine lv_iload_n hx hb dX0_switchTo_14 rfl (lv_at hl 0 rfl) ?_
  exact mr_z (v := O (r)) (u := ()) hx hb hrt hlk dX0_switchTo_15 hS hP hD ⟨(by first | rfl | (simp []; done) | (simp only []; rfl) | (simp_all []; done)), trivial⟩
set_option maxHeartbeats 4000000 in
set_option maxRecDepth 100000 in
theorem c_X2_appendNode (l : Launch) (D : va_G) (cI cZ : ClassId) (ad : Nat → Nat) (N : Nat) (A : Nat) (fl : Bool) (an : Nat → Int32) (nd : Nat → Int32) (wt : Nat → Int32) (B : Nat → Int32) (Hd : Nat → Int32) (O : Nat → Bool) (R : Nat) (HL : Nat → Int32) (LB : Nat → Int32) (SO : Nat → Bool) (NG : Nat → Bool) (WO : Nat → Bool) (SA : Nat) (SE : Nat) (x : Int32) (hN : N < 24) (sz : Nat) : Met l yX2_appendNode wsX2_appendNode ({ frames := 0, cells := 0, slots := 0, locals := 0 }) (pcW D [(cI, .int), (cZ, .boolean)] sz (wK cI cZ ad N A fl an nd wt B Hd O R HL LB SO NG WO SA SE) [.ref (ad 0), .int (x)]) (va_Qi (fun (r9 : Int32) (u9 : Unit) => (r9 = nI (N)) ∧ (True)) (wB D (va_A (wK cI cZ ad N A fl an nd wt B Hd O R HL LB SO NG WO SA SE) sz) (fun u9 : Unit => (wK cI cZ ad (N + 1) A false (upd an N x) nd wt B Hd O R HL LB SO NG WO SA SE))) (va_A (wK cI cZ ad N A fl an nd wt B Hd O R HL LB SO NG WO SA SE) sz)) 0 0 (va_A (wK cI cZ ad N A fl an nd wt B Hd O R HL LB SO NG WO SA SE) sz) := by
  refine Met.ofW (cc := cX2_appendNode) (maxL := 3) (ret := (some .int)) (by decide) rfl ?_
  intro p e s m args below meth c s₁ BB hml hv
  obtain ⟨rfl, hsz, hP, hK, hD0⟩ := hv
  have hx := BB.exec
  have hb := BB.bytes
  have hrt := BB.returns
  have hts := atoms_spec (ws := wsX2_appendNode) BB.pre
  have hown : s.vm.findClass RX2 = some m.cls := findClass_of_methodNamed BB.named
  have hlk := BB.notSynchronized
  subst hsz
  have hD := hD0.self (sz := s.heap.size)
  generalize hAe : va_A (wK cI cZ ad N A fl an nd wt B Hd O R HL LB SO NG WO SA SE) s.heap.size = Ap at hD ⊢
  have hAp : ∀ q : Nat, s.heap.size ≤ q → Ap q := fun q h => by rw [← hAe]; exact Or.inr h
  have hS : va_S Ap s.heap s.heap [] := va_S.rf
  have f9 := hts (.fieldLink RX2 9 "AssumptionKeeper" "assumptionNumbers" "[I") (by decide +kernel)
  have f33 := hts (.fieldLink RX2 33 "AssumptionKeeper" "nodes" "I") (by decide +kernel)
  have f40 := hts (.fieldLink RX2 40 "AssumptionKeeper" "isSurveyed" "Z") (by decide +kernel)
  have hin2 : ∀ w ∈ u_ws RX2 TX2 8, w ∈ wsX2_appendNode := by decide +kernel
  have hl := lv_entry ([.ref (ad 0), .int (x)]) (n := 3) (Nat.le_of_ble_eq_true rfl)
  rw [lg_entry_eq]
  generalize (lg_sl ([.ref (ad 0), .int (x)]) ++ List.replicate (3 - (lg_sl ([.ref (ad 0), .int (x)])).length) Slot.unset).toArray = ls at hl ⊢
  have hl : lv_has ls 3 [(0, .ref (ad 0)), (1, .int (x))] := hl
  refine lv_aload_n hx hb dX2_appendNode_0 rfl (lv_at hl 0 rfl) ?_
  refine va_get (D := D) (ci := 2) (v := .int (nI (N))) (C := RX2) (T := TX2) (N := 8) hx hb hts hin2 hown hK.1 hP 0 rfl rfl 5 (by decide) f33 (fun _ h9 => h9) rfl dX2_appendNode_1 ?_
  refine lv_istore_n (lv' := [(2, .int (nI (N))), (0, .ref (ad 0)), (1, .int (x))]) hx hb dX2_appendNode_4 rfl hl (by decide) rfl (fun ls hl => ?_)
  refine lv_aload_n hx hb dX2_appendNode_5 rfl (lv_at hl 1 rfl) ?_
  refine va_get (D := D) (ci := 2) (v := .ref (ad 1)) (C := RX2) (T := TX2) (N := 8) hx hb hts hin2 hown hK.1 hP 0 rfl rfl 0 (by decide) f9 (fun _ h9 => h9) rfl dX2_appendNode_6 ?_
  refine lv_iload_n hx hb dX2_appendNode_9 rfl (lv_at hl 0 rfl) ?_
  refine lv_iload_n hx hb dX2_appendNode_10 rfl (lv_at hl 2 rfl) ?_
  refine si_ (D := D) (f := an) (i := N) (x := x) hx hb hK hP hD hS 1 0 rfl rfl (by omega) (by decide) dX2_appendNode_11 (fun H locs hP hD hS => ?_)
  have hP : va_P D vwCl (wK cI cZ ad N A fl (upd an (N) (x)) nd wt B Hd O R HL LB SO NG WO SA SE) H := hP
  have hD : va_D Ap (wK cI cZ ad N A fl (upd an (N) (x)) nd wt B Hd O R HL LB SO NG WO SA SE) := hD
  refine lv_aload_n hx hb dX2_appendNode_12 rfl (lv_at hl 1 rfl) ?_
  refine lv_iload_n hx hb dX2_appendNode_13 rfl (lv_at hl 0 rfl) ?_
  refine lv_iconst (v := 1) hx hb dX2_appendNode_14 (by decide) ?_
  refine lv_iadd hx hb dX2_appendNode_15 ?_
  rw [nI_1]
  refine va_put (D := D) (ci := 2) (v := .int (nI (N + 1))) (ty := .int) (C := RX2) (T := TX2) (N := 8) hx hb hts hin2 tyX2 tyX2_ok nmX2 hown hK.1 hP hD hS 0 rfl rfl 5 (by decide) f33 (fun _ h9 => h9) rfl (by decide +kernel) rfl rfl (Nat.le_of_ble_eq_true rfl) dX2_appendNode_16 (fun H locs hP hD hS => ?_)
  have hP : va_P D vwCl (wK cI cZ ad (N + 1) A fl (upd an (N) (x)) nd wt B Hd O R HL LB SO NG WO SA SE) H := hP
  have hD : va_D Ap (wK cI cZ ad (N + 1) A fl (upd an (N) (x)) nd wt B Hd O R HL LB SO NG WO SA SE) := hD
  refine lv_aload_n hx hb dX2_appendNode_19 rfl (lv_at hl 1 rfl) ?_
  refine lv_iconst (v := 0) hx hb dX2_appendNode_20 (by decide) ?_
  refine va_put (D := D) (ci := 2) (v := .int (bI (false))) (ty := .boolean) (C := RX2) (T := TX2) (N := 8) hx hb hts hin2 tyX2 tyX2_ok nmX2 hown hK.1 hP hD hS 0 rfl rfl 7 (by decide) f40 (fun _ h9 => h9) rfl (by decide +kernel) (bI_nar _) rfl (Nat.le_of_ble_eq_true rfl) dX2_appendNode_21 (fun H locs hP hD hS => ?_)
  have hP : va_P D vwCl (wK cI cZ ad (N + 1) A false (upd an (N) (x)) nd wt B Hd O R HL LB SO NG WO SA SE) H := hP
  have hD : va_D Ap (wK cI cZ ad (N + 1) A false (upd an (N) (x)) nd wt B Hd O R HL LB SO NG WO SA SE) := hD
  refine lv_iload_n hx hb dX2_appendNode_24 rfl (lv_at hl 0 rfl) ?_
  exact mr_i (u := ()) hx hb hrt hlk dX2_appendNode_25 hS hP hD ⟨(by first | rfl | (simp []; done) | (simp only []; rfl) | (simp_all []; done)), trivial⟩
set_option maxHeartbeats 4000000 in
set_option maxRecDepth 100000 in
theorem c_X3_no (l : Launch) (D : va_G) (cI cZ : ClassId) (ad : Nat → Nat) (th : Int32) (N : Nat) (A : Nat) (R : Nat) (kw : Bool) (an : Nat → Int32) (nd : Nat → Int32) (wt : Nat → Int32) (B : Nat → Int32) (Hd : Nat → Int32) (O : Nat → Bool) (HL : Nat → Int32) (CO : Nat → Bool) (x : Int32) (sz : Nat) : Met l yX3_no wsX3_no ({ frames := 0, cells := 0, slots := 0, locals := 0 }) (pcW D [(cI, .int), (cZ, .boolean)] sz (wM cI cZ ad th N A R kw an nd wt B Hd O HL CO) [.ref (ad 0), .int (x)]) (va_Qi (fun (r9 : Int32) (u9 : Unit) => (r9 = 0) ∧ (True)) (wB D (va_A (wM cI cZ ad th N A R kw an nd wt B Hd O HL CO) sz) (fun u9 : Unit => (wM cI cZ ad x N A R kw an nd wt B Hd O HL CO))) (va_A (wM cI cZ ad th N A R kw an nd wt B Hd O HL CO) sz)) 0 0 (va_A (wM cI cZ ad th N A R kw an nd wt B Hd O HL CO) sz) := by
  refine Met.ofW (cc := cX3_no) (maxL := 2) (ret := (some .int)) (by decide) rfl ?_
  intro p e s m args below meth c s₁ BB hml hv
  obtain ⟨rfl, hsz, hP, hK, hD0⟩ := hv
  have hx := BB.exec
  have hb := BB.bytes
  have hrt := BB.returns
  have hts := atoms_spec (ws := wsX3_no) BB.pre
  have hown : s.vm.findClass RX3 = some m.cls := findClass_of_methodNamed BB.named
  have hlk := BB.notSynchronized
  subst hsz
  have hD := hD0.self (sz := s.heap.size)
  generalize hAe : va_A (wM cI cZ ad th N A R kw an nd wt B Hd O HL CO) s.heap.size = Ap at hD ⊢
  have hAp : ∀ q : Nat, s.heap.size ≤ q → Ap q := fun q h => by rw [← hAe]; exact Or.inr h
  have hS : va_S Ap s.heap s.heap [] := va_S.rf
  have f35 := hts (.fieldLink RX3 35 "AssumptionKeeperModel" "thrown" "I") (by decide +kernel)
  have hin3 : ∀ w ∈ u_ws RX3 TX3 13, w ∈ wsX3_no := by decide +kernel
  have hl := lv_entry ([.ref (ad 0), .int (x)]) (n := 2) (Nat.le_of_ble_eq_true rfl)
  rw [lg_entry_eq]
  generalize (lg_sl ([.ref (ad 0), .int (x)]) ++ List.replicate (2 - (lg_sl ([.ref (ad 0), .int (x)])).length) Slot.unset).toArray = ls at hl ⊢
  have hl : lv_has ls 2 [(0, .ref (ad 0)), (1, .int (x))] := hl
  refine lv_aload_n hx hb dX3_no_0 rfl (lv_at hl 0 rfl) ?_
  refine lv_iload_n hx hb dX3_no_1 rfl (lv_at hl 1 rfl) ?_
  refine va_put (D := D) (ci := 3) (v := .int (x)) (ty := .int) (C := RX3) (T := TX3) (N := 13) hx hb hts hin3 tyX3 tyX3_ok nmX3 hown hK.1 hP hD hS 0 rfl rfl 0 (by decide) f35 (fun _ h9 => h9) rfl (by decide +kernel) rfl rfl (Nat.le_of_ble_eq_true rfl) dX3_no_2 (fun H locs hP hD hS => ?_)
  have hP : va_P D vwCl (wM cI cZ ad x N A R kw an nd wt B Hd O HL CO) H := hP
  have hD : va_D Ap (wM cI cZ ad x N A R kw an nd wt B Hd O HL CO) := hD
  refine lv_iconst (v := 0) hx hb dX3_no_5 (by decide) ?_
  exact mr_i (u := ()) hx hb hrt hlk dX3_no_6 hS hP hD ⟨(by first | rfl | (simp []; done) | (simp only []; rfl) | (simp_all []; done)), trivial⟩
set_option maxHeartbeats 4000000 in
set_option maxRecDepth 100000 in
theorem c_X3_add (l : Launch) (D : va_G) (cI cZ : ClassId) (ad : Nat → Nat) (th : Int32) (N : Nat) (A : Nat) (R : Nat) (kw : Bool) (an : Nat → Int32) (nd : Nat → Int32) (wt : Nat → Int32) (B : Nat → Int32) (Hd : Nat → Int32) (O : Nat → Bool) (HL : Nat → Int32) (CO : Nat → Bool) (x : Int32) (hN : N < 24) (sz : Nat) : Met l yX3_add wsX3_add ({ frames := 0, cells := 0, slots := 0, locals := 0 }) (pcW D [(cI, .int), (cZ, .boolean)] sz (wM cI cZ ad th N A R kw an nd wt B Hd O HL CO) [.ref (ad 0), .int (x)]) (va_Qi (fun (r9 : Int32) (u9 : Unit) => (r9 = nI (N)) ∧ (True)) (wB D (va_A (wM cI cZ ad th N A R kw an nd wt B Hd O HL CO) sz) (fun u9 : Unit => (wM cI cZ ad th (N + 1) A R false (upd an N x) nd wt B Hd O HL CO))) (va_A (wM cI cZ ad th N A R kw an nd wt B Hd O HL CO) sz)) 0 0 (va_A (wM cI cZ ad th N A R kw an nd wt B Hd O HL CO) sz) := by
  refine Met.ofW (cc := cX3_add) (maxL := 2) (ret := (some .int)) (by decide) rfl ?_
  intro p e s m args below meth c s₁ BB hml hv
  obtain ⟨rfl, hsz, hP, hK, hD0⟩ := hv
  have hx := BB.exec
  have hb := BB.bytes
  have hrt := BB.returns
  have hts := atoms_spec (ws := wsX3_add) BB.pre
  have hown : s.vm.findClass RX3 = some m.cls := findClass_of_methodNamed BB.named
  have hlk := BB.notSynchronized
  subst hsz
  have hD := hD0.self (sz := s.heap.size)
  generalize hAe : va_A (wM cI cZ ad th N A R kw an nd wt B Hd O HL CO) s.heap.size = Ap at hD ⊢
  have hAp : ∀ q : Nat, s.heap.size ≤ q → Ap q := fun q h => by rw [← hAe]; exact Or.inr h
  have hS : va_S Ap s.heap s.heap [] := va_S.rf
  have f9 := hts (.fieldLink RX3 9 "AssumptionKeeperModel" "assumptionNumbers" "[I") (by decide +kernel)
  have f39 := hts (.fieldLink RX3 39 "AssumptionKeeperModel" "nodes" "I") (by decide +kernel)
  have f45 := hts (.fieldLink RX3 45 "AssumptionKeeperModel" "isKnown" "Z") (by decide +kernel)
  have hin3 : ∀ w ∈ u_ws RX3 TX3 13, w ∈ wsX3_add := by decide +kernel
  have hl := lv_entry ([.ref (ad 0), .int (x)]) (n := 2) (Nat.le_of_ble_eq_true rfl)
  rw [lg_entry_eq]
  generalize (lg_sl ([.ref (ad 0), .int (x)]) ++ List.replicate (2 - (lg_sl ([.ref (ad 0), .int (x)])).length) Slot.unset).toArray = ls at hl ⊢
  have hl : lv_has ls 2 [(0, .ref (ad 0)), (1, .int (x))] := hl
  refine lv_aload_n hx hb dX3_add_0 rfl (lv_at hl 0 rfl) ?_
  refine va_get (D := D) (ci := 3) (v := .ref (ad 1)) (C := RX3) (T := TX3) (N := 13) hx hb hts hin3 hown hK.1 hP 0 rfl rfl 2 (by decide) f9 (fun _ h9 => h9) rfl dX3_add_1 ?_
  refine lv_aload_n hx hb dX3_add_4 rfl (lv_at hl 0 rfl) ?_
  refine va_get (D := D) (ci := 3) (v := .int (nI (N))) (C := RX3) (T := TX3) (N := 13) hx hb hts hin3 hown hK.1 hP 0 rfl rfl 1 (by decide) f39 (fun _ h9 => h9) rfl dX3_add_5 ?_
  refine lv_iload_n hx hb dX3_add_8 rfl (lv_at hl 1 rfl) ?_
  refine si_ (D := D) (f := an) (i := N) (x := x) hx hb hK hP hD hS 1 0 rfl rfl (by omega) (by decide) dX3_add_9 (fun H locs hP hD hS => ?_)
  have hP : va_P D vwCl (wM cI cZ ad th N A R kw (upd an (N) (x)) nd wt B Hd O HL CO) H := hP
  have hD : va_D Ap (wM cI cZ ad th N A R kw (upd an (N) (x)) nd wt B Hd O HL CO) := hD
  refine lv_aload_n hx hb dX3_add_10 rfl (lv_at hl 0 rfl) ?_
  refine lv_dup hx hb dX3_add_11 rfl ?_
  refine va_get (D := D) (ci := 3) (v := .int (nI (N))) (C := RX3) (T := TX3) (N := 13) hx hb hts hin3 hown hK.1 hP 0 rfl rfl 1 (by decide) f39 (fun _ h9 => h9) rfl dX3_add_12 ?_
  refine lv_iconst (v := 1) hx hb dX3_add_15 (by decide) ?_
  refine lv_iadd hx hb dX3_add_16 ?_
  rw [nI_1]
  refine va_put (D := D) (ci := 3) (v := .int (nI (N + 1))) (ty := .int) (C := RX3) (T := TX3) (N := 13) hx hb hts hin3 tyX3 tyX3_ok nmX3 hown hK.1 hP hD hS 0 rfl rfl 1 (by decide) f39 (fun _ h9 => h9) rfl (by decide +kernel) rfl rfl (Nat.le_of_ble_eq_true rfl) dX3_add_17 (fun H locs hP hD hS => ?_)
  have hP : va_P D vwCl (wM cI cZ ad th (N + 1) A R kw (upd an (N) (x)) nd wt B Hd O HL CO) H := hP
  have hD : va_D Ap (wM cI cZ ad th (N + 1) A R kw (upd an (N) (x)) nd wt B Hd O HL CO) := hD
  refine lv_aload_n hx hb dX3_add_20 rfl (lv_at hl 0 rfl) ?_
  refine lv_iconst (v := 0) hx hb dX3_add_21 (by decide) ?_
  refine va_put (D := D) (ci := 3) (v := .int (bI (false))) (ty := .boolean) (C := RX3) (T := TX3) (N := 13) hx hb hts hin3 tyX3 tyX3_ok nmX3 hown hK.1 hP hD hS 0 rfl rfl 10 (by decide) f45 (fun _ h9 => h9) rfl (by decide +kernel) (bI_nar _) rfl (Nat.le_of_ble_eq_true rfl) dX3_add_22 (fun H locs hP hD hS => ?_)
  have hP : va_P D vwCl (wM cI cZ ad th (N + 1) A R false (upd an (N) (x)) nd wt B Hd O HL CO) H := hP
  have hD : va_D Ap (wM cI cZ ad th (N + 1) A R false (upd an (N) (x)) nd wt B Hd O HL CO) := hD
  refine lv_aload_n hx hb dX3_add_25 rfl (lv_at hl 0 rfl) ?_
  refine va_get (D := D) (ci := 3) (v := .int (nI (N + 1))) (C := RX3) (T := TX3) (N := 13) hx hb hts hin3 hown hK.1 hP 0 rfl rfl 1 (by decide) f39 (fun _ h9 => h9) rfl dX3_add_26 ?_
  refine lv_iconst (v := 1) hx hb dX3_add_29 (by decide) ?_
  refine lv_isub hx hb dX3_add_30 ?_
  rw [nI_sub1 (by omega)]
  exact mr_i (u := ()) hx hb hrt hlk dX3_add_31 hS hP hD ⟨(by first | rfl | (simp []; done) | (simp only []; rfl) | (simp_all []; done)), trivial⟩
set_option maxHeartbeats 4000000 in
set_option maxRecDepth 100000 in
theorem c_X1_deriveAll (l : Launch) (D : va_G) (cI cZ : ClassId) (ad rd : Nat → Nat) (na : Nat) (HL : Nat → Int32) (LB : Nat → Int32) (SO : Nat → Bool) (NG : Nat → Bool) (WO : Nat → Bool) (SA : Nat) (SE : Nat) (B : Nat → Int32) (Hd : Nat → Int32) (O : Nat → Bool) (R : Nat) (nd : Nat → Int32) (N : Nat) (hA : SA ≤ 9) (hR : R ≤ 40) (hn : N ≤ 24) (hH : okH N Hd R) (hN : okN N nd SA) (sz : Nat) : Met l yX1_deriveAll wsX1_deriveAll ({ frames := 3, cells := 0, slots := 0, locals := 69 }) (pcW D [(cI, .int), (cZ, .boolean)] sz (wT cI cZ ad rd na HL LB SO NG WO SA SE B Hd O R nd) [.ref (ad 0), .ref (rd 0), .ref (na)]) (va_Qv (fun u9 : (Nat → Int32) => (∀ j, j < 2 ^ SA → u9 j = hdE B Hd O R nd SA j) ∧ (True)) (wB D (va_A (wT cI cZ ad rd na HL LB SO NG WO SA SE B Hd O R nd) sz) (fun u9 : (Nat → Int32) => (wT cI cZ ad rd na u9 LB SO NG WO SA SE B Hd O R nd))) (va_A (wT cI cZ ad rd na HL LB SO NG WO SA SE B Hd O R nd) sz)) 0 0 (va_A (wT cI cZ ad rd na HL LB SO NG WO SA SE B Hd O R nd) sz) := by
  refine Met.ofW (cc := cX1_deriveAll) (maxL := 6) (ret := none) (by decide) rfl ?_
  intro p e s m args below meth c s₁ BB hml hv
  obtain ⟨rfl, hsz, hP, hK, hD0⟩ := hv
  have hx := BB.exec
  have hb := BB.bytes
  have hrt := BB.returns
  have hts := atoms_spec (ws := wsX1_deriveAll) BB.pre
  have hown : s.vm.findClass RX1 = some m.cls := findClass_of_methodNamed BB.named
  have hlk := BB.notSynchronized
  subst hsz
  have hD := hD0.self (sz := s.heap.size)
  generalize hAe : va_A (wT cI cZ ad rd na HL LB SO NG WO SA SE B Hd O R nd) s.heap.size = Ap at hD ⊢
  have hAp : ∀ q : Nat, s.heap.size ≤ q → Ap q := fun q h => by rw [← hAe]; exact Or.inr h
  have hS : va_S Ap s.heap s.heap [] := va_S.rf
  have f9 := hts (.fieldLink RX1 9 "AssumptionKeeper$Survey" "held" "[I") (by decide +kernel)
  have f28 := hts (.fieldLink RX1 28 "AssumptionKeeper$Survey" "assumptions" "I") (by decide +kernel)
  have hin1 : ∀ w ∈ u_ws RX1 TX1 7, w ∈ wsX1_deriveAll := by decide +kernel
  have hl := lv_entry ([.ref (ad 0), .ref (rd 0), .ref (na)]) (n := 6) (Nat.le_of_ble_eq_true rfl)
  rw [lg_entry_eq]
  generalize (lg_sl ([.ref (ad 0), .ref (rd 0), .ref (na)]) ++ List.replicate (6 - (lg_sl ([.ref (ad 0), .ref (rd 0), .ref (na)])).length) Slot.unset).toArray = ls at hl ⊢
  have hl : lv_has ls 6 [(0, .ref (ad 0)), (1, .ref (rd 0)), (2, .ref (na))] := hl
  refine lv_aload_n hx hb dX1_deriveAll_0 rfl (lv_at hl 0 rfl) ?_
  refine va_get (D := D) (ci := 1) (v := .ref (ad 1)) (C := RX1) (T := TX1) (N := 7) hx hb hts hin1 hown hK.1 hP 0 rfl rfl 0 (by decide) f9 (fun _ h9 => h9) rfl dX1_deriveAll_1 ?_
  refine lv_iconst (v := 0) hx hb dX1_deriveAll_4 (by decide) ?_
  refine lv_aload_n hx hb dX1_deriveAll_5 rfl (lv_at hl 1 rfl) ?_
  refine lv_iconst (v := 0) hx hb dX1_deriveAll_6 (by decide) ?_
  refine pu_i (va_runV (As := [.int (0)]) (rest := [.int (0), .ref (ad 1)]) ⟨hx, hb, hml, hown, hts⟩ (c_X0_closure l D cI cZ rd (B) (Hd) (O) (R) (0) (by omega)) (cwV 1 hts gX1_deriveAll_X0_closure rfl rfl rfl (by decide +kernel) ⟨Nat.le_of_ble_eq_true rfl, Nat.le_of_ble_eq_true rfl⟩) (pre_V (q0 := 0) (ci := 0) (hP.sub (ws' := (wR cI cZ rd B Hd O R)) [6, 7, 8, 9] rfl) hK rfl rfl) rfl rfl hl.1 rfl (lv_room (Nat.le_of_ble_eq_true rfl)) dX1_deriveAll_7 ⟨Nat.zero_le _, Nat.zero_le _⟩) ?_
  refine si_ (D := D) (f := HL) (i := 0) (x := clo B Hd O R 0) hx hb hK hP hD hS 1 0 rfl rfl (by omega) (by decide) dX1_deriveAll_10 (fun H locs hP hD hS => ?_)
  have hP : va_P D vwCl (wT cI cZ ad rd na (upd HL (0) (clo B Hd O R 0)) LB SO NG WO SA SE B Hd O R nd) H := hP
  have hD : va_D Ap (wT cI cZ ad rd na (upd HL (0) (clo B Hd O R 0)) LB SO NG WO SA SE B Hd O R nd) := hD
  refine lv_iconst (v := nI (0)) hx hb dX1_deriveAll_11 (by decide) ?_
  refine lv_istore_n (lv' := [(3, .int (nI (0))), (0, .ref (ad 0)), (1, .ref (rd 0)), (2, .ref (na))]) hx hb dX1_deriveAll_12 rfl hl (by decide) rfl (fun ls hl => ?_)
  have lp_13 : ∀ (n13 i : Nat) (v3 : Int32) (HL1 : Nat → Int32), i ≤ SA → SA + 1 ≤ i + n13 → (∀ k, k < 2 ^ i → HL1 k = hdE B Hd O R nd SA k) → v3 = nI (i) → ∀ (H : Heap) (locs : List Loc), va_P D vwCl (wT cI cZ ad rd na HL1 LB SO NG WO SA SE B Hd O R nd) H → va_D Ap (wT cI cZ ad rd na HL1 LB SO NG WO SA SE B Hd O R nd) → va_S Ap s.heap H locs → ∀ ls : Array Slot, lv_has ls 6 [(0, .ref (ad 0)), (1, .ref (rd 0)), (2, .ref (na)), (3, .int (v3))] → W p l e (headSpec wsX1_deriveAll ({ frames := 3, cells := 0, slots := 0, locals := 69 })).room s m ([.ref (ad 0), .ref (rd 0), .ref (na)]).toArray below meth c H locs 0 0 (MQ below (va_Qv (fun u9 : (Nat → Int32) => (∀ j, j < 2 ^ SA → u9 j = hdE B Hd O R nd SA j) ∧ (True)) (wB D Ap (fun u9 : (Nat → Int32) => (wT cI cZ ad rd na u9 LB SO NG WO SA SE B Hd O R nd))) Ap) ([.ref (ad 0), .ref (rd 0), .ref (na)]).toArray s 0 0 Ap) (F0 m 13 ls []) := by
    intro n13
    induction n13 with
    | zero => intro i v3 HL1 h1 h2; exact absurd h2 (by omega)
    | succ n13 ih13 =>
      intro i v3 HL1 hi13 hn13 hv1 e3 H locs hP hD hS ls hl
      subst e3
      have hl : lv_has ls 6 [(0, .ref (ad 0)), (1, .ref (rd 0)), (2, .ref (na)), (3, .int (nI (i)))] := hl
      refine lv_iload_n hx hb dX1_deriveAll_13 rfl (lv_at hl 3 rfl) ?_
      refine lv_aload_n hx hb dX1_deriveAll_14 rfl (lv_at hl 0 rfl) ?_
      refine va_get (D := D) (ci := 1) (v := .int (nI (SA))) (C := RX1) (T := TX1) (N := 7) hx hb hts hin1 hown hK.1 hP 0 rfl rfl 5 (by decide) f28 (fun _ h9 => h9) rfl dX1_deriveAll_15 ?_
      refine lv_icmp_ge (tgt := 75) hx hb dX1_deriveAll_18 (by decide) (fun c_18 => ?_) (fun c_18 => ?_)
      · skip
        have c_18 := (qI_le (a := SA) (b := i) (by omega) (by omega)).mp c_18
        exact mr_v (u := (HL1)) hx hb hrt hlk dX1_deriveAll_75 hS hP hD ⟨(by obtain rfl : i = SA := (by omega); exact hv1), trivial⟩
      · skip
        have c_18 := mt (qI_le (a := SA) (b := i) (by omega) (by omega)).mpr c_18
        have hp8 : 2 ^ i ≤ 256 := pow8 (by omega)
        have hpp : 0 < 2 ^ i := Nat.two_pow_pos i
        refine lv_iconst (v := 1) hx hb dX1_deriveAll_21 (by decide) ?_
        refine lv_iload_n hx hb dX1_deriveAll_22 rfl (lv_at hl 3 rfl) ?_
        refine lv_ishl hx hb dX1_deriveAll_23 ?_
        rw [sh1_eq (by omega)]
        refine lv_istore (lv' := [(4, .int (nI (2 ^ i))), (0, .ref (ad 0)), (1, .ref (rd 0)), (2, .ref (na)), (3, .int (nI (i)))]) hx hb dX1_deriveAll_24 hl (by decide) rfl (fun ls hl => ?_)
        refine lv_iconst (v := nI (0)) hx hb dX1_deriveAll_26 (by decide) ?_
        refine lv_istore (lv' := [(5, .int (nI (0))), (4, .int (nI (2 ^ i))), (0, .ref (ad 0)), (1, .ref (rd 0)), (2, .ref (na)), (3, .int (nI (i)))]) hx hb dX1_deriveAll_27 hl (by decide) rfl (fun ls hl => ?_)
        have lp_29 : ∀ (n29 j : Nat) (v5 : Int32) (HL2 : Nat → Int32), j ≤ 2 ^ i → 2 ^ i + 1 ≤ j + n29 → (∀ k, k < 2 ^ i + j → HL2 k = hdE B Hd O R nd SA k) → v5 = nI (j) → ∀ (H : Heap) (locs : List Loc), va_P D vwCl (wT cI cZ ad rd na HL2 LB SO NG WO SA SE B Hd O R nd) H → va_D Ap (wT cI cZ ad rd na HL2 LB SO NG WO SA SE B Hd O R nd) → va_S Ap s.heap H locs → ∀ ls : Array Slot, lv_has ls 6 [(4, .int (nI (2 ^ i))), (0, .ref (ad 0)), (1, .ref (rd 0)), (2, .ref (na)), (3, .int (nI (i))), (5, .int (v5))] → W p l e (headSpec wsX1_deriveAll ({ frames := 3, cells := 0, slots := 0, locals := 69 })).room s m ([.ref (ad 0), .ref (rd 0), .ref (na)]).toArray below meth c H locs 0 0 (MQ below (va_Qv (fun u9 : (Nat → Int32) => (∀ j, j < 2 ^ SA → u9 j = hdE B Hd O R nd SA j) ∧ (True)) (wB D Ap (fun u9 : (Nat → Int32) => (wT cI cZ ad rd na u9 LB SO NG WO SA SE B Hd O R nd))) Ap) ([.ref (ad 0), .ref (rd 0), .ref (na)]).toArray s 0 0 Ap) (F0 m 29 ls []) := by
          intro n29
          induction n29 with
          | zero => intro j v5 HL2 h1 h2; exact absurd h2 (by omega)
          | succ n29 ih29 =>
            intro j v5 HL2 hi29 hn29 hv2 e5 H locs hP hD hS ls hl
            subst e5
            have hl : lv_has ls 6 [(4, .int (nI (2 ^ i))), (0, .ref (ad 0)), (1, .ref (rd 0)), (2, .ref (na)), (3, .int (nI (i))), (5, .int (nI (j)))] := hl
            refine lv_iload hx hb dX1_deriveAll_29 (lv_at hl 5 rfl) ?_
            refine lv_iload hx hb dX1_deriveAll_31 (lv_at hl 0 rfl) ?_
            refine lv_icmp_ge (tgt := 69) hx hb dX1_deriveAll_33 (by decide) (fun c_33 => ?_) (fun c_33 => ?_)
            · skip
              have c_33 := (qI_le (a := 2 ^ i) (b := j) (by omega) (by omega)).mp c_33
              refine lv_iinc (v := nI (i + 1)) (lv' := [(3, .int (nI (i + 1))), (4, .int (nI (2 ^ i))), (0, .ref (ad 0)), (1, .ref (rd 0)), (2, .ref (na)), (5, .int (nI (j)))]) hx hb dX1_deriveAll_69 hl (k := 4) rfl (nI_1 _) (by decide) rfl (fun ls hl => ?_)
              refine lv_goto (tgt := 13) hx hb dX1_deriveAll_72 (by decide) ?_
              exact ih13 (i + 1) _ (HL2) (by omega) (by omega) (drv_out (by omega) hv2) (by first | rfl | (simp [c_18, c_33]; done) | (simp only [c_18, c_33]; rfl) | (simp_all [c_18, c_33]; done)) _ _ hP hD hS ls (lv_sub hl [2, 3, 4, 0] rfl)
            · skip
              have c_33 := mt (qI_le (a := 2 ^ i) (b := j) (by omega) (by omega)).mpr c_33
              refine lv_aload_n hx hb dX1_deriveAll_36 rfl (lv_at hl 1 rfl) ?_
              refine va_get (D := D) (ci := 1) (v := .ref (ad 1)) (C := RX1) (T := TX1) (N := 7) hx hb hts hin1 hown hK.1 hP 0 rfl rfl 0 (by decide) f9 (fun _ h9 => h9) rfl dX1_deriveAll_37 ?_
              refine lv_iload hx hb dX1_deriveAll_40 (lv_at hl 0 rfl) ?_
              refine lv_iload hx hb dX1_deriveAll_42 (lv_at hl 5 rfl) ?_
              refine lv_iadd hx hb dX1_deriveAll_44 ?_
              rw [nI_add]
              refine lv_aload_n hx hb dX1_deriveAll_45 rfl (lv_at hl 2 rfl) ?_
              refine lv_aload_n hx hb dX1_deriveAll_46 rfl (lv_at hl 1 rfl) ?_
              refine va_get (D := D) (ci := 1) (v := .ref (ad 1)) (C := RX1) (T := TX1) (N := 7) hx hb hts hin1 hown hK.1 hP 0 rfl rfl 0 (by decide) f9 (fun _ h9 => h9) rfl dX1_deriveAll_47 ?_
              refine lv_iload hx hb dX1_deriveAll_50 (lv_at hl 5 rfl) ?_
              refine ai_ (D := D) (f := HL2) (i := j) hx hb hK hP 1 0 rfl rfl (by omega) (by decide) dX1_deriveAll_52 ?_
              refine lv_iconst (v := 1) hx hb dX1_deriveAll_53 (by decide) ?_
              refine lv_aload_n hx hb dX1_deriveAll_54 rfl (lv_at hl 3 rfl) ?_
              refine lv_iload_n hx hb dX1_deriveAll_55 rfl (lv_at hl 4 rfl) ?_
              refine ai_ (D := D) (f := nd) (i := i) hx hb hK hP 10 0 rfl rfl (by omega) (by decide) dX1_deriveAll_56 ?_
              refine lv_ishl hx hb dX1_deriveAll_57 ?_
              refine lv_ior hx hb dX1_deriveAll_58 ?_
              refine pu_i (va_runV (As := [.int ((HL2 (j)) ||| ((1) <<< ((nd (i)) &&& 31)))]) (rest := [.int (nI (2 ^ i + j)), .ref (ad 1)]) ⟨hx, hb, hml, hown, hts⟩ (c_X0_closure l D cI cZ rd (B) (Hd) (O) (R) ((HL2 (j)) ||| ((1) <<< ((nd (i)) &&& 31))) (by omega)) (cwV 1 hts gX1_deriveAll_X0_closure rfl rfl rfl (by decide +kernel) ⟨Nat.le_of_ble_eq_true rfl, Nat.le_of_ble_eq_true rfl⟩) (pre_V (q0 := 0) (ci := 0) (hP.sub (ws' := (wR cI cZ rd B Hd O R)) [6, 7, 8, 9] rfl) hK rfl rfl) rfl rfl hl.1 rfl (lv_room (Nat.le_of_ble_eq_true rfl)) dX1_deriveAll_59 ⟨Nat.zero_le _, Nat.zero_le _⟩) ?_
              refine si_ (D := D) (f := HL2) (i := 2 ^ i + j) (x := clo B Hd O R ((HL2 (j)) ||| ((1) <<< ((nd (i)) &&& 31)))) hx hb hK hP hD hS 1 0 rfl rfl (by omega) (by decide) dX1_deriveAll_62 (fun H locs hP hD hS => ?_)
              have hP : va_P D vwCl (wT cI cZ ad rd na (upd HL2 (2 ^ i + j) (clo B Hd O R ((HL2 (j)) ||| ((1) <<< ((nd (i)) &&& 31))))) LB SO NG WO SA SE B Hd O R nd) H := hP
              have hD : va_D Ap (wT cI cZ ad rd na (upd HL2 (2 ^ i + j) (clo B Hd O R ((HL2 (j)) ||| ((1) <<< ((nd (i)) &&& 31))))) LB SO NG WO SA SE B Hd O R nd) := hD
              refine lv_iinc (v := nI (j + 1)) (lv' := [(5, .int (nI (j + 1))), (4, .int (nI (2 ^ i))), (0, .ref (ad 0)), (1, .ref (rd 0)), (2, .ref (na)), (3, .int (nI (i)))]) hx hb dX1_deriveAll_63 hl (k := 5) rfl (nI_1 _) (by decide) rfl (fun ls hl => ?_)
              refine lv_goto (tgt := 29) hx hb dX1_deriveAll_66 (by decide) ?_
              exact ih29 (j + 1) _ (upd HL2 (2 ^ i + j) (clo B Hd O R ((HL2 (j)) ||| ((1) <<< ((nd (i)) &&& 31))))) (by omega) (by omega) (drv_step hn hH hN hA (by omega) (by omega) hv2) (by first | rfl | (simp [c_18, c_33]; done) | (simp only [c_18, c_33]; rfl) | (simp_all [c_18, c_33]; done)) _ _ hP hD hS ls (lv_sub hl [1, 2, 3, 4, 5, 0] rfl)
        exact lp_29 (2 ^ i + 1) (0) _ (HL1) (by omega) (by omega) (hv1) (by first | rfl | (simp [c_18]; done) | (simp only [c_18]; rfl) | (simp_all [c_18]; done)) _ _ hP hD hS ls (lv_sub hl [1, 2, 3, 4, 5, 0] rfl)
  exact lp_13 (SA + 1) (0) _ (upd HL (0) (clo B Hd O R 0)) (by omega) (by omega) (drv_0) (by first | rfl | (simp []; done) | (simp only []; rfl) | (simp_all []; done)) _ _ hP hD hS ls (lv_sub hl [1, 2, 3, 0] rfl)
set_option maxHeartbeats 4000000 in
set_option maxRecDepth 100000 in
theorem c_X1_make (l : Launch) (D : va_G) (cI cZ : ClassId) (ad rd : Nat → Nat) (na : Nat) (HL : Nat → Int32) (LB : Nat → Int32) (SO : Nat → Bool) (NG : Nat → Bool) (WO : Nat → Bool) (SA : Nat) (SE : Nat) (B : Nat → Int32) (Hd : Nat → Int32) (O : Nat → Bool) (R : Nat) (nd : Nat → Int32) (N : Nat) (a0 : Nat) (hA : a0 ≤ 9) (hR : R ≤ 40) (hn : N ≤ 24) (hH : okH N Hd R) (hN : okN N nd a0) (sz : Nat) : Met l yX1_make wsX1_make ({ frames := 4, cells := 0, slots := 0, locals := 94 }) (pcW D [(cI, .int), (cZ, .boolean)] sz (wT cI cZ ad rd na HL LB SO NG WO SA SE B Hd O R nd) [.ref (ad 0), .ref (rd 0), .ref (na), .int (nI (a0))]) (va_Qv (fun u9 : (Nat → Int32) × (Nat → Int32) × (Nat → Bool) × (Nat → Bool) × (Nat → Bool) => (svOK B Hd O R nd a0 (u9.1) (u9.2.1) (u9.2.2.1) (u9.2.2.2.1) (u9.2.2.2.2) a0 (2 ^ a0)) ∧ (True)) (wB D (va_A (wT cI cZ ad rd na HL LB SO NG WO SA SE B Hd O R nd) sz) (fun u9 : (Nat → Int32) × (Nat → Int32) × (Nat → Bool) × (Nat → Bool) × (Nat → Bool) => (wT cI cZ ad rd na (u9.1) (u9.2.1) (u9.2.2.1) (u9.2.2.2.1) (u9.2.2.2.2) a0 (2 ^ a0) B Hd O R nd))) (va_A (wT cI cZ ad rd na HL LB SO NG WO SA SE B Hd O R nd) sz)) 0 0 (va_A (wT cI cZ ad rd na HL LB SO NG WO SA SE B Hd O R nd) sz) := by
  refine Met.ofW (cc := cX1_make) (maxL := 5) (ret := none) (by decide) rfl ?_
  intro p e s m args below meth c s₁ BB hml hv
  obtain ⟨rfl, hsz, hP, hK, hD0⟩ := hv
  have hx := BB.exec
  have hb := BB.bytes
  have hrt := BB.returns
  have hts := atoms_spec (ws := wsX1_make) BB.pre
  have hown : s.vm.findClass RX1 = some m.cls := findClass_of_methodNamed BB.named
  have hlk := BB.notSynchronized
  subst hsz
  have hD := hD0.self (sz := s.heap.size)
  generalize hAe : va_A (wT cI cZ ad rd na HL LB SO NG WO SA SE B Hd O R nd) s.heap.size = Ap at hD ⊢
  have hAp : ∀ q : Nat, s.heap.size ≤ q → Ap q := fun q h => by rw [← hAe]; exact Or.inr h
  have hS : va_S Ap s.heap s.heap [] := va_S.rf
  have f9 := hts (.fieldLink RX1 9 "AssumptionKeeper$Survey" "held" "[I") (by decide +kernel)
  have f15 := hts (.fieldLink RX1 15 "AssumptionKeeper$Survey" "labelled" "[I") (by decide +kernel)
  have f18 := hts (.fieldLink RX1 18 "AssumptionKeeper$Survey" "areSound" "[Z") (by decide +kernel)
  have f22 := hts (.fieldLink RX1 22 "AssumptionKeeper$Survey" "areNogoods" "[Z") (by decide +kernel)
  have f25 := hts (.fieldLink RX1 25 "AssumptionKeeper$Survey" "areWorlds" "[Z") (by decide +kernel)
  have f28 := hts (.fieldLink RX1 28 "AssumptionKeeper$Survey" "assumptions" "I") (by decide +kernel)
  have f32 := hts (.fieldLink RX1 32 "AssumptionKeeper$Survey" "environments" "I") (by decide +kernel)
  have hin1 : ∀ w ∈ u_ws RX1 TX1 7, w ∈ wsX1_make := by decide +kernel
  have hl := lv_entry ([.ref (ad 0), .ref (rd 0), .ref (na), .int (nI (a0))]) (n := 5) (Nat.le_of_ble_eq_true rfl)
  rw [lg_entry_eq]
  generalize (lg_sl ([.ref (ad 0), .ref (rd 0), .ref (na), .int (nI (a0))]) ++ List.replicate (5 - (lg_sl ([.ref (ad 0), .ref (rd 0), .ref (na), .int (nI (a0))])).length) Slot.unset).toArray = ls at hl ⊢
  have hl : lv_has ls 5 [(0, .ref (ad 0)), (1, .ref (rd 0)), (2, .ref (na)), (3, .int (nI (a0)))] := hl
  have h512 : 2 ^ a0 ≤ 512 := pow9 hA
  have hpos : 0 < 2 ^ a0 := Nat.two_pow_pos a0
  refine lv_aload_n hx hb dX1_make_0 rfl (lv_at hl 0 rfl) ?_
  refine lv_iload_n hx hb dX1_make_1 rfl (lv_at hl 3 rfl) ?_
  refine va_put (D := D) (ci := 1) (v := .int (nI (a0))) (ty := .int) (C := RX1) (T := TX1) (N := 7) hx hb hts hin1 tyX1 tyX1_ok nmX1 hown hK.1 hP hD hS 0 rfl rfl 5 (by decide) f28 (fun _ h9 => h9) rfl (by decide +kernel) rfl rfl (Nat.le_of_ble_eq_true rfl) dX1_make_2 (fun H locs hP hD hS => ?_)
  have hP : va_P D vwCl (wT cI cZ ad rd na HL LB SO NG WO a0 SE B Hd O R nd) H := hP
  have hD : va_D Ap (wT cI cZ ad rd na HL LB SO NG WO a0 SE B Hd O R nd) := hD
  refine lv_aload_n hx hb dX1_make_5 rfl (lv_at hl 0 rfl) ?_
  refine lv_iconst (v := 1) hx hb dX1_make_6 (by decide) ?_
  refine lv_iload_n hx hb dX1_make_7 rfl (lv_at hl 3 rfl) ?_
  refine lv_ishl hx hb dX1_make_8 ?_
  rw [sh1_eq (by omega)]
  refine va_put (D := D) (ci := 1) (v := .int (nI (2 ^ a0))) (ty := .int) (C := RX1) (T := TX1) (N := 7) hx hb hts hin1 tyX1 tyX1_ok nmX1 hown hK.1 hP hD hS 0 rfl rfl 6 (by decide) f32 (fun _ h9 => h9) rfl (by decide +kernel) rfl rfl (Nat.le_of_ble_eq_true rfl) dX1_make_9 (fun H locs hP hD hS => ?_)
  have hP : va_P D vwCl (wT cI cZ ad rd na HL LB SO NG WO a0 (2 ^ a0) B Hd O R nd) H := hP
  have hD : va_D Ap (wT cI cZ ad rd na HL LB SO NG WO a0 (2 ^ a0) B Hd O R nd) := hD
  refine lv_aload_n hx hb dX1_make_12 rfl (lv_at hl 0 rfl) ?_
  refine lv_aload_n hx hb dX1_make_13 rfl (lv_at hl 1 rfl) ?_
  refine lv_aload_n hx hb dX1_make_14 rfl (lv_at hl 2 rfl) ?_
  refine mu_v (wr := []) (va_runV (As := [.ref (rd 0), .ref (na)]) (rest := []) ⟨hx, hb, hml, hown, hts⟩ (c_X1_deriveAll l D cI cZ ad (rd) (na) (HL) (LB) (SO) (NG) (WO) (a0) (2 ^ a0) (B) (Hd) (O) (R) (nd) (N) (by omega) (by omega) (hn) (hH) (hN) (H).size) (cwV 2 hts gX1_make_X1_deriveAll rfl rfl rfl (by decide +kernel) ⟨Nat.le_of_ble_eq_true rfl, Nat.le_of_ble_eq_true rfl⟩) (prw_V (q0 := 0) (ci := 1) (hP.sub (ws' := (wT cI cZ ad rd na HL LB SO NG WO a0 (2 ^ a0) B Hd O R nd)) [0, 1, 2, 3, 4, 5, 6, 7, 8, 9, 10] rfl) (hD.sub (ws' := (wT cI cZ ad rd na HL LB SO NG WO a0 (2 ^ a0) B Hd O R nd)) [0, 1, 2, 3, 4, 5, 6, 7, 8, 9, 10] (by decide) rfl) hK rfl rfl) rfl rfl hl.1 rfl (lv_room (Nat.le_of_ble_eq_true rfl)) dX1_make_15 ⟨Nat.le_of_ble_eq_true rfl, Nat.le_of_ble_eq_true rfl⟩) hP hD hS hAp [0, 1, 2, 3, 4, 5, 6, 7, 8, 9, 10] [] rfl rfl (by decide) (by decide) (fun u_15 H locs hq_15 hP hD hS => ?_)
  obtain ⟨HL9_15, rfl⟩ : ∃ z, z = u_15 := ⟨_, rfl⟩
  obtain ⟨hHLp_15, -⟩ := hq_15
  have hP : va_P D vwCl (wT cI cZ ad rd na HL9_15 LB SO NG WO a0 (2 ^ a0) B Hd O R nd) H := hP
  have hD : va_D Ap (wT cI cZ ad rd na HL9_15 LB SO NG WO a0 (2 ^ a0) B Hd O R nd) := hD
  refine lv_iconst (v := nI (0)) hx hb dX1_make_18 (by decide) ?_
  refine lv_istore (lv' := [(4, .int (nI (0))), (0, .ref (ad 0)), (1, .ref (rd 0)), (2, .ref (na)), (3, .int (nI (a0)))]) hx hb dX1_make_19 hl (by decide) rfl (fun ls hl => ?_)
  have lp_21 : ∀ (n21 i : Nat) (v4 : Int32) (SO1 : Nat → Bool), i ≤ 2 ^ a0 → 2 ^ a0 + 1 ≤ i + n21 → (∀ j, j < i → SO1 j = soE B Hd O R nd a0 j) → v4 = nI (i) → ∀ (H : Heap) (locs : List Loc), va_P D vwCl (wT cI cZ ad rd na HL9_15 LB SO1 NG WO a0 (2 ^ a0) B Hd O R nd) H → va_D Ap (wT cI cZ ad rd na HL9_15 LB SO1 NG WO a0 (2 ^ a0) B Hd O R nd) → va_S Ap s.heap H locs → ∀ ls : Array Slot, lv_has ls 5 [(0, .ref (ad 0)), (1, .ref (rd 0)), (2, .ref (na)), (3, .int (nI (a0))), (4, .int (v4))] → W p l e (headSpec wsX1_make ({ frames := 4, cells := 0, slots := 0, locals := 94 })).room s m ([.ref (ad 0), .ref (rd 0), .ref (na), .int (nI (a0))]).toArray below meth c H locs 0 0 (MQ below (va_Qv (fun u9 : (Nat → Int32) × (Nat → Int32) × (Nat → Bool) × (Nat → Bool) × (Nat → Bool) => (svOK B Hd O R nd a0 (u9.1) (u9.2.1) (u9.2.2.1) (u9.2.2.2.1) (u9.2.2.2.2) a0 (2 ^ a0)) ∧ (True)) (wB D Ap (fun u9 : (Nat → Int32) × (Nat → Int32) × (Nat → Bool) × (Nat → Bool) × (Nat → Bool) => (wT cI cZ ad rd na (u9.1) (u9.2.1) (u9.2.2.1) (u9.2.2.2.1) (u9.2.2.2.2) a0 (2 ^ a0) B Hd O R nd))) Ap) ([.ref (ad 0), .ref (rd 0), .ref (na), .int (nI (a0))]).toArray s 0 0 Ap) (F0 m 21 ls []) := by
    intro n21
    induction n21 with
    | zero => intro i v4 SO1 h1 h2; exact absurd h2 (by omega)
    | succ n21 ih21 =>
      intro i v4 SO1 hi21 hn21 hv1 e4 H locs hP hD hS ls hl
      subst e4
      have hl : lv_has ls 5 [(0, .ref (ad 0)), (1, .ref (rd 0)), (2, .ref (na)), (3, .int (nI (a0))), (4, .int (nI (i)))] := hl
      refine lv_iload hx hb dX1_make_21 (lv_at hl 4 rfl) ?_
      refine lv_aload_n hx hb dX1_make_23 rfl (lv_at hl 0 rfl) ?_
      refine va_get (D := D) (ci := 1) (v := .int (nI (2 ^ a0))) (C := RX1) (T := TX1) (N := 7) hx hb hts hin1 hown hK.1 hP 0 rfl rfl 6 (by decide) f32 (fun _ h9 => h9) rfl dX1_make_24 ?_
      refine lv_icmp_ge (tgt := 62) hx hb dX1_make_27 (by decide) (fun c_27 => ?_) (fun c_27 => ?_)
      · skip
        have c_27 := (qI_le (a := 2 ^ a0) (b := i) (by omega) (by omega)).mp c_27
        refine lv_iconst (v := nI (0)) hx hb dX1_make_62 (by decide) ?_
        refine lv_istore (lv' := [(4, .int (nI (0))), (0, .ref (ad 0)), (1, .ref (rd 0)), (2, .ref (na)), (3, .int (nI (a0)))]) hx hb dX1_make_63 hl (by decide) rfl (fun ls hl => ?_)
        have lp_65 : ∀ (n65 i2 : Nat) (v4 : Int32) (LB1 : Nat → Int32) (NG1 : Nat → Bool) (WO1 : Nat → Bool), i2 ≤ 2 ^ a0 → 2 ^ a0 + 1 ≤ i2 + n65 → (∀ j, j < i2 → LB1 j = lbE HL9_15 SO1 a0 j) → (∀ j, j < i2 → NG1 j = ngE SO1 a0 j) → (∀ j, j < i2 → WO1 j = woE SO1 a0 j) → v4 = nI (i2) → ∀ (H : Heap) (locs : List Loc), va_P D vwCl (wT cI cZ ad rd na HL9_15 LB1 SO1 NG1 WO1 a0 (2 ^ a0) B Hd O R nd) H → va_D Ap (wT cI cZ ad rd na HL9_15 LB1 SO1 NG1 WO1 a0 (2 ^ a0) B Hd O R nd) → va_S Ap s.heap H locs → ∀ ls : Array Slot, lv_has ls 5 [(0, .ref (ad 0)), (1, .ref (rd 0)), (2, .ref (na)), (3, .int (nI (a0))), (4, .int (v4))] → W p l e (headSpec wsX1_make ({ frames := 4, cells := 0, slots := 0, locals := 94 })).room s m ([.ref (ad 0), .ref (rd 0), .ref (na), .int (nI (a0))]).toArray below meth c H locs 0 0 (MQ below (va_Qv (fun u9 : (Nat → Int32) × (Nat → Int32) × (Nat → Bool) × (Nat → Bool) × (Nat → Bool) => (svOK B Hd O R nd a0 (u9.1) (u9.2.1) (u9.2.2.1) (u9.2.2.2.1) (u9.2.2.2.2) a0 (2 ^ a0)) ∧ (True)) (wB D Ap (fun u9 : (Nat → Int32) × (Nat → Int32) × (Nat → Bool) × (Nat → Bool) × (Nat → Bool) => (wT cI cZ ad rd na (u9.1) (u9.2.1) (u9.2.2.1) (u9.2.2.2.1) (u9.2.2.2.2) a0 (2 ^ a0) B Hd O R nd))) Ap) ([.ref (ad 0), .ref (rd 0), .ref (na), .int (nI (a0))]).toArray s 0 0 Ap) (F0 m 65 ls []) := by
          intro n65
          induction n65 with
          | zero => intro i2 v4 LB1 NG1 WO1 h1 h2; exact absurd h2 (by omega)
          | succ n65 ih65 =>
            intro i2 v4 LB1 NG1 WO1 hi65 hn65 hw1 hw2 hw3 e4 H locs hP hD hS ls hl
            subst e4
            have hl : lv_has ls 5 [(0, .ref (ad 0)), (1, .ref (rd 0)), (2, .ref (na)), (3, .int (nI (a0))), (4, .int (nI (i2)))] := hl
            refine lv_iload hx hb dX1_make_65 (lv_at hl 4 rfl) ?_
            refine lv_aload_n hx hb dX1_make_67 rfl (lv_at hl 0 rfl) ?_
            refine va_get (D := D) (ci := 1) (v := .int (nI (2 ^ a0))) (C := RX1) (T := TX1) (N := 7) hx hb hts hin1 hown hK.1 hP 0 rfl rfl 6 (by decide) f32 (fun _ h9 => h9) rfl dX1_make_68 ?_
            refine lv_icmp_ge (tgt := 179) hx hb dX1_make_71 (by decide) (fun c_71 => ?_) (fun c_71 => ?_)
            · skip
              have c_71 := (qI_le (a := 2 ^ a0) (b := i2) (by omega) (by omega)).mp c_71
              exact mr_v (u := (HL9_15, LB1, SO1, NG1, WO1)) hx hb hrt hlk dX1_make_179 hS hP hD ⟨(⟨rfl, rfl, fun j hj => ⟨hHLp_15 j hj, hv1 j (by omega), hw1 j (by omega), hw2 j (by omega), hw3 j (by omega)⟩⟩), trivial⟩
            · skip
              have c_71 := mt (qI_le (a := 2 ^ a0) (b := i2) (by omega) (by omega)).mpr c_71
              refine lv_aload_n hx hb dX1_make_74 rfl (lv_at hl 0 rfl) ?_
              refine va_get (D := D) (ci := 1) (v := .ref (ad 2)) (C := RX1) (T := TX1) (N := 7) hx hb hts hin1 hown hK.1 hP 0 rfl rfl 1 (by decide) f15 (fun _ h9 => h9) rfl dX1_make_75 ?_
              refine lv_iload hx hb dX1_make_78 (lv_at hl 4 rfl) ?_
              refine lv_aload_n hx hb dX1_make_80 rfl (lv_at hl 0 rfl) ?_
              refine va_get (D := D) (ci := 1) (v := .ref (ad 3)) (C := RX1) (T := TX1) (N := 7) hx hb hts hin1 hown hK.1 hP 0 rfl rfl 2 (by decide) f18 (fun _ h9 => h9) rfl dX1_make_81 ?_
              refine lv_iload hx hb dX1_make_84 (lv_at hl 4 rfl) ?_
              refine az_ (D := D) (f := SO1) (i := i2) hx hb hK hP 3 1 rfl rfl (by omega) (by decide) dX1_make_86 ?_
              refine lv_if_eq (tgt := 109) hx hb dX1_make_87 (by decide) (fun c_87 => ?_) (fun c_87 => ?_)
              · skip
                have c_87 := bI_eq0 c_87
                refine lv_iconst (v := 0) hx hb dX1_make_109 (by decide) ?_
                refine si_ (D := D) (f := LB1) (i := i2) (x := 0) hx hb hK hP hD hS 2 0 rfl rfl (by omega) (by decide) dX1_make_110 (fun H locs hP hD hS => ?_)
                have hP : va_P D vwCl (wT cI cZ ad rd na HL9_15 (upd LB1 (i2) (0)) SO1 NG1 WO1 a0 (2 ^ a0) B Hd O R nd) H := hP
                have hD : va_D Ap (wT cI cZ ad rd na HL9_15 (upd LB1 (i2) (0)) SO1 NG1 WO1 a0 (2 ^ a0) B Hd O R nd) := hD
                refine lv_aload_n hx hb dX1_make_111 rfl (lv_at hl 0 rfl) ?_
                refine va_get (D := D) (ci := 1) (v := .ref (ad 4)) (C := RX1) (T := TX1) (N := 7) hx hb hts hin1 hown hK.1 hP 0 rfl rfl 3 (by decide) f22 (fun _ h9 => h9) rfl dX1_make_112 ?_
                refine lv_iload hx hb dX1_make_115 (lv_at hl 4 rfl) ?_
                refine lv_aload_n hx hb dX1_make_117 rfl (lv_at hl 0 rfl) ?_
                refine va_get (D := D) (ci := 1) (v := .ref (ad 3)) (C := RX1) (T := TX1) (N := 7) hx hb hts hin1 hown hK.1 hP 0 rfl rfl 2 (by decide) f18 (fun _ h9 => h9) rfl dX1_make_118 ?_
                refine lv_iload hx hb dX1_make_121 (lv_at hl 4 rfl) ?_
                refine az_ (D := D) (f := SO1) (i := i2) hx hb hK hP 3 1 rfl rfl (by omega) (by decide) dX1_make_123 ?_
                refine lv_if_ne (tgt := 140) hx hb dX1_make_124 (by decide) (fun c_124 => ?_) (fun c_124 => ?_)
                · skip
                  have c_124 := bI_ne0 c_124
                  exact absurd (c_87.symm.trans c_124) (by decide)
                · skip
                  have c_124 := bI_eq0 c_124
                  refine lv_aload_n hx hb dX1_make_127 rfl (lv_at hl 0 rfl) ?_
                  refine lv_iload hx hb dX1_make_128 (lv_at hl 4 rfl) ?_
                  refine pu_i (va_runV (As := [.int (nI (i2))]) (rest := [.int (nI (i2)), .ref (ad 4)]) ⟨hx, hb, hml, hown, hts⟩ (c_X1_isSoundBelow l D cI cZ ad (HL9_15) (upd LB1 (i2) (0)) (SO1) (NG1) (WO1) (a0) (2 ^ a0) (i2) (by omega) (by omega)) (cwV 1 hts gX1_make_X1_isSoundBelow rfl rfl rfl (by decide +kernel) ⟨Nat.le_of_ble_eq_true rfl, Nat.le_of_ble_eq_true rfl⟩) (pre_V (q0 := 0) (ci := 1) (hP.sub (ws' := (wS cI cZ ad HL9_15 (upd LB1 (i2) (0)) SO1 NG1 WO1 a0 (2 ^ a0))) [0, 1, 2, 3, 4, 5] rfl) hK rfl rfl) rfl rfl hl.1 rfl (lv_room (Nat.le_of_ble_eq_true rfl)) dX1_make_130 ⟨Nat.zero_le _, Nat.zero_le _⟩) ?_
                  refine lv_if_eq (tgt := 140) hx hb dX1_make_133 (by decide) (fun c_133 => ?_) (fun c_133 => ?_)
                  · skip
                    have c_133 := bI_eq0 c_133
                    have c_133 := nb_f c_133
                    refine lv_iconst (v := 0) hx hb dX1_make_140 (by decide) ?_
                    refine sz_ (D := D) (f := NG1) (i := i2) (x := false) hx hb hK hP hD hS 4 1 rfl rfl (by omega) (by decide) dX1_make_141 (fun H locs hP hD hS => ?_)
                    have hP : va_P D vwCl (wT cI cZ ad rd na HL9_15 (upd LB1 (i2) (0)) SO1 (updB NG1 (i2) (false)) WO1 a0 (2 ^ a0) B Hd O R nd) H := hP
                    have hD : va_D Ap (wT cI cZ ad rd na HL9_15 (upd LB1 (i2) (0)) SO1 (updB NG1 (i2) (false)) WO1 a0 (2 ^ a0) B Hd O R nd) := hD
                    refine lv_aload_n hx hb dX1_make_142 rfl (lv_at hl 0 rfl) ?_
                    refine va_get (D := D) (ci := 1) (v := .ref (ad 5)) (C := RX1) (T := TX1) (N := 7) hx hb hts hin1 hown hK.1 hP 0 rfl rfl 4 (by decide) f25 (fun _ h9 => h9) rfl dX1_make_143 ?_
                    refine lv_iload hx hb dX1_make_146 (lv_at hl 4 rfl) ?_
                    refine lv_aload_n hx hb dX1_make_148 rfl (lv_at hl 0 rfl) ?_
                    refine va_get (D := D) (ci := 1) (v := .ref (ad 3)) (C := RX1) (T := TX1) (N := 7) hx hb hts hin1 hown hK.1 hP 0 rfl rfl 2 (by decide) f18 (fun _ h9 => h9) rfl dX1_make_149 ?_
                    refine lv_iload hx hb dX1_make_152 (lv_at hl 4 rfl) ?_
                    refine az_ (D := D) (f := SO1) (i := i2) hx hb hK hP 3 1 rfl rfl (by omega) (by decide) dX1_make_154 ?_
                    refine lv_if_eq (tgt := 171) hx hb dX1_make_155 (by decide) (fun c_155 => ?_) (fun c_155 => ?_)
                    · skip
                      have c_155 := bI_eq0 c_155
                      refine lv_iconst (v := 0) hx hb dX1_make_171 (by decide) ?_
                      refine sz_ (D := D) (f := WO1) (i := i2) (x := false) hx hb hK hP hD hS 5 1 rfl rfl (by omega) (by decide) dX1_make_172 (fun H locs hP hD hS => ?_)
                      have hP : va_P D vwCl (wT cI cZ ad rd na HL9_15 (upd LB1 (i2) (0)) SO1 (updB NG1 (i2) (false)) (updB WO1 (i2) (false)) a0 (2 ^ a0) B Hd O R nd) H := hP
                      have hD : va_D Ap (wT cI cZ ad rd na HL9_15 (upd LB1 (i2) (0)) SO1 (updB NG1 (i2) (false)) (updB WO1 (i2) (false)) a0 (2 ^ a0) B Hd O R nd) := hD
                      refine lv_iinc (v := nI (i2 + 1)) (lv' := [(4, .int (nI (i2 + 1))), (0, .ref (ad 0)), (1, .ref (rd 0)), (2, .ref (na)), (3, .int (nI (a0)))]) hx hb dX1_make_173 hl (k := 4) rfl (nI_1 _) (by decide) rfl (fun ls hl => ?_)
                      refine lv_goto (tgt := 65) hx hb dX1_make_176 (by decide) ?_
                      exact ih65 (i2 + 1) _ (upd LB1 (i2) (0)) (updB NG1 (i2) (false)) (updB WO1 (i2) (false)) (by omega) (by omega) (upd_lt hw1 (by simp [lbE, c_27, c_71, c_87, c_124, c_133, c_155])) (updB_lt hw2 (by simp [ngE, c_27, c_71, c_87, c_124, c_133, c_155])) (updB_lt hw3 (by simp [woE, c_27, c_71, c_87, c_124, c_133, c_155])) (by first | rfl | (simp [c_27, c_71, c_87, c_124, c_133, c_155]; done) | (simp only [c_27, c_71, c_87, c_124, c_133, c_155]; rfl) | (simp_all [c_27, c_71, c_87, c_124, c_133, c_155]; done)) _ _ hP hD hS ls (lv_sub hl [1, 2, 3, 4, 0] rfl)
                    · skip
                      have c_155 := bI_ne0 c_155
                      exact absurd (c_87.symm.trans c_155) (by decide)
                  · skip
                    have c_133 := bI_ne0 c_133
                    have c_133 := nb_t c_133
                    refine lv_iconst (v := 1) hx hb dX1_make_136 (by decide) ?_
                    refine lv_goto (tgt := 141) hx hb dX1_make_137 (by decide) ?_
                    refine sz_ (D := D) (f := NG1) (i := i2) (x := true) hx hb hK hP hD hS 4 1 rfl rfl (by omega) (by decide) dX1_make_141 (fun H locs hP hD hS => ?_)
                    have hP : va_P D vwCl (wT cI cZ ad rd na HL9_15 (upd LB1 (i2) (0)) SO1 (updB NG1 (i2) (true)) WO1 a0 (2 ^ a0) B Hd O R nd) H := hP
                    have hD : va_D Ap (wT cI cZ ad rd na HL9_15 (upd LB1 (i2) (0)) SO1 (updB NG1 (i2) (true)) WO1 a0 (2 ^ a0) B Hd O R nd) := hD
                    refine lv_aload_n hx hb dX1_make_142 rfl (lv_at hl 0 rfl) ?_
                    refine va_get (D := D) (ci := 1) (v := .ref (ad 5)) (C := RX1) (T := TX1) (N := 7) hx hb hts hin1 hown hK.1 hP 0 rfl rfl 4 (by decide) f25 (fun _ h9 => h9) rfl dX1_make_143 ?_
                    refine lv_iload hx hb dX1_make_146 (lv_at hl 4 rfl) ?_
                    refine lv_aload_n hx hb dX1_make_148 rfl (lv_at hl 0 rfl) ?_
                    refine va_get (D := D) (ci := 1) (v := .ref (ad 3)) (C := RX1) (T := TX1) (N := 7) hx hb hts hin1 hown hK.1 hP 0 rfl rfl 2 (by decide) f18 (fun _ h9 => h9) rfl dX1_make_149 ?_
                    refine lv_iload hx hb dX1_make_152 (lv_at hl 4 rfl) ?_
                    refine az_ (D := D) (f := SO1) (i := i2) hx hb hK hP 3 1 rfl rfl (by omega) (by decide) dX1_make_154 ?_
                    refine lv_if_eq (tgt := 171) hx hb dX1_make_155 (by decide) (fun c_155 => ?_) (fun c_155 => ?_)
                    · skip
                      have c_155 := bI_eq0 c_155
                      refine lv_iconst (v := 0) hx hb dX1_make_171 (by decide) ?_
                      refine sz_ (D := D) (f := WO1) (i := i2) (x := false) hx hb hK hP hD hS 5 1 rfl rfl (by omega) (by decide) dX1_make_172 (fun H locs hP hD hS => ?_)
                      have hP : va_P D vwCl (wT cI cZ ad rd na HL9_15 (upd LB1 (i2) (0)) SO1 (updB NG1 (i2) (true)) (updB WO1 (i2) (false)) a0 (2 ^ a0) B Hd O R nd) H := hP
                      have hD : va_D Ap (wT cI cZ ad rd na HL9_15 (upd LB1 (i2) (0)) SO1 (updB NG1 (i2) (true)) (updB WO1 (i2) (false)) a0 (2 ^ a0) B Hd O R nd) := hD
                      refine lv_iinc (v := nI (i2 + 1)) (lv' := [(4, .int (nI (i2 + 1))), (0, .ref (ad 0)), (1, .ref (rd 0)), (2, .ref (na)), (3, .int (nI (a0)))]) hx hb dX1_make_173 hl (k := 4) rfl (nI_1 _) (by decide) rfl (fun ls hl => ?_)
                      refine lv_goto (tgt := 65) hx hb dX1_make_176 (by decide) ?_
                      exact ih65 (i2 + 1) _ (upd LB1 (i2) (0)) (updB NG1 (i2) (true)) (updB WO1 (i2) (false)) (by omega) (by omega) (upd_lt hw1 (by simp [lbE, c_27, c_71, c_87, c_124, c_133, c_155])) (updB_lt hw2 (by simp [ngE, c_27, c_71, c_87, c_124, c_133, c_155])) (updB_lt hw3 (by simp [woE, c_27, c_71, c_87, c_124, c_133, c_155])) (by first | rfl | (simp [c_27, c_71, c_87, c_124, c_133, c_155]; done) | (simp only [c_27, c_71, c_87, c_124, c_133, c_155]; rfl) | (simp_all [c_27, c_71, c_87, c_124, c_133, c_155]; done)) _ _ hP hD hS ls (lv_sub hl [1, 2, 3, 4, 0] rfl)
                    · skip
                      have c_155 := bI_ne0 c_155
                      exact absurd (c_87.symm.trans c_155) (by decide)
              · skip
                have c_87 := bI_ne0 c_87
                refine lv_aload_n hx hb dX1_make_90 rfl (lv_at hl 0 rfl) ?_
                refine va_get (D := D) (ci := 1) (v := .ref (ad 1)) (C := RX1) (T := TX1) (N := 7) hx hb hts hin1 hown hK.1 hP 0 rfl rfl 0 (by decide) f9 (fun _ h9 => h9) rfl dX1_make_91 ?_
                refine lv_iload hx hb dX1_make_94 (lv_at hl 4 rfl) ?_
                refine ai_ (D := D) (f := HL9_15) (i := i2) hx hb hK hP 1 0 rfl rfl (by omega) (by decide) dX1_make_96 ?_
                refine lv_aload_n hx hb dX1_make_97 rfl (lv_at hl 0 rfl) ?_
                refine lv_iload hx hb dX1_make_98 (lv_at hl 4 rfl) ?_
                refine pu_i (va_runV (As := [.int (nI (i2))]) (rest := [.int (HL9_15 (i2)), .int (nI (i2)), .ref (ad 2)]) ⟨hx, hb, hml, hown, hts⟩ (c_X1_heldBelow l D cI cZ ad (HL9_15) (LB1) (SO1) (NG1) (WO1) (a0) (2 ^ a0) (i2) (by omega) (by omega)) (cwV 1 hts gX1_make_X1_heldBelow rfl rfl rfl (by decide +kernel) ⟨Nat.le_of_ble_eq_true rfl, Nat.le_of_ble_eq_true rfl⟩) (pre_V (q0 := 0) (ci := 1) (hP.sub (ws' := (wS cI cZ ad HL9_15 LB1 SO1 NG1 WO1 a0 (2 ^ a0))) [0, 1, 2, 3, 4, 5] rfl) hK rfl rfl) rfl rfl hl.1 rfl (lv_room (Nat.le_of_ble_eq_true rfl)) dX1_make_100 ⟨Nat.zero_le _, Nat.zero_le _⟩) ?_
                refine lv_iconst (v := -1) hx hb dX1_make_103 (by decide) ?_
                refine lv_ixor hx hb dX1_make_104 ?_
                refine lv_iand hx hb dX1_make_105 ?_
                refine lv_goto (tgt := 110) hx hb dX1_make_106 (by decide) ?_
                refine si_ (D := D) (f := LB1) (i := i2) (x := (HL9_15 (i2)) &&& ((hB HL9_15 i2 a0) ^^^ (-1))) hx hb hK hP hD hS 2 0 rfl rfl (by omega) (by decide) dX1_make_110 (fun H locs hP hD hS => ?_)
                have hP : va_P D vwCl (wT cI cZ ad rd na HL9_15 (upd LB1 (i2) ((HL9_15 (i2)) &&& ((hB HL9_15 i2 a0) ^^^ (-1)))) SO1 NG1 WO1 a0 (2 ^ a0) B Hd O R nd) H := hP
                have hD : va_D Ap (wT cI cZ ad rd na HL9_15 (upd LB1 (i2) ((HL9_15 (i2)) &&& ((hB HL9_15 i2 a0) ^^^ (-1)))) SO1 NG1 WO1 a0 (2 ^ a0) B Hd O R nd) := hD
                refine lv_aload_n hx hb dX1_make_111 rfl (lv_at hl 0 rfl) ?_
                refine va_get (D := D) (ci := 1) (v := .ref (ad 4)) (C := RX1) (T := TX1) (N := 7) hx hb hts hin1 hown hK.1 hP 0 rfl rfl 3 (by decide) f22 (fun _ h9 => h9) rfl dX1_make_112 ?_
                refine lv_iload hx hb dX1_make_115 (lv_at hl 4 rfl) ?_
                refine lv_aload_n hx hb dX1_make_117 rfl (lv_at hl 0 rfl) ?_
                refine va_get (D := D) (ci := 1) (v := .ref (ad 3)) (C := RX1) (T := TX1) (N := 7) hx hb hts hin1 hown hK.1 hP 0 rfl rfl 2 (by decide) f18 (fun _ h9 => h9) rfl dX1_make_118 ?_
                refine lv_iload hx hb dX1_make_121 (lv_at hl 4 rfl) ?_
                refine az_ (D := D) (f := SO1) (i := i2) hx hb hK hP 3 1 rfl rfl (by omega) (by decide) dX1_make_123 ?_
                refine lv_if_ne (tgt := 140) hx hb dX1_make_124 (by decide) (fun c_124 => ?_) (fun c_124 => ?_)
                · skip
                  have c_124 := bI_ne0 c_124
                  refine lv_iconst (v := 0) hx hb dX1_make_140 (by decide) ?_
                  refine sz_ (D := D) (f := NG1) (i := i2) (x := false) hx hb hK hP hD hS 4 1 rfl rfl (by omega) (by decide) dX1_make_141 (fun H locs hP hD hS => ?_)
                  have hP : va_P D vwCl (wT cI cZ ad rd na HL9_15 (upd LB1 (i2) ((HL9_15 (i2)) &&& ((hB HL9_15 i2 a0) ^^^ (-1)))) SO1 (updB NG1 (i2) (false)) WO1 a0 (2 ^ a0) B Hd O R nd) H := hP
                  have hD : va_D Ap (wT cI cZ ad rd na HL9_15 (upd LB1 (i2) ((HL9_15 (i2)) &&& ((hB HL9_15 i2 a0) ^^^ (-1)))) SO1 (updB NG1 (i2) (false)) WO1 a0 (2 ^ a0) B Hd O R nd) := hD
                  refine lv_aload_n hx hb dX1_make_142 rfl (lv_at hl 0 rfl) ?_
                  refine va_get (D := D) (ci := 1) (v := .ref (ad 5)) (C := RX1) (T := TX1) (N := 7) hx hb hts hin1 hown hK.1 hP 0 rfl rfl 4 (by decide) f25 (fun _ h9 => h9) rfl dX1_make_143 ?_
                  refine lv_iload hx hb dX1_make_146 (lv_at hl 4 rfl) ?_
                  refine lv_aload_n hx hb dX1_make_148 rfl (lv_at hl 0 rfl) ?_
                  refine va_get (D := D) (ci := 1) (v := .ref (ad 3)) (C := RX1) (T := TX1) (N := 7) hx hb hts hin1 hown hK.1 hP 0 rfl rfl 2 (by decide) f18 (fun _ h9 => h9) rfl dX1_make_149 ?_
                  refine lv_iload hx hb dX1_make_152 (lv_at hl 4 rfl) ?_
                  refine az_ (D := D) (f := SO1) (i := i2) hx hb hK hP 3 1 rfl rfl (by omega) (by decide) dX1_make_154 ?_
                  refine lv_if_eq (tgt := 171) hx hb dX1_make_155 (by decide) (fun c_155 => ?_) (fun c_155 => ?_)
                  · skip
                    have c_155 := bI_eq0 c_155
                    exact absurd (c_155.symm.trans c_87) (by decide)
                  · skip
                    have c_155 := bI_ne0 c_155
                    refine lv_aload_n hx hb dX1_make_158 rfl (lv_at hl 0 rfl) ?_
                    refine lv_iload hx hb dX1_make_159 (lv_at hl 4 rfl) ?_
                    refine pu_i (va_runV (As := [.int (nI (i2))]) (rest := [.int (nI (i2)), .ref (ad 5)]) ⟨hx, hb, hml, hown, hts⟩ (c_X1_isSoundAbove l D cI cZ ad (HL9_15) (upd LB1 (i2) ((HL9_15 (i2)) &&& ((hB HL9_15 i2 a0) ^^^ (-1)))) (SO1) (updB NG1 (i2) (false)) (WO1) (a0) (2 ^ a0) (i2) (by omega) (by omega)) (cwV 1 hts gX1_make_X1_isSoundAbove rfl rfl rfl (by decide +kernel) ⟨Nat.le_of_ble_eq_true rfl, Nat.le_of_ble_eq_true rfl⟩) (pre_V (q0 := 0) (ci := 1) (hP.sub (ws' := (wS cI cZ ad HL9_15 (upd LB1 (i2) ((HL9_15 (i2)) &&& ((hB HL9_15 i2 a0) ^^^ (-1)))) SO1 (updB NG1 (i2) (false)) WO1 a0 (2 ^ a0))) [0, 1, 2, 3, 4, 5] rfl) hK rfl rfl) rfl rfl hl.1 rfl (lv_room (Nat.le_of_ble_eq_true rfl)) dX1_make_161 ⟨Nat.zero_le _, Nat.zero_le _⟩) ?_
                    refine lv_if_ne (tgt := 171) hx hb dX1_make_164 (by decide) (fun c_164 => ?_) (fun c_164 => ?_)
                    · skip
                      have c_164 := bI_ne0 c_164
                      refine lv_iconst (v := 0) hx hb dX1_make_171 (by decide) ?_
                      refine sz_ (D := D) (f := WO1) (i := i2) (x := false) hx hb hK hP hD hS 5 1 rfl rfl (by omega) (by decide) dX1_make_172 (fun H locs hP hD hS => ?_)
                      have hP : va_P D vwCl (wT cI cZ ad rd na HL9_15 (upd LB1 (i2) ((HL9_15 (i2)) &&& ((hB HL9_15 i2 a0) ^^^ (-1)))) SO1 (updB NG1 (i2) (false)) (updB WO1 (i2) (false)) a0 (2 ^ a0) B Hd O R nd) H := hP
                      have hD : va_D Ap (wT cI cZ ad rd na HL9_15 (upd LB1 (i2) ((HL9_15 (i2)) &&& ((hB HL9_15 i2 a0) ^^^ (-1)))) SO1 (updB NG1 (i2) (false)) (updB WO1 (i2) (false)) a0 (2 ^ a0) B Hd O R nd) := hD
                      refine lv_iinc (v := nI (i2 + 1)) (lv' := [(4, .int (nI (i2 + 1))), (0, .ref (ad 0)), (1, .ref (rd 0)), (2, .ref (na)), (3, .int (nI (a0)))]) hx hb dX1_make_173 hl (k := 4) rfl (nI_1 _) (by decide) rfl (fun ls hl => ?_)
                      refine lv_goto (tgt := 65) hx hb dX1_make_176 (by decide) ?_
                      exact ih65 (i2 + 1) _ (upd LB1 (i2) ((HL9_15 (i2)) &&& ((hB HL9_15 i2 a0) ^^^ (-1)))) (updB NG1 (i2) (false)) (updB WO1 (i2) (false)) (by omega) (by omega) (upd_lt hw1 (by simp [lbE, c_27, c_71, c_87, c_124, c_155, c_164])) (updB_lt hw2 (by simp [ngE, c_27, c_71, c_87, c_124, c_155, c_164])) (updB_lt hw3 (by simp [woE, c_27, c_71, c_87, c_124, c_155, c_164])) (by first | rfl | (simp [c_27, c_71, c_87, c_124, c_155, c_164]; done) | (simp only [c_27, c_71, c_87, c_124, c_155, c_164]; rfl) | (simp_all [c_27, c_71, c_87, c_124, c_155, c_164]; done)) _ _ hP hD hS ls (lv_sub hl [1, 2, 3, 4, 0] rfl)
                    · skip
                      have c_164 := bI_eq0 c_164
                      refine lv_iconst (v := 1) hx hb dX1_make_167 (by decide) ?_
                      refine lv_goto (tgt := 172) hx hb dX1_make_168 (by decide) ?_
                      refine sz_ (D := D) (f := WO1) (i := i2) (x := true) hx hb hK hP hD hS 5 1 rfl rfl (by omega) (by decide) dX1_make_172 (fun H locs hP hD hS => ?_)
                      have hP : va_P D vwCl (wT cI cZ ad rd na HL9_15 (upd LB1 (i2) ((HL9_15 (i2)) &&& ((hB HL9_15 i2 a0) ^^^ (-1)))) SO1 (updB NG1 (i2) (false)) (updB WO1 (i2) (true)) a0 (2 ^ a0) B Hd O R nd) H := hP
                      have hD : va_D Ap (wT cI cZ ad rd na HL9_15 (upd LB1 (i2) ((HL9_15 (i2)) &&& ((hB HL9_15 i2 a0) ^^^ (-1)))) SO1 (updB NG1 (i2) (false)) (updB WO1 (i2) (true)) a0 (2 ^ a0) B Hd O R nd) := hD
                      refine lv_iinc (v := nI (i2 + 1)) (lv' := [(4, .int (nI (i2 + 1))), (0, .ref (ad 0)), (1, .ref (rd 0)), (2, .ref (na)), (3, .int (nI (a0)))]) hx hb dX1_make_173 hl (k := 4) rfl (nI_1 _) (by decide) rfl (fun ls hl => ?_)
                      refine lv_goto (tgt := 65) hx hb dX1_make_176 (by decide) ?_
                      exact ih65 (i2 + 1) _ (upd LB1 (i2) ((HL9_15 (i2)) &&& ((hB HL9_15 i2 a0) ^^^ (-1)))) (updB NG1 (i2) (false)) (updB WO1 (i2) (true)) (by omega) (by omega) (upd_lt hw1 (by simp [lbE, c_27, c_71, c_87, c_124, c_155, c_164])) (updB_lt hw2 (by simp [ngE, c_27, c_71, c_87, c_124, c_155, c_164])) (updB_lt hw3 (by simp [woE, c_27, c_71, c_87, c_124, c_155, c_164])) (by first | rfl | (simp [c_27, c_71, c_87, c_124, c_155, c_164]; done) | (simp only [c_27, c_71, c_87, c_124, c_155, c_164]; rfl) | (simp_all [c_27, c_71, c_87, c_124, c_155, c_164]; done)) _ _ hP hD hS ls (lv_sub hl [1, 2, 3, 4, 0] rfl)
                · skip
                  have c_124 := bI_eq0 c_124
                  exact absurd (c_124.symm.trans c_87) (by decide)
        exact lp_65 (2 ^ a0 + 1) (0) _ (LB) (NG) (WO) (by omega) (by omega) (fun j hj => absurd hj (Nat.not_lt_zero j)) (fun j hj => absurd hj (Nat.not_lt_zero j)) (fun j hj => absurd hj (Nat.not_lt_zero j)) (by first | rfl | (simp [c_27]; done) | (simp only [c_27]; rfl) | (simp_all [c_27]; done)) _ _ hP hD hS ls (lv_sub hl [1, 2, 3, 4, 0] rfl)
      · skip
        have c_27 := mt (qI_le (a := 2 ^ a0) (b := i) (by omega) (by omega)).mpr c_27
        refine lv_aload_n hx hb dX1_make_30 rfl (lv_at hl 0 rfl) ?_
        refine va_get (D := D) (ci := 1) (v := .ref (ad 3)) (C := RX1) (T := TX1) (N := 7) hx hb hts hin1 hown hK.1 hP 0 rfl rfl 2 (by decide) f18 (fun _ h9 => h9) rfl dX1_make_31 ?_
        refine lv_iload hx hb dX1_make_34 (lv_at hl 4 rfl) ?_
        refine lv_aload_n hx hb dX1_make_36 rfl (lv_at hl 1 rfl) ?_
        refine lv_aload_n hx hb dX1_make_37 rfl (lv_at hl 0 rfl) ?_
        refine va_get (D := D) (ci := 1) (v := .ref (ad 1)) (C := RX1) (T := TX1) (N := 7) hx hb hts hin1 hown hK.1 hP 0 rfl rfl 0 (by decide) f9 (fun _ h9 => h9) rfl dX1_make_38 ?_
        refine lv_iload hx hb dX1_make_41 (lv_at hl 4 rfl) ?_
        refine ai_ (D := D) (f := HL9_15) (i := i) hx hb hK hP 1 0 rfl rfl (by omega) (by decide) dX1_make_43 ?_
        refine pu_i (va_runV (As := [.int (HL9_15 (i))]) (rest := [.int (nI (i)), .ref (ad 3)]) ⟨hx, hb, hml, hown, hts⟩ (c_X0_contradict l D cI cZ rd (B) (Hd) (O) (R) (HL9_15 (i)) (by omega)) (cwV 1 hts gX1_make_X0_contradict rfl rfl rfl (by decide +kernel) ⟨Nat.le_of_ble_eq_true rfl, Nat.le_of_ble_eq_true rfl⟩) (pre_V (q0 := 0) (ci := 0) (hP.sub (ws' := (wR cI cZ rd B Hd O R)) [6, 7, 8, 9] rfl) hK rfl rfl) rfl rfl hl.1 rfl (lv_room (Nat.le_of_ble_eq_true rfl)) dX1_make_44 ⟨Nat.zero_le _, Nat.zero_le _⟩) ?_
        refine lv_if_ne (tgt := 54) hx hb dX1_make_47 (by decide) (fun c_47 => ?_) (fun c_47 => ?_)
        · skip
          have c_47 := bI_ne0 c_47
          refine lv_iconst (v := 0) hx hb dX1_make_54 (by decide) ?_
          refine sz_ (D := D) (f := SO1) (i := i) (x := false) hx hb hK hP hD hS 3 1 rfl rfl (by omega) (by decide) dX1_make_55 (fun H locs hP hD hS => ?_)
          have hP : va_P D vwCl (wT cI cZ ad rd na HL9_15 LB (updB SO1 (i) (false)) NG WO a0 (2 ^ a0) B Hd O R nd) H := hP
          have hD : va_D Ap (wT cI cZ ad rd na HL9_15 LB (updB SO1 (i) (false)) NG WO a0 (2 ^ a0) B Hd O R nd) := hD
          refine lv_iinc (v := nI (i + 1)) (lv' := [(4, .int (nI (i + 1))), (0, .ref (ad 0)), (1, .ref (rd 0)), (2, .ref (na)), (3, .int (nI (a0)))]) hx hb dX1_make_56 hl (k := 4) rfl (nI_1 _) (by decide) rfl (fun ls hl => ?_)
          refine lv_goto (tgt := 21) hx hb dX1_make_59 (by decide) ?_
          exact ih21 (i + 1) _ (updB SO1 (i) (false)) (by omega) (by omega) (updB_lt hv1 (by unfold soE; rw [← hHLp_15 i (by omega)]; simp [c_27, c_47])) (by first | rfl | (simp [c_27, c_47]; done) | (simp only [c_27, c_47]; rfl) | (simp_all [c_27, c_47]; done)) _ _ hP hD hS ls (lv_sub hl [1, 2, 3, 4, 0] rfl)
        · skip
          have c_47 := bI_eq0 c_47
          refine lv_iconst (v := 1) hx hb dX1_make_50 (by decide) ?_
          refine lv_goto (tgt := 55) hx hb dX1_make_51 (by decide) ?_
          refine sz_ (D := D) (f := SO1) (i := i) (x := true) hx hb hK hP hD hS 3 1 rfl rfl (by omega) (by decide) dX1_make_55 (fun H locs hP hD hS => ?_)
          have hP : va_P D vwCl (wT cI cZ ad rd na HL9_15 LB (updB SO1 (i) (true)) NG WO a0 (2 ^ a0) B Hd O R nd) H := hP
          have hD : va_D Ap (wT cI cZ ad rd na HL9_15 LB (updB SO1 (i) (true)) NG WO a0 (2 ^ a0) B Hd O R nd) := hD
          refine lv_iinc (v := nI (i + 1)) (lv' := [(4, .int (nI (i + 1))), (0, .ref (ad 0)), (1, .ref (rd 0)), (2, .ref (na)), (3, .int (nI (a0)))]) hx hb dX1_make_56 hl (k := 4) rfl (nI_1 _) (by decide) rfl (fun ls hl => ?_)
          refine lv_goto (tgt := 21) hx hb dX1_make_59 (by decide) ?_
          exact ih21 (i + 1) _ (updB SO1 (i) (true)) (by omega) (by omega) (updB_lt hv1 (by unfold soE; rw [← hHLp_15 i (by omega)]; simp [c_27, c_47])) (by first | rfl | (simp [c_27, c_47]; done) | (simp only [c_27, c_47]; rfl) | (simp_all [c_27, c_47]; done)) _ _ hP hD hS ls (lv_sub hl [1, 2, 3, 4, 0] rfl)
  exact lp_21 (2 ^ a0 + 1) (0) _ (SO) (by omega) (by omega) (fun j hj => absurd hj (Nat.not_lt_zero j)) (by first | rfl | (simp []; done) | (simp only []; rfl) | (simp_all []; done)) _ _ hP hD hS ls (lv_sub hl [1, 2, 3, 4, 0] rfl)
set_option maxHeartbeats 4000000 in
set_option maxRecDepth 100000 in
theorem c_X2_surveyNow (l : Launch) (D : va_G) (cI cZ : ClassId) (ad : Nat → Nat) (N : Nat) (A : Nat) (fl : Bool) (an : Nat → Int32) (nd : Nat → Int32) (wt : Nat → Int32) (B : Nat → Int32) (Hd : Nat → Int32) (O : Nat → Bool) (R : Nat) (HL : Nat → Int32) (LB : Nat → Int32) (SO : Nat → Bool) (NG : Nat → Bool) (WO : Nat → Bool) (SA : Nat) (SE : Nat) (hA : A ≤ 9) (hR : R ≤ 40) (hn : N ≤ 24) (hH : okH N Hd R) (hN : okN N nd A) (hsv : fl = true → svOK B Hd O R nd A HL LB SO NG WO SA SE) (sz : Nat) : Met l yX2_surveyNow wsX2_surveyNow ({ frames := 5, cells := 0, slots := 0, locals := 118 }) (pcW D [(cI, .int), (cZ, .boolean)] sz (wK cI cZ ad N A fl an nd wt B Hd O R HL LB SO NG WO SA SE) [.ref (ad 0)]) (va_Qr (fun u9 : (Nat → Int32) × (Nat → Int32) × (Nat → Bool) × (Nat → Bool) × (Nat → Bool) => (svOK B Hd O R nd A (u9.1) (u9.2.1) (u9.2.2.1) (u9.2.2.2.1) (u9.2.2.2.2) A (2 ^ A)) ∧ (True)) (fun u q t => q = ad 8 ∧ wB D (va_A (wK cI cZ ad N A fl an nd wt B Hd O R HL LB SO NG WO SA SE) sz) (fun u9 : (Nat → Int32) × (Nat → Int32) × (Nat → Bool) × (Nat → Bool) × (Nat → Bool) => (wK cI cZ ad N A true an nd wt B Hd O R (u9.1) (u9.2.1) (u9.2.2.1) (u9.2.2.2.1) (u9.2.2.2.2) A (2 ^ A))) u t) (va_A (wK cI cZ ad N A fl an nd wt B Hd O R HL LB SO NG WO SA SE) sz)) 0 0 (va_A (wK cI cZ ad N A fl an nd wt B Hd O R HL LB SO NG WO SA SE) sz) := by
  refine Met.ofW (cc := cX2_surveyNow) (maxL := 1) (ret := (some (.object "AssumptionKeeper$Survey"))) (by decide) rfl ?_
  intro p e s m args below meth c s₁ BB hml hv
  obtain ⟨rfl, hsz, hP, hK, hD0⟩ := hv
  have hx := BB.exec
  have hb := BB.bytes
  have hrt := BB.returns
  have hts := atoms_spec (ws := wsX2_surveyNow) BB.pre
  have hown : s.vm.findClass RX2 = some m.cls := findClass_of_methodNamed BB.named
  have hlk := BB.notSynchronized
  subst hsz
  have hD := hD0.self (sz := s.heap.size)
  generalize hAe : va_A (wK cI cZ ad N A fl an nd wt B Hd O R HL LB SO NG WO SA SE) s.heap.size = Ap at hD ⊢
  have hAp : ∀ q : Nat, s.heap.size ≤ q → Ap q := fun q h => by rw [← hAe]; exact Or.inr h
  have hS : va_S Ap s.heap s.heap [] := va_S.rf
  have f13 := hts (.fieldLink RX2 13 "AssumptionKeeper" "assumptionNodes" "[I") (by decide +kernel)
  have f22 := hts (.fieldLink RX2 22 "AssumptionKeeper" "rules" "LAssumptionKeeper$RuleBook;") (by decide +kernel)
  have f29 := hts (.fieldLink RX2 29 "AssumptionKeeper" "survey" "LAssumptionKeeper$Survey;") (by decide +kernel)
  have f37 := hts (.fieldLink RX2 37 "AssumptionKeeper" "assumptions" "I") (by decide +kernel)
  have f40 := hts (.fieldLink RX2 40 "AssumptionKeeper" "isSurveyed" "Z") (by decide +kernel)
  have hin2 : ∀ w ∈ u_ws RX2 TX2 8, w ∈ wsX2_surveyNow := by decide +kernel
  have hl := lv_entry ([.ref (ad 0)]) (n := 1) (Nat.le_of_ble_eq_true rfl)
  rw [lg_entry_eq]
  generalize (lg_sl ([.ref (ad 0)]) ++ List.replicate (1 - (lg_sl ([.ref (ad 0)])).length) Slot.unset).toArray = ls at hl ⊢
  have hl : lv_has ls 1 [(0, .ref (ad 0))] := hl
  refine lv_aload_n hx hb dX2_surveyNow_0 rfl (lv_at hl 0 rfl) ?_
  refine va_get (D := D) (ci := 2) (v := .int (bI (fl))) (C := RX2) (T := TX2) (N := 8) hx hb hts hin2 hown hK.1 hP 0 rfl rfl 7 (by decide) f40 (fun _ h9 => h9) rfl dX2_surveyNow_1 ?_
  refine lv_if_ne (tgt := 31) hx hb dX2_surveyNow_4 (by decide) (fun c_4 => ?_) (fun c_4 => ?_)
  · skip
    have c_4 := bI_ne0 c_4
    subst c_4
    obtain ⟨hSA, hSE, hall⟩ := hsv rfl
    rw [hSA, hSE] at hP hD
    refine lv_aload_n hx hb dX2_surveyNow_31 rfl (lv_at hl 0 rfl) ?_
    refine va_get (D := D) (ci := 2) (v := .ref (ad 8)) (C := RX2) (T := TX2) (N := 8) hx hb hts hin2 hown hK.1 hP 0 rfl rfl 4 (by decide) f29 (fun _ h9 => h9) rfl dX2_surveyNow_32 ?_
    exact mr_a (u := (HL, LB, SO, NG, WO)) hx hb hrt hlk dX2_surveyNow_35 hS hP hD ⟨(by first | exact hsv_23 | exact ⟨rfl, rfl, hall⟩), trivial⟩
  · skip
    have c_4 := bI_eq0 c_4
    refine lv_aload_n hx hb dX2_surveyNow_7 rfl (lv_at hl 0 rfl) ?_
    refine va_get (D := D) (ci := 2) (v := .ref (ad 8)) (C := RX2) (T := TX2) (N := 8) hx hb hts hin2 hown hK.1 hP 0 rfl rfl 4 (by decide) f29 (fun _ h9 => h9) rfl dX2_surveyNow_8 ?_
    refine lv_aload_n hx hb dX2_surveyNow_11 rfl (lv_at hl 0 rfl) ?_
    refine va_get (D := D) (ci := 2) (v := .ref (ad 4)) (C := RX2) (T := TX2) (N := 8) hx hb hts hin2 hown hK.1 hP 0 rfl rfl 3 (by decide) f22 (fun _ h9 => h9) rfl dX2_surveyNow_12 ?_
    refine lv_aload_n hx hb dX2_surveyNow_15 rfl (lv_at hl 0 rfl) ?_
    refine va_get (D := D) (ci := 2) (v := .ref (ad 2)) (C := RX2) (T := TX2) (N := 8) hx hb hts hin2 hown hK.1 hP 0 rfl rfl 1 (by decide) f13 (fun _ h9 => h9) rfl dX2_surveyNow_16 ?_
    refine lv_aload_n hx hb dX2_surveyNow_19 rfl (lv_at hl 0 rfl) ?_
    refine va_get (D := D) (ci := 2) (v := .int (nI (A))) (C := RX2) (T := TX2) (N := 8) hx hb hts hin2 hown hK.1 hP 0 rfl rfl 6 (by decide) f37 (fun _ h9 => h9) rfl dX2_surveyNow_20 ?_
    refine mu_v (wr := [(ad 0, .inr (2, [.ref (ad 1), .ref (ad 2), .ref (ad 3), .ref (ad 4), .ref (ad 8), .int (nI (N)), .int (nI (A)), .int (bI (fl))])), (ad 1, .inl (cI, 24, .inl an)), (ad 3, .inl (cI, 9, .inl wt))]) (va_runV (As := [.ref (ad 4), .ref (ad 2), .int (nI (A))]) (rest := []) ⟨hx, hb, hml, hown, hts⟩ (c_X1_make l D cI cZ (fun k => ad (k + 8)) ((fun k => ad (k + 4))) ((ad 2)) (HL) (LB) (SO) (NG) (WO) (SA) (SE) (B) (Hd) (O) (R) (nd) (N) (A) (by omega) (by omega) (hn) (hH) (hN) (s.heap).size) (cwV 3 hts gX2_surveyNow_X1_make rfl rfl rfl (by decide +kernel) ⟨Nat.le_of_ble_eq_true rfl, Nat.le_of_ble_eq_true rfl⟩) (prw_V (q0 := 0) (ci := 1) (hP.sub (ws' := (wT cI cZ (fun k => ad (k + 8)) (fun k => ad (k + 4)) (ad 2) HL LB SO NG WO SA SE B Hd O R nd)) [8, 9, 10, 11, 12, 13, 4, 5, 6, 7, 2] rfl) (hD.sub (ws' := (wT cI cZ (fun k => ad (k + 8)) (fun k => ad (k + 4)) (ad 2) HL LB SO NG WO SA SE B Hd O R nd)) [8, 9, 10, 11, 12, 13, 4, 5, 6, 7, 2] (by decide) rfl) hK rfl rfl) rfl rfl hl.1 rfl (lv_room (Nat.le_of_ble_eq_true rfl)) dX2_surveyNow_23 ⟨Nat.le_of_ble_eq_true rfl, Nat.le_of_ble_eq_true rfl⟩) hP hD hS hAp [8, 9, 10, 11, 12, 13, 4, 5, 6, 7, 2] [0, 1, 3] rfl rfl (by decide) (by decide) (fun u_23 H locs hq_23 hP hD hS => ?_)
    obtain ⟨HL9_23, LB9_23, SO9_23, NG9_23, WO9_23⟩ := u_23
    obtain ⟨hsv_23, -⟩ := hq_23
    have hsv_23 : svOK B Hd O R nd A HL9_23 LB9_23 SO9_23 NG9_23 WO9_23 A (2 ^ A) := hsv_23
    have hP : va_P D vwCl (wK cI cZ ad N A fl an nd wt B Hd O R HL9_23 LB9_23 SO9_23 NG9_23 WO9_23 A (2 ^ A)) H := hP.sub [0, 1, 13, 2, 9, 10, 11, 12, 3, 4, 5, 6, 7, 8] rfl
    have hD : va_D Ap (wK cI cZ ad N A fl an nd wt B Hd O R HL9_23 LB9_23 SO9_23 NG9_23 WO9_23 A (2 ^ A)) := hD.sub [0, 1, 13, 2, 9, 10, 11, 12, 3, 4, 5, 6, 7, 8] (by decide) rfl
    refine lv_aload_n hx hb dX2_surveyNow_26 rfl (lv_at hl 0 rfl) ?_
    refine lv_iconst (v := 1) hx hb dX2_surveyNow_27 (by decide) ?_
    refine va_put (D := D) (ci := 2) (v := .int (bI (true))) (ty := .boolean) (C := RX2) (T := TX2) (N := 8) hx hb hts hin2 tyX2 tyX2_ok nmX2 hown hK.1 hP hD hS 0 rfl rfl 7 (by decide) f40 (fun _ h9 => h9) rfl (by decide +kernel) (bI_nar _) rfl (Nat.le_of_ble_eq_true rfl) dX2_surveyNow_28 (fun H locs hP hD hS => ?_)
    have hP : va_P D vwCl (wK cI cZ ad N A true an nd wt B Hd O R HL9_23 LB9_23 SO9_23 NG9_23 WO9_23 A (2 ^ A)) H := hP
    have hD : va_D Ap (wK cI cZ ad N A true an nd wt B Hd O R HL9_23 LB9_23 SO9_23 NG9_23 WO9_23 A (2 ^ A)) := hD
    refine lv_aload_n hx hb dX2_surveyNow_31 rfl (lv_at hl 0 rfl) ?_
    refine va_get (D := D) (ci := 2) (v := .ref (ad 8)) (C := RX2) (T := TX2) (N := 8) hx hb hts hin2 hown hK.1 hP 0 rfl rfl 4 (by decide) f29 (fun _ h9 => h9) rfl dX2_surveyNow_32 ?_
    exact mr_a (u := (HL9_23, LB9_23, SO9_23, NG9_23, WO9_23)) hx hb hrt hlk dX2_surveyNow_35 hS hP hD ⟨(by first | exact hsv_23 | exact ⟨rfl, rfl, hall⟩), trivial⟩
set_option maxHeartbeats 4000000 in
set_option maxRecDepth 100000 in
theorem c_X3_know (l : Launch) (D : va_G) (cI cZ : ClassId) (ad : Nat → Nat) (th : Int32) (N : Nat) (A : Nat) (R : Nat) (kw : Bool) (an : Nat → Int32) (nd : Nat → Int32) (wt : Nat → Int32) (B : Nat → Int32) (Hd : Nat → Int32) (O : Nat → Bool) (HL : Nat → Int32) (CO : Nat → Bool) (hA : A ≤ 9) (hR : R ≤ 40) (hn : N ≤ 24) (hH : okH N Hd R) (hN : okN N nd A) (hkw : kw = true → knOK B Hd O R nd A HL CO) (sz : Nat) : Met l yX3_know wsX3_know ({ frames := 2, cells := 0, slots := 0, locals := 44 }) (pcW D [(cI, .int), (cZ, .boolean)] sz (wM cI cZ ad th N A R kw an nd wt B Hd O HL CO) [.ref (ad 0)]) (va_Qv (fun u9 : (Nat → Int32) × (Nat → Bool) => (knOK B Hd O R nd A (u9.1) (u9.2)) ∧ (True)) (wB D (va_A (wM cI cZ ad th N A R kw an nd wt B Hd O HL CO) sz) (fun u9 : (Nat → Int32) × (Nat → Bool) => (wM cI cZ ad th N A R true an nd wt B Hd O (u9.1) (u9.2)))) (va_A (wM cI cZ ad th N A R kw an nd wt B Hd O HL CO) sz)) 0 0 (va_A (wM cI cZ ad th N A R kw an nd wt B Hd O HL CO) sz) := by
  refine Met.ofW (cc := cX3_know) (maxL := 5) (ret := none) (by decide) rfl ?_
  intro p e s m args below meth c s₁ BB hml hv
  obtain ⟨rfl, hsz, hP, hK, hD0⟩ := hv
  have hx := BB.exec
  have hb := BB.bytes
  have hrt := BB.returns
  have hts := atoms_spec (ws := wsX3_know) BB.pre
  have hown : s.vm.findClass RX3 = some m.cls := findClass_of_methodNamed BB.named
  have hlk := BB.notSynchronized
  subst hsz
  have hD := hD0.self (sz := s.heap.size)
  generalize hAe : va_A (wM cI cZ ad th N A R kw an nd wt B Hd O HL CO) s.heap.size = Ap at hD ⊢
  have hAp : ∀ q : Nat, s.heap.size ≤ q → Ap q := fun q h => by rw [← hAe]; exact Or.inr h
  have hS : va_S Ap s.heap s.heap [] := va_S.rf
  have f19 := hts (.fieldLink RX3 19 "AssumptionKeeperModel" "bodies" "[I") (by decide +kernel)
  have f22 := hts (.fieldLink RX3 22 "AssumptionKeeperModel" "heads" "[I") (by decide +kernel)
  have f25 := hts (.fieldLink RX3 25 "AssumptionKeeperModel" "areOn" "[Z") (by decide +kernel)
  have f29 := hts (.fieldLink RX3 29 "AssumptionKeeperModel" "held" "[I") (by decide +kernel)
  have f32 := hts (.fieldLink RX3 32 "AssumptionKeeperModel" "areConsistent" "[Z") (by decide +kernel)
  have f42 := hts (.fieldLink RX3 42 "AssumptionKeeperModel" "assumptions" "I") (by decide +kernel)
  have f45 := hts (.fieldLink RX3 45 "AssumptionKeeperModel" "isKnown" "Z") (by decide +kernel)
  have f66 := hts (.fieldLink RX3 66 "AssumptionKeeperModel" "rules" "I") (by decide +kernel)
  have hin3 : ∀ w ∈ u_ws RX3 TX3 13, w ∈ wsX3_know := by decide +kernel
  have hl := lv_entry ([.ref (ad 0)]) (n := 5) (Nat.le_of_ble_eq_true rfl)
  rw [lg_entry_eq]
  generalize (lg_sl ([.ref (ad 0)]) ++ List.replicate (5 - (lg_sl ([.ref (ad 0)])).length) Slot.unset).toArray = ls at hl ⊢
  have hl : lv_has ls 5 [(0, .ref (ad 0))] := hl
  have h512 : 2 ^ A ≤ 512 := pow9 hA
  have hpos : 0 < 2 ^ A := Nat.two_pow_pos A
  refine lv_aload_n hx hb dX3_know_0 rfl (lv_at hl 0 rfl) ?_
  refine va_get (D := D) (ci := 3) (v := .int (bI (kw))) (C := RX3) (T := TX3) (N := 13) hx hb hts hin3 hown hK.1 hP 0 rfl rfl 10 (by decide) f45 (fun _ h9 => h9) rfl dX3_know_1 ?_
  refine lv_if_eq (tgt := 8) hx hb dX3_know_4 (by decide) (fun c_4 => ?_) (fun c_4 => ?_)
  · skip
    have c_4 := bI_eq0 c_4
    refine lv_aload_n hx hb dX3_know_8 rfl (lv_at hl 0 rfl) ?_
    refine lv_iconst (v := 1) hx hb dX3_know_9 (by decide) ?_
    refine va_put (D := D) (ci := 3) (v := .int (bI (true))) (ty := .boolean) (C := RX3) (T := TX3) (N := 13) hx hb hts hin3 tyX3 tyX3_ok nmX3 hown hK.1 hP hD hS 0 rfl rfl 10 (by decide) f45 (fun _ h9 => h9) rfl (by decide +kernel) (bI_nar _) rfl (Nat.le_of_ble_eq_true rfl) dX3_know_10 (fun H locs hP hD hS => ?_)
    have hP : va_P D vwCl (wM cI cZ ad th N A R true an nd wt B Hd O HL CO) H := hP
    have hD : va_D Ap (wM cI cZ ad th N A R true an nd wt B Hd O HL CO) := hD
    refine lv_iconst (v := nI (0)) hx hb dX3_know_13 (by decide) ?_
    refine lv_istore_n (lv' := [(1, .int (nI (0))), (0, .ref (ad 0))]) hx hb dX3_know_14 rfl hl (by decide) rfl (fun ls hl => ?_)
    have lp_15 : ∀ (n15 i : Nat) (v1 : Int32) (HL1 : Nat → Int32) (CO1 : Nat → Bool), i ≤ 2 ^ A → 2 ^ A + 1 ≤ i + n15 → (∀ j, j < i → HL1 j = hdE B Hd O R nd A j ∧ CO1 j = soE B Hd O R nd A j) → v1 = nI (i) → ∀ (H : Heap) (locs : List Loc), va_P D vwCl (wM cI cZ ad th N A R true an nd wt B Hd O HL1 CO1) H → va_D Ap (wM cI cZ ad th N A R true an nd wt B Hd O HL1 CO1) → va_S Ap s.heap H locs → ∀ ls : Array Slot, lv_has ls 5 [(0, .ref (ad 0)), (1, .int (v1))] → W p l e (headSpec wsX3_know ({ frames := 2, cells := 0, slots := 0, locals := 44 })).room s m ([.ref (ad 0)]).toArray below meth c H locs 0 0 (MQ below (va_Qv (fun u9 : (Nat → Int32) × (Nat → Bool) => (knOK B Hd O R nd A (u9.1) (u9.2)) ∧ (True)) (wB D Ap (fun u9 : (Nat → Int32) × (Nat → Bool) => (wM cI cZ ad th N A R true an nd wt B Hd O (u9.1) (u9.2)))) Ap) ([.ref (ad 0)]).toArray s 0 0 Ap) (F0 m 15 ls []) := by
      intro n15
      induction n15 with
      | zero => intro i v1 HL1 CO1 h1 h2; exact absurd h2 (by omega)
      | succ n15 ih15 =>
        intro i v1 HL1 CO1 hi15 hn15 hk e1 H locs hP hD hS ls hl
        subst e1
        have hl : lv_has ls 5 [(0, .ref (ad 0)), (1, .int (nI (i)))] := hl
        refine lv_iload_n hx hb dX3_know_15 rfl (lv_at hl 1 rfl) ?_
        refine lv_iconst (v := 1) hx hb dX3_know_16 (by decide) ?_
        refine lv_aload_n hx hb dX3_know_17 rfl (lv_at hl 0 rfl) ?_
        refine va_get (D := D) (ci := 3) (v := .int (nI (A))) (C := RX3) (T := TX3) (N := 13) hx hb hts hin3 hown hK.1 hP 0 rfl rfl 3 (by decide) f42 (fun _ h9 => h9) rfl dX3_know_18 ?_
        refine lv_ishl hx hb dX3_know_21 ?_
        rw [sh1_eq (by omega)]
        refine lv_icmp_ge (tgt := 129) hx hb dX3_know_22 (by decide) (fun c_22 => ?_) (fun c_22 => ?_)
        · skip
          have c_22 := (qI_le (a := 2 ^ A) (b := i) (by omega) (by omega)).mp c_22
          exact mr_v (u := (HL1, CO1)) hx hb hrt hlk dX3_know_129 hS hP hD ⟨(fun j hj => hk j (by omega)), trivial⟩
        · skip
          have c_22 := mt (qI_le (a := 2 ^ A) (b := i) (by omega) (by omega)).mpr c_22
          refine lv_iconst (v := -1) hx hb dX3_know_25 (by decide) ?_
          refine lv_istore_n (lv' := [(2, .int (-1)), (0, .ref (ad 0)), (1, .int (nI (i)))]) hx hb dX3_know_26 rfl hl (by decide) rfl (fun ls hl => ?_)
          refine lv_aload_n hx hb dX3_know_27 rfl (lv_at hl 1 rfl) ?_
          refine lv_iload_n hx hb dX3_know_28 rfl (lv_at hl 2 rfl) ?_
          refine pu_i (va_runV (As := [.int (nI (i))]) (rest := []) ⟨hx, hb, hml, hown, hts⟩ (c_X3_begin l D cI cZ ad (th) (N) (A) (R) (true) (an) (nd) (wt) (B) (Hd) (O) (HL1) (CO1) (nI (i)) (by omega)) (cwV 1 hts gX3_know_X3_begin rfl rfl rfl (by decide +kernel) ⟨Nat.le_of_ble_eq_true rfl, Nat.le_of_ble_eq_true rfl⟩) (pre_V (q0 := 0) (ci := 3) (hP.sub (ws' := (wM cI cZ ad th N A R true an nd wt B Hd O HL1 CO1)) [0, 1, 2, 3, 4, 5, 6, 7, 8] rfl) hK rfl rfl) rfl rfl hl.1 rfl (lv_room (Nat.le_of_ble_eq_true rfl)) dX3_know_29 ⟨Nat.zero_le _, Nat.zero_le _⟩) ?_
          refine lv_istore_n (lv' := [(3, .int (bg nd (nI (i)) A)), (2, .int (-1)), (0, .ref (ad 0)), (1, .int (nI (i)))]) hx hb dX3_know_32 rfl hl (by decide) rfl (fun ls hl => ?_)
          have lp_33 : ∀ (n33 j : Nat) (v2 : Int32) (v3 : Int32), j ≤ 25 → 25 + 1 ≤ j + n33 → ((j = 0 ∧ v2 = -1) ∨ (0 < j ∧ v2 = itr (fun y => aR B Hd O y R) (bg nd (nI i) A) (j - 1))) → v3 = itr (fun y => aR B Hd O y R) (bg nd (nI i) A) j → ∀ ls : Array Slot, lv_has ls 5 [(0, .ref (ad 0)), (1, .int (nI (i))), (2, .int (v2)), (3, .int (v3))] → W p l e (headSpec wsX3_know ({ frames := 2, cells := 0, slots := 0, locals := 44 })).room s m ([.ref (ad 0)]).toArray below meth c H locs 0 0 (MQ below (va_Qv (fun u9 : (Nat → Int32) × (Nat → Bool) => (knOK B Hd O R nd A (u9.1) (u9.2)) ∧ (True)) (wB D Ap (fun u9 : (Nat → Int32) × (Nat → Bool) => (wM cI cZ ad th N A R true an nd wt B Hd O (u9.1) (u9.2)))) Ap) ([.ref (ad 0)]).toArray s 0 0 Ap) (F0 m 33 ls []) := by
            intro n33
            induction n33 with
            | zero => intro j v2 v3 h1 h2; exact absurd h2 (by omega)
            | succ n33 ih33 =>
              intro j v2 v3 hi33 hn33 hb2 e3  ls hl
              subst e3
              have hl : lv_has ls 5 [(0, .ref (ad 0)), (1, .int (nI (i))), (2, .int (v2)), (3, .int (itr (fun y => aR B Hd O y R) (bg nd (nI i) A) j))] := hl
              refine lv_iload_n hx hb dX3_know_33 rfl (lv_at hl 3 rfl) ?_
              refine lv_iload_n hx hb dX3_know_34 rfl (lv_at hl 2 rfl) ?_
              refine lv_icmp_eq (tgt := 49) hx hb dX3_know_35 (by decide) (fun c_35 => ?_) (fun c_35 => ?_)
              · skip
                have hset := know_exit hn hN hi33 hH hb2 c_35
                rw [hset] at hl
                refine lv_aload_n hx hb dX3_know_49 rfl (lv_at hl 0 rfl) ?_
                refine va_get (D := D) (ci := 3) (v := .ref (ad 7)) (C := RX3) (T := TX3) (N := 13) hx hb hts hin3 hown hK.1 hP 0 rfl rfl 11 (by decide) f29 (fun _ h9 => h9) rfl dX3_know_50 ?_
                refine lv_iload_n hx hb dX3_know_53 rfl (lv_at hl 1 rfl) ?_
                refine lv_iload_n hx hb dX3_know_54 rfl (lv_at hl 3 rfl) ?_
                refine si_ (D := D) (f := HL1) (i := i) (x := hdE B Hd O R nd A i) hx hb hK hP hD hS 7 0 rfl rfl (by omega) (by decide) dX3_know_55 (fun H locs hP hD hS => ?_)
                have hP : va_P D vwCl (wM cI cZ ad th N A R true an nd wt B Hd O (upd HL1 (i) (hdE B Hd O R nd A i)) CO1) H := hP
                have hD : va_D Ap (wM cI cZ ad th N A R true an nd wt B Hd O (upd HL1 (i) (hdE B Hd O R nd A i)) CO1) := hD
                refine lv_aload_n hx hb dX3_know_56 rfl (lv_at hl 0 rfl) ?_
                refine va_get (D := D) (ci := 3) (v := .ref (ad 8)) (C := RX3) (T := TX3) (N := 13) hx hb hts hin3 hown hK.1 hP 0 rfl rfl 12 (by decide) f32 (fun _ h9 => h9) rfl dX3_know_57 ?_
                refine lv_iload_n hx hb dX3_know_60 rfl (lv_at hl 1 rfl) ?_
                refine lv_iconst (v := 1) hx hb dX3_know_61 (by decide) ?_
                refine sz_ (D := D) (f := CO1) (i := i) (x := true) hx hb hK hP hD hS 8 1 rfl rfl (by omega) (by decide) dX3_know_62 (fun H locs hP hD hS => ?_)
                have hP : va_P D vwCl (wM cI cZ ad th N A R true an nd wt B Hd O (upd HL1 (i) (hdE B Hd O R nd A i)) (updB CO1 (i) (true))) H := hP
                have hD : va_D Ap (wM cI cZ ad th N A R true an nd wt B Hd O (upd HL1 (i) (hdE B Hd O R nd A i)) (updB CO1 (i) (true))) := hD
                refine lv_iconst (v := nI (0)) hx hb dX3_know_63 (by decide) ?_
                refine lv_istore (lv' := [(4, .int (nI (0))), (0, .ref (ad 0)), (1, .int (nI (i))), (2, .int (v2)), (3, .int (hdE B Hd O R nd A i))]) hx hb dX3_know_64 hl (by decide) rfl (fun ls hl => ?_)
                have lp_66 : ∀ (n66 r : Nat) (v4 : Int32) (CO2 : Nat → Bool), r ≤ R → R + 1 ≤ r + n66 → (∀ k, CO2 k = updB CO1 i (!(ex (fun r => Hd r == -1 && fi B O (hdE B Hd O R nd A i) r) r)) k) → v4 = nI (r) → ∀ (H : Heap) (locs : List Loc), va_P D vwCl (wM cI cZ ad th N A R true an nd wt B Hd O (upd HL1 (i) (hdE B Hd O R nd A i)) CO2) H → va_D Ap (wM cI cZ ad th N A R true an nd wt B Hd O (upd HL1 (i) (hdE B Hd O R nd A i)) CO2) → va_S Ap s.heap H locs → ∀ ls : Array Slot, lv_has ls 5 [(0, .ref (ad 0)), (1, .int (nI (i))), (3, .int (hdE B Hd O R nd A i)), (4, .int (v4))] → W p l e (headSpec wsX3_know ({ frames := 2, cells := 0, slots := 0, locals := 44 })).room s m ([.ref (ad 0)]).toArray below meth c H locs 0 0 (MQ below (va_Qv (fun u9 : (Nat → Int32) × (Nat → Bool) => (knOK B Hd O R nd A (u9.1) (u9.2)) ∧ (True)) (wB D Ap (fun u9 : (Nat → Int32) × (Nat → Bool) => (wM cI cZ ad th N A R true an nd wt B Hd O (u9.1) (u9.2)))) Ap) ([.ref (ad 0)]).toArray s 0 0 Ap) (F0 m 66 ls []) := by
                  intro n66
                  induction n66 with
                  | zero => intro r v4 CO2 h1 h2; exact absurd h2 (by omega)
                  | succ n66 ih66 =>
                    intro r v4 CO2 hi66 hn66 hco e4 H locs hP hD hS ls hl
                    subst e4
                    have hl : lv_has ls 5 [(0, .ref (ad 0)), (1, .int (nI (i))), (3, .int (hdE B Hd O R nd A i)), (4, .int (nI (r)))] := hl
                    refine lv_iload hx hb dX3_know_66 (lv_at hl 3 rfl) ?_
                    refine lv_aload_n hx hb dX3_know_68 rfl (lv_at hl 0 rfl) ?_
                    refine va_get (D := D) (ci := 3) (v := .int (nI (R))) (C := RX3) (T := TX3) (N := 13) hx hb hts hin3 hown hK.1 hP 0 rfl rfl 6 (by decide) f66 (fun _ h9 => h9) rfl dX3_know_69 ?_
                    refine lv_icmp_ge (tgt := 123) hx hb dX3_know_72 (by decide) (fun c_72 => ?_) (fun c_72 => ?_)
                    · skip
                      have c_72 := (qI_le (a := R) (b := r) (by omega) (by omega)).mp c_72
                      refine lv_iinc (v := nI (i + 1)) (lv' := [(1, .int (nI (i + 1))), (0, .ref (ad 0)), (3, .int (hdE B Hd O R nd A i)), (4, .int (nI (r)))]) hx hb dX3_know_123 hl (k := 1) rfl (nI_1 _) (by decide) rfl (fun ls hl => ?_)
                      refine lv_goto (tgt := 15) hx hb dX3_know_126 (by decide) ?_
                      exact ih15 (i + 1) _ (upd HL1 (i) (hdE B Hd O R nd A i)) (CO2) (by omega) (by omega) (know_step (by omega) hk hco) (by first | rfl | (simp [c_4, c_22, c_35, c_72]; done) | (simp only [c_4, c_22, c_35, c_72]; rfl) | (simp_all [c_4, c_22, c_35, c_72]; done)) _ _ hP hD hS ls (lv_sub hl [1, 0] rfl)
                    · skip
                      have c_72 := mt (qI_le (a := R) (b := r) (by omega) (by omega)).mpr c_72
                      refine lv_aload_n hx hb dX3_know_75 rfl (lv_at hl 0 rfl) ?_
                      refine va_get (D := D) (ci := 3) (v := .ref (ad 6)) (C := RX3) (T := TX3) (N := 13) hx hb hts hin3 hown hK.1 hP 0 rfl rfl 9 (by decide) f25 (fun _ h9 => h9) rfl dX3_know_76 ?_
                      refine lv_iload hx hb dX3_know_79 (lv_at hl 3 rfl) ?_
                      refine az_ (D := D) (f := O) (i := r) hx hb hK hP 6 1 rfl rfl (by omega) (by decide) dX3_know_81 ?_
                      refine lv_if_eq (tgt := 117) hx hb dX3_know_82 (by decide) (fun c_82 => ?_) (fun c_82 => ?_)
                      · skip
                        have c_82 := bI_eq0 c_82
                        refine lv_iinc (v := nI (r + 1)) (lv' := [(4, .int (nI (r + 1))), (0, .ref (ad 0)), (1, .int (nI (i))), (3, .int (hdE B Hd O R nd A i))]) hx hb dX3_know_117 hl (k := 3) rfl (nI_1 _) (by decide) rfl (fun ls hl => ?_)
                        refine lv_goto (tgt := 66) hx hb dX3_know_120 (by decide) ?_
                        exact ih66 (r + 1) _ (CO2) (by omega) (by omega) (by first | exact co_keep hco (by simp [fi, c_4, c_22, c_35, c_72, c_82]) | exact co_set hco (by simp [fi, c_4, c_22, c_35, c_72, c_82])) (by first | rfl | (simp [c_4, c_22, c_35, c_72, c_82]; done) | (simp only [c_4, c_22, c_35, c_72, c_82]; rfl) | (simp_all [c_4, c_22, c_35, c_72, c_82]; done)) _ _ hP hD hS ls (lv_sub hl [1, 2, 3, 0] rfl)
                      · skip
                        have c_82 := bI_ne0 c_82
                        refine lv_aload_n hx hb dX3_know_85 rfl (lv_at hl 0 rfl) ?_
                        refine va_get (D := D) (ci := 3) (v := .ref (ad 5)) (C := RX3) (T := TX3) (N := 13) hx hb hts hin3 hown hK.1 hP 0 rfl rfl 8 (by decide) f22 (fun _ h9 => h9) rfl dX3_know_86 ?_
                        refine lv_iload hx hb dX3_know_89 (lv_at hl 3 rfl) ?_
                        refine ai_ (D := D) (f := Hd) (i := r) hx hb hK hP 5 0 rfl rfl (by omega) (by decide) dX3_know_91 ?_
                        refine lv_iconst (v := -1) hx hb dX3_know_92 (by decide) ?_
                        refine lv_icmp_ne (tgt := 117) hx hb dX3_know_93 (by decide) (fun c_93 => ?_) (fun c_93 => ?_)
                        · skip
                          refine lv_iinc (v := nI (r + 1)) (lv' := [(4, .int (nI (r + 1))), (0, .ref (ad 0)), (1, .int (nI (i))), (3, .int (hdE B Hd O R nd A i))]) hx hb dX3_know_117 hl (k := 3) rfl (nI_1 _) (by decide) rfl (fun ls hl => ?_)
                          refine lv_goto (tgt := 66) hx hb dX3_know_120 (by decide) ?_
                          exact ih66 (r + 1) _ (CO2) (by omega) (by omega) (by first | exact co_keep hco (by simp [fi, c_4, c_22, c_35, c_72, c_82, c_93]) | exact co_set hco (by simp [fi, c_4, c_22, c_35, c_72, c_82, c_93])) (by first | rfl | (simp [c_4, c_22, c_35, c_72, c_82, c_93]; done) | (simp only [c_4, c_22, c_35, c_72, c_82, c_93]; rfl) | (simp_all [c_4, c_22, c_35, c_72, c_82, c_93]; done)) _ _ hP hD hS ls (lv_sub hl [1, 2, 3, 0] rfl)
                        · skip
                          refine lv_aload_n hx hb dX3_know_96 rfl (lv_at hl 0 rfl) ?_
                          refine va_get (D := D) (ci := 3) (v := .ref (ad 4)) (C := RX3) (T := TX3) (N := 13) hx hb hts hin3 hown hK.1 hP 0 rfl rfl 7 (by decide) f19 (fun _ h9 => h9) rfl dX3_know_97 ?_
                          refine lv_iload hx hb dX3_know_100 (lv_at hl 3 rfl) ?_
                          refine ai_ (D := D) (f := B) (i := r) hx hb hK hP 4 0 rfl rfl (by omega) (by decide) dX3_know_102 ?_
                          refine lv_iload_n hx hb dX3_know_103 rfl (lv_at hl 2 rfl) ?_
                          refine pu_i (va_runS (As := [.int (B (r)), .int (hdE B Hd O R nd A i)]) (rest := []) ⟨hx, hb, hml, hown, hts⟩ (c_X3_isIn l D cI cZ ad (B (r)) (hdE B Hd O R nd A i) ) (cwS 2 hts gX3_know_X3_isIn rfl rfl rfl (by decide +kernel) ⟨Nat.le_of_ble_eq_true rfl, Nat.le_of_ble_eq_true rfl⟩) (pre_S (hP.sub (ws' := ([] : va_W)) [] rfl) hK) rfl rfl hl.1 rfl (lv_room (Nat.le_of_ble_eq_true rfl)) dX3_know_104 ⟨Nat.zero_le _, Nat.zero_le _⟩) ?_
                          refine lv_if_eq (tgt := 117) hx hb dX3_know_107 (by decide) (fun c_107 => ?_) (fun c_107 => ?_)
                          · skip
                            have c_107 := bI_eq0 c_107
                            refine lv_iinc (v := nI (r + 1)) (lv' := [(4, .int (nI (r + 1))), (0, .ref (ad 0)), (1, .int (nI (i))), (3, .int (hdE B Hd O R nd A i))]) hx hb dX3_know_117 hl (k := 3) rfl (nI_1 _) (by decide) rfl (fun ls hl => ?_)
                            refine lv_goto (tgt := 66) hx hb dX3_know_120 (by decide) ?_
                            exact ih66 (r + 1) _ (CO2) (by omega) (by omega) (by first | exact co_keep hco (by simp [fi, c_4, c_22, c_35, c_72, c_82, c_93, c_107]) | exact co_set hco (by simp [fi, c_4, c_22, c_35, c_72, c_82, c_93, c_107])) (by first | rfl | (simp [c_4, c_22, c_35, c_72, c_82, c_93, c_107]; done) | (simp only [c_4, c_22, c_35, c_72, c_82, c_93, c_107]; rfl) | (simp_all [c_4, c_22, c_35, c_72, c_82, c_93, c_107]; done)) _ _ hP hD hS ls (lv_sub hl [1, 2, 3, 0] rfl)
                          · skip
                            have c_107 := bI_ne0 c_107
                            refine lv_aload_n hx hb dX3_know_110 rfl (lv_at hl 0 rfl) ?_
                            refine va_get (D := D) (ci := 3) (v := .ref (ad 8)) (C := RX3) (T := TX3) (N := 13) hx hb hts hin3 hown hK.1 hP 0 rfl rfl 12 (by decide) f32 (fun _ h9 => h9) rfl dX3_know_111 ?_
                            refine lv_iload_n hx hb dX3_know_114 rfl (lv_at hl 1 rfl) ?_
                            refine lv_iconst (v := 0) hx hb dX3_know_115 (by decide) ?_
                            refine sz_ (D := D) (f := CO2) (i := i) (x := false) hx hb hK hP hD hS 8 1 rfl rfl (by omega) (by decide) dX3_know_116 (fun H locs hP hD hS => ?_)
                            have hP : va_P D vwCl (wM cI cZ ad th N A R true an nd wt B Hd O (upd HL1 (i) (hdE B Hd O R nd A i)) (updB CO2 (i) (false))) H := hP
                            have hD : va_D Ap (wM cI cZ ad th N A R true an nd wt B Hd O (upd HL1 (i) (hdE B Hd O R nd A i)) (updB CO2 (i) (false))) := hD
                            refine lv_iinc (v := nI (r + 1)) (lv' := [(4, .int (nI (r + 1))), (0, .ref (ad 0)), (1, .int (nI (i))), (3, .int (hdE B Hd O R nd A i))]) hx hb dX3_know_117 hl (k := 3) rfl (nI_1 _) (by decide) rfl (fun ls hl => ?_)
                            refine lv_goto (tgt := 66) hx hb dX3_know_120 (by decide) ?_
                            exact ih66 (r + 1) _ (updB CO2 (i) (false)) (by omega) (by omega) (by first | exact co_keep hco (by simp [fi, c_4, c_22, c_35, c_72, c_82, c_93, c_107]) | exact co_set hco (by simp [fi, c_4, c_22, c_35, c_72, c_82, c_93, c_107])) (by first | rfl | (simp [c_4, c_22, c_35, c_72, c_82, c_93, c_107]; done) | (simp only [c_4, c_22, c_35, c_72, c_82, c_93, c_107]; rfl) | (simp_all [c_4, c_22, c_35, c_72, c_82, c_93, c_107]; done)) _ _ hP hD hS ls (lv_sub hl [1, 2, 3, 0] rfl)
                exact lp_66 (R + 1) (0) _ (updB CO1 (i) (true)) (by omega) (by omega) (co_0) (by first | rfl | (simp [c_4, c_22, c_35]; done) | (simp only [c_4, c_22, c_35]; rfl) | (simp_all [c_4, c_22, c_35]; done)) _ _ hP hD hS ls (lv_sub hl [1, 2, 4, 0] rfl)
              · skip
                have hlt := know_lt hn hN hH hi33 hb2 c_35
                refine lv_iload_n hx hb dX3_know_38 rfl (lv_at hl 3 rfl) ?_
                refine lv_istore_n (lv' := [(2, .int (itr (fun y => aR B Hd O y R) (bg nd (nI i) A) j)), (0, .ref (ad 0)), (1, .int (nI (i))), (3, .int (itr (fun y => aR B Hd O y R) (bg nd (nI i) A) j))]) hx hb dX3_know_39 rfl hl (by decide) rfl (fun ls hl => ?_)
                refine lv_aload_n hx hb dX3_know_40 rfl (lv_at hl 1 rfl) ?_
                refine lv_iload_n hx hb dX3_know_41 rfl (lv_at hl 3 rfl) ?_
                refine pu_i (va_runV (As := [.int (itr (fun y => aR B Hd O y R) (bg nd (nI i) A) j)]) (rest := []) ⟨hx, hb, hml, hown, hts⟩ (c_X3_goOn l D cI cZ ad (th) (N) (A) (R) (true) (an) (nd) (wt) (B) (Hd) (O) (HL1) (CO1) (itr (fun y => aR B Hd O y R) (bg nd (nI i) A) j) (by omega)) (cwV 1 hts gX3_know_X3_goOn rfl rfl rfl (by decide +kernel) ⟨Nat.le_of_ble_eq_true rfl, Nat.le_of_ble_eq_true rfl⟩) (pre_V (q0 := 0) (ci := 3) (hP.sub (ws' := (wM cI cZ ad th N A R true an nd wt B Hd O HL1 CO1)) [0, 1, 2, 3, 4, 5, 6, 7, 8] rfl) hK rfl rfl) rfl rfl hl.1 rfl (lv_room (Nat.le_of_ble_eq_true rfl)) dX3_know_42 ⟨Nat.zero_le _, Nat.zero_le _⟩) ?_
                refine lv_istore_n (lv' := [(3, .int (aR B Hd O (itr (fun y => aR B Hd O y R) (bg nd (nI i) A) j) R)), (2, .int (itr (fun y => aR B Hd O y R) (bg nd (nI i) A) j)), (0, .ref (ad 0)), (1, .int (nI (i)))]) hx hb dX3_know_45 rfl hl (by decide) rfl (fun ls hl => ?_)
                refine lv_goto (tgt := 33) hx hb dX3_know_46 (by decide) ?_
                exact ih33 (j + 1) _ _  (by omega) (by omega) (Or.inr ⟨by omega, rfl⟩) (by first | rfl | (simp [c_4, c_22, c_35]; done) | (simp only [c_4, c_22, c_35]; rfl) | (simp_all [c_4, c_22, c_35]; done))  ls (lv_sub hl [2, 3, 1, 0] rfl)
          exact lp_33 (25 + 1) (0) _ _  (by omega) (by omega) (Or.inl ⟨rfl, rfl⟩) (by first | rfl | (simp [c_4, c_22]; done) | (simp only [c_4, c_22]; rfl) | (simp_all [c_4, c_22]; done))  ls (lv_sub hl [2, 3, 1, 0] rfl)
    exact lp_15 (2 ^ A + 1) (0) _ (HL) (CO) (by omega) (by omega) (fun j hj => absurd hj (Nat.not_lt_zero j)) (by first | rfl | (simp [c_4]; done) | (simp only [c_4]; rfl) | (simp_all [c_4]; done)) _ _ hP hD hS ls (lv_sub hl [1, 0] rfl)
  · skip
    have c_4 := bI_ne0 c_4
    subst c_4
    exact mr_v (u := (HL, CO)) hx hb hrt hlk dX3_know_7 hS hP hD ⟨(hkw rfl), trivial⟩
