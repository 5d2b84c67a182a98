set_option maxHeartbeats 4000000 in
set_option maxRecDepth 100000 in
theorem c_X1_heldBelow (l : Launch) (D : va_G) (cI cZ : ClassId) (ad : Nat → Nat) (HL : Nat → Int32) (LB : Nat → Int32) (SO : Nat → Bool) (NG : Nat → Bool) (WO : Nat → Bool) (SA : Nat) (SE : Nat) (e0 : Nat) (hA : SA ≤ 9) (he : e0 < 2 ^ SA) : Met l yX1_heldBelow wsX1_heldBelow (({ frames := 1, cells := 0, slots := 0, locals := 21 })) (pcP D [(cI, .int), (cZ, .boolean)] (wS cI cZ ad HL LB SO NG WO SA SE) [.ref (ad 0), .int (nI (e0))]) (vp_Si (fun v => v = hB HL e0 SA)) 0 0 (fun _ => False) := by
  refine Met.ofW (cc := cX1_heldBelow) (maxL := 4) (ret := (some .int)) (by decide) rfl ?_
  intro p e s m args below meth c s₁ BB hml hv
  obtain ⟨rfl, hP, hK⟩ := hv
  have hx := BB.exec
  have hb := BB.bytes
  have hrt := BB.returns
  have hts := atoms_spec (ws := wsX1_heldBelow) BB.pre
  have hown : s.vm.findClass RX1 = some m.cls := findClass_of_methodNamed BB.named
  have hlk := BB.notSynchronized
  have f9 := hts (.fieldLink RX1 9 "AssumptionKeeper$Survey" "held" "[I") (by decide +kernel)
  have f28 := hts (.fieldLink RX1 28 "AssumptionKeeper$Survey" "assumptions" "I") (by decide +kernel)
  have hin1 : ∀ w ∈ u_ws RX1 TX1 7, w ∈ wsX1_heldBelow := by decide +kernel
  have hl := lv_entry ([.ref (ad 0), .int (nI (e0))]) (n := 4) (Nat.le_of_ble_eq_true rfl)
  rw [lg_entry_eq]
  generalize (lg_sl ([.ref (ad 0), .int (nI (e0))]) ++ List.replicate (4 - (lg_sl ([.ref (ad 0), .int (nI (e0))])).length) Slot.unset).toArray = ls at hl ⊢
  have hl : lv_has ls 4 [(0, .ref (ad 0)), (1, .int (nI (e0)))] := hl
  have h512 : 2 ^ SA ≤ 512 := pow9 hA
  have lp_4 : ∀ (n i : Nat) (v2 : Int32) (v3 : Int32), i ≤ SA → SA + 1 ≤ i + n → v2 = hB HL e0 i → v3 = nI (i) → ∀ ls : Array Slot, lv_has ls 4 [(0, .ref (ad 0)), (1, .int (nI (e0))), (2, .int (v2)), (3, .int (v3))] → W p l e (headSpec wsX1_heldBelow ({ frames := 1, cells := 0, slots := 0, locals := 21 })).room s m ([.ref (ad 0), .int (nI (e0))]).toArray below meth c s.heap [] 0 0 (MQ below (vp_Si (fun v => v = hB HL e0 SA)) ([.ref (ad 0), .int (nI (e0))]).toArray s 0 0 (fun _ => False)) (F0 m 4 ls []) := by
    intro n
    induction n with
    | zero => intro i v2 v3 h1 h2; exact absurd h2 (by omega)
    | succ n ih =>
      intro i v2 v3 hi_ hn_  e2 e3 ls hl
      subst e2 e3
      have hl : lv_has ls 4 [(0, .ref (ad 0)), (1, .int (nI (e0))), (2, .int (hB HL e0 i)), (3, .int (nI (i)))] := hl
      refine lv_iload_n hx hb dX1_heldBelow_4 rfl (lv_at hl 3 rfl) ?_
      refine lv_aload_n hx hb dX1_heldBelow_5 rfl (lv_at hl 0 rfl) ?_
      refine va_get (D := D) (ci := 1) (v := .int (nI (SA))) (C := RX1) (T := TX1) (N := 7) hx hb hts hin1 hown hK.1 hP 0 rfl rfl 5 (by decide) f28 (fun _ h9 => h9) rfl dX1_heldBelow_6 ?_
      refine lv_icmp_ge (tgt := 39) hx hb dX1_heldBelow_9 (by decide) (fun c_9 => ?_) (fun c_9 => ?_)
      · skip
        have c_9 := (qI_le (a := SA) (b := i) (by omega) (by omega)).mp c_9
        refine lv_iload_n hx hb dX1_heldBelow_39 rfl (lv_at hl 2 rfl) ?_
        exact ri_ hx hb hrt hlk dX1_heldBelow_40 (by obtain rfl : i = SA := (by omega); rfl)
      · skip
        have c_9 := mt (qI_le (a := SA) (b := i) (by omega) (by omega)).mpr c_9
        refine lv_iload_n hx hb dX1_heldBelow_12 rfl (lv_at hl 1 rfl) ?_
        refine lv_iload_n hx hb dX1_heldBelow_13 rfl (lv_at hl 3 rfl) ?_
        refine pu_i (va_runSN (As := [.int (nI (e0)), .int (nI (i))]) (rest := []) ⟨hx, hb, hml, hown, hts⟩ (c_X2_contains l D cI cZ ad (nI (e0)) (nI (i)) ) ⟨va_cnB 2 hts gX1_heldBelow_X2_contains_n58 rfl rfl rfl hK.2.2.1 (hts (.initialized RX2) (by decide +kernel)) (by decide +kernel) ⟨Nat.le_of_ble_eq_true rfl, Nat.le_of_ble_eq_true rfl⟩, hts (.static yX2_contains) (by decide +kernel), trivial⟩ (pre_S (hP.sub (ws' := ([] : va_W)) [] rfl) hK) rfl rfl hl.1 rfl (lv_room (Nat.le_of_ble_eq_true rfl)) dX1_heldBelow_14 ⟨Nat.zero_le _, Nat.zero_le _⟩) ?_
        refine lv_if_eq (tgt := 33) hx hb dX1_heldBelow_17 (by decide) (fun c_17 => ?_) (fun c_17 => ?_)
        · skip
          have c_17 := bI_eq0 c_17
          refine lv_iinc (v := nI (i + 1)) (lv' := [(3, .int (nI (i + 1))), (0, .ref (ad 0)), (1, .int (nI (e0))), (2, .int (hB HL e0 i))]) hx hb dX1_heldBelow_33 hl (k := 3) rfl (nI_1 _) (by decide) rfl (fun ls hl => ?_)
          refine lv_goto (tgt := 4) hx hb dX1_heldBelow_36 (by decide) ?_
          exact ih (i + 1) _ _ (by omega) (by omega)  (by first | rfl | (simp [hB, c_9, c_17]; done) | (simp only [hB, c_9, c_17]; rfl) | (simp_all [hB, c_9, c_17]; done)) rfl ls (lv_sub hl [1, 2, 3, 0] rfl)
        · skip
          have c_17 := bI_ne0 c_17
          refine lv_iload_n hx hb dX1_heldBelow_20 rfl (lv_at hl 2 rfl) ?_
          refine lv_aload_n hx hb dX1_heldBelow_21 rfl (lv_at hl 0 rfl) ?_
          refine va_get (D := D) (ci := 1) (v := .ref (ad 1)) (C := RX1) (T := TX1) (N := 7) hx hb hts hin1 hown hK.1 hP 0 rfl rfl 0 (by decide) f9 (fun _ h9 => h9) rfl dX1_heldBelow_22 ?_
          refine lv_iload_n hx hb dX1_heldBelow_25 rfl (lv_at hl 1 rfl) ?_
          refine lv_iconst (v := 1) hx hb dX1_heldBelow_26 (by decide) ?_
          refine lv_iload_n hx hb dX1_heldBelow_27 rfl (lv_at hl 3 rfl) ?_
          refine lv_ishl hx hb dX1_heldBelow_28 ?_
          refine lv_isub hx hb dX1_heldBelow_29 ?_
          rw [sub_bit (by omega) c_17]
          refine ai_ (D := D) (f := HL) (i := e0 - 2 ^ i) hx hb hK hP 1 0 rfl rfl (Nat.lt_of_le_of_lt (Nat.sub_le _ _) (by omega)) (by decide) dX1_heldBelow_30 ?_
          refine lv_ior hx hb dX1_heldBelow_31 ?_
          refine lv_istore_n (lv' := [(2, .int ((hB HL e0 i) ||| (HL (e0 - 2 ^ i)))), (0, .ref (ad 0)), (1, .int (nI (e0))), (3, .int (nI (i)))]) hx hb dX1_heldBelow_32 rfl hl (by decide) rfl (fun ls hl => ?_)
          refine lv_iinc (v := nI (i + 1)) (lv' := [(3, .int (nI (i + 1))), (2, .int ((hB HL e0 i) ||| (HL (e0 - 2 ^ i)))), (0, .ref (ad 0)), (1, .int (nI (e0)))]) hx hb dX1_heldBelow_33 hl (k := 3) rfl (nI_1 _) (by decide) rfl (fun ls hl => ?_)
          refine lv_goto (tgt := 4) hx hb dX1_heldBelow_36 (by decide) ?_
          exact ih (i + 1) _ _ (by omega) (by omega)  (by first | rfl | (simp [hB, c_9, c_17]; done) | (simp only [hB, c_9, c_17]; rfl) | (simp_all [hB, c_9, c_17]; done)) rfl ls (lv_sub hl [2, 3, 1, 0] rfl)
  refine lv_iconst (v := nI (0)) hx hb dX1_heldBelow_0 (by decide) ?_
  refine lv_istore_n (lv' := [(2, .int (nI (0))), (0, .ref (ad 0)), (1, .int (nI (e0)))]) hx hb dX1_heldBelow_1 rfl hl (by decide) rfl (fun ls hl => ?_)
  refine lv_iconst (v := nI (0)) hx hb dX1_heldBelow_2 (by decide) ?_
  refine lv_istore_n (lv' := [(3, .int (nI (0))), (2, .int (nI (0))), (0, .ref (ad 0)), (1, .int (nI (e0)))]) hx hb dX1_heldBelow_3 rfl hl (by decide) rfl (fun ls hl => ?_)
  exact lp_4 (SA + 1) (0) _ _ (by omega) (by omega)  (by first | rfl | (simp [hB]; done) | (simp only [hB]; rfl) | (simp_all [hB]; done)) (by first | rfl | (simp [hB]; done) | (simp only [hB]; rfl) | (simp_all [hB]; done)) ls (lv_sub hl [2, 3, 1, 0] rfl)
set_option maxHeartbeats 4000000 in
set_option maxRecDepth 100000 in
theorem c_X1_isSoundBelow (l : Launch) (D : va_G) (cI cZ : ClassId) (ad : Nat → Nat) (HL : Nat → Int32) (LB : Nat → Int32) (SO : Nat → Bool) (NG : Nat → Bool) (WO : Nat → Bool) (SA : Nat) (SE : Nat) (e0 : Nat) (hA : SA ≤ 9) (he : e0 < 2 ^ SA) : Met l yX1_isSoundBelow wsX1_isSoundBelow (({ frames := 1, cells := 0, slots := 0, locals := 21 })) (pcP D [(cI, .int), (cZ, .boolean)] (wS cI cZ ad HL LB SO NG WO SA SE) [.ref (ad 0), .int (nI (e0))]) (vp_Si (fun v => v = bI (!(ex (fun a => hs (nI e0) (nI a) && !(SO (e0 - 2 ^ a))) SA)))) 0 0 (fun _ => False) := by
  refine Met.ofW (cc := cX1_isSoundBelow) (maxL := 3) (ret := (some .boolean)) (by decide) rfl ?_
  intro p e s m args below meth c s₁ BB hml hv
  obtain ⟨rfl, hP, hK⟩ := hv
  have hx := BB.exec
  have hb := BB.bytes
  have hrt := BB.returns
  have hts := atoms_spec (ws := wsX1_isSoundBelow) BB.pre
  have hown : s.vm.findClass RX1 = some m.cls := findClass_of_methodNamed BB.named
  have hlk := BB.notSynchronized
  have f18 := hts (.fieldLink RX1 18 "AssumptionKeeper$Survey" "areSound" "[Z") (by decide +kernel)
  have f28 := hts (.fieldLink RX1 28 "AssumptionKeeper$Survey" "assumptions" "I") (by decide +kernel)
  have hin1 : ∀ w ∈ u_ws RX1 TX1 7, w ∈ wsX1_isSoundBelow := by decide +kernel
  have hl := lv_entry ([.ref (ad 0), .int (nI (e0))]) (n := 3) (Nat.le_of_ble_eq_true rfl)
  rw [lg_entry_eq]
  generalize (lg_sl ([.ref (ad 0), .int (nI (e0))]) ++ List.replicate (3 - (lg_sl ([.ref (ad 0), .int (nI (e0))])).length) Slot.unset).toArray = ls at hl ⊢
  have hl : lv_has ls 3 [(0, .ref (ad 0)), (1, .int (nI (e0)))] := hl
  have h512 : 2 ^ SA ≤ 512 := pow9 hA
  have lp_2 : ∀ (n i : Nat) (v2 : Int32), i ≤ SA → SA + 1 ≤ i + n → (∀ j, j < i → (fun a => hs (nI e0) (nI a) && !(SO (e0 - 2 ^ a))) j = false) → v2 = nI (i) → ∀ ls : Array Slot, lv_has ls 3 [(0, .ref (ad 0)), (1, .int (nI (e0))), (2, .int (v2))] → W p l e (headSpec wsX1_isSoundBelow ({ frames := 1, cells := 0, slots := 0, locals := 21 })).room s m ([.ref (ad 0), .int (nI (e0))]).toArray below meth c s.heap [] 0 0 (MQ below (vp_Si (fun v => v = bI (!(ex (fun a => hs (nI e0) (nI a) && !(SO (e0 - 2 ^ a))) SA)))) ([.ref (ad 0), .int (nI (e0))]).toArray s 0 0 (fun _ => False)) (F0 m 2 ls []) := by
    intro n
    induction n with
    | zero => intro i v2 h1 h2; exact absurd h2 (by omega)
    | succ n ih =>
      intro i v2 hi_ hn_ hno e2 ls hl
      subst e2
      have hl : lv_has ls 3 [(0, .ref (ad 0)), (1, .int (nI (e0))), (2, .int (nI (i)))] := hl
      refine lv_iload_n hx hb dX1_isSoundBelow_2 rfl (lv_at hl 2 rfl) ?_
      refine lv_aload_n hx hb dX1_isSoundBelow_3 rfl (lv_at hl 0 rfl) ?_
      refine va_get (D := D) (ci := 1) (v := .int (nI (SA))) (C := RX1) (T := TX1) (N := 7) hx hb hts hin1 hown hK.1 hP 0 rfl rfl 5 (by decide) f28 (fun _ h9 => h9) rfl dX1_isSoundBelow_4 ?_
      refine lv_icmp_ge (tgt := 39) hx hb dX1_isSoundBelow_7 (by decide) (fun c_7 => ?_) (fun c_7 => ?_)
      · skip
        have c_7 := (qI_le (a := SA) (b := i) (by omega) (by omega)).mp c_7
        refine lv_iconst (v := 1) hx hb dX1_isSoundBelow_39 (by decide) ?_
        exact rz_ (v := true) hx hb hrt hlk dX1_isSoundBelow_40 (by obtain rfl : i = SA := (by omega); rw [ex_no hno]; rfl)
      · skip
        have c_7 := mt (qI_le (a := SA) (b := i) (by omega) (by omega)).mpr c_7
        refine lv_iload_n hx hb dX1_isSoundBelow_10 rfl (lv_at hl 1 rfl) ?_
        refine lv_iload_n hx hb dX1_isSoundBelow_11 rfl (lv_at hl 2 rfl) ?_
        refine pu_i (va_runSN (As := [.int (nI (e0)), .int (nI (i))]) (rest := []) ⟨hx, hb, hml, hown, hts⟩ (c_X2_contains l D cI cZ ad (nI (e0)) (nI (i)) ) ⟨va_cnB 2 hts gX1_isSoundBelow_X2_contains_n58 rfl rfl rfl hK.2.2.1 (hts (.initialized RX2) (by decide +kernel)) (by decide +kernel) ⟨Nat.le_of_ble_eq_true rfl, Nat.le_of_ble_eq_true rfl⟩, hts (.static yX2_contains) (by decide +kernel), trivial⟩ (pre_S (hP.sub (ws' := ([] : va_W)) [] rfl) hK) rfl rfl hl.1 rfl (lv_room (Nat.le_of_ble_eq_true rfl)) dX1_isSoundBelow_12 ⟨Nat.zero_le _, Nat.zero_le _⟩) ?_
        refine lv_if_eq (tgt := 33) hx hb dX1_isSoundBelow_15 (by decide) (fun c_15 => ?_) (fun c_15 => ?_)
        · skip
          have c_15 := bI_eq0 c_15
          refine lv_iinc (v := nI (i + 1)) (lv' := [(2, .int (nI (i + 1))), (0, .ref (ad 0)), (1, .int (nI (e0)))]) hx hb dX1_isSoundBelow_33 hl (k := 2) rfl (nI_1 _) (by decide) rfl (fun ls hl => ?_)
          refine lv_goto (tgt := 2) hx hb dX1_isSoundBelow_36 (by decide) ?_
          exact ih (i + 1) _ (by omega) (by omega) (no_succ hno (by simp [c_7, c_15])) rfl ls (lv_sub hl [1, 2, 0] rfl)
        · skip
          have c_15 := bI_ne0 c_15
          refine lv_aload_n hx hb dX1_isSoundBelow_18 rfl (lv_at hl 0 rfl) ?_
          refine va_get (D := D) (ci := 1) (v := .ref (ad 3)) (C := RX1) (T := TX1) (N := 7) hx hb hts hin1 hown hK.1 hP 0 rfl rfl 2 (by decide) f18 (fun _ h9 => h9) rfl dX1_isSoundBelow_19 ?_
          refine lv_iload_n hx hb dX1_isSoundBelow_22 rfl (lv_at hl 1 rfl) ?_
          refine lv_iconst (v := 1) hx hb dX1_isSoundBelow_23 (by decide) ?_
          refine lv_iload_n hx hb dX1_isSoundBelow_24 rfl (lv_at hl 2 rfl) ?_
          refine lv_ishl hx hb dX1_isSoundBelow_25 ?_
          refine lv_isub hx hb dX1_isSoundBelow_26 ?_
          rw [sub_bit (by omega) c_15]
          refine az_ (D := D) (f := SO) (i := e0 - 2 ^ i) hx hb hK hP 3 1 rfl rfl (Nat.lt_of_le_of_lt (Nat.sub_le _ _) (by omega)) (by decide) dX1_isSoundBelow_27 ?_
          refine lv_if_ne (tgt := 33) hx hb dX1_isSoundBelow_28 (by decide) (fun c_28 => ?_) (fun c_28 => ?_)
          · skip
            have c_28 := bI_ne0 c_28
            refine lv_iinc (v := nI (i + 1)) (lv' := [(2, .int (nI (i + 1))), (0, .ref (ad 0)), (1, .int (nI (e0)))]) hx hb dX1_isSoundBelow_33 hl (k := 2) rfl (nI_1 _) (by decide) rfl (fun ls hl => ?_)
            refine lv_goto (tgt := 2) hx hb dX1_isSoundBelow_36 (by decide) ?_
            exact ih (i + 1) _ (by omega) (by omega) (no_succ hno (by simp [c_7, c_15, c_28])) rfl ls (lv_sub hl [1, 2, 0] rfl)
          · skip
            have c_28 := bI_eq0 c_28
            refine lv_iconst (v := 0) hx hb dX1_isSoundBelow_31 (by decide) ?_
            exact rz_ (v := false) hx hb hrt hlk dX1_isSoundBelow_32 (by rw [ex_at (i := i) (by omega) (by simp [c_15, c_28])]; rfl)
  refine lv_iconst (v := nI (0)) hx hb dX1_isSoundBelow_0 (by decide) ?_
  refine lv_istore_n (lv' := [(2, .int (nI (0))), (0, .ref (ad 0)), (1, .int (nI (e0)))]) hx hb dX1_isSoundBelow_1 rfl hl (by decide) rfl (fun ls hl => ?_)
  exact lp_2 (SA + 1) (0) _ (by omega) (by omega) (fun j hj => absurd hj (Nat.not_lt_zero j)) (by first | rfl | (simp []; done) | (simp only []; rfl) | (simp_all []; done)) ls (lv_sub hl [1, 2, 0] rfl)
set_option maxHeartbeats 4000000 in
set_option maxRecDepth 100000 in
theorem c_X1_isSoundAbove (l : Launch) (D : va_G) (cI cZ : ClassId) (ad : Nat → Nat) (HL : Nat → Int32) (LB : Nat → Int32) (SO : Nat → Bool) (NG : Nat → Bool) (WO : Nat → Bool) (SA : Nat) (SE : Nat) (e0 : Nat) (hA : SA ≤ 9) (he : e0 < 2 ^ SA) : Met l yX1_isSoundAbove wsX1_isSoundAbove (({ frames := 1, cells := 0, slots := 0, locals := 21 })) (pcP D [(cI, .int), (cZ, .boolean)] (wS cI cZ ad HL LB SO NG WO SA SE) [.ref (ad 0), .int (nI (e0))]) (vp_Si (fun v => v = bI (ex (fun a => !(hs (nI e0) (nI a)) && SO (e0 + 2 ^ a)) SA))) 0 0 (fun _ => False) := by
  refine Met.ofW (cc := cX1_isSoundAbove) (maxL := 3) (ret := (some .boolean)) (by decide) rfl ?_
  intro p e s m args below meth c s₁ BB hml hv
  obtain ⟨rfl, hP, hK⟩ := hv
  have hx := BB.exec
  have hb := BB.bytes
  have hrt := BB.returns
  have hts := atoms_spec (ws := wsX1_isSoundAbove) BB.pre
  have hown : s.vm.findClass RX1 = some m.cls := findClass_of_methodNamed BB.named
  have hlk := BB.notSynchronized
  have f18 := hts (.fieldLink RX1 18 "AssumptionKeeper$Survey" "areSound" "[Z") (by decide +kernel)
  have f28 := hts (.fieldLink RX1 28 "AssumptionKeeper$Survey" "assumptions" "I") (by decide +kernel)
  have hin1 : ∀ w ∈ u_ws RX1 TX1 7, w ∈ wsX1_isSoundAbove := by decide +kernel
  have hl := lv_entry ([.ref (ad 0), .int (nI (e0))]) (n := 3) (Nat.le_of_ble_eq_true rfl)
  rw [lg_entry_eq]
  generalize (lg_sl ([.ref (ad 0), .int (nI (e0))]) ++ List.replicate (3 - (lg_sl ([.ref (ad 0), .int (nI (e0))])).length) Slot.unset).toArray = ls at hl ⊢
  have hl : lv_has ls 3 [(0, .ref (ad 0)), (1, .int (nI (e0)))] := hl
  have h512 : 2 ^ SA ≤ 512 := pow9 hA
  have lp_2 : ∀ (n i : Nat) (v2 : Int32), i ≤ SA → SA + 1 ≤ i + n → (∀ j, j < i → (fun a => !(hs (nI e0) (nI a)) && SO (e0 + 2 ^ a)) j = false) → v2 = nI (i) → ∀ ls : Array Slot, lv_has ls 3 [(0, .ref (ad 0)), (1, .int (nI (e0))), (2, .int (v2))] → W p l e (headSpec wsX1_isSoundAbove ({ frames := 1, cells := 0, slots := 0, locals := 21 })).room s m ([.ref (ad 0), .int (nI (e0))]).toArray below meth c s.heap [] 0 0 (MQ below (vp_Si (fun v => v = bI (ex (fun a => !(hs (nI e0) (nI a)) && SO (e0 + 2 ^ a)) SA))) ([.ref (ad 0), .int (nI (e0))]).toArray s 0 0 (fun _ => False)) (F0 m 2 ls []) := by
    intro n
    induction n with
    | zero => intro i v2 h1 h2; exact absurd h2 (by omega)
    | succ n ih =>
      intro i v2 hi_ hn_ hno e2 ls hl
      subst e2
      have hl : lv_has ls 3 [(0, .ref (ad 0)), (1, .int (nI (e0))), (2, .int (nI (i)))] := hl
      refine lv_iload_n hx hb dX1_isSoundAbove_2 rfl (lv_at hl 2 rfl) ?_
      refine lv_aload_n hx hb dX1_isSoundAbove_3 rfl (lv_at hl 0 rfl) ?_
      refine va_get (D := D) (ci := 1) (v := .int (nI (SA))) (C := RX1) (T := TX1) (N := 7) hx hb hts hin1 hown hK.1 hP 0 rfl rfl 5 (by decide) f28 (fun _ h9 => h9) rfl dX1_isSoundAbove_4 ?_
      refine lv_icmp_ge (tgt := 39) hx hb dX1_isSoundAbove_7 (by decide) (fun c_7 => ?_) (fun c_7 => ?_)
      · skip
        have c_7 := (qI_le (a := SA) (b := i) (by omega) (by omega)).mp c_7
        refine lv_iconst (v := 0) hx hb dX1_isSoundAbove_39 (by decide) ?_
        exact rz_ (v := false) hx hb hrt hlk dX1_isSoundAbove_40 (by obtain rfl : i = SA := (by omega); exact (ex_no hno).symm)
      · skip
        have c_7 := mt (qI_le (a := SA) (b := i) (by omega) (by omega)).mpr c_7
        refine lv_iload_n hx hb dX1_isSoundAbove_10 rfl (lv_at hl 1 rfl) ?_
        refine lv_iload_n hx hb dX1_isSoundAbove_11 rfl (lv_at hl 2 rfl) ?_
        refine pu_i (va_runSN (As := [.int (nI (e0)), .int (nI (i))]) (rest := []) ⟨hx, hb, hml, hown, hts⟩ (c_X2_contains l D cI cZ ad (nI (e0)) (nI (i)) ) ⟨va_cnB 2 hts gX1_isSoundAbove_X2_contains_n58 rfl rfl rfl hK.2.2.1 (hts (.initialized RX2) (by decide +kernel)) (by decide +kernel) ⟨Nat.le_of_ble_eq_true rfl, Nat.le_of_ble_eq_true rfl⟩, hts (.static yX2_contains) (by decide +kernel), trivial⟩ (pre_S (hP.sub (ws' := ([] : va_W)) [] rfl) hK) rfl rfl hl.1 rfl (lv_room (Nat.le_of_ble_eq_true rfl)) dX1_isSoundAbove_12 ⟨Nat.zero_le _, Nat.zero_le _⟩) ?_
        refine lv_if_ne (tgt := 33) hx hb dX1_isSoundAbove_15 (by decide) (fun c_15 => ?_) (fun c_15 => ?_)
        · skip
          have c_15 := bI_ne0 c_15
          refine lv_iinc (v := nI (i + 1)) (lv' := [(2, .int (nI (i + 1))), (0, .ref (ad 0)), (1, .int (nI (e0)))]) hx hb dX1_isSoundAbove_33 hl (k := 2) rfl (nI_1 _) (by decide) rfl (fun ls hl => ?_)
          refine lv_goto (tgt := 2) hx hb dX1_isSoundAbove_36 (by decide) ?_
          exact ih (i + 1) _ (by omega) (by omega) (no_succ hno (by simp [c_7, c_15])) rfl ls (lv_sub hl [1, 2, 0] rfl)
        · skip
          have c_15 := bI_eq0 c_15
          refine lv_aload_n hx hb dX1_isSoundAbove_18 rfl (lv_at hl 0 rfl) ?_
          refine va_get (D := D) (ci := 1) (v := .ref (ad 3)) (C := RX1) (T := TX1) (N := 7) hx hb hts hin1 hown hK.1 hP 0 rfl rfl 2 (by decide) f18 (fun _ h9 => h9) rfl dX1_isSoundAbove_19 ?_
          refine lv_iload_n hx hb dX1_isSoundAbove_22 rfl (lv_at hl 1 rfl) ?_
          refine lv_iconst (v := 1) hx hb dX1_isSoundAbove_23 (by decide) ?_
          refine lv_iload_n hx hb dX1_isSoundAbove_24 rfl (lv_at hl 2 rfl) ?_
          refine lv_ishl hx hb dX1_isSoundAbove_25 ?_
          refine lv_iadd hx hb dX1_isSoundAbove_26 ?_
          rw [add_bit (by omega)]
          refine az_ (D := D) (f := SO) (i := e0 + 2 ^ i) hx hb hK hP 3 1 rfl rfl (Nat.lt_of_lt_of_le (add_lt (by omega) (by omega) he c_15) h512) (by decide) dX1_isSoundAbove_27 ?_
          refine lv_if_eq (tgt := 33) hx hb dX1_isSoundAbove_28 (by decide) (fun c_28 => ?_) (fun c_28 => ?_)
          · skip
            have c_28 := bI_eq0 c_28
            refine lv_iinc (v := nI (i + 1)) (lv' := [(2, .int (nI (i + 1))), (0, .ref (ad 0)), (1, .int (nI (e0)))]) hx hb dX1_isSoundAbove_33 hl (k := 2) rfl (nI_1 _) (by decide) rfl (fun ls hl => ?_)
            refine lv_goto (tgt := 2) hx hb dX1_isSoundAbove_36 (by decide) ?_
            exact ih (i + 1) _ (by omega) (by omega) (no_succ hno (by simp [c_7, c_15, c_28])) rfl ls (lv_sub hl [1, 2, 0] rfl)
          · skip
            have c_28 := bI_ne0 c_28
            refine lv_iconst (v := 1) hx hb dX1_isSoundAbove_31 (by decide) ?_
            exact rz_ (v := true) hx hb hrt hlk dX1_isSoundAbove_32 ((ex_at (i := i) (by omega) (by simp [c_15, c_28])).symm)
  refine lv_iconst (v := nI (0)) hx hb dX1_isSoundAbove_0 (by decide) ?_
  refine lv_istore_n (lv' := [(2, .int (nI (0))), (0, .ref (ad 0)), (1, .int (nI (e0)))]) hx hb dX1_isSoundAbove_1 rfl hl (by decide) rfl (fun ls hl => ?_)
  exact lp_2 (SA + 1) (0) _ (by omega) (by omega) (fun j hj => absurd hj (Nat.not_lt_zero j)) (by first | rfl | (simp []; done) | (simp only []; rfl) | (simp_all []; done)) ls (lv_sub hl [1, 2, 0] rfl)
set_option maxHeartbeats 4000000 in
set_option maxRecDepth 100000 in
theorem c_X1_environmentCount (l : Launch) (D : va_G) (cI cZ : ClassId) (ad : Nat → Nat) (HL : Nat → Int32) (LB : Nat → Int32) (SO : Nat → Bool) (NG : Nat → Bool) (WO : Nat → Bool) (SA : Nat) (SE : Nat) : Met l yX1_environmentCount wsX1_environmentCount (({ frames := 0, cells := 0, slots := 0, locals := 0 })) (pcP D [(cI, .int), (cZ, .boolean)] (wS cI cZ ad HL LB SO NG WO SA SE) [.ref (ad 0)]) (vp_Si (fun v => v = nI (SE))) 0 0 (fun _ => False) := by
  refine Met.ofW (cc := cX1_environmentCount) (maxL := 1) (ret := (some .int)) (by decide) rfl ?_
  intro p e s m args below meth c s₁ BB hml hv
  obtain ⟨rfl, hP, hK⟩ := hv
  have hx := BB.exec
  have hb := BB.bytes
  have hrt := BB.returns
  have hts := atoms_spec (ws := wsX1_environmentCount) BB.pre
  have hown : s.vm.findClass RX1 = some m.cls := findClass_of_methodNamed BB.named
  have hlk := BB.notSynchronized
  have f32 := hts (.fieldLink RX1 32 "AssumptionKeeper$Survey" "environments" "I") (by decide +kernel)
  have hin1 : ∀ w ∈ u_ws RX1 TX1 7, w ∈ wsX1_environmentCount := by decide +kernel
  have hl := lv_entry ([.ref (ad 0)]) (n := 1) (Nat.le_of_ble_eq_true rfl)
  rw [lg_entry_eq]
  generalize (lg_sl ([.ref (ad 0)]) ++ List.replicate (1 - (lg_sl ([.ref (ad 0)])).length) Slot.unset).toArray = ls at hl ⊢
  have hl : lv_has ls 1 [(0, .ref (ad 0))] := hl
  refine lv_aload_n hx hb dX1_environmentCount_0 rfl (lv_at hl 0 rfl) ?_
  refine va_get (D := D) (ci := 1) (v := .int (nI (SE))) (C := RX1) (T := TX1) (N := 7) hx hb hts hin1 hown hK.1 hP 0 rfl rfl 6 (by decide) f32 (fun _ h9 => h9) rfl dX1_environmentCount_1 ?_
  exact ri_ hx hb hrt hlk dX1_environmentCount_4 (by first | rfl | (simp []; done) | (simp only []; rfl) | (simp_all []; done))
set_option maxHeartbeats 4000000 in
set_option maxRecDepth 100000 in
theorem c_X1_isSound (l : Launch) (D : va_G) (cI cZ : ClassId) (ad : Nat → Nat) (HL : Nat → Int32) (LB : Nat → Int32) (SO : Nat → Bool) (NG : Nat → Bool) (WO : Nat → Bool) (SA : Nat) (SE : Nat) (e0 : Nat) (he : e0 < 512) : Met l yX1_isSound wsX1_isSound (({ frames := 0, cells := 0, slots := 0, locals := 0 })) (pcP D [(cI, .int), (cZ, .boolean)] (wS cI cZ ad HL LB SO NG WO SA SE) [.ref (ad 0), .int (nI (e0))]) (vp_Si (fun v => v = bI (SO e0))) 0 0 (fun _ => False) := by
  refine Met.ofW (cc := cX1_isSound) (maxL := 2) (ret := (some .boolean)) (by decide) rfl ?_
  intro p e s m args below meth c s₁ BB hml hv
  obtain ⟨rfl, hP, hK⟩ := hv
  have hx := BB.exec
  have hb := BB.bytes
  have hrt := BB.returns
  have hts := atoms_spec (ws := wsX1_isSound) BB.pre
  have hown : s.vm.findClass RX1 = some m.cls := findClass_of_methodNamed BB.named
  have hlk := BB.notSynchronized
  have f18 := hts (.fieldLink RX1 18 "AssumptionKeeper$Survey" "areSound" "[Z") (by decide +kernel)
  have hin1 : ∀ w ∈ u_ws RX1 TX1 7, w ∈ wsX1_isSound := by decide +kernel
  have hl := lv_entry ([.ref (ad 0), .int (nI (e0))]) (n := 2) (Nat.le_of_ble_eq_true rfl)
  rw [lg_entry_eq]
  generalize (lg_sl ([.ref (ad 0), .int (nI (e0))]) ++ List.replicate (2 - (lg_sl ([.ref (ad 0), .int (nI (e0))])).length) Slot.unset).toArray = ls at hl ⊢
  have hl : lv_has ls 2 [(0, .ref (ad 0)), (1, .int (nI (e0)))] := hl
  refine lv_aload_n hx hb dX1_isSound_0 rfl (lv_at hl 0 rfl) ?_
  refine va_get (D := D) (ci := 1) (v := .ref (ad 3)) (C := RX1) (T := TX1) (N := 7) hx hb hts hin1 hown hK.1 hP 0 rfl rfl 2 (by decide) f18 (fun _ h9 => h9) rfl dX1_isSound_1 ?_
  refine lv_iload_n hx hb dX1_isSound_4 rfl (lv_at hl 1 rfl) ?_
  refine az_ (D := D) (f := SO) (i := e0) hx hb hK hP 3 1 rfl rfl (by omega) (by decide) dX1_isSound_5 ?_
  exact rz_ (v := SO (e0)) hx hb hrt hlk dX1_isSound_6 (by first | rfl | (simp []; done) | (simp only []; rfl) | (simp_all []; done))
set_option maxHeartbeats 4000000 in
set_option maxRecDepth 100000 in
theorem c_X1_isWorld (l : Launch) (D : va_G) (cI cZ : ClassId) (ad : Nat → Nat) (HL : Nat → Int32) (LB : Nat → Int32) (SO : Nat → Bool) (NG : Nat → Bool) (WO : Nat → Bool) (SA : Nat) (SE : Nat) (e0 : Nat) (he : e0 < 512) : Met l yX1_isWorld wsX1_isWorld (({ frames := 0, cells := 0, slots := 0, locals := 0 })) (pcP D [(cI, .int), (cZ, .boolean)] (wS cI cZ ad HL LB SO NG WO SA SE) [.ref (ad 0), .int (nI (e0))]) (vp_Si (fun v => v = bI (WO e0))) 0 0 (fun _ => False) := by
  refine Met.ofW (cc := cX1_isWorld) (maxL := 2) (ret := (some .boolean)) (by decide) rfl ?_
  intro p e s m args below meth c s₁ BB hml hv
  obtain ⟨rfl, hP, hK⟩ := hv
  have hx := BB.exec
  have hb := BB.bytes
  have hrt := BB.returns
  have hts := atoms_spec (ws := wsX1_isWorld) BB.pre
  have hown : s.vm.findClass RX1 = some m.cls := findClass_of_methodNamed BB.named
  have hlk := BB.notSynchronized
  have f25 := hts (.fieldLink RX1 25 "AssumptionKeeper$Survey" "areWorlds" "[Z") (by decide +kernel)
  have hin1 : ∀ w ∈ u_ws RX1 TX1 7, w ∈ wsX1_isWorld := by decide +kernel
  have hl := lv_entry ([.ref (ad 0), .int (nI (e0))]) (n := 2) (Nat.le_of_ble_eq_true rfl)
  rw [lg_entry_eq]
  generalize (lg_sl ([.ref (ad 0), .int (nI (e0))]) ++ List.replicate (2 - (lg_sl ([.ref (ad 0), .int (nI (e0))])).length) Slot.unset).toArray = ls at hl ⊢
  have hl : lv_has ls 2 [(0, .ref (ad 0)), (1, .int (nI (e0)))] := hl
  refine lv_aload_n hx hb dX1_isWorld_0 rfl (lv_at hl 0 rfl) ?_
  refine va_get (D := D) (ci := 1) (v := .ref (ad 5)) (C := RX1) (T := TX1) (N := 7) hx hb hts hin1 hown hK.1 hP 0 rfl rfl 4 (by decide) f25 (fun _ h9 => h9) rfl dX1_isWorld_1 ?_
  refine lv_iload_n hx hb dX1_isWorld_4 rfl (lv_at hl 1 rfl) ?_
  refine az_ (D := D) (f := WO) (i := e0) hx hb hK hP 5 1 rfl rfl (by omega) (by decide) dX1_isWorld_5 ?_
  exact rz_ (v := WO (e0)) hx hb hrt hlk dX1_isWorld_6 (by first | rfl | (simp []; done) | (simp only []; rfl) | (simp_all []; done))
set_option maxHeartbeats 4000000 in
set_option maxRecDepth 100000 in
theorem c_X1_isHeld (l : Launch) (D : va_G) (cI cZ : ClassId) (ad : Nat → Nat) (HL : Nat → Int32) (LB : Nat → Int32) (SO : Nat → Bool) (NG : Nat → Bool) (WO : Nat → Bool) (SA : Nat) (SE : Nat) (k : Int32) (e0 : Nat) (he : e0 < 512) : Met l yX1_isHeld wsX1_isHeld (({ frames := 1, cells := 0, slots := 0, locals := 21 })) (pcP D [(cI, .int), (cZ, .boolean)] (wS cI cZ ad HL LB SO NG WO SA SE) [.ref (ad 0), .int (k), .int (nI (e0))]) (vp_Si (fun v => v = bI (hs (HL e0) k))) 0 0 (fun _ => False) := by
  refine Met.ofW (cc := cX1_isHeld) (maxL := 3) (ret := (some .boolean)) (by decide) rfl ?_
  intro p e s m args below meth c s₁ BB hml hv
  obtain ⟨rfl, hP, hK⟩ := hv
  have hx := BB.exec
  have hb := BB.bytes
  have hrt := BB.returns
  have hts := atoms_spec (ws := wsX1_isHeld) BB.pre
  have hown : s.vm.findClass RX1 = some m.cls := findClass_of_methodNamed BB.named
  have hlk := BB.notSynchronized
  have f9 := hts (.fieldLink RX1 9 "AssumptionKeeper$Survey" "held" "[I") (by decide +kernel)
  have hin1 : ∀ w ∈ u_ws RX1 TX1 7, w ∈ wsX1_isHeld := by decide +kernel
  have hl := lv_entry ([.ref (ad 0), .int (k), .int (nI (e0))]) (n := 3) (Nat.le_of_ble_eq_true rfl)
  rw [lg_entry_eq]
  generalize (lg_sl ([.ref (ad 0), .int (k), .int (nI (e0))]) ++ List.replicate (3 - (lg_sl ([.ref (ad 0), .int (k), .int (nI (e0))])).length) Slot.unset).toArray = ls at hl ⊢
  have hl : lv_has ls 3 [(0, .ref (ad 0)), (1, .int (k)), (2, .int (nI (e0)))] := hl
  refine lv_aload_n hx hb dX1_isHeld_0 rfl (lv_at hl 0 rfl) ?_
  refine va_get (D := D) (ci := 1) (v := .ref (ad 1)) (C := RX1) (T := TX1) (N := 7) hx hb hts hin1 hown hK.1 hP 0 rfl rfl 0 (by decide) f9 (fun _ h9 => h9) rfl dX1_isHeld_1 ?_
  refine lv_iload_n hx hb dX1_isHeld_4 rfl (lv_at hl 2 rfl) ?_
  refine ai_ (D := D) (f := HL) (i := e0) hx hb hK hP 1 0 rfl rfl (by omega) (by decide) dX1_isHeld_5 ?_
  refine lv_iload_n hx hb dX1_isHeld_6 rfl (lv_at hl 1 rfl) ?_
  refine pu_i (va_runSN (As := [.int (HL (e0)), .int (k)]) (rest := []) ⟨hx, hb, hml, hown, hts⟩ (c_X2_contains l D cI cZ ad (HL (e0)) (k) ) ⟨va_cnB 2 hts gX1_isHeld_X2_contains_n58 rfl rfl rfl hK.2.2.1 (hts (.initialized RX2) (by decide +kernel)) (by decide +kernel) ⟨Nat.le_of_ble_eq_true rfl, Nat.le_of_ble_eq_true rfl⟩, hts (.static yX2_contains) (by decide +kernel), trivial⟩ (pre_S (hP.sub (ws' := ([] : va_W)) [] rfl) hK) rfl rfl hl.1 rfl (lv_room (Nat.le_of_ble_eq_true rfl)) dX1_isHeld_7 ⟨Nat.zero_le _, Nat.zero_le _⟩) ?_
  exact rz_ (v := hs (HL (e0)) k) hx hb hrt hlk dX1_isHeld_10 (by first | rfl | (simp []; done) | (simp only []; rfl) | (simp_all []; done))
set_option maxHeartbeats 4000000 in
set_option maxRecDepth 100000 in
theorem c_X1_isInLabel (l : Launch) (D : va_G) (cI cZ : ClassId) (ad : Nat → Nat) (HL : Nat → Int32) (LB : Nat → Int32) (SO : Nat → Bool) (NG : Nat → Bool) (WO : Nat → Bool) (SA : Nat) (SE : Nat) (k : Int32) (e0 : Nat) (he : e0 < 512) : Met l yX1_isInLabel wsX1_isInLabel (({ frames := 1, cells := 0, slots := 0, locals := 21 })) (pcP D [(cI, .int), (cZ, .boolean)] (wS cI cZ ad HL LB SO NG WO SA SE) [.ref (ad 0), .int (k), .int (nI (e0))]) (vp_Si (fun v => v = bI (hs (LB e0) k))) 0 0 (fun _ => False) := by
  refine Met.ofW (cc := cX1_isInLabel) (maxL := 3) (ret := (some .boolean)) (by decide) rfl ?_
  intro p e s m args below meth c s₁ BB hml hv
  obtain ⟨rfl, hP, hK⟩ := hv
  have hx := BB.exec
  have hb := BB.bytes
  have hrt := BB.returns
  have hts := atoms_spec (ws := wsX1_isInLabel) BB.pre
  have hown : s.vm.findClass RX1 = some m.cls := findClass_of_methodNamed BB.named
  have hlk := BB.notSynchronized
  have f15 := hts (.fieldLink RX1 15 "AssumptionKeeper$Survey" "labelled" "[I") (by decide +kernel)
  have hin1 : ∀ w ∈ u_ws RX1 TX1 7, w ∈ wsX1_isInLabel := by decide +kernel
  have hl := lv_entry ([.ref (ad 0), .int (k), .int (nI (e0))]) (n := 3) (Nat.le_of_ble_eq_true rfl)
  rw [lg_entry_eq]
  generalize (lg_sl ([.ref (ad 0), .int (k), .int (nI (e0))]) ++ List.replicate (3 - (lg_sl ([.ref (ad 0), .int (k), .int (nI (e0))])).length) Slot.unset).toArray = ls at hl ⊢
  have hl : lv_has ls 3 [(0, .ref (ad 0)), (1, .int (k)), (2, .int (nI (e0)))] := hl
  refine lv_aload_n hx hb dX1_isInLabel_0 rfl (lv_at hl 0 rfl) ?_
  refine va_get (D := D) (ci := 1) (v := .ref (ad 2)) (C := RX1) (T := TX1) (N := 7) hx hb hts hin1 hown hK.1 hP 0 rfl rfl 1 (by decide) f15 (fun _ h9 => h9) rfl dX1_isInLabel_1 ?_
  refine lv_iload_n hx hb dX1_isInLabel_4 rfl (lv_at hl 2 rfl) ?_
  refine ai_ (D := D) (f := LB) (i := e0) hx hb hK hP 2 0 rfl rfl (by omega) (by decide) dX1_isInLabel_5 ?_
  refine lv_iload_n hx hb dX1_isInLabel_6 rfl (lv_at hl 1 rfl) ?_
  refine pu_i (va_runSN (As := [.int (LB (e0)), .int (k)]) (rest := []) ⟨hx, hb, hml, hown, hts⟩ (c_X2_contains l D cI cZ ad (LB (e0)) (k) ) ⟨va_cnB 2 hts gX1_isInLabel_X2_contains_n58 rfl rfl rfl hK.2.2.1 (hts (.initialized RX2) (by decide +kernel)) (by decide +kernel) ⟨Nat.le_of_ble_eq_true rfl, Nat.le_of_ble_eq_true rfl⟩, hts (.static yX2_contains) (by decide +kernel), trivial⟩ (pre_S (hP.sub (ws' := ([] : va_W)) [] rfl) hK) rfl rfl hl.1 rfl (lv_room (Nat.le_of_ble_eq_true rfl)) dX1_isInLabel_7 ⟨Nat.zero_le _, Nat.zero_le _⟩) ?_
  exact rz_ (v := hs (LB (e0)) k) hx hb hrt hlk dX1_isInLabel_10 (by first | rfl | (simp []; done) | (simp only []; rfl) | (simp_all []; done))
set_option maxHeartbeats 4000000 in
set_option maxRecDepth 100000 in
theorem c_X1_sizeOfLabel (l : Launch) (D : va_G) (cI cZ : ClassId) (ad : Nat → Nat) (HL : Nat → Int32) (LB : Nat → Int32) (SO : Nat → Bool) (NG : Nat → Bool) (WO : Nat → Bool) (SA : Nat) (SE : Nat) (k : Int32) (hE : SE ≤ 512) : Met l yX1_sizeOfLabel wsX1_sizeOfLabel (({ frames := 2, cells := 0, slots := 0, locals := 43 })) (pcP D [(cI, .int), (cZ, .boolean)] (wS cI cZ ad HL LB SO NG WO SA SE) [.ref (ad 0), .int (k)]) (vp_Si (fun v => v = nI (cnt (fun e => hs (LB e) k) SE))) 0 0 (fun _ => False) := by
  refine Met.ofW (cc := cX1_sizeOfLabel) (maxL := 4) (ret := (some .int)) (by decide) rfl ?_
  intro p e s m args below meth c s₁ BB hml hv
  obtain ⟨rfl, hP, hK⟩ := hv
  have hx := BB.exec
  have hb := BB.bytes
  have hrt := BB.returns
  have hts := atoms_spec (ws := wsX1_sizeOfLabel) BB.pre
  have hown : s.vm.findClass RX1 = some m.cls := findClass_of_methodNamed BB.named
  have hlk := BB.notSynchronized
  have f32 := hts (.fieldLink RX1 32 "AssumptionKeeper$Survey" "environments" "I") (by decide +kernel)
  have hin1 : ∀ w ∈ u_ws RX1 TX1 7, w ∈ wsX1_sizeOfLabel := by decide +kernel
  have hl := lv_entry ([.ref (ad 0), .int (k)]) (n := 4) (Nat.le_of_ble_eq_true rfl)
  rw [lg_entry_eq]
  generalize (lg_sl ([.ref (ad 0), .int (k)]) ++ List.replicate (4 - (lg_sl ([.ref (ad 0), .int (k)])).length) Slot.unset).toArray = ls at hl ⊢
  have hl : lv_has ls 4 [(0, .ref (ad 0)), (1, .int (k))] := hl
  have lp_4 : ∀ (n i : Nat) (v2 : Int32) (v3 : Int32), i ≤ SE → SE + 1 ≤ i + n → v2 = nI (cnt (fun e => hs (LB e) k) i) → v3 = nI (i) → ∀ ls : Array Slot, lv_has ls 4 [(0, .ref (ad 0)), (1, .int (k)), (2, .int (v2)), (3, .int (v3))] → W p l e (headSpec wsX1_sizeOfLabel ({ frames := 2, cells := 0, slots := 0, locals := 43 })).room s m ([.ref (ad 0), .int (k)]).toArray below meth c s.heap [] 0 0 (MQ below (vp_Si (fun v => v = nI (cnt (fun e => hs (LB e) k) SE))) ([.ref (ad 0), .int (k)]).toArray s 0 0 (fun _ => False)) (F0 m 4 ls []) := by
    intro n
    induction n with
    | zero => intro i v2 v3 h1 h2; exact absurd h2 (by omega)
    | succ n ih =>
      intro i v2 v3 hi_ hn_  e2 e3 ls hl
      subst e2 e3
      have hl : lv_has ls 4 [(0, .ref (ad 0)), (1, .int (k)), (2, .int (nI (cnt (fun e => hs (LB e) k) i))), (3, .int (nI (i)))] := hl
      refine lv_iload_n hx hb dX1_sizeOfLabel_4 rfl (lv_at hl 3 rfl) ?_
      refine lv_aload_n hx hb dX1_sizeOfLabel_5 rfl (lv_at hl 0 rfl) ?_
      refine va_get (D := D) (ci := 1) (v := .int (nI (SE))) (C := RX1) (T := TX1) (N := 7) hx hb hts hin1 hown hK.1 hP 0 rfl rfl 6 (by decide) f32 (fun _ h9 => h9) rfl dX1_sizeOfLabel_6 ?_
      refine lv_icmp_ge (tgt := 30) hx hb dX1_sizeOfLabel_9 (by decide) (fun c_9 => ?_) (fun c_9 => ?_)
      · skip
        have c_9 := (qI_le (a := SE) (b := i) (by omega) (by omega)).mp c_9
        refine lv_iload_n hx hb dX1_sizeOfLabel_30 rfl (lv_at hl 2 rfl) ?_
        exact ri_ hx hb hrt hlk dX1_sizeOfLabel_31 (by obtain rfl : i = SE := (by omega); rfl)
      · skip
        have c_9 := mt (qI_le (a := SE) (b := i) (by omega) (by omega)).mpr c_9
        refine lv_aload_n hx hb dX1_sizeOfLabel_12 rfl (lv_at hl 0 rfl) ?_
        refine lv_iload_n hx hb dX1_sizeOfLabel_13 rfl (lv_at hl 1 rfl) ?_
        refine lv_iload_n hx hb dX1_sizeOfLabel_14 rfl (lv_at hl 3 rfl) ?_
        refine pu_i (va_runV (As := [.int (k), .int (nI (i))]) (rest := []) ⟨hx, hb, hml, hown, hts⟩ (c_X1_isInLabel l D cI cZ ad (HL) (LB) (SO) (NG) (WO) (SA) (SE) (k) (i) (by omega)) (cwV 2 hts gX1_sizeOfLabel_X1_isInLabel rfl rfl rfl (by decide +kernel) ⟨Nat.le_of_ble_eq_true rfl, Nat.le_of_ble_eq_true rfl⟩) (pre_V (q0 := 0) (ci := 1) (hP.sub (ws' := (wS cI cZ ad HL LB SO NG WO SA SE)) [0, 1, 2, 3, 4, 5] rfl) hK rfl rfl) rfl rfl hl.1 rfl (lv_room (Nat.le_of_ble_eq_true rfl)) dX1_sizeOfLabel_15 ⟨Nat.zero_le _, Nat.zero_le _⟩) ?_
        refine lv_if_eq (tgt := 24) hx hb dX1_sizeOfLabel_18 (by decide) (fun c_18 => ?_) (fun c_18 => ?_)
        · skip
          have c_18 := bI_eq0 c_18
          refine lv_iinc (v := nI (i + 1)) (lv' := [(3, .int (nI (i + 1))), (0, .ref (ad 0)), (1, .int (k)), (2, .int (nI (cnt (fun e => hs (LB e) k) i)))]) hx hb dX1_sizeOfLabel_24 hl (k := 3) rfl (nI_1 _) (by decide) rfl (fun ls hl => ?_)
          refine lv_goto (tgt := 4) hx hb dX1_sizeOfLabel_27 (by decide) ?_
          exact ih (i + 1) _ _ (by omega) (by omega)  (by first | rfl | (simp [cnt, c_9, c_18]; done) | (simp only [cnt, c_9, c_18]; rfl) | (simp_all [cnt, c_9, c_18]; done)) rfl ls (lv_sub hl [1, 2, 3, 0] rfl)
        · skip
          have c_18 := bI_ne0 c_18
          refine lv_iinc (v := nI ((cnt (fun e => hs (LB e) k) i) + 1)) (lv' := [(2, .int (nI ((cnt (fun e => hs (LB e) k) i) + 1))), (0, .ref (ad 0)), (1, .int (k)), (3, .int (nI (i)))]) hx hb dX1_sizeOfLabel_21 hl (k := 2) rfl (nI_1 _) (by decide) rfl (fun ls hl => ?_)
          refine lv_iinc (v := nI (i + 1)) (lv' := [(3, .int (nI (i + 1))), (2, .int (nI ((cnt (fun e => hs (LB e) k) i) + 1))), (0, .ref (ad 0)), (1, .int (k))]) hx hb dX1_sizeOfLabel_24 hl (k := 3) rfl (nI_1 _) (by decide) rfl (fun ls hl => ?_)
          refine lv_goto (tgt := 4) hx hb dX1_sizeOfLabel_27 (by decide) ?_
          exact ih (i + 1) _ _ (by omega) (by omega)  (by first | rfl | (simp [cnt, c_9, c_18]; done) | (simp only [cnt, c_9, c_18]; rfl) | (simp_all [cnt, c_9, c_18]; done)) rfl ls (lv_sub hl [2, 3, 1, 0] rfl)
  refine lv_iconst (v := nI (0)) hx hb dX1_sizeOfLabel_0 (by decide) ?_
  refine lv_istore_n (lv' := [(2, .int (nI (0))), (0, .ref (ad 0)), (1, .int (k))]) hx hb dX1_sizeOfLabel_1 rfl hl (by decide) rfl (fun ls hl => ?_)
  refine lv_iconst (v := nI (0)) hx hb dX1_sizeOfLabel_2 (by decide) ?_
  refine lv_istore_n (lv' := [(3, .int (nI (0))), (2, .int (nI (0))), (0, .ref (ad 0)), (1, .int (k))]) hx hb dX1_sizeOfLabel_3 rfl hl (by decide) rfl (fun ls hl => ?_)
  exact lp_4 (SE + 1) (0) _ _ (by omega) (by omega)  (by first | rfl | (simp [cnt]; done) | (simp only [cnt]; rfl) | (simp_all [cnt]; done)) (by first | rfl | (simp [cnt]; done) | (simp only [cnt]; rfl) | (simp_all [cnt]; done)) ls (lv_sub hl [2, 3, 1, 0] rfl)
set_option maxHeartbeats 4000000 in
set_option maxRecDepth 100000 in
theorem c_X1_memberOfLabel (l : Launch) (D : va_G) (cI cZ : ClassId) (ad : Nat → Nat) (HL : Nat → Int32) (LB : Nat → Int32) (SO : Nat → Bool) (NG : Nat → Bool) (WO : Nat → Bool) (SA : Nat) (SE : Nat) (k : Int32) (q : Int32) (hE : SE ≤ 512) : Met l yX1_memberOfLabel wsX1_memberOfLabel (({ frames := 2, cells := 0, slots := 0, locals := 43 })) (pcP D [(cI, .int), (cZ, .boolean)] (wS cI cZ ad HL LB SO NG WO SA SE) [.ref (ad 0), .int (k), .int (q)]) (vp_Si (fun v => v = nth (fun e => hs (LB e) k) SE q)) 0 0 (fun _ => False) := by
  refine Met.ofW (cc := cX1_memberOfLabel) (maxL := 5) (ret := (some .int)) (by decide) rfl ?_
  intro p e s m args below meth c s₁ BB hml hv
  obtain ⟨rfl, hP, hK⟩ := hv
  have hx := BB.exec
  have hb := BB.bytes
  have hrt := BB.returns
  have hts := atoms_spec (ws := wsX1_memberOfLabel) BB.pre
  have hown : s.vm.findClass RX1 = some m.cls := findClass_of_methodNamed BB.named
  have hlk := BB.notSynchronized
  have f32 := hts (.fieldLink RX1 32 "AssumptionKeeper$Survey" "environments" "I") (by decide +kernel)
  have hin1 : ∀ w ∈ u_ws RX1 TX1 7, w ∈ wsX1_memberOfLabel := by decide +kernel
  have hl := lv_entry ([.ref (ad 0), .int (k), .int (q)]) (n := 5) (Nat.le_of_ble_eq_true rfl)
  rw [lg_entry_eq]
  generalize (lg_sl ([.ref (ad 0), .int (k), .int (q)]) ++ List.replicate (5 - (lg_sl ([.ref (ad 0), .int (k), .int (q)])).length) Slot.unset).toArray = ls at hl ⊢
  have hl : lv_has ls 5 [(0, .ref (ad 0)), (1, .int (k)), (2, .int (q))] := hl
  have lp_5 : ∀ (n i : Nat) (v3 : Int32) (v4 : Int32), i ≤ SE → SE + 1 ≤ i + n → (∀ j, j < i → (fun e => (fun e => hs (LB e) k) e && nI (cnt (fun e => hs (LB e) k) e) == q) j = false) → v3 = nI (cnt (fun e => hs (LB e) k) i) → v4 = nI (i) → ∀ ls : Array Slot, lv_has ls 5 [(0, .ref (ad 0)), (1, .int (k)), (2, .int (q)), (3, .int (v3)), (4, .int (v4))] → W p l e (headSpec wsX1_memberOfLabel ({ frames := 2, cells := 0, slots := 0, locals := 43 })).room s m ([.ref (ad 0), .int (k), .int (q)]).toArray below meth c s.heap [] 0 0 (MQ below (vp_Si (fun v => v = nth (fun e => hs (LB e) k) SE q)) ([.ref (ad 0), .int (k), .int (q)]).toArray s 0 0 (fun _ => False)) (F0 m 5 ls []) := by
    intro n
    induction n with
    | zero => intro i v3 v4 h1 h2; exact absurd h2 (by omega)
    | succ n ih =>
      intro i v3 v4 hi_ hn_ hno e3 e4 ls hl
      subst e3 e4
      have hl : lv_has ls 5 [(0, .ref (ad 0)), (1, .int (k)), (2, .int (q)), (3, .int (nI (cnt (fun e => hs (LB e) k) i))), (4, .int (nI (i)))] := hl
      refine lv_iload hx hb dX1_memberOfLabel_5 (lv_at hl 4 rfl) ?_
      refine lv_aload_n hx hb dX1_memberOfLabel_7 rfl (lv_at hl 0 rfl) ?_
      refine va_get (D := D) (ci := 1) (v := .int (nI (SE))) (C := RX1) (T := TX1) (N := 7) hx hb hts hin1 hown hK.1 hP 0 rfl rfl 6 (by decide) f32 (fun _ h9 => h9) rfl dX1_memberOfLabel_8 ?_
      refine lv_icmp_ge (tgt := 41) hx hb dX1_memberOfLabel_11 (by decide) (fun c_11 => ?_) (fun c_11 => ?_)
      · skip
        have c_11 := (qI_le (a := SE) (b := i) (by omega) (by omega)).mp c_11
        refine lv_iconst (v := -1) hx hb dX1_memberOfLabel_41 (by decide) ?_
        exact ri_ hx hb hrt hlk dX1_memberOfLabel_42 (by obtain rfl : i = SE := (by omega); exact (fndI_no hno).symm)
      · skip
        have c_11 := mt (qI_le (a := SE) (b := i) (by omega) (by omega)).mpr c_11
        refine lv_aload_n hx hb dX1_memberOfLabel_14 rfl (lv_at hl 0 rfl) ?_
        refine lv_iload_n hx hb dX1_memberOfLabel_15 rfl (lv_at hl 1 rfl) ?_
        refine lv_iload hx hb dX1_memberOfLabel_16 (lv_at hl 4 rfl) ?_
        refine pu_i (va_runV (As := [.int (k), .int (nI (i))]) (rest := []) ⟨hx, hb, hml, hown, hts⟩ (c_X1_isInLabel l D cI cZ ad (HL) (LB) (SO) (NG) (WO) (SA) (SE) (k) (i) (by omega)) (cwV 2 hts gX1_memberOfLabel_X1_isInLabel rfl rfl rfl (by decide +kernel) ⟨Nat.le_of_ble_eq_true rfl, Nat.le_of_ble_eq_true rfl⟩) (pre_V (q0 := 0) (ci := 1) (hP.sub (ws' := (wS cI cZ ad HL LB SO NG WO SA SE)) [0, 1, 2, 3, 4, 5] rfl) hK rfl rfl) rfl rfl hl.1 rfl (lv_room (Nat.le_of_ble_eq_true rfl)) dX1_memberOfLabel_18 ⟨Nat.zero_le _, Nat.zero_le _⟩) ?_
        refine lv_if_eq (tgt := 35) hx hb dX1_memberOfLabel_21 (by decide) (fun c_21 => ?_) (fun c_21 => ?_)
        · skip
          have c_21 := bI_eq0 c_21
          refine lv_iinc (v := nI (i + 1)) (lv' := [(4, .int (nI (i + 1))), (0, .ref (ad 0)), (1, .int (k)), (2, .int (q)), (3, .int (nI (cnt (fun e => hs (LB e) k) i)))]) hx hb dX1_memberOfLabel_35 hl (k := 4) rfl (nI_1 _) (by decide) rfl (fun ls hl => ?_)
          refine lv_goto (tgt := 5) hx hb dX1_memberOfLabel_38 (by decide) ?_
          exact ih (i + 1) _ _ (by omega) (by omega) (no_succ hno (by simp [c_11, c_21])) (by first | rfl | (simp [cnt, c_11, c_21]; done) | (simp only [cnt, c_11, c_21]; rfl) | (simp_all [cnt, c_11, c_21]; done)) rfl ls (lv_sub hl [1, 2, 3, 4, 0] rfl)
        · skip
          have c_21 := bI_ne0 c_21
          refine lv_iload_n hx hb dX1_memberOfLabel_24 rfl (lv_at hl 3 rfl) ?_
          refine lv_iload_n hx hb dX1_memberOfLabel_25 rfl (lv_at hl 2 rfl) ?_
          refine lv_icmp_ne (tgt := 32) hx hb dX1_memberOfLabel_26 (by decide) (fun c_26 => ?_) (fun c_26 => ?_)
          · skip
            refine lv_iinc (v := nI ((cnt (fun e => hs (LB e) k) i) + 1)) (lv' := [(3, .int (nI ((cnt (fun e => hs (LB e) k) i) + 1))), (0, .ref (ad 0)), (1, .int (k)), (2, .int (q)), (4, .int (nI (i)))]) hx hb dX1_memberOfLabel_32 hl (k := 3) rfl (nI_1 _) (by decide) rfl (fun ls hl => ?_)
            refine lv_iinc (v := nI (i + 1)) (lv' := [(4, .int (nI (i + 1))), (3, .int (nI ((cnt (fun e => hs (LB e) k) i) + 1))), (0, .ref (ad 0)), (1, .int (k)), (2, .int (q))]) hx hb dX1_memberOfLabel_35 hl (k := 4) rfl (nI_1 _) (by decide) rfl (fun ls hl => ?_)
            refine lv_goto (tgt := 5) hx hb dX1_memberOfLabel_38 (by decide) ?_
            exact ih (i + 1) _ _ (by omega) (by omega) (no_succ hno (by simp [c_11, c_21, c_26])) (by first | rfl | (simp [cnt, c_11, c_21, c_26]; done) | (simp only [cnt, c_11, c_21, c_26]; rfl) | (simp_all [cnt, c_11, c_21, c_26]; done)) rfl ls (lv_sub hl [2, 3, 4, 1, 0] rfl)
          · skip
            refine lv_iload hx hb dX1_memberOfLabel_29 (lv_at hl 4 rfl) ?_
            exact ri_ hx hb hrt hlk dX1_memberOfLabel_31 ((fndI_at (i := i) (by omega) (by simp [c_21, c_26]) hno).symm)
  refine lv_iconst (v := nI (0)) hx hb dX1_memberOfLabel_0 (by decide) ?_
  refine lv_istore_n (lv' := [(3, .int (nI (0))), (0, .ref (ad 0)), (1, .int (k)), (2, .int (q))]) hx hb dX1_memberOfLabel_1 rfl hl (by decide) rfl (fun ls hl => ?_)
  refine lv_iconst (v := nI (0)) hx hb dX1_memberOfLabel_2 (by decide) ?_
  refine lv_istore (lv' := [(4, .int (nI (0))), (3, .int (nI (0))), (0, .ref (ad 0)), (1, .int (k)), (2, .int (q))]) hx hb dX1_memberOfLabel_3 hl (by decide) rfl (fun ls hl => ?_)
  exact lp_5 (SE + 1) (0) _ _ (by omega) (by omega) (fun j hj => absurd hj (Nat.not_lt_zero j)) (by first | rfl | (simp [cnt]; done) | (simp only [cnt]; rfl) | (simp_all [cnt]; done)) (by first | rfl | (simp [cnt]; done) | (simp only [cnt]; rfl) | (simp_all [cnt]; done)) ls (lv_sub hl [2, 3, 4, 1, 0] rfl)
set_option maxHeartbeats 4000000 in
set_option maxRecDepth 100000 in
theorem c_X1_countMarks_4 (l : Launch) (D : va_G) (cI cZ : ClassId) (ad : Nat → Nat) (HL : Nat → Int32) (LB : Nat → Int32) (SO : Nat → Bool) (NG : Nat → Bool) (WO : Nat → Bool) (SA : Nat) (SE : Nat) (hE : SE ≤ 512) : Met l yX1_countMarks wsX1_countMarks (({ frames := 0, cells := 0, slots := 0, locals := 0 })) (pcP D [(cI, .int), (cZ, .boolean)] (wS cI cZ ad HL LB SO NG WO SA SE) [.ref (ad 0), .ref (ad 4)]) (vp_Si (fun v => v = nI (cnt NG SE))) 0 0 (fun _ => False) := by
  refine Met.ofW (cc := cX1_countMarks) (maxL := 4) (ret := (some .int)) (by decide) rfl ?_
  intro p e s m args below meth c s₁ BB hml hv
  obtain ⟨rfl, hP, hK⟩ := hv
  have hx := BB.exec
  have hb := BB.bytes
  have hrt := BB.returns
  have hts := atoms_spec (ws := wsX1_countMarks) BB.pre
  have hown : s.vm.findClass RX1 = some m.cls := findClass_of_methodNamed BB.named
  have hlk := BB.notSynchronized
  have f32 := hts (.fieldLink RX1 32 "AssumptionKeeper$Survey" "environments" "I") (by decide +kernel)
  have hin1 : ∀ w ∈ u_ws RX1 TX1 7, w ∈ wsX1_countMarks := by decide +kernel
  have hl := lv_entry ([.ref (ad 0), .ref (ad 4)]) (n := 4) (Nat.le_of_ble_eq_true rfl)
  rw [lg_entry_eq]
  generalize (lg_sl ([.ref (ad 0), .ref (ad 4)]) ++ List.replicate (4 - (lg_sl ([.ref (ad 0), .ref (ad 4)])).length) Slot.unset).toArray = ls at hl ⊢
  have hl : lv_has ls 4 [(0, .ref (ad 0)), (1, .ref (ad 4))] := hl
  have lp_4 : ∀ (n i : Nat) (v2 : Int32) (v3 : Int32), i ≤ SE → SE + 1 ≤ i + n → v2 = nI (cnt NG i) → v3 = nI (i) → ∀ ls : Array Slot, lv_has ls 4 [(0, .ref (ad 0)), (1, .ref (ad 4)), (2, .int (v2)), (3, .int (v3))] → W p l e (headSpec wsX1_countMarks ({ frames := 0, cells := 0, slots := 0, locals := 0 })).room s m ([.ref (ad 0), .ref (ad 4)]).toArray below meth c s.heap [] 0 0 (MQ below (vp_Si (fun v => v = nI (cnt NG SE))) ([.ref (ad 0), .ref (ad 4)]).toArray s 0 0 (fun _ => False)) (F0 m 4 ls []) := by
    intro n
    induction n with
    | zero => intro i v2 v3 h1 h2; exact absurd h2 (by omega)
    | succ n ih =>
      intro i v2 v3 hi_ hn_  e2 e3 ls hl
      subst e2 e3
      have hl : lv_has ls 4 [(0, .ref (ad 0)), (1, .ref (ad 4)), (2, .int (nI (cnt NG i))), (3, .int (nI (i)))] := hl
      refine lv_iload_n hx hb dX1_countMarks_4 rfl (lv_at hl 3 rfl) ?_
      refine lv_aload_n hx hb dX1_countMarks_5 rfl (lv_at hl 0 rfl) ?_
      refine va_get (D := D) (ci := 1) (v := .int (nI (SE))) (C := RX1) (T := TX1) (N := 7) hx hb hts hin1 hown hK.1 hP 0 rfl rfl 6 (by decide) f32 (fun _ h9 => h9) rfl dX1_countMarks_6 ?_
      refine lv_icmp_ge (tgt := 27) hx hb dX1_countMarks_9 (by decide) (fun c_9 => ?_) (fun c_9 => ?_)
      · skip
        have c_9 := (qI_le (a := SE) (b := i) (by omega) (by omega)).mp c_9
        refine lv_iload_n hx hb dX1_countMarks_27 rfl (lv_at hl 2 rfl) ?_
        exact ri_ hx hb hrt hlk dX1_countMarks_28 (by obtain rfl : i = SE := (by omega); rfl)
      · skip
        have c_9 := mt (qI_le (a := SE) (b := i) (by omega) (by omega)).mpr c_9
        refine lv_aload_n hx hb dX1_countMarks_12 rfl (lv_at hl 1 rfl) ?_
        refine lv_iload_n hx hb dX1_countMarks_13 rfl (lv_at hl 3 rfl) ?_
        refine az_ (D := D) (f := NG) (i := i) hx hb hK hP 4 1 rfl rfl (by omega) (by decide) dX1_countMarks_14 ?_
        refine lv_if_eq (tgt := 21) hx hb dX1_countMarks_15 (by decide) (fun c_15 => ?_) (fun c_15 => ?_)
        · skip
          have c_15 := bI_eq0 c_15
          refine lv_iinc (v := nI (i + 1)) (lv' := [(3, .int (nI (i + 1))), (0, .ref (ad 0)), (1, .ref (ad 4)), (2, .int (nI (cnt NG i)))]) hx hb dX1_countMarks_21 hl (k := 3) rfl (nI_1 _) (by decide) rfl (fun ls hl => ?_)
          refine lv_goto (tgt := 4) hx hb dX1_countMarks_24 (by decide) ?_
          exact ih (i + 1) _ _ (by omega) (by omega)  (by first | rfl | (simp [cnt, c_9, c_15]; done) | (simp only [cnt, c_9, c_15]; rfl) | (simp_all [cnt, c_9, c_15]; done)) rfl ls (lv_sub hl [1, 2, 3, 0] rfl)
        · skip
          have c_15 := bI_ne0 c_15
          refine lv_iinc (v := nI ((cnt NG i) + 1)) (lv' := [(2, .int (nI ((cnt NG i) + 1))), (0, .ref (ad 0)), (1, .ref (ad 4)), (3, .int (nI (i)))]) hx hb dX1_countMarks_18 hl (k := 2) rfl (nI_1 _) (by decide) rfl (fun ls hl => ?_)
          refine lv_iinc (v := nI (i + 1)) (lv' := [(3, .int (nI (i + 1))), (2, .int (nI ((cnt NG i) + 1))), (0, .ref (ad 0)), (1, .ref (ad 4))]) hx hb dX1_countMarks_21 hl (k := 3) rfl (nI_1 _) (by decide) rfl (fun ls hl => ?_)
          refine lv_goto (tgt := 4) hx hb dX1_countMarks_24 (by decide) ?_
          exact ih (i + 1) _ _ (by omega) (by omega)  (by first | rfl | (simp [cnt, c_9, c_15]; done) | (simp only [cnt, c_9, c_15]; rfl) | (simp_all [cnt, c_9, c_15]; done)) rfl ls (lv_sub hl [2, 3, 1, 0] rfl)
  refine lv_iconst (v := nI (0)) hx hb dX1_countMarks_0 (by decide) ?_
  refine lv_istore_n (lv' := [(2, .int (nI (0))), (0, .ref (ad 0)), (1, .ref (ad 4))]) hx hb dX1_countMarks_1 rfl hl (by decide) rfl (fun ls hl => ?_)
  refine lv_iconst (v := nI (0)) hx hb dX1_countMarks_2 (by decide) ?_
  refine lv_istore_n (lv' := [(3, .int (nI (0))), (2, .int (nI (0))), (0, .ref (ad 0)), (1, .ref (ad 4))]) hx hb dX1_countMarks_3 rfl hl (by decide) rfl (fun ls hl => ?_)
  exact lp_4 (SE + 1) (0) _ _ (by omega) (by omega)  (by first | rfl | (simp [cnt]; done) | (simp only [cnt]; rfl) | (simp_all [cnt]; done)) (by first | rfl | (simp [cnt]; done) | (simp only [cnt]; rfl) | (simp_all [cnt]; done)) ls (lv_sub hl [2, 3, 1, 0] rfl)
set_option maxHeartbeats 4000000 in
set_option maxRecDepth 100000 in
theorem c_X1_countMarks_5 (l : Launch) (D : va_G) (cI cZ : ClassId) (ad : Nat → Nat) (HL : Nat → Int32) (LB : Nat → Int32) (SO : Nat → Bool) (NG : Nat → Bool) (WO : Nat → Bool) (SA : Nat) (SE : Nat) (hE : SE ≤ 512) : Met l yX1_countMarks wsX1_countMarks (({ frames := 0, cells := 0, slots := 0, locals := 0 })) (pcP D [(cI, .int), (cZ, .boolean)] (wS cI cZ ad HL LB SO NG WO SA SE) [.ref (ad 0), .ref (ad 5)]) (vp_Si (fun v => v = nI (cnt WO SE))) 0 0 (fun _ => False) := by
  refine Met.ofW (cc := cX1_countMarks) (maxL := 4) (ret := (some .int)) (by decide) rfl ?_
  intro p e s m args below meth c s₁ BB hml hv
  obtain ⟨rfl, hP, hK⟩ := hv
  have hx := BB.exec
  have hb := BB.bytes
  have hrt := BB.returns
  have hts := atoms_spec (ws := wsX1_countMarks) BB.pre
  have hown : s.vm.findClass RX1 = some m.cls := findClass_of_methodNamed BB.named
  have hlk := BB.notSynchronized
  have f32 := hts (.fieldLink RX1 32 "AssumptionKeeper$Survey" "environments" "I") (by decide +kernel)
  have hin1 : ∀ w ∈ u_ws RX1 TX1 7, w ∈ wsX1_countMarks := by decide +kernel
  have hl := lv_entry ([.ref (ad 0), .ref (ad 5)]) (n := 4) (Nat.le_of_ble_eq_true rfl)
  rw [lg_entry_eq]
  generalize (lg_sl ([.ref (ad 0), .ref (ad 5)]) ++ List.replicate (4 - (lg_sl ([.ref (ad 0), .ref (ad 5)])).length) Slot.unset).toArray = ls at hl ⊢
  have hl : lv_has ls 4 [(0, .ref (ad 0)), (1, .ref (ad 5))] := hl
  have lp_4 : ∀ (n i : Nat) (v2 : Int32) (v3 : Int32), i ≤ SE → SE + 1 ≤ i + n → v2 = nI (cnt WO i) → v3 = nI (i) → ∀ ls : Array Slot, lv_has ls 4 [(0, .ref (ad 0)), (1, .ref (ad 5)), (2, .int (v2)), (3, .int (v3))] → W p l e (headSpec wsX1_countMarks ({ frames := 0, cells := 0, slots := 0, locals := 0 })).room s m ([.ref (ad 0), .ref (ad 5)]).toArray below meth c s.heap [] 0 0 (MQ below (vp_Si (fun v => v = nI (cnt WO SE))) ([.ref (ad 0), .ref (ad 5)]).toArray s 0 0 (fun _ => False)) (F0 m 4 ls []) := by
    intro n
    induction n with
    | zero => intro i v2 v3 h1 h2; exact absurd h2 (by omega)
    | succ n ih =>
      intro i v2 v3 hi_ hn_  e2 e3 ls hl
      subst e2 e3
      have hl : lv_has ls 4 [(0, .ref (ad 0)), (1, .ref (ad 5)), (2, .int (nI (cnt WO i))), (3, .int (nI (i)))] := hl
      refine lv_iload_n hx hb dX1_countMarks_4 rfl (lv_at hl 3 rfl) ?_
      refine lv_aload_n hx hb dX1_countMarks_5 rfl (lv_at hl 0 rfl) ?_
      refine va_get (D := D) (ci := 1) (v := .int (nI (SE))) (C := RX1) (T := TX1) (N := 7) hx hb hts hin1 hown hK.1 hP 0 rfl rfl 6 (by decide) f32 (fun _ h9 => h9) rfl dX1_countMarks_6 ?_
      refine lv_icmp_ge (tgt := 27) hx hb dX1_countMarks_9 (by decide) (fun c_9 => ?_) (fun c_9 => ?_)
      · skip
        have c_9 := (qI_le (a := SE) (b := i) (by omega) (by omega)).mp c_9
        refine lv_iload_n hx hb dX1_countMarks_27 rfl (lv_at hl 2 rfl) ?_
        exact ri_ hx hb hrt hlk dX1_countMarks_28 (by obtain rfl : i = SE := (by omega); rfl)
      · skip
        have c_9 := mt (qI_le (a := SE) (b := i) (by omega) (by omega)).mpr c_9
        refine lv_aload_n hx hb dX1_countMarks_12 rfl (lv_at hl 1 rfl) ?_
        refine lv_iload_n hx hb dX1_countMarks_13 rfl (lv_at hl 3 rfl) ?_
        refine az_ (D := D) (f := WO) (i := i) hx hb hK hP 5 1 rfl rfl (by omega) (by decide) dX1_countMarks_14 ?_
        refine lv_if_eq (tgt := 21) hx hb dX1_countMarks_15 (by decide) (fun c_15 => ?_) (fun c_15 => ?_)
        · skip
          have c_15 := bI_eq0 c_15
          refine lv_iinc (v := nI (i + 1)) (lv' := [(3, .int (nI (i + 1))), (0, .ref (ad 0)), (1, .ref (ad 5)), (2, .int (nI (cnt WO i)))]) hx hb dX1_countMarks_21 hl (k := 3) rfl (nI_1 _) (by decide) rfl (fun ls hl => ?_)
          refine lv_goto (tgt := 4) hx hb dX1_countMarks_24 (by decide) ?_
          exact ih (i + 1) _ _ (by omega) (by omega)  (by first | rfl | (simp [cnt, c_9, c_15]; done) | (simp only [cnt, c_9, c_15]; rfl) | (simp_all [cnt, c_9, c_15]; done)) rfl ls (lv_sub hl [1, 2, 3, 0] rfl)
        · skip
          have c_15 := bI_ne0 c_15
          refine lv_iinc (v := nI ((cnt WO i) + 1)) (lv' := [(2, .int (nI ((cnt WO i) + 1))), (0, .ref (ad 0)), (1, .ref (ad 5)), (3, .int (nI (i)))]) hx hb dX1_countMarks_18 hl (k := 2) rfl (nI_1 _) (by decide) rfl (fun ls hl => ?_)
          refine lv_iinc (v := nI (i + 1)) (lv' := [(3, .int (nI (i + 1))), (2, .int (nI ((cnt WO i) + 1))), (0, .ref (ad 0)), (1, .ref (ad 5))]) hx hb dX1_countMarks_21 hl (k := 3) rfl (nI_1 _) (by decide) rfl (fun ls hl => ?_)
          refine lv_goto (tgt := 4) hx hb dX1_countMarks_24 (by decide) ?_
          exact ih (i + 1) _ _ (by omega) (by omega)  (by first | rfl | (simp [cnt, c_9, c_15]; done) | (simp only [cnt, c_9, c_15]; rfl) | (simp_all [cnt, c_9, c_15]; done)) rfl ls (lv_sub hl [2, 3, 1, 0] rfl)
  refine lv_iconst (v := nI (0)) hx hb dX1_countMarks_0 (by decide) ?_
  refine lv_istore_n (lv' := [(2, .int (nI (0))), (0, .ref (ad 0)), (1, .ref (ad 5))]) hx hb dX1_countMarks_1 rfl hl (by decide) rfl (fun ls hl => ?_)
  refine lv_iconst (v := nI (0)) hx hb dX1_countMarks_2 (by decide) ?_
  refine lv_istore_n (lv' := [(3, .int (nI (0))), (2, .int (nI (0))), (0, .ref (ad 0)), (1, .ref (ad 5))]) hx hb dX1_countMarks_3 rfl hl (by decide) rfl (fun ls hl => ?_)
  exact lp_4 (SE + 1) (0) _ _ (by omega) (by omega)  (by first | rfl | (simp [cnt]; done) | (simp only [cnt]; rfl) | (simp_all [cnt]; done)) (by first | rfl | (simp [cnt]; done) | (simp only [cnt]; rfl) | (simp_all [cnt]; done)) ls (lv_sub hl [2, 3, 1, 0] rfl)
set_option maxHeartbeats 4000000 in
set_option maxRecDepth 100000 in
theorem c_X1_markAt_4 (l : Launch) (D : va_G) (cI cZ : ClassId) (ad : Nat → Nat) (HL : Nat → Int32) (LB : Nat → Int32) (SO : Nat → Bool) (NG : Nat → Bool) (WO : Nat → Bool) (SA : Nat) (SE : Nat) (q : Int32) (hE : SE ≤ 512) : Met l yX1_markAt wsX1_markAt (({ frames := 0, cells := 0, slots := 0, locals := 0 })) (pcP D [(cI, .int), (cZ, .boolean)] (wS cI cZ ad HL LB SO NG WO SA SE) [.ref (ad 0), .ref (ad 4), .int (q)]) (vp_Si (fun v => v = nth NG SE q)) 0 0 (fun _ => False) := by
  refine Met.ofW (cc := cX1_markAt) (maxL := 5) (ret := (some .int)) (by decide) rfl ?_
  intro p e s m args below meth c s₁ BB hml hv
  obtain ⟨rfl, hP, hK⟩ := hv
  have hx := BB.exec
  have hb := BB.bytes
  have hrt := BB.returns
  have hts := atoms_spec (ws := wsX1_markAt) BB.pre
  have hown : s.vm.findClass RX1 = some m.cls := findClass_of_methodNamed BB.named
  have hlk := BB.notSynchronized
  have f32 := hts (.fieldLink RX1 32 "AssumptionKeeper$Survey" "environments" "I") (by decide +kernel)
  have hin1 : ∀ w ∈ u_ws RX1 TX1 7, w ∈ wsX1_markAt := by decide +kernel
  have hl := lv_entry ([.ref (ad 0), .ref (ad 4), .int (q)]) (n := 5) (Nat.le_of_ble_eq_true rfl)
  rw [lg_entry_eq]
  generalize (lg_sl ([.ref (ad 0), .ref (ad 4), .int (q)]) ++ List.replicate (5 - (lg_sl ([.ref (ad 0), .ref (ad 4), .int (q)])).length) Slot.unset).toArray = ls at hl ⊢
  have hl : lv_has ls 5 [(0, .ref (ad 0)), (1, .ref (ad 4)), (2, .int (q))] := hl
  have lp_5 : ∀ (n i : Nat) (v3 : Int32) (v4 : Int32), i ≤ SE → SE + 1 ≤ i + n → (∀ j, j < i → (fun e => NG e && nI (cnt NG e) == q) j = false) → v3 = nI (cnt NG i) → v4 = nI (i) → ∀ ls : Array Slot, lv_has ls 5 [(0, .ref (ad 0)), (1, .ref (ad 4)), (2, .int (q)), (3, .int (v3)), (4, .int (v4))] → W p l e (headSpec wsX1_markAt ({ frames := 0, cells := 0, slots := 0, locals := 0 })).room s m ([.ref (ad 0), .ref (ad 4), .int (q)]).toArray below meth c s.heap [] 0 0 (MQ below (vp_Si (fun v => v = nth NG SE q)) ([.ref (ad 0), .ref (ad 4), .int (q)]).toArray s 0 0 (fun _ => False)) (F0 m 5 ls []) := by
    intro n
    induction n with
    | zero => intro i v3 v4 h1 h2; exact absurd h2 (by omega)
    | succ n ih =>
      intro i v3 v4 hi_ hn_ hno e3 e4 ls hl
      subst e3 e4
      have hl : lv_has ls 5 [(0, .ref (ad 0)), (1, .ref (ad 4)), (2, .int (q)), (3, .int (nI (cnt NG i))), (4, .int (nI (i)))] := hl
      refine lv_iload hx hb dX1_markAt_5 (lv_at hl 4 rfl) ?_
      refine lv_aload_n hx hb dX1_markAt_7 rfl (lv_at hl 0 rfl) ?_
      refine va_get (D := D) (ci := 1) (v := .int (nI (SE))) (C := RX1) (T := TX1) (N := 7) hx hb hts hin1 hown hK.1 hP 0 rfl rfl 6 (by decide) f32 (fun _ h9 => h9) rfl dX1_markAt_8 ?_
      refine lv_icmp_ge (tgt := 38) hx hb dX1_markAt_11 (by decide) (fun c_11 => ?_) (fun c_11 => ?_)
      · skip
        have c_11 := (qI_le (a := SE) (b := i) (by omega) (by omega)).mp c_11
        refine lv_iconst (v := -1) hx hb dX1_markAt_38 (by decide) ?_
        exact ri_ hx hb hrt hlk dX1_markAt_39 (by obtain rfl : i = SE := (by omega); exact (fndI_no hno).symm)
      · skip
        have c_11 := mt (qI_le (a := SE) (b := i) (by omega) (by omega)).mpr c_11
        refine lv_aload_n hx hb dX1_markAt_14 rfl (lv_at hl 1 rfl) ?_
        refine lv_iload hx hb dX1_markAt_15 (lv_at hl 4 rfl) ?_
        refine az_ (D := D) (f := NG) (i := i) hx hb hK hP 4 1 rfl rfl (by omega) (by decide) dX1_markAt_17 ?_
        refine lv_if_eq (tgt := 32) hx hb dX1_markAt_18 (by decide) (fun c_18 => ?_) (fun c_18 => ?_)
        · skip
          have c_18 := bI_eq0 c_18
          refine lv_iinc (v := nI (i + 1)) (lv' := [(4, .int (nI (i + 1))), (0, .ref (ad 0)), (1, .ref (ad 4)), (2, .int (q)), (3, .int (nI (cnt NG i)))]) hx hb dX1_markAt_32 hl (k := 4) rfl (nI_1 _) (by decide) rfl (fun ls hl => ?_)
          refine lv_goto (tgt := 5) hx hb dX1_markAt_35 (by decide) ?_
          exact ih (i + 1) _ _ (by omega) (by omega) (no_succ hno (by simp [c_11, c_18])) (by first | rfl | (simp [cnt, c_11, c_18]; done) | (simp only [cnt, c_11, c_18]; rfl) | (simp_all [cnt, c_11, c_18]; done)) rfl ls (lv_sub hl [1, 2, 3, 4, 0] rfl)
        · skip
          have c_18 := bI_ne0 c_18
          refine lv_iload_n hx hb dX1_markAt_21 rfl (lv_at hl 3 rfl) ?_
          refine lv_iload_n hx hb dX1_markAt_22 rfl (lv_at hl 2 rfl) ?_
          refine lv_icmp_ne (tgt := 29) hx hb dX1_markAt_23 (by decide) (fun c_23 => ?_) (fun c_23 => ?_)
          · skip
            refine lv_iinc (v := nI ((cnt NG i) + 1)) (lv' := [(3, .int (nI ((cnt NG i) + 1))), (0, .ref (ad 0)), (1, .ref (ad 4)), (2, .int (q)), (4, .int (nI (i)))]) hx hb dX1_markAt_29 hl (k := 3) rfl (nI_1 _) (by decide) rfl (fun ls hl => ?_)
            refine lv_iinc (v := nI (i + 1)) (lv' := [(4, .int (nI (i + 1))), (3, .int (nI ((cnt NG i) + 1))), (0, .ref (ad 0)), (1, .ref (ad 4)), (2, .int (q))]) hx hb dX1_markAt_32 hl (k := 4) rfl (nI_1 _) (by decide) rfl (fun ls hl => ?_)
            refine lv_goto (tgt := 5) hx hb dX1_markAt_35 (by decide) ?_
            exact ih (i + 1) _ _ (by omega) (by omega) (no_succ hno (by simp [c_11, c_18, c_23])) (by first | rfl | (simp [cnt, c_11, c_18, c_23]; done) | (simp only [cnt, c_11, c_18, c_23]; rfl) | (simp_all [cnt, c_11, c_18, c_23]; done)) rfl ls (lv_sub hl [2, 3, 4, 1, 0] rfl)
          · skip
            refine lv_iload hx hb dX1_markAt_26 (lv_at hl 4 rfl) ?_
            exact ri_ hx hb hrt hlk dX1_markAt_28 ((fndI_at (i := i) (by omega) (by simp [c_18, c_23]) hno).symm)
  refine lv_iconst (v := nI (0)) hx hb dX1_markAt_0 (by decide) ?_
  refine lv_istore_n (lv' := [(3, .int (nI (0))), (0, .ref (ad 0)), (1, .ref (ad 4)), (2, .int (q))]) hx hb dX1_markAt_1 rfl hl (by decide) rfl (fun ls hl => ?_)
  refine lv_iconst (v := nI (0)) hx hb dX1_markAt_2 (by decide) ?_
  refine lv_istore (lv' := [(4, .int (nI (0))), (3, .int (nI (0))), (0, .ref (ad 0)), (1, .ref (ad 4)), (2, .int (q))]) hx hb dX1_markAt_3 hl (by decide) rfl (fun ls hl => ?_)
  exact lp_5 (SE + 1) (0) _ _ (by omega) (by omega) (fun j hj => absurd hj (Nat.not_lt_zero j)) (by first | rfl | (simp [cnt]; done) | (simp only [cnt]; rfl) | (simp_all [cnt]; done)) (by first | rfl | (simp [cnt]; done) | (simp only [cnt]; rfl) | (simp_all [cnt]; done)) ls (lv_sub hl [2, 3, 4, 1, 0] rfl)
set_option maxHeartbeats 4000000 in
set_option maxRecDepth 100000 in
theorem c_X1_markAt_5 (l : Launch) (D : va_G) (cI cZ : ClassId) (ad : Nat → Nat) (HL : Nat → Int32) (LB : Nat → Int32) (SO : Nat → Bool) (NG : Nat → Bool) (WO : Nat → Bool) (SA : Nat) (SE : Nat) (q : Int32) (hE : SE ≤ 512) : Met l yX1_markAt wsX1_markAt (({ frames := 0, cells := 0, slots := 0, locals := 0 })) (pcP D [(cI, .int), (cZ, .boolean)] (wS cI cZ ad HL LB SO NG WO SA SE) [.ref (ad 0), .ref (ad 5), .int (q)]) (vp_Si (fun v => v = nth WO SE q)) 0 0 (fun _ => False) := by
  refine Met.ofW (cc := cX1_markAt) (maxL := 5) (ret := (some .int)) (by decide) rfl ?_
  intro p e s m args below meth c s₁ BB hml hv
  obtain ⟨rfl, hP, hK⟩ := hv
  have hx := BB.exec
  have hb := BB.bytes
  have hrt := BB.returns
  have hts := atoms_spec (ws := wsX1_markAt) BB.pre
  have hown : s.vm.findClass RX1 = some m.cls := findClass_of_methodNamed BB.named
  have hlk := BB.notSynchronized
  have f32 := hts (.fieldLink RX1 32 "AssumptionKeeper$Survey" "environments" "I") (by decide +kernel)
  have hin1 : ∀ w ∈ u_ws RX1 TX1 7, w ∈ wsX1_markAt := by decide +kernel
  have hl := lv_entry ([.ref (ad 0), .ref (ad 5), .int (q)]) (n := 5) (Nat.le_of_ble_eq_true rfl)
  rw [lg_entry_eq]
  generalize (lg_sl ([.ref (ad 0), .ref (ad 5), .int (q)]) ++ List.replicate (5 - (lg_sl ([.ref (ad 0), .ref (ad 5), .int (q)])).length) Slot.unset).toArray = ls at hl ⊢
  have hl : lv_has ls 5 [(0, .ref (ad 0)), (1, .ref (ad 5)), (2, .int (q))] := hl
  have lp_5 : ∀ (n i : Nat) (v3 : Int32) (v4 : Int32), i ≤ SE → SE + 1 ≤ i + n → (∀ j, j < i → (fun e => WO e && nI (cnt WO e) == q) j = false) → v3 = nI (cnt WO i) → v4 = nI (i) → ∀ ls : Array Slot, lv_has ls 5 [(0, .ref (ad 0)), (1, .ref (ad 5)), (2, .int (q)), (3, .int (v3)), (4, .int (v4))] → W p l e (headSpec wsX1_markAt ({ frames := 0, cells := 0, slots := 0, locals := 0 })).room s m ([.ref (ad 0), .ref (ad 5), .int (q)]).toArray below meth c s.heap [] 0 0 (MQ below (vp_Si (fun v => v = nth WO SE q)) ([.ref (ad 0), .ref (ad 5), .int (q)]).toArray s 0 0 (fun _ => False)) (F0 m 5 ls []) := by
    intro n
    induction n with
    | zero => intro i v3 v4 h1 h2; exact absurd h2 (by omega)
    | succ n ih =>
      intro i v3 v4 hi_ hn_ hno e3 e4 ls hl
      subst e3 e4
      have hl : lv_has ls 5 [(0, .ref (ad 0)), (1, .ref (ad 5)), (2, .int (q)), (3, .int (nI (cnt WO i))), (4, .int (nI (i)))] := hl
      refine lv_iload hx hb dX1_markAt_5 (lv_at hl 4 rfl) ?_
      refine lv_aload_n hx hb dX1_markAt_7 rfl (lv_at hl 0 rfl) ?_
      refine va_get (D := D) (ci := 1) (v := .int (nI (SE))) (C := RX1) (T := TX1) (N := 7) hx hb hts hin1 hown hK.1 hP 0 rfl rfl 6 (by decide) f32 (fun _ h9 => h9) rfl dX1_markAt_8 ?_
      refine lv_icmp_ge (tgt := 38) hx hb dX1_markAt_11 (by decide) (fun c_11 => ?_) (fun c_11 => ?_)
      · skip
        have c_11 := (qI_le (a := SE) (b := i) (by omega) (by omega)).mp c_11
        refine lv_iconst (v := -1) hx hb dX1_markAt_38 (by decide) ?_
        exact ri_ hx hb hrt hlk dX1_markAt_39 (by obtain rfl : i = SE := (by omega); exact (fndI_no hno).symm)
      · skip
        have c_11 := mt (qI_le (a := SE) (b := i) (by omega) (by omega)).mpr c_11
        refine lv_aload_n hx hb dX1_markAt_14 rfl (lv_at hl 1 rfl) ?_
        refine lv_iload hx hb dX1_markAt_15 (lv_at hl 4 rfl) ?_
        refine az_ (D := D) (f := WO) (i := i) hx hb hK hP 5 1 rfl rfl (by omega) (by decide) dX1_markAt_17 ?_
        refine lv_if_eq (tgt := 32) hx hb dX1_markAt_18 (by decide) (fun c_18 => ?_) (fun c_18 => ?_)
        · skip
          have c_18 := bI_eq0 c_18
          refine lv_iinc (v := nI (i + 1)) (lv' := [(4, .int (nI (i + 1))), (0, .ref (ad 0)), (1, .ref (ad 5)), (2, .int (q)), (3, .int (nI (cnt WO i)))]) hx hb dX1_markAt_32 hl (k := 4) rfl (nI_1 _) (by decide) rfl (fun ls hl => ?_)
          refine lv_goto (tgt := 5) hx hb dX1_markAt_35 (by decide) ?_
          exact ih (i + 1) _ _ (by omega) (by omega) (no_succ hno (by simp [c_11, c_18])) (by first | rfl | (simp [cnt, c_11, c_18]; done) | (simp only [cnt, c_11, c_18]; rfl) | (simp_all [cnt, c_11, c_18]; done)) rfl ls (lv_sub hl [1, 2, 3, 4, 0] rfl)
        · skip
          have c_18 := bI_ne0 c_18
          refine lv_iload_n hx hb dX1_markAt_21 rfl (lv_at hl 3 rfl) ?_
          refine lv_iload_n hx hb dX1_markAt_22 rfl (lv_at hl 2 rfl) ?_
          refine lv_icmp_ne (tgt := 29) hx hb dX1_markAt_23 (by decide) (fun c_23 => ?_) (fun c_23 => ?_)
          · skip
            refine lv_iinc (v := nI ((cnt WO i) + 1)) (lv' := [(3, .int (nI ((cnt WO i) + 1))), (0, .ref (ad 0)), (1, .ref (ad 5)), (2, .int (q)), (4, .int (nI (i)))]) hx hb dX1_markAt_29 hl (k := 3) rfl (nI_1 _) (by decide) rfl (fun ls hl => ?_)
            refine lv_iinc (v := nI (i + 1)) (lv' := [(4, .int (nI (i + 1))), (3, .int (nI ((cnt WO i) + 1))), (0, .ref (ad 0)), (1, .ref (ad 5)), (2, .int (q))]) hx hb dX1_markAt_32 hl (k := 4) rfl (nI_1 _) (by decide) rfl (fun ls hl => ?_)
            refine lv_goto (tgt := 5) hx hb dX1_markAt_35 (by decide) ?_
            exact ih (i + 1) _ _ (by omega) (by omega) (no_succ hno (by simp [c_11, c_18, c_23])) (by first | rfl | (simp [cnt, c_11, c_18, c_23]; done) | (simp only [cnt, c_11, c_18, c_23]; rfl) | (simp_all [cnt, c_11, c_18, c_23]; done)) rfl ls (lv_sub hl [2, 3, 4, 1, 0] rfl)
          · skip
            refine lv_iload hx hb dX1_markAt_26 (lv_at hl 4 rfl) ?_
            exact ri_ hx hb hrt hlk dX1_markAt_28 ((fndI_at (i := i) (by omega) (by simp [c_18, c_23]) hno).symm)
  refine lv_iconst (v := nI (0)) hx hb dX1_markAt_0 (by decide) ?_
  refine lv_istore_n (lv' := [(3, .int (nI (0))), (0, .ref (ad 0)), (1, .ref (ad 5)), (2, .int (q))]) hx hb dX1_markAt_1 rfl hl (by decide) rfl (fun ls hl => ?_)
  refine lv_iconst (v := nI (0)) hx hb dX1_markAt_2 (by decide) ?_
  refine lv_istore (lv' := [(4, .int (nI (0))), (3, .int (nI (0))), (0, .ref (ad 0)), (1, .ref (ad 5)), (2, .int (q))]) hx hb dX1_markAt_3 hl (by decide) rfl (fun ls hl => ?_)
  exact lp_5 (SE + 1) (0) _ _ (by omega) (by omega) (fun j hj => absurd hj (Nat.not_lt_zero j)) (by first | rfl | (simp [cnt]; done) | (simp only [cnt]; rfl) | (simp_all [cnt]; done)) (by first | rfl | (simp [cnt]; done) | (simp only [cnt]; rfl) | (simp_all [cnt]; done)) ls (lv_sub hl [2, 3, 4, 1, 0] rfl)
set_option maxHeartbeats 4000000 in
set_option maxRecDepth 100000 in
theorem c_X1_countNogoods (l : Launch) (D : va_G) (cI cZ : ClassId) (ad : Nat → Nat) (HL : Nat → Int32) (LB : Nat → Int32) (SO : Nat → Bool) (NG : Nat → Bool) (WO : Nat → Bool) (SA : Nat) (SE : Nat) (hE : SE ≤ 512) : Met l yX1_countNogoods wsX1_countNogoods (({ frames := 1, cells := 0, slots := 0, locals := 23 })) (pcP D [(cI, .int), (cZ, .boolean)] (wS cI cZ ad HL LB SO NG WO SA SE) [.ref (ad 0)]) (vp_Si (fun v => v = nI (cnt NG SE))) 0 0 (fun _ => False) := by
  refine Met.ofW (cc := cX1_countNogoods) (maxL := 1) (ret := (some .int)) (by decide) rfl ?_
  intro p e s m args below meth c s₁ BB hml hv
  obtain ⟨rfl, hP, hK⟩ := hv
  have hx := BB.exec
  have hb := BB.bytes
  have hrt := BB.returns
  have hts := atoms_spec (ws := wsX1_countNogoods) BB.pre
  have hown : s.vm.findClass RX1 = some m.cls := findClass_of_methodNamed BB.named
  have hlk := BB.notSynchronized
  have f22 := hts (.fieldLink RX1 22 "AssumptionKeeper$Survey" "areNogoods" "[Z") (by decide +kernel)
  have hin1 : ∀ w ∈ u_ws RX1 TX1 7, w ∈ wsX1_countNogoods := by decide +kernel
  have hl := lv_entry ([.ref (ad 0)]) (n := 1) (Nat.le_of_ble_eq_true rfl)
  rw [lg_entry_eq]
  generalize (lg_sl ([.ref (ad 0)]) ++ List.replicate (1 - (lg_sl ([.ref (ad 0)])).length) Slot.unset).toArray = ls at hl ⊢
  have hl : lv_has ls 1 [(0, .ref (ad 0))] := hl
  refine lv_aload_n hx hb dX1_countNogoods_0 rfl (lv_at hl 0 rfl) ?_
  refine lv_aload_n hx hb dX1_countNogoods_1 rfl (lv_at hl 0 rfl) ?_
  refine va_get (D := D) (ci := 1) (v := .ref (ad 4)) (C := RX1) (T := TX1) (N := 7) hx hb hts hin1 hown hK.1 hP 0 rfl rfl 3 (by decide) f22 (fun _ h9 => h9) rfl dX1_countNogoods_2 ?_
  refine pu_i (va_runV (As := [.ref (ad 4)]) (rest := []) ⟨hx, hb, hml, hown, hts⟩ (c_X1_countMarks_4 l D cI cZ ad (HL) (LB) (SO) (NG) (WO) (SA) (SE) (by omega)) (cwV 1 hts gX1_countNogoods_X1_countMarks rfl rfl rfl (by decide +kernel) ⟨Nat.le_of_ble_eq_true rfl, Nat.le_of_ble_eq_true rfl⟩) (pre_V (q0 := 0) (ci := 1) (hP.sub (ws' := (wS cI cZ ad HL LB SO NG WO SA SE)) [0, 1, 2, 3, 4, 5] rfl) hK rfl rfl) rfl rfl hl.1 rfl (lv_room (Nat.le_of_ble_eq_true rfl)) dX1_countNogoods_5 ⟨Nat.zero_le _, Nat.zero_le _⟩) ?_
  exact ri_ hx hb hrt hlk dX1_countNogoods_8 (by first | rfl | (simp []; done) | (simp only []; rfl) | (simp_all []; done))
set_option maxHeartbeats 4000000 in
set_option maxRecDepth 100000 in
theorem c_X1_countWorlds (l : Launch) (D : va_G) (cI cZ : ClassId) (ad : Nat → Nat) (HL : Nat → Int32) (LB : Nat → Int32) (SO : Nat → Bool) (NG : Nat → Bool) (WO : Nat → Bool) (SA : Nat) (SE : Nat) (hE : SE ≤ 512) : Met l yX1_countWorlds wsX1_countWorlds (({ frames := 1, cells := 0, slots := 0, locals := 23 })) (pcP D [(cI, .int), (cZ, .boolean)] (wS cI cZ ad HL LB SO NG WO SA SE) [.ref (ad 0)]) (vp_Si (fun v => v = nI (cnt WO SE))) 0 0 (fun _ => False) := by
  refine Met.ofW (cc := cX1_countWorlds) (maxL := 1) (ret := (some .int)) (by decide) rfl ?_
  intro p e s m args below meth c s₁ BB hml hv
  obtain ⟨rfl, hP, hK⟩ := hv
  have hx := BB.exec
  have hb := BB.bytes
  have hrt := BB.returns
  have hts := atoms_spec (ws := wsX1_countWorlds) BB.pre
  have hown : s.vm.findClass RX1 = some m.cls := findClass_of_methodNamed BB.named
  have hlk := BB.notSynchronized
  have f25 := hts (.fieldLink RX1 25 "AssumptionKeeper$Survey" "areWorlds" "[Z") (by decide +kernel)
  have hin1 : ∀ w ∈ u_ws RX1 TX1 7, w ∈ wsX1_countWorlds := by decide +kernel
  have hl := lv_entry ([.ref (ad 0)]) (n := 1) (Nat.le_of_ble_eq_true rfl)
  rw [lg_entry_eq]
  generalize (lg_sl ([.ref (ad 0)]) ++ List.replicate (1 - (lg_sl ([.ref (ad 0)])).length) Slot.unset).toArray = ls at hl ⊢
  have hl : lv_has ls 1 [(0, .ref (ad 0))] := hl
  refine lv_aload_n hx hb dX1_countWorlds_0 rfl (lv_at hl 0 rfl) ?_
  refine lv_aload_n hx hb dX1_countWorlds_1 rfl (lv_at hl 0 rfl) ?_
  refine va_get (D := D) (ci := 1) (v := .ref (ad 5)) (C := RX1) (T := TX1) (N := 7) hx hb hts hin1 hown hK.1 hP 0 rfl rfl 4 (by decide) f25 (fun _ h9 => h9) rfl dX1_countWorlds_2 ?_
  refine pu_i (va_runV (As := [.ref (ad 5)]) (rest := []) ⟨hx, hb, hml, hown, hts⟩ (c_X1_countMarks_5 l D cI cZ ad (HL) (LB) (SO) (NG) (WO) (SA) (SE) (by omega)) (cwV 1 hts gX1_countWorlds_X1_countMarks rfl rfl rfl (by decide +kernel) ⟨Nat.le_of_ble_eq_true rfl, Nat.le_of_ble_eq_true rfl⟩) (pre_V (q0 := 0) (ci := 1) (hP.sub (ws' := (wS cI cZ ad HL LB SO NG WO SA SE)) [0, 1, 2, 3, 4, 5] rfl) hK rfl rfl) rfl rfl hl.1 rfl (lv_room (Nat.le_of_ble_eq_true rfl)) dX1_countWorlds_5 ⟨Nat.zero_le _, Nat.zero_le _⟩) ?_
  exact ri_ hx hb hrt hlk dX1_countWorlds_8 (by first | rfl | (simp []; done) | (simp only []; rfl) | (simp_all []; done))
set_option maxHeartbeats 4000000 in
set_option maxRecDepth 100000 in
theorem c_X1_nogoodAt (l : Launch) (D : va_G) (cI cZ : ClassId) (ad : Nat → Nat) (HL : Nat → Int32) (LB : Nat → Int32) (SO : Nat → Bool) (NG : Nat → Bool) (WO : Nat → Bool) (SA : Nat) (SE : Nat) (q : Int32) (hE : SE ≤ 512) : Met l yX1_nogoodAt wsX1_nogoodAt (({ frames := 1, cells := 0, slots := 0, locals := 24 })) (pcP D [(cI, .int), (cZ, .boolean)] (wS cI cZ ad HL LB SO NG WO SA SE) [.ref (ad 0), .int (q)]) (vp_Si (fun v => v = nth NG SE q)) 0 0 (fun _ => False) := by
  refine Met.ofW (cc := cX1_nogoodAt) (maxL := 2) (ret := (some .int)) (by decide) rfl ?_
  intro p e s m args below meth c s₁ BB hml hv
  obtain ⟨rfl, hP, hK⟩ := hv
  have hx := BB.exec
  have hb := BB.bytes
  have hrt := BB.returns
  have hts := atoms_spec (ws := wsX1_nogoodAt) BB.pre
  have hown : s.vm.findClass RX1 = some m.cls := findClass_of_methodNamed BB.named
  have hlk := BB.notSynchronized
  have f22 := hts (.fieldLink RX1 22 "AssumptionKeeper$Survey" "areNogoods" "[Z") (by decide +kernel)
  have hin1 : ∀ w ∈ u_ws RX1 TX1 7, w ∈ wsX1_nogoodAt := by decide +kernel
  have hl := lv_entry ([.ref (ad 0), .int (q)]) (n := 2) (Nat.le_of_ble_eq_true rfl)
  rw [lg_entry_eq]
  generalize (lg_sl ([.ref (ad 0), .int (q)]) ++ List.replicate (2 - (lg_sl ([.ref (ad 0), .int (q)])).length) Slot.unset).toArray = ls at hl ⊢
  have hl : lv_has ls 2 [(0, .ref (ad 0)), (1, .int (q))] := hl
  refine lv_aload_n hx hb dX1_nogoodAt_0 rfl (lv_at hl 0 rfl) ?_
  refine lv_aload_n hx hb dX1_nogoodAt_1 rfl (lv_at hl 0 rfl) ?_
  refine va_get (D := D) (ci := 1) (v := .ref (ad 4)) (C := RX1) (T := TX1) (N := 7) hx hb hts hin1 hown hK.1 hP 0 rfl rfl 3 (by decide) f22 (fun _ h9 => h9) rfl dX1_nogoodAt_2 ?_
  refine lv_iload_n hx hb dX1_nogoodAt_5 rfl (lv_at hl 1 rfl) ?_
  refine pu_i (va_runV (As := [.ref (ad 4), .int (q)]) (rest := []) ⟨hx, hb, hml, hown, hts⟩ (c_X1_markAt_4 l D cI cZ ad (HL) (LB) (SO) (NG) (WO) (SA) (SE) (q) (by omega)) (cwV 2 hts gX1_nogoodAt_X1_markAt rfl rfl rfl (by decide +kernel) ⟨Nat.le_of_ble_eq_true rfl, Nat.le_of_ble_eq_true rfl⟩) (pre_V (q0 := 0) (ci := 1) (hP.sub (ws' := (wS cI cZ ad HL LB SO NG WO SA SE)) [0, 1, 2, 3, 4, 5] rfl) hK rfl rfl) rfl rfl hl.1 rfl (lv_room (Nat.le_of_ble_eq_true rfl)) dX1_nogoodAt_6 ⟨Nat.zero_le _, Nat.zero_le _⟩) ?_
  exact ri_ hx hb hrt hlk dX1_nogoodAt_9 (by first | rfl | (simp []; done) | (simp only []; rfl) | (simp_all []; done))
set_option maxHeartbeats 4000000 in
set_option maxRecDepth 100000 in
theorem c_X1_worldAt (l : Launch) (D : va_G) (cI cZ : ClassId) (ad : Nat → Nat) (HL : Nat → Int32) (LB : Nat → Int32) (SO : Nat → Bool) (NG : Nat → Bool) (WO : Nat → Bool) (SA : Nat) (SE : Nat) (q : Int32) (hE : SE ≤ 512) : Met l yX1_worldAt wsX1_worldAt (({ frames := 1, cells := 0, slots := 0, locals := 24 })) (pcP D [(cI, .int), (cZ, .boolean)] (wS cI cZ ad HL LB SO NG WO SA SE) [.ref (ad 0), .int (q)]) (vp_Si (fun v => v = nth WO SE q)) 0 0 (fun _ => False) := by
  refine Met.ofW (cc := cX1_worldAt) (maxL := 2) (ret := (some .int)) (by decide) rfl ?_
  intro p e s m args below meth c s₁ BB hml hv
  obtain ⟨rfl, hP, hK⟩ := hv
  have hx := BB.exec
  have hb := BB.bytes
  have hrt := BB.returns
  have hts := atoms_spec (ws := wsX1_worldAt) BB.pre
  have hown : s.vm.findClass RX1 = some m.cls := findClass_of_methodNamed BB.named
  have hlk := BB.notSynchronized
  have f25 := hts (.fieldLink RX1 25 "AssumptionKeeper$Survey" "areWorlds" "[Z") (by decide +kernel)
  have hin1 : ∀ w ∈ u_ws RX1 TX1 7, w ∈ wsX1_worldAt := by decide +kernel
  have hl := lv_entry ([.ref (ad 0), .int (q)]) (n := 2) (Nat.le_of_ble_eq_true rfl)
  rw [lg_entry_eq]
  generalize (lg_sl ([.ref (ad 0), .int (q)]) ++ List.replicate (2 - (lg_sl ([.ref (ad 0), .int (q)])).length) Slot.unset).toArray = ls at hl ⊢
  have hl : lv_has ls 2 [(0, .ref (ad 0)), (1, .int (q))] := hl
  refine lv_aload_n hx hb dX1_worldAt_0 rfl (lv_at hl 0 rfl) ?_
  refine lv_aload_n hx hb dX1_worldAt_1 rfl (lv_at hl 0 rfl) ?_
  refine va_get (D := D) (ci := 1) (v := .ref (ad 5)) (C := RX1) (T := TX1) (N := 7) hx hb hts hin1 hown hK.1 hP 0 rfl rfl 4 (by decide) f25 (fun _ h9 => h9) rfl dX1_worldAt_2 ?_
  refine lv_iload_n hx hb dX1_worldAt_5 rfl (lv_at hl 1 rfl) ?_
  refine pu_i (va_runV (As := [.ref (ad 5), .int (q)]) (rest := []) ⟨hx, hb, hml, hown, hts⟩ (c_X1_markAt_5 l D cI cZ ad (HL) (LB) (SO) (NG) (WO) (SA) (SE) (q) (by omega)) (cwV 2 hts gX1_worldAt_X1_markAt rfl rfl rfl (by decide +kernel) ⟨Nat.le_of_ble_eq_true rfl, Nat.le_of_ble_eq_true rfl⟩) (pre_V (q0 := 0) (ci := 1) (hP.sub (ws' := (wS cI cZ ad HL LB SO NG WO SA SE)) [0, 1, 2, 3, 4, 5] rfl) hK rfl rfl) rfl rfl hl.1 rfl (lv_room (Nat.le_of_ble_eq_true rfl)) dX1_worldAt_6 ⟨Nat.zero_le _, Nat.zero_le _⟩) ?_
  exact ri_ hx hb hrt hlk dX1_worldAt_9 (by first | rfl | (simp []; done) | (simp only []; rfl) | (simp_all []; done))
set_option maxHeartbeats 4000000 in
set_option maxRecDepth 100000 in
theorem c_X1_mixLabel (l : Launch) (D : va_G) (cI cZ : ClassId) (ad : Nat → Nat) (HL : Nat → Int32) (LB : Nat → Int32) (SO : Nat → Bool) (NG : Nat → Bool) (WO : Nat → Bool) (SA : Nat) (SE : Nat) (x : Int64) (k : Int32) (hE : SE ≤ 512) : Met l yX1_mixLabel wsX1_mixLabel (({ frames := 3, cells := 0, slots := 0, locals := 66 })) (pcP D [(cI, .int), (cZ, .boolean)] (wS cI cZ ad HL LB SO NG WO SA SE) [.ref (ad 0), .long (x), .int (k)]) (vp_Sl (fun v => v = mxS (fun e => hs (LB e) k) x SE)) 0 0 (fun _ => False) := by
  refine Met.ofW (cc := cX1_mixLabel) (maxL := 7) (ret := (some .long)) (by decide) rfl ?_
  intro p e s m args below meth c s₁ BB hml hv
  obtain ⟨rfl, hP, hK⟩ := hv
  have hx := BB.exec
  have hb := BB.bytes
  have hrt := BB.returns
  have hts := atoms_spec (ws := wsX1_mixLabel) BB.pre
  have hown : s.vm.findClass RX1 = some m.cls := findClass_of_methodNamed BB.named
  have hlk := BB.notSynchronized
  have f32 := hts (.fieldLink RX1 32 "AssumptionKeeper$Survey" "environments" "I") (by decide +kernel)
  have hin1 : ∀ w ∈ u_ws RX1 TX1 7, w ∈ wsX1_mixLabel := by decide +kernel
  have hl := lv_entry ([.ref (ad 0), .long (x), .int (k)]) (n := 7) (Nat.le_of_ble_eq_true rfl)
  rw [lg_entry_eq]
  generalize (lg_sl ([.ref (ad 0), .long (x), .int (k)]) ++ List.replicate (7 - (lg_sl ([.ref (ad 0), .long (x), .int (k)])).length) Slot.unset).toArray = ls at hl ⊢
  have hl : lv_has ls 7 [(0, .ref (ad 0)), (1, .long (x)), (3, .int (k))] := hl
  have lp_15 : ∀ (n i : Nat) (v4 : Int64) (v6 : Int32), i ≤ SE → SE + 1 ≤ i + n → v4 = mxE (fun e => hs (LB e) k) (mx x (nI (cnt (fun e => hs (LB e) k) SE)).toInt64) i → v6 = nI (i) → ∀ ls : Array Slot, lv_has ls 7 [(0, .ref (ad 0)), (1, .long (x)), (3, .int (k)), (4, .long (v4)), (6, .int (v6))] → W p l e (headSpec wsX1_mixLabel ({ frames := 3, cells := 0, slots := 0, locals := 66 })).room s m ([.ref (ad 0), .long (x), .int (k)]).toArray below meth c s.heap [] 0 0 (MQ below (vp_Sl (fun v => v = mxS (fun e => hs (LB e) k) x SE)) ([.ref (ad 0), .long (x), .int (k)]).toArray s 0 0 (fun _ => False)) (F0 m 15 ls []) := by
    intro n
    induction n with
    | zero => intro i v4 v6 h1 h2; exact absurd h2 (by omega)
    | succ n ih =>
      intro i v4 v6 hi_ hn_  e4 e6 ls hl
      subst e4 e6
      have hl : lv_has ls 7 [(0, .ref (ad 0)), (1, .long (x)), (3, .int (k)), (4, .long (mxE (fun e => hs (LB e) k) (mx x (nI (cnt (fun e => hs (LB e) k) SE)).toInt64) i)), (6, .int (nI (i)))] := hl
      refine lv_iload hx hb dX1_mixLabel_15 (lv_at hl 4 rfl) ?_
      refine lv_aload_n hx hb dX1_mixLabel_17 rfl (lv_at hl 0 rfl) ?_
      refine va_get (D := D) (ci := 1) (v := .int (nI (SE))) (C := RX1) (T := TX1) (N := 7) hx hb hts hin1 hown hK.1 hP 0 rfl rfl 6 (by decide) f32 (fun _ h9 => h9) rfl dX1_mixLabel_18 ?_
      refine lv_icmp_ge (tgt := 50) hx hb dX1_mixLabel_21 (by decide) (fun c_21 => ?_) (fun c_21 => ?_)
      · skip
        have c_21 := (qI_le (a := SE) (b := i) (by omega) (by omega)).mp c_21
        refine lv_lload hx hb dX1_mixLabel_50 (lv_at hl 3 rfl) ?_
        exact rl_ hx hb hrt hlk dX1_mixLabel_52 (by obtain rfl : i = SE := (by omega); rfl)
      · skip
        have c_21 := mt (qI_le (a := SE) (b := i) (by omega) (by omega)).mpr c_21
        refine lv_aload_n hx hb dX1_mixLabel_24 rfl (lv_at hl 0 rfl) ?_
        refine lv_iload_n hx hb dX1_mixLabel_25 rfl (lv_at hl 2 rfl) ?_
        refine lv_iload hx hb dX1_mixLabel_26 (lv_at hl 4 rfl) ?_
        refine pu_i (va_runV (As := [.int (k), .int (nI (i))]) (rest := []) ⟨hx, hb, hml, hown, hts⟩ (c_X1_isInLabel l D cI cZ ad (HL) (LB) (SO) (NG) (WO) (SA) (SE) (k) (i) (by omega)) (cwV 2 hts gX1_mixLabel_X1_isInLabel rfl rfl rfl (by decide +kernel) ⟨Nat.le_of_ble_eq_true rfl, Nat.le_of_ble_eq_true rfl⟩) (pre_V (q0 := 0) (ci := 1) (hP.sub (ws' := (wS cI cZ ad HL LB SO NG WO SA SE)) [0, 1, 2, 3, 4, 5] rfl) hK rfl rfl) rfl rfl hl.1 rfl (lv_room (Nat.le_of_ble_eq_true rfl)) dX1_mixLabel_28 ⟨Nat.zero_le _, Nat.zero_le _⟩) ?_
        refine lv_if_eq (tgt := 44) hx hb dX1_mixLabel_31 (by decide) (fun c_31 => ?_) (fun c_31 => ?_)
        · skip
          have c_31 := bI_eq0 c_31
          refine lv_iinc (v := nI (i + 1)) (lv' := [(6, .int (nI (i + 1))), (0, .ref (ad 0)), (1, .long (x)), (3, .int (k)), (4, .long (mxE (fun e => hs (LB e) k) (mx x (nI (cnt (fun e => hs (LB e) k) SE)).toInt64) i))]) hx hb dX1_mixLabel_44 hl (k := 4) rfl (nI_1 _) (by decide) rfl (fun ls hl => ?_)
          refine lv_goto (tgt := 15) hx hb dX1_mixLabel_47 (by decide) ?_
          exact ih (i + 1) _ _ (by omega) (by omega)  (by first | rfl | (simp [mxE, c_21, c_31]; done) | (simp only [mxE, c_21, c_31]; rfl) | (simp_all [mxE, c_21, c_31]; done)) rfl ls (lv_sub hl [1, 2, 3, 4, 0] rfl)
        · skip
          have c_31 := bI_ne0 c_31
          refine lv_lload hx hb dX1_mixLabel_34 (lv_at hl 3 rfl) ?_
          refine lv_iload hx hb dX1_mixLabel_36 (lv_at hl 4 rfl) ?_
          refine lv_i2l hx hb dX1_mixLabel_38 rfl ?_
          refine pu_l (va_runSN (As := [.long (mxE (fun e => hs (LB e) k) (mx x (nI (cnt (fun e => hs (LB e) k) SE)).toInt64) i), .long ((nI (i)).toInt64)]) (rest := []) ⟨hx, hb, hml, hown, hts⟩ (c_X2_mix l D cI cZ ad (mxE (fun e => hs (LB e) k) (mx x (nI (cnt (fun e => hs (LB e) k) SE)).toInt64) i) ((nI (i)).toInt64) ) ⟨va_cnB 2 hts gX1_mixLabel_X2_mix_n76 rfl rfl rfl hK.2.2.2 (hts (.initialized RX2) (by decide +kernel)) (by decide +kernel) ⟨Nat.le_of_ble_eq_true rfl, Nat.le_of_ble_eq_true rfl⟩, hts (.static yX2_mix) (by decide +kernel), trivial⟩ (pre_S (hP.sub (ws' := ([] : va_W)) [] rfl) hK) rfl rfl hl.1 rfl (lv_room (Nat.le_of_ble_eq_true rfl)) dX1_mixLabel_39 ⟨Nat.zero_le _, Nat.zero_le _⟩) ?_
          refine lv_lstore (lv' := [(4, .long (mx (mxE (fun e => hs (LB e) k) (mx x (nI (cnt (fun e => hs (LB e) k) SE)).toInt64) i) ((nI (i)).toInt64))), (0, .ref (ad 0)), (1, .long (x)), (3, .int (k)), (6, .int (nI (i)))]) hx hb dX1_mixLabel_42 hl (by decide) rfl (fun ls hl => ?_)
          refine lv_iinc (v := nI (i + 1)) (lv' := [(6, .int (nI (i + 1))), (4, .long (mx (mxE (fun e => hs (LB e) k) (mx x (nI (cnt (fun e => hs (LB e) k) SE)).toInt64) i) ((nI (i)).toInt64))), (0, .ref (ad 0)), (1, .long (x)), (3, .int (k))]) hx hb dX1_mixLabel_44 hl (k := 4) rfl (nI_1 _) (by decide) rfl (fun ls hl => ?_)
          refine lv_goto (tgt := 15) hx hb dX1_mixLabel_47 (by decide) ?_
          exact ih (i + 1) _ _ (by omega) (by omega)  (by first | rfl | (simp [mxE, c_21, c_31]; done) | (simp only [mxE, c_21, c_31]; rfl) | (simp_all [mxE, c_21, c_31]; done)) rfl ls (lv_sub hl [2, 3, 4, 1, 0] rfl)
  refine lv_lload_n hx hb dX1_mixLabel_0 rfl (lv_at hl 1 rfl) ?_
  refine lv_aload_n hx hb dX1_mixLabel_1 rfl (lv_at hl 0 rfl) ?_
  refine lv_iload_n hx hb dX1_mixLabel_2 rfl (lv_at hl 2 rfl) ?_
  refine pu_i (va_runV (As := [.int (k)]) (rest := [.long (x)]) ⟨hx, hb, hml, hown, hts⟩ (c_X1_sizeOfLabel l D cI cZ ad (HL) (LB) (SO) (NG) (WO) (SA) (SE) (k) (by omega)) (cwV 1 hts gX1_mixLabel_X1_sizeOfLabel rfl rfl rfl (by decide +kernel) ⟨Nat.le_of_ble_eq_true rfl, Nat.le_of_ble_eq_true rfl⟩) (pre_V (q0 := 0) (ci := 1) (hP.sub (ws' := (wS cI cZ ad HL LB SO NG WO SA SE)) [0, 1, 2, 3, 4, 5] rfl) hK rfl rfl) rfl rfl hl.1 rfl (lv_room (Nat.le_of_ble_eq_true rfl)) dX1_mixLabel_3 ⟨Nat.zero_le _, Nat.zero_le _⟩) ?_
  refine lv_i2l hx hb dX1_mixLabel_6 rfl ?_
  refine pu_l (va_runSN (As := [.long (x), .long ((nI (cnt (fun e => hs (LB e) k) SE)).toInt64)]) (rest := []) ⟨hx, hb, hml, hown, hts⟩ (c_X2_mix l D cI cZ ad (x) ((nI (cnt (fun e => hs (LB e) k) SE)).toInt64) ) ⟨va_cnB 2 hts gX1_mixLabel_X2_mix_n76 rfl rfl rfl hK.2.2.2 (hts (.initialized RX2) (by decide +kernel)) (by decide +kernel) ⟨Nat.le_of_ble_eq_true rfl, Nat.le_of_ble_eq_true rfl⟩, hts (.static yX2_mix) (by decide +kernel), trivial⟩ (pre_S (hP.sub (ws' := ([] : va_W)) [] rfl) hK) rfl rfl hl.1 rfl (lv_room (Nat.le_of_ble_eq_true rfl)) dX1_mixLabel_7 ⟨Nat.zero_le _, Nat.zero_le _⟩) ?_
  refine lv_lstore (lv' := [(4, .long (mx x ((nI (cnt (fun e => hs (LB e) k) SE)).toInt64))), (0, .ref (ad 0)), (1, .long (x)), (3, .int (k))]) hx hb dX1_mixLabel_10 hl (by decide) rfl (fun ls hl => ?_)
  refine lv_iconst (v := nI (0)) hx hb dX1_mixLabel_12 (by decide) ?_
  refine lv_istore (lv' := [(6, .int (nI (0))), (4, .long (mx x ((nI (cnt (fun e => hs (LB e) k) SE)).toInt64))), (0, .ref (ad 0)), (1, .long (x)), (3, .int (k))]) hx hb dX1_mixLabel_13 hl (by decide) rfl (fun ls hl => ?_)
  exact lp_15 (SE + 1) (0) _ _ (by omega) (by omega)  (by first | rfl | (simp [mxE]; done) | (simp only [mxE]; rfl) | (simp_all [mxE]; done)) (by first | rfl | (simp [mxE]; done) | (simp only [mxE]; rfl) | (simp_all [mxE]; done)) ls (lv_sub hl [2, 3, 4, 1, 0] rfl)
set_option maxHeartbeats 4000000 in
set_option maxRecDepth 100000 in
theorem c_X1_mixMarks_4 (l : Launch) (D : va_G) (cI cZ : ClassId) (ad : Nat → Nat) (HL : Nat → Int32) (LB : Nat → Int32) (SO : Nat → Bool) (NG : Nat → Bool) (WO : Nat → Bool) (SA : Nat) (SE : Nat) (x : Int64) (hE : SE ≤ 512) : Met l yX1_mixMarks wsX1_mixMarks (({ frames := 1, cells := 0, slots := 0, locals := 23 })) (pcP D [(cI, .int), (cZ, .boolean)] (wS cI cZ ad HL LB SO NG WO SA SE) [.ref (ad 0), .long (x), .ref (ad 4)]) (vp_Sl (fun v => v = mxS NG x SE)) 0 0 (fun _ => False) := by
  refine Met.ofW (cc := cX1_mixMarks) (maxL := 7) (ret := (some .long)) (by decide) rfl ?_
  intro p e s m args below meth c s₁ BB hml hv
  obtain ⟨rfl, hP, hK⟩ := hv
  have hx := BB.exec
  have hb := BB.bytes
  have hrt := BB.returns
  have hts := atoms_spec (ws := wsX1_mixMarks) BB.pre
  have hown : s.vm.findClass RX1 = some m.cls := findClass_of_methodNamed BB.named
  have hlk := BB.notSynchronized
  have f32 := hts (.fieldLink RX1 32 "AssumptionKeeper$Survey" "environments" "I") (by decide +kernel)
  have hin1 : ∀ w ∈ u_ws RX1 TX1 7, w ∈ wsX1_mixMarks := by decide +kernel
  have hl := lv_entry ([.ref (ad 0), .long (x), .ref (ad 4)]) (n := 7) (Nat.le_of_ble_eq_true rfl)
  rw [lg_entry_eq]
  generalize (lg_sl ([.ref (ad 0), .long (x), .ref (ad 4)]) ++ List.replicate (7 - (lg_sl ([.ref (ad 0), .long (x), .ref (ad 4)])).length) Slot.unset).toArray = ls at hl ⊢
  have hl : lv_has ls 7 [(0, .ref (ad 0)), (1, .long (x)), (3, .ref (ad 4))] := hl
  have lp_15 : ∀ (n i : Nat) (v4 : Int64) (v6 : Int32), i ≤ SE → SE + 1 ≤ i + n → v4 = mxE NG (mx x (nI (cnt NG SE)).toInt64) i → v6 = nI (i) → ∀ ls : Array Slot, lv_has ls 7 [(0, .ref (ad 0)), (1, .long (x)), (3, .ref (ad 4)), (4, .long (v4)), (6, .int (v6))] → W p l e (headSpec wsX1_mixMarks ({ frames := 1, cells := 0, slots := 0, locals := 23 })).room s m ([.ref (ad 0), .long (x), .ref (ad 4)]).toArray below meth c s.heap [] 0 0 (MQ below (vp_Sl (fun v => v = mxS NG x SE)) ([.ref (ad 0), .long (x), .ref (ad 4)]).toArray s 0 0 (fun _ => False)) (F0 m 15 ls []) := by
    intro n
    induction n with
    | zero => intro i v4 v6 h1 h2; exact absurd h2 (by omega)
    | succ n ih =>
      intro i v4 v6 hi_ hn_  e4 e6 ls hl
      subst e4 e6
      have hl : lv_has ls 7 [(0, .ref (ad 0)), (1, .long (x)), (3, .ref (ad 4)), (4, .long (mxE NG (mx x (nI (cnt NG SE)).toInt64) i)), (6, .int (nI (i)))] := hl
      refine lv_iload hx hb dX1_mixMarks_15 (lv_at hl 4 rfl) ?_
      refine lv_aload_n hx hb dX1_mixMarks_17 rfl (lv_at hl 0 rfl) ?_
      refine va_get (D := D) (ci := 1) (v := .int (nI (SE))) (C := RX1) (T := TX1) (N := 7) hx hb hts hin1 hown hK.1 hP 0 rfl rfl 6 (by decide) f32 (fun _ h9 => h9) rfl dX1_mixMarks_18 ?_
      refine lv_icmp_ge (tgt := 47) hx hb dX1_mixMarks_21 (by decide) (fun c_21 => ?_) (fun c_21 => ?_)
      · skip
        have c_21 := (qI_le (a := SE) (b := i) (by omega) (by omega)).mp c_21
        refine lv_lload hx hb dX1_mixMarks_47 (lv_at hl 3 rfl) ?_
        exact rl_ hx hb hrt hlk dX1_mixMarks_49 (by obtain rfl : i = SE := (by omega); rfl)
      · skip
        have c_21 := mt (qI_le (a := SE) (b := i) (by omega) (by omega)).mpr c_21
        refine lv_aload_n hx hb dX1_mixMarks_24 rfl (lv_at hl 2 rfl) ?_
        refine lv_iload hx hb dX1_mixMarks_25 (lv_at hl 4 rfl) ?_
        refine az_ (D := D) (f := NG) (i := i) hx hb hK hP 4 1 rfl rfl (by omega) (by decide) dX1_mixMarks_27 ?_
        refine lv_if_eq (tgt := 41) hx hb dX1_mixMarks_28 (by decide) (fun c_28 => ?_) (fun c_28 => ?_)
        · skip
          have c_28 := bI_eq0 c_28
          refine lv_iinc (v := nI (i + 1)) (lv' := [(6, .int (nI (i + 1))), (0, .ref (ad 0)), (1, .long (x)), (3, .ref (ad 4)), (4, .long (mxE NG (mx x (nI (cnt NG SE)).toInt64) i))]) hx hb dX1_mixMarks_41 hl (k := 4) rfl (nI_1 _) (by decide) rfl (fun ls hl => ?_)
          refine lv_goto (tgt := 15) hx hb dX1_mixMarks_44 (by decide) ?_
          exact ih (i + 1) _ _ (by omega) (by omega)  (by first | rfl | (simp [mxE, c_21, c_28]; done) | (simp only [mxE, c_21, c_28]; rfl) | (simp_all [mxE, c_21, c_28]; done)) rfl ls (lv_sub hl [1, 2, 3, 4, 0] rfl)
        · skip
          have c_28 := bI_ne0 c_28
          refine lv_lload hx hb dX1_mixMarks_31 (lv_at hl 3 rfl) ?_
          refine lv_iload hx hb dX1_mixMarks_33 (lv_at hl 4 rfl) ?_
          refine lv_i2l hx hb dX1_mixMarks_35 rfl ?_
          refine pu_l (va_runSN (As := [.long (mxE NG (mx x (nI (cnt NG SE)).toInt64) i), .long ((nI (i)).toInt64)]) (rest := []) ⟨hx, hb, hml, hown, hts⟩ (c_X2_mix l D cI cZ ad (mxE NG (mx x (nI (cnt NG SE)).toInt64) i) ((nI (i)).toInt64) ) ⟨va_cnB 2 hts gX1_mixMarks_X2_mix_n76 rfl rfl rfl hK.2.2.2 (hts (.initialized RX2) (by decide +kernel)) (by decide +kernel) ⟨Nat.le_of_ble_eq_true rfl, Nat.le_of_ble_eq_true rfl⟩, hts (.static yX2_mix) (by decide +kernel), trivial⟩ (pre_S (hP.sub (ws' := ([] : va_W)) [] rfl) hK) rfl rfl hl.1 rfl (lv_room (Nat.le_of_ble_eq_true rfl)) dX1_mixMarks_36 ⟨Nat.zero_le _, Nat.zero_le _⟩) ?_
          refine lv_lstore (lv' := [(4, .long (mx (mxE NG (mx x (nI (cnt NG SE)).toInt64) i) ((nI (i)).toInt64))), (0, .ref (ad 0)), (1, .long (x)), (3, .ref (ad 4)), (6, .int (nI (i)))]) hx hb dX1_mixMarks_39 hl (by decide) rfl (fun ls hl => ?_)
          refine lv_iinc (v := nI (i + 1)) (lv' := [(6, .int (nI (i + 1))), (4, .long (mx (mxE NG (mx x (nI (cnt NG SE)).toInt64) i) ((nI (i)).toInt64))), (0, .ref (ad 0)), (1, .long (x)), (3, .ref (ad 4))]) hx hb dX1_mixMarks_41 hl (k := 4) rfl (nI_1 _) (by decide) rfl (fun ls hl => ?_)
          refine lv_goto (tgt := 15) hx hb dX1_mixMarks_44 (by decide) ?_
          exact ih (i + 1) _ _ (by omega) (by omega)  (by first | rfl | (simp [mxE, c_21, c_28]; done) | (simp only [mxE, c_21, c_28]; rfl) | (simp_all [mxE, c_21, c_28]; done)) rfl ls (lv_sub hl [2, 3, 4, 1, 0] rfl)
  refine lv_lload_n hx hb dX1_mixMarks_0 rfl (lv_at hl 1 rfl) ?_
  refine lv_aload_n hx hb dX1_mixMarks_1 rfl (lv_at hl 0 rfl) ?_
  refine lv_aload_n hx hb dX1_mixMarks_2 rfl (lv_at hl 2 rfl) ?_
  refine pu_i (va_runV (As := [.ref (ad 4)]) (rest := [.long (x)]) ⟨hx, hb, hml, hown, hts⟩ (c_X1_countMarks_4 l D cI cZ ad (HL) (LB) (SO) (NG) (WO) (SA) (SE) (by omega)) (cwV 1 hts gX1_mixMarks_X1_countMarks rfl rfl rfl (by decide +kernel) ⟨Nat.le_of_ble_eq_true rfl, Nat.le_of_ble_eq_true rfl⟩) (pre_V (q0 := 0) (ci := 1) (hP.sub (ws' := (wS cI cZ ad HL LB SO NG WO SA SE)) [0, 1, 2, 3, 4, 5] rfl) hK rfl rfl) rfl rfl hl.1 rfl (lv_room (Nat.le_of_ble_eq_true rfl)) dX1_mixMarks_3 ⟨Nat.zero_le _, Nat.zero_le _⟩) ?_
  refine lv_i2l hx hb dX1_mixMarks_6 rfl ?_
  refine pu_l (va_runSN (As := [.long (x), .long ((nI (cnt NG SE)).toInt64)]) (rest := []) ⟨hx, hb, hml, hown, hts⟩ (c_X2_mix l D cI cZ ad (x) ((nI (cnt NG SE)).toInt64) ) ⟨va_cnB 2 hts gX1_mixMarks_X2_mix_n76 rfl rfl rfl hK.2.2.2 (hts (.initialized RX2) (by decide +kernel)) (by decide +kernel) ⟨Nat.le_of_ble_eq_true rfl, Nat.le_of_ble_eq_true rfl⟩, hts (.static yX2_mix) (by decide +kernel), trivial⟩ (pre_S (hP.sub (ws' := ([] : va_W)) [] rfl) hK) rfl rfl hl.1 rfl (lv_room (Nat.le_of_ble_eq_true rfl)) dX1_mixMarks_7 ⟨Nat.zero_le _, Nat.zero_le _⟩) ?_
  refine lv_lstore (lv' := [(4, .long (mx x ((nI (cnt NG SE)).toInt64))), (0, .ref (ad 0)), (1, .long (x)), (3, .ref (ad 4))]) hx hb dX1_mixMarks_10 hl (by decide) rfl (fun ls hl => ?_)
  refine lv_iconst (v := nI (0)) hx hb dX1_mixMarks_12 (by decide) ?_
  refine lv_istore (lv' := [(6, .int (nI (0))), (4, .long (mx x ((nI (cnt NG SE)).toInt64))), (0, .ref (ad 0)), (1, .long (x)), (3, .ref (ad 4))]) hx hb dX1_mixMarks_13 hl (by decide) rfl (fun ls hl => ?_)
  exact lp_15 (SE + 1) (0) _ _ (by omega) (by omega)  (by first | rfl | (simp [mxE]; done) | (simp only [mxE]; rfl) | (simp_all [mxE]; done)) (by first | rfl | (simp [mxE]; done) | (simp only [mxE]; rfl) | (simp_all [mxE]; done)) ls (lv_sub hl [2, 3, 4, 1, 0] rfl)
set_option maxHeartbeats 4000000 in
set_option maxRecDepth 100000 in
theorem c_X1_mixMarks_5 (l : Launch) (D : va_G) (cI cZ : ClassId) (ad : Nat → Nat) (HL : Nat → Int32) (LB : Nat → Int32) (SO : Nat → Bool) (NG : Nat → Bool) (WO : Nat → Bool) (SA : Nat) (SE : Nat) (x : Int64) (hE : SE ≤ 512) : Met l yX1_mixMarks wsX1_mixMarks (({ frames := 1, cells := 0, slots := 0, locals := 23 })) (pcP D [(cI, .int), (cZ, .boolean)] (wS cI cZ ad HL LB SO NG WO SA SE) [.ref (ad 0), .long (x), .ref (ad 5)]) (vp_Sl (fun v => v = mxS WO x SE)) 0 0 (fun _ => False) := by
  refine Met.ofW (cc := cX1_mixMarks) (maxL := 7) (ret := (some .long)) (by decide) rfl ?_
  intro p e s m args below meth c s₁ BB hml hv
  obtain ⟨rfl, hP, hK⟩ := hv
  have hx := BB.exec
  have hb := BB.bytes
  have hrt := BB.returns
  have hts := atoms_spec (ws := wsX1_mixMarks) BB.pre
  have hown : s.vm.findClass RX1 = some m.cls := findClass_of_methodNamed BB.named
  have hlk := BB.notSynchronized
  have f32 := hts (.fieldLink RX1 32 "AssumptionKeeper$Survey" "environments" "I") (by decide +kernel)
  have hin1 : ∀ w ∈ u_ws RX1 TX1 7, w ∈ wsX1_mixMarks := by decide +kernel
  have hl := lv_entry ([.ref (ad 0), .long (x), .ref (ad 5)]) (n := 7) (Nat.le_of_ble_eq_true rfl)
  rw [lg_entry_eq]
  generalize (lg_sl ([.ref (ad 0), .long (x), .ref (ad 5)]) ++ List.replicate (7 - (lg_sl ([.ref (ad 0), .long (x), .ref (ad 5)])).length) Slot.unset).toArray = ls at hl ⊢
  have hl : lv_has ls 7 [(0, .ref (ad 0)), (1, .long (x)), (3, .ref (ad 5))] := hl
  have lp_15 : ∀ (n i : Nat) (v4 : Int64) (v6 : Int32), i ≤ SE → SE + 1 ≤ i + n → v4 = mxE WO (mx x (nI (cnt WO SE)).toInt64) i → v6 = nI (i) → ∀ ls : Array Slot, lv_has ls 7 [(0, .ref (ad 0)), (1, .long (x)), (3, .ref (ad 5)), (4, .long (v4)), (6, .int (v6))] → W p l e (headSpec wsX1_mixMarks ({ frames := 1, cells := 0, slots := 0, locals := 23 })).room s m ([.ref (ad 0), .long (x), .ref (ad 5)]).toArray below meth c s.heap [] 0 0 (MQ below (vp_Sl (fun v => v = mxS WO x SE)) ([.ref (ad 0), .long (x), .ref (ad 5)]).toArray s 0 0 (fun _ => False)) (F0 m 15 ls []) := by
    intro n
    induction n with
    | zero => intro i v4 v6 h1 h2; exact absurd h2 (by omega)
    | succ n ih =>
      intro i v4 v6 hi_ hn_  e4 e6 ls hl
      subst e4 e6
      have hl : lv_has ls 7 [(0, .ref (ad 0)), (1, .long (x)), (3, .ref (ad 5)), (4, .long (mxE WO (mx x (nI (cnt WO SE)).toInt64) i)), (6, .int (nI (i)))] := hl
      refine lv_iload hx hb dX1_mixMarks_15 (lv_at hl 4 rfl) ?_
      refine lv_aload_n hx hb dX1_mixMarks_17 rfl (lv_at hl 0 rfl) ?_
      refine va_get (D := D) (ci := 1) (v := .int (nI (SE))) (C := RX1) (T := TX1) (N := 7) hx hb hts hin1 hown hK.1 hP 0 rfl rfl 6 (by decide) f32 (fun _ h9 => h9) rfl dX1_mixMarks_18 ?_
      refine lv_icmp_ge (tgt := 47) hx hb dX1_mixMarks_21 (by decide) (fun c_21 => ?_) (fun c_21 => ?_)
      · skip
        have c_21 := (qI_le (a := SE) (b := i) (by omega) (by omega)).mp c_21
        refine lv_lload hx hb dX1_mixMarks_47 (lv_at hl 3 rfl) ?_
        exact rl_ hx hb hrt hlk dX1_mixMarks_49 (by obtain rfl : i = SE := (by omega); rfl)
      · skip
        have c_21 := mt (qI_le (a := SE) (b := i) (by omega) (by omega)).mpr c_21
        refine lv_aload_n hx hb dX1_mixMarks_24 rfl (lv_at hl 2 rfl) ?_
        refine lv_iload hx hb dX1_mixMarks_25 (lv_at hl 4 rfl) ?_
        refine az_ (D := D) (f := WO) (i := i) hx hb hK hP 5 1 rfl rfl (by omega) (by decide) dX1_mixMarks_27 ?_
        refine lv_if_eq (tgt := 41) hx hb dX1_mixMarks_28 (by decide) (fun c_28 => ?_) (fun c_28 => ?_)
        · skip
          have c_28 := bI_eq0 c_28
          refine lv_iinc (v := nI (i + 1)) (lv' := [(6, .int (nI (i + 1))), (0, .ref (ad 0)), (1, .long (x)), (3, .ref (ad 5)), (4, .long (mxE WO (mx x (nI (cnt WO SE)).toInt64) i))]) hx hb dX1_mixMarks_41 hl (k := 4) rfl (nI_1 _) (by decide) rfl (fun ls hl => ?_)
          refine lv_goto (tgt := 15) hx hb dX1_mixMarks_44 (by decide) ?_
          exact ih (i + 1) _ _ (by omega) (by omega)  (by first | rfl | (simp [mxE, c_21, c_28]; done) | (simp only [mxE, c_21, c_28]; rfl) | (simp_all [mxE, c_21, c_28]; done)) rfl ls (lv_sub hl [1, 2, 3, 4, 0] rfl)
        · skip
          have c_28 := bI_ne0 c_28
          refine lv_lload hx hb dX1_mixMarks_31 (lv_at hl 3 rfl) ?_
          refine lv_iload hx hb dX1_mixMarks_33 (lv_at hl 4 rfl) ?_
          refine lv_i2l hx hb dX1_mixMarks_35 rfl ?_
          refine pu_l (va_runSN (As := [.long (mxE WO (mx x (nI (cnt WO SE)).toInt64) i), .long ((nI (i)).toInt64)]) (rest := []) ⟨hx, hb, hml, hown, hts⟩ (c_X2_mix l D cI cZ ad (mxE WO (mx x (nI (cnt WO SE)).toInt64) i) ((nI (i)).toInt64) ) ⟨va_cnB 2 hts gX1_mixMarks_X2_mix_n76 rfl rfl rfl hK.2.2.2 (hts (.initialized RX2) (by decide +kernel)) (by decide +kernel) ⟨Nat.le_of_ble_eq_true rfl, Nat.le_of_ble_eq_true rfl⟩, hts (.static yX2_mix) (by decide +kernel), trivial⟩ (pre_S (hP.sub (ws' := ([] : va_W)) [] rfl) hK) rfl rfl hl.1 rfl (lv_room (Nat.le_of_ble_eq_true rfl)) dX1_mixMarks_36 ⟨Nat.zero_le _, Nat.zero_le _⟩) ?_
          refine lv_lstore (lv' := [(4, .long (mx (mxE WO (mx x (nI (cnt WO SE)).toInt64) i) ((nI (i)).toInt64))), (0, .ref (ad 0)), (1, .long (x)), (3, .ref (ad 5)), (6, .int (nI (i)))]) hx hb dX1_mixMarks_39 hl (by decide) rfl (fun ls hl => ?_)
          refine lv_iinc (v := nI (i + 1)) (lv' := [(6, .int (nI (i + 1))), (4, .long (mx (mxE WO (mx x (nI (cnt WO SE)).toInt64) i) ((nI (i)).toInt64))), (0, .ref (ad 0)), (1, .long (x)), (3, .ref (ad 5))]) hx hb dX1_mixMarks_41 hl (k := 4) rfl (nI_1 _) (by decide) rfl (fun ls hl => ?_)
          refine lv_goto (tgt := 15) hx hb dX1_mixMarks_44 (by decide) ?_
          exact ih (i + 1) _ _ (by omega) (by omega)  (by first | rfl | (simp [mxE, c_21, c_28]; done) | (simp only [mxE, c_21, c_28]; rfl) | (simp_all [mxE, c_21, c_28]; done)) rfl ls (lv_sub hl [2, 3, 4, 1, 0] rfl)
  refine lv_lload_n hx hb dX1_mixMarks_0 rfl (lv_at hl 1 rfl) ?_
  refine lv_aload_n hx hb dX1_mixMarks_1 rfl (lv_at hl 0 rfl) ?_
  refine lv_aload_n hx hb dX1_mixMarks_2 rfl (lv_at hl 2 rfl) ?_
  refine pu_i (va_runV (As := [.ref (ad 5)]) (rest := [.long (x)]) ⟨hx, hb, hml, hown, hts⟩ (c_X1_countMarks_5 l D cI cZ ad (HL) (LB) (SO) (NG) (WO) (SA) (SE) (by omega)) (cwV 1 hts gX1_mixMarks_X1_countMarks rfl rfl rfl (by decide +kernel) ⟨Nat.le_of_ble_eq_true rfl, Nat.le_of_ble_eq_true rfl⟩) (pre_V (q0 := 0) (ci := 1) (hP.sub (ws' := (wS cI cZ ad HL LB SO NG WO SA SE)) [0, 1, 2, 3, 4, 5] rfl) hK rfl rfl) rfl rfl hl.1 rfl (lv_room (Nat.le_of_ble_eq_true rfl)) dX1_mixMarks_3 ⟨Nat.zero_le _, Nat.zero_le _⟩) ?_
  refine lv_i2l hx hb dX1_mixMarks_6 rfl ?_
  refine pu_l (va_runSN (As := [.long (x), .long ((nI (cnt WO SE)).toInt64)]) (rest := []) ⟨hx, hb, hml, hown, hts⟩ (c_X2_mix l D cI cZ ad (x) ((nI (cnt WO SE)).toInt64) ) ⟨va_cnB 2 hts gX1_mixMarks_X2_mix_n76 rfl rfl rfl hK.2.2.2 (hts (.initialized RX2) (by decide +kernel)) (by decide +kernel) ⟨Nat.le_of_ble_eq_true rfl, Nat.le_of_ble_eq_true rfl⟩, hts (.static yX2_mix) (by decide +kernel), trivial⟩ (pre_S (hP.sub (ws' := ([] : va_W)) [] rfl) hK) rfl rfl hl.1 rfl (lv_room (Nat.le_of_ble_eq_true rfl)) dX1_mixMarks_7 ⟨Nat.zero_le _, Nat.zero_le _⟩) ?_
  refine lv_lstore (lv' := [(4, .long (mx x ((nI (cnt WO SE)).toInt64))), (0, .ref (ad 0)), (1, .long (x)), (3, .ref (ad 5))]) hx hb dX1_mixMarks_10 hl (by decide) rfl (fun ls hl => ?_)
  refine lv_iconst (v := nI (0)) hx hb dX1_mixMarks_12 (by decide) ?_
  refine lv_istore (lv' := [(6, .int (nI (0))), (4, .long (mx x ((nI (cnt WO SE)).toInt64))), (0, .ref (ad 0)), (1, .long (x)), (3, .ref (ad 5))]) hx hb dX1_mixMarks_13 hl (by decide) rfl (fun ls hl => ?_)
  exact lp_15 (SE + 1) (0) _ _ (by omega) (by omega)  (by first | rfl | (simp [mxE]; done) | (simp only [mxE]; rfl) | (simp_all [mxE]; done)) (by first | rfl | (simp [mxE]; done) | (simp only [mxE]; rfl) | (simp_all [mxE]; done)) ls (lv_sub hl [2, 3, 4, 1, 0] rfl)
set_option maxHeartbeats 4000000 in
set_option maxRecDepth 100000 in
theorem c_X1_mixNogoods (l : Launch) (D : va_G) (cI cZ : ClassId) (ad : Nat → Nat) (HL : Nat → Int32) (LB : Nat → Int32) (SO : Nat → Bool) (NG : Nat → Bool) (WO : Nat → Bool) (SA : Nat) (SE : Nat) (x : Int64) (hE : SE ≤ 512) : Met l yX1_mixNogoods wsX1_mixNogoods (({ frames := 2, cells := 0, slots := 0, locals := 49 })) (pcP D [(cI, .int), (cZ, .boolean)] (wS cI cZ ad HL LB SO NG WO SA SE) [.ref (ad 0), .long (x)]) (vp_Sl (fun v => v = mxS NG x SE)) 0 0 (fun _ => False) := by
  refine Met.ofW (cc := cX1_mixNogoods) (maxL := 3) (ret := (some .long)) (by decide) rfl ?_
  intro p e s m args below meth c s₁ BB hml hv
  obtain ⟨rfl, hP, hK⟩ := hv
  have hx := BB.exec
  have hb := BB.bytes
  have hrt := BB.returns
  have hts := atoms_spec (ws := wsX1_mixNogoods) BB.pre
  have hown : s.vm.findClass RX1 = some m.cls := findClass_of_methodNamed BB.named
  have hlk := BB.notSynchronized
  have f22 := hts (.fieldLink RX1 22 "AssumptionKeeper$Survey" "areNogoods" "[Z") (by decide +kernel)
  have hin1 : ∀ w ∈ u_ws RX1 TX1 7, w ∈ wsX1_mixNogoods := by decide +kernel
  have hl := lv_entry ([.ref (ad 0), .long (x)]) (n := 3) (Nat.le_of_ble_eq_true rfl)
  rw [lg_entry_eq]
  generalize (lg_sl ([.ref (ad 0), .long (x)]) ++ List.replicate (3 - (lg_sl ([.ref (ad 0), .long (x)])).length) Slot.unset).toArray = ls at hl ⊢
  have hl : lv_has ls 3 [(0, .ref (ad 0)), (1, .long (x))] := hl
  refine lv_aload_n hx hb dX1_mixNogoods_0 rfl (lv_at hl 0 rfl) ?_
  refine lv_lload_n hx hb dX1_mixNogoods_1 rfl (lv_at hl 1 rfl) ?_
  refine lv_aload_n hx hb dX1_mixNogoods_2 rfl (lv_at hl 0 rfl) ?_
  refine va_get (D := D) (ci := 1) (v := .ref (ad 4)) (C := RX1) (T := TX1) (N := 7) hx hb hts hin1 hown hK.1 hP 0 rfl rfl 3 (by decide) f22 (fun _ h9 => h9) rfl dX1_mixNogoods_3 ?_
  refine pu_l (va_runV (As := [.long (x), .ref (ad 4)]) (rest := []) ⟨hx, hb, hml, hown, hts⟩ (c_X1_mixMarks_4 l D cI cZ ad (HL) (LB) (SO) (NG) (WO) (SA) (SE) (x) (by omega)) (cwV 2 hts gX1_mixNogoods_X1_mixMarks rfl rfl rfl (by decide +kernel) ⟨Nat.le_of_ble_eq_true rfl, Nat.le_of_ble_eq_true rfl⟩) (pre_V (q0 := 0) (ci := 1) (hP.sub (ws' := (wS cI cZ ad HL LB SO NG WO SA SE)) [0, 1, 2, 3, 4, 5] rfl) hK rfl rfl) rfl rfl hl.1 rfl (lv_room (Nat.le_of_ble_eq_true rfl)) dX1_mixNogoods_6 ⟨Nat.zero_le _, Nat.zero_le _⟩) ?_
  exact rl_ hx hb hrt hlk dX1_mixNogoods_9 (by first | rfl | (simp []; done) | (simp only []; rfl) | (simp_all []; done))
set_option maxHeartbeats 4000000 in
set_option maxRecDepth 100000 in
theorem c_X1_mixWorlds (l : Launch) (D : va_G) (cI cZ : ClassId) (ad : Nat → Nat) (HL : Nat → Int32) (LB : Nat → Int32) (SO : Nat → Bool) (NG : Nat → Bool) (WO : Nat → Bool) (SA : Nat) (SE : Nat) (x : Int64) (hE : SE ≤ 512) : Met l yX1_mixWorlds wsX1_mixWorlds (({ frames := 2, cells := 0, slots := 0, locals := 49 })) (pcP D [(cI, .int), (cZ, .boolean)] (wS cI cZ ad HL LB SO NG WO SA SE) [.ref (ad 0), .long (x)]) (vp_Sl (fun v => v = mxS WO x SE)) 0 0 (fun _ => False) := by
  refine Met.ofW (cc := cX1_mixWorlds) (maxL := 3) (ret := (some .long)) (by decide) rfl ?_
  intro p e s m args below meth c s₁ BB hml hv
  obtain ⟨rfl, hP, hK⟩ := hv
  have hx := BB.exec
  have hb := BB.bytes
  have hrt := BB.returns
  have hts := atoms_spec (ws := wsX1_mixWorlds) BB.pre
  have hown : s.vm.findClass RX1 = some m.cls := findClass_of_methodNamed BB.named
  have hlk := BB.notSynchronized
  have f25 := hts (.fieldLink RX1 25 "AssumptionKeeper$Survey" "areWorlds" "[Z") (by decide +kernel)
  have hin1 : ∀ w ∈ u_ws RX1 TX1 7, w ∈ wsX1_mixWorlds := by decide +kernel
  have hl := lv_entry ([.ref (ad 0), .long (x)]) (n := 3) (Nat.le_of_ble_eq_true rfl)
  rw [lg_entry_eq]
  generalize (lg_sl ([.ref (ad 0), .long (x)]) ++ List.replicate (3 - (lg_sl ([.ref (ad 0), .long (x)])).length) Slot.unset).toArray = ls at hl ⊢
  have hl : lv_has ls 3 [(0, .ref (ad 0)), (1, .long (x))] := hl
  refine lv_aload_n hx hb dX1_mixWorlds_0 rfl (lv_at hl 0 rfl) ?_
  refine lv_lload_n hx hb dX1_mixWorlds_1 rfl (lv_at hl 1 rfl) ?_
  refine lv_aload_n hx hb dX1_mixWorlds_2 rfl (lv_at hl 0 rfl) ?_
  refine va_get (D := D) (ci := 1) (v := .ref (ad 5)) (C := RX1) (T := TX1) (N := 7) hx hb hts hin1 hown hK.1 hP 0 rfl rfl 4 (by decide) f25 (fun _ h9 => h9) rfl dX1_mixWorlds_3 ?_
  refine pu_l (va_runV (As := [.long (x), .ref (ad 5)]) (rest := []) ⟨hx, hb, hml, hown, hts⟩ (c_X1_mixMarks_5 l D cI cZ ad (HL) (LB) (SO) (NG) (WO) (SA) (SE) (x) (by omega)) (cwV 2 hts gX1_mixWorlds_X1_mixMarks rfl rfl rfl (by decide +kernel) ⟨Nat.le_of_ble_eq_true rfl, Nat.le_of_ble_eq_true rfl⟩) (pre_V (q0 := 0) (ci := 1) (hP.sub (ws' := (wS cI cZ ad HL LB SO NG WO SA SE)) [0, 1, 2, 3, 4, 5] rfl) hK rfl rfl) rfl rfl hl.1 rfl (lv_room (Nat.le_of_ble_eq_true rfl)) dX1_mixWorlds_6 ⟨Nat.zero_le _, Nat.zero_le _⟩) ?_
  exact rl_ hx hb hrt hlk dX1_mixWorlds_9 (by first | rfl | (simp []; done) | (simp only []; rfl) | (simp_all []; done))
