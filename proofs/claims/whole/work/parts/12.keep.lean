set_option maxHeartbeats 4000000 in
set_option maxRecDepth 100000 in
theorem c_X2_nodesOf (l : Launch) (D : va_G) (cI cZ : ClassId) (ad : Nat → Nat) (N : Nat) (A : Nat) (fl : Bool) (an : Nat → Int32) (nd : Nat → Int32) (wt : Nat → Int32) (B : Nat → Int32) (Hd : Nat → Int32) (O : Nat → Bool) (R : Nat) (HL : Nat → Int32) (LB : Nat → Int32) (SO : Nat → Bool) (NG : Nat → Bool) (WO : Nat → Bool) (SA : Nat) (SE : Nat) (x : Int32) (hA : A ≤ 9) : Met l yX2_nodesOf wsX2_nodesOf (({ frames := 1, cells := 0, slots := 0, locals := 21 })) (pcP D [(cI, .int), (cZ, .boolean)] (wK cI cZ ad N A fl an nd wt B Hd O R HL LB SO NG WO SA SE) [.ref (ad 0), .int (x)]) (vp_Si (fun v => v = bg nd x A)) 0 0 (fun _ => False) := by
  refine Met.ofW (cc := cX2_nodesOf) (maxL := 4) (ret := (some .int)) (by decide) rfl ?_
  intro p e s m args below meth c s₁ BB hml hv
  obtain ⟨rfl, hP, hK⟩ := hv
  have hx := BB.exec
  have hb := BB.bytes
  have hrt := BB.returns
  have hts := atoms_spec (ws := wsX2_nodesOf) BB.pre
  have hown : s.vm.findClass RX2 = some m.cls := findClass_of_methodNamed BB.named
  have hlk := BB.notSynchronized
  have f13 := hts (.fieldLink RX2 13 "AssumptionKeeper" "assumptionNodes" "[I") (by decide +kernel)
  have f37 := hts (.fieldLink RX2 37 "AssumptionKeeper" "assumptions" "I") (by decide +kernel)
  have hin2 : ∀ w ∈ u_ws RX2 TX2 8, w ∈ wsX2_nodesOf := by decide +kernel
  have hl := lv_entry ([.ref (ad 0), .int (x)]) (n := 4) (Nat.le_of_ble_eq_true rfl)
  rw [lg_entry_eq]
  generalize (lg_sl ([.ref (ad 0), .int (x)]) ++ List.replicate (4 - (lg_sl ([.ref (ad 0), .int (x)])).length) Slot.unset).toArray = ls at hl ⊢
  have hl : lv_has ls 4 [(0, .ref (ad 0)), (1, .int (x))] := hl
  have lp_4 : ∀ (n i : Nat) (v2 : Int32) (v3 : Int32), i ≤ A → A + 1 ≤ i + n → v2 = bg nd x i → v3 = nI (i) → ∀ ls : Array Slot, lv_has ls 4 [(0, .ref (ad 0)), (1, .int (x)), (2, .int (v2)), (3, .int (v3))] → W p l e (headSpec wsX2_nodesOf ({ frames := 1, cells := 0, slots := 0, locals := 21 })).room s m ([.ref (ad 0), .int (x)]).toArray below meth c s.heap [] 0 0 (MQ below (vp_Si (fun v => v = bg nd x A)) ([.ref (ad 0), .int (x)]).toArray s 0 0 (fun _ => False)) (F0 m 4 ls []) := by
    intro n
    induction n with
    | zero => intro i v2 v3 h1 h2; exact absurd h2 (by omega)
    | succ n ih =>
      intro i v2 v3 hi_ hn_  e2 e3 ls hl
      subst e2 e3
      have hl : lv_has ls 4 [(0, .ref (ad 0)), (1, .int (x)), (2, .int (bg nd x i)), (3, .int (nI (i)))] := hl
      refine lv_iload_n hx hb dX2_nodesOf_4 rfl (lv_at hl 3 rfl) ?_
      refine lv_aload_n hx hb dX2_nodesOf_5 rfl (lv_at hl 0 rfl) ?_
      refine va_get (D := D) (ci := 2) (v := .int (nI (A))) (C := RX2) (T := TX2) (N := 8) hx hb hts hin2 hown hK.1 hP 0 rfl rfl 6 (by decide) f37 (fun _ h9 => h9) rfl dX2_nodesOf_6 ?_
      refine lv_icmp_ge (tgt := 37) hx hb dX2_nodesOf_9 (by decide) (fun c_9 => ?_) (fun c_9 => ?_)
      · skip
        have c_9 := (qI_le (a := A) (b := i) (by omega) (by omega)).mp c_9
        refine lv_iload_n hx hb dX2_nodesOf_37 rfl (lv_at hl 2 rfl) ?_
        exact ri_ hx hb hrt hlk dX2_nodesOf_38 (by obtain rfl : i = A := (by omega); rfl)
      · skip
        have c_9 := mt (qI_le (a := A) (b := i) (by omega) (by omega)).mpr c_9
        refine lv_iload_n hx hb dX2_nodesOf_12 rfl (lv_at hl 1 rfl) ?_
        refine lv_iload_n hx hb dX2_nodesOf_13 rfl (lv_at hl 3 rfl) ?_
        refine pu_i (va_runS (As := [.int (x), .int (nI (i))]) (rest := []) ⟨hx, hb, hml, hown, hts⟩ (c_X2_contains l D cI cZ ad (x) (nI (i)) ) (cwS 2 hts gX2_nodesOf_X2_contains rfl rfl rfl (by decide +kernel) ⟨Nat.le_of_ble_eq_true rfl, Nat.le_of_ble_eq_true rfl⟩) (pre_S (hP.sub (ws' := ([] : va_W)) [] rfl) hK) rfl rfl hl.1 rfl (lv_room (Nat.le_of_ble_eq_true rfl)) dX2_nodesOf_14 ⟨Nat.zero_le _, Nat.zero_le _⟩) ?_
        refine lv_if_eq (tgt := 31) hx hb dX2_nodesOf_17 (by decide) (fun c_17 => ?_) (fun c_17 => ?_)
        · skip
          have c_17 := bI_eq0 c_17
          refine lv_iinc (v := nI (i + 1)) (lv' := [(3, .int (nI (i + 1))), (0, .ref (ad 0)), (1, .int (x)), (2, .int (bg nd x i))]) hx hb dX2_nodesOf_31 hl (k := 3) rfl (nI_1 _) (by decide) rfl (fun ls hl => ?_)
          refine lv_goto (tgt := 4) hx hb dX2_nodesOf_34 (by decide) ?_
          exact ih (i + 1) _ _ (by omega) (by omega)  (by first | rfl | (simp [bg, sh1, c_9, c_17]; done) | (simp only [bg, sh1, c_9, c_17]; rfl) | (simp_all [bg, sh1, c_9, c_17]; done)) rfl ls (lv_sub hl [1, 2, 3, 0] rfl)
        · skip
          have c_17 := bI_ne0 c_17
          refine lv_iload_n hx hb dX2_nodesOf_20 rfl (lv_at hl 2 rfl) ?_
          refine lv_iconst (v := 1) hx hb dX2_nodesOf_21 (by decide) ?_
          refine lv_aload_n hx hb dX2_nodesOf_22 rfl (lv_at hl 0 rfl) ?_
          refine va_get (D := D) (ci := 2) (v := .ref (ad 2)) (C := RX2) (T := TX2) (N := 8) hx hb hts hin2 hown hK.1 hP 0 rfl rfl 1 (by decide) f13 (fun _ h9 => h9) rfl dX2_nodesOf_23 ?_
          refine lv_iload_n hx hb dX2_nodesOf_26 rfl (lv_at hl 3 rfl) ?_
          refine ai_ (D := D) (f := nd) (i := i) hx hb hK hP 2 0 rfl rfl (by omega) (by decide) dX2_nodesOf_27 ?_
          refine lv_ishl hx hb dX2_nodesOf_28 ?_
          refine lv_ior hx hb dX2_nodesOf_29 ?_
          refine lv_istore_n (lv' := [(2, .int ((bg nd x i) ||| ((1) <<< ((nd (i)) &&& 31)))), (0, .ref (ad 0)), (1, .int (x)), (3, .int (nI (i)))]) hx hb dX2_nodesOf_30 rfl hl (by decide) rfl (fun ls hl => ?_)
          refine lv_iinc (v := nI (i + 1)) (lv' := [(3, .int (nI (i + 1))), (2, .int ((bg nd x i) ||| ((1) <<< ((nd (i)) &&& 31)))), (0, .ref (ad 0)), (1, .int (x))]) hx hb dX2_nodesOf_31 hl (k := 3) rfl (nI_1 _) (by decide) rfl (fun ls hl => ?_)
          refine lv_goto (tgt := 4) hx hb dX2_nodesOf_34 (by decide) ?_
          exact ih (i + 1) _ _ (by omega) (by omega)  (by first | rfl | (simp [bg, sh1, c_9, c_17]; done) | (simp only [bg, sh1, c_9, c_17]; rfl) | (simp_all [bg, sh1, c_9, c_17]; done)) rfl ls (lv_sub hl [2, 3, 1, 0] rfl)
  refine lv_iconst (v := nI (0)) hx hb dX2_nodesOf_0 (by decide) ?_
  refine lv_istore_n (lv' := [(2, .int (nI (0))), (0, .ref (ad 0)), (1, .int (x))]) hx hb dX2_nodesOf_1 rfl hl (by decide) rfl (fun ls hl => ?_)
  refine lv_iconst (v := nI (0)) hx hb dX2_nodesOf_2 (by decide) ?_
  refine lv_istore_n (lv' := [(3, .int (nI (0))), (2, .int (nI (0))), (0, .ref (ad 0)), (1, .int (x))]) hx hb dX2_nodesOf_3 rfl hl (by decide) rfl (fun ls hl => ?_)
  exact lp_4 (A + 1) (0) _ _ (by omega) (by omega)  (by first | rfl | (simp [bg, sh1]; done) | (simp only [bg, sh1]; rfl) | (simp_all [bg, sh1]; done)) (by first | rfl | (simp [bg, sh1]; done) | (simp only [bg, sh1]; rfl) | (simp_all [bg, sh1]; done)) ls (lv_sub hl [2, 3, 1, 0] rfl)
set_option maxHeartbeats 4000000 in
set_option maxRecDepth 100000 in
theorem c_X2_weightOf (l : Launch) (D : va_G) (cI cZ : ClassId) (ad : Nat → Nat) (N : Nat) (A : Nat) (fl : Bool) (an : Nat → Int32) (nd : Nat → Int32) (wt : Nat → Int32) (B : Nat → Int32) (Hd : Nat → Int32) (O : Nat → Bool) (R : Nat) (HL : Nat → Int32) (LB : Nat → Int32) (SO : Nat → Bool) (NG : Nat → Bool) (WO : Nat → Bool) (SA : Nat) (SE : Nat) (x : Int32) (hA : A ≤ 9) : Met l yX2_weightOf wsX2_weightOf (({ frames := 1, cells := 0, slots := 0, locals := 21 })) (pcP D [(cI, .int), (cZ, .boolean)] (wK cI cZ ad N A fl an nd wt B Hd O R HL LB SO NG WO SA SE) [.ref (ad 0), .int (x)]) (vp_Si (fun v => v = wo wt x A)) 0 0 (fun _ => False) := by
  refine Met.ofW (cc := cX2_weightOf) (maxL := 4) (ret := (some .int)) (by decide) rfl ?_
  intro p e s m args below meth c s₁ BB hml hv
  obtain ⟨rfl, hP, hK⟩ := hv
  have hx := BB.exec
  have hb := BB.bytes
  have hrt := BB.returns
  have hts := atoms_spec (ws := wsX2_weightOf) BB.pre
  have hown : s.vm.findClass RX2 = some m.cls := findClass_of_methodNamed BB.named
  have hlk := BB.notSynchronized
  have f16 := hts (.fieldLink RX2 16 "AssumptionKeeper" "weights" "[I") (by decide +kernel)
  have f37 := hts (.fieldLink RX2 37 "AssumptionKeeper" "assumptions" "I") (by decide +kernel)
  have hin2 : ∀ w ∈ u_ws RX2 TX2 8, w ∈ wsX2_weightOf := by decide +kernel
  have hl := lv_entry ([.ref (ad 0), .int (x)]) (n := 4) (Nat.le_of_ble_eq_true rfl)
  rw [lg_entry_eq]
  generalize (lg_sl ([.ref (ad 0), .int (x)]) ++ List.replicate (4 - (lg_sl ([.ref (ad 0), .int (x)])).length) Slot.unset).toArray = ls at hl ⊢
  have hl : lv_has ls 4 [(0, .ref (ad 0)), (1, .int (x))] := hl
  have lp_4 : ∀ (n i : Nat) (v2 : Int32) (v3 : Int32), i ≤ A → A + 1 ≤ i + n → v2 = wo wt x i → v3 = nI (i) → ∀ ls : Array Slot, lv_has ls 4 [(0, .ref (ad 0)), (1, .int (x)), (2, .int (v2)), (3, .int (v3))] → W p l e (headSpec wsX2_weightOf ({ frames := 1, cells := 0, slots := 0, locals := 21 })).room s m ([.ref (ad 0), .int (x)]).toArray below meth c s.heap [] 0 0 (MQ below (vp_Si (fun v => v = wo wt x A)) ([.ref (ad 0), .int (x)]).toArray s 0 0 (fun _ => False)) (F0 m 4 ls []) := by
    intro n
    induction n with
    | zero => intro i v2 v3 h1 h2; exact absurd h2 (by omega)
    | succ n ih =>
      intro i v2 v3 hi_ hn_  e2 e3 ls hl
      subst e2 e3
      have hl : lv_has ls 4 [(0, .ref (ad 0)), (1, .int (x)), (2, .int (wo wt x i)), (3, .int (nI (i)))] := hl
      refine lv_iload_n hx hb dX2_weightOf_4 rfl (lv_at hl 3 rfl) ?_
      refine lv_aload_n hx hb dX2_weightOf_5 rfl (lv_at hl 0 rfl) ?_
      refine va_get (D := D) (ci := 2) (v := .int (nI (A))) (C := RX2) (T := TX2) (N := 8) hx hb hts hin2 hown hK.1 hP 0 rfl rfl 6 (by decide) f37 (fun _ h9 => h9) rfl dX2_weightOf_6 ?_
      refine lv_icmp_ge (tgt := 35) hx hb dX2_weightOf_9 (by decide) (fun c_9 => ?_) (fun c_9 => ?_)
      · skip
        have c_9 := (qI_le (a := A) (b := i) (by omega) (by omega)).mp c_9
        refine lv_iload_n hx hb dX2_weightOf_35 rfl (lv_at hl 2 rfl) ?_
        exact ri_ hx hb hrt hlk dX2_weightOf_36 (by obtain rfl : i = A := (by omega); rfl)
      · skip
        have c_9 := mt (qI_le (a := A) (b := i) (by omega) (by omega)).mpr c_9
        refine lv_iload_n hx hb dX2_weightOf_12 rfl (lv_at hl 1 rfl) ?_
        refine lv_iload_n hx hb dX2_weightOf_13 rfl (lv_at hl 3 rfl) ?_
        refine pu_i (va_runS (As := [.int (x), .int (nI (i))]) (rest := []) ⟨hx, hb, hml, hown, hts⟩ (c_X2_contains l D cI cZ ad (x) (nI (i)) ) (cwS 2 hts gX2_weightOf_X2_contains rfl rfl rfl (by decide +kernel) ⟨Nat.le_of_ble_eq_true rfl, Nat.le_of_ble_eq_true rfl⟩) (pre_S (hP.sub (ws' := ([] : va_W)) [] rfl) hK) rfl rfl hl.1 rfl (lv_room (Nat.le_of_ble_eq_true rfl)) dX2_weightOf_14 ⟨Nat.zero_le _, Nat.zero_le _⟩) ?_
        refine lv_if_eq (tgt := 29) hx hb dX2_weightOf_17 (by decide) (fun c_17 => ?_) (fun c_17 => ?_)
        · skip
          have c_17 := bI_eq0 c_17
          refine lv_iinc (v := nI (i + 1)) (lv' := [(3, .int (nI (i + 1))), (0, .ref (ad 0)), (1, .int (x)), (2, .int (wo wt x i))]) hx hb dX2_weightOf_29 hl (k := 3) rfl (nI_1 _) (by decide) rfl (fun ls hl => ?_)
          refine lv_goto (tgt := 4) hx hb dX2_weightOf_32 (by decide) ?_
          exact ih (i + 1) _ _ (by omega) (by omega)  (by first | rfl | (simp [wo, c_9, c_17]; done) | (simp only [wo, c_9, c_17]; rfl) | (simp_all [wo, c_9, c_17]; done)) rfl ls (lv_sub hl [1, 2, 3, 0] rfl)
        · skip
          have c_17 := bI_ne0 c_17
          refine lv_iload_n hx hb dX2_weightOf_20 rfl (lv_at hl 2 rfl) ?_
          refine lv_aload_n hx hb dX2_weightOf_21 rfl (lv_at hl 0 rfl) ?_
          refine va_get (D := D) (ci := 2) (v := .ref (ad 3)) (C := RX2) (T := TX2) (N := 8) hx hb hts hin2 hown hK.1 hP 0 rfl rfl 2 (by decide) f16 (fun _ h9 => h9) rfl dX2_weightOf_22 ?_
          refine lv_iload_n hx hb dX2_weightOf_25 rfl (lv_at hl 3 rfl) ?_
          refine ai_ (D := D) (f := wt) (i := i) hx hb hK hP 3 0 rfl rfl (by omega) (by decide) dX2_weightOf_26 ?_
          refine lv_iadd hx hb dX2_weightOf_27 ?_
          refine lv_istore_n (lv' := [(2, .int ((wo wt x i) + (wt (i)))), (0, .ref (ad 0)), (1, .int (x)), (3, .int (nI (i)))]) hx hb dX2_weightOf_28 rfl hl (by decide) rfl (fun ls hl => ?_)
          refine lv_iinc (v := nI (i + 1)) (lv' := [(3, .int (nI (i + 1))), (2, .int ((wo wt x i) + (wt (i)))), (0, .ref (ad 0)), (1, .int (x))]) hx hb dX2_weightOf_29 hl (k := 3) rfl (nI_1 _) (by decide) rfl (fun ls hl => ?_)
          refine lv_goto (tgt := 4) hx hb dX2_weightOf_32 (by decide) ?_
          exact ih (i + 1) _ _ (by omega) (by omega)  (by first | rfl | (simp [wo, c_9, c_17]; done) | (simp only [wo, c_9, c_17]; rfl) | (simp_all [wo, c_9, c_17]; done)) rfl ls (lv_sub hl [2, 3, 1, 0] rfl)
  refine lv_iconst (v := nI (0)) hx hb dX2_weightOf_0 (by decide) ?_
  refine lv_istore_n (lv' := [(2, .int (nI (0))), (0, .ref (ad 0)), (1, .int (x))]) hx hb dX2_weightOf_1 rfl hl (by decide) rfl (fun ls hl => ?_)
  refine lv_iconst (v := nI (0)) hx hb dX2_weightOf_2 (by decide) ?_
  refine lv_istore_n (lv' := [(3, .int (nI (0))), (2, .int (nI (0))), (0, .ref (ad 0)), (1, .int (x))]) hx hb dX2_weightOf_3 rfl hl (by decide) rfl (fun ls hl => ?_)
  exact lp_4 (A + 1) (0) _ _ (by omega) (by omega)  (by first | rfl | (simp [wo]; done) | (simp only [wo]; rfl) | (simp_all [wo]; done)) (by first | rfl | (simp [wo]; done) | (simp only [wo]; rfl) | (simp_all [wo]; done)) ls (lv_sub hl [2, 3, 1, 0] rfl)
set_option maxHeartbeats 4000000 in
set_option maxRecDepth 100000 in
theorem c_X2_heaviestOutside (l : Launch) (D : va_G) (cI cZ : ClassId) (ad : Nat → Nat) (N : Nat) (A : Nat) (fl : Bool) (an : Nat → Int32) (nd : Nat → Int32) (wt : Nat → Int32) (B : Nat → Int32) (Hd : Nat → Int32) (O : Nat → Bool) (R : Nat) (HL : Nat → Int32) (LB : Nat → Int32) (SO : Nat → Bool) (NG : Nat → Bool) (WO : Nat → Bool) (SA : Nat) (SE : Nat) (x : Int32) (hA : A ≤ 9) : Met l yX2_heaviestOutside wsX2_heaviestOutside (({ frames := 1, cells := 0, slots := 0, locals := 21 })) (pcP D [(cI, .int), (cZ, .boolean)] (wK cI cZ ad N A fl an nd wt B Hd O R HL LB SO NG WO SA SE) [.ref (ad 0), .int (x)]) (vp_Si (fun v => v = (hvO wt x A).1)) 0 0 (fun _ => False) := by
  refine Met.ofW (cc := cX2_heaviestOutside) (maxL := 5) (ret := (some .int)) (by decide) rfl ?_
  intro p e s m args below meth c s₁ BB hml hv
  obtain ⟨rfl, hP, hK⟩ := hv
  have hx := BB.exec
  have hb := BB.bytes
  have hrt := BB.returns
  have hts := atoms_spec (ws := wsX2_heaviestOutside) BB.pre
  have hown : s.vm.findClass RX2 = some m.cls := findClass_of_methodNamed BB.named
  have hlk := BB.notSynchronized
  have f16 := hts (.fieldLink RX2 16 "AssumptionKeeper" "weights" "[I") (by decide +kernel)
  have f37 := hts (.fieldLink RX2 37 "AssumptionKeeper" "assumptions" "I") (by decide +kernel)
  have hin2 : ∀ w ∈ u_ws RX2 TX2 8, w ∈ wsX2_heaviestOutside := by decide +kernel
  have hl := lv_entry ([.ref (ad 0), .int (x)]) (n := 5) (Nat.le_of_ble_eq_true rfl)
  rw [lg_entry_eq]
  generalize (lg_sl ([.ref (ad 0), .int (x)]) ++ List.replicate (5 - (lg_sl ([.ref (ad 0), .int (x)])).length) Slot.unset).toArray = ls at hl ⊢
  have hl : lv_has ls 5 [(0, .ref (ad 0)), (1, .int (x))] := hl
  have lp_7 : ∀ (n i : Nat) (v2 : Int32) (v3 : Int32) (v4 : Int32), i ≤ A → A + 1 ≤ i + n → v2 = (hvO wt x i).1 → v3 = (hvO wt x i).2 → v4 = nI (i) → ∀ ls : Array Slot, lv_has ls 5 [(0, .ref (ad 0)), (1, .int (x)), (2, .int (v2)), (3, .int (v3)), (4, .int (v4))] → W p l e (headSpec wsX2_heaviestOutside ({ frames := 1, cells := 0, slots := 0, locals := 21 })).room s m ([.ref (ad 0), .int (x)]).toArray below meth c s.heap [] 0 0 (MQ below (vp_Si (fun v => v = (hvO wt x A).1)) ([.ref (ad 0), .int (x)]).toArray s 0 0 (fun _ => False)) (F0 m 7 ls []) := by
    intro n
    induction n with
    | zero => intro i v2 v3 v4 h1 h2; exact absurd h2 (by omega)
    | succ n ih =>
      intro i v2 v3 v4 hi_ hn_  e2 e3 e4 ls hl
      subst e2 e3 e4
      have hl : lv_has ls 5 [(0, .ref (ad 0)), (1, .int (x)), (2, .int ((hvO wt x i).1)), (3, .int ((hvO wt x i).2)), (4, .int (nI (i)))] := hl
      refine lv_iload hx hb dX2_heaviestOutside_7 (lv_at hl 4 rfl) ?_
      refine lv_aload_n hx hb dX2_heaviestOutside_9 rfl (lv_at hl 0 rfl) ?_
      refine va_get (D := D) (ci := 2) (v := .int (nI (A))) (C := RX2) (T := TX2) (N := 8) hx hb hts hin2 hown hK.1 hP 0 rfl rfl 6 (by decide) f37 (fun _ h9 => h9) rfl dX2_heaviestOutside_10 ?_
      refine lv_icmp_ge (tgt := 53) hx hb dX2_heaviestOutside_13 (by decide) (fun c_13 => ?_) (fun c_13 => ?_)
      · skip
        have c_13 := (qI_le (a := A) (b := i) (by omega) (by omega)).mp c_13
        refine lv_iload_n hx hb dX2_heaviestOutside_53 rfl (lv_at hl 2 rfl) ?_
        exact ri_ hx hb hrt hlk dX2_heaviestOutside_54 (by obtain rfl : i = A := (by omega); rfl)
      · skip
        have c_13 := mt (qI_le (a := A) (b := i) (by omega) (by omega)).mpr c_13
        refine lv_iload_n hx hb dX2_heaviestOutside_16 rfl (lv_at hl 1 rfl) ?_
        refine lv_iload hx hb dX2_heaviestOutside_17 (lv_at hl 4 rfl) ?_
        refine pu_i (va_runS (As := [.int (x), .int (nI (i))]) (rest := []) ⟨hx, hb, hml, hown, hts⟩ (c_X2_contains l D cI cZ ad (x) (nI (i)) ) (cwS 2 hts gX2_heaviestOutside_X2_contains rfl rfl rfl (by decide +kernel) ⟨Nat.le_of_ble_eq_true rfl, Nat.le_of_ble_eq_true rfl⟩) (pre_S (hP.sub (ws' := ([] : va_W)) [] rfl) hK) rfl rfl hl.1 rfl (lv_room (Nat.le_of_ble_eq_true rfl)) dX2_heaviestOutside_19 ⟨Nat.zero_le _, Nat.zero_le _⟩) ?_
        refine lv_if_ne (tgt := 47) hx hb dX2_heaviestOutside_22 (by decide) (fun c_22 => ?_) (fun c_22 => ?_)
        · skip
          have c_22 := bI_ne0 c_22
          refine lv_iinc (v := nI (i + 1)) (lv' := [(4, .int (nI (i + 1))), (0, .ref (ad 0)), (1, .int (x)), (2, .int ((hvO wt x i).1)), (3, .int ((hvO wt x i).2))]) hx hb dX2_heaviestOutside_47 hl (k := 4) rfl (nI_1 _) (by decide) rfl (fun ls hl => ?_)
          refine lv_goto (tgt := 7) hx hb dX2_heaviestOutside_50 (by decide) ?_
          exact ih (i + 1) _ _ _ (by omega) (by omega)  (by first | rfl | (simp [hvO, c_13, c_22]; done) | (simp only [hvO, c_13, c_22]; rfl) | (simp_all [hvO, c_13, c_22]; done)) (by first | rfl | (simp [hvO, c_13, c_22]; done) | (simp only [hvO, c_13, c_22]; rfl) | (simp_all [hvO, c_13, c_22]; done)) rfl ls (lv_sub hl [1, 2, 3, 4, 0] rfl)
        · skip
          have c_22 := bI_eq0 c_22
          refine lv_aload_n hx hb dX2_heaviestOutside_25 rfl (lv_at hl 0 rfl) ?_
          refine va_get (D := D) (ci := 2) (v := .ref (ad 3)) (C := RX2) (T := TX2) (N := 8) hx hb hts hin2 hown hK.1 hP 0 rfl rfl 2 (by decide) f16 (fun _ h9 => h9) rfl dX2_heaviestOutside_26 ?_
          refine lv_iload hx hb dX2_heaviestOutside_29 (lv_at hl 4 rfl) ?_
          refine ai_ (D := D) (f := wt) (i := i) hx hb hK hP 3 0 rfl rfl (by omega) (by decide) dX2_heaviestOutside_31 ?_
          refine lv_iload_n hx hb dX2_heaviestOutside_32 rfl (lv_at hl 3 rfl) ?_
          refine lv_icmp_le (tgt := 47) hx hb dX2_heaviestOutside_33 (by decide) (fun c_33 => ?_) (fun c_33 => ?_)
          · skip
            refine lv_iinc (v := nI (i + 1)) (lv' := [(4, .int (nI (i + 1))), (0, .ref (ad 0)), (1, .int (x)), (2, .int ((hvO wt x i).1)), (3, .int ((hvO wt x i).2))]) hx hb dX2_heaviestOutside_47 hl (k := 4) rfl (nI_1 _) (by decide) rfl (fun ls hl => ?_)
            refine lv_goto (tgt := 7) hx hb dX2_heaviestOutside_50 (by decide) ?_
            exact ih (i + 1) _ _ _ (by omega) (by omega)  (by first | rfl | (simp [hvO, c_13, c_22, c_33]; done) | (simp only [hvO, c_13, c_22, c_33]; rfl) | (simp_all [hvO, c_13, c_22, c_33]; done)) (by first | rfl | (simp [hvO, c_13, c_22, c_33]; done) | (simp only [hvO, c_13, c_22, c_33]; rfl) | (simp_all [hvO, c_13, c_22, c_33]; done)) rfl ls (lv_sub hl [1, 2, 3, 4, 0] rfl)
          · skip
            refine lv_iload hx hb dX2_heaviestOutside_36 (lv_at hl 4 rfl) ?_
            refine lv_istore_n (lv' := [(2, .int (nI (i))), (0, .ref (ad 0)), (1, .int (x)), (3, .int ((hvO wt x i).2)), (4, .int (nI (i)))]) hx hb dX2_heaviestOutside_38 rfl hl (by decide) rfl (fun ls hl => ?_)
            refine lv_aload_n hx hb dX2_heaviestOutside_39 rfl (lv_at hl 1 rfl) ?_
            refine va_get (D := D) (ci := 2) (v := .ref (ad 3)) (C := RX2) (T := TX2) (N := 8) hx hb hts hin2 hown hK.1 hP 0 rfl rfl 2 (by decide) f16 (fun _ h9 => h9) rfl dX2_heaviestOutside_40 ?_
            refine lv_iload hx hb dX2_heaviestOutside_43 (lv_at hl 4 rfl) ?_
            refine ai_ (D := D) (f := wt) (i := i) hx hb hK hP 3 0 rfl rfl (by omega) (by decide) dX2_heaviestOutside_45 ?_
            refine lv_istore_n (lv' := [(3, .int (wt (i))), (2, .int (nI (i))), (0, .ref (ad 0)), (1, .int (x)), (4, .int (nI (i)))]) hx hb dX2_heaviestOutside_46 rfl hl (by decide) rfl (fun ls hl => ?_)
            refine lv_iinc (v := nI (i + 1)) (lv' := [(4, .int (nI (i + 1))), (3, .int (wt (i))), (2, .int (nI (i))), (0, .ref (ad 0)), (1, .int (x))]) hx hb dX2_heaviestOutside_47 hl (k := 4) rfl (nI_1 _) (by decide) rfl (fun ls hl => ?_)
            refine lv_goto (tgt := 7) hx hb dX2_heaviestOutside_50 (by decide) ?_
            exact ih (i + 1) _ _ _ (by omega) (by omega)  (by first | rfl | (simp [hvO, c_13, c_22, c_33]; done) | (simp only [hvO, c_13, c_22, c_33]; rfl) | (simp_all [hvO, c_13, c_22, c_33]; done)) (by first | rfl | (simp [hvO, c_13, c_22, c_33]; done) | (simp only [hvO, c_13, c_22, c_33]; rfl) | (simp_all [hvO, c_13, c_22, c_33]; done)) rfl ls (lv_sub hl [3, 4, 2, 1, 0] rfl)
  refine lv_iconst (v := -1) hx hb dX2_heaviestOutside_0 (by decide) ?_
  refine lv_istore_n (lv' := [(2, .int (-1)), (0, .ref (ad 0)), (1, .int (x))]) hx hb dX2_heaviestOutside_1 rfl hl (by decide) rfl (fun ls hl => ?_)
  refine lv_iconst (v := nI (0)) hx hb dX2_heaviestOutside_2 (by decide) ?_
  refine lv_istore_n (lv' := [(3, .int (nI (0))), (2, .int (-1)), (0, .ref (ad 0)), (1, .int (x))]) hx hb dX2_heaviestOutside_3 rfl hl (by decide) rfl (fun ls hl => ?_)
  refine lv_iconst (v := nI (0)) hx hb dX2_heaviestOutside_4 (by decide) ?_
  refine lv_istore (lv' := [(4, .int (nI (0))), (3, .int (nI (0))), (2, .int (-1)), (0, .ref (ad 0)), (1, .int (x))]) hx hb dX2_heaviestOutside_5 hl (by decide) rfl (fun ls hl => ?_)
  exact lp_7 (A + 1) (0) _ _ _ (by omega) (by omega)  (by first | rfl | (simp [hvO]; done) | (simp only [hvO]; rfl) | (simp_all [hvO]; done)) (by first | rfl | (simp [hvO]; done) | (simp only [hvO]; rfl) | (simp_all [hvO]; done)) (by first | rfl | (simp [hvO]; done) | (simp only [hvO]; rfl) | (simp_all [hvO]; done)) ls (lv_sub hl [3, 4, 2, 1, 0] rfl)
set_option maxHeartbeats 4000000 in
set_option maxRecDepth 100000 in
theorem c_X2_isFreeOfContradiction (l : Launch) (D : va_G) (cI cZ : ClassId) (ad : Nat → Nat) (N : Nat) (A : Nat) (fl : Bool) (an : Nat → Int32) (nd : Nat → Int32) (wt : Nat → Int32) (B : Nat → Int32) (Hd : Nat → Int32) (O : Nat → Bool) (R : Nat) (HL : Nat → Int32) (LB : Nat → Int32) (SO : Nat → Bool) (NG : Nat → Bool) (WO : Nat → Bool) (SA : Nat) (SE : Nat) (x : Int32) (hA : A ≤ 9) (hR : R ≤ 40) : Met l yX2_isFreeOfContradiction wsX2_isFreeOfContradiction (({ frames := 3, cells := 0, slots := 0, locals := 69 })) (pcP D [(cI, .int), (cZ, .boolean)] (wK cI cZ ad N A fl an nd wt B Hd O R HL LB SO NG WO SA SE) [.ref (ad 0), .int (x)]) (vp_Si (fun v => v = bI (!(ct B Hd O R (clo B Hd O R (bg nd x A)))))) 0 0 (fun _ => False) := by
  refine Met.ofW (cc := cX2_isFreeOfContradiction) (maxL := 2) (ret := (some .boolean)) (by decide) rfl ?_
  intro p e s m args below meth c s₁ BB hml hv
  obtain ⟨rfl, hP, hK⟩ := hv
  have hx := BB.exec
  have hb := BB.bytes
  have hrt := BB.returns
  have hts := atoms_spec (ws := wsX2_isFreeOfContradiction) BB.pre
  have hown : s.vm.findClass RX2 = some m.cls := findClass_of_methodNamed BB.named
  have hlk := BB.notSynchronized
  have f22 := hts (.fieldLink RX2 22 "AssumptionKeeper" "rules" "LAssumptionKeeper$RuleBook;") (by decide +kernel)
  have hin2 : ∀ w ∈ u_ws RX2 TX2 8, w ∈ wsX2_isFreeOfContradiction := by decide +kernel
  have hl := lv_entry ([.ref (ad 0), .int (x)]) (n := 2) (Nat.le_of_ble_eq_true rfl)
  rw [lg_entry_eq]
  generalize (lg_sl ([.ref (ad 0), .int (x)]) ++ List.replicate (2 - (lg_sl ([.ref (ad 0), .int (x)])).length) Slot.unset).toArray = ls at hl ⊢
  have hl : lv_has ls 2 [(0, .ref (ad 0)), (1, .int (x))] := hl
  refine lv_aload_n hx hb dX2_isFreeOfContradiction_0 rfl (lv_at hl 0 rfl) ?_
  refine va_get (D := D) (ci := 2) (v := .ref (ad 4)) (C := RX2) (T := TX2) (N := 8) hx hb hts hin2 hown hK.1 hP 0 rfl rfl 3 (by decide) f22 (fun _ h9 => h9) rfl dX2_isFreeOfContradiction_1 ?_
  refine lv_aload_n hx hb dX2_isFreeOfContradiction_4 rfl (lv_at hl 0 rfl) ?_
  refine va_get (D := D) (ci := 2) (v := .ref (ad 4)) (C := RX2) (T := TX2) (N := 8) hx hb hts hin2 hown hK.1 hP 0 rfl rfl 3 (by decide) f22 (fun _ h9 => h9) rfl dX2_isFreeOfContradiction_5 ?_
  refine lv_aload_n hx hb dX2_isFreeOfContradiction_8 rfl (lv_at hl 0 rfl) ?_
  refine lv_iload_n hx hb dX2_isFreeOfContradiction_9 rfl (lv_at hl 1 rfl) ?_
  refine pu_i (va_runV (As := [.int (x)]) (rest := [.ref (ad 4), .ref (ad 4)]) ⟨hx, hb, hml, hown, hts⟩ (c_X2_nodesOf l D cI cZ ad (N) (A) (fl) (an) (nd) (wt) (B) (Hd) (O) (R) (HL) (LB) (SO) (NG) (WO) (SA) (SE) (x) (by omega)) (cwV 1 hts gX2_isFreeOfContradiction_X2_nodesOf rfl rfl rfl (by decide +kernel) ⟨Nat.le_of_ble_eq_true rfl, Nat.le_of_ble_eq_true rfl⟩) (pre_V (q0 := 0) (ci := 2) (hP.sub (ws' := (wK cI cZ ad N A fl an nd wt B Hd O R HL LB SO NG WO SA SE)) [0, 1, 2, 3, 4, 5, 6, 7, 8, 9, 10, 11, 12, 13] rfl) hK rfl rfl) rfl rfl hl.1 rfl (lv_room (Nat.le_of_ble_eq_true rfl)) dX2_isFreeOfContradiction_10 ⟨Nat.zero_le _, Nat.zero_le _⟩) ?_
  refine pu_i (va_runV (As := [.int (bg nd x A)]) (rest := [.ref (ad 4)]) ⟨hx, hb, hml, hown, hts⟩ (c_X0_closure l D cI cZ (fun k => ad (k + 4)) (B) (Hd) (O) (R) (bg nd x A) (by omega)) (cwV 1 hts gX2_isFreeOfContradiction_X0_closure rfl rfl rfl (by decide +kernel) ⟨Nat.le_of_ble_eq_true rfl, Nat.le_of_ble_eq_true rfl⟩) (pre_V (q0 := 0) (ci := 0) (hP.sub (ws' := (wR cI cZ (fun k => ad (k + 4)) B Hd O R)) [4, 5, 6, 7] rfl) hK rfl rfl) rfl rfl hl.1 rfl (lv_room (Nat.le_of_ble_eq_true rfl)) dX2_isFreeOfContradiction_13 ⟨Nat.zero_le _, Nat.zero_le _⟩) ?_
  refine pu_i (va_runV (As := [.int (clo B Hd O R (bg nd x A))]) (rest := []) ⟨hx, hb, hml, hown, hts⟩ (c_X0_contradict l D cI cZ (fun k => ad (k + 4)) (B) (Hd) (O) (R) (clo B Hd O R (bg nd x A)) (by omega)) (cwV 1 hts gX2_isFreeOfContradiction_X0_contradict rfl rfl rfl (by decide +kernel) ⟨Nat.le_of_ble_eq_true rfl, Nat.le_of_ble_eq_true rfl⟩) (pre_V (q0 := 0) (ci := 0) (hP.sub (ws' := (wR cI cZ (fun k => ad (k + 4)) B Hd O R)) [4, 5, 6, 7] rfl) hK rfl rfl) rfl rfl hl.1 rfl (lv_room (Nat.le_of_ble_eq_true rfl)) dX2_isFreeOfContradiction_16 ⟨Nat.zero_le _, Nat.zero_le _⟩) ?_
  refine lv_if_ne (tgt := 26) hx hb dX2_isFreeOfContradiction_19 (by decide) (fun c_19 => ?_) (fun c_19 => ?_)
  · skip
    have c_19 := bI_ne0 c_19
    refine lv_iconst (v := 0) hx hb dX2_isFreeOfContradiction_26 (by decide) ?_
    exact rz_ (v := false) hx hb hrt hlk dX2_isFreeOfContradiction_27 (by first | rfl | (simp [c_19]; done) | (simp only [c_19]; rfl) | (simp_all [c_19]; done))
  · skip
    have c_19 := bI_eq0 c_19
    refine lv_iconst (v := 1) hx hb dX2_isFreeOfContradiction_22 (by decide) ?_
    refine lv_goto (tgt := 27) hx hb dX2_isFreeOfContradiction_23 (by decide) ?_
    exact rz_ (v := true) hx hb hrt hlk dX2_isFreeOfContradiction_27 (by first | rfl | (simp [c_19]; done) | (simp only [c_19]; rfl) | (simp_all [c_19]; done))
