set_option maxHeartbeats 4000000 in
set_option maxRecDepth 100000 in
theorem c_X3_isWeight (l : Launch) (D : va_G) (cI cZ : ClassId) (ad : Nat → Nat) (x : Int32) : Met l yX3_isWeight wsX3_isWeight (({ frames := 0, cells := 0, slots := 0, locals := 0 })) (pcP D [(cI, .int), (cZ, .boolean)] ([] : va_W) [.int (x)]) (vp_Si (fun v => v = bI (okW x))) 0 0 (fun _ => False) := by
  refine Met.ofW (cc := cX3_isWeight) (maxL := 1) (ret := (some .boolean)) (by decide) rfl ?_
  intro p e s m args below meth c s₁ BB hml hv
  obtain ⟨rfl, hP, hK⟩ := hv
  have hx := BB.exec
  have hb := BB.bytes
  have hrt := BB.returns
  have hts := atoms_spec (ws := wsX3_isWeight) BB.pre
  have hown : s.vm.findClass RX3 = some m.cls := findClass_of_methodNamed BB.named
  have hlk := BB.notSynchronized
  have hl := lv_entry ([.int (x)]) (n := 1) (Nat.le_of_ble_eq_true rfl)
  rw [lg_entry_eq]
  generalize (lg_sl ([.int (x)]) ++ List.replicate (1 - (lg_sl ([.int (x)])).length) Slot.unset).toArray = ls at hl ⊢
  have hl : lv_has ls 1 [(0, .int (x))] := hl
  refine lv_iload_n hx hb dX3_isWeight_0 rfl (lv_at hl 0 rfl) ?_
  refine lv_iconst (v := nI (1)) hx hb dX3_isWeight_1 (by decide) ?_
  refine lv_icmp_lt (tgt := 15) hx hb dX3_isWeight_2 (by decide) (fun c_2 => ?_) (fun c_2 => ?_)
  · skip
    refine lv_iconst (v := 0) hx hb dX3_isWeight_15 (by decide) ?_
    exact rz_ (v := false) hx hb hrt hlk dX3_isWeight_16 (by first | rfl | (simp [okW, c_2]; done) | (simp only [okW, c_2]; rfl) | (simp_all [okW, c_2]; done))
  · skip
    refine lv_iload_n hx hb dX3_isWeight_5 rfl (lv_at hl 0 rfl) ?_
    refine lv_bipush (v := nI (100)) hx hb dX3_isWeight_6 (by decide) ?_
    refine lv_icmp_gt (tgt := 15) hx hb dX3_isWeight_8 (by decide) (fun c_8 => ?_) (fun c_8 => ?_)
    · skip
      refine lv_iconst (v := 0) hx hb dX3_isWeight_15 (by decide) ?_
      exact rz_ (v := false) hx hb hrt hlk dX3_isWeight_16 (by first | rfl | (simp [okW, c_2, c_8]; done) | (simp only [okW, c_2, c_8]; rfl) | (simp_all [okW, c_2, c_8]; done))
    · skip
      refine lv_iconst (v := 1) hx hb dX3_isWeight_11 (by decide) ?_
      refine lv_goto (tgt := 16) hx hb dX3_isWeight_12 (by decide) ?_
      exact rz_ (v := true) hx hb hrt hlk dX3_isWeight_16 (by first | rfl | (simp [okW, c_2, c_8]; done) | (simp only [okW, c_2, c_8]; rfl) | (simp_all [okW, c_2, c_8]; done))
set_option maxHeartbeats 4000000 in
set_option maxRecDepth 100000 in
theorem c_X3_isIn (l : Launch) (D : va_G) (cI cZ : ClassId) (ad : Nat → Nat) (x : Int32) (y : Int32) : Met l yX3_isIn wsX3_isIn (({ frames := 0, cells := 0, slots := 0, locals := 0 })) (pcP D [(cI, .int), (cZ, .boolean)] ([] : va_W) [.int (x), .int (y)]) (vp_Si (fun v => v = bI (inn x y))) 0 0 (fun _ => False) := by
  refine Met.ofW (cc := cX3_isIn) (maxL := 2) (ret := (some .boolean)) (by decide) rfl ?_
  intro p e s m args below meth c s₁ BB hml hv
  obtain ⟨rfl, hP, hK⟩ := hv
  have hx := BB.exec
  have hb := BB.bytes
  have hrt := BB.returns
  have hts := atoms_spec (ws := wsX3_isIn) BB.pre
  have hown : s.vm.findClass RX3 = some m.cls := findClass_of_methodNamed BB.named
  have hlk := BB.notSynchronized
  have hl := lv_entry ([.int (x), .int (y)]) (n := 2) (Nat.le_of_ble_eq_true rfl)
  rw [lg_entry_eq]
  generalize (lg_sl ([.int (x), .int (y)]) ++ List.replicate (2 - (lg_sl ([.int (x), .int (y)])).length) Slot.unset).toArray = ls at hl ⊢
  have hl : lv_has ls 2 [(0, .int (x)), (1, .int (y))] := hl
  refine lv_iload_n hx hb dX3_isIn_0 rfl (lv_at hl 0 rfl) ?_
  refine lv_iload_n hx hb dX3_isIn_1 rfl (lv_at hl 1 rfl) ?_
  refine lv_iconst (v := -1) hx hb dX3_isIn_2 (by decide) ?_
  refine lv_ixor hx hb dX3_isIn_3 ?_
  refine lv_iand hx hb dX3_isIn_4 ?_
  refine lv_if_ne (tgt := 12) hx hb dX3_isIn_5 (by decide) (fun c_5 => ?_) (fun c_5 => ?_)
  · skip
    refine lv_iconst (v := 0) hx hb dX3_isIn_12 (by decide) ?_
    exact rz_ (v := false) hx hb hrt hlk dX3_isIn_13 (by first | rfl | (simp [inn, c_5]; done) | (simp only [inn, c_5]; rfl) | (simp_all [inn, c_5]; done))
  · skip
    refine lv_iconst (v := 1) hx hb dX3_isIn_8 (by decide) ?_
    refine lv_goto (tgt := 13) hx hb dX3_isIn_9 (by decide) ?_
    exact rz_ (v := true) hx hb hrt hlk dX3_isIn_13 (by first | rfl | (simp [inn, c_5]; done) | (simp only [inn, c_5]; rfl) | (simp_all [inn, c_5]; done))
set_option maxHeartbeats 4000000 in
set_option maxRecDepth 100000 in
theorem c_X3_isNode (l : Launch) (D : va_G) (cI cZ : ClassId) (ad : Nat → Nat) (th : Int32) (N : Nat) (A : Nat) (R : Nat) (kw : Bool) (an : Nat → Int32) (nd : Nat → Int32) (wt : Nat → Int32) (B : Nat → Int32) (Hd : Nat → Int32) (O : Nat → Bool) (HL : Nat → Int32) (CO : Nat → Bool) (x : Int32) : Met l yX3_isNode wsX3_isNode (({ frames := 0, cells := 0, slots := 0, locals := 0 })) (pcP D [(cI, .int), (cZ, .boolean)] (wM cI cZ ad th N A R kw an nd wt B Hd O HL CO) [.ref (ad 0), .int (x)]) (vp_Si (fun v => v = bI (inR x N))) 0 0 (fun _ => False) := by
  refine Met.ofW (cc := cX3_isNode) (maxL := 2) (ret := (some .boolean)) (by decide) rfl ?_
  intro p e s m args below meth c s₁ BB hml hv
  obtain ⟨rfl, hP, hK⟩ := hv
  have hx := BB.exec
  have hb := BB.bytes
  have hrt := BB.returns
  have hts := atoms_spec (ws := wsX3_isNode) BB.pre
  have hown : s.vm.findClass RX3 = some m.cls := findClass_of_methodNamed BB.named
  have hlk := BB.notSynchronized
  have f39 := hts (.fieldLink RX3 39 "AssumptionKeeperModel" "nodes" "I") (by decide +kernel)
  have hin3 : ∀ w ∈ u_ws RX3 TX3 13, w ∈ wsX3_isNode := by decide +kernel
  have hl := lv_entry ([.ref (ad 0), .int (x)]) (n := 2) (Nat.le_of_ble_eq_true rfl)
  rw [lg_entry_eq]
  generalize (lg_sl ([.ref (ad 0), .int (x)]) ++ List.replicate (2 - (lg_sl ([.ref (ad 0), .int (x)])).length) Slot.unset).toArray = ls at hl ⊢
  have hl : lv_has ls 2 [(0, .ref (ad 0)), (1, .int (x))] := hl
  refine lv_iload_n hx hb dX3_isNode_0 rfl (lv_at hl 1 rfl) ?_
  refine lv_if_lt (tgt := 16) hx hb dX3_isNode_1 (by decide) (fun c_1 => ?_) (fun c_1 => ?_)
  · skip
    refine lv_iconst (v := 0) hx hb dX3_isNode_16 (by decide) ?_
    exact rz_ (v := false) hx hb hrt hlk dX3_isNode_17 (by first | rfl | (simp [inR, c_1]; done) | (simp only [inR, c_1]; rfl) | (simp_all [inR, c_1]; done))
  · skip
    refine lv_iload_n hx hb dX3_isNode_4 rfl (lv_at hl 1 rfl) ?_
    refine lv_aload_n hx hb dX3_isNode_5 rfl (lv_at hl 0 rfl) ?_
    refine va_get (D := D) (ci := 3) (v := .int (nI (N))) (C := RX3) (T := TX3) (N := 13) hx hb hts hin3 hown hK.1 hP 0 rfl rfl 1 (by decide) f39 (fun _ h9 => h9) rfl dX3_isNode_6 ?_
    refine lv_icmp_ge (tgt := 16) hx hb dX3_isNode_9 (by decide) (fun c_9 => ?_) (fun c_9 => ?_)
    · skip
      refine lv_iconst (v := 0) hx hb dX3_isNode_16 (by decide) ?_
      exact rz_ (v := false) hx hb hrt hlk dX3_isNode_17 (by first | rfl | (simp [inR, c_1, c_9]; done) | (simp only [inR, c_1, c_9]; rfl) | (simp_all [inR, c_1, c_9]; done))
    · skip
      refine lv_iconst (v := 1) hx hb dX3_isNode_12 (by decide) ?_
      refine lv_goto (tgt := 17) hx hb dX3_isNode_13 (by decide) ?_
      exact rz_ (v := true) hx hb hrt hlk dX3_isNode_17 (by first | rfl | (simp [inR, c_1, c_9]; done) | (simp only [inR, c_1, c_9]; rfl) | (simp_all [inR, c_1, c_9]; done))
set_option maxHeartbeats 4000000 in
set_option maxRecDepth 100000 in
theorem c_X3_isAssumption (l : Launch) (D : va_G) (cI cZ : ClassId) (ad : Nat → Nat) (th : Int32) (N : Nat) (A : Nat) (R : Nat) (kw : Bool) (an : Nat → Int32) (nd : Nat → Int32) (wt : Nat → Int32) (B : Nat → Int32) (Hd : Nat → Int32) (O : Nat → Bool) (HL : Nat → Int32) (CO : Nat → Bool) (x : Int32) : Met l yX3_isAssumption wsX3_isAssumption (({ frames := 0, cells := 0, slots := 0, locals := 0 })) (pcP D [(cI, .int), (cZ, .boolean)] (wM cI cZ ad th N A R kw an nd wt B Hd O HL CO) [.ref (ad 0), .int (x)]) (vp_Si (fun v => v = bI (inR x A))) 0 0 (fun _ => False) := by
  refine Met.ofW (cc := cX3_isAssumption) (maxL := 2) (ret := (some .boolean)) (by decide) rfl ?_
  intro p e s m args below meth c s₁ BB hml hv
  obtain ⟨rfl, hP, hK⟩ := hv
  have hx := BB.exec
  have hb := BB.bytes
  have hrt := BB.returns
  have hts := atoms_spec (ws := wsX3_isAssumption) BB.pre
  have hown : s.vm.findClass RX3 = some m.cls := findClass_of_methodNamed BB.named
  have hlk := BB.notSynchronized
  have f42 := hts (.fieldLink RX3 42 "AssumptionKeeperModel" "assumptions" "I") (by decide +kernel)
  have hin3 : ∀ w ∈ u_ws RX3 TX3 13, w ∈ wsX3_isAssumption := by decide +kernel
  have hl := lv_entry ([.ref (ad 0), .int (x)]) (n := 2) (Nat.le_of_ble_eq_true rfl)
  rw [lg_entry_eq]
  generalize (lg_sl ([.ref (ad 0), .int (x)]) ++ List.replicate (2 - (lg_sl ([.ref (ad 0), .int (x)])).length) Slot.unset).toArray = ls at hl ⊢
  have hl : lv_has ls 2 [(0, .ref (ad 0)), (1, .int (x))] := hl
  refine lv_iload_n hx hb dX3_isAssumption_0 rfl (lv_at hl 1 rfl) ?_
  refine lv_if_lt (tgt := 16) hx hb dX3_isAssumption_1 (by decide) (fun c_1 => ?_) (fun c_1 => ?_)
  · skip
    refine lv_iconst (v := 0) hx hb dX3_isAssumption_16 (by decide) ?_
    exact rz_ (v := false) hx hb hrt hlk dX3_isAssumption_17 (by first | rfl | (simp [inR, c_1]; done) | (simp only [inR, c_1]; rfl) | (simp_all [inR, c_1]; done))
  · skip
    refine lv_iload_n hx hb dX3_isAssumption_4 rfl (lv_at hl 1 rfl) ?_
    refine lv_aload_n hx hb dX3_isAssumption_5 rfl (lv_at hl 0 rfl) ?_
    refine va_get (D := D) (ci := 3) (v := .int (nI (A))) (C := RX3) (T := TX3) (N := 13) hx hb hts hin3 hown hK.1 hP 0 rfl rfl 3 (by decide) f42 (fun _ h9 => h9) rfl dX3_isAssumption_6 ?_
    refine lv_icmp_ge (tgt := 16) hx hb dX3_isAssumption_9 (by decide) (fun c_9 => ?_) (fun c_9 => ?_)
    · skip
      refine lv_iconst (v := 0) hx hb dX3_isAssumption_16 (by decide) ?_
      exact rz_ (v := false) hx hb hrt hlk dX3_isAssumption_17 (by first | rfl | (simp [inR, c_1, c_9]; done) | (simp only [inR, c_1, c_9]; rfl) | (simp_all [inR, c_1, c_9]; done))
    · skip
      refine lv_iconst (v := 1) hx hb dX3_isAssumption_12 (by decide) ?_
      refine lv_goto (tgt := 17) hx hb dX3_isAssumption_13 (by decide) ?_
      exact rz_ (v := true) hx hb hrt hlk dX3_isAssumption_17 (by first | rfl | (simp [inR, c_1, c_9]; done) | (simp only [inR, c_1, c_9]; rfl) | (simp_all [inR, c_1, c_9]; done))
set_option maxHeartbeats 4000000 in
set_option maxRecDepth 100000 in
theorem c_X3_isEnvironment (l : Launch) (D : va_G) (cI cZ : ClassId) (ad : Nat → Nat) (th : Int32) (N : Nat) (A : Nat) (R : Nat) (kw : Bool) (an : Nat → Int32) (nd : Nat → Int32) (wt : Nat → Int32) (B : Nat → Int32) (Hd : Nat → Int32) (O : Nat → Bool) (HL : Nat → Int32) (CO : Nat → Bool) (x : Int32) : Met l yX3_isEnvironment wsX3_isEnvironment (({ frames := 0, cells := 0, slots := 0, locals := 0 })) (pcP D [(cI, .int), (cZ, .boolean)] (wM cI cZ ad th N A R kw an nd wt B Hd O HL CO) [.ref (ad 0), .int (x)]) (vp_Si (fun v => v = bI (inS x A))) 0 0 (fun _ => False) := by
  refine Met.ofW (cc := cX3_isEnvironment) (maxL := 2) (ret := (some .boolean)) (by decide) rfl ?_
  intro p e s m args below meth c s₁ BB hml hv
  obtain ⟨rfl, hP, hK⟩ := hv
  have hx := BB.exec
  have hb := BB.bytes
  have hrt := BB.returns
  have hts := atoms_spec (ws := wsX3_isEnvironment) BB.pre
  have hown : s.vm.findClass RX3 = some m.cls := findClass_of_methodNamed BB.named
  have hlk := BB.notSynchronized
  have f42 := hts (.fieldLink RX3 42 "AssumptionKeeperModel" "assumptions" "I") (by decide +kernel)
  have hin3 : ∀ w ∈ u_ws RX3 TX3 13, w ∈ wsX3_isEnvironment := by decide +kernel
  have hl := lv_entry ([.ref (ad 0), .int (x)]) (n := 2) (Nat.le_of_ble_eq_true rfl)
  rw [lg_entry_eq]
  generalize (lg_sl ([.ref (ad 0), .int (x)]) ++ List.replicate (2 - (lg_sl ([.ref (ad 0), .int (x)])).length) Slot.unset).toArray = ls at hl ⊢
  have hl : lv_has ls 2 [(0, .ref (ad 0)), (1, .int (x))] := hl
  refine lv_iload_n hx hb dX3_isEnvironment_0 rfl (lv_at hl 1 rfl) ?_
  refine lv_if_lt (tgt := 18) hx hb dX3_isEnvironment_1 (by decide) (fun c_1 => ?_) (fun c_1 => ?_)
  · skip
    refine lv_iconst (v := 0) hx hb dX3_isEnvironment_18 (by decide) ?_
    exact rz_ (v := false) hx hb hrt hlk dX3_isEnvironment_19 (by first | rfl | (simp [inS, sh1, c_1]; done) | (simp only [inS, sh1, c_1]; rfl) | (simp_all [inS, sh1, c_1]; done))
  · skip
    refine lv_iload_n hx hb dX3_isEnvironment_4 rfl (lv_at hl 1 rfl) ?_
    refine lv_iconst (v := 1) hx hb dX3_isEnvironment_5 (by decide) ?_
    refine lv_aload_n hx hb dX3_isEnvironment_6 rfl (lv_at hl 0 rfl) ?_
    refine va_get (D := D) (ci := 3) (v := .int (nI (A))) (C := RX3) (T := TX3) (N := 13) hx hb hts hin3 hown hK.1 hP 0 rfl rfl 3 (by decide) f42 (fun _ h9 => h9) rfl dX3_isEnvironment_7 ?_
    refine lv_ishl hx hb dX3_isEnvironment_10 ?_
    refine lv_icmp_ge (tgt := 18) hx hb dX3_isEnvironment_11 (by decide) (fun c_11 => ?_) (fun c_11 => ?_)
    · skip
      refine lv_iconst (v := 0) hx hb dX3_isEnvironment_18 (by decide) ?_
      exact rz_ (v := false) hx hb hrt hlk dX3_isEnvironment_19 (by first | rfl | (simp [inS, sh1, c_1, c_11]; done) | (simp only [inS, sh1, c_1, c_11]; rfl) | (simp_all [inS, sh1, c_1, c_11]; done))
    · skip
      refine lv_iconst (v := 1) hx hb dX3_isEnvironment_14 (by decide) ?_
      refine lv_goto (tgt := 19) hx hb dX3_isEnvironment_15 (by decide) ?_
      exact rz_ (v := true) hx hb hrt hlk dX3_isEnvironment_19 (by first | rfl | (simp [inS, sh1, c_1, c_11]; done) | (simp only [inS, sh1, c_1, c_11]; rfl) | (simp_all [inS, sh1, c_1, c_11]; done))
set_option maxHeartbeats 4000000 in
set_option maxRecDepth 100000 in
theorem c_X3_begin (l : Launch) (D : va_G) (cI cZ : ClassId) (ad : Nat → Nat) (th : Int32) (N : Nat) (A : Nat) (R : Nat) (kw : Bool) (an : Nat → Int32) (nd : Nat → Int32) (wt : Nat → Int32) (B : Nat → Int32) (Hd : Nat → Int32) (O : Nat → Bool) (HL : Nat → Int32) (CO : Nat → Bool) (x : Int32) (hA : A ≤ 9) : Met l yX3_begin wsX3_begin (({ frames := 0, cells := 0, slots := 0, locals := 0 })) (pcP D [(cI, .int), (cZ, .boolean)] (wM cI cZ ad th N A R kw an nd wt B Hd O HL CO) [.ref (ad 0), .int (x)]) (vp_Si (fun v => v = bg nd x A)) 0 0 (fun _ => False) := by
  refine Met.ofW (cc := cX3_begin) (maxL := 4) (ret := (some .int)) (by decide) rfl ?_
  intro p e s m args below meth c s₁ BB hml hv
  obtain ⟨rfl, hP, hK⟩ := hv
  have hx := BB.exec
  have hb := BB.bytes
  have hrt := BB.returns
  have hts := atoms_spec (ws := wsX3_begin) BB.pre
  have hown : s.vm.findClass RX3 = some m.cls := findClass_of_methodNamed BB.named
  have hlk := BB.notSynchronized
  have f13 := hts (.fieldLink RX3 13 "AssumptionKeeperModel" "nodeNumbers" "[I") (by decide +kernel)
  have f42 := hts (.fieldLink RX3 42 "AssumptionKeeperModel" "assumptions" "I") (by decide +kernel)
  have hin3 : ∀ w ∈ u_ws RX3 TX3 13, w ∈ wsX3_begin := by decide +kernel
  have hl := lv_entry ([.ref (ad 0), .int (x)]) (n := 4) (Nat.le_of_ble_eq_true rfl)
  rw [lg_entry_eq]
  generalize (lg_sl ([.ref (ad 0), .int (x)]) ++ List.replicate (4 - (lg_sl ([.ref (ad 0), .int (x)])).length) Slot.unset).toArray = ls at hl ⊢
  have hl : lv_has ls 4 [(0, .ref (ad 0)), (1, .int (x))] := hl
  have lp_4 : ∀ (n i : Nat) (v2 : Int32) (v3 : Int32), i ≤ A → A + 1 ≤ i + n → v2 = bg nd x i → v3 = nI (i) → ∀ ls : Array Slot, lv_has ls 4 [(0, .ref (ad 0)), (1, .int (x)), (2, .int (v2)), (3, .int (v3))] → W p l e (headSpec wsX3_begin ({ frames := 0, cells := 0, slots := 0, locals := 0 })).room s m ([.ref (ad 0), .int (x)]).toArray below meth c s.heap [] 0 0 (MQ below (vp_Si (fun v => v = bg nd x A)) ([.ref (ad 0), .int (x)]).toArray s 0 0 (fun _ => False)) (F0 m 4 ls []) := by
    intro n
    induction n with
    | zero => intro i v2 v3 h1 h2; exact absurd h2 (by omega)
    | succ n ih =>
      intro i v2 v3 hi_ hn_  e2 e3 ls hl
      subst e2 e3
      have hl : lv_has ls 4 [(0, .ref (ad 0)), (1, .int (x)), (2, .int (bg nd x i)), (3, .int (nI (i)))] := hl
      refine lv_iload_n hx hb dX3_begin_4 rfl (lv_at hl 3 rfl) ?_
      refine lv_aload_n hx hb dX3_begin_5 rfl (lv_at hl 0 rfl) ?_
      refine va_get (D := D) (ci := 3) (v := .int (nI (A))) (C := RX3) (T := TX3) (N := 13) hx hb hts hin3 hown hK.1 hP 0 rfl rfl 3 (by decide) f42 (fun _ h9 => h9) rfl dX3_begin_6 ?_
      refine lv_icmp_ge (tgt := 38) hx hb dX3_begin_9 (by decide) (fun c_9 => ?_) (fun c_9 => ?_)
      · skip
        have c_9 := (qI_le (a := A) (b := i) (by omega) (by omega)).mp c_9
        refine lv_iload_n hx hb dX3_begin_38 rfl (lv_at hl 2 rfl) ?_
        exact ri_ hx hb hrt hlk dX3_begin_39 (by obtain rfl : i = A := (by omega); rfl)
      · skip
        have c_9 := mt (qI_le (a := A) (b := i) (by omega) (by omega)).mpr c_9
        refine lv_iload_n hx hb dX3_begin_12 rfl (lv_at hl 1 rfl) ?_
        refine lv_iload_n hx hb dX3_begin_13 rfl (lv_at hl 3 rfl) ?_
        refine lv_ishr hx hb dX3_begin_14 ?_
        refine lv_iconst (v := 1) hx hb dX3_begin_15 (by decide) ?_
        refine lv_iand hx hb dX3_begin_16 ?_
        refine lv_iconst (v := 1) hx hb dX3_begin_17 (by decide) ?_
        refine lv_icmp_ne (tgt := 32) hx hb dX3_begin_18 (by decide) (fun c_18 => ?_) (fun c_18 => ?_)
        · skip
          have c_18 := hs_n1 c_18
          refine lv_iinc (v := nI (i + 1)) (lv' := [(3, .int (nI (i + 1))), (0, .ref (ad 0)), (1, .int (x)), (2, .int (bg nd x i))]) hx hb dX3_begin_32 hl (k := 3) rfl (nI_1 _) (by decide) rfl (fun ls hl => ?_)
          refine lv_goto (tgt := 4) hx hb dX3_begin_35 (by decide) ?_
          exact ih (i + 1) _ _ (by omega) (by omega)  (by first | rfl | (simp [bg, sh1, c_9, c_18]; done) | (simp only [bg, sh1, c_9, c_18]; rfl) | (simp_all [bg, sh1, c_9, c_18]; done)) rfl ls (lv_sub hl [1, 2, 3, 0] rfl)
        · skip
          have c_18 := hs_1 c_18
          refine lv_iload_n hx hb dX3_begin_21 rfl (lv_at hl 2 rfl) ?_
          refine lv_iconst (v := 1) hx hb dX3_begin_22 (by decide) ?_
          refine lv_aload_n hx hb dX3_begin_23 rfl (lv_at hl 0 rfl) ?_
          refine va_get (D := D) (ci := 3) (v := .ref (ad 2)) (C := RX3) (T := TX3) (N := 13) hx hb hts hin3 hown hK.1 hP 0 rfl rfl 4 (by decide) f13 (fun _ h9 => h9) rfl dX3_begin_24 ?_
          refine lv_iload_n hx hb dX3_begin_27 rfl (lv_at hl 3 rfl) ?_
          refine ai_ (D := D) (f := nd) (i := i) hx hb hK hP 2 0 rfl rfl (by omega) (by decide) dX3_begin_28 ?_
          refine lv_ishl hx hb dX3_begin_29 ?_
          refine lv_ior hx hb dX3_begin_30 ?_
          refine lv_istore_n (lv' := [(2, .int ((bg nd x i) ||| ((1) <<< ((nd (i)) &&& 31)))), (0, .ref (ad 0)), (1, .int (x)), (3, .int (nI (i)))]) hx hb dX3_begin_31 rfl hl (by decide) rfl (fun ls hl => ?_)
          refine lv_iinc (v := nI (i + 1)) (lv' := [(3, .int (nI (i + 1))), (2, .int ((bg nd x i) ||| ((1) <<< ((nd (i)) &&& 31)))), (0, .ref (ad 0)), (1, .int (x))]) hx hb dX3_begin_32 hl (k := 3) rfl (nI_1 _) (by decide) rfl (fun ls hl => ?_)
          refine lv_goto (tgt := 4) hx hb dX3_begin_35 (by decide) ?_
          exact ih (i + 1) _ _ (by omega) (by omega)  (by first | rfl | (simp [bg, sh1, c_9, c_18]; done) | (simp only [bg, sh1, c_9, c_18]; rfl) | (simp_all [bg, sh1, c_9, c_18]; done)) rfl ls (lv_sub hl [2, 3, 1, 0] rfl)
  refine lv_iconst (v := nI (0)) hx hb dX3_begin_0 (by decide) ?_
  refine lv_istore_n (lv' := [(2, .int (nI (0))), (0, .ref (ad 0)), (1, .int (x))]) hx hb dX3_begin_1 rfl hl (by decide) rfl (fun ls hl => ?_)
  refine lv_iconst (v := nI (0)) hx hb dX3_begin_2 (by decide) ?_
  refine lv_istore_n (lv' := [(3, .int (nI (0))), (2, .int (nI (0))), (0, .ref (ad 0)), (1, .int (x))]) hx hb dX3_begin_3 rfl hl (by decide) rfl (fun ls hl => ?_)
  exact lp_4 (A + 1) (0) _ _ (by omega) (by omega)  (by first | rfl | (simp [bg, sh1]; done) | (simp only [bg, sh1]; rfl) | (simp_all [bg, sh1]; done)) (by first | rfl | (simp [bg, sh1]; done) | (simp only [bg, sh1]; rfl) | (simp_all [bg, sh1]; done)) ls (lv_sub hl [2, 3, 1, 0] rfl)
set_option maxHeartbeats 4000000 in
set_option maxRecDepth 100000 in
theorem c_X3_goOn (l : Launch) (D : va_G) (cI cZ : ClassId) (ad : Nat → Nat) (th : Int32) (N : Nat) (A : Nat) (R : Nat) (kw : Bool) (an : Nat → Int32) (nd : Nat → Int32) (wt : Nat → Int32) (B : Nat → Int32) (Hd : Nat → Int32) (O : Nat → Bool) (HL : Nat → Int32) (CO : Nat → Bool) (x : Int32) (hR : R ≤ 40) : Met l yX3_goOn wsX3_goOn (({ frames := 1, cells := 0, slots := 0, locals := 21 })) (pcP D [(cI, .int), (cZ, .boolean)] (wM cI cZ ad th N A R kw an nd wt B Hd O HL CO) [.ref (ad 0), .int (x)]) (vp_Si (fun v => v = aR B Hd O x R)) 0 0 (fun _ => False) := by
  refine Met.ofW (cc := cX3_goOn) (maxL := 4) (ret := (some .int)) (by decide) rfl ?_
  intro p e s m args below meth c s₁ BB hml hv
  obtain ⟨rfl, hP, hK⟩ := hv
  have hx := BB.exec
  have hb := BB.bytes
  have hrt := BB.returns
  have hts := atoms_spec (ws := wsX3_goOn) BB.pre
  have hown : s.vm.findClass RX3 = some m.cls := findClass_of_methodNamed BB.named
  have hlk := BB.notSynchronized
  have f19 := hts (.fieldLink RX3 19 "AssumptionKeeperModel" "bodies" "[I") (by decide +kernel)
  have f22 := hts (.fieldLink RX3 22 "AssumptionKeeperModel" "heads" "[I") (by decide +kernel)
  have f25 := hts (.fieldLink RX3 25 "AssumptionKeeperModel" "areOn" "[Z") (by decide +kernel)
  have f66 := hts (.fieldLink RX3 66 "AssumptionKeeperModel" "rules" "I") (by decide +kernel)
  have hin3 : ∀ w ∈ u_ws RX3 TX3 13, w ∈ wsX3_goOn := by decide +kernel
  have hl := lv_entry ([.ref (ad 0), .int (x)]) (n := 4) (Nat.le_of_ble_eq_true rfl)
  rw [lg_entry_eq]
  generalize (lg_sl ([.ref (ad 0), .int (x)]) ++ List.replicate (4 - (lg_sl ([.ref (ad 0), .int (x)])).length) Slot.unset).toArray = ls at hl ⊢
  have hl : lv_has ls 4 [(0, .ref (ad 0)), (1, .int (x))] := hl
  have lp_4 : ∀ (n i : Nat) (v2 : Int32) (v3 : Int32), i ≤ R → R + 1 ≤ i + n → v2 = aR B Hd O x i → v3 = nI (i) → ∀ ls : Array Slot, lv_has ls 4 [(0, .ref (ad 0)), (1, .int (x)), (2, .int (v2)), (3, .int (v3))] → W p l e (headSpec wsX3_goOn ({ frames := 1, cells := 0, slots := 0, locals := 21 })).room s m ([.ref (ad 0), .int (x)]).toArray below meth c s.heap [] 0 0 (MQ below (vp_Si (fun v => v = aR B Hd O x R)) ([.ref (ad 0), .int (x)]).toArray s 0 0 (fun _ => False)) (F0 m 4 ls []) := by
    intro n
    induction n with
    | zero => intro i v2 v3 h1 h2; exact absurd h2 (by omega)
    | succ n ih =>
      intro i v2 v3 hi_ hn_  e2 e3 ls hl
      subst e2 e3
      have hl : lv_has ls 4 [(0, .ref (ad 0)), (1, .int (x)), (2, .int (aR B Hd O x i)), (3, .int (nI (i)))] := hl
      refine lv_iload_n hx hb dX3_goOn_4 rfl (lv_at hl 3 rfl) ?_
      refine lv_aload_n hx hb dX3_goOn_5 rfl (lv_at hl 0 rfl) ?_
      refine va_get (D := D) (ci := 3) (v := .int (nI (R))) (C := RX3) (T := TX3) (N := 13) hx hb hts hin3 hown hK.1 hP 0 rfl rfl 6 (by decide) f66 (fun _ h9 => h9) rfl dX3_goOn_6 ?_
      refine lv_icmp_ge (tgt := 61) hx hb dX3_goOn_9 (by decide) (fun c_9 => ?_) (fun c_9 => ?_)
      · skip
        have c_9 := (qI_le (a := R) (b := i) (by omega) (by omega)).mp c_9
        refine lv_iload_n hx hb dX3_goOn_61 rfl (lv_at hl 2 rfl) ?_
        exact ri_ hx hb hrt hlk dX3_goOn_62 (by obtain rfl : i = R := (by omega); rfl)
      · skip
        have c_9 := mt (qI_le (a := R) (b := i) (by omega) (by omega)).mpr c_9
        refine lv_aload_n hx hb dX3_goOn_12 rfl (lv_at hl 0 rfl) ?_
        refine va_get (D := D) (ci := 3) (v := .ref (ad 6)) (C := RX3) (T := TX3) (N := 13) hx hb hts hin3 hown hK.1 hP 0 rfl rfl 9 (by decide) f25 (fun _ h9 => h9) rfl dX3_goOn_13 ?_
        refine lv_iload_n hx hb dX3_goOn_16 rfl (lv_at hl 3 rfl) ?_
        refine az_ (D := D) (f := O) (i := i) hx hb hK hP 6 1 rfl rfl (by omega) (by decide) dX3_goOn_17 ?_
        refine lv_if_eq (tgt := 55) hx hb dX3_goOn_18 (by decide) (fun c_18 => ?_) (fun c_18 => ?_)
        · skip
          have c_18 := bI_eq0 c_18
          refine lv_iinc (v := nI (i + 1)) (lv' := [(3, .int (nI (i + 1))), (0, .ref (ad 0)), (1, .int (x)), (2, .int (aR B Hd O x i))]) hx hb dX3_goOn_55 hl (k := 3) rfl (nI_1 _) (by decide) rfl (fun ls hl => ?_)
          refine lv_goto (tgt := 4) hx hb dX3_goOn_58 (by decide) ?_
          exact ih (i + 1) _ _ (by omega) (by omega)  (by first | rfl | (simp [aR, sh1, fi, c_9, c_18]; done) | (simp only [aR, sh1, fi, c_9, c_18]; rfl) | (simp_all [aR, sh1, fi, c_9, c_18]; done)) rfl ls (lv_sub hl [1, 2, 3, 0] rfl)
        · skip
          have c_18 := bI_ne0 c_18
          refine lv_aload_n hx hb dX3_goOn_21 rfl (lv_at hl 0 rfl) ?_
          refine va_get (D := D) (ci := 3) (v := .ref (ad 5)) (C := RX3) (T := TX3) (N := 13) hx hb hts hin3 hown hK.1 hP 0 rfl rfl 8 (by decide) f22 (fun _ h9 => h9) rfl dX3_goOn_22 ?_
          refine lv_iload_n hx hb dX3_goOn_25 rfl (lv_at hl 3 rfl) ?_
          refine ai_ (D := D) (f := Hd) (i := i) hx hb hK hP 5 0 rfl rfl (by omega) (by decide) dX3_goOn_26 ?_
          refine lv_iconst (v := -1) hx hb dX3_goOn_27 (by decide) ?_
          refine lv_icmp_eq (tgt := 55) hx hb dX3_goOn_28 (by decide) (fun c_28 => ?_) (fun c_28 => ?_)
          · skip
            refine lv_iinc (v := nI (i + 1)) (lv' := [(3, .int (nI (i + 1))), (0, .ref (ad 0)), (1, .int (x)), (2, .int (aR B Hd O x i))]) hx hb dX3_goOn_55 hl (k := 3) rfl (nI_1 _) (by decide) rfl (fun ls hl => ?_)
            refine lv_goto (tgt := 4) hx hb dX3_goOn_58 (by decide) ?_
            exact ih (i + 1) _ _ (by omega) (by omega)  (by first | rfl | (simp [aR, sh1, fi, c_9, c_18, c_28]; done) | (simp only [aR, sh1, fi, c_9, c_18, c_28]; rfl) | (simp_all [aR, sh1, fi, c_9, c_18, c_28]; done)) rfl ls (lv_sub hl [1, 2, 3, 0] rfl)
          · skip
            refine lv_aload_n hx hb dX3_goOn_31 rfl (lv_at hl 0 rfl) ?_
            refine va_get (D := D) (ci := 3) (v := .ref (ad 4)) (C := RX3) (T := TX3) (N := 13) hx hb hts hin3 hown hK.1 hP 0 rfl rfl 7 (by decide) f19 (fun _ h9 => h9) rfl dX3_goOn_32 ?_
            refine lv_iload_n hx hb dX3_goOn_35 rfl (lv_at hl 3 rfl) ?_
            refine ai_ (D := D) (f := B) (i := i) hx hb hK hP 4 0 rfl rfl (by omega) (by decide) dX3_goOn_36 ?_
            refine lv_iload_n hx hb dX3_goOn_37 rfl (lv_at hl 1 rfl) ?_
            refine pu_i (va_runS (As := [.int (B (i)), .int (x)]) (rest := []) ⟨hx, hb, hml, hown, hts⟩ (c_X3_isIn l D cI cZ ad (B (i)) (x) ) (cwS 2 hts gX3_goOn_X3_isIn rfl rfl rfl (by decide +kernel) ⟨Nat.le_of_ble_eq_true rfl, Nat.le_of_ble_eq_true rfl⟩) (pre_S (hP.sub (ws' := ([] : va_W)) [] rfl) hK) rfl rfl hl.1 rfl (lv_room (Nat.le_of_ble_eq_true rfl)) dX3_goOn_38 ⟨Nat.zero_le _, Nat.zero_le _⟩) ?_
            refine lv_if_eq (tgt := 55) hx hb dX3_goOn_41 (by decide) (fun c_41 => ?_) (fun c_41 => ?_)
            · skip
              have c_41 := bI_eq0 c_41
              refine lv_iinc (v := nI (i + 1)) (lv' := [(3, .int (nI (i + 1))), (0, .ref (ad 0)), (1, .int (x)), (2, .int (aR B Hd O x i))]) hx hb dX3_goOn_55 hl (k := 3) rfl (nI_1 _) (by decide) rfl (fun ls hl => ?_)
              refine lv_goto (tgt := 4) hx hb dX3_goOn_58 (by decide) ?_
              exact ih (i + 1) _ _ (by omega) (by omega)  (by first | rfl | (simp [aR, sh1, fi, c_9, c_18, c_28, c_41]; done) | (simp only [aR, sh1, fi, c_9, c_18, c_28, c_41]; rfl) | (simp_all [aR, sh1, fi, c_9, c_18, c_28, c_41]; done)) rfl ls (lv_sub hl [1, 2, 3, 0] rfl)
            · skip
              have c_41 := bI_ne0 c_41
              refine lv_iload_n hx hb dX3_goOn_44 rfl (lv_at hl 2 rfl) ?_
              refine lv_iconst (v := 1) hx hb dX3_goOn_45 (by decide) ?_
              refine lv_aload_n hx hb dX3_goOn_46 rfl (lv_at hl 0 rfl) ?_
              refine va_get (D := D) (ci := 3) (v := .ref (ad 5)) (C := RX3) (T := TX3) (N := 13) hx hb hts hin3 hown hK.1 hP 0 rfl rfl 8 (by decide) f22 (fun _ h9 => h9) rfl dX3_goOn_47 ?_
              refine lv_iload_n hx hb dX3_goOn_50 rfl (lv_at hl 3 rfl) ?_
              refine ai_ (D := D) (f := Hd) (i := i) hx hb hK hP 5 0 rfl rfl (by omega) (by decide) dX3_goOn_51 ?_
              refine lv_ishl hx hb dX3_goOn_52 ?_
              refine lv_ior hx hb dX3_goOn_53 ?_
              refine lv_istore_n (lv' := [(2, .int ((aR B Hd O x i) ||| ((1) <<< ((Hd (i)) &&& 31)))), (0, .ref (ad 0)), (1, .int (x)), (3, .int (nI (i)))]) hx hb dX3_goOn_54 rfl hl (by decide) rfl (fun ls hl => ?_)
              refine lv_iinc (v := nI (i + 1)) (lv' := [(3, .int (nI (i + 1))), (2, .int ((aR B Hd O x i) ||| ((1) <<< ((Hd (i)) &&& 31)))), (0, .ref (ad 0)), (1, .int (x))]) hx hb dX3_goOn_55 hl (k := 3) rfl (nI_1 _) (by decide) rfl (fun ls hl => ?_)
              refine lv_goto (tgt := 4) hx hb dX3_goOn_58 (by decide) ?_
              exact ih (i + 1) _ _ (by omega) (by omega)  (by first | rfl | (simp [aR, sh1, fi, c_9, c_18, c_28, c_41]; done) | (simp only [aR, sh1, fi, c_9, c_18, c_28, c_41]; rfl) | (simp_all [aR, sh1, fi, c_9, c_18, c_28, c_41]; done)) rfl ls (lv_sub hl [2, 3, 1, 0] rfl)
  refine lv_iload_n hx hb dX3_goOn_0 rfl (lv_at hl 1 rfl) ?_
  refine lv_istore_n (lv' := [(2, .int (x)), (0, .ref (ad 0)), (1, .int (x))]) hx hb dX3_goOn_1 rfl hl (by decide) rfl (fun ls hl => ?_)
  refine lv_iconst (v := nI (0)) hx hb dX3_goOn_2 (by decide) ?_
  refine lv_istore_n (lv' := [(3, .int (nI (0))), (2, .int (x)), (0, .ref (ad 0)), (1, .int (x))]) hx hb dX3_goOn_3 rfl hl (by decide) rfl (fun ls hl => ?_)
  exact lp_4 (R + 1) (0) _ _ (by omega) (by omega)  (by first | rfl | (simp [aR, sh1, fi]; done) | (simp only [aR, sh1, fi]; rfl) | (simp_all [aR, sh1, fi]; done)) (by first | rfl | (simp [aR, sh1, fi]; done) | (simp only [aR, sh1, fi]; rfl) | (simp_all [aR, sh1, fi]; done)) ls (lv_sub hl [2, 3, 1, 0] rfl)
set_option maxHeartbeats 4000000 in
set_option maxRecDepth 100000 in
theorem c_X3_has (l : Launch) (D : va_G) (cI cZ : ClassId) (ad : Nat → Nat) (th : Int32) (N : Nat) (A : Nat) (R : Nat) (kw : Bool) (an : Nat → Int32) (nd : Nat → Int32) (wt : Nat → Int32) (B : Nat → Int32) (Hd : Nat → Int32) (O : Nat → Bool) (HL : Nat → Int32) (CO : Nat → Bool) (k : Int32) (e0 : Nat) (he : e0 < 512) : Met l yX3_has wsX3_has (({ frames := 0, cells := 0, slots := 0, locals := 0 })) (pcP D [(cI, .int), (cZ, .boolean)] (wM cI cZ ad th N A R kw an nd wt B Hd O HL CO) [.ref (ad 0), .int (k), .int (nI (e0))]) (vp_Si (fun v => v = bI (hs (HL e0) k))) 0 0 (fun _ => False) := by
  refine Met.ofW (cc := cX3_has) (maxL := 3) (ret := (some .boolean)) (by decide) rfl ?_
  intro p e s m args below meth c s₁ BB hml hv
  obtain ⟨rfl, hP, hK⟩ := hv
  have hx := BB.exec
  have hb := BB.bytes
  have hrt := BB.returns
  have hts := atoms_spec (ws := wsX3_has) BB.pre
  have hown : s.vm.findClass RX3 = some m.cls := findClass_of_methodNamed BB.named
  have hlk := BB.notSynchronized
  have f29 := hts (.fieldLink RX3 29 "AssumptionKeeperModel" "held" "[I") (by decide +kernel)
  have hin3 : ∀ w ∈ u_ws RX3 TX3 13, w ∈ wsX3_has := by decide +kernel
  have hl := lv_entry ([.ref (ad 0), .int (k), .int (nI (e0))]) (n := 3) (Nat.le_of_ble_eq_true rfl)
  rw [lg_entry_eq]
  generalize (lg_sl ([.ref (ad 0), .int (k), .int (nI (e0))]) ++ List.replicate (3 - (lg_sl ([.ref (ad 0), .int (k), .int (nI (e0))])).length) Slot.unset).toArray = ls at hl ⊢
  have hl : lv_has ls 3 [(0, .ref (ad 0)), (1, .int (k)), (2, .int (nI (e0)))] := hl
  refine lv_aload_n hx hb dX3_has_0 rfl (lv_at hl 0 rfl) ?_
  refine va_get (D := D) (ci := 3) (v := .ref (ad 7)) (C := RX3) (T := TX3) (N := 13) hx hb hts hin3 hown hK.1 hP 0 rfl rfl 11 (by decide) f29 (fun _ h9 => h9) rfl dX3_has_1 ?_
  refine lv_iload_n hx hb dX3_has_4 rfl (lv_at hl 2 rfl) ?_
  refine ai_ (D := D) (f := HL) (i := e0) hx hb hK hP 7 0 rfl rfl (by omega) (by decide) dX3_has_5 ?_
  refine lv_iload_n hx hb dX3_has_6 rfl (lv_at hl 1 rfl) ?_
  refine lv_ishr hx hb dX3_has_7 ?_
  refine lv_iconst (v := 1) hx hb dX3_has_8 (by decide) ?_
  refine lv_iand hx hb dX3_has_9 ?_
  refine lv_iconst (v := 1) hx hb dX3_has_10 (by decide) ?_
  refine lv_icmp_ne (tgt := 18) hx hb dX3_has_11 (by decide) (fun c_11 => ?_) (fun c_11 => ?_)
  · skip
    have c_11 := hs_n1 c_11
    refine lv_iconst (v := 0) hx hb dX3_has_18 (by decide) ?_
    exact rz_ (v := false) hx hb hrt hlk dX3_has_19 (by first | rfl | (simp [c_11]; done) | (simp only [c_11]; rfl) | (simp_all [c_11]; done))
  · skip
    have c_11 := hs_1 c_11
    refine lv_iconst (v := 1) hx hb dX3_has_14 (by decide) ?_
    refine lv_goto (tgt := 19) hx hb dX3_has_15 (by decide) ?_
    exact rz_ (v := true) hx hb hrt hlk dX3_has_19 (by first | rfl | (simp [c_11]; done) | (simp only [c_11]; rfl) | (simp_all [c_11]; done))
set_option maxHeartbeats 4000000 in
set_option maxRecDepth 100000 in
theorem c_X3_depthIn (l : Launch) (D : va_G) (cI cZ : ClassId) (ad : Nat → Nat) (th : Int32) (N : Nat) (A : Nat) (R : Nat) (kw : Bool) (an : Nat → Int32) (nd : Nat → Int32) (wt : Nat → Int32) (B : Nat → Int32) (Hd : Nat → Int32) (O : Nat → Bool) (HL : Nat → Int32) (CO : Nat → Bool) (k : Int32) (e0 : Nat) (hA : A ≤ 9) (hR : R ≤ 40) (he : e0 < 512) (hh : HL e0 = itr (fun y => aR B Hd O y R) (bg nd (nI e0) A) 24) (hup : ∀ j, hs (itr (fun y => aR B Hd O y R) (bg nd (nI e0) A) j) k = true → hs (itr (fun y => aR B Hd O y R) (bg nd (nI e0) A) (j + 1)) k = true) : Met l yX3_depthIn wsX3_depthIn (({ frames := 2, cells := 0, slots := 0, locals := 44 })) (pcP D [(cI, .int), (cZ, .boolean)] (wM cI cZ ad th N A R kw an nd wt B Hd O HL CO) [.ref (ad 0), .int (k), .int (nI (e0))]) (vp_Si (fun v => v = fndI (fun d => hs (itr (fun y => aR B Hd O y R) (bg nd (nI e0) A) d) k) 25 (-1))) 0 0 (fun _ => False) := by
  refine Met.ofW (cc := cX3_depthIn) (maxL := 5) (ret := (some .int)) (by decide) rfl ?_
  intro p e s m args below meth c s₁ BB hml hv
  obtain ⟨rfl, hP, hK⟩ := hv
  have hx := BB.exec
  have hb := BB.bytes
  have hrt := BB.returns
  have hts := atoms_spec (ws := wsX3_depthIn) BB.pre
  have hown : s.vm.findClass RX3 = some m.cls := findClass_of_methodNamed BB.named
  have hlk := BB.notSynchronized
  have hl := lv_entry ([.ref (ad 0), .int (k), .int (nI (e0))]) (n := 5) (Nat.le_of_ble_eq_true rfl)
  rw [lg_entry_eq]
  generalize (lg_sl ([.ref (ad 0), .int (k), .int (nI (e0))]) ++ List.replicate (5 - (lg_sl ([.ref (ad 0), .int (k), .int (nI (e0))])).length) Slot.unset).toArray = ls at hl ⊢
  have hl : lv_has ls 5 [(0, .ref (ad 0)), (1, .int (k)), (2, .int (nI (e0)))] := hl
  have lp_20 : ∀ (n i : Nat) (v3 : Int32) (v4 : Int32), i ≤ 24 → 24 + 1 ≤ i + n → (∀ j, j < i → (fun d => hs (itr (fun y => aR B Hd O y R) (bg nd (nI e0) A) d) k) j = false) → (hs (itr (fun y => aR B Hd O y R) (bg nd (nI e0) A) 24) k = true) → v3 = nI (i) → v4 = itr (fun y => aR B Hd O y R) (bg nd (nI e0) A) i → ∀ ls : Array Slot, lv_has ls 5 [(0, .ref (ad 0)), (1, .int (k)), (2, .int (nI (e0))), (3, .int (v3)), (4, .int (v4))] → W p l e (headSpec wsX3_depthIn ({ frames := 2, cells := 0, slots := 0, locals := 44 })).room s m ([.ref (ad 0), .int (k), .int (nI (e0))]).toArray below meth c s.heap [] 0 0 (MQ below (vp_Si (fun v => v = fndI (fun d => hs (itr (fun y => aR B Hd O y R) (bg nd (nI e0) A) d) k) 25 (-1))) ([.ref (ad 0), .int (k), .int (nI (e0))]).toArray s 0 0 (fun _ => False)) (F0 m 20 ls []) := by
    intro n
    induction n with
    | zero => intro i v3 v4 h1 h2; exact absurd h2 (by omega)
    | succ n ih =>
      intro i v3 v4 hi_ hn_ hno hyes e3 e4 ls hl
      subst e3 e4
      have hl : lv_has ls 5 [(0, .ref (ad 0)), (1, .int (k)), (2, .int (nI (e0))), (3, .int (nI (i))), (4, .int (itr (fun y => aR B Hd O y R) (bg nd (nI e0) A) i))] := hl
      refine lv_iload hx hb dX3_depthIn_20 (lv_at hl 4 rfl) ?_
      refine lv_iload_n hx hb dX3_depthIn_22 rfl (lv_at hl 1 rfl) ?_
      refine lv_ishr hx hb dX3_depthIn_23 ?_
      refine lv_iconst (v := 1) hx hb dX3_depthIn_24 (by decide) ?_
      refine lv_iand hx hb dX3_depthIn_25 ?_
      refine lv_if_ne (tgt := 43) hx hb dX3_depthIn_26 (by decide) (fun c_26 => ?_) (fun c_26 => ?_)
      · skip
        have c_26 := hs_n0 c_26
        refine lv_iload_n hx hb dX3_depthIn_43 rfl (lv_at hl 3 rfl) ?_
        exact ri_ hx hb hrt hlk dX3_depthIn_44 ((fndI_at (P := (fun d => hs (itr (fun y => aR B Hd O y R) (bg nd (nI e0) A) d) k)) (i := i) (by omega) c_26 hno).symm)
      · skip
        have c_26 := hs_0 c_26
        have hlt : i < 24 := by
         rcases Nat.lt_or_ge i 24 with q9 | q9
         · exact q9
         · obtain rfl : i = 24 := (by omega)
           rw [hyes] at c_26; cases c_26
        refine lv_iinc (v := nI (i + 1)) (lv' := [(3, .int (nI (i + 1))), (0, .ref (ad 0)), (1, .int (k)), (2, .int (nI (e0))), (4, .int (itr (fun y => aR B Hd O y R) (bg nd (nI e0) A) i))]) hx hb dX3_depthIn_29 hl (k := 3) rfl (nI_1 _) (by decide) rfl (fun ls hl => ?_)
        refine lv_aload_n hx hb dX3_depthIn_32 rfl (lv_at hl 1 rfl) ?_
        refine lv_iload hx hb dX3_depthIn_33 (lv_at hl 4 rfl) ?_
        refine pu_i (va_runV (As := [.int (itr (fun y => aR B Hd O y R) (bg nd (nI e0) A) i)]) (rest := []) ⟨hx, hb, hml, hown, hts⟩ (c_X3_goOn l D cI cZ ad (th) (N) (A) (R) (kw) (an) (nd) (wt) (B) (Hd) (O) (HL) (CO) (itr (fun y => aR B Hd O y R) (bg nd (nI e0) A) i) (by omega)) (cwV 1 hts gX3_depthIn_X3_goOn rfl rfl rfl (by decide +kernel) ⟨Nat.le_of_ble_eq_true rfl, Nat.le_of_ble_eq_true rfl⟩) (pre_V (q0 := 0) (ci := 3) (hP.sub (ws' := (wM cI cZ ad th N A R kw an nd wt B Hd O HL CO)) [0, 1, 2, 3, 4, 5, 6, 7, 8] rfl) hK rfl rfl) rfl rfl hl.1 rfl (lv_room (Nat.le_of_ble_eq_true rfl)) dX3_depthIn_35 ⟨Nat.zero_le _, Nat.zero_le _⟩) ?_
        refine lv_istore (lv' := [(4, .int (aR B Hd O (itr (fun y => aR B Hd O y R) (bg nd (nI e0) A) i) R)), (3, .int (nI (i + 1))), (0, .ref (ad 0)), (1, .int (k)), (2, .int (nI (e0)))]) hx hb dX3_depthIn_38 hl (by decide) rfl (fun ls hl => ?_)
        refine lv_goto (tgt := 20) hx hb dX3_depthIn_40 (by decide) ?_
        exact ih (i + 1) _ _ (by omega) (by omega) (no_succ hno c_26) (hyes) rfl (by first | rfl | (simp [itr, c_26]; done) | (simp only [itr, c_26]; rfl) | (simp_all [itr, c_26]; done)) ls (lv_sub hl [2, 3, 4, 1, 0] rfl)
  refine lv_aload_n hx hb dX3_depthIn_0 rfl (lv_at hl 0 rfl) ?_
  refine lv_iload_n hx hb dX3_depthIn_1 rfl (lv_at hl 1 rfl) ?_
  refine lv_iload_n hx hb dX3_depthIn_2 rfl (lv_at hl 2 rfl) ?_
  refine pu_i (va_runV (As := [.int (k), .int (nI (e0))]) (rest := []) ⟨hx, hb, hml, hown, hts⟩ (c_X3_has l D cI cZ ad (th) (N) (A) (R) (kw) (an) (nd) (wt) (B) (Hd) (O) (HL) (CO) (k) (e0) (by omega)) (cwV 2 hts gX3_depthIn_X3_has rfl rfl rfl (by decide +kernel) ⟨Nat.le_of_ble_eq_true rfl, Nat.le_of_ble_eq_true rfl⟩) (pre_V (q0 := 0) (ci := 3) (hP.sub (ws' := (wM cI cZ ad th N A R kw an nd wt B Hd O HL CO)) [0, 1, 2, 3, 4, 5, 6, 7, 8] rfl) hK rfl rfl) rfl rfl hl.1 rfl (lv_room (Nat.le_of_ble_eq_true rfl)) dX3_depthIn_3 ⟨Nat.zero_le _, Nat.zero_le _⟩) ?_
  refine lv_if_ne (tgt := 11) hx hb dX3_depthIn_6 (by decide) (fun c_6 => ?_) (fun c_6 => ?_)
  · skip
    have c_6 := bI_ne0 c_6
    refine lv_iconst (v := nI (0)) hx hb dX3_depthIn_11 (by decide) ?_
    refine lv_istore_n (lv' := [(3, .int (nI (0))), (0, .ref (ad 0)), (1, .int (k)), (2, .int (nI (e0)))]) hx hb dX3_depthIn_12 rfl hl (by decide) rfl (fun ls hl => ?_)
    refine lv_aload_n hx hb dX3_depthIn_13 rfl (lv_at hl 1 rfl) ?_
    refine lv_iload_n hx hb dX3_depthIn_14 rfl (lv_at hl 3 rfl) ?_
    refine pu_i (va_runV (As := [.int (nI (e0))]) (rest := []) ⟨hx, hb, hml, hown, hts⟩ (c_X3_begin l D cI cZ ad (th) (N) (A) (R) (kw) (an) (nd) (wt) (B) (Hd) (O) (HL) (CO) (nI (e0)) (by omega)) (cwV 1 hts gX3_depthIn_X3_begin rfl rfl rfl (by decide +kernel) ⟨Nat.le_of_ble_eq_true rfl, Nat.le_of_ble_eq_true rfl⟩) (pre_V (q0 := 0) (ci := 3) (hP.sub (ws' := (wM cI cZ ad th N A R kw an nd wt B Hd O HL CO)) [0, 1, 2, 3, 4, 5, 6, 7, 8] rfl) hK rfl rfl) rfl rfl hl.1 rfl (lv_room (Nat.le_of_ble_eq_true rfl)) dX3_depthIn_15 ⟨Nat.zero_le _, Nat.zero_le _⟩) ?_
    refine lv_istore (lv' := [(4, .int (bg nd (nI (e0)) A)), (3, .int (nI (0))), (0, .ref (ad 0)), (1, .int (k)), (2, .int (nI (e0)))]) hx hb dX3_depthIn_18 hl (by decide) rfl (fun ls hl => ?_)
    exact lp_20 (24 + 1) (0) _ _ (by omega) (by omega) (fun j hj => absurd hj (Nat.not_lt_zero j)) (by have h9 := c_6; rw [hh] at h9; exact h9) (by first | rfl | (simp [itr, c_6]; done) | (simp only [itr, c_6]; rfl) | (simp_all [itr, c_6]; done)) (by first | rfl | (simp [itr, c_6]; done) | (simp only [itr, c_6]; rfl) | (simp_all [itr, c_6]; done)) ls (lv_sub hl [2, 3, 4, 1, 0] rfl)
  · skip
    have c_6 := bI_eq0 c_6
    refine lv_iconst (v := -1) hx hb dX3_depthIn_9 (by decide) ?_
    exact ri_ hx hb hrt hlk dX3_depthIn_10 ((fndI_no (fun j hj => up_no (P := (fun d => hs (itr (fun y => aR B Hd O y R) (bg nd (nI e0) A) d) k)) hup (by have h9 := c_6; rw [hh] at h9; exact h9) j (by omega))).symm)
set_option maxHeartbeats 4000000 in
set_option maxRecDepth 100000 in
theorem c_X3_costOf (l : Launch) (D : va_G) (cI cZ : ClassId) (ad : Nat → Nat) (th : Int32) (N : Nat) (A : Nat) (R : Nat) (kw : Bool) (an : Nat → Int32) (nd : Nat → Int32) (wt : Nat → Int32) (B : Nat → Int32) (Hd : Nat → Int32) (O : Nat → Bool) (HL : Nat → Int32) (CO : Nat → Bool) (x : Int32) (hA : A ≤ 9) : Met l yX3_costOf wsX3_costOf (({ frames := 0, cells := 0, slots := 0, locals := 0 })) (pcP D [(cI, .int), (cZ, .boolean)] (wM cI cZ ad th N A R kw an nd wt B Hd O HL CO) [.ref (ad 0), .int (x)]) (vp_Si (fun v => v = wo wt x A)) 0 0 (fun _ => False) := by
  refine Met.ofW (cc := cX3_costOf) (maxL := 4) (ret := (some .int)) (by decide) rfl ?_
  intro p e s m args below meth c s₁ BB hml hv
  obtain ⟨rfl, hP, hK⟩ := hv
  have hx := BB.exec
  have hb := BB.bytes
  have hrt := BB.returns
  have hts := atoms_spec (ws := wsX3_costOf) BB.pre
  have hown : s.vm.findClass RX3 = some m.cls := findClass_of_methodNamed BB.named
  have hlk := BB.notSynchronized
  have f16 := hts (.fieldLink RX3 16 "AssumptionKeeperModel" "weights" "[I") (by decide +kernel)
  have f42 := hts (.fieldLink RX3 42 "AssumptionKeeperModel" "assumptions" "I") (by decide +kernel)
  have hin3 : ∀ w ∈ u_ws RX3 TX3 13, w ∈ wsX3_costOf := by decide +kernel
  have hl := lv_entry ([.ref (ad 0), .int (x)]) (n := 4) (Nat.le_of_ble_eq_true rfl)
  rw [lg_entry_eq]
  generalize (lg_sl ([.ref (ad 0), .int (x)]) ++ List.replicate (4 - (lg_sl ([.ref (ad 0), .int (x)])).length) Slot.unset).toArray = ls at hl ⊢
  have hl : lv_has ls 4 [(0, .ref (ad 0)), (1, .int (x))] := hl
  have lp_4 : ∀ (n i : Nat) (v2 : Int32) (v3 : Int32), i ≤ A → A + 1 ≤ i + n → v2 = wo wt x i → v3 = nI (i) → ∀ ls : Array Slot, lv_has ls 4 [(0, .ref (ad 0)), (1, .int (x)), (2, .int (v2)), (3, .int (v3))] → W p l e (headSpec wsX3_costOf ({ frames := 0, cells := 0, slots := 0, locals := 0 })).room s m ([.ref (ad 0), .int (x)]).toArray below meth c s.heap [] 0 0 (MQ below (vp_Si (fun v => v = wo wt x A)) ([.ref (ad 0), .int (x)]).toArray s 0 0 (fun _ => False)) (F0 m 4 ls []) := by
    intro n
    induction n with
    | zero => intro i v2 v3 h1 h2; exact absurd h2 (by omega)
    | succ n ih =>
      intro i v2 v3 hi_ hn_  e2 e3 ls hl
      subst e2 e3
      have hl : lv_has ls 4 [(0, .ref (ad 0)), (1, .int (x)), (2, .int (wo wt x i)), (3, .int (nI (i)))] := hl
      refine lv_iload_n hx hb dX3_costOf_4 rfl (lv_at hl 3 rfl) ?_
      refine lv_aload_n hx hb dX3_costOf_5 rfl (lv_at hl 0 rfl) ?_
      refine va_get (D := D) (ci := 3) (v := .int (nI (A))) (C := RX3) (T := TX3) (N := 13) hx hb hts hin3 hown hK.1 hP 0 rfl rfl 3 (by decide) f42 (fun _ h9 => h9) rfl dX3_costOf_6 ?_
      refine lv_icmp_ge (tgt := 33) hx hb dX3_costOf_9 (by decide) (fun c_9 => ?_) (fun c_9 => ?_)
      · skip
        have c_9 := (qI_le (a := A) (b := i) (by omega) (by omega)).mp c_9
        refine lv_iload_n hx hb dX3_costOf_33 rfl (lv_at hl 2 rfl) ?_
        exact ri_ hx hb hrt hlk dX3_costOf_34 (by obtain rfl : i = A := (by omega); rfl)
      · skip
        have c_9 := mt (qI_le (a := A) (b := i) (by omega) (by omega)).mpr c_9
        refine lv_iload_n hx hb dX3_costOf_12 rfl (lv_at hl 2 rfl) ?_
        refine lv_iload_n hx hb dX3_costOf_13 rfl (lv_at hl 1 rfl) ?_
        refine lv_iload_n hx hb dX3_costOf_14 rfl (lv_at hl 3 rfl) ?_
        refine lv_ishr hx hb dX3_costOf_15 ?_
        refine lv_iconst (v := 1) hx hb dX3_costOf_16 (by decide) ?_
        refine lv_iand hx hb dX3_costOf_17 ?_
        refine lv_aload_n hx hb dX3_costOf_18 rfl (lv_at hl 0 rfl) ?_
        refine va_get (D := D) (ci := 3) (v := .ref (ad 3)) (C := RX3) (T := TX3) (N := 13) hx hb hts hin3 hown hK.1 hP 0 rfl rfl 5 (by decide) f16 (fun _ h9 => h9) rfl dX3_costOf_19 ?_
        refine lv_iload_n hx hb dX3_costOf_22 rfl (lv_at hl 3 rfl) ?_
        refine ai_ (D := D) (f := wt) (i := i) hx hb hK hP 3 0 rfl rfl (by omega) (by decide) dX3_costOf_23 ?_
        refine lv_imul hx hb dX3_costOf_24 ?_
        refine lv_iadd hx hb dX3_costOf_25 ?_
        refine lv_istore_n (lv' := [(2, .int ((wo wt x i) + ((((x) >>> ((nI (i)) &&& 31)) &&& (1)) * (wt (i))))), (0, .ref (ad 0)), (1, .int (x)), (3, .int (nI (i)))]) hx hb dX3_costOf_26 rfl hl (by decide) rfl (fun ls hl => ?_)
        refine lv_iinc (v := nI (i + 1)) (lv' := [(3, .int (nI (i + 1))), (2, .int ((wo wt x i) + ((((x) >>> ((nI (i)) &&& 31)) &&& (1)) * (wt (i))))), (0, .ref (ad 0)), (1, .int (x))]) hx hb dX3_costOf_27 hl (k := 3) rfl (nI_1 _) (by decide) rfl (fun ls hl => ?_)
        refine lv_goto (tgt := 4) hx hb dX3_costOf_30 (by decide) ?_
        exact ih (i + 1) _ _ (by omega) (by omega)  (wo_mul wt x i) rfl ls (lv_sub hl [2, 3, 1, 0] rfl)
  refine lv_iconst (v := nI (0)) hx hb dX3_costOf_0 (by decide) ?_
  refine lv_istore_n (lv' := [(2, .int (nI (0))), (0, .ref (ad 0)), (1, .int (x))]) hx hb dX3_costOf_1 rfl hl (by decide) rfl (fun ls hl => ?_)
  refine lv_iconst (v := nI (0)) hx hb dX3_costOf_2 (by decide) ?_
  refine lv_istore_n (lv' := [(3, .int (nI (0))), (2, .int (nI (0))), (0, .ref (ad 0)), (1, .int (x))]) hx hb dX3_costOf_3 rfl hl (by decide) rfl (fun ls hl => ?_)
  exact lp_4 (A + 1) (0) _ _ (by omega) (by omega)  (by first | rfl | (simp [wo]; done) | (simp only [wo]; rfl) | (simp_all [wo]; done)) (by first | rfl | (simp [wo]; done) | (simp only [wo]; rfl) | (simp_all [wo]; done)) ls (lv_sub hl [2, 3, 1, 0] rfl)
set_option maxHeartbeats 4000000 in
set_option maxRecDepth 100000 in
theorem c_X3_isGood (l : Launch) (D : va_G) (cI cZ : ClassId) (ad : Nat → Nat) (th : Int32) (N : Nat) (A : Nat) (R : Nat) (kw : Bool) (an : Nat → Int32) (nd : Nat → Int32) (wt : Nat → Int32) (B : Nat → Int32) (Hd : Nat → Int32) (O : Nat → Bool) (HL : Nat → Int32) (CO : Nat → Bool) (k : Int32) (e0 : Nat) (he : e0 < 512) : Met l yX3_isGood wsX3_isGood (({ frames := 1, cells := 0, slots := 0, locals := 22 })) (pcP D [(cI, .int), (cZ, .boolean)] (wM cI cZ ad th N A R kw an nd wt B Hd O HL CO) [.ref (ad 0), .int (k), .int (nI (e0))]) (vp_Si (fun v => v = bI (gd HL CO k e0))) 0 0 (fun _ => False) := by
  refine Met.ofW (cc := cX3_isGood) (maxL := 3) (ret := (some .boolean)) (by decide) rfl ?_
  intro p e s m args below meth c s₁ BB hml hv
  obtain ⟨rfl, hP, hK⟩ := hv
  have hx := BB.exec
  have hb := BB.bytes
  have hrt := BB.returns
  have hts := atoms_spec (ws := wsX3_isGood) BB.pre
  have hown : s.vm.findClass RX3 = some m.cls := findClass_of_methodNamed BB.named
  have hlk := BB.notSynchronized
  have f32 := hts (.fieldLink RX3 32 "AssumptionKeeperModel" "areConsistent" "[Z") (by decide +kernel)
  have hin3 : ∀ w ∈ u_ws RX3 TX3 13, w ∈ wsX3_isGood := by decide +kernel
  have hl := lv_entry ([.ref (ad 0), .int (k), .int (nI (e0))]) (n := 3) (Nat.le_of_ble_eq_true rfl)
  rw [lg_entry_eq]
  generalize (lg_sl ([.ref (ad 0), .int (k), .int (nI (e0))]) ++ List.replicate (3 - (lg_sl ([.ref (ad 0), .int (k), .int (nI (e0))])).length) Slot.unset).toArray = ls at hl ⊢
  have hl : lv_has ls 3 [(0, .ref (ad 0)), (1, .int (k)), (2, .int (nI (e0)))] := hl
  refine lv_aload_n hx hb dX3_isGood_0 rfl (lv_at hl 0 rfl) ?_
  refine va_get (D := D) (ci := 3) (v := .ref (ad 8)) (C := RX3) (T := TX3) (N := 13) hx hb hts hin3 hown hK.1 hP 0 rfl rfl 12 (by decide) f32 (fun _ h9 => h9) rfl dX3_isGood_1 ?_
  refine lv_iload_n hx hb dX3_isGood_4 rfl (lv_at hl 2 rfl) ?_
  refine az_ (D := D) (f := CO) (i := e0) hx hb hK hP 8 1 rfl rfl (by omega) (by decide) dX3_isGood_5 ?_
  refine lv_if_eq (tgt := 22) hx hb dX3_isGood_6 (by decide) (fun c_6 => ?_) (fun c_6 => ?_)
  · skip
    have c_6 := bI_eq0 c_6
    refine lv_iconst (v := 0) hx hb dX3_isGood_22 (by decide) ?_
    exact rz_ (v := false) hx hb hrt hlk dX3_isGood_23 (by first | rfl | (simp [gd, c_6]; done) | (simp only [gd, c_6]; rfl) | (simp_all [gd, c_6]; done))
  · skip
    have c_6 := bI_ne0 c_6
    refine lv_aload_n hx hb dX3_isGood_9 rfl (lv_at hl 0 rfl) ?_
    refine lv_iload_n hx hb dX3_isGood_10 rfl (lv_at hl 1 rfl) ?_
    refine lv_iload_n hx hb dX3_isGood_11 rfl (lv_at hl 2 rfl) ?_
    refine pu_i (va_runV (As := [.int (k), .int (nI (e0))]) (rest := []) ⟨hx, hb, hml, hown, hts⟩ (c_X3_has l D cI cZ ad (th) (N) (A) (R) (kw) (an) (nd) (wt) (B) (Hd) (O) (HL) (CO) (k) (e0) (by omega)) (cwV 2 hts gX3_isGood_X3_has rfl rfl rfl (by decide +kernel) ⟨Nat.le_of_ble_eq_true rfl, Nat.le_of_ble_eq_true rfl⟩) (pre_V (q0 := 0) (ci := 3) (hP.sub (ws' := (wM cI cZ ad th N A R kw an nd wt B Hd O HL CO)) [0, 1, 2, 3, 4, 5, 6, 7, 8] rfl) hK rfl rfl) rfl rfl hl.1 rfl (lv_room (Nat.le_of_ble_eq_true rfl)) dX3_isGood_12 ⟨Nat.zero_le _, Nat.zero_le _⟩) ?_
    refine lv_if_eq (tgt := 22) hx hb dX3_isGood_15 (by decide) (fun c_15 => ?_) (fun c_15 => ?_)
    · skip
      have c_15 := bI_eq0 c_15
      refine lv_iconst (v := 0) hx hb dX3_isGood_22 (by decide) ?_
      exact rz_ (v := false) hx hb hrt hlk dX3_isGood_23 (by first | rfl | (simp [gd, c_6, c_15]; done) | (simp only [gd, c_6, c_15]; rfl) | (simp_all [gd, c_6, c_15]; done))
    · skip
      have c_15 := bI_ne0 c_15
      refine lv_iconst (v := 1) hx hb dX3_isGood_18 (by decide) ?_
      refine lv_goto (tgt := 23) hx hb dX3_isGood_19 (by decide) ?_
      exact rz_ (v := true) hx hb hrt hlk dX3_isGood_23 (by first | rfl | (simp [gd, c_6, c_15]; done) | (simp only [gd, c_6, c_15]; rfl) | (simp_all [gd, c_6, c_15]; done))
set_option maxHeartbeats 4000000 in
set_option maxRecDepth 100000 in
theorem c_X3_isLabel (l : Launch) (D : va_G) (cI cZ : ClassId) (ad : Nat → Nat) (th : Int32) (N : Nat) (A : Nat) (R : Nat) (kw : Bool) (an : Nat → Int32) (nd : Nat → Int32) (wt : Nat → Int32) (B : Nat → Int32) (Hd : Nat → Int32) (O : Nat → Bool) (HL : Nat → Int32) (CO : Nat → Bool) (k : Int32) (e0 : Nat) (he : e0 < 512) : Met l yX3_isLabel wsX3_isLabel (({ frames := 2, cells := 0, slots := 0, locals := 44 })) (pcP D [(cI, .int), (cZ, .boolean)] (wM cI cZ ad th N A R kw an nd wt B Hd O HL CO) [.ref (ad 0), .int (k), .int (nI (e0))]) (vp_Si (fun v => v = bI (lbM HL CO k e0))) 0 0 (fun _ => False) := by
  refine Met.ofW (cc := cX3_isLabel) (maxL := 5) (ret := (some .boolean)) (by decide) rfl ?_
  intro p e s m args below meth c s₁ BB hml hv
  obtain ⟨rfl, hP, hK⟩ := hv
  have hx := BB.exec
  have hb := BB.bytes
  have hrt := BB.returns
  have hts := atoms_spec (ws := wsX3_isLabel) BB.pre
  have hown : s.vm.findClass RX3 = some m.cls := findClass_of_methodNamed BB.named
  have hlk := BB.notSynchronized
  have hl := lv_entry ([.ref (ad 0), .int (k), .int (nI (e0))]) (n := 5) (Nat.le_of_ble_eq_true rfl)
  rw [lg_entry_eq]
  generalize (lg_sl ([.ref (ad 0), .int (k), .int (nI (e0))]) ++ List.replicate (5 - (lg_sl ([.ref (ad 0), .int (k), .int (nI (e0))])).length) Slot.unset).toArray = ls at hl ⊢
  have hl : lv_has ls 5 [(0, .ref (ad 0)), (1, .int (k)), (2, .int (nI (e0)))] := hl
  have lp_10 : ∀ (n i : Nat) (v3 : Int32) (v4 : Int32), i ≤ e0 → e0 + 1 ≤ i + n → v3 = bI (gd HL CO k e0 && !(ex (fun j => inn (nI j) (nI e0) && gd HL CO k j) i)) → v4 = nI (i) → ∀ ls : Array Slot, lv_has ls 5 [(0, .ref (ad 0)), (1, .int (k)), (2, .int (nI (e0))), (3, .int (v3)), (4, .int (v4))] → W p l e (headSpec wsX3_isLabel ({ frames := 2, cells := 0, slots := 0, locals := 44 })).room s m ([.ref (ad 0), .int (k), .int (nI (e0))]).toArray below meth c s.heap [] 0 0 (MQ below (vp_Si (fun v => v = bI (lbM HL CO k e0))) ([.ref (ad 0), .int (k), .int (nI (e0))]).toArray s 0 0 (fun _ => False)) (F0 m 10 ls []) := by
    intro n
    induction n with
    | zero => intro i v3 v4 h1 h2; exact absurd h2 (by omega)
    | succ n ih =>
      intro i v3 v4 hi_ hn_  e3 e4 ls hl
      subst e3 e4
      have hl : lv_has ls 5 [(0, .ref (ad 0)), (1, .int (k)), (2, .int (nI (e0))), (3, .int (bI (gd HL CO k e0 && !(ex (fun j => inn (nI j) (nI e0) && gd HL CO k j) i)))), (4, .int (nI (i)))] := hl
      refine lv_iload hx hb dX3_isLabel_10 (lv_at hl 4 rfl) ?_
      refine lv_iload_n hx hb dX3_isLabel_12 rfl (lv_at hl 2 rfl) ?_
      refine lv_icmp_ge (tgt := 51) hx hb dX3_isLabel_13 (by decide) (fun c_13 => ?_) (fun c_13 => ?_)
      · skip
        have c_13 := (qI_le (a := e0) (b := i) (by omega) (by omega)).mp c_13
        refine lv_iload_n hx hb dX3_isLabel_51 rfl (lv_at hl 3 rfl) ?_
        exact rz_ (v := gd HL CO k e0 && !(ex (fun j => inn (nI j) (nI e0) && gd HL CO k j) i)) hx hb hrt hlk dX3_isLabel_52 (by first | exact c_17.trans (is_end (P := (fun j => inn (nI j) (nI e0) && gd HL CO k j)) c_17 (by omega)) | (obtain rfl : i = e0 := (by omega); rfl))
      · skip
        have c_13 := mt (qI_le (a := e0) (b := i) (by omega) (by omega)).mpr c_13
        refine lv_iload_n hx hb dX3_isLabel_16 rfl (lv_at hl 3 rfl) ?_
        refine lv_if_eq (tgt := 51) hx hb dX3_isLabel_17 (by decide) (fun c_17 => ?_) (fun c_17 => ?_)
        · skip
          have c_17 := bI_eq0 c_17
          refine lv_iload_n hx hb dX3_isLabel_51 rfl (lv_at hl 3 rfl) ?_
          exact rz_ (v := gd HL CO k e0 && !(ex (fun j => inn (nI j) (nI e0) && gd HL CO k j) i)) hx hb hrt hlk dX3_isLabel_52 (by first | exact c_17.trans (is_end (P := (fun j => inn (nI j) (nI e0) && gd HL CO k j)) c_17 (by omega)) | (obtain rfl : i = e0 := (by omega); rfl))
        · skip
          have c_17 := bI_ne0 c_17
          refine lv_iload hx hb dX3_isLabel_20 (lv_at hl 4 rfl) ?_
          refine lv_iload_n hx hb dX3_isLabel_22 rfl (lv_at hl 2 rfl) ?_
          refine pu_i (va_runS (As := [.int (nI (i)), .int (nI (e0))]) (rest := []) ⟨hx, hb, hml, hown, hts⟩ (c_X3_isIn l D cI cZ ad (nI (i)) (nI (e0)) ) (cwS 2 hts gX3_isLabel_X3_isIn rfl rfl rfl (by decide +kernel) ⟨Nat.le_of_ble_eq_true rfl, Nat.le_of_ble_eq_true rfl⟩) (pre_S (hP.sub (ws' := ([] : va_W)) [] rfl) hK) rfl rfl hl.1 rfl (lv_room (Nat.le_of_ble_eq_true rfl)) dX3_isLabel_23 ⟨Nat.zero_le _, Nat.zero_le _⟩) ?_
          refine lv_if_eq (tgt := 39) hx hb dX3_isLabel_26 (by decide) (fun c_26 => ?_) (fun c_26 => ?_)
          · skip
            have c_26 := bI_eq0 c_26
            refine lv_iconst (v := 1) hx hb dX3_isLabel_39 (by decide) ?_
            refine lv_goto (tgt := 44) hx hb dX3_isLabel_40 (by decide) ?_
            refine lv_istore_n (lv' := [(3, .int (1)), (0, .ref (ad 0)), (1, .int (k)), (2, .int (nI (e0))), (4, .int (nI (i)))]) hx hb dX3_isLabel_44 rfl hl (by decide) rfl (fun ls hl => ?_)
            refine lv_iinc (v := nI (i + 1)) (lv' := [(4, .int (nI (i + 1))), (3, .int (1)), (0, .ref (ad 0)), (1, .int (k)), (2, .int (nI (e0)))]) hx hb dX3_isLabel_45 hl (k := 4) rfl (nI_1 _) (by decide) rfl (fun ls hl => ?_)
            refine lv_goto (tgt := 10) hx hb dX3_isLabel_48 (by decide) ?_
            exact ih (i + 1) _ _ (by omega) (by omega)  (by first | exact is_t (ee := ex (fun j => inn (nI j) (nI e0) && gd HL CO k j) i) c_17 (by simp [c_13, c_17, c_26]) | exact is_f (ee := ex (fun j => inn (nI j) (nI e0) && gd HL CO k j) i) (by simp [c_13, c_17, c_26])) rfl ls (lv_sub hl [2, 3, 4, 1, 0] rfl)
          · skip
            have c_26 := bI_ne0 c_26
            refine lv_aload_n hx hb dX3_isLabel_29 rfl (lv_at hl 0 rfl) ?_
            refine lv_iload_n hx hb dX3_isLabel_30 rfl (lv_at hl 1 rfl) ?_
            refine lv_iload hx hb dX3_isLabel_31 (lv_at hl 4 rfl) ?_
            refine pu_i (va_runV (As := [.int (k), .int (nI (i))]) (rest := []) ⟨hx, hb, hml, hown, hts⟩ (c_X3_isGood l D cI cZ ad (th) (N) (A) (R) (kw) (an) (nd) (wt) (B) (Hd) (O) (HL) (CO) (k) (i) (by omega)) (cwV 2 hts gX3_isLabel_X3_isGood rfl rfl rfl (by decide +kernel) ⟨Nat.le_of_ble_eq_true rfl, Nat.le_of_ble_eq_true rfl⟩) (pre_V (q0 := 0) (ci := 3) (hP.sub (ws' := (wM cI cZ ad th N A R kw an nd wt B Hd O HL CO)) [0, 1, 2, 3, 4, 5, 6, 7, 8] rfl) hK rfl rfl) rfl rfl hl.1 rfl (lv_room (Nat.le_of_ble_eq_true rfl)) dX3_isLabel_33 ⟨Nat.zero_le _, Nat.zero_le _⟩) ?_
            refine lv_if_ne (tgt := 43) hx hb dX3_isLabel_36 (by decide) (fun c_36 => ?_) (fun c_36 => ?_)
            · skip
              have c_36 := bI_ne0 c_36
              refine lv_iconst (v := nI (0)) hx hb dX3_isLabel_43 (by decide) ?_
              refine lv_istore_n (lv' := [(3, .int (nI (0))), (0, .ref (ad 0)), (1, .int (k)), (2, .int (nI (e0))), (4, .int (nI (i)))]) hx hb dX3_isLabel_44 rfl hl (by decide) rfl (fun ls hl => ?_)
              refine lv_iinc (v := nI (i + 1)) (lv' := [(4, .int (nI (i + 1))), (3, .int (nI (0))), (0, .ref (ad 0)), (1, .int (k)), (2, .int (nI (e0)))]) hx hb dX3_isLabel_45 hl (k := 4) rfl (nI_1 _) (by decide) rfl (fun ls hl => ?_)
              refine lv_goto (tgt := 10) hx hb dX3_isLabel_48 (by decide) ?_
              exact ih (i + 1) _ _ (by omega) (by omega)  (by first | exact is_t (ee := ex (fun j => inn (nI j) (nI e0) && gd HL CO k j) i) c_17 (by simp [c_13, c_17, c_26, c_36]) | exact is_f (ee := ex (fun j => inn (nI j) (nI e0) && gd HL CO k j) i) (by simp [c_13, c_17, c_26, c_36])) rfl ls (lv_sub hl [2, 3, 4, 1, 0] rfl)
            · skip
              have c_36 := bI_eq0 c_36
              refine lv_iconst (v := 1) hx hb dX3_isLabel_39 (by decide) ?_
              refine lv_goto (tgt := 44) hx hb dX3_isLabel_40 (by decide) ?_
              refine lv_istore_n (lv' := [(3, .int (1)), (0, .ref (ad 0)), (1, .int (k)), (2, .int (nI (e0))), (4, .int (nI (i)))]) hx hb dX3_isLabel_44 rfl hl (by decide) rfl (fun ls hl => ?_)
              refine lv_iinc (v := nI (i + 1)) (lv' := [(4, .int (nI (i + 1))), (3, .int (1)), (0, .ref (ad 0)), (1, .int (k)), (2, .int (nI (e0)))]) hx hb dX3_isLabel_45 hl (k := 4) rfl (nI_1 _) (by decide) rfl (fun ls hl => ?_)
              refine lv_goto (tgt := 10) hx hb dX3_isLabel_48 (by decide) ?_
              exact ih (i + 1) _ _ (by omega) (by omega)  (by first | exact is_t (ee := ex (fun j => inn (nI j) (nI e0) && gd HL CO k j) i) c_17 (by simp [c_13, c_17, c_26, c_36]) | exact is_f (ee := ex (fun j => inn (nI j) (nI e0) && gd HL CO k j) i) (by simp [c_13, c_17, c_26, c_36])) rfl ls (lv_sub hl [2, 3, 4, 1, 0] rfl)
  refine lv_aload_n hx hb dX3_isLabel_0 rfl (lv_at hl 0 rfl) ?_
  refine lv_iload_n hx hb dX3_isLabel_1 rfl (lv_at hl 1 rfl) ?_
  refine lv_iload_n hx hb dX3_isLabel_2 rfl (lv_at hl 2 rfl) ?_
  refine pu_i (va_runV (As := [.int (k), .int (nI (e0))]) (rest := []) ⟨hx, hb, hml, hown, hts⟩ (c_X3_isGood l D cI cZ ad (th) (N) (A) (R) (kw) (an) (nd) (wt) (B) (Hd) (O) (HL) (CO) (k) (e0) (by omega)) (cwV 2 hts gX3_isLabel_X3_isGood rfl rfl rfl (by decide +kernel) ⟨Nat.le_of_ble_eq_true rfl, Nat.le_of_ble_eq_true rfl⟩) (pre_V (q0 := 0) (ci := 3) (hP.sub (ws' := (wM cI cZ ad th N A R kw an nd wt B Hd O HL CO)) [0, 1, 2, 3, 4, 5, 6, 7, 8] rfl) hK rfl rfl) rfl rfl hl.1 rfl (lv_room (Nat.le_of_ble_eq_true rfl)) dX3_isLabel_3 ⟨Nat.zero_le _, Nat.zero_le _⟩) ?_
  refine lv_istore_n (lv' := [(3, .int (bI (gd HL CO k e0))), (0, .ref (ad 0)), (1, .int (k)), (2, .int (nI (e0)))]) hx hb dX3_isLabel_6 rfl hl (by decide) rfl (fun ls hl => ?_)
  refine lv_iconst (v := nI (0)) hx hb dX3_isLabel_7 (by decide) ?_
  refine lv_istore (lv' := [(4, .int (nI (0))), (3, .int (bI (gd HL CO k e0))), (0, .ref (ad 0)), (1, .int (k)), (2, .int (nI (e0)))]) hx hb dX3_isLabel_8 hl (by decide) rfl (fun ls hl => ?_)
  exact lp_10 (e0 + 1) (0) _ _ (by omega) (by omega)  (by simp [ex]) (by first | rfl | (simp []; done) | (simp only []; rfl) | (simp_all []; done)) ls (lv_sub hl [2, 3, 4, 1, 0] rfl)
set_option maxHeartbeats 4000000 in
set_option maxRecDepth 100000 in
theorem c_X3_isNogood (l : Launch) (D : va_G) (cI cZ : ClassId) (ad : Nat → Nat) (th : Int32) (N : Nat) (A : Nat) (R : Nat) (kw : Bool) (an : Nat → Int32) (nd : Nat → Int32) (wt : Nat → Int32) (B : Nat → Int32) (Hd : Nat → Int32) (O : Nat → Bool) (HL : Nat → Int32) (CO : Nat → Bool) (e0 : Nat) (he : e0 < 512) : Met l yX3_isNogood wsX3_isNogood (({ frames := 1, cells := 0, slots := 0, locals := 21 })) (pcP D [(cI, .int), (cZ, .boolean)] (wM cI cZ ad th N A R kw an nd wt B Hd O HL CO) [.ref (ad 0), .int (nI (e0))]) (vp_Si (fun v => v = bI (ngM CO e0))) 0 0 (fun _ => False) := by
  refine Met.ofW (cc := cX3_isNogood) (maxL := 4) (ret := (some .boolean)) (by decide) rfl ?_
  intro p e s m args below meth c s₁ BB hml hv
  obtain ⟨rfl, hP, hK⟩ := hv
  have hx := BB.exec
  have hb := BB.bytes
  have hrt := BB.returns
  have hts := atoms_spec (ws := wsX3_isNogood) BB.pre
  have hown : s.vm.findClass RX3 = some m.cls := findClass_of_methodNamed BB.named
  have hlk := BB.notSynchronized
  have f32 := hts (.fieldLink RX3 32 "AssumptionKeeperModel" "areConsistent" "[Z") (by decide +kernel)
  have hin3 : ∀ w ∈ u_ws RX3 TX3 13, w ∈ wsX3_isNogood := by decide +kernel
  have hl := lv_entry ([.ref (ad 0), .int (nI (e0))]) (n := 4) (Nat.le_of_ble_eq_true rfl)
  rw [lg_entry_eq]
  generalize (lg_sl ([.ref (ad 0), .int (nI (e0))]) ++ List.replicate (4 - (lg_sl ([.ref (ad 0), .int (nI (e0))])).length) Slot.unset).toArray = ls at hl ⊢
  have hl : lv_has ls 4 [(0, .ref (ad 0)), (1, .int (nI (e0)))] := hl
  have lp_17 : ∀ (n i : Nat) (v2 : Int32) (v3 : Int32), i ≤ e0 → e0 + 1 ≤ i + n → v2 = bI (!(CO e0) && !(ex (fun j => !(CO j) && inn (nI j) (nI e0)) i)) → v3 = nI (i) → ∀ ls : Array Slot, lv_has ls 4 [(0, .ref (ad 0)), (1, .int (nI (e0))), (2, .int (v2)), (3, .int (v3))] → W p l e (headSpec wsX3_isNogood ({ frames := 1, cells := 0, slots := 0, locals := 21 })).room s m ([.ref (ad 0), .int (nI (e0))]).toArray below meth c s.heap [] 0 0 (MQ below (vp_Si (fun v => v = bI (ngM CO e0))) ([.ref (ad 0), .int (nI (e0))]).toArray s 0 0 (fun _ => False)) (F0 m 17 ls []) := by
    intro n
    induction n with
    | zero => intro i v2 v3 h1 h2; exact absurd h2 (by omega)
    | succ n ih =>
      intro i v2 v3 hi_ hn_  e2 e3 ls hl
      subst e2 e3
      have hl : lv_has ls 4 [(0, .ref (ad 0)), (1, .int (nI (e0))), (2, .int (bI (!(CO e0) && !(ex (fun j => !(CO j) && inn (nI j) (nI e0)) i)))), (3, .int (nI (i)))] := hl
      refine lv_iload_n hx hb dX3_isNogood_17 rfl (lv_at hl 3 rfl) ?_
      refine lv_iload_n hx hb dX3_isNogood_18 rfl (lv_at hl 1 rfl) ?_
      refine lv_icmp_ge (tgt := 55) hx hb dX3_isNogood_19 (by decide) (fun c_19 => ?_) (fun c_19 => ?_)
      · skip
        have c_19 := (qI_le (a := e0) (b := i) (by omega) (by omega)).mp c_19
        refine lv_iload_n hx hb dX3_isNogood_55 rfl (lv_at hl 2 rfl) ?_
        exact rz_ (v := !(CO e0) && !(ex (fun j => !(CO j) && inn (nI j) (nI e0)) i)) hx hb hrt hlk dX3_isNogood_56 (by first | exact c_23.trans (is_end (P := (fun j => !(CO j) && inn (nI j) (nI e0))) c_23 (by omega)) | (obtain rfl : i = e0 := (by omega); rfl))
      · skip
        have c_19 := mt (qI_le (a := e0) (b := i) (by omega) (by omega)).mpr c_19
        refine lv_iload_n hx hb dX3_isNogood_22 rfl (lv_at hl 2 rfl) ?_
        refine lv_if_eq (tgt := 55) hx hb dX3_isNogood_23 (by decide) (fun c_23 => ?_) (fun c_23 => ?_)
        · skip
          have c_23 := bI_eq0 c_23
          refine lv_iload_n hx hb dX3_isNogood_55 rfl (lv_at hl 2 rfl) ?_
          exact rz_ (v := !(CO e0) && !(ex (fun j => !(CO j) && inn (nI j) (nI e0)) i)) hx hb hrt hlk dX3_isNogood_56 (by first | exact c_23.trans (is_end (P := (fun j => !(CO j) && inn (nI j) (nI e0))) c_23 (by omega)) | (obtain rfl : i = e0 := (by omega); rfl))
        · skip
          have c_23 := bI_ne0 c_23
          refine lv_aload_n hx hb dX3_isNogood_26 rfl (lv_at hl 0 rfl) ?_
          refine va_get (D := D) (ci := 3) (v := .ref (ad 8)) (C := RX3) (T := TX3) (N := 13) hx hb hts hin3 hown hK.1 hP 0 rfl rfl 12 (by decide) f32 (fun _ h9 => h9) rfl dX3_isNogood_27 ?_
          refine lv_iload_n hx hb dX3_isNogood_30 rfl (lv_at hl 3 rfl) ?_
          refine az_ (D := D) (f := CO) (i := i) hx hb hK hP 8 1 rfl rfl (by omega) (by decide) dX3_isNogood_31 ?_
          refine lv_if_ne (tgt := 43) hx hb dX3_isNogood_32 (by decide) (fun c_32 => ?_) (fun c_32 => ?_)
          · skip
            have c_32 := bI_ne0 c_32
            refine lv_iconst (v := 1) hx hb dX3_isNogood_43 (by decide) ?_
            refine lv_goto (tgt := 48) hx hb dX3_isNogood_44 (by decide) ?_
            refine lv_istore_n (lv' := [(2, .int (1)), (0, .ref (ad 0)), (1, .int (nI (e0))), (3, .int (nI (i)))]) hx hb dX3_isNogood_48 rfl hl (by decide) rfl (fun ls hl => ?_)
            refine lv_iinc (v := nI (i + 1)) (lv' := [(3, .int (nI (i + 1))), (2, .int (1)), (0, .ref (ad 0)), (1, .int (nI (e0)))]) hx hb dX3_isNogood_49 hl (k := 3) rfl (nI_1 _) (by decide) rfl (fun ls hl => ?_)
            refine lv_goto (tgt := 17) hx hb dX3_isNogood_52 (by decide) ?_
            exact ih (i + 1) _ _ (by omega) (by omega)  (by first | exact is_t (ee := ex (fun j => !(CO j) && inn (nI j) (nI e0)) i) c_23 (by simp [c_19, c_23, c_32]) | exact is_f (ee := ex (fun j => !(CO j) && inn (nI j) (nI e0)) i) (by simp [c_19, c_23, c_32])) rfl ls (lv_sub hl [2, 3, 1, 0] rfl)
          · skip
            have c_32 := bI_eq0 c_32
            refine lv_iload_n hx hb dX3_isNogood_35 rfl (lv_at hl 3 rfl) ?_
            refine lv_iload_n hx hb dX3_isNogood_36 rfl (lv_at hl 1 rfl) ?_
            refine pu_i (va_runS (As := [.int (nI (i)), .int (nI (e0))]) (rest := []) ⟨hx, hb, hml, hown, hts⟩ (c_X3_isIn l D cI cZ ad (nI (i)) (nI (e0)) ) (cwS 2 hts gX3_isNogood_X3_isIn rfl rfl rfl (by decide +kernel) ⟨Nat.le_of_ble_eq_true rfl, Nat.le_of_ble_eq_true rfl⟩) (pre_S (hP.sub (ws' := ([] : va_W)) [] rfl) hK) rfl rfl hl.1 rfl (lv_room (Nat.le_of_ble_eq_true rfl)) dX3_isNogood_37 ⟨Nat.zero_le _, Nat.zero_le _⟩) ?_
            refine lv_if_ne (tgt := 47) hx hb dX3_isNogood_40 (by decide) (fun c_40 => ?_) (fun c_40 => ?_)
            · skip
              have c_40 := bI_ne0 c_40
              refine lv_iconst (v := nI (0)) hx hb dX3_isNogood_47 (by decide) ?_
              refine lv_istore_n (lv' := [(2, .int (nI (0))), (0, .ref (ad 0)), (1, .int (nI (e0))), (3, .int (nI (i)))]) hx hb dX3_isNogood_48 rfl hl (by decide) rfl (fun ls hl => ?_)
              refine lv_iinc (v := nI (i + 1)) (lv' := [(3, .int (nI (i + 1))), (2, .int (nI (0))), (0, .ref (ad 0)), (1, .int (nI (e0)))]) hx hb dX3_isNogood_49 hl (k := 3) rfl (nI_1 _) (by decide) rfl (fun ls hl => ?_)
              refine lv_goto (tgt := 17) hx hb dX3_isNogood_52 (by decide) ?_
              exact ih (i + 1) _ _ (by omega) (by omega)  (by first | exact is_t (ee := ex (fun j => !(CO j) && inn (nI j) (nI e0)) i) c_23 (by simp [c_19, c_23, c_32, c_40]) | exact is_f (ee := ex (fun j => !(CO j) && inn (nI j) (nI e0)) i) (by simp [c_19, c_23, c_32, c_40])) rfl ls (lv_sub hl [2, 3, 1, 0] rfl)
            · skip
              have c_40 := bI_eq0 c_40
              refine lv_iconst (v := 1) hx hb dX3_isNogood_43 (by decide) ?_
              refine lv_goto (tgt := 48) hx hb dX3_isNogood_44 (by decide) ?_
              refine lv_istore_n (lv' := [(2, .int (1)), (0, .ref (ad 0)), (1, .int (nI (e0))), (3, .int (nI (i)))]) hx hb dX3_isNogood_48 rfl hl (by decide) rfl (fun ls hl => ?_)
              refine lv_iinc (v := nI (i + 1)) (lv' := [(3, .int (nI (i + 1))), (2, .int (1)), (0, .ref (ad 0)), (1, .int (nI (e0)))]) hx hb dX3_isNogood_49 hl (k := 3) rfl (nI_1 _) (by decide) rfl (fun ls hl => ?_)
              refine lv_goto (tgt := 17) hx hb dX3_isNogood_52 (by decide) ?_
              exact ih (i + 1) _ _ (by omega) (by omega)  (by first | exact is_t (ee := ex (fun j => !(CO j) && inn (nI j) (nI e0)) i) c_23 (by simp [c_19, c_23, c_32, c_40]) | exact is_f (ee := ex (fun j => !(CO j) && inn (nI j) (nI e0)) i) (by simp [c_19, c_23, c_32, c_40])) rfl ls (lv_sub hl [2, 3, 1, 0] rfl)
  refine lv_aload_n hx hb dX3_isNogood_0 rfl (lv_at hl 0 rfl) ?_
  refine va_get (D := D) (ci := 3) (v := .ref (ad 8)) (C := RX3) (T := TX3) (N := 13) hx hb hts hin3 hown hK.1 hP 0 rfl rfl 12 (by decide) f32 (fun _ h9 => h9) rfl dX3_isNogood_1 ?_
  refine lv_iload_n hx hb dX3_isNogood_4 rfl (lv_at hl 1 rfl) ?_
  refine az_ (D := D) (f := CO) (i := e0) hx hb hK hP 8 1 rfl rfl (by omega) (by decide) dX3_isNogood_5 ?_
  refine lv_if_ne (tgt := 13) hx hb dX3_isNogood_6 (by decide) (fun c_6 => ?_) (fun c_6 => ?_)
  · skip
    have c_6 := bI_ne0 c_6
    refine lv_iconst (v := nI (0)) hx hb dX3_isNogood_13 (by decide) ?_
    refine lv_istore_n (lv' := [(2, .int (nI (0))), (0, .ref (ad 0)), (1, .int (nI (e0)))]) hx hb dX3_isNogood_14 rfl hl (by decide) rfl (fun ls hl => ?_)
    refine lv_iconst (v := nI (0)) hx hb dX3_isNogood_15 (by decide) ?_
    refine lv_istore_n (lv' := [(3, .int (nI (0))), (2, .int (nI (0))), (0, .ref (ad 0)), (1, .int (nI (e0)))]) hx hb dX3_isNogood_16 rfl hl (by decide) rfl (fun ls hl => ?_)
    exact lp_17 (e0 + 1) (0) _ _ (by omega) (by omega)  (by simp [ex, bI, c_6]; try rfl) (by first | rfl | (simp [c_6]; done) | (simp only [c_6]; rfl) | (simp_all [c_6]; done)) ls (lv_sub hl [2, 3, 1, 0] rfl)
  · skip
    have c_6 := bI_eq0 c_6
    refine lv_iconst (v := 1) hx hb dX3_isNogood_9 (by decide) ?_
    refine lv_goto (tgt := 14) hx hb dX3_isNogood_10 (by decide) ?_
    refine lv_istore_n (lv' := [(2, .int (1)), (0, .ref (ad 0)), (1, .int (nI (e0)))]) hx hb dX3_isNogood_14 rfl hl (by decide) rfl (fun ls hl => ?_)
    refine lv_iconst (v := nI (0)) hx hb dX3_isNogood_15 (by decide) ?_
    refine lv_istore_n (lv' := [(3, .int (nI (0))), (2, .int (1)), (0, .ref (ad 0)), (1, .int (nI (e0)))]) hx hb dX3_isNogood_16 rfl hl (by decide) rfl (fun ls hl => ?_)
    exact lp_17 (e0 + 1) (0) _ _ (by omega) (by omega)  (by simp [ex, bI, c_6]; try rfl) (by first | rfl | (simp [c_6]; done) | (simp only [c_6]; rfl) | (simp_all [c_6]; done)) ls (lv_sub hl [2, 3, 1, 0] rfl)
set_option maxHeartbeats 4000000 in
set_option maxRecDepth 100000 in
theorem c_X3_isWorld (l : Launch) (D : va_G) (cI cZ : ClassId) (ad : Nat → Nat) (th : Int32) (N : Nat) (A : Nat) (R : Nat) (kw : Bool) (an : Nat → Int32) (nd : Nat → Int32) (wt : Nat → Int32) (B : Nat → Int32) (Hd : Nat → Int32) (O : Nat → Bool) (HL : Nat → Int32) (CO : Nat → Bool) (e0 : Nat) (hA : A ≤ 9) (he : e0 < 2 ^ A) : Met l yX3_isWorld wsX3_isWorld (({ frames := 1, cells := 0, slots := 0, locals := 21 })) (pcP D [(cI, .int), (cZ, .boolean)] (wM cI cZ ad th N A R kw an nd wt B Hd O HL CO) [.ref (ad 0), .int (nI (e0))]) (vp_Si (fun v => v = bI (woM A CO e0))) 0 0 (fun _ => False) := by
  refine Met.ofW (cc := cX3_isWorld) (maxL := 4) (ret := (some .boolean)) (by decide) rfl ?_
  intro p e s m args below meth c s₁ BB hml hv
  obtain ⟨rfl, hP, hK⟩ := hv
  have hx := BB.exec
  have hb := BB.bytes
  have hrt := BB.returns
  have hts := atoms_spec (ws := wsX3_isWorld) BB.pre
  have hown : s.vm.findClass RX3 = some m.cls := findClass_of_methodNamed BB.named
  have hlk := BB.notSynchronized
  have f32 := hts (.fieldLink RX3 32 "AssumptionKeeperModel" "areConsistent" "[Z") (by decide +kernel)
  have f42 := hts (.fieldLink RX3 42 "AssumptionKeeperModel" "assumptions" "I") (by decide +kernel)
  have hin3 : ∀ w ∈ u_ws RX3 TX3 13, w ∈ wsX3_isWorld := by decide +kernel
  have hl := lv_entry ([.ref (ad 0), .int (nI (e0))]) (n := 4) (Nat.le_of_ble_eq_true rfl)
  rw [lg_entry_eq]
  generalize (lg_sl ([.ref (ad 0), .int (nI (e0))]) ++ List.replicate (4 - (lg_sl ([.ref (ad 0), .int (nI (e0))])).length) Slot.unset).toArray = ls at hl ⊢
  have hl : lv_has ls 4 [(0, .ref (ad 0)), (1, .int (nI (e0)))] := hl
  have h512 : 2 ^ A ≤ 512 := pow9 hA
  have lp_11 : ∀ (n i : Nat) (v2 : Int32) (v3 : Int32), i ≤ 2 ^ A → 2 ^ A + 1 ≤ i + n → (e0 < i) → v2 = bI (CO e0 && !(ex (fun j => decide (e0 < j) && (CO j && inn (nI e0) (nI j))) i)) → v3 = nI (i) → ∀ ls : Array Slot, lv_has ls 4 [(0, .ref (ad 0)), (1, .int (nI (e0))), (2, .int (v2)), (3, .int (v3))] → W p l e (headSpec wsX3_isWorld ({ frames := 1, cells := 0, slots := 0, locals := 21 })).room s m ([.ref (ad 0), .int (nI (e0))]).toArray below meth c s.heap [] 0 0 (MQ below (vp_Si (fun v => v = bI (woM A CO e0))) ([.ref (ad 0), .int (nI (e0))]).toArray s 0 0 (fun _ => False)) (F0 m 11 ls []) := by
    intro n
    induction n with
    | zero => intro i v2 v3 h1 h2; exact absurd h2 (by omega)
    | succ n ih =>
      intro i v2 v3 hi_ hn_ hgt e2 e3 ls hl
      subst e2 e3
      have hl : lv_has ls 4 [(0, .ref (ad 0)), (1, .int (nI (e0))), (2, .int (bI (CO e0 && !(ex (fun j => decide (e0 < j) && (CO j && inn (nI e0) (nI j))) i)))), (3, .int (nI (i)))] := hl
      refine lv_iload_n hx hb dX3_isWorld_11 rfl (lv_at hl 3 rfl) ?_
      refine lv_iconst (v := 1) hx hb dX3_isWorld_12 (by decide) ?_
      refine lv_aload_n hx hb dX3_isWorld_13 rfl (lv_at hl 0 rfl) ?_
      refine va_get (D := D) (ci := 3) (v := .int (nI (A))) (C := RX3) (T := TX3) (N := 13) hx hb hts hin3 hown hK.1 hP 0 rfl rfl 3 (by decide) f42 (fun _ h9 => h9) rfl dX3_isWorld_14 ?_
      refine lv_ishl hx hb dX3_isWorld_17 ?_
      rw [sh1_eq (by omega)]
      refine lv_icmp_ge (tgt := 54) hx hb dX3_isWorld_18 (by decide) (fun c_18 => ?_) (fun c_18 => ?_)
      · skip
        have c_18 := (qI_le (a := 2 ^ A) (b := i) (by omega) (by omega)).mp c_18
        refine lv_iload_n hx hb dX3_isWorld_54 rfl (lv_at hl 2 rfl) ?_
        exact rz_ (v := CO e0 && !(ex (fun j => decide (e0 < j) && (CO j && inn (nI e0) (nI j))) i)) hx hb hrt hlk dX3_isWorld_55 (by first | exact c_22.trans (is_end (P := (fun j => decide (e0 < j) && (CO j && inn (nI e0) (nI j)))) c_22 (by omega)) | (obtain rfl : i = 2 ^ A := (by omega); rfl))
      · skip
        have c_18 := mt (qI_le (a := 2 ^ A) (b := i) (by omega) (by omega)).mpr c_18
        refine lv_iload_n hx hb dX3_isWorld_21 rfl (lv_at hl 2 rfl) ?_
        refine lv_if_eq (tgt := 54) hx hb dX3_isWorld_22 (by decide) (fun c_22 => ?_) (fun c_22 => ?_)
        · skip
          have c_22 := bI_eq0 c_22
          refine lv_iload_n hx hb dX3_isWorld_54 rfl (lv_at hl 2 rfl) ?_
          exact rz_ (v := CO e0 && !(ex (fun j => decide (e0 < j) && (CO j && inn (nI e0) (nI j))) i)) hx hb hrt hlk dX3_isWorld_55 (by first | exact c_22.trans (is_end (P := (fun j => decide (e0 < j) && (CO j && inn (nI e0) (nI j)))) c_22 (by omega)) | (obtain rfl : i = 2 ^ A := (by omega); rfl))
        · skip
          have c_22 := bI_ne0 c_22
          refine lv_aload_n hx hb dX3_isWorld_25 rfl (lv_at hl 0 rfl) ?_
          refine va_get (D := D) (ci := 3) (v := .ref (ad 8)) (C := RX3) (T := TX3) (N := 13) hx hb hts hin3 hown hK.1 hP 0 rfl rfl 12 (by decide) f32 (fun _ h9 => h9) rfl dX3_isWorld_26 ?_
          refine lv_iload_n hx hb dX3_isWorld_29 rfl (lv_at hl 3 rfl) ?_
          refine az_ (D := D) (f := CO) (i := i) hx hb hK hP 8 1 rfl rfl (by omega) (by decide) dX3_isWorld_30 ?_
          refine lv_if_eq (tgt := 42) hx hb dX3_isWorld_31 (by decide) (fun c_31 => ?_) (fun c_31 => ?_)
          · skip
            have c_31 := bI_eq0 c_31
            refine lv_iconst (v := 1) hx hb dX3_isWorld_42 (by decide) ?_
            refine lv_goto (tgt := 47) hx hb dX3_isWorld_43 (by decide) ?_
            refine lv_istore_n (lv' := [(2, .int (1)), (0, .ref (ad 0)), (1, .int (nI (e0))), (3, .int (nI (i)))]) hx hb dX3_isWorld_47 rfl hl (by decide) rfl (fun ls hl => ?_)
            refine lv_iinc (v := nI (i + 1)) (lv' := [(3, .int (nI (i + 1))), (2, .int (1)), (0, .ref (ad 0)), (1, .int (nI (e0)))]) hx hb dX3_isWorld_48 hl (k := 3) rfl (nI_1 _) (by decide) rfl (fun ls hl => ?_)
            refine lv_goto (tgt := 11) hx hb dX3_isWorld_51 (by decide) ?_
            exact ih (i + 1) _ _ (by omega) (by omega) (by omega) (by first | exact is_t (ee := ex (fun j => decide (e0 < j) && (CO j && inn (nI e0) (nI j))) i) c_22 (by simp [hgt, c_18, c_22, c_31]) | exact is_f (ee := ex (fun j => decide (e0 < j) && (CO j && inn (nI e0) (nI j))) i) (by simp [hgt, c_18, c_22, c_31])) rfl ls (lv_sub hl [2, 3, 1, 0] rfl)
          · skip
            have c_31 := bI_ne0 c_31
            refine lv_iload_n hx hb dX3_isWorld_34 rfl (lv_at hl 1 rfl) ?_
            refine lv_iload_n hx hb dX3_isWorld_35 rfl (lv_at hl 3 rfl) ?_
            refine pu_i (va_runS (As := [.int (nI (e0)), .int (nI (i))]) (rest := []) ⟨hx, hb, hml, hown, hts⟩ (c_X3_isIn l D cI cZ ad (nI (e0)) (nI (i)) ) (cwS 2 hts gX3_isWorld_X3_isIn rfl rfl rfl (by decide +kernel) ⟨Nat.le_of_ble_eq_true rfl, Nat.le_of_ble_eq_true rfl⟩) (pre_S (hP.sub (ws' := ([] : va_W)) [] rfl) hK) rfl rfl hl.1 rfl (lv_room (Nat.le_of_ble_eq_true rfl)) dX3_isWorld_36 ⟨Nat.zero_le _, Nat.zero_le _⟩) ?_
            refine lv_if_ne (tgt := 46) hx hb dX3_isWorld_39 (by decide) (fun c_39 => ?_) (fun c_39 => ?_)
            · skip
              have c_39 := bI_ne0 c_39
              refine lv_iconst (v := nI (0)) hx hb dX3_isWorld_46 (by decide) ?_
              refine lv_istore_n (lv' := [(2, .int (nI (0))), (0, .ref (ad 0)), (1, .int (nI (e0))), (3, .int (nI (i)))]) hx hb dX3_isWorld_47 rfl hl (by decide) rfl (fun ls hl => ?_)
              refine lv_iinc (v := nI (i + 1)) (lv' := [(3, .int (nI (i + 1))), (2, .int (nI (0))), (0, .ref (ad 0)), (1, .int (nI (e0)))]) hx hb dX3_isWorld_48 hl (k := 3) rfl (nI_1 _) (by decide) rfl (fun ls hl => ?_)
              refine lv_goto (tgt := 11) hx hb dX3_isWorld_51 (by decide) ?_
              exact ih (i + 1) _ _ (by omega) (by omega) (by omega) (by first | exact is_t (ee := ex (fun j => decide (e0 < j) && (CO j && inn (nI e0) (nI j))) i) c_22 (by simp [hgt, c_18, c_22, c_31, c_39]) | exact is_f (ee := ex (fun j => decide (e0 < j) && (CO j && inn (nI e0) (nI j))) i) (by simp [hgt, c_18, c_22, c_31, c_39])) rfl ls (lv_sub hl [2, 3, 1, 0] rfl)
            · skip
              have c_39 := bI_eq0 c_39
              refine lv_iconst (v := 1) hx hb dX3_isWorld_42 (by decide) ?_
              refine lv_goto (tgt := 47) hx hb dX3_isWorld_43 (by decide) ?_
              refine lv_istore_n (lv' := [(2, .int (1)), (0, .ref (ad 0)), (1, .int (nI (e0))), (3, .int (nI (i)))]) hx hb dX3_isWorld_47 rfl hl (by decide) rfl (fun ls hl => ?_)
              refine lv_iinc (v := nI (i + 1)) (lv' := [(3, .int (nI (i + 1))), (2, .int (1)), (0, .ref (ad 0)), (1, .int (nI (e0)))]) hx hb dX3_isWorld_48 hl (k := 3) rfl (nI_1 _) (by decide) rfl (fun ls hl => ?_)
              refine lv_goto (tgt := 11) hx hb dX3_isWorld_51 (by decide) ?_
              exact ih (i + 1) _ _ (by omega) (by omega) (by omega) (by first | exact is_t (ee := ex (fun j => decide (e0 < j) && (CO j && inn (nI e0) (nI j))) i) c_22 (by simp [hgt, c_18, c_22, c_31, c_39]) | exact is_f (ee := ex (fun j => decide (e0 < j) && (CO j && inn (nI e0) (nI j))) i) (by simp [hgt, c_18, c_22, c_31, c_39])) rfl ls (lv_sub hl [2, 3, 1, 0] rfl)
  refine lv_aload_n hx hb dX3_isWorld_0 rfl (lv_at hl 0 rfl) ?_
  refine va_get (D := D) (ci := 3) (v := .ref (ad 8)) (C := RX3) (T := TX3) (N := 13) hx hb hts hin3 hown hK.1 hP 0 rfl rfl 12 (by decide) f32 (fun _ h9 => h9) rfl dX3_isWorld_1 ?_
  refine lv_iload_n hx hb dX3_isWorld_4 rfl (lv_at hl 1 rfl) ?_
  refine az_ (D := D) (f := CO) (i := e0) hx hb hK hP 8 1 rfl rfl (by omega) (by decide) dX3_isWorld_5 ?_
  refine lv_istore_n (lv' := [(2, .int (bI (CO (e0)))), (0, .ref (ad 0)), (1, .int (nI (e0)))]) hx hb dX3_isWorld_6 rfl hl (by decide) rfl (fun ls hl => ?_)
  refine lv_iload_n hx hb dX3_isWorld_7 rfl (lv_at hl 2 rfl) ?_
  refine lv_iconst (v := 1) hx hb dX3_isWorld_8 (by decide) ?_
  refine lv_iadd hx hb dX3_isWorld_9 ?_
  rw [nI_1]
  refine lv_istore_n (lv' := [(3, .int (nI (e0 + 1))), (2, .int (bI (CO (e0)))), (0, .ref (ad 0)), (1, .int (nI (e0)))]) hx hb dX3_isWorld_10 rfl hl (by decide) rfl (fun ls hl => ?_)
  exact lp_11 (2 ^ A + 1) (e0 + 1) _ _ (by omega) (by omega) (by omega) (by rw [ex_no (P := (fun j => decide (e0 < j) && (CO j && inn (nI e0) (nI j)))) (fun j hj => by simp; intro h9; omega)]; simp) (rfl) ls (lv_sub hl [2, 3, 1, 0] rfl)
set_option maxHeartbeats 4000000 in
set_option maxRecDepth 100000 in
theorem c_X3_count_0 (l : Launch) (D : va_G) (cI cZ : ClassId) (ad : Nat → Nat) (th : Int32) (N : Nat) (A : Nat) (R : Nat) (kw : Bool) (an : Nat → Int32) (nd : Nat → Int32) (wt : Nat → Int32) (B : Nat → Int32) (Hd : Nat → Int32) (O : Nat → Bool) (HL : Nat → Int32) (CO : Nat → Bool) (k : Int32) (hA : A ≤ 9) : Met l yX3_count wsX3_count (({ frames := 3, cells := 0, slots := 0, locals := 68 })) (pcP D [(cI, .int), (cZ, .boolean)] (wM cI cZ ad th N A R kw an nd wt B Hd O HL CO) [.ref (ad 0), .int (0), .int (k)]) (vp_Si (fun v => v = nI (cnt (fun e => lbM HL CO k e) (2 ^ A)))) 0 0 (fun _ => False) := by
  refine Met.ofW (cc := cX3_count) (maxL := 5) (ret := (some .int)) (by decide) rfl ?_
  intro p e s m args below meth c s₁ BB hml hv
  obtain ⟨rfl, hP, hK⟩ := hv
  have hx := BB.exec
  have hb := BB.bytes
  have hrt := BB.returns
  have hts := atoms_spec (ws := wsX3_count) BB.pre
  have hown : s.vm.findClass RX3 = some m.cls := findClass_of_methodNamed BB.named
  have hlk := BB.notSynchronized
  have f42 := hts (.fieldLink RX3 42 "AssumptionKeeperModel" "assumptions" "I") (by decide +kernel)
  have hin3 : ∀ w ∈ u_ws RX3 TX3 13, w ∈ wsX3_count := by decide +kernel
  have hl := lv_entry ([.ref (ad 0), .int (0), .int (k)]) (n := 5) (Nat.le_of_ble_eq_true rfl)
  rw [lg_entry_eq]
  generalize (lg_sl ([.ref (ad 0), .int (0), .int (k)]) ++ List.replicate (5 - (lg_sl ([.ref (ad 0), .int (0), .int (k)])).length) Slot.unset).toArray = ls at hl ⊢
  have hl : lv_has ls 5 [(0, .ref (ad 0)), (1, .int (0)), (2, .int (k))] := hl
  have h512 : 2 ^ A ≤ 512 := pow9 hA
  have hpos : 0 < 2 ^ A := Nat.two_pow_pos A
  have lp_5 : ∀ (n i : Nat) (v3 : Int32) (v4 : Int32), i ≤ 2 ^ A → 2 ^ A + 1 ≤ i + n → v3 = nI (cnt (fun e => lbM HL CO k e) i) → v4 = nI (i) → ∀ ls : Array Slot, lv_has ls 5 [(0, .ref (ad 0)), (1, .int (0)), (2, .int (k)), (3, .int (v3)), (4, .int (v4))] → W p l e (headSpec wsX3_count ({ frames := 3, cells := 0, slots := 0, locals := 68 })).room s m ([.ref (ad 0), .int (0), .int (k)]).toArray below meth c s.heap [] 0 0 (MQ below (vp_Si (fun v => v = nI (cnt (fun e => lbM HL CO k e) (2 ^ A)))) ([.ref (ad 0), .int (0), .int (k)]).toArray s 0 0 (fun _ => False)) (F0 m 5 ls []) := by
    intro n
    induction n with
    | zero => intro i v3 v4 h1 h2; exact absurd h2 (by omega)
    | succ n ih =>
      intro i v3 v4 hi_ hn_  e3 e4 ls hl
      subst e3 e4
      have hl : lv_has ls 5 [(0, .ref (ad 0)), (1, .int (0)), (2, .int (k)), (3, .int (nI (cnt (fun e => lbM HL CO k e) i))), (4, .int (nI (i)))] := hl
      refine lv_iload hx hb dX3_count_5 (lv_at hl 4 rfl) ?_
      refine lv_iconst (v := 1) hx hb dX3_count_7 (by decide) ?_
      refine lv_aload_n hx hb dX3_count_8 rfl (lv_at hl 0 rfl) ?_
      refine va_get (D := D) (ci := 3) (v := .int (nI (A))) (C := RX3) (T := TX3) (N := 13) hx hb hts hin3 hown hK.1 hP 0 rfl rfl 3 (by decide) f42 (fun _ h9 => h9) rfl dX3_count_9 ?_
      refine lv_ishl hx hb dX3_count_12 ?_
      rw [sh1_eq (by omega)]
      refine lv_icmp_ge (tgt := 73) hx hb dX3_count_13 (by decide) (fun c_13 => ?_) (fun c_13 => ?_)
      · skip
        have c_13 := (qI_le (a := 2 ^ A) (b := i) (by omega) (by omega)).mp c_13
        refine lv_iload_n hx hb dX3_count_73 rfl (lv_at hl 3 rfl) ?_
        exact ri_ hx hb hrt hlk dX3_count_74 (by obtain rfl : i = 2 ^ A := (by omega); rfl)
      · skip
        have c_13 := mt (qI_le (a := 2 ^ A) (b := i) (by omega) (by omega)).mpr c_13
        refine lv_iload_n hx hb dX3_count_16 rfl (lv_at hl 3 rfl) ?_
        refine lv_iload_n hx hb dX3_count_17 rfl (lv_at hl 1 rfl) ?_
        refine lv_if_ne (tgt := 34) hx hb dX3_count_18 (by decide) (fun c_18 => ?_) (fun c_18 => ?_)
        · skip
          exact absurd c_18 (by decide)
        · skip
          refine lv_aload_n hx hb dX3_count_21 rfl (lv_at hl 0 rfl) ?_
          refine lv_iload_n hx hb dX3_count_22 rfl (lv_at hl 2 rfl) ?_
          refine lv_iload hx hb dX3_count_23 (lv_at hl 4 rfl) ?_
          refine pu_i (va_runV (As := [.int (k), .int (nI (i))]) (rest := [.int (nI (cnt (fun e => lbM HL CO k e) i))]) ⟨hx, hb, hml, hown, hts⟩ (c_X3_isLabel l D cI cZ ad (th) (N) (A) (R) (kw) (an) (nd) (wt) (B) (Hd) (O) (HL) (CO) (k) (i) (by omega)) (cwV 2 hts gX3_count_X3_isLabel rfl rfl rfl (by decide +kernel) ⟨Nat.le_of_ble_eq_true rfl, Nat.le_of_ble_eq_true rfl⟩) (pre_V (q0 := 0) (ci := 3) (hP.sub (ws' := (wM cI cZ ad th N A R kw an nd wt B Hd O HL CO)) [0, 1, 2, 3, 4, 5, 6, 7, 8] rfl) hK rfl rfl) rfl rfl hl.1 rfl (lv_room (Nat.le_of_ble_eq_true rfl)) dX3_count_25 ⟨Nat.zero_le _, Nat.zero_le _⟩) ?_
          refine lv_if_eq (tgt := 64) hx hb dX3_count_28 (by decide) (fun c_28 => ?_) (fun c_28 => ?_)
          · skip
            have c_28 := bI_eq0 c_28
            refine lv_iconst (v := 0) hx hb dX3_count_64 (by decide) ?_
            refine lv_iadd hx hb dX3_count_65 ?_
            rw [Int32.add_zero]
            refine lv_istore_n (lv' := [(3, .int (nI (cnt (fun e => lbM HL CO k e) i))), (0, .ref (ad 0)), (1, .int (0)), (2, .int (k)), (4, .int (nI (i)))]) hx hb dX3_count_66 rfl hl (by decide) rfl (fun ls hl => ?_)
            refine lv_iinc (v := nI (i + 1)) (lv' := [(4, .int (nI (i + 1))), (3, .int (nI (cnt (fun e => lbM HL CO k e) i))), (0, .ref (ad 0)), (1, .int (0)), (2, .int (k))]) hx hb dX3_count_67 hl (k := 4) rfl (nI_1 _) (by decide) rfl (fun ls hl => ?_)
            refine lv_goto (tgt := 5) hx hb dX3_count_70 (by decide) ?_
            exact ih (i + 1) _ _ (by omega) (by omega)  (by first | rfl | (simp [cnt, c_13, c_18, c_28]; done) | (simp only [cnt, c_13, c_18, c_28]; rfl) | (simp_all [cnt, c_13, c_18, c_28]; done)) rfl ls (lv_sub hl [2, 3, 4, 1, 0] rfl)
          · skip
            have c_28 := bI_ne0 c_28
            refine lv_goto (tgt := 60) hx hb dX3_count_31 (by decide) ?_
            refine lv_iconst (v := 1) hx hb dX3_count_60 (by decide) ?_
            refine lv_goto (tgt := 65) hx hb dX3_count_61 (by decide) ?_
            refine lv_iadd hx hb dX3_count_65 ?_
            rw [nI_1]
            refine lv_istore_n (lv' := [(3, .int (nI ((cnt (fun e => lbM HL CO k e) i) + 1))), (0, .ref (ad 0)), (1, .int (0)), (2, .int (k)), (4, .int (nI (i)))]) hx hb dX3_count_66 rfl hl (by decide) rfl (fun ls hl => ?_)
            refine lv_iinc (v := nI (i + 1)) (lv' := [(4, .int (nI (i + 1))), (3, .int (nI ((cnt (fun e => lbM HL CO k e) i) + 1))), (0, .ref (ad 0)), (1, .int (0)), (2, .int (k))]) hx hb dX3_count_67 hl (k := 4) rfl (nI_1 _) (by decide) rfl (fun ls hl => ?_)
            refine lv_goto (tgt := 5) hx hb dX3_count_70 (by decide) ?_
            exact ih (i + 1) _ _ (by omega) (by omega)  (by first | rfl | (simp [cnt, c_13, c_18, c_28]; done) | (simp only [cnt, c_13, c_18, c_28]; rfl) | (simp_all [cnt, c_13, c_18, c_28]; done)) rfl ls (lv_sub hl [2, 3, 4, 1, 0] rfl)
  refine lv_iconst (v := nI (0)) hx hb dX3_count_0 (by decide) ?_
  refine lv_istore_n (lv' := [(3, .int (nI (0))), (0, .ref (ad 0)), (1, .int (0)), (2, .int (k))]) hx hb dX3_count_1 rfl hl (by decide) rfl (fun ls hl => ?_)
  refine lv_iconst (v := nI (0)) hx hb dX3_count_2 (by decide) ?_
  refine lv_istore (lv' := [(4, .int (nI (0))), (3, .int (nI (0))), (0, .ref (ad 0)), (1, .int (0)), (2, .int (k))]) hx hb dX3_count_3 hl (by decide) rfl (fun ls hl => ?_)
  exact lp_5 (2 ^ A + 1) (0) _ _ (by omega) (by omega)  (by first | rfl | (simp [cnt]; done) | (simp only [cnt]; rfl) | (simp_all [cnt]; done)) (by first | rfl | (simp [cnt]; done) | (simp only [cnt]; rfl) | (simp_all [cnt]; done)) ls (lv_sub hl [2, 3, 4, 1, 0] rfl)
set_option maxHeartbeats 4000000 in
set_option maxRecDepth 100000 in
theorem c_X3_count_1 (l : Launch) (D : va_G) (cI cZ : ClassId) (ad : Nat → Nat) (th : Int32) (N : Nat) (A : Nat) (R : Nat) (kw : Bool) (an : Nat → Int32) (nd : Nat → Int32) (wt : Nat → Int32) (B : Nat → Int32) (Hd : Nat → Int32) (O : Nat → Bool) (HL : Nat → Int32) (CO : Nat → Bool) (k : Int32) (hA : A ≤ 9) : Met l yX3_count wsX3_count (({ frames := 2, cells := 0, slots := 0, locals := 44 })) (pcP D [(cI, .int), (cZ, .boolean)] (wM cI cZ ad th N A R kw an nd wt B Hd O HL CO) [.ref (ad 0), .int (1), .int (k)]) (vp_Si (fun v => v = nI (cnt (fun e => ngM CO e) (2 ^ A)))) 0 0 (fun _ => False) := by
  refine Met.ofW (cc := cX3_count) (maxL := 5) (ret := (some .int)) (by decide) rfl ?_
  intro p e s m args below meth c s₁ BB hml hv
  obtain ⟨rfl, hP, hK⟩ := hv
  have hx := BB.exec
  have hb := BB.bytes
  have hrt := BB.returns
  have hts := atoms_spec (ws := wsX3_count) BB.pre
  have hown : s.vm.findClass RX3 = some m.cls := findClass_of_methodNamed BB.named
  have hlk := BB.notSynchronized
  have f42 := hts (.fieldLink RX3 42 "AssumptionKeeperModel" "assumptions" "I") (by decide +kernel)
  have hin3 : ∀ w ∈ u_ws RX3 TX3 13, w ∈ wsX3_count := by decide +kernel
  have hl := lv_entry ([.ref (ad 0), .int (1), .int (k)]) (n := 5) (Nat.le_of_ble_eq_true rfl)
  rw [lg_entry_eq]
  generalize (lg_sl ([.ref (ad 0), .int (1), .int (k)]) ++ List.replicate (5 - (lg_sl ([.ref (ad 0), .int (1), .int (k)])).length) Slot.unset).toArray = ls at hl ⊢
  have hl : lv_has ls 5 [(0, .ref (ad 0)), (1, .int (1)), (2, .int (k))] := hl
  have h512 : 2 ^ A ≤ 512 := pow9 hA
  have hpos : 0 < 2 ^ A := Nat.two_pow_pos A
  have lp_5 : ∀ (n i : Nat) (v3 : Int32) (v4 : Int32), i ≤ 2 ^ A → 2 ^ A + 1 ≤ i + n → v3 = nI (cnt (fun e => ngM CO e) i) → v4 = nI (i) → ∀ ls : Array Slot, lv_has ls 5 [(0, .ref (ad 0)), (1, .int (1)), (2, .int (k)), (3, .int (v3)), (4, .int (v4))] → W p l e (headSpec wsX3_count ({ frames := 2, cells := 0, slots := 0, locals := 44 })).room s m ([.ref (ad 0), .int (1), .int (k)]).toArray below meth c s.heap [] 0 0 (MQ below (vp_Si (fun v => v = nI (cnt (fun e => ngM CO e) (2 ^ A)))) ([.ref (ad 0), .int (1), .int (k)]).toArray s 0 0 (fun _ => False)) (F0 m 5 ls []) := by
    intro n
    induction n with
    | zero => intro i v3 v4 h1 h2; exact absurd h2 (by omega)
    | succ n ih =>
      intro i v3 v4 hi_ hn_  e3 e4 ls hl
      subst e3 e4
      have hl : lv_has ls 5 [(0, .ref (ad 0)), (1, .int (1)), (2, .int (k)), (3, .int (nI (cnt (fun e => ngM CO e) i))), (4, .int (nI (i)))] := hl
      refine lv_iload hx hb dX3_count_5 (lv_at hl 4 rfl) ?_
      refine lv_iconst (v := 1) hx hb dX3_count_7 (by decide) ?_
      refine lv_aload_n hx hb dX3_count_8 rfl (lv_at hl 0 rfl) ?_
      refine va_get (D := D) (ci := 3) (v := .int (nI (A))) (C := RX3) (T := TX3) (N := 13) hx hb hts hin3 hown hK.1 hP 0 rfl rfl 3 (by decide) f42 (fun _ h9 => h9) rfl dX3_count_9 ?_
      refine lv_ishl hx hb dX3_count_12 ?_
      rw [sh1_eq (by omega)]
      refine lv_icmp_ge (tgt := 73) hx hb dX3_count_13 (by decide) (fun c_13 => ?_) (fun c_13 => ?_)
      · skip
        have c_13 := (qI_le (a := 2 ^ A) (b := i) (by omega) (by omega)).mp c_13
        refine lv_iload_n hx hb dX3_count_73 rfl (lv_at hl 3 rfl) ?_
        exact ri_ hx hb hrt hlk dX3_count_74 (by obtain rfl : i = 2 ^ A := (by omega); rfl)
      · skip
        have c_13 := mt (qI_le (a := 2 ^ A) (b := i) (by omega) (by omega)).mpr c_13
        refine lv_iload_n hx hb dX3_count_16 rfl (lv_at hl 3 rfl) ?_
        refine lv_iload_n hx hb dX3_count_17 rfl (lv_at hl 1 rfl) ?_
        refine lv_if_ne (tgt := 34) hx hb dX3_count_18 (by decide) (fun c_18 => ?_) (fun c_18 => ?_)
        · skip
          refine lv_iload_n hx hb dX3_count_34 rfl (lv_at hl 1 rfl) ?_
          refine lv_iconst (v := 1) hx hb dX3_count_35 (by decide) ?_
          refine lv_icmp_ne (tgt := 51) hx hb dX3_count_36 (by decide) (fun c_36 => ?_) (fun c_36 => ?_)
          · skip
            exact absurd c_36 (by decide)
          · skip
            refine lv_aload_n hx hb dX3_count_39 rfl (lv_at hl 0 rfl) ?_
            refine lv_iload hx hb dX3_count_40 (lv_at hl 4 rfl) ?_
            refine pu_i (va_runV (As := [.int (nI (i))]) (rest := [.int (nI (cnt (fun e => ngM CO e) i))]) ⟨hx, hb, hml, hown, hts⟩ (c_X3_isNogood l D cI cZ ad (th) (N) (A) (R) (kw) (an) (nd) (wt) (B) (Hd) (O) (HL) (CO) (i) (by omega)) (cwV 1 hts gX3_count_X3_isNogood rfl rfl rfl (by decide +kernel) ⟨Nat.le_of_ble_eq_true rfl, Nat.le_of_ble_eq_true rfl⟩) (pre_V (q0 := 0) (ci := 3) (hP.sub (ws' := (wM cI cZ ad th N A R kw an nd wt B Hd O HL CO)) [0, 1, 2, 3, 4, 5, 6, 7, 8] rfl) hK rfl rfl) rfl rfl hl.1 rfl (lv_room (Nat.le_of_ble_eq_true rfl)) dX3_count_42 ⟨Nat.zero_le _, Nat.zero_le _⟩) ?_
            refine lv_if_eq (tgt := 64) hx hb dX3_count_45 (by decide) (fun c_45 => ?_) (fun c_45 => ?_)
            · skip
              have c_45 := bI_eq0 c_45
              refine lv_iconst (v := 0) hx hb dX3_count_64 (by decide) ?_
              refine lv_iadd hx hb dX3_count_65 ?_
              rw [Int32.add_zero]
              refine lv_istore_n (lv' := [(3, .int (nI (cnt (fun e => ngM CO e) i))), (0, .ref (ad 0)), (1, .int (1)), (2, .int (k)), (4, .int (nI (i)))]) hx hb dX3_count_66 rfl hl (by decide) rfl (fun ls hl => ?_)
              refine lv_iinc (v := nI (i + 1)) (lv' := [(4, .int (nI (i + 1))), (3, .int (nI (cnt (fun e => ngM CO e) i))), (0, .ref (ad 0)), (1, .int (1)), (2, .int (k))]) hx hb dX3_count_67 hl (k := 4) rfl (nI_1 _) (by decide) rfl (fun ls hl => ?_)
              refine lv_goto (tgt := 5) hx hb dX3_count_70 (by decide) ?_
              exact ih (i + 1) _ _ (by omega) (by omega)  (by first | rfl | (simp [cnt, c_13, c_18, c_36, c_45]; done) | (simp only [cnt, c_13, c_18, c_36, c_45]; rfl) | (simp_all [cnt, c_13, c_18, c_36, c_45]; done)) rfl ls (lv_sub hl [2, 3, 4, 1, 0] rfl)
            · skip
              have c_45 := bI_ne0 c_45
              refine lv_goto (tgt := 60) hx hb dX3_count_48 (by decide) ?_
              refine lv_iconst (v := 1) hx hb dX3_count_60 (by decide) ?_
              refine lv_goto (tgt := 65) hx hb dX3_count_61 (by decide) ?_
              refine lv_iadd hx hb dX3_count_65 ?_
              rw [nI_1]
              refine lv_istore_n (lv' := [(3, .int (nI ((cnt (fun e => ngM CO e) i) + 1))), (0, .ref (ad 0)), (1, .int (1)), (2, .int (k)), (4, .int (nI (i)))]) hx hb dX3_count_66 rfl hl (by decide) rfl (fun ls hl => ?_)
              refine lv_iinc (v := nI (i + 1)) (lv' := [(4, .int (nI (i + 1))), (3, .int (nI ((cnt (fun e => ngM CO e) i) + 1))), (0, .ref (ad 0)), (1, .int (1)), (2, .int (k))]) hx hb dX3_count_67 hl (k := 4) rfl (nI_1 _) (by decide) rfl (fun ls hl => ?_)
              refine lv_goto (tgt := 5) hx hb dX3_count_70 (by decide) ?_
              exact ih (i + 1) _ _ (by omega) (by omega)  (by first | rfl | (simp [cnt, c_13, c_18, c_36, c_45]; done) | (simp only [cnt, c_13, c_18, c_36, c_45]; rfl) | (simp_all [cnt, c_13, c_18, c_36, c_45]; done)) rfl ls (lv_sub hl [2, 3, 4, 1, 0] rfl)
        · skip
          exact absurd c_18 (by decide)
  refine lv_iconst (v := nI (0)) hx hb dX3_count_0 (by decide) ?_
  refine lv_istore_n (lv' := [(3, .int (nI (0))), (0, .ref (ad 0)), (1, .int (1)), (2, .int (k))]) hx hb dX3_count_1 rfl hl (by decide) rfl (fun ls hl => ?_)
  refine lv_iconst (v := nI (0)) hx hb dX3_count_2 (by decide) ?_
  refine lv_istore (lv' := [(4, .int (nI (0))), (3, .int (nI (0))), (0, .ref (ad 0)), (1, .int (1)), (2, .int (k))]) hx hb dX3_count_3 hl (by decide) rfl (fun ls hl => ?_)
  exact lp_5 (2 ^ A + 1) (0) _ _ (by omega) (by omega)  (by first | rfl | (simp [cnt]; done) | (simp only [cnt]; rfl) | (simp_all [cnt]; done)) (by first | rfl | (simp [cnt]; done) | (simp only [cnt]; rfl) | (simp_all [cnt]; done)) ls (lv_sub hl [2, 3, 4, 1, 0] rfl)
set_option maxHeartbeats 4000000 in
set_option maxRecDepth 100000 in
theorem c_X3_count_2 (l : Launch) (D : va_G) (cI cZ : ClassId) (ad : Nat → Nat) (th : Int32) (N : Nat) (A : Nat) (R : Nat) (kw : Bool) (an : Nat → Int32) (nd : Nat → Int32) (wt : Nat → Int32) (B : Nat → Int32) (Hd : Nat → Int32) (O : Nat → Bool) (HL : Nat → Int32) (CO : Nat → Bool) (k : Int32) (hA : A ≤ 9) : Met l yX3_count wsX3_count (({ frames := 2, cells := 0, slots := 0, locals := 44 })) (pcP D [(cI, .int), (cZ, .boolean)] (wM cI cZ ad th N A R kw an nd wt B Hd O HL CO) [.ref (ad 0), .int (2), .int (k)]) (vp_Si (fun v => v = nI (cnt (fun e => woM A CO e) (2 ^ A)))) 0 0 (fun _ => False) := by
  refine Met.ofW (cc := cX3_count) (maxL := 5) (ret := (some .int)) (by decide) rfl ?_
  intro p e s m args below meth c s₁ BB hml hv
  obtain ⟨rfl, hP, hK⟩ := hv
  have hx := BB.exec
  have hb := BB.bytes
  have hrt := BB.returns
  have hts := atoms_spec (ws := wsX3_count) BB.pre
  have hown : s.vm.findClass RX3 = some m.cls := findClass_of_methodNamed BB.named
  have hlk := BB.notSynchronized
  have f42 := hts (.fieldLink RX3 42 "AssumptionKeeperModel" "assumptions" "I") (by decide +kernel)
  have hin3 : ∀ w ∈ u_ws RX3 TX3 13, w ∈ wsX3_count := by decide +kernel
  have hl := lv_entry ([.ref (ad 0), .int (2), .int (k)]) (n := 5) (Nat.le_of_ble_eq_true rfl)
  rw [lg_entry_eq]
  generalize (lg_sl ([.ref (ad 0), .int (2), .int (k)]) ++ List.replicate (5 - (lg_sl ([.ref (ad 0), .int (2), .int (k)])).length) Slot.unset).toArray = ls at hl ⊢
  have hl : lv_has ls 5 [(0, .ref (ad 0)), (1, .int (2)), (2, .int (k))] := hl
  have h512 : 2 ^ A ≤ 512 := pow9 hA
  have hpos : 0 < 2 ^ A := Nat.two_pow_pos A
  have lp_5 : ∀ (n i : Nat) (v3 : Int32) (v4 : Int32), i ≤ 2 ^ A → 2 ^ A + 1 ≤ i + n → v3 = nI (cnt (fun e => woM A CO e) i) → v4 = nI (i) → ∀ ls : Array Slot, lv_has ls 5 [(0, .ref (ad 0)), (1, .int (2)), (2, .int (k)), (3, .int (v3)), (4, .int (v4))] → W p l e (headSpec wsX3_count ({ frames := 2, cells := 0, slots := 0, locals := 44 })).room s m ([.ref (ad 0), .int (2), .int (k)]).toArray below meth c s.heap [] 0 0 (MQ below (vp_Si (fun v => v = nI (cnt (fun e => woM A CO e) (2 ^ A)))) ([.ref (ad 0), .int (2), .int (k)]).toArray s 0 0 (fun _ => False)) (F0 m 5 ls []) := by
    intro n
    induction n with
    | zero => intro i v3 v4 h1 h2; exact absurd h2 (by omega)
    | succ n ih =>
      intro i v3 v4 hi_ hn_  e3 e4 ls hl
      subst e3 e4
      have hl : lv_has ls 5 [(0, .ref (ad 0)), (1, .int (2)), (2, .int (k)), (3, .int (nI (cnt (fun e => woM A CO e) i))), (4, .int (nI (i)))] := hl
      refine lv_iload hx hb dX3_count_5 (lv_at hl 4 rfl) ?_
      refine lv_iconst (v := 1) hx hb dX3_count_7 (by decide) ?_
      refine lv_aload_n hx hb dX3_count_8 rfl (lv_at hl 0 rfl) ?_
      refine va_get (D := D) (ci := 3) (v := .int (nI (A))) (C := RX3) (T := TX3) (N := 13) hx hb hts hin3 hown hK.1 hP 0 rfl rfl 3 (by decide) f42 (fun _ h9 => h9) rfl dX3_count_9 ?_
      refine lv_ishl hx hb dX3_count_12 ?_
      rw [sh1_eq (by omega)]
      refine lv_icmp_ge (tgt := 73) hx hb dX3_count_13 (by decide) (fun c_13 => ?_) (fun c_13 => ?_)
      · skip
        have c_13 := (qI_le (a := 2 ^ A) (b := i) (by omega) (by omega)).mp c_13
        refine lv_iload_n hx hb dX3_count_73 rfl (lv_at hl 3 rfl) ?_
        exact ri_ hx hb hrt hlk dX3_count_74 (by obtain rfl : i = 2 ^ A := (by omega); rfl)
      · skip
        have c_13 := mt (qI_le (a := 2 ^ A) (b := i) (by omega) (by omega)).mpr c_13
        refine lv_iload_n hx hb dX3_count_16 rfl (lv_at hl 3 rfl) ?_
        refine lv_iload_n hx hb dX3_count_17 rfl (lv_at hl 1 rfl) ?_
        refine lv_if_ne (tgt := 34) hx hb dX3_count_18 (by decide) (fun c_18 => ?_) (fun c_18 => ?_)
        · skip
          refine lv_iload_n hx hb dX3_count_34 rfl (lv_at hl 1 rfl) ?_
          refine lv_iconst (v := 1) hx hb dX3_count_35 (by decide) ?_
          refine lv_icmp_ne (tgt := 51) hx hb dX3_count_36 (by decide) (fun c_36 => ?_) (fun c_36 => ?_)
          · skip
            refine lv_aload_n hx hb dX3_count_51 rfl (lv_at hl 0 rfl) ?_
            refine lv_iload hx hb dX3_count_52 (lv_at hl 4 rfl) ?_
            refine pu_i (va_runV (As := [.int (nI (i))]) (rest := [.int (nI (cnt (fun e => woM A CO e) i))]) ⟨hx, hb, hml, hown, hts⟩ (c_X3_isWorld l D cI cZ ad (th) (N) (A) (R) (kw) (an) (nd) (wt) (B) (Hd) (O) (HL) (CO) (i) (by omega) (by omega)) (cwV 1 hts gX3_count_X3_isWorld rfl rfl rfl (by decide +kernel) ⟨Nat.le_of_ble_eq_true rfl, Nat.le_of_ble_eq_true rfl⟩) (pre_V (q0 := 0) (ci := 3) (hP.sub (ws' := (wM cI cZ ad th N A R kw an nd wt B Hd O HL CO)) [0, 1, 2, 3, 4, 5, 6, 7, 8] rfl) hK rfl rfl) rfl rfl hl.1 rfl (lv_room (Nat.le_of_ble_eq_true rfl)) dX3_count_54 ⟨Nat.zero_le _, Nat.zero_le _⟩) ?_
            refine lv_if_eq (tgt := 64) hx hb dX3_count_57 (by decide) (fun c_57 => ?_) (fun c_57 => ?_)
            · skip
              have c_57 := bI_eq0 c_57
              refine lv_iconst (v := 0) hx hb dX3_count_64 (by decide) ?_
              refine lv_iadd hx hb dX3_count_65 ?_
              rw [Int32.add_zero]
              refine lv_istore_n (lv' := [(3, .int (nI (cnt (fun e => woM A CO e) i))), (0, .ref (ad 0)), (1, .int (2)), (2, .int (k)), (4, .int (nI (i)))]) hx hb dX3_count_66 rfl hl (by decide) rfl (fun ls hl => ?_)
              refine lv_iinc (v := nI (i + 1)) (lv' := [(4, .int (nI (i + 1))), (3, .int (nI (cnt (fun e => woM A CO e) i))), (0, .ref (ad 0)), (1, .int (2)), (2, .int (k))]) hx hb dX3_count_67 hl (k := 4) rfl (nI_1 _) (by decide) rfl (fun ls hl => ?_)
              refine lv_goto (tgt := 5) hx hb dX3_count_70 (by decide) ?_
              exact ih (i + 1) _ _ (by omega) (by omega)  (by first | rfl | (simp [cnt, c_13, c_18, c_36, c_57]; done) | (simp only [cnt, c_13, c_18, c_36, c_57]; rfl) | (simp_all [cnt, c_13, c_18, c_36, c_57]; done)) rfl ls (lv_sub hl [2, 3, 4, 1, 0] rfl)
            · skip
              have c_57 := bI_ne0 c_57
              refine lv_iconst (v := 1) hx hb dX3_count_60 (by decide) ?_
              refine lv_goto (tgt := 65) hx hb dX3_count_61 (by decide) ?_
              refine lv_iadd hx hb dX3_count_65 ?_
              rw [nI_1]
              refine lv_istore_n (lv' := [(3, .int (nI ((cnt (fun e => woM A CO e) i) + 1))), (0, .ref (ad 0)), (1, .int (2)), (2, .int (k)), (4, .int (nI (i)))]) hx hb dX3_count_66 rfl hl (by decide) rfl (fun ls hl => ?_)
              refine lv_iinc (v := nI (i + 1)) (lv' := [(4, .int (nI (i + 1))), (3, .int (nI ((cnt (fun e => woM A CO e) i) + 1))), (0, .ref (ad 0)), (1, .int (2)), (2, .int (k))]) hx hb dX3_count_67 hl (k := 4) rfl (nI_1 _) (by decide) rfl (fun ls hl => ?_)
              refine lv_goto (tgt := 5) hx hb dX3_count_70 (by decide) ?_
              exact ih (i + 1) _ _ (by omega) (by omega)  (by first | rfl | (simp [cnt, c_13, c_18, c_36, c_57]; done) | (simp only [cnt, c_13, c_18, c_36, c_57]; rfl) | (simp_all [cnt, c_13, c_18, c_36, c_57]; done)) rfl ls (lv_sub hl [2, 3, 4, 1, 0] rfl)
          · skip
            exact absurd c_36 (by decide)
        · skip
          exact absurd c_18 (by decide)
  refine lv_iconst (v := nI (0)) hx hb dX3_count_0 (by decide) ?_
  refine lv_istore_n (lv' := [(3, .int (nI (0))), (0, .ref (ad 0)), (1, .int (2)), (2, .int (k))]) hx hb dX3_count_1 rfl hl (by decide) rfl (fun ls hl => ?_)
  refine lv_iconst (v := nI (0)) hx hb dX3_count_2 (by decide) ?_
  refine lv_istore (lv' := [(4, .int (nI (0))), (3, .int (nI (0))), (0, .ref (ad 0)), (1, .int (2)), (2, .int (k))]) hx hb dX3_count_3 hl (by decide) rfl (fun ls hl => ?_)
  exact lp_5 (2 ^ A + 1) (0) _ _ (by omega) (by omega)  (by first | rfl | (simp [cnt]; done) | (simp only [cnt]; rfl) | (simp_all [cnt]; done)) (by first | rfl | (simp [cnt]; done) | (simp only [cnt]; rfl) | (simp_all [cnt]; done)) ls (lv_sub hl [2, 3, 4, 1, 0] rfl)
set_option maxHeartbeats 4000000 in
set_option maxRecDepth 100000 in
theorem c_X3_find_0 (l : Launch) (D : va_G) (cI cZ : ClassId) (ad : Nat → Nat) (th : Int32) (N : Nat) (A : Nat) (R : Nat) (kw : Bool) (an : Nat → Int32) (nd : Nat → Int32) (wt : Nat → Int32) (B : Nat → Int32) (Hd : Nat → Int32) (O : Nat → Bool) (HL : Nat → Int32) (CO : Nat → Bool) (k : Int32) (q : Int32) (hA : A ≤ 9) : Met l yX3_find wsX3_find (({ frames := 3, cells := 0, slots := 0, locals := 68 })) (pcP D [(cI, .int), (cZ, .boolean)] (wM cI cZ ad th N A R kw an nd wt B Hd O HL CO) [.ref (ad 0), .int (0), .int (k), .int (q)]) (vp_Si (fun v => v = nth (fun e => lbM HL CO k e) (2 ^ A) q)) 0 0 (fun _ => False) := by
  refine Met.ofW (cc := cX3_find) (maxL := 7) (ret := (some .int)) (by decide) rfl ?_
  intro p e s m args below meth c s₁ BB hml hv
  obtain ⟨rfl, hP, hK⟩ := hv
  have hx := BB.exec
  have hb := BB.bytes
  have hrt := BB.returns
  have hts := atoms_spec (ws := wsX3_find) BB.pre
  have hown : s.vm.findClass RX3 = some m.cls := findClass_of_methodNamed BB.named
  have hlk := BB.notSynchronized
  have f42 := hts (.fieldLink RX3 42 "AssumptionKeeperModel" "assumptions" "I") (by decide +kernel)
  have hin3 : ∀ w ∈ u_ws RX3 TX3 13, w ∈ wsX3_find := by decide +kernel
  have hl := lv_entry ([.ref (ad 0), .int (0), .int (k), .int (q)]) (n := 7) (Nat.le_of_ble_eq_true rfl)
  rw [lg_entry_eq]
  generalize (lg_sl ([.ref (ad 0), .int (0), .int (k), .int (q)]) ++ List.replicate (7 - (lg_sl ([.ref (ad 0), .int (0), .int (k), .int (q)])).length) Slot.unset).toArray = ls at hl ⊢
  have hl : lv_has ls 7 [(0, .ref (ad 0)), (1, .int (0)), (2, .int (k)), (3, .int (q))] := hl
  have h512 : 2 ^ A ≤ 512 := pow9 hA
  have hpos : 0 < 2 ^ A := Nat.two_pow_pos A
  have lp_6 : ∀ (n i : Nat) (v4 : Int32) (v5 : Int32), i ≤ 2 ^ A → 2 ^ A + 1 ≤ i + n → (∀ j, j < i → (fun e => (fun e => lbM HL CO k e) e && nI (cnt (fun e => lbM HL CO k e) e) == q) j = false) → (v4.toInt = q.toInt - (cnt (fun e => lbM HL CO k e) i : Int)) → (i = 0 ∨ 0 ≤ v4.toInt) → v5 = nI (i) → ∀ ls : Array Slot, lv_has ls 7 [(0, .ref (ad 0)), (1, .int (0)), (2, .int (k)), (3, .int (q)), (4, .int (v4)), (5, .int (v5))] → W p l e (headSpec wsX3_find ({ frames := 3, cells := 0, slots := 0, locals := 68 })).room s m ([.ref (ad 0), .int (0), .int (k), .int (q)]).toArray below meth c s.heap [] 0 0 (MQ below (vp_Si (fun v => v = nth (fun e => lbM HL CO k e) (2 ^ A) q)) ([.ref (ad 0), .int (0), .int (k), .int (q)]).toArray s 0 0 (fun _ => False)) (F0 m 6 ls []) := by
    intro n
    induction n with
    | zero => intro i v4 v5 h1 h2; exact absurd h2 (by omega)
    | succ n ih =>
      intro i v4 v5 hi_ hn_ hno hlf hps e5 ls hl
      subst e5
      have hl : lv_has ls 7 [(0, .ref (ad 0)), (1, .int (0)), (2, .int (k)), (3, .int (q)), (4, .int (v4)), (5, .int (nI (i)))] := hl
      refine lv_iload hx hb dX3_find_6 (lv_at hl 5 rfl) ?_
      refine lv_iconst (v := 1) hx hb dX3_find_8 (by decide) ?_
      refine lv_aload_n hx hb dX3_find_9 rfl (lv_at hl 0 rfl) ?_
      refine va_get (D := D) (ci := 3) (v := .int (nI (A))) (C := RX3) (T := TX3) (N := 13) hx hb hts hin3 hown hK.1 hP 0 rfl rfl 3 (by decide) f42 (fun _ h9 => h9) rfl dX3_find_10 ?_
      refine lv_ishl hx hb dX3_find_13 ?_
      rw [sh1_eq (by omega)]
      refine lv_icmp_ge (tgt := 87) hx hb dX3_find_14 (by decide) (fun c_14 => ?_) (fun c_14 => ?_)
      · skip
        have c_14 := (qI_le (a := 2 ^ A) (b := i) (by omega) (by omega)).mp c_14
        refine lv_iconst (v := -1) hx hb dX3_find_87 (by decide) ?_
        exact ri_ hx hb hrt hlk dX3_find_88 (by first | exact (nth_neg (P := (fun e => lbM HL CO k e)) (by omega) hlf hps c_19).symm | (obtain rfl : i = 2 ^ A := (by omega); exact (fndI_no hno).symm))
      · skip
        have c_14 := mt (qI_le (a := 2 ^ A) (b := i) (by omega) (by omega)).mpr c_14
        refine lv_iload hx hb dX3_find_17 (lv_at hl 4 rfl) ?_
        refine lv_if_lt (tgt := 87) hx hb dX3_find_19 (by decide) (fun c_19 => ?_) (fun c_19 => ?_)
        · skip
          refine lv_iconst (v := -1) hx hb dX3_find_87 (by decide) ?_
          exact ri_ hx hb hrt hlk dX3_find_88 (by first | exact (nth_neg (P := (fun e => lbM HL CO k e)) (by omega) hlf hps c_19).symm | (obtain rfl : i = 2 ^ A := (by omega); exact (fndI_no hno).symm))
        · skip
          refine lv_iload_n hx hb dX3_find_22 rfl (lv_at hl 1 rfl) ?_
          refine lv_if_ne (tgt := 36) hx hb dX3_find_23 (by decide) (fun c_23 => ?_) (fun c_23 => ?_)
          · skip
            exact absurd c_23 (by decide)
          · skip
            refine lv_aload_n hx hb dX3_find_26 rfl (lv_at hl 0 rfl) ?_
            refine lv_iload_n hx hb dX3_find_27 rfl (lv_at hl 2 rfl) ?_
            refine lv_iload hx hb dX3_find_28 (lv_at hl 5 rfl) ?_
            refine pu_i (va_runV (As := [.int (k), .int (nI (i))]) (rest := []) ⟨hx, hb, hml, hown, hts⟩ (c_X3_isLabel l D cI cZ ad (th) (N) (A) (R) (kw) (an) (nd) (wt) (B) (Hd) (O) (HL) (CO) (k) (i) (by omega)) (cwV 2 hts gX3_find_X3_isLabel rfl rfl rfl (by decide +kernel) ⟨Nat.le_of_ble_eq_true rfl, Nat.le_of_ble_eq_true rfl⟩) (pre_V (q0 := 0) (ci := 3) (hP.sub (ws' := (wM cI cZ ad th N A R kw an nd wt B Hd O HL CO)) [0, 1, 2, 3, 4, 5, 6, 7, 8] rfl) hK rfl rfl) rfl rfl hl.1 rfl (lv_room (Nat.le_of_ble_eq_true rfl)) dX3_find_30 ⟨Nat.zero_le _, Nat.zero_le _⟩) ?_
            refine lv_goto (tgt := 56) hx hb dX3_find_33 (by decide) ?_
            refine lv_istore (lv' := [(6, .int (bI (lbM HL CO k i))), (0, .ref (ad 0)), (1, .int (0)), (2, .int (k)), (3, .int (q)), (4, .int (v4)), (5, .int (nI (i)))]) hx hb dX3_find_56 hl (by decide) rfl (fun ls hl => ?_)
            refine lv_iload hx hb dX3_find_58 (lv_at hl 5 rfl) ?_
            refine lv_iload hx hb dX3_find_60 (lv_at hl 0 rfl) ?_
            refine lv_if_eq (tgt := 69) hx hb dX3_find_62 (by decide) (fun c_62 => ?_) (fun c_62 => ?_)
            · skip
              have c_62 := bI_eq0 c_62
              refine lv_iconst (v := 0) hx hb dX3_find_69 (by decide) ?_
              refine lv_isub hx hb dX3_find_70 ?_
              refine lv_istore (lv' := [(4, .int ((v4) - (0))), (6, .int (bI (lbM HL CO k i))), (0, .ref (ad 0)), (1, .int (0)), (2, .int (k)), (3, .int (q)), (5, .int (nI (i)))]) hx hb dX3_find_71 hl (by decide) rfl (fun ls hl => ?_)
              refine lv_iload hx hb dX3_find_73 (lv_at hl 0 rfl) ?_
              refine lv_if_ge (tgt := 81) hx hb dX3_find_75 (by decide) (fun c_75 => ?_) (fun c_75 => ?_)
              · skip
                refine lv_iinc (v := nI (i + 1)) (lv' := [(5, .int (nI (i + 1))), (4, .int ((v4) - (0))), (6, .int (bI (lbM HL CO k i))), (0, .ref (ad 0)), (1, .int (0)), (2, .int (k)), (3, .int (q))]) hx hb dX3_find_81 hl (k := 6) rfl (nI_1 _) (by decide) rfl (fun ls hl => ?_)
                refine lv_goto (tgt := 6) hx hb dX3_find_84 (by decide) ?_
                exact ih (i + 1) _ _ (by omega) (by omega) (no_succ hno (nth_no (P := (fun e => lbM HL CO k e)) (by omega) hlf c_19 c_75 (by first | exact Or.inl ⟨rfl, by simp [c_14, c_19, c_23, c_62, c_75]⟩ | exact Or.inr ⟨rfl, by simp [c_14, c_19, c_23, c_62, c_75]⟩))) (nth_lf (P := (fun e => lbM HL CO k e)) hlf c_19 c_75 (by first | exact Or.inl ⟨rfl, by simp [c_14, c_19, c_23, c_62, c_75]⟩ | exact Or.inr ⟨rfl, by simp [c_14, c_19, c_23, c_62, c_75]⟩)) (Or.inr (by have := Int32.le_iff_toInt_le.mp c_75; simpa using this)) rfl ls (lv_sub hl [3, 4, 5, 6, 1, 0] rfl)
              · skip
                refine lv_iload hx hb dX3_find_78 (lv_at hl 6 rfl) ?_
                exact ri_ hx hb hrt hlk dX3_find_80 ((fndI_at (P := (fun e => (fun e => lbM HL CO k e) e && nI (cnt (fun e => lbM HL CO k e) e) == q)) (i := i) (by omega) (nth_at (P := (fun e => lbM HL CO k e)) (by omega) hlf c_19 c_75 (by first | exact Or.inl ⟨rfl, by simp [c_14, c_19, c_23, c_62, c_75]⟩ | exact Or.inr ⟨rfl, by simp [c_14, c_19, c_23, c_62, c_75]⟩)) hno).symm)
            · skip
              have c_62 := bI_ne0 c_62
              refine lv_iconst (v := 1) hx hb dX3_find_65 (by decide) ?_
              refine lv_goto (tgt := 70) hx hb dX3_find_66 (by decide) ?_
              refine lv_isub hx hb dX3_find_70 ?_
              refine lv_istore (lv' := [(4, .int ((v4) - (1))), (6, .int (bI (lbM HL CO k i))), (0, .ref (ad 0)), (1, .int (0)), (2, .int (k)), (3, .int (q)), (5, .int (nI (i)))]) hx hb dX3_find_71 hl (by decide) rfl (fun ls hl => ?_)
              refine lv_iload hx hb dX3_find_73 (lv_at hl 0 rfl) ?_
              refine lv_if_ge (tgt := 81) hx hb dX3_find_75 (by decide) (fun c_75 => ?_) (fun c_75 => ?_)
              · skip
                refine lv_iinc (v := nI (i + 1)) (lv' := [(5, .int (nI (i + 1))), (4, .int ((v4) - (1))), (6, .int (bI (lbM HL CO k i))), (0, .ref (ad 0)), (1, .int (0)), (2, .int (k)), (3, .int (q))]) hx hb dX3_find_81 hl (k := 6) rfl (nI_1 _) (by decide) rfl (fun ls hl => ?_)
                refine lv_goto (tgt := 6) hx hb dX3_find_84 (by decide) ?_
                exact ih (i + 1) _ _ (by omega) (by omega) (no_succ hno (nth_no (P := (fun e => lbM HL CO k e)) (by omega) hlf c_19 c_75 (by first | exact Or.inl ⟨rfl, by simp [c_14, c_19, c_23, c_62, c_75]⟩ | exact Or.inr ⟨rfl, by simp [c_14, c_19, c_23, c_62, c_75]⟩))) (nth_lf (P := (fun e => lbM HL CO k e)) hlf c_19 c_75 (by first | exact Or.inl ⟨rfl, by simp [c_14, c_19, c_23, c_62, c_75]⟩ | exact Or.inr ⟨rfl, by simp [c_14, c_19, c_23, c_62, c_75]⟩)) (Or.inr (by have := Int32.le_iff_toInt_le.mp c_75; simpa using this)) rfl ls (lv_sub hl [3, 4, 5, 6, 1, 0] rfl)
              · skip
                refine lv_iload hx hb dX3_find_78 (lv_at hl 6 rfl) ?_
                exact ri_ hx hb hrt hlk dX3_find_80 ((fndI_at (P := (fun e => (fun e => lbM HL CO k e) e && nI (cnt (fun e => lbM HL CO k e) e) == q)) (i := i) (by omega) (nth_at (P := (fun e => lbM HL CO k e)) (by omega) hlf c_19 c_75 (by first | exact Or.inl ⟨rfl, by simp [c_14, c_19, c_23, c_62, c_75]⟩ | exact Or.inr ⟨rfl, by simp [c_14, c_19, c_23, c_62, c_75]⟩)) hno).symm)
  refine lv_iload_n hx hb dX3_find_0 rfl (lv_at hl 3 rfl) ?_
  refine lv_istore (lv' := [(4, .int (q)), (0, .ref (ad 0)), (1, .int (0)), (2, .int (k)), (3, .int (q))]) hx hb dX3_find_1 hl (by decide) rfl (fun ls hl => ?_)
  refine lv_iconst (v := nI (0)) hx hb dX3_find_3 (by decide) ?_
  refine lv_istore (lv' := [(5, .int (nI (0))), (4, .int (q)), (0, .ref (ad 0)), (1, .int (0)), (2, .int (k)), (3, .int (q))]) hx hb dX3_find_4 hl (by decide) rfl (fun ls hl => ?_)
  exact lp_6 (2 ^ A + 1) (0) _ _ (by omega) (by omega) (fun j hj => absurd hj (Nat.not_lt_zero j)) (by simp [cnt]) (Or.inl rfl) (by first | rfl | (simp []; done) | (simp only []; rfl) | (simp_all []; done)) ls (lv_sub hl [2, 3, 4, 5, 1, 0] rfl)
set_option maxHeartbeats 4000000 in
set_option maxRecDepth 100000 in
theorem c_X3_find_1 (l : Launch) (D : va_G) (cI cZ : ClassId) (ad : Nat → Nat) (th : Int32) (N : Nat) (A : Nat) (R : Nat) (kw : Bool) (an : Nat → Int32) (nd : Nat → Int32) (wt : Nat → Int32) (B : Nat → Int32) (Hd : Nat → Int32) (O : Nat → Bool) (HL : Nat → Int32) (CO : Nat → Bool) (k : Int32) (q : Int32) (hA : A ≤ 9) : Met l yX3_find wsX3_find (({ frames := 2, cells := 0, slots := 0, locals := 44 })) (pcP D [(cI, .int), (cZ, .boolean)] (wM cI cZ ad th N A R kw an nd wt B Hd O HL CO) [.ref (ad 0), .int (1), .int (k), .int (q)]) (vp_Si (fun v => v = nth (fun e => ngM CO e) (2 ^ A) q)) 0 0 (fun _ => False) := by
  refine Met.ofW (cc := cX3_find) (maxL := 7) (ret := (some .int)) (by decide) rfl ?_
  intro p e s m args below meth c s₁ BB hml hv
  obtain ⟨rfl, hP, hK⟩ := hv
  have hx := BB.exec
  have hb := BB.bytes
  have hrt := BB.returns
  have hts := atoms_spec (ws := wsX3_find) BB.pre
  have hown : s.vm.findClass RX3 = some m.cls := findClass_of_methodNamed BB.named
  have hlk := BB.notSynchronized
  have f42 := hts (.fieldLink RX3 42 "AssumptionKeeperModel" "assumptions" "I") (by decide +kernel)
  have hin3 : ∀ w ∈ u_ws RX3 TX3 13, w ∈ wsX3_find := by decide +kernel
  have hl := lv_entry ([.ref (ad 0), .int (1), .int (k), .int (q)]) (n := 7) (Nat.le_of_ble_eq_true rfl)
  rw [lg_entry_eq]
  generalize (lg_sl ([.ref (ad 0), .int (1), .int (k), .int (q)]) ++ List.replicate (7 - (lg_sl ([.ref (ad 0), .int (1), .int (k), .int (q)])).length) Slot.unset).toArray = ls at hl ⊢
  have hl : lv_has ls 7 [(0, .ref (ad 0)), (1, .int (1)), (2, .int (k)), (3, .int (q))] := hl
  have h512 : 2 ^ A ≤ 512 := pow9 hA
  have hpos : 0 < 2 ^ A := Nat.two_pow_pos A
  have lp_6 : ∀ (n i : Nat) (v4 : Int32) (v5 : Int32), i ≤ 2 ^ A → 2 ^ A + 1 ≤ i + n → (∀ j, j < i → (fun e => (fun e => ngM CO e) e && nI (cnt (fun e => ngM CO e) e) == q) j = false) → (v4.toInt = q.toInt - (cnt (fun e => ngM CO e) i : Int)) → (i = 0 ∨ 0 ≤ v4.toInt) → v5 = nI (i) → ∀ ls : Array Slot, lv_has ls 7 [(0, .ref (ad 0)), (1, .int (1)), (2, .int (k)), (3, .int (q)), (4, .int (v4)), (5, .int (v5))] → W p l e (headSpec wsX3_find ({ frames := 2, cells := 0, slots := 0, locals := 44 })).room s m ([.ref (ad 0), .int (1), .int (k), .int (q)]).toArray below meth c s.heap [] 0 0 (MQ below (vp_Si (fun v => v = nth (fun e => ngM CO e) (2 ^ A) q)) ([.ref (ad 0), .int (1), .int (k), .int (q)]).toArray s 0 0 (fun _ => False)) (F0 m 6 ls []) := by
    intro n
    induction n with
    | zero => intro i v4 v5 h1 h2; exact absurd h2 (by omega)
    | succ n ih =>
      intro i v4 v5 hi_ hn_ hno hlf hps e5 ls hl
      subst e5
      have hl : lv_has ls 7 [(0, .ref (ad 0)), (1, .int (1)), (2, .int (k)), (3, .int (q)), (4, .int (v4)), (5, .int (nI (i)))] := hl
      refine lv_iload hx hb dX3_find_6 (lv_at hl 5 rfl) ?_
      refine lv_iconst (v := 1) hx hb dX3_find_8 (by decide) ?_
      refine lv_aload_n hx hb dX3_find_9 rfl (lv_at hl 0 rfl) ?_
      refine va_get (D := D) (ci := 3) (v := .int (nI (A))) (C := RX3) (T := TX3) (N := 13) hx hb hts hin3 hown hK.1 hP 0 rfl rfl 3 (by decide) f42 (fun _ h9 => h9) rfl dX3_find_10 ?_
      refine lv_ishl hx hb dX3_find_13 ?_
      rw [sh1_eq (by omega)]
      refine lv_icmp_ge (tgt := 87) hx hb dX3_find_14 (by decide) (fun c_14 => ?_) (fun c_14 => ?_)
      · skip
        have c_14 := (qI_le (a := 2 ^ A) (b := i) (by omega) (by omega)).mp c_14
        refine lv_iconst (v := -1) hx hb dX3_find_87 (by decide) ?_
        exact ri_ hx hb hrt hlk dX3_find_88 (by first | exact (nth_neg (P := (fun e => ngM CO e)) (by omega) hlf hps c_19).symm | (obtain rfl : i = 2 ^ A := (by omega); exact (fndI_no hno).symm))
      · skip
        have c_14 := mt (qI_le (a := 2 ^ A) (b := i) (by omega) (by omega)).mpr c_14
        refine lv_iload hx hb dX3_find_17 (lv_at hl 4 rfl) ?_
        refine lv_if_lt (tgt := 87) hx hb dX3_find_19 (by decide) (fun c_19 => ?_) (fun c_19 => ?_)
        · skip
          refine lv_iconst (v := -1) hx hb dX3_find_87 (by decide) ?_
          exact ri_ hx hb hrt hlk dX3_find_88 (by first | exact (nth_neg (P := (fun e => ngM CO e)) (by omega) hlf hps c_19).symm | (obtain rfl : i = 2 ^ A := (by omega); exact (fndI_no hno).symm))
        · skip
          refine lv_iload_n hx hb dX3_find_22 rfl (lv_at hl 1 rfl) ?_
          refine lv_if_ne (tgt := 36) hx hb dX3_find_23 (by decide) (fun c_23 => ?_) (fun c_23 => ?_)
          · skip
            refine lv_iload_n hx hb dX3_find_36 rfl (lv_at hl 1 rfl) ?_
            refine lv_iconst (v := 1) hx hb dX3_find_37 (by decide) ?_
            refine lv_icmp_ne (tgt := 50) hx hb dX3_find_38 (by decide) (fun c_38 => ?_) (fun c_38 => ?_)
            · skip
              exact absurd c_38 (by decide)
            · skip
              refine lv_aload_n hx hb dX3_find_41 rfl (lv_at hl 0 rfl) ?_
              refine lv_iload hx hb dX3_find_42 (lv_at hl 5 rfl) ?_
              refine pu_i (va_runV (As := [.int (nI (i))]) (rest := []) ⟨hx, hb, hml, hown, hts⟩ (c_X3_isNogood l D cI cZ ad (th) (N) (A) (R) (kw) (an) (nd) (wt) (B) (Hd) (O) (HL) (CO) (i) (by omega)) (cwV 1 hts gX3_find_X3_isNogood rfl rfl rfl (by decide +kernel) ⟨Nat.le_of_ble_eq_true rfl, Nat.le_of_ble_eq_true rfl⟩) (pre_V (q0 := 0) (ci := 3) (hP.sub (ws' := (wM cI cZ ad th N A R kw an nd wt B Hd O HL CO)) [0, 1, 2, 3, 4, 5, 6, 7, 8] rfl) hK rfl rfl) rfl rfl hl.1 rfl (lv_room (Nat.le_of_ble_eq_true rfl)) dX3_find_44 ⟨Nat.zero_le _, Nat.zero_le _⟩) ?_
              refine lv_goto (tgt := 56) hx hb dX3_find_47 (by decide) ?_
              refine lv_istore (lv' := [(6, .int (bI (ngM CO i))), (0, .ref (ad 0)), (1, .int (1)), (2, .int (k)), (3, .int (q)), (4, .int (v4)), (5, .int (nI (i)))]) hx hb dX3_find_56 hl (by decide) rfl (fun ls hl => ?_)
              refine lv_iload hx hb dX3_find_58 (lv_at hl 5 rfl) ?_
              refine lv_iload hx hb dX3_find_60 (lv_at hl 0 rfl) ?_
              refine lv_if_eq (tgt := 69) hx hb dX3_find_62 (by decide) (fun c_62 => ?_) (fun c_62 => ?_)
              · skip
                have c_62 := bI_eq0 c_62
                refine lv_iconst (v := 0) hx hb dX3_find_69 (by decide) ?_
                refine lv_isub hx hb dX3_find_70 ?_
                refine lv_istore (lv' := [(4, .int ((v4) - (0))), (6, .int (bI (ngM CO i))), (0, .ref (ad 0)), (1, .int (1)), (2, .int (k)), (3, .int (q)), (5, .int (nI (i)))]) hx hb dX3_find_71 hl (by decide) rfl (fun ls hl => ?_)
                refine lv_iload hx hb dX3_find_73 (lv_at hl 0 rfl) ?_
                refine lv_if_ge (tgt := 81) hx hb dX3_find_75 (by decide) (fun c_75 => ?_) (fun c_75 => ?_)
                · skip
                  refine lv_iinc (v := nI (i + 1)) (lv' := [(5, .int (nI (i + 1))), (4, .int ((v4) - (0))), (6, .int (bI (ngM CO i))), (0, .ref (ad 0)), (1, .int (1)), (2, .int (k)), (3, .int (q))]) hx hb dX3_find_81 hl (k := 6) rfl (nI_1 _) (by decide) rfl (fun ls hl => ?_)
                  refine lv_goto (tgt := 6) hx hb dX3_find_84 (by decide) ?_
                  exact ih (i + 1) _ _ (by omega) (by omega) (no_succ hno (nth_no (P := (fun e => ngM CO e)) (by omega) hlf c_19 c_75 (by first | exact Or.inl ⟨rfl, by simp [c_14, c_19, c_23, c_38, c_62, c_75]⟩ | exact Or.inr ⟨rfl, by simp [c_14, c_19, c_23, c_38, c_62, c_75]⟩))) (nth_lf (P := (fun e => ngM CO e)) hlf c_19 c_75 (by first | exact Or.inl ⟨rfl, by simp [c_14, c_19, c_23, c_38, c_62, c_75]⟩ | exact Or.inr ⟨rfl, by simp [c_14, c_19, c_23, c_38, c_62, c_75]⟩)) (Or.inr (by have := Int32.le_iff_toInt_le.mp c_75; simpa using this)) rfl ls (lv_sub hl [3, 4, 5, 6, 1, 0] rfl)
                · skip
                  refine lv_iload hx hb dX3_find_78 (lv_at hl 6 rfl) ?_
                  exact ri_ hx hb hrt hlk dX3_find_80 ((fndI_at (P := (fun e => (fun e => ngM CO e) e && nI (cnt (fun e => ngM CO e) e) == q)) (i := i) (by omega) (nth_at (P := (fun e => ngM CO e)) (by omega) hlf c_19 c_75 (by first | exact Or.inl ⟨rfl, by simp [c_14, c_19, c_23, c_38, c_62, c_75]⟩ | exact Or.inr ⟨rfl, by simp [c_14, c_19, c_23, c_38, c_62, c_75]⟩)) hno).symm)
              · skip
                have c_62 := bI_ne0 c_62
                refine lv_iconst (v := 1) hx hb dX3_find_65 (by decide) ?_
                refine lv_goto (tgt := 70) hx hb dX3_find_66 (by decide) ?_
                refine lv_isub hx hb dX3_find_70 ?_
                refine lv_istore (lv' := [(4, .int ((v4) - (1))), (6, .int (bI (ngM CO i))), (0, .ref (ad 0)), (1, .int (1)), (2, .int (k)), (3, .int (q)), (5, .int (nI (i)))]) hx hb dX3_find_71 hl (by decide) rfl (fun ls hl => ?_)
                refine lv_iload hx hb dX3_find_73 (lv_at hl 0 rfl) ?_
                refine lv_if_ge (tgt := 81) hx hb dX3_find_75 (by decide) (fun c_75 => ?_) (fun c_75 => ?_)
                · skip
                  refine lv_iinc (v := nI (i + 1)) (lv' := [(5, .int (nI (i + 1))), (4, .int ((v4) - (1))), (6, .int (bI (ngM CO i))), (0, .ref (ad 0)), (1, .int (1)), (2, .int (k)), (3, .int (q))]) hx hb dX3_find_81 hl (k := 6) rfl (nI_1 _) (by decide) rfl (fun ls hl => ?_)
                  refine lv_goto (tgt := 6) hx hb dX3_find_84 (by decide) ?_
                  exact ih (i + 1) _ _ (by omega) (by omega) (no_succ hno (nth_no (P := (fun e => ngM CO e)) (by omega) hlf c_19 c_75 (by first | exact Or.inl ⟨rfl, by simp [c_14, c_19, c_23, c_38, c_62, c_75]⟩ | exact Or.inr ⟨rfl, by simp [c_14, c_19, c_23, c_38, c_62, c_75]⟩))) (nth_lf (P := (fun e => ngM CO e)) hlf c_19 c_75 (by first | exact Or.inl ⟨rfl, by simp [c_14, c_19, c_23, c_38, c_62, c_75]⟩ | exact Or.inr ⟨rfl, by simp [c_14, c_19, c_23, c_38, c_62, c_75]⟩)) (Or.inr (by have := Int32.le_iff_toInt_le.mp c_75; simpa using this)) rfl ls (lv_sub hl [3, 4, 5, 6, 1, 0] rfl)
                · skip
                  refine lv_iload hx hb dX3_find_78 (lv_at hl 6 rfl) ?_
                  exact ri_ hx hb hrt hlk dX3_find_80 ((fndI_at (P := (fun e => (fun e => ngM CO e) e && nI (cnt (fun e => ngM CO e) e) == q)) (i := i) (by omega) (nth_at (P := (fun e => ngM CO e)) (by omega) hlf c_19 c_75 (by first | exact Or.inl ⟨rfl, by simp [c_14, c_19, c_23, c_38, c_62, c_75]⟩ | exact Or.inr ⟨rfl, by simp [c_14, c_19, c_23, c_38, c_62, c_75]⟩)) hno).symm)
          · skip
            exact absurd c_23 (by decide)
  refine lv_iload_n hx hb dX3_find_0 rfl (lv_at hl 3 rfl) ?_
  refine lv_istore (lv' := [(4, .int (q)), (0, .ref (ad 0)), (1, .int (1)), (2, .int (k)), (3, .int (q))]) hx hb dX3_find_1 hl (by decide) rfl (fun ls hl => ?_)
  refine lv_iconst (v := nI (0)) hx hb dX3_find_3 (by decide) ?_
  refine lv_istore (lv' := [(5, .int (nI (0))), (4, .int (q)), (0, .ref (ad 0)), (1, .int (1)), (2, .int (k)), (3, .int (q))]) hx hb dX3_find_4 hl (by decide) rfl (fun ls hl => ?_)
  exact lp_6 (2 ^ A + 1) (0) _ _ (by omega) (by omega) (fun j hj => absurd hj (Nat.not_lt_zero j)) (by simp [cnt]) (Or.inl rfl) (by first | rfl | (simp []; done) | (simp only []; rfl) | (simp_all []; done)) ls (lv_sub hl [2, 3, 4, 5, 1, 0] rfl)
set_option maxHeartbeats 4000000 in
set_option maxRecDepth 100000 in
theorem c_X3_find_2 (l : Launch) (D : va_G) (cI cZ : ClassId) (ad : Nat → Nat) (th : Int32) (N : Nat) (A : Nat) (R : Nat) (kw : Bool) (an : Nat → Int32) (nd : Nat → Int32) (wt : Nat → Int32) (B : Nat → Int32) (Hd : Nat → Int32) (O : Nat → Bool) (HL : Nat → Int32) (CO : Nat → Bool) (k : Int32) (q : Int32) (hA : A ≤ 9) : Met l yX3_find wsX3_find (({ frames := 2, cells := 0, slots := 0, locals := 44 })) (pcP D [(cI, .int), (cZ, .boolean)] (wM cI cZ ad th N A R kw an nd wt B Hd O HL CO) [.ref (ad 0), .int (2), .int (k), .int (q)]) (vp_Si (fun v => v = nth (fun e => woM A CO e) (2 ^ A) q)) 0 0 (fun _ => False) := by
  refine Met.ofW (cc := cX3_find) (maxL := 7) (ret := (some .int)) (by decide) rfl ?_
  intro p e s m args below meth c s₁ BB hml hv
  obtain ⟨rfl, hP, hK⟩ := hv
  have hx := BB.exec
  have hb := BB.bytes
  have hrt := BB.returns
  have hts := atoms_spec (ws := wsX3_find) BB.pre
  have hown : s.vm.findClass RX3 = some m.cls := findClass_of_methodNamed BB.named
  have hlk := BB.notSynchronized
  have f42 := hts (.fieldLink RX3 42 "AssumptionKeeperModel" "assumptions" "I") (by decide +kernel)
  have hin3 : ∀ w ∈ u_ws RX3 TX3 13, w ∈ wsX3_find := by decide +kernel
  have hl := lv_entry ([.ref (ad 0), .int (2), .int (k), .int (q)]) (n := 7) (Nat.le_of_ble_eq_true rfl)
  rw [lg_entry_eq]
  generalize (lg_sl ([.ref (ad 0), .int (2), .int (k), .int (q)]) ++ List.replicate (7 - (lg_sl ([.ref (ad 0), .int (2), .int (k), .int (q)])).length) Slot.unset).toArray = ls at hl ⊢
  have hl : lv_has ls 7 [(0, .ref (ad 0)), (1, .int (2)), (2, .int (k)), (3, .int (q))] := hl
  have h512 : 2 ^ A ≤ 512 := pow9 hA
  have hpos : 0 < 2 ^ A := Nat.two_pow_pos A
  have lp_6 : ∀ (n i : Nat) (v4 : Int32) (v5 : Int32), i ≤ 2 ^ A → 2 ^ A + 1 ≤ i + n → (∀ j, j < i → (fun e => (fun e => woM A CO e) e && nI (cnt (fun e => woM A CO e) e) == q) j = false) → (v4.toInt = q.toInt - (cnt (fun e => woM A CO e) i : Int)) → (i = 0 ∨ 0 ≤ v4.toInt) → v5 = nI (i) → ∀ ls : Array Slot, lv_has ls 7 [(0, .ref (ad 0)), (1, .int (2)), (2, .int (k)), (3, .int (q)), (4, .int (v4)), (5, .int (v5))] → W p l e (headSpec wsX3_find ({ frames := 2, cells := 0, slots := 0, locals := 44 })).room s m ([.ref (ad 0), .int (2), .int (k), .int (q)]).toArray below meth c s.heap [] 0 0 (MQ below (vp_Si (fun v => v = nth (fun e => woM A CO e) (2 ^ A) q)) ([.ref (ad 0), .int (2), .int (k), .int (q)]).toArray s 0 0 (fun _ => False)) (F0 m 6 ls []) := by
    intro n
    induction n with
    | zero => intro i v4 v5 h1 h2; exact absurd h2 (by omega)
    | succ n ih =>
      intro i v4 v5 hi_ hn_ hno hlf hps e5 ls hl
      subst e5
      have hl : lv_has ls 7 [(0, .ref (ad 0)), (1, .int (2)), (2, .int (k)), (3, .int (q)), (4, .int (v4)), (5, .int (nI (i)))] := hl
      refine lv_iload hx hb dX3_find_6 (lv_at hl 5 rfl) ?_
      refine lv_iconst (v := 1) hx hb dX3_find_8 (by decide) ?_
      refine lv_aload_n hx hb dX3_find_9 rfl (lv_at hl 0 rfl) ?_
      refine va_get (D := D) (ci := 3) (v := .int (nI (A))) (C := RX3) (T := TX3) (N := 13) hx hb hts hin3 hown hK.1 hP 0 rfl rfl 3 (by decide) f42 (fun _ h9 => h9) rfl dX3_find_10 ?_
      refine lv_ishl hx hb dX3_find_13 ?_
      rw [sh1_eq (by omega)]
      refine lv_icmp_ge (tgt := 87) hx hb dX3_find_14 (by decide) (fun c_14 => ?_) (fun c_14 => ?_)
      · skip
        have c_14 := (qI_le (a := 2 ^ A) (b := i) (by omega) (by omega)).mp c_14
        refine lv_iconst (v := -1) hx hb dX3_find_87 (by decide) ?_
        exact ri_ hx hb hrt hlk dX3_find_88 (by first | exact (nth_neg (P := (fun e => woM A CO e)) (by omega) hlf hps c_19).symm | (obtain rfl : i = 2 ^ A := (by omega); exact (fndI_no hno).symm))
      · skip
        have c_14 := mt (qI_le (a := 2 ^ A) (b := i) (by omega) (by omega)).mpr c_14
        refine lv_iload hx hb dX3_find_17 (lv_at hl 4 rfl) ?_
        refine lv_if_lt (tgt := 87) hx hb dX3_find_19 (by decide) (fun c_19 => ?_) (fun c_19 => ?_)
        · skip
          refine lv_iconst (v := -1) hx hb dX3_find_87 (by decide) ?_
          exact ri_ hx hb hrt hlk dX3_find_88 (by first | exact (nth_neg (P := (fun e => woM A CO e)) (by omega) hlf hps c_19).symm | (obtain rfl : i = 2 ^ A := (by omega); exact (fndI_no hno).symm))
        · skip
          refine lv_iload_n hx hb dX3_find_22 rfl (lv_at hl 1 rfl) ?_
          refine lv_if_ne (tgt := 36) hx hb dX3_find_23 (by decide) (fun c_23 => ?_) (fun c_23 => ?_)
          · skip
            refine lv_iload_n hx hb dX3_find_36 rfl (lv_at hl 1 rfl) ?_
            refine lv_iconst (v := 1) hx hb dX3_find_37 (by decide) ?_
            refine lv_icmp_ne (tgt := 50) hx hb dX3_find_38 (by decide) (fun c_38 => ?_) (fun c_38 => ?_)
            · skip
              refine lv_aload_n hx hb dX3_find_50 rfl (lv_at hl 0 rfl) ?_
              refine lv_iload hx hb dX3_find_51 (lv_at hl 5 rfl) ?_
              refine pu_i (va_runV (As := [.int (nI (i))]) (rest := []) ⟨hx, hb, hml, hown, hts⟩ (c_X3_isWorld l D cI cZ ad (th) (N) (A) (R) (kw) (an) (nd) (wt) (B) (Hd) (O) (HL) (CO) (i) (by omega) (by omega)) (cwV 1 hts gX3_find_X3_isWorld rfl rfl rfl (by decide +kernel) ⟨Nat.le_of_ble_eq_true rfl, Nat.le_of_ble_eq_true rfl⟩) (pre_V (q0 := 0) (ci := 3) (hP.sub (ws' := (wM cI cZ ad th N A R kw an nd wt B Hd O HL CO)) [0, 1, 2, 3, 4, 5, 6, 7, 8] rfl) hK rfl rfl) rfl rfl hl.1 rfl (lv_room (Nat.le_of_ble_eq_true rfl)) dX3_find_53 ⟨Nat.zero_le _, Nat.zero_le _⟩) ?_
              refine lv_istore (lv' := [(6, .int (bI (woM A CO i))), (0, .ref (ad 0)), (1, .int (2)), (2, .int (k)), (3, .int (q)), (4, .int (v4)), (5, .int (nI (i)))]) hx hb dX3_find_56 hl (by decide) rfl (fun ls hl => ?_)
              refine lv_iload hx hb dX3_find_58 (lv_at hl 5 rfl) ?_
              refine lv_iload hx hb dX3_find_60 (lv_at hl 0 rfl) ?_
              refine lv_if_eq (tgt := 69) hx hb dX3_find_62 (by decide) (fun c_62 => ?_) (fun c_62 => ?_)
              · skip
                have c_62 := bI_eq0 c_62
                refine lv_iconst (v := 0) hx hb dX3_find_69 (by decide) ?_
                refine lv_isub hx hb dX3_find_70 ?_
                refine lv_istore (lv' := [(4, .int ((v4) - (0))), (6, .int (bI (woM A CO i))), (0, .ref (ad 0)), (1, .int (2)), (2, .int (k)), (3, .int (q)), (5, .int (nI (i)))]) hx hb dX3_find_71 hl (by decide) rfl (fun ls hl => ?_)
                refine lv_iload hx hb dX3_find_73 (lv_at hl 0 rfl) ?_
                refine lv_if_ge (tgt := 81) hx hb dX3_find_75 (by decide) (fun c_75 => ?_) (fun c_75 => ?_)
                · skip
                  refine lv_iinc (v := nI (i + 1)) (lv' := [(5, .int (nI (i + 1))), (4, .int ((v4) - (0))), (6, .int (bI (woM A CO i))), (0, .ref (ad 0)), (1, .int (2)), (2, .int (k)), (3, .int (q))]) hx hb dX3_find_81 hl (k := 6) rfl (nI_1 _) (by decide) rfl (fun ls hl => ?_)
                  refine lv_goto (tgt := 6) hx hb dX3_find_84 (by decide) ?_
                  exact ih (i + 1) _ _ (by omega) (by omega) (no_succ hno (nth_no (P := (fun e => woM A CO e)) (by omega) hlf c_19 c_75 (by first | exact Or.inl ⟨rfl, by simp [c_14, c_19, c_23, c_38, c_62, c_75]⟩ | exact Or.inr ⟨rfl, by simp [c_14, c_19, c_23, c_38, c_62, c_75]⟩))) (nth_lf (P := (fun e => woM A CO e)) hlf c_19 c_75 (by first | exact Or.inl ⟨rfl, by simp [c_14, c_19, c_23, c_38, c_62, c_75]⟩ | exact Or.inr ⟨rfl, by simp [c_14, c_19, c_23, c_38, c_62, c_75]⟩)) (Or.inr (by have := Int32.le_iff_toInt_le.mp c_75; simpa using this)) rfl ls (lv_sub hl [3, 4, 5, 6, 1, 0] rfl)
                · skip
                  refine lv_iload hx hb dX3_find_78 (lv_at hl 6 rfl) ?_
                  exact ri_ hx hb hrt hlk dX3_find_80 ((fndI_at (P := (fun e => (fun e => woM A CO e) e && nI (cnt (fun e => woM A CO e) e) == q)) (i := i) (by omega) (nth_at (P := (fun e => woM A CO e)) (by omega) hlf c_19 c_75 (by first | exact Or.inl ⟨rfl, by simp [c_14, c_19, c_23, c_38, c_62, c_75]⟩ | exact Or.inr ⟨rfl, by simp [c_14, c_19, c_23, c_38, c_62, c_75]⟩)) hno).symm)
              · skip
                have c_62 := bI_ne0 c_62
                refine lv_iconst (v := 1) hx hb dX3_find_65 (by decide) ?_
                refine lv_goto (tgt := 70) hx hb dX3_find_66 (by decide) ?_
                refine lv_isub hx hb dX3_find_70 ?_
                refine lv_istore (lv' := [(4, .int ((v4) - (1))), (6, .int (bI (woM A CO i))), (0, .ref (ad 0)), (1, .int (2)), (2, .int (k)), (3, .int (q)), (5, .int (nI (i)))]) hx hb dX3_find_71 hl (by decide) rfl (fun ls hl => ?_)
                refine lv_iload hx hb dX3_find_73 (lv_at hl 0 rfl) ?_
                refine lv_if_ge (tgt := 81) hx hb dX3_find_75 (by decide) (fun c_75 => ?_) (fun c_75 => ?_)
                · skip
                  refine lv_iinc (v := nI (i + 1)) (lv' := [(5, .int (nI (i + 1))), (4, .int ((v4) - (1))), (6, .int (bI (woM A CO i))), (0, .ref (ad 0)), (1, .int (2)), (2, .int (k)), (3, .int (q))]) hx hb dX3_find_81 hl (k := 6) rfl (nI_1 _) (by decide) rfl (fun ls hl => ?_)
                  refine lv_goto (tgt := 6) hx hb dX3_find_84 (by decide) ?_
                  exact ih (i + 1) _ _ (by omega) (by omega) (no_succ hno (nth_no (P := (fun e => woM A CO e)) (by omega) hlf c_19 c_75 (by first | exact Or.inl ⟨rfl, by simp [c_14, c_19, c_23, c_38, c_62, c_75]⟩ | exact Or.inr ⟨rfl, by simp [c_14, c_19, c_23, c_38, c_62, c_75]⟩))) (nth_lf (P := (fun e => woM A CO e)) hlf c_19 c_75 (by first | exact Or.inl ⟨rfl, by simp [c_14, c_19, c_23, c_38, c_62, c_75]⟩ | exact Or.inr ⟨rfl, by simp [c_14, c_19, c_23, c_38, c_62, c_75]⟩)) (Or.inr (by have := Int32.le_iff_toInt_le.mp c_75; simpa using this)) rfl ls (lv_sub hl [3, 4, 5, 6, 1, 0] rfl)
                · skip
                  refine lv_iload hx hb dX3_find_78 (lv_at hl 6 rfl) ?_
                  exact ri_ hx hb hrt hlk dX3_find_80 ((fndI_at (P := (fun e => (fun e => woM A CO e) e && nI (cnt (fun e => woM A CO e) e) == q)) (i := i) (by omega) (nth_at (P := (fun e => woM A CO e)) (by omega) hlf c_19 c_75 (by first | exact Or.inl ⟨rfl, by simp [c_14, c_19, c_23, c_38, c_62, c_75]⟩ | exact Or.inr ⟨rfl, by simp [c_14, c_19, c_23, c_38, c_62, c_75]⟩)) hno).symm)
            · skip
              exact absurd c_38 (by decide)
          · skip
            exact absurd c_23 (by decide)
  refine lv_iload_n hx hb dX3_find_0 rfl (lv_at hl 3 rfl) ?_
  refine lv_istore (lv' := [(4, .int (q)), (0, .ref (ad 0)), (1, .int (2)), (2, .int (k)), (3, .int (q))]) hx hb dX3_find_1 hl (by decide) rfl (fun ls hl => ?_)
  refine lv_iconst (v := nI (0)) hx hb dX3_find_3 (by decide) ?_
  refine lv_istore (lv' := [(5, .int (nI (0))), (4, .int (q)), (0, .ref (ad 0)), (1, .int (2)), (2, .int (k)), (3, .int (q))]) hx hb dX3_find_4 hl (by decide) rfl (fun ls hl => ?_)
  exact lp_6 (2 ^ A + 1) (0) _ _ (by omega) (by omega) (fun j hj => absurd hj (Nat.not_lt_zero j)) (by simp [cnt]) (Or.inl rfl) (by first | rfl | (simp []; done) | (simp only []; rfl) | (simp_all []; done)) ls (lv_sub hl [2, 3, 4, 5, 1, 0] rfl)
set_option maxHeartbeats 4000000 in
set_option maxRecDepth 100000 in
theorem c_X3_isNever (l : Launch) (D : va_G) (cI cZ : ClassId) (ad : Nat → Nat) (th : Int32) (N : Nat) (A : Nat) (R : Nat) (kw : Bool) (an : Nat → Int32) (nd : Nat → Int32) (wt : Nat → Int32) (B : Nat → Int32) (Hd : Nat → Int32) (O : Nat → Bool) (HL : Nat → Int32) (CO : Nat → Bool) (a0 : Int32) (b0 : Int32) (wb : Bool) (hA : A ≤ 9) : Met l yX3_isNever wsX3_isNever (({ frames := 2, cells := 0, slots := 0, locals := 44 })) (pcP D [(cI, .int), (cZ, .boolean)] (wM cI cZ ad th N A R kw an nd wt B Hd O HL CO) [.ref (ad 0), .int (a0), .int (b0), .int (bI (wb))]) (vp_Si (fun v => v = bI (!(ex (fun j => gd HL CO a0 j && (hs (HL j) b0 == wb)) (2 ^ A))))) 0 0 (fun _ => False) := by
  refine Met.ofW (cc := cX3_isNever) (maxL := 6) (ret := (some .boolean)) (by decide) rfl ?_
  intro p e s m args below meth c s₁ BB hml hv
  obtain ⟨rfl, hP, hK⟩ := hv
  have hx := BB.exec
  have hb := BB.bytes
  have hrt := BB.returns
  have hts := atoms_spec (ws := wsX3_isNever) BB.pre
  have hown : s.vm.findClass RX3 = some m.cls := findClass_of_methodNamed BB.named
  have hlk := BB.notSynchronized
  have f42 := hts (.fieldLink RX3 42 "AssumptionKeeperModel" "assumptions" "I") (by decide +kernel)
  have hin3 : ∀ w ∈ u_ws RX3 TX3 13, w ∈ wsX3_isNever := by decide +kernel
  have hl := lv_entry ([.ref (ad 0), .int (a0), .int (b0), .int (bI (wb))]) (n := 6) (Nat.le_of_ble_eq_true rfl)
  rw [lg_entry_eq]
  generalize (lg_sl ([.ref (ad 0), .int (a0), .int (b0), .int (bI (wb))]) ++ List.replicate (6 - (lg_sl ([.ref (ad 0), .int (a0), .int (b0), .int (bI (wb))])).length) Slot.unset).toArray = ls at hl ⊢
  have hl : lv_has ls 6 [(0, .ref (ad 0)), (1, .int (a0)), (2, .int (b0)), (3, .int (bI (wb)))] := hl
  have h512 : 2 ^ A ≤ 512 := pow9 hA
  have hpos : 0 < 2 ^ A := Nat.two_pow_pos A
  have lp_6 : ∀ (n i : Nat) (v4 : Int32) (v5 : Int32), i ≤ 2 ^ A → 2 ^ A + 1 ≤ i + n → v4 = bI (!(ex (fun j => gd HL CO a0 j && (hs (HL j) b0 == wb)) i)) → v5 = nI (i) → ∀ ls : Array Slot, lv_has ls 6 [(0, .ref (ad 0)), (1, .int (a0)), (2, .int (b0)), (3, .int (bI (wb))), (4, .int (v4)), (5, .int (v5))] → W p l e (headSpec wsX3_isNever ({ frames := 2, cells := 0, slots := 0, locals := 44 })).room s m ([.ref (ad 0), .int (a0), .int (b0), .int (bI (wb))]).toArray below meth c s.heap [] 0 0 (MQ below (vp_Si (fun v => v = bI (!(ex (fun j => gd HL CO a0 j && (hs (HL j) b0 == wb)) (2 ^ A))))) ([.ref (ad 0), .int (a0), .int (b0), .int (bI (wb))]).toArray s 0 0 (fun _ => False)) (F0 m 6 ls []) := by
    intro n
    induction n with
    | zero => intro i v4 v5 h1 h2; exact absurd h2 (by omega)
    | succ n ih =>
      intro i v4 v5 hi_ hn_  e4 e5 ls hl
      subst e4 e5
      have hl : lv_has ls 6 [(0, .ref (ad 0)), (1, .int (a0)), (2, .int (b0)), (3, .int (bI (wb))), (4, .int (bI (!(ex (fun j => gd HL CO a0 j && (hs (HL j) b0 == wb)) i)))), (5, .int (nI (i)))] := hl
      refine lv_iload hx hb dX3_isNever_6 (lv_at hl 5 rfl) ?_
      refine lv_iconst (v := 1) hx hb dX3_isNever_8 (by decide) ?_
      refine lv_aload_n hx hb dX3_isNever_9 rfl (lv_at hl 0 rfl) ?_
      refine va_get (D := D) (ci := 3) (v := .int (nI (A))) (C := RX3) (T := TX3) (N := 13) hx hb hts hin3 hown hK.1 hP 0 rfl rfl 3 (by decide) f42 (fun _ h9 => h9) rfl dX3_isNever_10 ?_
      refine lv_ishl hx hb dX3_isNever_13 ?_
      rw [sh1_eq (by omega)]
      refine lv_icmp_ge (tgt := 56) hx hb dX3_isNever_14 (by decide) (fun c_14 => ?_) (fun c_14 => ?_)
      · skip
        have c_14 := (qI_le (a := 2 ^ A) (b := i) (by omega) (by omega)).mp c_14
        refine lv_iload hx hb dX3_isNever_56 (lv_at hl 4 rfl) ?_
        exact rz_ (v := !(ex (fun j => gd HL CO a0 j && (hs (HL j) b0 == wb)) i)) hx hb hrt hlk dX3_isNever_58 (by obtain rfl : i = 2 ^ A := (by omega); rfl)
      · skip
        have c_14 := mt (qI_le (a := 2 ^ A) (b := i) (by omega) (by omega)).mpr c_14
        refine lv_iload hx hb dX3_isNever_17 (lv_at hl 4 rfl) ?_
        refine lv_if_eq (tgt := 47) hx hb dX3_isNever_19 (by decide) (fun c_19 => ?_) (fun c_19 => ?_)
        · skip
          have c_19 := bI_eq0 c_19
          have c_19 := nb_f c_19
          refine lv_iconst (v := nI (0)) hx hb dX3_isNever_47 (by decide) ?_
          refine lv_istore (lv' := [(4, .int (nI (0))), (0, .ref (ad 0)), (1, .int (a0)), (2, .int (b0)), (3, .int (bI (wb))), (5, .int (nI (i)))]) hx hb dX3_isNever_48 hl (by decide) rfl (fun ls hl => ?_)
          refine lv_iinc (v := nI (i + 1)) (lv' := [(5, .int (nI (i + 1))), (4, .int (nI (0))), (0, .ref (ad 0)), (1, .int (a0)), (2, .int (b0)), (3, .int (bI (wb)))]) hx hb dX3_isNever_50 hl (k := 5) rfl (nI_1 _) (by decide) rfl (fun ls hl => ?_)
          refine lv_goto (tgt := 6) hx hb dX3_isNever_53 (by decide) ?_
          exact ih (i + 1) _ _ (by omega) (by omega)  (by first | (simp [ex, bI, c_14, c_19]; done) | (simp_all [ex, bI]; done) | (simp [ex, bI, c_14, c_19]; rfl)) rfl ls (lv_sub hl [2, 3, 4, 5, 1, 0] rfl)
        · skip
          have c_19 := bI_ne0 c_19
          have c_19 := nb_t c_19
          refine lv_aload_n hx hb dX3_isNever_22 rfl (lv_at hl 0 rfl) ?_
          refine lv_iload_n hx hb dX3_isNever_23 rfl (lv_at hl 1 rfl) ?_
          refine lv_iload hx hb dX3_isNever_24 (lv_at hl 5 rfl) ?_
          refine pu_i (va_runV (As := [.int (a0), .int (nI (i))]) (rest := []) ⟨hx, hb, hml, hown, hts⟩ (c_X3_isGood l D cI cZ ad (th) (N) (A) (R) (kw) (an) (nd) (wt) (B) (Hd) (O) (HL) (CO) (a0) (i) (by omega)) (cwV 2 hts gX3_isNever_X3_isGood rfl rfl rfl (by decide +kernel) ⟨Nat.le_of_ble_eq_true rfl, Nat.le_of_ble_eq_true rfl⟩) (pre_V (q0 := 0) (ci := 3) (hP.sub (ws' := (wM cI cZ ad th N A R kw an nd wt B Hd O HL CO)) [0, 1, 2, 3, 4, 5, 6, 7, 8] rfl) hK rfl rfl) rfl rfl hl.1 rfl (lv_room (Nat.le_of_ble_eq_true rfl)) dX3_isNever_26 ⟨Nat.zero_le _, Nat.zero_le _⟩) ?_
          refine lv_if_eq (tgt := 43) hx hb dX3_isNever_29 (by decide) (fun c_29 => ?_) (fun c_29 => ?_)
          · skip
            have c_29 := bI_eq0 c_29
            refine lv_iconst (v := 1) hx hb dX3_isNever_43 (by decide) ?_
            refine lv_goto (tgt := 48) hx hb dX3_isNever_44 (by decide) ?_
            refine lv_istore (lv' := [(4, .int (1)), (0, .ref (ad 0)), (1, .int (a0)), (2, .int (b0)), (3, .int (bI (wb))), (5, .int (nI (i)))]) hx hb dX3_isNever_48 hl (by decide) rfl (fun ls hl => ?_)
            refine lv_iinc (v := nI (i + 1)) (lv' := [(5, .int (nI (i + 1))), (4, .int (1)), (0, .ref (ad 0)), (1, .int (a0)), (2, .int (b0)), (3, .int (bI (wb)))]) hx hb dX3_isNever_50 hl (k := 5) rfl (nI_1 _) (by decide) rfl (fun ls hl => ?_)
            refine lv_goto (tgt := 6) hx hb dX3_isNever_53 (by decide) ?_
            exact ih (i + 1) _ _ (by omega) (by omega)  (by first | (simp [ex, bI, c_14, c_19, c_29]; done) | (simp_all [ex, bI]; done) | (simp [ex, bI, c_14, c_19, c_29]; rfl)) rfl ls (lv_sub hl [2, 3, 4, 5, 1, 0] rfl)
          · skip
            have c_29 := bI_ne0 c_29
            refine lv_aload_n hx hb dX3_isNever_32 rfl (lv_at hl 0 rfl) ?_
            refine lv_iload_n hx hb dX3_isNever_33 rfl (lv_at hl 2 rfl) ?_
            refine lv_iload hx hb dX3_isNever_34 (lv_at hl 5 rfl) ?_
            refine pu_i (va_runV (As := [.int (b0), .int (nI (i))]) (rest := []) ⟨hx, hb, hml, hown, hts⟩ (c_X3_has l D cI cZ ad (th) (N) (A) (R) (kw) (an) (nd) (wt) (B) (Hd) (O) (HL) (CO) (b0) (i) (by omega)) (cwV 2 hts gX3_isNever_X3_has rfl rfl rfl (by decide +kernel) ⟨Nat.le_of_ble_eq_true rfl, Nat.le_of_ble_eq_true rfl⟩) (pre_V (q0 := 0) (ci := 3) (hP.sub (ws' := (wM cI cZ ad th N A R kw an nd wt B Hd O HL CO)) [0, 1, 2, 3, 4, 5, 6, 7, 8] rfl) hK rfl rfl) rfl rfl hl.1 rfl (lv_room (Nat.le_of_ble_eq_true rfl)) dX3_isNever_36 ⟨Nat.zero_le _, Nat.zero_le _⟩) ?_
            refine lv_iload_n hx hb dX3_isNever_39 rfl (lv_at hl 3 rfl) ?_
            refine lv_icmp_eq (tgt := 47) hx hb dX3_isNever_40 (by decide) (fun c_40 => ?_) (fun c_40 => ?_)
            · skip
              have c_40 := bI_inj c_40
              refine lv_iconst (v := nI (0)) hx hb dX3_isNever_47 (by decide) ?_
              refine lv_istore (lv' := [(4, .int (nI (0))), (0, .ref (ad 0)), (1, .int (a0)), (2, .int (b0)), (3, .int (bI (wb))), (5, .int (nI (i)))]) hx hb dX3_isNever_48 hl (by decide) rfl (fun ls hl => ?_)
              refine lv_iinc (v := nI (i + 1)) (lv' := [(5, .int (nI (i + 1))), (4, .int (nI (0))), (0, .ref (ad 0)), (1, .int (a0)), (2, .int (b0)), (3, .int (bI (wb)))]) hx hb dX3_isNever_50 hl (k := 5) rfl (nI_1 _) (by decide) rfl (fun ls hl => ?_)
              refine lv_goto (tgt := 6) hx hb dX3_isNever_53 (by decide) ?_
              exact ih (i + 1) _ _ (by omega) (by omega)  (by first | (simp [ex, bI, c_14, c_19, c_29, c_40]; done) | (simp_all [ex, bI]; done) | (simp [ex, bI, c_14, c_19, c_29, c_40]; rfl)) rfl ls (lv_sub hl [2, 3, 4, 5, 1, 0] rfl)
            · skip
              have c_40 := bI_ninj c_40
              refine lv_iconst (v := 1) hx hb dX3_isNever_43 (by decide) ?_
              refine lv_goto (tgt := 48) hx hb dX3_isNever_44 (by decide) ?_
              refine lv_istore (lv' := [(4, .int (1)), (0, .ref (ad 0)), (1, .int (a0)), (2, .int (b0)), (3, .int (bI (wb))), (5, .int (nI (i)))]) hx hb dX3_isNever_48 hl (by decide) rfl (fun ls hl => ?_)
              refine lv_iinc (v := nI (i + 1)) (lv' := [(5, .int (nI (i + 1))), (4, .int (1)), (0, .ref (ad 0)), (1, .int (a0)), (2, .int (b0)), (3, .int (bI (wb)))]) hx hb dX3_isNever_50 hl (k := 5) rfl (nI_1 _) (by decide) rfl (fun ls hl => ?_)
              refine lv_goto (tgt := 6) hx hb dX3_isNever_53 (by decide) ?_
              exact ih (i + 1) _ _ (by omega) (by omega)  (by first | (simp [ex, bI, c_14, c_19, c_29, c_40]; done) | (simp_all [ex, bI]; done) | (simp [ex, bI, c_14, c_19, c_29, c_40]; rfl)) rfl ls (lv_sub hl [2, 3, 4, 5, 1, 0] rfl)
  refine lv_iconst (v := nI (1)) hx hb dX3_isNever_0 (by decide) ?_
  refine lv_istore (lv' := [(4, .int (nI (1))), (0, .ref (ad 0)), (1, .int (a0)), (2, .int (b0)), (3, .int (bI (wb)))]) hx hb dX3_isNever_1 hl (by decide) rfl (fun ls hl => ?_)
  refine lv_iconst (v := nI (0)) hx hb dX3_isNever_3 (by decide) ?_
  refine lv_istore (lv' := [(5, .int (nI (0))), (4, .int (nI (1))), (0, .ref (ad 0)), (1, .int (a0)), (2, .int (b0)), (3, .int (bI (wb)))]) hx hb dX3_isNever_4 hl (by decide) rfl (fun ls hl => ?_)
  exact lp_6 (2 ^ A + 1) (0) _ _ (by omega) (by omega)  (rfl) (by first | rfl | (simp []; done) | (simp only []; rfl) | (simp_all []; done)) ls (lv_sub hl [2, 3, 4, 5, 1, 0] rfl)
set_option maxHeartbeats 4000000 in
set_option maxRecDepth 100000 in
theorem c_X3_digestAll_0 (l : Launch) (D : va_G) (cI cZ : ClassId) (ad : Nat → Nat) (th : Int32) (N : Nat) (A : Nat) (R : Nat) (kw : Bool) (an : Nat → Int32) (nd : Nat → Int32) (wt : Nat → Int32) (B : Nat → Int32) (Hd : Nat → Int32) (O : Nat → Bool) (HL : Nat → Int32) (CO : Nat → Bool) (x : Int64) (k : Int32) (hA : A ≤ 9) : Met l yX3_digestAll wsX3_digestAll (({ frames := 4, cells := 0, slots := 0, locals := 92 })) (pcP D [(cI, .int), (cZ, .boolean)] (wM cI cZ ad th N A R kw an nd wt B Hd O HL CO) [.ref (ad 0), .long (x), .int (0), .int (k)]) (vp_Sl (fun v => v = mxS (fun e => lbM HL CO k e) x (2 ^ A))) 0 0 (fun _ => False) := by
  refine Met.ofW (cc := cX3_digestAll) (maxL := 8) (ret := (some .long)) (by decide) rfl ?_
  intro p e s m args below meth c s₁ BB hml hv
  obtain ⟨rfl, hP, hK⟩ := hv
  have hx := BB.exec
  have hb := BB.bytes
  have hrt := BB.returns
  have hts := atoms_spec (ws := wsX3_digestAll) BB.pre
  have hown : s.vm.findClass RX3 = some m.cls := findClass_of_methodNamed BB.named
  have hlk := BB.notSynchronized
  have f42 := hts (.fieldLink RX3 42 "AssumptionKeeperModel" "assumptions" "I") (by decide +kernel)
  have hin3 : ∀ w ∈ u_ws RX3 TX3 13, w ∈ wsX3_digestAll := by decide +kernel
  have hl := lv_entry ([.ref (ad 0), .long (x), .int (0), .int (k)]) (n := 8) (Nat.le_of_ble_eq_true rfl)
  rw [lg_entry_eq]
  generalize (lg_sl ([.ref (ad 0), .long (x), .int (0), .int (k)]) ++ List.replicate (8 - (lg_sl ([.ref (ad 0), .long (x), .int (0), .int (k)])).length) Slot.unset).toArray = ls at hl ⊢
  have hl : lv_has ls 8 [(0, .ref (ad 0)), (1, .long (x)), (3, .int (0)), (4, .int (k))] := hl
  have h512 : 2 ^ A ≤ 512 := pow9 hA
  have hpos : 0 < 2 ^ A := Nat.two_pow_pos A
  have lp_19 : ∀ (n i : Nat) (v5 : Int64) (v7 : Int32), i ≤ 2 ^ A → 2 ^ A + 1 ≤ i + n → v5 = mxE (fun e => lbM HL CO k e) (mx x (nI (cnt (fun e => lbM HL CO k e) (2 ^ A))).toInt64) i → v7 = nI (i) → ∀ ls : Array Slot, lv_has ls 8 [(0, .ref (ad 0)), (1, .long (x)), (3, .int (0)), (4, .int (k)), (5, .long (v5)), (7, .int (v7))] → W p l e (headSpec wsX3_digestAll ({ frames := 4, cells := 0, slots := 0, locals := 92 })).room s m ([.ref (ad 0), .long (x), .int (0), .int (k)]).toArray below meth c s.heap [] 0 0 (MQ below (vp_Sl (fun v => v = mxS (fun e => lbM HL CO k e) x (2 ^ A))) ([.ref (ad 0), .long (x), .int (0), .int (k)]).toArray s 0 0 (fun _ => False)) (F0 m 19 ls []) := by
    intro n
    induction n with
    | zero => intro i v5 v7 h1 h2; exact absurd h2 (by omega)
    | succ n ih =>
      intro i v5 v7 hi_ hn_  e5 e7 ls hl
      subst e5 e7
      have hl : lv_has ls 8 [(0, .ref (ad 0)), (1, .long (x)), (3, .int (0)), (4, .int (k)), (5, .long (mxE (fun e => lbM HL CO k e) (mx x (nI (cnt (fun e => lbM HL CO k e) (2 ^ A))).toInt64) i)), (7, .int (nI (i)))] := hl
      refine lv_iload hx hb dX3_digestAll_19 (lv_at hl 5 rfl) ?_
      refine lv_iconst (v := 1) hx hb dX3_digestAll_21 (by decide) ?_
      refine lv_aload_n hx hb dX3_digestAll_22 rfl (lv_at hl 0 rfl) ?_
      refine va_get (D := D) (ci := 3) (v := .int (nI (A))) (C := RX3) (T := TX3) (N := 13) hx hb hts hin3 hown hK.1 hP 0 rfl rfl 3 (by decide) f42 (fun _ h9 => h9) rfl dX3_digestAll_23 ?_
      refine lv_ishl hx hb dX3_digestAll_26 ?_
      rw [sh1_eq (by omega)]
      refine lv_icmp_ge (tgt := 92) hx hb dX3_digestAll_27 (by decide) (fun c_27 => ?_) (fun c_27 => ?_)
      · skip
        have c_27 := (qI_le (a := 2 ^ A) (b := i) (by omega) (by omega)).mp c_27
        refine lv_lload hx hb dX3_digestAll_92 (lv_at hl 4 rfl) ?_
        exact rl_ hx hb hrt hlk dX3_digestAll_94 (by obtain rfl : i = 2 ^ A := (by omega); rfl)
      · skip
        have c_27 := mt (qI_le (a := 2 ^ A) (b := i) (by omega) (by omega)).mpr c_27
        refine lv_iload_n hx hb dX3_digestAll_30 rfl (lv_at hl 2 rfl) ?_
        refine lv_if_ne (tgt := 48) hx hb dX3_digestAll_31 (by decide) (fun c_31 => ?_) (fun c_31 => ?_)
        · skip
          exact absurd c_31 (by decide)
        · skip
          refine lv_aload_n hx hb dX3_digestAll_34 rfl (lv_at hl 0 rfl) ?_
          refine lv_iload hx hb dX3_digestAll_35 (lv_at hl 3 rfl) ?_
          refine lv_iload hx hb dX3_digestAll_37 (lv_at hl 5 rfl) ?_
          refine pu_i (va_runV (As := [.int (k), .int (nI (i))]) (rest := []) ⟨hx, hb, hml, hown, hts⟩ (c_X3_isLabel l D cI cZ ad (th) (N) (A) (R) (kw) (an) (nd) (wt) (B) (Hd) (O) (HL) (CO) (k) (i) (by omega)) (cwV 2 hts gX3_digestAll_X3_isLabel rfl rfl rfl (by decide +kernel) ⟨Nat.le_of_ble_eq_true rfl, Nat.le_of_ble_eq_true rfl⟩) (pre_V (q0 := 0) (ci := 3) (hP.sub (ws' := (wM cI cZ ad th N A R kw an nd wt B Hd O HL CO)) [0, 1, 2, 3, 4, 5, 6, 7, 8] rfl) hK rfl rfl) rfl rfl hl.1 rfl (lv_room (Nat.le_of_ble_eq_true rfl)) dX3_digestAll_39 ⟨Nat.zero_le _, Nat.zero_le _⟩) ?_
          refine lv_if_eq (tgt := 86) hx hb dX3_digestAll_42 (by decide) (fun c_42 => ?_) (fun c_42 => ?_)
          · skip
            have c_42 := bI_eq0 c_42
            refine lv_iinc (v := nI (i + 1)) (lv' := [(7, .int (nI (i + 1))), (0, .ref (ad 0)), (1, .long (x)), (3, .int (0)), (4, .int (k)), (5, .long (mxE (fun e => lbM HL CO k e) (mx x (nI (cnt (fun e => lbM HL CO k e) (2 ^ A))).toInt64) i))]) hx hb dX3_digestAll_86 hl (k := 5) rfl (nI_1 _) (by decide) rfl (fun ls hl => ?_)
            refine lv_goto (tgt := 19) hx hb dX3_digestAll_89 (by decide) ?_
            exact ih (i + 1) _ _ (by omega) (by omega)  (by first | rfl | (simp [mxE, mx, c_27, c_31, c_42]; done) | (simp only [mxE, mx, c_27, c_31, c_42]; rfl) | (simp_all [mxE, mx, c_27, c_31, c_42]; done)) rfl ls (lv_sub hl [1, 2, 3, 4, 5, 0] rfl)
          · skip
            have c_42 := bI_ne0 c_42
            refine lv_goto (tgt := 74) hx hb dX3_digestAll_45 (by decide) ?_
            refine lv_lload hx hb dX3_digestAll_74 (lv_at hl 4 rfl) ?_
            refine lv_ldc2 hx hb hown (hts (.constantLong RX3 130 (31)) (by decide +kernel)) dX3_digestAll_76 ?_
            refine lv_lmul hx hb dX3_digestAll_79 ?_
            refine lv_iload hx hb dX3_digestAll_80 (lv_at hl 5 rfl) ?_
            refine lv_i2l hx hb dX3_digestAll_82 rfl ?_
            refine lv_ladd hx hb dX3_digestAll_83 ?_
            refine lv_lstore (lv' := [(5, .long (((mxE (fun e => lbM HL CO k e) (mx x (nI (cnt (fun e => lbM HL CO k e) (2 ^ A))).toInt64) i) * (31)) + ((nI (i)).toInt64))), (0, .ref (ad 0)), (1, .long (x)), (3, .int (0)), (4, .int (k)), (7, .int (nI (i)))]) hx hb dX3_digestAll_84 hl (by decide) rfl (fun ls hl => ?_)
            refine lv_iinc (v := nI (i + 1)) (lv' := [(7, .int (nI (i + 1))), (5, .long (((mxE (fun e => lbM HL CO k e) (mx x (nI (cnt (fun e => lbM HL CO k e) (2 ^ A))).toInt64) i) * (31)) + ((nI (i)).toInt64))), (0, .ref (ad 0)), (1, .long (x)), (3, .int (0)), (4, .int (k))]) hx hb dX3_digestAll_86 hl (k := 5) rfl (nI_1 _) (by decide) rfl (fun ls hl => ?_)
            refine lv_goto (tgt := 19) hx hb dX3_digestAll_89 (by decide) ?_
            exact ih (i + 1) _ _ (by omega) (by omega)  (by first | rfl | (simp [mxE, mx, c_27, c_31, c_42]; done) | (simp only [mxE, mx, c_27, c_31, c_42]; rfl) | (simp_all [mxE, mx, c_27, c_31, c_42]; done)) rfl ls (lv_sub hl [2, 3, 4, 5, 1, 0] rfl)
  refine lv_lload_n hx hb dX3_digestAll_0 rfl (lv_at hl 1 rfl) ?_
  refine lv_ldc2 hx hb hown (hts (.constantLong RX3 130 (31)) (by decide +kernel)) dX3_digestAll_1 ?_
  refine lv_lmul hx hb dX3_digestAll_4 ?_
  refine lv_aload_n hx hb dX3_digestAll_5 rfl (lv_at hl 0 rfl) ?_
  refine lv_iload_n hx hb dX3_digestAll_6 rfl (lv_at hl 2 rfl) ?_
  refine lv_iload hx hb dX3_digestAll_7 (lv_at hl 3 rfl) ?_
  refine pu_i (va_runV (As := [.int (0), .int (k)]) (rest := [.long ((x) * (31))]) ⟨hx, hb, hml, hown, hts⟩ (c_X3_count_0 l D cI cZ ad (th) (N) (A) (R) (kw) (an) (nd) (wt) (B) (Hd) (O) (HL) (CO) (k) (by omega)) (cwV 2 hts gX3_digestAll_X3_count rfl rfl rfl (by decide +kernel) ⟨Nat.le_of_ble_eq_true rfl, Nat.le_of_ble_eq_true rfl⟩) (pre_V (q0 := 0) (ci := 3) (hP.sub (ws' := (wM cI cZ ad th N A R kw an nd wt B Hd O HL CO)) [0, 1, 2, 3, 4, 5, 6, 7, 8] rfl) hK rfl rfl) rfl rfl hl.1 rfl (lv_room (Nat.le_of_ble_eq_true rfl)) dX3_digestAll_9 ⟨Nat.zero_le _, Nat.zero_le _⟩) ?_
  refine lv_i2l hx hb dX3_digestAll_12 rfl ?_
  refine lv_ladd hx hb dX3_digestAll_13 ?_
  refine lv_lstore (lv' := [(5, .long (((x) * (31)) + ((nI (cnt (fun e => lbM HL CO k e) (2 ^ A))).toInt64))), (0, .ref (ad 0)), (1, .long (x)), (3, .int (0)), (4, .int (k))]) hx hb dX3_digestAll_14 hl (by decide) rfl (fun ls hl => ?_)
  refine lv_iconst (v := nI (0)) hx hb dX3_digestAll_16 (by decide) ?_
  refine lv_istore (lv' := [(7, .int (nI (0))), (5, .long (((x) * (31)) + ((nI (cnt (fun e => lbM HL CO k e) (2 ^ A))).toInt64))), (0, .ref (ad 0)), (1, .long (x)), (3, .int (0)), (4, .int (k))]) hx hb dX3_digestAll_17 hl (by decide) rfl (fun ls hl => ?_)
  exact lp_19 (2 ^ A + 1) (0) _ _ (by omega) (by omega)  (by first | rfl | (simp [mxE, mx]; done) | (simp only [mxE, mx]; rfl) | (simp_all [mxE, mx]; done)) (by first | rfl | (simp [mxE, mx]; done) | (simp only [mxE, mx]; rfl) | (simp_all [mxE, mx]; done)) ls (lv_sub hl [2, 3, 4, 5, 1, 0] rfl)
set_option maxHeartbeats 4000000 in
set_option maxRecDepth 100000 in
theorem c_X3_digestAll_1 (l : Launch) (D : va_G) (cI cZ : ClassId) (ad : Nat → Nat) (th : Int32) (N : Nat) (A : Nat) (R : Nat) (kw : Bool) (an : Nat → Int32) (nd : Nat → Int32) (wt : Nat → Int32) (B : Nat → Int32) (Hd : Nat → Int32) (O : Nat → Bool) (HL : Nat → Int32) (CO : Nat → Bool) (x : Int64) (k : Int32) (hA : A ≤ 9) : Met l yX3_digestAll wsX3_digestAll (({ frames := 3, cells := 0, slots := 0, locals := 68 })) (pcP D [(cI, .int), (cZ, .boolean)] (wM cI cZ ad th N A R kw an nd wt B Hd O HL CO) [.ref (ad 0), .long (x), .int (1), .int (k)]) (vp_Sl (fun v => v = mxS (fun e => ngM CO e) x (2 ^ A))) 0 0 (fun _ => False) := by
  refine Met.ofW (cc := cX3_digestAll) (maxL := 8) (ret := (some .long)) (by decide) rfl ?_
  intro p e s m args below meth c s₁ BB hml hv
  obtain ⟨rfl, hP, hK⟩ := hv
  have hx := BB.exec
  have hb := BB.bytes
  have hrt := BB.returns
  have hts := atoms_spec (ws := wsX3_digestAll) BB.pre
  have hown : s.vm.findClass RX3 = some m.cls := findClass_of_methodNamed BB.named
  have hlk := BB.notSynchronized
  have f42 := hts (.fieldLink RX3 42 "AssumptionKeeperModel" "assumptions" "I") (by decide +kernel)
  have hin3 : ∀ w ∈ u_ws RX3 TX3 13, w ∈ wsX3_digestAll := by decide +kernel
  have hl := lv_entry ([.ref (ad 0), .long (x), .int (1), .int (k)]) (n := 8) (Nat.le_of_ble_eq_true rfl)
  rw [lg_entry_eq]
  generalize (lg_sl ([.ref (ad 0), .long (x), .int (1), .int (k)]) ++ List.replicate (8 - (lg_sl ([.ref (ad 0), .long (x), .int (1), .int (k)])).length) Slot.unset).toArray = ls at hl ⊢
  have hl : lv_has ls 8 [(0, .ref (ad 0)), (1, .long (x)), (3, .int (1)), (4, .int (k))] := hl
  have h512 : 2 ^ A ≤ 512 := pow9 hA
  have hpos : 0 < 2 ^ A := Nat.two_pow_pos A
  have lp_19 : ∀ (n i : Nat) (v5 : Int64) (v7 : Int32), i ≤ 2 ^ A → 2 ^ A + 1 ≤ i + n → v5 = mxE (fun e => ngM CO e) (mx x (nI (cnt (fun e => ngM CO e) (2 ^ A))).toInt64) i → v7 = nI (i) → ∀ ls : Array Slot, lv_has ls 8 [(0, .ref (ad 0)), (1, .long (x)), (3, .int (1)), (4, .int (k)), (5, .long (v5)), (7, .int (v7))] → W p l e (headSpec wsX3_digestAll ({ frames := 3, cells := 0, slots := 0, locals := 68 })).room s m ([.ref (ad 0), .long (x), .int (1), .int (k)]).toArray below meth c s.heap [] 0 0 (MQ below (vp_Sl (fun v => v = mxS (fun e => ngM CO e) x (2 ^ A))) ([.ref (ad 0), .long (x), .int (1), .int (k)]).toArray s 0 0 (fun _ => False)) (F0 m 19 ls []) := by
    intro n
    induction n with
    | zero => intro i v5 v7 h1 h2; exact absurd h2 (by omega)
    | succ n ih =>
      intro i v5 v7 hi_ hn_  e5 e7 ls hl
      subst e5 e7
      have hl : lv_has ls 8 [(0, .ref (ad 0)), (1, .long (x)), (3, .int (1)), (4, .int (k)), (5, .long (mxE (fun e => ngM CO e) (mx x (nI (cnt (fun e => ngM CO e) (2 ^ A))).toInt64) i)), (7, .int (nI (i)))] := hl
      refine lv_iload hx hb dX3_digestAll_19 (lv_at hl 5 rfl) ?_
      refine lv_iconst (v := 1) hx hb dX3_digestAll_21 (by decide) ?_
      refine lv_aload_n hx hb dX3_digestAll_22 rfl (lv_at hl 0 rfl) ?_
      refine va_get (D := D) (ci := 3) (v := .int (nI (A))) (C := RX3) (T := TX3) (N := 13) hx hb hts hin3 hown hK.1 hP 0 rfl rfl 3 (by decide) f42 (fun _ h9 => h9) rfl dX3_digestAll_23 ?_
      refine lv_ishl hx hb dX3_digestAll_26 ?_
      rw [sh1_eq (by omega)]
      refine lv_icmp_ge (tgt := 92) hx hb dX3_digestAll_27 (by decide) (fun c_27 => ?_) (fun c_27 => ?_)
      · skip
        have c_27 := (qI_le (a := 2 ^ A) (b := i) (by omega) (by omega)).mp c_27
        refine lv_lload hx hb dX3_digestAll_92 (lv_at hl 4 rfl) ?_
        exact rl_ hx hb hrt hlk dX3_digestAll_94 (by obtain rfl : i = 2 ^ A := (by omega); rfl)
      · skip
        have c_27 := mt (qI_le (a := 2 ^ A) (b := i) (by omega) (by omega)).mpr c_27
        refine lv_iload_n hx hb dX3_digestAll_30 rfl (lv_at hl 2 rfl) ?_
        refine lv_if_ne (tgt := 48) hx hb dX3_digestAll_31 (by decide) (fun c_31 => ?_) (fun c_31 => ?_)
        · skip
          refine lv_iload_n hx hb dX3_digestAll_48 rfl (lv_at hl 2 rfl) ?_
          refine lv_iconst (v := 1) hx hb dX3_digestAll_49 (by decide) ?_
          refine lv_icmp_ne (tgt := 65) hx hb dX3_digestAll_50 (by decide) (fun c_50 => ?_) (fun c_50 => ?_)
          · skip
            exact absurd c_50 (by decide)
          · skip
            refine lv_aload_n hx hb dX3_digestAll_53 rfl (lv_at hl 0 rfl) ?_
            refine lv_iload hx hb dX3_digestAll_54 (lv_at hl 5 rfl) ?_
            refine pu_i (va_runV (As := [.int (nI (i))]) (rest := []) ⟨hx, hb, hml, hown, hts⟩ (c_X3_isNogood l D cI cZ ad (th) (N) (A) (R) (kw) (an) (nd) (wt) (B) (Hd) (O) (HL) (CO) (i) (by omega)) (cwV 1 hts gX3_digestAll_X3_isNogood rfl rfl rfl (by decide +kernel) ⟨Nat.le_of_ble_eq_true rfl, Nat.le_of_ble_eq_true rfl⟩) (pre_V (q0 := 0) (ci := 3) (hP.sub (ws' := (wM cI cZ ad th N A R kw an nd wt B Hd O HL CO)) [0, 1, 2, 3, 4, 5, 6, 7, 8] rfl) hK rfl rfl) rfl rfl hl.1 rfl (lv_room (Nat.le_of_ble_eq_true rfl)) dX3_digestAll_56 ⟨Nat.zero_le _, Nat.zero_le _⟩) ?_
            refine lv_if_eq (tgt := 86) hx hb dX3_digestAll_59 (by decide) (fun c_59 => ?_) (fun c_59 => ?_)
            · skip
              have c_59 := bI_eq0 c_59
              refine lv_iinc (v := nI (i + 1)) (lv' := [(7, .int (nI (i + 1))), (0, .ref (ad 0)), (1, .long (x)), (3, .int (1)), (4, .int (k)), (5, .long (mxE (fun e => ngM CO e) (mx x (nI (cnt (fun e => ngM CO e) (2 ^ A))).toInt64) i))]) hx hb dX3_digestAll_86 hl (k := 5) rfl (nI_1 _) (by decide) rfl (fun ls hl => ?_)
              refine lv_goto (tgt := 19) hx hb dX3_digestAll_89 (by decide) ?_
              exact ih (i + 1) _ _ (by omega) (by omega)  (by first | rfl | (simp [mxE, mx, c_27, c_31, c_50, c_59]; done) | (simp only [mxE, mx, c_27, c_31, c_50, c_59]; rfl) | (simp_all [mxE, mx, c_27, c_31, c_50, c_59]; done)) rfl ls (lv_sub hl [1, 2, 3, 4, 5, 0] rfl)
            · skip
              have c_59 := bI_ne0 c_59
              refine lv_goto (tgt := 74) hx hb dX3_digestAll_62 (by decide) ?_
              refine lv_lload hx hb dX3_digestAll_74 (lv_at hl 4 rfl) ?_
              refine lv_ldc2 hx hb hown (hts (.constantLong RX3 130 (31)) (by decide +kernel)) dX3_digestAll_76 ?_
              refine lv_lmul hx hb dX3_digestAll_79 ?_
              refine lv_iload hx hb dX3_digestAll_80 (lv_at hl 5 rfl) ?_
              refine lv_i2l hx hb dX3_digestAll_82 rfl ?_
              refine lv_ladd hx hb dX3_digestAll_83 ?_
              refine lv_lstore (lv' := [(5, .long (((mxE (fun e => ngM CO e) (mx x (nI (cnt (fun e => ngM CO e) (2 ^ A))).toInt64) i) * (31)) + ((nI (i)).toInt64))), (0, .ref (ad 0)), (1, .long (x)), (3, .int (1)), (4, .int (k)), (7, .int (nI (i)))]) hx hb dX3_digestAll_84 hl (by decide) rfl (fun ls hl => ?_)
              refine lv_iinc (v := nI (i + 1)) (lv' := [(7, .int (nI (i + 1))), (5, .long (((mxE (fun e => ngM CO e) (mx x (nI (cnt (fun e => ngM CO e) (2 ^ A))).toInt64) i) * (31)) + ((nI (i)).toInt64))), (0, .ref (ad 0)), (1, .long (x)), (3, .int (1)), (4, .int (k))]) hx hb dX3_digestAll_86 hl (k := 5) rfl (nI_1 _) (by decide) rfl (fun ls hl => ?_)
              refine lv_goto (tgt := 19) hx hb dX3_digestAll_89 (by decide) ?_
              exact ih (i + 1) _ _ (by omega) (by omega)  (by first | rfl | (simp [mxE, mx, c_27, c_31, c_50, c_59]; done) | (simp only [mxE, mx, c_27, c_31, c_50, c_59]; rfl) | (simp_all [mxE, mx, c_27, c_31, c_50, c_59]; done)) rfl ls (lv_sub hl [2, 3, 4, 5, 1, 0] rfl)
        · skip
          exact absurd c_31 (by decide)
  refine lv_lload_n hx hb dX3_digestAll_0 rfl (lv_at hl 1 rfl) ?_
  refine lv_ldc2 hx hb hown (hts (.constantLong RX3 130 (31)) (by decide +kernel)) dX3_digestAll_1 ?_
  refine lv_lmul hx hb dX3_digestAll_4 ?_
  refine lv_aload_n hx hb dX3_digestAll_5 rfl (lv_at hl 0 rfl) ?_
  refine lv_iload_n hx hb dX3_digestAll_6 rfl (lv_at hl 2 rfl) ?_
  refine lv_iload hx hb dX3_digestAll_7 (lv_at hl 3 rfl) ?_
  refine pu_i (va_runV (As := [.int (1), .int (k)]) (rest := [.long ((x) * (31))]) ⟨hx, hb, hml, hown, hts⟩ (c_X3_count_1 l D cI cZ ad (th) (N) (A) (R) (kw) (an) (nd) (wt) (B) (Hd) (O) (HL) (CO) (k) (by omega)) (cwV 2 hts gX3_digestAll_X3_count rfl rfl rfl (by decide +kernel) ⟨Nat.le_of_ble_eq_true rfl, Nat.le_of_ble_eq_true rfl⟩) (pre_V (q0 := 0) (ci := 3) (hP.sub (ws' := (wM cI cZ ad th N A R kw an nd wt B Hd O HL CO)) [0, 1, 2, 3, 4, 5, 6, 7, 8] rfl) hK rfl rfl) rfl rfl hl.1 rfl (lv_room (Nat.le_of_ble_eq_true rfl)) dX3_digestAll_9 ⟨Nat.zero_le _, Nat.zero_le _⟩) ?_
  refine lv_i2l hx hb dX3_digestAll_12 rfl ?_
  refine lv_ladd hx hb dX3_digestAll_13 ?_
  refine lv_lstore (lv' := [(5, .long (((x) * (31)) + ((nI (cnt (fun e => ngM CO e) (2 ^ A))).toInt64))), (0, .ref (ad 0)), (1, .long (x)), (3, .int (1)), (4, .int (k))]) hx hb dX3_digestAll_14 hl (by decide) rfl (fun ls hl => ?_)
  refine lv_iconst (v := nI (0)) hx hb dX3_digestAll_16 (by decide) ?_
  refine lv_istore (lv' := [(7, .int (nI (0))), (5, .long (((x) * (31)) + ((nI (cnt (fun e => ngM CO e) (2 ^ A))).toInt64))), (0, .ref (ad 0)), (1, .long (x)), (3, .int (1)), (4, .int (k))]) hx hb dX3_digestAll_17 hl (by decide) rfl (fun ls hl => ?_)
  exact lp_19 (2 ^ A + 1) (0) _ _ (by omega) (by omega)  (by first | rfl | (simp [mxE, mx]; done) | (simp only [mxE, mx]; rfl) | (simp_all [mxE, mx]; done)) (by first | rfl | (simp [mxE, mx]; done) | (simp only [mxE, mx]; rfl) | (simp_all [mxE, mx]; done)) ls (lv_sub hl [2, 3, 4, 5, 1, 0] rfl)
set_option maxHeartbeats 4000000 in
set_option maxRecDepth 100000 in
theorem c_X3_digestAll_2 (l : Launch) (D : va_G) (cI cZ : ClassId) (ad : Nat → Nat) (th : Int32) (N : Nat) (A : Nat) (R : Nat) (kw : Bool) (an : Nat → Int32) (nd : Nat → Int32) (wt : Nat → Int32) (B : Nat → Int32) (Hd : Nat → Int32) (O : Nat → Bool) (HL : Nat → Int32) (CO : Nat → Bool) (x : Int64) (k : Int32) (hA : A ≤ 9) : Met l yX3_digestAll wsX3_digestAll (({ frames := 3, cells := 0, slots := 0, locals := 68 })) (pcP D [(cI, .int), (cZ, .boolean)] (wM cI cZ ad th N A R kw an nd wt B Hd O HL CO) [.ref (ad 0), .long (x), .int (2), .int (k)]) (vp_Sl (fun v => v = mxS (fun e => woM A CO e) x (2 ^ A))) 0 0 (fun _ => False) := by
  refine Met.ofW (cc := cX3_digestAll) (maxL := 8) (ret := (some .long)) (by decide) rfl ?_
  intro p e s m args below meth c s₁ BB hml hv
  obtain ⟨rfl, hP, hK⟩ := hv
  have hx := BB.exec
  have hb := BB.bytes
  have hrt := BB.returns
  have hts := atoms_spec (ws := wsX3_digestAll) BB.pre
  have hown : s.vm.findClass RX3 = some m.cls := findClass_of_methodNamed BB.named
  have hlk := BB.notSynchronized
  have f42 := hts (.fieldLink RX3 42 "AssumptionKeeperModel" "assumptions" "I") (by decide +kernel)
  have hin3 : ∀ w ∈ u_ws RX3 TX3 13, w ∈ wsX3_digestAll := by decide +kernel
  have hl := lv_entry ([.ref (ad 0), .long (x), .int (2), .int (k)]) (n := 8) (Nat.le_of_ble_eq_true rfl)
  rw [lg_entry_eq]
  generalize (lg_sl ([.ref (ad 0), .long (x), .int (2), .int (k)]) ++ List.replicate (8 - (lg_sl ([.ref (ad 0), .long (x), .int (2), .int (k)])).length) Slot.unset).toArray = ls at hl ⊢
  have hl : lv_has ls 8 [(0, .ref (ad 0)), (1, .long (x)), (3, .int (2)), (4, .int (k))] := hl
  have h512 : 2 ^ A ≤ 512 := pow9 hA
  have hpos : 0 < 2 ^ A := Nat.two_pow_pos A
  have lp_19 : ∀ (n i : Nat) (v5 : Int64) (v7 : Int32), i ≤ 2 ^ A → 2 ^ A + 1 ≤ i + n → v5 = mxE (fun e => woM A CO e) (mx x (nI (cnt (fun e => woM A CO e) (2 ^ A))).toInt64) i → v7 = nI (i) → ∀ ls : Array Slot, lv_has ls 8 [(0, .ref (ad 0)), (1, .long (x)), (3, .int (2)), (4, .int (k)), (5, .long (v5)), (7, .int (v7))] → W p l e (headSpec wsX3_digestAll ({ frames := 3, cells := 0, slots := 0, locals := 68 })).room s m ([.ref (ad 0), .long (x), .int (2), .int (k)]).toArray below meth c s.heap [] 0 0 (MQ below (vp_Sl (fun v => v = mxS (fun e => woM A CO e) x (2 ^ A))) ([.ref (ad 0), .long (x), .int (2), .int (k)]).toArray s 0 0 (fun _ => False)) (F0 m 19 ls []) := by
    intro n
    induction n with
    | zero => intro i v5 v7 h1 h2; exact absurd h2 (by omega)
    | succ n ih =>
      intro i v5 v7 hi_ hn_  e5 e7 ls hl
      subst e5 e7
      have hl : lv_has ls 8 [(0, .ref (ad 0)), (1, .long (x)), (3, .int (2)), (4, .int (k)), (5, .long (mxE (fun e => woM A CO e) (mx x (nI (cnt (fun e => woM A CO e) (2 ^ A))).toInt64) i)), (7, .int (nI (i)))] := hl
      refine lv_iload hx hb dX3_digestAll_19 (lv_at hl 5 rfl) ?_
      refine lv_iconst (v := 1) hx hb dX3_digestAll_21 (by decide) ?_
      refine lv_aload_n hx hb dX3_digestAll_22 rfl (lv_at hl 0 rfl) ?_
      refine va_get (D := D) (ci := 3) (v := .int (nI (A))) (C := RX3) (T := TX3) (N := 13) hx hb hts hin3 hown hK.1 hP 0 rfl rfl 3 (by decide) f42 (fun _ h9 => h9) rfl dX3_digestAll_23 ?_
      refine lv_ishl hx hb dX3_digestAll_26 ?_
      rw [sh1_eq (by omega)]
      refine lv_icmp_ge (tgt := 92) hx hb dX3_digestAll_27 (by decide) (fun c_27 => ?_) (fun c_27 => ?_)
      · skip
        have c_27 := (qI_le (a := 2 ^ A) (b := i) (by omega) (by omega)).mp c_27
        refine lv_lload hx hb dX3_digestAll_92 (lv_at hl 4 rfl) ?_
        exact rl_ hx hb hrt hlk dX3_digestAll_94 (by obtain rfl : i = 2 ^ A := (by omega); rfl)
      · skip
        have c_27 := mt (qI_le (a := 2 ^ A) (b := i) (by omega) (by omega)).mpr c_27
        refine lv_iload_n hx hb dX3_digestAll_30 rfl (lv_at hl 2 rfl) ?_
        refine lv_if_ne (tgt := 48) hx hb dX3_digestAll_31 (by decide) (fun c_31 => ?_) (fun c_31 => ?_)
        · skip
          refine lv_iload_n hx hb dX3_digestAll_48 rfl (lv_at hl 2 rfl) ?_
          refine lv_iconst (v := 1) hx hb dX3_digestAll_49 (by decide) ?_
          refine lv_icmp_ne (tgt := 65) hx hb dX3_digestAll_50 (by decide) (fun c_50 => ?_) (fun c_50 => ?_)
          · skip
            refine lv_aload_n hx hb dX3_digestAll_65 rfl (lv_at hl 0 rfl) ?_
            refine lv_iload hx hb dX3_digestAll_66 (lv_at hl 5 rfl) ?_
            refine pu_i (va_runV (As := [.int (nI (i))]) (rest := []) ⟨hx, hb, hml, hown, hts⟩ (c_X3_isWorld l D cI cZ ad (th) (N) (A) (R) (kw) (an) (nd) (wt) (B) (Hd) (O) (HL) (CO) (i) (by omega) (by omega)) (cwV 1 hts gX3_digestAll_X3_isWorld rfl rfl rfl (by decide +kernel) ⟨Nat.le_of_ble_eq_true rfl, Nat.le_of_ble_eq_true rfl⟩) (pre_V (q0 := 0) (ci := 3) (hP.sub (ws' := (wM cI cZ ad th N A R kw an nd wt B Hd O HL CO)) [0, 1, 2, 3, 4, 5, 6, 7, 8] rfl) hK rfl rfl) rfl rfl hl.1 rfl (lv_room (Nat.le_of_ble_eq_true rfl)) dX3_digestAll_68 ⟨Nat.zero_le _, Nat.zero_le _⟩) ?_
            refine lv_if_eq (tgt := 86) hx hb dX3_digestAll_71 (by decide) (fun c_71 => ?_) (fun c_71 => ?_)
            · skip
              have c_71 := bI_eq0 c_71
              refine lv_iinc (v := nI (i + 1)) (lv' := [(7, .int (nI (i + 1))), (0, .ref (ad 0)), (1, .long (x)), (3, .int (2)), (4, .int (k)), (5, .long (mxE (fun e => woM A CO e) (mx x (nI (cnt (fun e => woM A CO e) (2 ^ A))).toInt64) i))]) hx hb dX3_digestAll_86 hl (k := 5) rfl (nI_1 _) (by decide) rfl (fun ls hl => ?_)
              refine lv_goto (tgt := 19) hx hb dX3_digestAll_89 (by decide) ?_
              exact ih (i + 1) _ _ (by omega) (by omega)  (by first | rfl | (simp [mxE, mx, c_27, c_31, c_50, c_71]; done) | (simp only [mxE, mx, c_27, c_31, c_50, c_71]; rfl) | (simp_all [mxE, mx, c_27, c_31, c_50, c_71]; done)) rfl ls (lv_sub hl [1, 2, 3, 4, 5, 0] rfl)
            · skip
              have c_71 := bI_ne0 c_71
              refine lv_lload hx hb dX3_digestAll_74 (lv_at hl 4 rfl) ?_
              refine lv_ldc2 hx hb hown (hts (.constantLong RX3 130 (31)) (by decide +kernel)) dX3_digestAll_76 ?_
              refine lv_lmul hx hb dX3_digestAll_79 ?_
              refine lv_iload hx hb dX3_digestAll_80 (lv_at hl 5 rfl) ?_
              refine lv_i2l hx hb dX3_digestAll_82 rfl ?_
              refine lv_ladd hx hb dX3_digestAll_83 ?_
              refine lv_lstore (lv' := [(5, .long (((mxE (fun e => woM A CO e) (mx x (nI (cnt (fun e => woM A CO e) (2 ^ A))).toInt64) i) * (31)) + ((nI (i)).toInt64))), (0, .ref (ad 0)), (1, .long (x)), (3, .int (2)), (4, .int (k)), (7, .int (nI (i)))]) hx hb dX3_digestAll_84 hl (by decide) rfl (fun ls hl => ?_)
              refine lv_iinc (v := nI (i + 1)) (lv' := [(7, .int (nI (i + 1))), (5, .long (((mxE (fun e => woM A CO e) (mx x (nI (cnt (fun e => woM A CO e) (2 ^ A))).toInt64) i) * (31)) + ((nI (i)).toInt64))), (0, .ref (ad 0)), (1, .long (x)), (3, .int (2)), (4, .int (k))]) hx hb dX3_digestAll_86 hl (k := 5) rfl (nI_1 _) (by decide) rfl (fun ls hl => ?_)
              refine lv_goto (tgt := 19) hx hb dX3_digestAll_89 (by decide) ?_
              exact ih (i + 1) _ _ (by omega) (by omega)  (by first | rfl | (simp [mxE, mx, c_27, c_31, c_50, c_71]; done) | (simp only [mxE, mx, c_27, c_31, c_50, c_71]; rfl) | (simp_all [mxE, mx, c_27, c_31, c_50, c_71]; done)) rfl ls (lv_sub hl [2, 3, 4, 5, 1, 0] rfl)
          · skip
            exact absurd c_50 (by decide)
        · skip
          exact absurd c_31 (by decide)
  refine lv_lload_n hx hb dX3_digestAll_0 rfl (lv_at hl 1 rfl) ?_
  refine lv_ldc2 hx hb hown (hts (.constantLong RX3 130 (31)) (by decide +kernel)) dX3_digestAll_1 ?_
  refine lv_lmul hx hb dX3_digestAll_4 ?_
  refine lv_aload_n hx hb dX3_digestAll_5 rfl (lv_at hl 0 rfl) ?_
  refine lv_iload_n hx hb dX3_digestAll_6 rfl (lv_at hl 2 rfl) ?_
  refine lv_iload hx hb dX3_digestAll_7 (lv_at hl 3 rfl) ?_
  refine pu_i (va_runV (As := [.int (2), .int (k)]) (rest := [.long ((x) * (31))]) ⟨hx, hb, hml, hown, hts⟩ (c_X3_count_2 l D cI cZ ad (th) (N) (A) (R) (kw) (an) (nd) (wt) (B) (Hd) (O) (HL) (CO) (k) (by omega)) (cwV 2 hts gX3_digestAll_X3_count rfl rfl rfl (by decide +kernel) ⟨Nat.le_of_ble_eq_true rfl, Nat.le_of_ble_eq_true rfl⟩) (pre_V (q0 := 0) (ci := 3) (hP.sub (ws' := (wM cI cZ ad th N A R kw an nd wt B Hd O HL CO)) [0, 1, 2, 3, 4, 5, 6, 7, 8] rfl) hK rfl rfl) rfl rfl hl.1 rfl (lv_room (Nat.le_of_ble_eq_true rfl)) dX3_digestAll_9 ⟨Nat.zero_le _, Nat.zero_le _⟩) ?_
  refine lv_i2l hx hb dX3_digestAll_12 rfl ?_
  refine lv_ladd hx hb dX3_digestAll_13 ?_
  refine lv_lstore (lv' := [(5, .long (((x) * (31)) + ((nI (cnt (fun e => woM A CO e) (2 ^ A))).toInt64))), (0, .ref (ad 0)), (1, .long (x)), (3, .int (2)), (4, .int (k))]) hx hb dX3_digestAll_14 hl (by decide) rfl (fun ls hl => ?_)
  refine lv_iconst (v := nI (0)) hx hb dX3_digestAll_16 (by decide) ?_
  refine lv_istore (lv' := [(7, .int (nI (0))), (5, .long (((x) * (31)) + ((nI (cnt (fun e => woM A CO e) (2 ^ A))).toInt64))), (0, .ref (ad 0)), (1, .long (x)), (3, .int (2)), (4, .int (k))]) hx hb dX3_digestAll_17 hl (by decide) rfl (fun ls hl => ?_)
  exact lp_19 (2 ^ A + 1) (0) _ _ (by omega) (by omega)  (by first | rfl | (simp [mxE, mx]; done) | (simp only [mxE, mx]; rfl) | (simp_all [mxE, mx]; done)) (by first | rfl | (simp [mxE, mx]; done) | (simp only [mxE, mx]; rfl) | (simp_all [mxE, mx]; done)) ls (lv_sub hl [2, 3, 4, 5, 1, 0] rfl)
