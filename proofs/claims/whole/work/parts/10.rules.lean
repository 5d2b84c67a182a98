set_option maxHeartbeats 4000000 in
set_option maxRecDepth 100000 in
theorem c_X2_contains (l : Launch) (D : va_G) (cI cZ : ClassId) (ad : Nat → Nat) (x : Int32) (k : Int32) : Met l yX2_contains wsX2_contains (({ frames := 0, cells := 0, slots := 0, locals := 0 })) (pcP D [(cI, .int), (cZ, .boolean)] ([] : va_W) [.int (x), .int (k)]) (vp_Si (fun v => v = bI (hs x k))) 0 0 (fun _ => False) := by
  refine Met.ofW (cc := cX2_contains) (maxL := 2) (ret := (some .boolean)) (by decide) rfl ?_
  intro p e s m args below meth c s₁ BB hml hv
  obtain ⟨rfl, hP, hK⟩ := hv
  have hx := BB.exec
  have hb := BB.bytes
  have hrt := BB.returns
  have hts := atoms_spec (ws := wsX2_contains) BB.pre
  have hown : s.vm.findClass RX2 = some m.cls := findClass_of_methodNamed BB.named
  have hlk := BB.notSynchronized
  have hl := lv_entry ([.int (x), .int (k)]) (n := 2) (Nat.le_of_ble_eq_true rfl)
  rw [lg_entry_eq]
  generalize (lg_sl ([.int (x), .int (k)]) ++ List.replicate (2 - (lg_sl ([.int (x), .int (k)])).length) Slot.unset).toArray = ls at hl ⊢
  have hl : lv_has ls 2 [(0, .int (x)), (1, .int (k))] := hl
  refine lv_iload_n hx hb dX2_contains_0 rfl (lv_at hl 0 rfl) ?_
  refine lv_iload_n hx hb dX2_contains_1 rfl (lv_at hl 1 rfl) ?_
  refine lv_ishr hx hb dX2_contains_2 ?_
  refine lv_iconst (v := 1) hx hb dX2_contains_3 (by decide) ?_
  refine lv_iand hx hb dX2_contains_4 ?_
  refine lv_if_eq (tgt := 12) hx hb dX2_contains_5 (by decide) (fun c_5 => ?_) (fun c_5 => ?_)
  · skip
    have c_5 := hs_0 c_5
    refine lv_iconst (v := 0) hx hb dX2_contains_12 (by decide) ?_
    exact rz_ (v := false) hx hb hrt hlk dX2_contains_13 (by first | rfl | (simp [hs, c_5]; done) | (simp only [hs, c_5]; rfl) | (simp_all [hs, c_5]; done))
  · skip
    have c_5 := hs_n0 c_5
    refine lv_iconst (v := 1) hx hb dX2_contains_8 (by decide) ?_
    refine lv_goto (tgt := 13) hx hb dX2_contains_9 (by decide) ?_
    exact rz_ (v := true) hx hb hrt hlk dX2_contains_13 (by first | rfl | (simp [hs, c_5]; done) | (simp only [hs, c_5]; rfl) | (simp_all [hs, c_5]; done))
set_option maxHeartbeats 4000000 in
set_option maxRecDepth 100000 in
theorem c_X2_isSetOf (l : Launch) (D : va_G) (cI cZ : ClassId) (ad : Nat → Nat) (n : Nat) (x : Int32) : Met l yX2_isSetOf wsX2_isSetOf (({ frames := 0, cells := 0, slots := 0, locals := 0 })) (pcP D [(cI, .int), (cZ, .boolean)] ([] : va_W) [.int (nI (n)), .int (x)]) (vp_Si (fun v => v = bI (inS x n))) 0 0 (fun _ => False) := by
  refine Met.ofW (cc := cX2_isSetOf) (maxL := 2) (ret := (some .boolean)) (by decide) rfl ?_
  intro p e s m args below meth c s₁ BB hml hv
  obtain ⟨rfl, hP, hK⟩ := hv
  have hx := BB.exec
  have hb := BB.bytes
  have hrt := BB.returns
  have hts := atoms_spec (ws := wsX2_isSetOf) BB.pre
  have hown : s.vm.findClass RX2 = some m.cls := findClass_of_methodNamed BB.named
  have hlk := BB.notSynchronized
  have hl := lv_entry ([.int (nI (n)), .int (x)]) (n := 2) (Nat.le_of_ble_eq_true rfl)
  rw [lg_entry_eq]
  generalize (lg_sl ([.int (nI (n)), .int (x)]) ++ List.replicate (2 - (lg_sl ([.int (nI (n)), .int (x)])).length) Slot.unset).toArray = ls at hl ⊢
  have hl : lv_has ls 2 [(0, .int (nI (n))), (1, .int (x))] := hl
  refine lv_iload_n hx hb dX2_isSetOf_0 rfl (lv_at hl 1 rfl) ?_
  refine lv_if_lt (tgt := 15) hx hb dX2_isSetOf_1 (by decide) (fun c_1 => ?_) (fun c_1 => ?_)
  · skip
    refine lv_iconst (v := 0) hx hb dX2_isSetOf_15 (by decide) ?_
    exact rz_ (v := false) hx hb hrt hlk dX2_isSetOf_16 (by first | rfl | (simp [inS, sh1, c_1]; done) | (simp only [inS, sh1, c_1]; rfl) | (simp_all [inS, sh1, c_1]; done))
  · skip
    refine lv_iload_n hx hb dX2_isSetOf_4 rfl (lv_at hl 1 rfl) ?_
    refine lv_iconst (v := 1) hx hb dX2_isSetOf_5 (by decide) ?_
    refine lv_iload_n hx hb dX2_isSetOf_6 rfl (lv_at hl 0 rfl) ?_
    refine lv_ishl hx hb dX2_isSetOf_7 ?_
    refine lv_icmp_ge (tgt := 15) hx hb dX2_isSetOf_8 (by decide) (fun c_8 => ?_) (fun c_8 => ?_)
    · skip
      refine lv_iconst (v := 0) hx hb dX2_isSetOf_15 (by decide) ?_
      exact rz_ (v := false) hx hb hrt hlk dX2_isSetOf_16 (by first | rfl | (simp [inS, sh1, c_1, c_8]; done) | (simp only [inS, sh1, c_1, c_8]; rfl) | (simp_all [inS, sh1, c_1, c_8]; done))
    · skip
      refine lv_iconst (v := 1) hx hb dX2_isSetOf_11 (by decide) ?_
      refine lv_goto (tgt := 16) hx hb dX2_isSetOf_12 (by decide) ?_
      exact rz_ (v := true) hx hb hrt hlk dX2_isSetOf_16 (by first | rfl | (simp [inS, sh1, c_1, c_8]; done) | (simp only [inS, sh1, c_1, c_8]; rfl) | (simp_all [inS, sh1, c_1, c_8]; done))
set_option maxHeartbeats 4000000 in
set_option maxRecDepth 100000 in
theorem c_X2_mix (l : Launch) (D : va_G) (cI cZ : ClassId) (ad : Nat → Nat) (x : Int64) (y : Int64) : Met l yX2_mix wsX2_mix (({ frames := 0, cells := 0, slots := 0, locals := 0 })) (pcP D [(cI, .int), (cZ, .boolean)] ([] : va_W) [.long (x), .long (y)]) (vp_Sl (fun v => v = mx x y)) 0 0 (fun _ => False) := by
  refine Met.ofW (cc := cX2_mix) (maxL := 4) (ret := (some .long)) (by decide) rfl ?_
  intro p e s m args below meth c s₁ BB hml hv
  obtain ⟨rfl, hP, hK⟩ := hv
  have hx := BB.exec
  have hb := BB.bytes
  have hrt := BB.returns
  have hts := atoms_spec (ws := wsX2_mix) BB.pre
  have hown : s.vm.findClass RX2 = some m.cls := findClass_of_methodNamed BB.named
  have hlk := BB.notSynchronized
  have hl := lv_entry ([.long (x), .long (y)]) (n := 4) (Nat.le_of_ble_eq_true rfl)
  rw [lg_entry_eq]
  generalize (lg_sl ([.long (x), .long (y)]) ++ List.replicate (4 - (lg_sl ([.long (x), .long (y)])).length) Slot.unset).toArray = ls at hl ⊢
  have hl : lv_has ls 4 [(0, .long (x)), (2, .long (y))] := hl
  refine lv_lload_n hx hb dX2_mix_0 rfl (lv_at hl 0 rfl) ?_
  refine lv_ldc2 hx hb hown (hts (.constantLong RX2 209 (31)) (by decide +kernel)) dX2_mix_1 ?_
  refine lv_lmul hx hb dX2_mix_4 ?_
  refine lv_lload_n hx hb dX2_mix_5 rfl (lv_at hl 1 rfl) ?_
  refine lv_ladd hx hb dX2_mix_6 ?_
  exact rl_ hx hb hrt hlk dX2_mix_7 (by first | rfl | (simp [mx]; done) | (simp only [mx]; rfl) | (simp_all [mx]; done))
set_option maxHeartbeats 4000000 in
set_option maxRecDepth 100000 in
theorem c_X0_size (l : Launch) (D : va_G) (cI cZ : ClassId) (ad : Nat → Nat) (B : Nat → Int32) (Hd : Nat → Int32) (O : Nat → Bool) (R : Nat) : Met l yX0_size wsX0_size (({ frames := 0, cells := 0, slots := 0, locals := 0 })) (pcP D [(cI, .int), (cZ, .boolean)] (wR cI cZ ad B Hd O R) [.ref (ad 0)]) (vp_Si (fun v => v = nI (R))) 0 0 (fun _ => False) := by
  refine Met.ofW (cc := cX0_size) (maxL := 1) (ret := (some .int)) (by decide) rfl ?_
  intro p e s m args below meth c s₁ BB hml hv
  obtain ⟨rfl, hP, hK⟩ := hv
  have hx := BB.exec
  have hb := BB.bytes
  have hrt := BB.returns
  have hts := atoms_spec (ws := wsX0_size) BB.pre
  have hown : s.vm.findClass RX0 = some m.cls := findClass_of_methodNamed BB.named
  have hlk := BB.notSynchronized
  have f22 := hts (.fieldLink RX0 22 "AssumptionKeeper$RuleBook" "count" "I") (by decide +kernel)
  have hin0 : ∀ w ∈ u_ws RX0 TX0 4, w ∈ wsX0_size := by decide +kernel
  have hl := lv_entry ([.ref (ad 0)]) (n := 1) (Nat.le_of_ble_eq_true rfl)
  rw [lg_entry_eq]
  generalize (lg_sl ([.ref (ad 0)]) ++ List.replicate (1 - (lg_sl ([.ref (ad 0)])).length) Slot.unset).toArray = ls at hl ⊢
  have hl : lv_has ls 1 [(0, .ref (ad 0))] := hl
  refine lv_aload_n hx hb dX0_size_0 rfl (lv_at hl 0 rfl) ?_
  refine va_get (D := D) (ci := 0) (v := .int (nI (R))) (C := RX0) (T := TX0) (N := 4) hx hb hts hin0 hown hK.1 hP 0 rfl rfl 3 (by decide) f22 (fun _ h9 => h9) rfl dX0_size_1 ?_
  exact ri_ hx hb hrt hlk dX0_size_4 (by first | rfl | (simp []; done) | (simp only []; rfl) | (simp_all []; done))
set_option maxHeartbeats 4000000 in
set_option maxRecDepth 100000 in
theorem c_X0_isFull (l : Launch) (D : va_G) (cI cZ : ClassId) (ad : Nat → Nat) (B : Nat → Int32) (Hd : Nat → Int32) (O : Nat → Bool) (R : Nat) (hR : R ≤ 40) : Met l yX0_isFull wsX0_isFull (({ frames := 0, cells := 0, slots := 0, locals := 0 })) (pcP D [(cI, .int), (cZ, .boolean)] (wR cI cZ ad B Hd O R) [.ref (ad 0)]) (vp_Si (fun v => v = bI (decide (40 ≤ R)))) 0 0 (fun _ => False) := by
  refine Met.ofW (cc := cX0_isFull) (maxL := 1) (ret := (some .boolean)) (by decide) rfl ?_
  intro p e s m args below meth c s₁ BB hml hv
  obtain ⟨rfl, hP, hK⟩ := hv
  have hx := BB.exec
  have hb := BB.bytes
  have hrt := BB.returns
  have hts := atoms_spec (ws := wsX0_isFull) BB.pre
  have hown : s.vm.findClass RX0 = some m.cls := findClass_of_methodNamed BB.named
  have hlk := BB.notSynchronized
  have f22 := hts (.fieldLink RX0 22 "AssumptionKeeper$RuleBook" "count" "I") (by decide +kernel)
  have hin0 : ∀ w ∈ u_ws RX0 TX0 4, w ∈ wsX0_isFull := by decide +kernel
  have hl := lv_entry ([.ref (ad 0)]) (n := 1) (Nat.le_of_ble_eq_true rfl)
  rw [lg_entry_eq]
  generalize (lg_sl ([.ref (ad 0)]) ++ List.replicate (1 - (lg_sl ([.ref (ad 0)])).length) Slot.unset).toArray = ls at hl ⊢
  have hl : lv_has ls 1 [(0, .ref (ad 0))] := hl
  refine lv_aload_n hx hb dX0_isFull_0 rfl (lv_at hl 0 rfl) ?_
  refine va_get (D := D) (ci := 0) (v := .int (nI (R))) (C := RX0) (T := TX0) (N := 4) hx hb hts hin0 hown hK.1 hP 0 rfl rfl 3 (by decide) f22 (fun _ h9 => h9) rfl dX0_isFull_1 ?_
  refine lv_bipush (v := nI (40)) hx hb dX0_isFull_4 (by decide) ?_
  refine lv_icmp_lt (tgt := 13) hx hb dX0_isFull_6 (by decide) (fun c_6 => ?_) (fun c_6 => ?_)
  · skip
    have c_6 := (qI_lt (a := R) (b := 40) (by omega) (by omega)).mp c_6
    refine lv_iconst (v := 0) hx hb dX0_isFull_13 (by decide) ?_
    exact rz_ (v := false) hx hb hrt hlk dX0_isFull_14 (by first | rfl | (simp [c_6]; done) | (simp only [c_6]; rfl) | (simp_all [c_6]; done))
  · skip
    have c_6 := mt (qI_lt (a := R) (b := 40) (by omega) (by omega)).mpr c_6
    refine lv_iconst (v := 1) hx hb dX0_isFull_9 (by decide) ?_
    refine lv_goto (tgt := 14) hx hb dX0_isFull_10 (by decide) ?_
    exact rz_ (v := true) hx hb hrt hlk dX0_isFull_14 (by first | rfl | (simp [c_6]; done) | (simp only [c_6]; rfl) | (simp_all [c_6]; done))
set_option maxHeartbeats 4000000 in
set_option maxRecDepth 100000 in
theorem c_X0_fires (l : Launch) (D : va_G) (cI cZ : ClassId) (ad : Nat → Nat) (B : Nat → Int32) (Hd : Nat → Int32) (O : Nat → Bool) (R : Nat) (r : Nat) (x : Int32) (hr : r < 40) : Met l yX0_fires wsX0_fires (({ frames := 0, cells := 0, slots := 0, locals := 0 })) (pcP D [(cI, .int), (cZ, .boolean)] (wR cI cZ ad B Hd O R) [.ref (ad 0), .int (nI (r)), .int (x)]) (vp_Si (fun v => v = bI (fi B O x r))) 0 0 (fun _ => False) := by
  refine Met.ofW (cc := cX0_fires) (maxL := 3) (ret := (some .boolean)) (by decide) rfl ?_
  intro p e s m args below meth c s₁ BB hml hv
  obtain ⟨rfl, hP, hK⟩ := hv
  have hx := BB.exec
  have hb := BB.bytes
  have hrt := BB.returns
  have hts := atoms_spec (ws := wsX0_fires) BB.pre
  have hown : s.vm.findClass RX0 = some m.cls := findClass_of_methodNamed BB.named
  have hlk := BB.notSynchronized
  have f9 := hts (.fieldLink RX0 9 "AssumptionKeeper$RuleBook" "bodies" "[I") (by decide +kernel)
  have f18 := hts (.fieldLink RX0 18 "AssumptionKeeper$RuleBook" "areOn" "[Z") (by decide +kernel)
  have hin0 : ∀ w ∈ u_ws RX0 TX0 4, w ∈ wsX0_fires := by decide +kernel
  have hl := lv_entry ([.ref (ad 0), .int (nI (r)), .int (x)]) (n := 3) (Nat.le_of_ble_eq_true rfl)
  rw [lg_entry_eq]
  generalize (lg_sl ([.ref (ad 0), .int (nI (r)), .int (x)]) ++ List.replicate (3 - (lg_sl ([.ref (ad 0), .int (nI (r)), .int (x)])).length) Slot.unset).toArray = ls at hl ⊢
  have hl : lv_has ls 3 [(0, .ref (ad 0)), (1, .int (nI (r))), (2, .int (x))] := hl
  refine lv_aload_n hx hb dX0_fires_0 rfl (lv_at hl 0 rfl) ?_
  refine va_get (D := D) (ci := 0) (v := .ref (ad 3)) (C := RX0) (T := TX0) (N := 4) hx hb hts hin0 hown hK.1 hP 0 rfl rfl 2 (by decide) f18 (fun _ h9 => h9) rfl dX0_fires_1 ?_
  refine lv_iload_n hx hb dX0_fires_4 rfl (lv_at hl 1 rfl) ?_
  refine az_ (D := D) (f := O) (i := r) hx hb hK hP 3 1 rfl rfl (by omega) (by decide) dX0_fires_5 ?_
  refine lv_if_eq (tgt := 26) hx hb dX0_fires_6 (by decide) (fun c_6 => ?_) (fun c_6 => ?_)
  · skip
    have c_6 := bI_eq0 c_6
    refine lv_iconst (v := 0) hx hb dX0_fires_26 (by decide) ?_
    exact rz_ (v := false) hx hb hrt hlk dX0_fires_27 (by first | rfl | (simp [fi, inn, c_6]; done) | (simp only [fi, inn, c_6]; rfl) | (simp_all [fi, inn, c_6]; done))
  · skip
    have c_6 := bI_ne0 c_6
    refine lv_aload_n hx hb dX0_fires_9 rfl (lv_at hl 0 rfl) ?_
    refine va_get (D := D) (ci := 0) (v := .ref (ad 1)) (C := RX0) (T := TX0) (N := 4) hx hb hts hin0 hown hK.1 hP 0 rfl rfl 0 (by decide) f9 (fun _ h9 => h9) rfl dX0_fires_10 ?_
    refine lv_iload_n hx hb dX0_fires_13 rfl (lv_at hl 1 rfl) ?_
    refine ai_ (D := D) (f := B) (i := r) hx hb hK hP 1 0 rfl rfl (by omega) (by decide) dX0_fires_14 ?_
    refine lv_iload_n hx hb dX0_fires_15 rfl (lv_at hl 2 rfl) ?_
    refine lv_iconst (v := -1) hx hb dX0_fires_16 (by decide) ?_
    refine lv_ixor hx hb dX0_fires_17 ?_
    refine lv_iand hx hb dX0_fires_18 ?_
    refine lv_if_ne (tgt := 26) hx hb dX0_fires_19 (by decide) (fun c_19 => ?_) (fun c_19 => ?_)
    · skip
      refine lv_iconst (v := 0) hx hb dX0_fires_26 (by decide) ?_
      exact rz_ (v := false) hx hb hrt hlk dX0_fires_27 (by first | rfl | (simp [fi, inn, c_6, c_19]; done) | (simp only [fi, inn, c_6, c_19]; rfl) | (simp_all [fi, inn, c_6, c_19]; done))
    · skip
      refine lv_iconst (v := 1) hx hb dX0_fires_22 (by decide) ?_
      refine lv_goto (tgt := 27) hx hb dX0_fires_23 (by decide) ?_
      exact rz_ (v := true) hx hb hrt hlk dX0_fires_27 (by first | rfl | (simp [fi, inn, c_6, c_19]; done) | (simp only [fi, inn, c_6, c_19]; rfl) | (simp_all [fi, inn, c_6, c_19]; done))
set_option maxHeartbeats 4000000 in
set_option maxRecDepth 100000 in
theorem c_X0_afterRound (l : Launch) (D : va_G) (cI cZ : ClassId) (ad : Nat → Nat) (B : Nat → Int32) (Hd : Nat → Int32) (O : Nat → Bool) (R : Nat) (x : Int32) (hR : R ≤ 40) : Met l yX0_afterRound wsX0_afterRound (({ frames := 1, cells := 0, slots := 0, locals := 22 })) (pcP D [(cI, .int), (cZ, .boolean)] (wR cI cZ ad B Hd O R) [.ref (ad 0), .int (x)]) (vp_Si (fun v => v = aR B Hd O x R)) 0 0 (fun _ => False) := by
  refine Met.ofW (cc := cX0_afterRound) (maxL := 4) (ret := (some .int)) (by decide) rfl ?_
  intro p e s m args below meth c s₁ BB hml hv
  obtain ⟨rfl, hP, hK⟩ := hv
  have hx := BB.exec
  have hb := BB.bytes
  have hrt := BB.returns
  have hts := atoms_spec (ws := wsX0_afterRound) BB.pre
  have hown : s.vm.findClass RX0 = some m.cls := findClass_of_methodNamed BB.named
  have hlk := BB.notSynchronized
  have f15 := hts (.fieldLink RX0 15 "AssumptionKeeper$RuleBook" "heads" "[I") (by decide +kernel)
  have f22 := hts (.fieldLink RX0 22 "AssumptionKeeper$RuleBook" "count" "I") (by decide +kernel)
  have hin0 : ∀ w ∈ u_ws RX0 TX0 4, w ∈ wsX0_afterRound := by decide +kernel
  have hl := lv_entry ([.ref (ad 0), .int (x)]) (n := 4) (Nat.le_of_ble_eq_true rfl)
  rw [lg_entry_eq]
  generalize (lg_sl ([.ref (ad 0), .int (x)]) ++ List.replicate (4 - (lg_sl ([.ref (ad 0), .int (x)])).length) Slot.unset).toArray = ls at hl ⊢
  have hl : lv_has ls 4 [(0, .ref (ad 0)), (1, .int (x))] := hl
  have lp_4 : ∀ (n i : Nat) (v2 : Int32) (v3 : Int32), i ≤ R → R + 1 ≤ i + n → v2 = aR B Hd O x i → v3 = nI (i) → ∀ ls : Array Slot, lv_has ls 4 [(0, .ref (ad 0)), (1, .int (x)), (2, .int (v2)), (3, .int (v3))] → W p l e (headSpec wsX0_afterRound ({ frames := 1, cells := 0, slots := 0, locals := 22 })).room s m ([.ref (ad 0), .int (x)]).toArray below meth c s.heap [] 0 0 (MQ below (vp_Si (fun v => v = aR B Hd O x R)) ([.ref (ad 0), .int (x)]).toArray s 0 0 (fun _ => False)) (F0 m 4 ls []) := by
    intro n
    induction n with
    | zero => intro i v2 v3 h1 h2; exact absurd h2 (by omega)
    | succ n ih =>
      intro i v2 v3 hi_ hn_  e2 e3 ls hl
      subst e2 e3
      have hl : lv_has ls 4 [(0, .ref (ad 0)), (1, .int (x)), (2, .int (aR B Hd O x i)), (3, .int (nI (i)))] := hl
      refine lv_iload_n hx hb dX0_afterRound_4 rfl (lv_at hl 3 rfl) ?_
      refine lv_aload_n hx hb dX0_afterRound_5 rfl (lv_at hl 0 rfl) ?_
      refine va_get (D := D) (ci := 0) (v := .int (nI (R))) (C := RX0) (T := TX0) (N := 4) hx hb hts hin0 hown hK.1 hP 0 rfl rfl 3 (by decide) f22 (fun _ h9 => h9) rfl dX0_afterRound_6 ?_
      refine lv_icmp_ge (tgt := 48) hx hb dX0_afterRound_9 (by decide) (fun c_9 => ?_) (fun c_9 => ?_)
      · skip
        have c_9 := (qI_le (a := R) (b := i) (by omega) (by omega)).mp c_9
        refine lv_iload_n hx hb dX0_afterRound_48 rfl (lv_at hl 2 rfl) ?_
        exact ri_ hx hb hrt hlk dX0_afterRound_49 (by obtain rfl : i = R := (by omega); rfl)
      · skip
        have c_9 := mt (qI_le (a := R) (b := i) (by omega) (by omega)).mpr c_9
        refine lv_aload_n hx hb dX0_afterRound_12 rfl (lv_at hl 0 rfl) ?_
        refine va_get (D := D) (ci := 0) (v := .ref (ad 2)) (C := RX0) (T := TX0) (N := 4) hx hb hts hin0 hown hK.1 hP 0 rfl rfl 1 (by decide) f15 (fun _ h9 => h9) rfl dX0_afterRound_13 ?_
        refine lv_iload_n hx hb dX0_afterRound_16 rfl (lv_at hl 3 rfl) ?_
        refine ai_ (D := D) (f := Hd) (i := i) hx hb hK hP 2 0 rfl rfl (by omega) (by decide) dX0_afterRound_17 ?_
        refine lv_iconst (v := -1) hx hb dX0_afterRound_18 (by decide) ?_
        refine lv_icmp_eq (tgt := 42) hx hb dX0_afterRound_19 (by decide) (fun c_19 => ?_) (fun c_19 => ?_)
        · skip
          refine lv_iinc (v := nI (i + 1)) (lv' := [(3, .int (nI (i + 1))), (0, .ref (ad 0)), (1, .int (x)), (2, .int (aR B Hd O x i))]) hx hb dX0_afterRound_42 hl (k := 3) rfl (nI_1 _) (by decide) rfl (fun ls hl => ?_)
          refine lv_goto (tgt := 4) hx hb dX0_afterRound_45 (by decide) ?_
          exact ih (i + 1) _ _ (by omega) (by omega)  (by first | rfl | (simp [aR, sh1, c_9, c_19]; done) | (simp only [aR, sh1, c_9, c_19]; rfl) | (simp_all [aR, sh1, c_9, c_19]; done)) rfl ls (lv_sub hl [1, 2, 3, 0] rfl)
        · skip
          refine lv_aload_n hx hb dX0_afterRound_22 rfl (lv_at hl 0 rfl) ?_
          refine lv_iload_n hx hb dX0_afterRound_23 rfl (lv_at hl 3 rfl) ?_
          refine lv_iload_n hx hb dX0_afterRound_24 rfl (lv_at hl 1 rfl) ?_
          refine pu_i (va_runV (As := [.int (nI (i)), .int (x)]) (rest := []) ⟨hx, hb, hml, hown, hts⟩ (c_X0_fires l D cI cZ ad (B) (Hd) (O) (R) (i) (x) (by omega)) (cwV 2 hts gX0_afterRound_X0_fires rfl rfl rfl (by decide +kernel) ⟨Nat.le_of_ble_eq_true rfl, Nat.le_of_ble_eq_true rfl⟩) (pre_V (q0 := 0) (ci := 0) (hP.sub (ws' := (wR cI cZ ad B Hd O R)) [0, 1, 2, 3] rfl) hK rfl rfl) rfl rfl hl.1 rfl (lv_room (Nat.le_of_ble_eq_true rfl)) dX0_afterRound_25 ⟨Nat.zero_le _, Nat.zero_le _⟩) ?_
          refine lv_if_eq (tgt := 42) hx hb dX0_afterRound_28 (by decide) (fun c_28 => ?_) (fun c_28 => ?_)
          · skip
            have c_28 := bI_eq0 c_28
            refine lv_iinc (v := nI (i + 1)) (lv' := [(3, .int (nI (i + 1))), (0, .ref (ad 0)), (1, .int (x)), (2, .int (aR B Hd O x i))]) hx hb dX0_afterRound_42 hl (k := 3) rfl (nI_1 _) (by decide) rfl (fun ls hl => ?_)
            refine lv_goto (tgt := 4) hx hb dX0_afterRound_45 (by decide) ?_
            exact ih (i + 1) _ _ (by omega) (by omega)  (by first | rfl | (simp [aR, sh1, c_9, c_19, c_28]; done) | (simp only [aR, sh1, c_9, c_19, c_28]; rfl) | (simp_all [aR, sh1, c_9, c_19, c_28]; done)) rfl ls (lv_sub hl [1, 2, 3, 0] rfl)
          · skip
            have c_28 := bI_ne0 c_28
            refine lv_iload_n hx hb dX0_afterRound_31 rfl (lv_at hl 2 rfl) ?_
            refine lv_iconst (v := 1) hx hb dX0_afterRound_32 (by decide) ?_
            refine lv_aload_n hx hb dX0_afterRound_33 rfl (lv_at hl 0 rfl) ?_
            refine va_get (D := D) (ci := 0) (v := .ref (ad 2)) (C := RX0) (T := TX0) (N := 4) hx hb hts hin0 hown hK.1 hP 0 rfl rfl 1 (by decide) f15 (fun _ h9 => h9) rfl dX0_afterRound_34 ?_
            refine lv_iload_n hx hb dX0_afterRound_37 rfl (lv_at hl 3 rfl) ?_
            refine ai_ (D := D) (f := Hd) (i := i) hx hb hK hP 2 0 rfl rfl (by omega) (by decide) dX0_afterRound_38 ?_
            refine lv_ishl hx hb dX0_afterRound_39 ?_
            refine lv_ior hx hb dX0_afterRound_40 ?_
            refine lv_istore_n (lv' := [(2, .int ((aR B Hd O x i) ||| ((1) <<< ((Hd (i)) &&& 31)))), (0, .ref (ad 0)), (1, .int (x)), (3, .int (nI (i)))]) hx hb dX0_afterRound_41 rfl hl (by decide) rfl (fun ls hl => ?_)
            refine lv_iinc (v := nI (i + 1)) (lv' := [(3, .int (nI (i + 1))), (2, .int ((aR B Hd O x i) ||| ((1) <<< ((Hd (i)) &&& 31)))), (0, .ref (ad 0)), (1, .int (x))]) hx hb dX0_afterRound_42 hl (k := 3) rfl (nI_1 _) (by decide) rfl (fun ls hl => ?_)
            refine lv_goto (tgt := 4) hx hb dX0_afterRound_45 (by decide) ?_
            exact ih (i + 1) _ _ (by omega) (by omega)  (by first | rfl | (simp [aR, sh1, c_9, c_19, c_28]; done) | (simp only [aR, sh1, c_9, c_19, c_28]; rfl) | (simp_all [aR, sh1, c_9, c_19, c_28]; done)) rfl ls (lv_sub hl [2, 3, 1, 0] rfl)
  refine lv_iload_n hx hb dX0_afterRound_0 rfl (lv_at hl 1 rfl) ?_
  refine lv_istore_n (lv' := [(2, .int (x)), (0, .ref (ad 0)), (1, .int (x))]) hx hb dX0_afterRound_1 rfl hl (by decide) rfl (fun ls hl => ?_)
  refine lv_iconst (v := nI (0)) hx hb dX0_afterRound_2 (by decide) ?_
  refine lv_istore_n (lv' := [(3, .int (nI (0))), (2, .int (x)), (0, .ref (ad 0)), (1, .int (x))]) hx hb dX0_afterRound_3 rfl hl (by decide) rfl (fun ls hl => ?_)
  exact lp_4 (R + 1) (0) _ _ (by omega) (by omega)  (by first | rfl | (simp [aR, sh1]; done) | (simp only [aR, sh1]; rfl) | (simp_all [aR, sh1]; done)) (by first | rfl | (simp [aR, sh1]; done) | (simp only [aR, sh1]; rfl) | (simp_all [aR, sh1]; done)) ls (lv_sub hl [2, 3, 1, 0] rfl)
set_option maxHeartbeats 4000000 in
set_option maxRecDepth 100000 in
theorem c_X0_closure (l : Launch) (D : va_G) (cI cZ : ClassId) (ad : Nat → Nat) (B : Nat → Int32) (Hd : Nat → Int32) (O : Nat → Bool) (R : Nat) (x : Int32) (hR : R ≤ 40) : Met l yX0_closure wsX0_closure (({ frames := 2, cells := 0, slots := 0, locals := 45 })) (pcP D [(cI, .int), (cZ, .boolean)] (wR cI cZ ad B Hd O R) [.ref (ad 0), .int (x)]) (vp_Si (fun v => v = clo B Hd O R x)) 0 0 (fun _ => False) := by
  refine Met.ofW (cc := cX0_closure) (maxL := 5) (ret := (some .int)) (by decide) rfl ?_
  intro p e s m args below meth c s₁ BB hml hv
  obtain ⟨rfl, hP, hK⟩ := hv
  have hx := BB.exec
  have hb := BB.bytes
  have hrt := BB.returns
  have hts := atoms_spec (ws := wsX0_closure) BB.pre
  have hown : s.vm.findClass RX0 = some m.cls := findClass_of_methodNamed BB.named
  have hlk := BB.notSynchronized
  have hl := lv_entry ([.ref (ad 0), .int (x)]) (n := 5) (Nat.le_of_ble_eq_true rfl)
  rw [lg_entry_eq]
  generalize (lg_sl ([.ref (ad 0), .int (x)]) ++ List.replicate (5 - (lg_sl ([.ref (ad 0), .int (x)])).length) Slot.unset).toArray = ls at hl ⊢
  have hl : lv_has ls 5 [(0, .ref (ad 0)), (1, .int (x))] := hl
  have lp_4 : ∀ (n i : Nat) (v2 : Int32) (v3 : Int32), i ≤ 24 → 24 + 1 ≤ i + n → v2 = itr (fun y => aR B Hd O y R) x i → v3 = nI (i + 1) → ∀ ls : Array Slot, lv_has ls 5 [(0, .ref (ad 0)), (1, .int (x)), (2, .int (v2)), (3, .int (v3))] → W p l e (headSpec wsX0_closure ({ frames := 2, cells := 0, slots := 0, locals := 45 })).room s m ([.ref (ad 0), .int (x)]).toArray below meth c s.heap [] 0 0 (MQ below (vp_Si (fun v => v = clo B Hd O R x)) ([.ref (ad 0), .int (x)]).toArray s 0 0 (fun _ => False)) (F0 m 4 ls []) := by
    intro n
    induction n with
    | zero => intro i v2 v3 h1 h2; exact absurd h2 (by omega)
    | succ n ih =>
      intro i v2 v3 hi_ hn_  e2 e3 ls hl
      subst e2 e3
      have hl : lv_has ls 5 [(0, .ref (ad 0)), (1, .int (x)), (2, .int (itr (fun y => aR B Hd O y R) x i)), (3, .int (nI (i + 1)))] := hl
      refine lv_iload_n hx hb dX0_closure_4 rfl (lv_at hl 3 rfl) ?_
      refine lv_bipush (v := nI (24)) hx hb dX0_closure_5 (by decide) ?_
      refine lv_icmp_gt (tgt := 35) hx hb dX0_closure_7 (by decide) (fun c_7 => ?_) (fun c_7 => ?_)
      · skip
        have c_7 := (qI_lt (a := 24) (b := i + 1) (by omega) (by omega)).mp c_7
        refine lv_iload_n hx hb dX0_closure_35 rfl (lv_at hl 2 rfl) ?_
        exact ri_ hx hb hrt hlk dX0_closure_36 (by first | exact (itr_fix (F := fun y => aR B Hd O y R) c_20 (by omega)).symm | (obtain rfl : i = 24 := (by omega); rfl))
      · skip
        have c_7 := mt (qI_lt (a := 24) (b := i + 1) (by omega) (by omega)).mpr c_7
        refine lv_aload_n hx hb dX0_closure_10 rfl (lv_at hl 0 rfl) ?_
        refine lv_iload_n hx hb dX0_closure_11 rfl (lv_at hl 2 rfl) ?_
        refine pu_i (va_runV (As := [.int (itr (fun y => aR B Hd O y R) x i)]) (rest := []) ⟨hx, hb, hml, hown, hts⟩ (c_X0_afterRound l D cI cZ ad (B) (Hd) (O) (R) (itr (fun y => aR B Hd O y R) x i) (by omega)) (cwV 1 hts gX0_closure_X0_afterRound rfl rfl rfl (by decide +kernel) ⟨Nat.le_of_ble_eq_true rfl, Nat.le_of_ble_eq_true rfl⟩) (pre_V (q0 := 0) (ci := 0) (hP.sub (ws' := (wR cI cZ ad B Hd O R)) [0, 1, 2, 3] rfl) hK rfl rfl) rfl rfl hl.1 rfl (lv_room (Nat.le_of_ble_eq_true rfl)) dX0_closure_12 ⟨Nat.zero_le _, Nat.zero_le _⟩) ?_
        refine lv_istore (lv' := [(4, .int (aR B Hd O (itr (fun y => aR B Hd O y R) x i) R)), (0, .ref (ad 0)), (1, .int (x)), (2, .int (itr (fun y => aR B Hd O y R) x i)), (3, .int (nI (i + 1)))]) hx hb dX0_closure_15 hl (by decide) rfl (fun ls hl => ?_)
        refine lv_iload hx hb dX0_closure_17 (lv_at hl 0 rfl) ?_
        refine lv_iload_n hx hb dX0_closure_19 rfl (lv_at hl 3 rfl) ?_
        refine lv_icmp_ne (tgt := 26) hx hb dX0_closure_20 (by decide) (fun c_20 => ?_) (fun c_20 => ?_)
        · skip
          refine lv_iload hx hb dX0_closure_26 (lv_at hl 0 rfl) ?_
          refine lv_istore_n (lv' := [(2, .int (aR B Hd O (itr (fun y => aR B Hd O y R) x i) R)), (4, .int (aR B Hd O (itr (fun y => aR B Hd O y R) x i) R)), (0, .ref (ad 0)), (1, .int (x)), (3, .int (nI (i + 1)))]) hx hb dX0_closure_28 rfl hl (by decide) rfl (fun ls hl => ?_)
          refine lv_iinc (v := nI ((i + 1) + 1)) (lv' := [(3, .int (nI ((i + 1) + 1))), (2, .int (aR B Hd O (itr (fun y => aR B Hd O y R) x i) R)), (4, .int (aR B Hd O (itr (fun y => aR B Hd O y R) x i) R)), (0, .ref (ad 0)), (1, .int (x))]) hx hb dX0_closure_29 hl (k := 4) rfl (nI_1 _) (by decide) rfl (fun ls hl => ?_)
          refine lv_goto (tgt := 4) hx hb dX0_closure_32 (by decide) ?_
          exact ih (i + 1) _ _ (by omega) (by omega)  (by first | rfl | (simp [itr, c_7, c_20]; done) | (simp only [itr, c_7, c_20]; rfl) | (simp_all [itr, c_7, c_20]; done)) (by first | rfl | (simp [itr, c_7, c_20]; done) | (simp only [itr, c_7, c_20]; rfl) | (simp_all [itr, c_7, c_20]; done)) ls (lv_sub hl [3, 4, 1, 0] rfl)
        · skip
          refine lv_goto (tgt := 35) hx hb dX0_closure_23 (by decide) ?_
          refine lv_iload_n hx hb dX0_closure_35 rfl (lv_at hl 3 rfl) ?_
          exact ri_ hx hb hrt hlk dX0_closure_36 (by first | exact (itr_fix (F := fun y => aR B Hd O y R) c_20 (by omega)).symm | (obtain rfl : i = 24 := (by omega); rfl))
  refine lv_iload_n hx hb dX0_closure_0 rfl (lv_at hl 1 rfl) ?_
  refine lv_istore_n (lv' := [(2, .int (x)), (0, .ref (ad 0)), (1, .int (x))]) hx hb dX0_closure_1 rfl hl (by decide) rfl (fun ls hl => ?_)
  refine lv_iconst (v := nI (1)) hx hb dX0_closure_2 (by decide) ?_
  refine lv_istore_n (lv' := [(3, .int (nI (1))), (2, .int (x)), (0, .ref (ad 0)), (1, .int (x))]) hx hb dX0_closure_3 rfl hl (by decide) rfl (fun ls hl => ?_)
  exact lp_4 (24 + 1) (0) _ _ (by omega) (by omega)  (by first | rfl | (simp [itr]; done) | (simp only [itr]; rfl) | (simp_all [itr]; done)) (by first | rfl | (simp [itr]; done) | (simp only [itr]; rfl) | (simp_all [itr]; done)) ls (lv_sub hl [2, 3, 1, 0] rfl)
set_option maxHeartbeats 4000000 in
set_option maxRecDepth 100000 in
theorem c_X0_contradict (l : Launch) (D : va_G) (cI cZ : ClassId) (ad : Nat → Nat) (B : Nat → Int32) (Hd : Nat → Int32) (O : Nat → Bool) (R : Nat) (x : Int32) (hR : R ≤ 40) : Met l yX0_contradict wsX0_contradict (({ frames := 1, cells := 0, slots := 0, locals := 22 })) (pcP D [(cI, .int), (cZ, .boolean)] (wR cI cZ ad B Hd O R) [.ref (ad 0), .int (x)]) (vp_Si (fun v => v = bI (ct B Hd O R x))) 0 0 (fun _ => False) := by
  refine Met.ofW (cc := cX0_contradict) (maxL := 3) (ret := (some .boolean)) (by decide) rfl ?_
  intro p e s m args below meth c s₁ BB hml hv
  obtain ⟨rfl, hP, hK⟩ := hv
  have hx := BB.exec
  have hb := BB.bytes
  have hrt := BB.returns
  have hts := atoms_spec (ws := wsX0_contradict) BB.pre
  have hown : s.vm.findClass RX0 = some m.cls := findClass_of_methodNamed BB.named
  have hlk := BB.notSynchronized
  have f15 := hts (.fieldLink RX0 15 "AssumptionKeeper$RuleBook" "heads" "[I") (by decide +kernel)
  have f22 := hts (.fieldLink RX0 22 "AssumptionKeeper$RuleBook" "count" "I") (by decide +kernel)
  have hin0 : ∀ w ∈ u_ws RX0 TX0 4, w ∈ wsX0_contradict := by decide +kernel
  have hl := lv_entry ([.ref (ad 0), .int (x)]) (n := 3) (Nat.le_of_ble_eq_true rfl)
  rw [lg_entry_eq]
  generalize (lg_sl ([.ref (ad 0), .int (x)]) ++ List.replicate (3 - (lg_sl ([.ref (ad 0), .int (x)])).length) Slot.unset).toArray = ls at hl ⊢
  have hl : lv_has ls 3 [(0, .ref (ad 0)), (1, .int (x))] := hl
  have lp_2 : ∀ (n i : Nat) (v2 : Int32), i ≤ R → R + 1 ≤ i + n → (∀ j, j < i → (fun r => Hd r == -1 && fi B O x r) j = false) → v2 = nI (i) → ∀ ls : Array Slot, lv_has ls 3 [(0, .ref (ad 0)), (1, .int (x)), (2, .int (v2))] → W p l e (headSpec wsX0_contradict ({ frames := 1, cells := 0, slots := 0, locals := 22 })).room s m ([.ref (ad 0), .int (x)]).toArray below meth c s.heap [] 0 0 (MQ below (vp_Si (fun v => v = bI (ct B Hd O R x))) ([.ref (ad 0), .int (x)]).toArray s 0 0 (fun _ => False)) (F0 m 2 ls []) := by
    intro n
    induction n with
    | zero => intro i v2 h1 h2; exact absurd h2 (by omega)
    | succ n ih =>
      intro i v2 hi_ hn_ hno e2 ls hl
      subst e2
      have hl : lv_has ls 3 [(0, .ref (ad 0)), (1, .int (x)), (2, .int (nI (i)))] := hl
      refine lv_iload_n hx hb dX0_contradict_2 rfl (lv_at hl 2 rfl) ?_
      refine lv_aload_n hx hb dX0_contradict_3 rfl (lv_at hl 0 rfl) ?_
      refine va_get (D := D) (ci := 0) (v := .int (nI (R))) (C := RX0) (T := TX0) (N := 4) hx hb hts hin0 hown hK.1 hP 0 rfl rfl 3 (by decide) f22 (fun _ h9 => h9) rfl dX0_contradict_4 ?_
      refine lv_icmp_ge (tgt := 37) hx hb dX0_contradict_7 (by decide) (fun c_7 => ?_) (fun c_7 => ?_)
      · skip
        have c_7 := (qI_le (a := R) (b := i) (by omega) (by omega)).mp c_7
        refine lv_iconst (v := 0) hx hb dX0_contradict_37 (by decide) ?_
        exact rz_ (v := false) hx hb hrt hlk dX0_contradict_38 (by obtain rfl : i = R := (by omega); exact (ex_no hno).symm)
      · skip
        have c_7 := mt (qI_le (a := R) (b := i) (by omega) (by omega)).mpr c_7
        refine lv_aload_n hx hb dX0_contradict_10 rfl (lv_at hl 0 rfl) ?_
        refine va_get (D := D) (ci := 0) (v := .ref (ad 2)) (C := RX0) (T := TX0) (N := 4) hx hb hts hin0 hown hK.1 hP 0 rfl rfl 1 (by decide) f15 (fun _ h9 => h9) rfl dX0_contradict_11 ?_
        refine lv_iload_n hx hb dX0_contradict_14 rfl (lv_at hl 2 rfl) ?_
        refine ai_ (D := D) (f := Hd) (i := i) hx hb hK hP 2 0 rfl rfl (by omega) (by decide) dX0_contradict_15 ?_
        refine lv_iconst (v := -1) hx hb dX0_contradict_16 (by decide) ?_
        refine lv_icmp_ne (tgt := 31) hx hb dX0_contradict_17 (by decide) (fun c_17 => ?_) (fun c_17 => ?_)
        · skip
          refine lv_iinc (v := nI (i + 1)) (lv' := [(2, .int (nI (i + 1))), (0, .ref (ad 0)), (1, .int (x))]) hx hb dX0_contradict_31 hl (k := 2) rfl (nI_1 _) (by decide) rfl (fun ls hl => ?_)
          refine lv_goto (tgt := 2) hx hb dX0_contradict_34 (by decide) ?_
          exact ih (i + 1) _ (by omega) (by omega) (no_succ hno (by simp [c_7, c_17])) rfl ls (lv_sub hl [1, 2, 0] rfl)
        · skip
          refine lv_aload_n hx hb dX0_contradict_20 rfl (lv_at hl 0 rfl) ?_
          refine lv_iload_n hx hb dX0_contradict_21 rfl (lv_at hl 2 rfl) ?_
          refine lv_iload_n hx hb dX0_contradict_22 rfl (lv_at hl 1 rfl) ?_
          refine pu_i (va_runV (As := [.int (nI (i)), .int (x)]) (rest := []) ⟨hx, hb, hml, hown, hts⟩ (c_X0_fires l D cI cZ ad (B) (Hd) (O) (R) (i) (x) (by omega)) (cwV 2 hts gX0_contradict_X0_fires rfl rfl rfl (by decide +kernel) ⟨Nat.le_of_ble_eq_true rfl, Nat.le_of_ble_eq_true rfl⟩) (pre_V (q0 := 0) (ci := 0) (hP.sub (ws' := (wR cI cZ ad B Hd O R)) [0, 1, 2, 3] rfl) hK rfl rfl) rfl rfl hl.1 rfl (lv_room (Nat.le_of_ble_eq_true rfl)) dX0_contradict_23 ⟨Nat.zero_le _, Nat.zero_le _⟩) ?_
          refine lv_if_eq (tgt := 31) hx hb dX0_contradict_26 (by decide) (fun c_26 => ?_) (fun c_26 => ?_)
          · skip
            have c_26 := bI_eq0 c_26
            refine lv_iinc (v := nI (i + 1)) (lv' := [(2, .int (nI (i + 1))), (0, .ref (ad 0)), (1, .int (x))]) hx hb dX0_contradict_31 hl (k := 2) rfl (nI_1 _) (by decide) rfl (fun ls hl => ?_)
            refine lv_goto (tgt := 2) hx hb dX0_contradict_34 (by decide) ?_
            exact ih (i + 1) _ (by omega) (by omega) (no_succ hno (by simp [c_7, c_17, c_26])) rfl ls (lv_sub hl [1, 2, 0] rfl)
          · skip
            have c_26 := bI_ne0 c_26
            refine lv_iconst (v := 1) hx hb dX0_contradict_29 (by decide) ?_
            exact rz_ (v := true) hx hb hrt hlk dX0_contradict_30 ((ex_at (i := i) (by omega) (by simp [c_17, c_26])).symm)
  refine lv_iconst (v := nI (0)) hx hb dX0_contradict_0 (by decide) ?_
  refine lv_istore_n (lv' := [(2, .int (nI (0))), (0, .ref (ad 0)), (1, .int (x))]) hx hb dX0_contradict_1 rfl hl (by decide) rfl (fun ls hl => ?_)
  exact lp_2 (R + 1) (0) _ (by omega) (by omega) (fun j hj => absurd hj (Nat.not_lt_zero j)) (by first | rfl | (simp []; done) | (simp only []; rfl) | (simp_all []; done)) ls (lv_sub hl [1, 2, 0] rfl)
set_option maxHeartbeats 4000000 in
set_option maxRecDepth 100000 in
theorem c_X0_firstDeriving (l : Launch) (D : va_G) (cI cZ : ClassId) (ad : Nat → Nat) (B : Nat → Int32) (Hd : Nat → Int32) (O : Nat → Bool) (R : Nat) (k : Int32) (x : Int32) (hR : R ≤ 40) : Met l yX0_firstDeriving wsX0_firstDeriving (({ frames := 1, cells := 0, slots := 0, locals := 22 })) (pcP D [(cI, .int), (cZ, .boolean)] (wR cI cZ ad B Hd O R) [.ref (ad 0), .int (k), .int (x)]) (vp_Si (fun v => v = fndI (fun r => Hd r == k && fi B O x r) R (-2))) 0 0 (fun _ => False) := by
  refine Met.ofW (cc := cX0_firstDeriving) (maxL := 4) (ret := (some .int)) (by decide) rfl ?_
  intro p e s m args below meth c s₁ BB hml hv
  obtain ⟨rfl, hP, hK⟩ := hv
  have hx := BB.exec
  have hb := BB.bytes
  have hrt := BB.returns
  have hts := atoms_spec (ws := wsX0_firstDeriving) BB.pre
  have hown : s.vm.findClass RX0 = some m.cls := findClass_of_methodNamed BB.named
  have hlk := BB.notSynchronized
  have f15 := hts (.fieldLink RX0 15 "AssumptionKeeper$RuleBook" "heads" "[I") (by decide +kernel)
  have f22 := hts (.fieldLink RX0 22 "AssumptionKeeper$RuleBook" "count" "I") (by decide +kernel)
  have hin0 : ∀ w ∈ u_ws RX0 TX0 4, w ∈ wsX0_firstDeriving := by decide +kernel
  have hl := lv_entry ([.ref (ad 0), .int (k), .int (x)]) (n := 4) (Nat.le_of_ble_eq_true rfl)
  rw [lg_entry_eq]
  generalize (lg_sl ([.ref (ad 0), .int (k), .int (x)]) ++ List.replicate (4 - (lg_sl ([.ref (ad 0), .int (k), .int (x)])).length) Slot.unset).toArray = ls at hl ⊢
  have hl : lv_has ls 4 [(0, .ref (ad 0)), (1, .int (k)), (2, .int (x))] := hl
  have lp_2 : ∀ (n i : Nat) (v3 : Int32), i ≤ R → R + 1 ≤ i + n → (∀ j, j < i → (fun r => Hd r == k && fi B O x r) j = false) → v3 = nI (i) → ∀ ls : Array Slot, lv_has ls 4 [(0, .ref (ad 0)), (1, .int (k)), (2, .int (x)), (3, .int (v3))] → W p l e (headSpec wsX0_firstDeriving ({ frames := 1, cells := 0, slots := 0, locals := 22 })).room s m ([.ref (ad 0), .int (k), .int (x)]).toArray below meth c s.heap [] 0 0 (MQ below (vp_Si (fun v => v = fndI (fun r => Hd r == k && fi B O x r) R (-2))) ([.ref (ad 0), .int (k), .int (x)]).toArray s 0 0 (fun _ => False)) (F0 m 2 ls []) := by
    intro n
    induction n with
    | zero => intro i v3 h1 h2; exact absurd h2 (by omega)
    | succ n ih =>
      intro i v3 hi_ hn_ hno e3 ls hl
      subst e3
      have hl : lv_has ls 4 [(0, .ref (ad 0)), (1, .int (k)), (2, .int (x)), (3, .int (nI (i)))] := hl
      refine lv_iload_n hx hb dX0_firstDeriving_2 rfl (lv_at hl 3 rfl) ?_
      refine lv_aload_n hx hb dX0_firstDeriving_3 rfl (lv_at hl 0 rfl) ?_
      refine va_get (D := D) (ci := 0) (v := .int (nI (R))) (C := RX0) (T := TX0) (N := 4) hx hb hts hin0 hown hK.1 hP 0 rfl rfl 3 (by decide) f22 (fun _ h9 => h9) rfl dX0_firstDeriving_4 ?_
      refine lv_icmp_ge (tgt := 37) hx hb dX0_firstDeriving_7 (by decide) (fun c_7 => ?_) (fun c_7 => ?_)
      · skip
        have c_7 := (qI_le (a := R) (b := i) (by omega) (by omega)).mp c_7
        refine lv_bipush (v := -2) hx hb dX0_firstDeriving_37 (by decide) ?_
        exact ri_ hx hb hrt hlk dX0_firstDeriving_39 (by obtain rfl : i = R := (by omega); exact (fndI_no hno).symm)
      · skip
        have c_7 := mt (qI_le (a := R) (b := i) (by omega) (by omega)).mpr c_7
        refine lv_aload_n hx hb dX0_firstDeriving_10 rfl (lv_at hl 0 rfl) ?_
        refine va_get (D := D) (ci := 0) (v := .ref (ad 2)) (C := RX0) (T := TX0) (N := 4) hx hb hts hin0 hown hK.1 hP 0 rfl rfl 1 (by decide) f15 (fun _ h9 => h9) rfl dX0_firstDeriving_11 ?_
        refine lv_iload_n hx hb dX0_firstDeriving_14 rfl (lv_at hl 3 rfl) ?_
        refine ai_ (D := D) (f := Hd) (i := i) hx hb hK hP 2 0 rfl rfl (by omega) (by decide) dX0_firstDeriving_15 ?_
        refine lv_iload_n hx hb dX0_firstDeriving_16 rfl (lv_at hl 1 rfl) ?_
        refine lv_icmp_ne (tgt := 31) hx hb dX0_firstDeriving_17 (by decide) (fun c_17 => ?_) (fun c_17 => ?_)
        · skip
          refine lv_iinc (v := nI (i + 1)) (lv' := [(3, .int (nI (i + 1))), (0, .ref (ad 0)), (1, .int (k)), (2, .int (x))]) hx hb dX0_firstDeriving_31 hl (k := 3) rfl (nI_1 _) (by decide) rfl (fun ls hl => ?_)
          refine lv_goto (tgt := 2) hx hb dX0_firstDeriving_34 (by decide) ?_
          exact ih (i + 1) _ (by omega) (by omega) (no_succ hno (by simp [c_7, c_17])) rfl ls (lv_sub hl [1, 2, 3, 0] rfl)
        · skip
          refine lv_aload_n hx hb dX0_firstDeriving_20 rfl (lv_at hl 0 rfl) ?_
          refine lv_iload_n hx hb dX0_firstDeriving_21 rfl (lv_at hl 3 rfl) ?_
          refine lv_iload_n hx hb dX0_firstDeriving_22 rfl (lv_at hl 2 rfl) ?_
          refine pu_i (va_runV (As := [.int (nI (i)), .int (x)]) (rest := []) ⟨hx, hb, hml, hown, hts⟩ (c_X0_fires l D cI cZ ad (B) (Hd) (O) (R) (i) (x) (by omega)) (cwV 2 hts gX0_firstDeriving_X0_fires rfl rfl rfl (by decide +kernel) ⟨Nat.le_of_ble_eq_true rfl, Nat.le_of_ble_eq_true rfl⟩) (pre_V (q0 := 0) (ci := 0) (hP.sub (ws' := (wR cI cZ ad B Hd O R)) [0, 1, 2, 3] rfl) hK rfl rfl) rfl rfl hl.1 rfl (lv_room (Nat.le_of_ble_eq_true rfl)) dX0_firstDeriving_23 ⟨Nat.zero_le _, Nat.zero_le _⟩) ?_
          refine lv_if_eq (tgt := 31) hx hb dX0_firstDeriving_26 (by decide) (fun c_26 => ?_) (fun c_26 => ?_)
          · skip
            have c_26 := bI_eq0 c_26
            refine lv_iinc (v := nI (i + 1)) (lv' := [(3, .int (nI (i + 1))), (0, .ref (ad 0)), (1, .int (k)), (2, .int (x))]) hx hb dX0_firstDeriving_31 hl (k := 3) rfl (nI_1 _) (by decide) rfl (fun ls hl => ?_)
            refine lv_goto (tgt := 2) hx hb dX0_firstDeriving_34 (by decide) ?_
            exact ih (i + 1) _ (by omega) (by omega) (no_succ hno (by simp [c_7, c_17, c_26])) rfl ls (lv_sub hl [1, 2, 3, 0] rfl)
          · skip
            have c_26 := bI_ne0 c_26
            refine lv_iload_n hx hb dX0_firstDeriving_29 rfl (lv_at hl 3 rfl) ?_
            exact ri_ hx hb hrt hlk dX0_firstDeriving_30 ((fndI_at (i := i) (by omega) (by simp [c_17, c_26]) hno).symm)
  refine lv_iconst (v := nI (0)) hx hb dX0_firstDeriving_0 (by decide) ?_
  refine lv_istore_n (lv' := [(3, .int (nI (0))), (0, .ref (ad 0)), (1, .int (k)), (2, .int (x))]) hx hb dX0_firstDeriving_1 rfl hl (by decide) rfl (fun ls hl => ?_)
  exact lp_2 (R + 1) (0) _ (by omega) (by omega) (fun j hj => absurd hj (Nat.not_lt_zero j)) (by first | rfl | (simp []; done) | (simp only []; rfl) | (simp_all []; done)) ls (lv_sub hl [1, 2, 3, 0] rfl)
set_option maxHeartbeats 4000000 in
set_option maxRecDepth 100000 in
theorem c_X0_mixRules (l : Launch) (D : va_G) (cI cZ : ClassId) (ad : Nat → Nat) (B : Nat → Int32) (Hd : Nat → Int32) (O : Nat → Bool) (R : Nat) (x : Int64) (hR : R ≤ 40) : Met l yX0_mixRules wsX0_mixRules (({ frames := 1, cells := 0, slots := 0, locals := 23 })) (pcP D [(cI, .int), (cZ, .boolean)] (wR cI cZ ad B Hd O R) [.ref (ad 0), .long (x)]) (vp_Sl (fun v => v = mxR B Hd O (mx x (nI R).toInt64) R)) 0 0 (fun _ => False) := by
  refine Met.ofW (cc := cX0_mixRules) (maxL := 6) (ret := (some .long)) (by decide) rfl ?_
  intro p e s m args below meth c s₁ BB hml hv
  obtain ⟨rfl, hP, hK⟩ := hv
  have hx := BB.exec
  have hb := BB.bytes
  have hrt := BB.returns
  have hts := atoms_spec (ws := wsX0_mixRules) BB.pre
  have hown : s.vm.findClass RX0 = some m.cls := findClass_of_methodNamed BB.named
  have hlk := BB.notSynchronized
  have f9 := hts (.fieldLink RX0 9 "AssumptionKeeper$RuleBook" "bodies" "[I") (by decide +kernel)
  have f15 := hts (.fieldLink RX0 15 "AssumptionKeeper$RuleBook" "heads" "[I") (by decide +kernel)
  have f18 := hts (.fieldLink RX0 18 "AssumptionKeeper$RuleBook" "areOn" "[Z") (by decide +kernel)
  have f22 := hts (.fieldLink RX0 22 "AssumptionKeeper$RuleBook" "count" "I") (by decide +kernel)
  have hin0 : ∀ w ∈ u_ws RX0 TX0 4, w ∈ wsX0_mixRules := by decide +kernel
  have hl := lv_entry ([.ref (ad 0), .long (x)]) (n := 6) (Nat.le_of_ble_eq_true rfl)
  rw [lg_entry_eq]
  generalize (lg_sl ([.ref (ad 0), .long (x)]) ++ List.replicate (6 - (lg_sl ([.ref (ad 0), .long (x)])).length) Slot.unset).toArray = ls at hl ⊢
  have hl : lv_has ls 6 [(0, .ref (ad 0)), (1, .long (x))] := hl
  have lp_13 : ∀ (n i : Nat) (v3 : Int64) (v5 : Int32), i ≤ R → R + 1 ≤ i + n → v3 = mxR B Hd O (mx x (nI R).toInt64) i → v5 = nI (i) → ∀ ls : Array Slot, lv_has ls 6 [(0, .ref (ad 0)), (1, .long (x)), (3, .long (v3)), (5, .int (v5))] → W p l e (headSpec wsX0_mixRules ({ frames := 1, cells := 0, slots := 0, locals := 23 })).room s m ([.ref (ad 0), .long (x)]).toArray below meth c s.heap [] 0 0 (MQ below (vp_Sl (fun v => v = mxR B Hd O (mx x (nI R).toInt64) R)) ([.ref (ad 0), .long (x)]).toArray s 0 0 (fun _ => False)) (F0 m 13 ls []) := by
    intro n
    induction n with
    | zero => intro i v3 v5 h1 h2; exact absurd h2 (by omega)
    | succ n ih =>
      intro i v3 v5 hi_ hn_  e3 e5 ls hl
      subst e3 e5
      have hl : lv_has ls 6 [(0, .ref (ad 0)), (1, .long (x)), (3, .long (mxR B Hd O (mx x (nI R).toInt64) i)), (5, .int (nI (i)))] := hl
      refine lv_iload hx hb dX0_mixRules_13 (lv_at hl 3 rfl) ?_
      refine lv_aload_n hx hb dX0_mixRules_15 rfl (lv_at hl 0 rfl) ?_
      refine va_get (D := D) (ci := 0) (v := .int (nI (R))) (C := RX0) (T := TX0) (N := 4) hx hb hts hin0 hown hK.1 hP 0 rfl rfl 3 (by decide) f22 (fun _ h9 => h9) rfl dX0_mixRules_16 ?_
      refine lv_icmp_ge (tgt := 74) hx hb dX0_mixRules_19 (by decide) (fun c_19 => ?_) (fun c_19 => ?_)
      · skip
        have c_19 := (qI_le (a := R) (b := i) (by omega) (by omega)).mp c_19
        refine lv_lload_n hx hb dX0_mixRules_74 rfl (lv_at hl 2 rfl) ?_
        exact rl_ hx hb hrt hlk dX0_mixRules_75 (by obtain rfl : i = R := (by omega); rfl)
      · skip
        have c_19 := mt (qI_le (a := R) (b := i) (by omega) (by omega)).mpr c_19
        refine lv_lload_n hx hb dX0_mixRules_22 rfl (lv_at hl 2 rfl) ?_
        refine lv_aload_n hx hb dX0_mixRules_23 rfl (lv_at hl 0 rfl) ?_
        refine va_get (D := D) (ci := 0) (v := .ref (ad 1)) (C := RX0) (T := TX0) (N := 4) hx hb hts hin0 hown hK.1 hP 0 rfl rfl 0 (by decide) f9 (fun _ h9 => h9) rfl dX0_mixRules_24 ?_
        refine lv_iload hx hb dX0_mixRules_27 (lv_at hl 3 rfl) ?_
        refine ai_ (D := D) (f := B) (i := i) hx hb hK hP 1 0 rfl rfl (by omega) (by decide) dX0_mixRules_29 ?_
        refine lv_i2l hx hb dX0_mixRules_30 rfl ?_
        refine pu_l (va_runSN (As := [.long (mxR B Hd O (mx x (nI R).toInt64) i), .long ((B (i)).toInt64)]) (rest := []) ⟨hx, hb, hml, hown, hts⟩ (c_X2_mix l D cI cZ ad (mxR B Hd O (mx x (nI R).toInt64) i) ((B (i)).toInt64) ) ⟨va_cnB 2 hts gX0_mixRules_X2_mix_n34 rfl rfl rfl hK.2.1 (hts (.initialized RX2) (by decide +kernel)) (by decide +kernel) ⟨Nat.le_of_ble_eq_true rfl, Nat.le_of_ble_eq_true rfl⟩, hts (.static yX2_mix) (by decide +kernel), trivial⟩ (pre_S (hP.sub (ws' := ([] : va_W)) [] rfl) hK) rfl rfl hl.1 rfl (lv_room (Nat.le_of_ble_eq_true rfl)) dX0_mixRules_31 ⟨Nat.zero_le _, Nat.zero_le _⟩) ?_
        refine lv_lstore_n (lv' := [(3, .long (mx (mxR B Hd O (mx x (nI R).toInt64) i) ((B (i)).toInt64))), (0, .ref (ad 0)), (1, .long (x)), (5, .int (nI (i)))]) hx hb dX0_mixRules_34 rfl hl (by decide) rfl (fun ls hl => ?_)
        refine lv_lload_n hx hb dX0_mixRules_35 rfl (lv_at hl 0 rfl) ?_
        refine lv_aload_n hx hb dX0_mixRules_36 rfl (lv_at hl 1 rfl) ?_
        refine va_get (D := D) (ci := 0) (v := .ref (ad 2)) (C := RX0) (T := TX0) (N := 4) hx hb hts hin0 hown hK.1 hP 0 rfl rfl 1 (by decide) f15 (fun _ h9 => h9) rfl dX0_mixRules_37 ?_
        refine lv_iload hx hb dX0_mixRules_40 (lv_at hl 3 rfl) ?_
        refine ai_ (D := D) (f := Hd) (i := i) hx hb hK hP 2 0 rfl rfl (by omega) (by decide) dX0_mixRules_42 ?_
        refine lv_i2l hx hb dX0_mixRules_43 rfl ?_
        refine pu_l (va_runSN (As := [.long (mx (mxR B Hd O (mx x (nI R).toInt64) i) ((B (i)).toInt64)), .long ((Hd (i)).toInt64)]) (rest := []) ⟨hx, hb, hml, hown, hts⟩ (c_X2_mix l D cI cZ ad (mx (mxR B Hd O (mx x (nI R).toInt64) i) ((B (i)).toInt64)) ((Hd (i)).toInt64) ) ⟨va_cnB 2 hts gX0_mixRules_X2_mix_n34 rfl rfl rfl hK.2.1 (hts (.initialized RX2) (by decide +kernel)) (by decide +kernel) ⟨Nat.le_of_ble_eq_true rfl, Nat.le_of_ble_eq_true rfl⟩, hts (.static yX2_mix) (by decide +kernel), trivial⟩ (pre_S (hP.sub (ws' := ([] : va_W)) [] rfl) hK) rfl rfl hl.1 rfl (lv_room (Nat.le_of_ble_eq_true rfl)) dX0_mixRules_44 ⟨Nat.zero_le _, Nat.zero_le _⟩) ?_
        refine lv_lstore_n (lv' := [(3, .long (mx (mx (mxR B Hd O (mx x (nI R).toInt64) i) ((B (i)).toInt64)) ((Hd (i)).toInt64))), (0, .ref (ad 0)), (1, .long (x)), (5, .int (nI (i)))]) hx hb dX0_mixRules_47 rfl hl (by decide) rfl (fun ls hl => ?_)
        refine lv_lload_n hx hb dX0_mixRules_48 rfl (lv_at hl 0 rfl) ?_
        refine lv_aload_n hx hb dX0_mixRules_49 rfl (lv_at hl 1 rfl) ?_
        refine va_get (D := D) (ci := 0) (v := .ref (ad 3)) (C := RX0) (T := TX0) (N := 4) hx hb hts hin0 hown hK.1 hP 0 rfl rfl 2 (by decide) f18 (fun _ h9 => h9) rfl dX0_mixRules_50 ?_
        refine lv_iload hx hb dX0_mixRules_53 (lv_at hl 3 rfl) ?_
        refine az_ (D := D) (f := O) (i := i) hx hb hK hP 3 1 rfl rfl (by omega) (by decide) dX0_mixRules_55 ?_
        refine lv_if_eq (tgt := 63) hx hb dX0_mixRules_56 (by decide) (fun c_56 => ?_) (fun c_56 => ?_)
        · skip
          have c_56 := bI_eq0 c_56
          refine lv_lconst (v := 0) hx hb dX0_mixRules_63 rfl ?_
          refine pu_l (va_runSN (As := [.long (mx (mx (mxR B Hd O (mx x (nI R).toInt64) i) ((B (i)).toInt64)) ((Hd (i)).toInt64)), .long (0)]) (rest := []) ⟨hx, hb, hml, hown, hts⟩ (c_X2_mix l D cI cZ ad (mx (mx (mxR B Hd O (mx x (nI R).toInt64) i) ((B (i)).toInt64)) ((Hd (i)).toInt64)) (0) ) ⟨va_cnB 2 hts gX0_mixRules_X2_mix_n34 rfl rfl rfl hK.2.1 (hts (.initialized RX2) (by decide +kernel)) (by decide +kernel) ⟨Nat.le_of_ble_eq_true rfl, Nat.le_of_ble_eq_true rfl⟩, hts (.static yX2_mix) (by decide +kernel), trivial⟩ (pre_S (hP.sub (ws' := ([] : va_W)) [] rfl) hK) rfl rfl hl.1 rfl (lv_room (Nat.le_of_ble_eq_true rfl)) dX0_mixRules_64 ⟨Nat.zero_le _, Nat.zero_le _⟩) ?_
          refine lv_lstore_n (lv' := [(3, .long (mx (mx (mx (mxR B Hd O (mx x (nI R).toInt64) i) ((B (i)).toInt64)) ((Hd (i)).toInt64)) 0)), (0, .ref (ad 0)), (1, .long (x)), (5, .int (nI (i)))]) hx hb dX0_mixRules_67 rfl hl (by decide) rfl (fun ls hl => ?_)
          refine lv_iinc (v := nI (i + 1)) (lv' := [(5, .int (nI (i + 1))), (3, .long (mx (mx (mx (mxR B Hd O (mx x (nI R).toInt64) i) ((B (i)).toInt64)) ((Hd (i)).toInt64)) 0)), (0, .ref (ad 0)), (1, .long (x))]) hx hb dX0_mixRules_68 hl (k := 3) rfl (nI_1 _) (by decide) rfl (fun ls hl => ?_)
          refine lv_goto (tgt := 13) hx hb dX0_mixRules_71 (by decide) ?_
          exact ih (i + 1) _ _ (by omega) (by omega)  (by simp only [mxR, c_56]; rfl) rfl ls (lv_sub hl [2, 3, 1, 0] rfl)
        · skip
          have c_56 := bI_ne0 c_56
          refine lv_lconst (v := 1) hx hb dX0_mixRules_59 rfl ?_
          refine lv_goto (tgt := 64) hx hb dX0_mixRules_60 (by decide) ?_
          refine pu_l (va_runSN (As := [.long (mx (mx (mxR B Hd O (mx x (nI R).toInt64) i) ((B (i)).toInt64)) ((Hd (i)).toInt64)), .long (1)]) (rest := []) ⟨hx, hb, hml, hown, hts⟩ (c_X2_mix l D cI cZ ad (mx (mx (mxR B Hd O (mx x (nI R).toInt64) i) ((B (i)).toInt64)) ((Hd (i)).toInt64)) (1) ) ⟨va_cnB 2 hts gX0_mixRules_X2_mix_n34 rfl rfl rfl hK.2.1 (hts (.initialized RX2) (by decide +kernel)) (by decide +kernel) ⟨Nat.le_of_ble_eq_true rfl, Nat.le_of_ble_eq_true rfl⟩, hts (.static yX2_mix) (by decide +kernel), trivial⟩ (pre_S (hP.sub (ws' := ([] : va_W)) [] rfl) hK) rfl rfl hl.1 rfl (lv_room (Nat.le_of_ble_eq_true rfl)) dX0_mixRules_64 ⟨Nat.zero_le _, Nat.zero_le _⟩) ?_
          refine lv_lstore_n (lv' := [(3, .long (mx (mx (mx (mxR B Hd O (mx x (nI R).toInt64) i) ((B (i)).toInt64)) ((Hd (i)).toInt64)) 1)), (0, .ref (ad 0)), (1, .long (x)), (5, .int (nI (i)))]) hx hb dX0_mixRules_67 rfl hl (by decide) rfl (fun ls hl => ?_)
          refine lv_iinc (v := nI (i + 1)) (lv' := [(5, .int (nI (i + 1))), (3, .long (mx (mx (mx (mxR B Hd O (mx x (nI R).toInt64) i) ((B (i)).toInt64)) ((Hd (i)).toInt64)) 1)), (0, .ref (ad 0)), (1, .long (x))]) hx hb dX0_mixRules_68 hl (k := 3) rfl (nI_1 _) (by decide) rfl (fun ls hl => ?_)
          refine lv_goto (tgt := 13) hx hb dX0_mixRules_71 (by decide) ?_
          exact ih (i + 1) _ _ (by omega) (by omega)  (by simp only [mxR, c_56]; rfl) rfl ls (lv_sub hl [2, 3, 1, 0] rfl)
  refine lv_lload_n hx hb dX0_mixRules_0 rfl (lv_at hl 1 rfl) ?_
  refine lv_aload_n hx hb dX0_mixRules_1 rfl (lv_at hl 0 rfl) ?_
  refine va_get (D := D) (ci := 0) (v := .int (nI (R))) (C := RX0) (T := TX0) (N := 4) hx hb hts hin0 hown hK.1 hP 0 rfl rfl 3 (by decide) f22 (fun _ h9 => h9) rfl dX0_mixRules_2 ?_
  refine lv_i2l hx hb dX0_mixRules_5 rfl ?_
  refine pu_l (va_runSN (As := [.long (x), .long ((nI (R)).toInt64)]) (rest := []) ⟨hx, hb, hml, hown, hts⟩ (c_X2_mix l D cI cZ ad (x) ((nI (R)).toInt64) ) ⟨va_cnB 2 hts gX0_mixRules_X2_mix_n34 rfl rfl rfl hK.2.1 (hts (.initialized RX2) (by decide +kernel)) (by decide +kernel) ⟨Nat.le_of_ble_eq_true rfl, Nat.le_of_ble_eq_true rfl⟩, hts (.static yX2_mix) (by decide +kernel), trivial⟩ (pre_S (hP.sub (ws' := ([] : va_W)) [] rfl) hK) rfl rfl hl.1 rfl (lv_room (Nat.le_of_ble_eq_true rfl)) dX0_mixRules_6 ⟨Nat.zero_le _, Nat.zero_le _⟩) ?_
  refine lv_lstore_n (lv' := [(3, .long (mx x ((nI (R)).toInt64))), (0, .ref (ad 0)), (1, .long (x))]) hx hb dX0_mixRules_9 rfl hl (by decide) rfl (fun ls hl => ?_)
  refine lv_iconst (v := nI (0)) hx hb dX0_mixRules_10 (by decide) ?_
  refine lv_istore (lv' := [(5, .int (nI (0))), (3, .long (mx x ((nI (R)).toInt64))), (0, .ref (ad 0)), (1, .long (x))]) hx hb dX0_mixRules_11 hl (by decide) rfl (fun ls hl => ?_)
  exact lp_13 (R + 1) (0) _ _ (by omega) (by omega)  (by first | rfl | (simp [mxR]; done) | (simp only [mxR]; rfl) | (simp_all [mxR]; done)) (by first | rfl | (simp [mxR]; done) | (simp only [mxR]; rfl) | (simp_all [mxR]; done)) ls (lv_sub hl [2, 3, 1, 0] rfl)
