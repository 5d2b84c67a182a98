set_option maxHeartbeats 4000000 in
set_option maxRecDepth 100000 in
theorem law_c0 {p : Program} {e : Env} {s : State} {m : MethodId} {below : List Frame} {meth : Method} {c : Code} (l : Launch) (hst : l.stackTraces = false) {b L : Nat} {xs : Nat → Int32} (hL : L ≤ 1536) (C0 : lw_At p s m meth c b L xs) (D : va_G) (cI cZ cJ cE : ClassId) (ad md : Nat → Nat) (ou od : Nat) (hK : kn D (tyL cI cZ cJ cE) s) (hX : xK s) (hZ : xZ (apS s) s s.heap) (hY : yN s) (cs sl i3 : Nat) (hcs : cs + 2 ≤ 1061) (hsl : sl + 12 ≤ 12206) (hi3 : i3 + 3 ≤ L) (hk : lwK p l e s m below meth c b D cI cZ cJ cE ad md ou od cs sl i3) (N A : Nat) (fl : Bool) (an nd wt B Hd : Nat → Int32) (O : Nat → Bool) (R : Nat) (HL LB : Nat → Int32) (SO NG WO : Nat → Bool) (SA SE : Nat) (th : Int32) (kw : Bool) (HM : Nat → Int32) (CO : Nat → Bool) (F : Nat → Int64) (G : Nat → UInt64) (hI : Inv N A fl nd wt B Hd O R HL LB SO NG WO SA SE kw HM CO) (H : Heap) (locs : List Loc) (hP : va_P D vwCl (wZ cI cZ cJ cE ad md ou od N A fl an nd wt B Hd O R HL LB SO NG WO SA SE th N A R kw an nd wt B Hd O HM CO F G) H) (hD : va_D (apS s) (wZ cI cZ cJ cE ad md ou od N A fl an nd wt B Hd O R HL LB SO NG WO SA SE th N A R kw an nd wt B Hd O HM CO F G)) (hS : va_S (apS s) s.heap H locs) (ls : Array Slot) (hl : lv_has ls 9 [(0, .ref b), (1, .ref (ad 0)), (2, .ref (md 0)), (3, .ref ou), (4, .ref od), (5, .int (nI i3))]) : W p l e room_1 s m #[Value.ref b] below meth c H locs cs sl (lw_Z below #[Value.ref b] s) (F0 m 184 ls []) := by
  obtain ⟨hx, hb, hr, hml, hown, hts, hXs, hbl, hlocks, hgv⟩ := id C0
  have hts := fun w h => hts w (wsL_law_in w h)
  have hb : c.code = cL_law := hb
  have hbA : ¬ apS s b := Nat.not_le.mpr hbl
  have hAp : ∀ q : Nat, s.heap.size ≤ q → apS s q := fun _ h => h
  obtain ⟨hn, hA, hR, hH, hN, hw, hsv, hkw⟩ := hI
  have hcc : ∀ k, k ≤ 2 → cs + k ≤ room_1.cells := fun k hk => Nat.le_trans (Nat.add_le_add_left hk cs) hcs
  have hss : ∀ k, k ≤ 12 → sl + k ≤ room_1.slots := fun k hk => Nat.le_trans (Nat.add_le_add_left hk sl) hsl
  refine lv_aload_n hx hb dL_law_184 rfl (lv_at hl 1 rfl) ?_
  refine lv_aload_n hx hb dL_law_185 rfl (lv_at hl 3 rfl) ?_
  refine mu_i (wr := [(md 0, .inr (3, [.int (th), .int (nI (N)), .ref (md 1), .int (nI (A)), .ref (md 2), .ref (md 3), .int (nI (R)), .ref (md 4), .ref (md 5), .ref (md 6), .int (bI (kw)), .ref (md 7), .ref (md 8)])), (md 1, .inl (cI, 24, .inl an)), (md 2, .inl (cI, 9, .inl nd)), (md 3, .inl (cI, 9, .inl wt)), (md 4, .inl (cI, 40, .inl B)), (md 5, .inl (cI, 40, .inl Hd)), (md 6, .inl (cZ, 40, .inl (fun j => bI (O j)))), (md 7, .inl (cI, 512, .inl HM)), (md 8, .inl (cZ, 512, .inl (fun j => bI (CO j)))), (od, .inl (cE, 1, .inr (.inr (.inr (.inl G)))))]) (vx_runSW (As := [.ref (ad 0), .ref (ou)]) (rest := []) ⟨hx, hb, hml, hown, hts⟩ (c_L_addStatement l D cI cZ cJ cE ad ou (N) (A) (fl) (an) (nd) (wt) (B) (Hd) (O) (R) (HL) (LB) (SO) (NG) (WO) (SA) (SE) (F) (hn) hst (H).size) (vx_cwSW 2 hts gL_law_L_addStatement rfl rfl rfl (by decide +kernel) ⟨Nat.le_of_ble_eq_true rfl, Nat.le_of_ble_eq_true rfl⟩) (prl_S (hP.sub (ws' := (wKL cI cZ cJ ad ou N A fl an nd wt B Hd O R HL LB SO NG WO SA SE F)) [0, 1, 2, 3, 4, 5, 6, 7, 8, 9, 10, 11, 12, 13, 23] rfl) (hD.sub (ws' := (wKL cI cZ cJ ad ou N A fl an nd wt B Hd O R HL LB SO NG WO SA SE F)) [0, 1, 2, 3, 4, 5, 6, 7, 8, 9, 10, 11, 12, 13, 23] (by decide) rfl) hK hX hZ hY hS (va_free (wc := (wKL cI cZ cJ ad ou N A fl an nd wt B Hd O R HL LB SO NG WO SA SE F)) hD hS hAp [0, 1, 2, 3, 4, 5, 6, 7, 8, 9, 10, 11, 12, 13, 23] rfl)) rfl rfl hl.1 rfl (lv_room (Nat.le_of_ble_eq_true rfl)) dL_law_186 ⟨hcc 1 (by decide), hss 6 (by decide)⟩) hP hD hS hAp [0, 1, 2, 3, 4, 5, 6, 7, 8, 9, 10, 11, 12, 13, 23] [14, 15, 16, 17, 18, 19, 20, 21, 22, 24] rfl rfl (by decide) (by decide) (fun r_186 u_186 H locs hq_186 hP hD hS => ?_)
  obtain ⟨N9_186, fl9_186, an9_186, F9_186⟩ := u_186
  obtain ⟨hpo_186, -⟩ := hq_186
  have hpo_186 : (r_186 = 0 ∧ ∃ rr : Int32, rr = nI (N) ∧ (N < 24) ∧ an9_186 = upd an N (-1) ∧ N9_186 = N + 1 ∧ fl9_186 = false ∧ F9_186 0 = rr.toInt64) ∨ (r_186 = 1 ∧ (24 ≤ N) ∧ N9_186 = N ∧ fl9_186 = fl ∧ an9_186 = an) := hpo_186
  have hP : va_P D vwCl (wZ cI cZ cJ cE ad md ou od N9_186 A fl9_186 an9_186 nd wt B Hd O R HL LB SO NG WO SA SE th N A R kw an nd wt B Hd O HM CO F9_186 G) H := hP.sub [10, 11, 12, 13, 14, 15, 16, 17, 18, 19, 20, 21, 22, 23, 0, 1, 2, 3, 4, 5, 6, 7, 8, 24, 9] rfl
  have hD : va_D (apS s) (wZ cI cZ cJ cE ad md ou od N9_186 A fl9_186 an9_186 nd wt B Hd O R HL LB SO NG WO SA SE th N A R kw an nd wt B Hd O HM CO F9_186 G) := hD.sub [10, 11, 12, 13, 14, 15, 16, 17, 18, 19, 20, 21, 22, 23, 0, 1, 2, 3, 4, 5, 6, 7, 8, 24, 9] (by decide) rfl
  refine W.widen (k := cs + 2) (n := sl + 12) (Nat.add_le_add_left (by decide) cs) (Nat.add_le_add_left (by decide) sl) ?_
  refine lv_istore (lv' := [(6, .int (r_186)), (0, .ref (b)), (1, .ref (ad 0)), (2, .ref (md 0)), (3, .ref (ou)), (4, .ref (od)), (5, .int (nI (i3)))]) hx hb dL_law_189 hl (by decide) rfl (fun ls hl => ?_)
  refine lv_aload_n hx hb dL_law_191 rfl (lv_at hl 3 rfl) ?_
  refine mu_i (wr := [(ad 0, .inr (2, [.ref (ad 1), .ref (ad 2), .ref (ad 3), .ref (ad 4), .ref (ad 8), .int (nI (N9_186)), .int (nI (A)), .int (bI (fl9_186))])), (ad 1, .inl (cI, 24, .inl an9_186)), (ad 2, .inl (cI, 9, .inl nd)), (ad 3, .inl (cI, 9, .inl wt)), (ad 4, .inr (0, [.ref (ad 5), .ref (ad 6), .ref (ad 7), .int (nI (R))])), (ad 5, .inl (cI, 40, .inl B)), (ad 6, .inl (cI, 40, .inl Hd)), (ad 7, .inl (cZ, 40, .inl (fun j => bI (O j)))), (ad 8, .inr (1, [.ref (ad 9), .ref (ad 10), .ref (ad 11), .ref (ad 12), .ref (ad 13), .int (nI (SA)), .int (nI (SE))])), (ad 9, .inl (cI, 512, .inl HL)), (ad 10, .inl (cI, 512, .inl LB)), (ad 11, .inl (cZ, 512, .inl (fun j => bI (SO j)))), (ad 12, .inl (cZ, 512, .inl (fun j => bI (NG j)))), (ad 13, .inl (cZ, 512, .inl (fun j => bI (WO j)))), (ou, .inl (cJ, 1, .inr (.inl F9_186))), (od, .inl (cE, 1, .inr (.inr (.inr (.inl G)))))]) (va_runV (As := []) (rest := []) ⟨hx, hb, hml, hown, hts⟩ (c_X3_addStatement l D cI cZ md (th) (N) (A) (R) (kw) (an) (nd) (wt) (B) (Hd) (O) (HM) (CO) (hn) (H).size) (cwV 0 hts gL_law_X3_addStatement rfl rfl rfl (by decide +kernel) ⟨Nat.le_of_ble_eq_true rfl, Nat.le_of_ble_eq_true rfl⟩) (prw_V (q0 := 0) (ci := 3) (hP.sub (ws' := (wM cI cZ md th N A R kw an nd wt B Hd O HM CO)) [14, 15, 16, 17, 18, 19, 20, 21, 22] rfl) (hD.sub (ws' := (wM cI cZ md th N A R kw an nd wt B Hd O HM CO)) [14, 15, 16, 17, 18, 19, 20, 21, 22] (by decide) rfl) (hK.sub [0, 1] rfl) rfl rfl) rfl rfl hl.1 rfl (lv_room (Nat.le_of_ble_eq_true rfl)) dL_law_192 ⟨hcc 2 (by decide), hss 12 (by decide)⟩) hP hD hS hAp [14, 15, 16, 17, 18, 19, 20, 21, 22] [0, 1, 2, 3, 4, 5, 6, 7, 8, 9, 10, 11, 12, 13, 23, 24] rfl rfl (by decide) (by decide) (fun r_192 u_192 H locs hq_192 hP hD hS => ?_)
  obtain ⟨th9_192, an9_192, N9_192, kw9_192⟩ := u_192
  obtain ⟨hst_192, -⟩ := hq_192
  have hst_192 : (24 ≤ N ∧ th9_192 = 1 ∧ an9_192 = an ∧ N9_192 = N ∧ kw9_192 = kw) ∨ (N < 24 ∧ th9_192 = 0 ∧ r_192 = nI N ∧ an9_192 = upd an N (-1) ∧ N9_192 = N + 1 ∧ kw9_192 = false) := hst_192
  have hP : va_P D vwCl (wZ cI cZ cJ cE ad md ou od N9_186 A fl9_186 an9_186 nd wt B Hd O R HL LB SO NG WO SA SE th9_192 N9_192 A R kw9_192 an9_192 nd wt B Hd O HM CO F9_186 G) H := hP.sub [0, 1, 2, 3, 4, 5, 6, 7, 8, 9, 10, 11, 12, 13, 16, 17, 18, 19, 20, 21, 22, 23, 24, 14, 15] rfl
  have hD : va_D (apS s) (wZ cI cZ cJ cE ad md ou od N9_186 A fl9_186 an9_186 nd wt B Hd O R HL LB SO NG WO SA SE th9_192 N9_192 A R kw9_192 an9_192 nd wt B Hd O HM CO F9_186 G) := hD.sub [0, 1, 2, 3, 4, 5, 6, 7, 8, 9, 10, 11, 12, 13, 16, 17, 18, 19, 20, 21, 22, 23, 24, 14, 15] (by decide) rfl
  refine lv_istore (lv' := [(7, .int (r_192)), (6, .int (r_186)), (0, .ref (b)), (1, .ref (ad 0)), (2, .ref (md 0)), (3, .ref (ou)), (4, .ref (od)), (5, .int (nI (i3)))]) hx hb dL_law_195 hl (by decide) rfl (fun ls hl => ?_)
  have hAG : ((th9_192) = r_186) ∧ ((r_186 = 0 → F9_186 0 = (r_192).toInt64)) ∧ (N9_192 = N9_186) ∧ (an9_192 = an9_186) ∧ (Inv N9_186 A fl9_186 nd wt B Hd O R HL LB SO NG WO SA SE kw9_192 HM CO) := by
    rcases hpo_186 with ⟨ha, rr, h1, h2, h3, h4, h5, h6⟩ | ⟨ha, h2, h3, h4, h5⟩ <;> rcases hst_192 with ⟨g1, g2, g3, g4, g5⟩ | ⟨g1, g2, g3, g4, g5, g6⟩
    · omega
    · exact ⟨g2.trans ha.symm, fun _ => by rw [h6, h1, g3], g5.trans h4.symm, g4.trans h3.symm, by rw [h4, h5, g6]; exact ⟨by omega, hA, hR, okH_up hH, okN_up hN, hw, fun q => (by cases q), fun q => (by cases q)⟩⟩
    · exact ⟨g2.trans ha.symm, fun h0 => absurd (ha.symm.trans h0) (by decide), g4.trans h3.symm, g3.trans h5.symm, by rw [h3, h4, g5]; exact ⟨hn, hA, hR, hH, hN, hw, hsv, hkw⟩⟩
    · omega
  obtain ⟨hth, hvl, heN, hean, hI2⟩ := hAG
  rw [heN, hean] at hP hD
  refine lv_aload_n hx hb dL_law_197 rfl (lv_at hl 4 rfl) ?_
  refine pu_i (va_runV (As := []) (rest := []) ⟨hx, hb, hml, hown, hts⟩ (c_X3_thrown l D cI cZ md (th9_192) (N9_186) (A) (R) (kw9_192) (an9_186) (nd) (wt) (B) (Hd) (O) (HM) (CO) ) (cwV 0 hts gL_law_X3_thrown rfl rfl rfl (by decide +kernel) ⟨Nat.le_of_ble_eq_true rfl, Nat.le_of_ble_eq_true rfl⟩) (pre_V (q0 := 0) (ci := 3) (hP.sub (ws' := (wM cI cZ md th9_192 N9_186 A R kw9_192 an9_186 nd wt B Hd O HM CO)) [14, 15, 16, 17, 18, 19, 20, 21, 22] rfl) (hK.sub [0, 1] rfl) rfl rfl) rfl rfl hl.1 rfl (lv_room (Nat.le_of_ble_eq_true rfl)) dL_law_198 ⟨hcc 2 (by decide), hss 12 (by decide)⟩) ?_
  refine lv_iload hx hb dL_law_201 (lv_at hl 1 rfl) ?_
  refine lv_icmp_eq (tgt := 208) hx hb dL_law_203 (by decide) (fun c_203 => ?_) (fun c_203 => ?_)
  · skip
    refine lv_iload hx hb dL_law_208 (lv_at hl 1 rfl) ?_
    refine lv_if_ne (tgt := 225) hx hb dL_law_210 (by decide) (fun c_210 => ?_) (fun c_210 => ?_)
    · skip
      refine lv_goto (tgt := 1862) hx hb dL_law_225 (by decide) ?_
      exact hk (N9_186) (A) (fl9_186) (an9_186) (nd) (wt) (B) (Hd) (O) (R) (HL) (LB) (SO) (NG) (WO) (SA) (SE) (th9_192) (kw9_192) (HM) (CO) (F9_186) (G) _ _ hI2 hP hD hS ls (lv_sub hl [2, 3, 4, 5, 6, 7] rfl)
    · skip
      refine lv_aload_n hx hb dL_law_213 rfl (lv_at hl 5 rfl) ?_
      refine lv_iconst (v := 0) hx hb dL_law_214 (by decide) ?_
      refine ll_0 (D := D) (f := F9_186) hx hb hK hP 23 2 rfl rfl dL_law_215 ?_
      refine lv_iload hx hb dL_law_216 (lv_at hl 0 rfl) ?_
      refine lv_i2l hx hb dL_law_218 rfl ?_
      refine W.lcmp hx hb dL_law_219 ?_
      refine lv_if_eq (tgt := 225) hx hb dL_law_220 (by decide) (fun c_220 => ?_) (fun c_220 => ?_)
      · skip
        refine lv_goto (tgt := 1862) hx hb dL_law_225 (by decide) ?_
        exact hk (N9_186) (A) (fl9_186) (an9_186) (nd) (wt) (B) (Hd) (O) (R) (HL) (LB) (SO) (NG) (WO) (SA) (SE) (th9_192) (kw9_192) (HM) (CO) (F9_186) (G) _ _ hI2 hP hD hS ls (lv_sub hl [2, 3, 4, 5, 6, 7] rfl)
      · skip
        refine lv_iconst (v := 0) hx hb dL_law_223 (by decide) ?_
        exfalso
        first | exact c_220 hth | exact c_220 ((lg_cmp_eq _ _).mpr (hvl c_203)) | exact c_220 ((lg_cmp_eq _ _).mpr (hvl c_210)) | exact c_220 ((lg_cmp_eq _ _).mpr (hvl c_220))
  · skip
    refine lv_iconst (v := 0) hx hb dL_law_206 (by decide) ?_
    exfalso
    first | exact c_203 hth | exact c_203 ((lg_cmp_eq _ _).mpr (hvl c_203))
set_option maxHeartbeats 4000000 in
set_option maxRecDepth 100000 in
theorem law_c1 {p : Program} {e : Env} {s : State} {m : MethodId} {below : List Frame} {meth : Method} {c : Code} (l : Launch) (hst : l.stackTraces = false) {b L : Nat} {xs : Nat → Int32} (hL : L ≤ 1536) (C0 : lw_At p s m meth c b L xs) (D : va_G) (cI cZ cJ cE : ClassId) (ad md : Nat → Nat) (ou od : Nat) (hK : kn D (tyL cI cZ cJ cE) s) (hX : xK s) (hZ : xZ (apS s) s s.heap) (hY : yN s) (cs sl i3 : Nat) (hcs : cs + 2 ≤ 1061) (hsl : sl + 12 ≤ 12206) (hi3 : i3 + 3 ≤ L) (hk : lwK p l e s m below meth c b D cI cZ cJ cE ad md ou od cs sl i3) (N A : Nat) (fl : Bool) (an nd wt B Hd : Nat → Int32) (O : Nat → Bool) (R : Nat) (HL LB : Nat → Int32) (SO NG WO : Nat → Bool) (SA SE : Nat) (th : Int32) (kw : Bool) (HM : Nat → Int32) (CO : Nat → Bool) (F : Nat → Int64) (G : Nat → UInt64) (hI : Inv N A fl nd wt B Hd O R HL LB SO NG WO SA SE kw HM CO) (H : Heap) (locs : List Loc) (hP : va_P D vwCl (wZ cI cZ cJ cE ad md ou od N A fl an nd wt B Hd O R HL LB SO NG WO SA SE th N A R kw an nd wt B Hd O HM CO F G) H) (hD : va_D (apS s) (wZ cI cZ cJ cE ad md ou od N A fl an nd wt B Hd O R HL LB SO NG WO SA SE th N A R kw an nd wt B Hd O HM CO F G)) (hS : va_S (apS s) s.heap H locs) (ls : Array Slot) (hl : lv_has ls 9 [(0, .ref b), (1, .ref (ad 0)), (2, .ref (md 0)), (3, .ref ou), (4, .ref od), (5, .int (nI i3))]) : W p l e room_1 s m #[Value.ref b] below meth c H locs cs sl (lw_Z below #[Value.ref b] s) (F0 m 228 ls []) := by
  obtain ⟨hx, hb, hr, hml, hown, hts, hXs, hbl, hlocks, hgv⟩ := id C0
  have hts := fun w h => hts w (wsL_law_in w h)
  have hb : c.code = cL_law := hb
  have hbA : ¬ apS s b := Nat.not_le.mpr hbl
  have hAp : ∀ q : Nat, s.heap.size ≤ q → apS s q := fun _ h => h
  obtain ⟨hn, hA, hR, hH, hN, hw, hsv, hkw⟩ := hI
  have hcc : ∀ k, k ≤ 2 → cs + k ≤ room_1.cells := fun k hk => Nat.le_trans (Nat.add_le_add_left hk cs) hcs
  have hss : ∀ k, k ≤ 12 → sl + k ≤ room_1.slots := fun k hk => Nat.le_trans (Nat.add_le_add_left hk sl) hsl
  refine lv_aload_n hx hb dL_law_228 rfl (lv_at hl 1 rfl) ?_
  refine lv_aload_n hx hb dL_law_229 rfl (lv_at hl 0 rfl) ?_
  refine lv_iload hx hb dL_law_230 (lv_at hl 5 rfl) ?_
  refine lv_iconst (v := 1) hx hb dL_law_232 (by decide) ?_
  refine lv_iadd hx hb dL_law_233 ?_
  rw [nI_1]
  refine sld_ (i := i3 + 1) hx hb hXs hbl hbA hS (by omega) hL dL_law_234 ?_
  refine lv_aload_n hx hb dL_law_235 rfl (lv_at hl 3 rfl) ?_
  refine mu_i (wr := [(md 0, .inr (3, [.int (th), .int (nI (N)), .ref (md 1), .int (nI (A)), .ref (md 2), .ref (md 3), .int (nI (R)), .ref (md 4), .ref (md 5), .ref (md 6), .int (bI (kw)), .ref (md 7), .ref (md 8)])), (md 1, .inl (cI, 24, .inl an)), (md 2, .inl (cI, 9, .inl nd)), (md 3, .inl (cI, 9, .inl wt)), (md 4, .inl (cI, 40, .inl B)), (md 5, .inl (cI, 40, .inl Hd)), (md 6, .inl (cZ, 40, .inl (fun j => bI (O j)))), (md 7, .inl (cI, 512, .inl HM)), (md 8, .inl (cZ, 512, .inl (fun j => bI (CO j)))), (od, .inl (cE, 1, .inr (.inr (.inr (.inl G)))))]) (vx_runSW (As := [.ref (ad 0), .int (xs (i3 + 1)), .ref (ou)]) (rest := []) ⟨hx, hb, hml, hown, hts⟩ (c_L_addAssumption l D cI cZ cJ cE ad ou (N) (A) (fl) (an) (nd) (wt) (B) (Hd) (O) (R) (HL) (LB) (SO) (NG) (WO) (SA) (SE) (F) (xs (i3 + 1)) (hn) (hA) hst (H).size) (vx_cwSW 3 hts gL_law_L_addAssumption rfl rfl rfl (by decide +kernel) ⟨Nat.le_of_ble_eq_true rfl, Nat.le_of_ble_eq_true rfl⟩) (prl_S (hP.sub (ws' := (wKL cI cZ cJ ad ou N A fl an nd wt B Hd O R HL LB SO NG WO SA SE F)) [0, 1, 2, 3, 4, 5, 6, 7, 8, 9, 10, 11, 12, 13, 23] rfl) (hD.sub (ws' := (wKL cI cZ cJ ad ou N A fl an nd wt B Hd O R HL LB SO NG WO SA SE F)) [0, 1, 2, 3, 4, 5, 6, 7, 8, 9, 10, 11, 12, 13, 23] (by decide) rfl) hK hX hZ hY hS (va_free (wc := (wKL cI cZ cJ ad ou N A fl an nd wt B Hd O R HL LB SO NG WO SA SE F)) hD hS hAp [0, 1, 2, 3, 4, 5, 6, 7, 8, 9, 10, 11, 12, 13, 23] rfl)) rfl rfl hl.1 rfl (lv_room (Nat.le_of_ble_eq_true rfl)) dL_law_236 ⟨hcc 2 (by decide), hss 12 (by decide)⟩) hP hD hS hAp [0, 1, 2, 3, 4, 5, 6, 7, 8, 9, 10, 11, 12, 13, 23] [14, 15, 16, 17, 18, 19, 20, 21, 22, 24] rfl rfl (by decide) (by decide) (fun r_236 u_236 H locs hq_236 hP hD hS => ?_)
  obtain ⟨N9_236, A9_236, fl9_236, an9_236, nd9_236, wt9_236, F9_236⟩ := u_236
  obtain ⟨hpo_236, -⟩ := hq_236
  have hpo_236 : (r_236 = 0 ∧ ∃ rr : Int32, rr = nI (N) ∧ (okW (xs (i3 + 1)) = true ∧ N < 24 ∧ A < 9) ∧ nd9_236 = upd nd A (nI N) ∧ wt9_236 = upd wt A (xs (i3 + 1)) ∧ A9_236 = A + 1 ∧ an9_236 = upd an N (nI A) ∧ N9_236 = N + 1 ∧ fl9_236 = false ∧ F9_236 0 = rr.toInt64) ∨ (r_236 = 1 ∧ (okW (xs (i3 + 1)) = false) ∧ N9_236 = N ∧ A9_236 = A ∧ fl9_236 = fl ∧ an9_236 = an ∧ nd9_236 = nd ∧ wt9_236 = wt) ∨ (r_236 = 2 ∧ (okW (xs (i3 + 1)) = true ∧ (24 ≤ N ∨ 9 ≤ A)) ∧ N9_236 = N ∧ A9_236 = A ∧ fl9_236 = fl ∧ an9_236 = an ∧ nd9_236 = nd ∧ wt9_236 = wt) := hpo_236
  have hP : va_P D vwCl (wZ cI cZ cJ cE ad md ou od N9_236 A9_236 fl9_236 an9_236 nd9_236 wt9_236 B Hd O R HL LB SO NG WO SA SE th N A R kw an nd wt B Hd O HM CO F9_236 G) H := hP.sub [10, 11, 12, 13, 14, 15, 16, 17, 18, 19, 20, 21, 22, 23, 0, 1, 2, 3, 4, 5, 6, 7, 8, 24, 9] rfl
  have hD : va_D (apS s) (wZ cI cZ cJ cE ad md ou od N9_236 A9_236 fl9_236 an9_236 nd9_236 wt9_236 B Hd O R HL LB SO NG WO SA SE th N A R kw an nd wt B Hd O HM CO F9_236 G) := hD.sub [10, 11, 12, 13, 14, 15, 16, 17, 18, 19, 20, 21, 22, 23, 0, 1, 2, 3, 4, 5, 6, 7, 8, 24, 9] (by decide) rfl
  refine W.widen (k := cs + 2) (n := sl + 12) (Nat.add_le_add_left (by decide) cs) (Nat.add_le_add_left (by decide) sl) ?_
  refine lv_istore (lv' := [(6, .int (r_236)), (0, .ref (b)), (1, .ref (ad 0)), (2, .ref (md 0)), (3, .ref (ou)), (4, .ref (od)), (5, .int (nI (i3)))]) hx hb dL_law_239 hl (by decide) rfl (fun ls hl => ?_)
  refine lv_aload_n hx hb dL_law_241 rfl (lv_at hl 3 rfl) ?_
  refine lv_aload_n hx hb dL_law_242 rfl (lv_at hl 1 rfl) ?_
  refine lv_iload hx hb dL_law_243 (lv_at hl 6 rfl) ?_
  refine lv_iconst (v := 1) hx hb dL_law_245 (by decide) ?_
  refine lv_iadd hx hb dL_law_246 ?_
  rw [nI_1]
  refine sld_ (i := i3 + 1) hx hb hXs hbl hbA hS (by omega) hL dL_law_247 ?_
  refine mu_i (wr := [(ad 0, .inr (2, [.ref (ad 1), .ref (ad 2), .ref (ad 3), .ref (ad 4), .ref (ad 8), .int (nI (N9_236)), .int (nI (A9_236)), .int (bI (fl9_236))])), (ad 1, .inl (cI, 24, .inl an9_236)), (ad 2, .inl (cI, 9, .inl nd9_236)), (ad 3, .inl (cI, 9, .inl wt9_236)), (ad 4, .inr (0, [.ref (ad 5), .ref (ad 6), .ref (ad 7), .int (nI (R))])), (ad 5, .inl (cI, 40, .inl B)), (ad 6, .inl (cI, 40, .inl Hd)), (ad 7, .inl (cZ, 40, .inl (fun j => bI (O j)))), (ad 8, .inr (1, [.ref (ad 9), .ref (ad 10), .ref (ad 11), .ref (ad 12), .ref (ad 13), .int (nI (SA)), .int (nI (SE))])), (ad 9, .inl (cI, 512, .inl HL)), (ad 10, .inl (cI, 512, .inl LB)), (ad 11, .inl (cZ, 512, .inl (fun j => bI (SO j)))), (ad 12, .inl (cZ, 512, .inl (fun j => bI (NG j)))), (ad 13, .inl (cZ, 512, .inl (fun j => bI (WO j)))), (ou, .inl (cJ, 1, .inr (.inl F9_236))), (od, .inl (cE, 1, .inr (.inr (.inr (.inl G)))))]) (va_runV (As := [.int (xs (i3 + 1))]) (rest := []) ⟨hx, hb, hml, hown, hts⟩ (c_X3_addAssumption l D cI cZ md (th) (N) (A) (R) (kw) (an) (nd) (wt) (B) (Hd) (O) (HM) (CO) (xs (i3 + 1)) (hn) (hA) (H).size) (cwV 1 hts gL_law_X3_addAssumption rfl rfl rfl (by decide +kernel) ⟨Nat.le_of_ble_eq_true rfl, Nat.le_of_ble_eq_true rfl⟩) (prw_V (q0 := 0) (ci := 3) (hP.sub (ws' := (wM cI cZ md th N A R kw an nd wt B Hd O HM CO)) [14, 15, 16, 17, 18, 19, 20, 21, 22] rfl) (hD.sub (ws' := (wM cI cZ md th N A R kw an nd wt B Hd O HM CO)) [14, 15, 16, 17, 18, 19, 20, 21, 22] (by decide) rfl) (hK.sub [0, 1] rfl) rfl rfl) rfl rfl hl.1 rfl (lv_room (Nat.le_of_ble_eq_true rfl)) dL_law_248 ⟨hcc 2 (by decide), hss 12 (by decide)⟩) hP hD hS hAp [14, 15, 16, 17, 18, 19, 20, 21, 22] [0, 1, 2, 3, 4, 5, 6, 7, 8, 9, 10, 11, 12, 13, 23, 24] rfl rfl (by decide) (by decide) (fun r_248 u_248 H locs hq_248 hP hD hS => ?_)
  obtain ⟨th9_248, an9_248, N9_248, kw9_248, nd9_248, wt9_248, A9_248⟩ := u_248
  obtain ⟨hst_248, -⟩ := hq_248
  have hst_248 : (okW (xs (i3 + 1)) = false ∧ th9_248 = 1 ∧ an9_248 = an ∧ N9_248 = N ∧ kw9_248 = kw ∧ nd9_248 = nd ∧ wt9_248 = wt ∧ A9_248 = A) ∨ (okW (xs (i3 + 1)) = true ∧ (24 ≤ N ∨ 9 ≤ A) ∧ th9_248 = 2 ∧ an9_248 = an ∧ N9_248 = N ∧ kw9_248 = kw ∧ nd9_248 = nd ∧ wt9_248 = wt ∧ A9_248 = A) ∨ (okW (xs (i3 + 1)) = true ∧ N < 24 ∧ A < 9 ∧ th9_248 = 0 ∧ r_248 = nI N ∧ an9_248 = upd an N (nI A) ∧ N9_248 = N + 1 ∧ kw9_248 = false ∧ nd9_248 = upd nd A (nI N) ∧ wt9_248 = upd wt A (xs (i3 + 1)) ∧ A9_248 = A + 1) := hst_248
  have hP : va_P D vwCl (wZ cI cZ cJ cE ad md ou od N9_236 A9_236 fl9_236 an9_236 nd9_236 wt9_236 B Hd O R HL LB SO NG WO SA SE th9_248 N9_248 A9_248 R kw9_248 an9_248 nd9_248 wt9_248 B Hd O HM CO F9_236 G) H := hP.sub [0, 1, 2, 3, 4, 5, 6, 7, 8, 9, 10, 11, 12, 13, 16, 17, 18, 19, 20, 21, 22, 23, 24, 14, 15] rfl
  have hD : va_D (apS s) (wZ cI cZ cJ cE ad md ou od N9_236 A9_236 fl9_236 an9_236 nd9_236 wt9_236 B Hd O R HL LB SO NG WO SA SE th9_248 N9_248 A9_248 R kw9_248 an9_248 nd9_248 wt9_248 B Hd O HM CO F9_236 G) := hD.sub [0, 1, 2, 3, 4, 5, 6, 7, 8, 9, 10, 11, 12, 13, 16, 17, 18, 19, 20, 21, 22, 23, 24, 14, 15] (by decide) rfl
  refine lv_istore (lv' := [(7, .int (r_248)), (6, .int (r_236)), (0, .ref (b)), (1, .ref (ad 0)), (2, .ref (md 0)), (3, .ref (ou)), (4, .ref (od)), (5, .int (nI (i3)))]) hx hb dL_law_251 hl (by decide) rfl (fun ls hl => ?_)
  have hAG : ((th9_248) = r_236) ∧ ((r_236 = 0 → F9_236 0 = (r_248).toInt64)) ∧ (N9_248 = N9_236) ∧ (A9_248 = A9_236) ∧ (an9_248 = an9_236) ∧ (nd9_248 = nd9_236) ∧ (wt9_248 = wt9_236) ∧ (Inv N9_236 A9_236 fl9_236 nd9_236 wt9_236 B Hd O R HL LB SO NG WO SA SE kw9_248 HM CO) := by
    rcases hpo_236 with ⟨ha, rr, h1, ⟨h2, h21, h22⟩, h3, h4, h5, h6, h7, h8, h9⟩ | ⟨ha, h2, h3, h4, h5, h6, h7, h8⟩ | ⟨ha, ⟨h2, h21⟩, h3, h4, h5, h6, h7, h8⟩ <;> rcases hst_248 with ⟨g1, g2, k1, k2, k3, k5, k6, k7⟩ | ⟨g1, g11, g2, k1, k2, k3, k5, k6, k7⟩ | ⟨g1, g11, g12, g2, g3, k1, k2, k3, k5, k6, k7⟩
    · rw [h2] at g1; cases g1
    · omega
    · exact ⟨g2.trans ha.symm, fun _ => by rw [h9, h1, g3], k2.trans h7.symm, k7.trans h5.symm, k1.trans h6.symm, k5.trans h3.symm, k6.trans h4.symm, by rw [h3, h4, h5, h7, h8, k3]; exact ⟨by omega, by omega, hR, okH_up hH, okN_add hN, wt_add hw h2, fun q => (by cases q), fun q => (by cases q)⟩⟩
    · exact ⟨g2.trans ha.symm, fun h0 => absurd (ha.symm.trans h0) (by decide), k2.trans h3.symm, k7.trans h4.symm, k1.trans h6.symm, k5.trans h7.symm, k6.trans h8.symm, by rw [h3, h4, h5, h7, h8, k3]; exact ⟨hn, hA, hR, hH, hN, hw, hsv, hkw⟩⟩
    · rw [h2] at g1; cases g1
    · rw [h2] at g1; cases g1
    · rw [h2] at g1; cases g1
    · exact ⟨g2.trans ha.symm, fun h0 => absurd (ha.symm.trans h0) (by decide), k2.trans h3.symm, k7.trans h4.symm, k1.trans h6.symm, k5.trans h7.symm, k6.trans h8.symm, by rw [h3, h4, h5, h7, h8, k3]; exact ⟨hn, hA, hR, hH, hN, hw, hsv, hkw⟩⟩
    · omega
  obtain ⟨hth, hvl, heN, heA, hean, hend, hewt, hI2⟩ := hAG
  rw [heN, heA, hean, hend, hewt] at hP hD
  refine lv_aload_n hx hb dL_law_253 rfl (lv_at hl 4 rfl) ?_
  refine pu_i (va_runV (As := []) (rest := []) ⟨hx, hb, hml, hown, hts⟩ (c_X3_thrown l D cI cZ md (th9_248) (N9_236) (A9_236) (R) (kw9_248) (an9_236) (nd9_236) (wt9_236) (B) (Hd) (O) (HM) (CO) ) (cwV 0 hts gL_law_X3_thrown rfl rfl rfl (by decide +kernel) ⟨Nat.le_of_ble_eq_true rfl, Nat.le_of_ble_eq_true rfl⟩) (pre_V (q0 := 0) (ci := 3) (hP.sub (ws' := (wM cI cZ md th9_248 N9_236 A9_236 R kw9_248 an9_236 nd9_236 wt9_236 B Hd O HM CO)) [14, 15, 16, 17, 18, 19, 20, 21, 22] rfl) (hK.sub [0, 1] rfl) rfl rfl) rfl rfl hl.1 rfl (lv_room (Nat.le_of_ble_eq_true rfl)) dL_law_254 ⟨hcc 2 (by decide), hss 12 (by decide)⟩) ?_
  refine lv_iload hx hb dL_law_257 (lv_at hl 1 rfl) ?_
  refine lv_icmp_eq (tgt := 264) hx hb dL_law_259 (by decide) (fun c_259 => ?_) (fun c_259 => ?_)
  · skip
    refine lv_iload hx hb dL_law_264 (lv_at hl 1 rfl) ?_
    refine lv_if_ne (tgt := 281) hx hb dL_law_266 (by decide) (fun c_266 => ?_) (fun c_266 => ?_)
    · skip
      refine lv_goto (tgt := 1862) hx hb dL_law_281 (by decide) ?_
      exact hk (N9_236) (A9_236) (fl9_236) (an9_236) (nd9_236) (wt9_236) (B) (Hd) (O) (R) (HL) (LB) (SO) (NG) (WO) (SA) (SE) (th9_248) (kw9_248) (HM) (CO) (F9_236) (G) _ _ hI2 hP hD hS ls (lv_sub hl [2, 3, 4, 5, 6, 7] rfl)
    · skip
      refine lv_aload_n hx hb dL_law_269 rfl (lv_at hl 5 rfl) ?_
      refine lv_iconst (v := 0) hx hb dL_law_270 (by decide) ?_
      refine ll_0 (D := D) (f := F9_236) hx hb hK hP 23 2 rfl rfl dL_law_271 ?_
      refine lv_iload hx hb dL_law_272 (lv_at hl 0 rfl) ?_
      refine lv_i2l hx hb dL_law_274 rfl ?_
      refine W.lcmp hx hb dL_law_275 ?_
      refine lv_if_eq (tgt := 281) hx hb dL_law_276 (by decide) (fun c_276 => ?_) (fun c_276 => ?_)
      · skip
        refine lv_goto (tgt := 1862) hx hb dL_law_281 (by decide) ?_
        exact hk (N9_236) (A9_236) (fl9_236) (an9_236) (nd9_236) (wt9_236) (B) (Hd) (O) (R) (HL) (LB) (SO) (NG) (WO) (SA) (SE) (th9_248) (kw9_248) (HM) (CO) (F9_236) (G) _ _ hI2 hP hD hS ls (lv_sub hl [2, 3, 4, 5, 6, 7] rfl)
      · skip
        refine lv_iconst (v := 0) hx hb dL_law_279 (by decide) ?_
        exfalso
        first | exact c_276 hth | exact c_276 ((lg_cmp_eq _ _).mpr (hvl c_259)) | exact c_276 ((lg_cmp_eq _ _).mpr (hvl c_266)) | exact c_276 ((lg_cmp_eq _ _).mpr (hvl c_276))
  · skip
    refine lv_iconst (v := 0) hx hb dL_law_262 (by decide) ?_
    exfalso
    first | exact c_259 hth | exact c_259 ((lg_cmp_eq _ _).mpr (hvl c_259))
set_option maxHeartbeats 4000000 in
set_option maxRecDepth 100000 in
theorem law_c2 {p : Program} {e : Env} {s : State} {m : MethodId} {below : List Frame} {meth : Method} {c : Code} (l : Launch) (hst : l.stackTraces = false) {b L : Nat} {xs : Nat → Int32} (hL : L ≤ 1536) (C0 : lw_At p s m meth c b L xs) (D : va_G) (cI cZ cJ cE : ClassId) (ad md : Nat → Nat) (ou od : Nat) (hK : kn D (tyL cI cZ cJ cE) s) (hX : xK s) (hZ : xZ (apS s) s s.heap) (hY : yN s) (cs sl i3 : Nat) (hcs : cs + 2 ≤ 1061) (hsl : sl + 12 ≤ 12206) (hi3 : i3 + 3 ≤ L) (hk : lwK p l e s m below meth c b D cI cZ cJ cE ad md ou od cs sl i3) (N A : Nat) (fl : Bool) (an nd wt B Hd : Nat → Int32) (O : Nat → Bool) (R : Nat) (HL LB : Nat → Int32) (SO NG WO : Nat → Bool) (SA SE : Nat) (th : Int32) (kw : Bool) (HM : Nat → Int32) (CO : Nat → Bool) (F : Nat → Int64) (G : Nat → UInt64) (hI : Inv N A fl nd wt B Hd O R HL LB SO NG WO SA SE kw HM CO) (H : Heap) (locs : List Loc) (hP : va_P D vwCl (wZ cI cZ cJ cE ad md ou od N A fl an nd wt B Hd O R HL LB SO NG WO SA SE th N A R kw an nd wt B Hd O HM CO F G) H) (hD : va_D (apS s) (wZ cI cZ cJ cE ad md ou od N A fl an nd wt B Hd O R HL LB SO NG WO SA SE th N A R kw an nd wt B Hd O HM CO F G)) (hS : va_S (apS s) s.heap H locs) (ls : Array Slot) (hl : lv_has ls 9 [(0, .ref b), (1, .ref (ad 0)), (2, .ref (md 0)), (3, .ref ou), (4, .ref od), (5, .int (nI i3))]) : W p l e room_1 s m #[Value.ref b] below meth c H locs cs sl (lw_Z below #[Value.ref b] s) (F0 m 284 ls []) := by
  obtain ⟨hx, hb, hr, hml, hown, hts, hXs, hbl, hlocks, hgv⟩ := id C0
  have hts := fun w h => hts w (wsL_law_in w h)
  have hb : c.code = cL_law := hb
  have hbA : ¬ apS s b := Nat.not_le.mpr hbl
  have hAp : ∀ q : Nat, s.heap.size ≤ q → apS s q := fun _ h => h
  obtain ⟨hn, hA, hR, hH, hN, hw, hsv, hkw⟩ := hI
  have hcc : ∀ k, k ≤ 2 → cs + k ≤ room_1.cells := fun k hk => Nat.le_trans (Nat.add_le_add_left hk cs) hcs
  have hss : ∀ k, k ≤ 12 → sl + k ≤ room_1.slots := fun k hk => Nat.le_trans (Nat.add_le_add_left hk sl) hsl
  refine lv_aload_n hx hb dL_law_284 rfl (lv_at hl 1 rfl) ?_
  refine lv_aload_n hx hb dL_law_285 rfl (lv_at hl 0 rfl) ?_
  refine lv_iload hx hb dL_law_286 (lv_at hl 5 rfl) ?_
  refine lv_iconst (v := 1) hx hb dL_law_288 (by decide) ?_
  refine lv_iadd hx hb dL_law_289 ?_
  rw [nI_1]
  refine sld_ (i := i3 + 1) hx hb hXs hbl hbA hS (by omega) hL dL_law_290 ?_
  refine lv_aload_n hx hb dL_law_291 rfl (lv_at hl 0 rfl) ?_
  refine lv_iload hx hb dL_law_292 (lv_at hl 5 rfl) ?_
  refine lv_iconst (v := 2) hx hb dL_law_294 (by decide) ?_
  refine lv_iadd hx hb dL_law_295 ?_
  rw [show (2 : Int32) = nI 2 from rfl, nI_add]
  refine sld_ (i := i3 + 2) hx hb hXs hbl hbA hS (by omega) hL dL_law_296 ?_
  refine lv_aload_n hx hb dL_law_297 rfl (lv_at hl 3 rfl) ?_
  refine mu_i (wr := [(md 0, .inr (3, [.int (th), .int (nI (N)), .ref (md 1), .int (nI (A)), .ref (md 2), .ref (md 3), .int (nI (R)), .ref (md 4), .ref (md 5), .ref (md 6), .int (bI (kw)), .ref (md 7), .ref (md 8)])), (md 1, .inl (cI, 24, .inl an)), (md 2, .inl (cI, 9, .inl nd)), (md 3, .inl (cI, 9, .inl wt)), (md 4, .inl (cI, 40, .inl B)), (md 5, .inl (cI, 40, .inl Hd)), (md 6, .inl (cZ, 40, .inl (fun j => bI (O j)))), (md 7, .inl (cI, 512, .inl HM)), (md 8, .inl (cZ, 512, .inl (fun j => bI (CO j)))), (od, .inl (cE, 1, .inr (.inr (.inr (.inl G)))))]) (vx_runSW (As := [.ref (ad 0), .int (xs (i3 + 1)), .int (xs (i3 + 2)), .ref (ou)]) (rest := []) ⟨hx, hb, hml, hown, hts⟩ (c_L_setWeight l D cI cZ cJ cE ad ou (N) (A) (fl) (an) (nd) (wt) (B) (Hd) (O) (R) (HL) (LB) (SO) (NG) (WO) (SA) (SE) (F) (xs (i3 + 1)) (xs (i3 + 2)) (hA) hst (H).size) (vx_cwSW 4 hts gL_law_L_setWeight rfl rfl rfl (by decide +kernel) ⟨Nat.le_of_ble_eq_true rfl, Nat.le_of_ble_eq_true rfl⟩) (prl_S (hP.sub (ws' := (wKL cI cZ cJ ad ou N A fl an nd wt B Hd O R HL LB SO NG WO SA SE F)) [0, 1, 2, 3, 4, 5, 6, 7, 8, 9, 10, 11, 12, 13, 23] rfl) (hD.sub (ws' := (wKL cI cZ cJ ad ou N A fl an nd wt B Hd O R HL LB SO NG WO SA SE F)) [0, 1, 2, 3, 4, 5, 6, 7, 8, 9, 10, 11, 12, 13, 23] (by decide) rfl) hK hX hZ hY hS (va_free (wc := (wKL cI cZ cJ ad ou N A fl an nd wt B Hd O R HL LB SO NG WO SA SE F)) hD hS hAp [0, 1, 2, 3, 4, 5, 6, 7, 8, 9, 10, 11, 12, 13, 23] rfl)) rfl rfl hl.1 rfl (lv_room (Nat.le_of_ble_eq_true rfl)) dL_law_298 ⟨hcc 2 (by decide), hss 12 (by decide)⟩) hP hD hS hAp [0, 1, 2, 3, 4, 5, 6, 7, 8, 9, 10, 11, 12, 13, 23] [14, 15, 16, 17, 18, 19, 20, 21, 22, 24] rfl rfl (by decide) (by decide) (fun r_298 u_298 H locs hq_298 hP hD hS => ?_)
  obtain ⟨wt9_298, F9_298⟩ := u_298
  obtain ⟨hpo_298, -⟩ := hq_298
  have hpo_298 : (r_298 = 0 ∧ ∃ rr : Int32, (inR (xs (i3 + 1)) A = true ∧ okW (xs (i3 + 2)) = true) ∧ (∃ j, j < A ∧ (xs (i3 + 1)) = nI j ∧ rr = wt j ∧ wt9_298 = upd wt j (xs (i3 + 2))) ∧ F9_298 0 = rr.toInt64) ∨ (r_298 = 1 ∧ (inR (xs (i3 + 1)) A = false) ∧ wt9_298 = wt) ∨ (r_298 = 2 ∧ (inR (xs (i3 + 1)) A = true ∧ okW (xs (i3 + 2)) = false) ∧ wt9_298 = wt) := hpo_298
  have hP : va_P D vwCl (wZ cI cZ cJ cE ad md ou od N A fl an nd wt9_298 B Hd O R HL LB SO NG WO SA SE th N A R kw an nd wt B Hd O HM CO F9_298 G) H := hP.sub [10, 11, 12, 13, 14, 15, 16, 17, 18, 19, 20, 21, 22, 23, 0, 1, 2, 3, 4, 5, 6, 7, 8, 24, 9] rfl
  have hD : va_D (apS s) (wZ cI cZ cJ cE ad md ou od N A fl an nd wt9_298 B Hd O R HL LB SO NG WO SA SE th N A R kw an nd wt B Hd O HM CO F9_298 G) := hD.sub [10, 11, 12, 13, 14, 15, 16, 17, 18, 19, 20, 21, 22, 23, 0, 1, 2, 3, 4, 5, 6, 7, 8, 24, 9] (by decide) rfl
  refine W.widen (k := cs + 2) (n := sl + 12) (Nat.add_le_add_left (by decide) cs) (Nat.add_le_add_left (by decide) sl) ?_
  refine lv_istore (lv' := [(6, .int (r_298)), (0, .ref (b)), (1, .ref (ad 0)), (2, .ref (md 0)), (3, .ref (ou)), (4, .ref (od)), (5, .int (nI (i3)))]) hx hb dL_law_301 hl (by decide) rfl (fun ls hl => ?_)
  refine lv_aload_n hx hb dL_law_303 rfl (lv_at hl 3 rfl) ?_
  refine lv_aload_n hx hb dL_law_304 rfl (lv_at hl 1 rfl) ?_
  refine lv_iload hx hb dL_law_305 (lv_at hl 6 rfl) ?_
  refine lv_iconst (v := 1) hx hb dL_law_307 (by decide) ?_
  refine lv_iadd hx hb dL_law_308 ?_
  rw [nI_1]
  refine sld_ (i := i3 + 1) hx hb hXs hbl hbA hS (by omega) hL dL_law_309 ?_
  refine lv_aload_n hx hb dL_law_310 rfl (lv_at hl 1 rfl) ?_
  refine lv_iload hx hb dL_law_311 (lv_at hl 6 rfl) ?_
  refine lv_iconst (v := 2) hx hb dL_law_313 (by decide) ?_
  refine lv_iadd hx hb dL_law_314 ?_
  rw [show (2 : Int32) = nI 2 from rfl, nI_add]
  refine sld_ (i := i3 + 2) hx hb hXs hbl hbA hS (by omega) hL dL_law_315 ?_
  refine mu_i (wr := [(ad 0, .inr (2, [.ref (ad 1), .ref (ad 2), .ref (ad 3), .ref (ad 4), .ref (ad 8), .int (nI (N)), .int (nI (A)), .int (bI (fl))])), (ad 1, .inl (cI, 24, .inl an)), (ad 2, .inl (cI, 9, .inl nd)), (ad 3, .inl (cI, 9, .inl wt9_298)), (ad 4, .inr (0, [.ref (ad 5), .ref (ad 6), .ref (ad 7), .int (nI (R))])), (ad 5, .inl (cI, 40, .inl B)), (ad 6, .inl (cI, 40, .inl Hd)), (ad 7, .inl (cZ, 40, .inl (fun j => bI (O j)))), (ad 8, .inr (1, [.ref (ad 9), .ref (ad 10), .ref (ad 11), .ref (ad 12), .ref (ad 13), .int (nI (SA)), .int (nI (SE))])), (ad 9, .inl (cI, 512, .inl HL)), (ad 10, .inl (cI, 512, .inl LB)), (ad 11, .inl (cZ, 512, .inl (fun j => bI (SO j)))), (ad 12, .inl (cZ, 512, .inl (fun j => bI (NG j)))), (ad 13, .inl (cZ, 512, .inl (fun j => bI (WO j)))), (ou, .inl (cJ, 1, .inr (.inl F9_298))), (od, .inl (cE, 1, .inr (.inr (.inr (.inl G)))))]) (va_runV (As := [.int (xs (i3 + 1)), .int (xs (i3 + 2))]) (rest := []) ⟨hx, hb, hml, hown, hts⟩ (c_X3_setWeight l D cI cZ md (th) (N) (A) (R) (kw) (an) (nd) (wt) (B) (Hd) (O) (HM) (CO) (xs (i3 + 1)) (xs (i3 + 2)) (hA) (H).size) (cwV 2 hts gL_law_X3_setWeight rfl rfl rfl (by decide +kernel) ⟨Nat.le_of_ble_eq_true rfl, Nat.le_of_ble_eq_true rfl⟩) (prw_V (q0 := 0) (ci := 3) (hP.sub (ws' := (wM cI cZ md th N A R kw an nd wt B Hd O HM CO)) [14, 15, 16, 17, 18, 19, 20, 21, 22] rfl) (hD.sub (ws' := (wM cI cZ md th N A R kw an nd wt B Hd O HM CO)) [14, 15, 16, 17, 18, 19, 20, 21, 22] (by decide) rfl) (hK.sub [0, 1] rfl) rfl rfl) rfl rfl hl.1 rfl (lv_room (Nat.le_of_ble_eq_true rfl)) dL_law_316 ⟨hcc 2 (by decide), hss 12 (by decide)⟩) hP hD hS hAp [14, 15, 16, 17, 18, 19, 20, 21, 22] [0, 1, 2, 3, 4, 5, 6, 7, 8, 9, 10, 11, 12, 13, 23, 24] rfl rfl (by decide) (by decide) (fun r_316 u_316 H locs hq_316 hP hD hS => ?_)
  obtain ⟨th9_316, wt9_316⟩ := u_316
  obtain ⟨hst_316, -⟩ := hq_316
  have hst_316 : (inR (xs (i3 + 1)) A = false ∧ th9_316 = 1 ∧ wt9_316 = wt) ∨ (inR (xs (i3 + 1)) A = true ∧ okW (xs (i3 + 2)) = false ∧ th9_316 = 2 ∧ wt9_316 = wt) ∨ (inR (xs (i3 + 1)) A = true ∧ okW (xs (i3 + 2)) = true ∧ th9_316 = 0 ∧ ∃ j, j < A ∧ (xs (i3 + 1)) = nI j ∧ r_316 = wt j ∧ wt9_316 = upd wt j (xs (i3 + 2))) := hst_316
  have hP : va_P D vwCl (wZ cI cZ cJ cE ad md ou od N A fl an nd wt9_298 B Hd O R HL LB SO NG WO SA SE th9_316 N A R kw an nd wt9_316 B Hd O HM CO F9_298 G) H := hP.sub [0, 1, 2, 3, 4, 5, 6, 7, 8, 9, 10, 11, 12, 13, 16, 17, 18, 19, 20, 21, 22, 23, 24, 14, 15] rfl
  have hD : va_D (apS s) (wZ cI cZ cJ cE ad md ou od N A fl an nd wt9_298 B Hd O R HL LB SO NG WO SA SE th9_316 N A R kw an nd wt9_316 B Hd O HM CO F9_298 G) := hD.sub [0, 1, 2, 3, 4, 5, 6, 7, 8, 9, 10, 11, 12, 13, 16, 17, 18, 19, 20, 21, 22, 23, 24, 14, 15] (by decide) rfl
  refine lv_istore (lv' := [(7, .int (r_316)), (6, .int (r_298)), (0, .ref (b)), (1, .ref (ad 0)), (2, .ref (md 0)), (3, .ref (ou)), (4, .ref (od)), (5, .int (nI (i3)))]) hx hb dL_law_319 hl (by decide) rfl (fun ls hl => ?_)
  have hAG : ((th9_316) = r_298) ∧ ((r_298 = 0 → F9_298 0 = (r_316).toInt64)) ∧ (wt9_316 = wt9_298) ∧ (Inv N A fl nd wt9_298 B Hd O R HL LB SO NG WO SA SE kw HM CO) := by
    rcases hpo_298 with ⟨ha, rr, ⟨h2, h3⟩, ⟨j, hj, hx9, hr9, hw9⟩, h5⟩ | ⟨ha, h2, h4⟩ | ⟨ha, ⟨h2, h3⟩, h4⟩ <;> rcases hst_316 with ⟨g1, g2, g3⟩ | ⟨g1, g11, g2, g3⟩ | ⟨g1, g11, g2, j2, hj2, hx8, hr8, hw8⟩
    · rw [h2] at g1; cases g1
    · rw [h3] at g11; cases g11
    · have hjj := nI_same (by omega) (by omega) (hx9.symm.trans hx8)
      subst hjj
      exact ⟨g2.trans ha.symm, fun _ => by rw [h5, hr9, hr8], hw8.trans hw9.symm, by rw [hw9]; exact ⟨hn, hA, hR, hH, hN, wt_upd hw h3, hsv, hkw⟩⟩
    · exact ⟨g2.trans ha.symm, fun h0 => absurd (ha.symm.trans h0) (by decide), g3.trans h4.symm, by rw [h4]; exact ⟨hn, hA, hR, hH, hN, hw, hsv, hkw⟩⟩
    · rw [h2] at g1; cases g1
    · rw [h2] at g1; cases g1
    · rw [h2] at g1; cases g1
    · exact ⟨g2.trans ha.symm, fun h0 => absurd (ha.symm.trans h0) (by decide), g3.trans h4.symm, by rw [h4]; exact ⟨hn, hA, hR, hH, hN, hw, hsv, hkw⟩⟩
    · rw [h3] at g11; cases g11
  obtain ⟨hth, hvl, hewt, hI2⟩ := hAG
  rw [hewt] at hP hD
  refine lv_aload_n hx hb dL_law_321 rfl (lv_at hl 4 rfl) ?_
  refine pu_i (va_runV (As := []) (rest := []) ⟨hx, hb, hml, hown, hts⟩ (c_X3_thrown l D cI cZ md (th9_316) (N) (A) (R) (kw) (an) (nd) (wt9_298) (B) (Hd) (O) (HM) (CO) ) (cwV 0 hts gL_law_X3_thrown rfl rfl rfl (by decide +kernel) ⟨Nat.le_of_ble_eq_true rfl, Nat.le_of_ble_eq_true rfl⟩) (pre_V (q0 := 0) (ci := 3) (hP.sub (ws' := (wM cI cZ md th9_316 N A R kw an nd wt9_298 B Hd O HM CO)) [14, 15, 16, 17, 18, 19, 20, 21, 22] rfl) (hK.sub [0, 1] rfl) rfl rfl) rfl rfl hl.1 rfl (lv_room (Nat.le_of_ble_eq_true rfl)) dL_law_322 ⟨hcc 2 (by decide), hss 12 (by decide)⟩) ?_
  refine lv_iload hx hb dL_law_325 (lv_at hl 1 rfl) ?_
  refine lv_icmp_eq (tgt := 332) hx hb dL_law_327 (by decide) (fun c_327 => ?_) (fun c_327 => ?_)
  · skip
    refine lv_iload hx hb dL_law_332 (lv_at hl 1 rfl) ?_
    refine lv_if_ne (tgt := 349) hx hb dL_law_334 (by decide) (fun c_334 => ?_) (fun c_334 => ?_)
    · skip
      refine lv_goto (tgt := 1862) hx hb dL_law_349 (by decide) ?_
      exact hk (N) (A) (fl) (an) (nd) (wt9_298) (B) (Hd) (O) (R) (HL) (LB) (SO) (NG) (WO) (SA) (SE) (th9_316) (kw) (HM) (CO) (F9_298) (G) _ _ hI2 hP hD hS ls (lv_sub hl [2, 3, 4, 5, 6, 7] rfl)
    · skip
      refine lv_aload_n hx hb dL_law_337 rfl (lv_at hl 5 rfl) ?_
      refine lv_iconst (v := 0) hx hb dL_law_338 (by decide) ?_
      refine ll_0 (D := D) (f := F9_298) hx hb hK hP 23 2 rfl rfl dL_law_339 ?_
      refine lv_iload hx hb dL_law_340 (lv_at hl 0 rfl) ?_
      refine lv_i2l hx hb dL_law_342 rfl ?_
      refine W.lcmp hx hb dL_law_343 ?_
      refine lv_if_eq (tgt := 349) hx hb dL_law_344 (by decide) (fun c_344 => ?_) (fun c_344 => ?_)
      · skip
        refine lv_goto (tgt := 1862) hx hb dL_law_349 (by decide) ?_
        exact hk (N) (A) (fl) (an) (nd) (wt9_298) (B) (Hd) (O) (R) (HL) (LB) (SO) (NG) (WO) (SA) (SE) (th9_316) (kw) (HM) (CO) (F9_298) (G) _ _ hI2 hP hD hS ls (lv_sub hl [2, 3, 4, 5, 6, 7] rfl)
      · skip
        refine lv_iconst (v := 0) hx hb dL_law_347 (by decide) ?_
        exfalso
        first | exact c_344 hth | exact c_344 ((lg_cmp_eq _ _).mpr (hvl c_327)) | exact c_344 ((lg_cmp_eq _ _).mpr (hvl c_334)) | exact c_344 ((lg_cmp_eq _ _).mpr (hvl c_344))
  · skip
    refine lv_iconst (v := 0) hx hb dL_law_330 (by decide) ?_
    exfalso
    first | exact c_327 hth | exact c_327 ((lg_cmp_eq _ _).mpr (hvl c_327))
set_option maxHeartbeats 4000000 in
set_option maxRecDepth 100000 in
theorem law_c3 {p : Program} {e : Env} {s : State} {m : MethodId} {below : List Frame} {meth : Method} {c : Code} (l : Launch) (hst : l.stackTraces = false) {b L : Nat} {xs : Nat → Int32} (hL : L ≤ 1536) (C0 : lw_At p s m meth c b L xs) (D : va_G) (cI cZ cJ cE : ClassId) (ad md : Nat → Nat) (ou od : Nat) (hK : kn D (tyL cI cZ cJ cE) s) (hX : xK s) (hZ : xZ (apS s) s s.heap) (hY : yN s) (cs sl i3 : Nat) (hcs : cs + 2 ≤ 1061) (hsl : sl + 12 ≤ 12206) (hi3 : i3 + 3 ≤ L) (hk : lwK p l e s m below meth c b D cI cZ cJ cE ad md ou od cs sl i3) (N A : Nat) (fl : Bool) (an nd wt B Hd : Nat → Int32) (O : Nat → Bool) (R : Nat) (HL LB : Nat → Int32) (SO NG WO : Nat → Bool) (SA SE : Nat) (th : Int32) (kw : Bool) (HM : Nat → Int32) (CO : Nat → Bool) (F : Nat → Int64) (G : Nat → UInt64) (hI : Inv N A fl nd wt B Hd O R HL LB SO NG WO SA SE kw HM CO) (H : Heap) (locs : List Loc) (hP : va_P D vwCl (wZ cI cZ cJ cE ad md ou od N A fl an nd wt B Hd O R HL LB SO NG WO SA SE th N A R kw an nd wt B Hd O HM CO F G) H) (hD : va_D (apS s) (wZ cI cZ cJ cE ad md ou od N A fl an nd wt B Hd O R HL LB SO NG WO SA SE th N A R kw an nd wt B Hd O HM CO F G)) (hS : va_S (apS s) s.heap H locs) (ls : Array Slot) (hl : lv_has ls 9 [(0, .ref b), (1, .ref (ad 0)), (2, .ref (md 0)), (3, .ref ou), (4, .ref od), (5, .int (nI i3))]) : W p l e room_1 s m #[Value.ref b] below meth c H locs cs sl (lw_Z below #[Value.ref b] s) (F0 m 352 ls []) := by
  obtain ⟨hx, hb, hr, hml, hown, hts, hXs, hbl, hlocks, hgv⟩ := id C0
  have hts := fun w h => hts w (wsL_law_in w h)
  have hb : c.code = cL_law := hb
  have hbA : ¬ apS s b := Nat.not_le.mpr hbl
  have hAp : ∀ q : Nat, s.heap.size ≤ q → apS s q := fun _ h => h
  obtain ⟨hn, hA, hR, hH, hN, hw, hsv, hkw⟩ := hI
  have hcc : ∀ k, k ≤ 2 → cs + k ≤ room_1.cells := fun k hk => Nat.le_trans (Nat.add_le_add_left hk cs) hcs
  have hss : ∀ k, k ≤ 12 → sl + k ≤ room_1.slots := fun k hk => Nat.le_trans (Nat.add_le_add_left hk sl) hsl
  refine lv_aload_n hx hb dL_law_352 rfl (lv_at hl 1 rfl) ?_
  refine lv_aload_n hx hb dL_law_353 rfl (lv_at hl 0 rfl) ?_
  refine lv_iload hx hb dL_law_354 (lv_at hl 5 rfl) ?_
  refine lv_iconst (v := 1) hx hb dL_law_356 (by decide) ?_
  refine lv_iadd hx hb dL_law_357 ?_
  rw [nI_1]
  refine sld_ (i := i3 + 1) hx hb hXs hbl hbA hS (by omega) hL dL_law_358 ?_
  refine lv_aload_n hx hb dL_law_359 rfl (lv_at hl 0 rfl) ?_
  refine lv_iload hx hb dL_law_360 (lv_at hl 5 rfl) ?_
  refine lv_iconst (v := 2) hx hb dL_law_362 (by decide) ?_
  refine lv_iadd hx hb dL_law_363 ?_
  rw [show (2 : Int32) = nI 2 from rfl, nI_add]
  refine sld_ (i := i3 + 2) hx hb hXs hbl hbA hS (by omega) hL dL_law_364 ?_
  refine lv_aload_n hx hb dL_law_365 rfl (lv_at hl 3 rfl) ?_
  refine mu_i (wr := [(md 0, .inr (3, [.int (th), .int (nI (N)), .ref (md 1), .int (nI (A)), .ref (md 2), .ref (md 3), .int (nI (R)), .ref (md 4), .ref (md 5), .ref (md 6), .int (bI (kw)), .ref (md 7), .ref (md 8)])), (md 1, .inl (cI, 24, .inl an)), (md 2, .inl (cI, 9, .inl nd)), (md 3, .inl (cI, 9, .inl wt)), (md 4, .inl (cI, 40, .inl B)), (md 5, .inl (cI, 40, .inl Hd)), (md 6, .inl (cZ, 40, .inl (fun j => bI (O j)))), (md 7, .inl (cI, 512, .inl HM)), (md 8, .inl (cZ, 512, .inl (fun j => bI (CO j)))), (od, .inl (cE, 1, .inr (.inr (.inr (.inl G)))))]) (vx_runSW (As := [.ref (ad 0), .int (xs (i3 + 1)), .int (xs (i3 + 2)), .ref (ou)]) (rest := []) ⟨hx, hb, hml, hown, hts⟩ (c_L_addRule l D cI cZ cJ cE ad ou (N) (A) (fl) (an) (nd) (wt) (B) (Hd) (O) (R) (HL) (LB) (SO) (NG) (WO) (SA) (SE) (F) (xs (i3 + 1)) (xs (i3 + 2)) (hR) hst (H).size) (vx_cwSW 4 hts gL_law_L_addRule rfl rfl rfl (by decide +kernel) ⟨Nat.le_of_ble_eq_true rfl, Nat.le_of_ble_eq_true rfl⟩) (prl_S (hP.sub (ws' := (wKL cI cZ cJ ad ou N A fl an nd wt B Hd O R HL LB SO NG WO SA SE F)) [0, 1, 2, 3, 4, 5, 6, 7, 8, 9, 10, 11, 12, 13, 23] rfl) (hD.sub (ws' := (wKL cI cZ cJ ad ou N A fl an nd wt B Hd O R HL LB SO NG WO SA SE F)) [0, 1, 2, 3, 4, 5, 6, 7, 8, 9, 10, 11, 12, 13, 23] (by decide) rfl) hK hX hZ hY hS (va_free (wc := (wKL cI cZ cJ ad ou N A fl an nd wt B Hd O R HL LB SO NG WO SA SE F)) hD hS hAp [0, 1, 2, 3, 4, 5, 6, 7, 8, 9, 10, 11, 12, 13, 23] rfl)) rfl rfl hl.1 rfl (lv_room (Nat.le_of_ble_eq_true rfl)) dL_law_366 ⟨hcc 2 (by decide), hss 12 (by decide)⟩) hP hD hS hAp [0, 1, 2, 3, 4, 5, 6, 7, 8, 9, 10, 11, 12, 13, 23] [14, 15, 16, 17, 18, 19, 20, 21, 22, 24] rfl rfl (by decide) (by decide) (fun r_366 u_366 H locs hq_366 hP hD hS => ?_)
  obtain ⟨fl9_366, B9_366, Hd9_366, O9_366, R9_366, F9_366⟩ := u_366
  obtain ⟨hpo_366, -⟩ := hq_366
  have hpo_366 : (r_366 = 0 ∧ ∃ rr : Int32, rr = nI (R) ∧ (inS (xs (i3 + 1)) N = true ∧ ((xs (i3 + 2)) = -1 ∨ inR (xs (i3 + 2)) N = true) ∧ R < 40) ∧ B9_366 = upd B R (xs (i3 + 1)) ∧ Hd9_366 = upd Hd R (xs (i3 + 2)) ∧ O9_366 = updB O R true ∧ R9_366 = R + 1 ∧ fl9_366 = false ∧ F9_366 0 = rr.toInt64) ∨ (r_366 = 1 ∧ (inS (xs (i3 + 1)) N = false) ∧ fl9_366 = fl ∧ B9_366 = B ∧ Hd9_366 = Hd ∧ O9_366 = O ∧ R9_366 = R) ∨ (r_366 = 2 ∧ (inS (xs (i3 + 1)) N = true ∧ ¬ (xs (i3 + 2)) = -1 ∧ inR (xs (i3 + 2)) N = false) ∧ fl9_366 = fl ∧ B9_366 = B ∧ Hd9_366 = Hd ∧ O9_366 = O ∧ R9_366 = R) ∨ (r_366 = 3 ∧ (inS (xs (i3 + 1)) N = true ∧ ((xs (i3 + 2)) = -1 ∨ inR (xs (i3 + 2)) N = true) ∧ 40 ≤ R) ∧ fl9_366 = fl ∧ B9_366 = B ∧ Hd9_366 = Hd ∧ O9_366 = O ∧ R9_366 = R) := hpo_366
  have hP : va_P D vwCl (wZ cI cZ cJ cE ad md ou od N A fl9_366 an nd wt B9_366 Hd9_366 O9_366 R9_366 HL LB SO NG WO SA SE th N A R kw an nd wt B Hd O HM CO F9_366 G) H := hP.sub [10, 11, 12, 13, 14, 15, 16, 17, 18, 19, 20, 21, 22, 23, 0, 1, 2, 3, 4, 5, 6, 7, 8, 24, 9] rfl
  have hD : va_D (apS s) (wZ cI cZ cJ cE ad md ou od N A fl9_366 an nd wt B9_366 Hd9_366 O9_366 R9_366 HL LB SO NG WO SA SE th N A R kw an nd wt B Hd O HM CO F9_366 G) := hD.sub [10, 11, 12, 13, 14, 15, 16, 17, 18, 19, 20, 21, 22, 23, 0, 1, 2, 3, 4, 5, 6, 7, 8, 24, 9] (by decide) rfl
  refine W.widen (k := cs + 2) (n := sl + 12) (Nat.add_le_add_left (by decide) cs) (Nat.add_le_add_left (by decide) sl) ?_
  refine lv_istore (lv' := [(6, .int (r_366)), (0, .ref (b)), (1, .ref (ad 0)), (2, .ref (md 0)), (3, .ref (ou)), (4, .ref (od)), (5, .int (nI (i3)))]) hx hb dL_law_369 hl (by decide) rfl (fun ls hl => ?_)
  refine lv_aload_n hx hb dL_law_371 rfl (lv_at hl 3 rfl) ?_
  refine lv_aload_n hx hb dL_law_372 rfl (lv_at hl 1 rfl) ?_
  refine lv_iload hx hb dL_law_373 (lv_at hl 6 rfl) ?_
  refine lv_iconst (v := 1) hx hb dL_law_375 (by decide) ?_
  refine lv_iadd hx hb dL_law_376 ?_
  rw [nI_1]
  refine sld_ (i := i3 + 1) hx hb hXs hbl hbA hS (by omega) hL dL_law_377 ?_
  refine lv_aload_n hx hb dL_law_378 rfl (lv_at hl 1 rfl) ?_
  refine lv_iload hx hb dL_law_379 (lv_at hl 6 rfl) ?_
  refine lv_iconst (v := 2) hx hb dL_law_381 (by decide) ?_
  refine lv_iadd hx hb dL_law_382 ?_
  rw [show (2 : Int32) = nI 2 from rfl, nI_add]
  refine sld_ (i := i3 + 2) hx hb hXs hbl hbA hS (by omega) hL dL_law_383 ?_
  refine mu_i (wr := [(ad 0, .inr (2, [.ref (ad 1), .ref (ad 2), .ref (ad 3), .ref (ad 4), .ref (ad 8), .int (nI (N)), .int (nI (A)), .int (bI (fl9_366))])), (ad 1, .inl (cI, 24, .inl an)), (ad 2, .inl (cI, 9, .inl nd)), (ad 3, .inl (cI, 9, .inl wt)), (ad 4, .inr (0, [.ref (ad 5), .ref (ad 6), .ref (ad 7), .int (nI (R9_366))])), (ad 5, .inl (cI, 40, .inl B9_366)), (ad 6, .inl (cI, 40, .inl Hd9_366)), (ad 7, .inl (cZ, 40, .inl (fun j => bI (O9_366 j)))), (ad 8, .inr (1, [.ref (ad 9), .ref (ad 10), .ref (ad 11), .ref (ad 12), .ref (ad 13), .int (nI (SA)), .int (nI (SE))])), (ad 9, .inl (cI, 512, .inl HL)), (ad 10, .inl (cI, 512, .inl LB)), (ad 11, .inl (cZ, 512, .inl (fun j => bI (SO j)))), (ad 12, .inl (cZ, 512, .inl (fun j => bI (NG j)))), (ad 13, .inl (cZ, 512, .inl (fun j => bI (WO j)))), (ou, .inl (cJ, 1, .inr (.inl F9_366))), (od, .inl (cE, 1, .inr (.inr (.inr (.inl G)))))]) (va_runV (As := [.int (xs (i3 + 1)), .int (xs (i3 + 2))]) (rest := []) ⟨hx, hb, hml, hown, hts⟩ (c_X3_addRule l D cI cZ md (th) (N) (A) (R) (kw) (an) (nd) (wt) (B) (Hd) (O) (HM) (CO) (xs (i3 + 1)) (xs (i3 + 2)) (hn) (hR) (H).size) (cwV 2 hts gL_law_X3_addRule rfl rfl rfl (by decide +kernel) ⟨Nat.le_of_ble_eq_true rfl, Nat.le_of_ble_eq_true rfl⟩) (prw_V (q0 := 0) (ci := 3) (hP.sub (ws' := (wM cI cZ md th N A R kw an nd wt B Hd O HM CO)) [14, 15, 16, 17, 18, 19, 20, 21, 22] rfl) (hD.sub (ws' := (wM cI cZ md th N A R kw an nd wt B Hd O HM CO)) [14, 15, 16, 17, 18, 19, 20, 21, 22] (by decide) rfl) (hK.sub [0, 1] rfl) rfl rfl) rfl rfl hl.1 rfl (lv_room (Nat.le_of_ble_eq_true rfl)) dL_law_384 ⟨hcc 2 (by decide), hss 12 (by decide)⟩) hP hD hS hAp [14, 15, 16, 17, 18, 19, 20, 21, 22] [0, 1, 2, 3, 4, 5, 6, 7, 8, 9, 10, 11, 12, 13, 23, 24] rfl rfl (by decide) (by decide) (fun r_384 u_384 H locs hq_384 hP hD hS => ?_)
  obtain ⟨th9_384, B9_384, Hd9_384, O9_384, R9_384, kw9_384⟩ := u_384
  obtain ⟨hst_384, -⟩ := hq_384
  have hst_384 : (inS (xs (i3 + 1)) N = false ∧ th9_384 = 1 ∧ B9_384 = B ∧ Hd9_384 = Hd ∧ O9_384 = O ∧ R9_384 = R ∧ kw9_384 = kw) ∨ (inS (xs (i3 + 1)) N = true ∧ ¬ (xs (i3 + 2)) = -1 ∧ inR (xs (i3 + 2)) N = false ∧ th9_384 = 2 ∧ B9_384 = B ∧ Hd9_384 = Hd ∧ O9_384 = O ∧ R9_384 = R ∧ kw9_384 = kw) ∨ (inS (xs (i3 + 1)) N = true ∧ ((xs (i3 + 2)) = -1 ∨ inR (xs (i3 + 2)) N = true) ∧ 40 ≤ R ∧ th9_384 = 3 ∧ B9_384 = B ∧ Hd9_384 = Hd ∧ O9_384 = O ∧ R9_384 = R ∧ kw9_384 = kw) ∨ (inS (xs (i3 + 1)) N = true ∧ ((xs (i3 + 2)) = -1 ∨ inR (xs (i3 + 2)) N = true) ∧ R < 40 ∧ th9_384 = 0 ∧ r_384 = nI R ∧ B9_384 = upd B R (xs (i3 + 1)) ∧ Hd9_384 = upd Hd R (xs (i3 + 2)) ∧ O9_384 = updB O R true ∧ R9_384 = R + 1 ∧ kw9_384 = false) := hst_384
  have hP : va_P D vwCl (wZ cI cZ cJ cE ad md ou od N A fl9_366 an nd wt B9_366 Hd9_366 O9_366 R9_366 HL LB SO NG WO SA SE th9_384 N A R9_384 kw9_384 an nd wt B9_384 Hd9_384 O9_384 HM CO F9_366 G) H := hP.sub [0, 1, 2, 3, 4, 5, 6, 7, 8, 9, 10, 11, 12, 13, 16, 17, 18, 19, 20, 21, 22, 23, 24, 14, 15] rfl
  have hD : va_D (apS s) (wZ cI cZ cJ cE ad md ou od N A fl9_366 an nd wt B9_366 Hd9_366 O9_366 R9_366 HL LB SO NG WO SA SE th9_384 N A R9_384 kw9_384 an nd wt B9_384 Hd9_384 O9_384 HM CO F9_366 G) := hD.sub [0, 1, 2, 3, 4, 5, 6, 7, 8, 9, 10, 11, 12, 13, 16, 17, 18, 19, 20, 21, 22, 23, 24, 14, 15] (by decide) rfl
  refine lv_istore (lv' := [(7, .int (r_384)), (6, .int (r_366)), (0, .ref (b)), (1, .ref (ad 0)), (2, .ref (md 0)), (3, .ref (ou)), (4, .ref (od)), (5, .int (nI (i3)))]) hx hb dL_law_387 hl (by decide) rfl (fun ls hl => ?_)
  have hAG : ((th9_384) = r_366) ∧ ((r_366 = 0 → F9_366 0 = (r_384).toInt64)) ∧ (R9_384 = R9_366) ∧ (B9_384 = B9_366) ∧ (Hd9_384 = Hd9_366) ∧ (O9_384 = O9_366) ∧ (Inv N A fl9_366 nd wt B9_366 Hd9_366 O9_366 R9_366 HL LB SO NG WO SA SE kw9_384 HM CO) := by
    rcases hpo_366 with ⟨ha, rr, h1, ⟨h2, h3, h31⟩, h5, h6, h7, h8, h4, h9⟩ | ⟨ha, h2, h4, h5, h6, h7, h8⟩ | ⟨ha, ⟨h2, h3, h31⟩, h4, h5, h6, h7, h8⟩ | ⟨ha, ⟨h2, h3, h31⟩, h4, h5, h6, h7, h8⟩ <;> rcases hst_384 with ⟨g1, g2, k1, k2, k3, k4, k5⟩ | ⟨g1, g11, g12, g2, k1, k2, k3, k4, k5⟩ | ⟨g1, g11, g12, g2, k1, k2, k3, k4, k5⟩ | ⟨g1, g11, g12, g2, g3, k1, k2, k3, k4, k5⟩
    · rw [h2] at g1; cases g1
    · exact absurd h3 (no_head g11 g12)
    · omega
    · exact ⟨g2.trans ha.symm, fun _ => by rw [h9, h1, g3], k4.trans h8.symm, k1.trans h5.symm, k2.trans h6.symm, k3.trans h7.symm, by rw [h4, h5, h6, h7, h8, k5]; exact ⟨hn, hA, by omega, okH_add hH h3, hN, hw, fun q => (by cases q), fun q => (by cases q)⟩⟩
    · exact ⟨g2.trans ha.symm, fun h0 => absurd (ha.symm.trans h0) (by decide), k4.trans h8.symm, k1.trans h5.symm, k2.trans h6.symm, k3.trans h7.symm, by rw [h4, h5, h6, h7, h8, k5]; exact ⟨hn, hA, hR, hH, hN, hw, hsv, hkw⟩⟩
    · rw [h2] at g1; cases g1
    · rw [h2] at g1; cases g1
    · rw [h2] at g1; cases g1
    · rw [h2] at g1; cases g1
    · exact ⟨g2.trans ha.symm, fun h0 => absurd (ha.symm.trans h0) (by decide), k4.trans h8.symm, k1.trans h5.symm, k2.trans h6.symm, k3.trans h7.symm, by rw [h4, h5, h6, h7, h8, k5]; exact ⟨hn, hA, hR, hH, hN, hw, hsv, hkw⟩⟩
    · exact absurd g11 (no_head h3 h31)
    · exact absurd g11 (no_head h3 h31)
    · rw [h2] at g1; cases g1
    · exact absurd h3 (no_head g11 g12)
    · exact ⟨g2.trans ha.symm, fun h0 => absurd (ha.symm.trans h0) (by decide), k4.trans h8.symm, k1.trans h5.symm, k2.trans h6.symm, k3.trans h7.symm, by rw [h4, h5, h6, h7, h8, k5]; exact ⟨hn, hA, hR, hH, hN, hw, hsv, hkw⟩⟩
    · omega
  obtain ⟨hth, hvl, heR, heB, heHd, heO, hI2⟩ := hAG
  rw [heR, heB, heHd, heO] at hP hD
  refine lv_aload_n hx hb dL_law_389 rfl (lv_at hl 4 rfl) ?_
  refine pu_i (va_runV (As := []) (rest := []) ⟨hx, hb, hml, hown, hts⟩ (c_X3_thrown l D cI cZ md (th9_384) (N) (A) (R9_366) (kw9_384) (an) (nd) (wt) (B9_366) (Hd9_366) (O9_366) (HM) (CO) ) (cwV 0 hts gL_law_X3_thrown rfl rfl rfl (by decide +kernel) ⟨Nat.le_of_ble_eq_true rfl, Nat.le_of_ble_eq_true rfl⟩) (pre_V (q0 := 0) (ci := 3) (hP.sub (ws' := (wM cI cZ md th9_384 N A R9_366 kw9_384 an nd wt B9_366 Hd9_366 O9_366 HM CO)) [14, 15, 16, 17, 18, 19, 20, 21, 22] rfl) (hK.sub [0, 1] rfl) rfl rfl) rfl rfl hl.1 rfl (lv_room (Nat.le_of_ble_eq_true rfl)) dL_law_390 ⟨hcc 2 (by decide), hss 12 (by decide)⟩) ?_
  refine lv_iload hx hb dL_law_393 (lv_at hl 1 rfl) ?_
  refine lv_icmp_eq (tgt := 400) hx hb dL_law_395 (by decide) (fun c_395 => ?_) (fun c_395 => ?_)
  · skip
    refine lv_iload hx hb dL_law_400 (lv_at hl 1 rfl) ?_
    refine lv_if_ne (tgt := 417) hx hb dL_law_402 (by decide) (fun c_402 => ?_) (fun c_402 => ?_)
    · skip
      refine lv_goto (tgt := 1862) hx hb dL_law_417 (by decide) ?_
      exact hk (N) (A) (fl9_366) (an) (nd) (wt) (B9_366) (Hd9_366) (O9_366) (R9_366) (HL) (LB) (SO) (NG) (WO) (SA) (SE) (th9_384) (kw9_384) (HM) (CO) (F9_366) (G) _ _ hI2 hP hD hS ls (lv_sub hl [2, 3, 4, 5, 6, 7] rfl)
    · skip
      refine lv_aload_n hx hb dL_law_405 rfl (lv_at hl 5 rfl) ?_
      refine lv_iconst (v := 0) hx hb dL_law_406 (by decide) ?_
      refine ll_0 (D := D) (f := F9_366) hx hb hK hP 23 2 rfl rfl dL_law_407 ?_
      refine lv_iload hx hb dL_law_408 (lv_at hl 0 rfl) ?_
      refine lv_i2l hx hb dL_law_410 rfl ?_
      refine W.lcmp hx hb dL_law_411 ?_
      refine lv_if_eq (tgt := 417) hx hb dL_law_412 (by decide) (fun c_412 => ?_) (fun c_412 => ?_)
      · skip
        refine lv_goto (tgt := 1862) hx hb dL_law_417 (by decide) ?_
        exact hk (N) (A) (fl9_366) (an) (nd) (wt) (B9_366) (Hd9_366) (O9_366) (R9_366) (HL) (LB) (SO) (NG) (WO) (SA) (SE) (th9_384) (kw9_384) (HM) (CO) (F9_366) (G) _ _ hI2 hP hD hS ls (lv_sub hl [2, 3, 4, 5, 6, 7] rfl)
      · skip
        refine lv_iconst (v := 0) hx hb dL_law_415 (by decide) ?_
        exfalso
        first | exact c_412 hth | exact c_412 ((lg_cmp_eq _ _).mpr (hvl c_395)) | exact c_412 ((lg_cmp_eq _ _).mpr (hvl c_402)) | exact c_412 ((lg_cmp_eq _ _).mpr (hvl c_412))
  · skip
    refine lv_iconst (v := 0) hx hb dL_law_398 (by decide) ?_
    exfalso
    first | exact c_395 hth | exact c_395 ((lg_cmp_eq _ _).mpr (hvl c_395))
set_option maxHeartbeats 4000000 in
set_option maxRecDepth 100000 in
theorem law_c4 {p : Program} {e : Env} {s : State} {m : MethodId} {below : List Frame} {meth : Method} {c : Code} (l : Launch) (hst : l.stackTraces = false) {b L : Nat} {xs : Nat → Int32} (hL : L ≤ 1536) (C0 : lw_At p s m meth c b L xs) (D : va_G) (cI cZ cJ cE : ClassId) (ad md : Nat → Nat) (ou od : Nat) (hK : kn D (tyL cI cZ cJ cE) s) (hX : xK s) (hZ : xZ (apS s) s s.heap) (hY : yN s) (cs sl i3 : Nat) (hcs : cs + 2 ≤ 1061) (hsl : sl + 12 ≤ 12206) (hi3 : i3 + 3 ≤ L) (hk : lwK p l e s m below meth c b D cI cZ cJ cE ad md ou od cs sl i3) (N A : Nat) (fl : Bool) (an nd wt B Hd : Nat → Int32) (O : Nat → Bool) (R : Nat) (HL LB : Nat → Int32) (SO NG WO : Nat → Bool) (SA SE : Nat) (th : Int32) (kw : Bool) (HM : Nat → Int32) (CO : Nat → Bool) (F : Nat → Int64) (G : Nat → UInt64) (hI : Inv N A fl nd wt B Hd O R HL LB SO NG WO SA SE kw HM CO) (H : Heap) (locs : List Loc) (hP : va_P D vwCl (wZ cI cZ cJ cE ad md ou od N A fl an nd wt B Hd O R HL LB SO NG WO SA SE th N A R kw an nd wt B Hd O HM CO F G) H) (hD : va_D (apS s) (wZ cI cZ cJ cE ad md ou od N A fl an nd wt B Hd O R HL LB SO NG WO SA SE th N A R kw an nd wt B Hd O HM CO F G)) (hS : va_S (apS s) s.heap H locs) (ls : Array Slot) (hl : lv_has ls 9 [(0, .ref b), (1, .ref (ad 0)), (2, .ref (md 0)), (3, .ref ou), (4, .ref od), (5, .int (nI i3))]) : W p l e room_1 s m #[Value.ref b] below meth c H locs cs sl (lw_Z below #[Value.ref b] s) (F0 m 420 ls []) := by
  obtain ⟨hx, hb, hr, hml, hown, hts, hXs, hbl, hlocks, hgv⟩ := id C0
  have hts := fun w h => hts w (wsL_law_in w h)
  have hb : c.code = cL_law := hb
  have hbA : ¬ apS s b := Nat.not_le.mpr hbl
  have hAp : ∀ q : Nat, s.heap.size ≤ q → apS s q := fun _ h => h
  obtain ⟨hn, hA, hR, hH, hN, hw, hsv, hkw⟩ := hI
  have hcc : ∀ k, k ≤ 2 → cs + k ≤ room_1.cells := fun k hk => Nat.le_trans (Nat.add_le_add_left hk cs) hcs
  have hss : ∀ k, k ≤ 12 → sl + k ≤ room_1.slots := fun k hk => Nat.le_trans (Nat.add_le_add_left hk sl) hsl
  refine lv_aload_n hx hb dL_law_420 rfl (lv_at hl 1 rfl) ?_
  refine lv_aload_n hx hb dL_law_421 rfl (lv_at hl 0 rfl) ?_
  refine lv_iload hx hb dL_law_422 (lv_at hl 5 rfl) ?_
  refine lv_iconst (v := 1) hx hb dL_law_424 (by decide) ?_
  refine lv_iadd hx hb dL_law_425 ?_
  rw [nI_1]
  refine sld_ (i := i3 + 1) hx hb hXs hbl hbA hS (by omega) hL dL_law_426 ?_
  refine lv_aload_n hx hb dL_law_427 rfl (lv_at hl 0 rfl) ?_
  refine lv_iload hx hb dL_law_428 (lv_at hl 5 rfl) ?_
  refine lv_iconst (v := 2) hx hb dL_law_430 (by decide) ?_
  refine lv_iadd hx hb dL_law_431 ?_
  rw [show (2 : Int32) = nI 2 from rfl, nI_add]
  refine sld_ (i := i3 + 2) hx hb hXs hbl hbA hS (by omega) hL dL_law_432 ?_
  refine lv_if_eq (tgt := 440) hx hb dL_law_433 (by decide) (fun c_433 => ?_) (fun c_433 => ?_)
  · skip
    refine lv_iconst (v := 0) hx hb dL_law_440 (by decide) ?_
    refine lv_aload_n hx hb dL_law_441 rfl (lv_at hl 3 rfl) ?_
    refine mu_i (wr := [(md 0, .inr (3, [.int (th), .int (nI (N)), .ref (md 1), .int (nI (A)), .ref (md 2), .ref (md 3), .int (nI (R)), .ref (md 4), .ref (md 5), .ref (md 6), .int (bI (kw)), .ref (md 7), .ref (md 8)])), (md 1, .inl (cI, 24, .inl an)), (md 2, .inl (cI, 9, .inl nd)), (md 3, .inl (cI, 9, .inl wt)), (md 4, .inl (cI, 40, .inl B)), (md 5, .inl (cI, 40, .inl Hd)), (md 6, .inl (cZ, 40, .inl (fun j => bI (O j)))), (md 7, .inl (cI, 512, .inl HM)), (md 8, .inl (cZ, 512, .inl (fun j => bI (CO j)))), (od, .inl (cE, 1, .inr (.inr (.inr (.inl G)))))]) (vx_runSW (As := [.ref (ad 0), .int (xs (i3 + 1)), .int (0), .ref (ou)]) (rest := []) ⟨hx, hb, hml, hown, hts⟩ (c_L_turn l D cI cZ cJ cE ad ou (N) (A) (fl) (an) (nd) (wt) (B) (Hd) (O) (R) (HL) (LB) (SO) (NG) (WO) (SA) (SE) (F) (xs (i3 + 1)) (false) (hR) hst (H).size) (vx_cwSW 4 hts gL_law_L_turn rfl rfl rfl (by decide +kernel) ⟨Nat.le_of_ble_eq_true rfl, Nat.le_of_ble_eq_true rfl⟩) (prl_S (hP.sub (ws' := (wKL cI cZ cJ ad ou N A fl an nd wt B Hd O R HL LB SO NG WO SA SE F)) [0, 1, 2, 3, 4, 5, 6, 7, 8, 9, 10, 11, 12, 13, 23] rfl) (hD.sub (ws' := (wKL cI cZ cJ ad ou N A fl an nd wt B Hd O R HL LB SO NG WO SA SE F)) [0, 1, 2, 3, 4, 5, 6, 7, 8, 9, 10, 11, 12, 13, 23] (by decide) rfl) hK hX hZ hY hS (va_free (wc := (wKL cI cZ cJ ad ou N A fl an nd wt B Hd O R HL LB SO NG WO SA SE F)) hD hS hAp [0, 1, 2, 3, 4, 5, 6, 7, 8, 9, 10, 11, 12, 13, 23] rfl)) rfl rfl hl.1 rfl (lv_room (Nat.le_of_ble_eq_true rfl)) dL_law_442 ⟨hcc 1 (by decide), hss 6 (by decide)⟩) hP hD hS hAp [0, 1, 2, 3, 4, 5, 6, 7, 8, 9, 10, 11, 12, 13, 23] [14, 15, 16, 17, 18, 19, 20, 21, 22, 24] rfl rfl (by decide) (by decide) (fun r_442 u_442 H locs hq_442 hP hD hS => ?_)
    obtain ⟨fl9_442, O9_442, F9_442⟩ := u_442
    obtain ⟨hpo_442, -⟩ := hq_442
    have hpo_442 : (r_442 = 0 ∧ ∃ rr : Int32, (inR (xs (i3 + 1)) R = true) ∧ (∃ j, j < R ∧ (xs (i3 + 1)) = nI j ∧ rr = bI (O j) ∧ O9_442 = updB O j false) ∧ fl9_442 = false ∧ F9_442 0 = rr.toInt64) ∨ (r_442 = 1 ∧ (inR (xs (i3 + 1)) R = false) ∧ fl9_442 = fl ∧ O9_442 = O) := hpo_442
    have hP : va_P D vwCl (wZ cI cZ cJ cE ad md ou od N A fl9_442 an nd wt B Hd O9_442 R HL LB SO NG WO SA SE th N A R kw an nd wt B Hd O HM CO F9_442 G) H := hP.sub [10, 11, 12, 13, 14, 15, 16, 17, 18, 19, 20, 21, 22, 23, 0, 1, 2, 3, 4, 5, 6, 7, 8, 24, 9] rfl
    have hD : va_D (apS s) (wZ cI cZ cJ cE ad md ou od N A fl9_442 an nd wt B Hd O9_442 R HL LB SO NG WO SA SE th N A R kw an nd wt B Hd O HM CO F9_442 G) := hD.sub [10, 11, 12, 13, 14, 15, 16, 17, 18, 19, 20, 21, 22, 23, 0, 1, 2, 3, 4, 5, 6, 7, 8, 24, 9] (by decide) rfl
    refine W.widen (k := cs + 2) (n := sl + 12) (Nat.add_le_add_left (by decide) cs) (Nat.add_le_add_left (by decide) sl) ?_
    refine lv_istore (lv' := [(6, .int (r_442)), (0, .ref (b)), (1, .ref (ad 0)), (2, .ref (md 0)), (3, .ref (ou)), (4, .ref (od)), (5, .int (nI (i3)))]) hx hb dL_law_445 hl (by decide) rfl (fun ls hl => ?_)
    refine lv_aload_n hx hb dL_law_447 rfl (lv_at hl 3 rfl) ?_
    refine lv_aload_n hx hb dL_law_448 rfl (lv_at hl 1 rfl) ?_
    refine lv_iload hx hb dL_law_449 (lv_at hl 6 rfl) ?_
    refine lv_iconst (v := 1) hx hb dL_law_451 (by decide) ?_
    refine lv_iadd hx hb dL_law_452 ?_
    rw [nI_1]
    refine sld_ (i := i3 + 1) hx hb hXs hbl hbA hS (by omega) hL dL_law_453 ?_
    refine lv_aload_n hx hb dL_law_454 rfl (lv_at hl 1 rfl) ?_
    refine lv_iload hx hb dL_law_455 (lv_at hl 6 rfl) ?_
    refine lv_iconst (v := 2) hx hb dL_law_457 (by decide) ?_
    refine lv_iadd hx hb dL_law_458 ?_
    rw [show (2 : Int32) = nI 2 from rfl, nI_add]
    refine sld_ (i := i3 + 2) hx hb hXs hbl hbA hS (by omega) hL dL_law_459 ?_
    refine lv_if_eq (tgt := 467) hx hb dL_law_460 (by decide) (fun c_460 => ?_) (fun c_460 => ?_)
    · skip
      refine lv_iconst (v := 0) hx hb dL_law_467 (by decide) ?_
      refine mu_i (wr := [(ad 0, .inr (2, [.ref (ad 1), .ref (ad 2), .ref (ad 3), .ref (ad 4), .ref (ad 8), .int (nI (N)), .int (nI (A)), .int (bI (fl9_442))])), (ad 1, .inl (cI, 24, .inl an)), (ad 2, .inl (cI, 9, .inl nd)), (ad 3, .inl (cI, 9, .inl wt)), (ad 4, .inr (0, [.ref (ad 5), .ref (ad 6), .ref (ad 7), .int (nI (R))])), (ad 5, .inl (cI, 40, .inl B)), (ad 6, .inl (cI, 40, .inl Hd)), (ad 7, .inl (cZ, 40, .inl (fun j => bI (O9_442 j)))), (ad 8, .inr (1, [.ref (ad 9), .ref (ad 10), .ref (ad 11), .ref (ad 12), .ref (ad 13), .int (nI (SA)), .int (nI (SE))])), (ad 9, .inl (cI, 512, .inl HL)), (ad 10, .inl (cI, 512, .inl LB)), (ad 11, .inl (cZ, 512, .inl (fun j => bI (SO j)))), (ad 12, .inl (cZ, 512, .inl (fun j => bI (NG j)))), (ad 13, .inl (cZ, 512, .inl (fun j => bI (WO j)))), (ou, .inl (cJ, 1, .inr (.inl F9_442))), (od, .inl (cE, 1, .inr (.inr (.inr (.inl G)))))]) (va_runV (As := [.int (xs (i3 + 1)), .int (0)]) (rest := []) ⟨hx, hb, hml, hown, hts⟩ (c_X3_turn l D cI cZ md (th) (N) (A) (R) (kw) (an) (nd) (wt) (B) (Hd) (O) (HM) (CO) (xs (i3 + 1)) (false) (hR) (H).size) (cwV 2 hts gL_law_X3_turn rfl rfl rfl (by decide +kernel) ⟨Nat.le_of_ble_eq_true rfl, Nat.le_of_ble_eq_true rfl⟩) (prw_V (q0 := 0) (ci := 3) (hP.sub (ws' := (wM cI cZ md th N A R kw an nd wt B Hd O HM CO)) [14, 15, 16, 17, 18, 19, 20, 21, 22] rfl) (hD.sub (ws' := (wM cI cZ md th N A R kw an nd wt B Hd O HM CO)) [14, 15, 16, 17, 18, 19, 20, 21, 22] (by decide) rfl) (hK.sub [0, 1] rfl) rfl rfl) rfl rfl hl.1 rfl (lv_room (Nat.le_of_ble_eq_true rfl)) dL_law_468 ⟨hcc 2 (by decide), hss 12 (by decide)⟩) hP hD hS hAp [14, 15, 16, 17, 18, 19, 20, 21, 22] [0, 1, 2, 3, 4, 5, 6, 7, 8, 9, 10, 11, 12, 13, 23, 24] rfl rfl (by decide) (by decide) (fun r_468 u_468 H locs hq_468 hP hD hS => ?_)
      obtain ⟨th9_468, O9_468, kw9_468⟩ := u_468
      obtain ⟨hst_468, -⟩ := hq_468
      have hst_468 : (inR (xs (i3 + 1)) R = false ∧ th9_468 = 1 ∧ O9_468 = O ∧ kw9_468 = kw) ∨ (inR (xs (i3 + 1)) R = true ∧ th9_468 = 0 ∧ kw9_468 = false ∧ ∃ j, j < R ∧ (xs (i3 + 1)) = nI j ∧ r_468 = bI (O j) ∧ O9_468 = updB O j false) := hst_468
      have hP : va_P D vwCl (wZ cI cZ cJ cE ad md ou od N A fl9_442 an nd wt B Hd O9_442 R HL LB SO NG WO SA SE th9_468 N A R kw9_468 an nd wt B Hd O9_468 HM CO F9_442 G) H := hP.sub [0, 1, 2, 3, 4, 5, 6, 7, 8, 9, 10, 11, 12, 13, 16, 17, 18, 19, 20, 21, 22, 23, 24, 14, 15] rfl
      have hD : va_D (apS s) (wZ cI cZ cJ cE ad md ou od N A fl9_442 an nd wt B Hd O9_442 R HL LB SO NG WO SA SE th9_468 N A R kw9_468 an nd wt B Hd O9_468 HM CO F9_442 G) := hD.sub [0, 1, 2, 3, 4, 5, 6, 7, 8, 9, 10, 11, 12, 13, 16, 17, 18, 19, 20, 21, 22, 23, 24, 14, 15] (by decide) rfl
      refine lv_istore (lv' := [(7, .int (r_468)), (6, .int (r_442)), (0, .ref (b)), (1, .ref (ad 0)), (2, .ref (md 0)), (3, .ref (ou)), (4, .ref (od)), (5, .int (nI (i3)))]) hx hb dL_law_471 hl (by decide) rfl (fun ls hl => ?_)
      have hAG : ((th9_468) = r_442) ∧ ((r_442 = 0 → (r_468 = 0 → F9_442 0 = 0) ∧ (¬ r_468 = 0 → F9_442 0 = 1))) ∧ (O9_468 = O9_442) ∧ (Inv N A fl9_442 nd wt B Hd O9_442 R HL LB SO NG WO SA SE kw9_468 HM CO) := by
        rcases hpo_442 with ⟨ha, rr, h2, ⟨j, hj, hx9, hr9, hO9⟩, h4, h5⟩ | ⟨ha, h2, h4, h5⟩ <;> rcases hst_468 with ⟨g1, g2, g3, g4⟩ | ⟨g1, g2, g4, j2, hj2, hx8, hr8, hO8⟩
        · rw [h2] at g1; cases g1
        · have hjj := nI_same (by omega) (by omega) (hx9.symm.trans hx8)
          subst hjj
          exact ⟨g2.trans ha.symm, fun _ => zz_ h5 hr9 hr8, hO8.trans hO9.symm, by rw [h4, g4]; exact ⟨hn, hA, hR, hH, hN, hw, fun q => (by cases q), fun q => (by cases q)⟩⟩
        · exact ⟨g2.trans ha.symm, fun h0 => absurd (ha.symm.trans h0) (by decide), g3.trans h5.symm, by rw [h4, h5, g4]; exact ⟨hn, hA, hR, hH, hN, hw, hsv, hkw⟩⟩
        · rw [h2] at g1; cases g1
      obtain ⟨hth, hvl, heO, hI2⟩ := hAG
      rw [heO] at hP hD
      refine lv_aload_n hx hb dL_law_473 rfl (lv_at hl 4 rfl) ?_
      refine pu_i (va_runV (As := []) (rest := []) ⟨hx, hb, hml, hown, hts⟩ (c_X3_thrown l D cI cZ md (th9_468) (N) (A) (R) (kw9_468) (an) (nd) (wt) (B) (Hd) (O9_442) (HM) (CO) ) (cwV 0 hts gL_law_X3_thrown rfl rfl rfl (by decide +kernel) ⟨Nat.le_of_ble_eq_true rfl, Nat.le_of_ble_eq_true rfl⟩) (pre_V (q0 := 0) (ci := 3) (hP.sub (ws' := (wM cI cZ md th9_468 N A R kw9_468 an nd wt B Hd O9_442 HM CO)) [14, 15, 16, 17, 18, 19, 20, 21, 22] rfl) (hK.sub [0, 1] rfl) rfl rfl) rfl rfl hl.1 rfl (lv_room (Nat.le_of_ble_eq_true rfl)) dL_law_474 ⟨hcc 2 (by decide), hss 12 (by decide)⟩) ?_
      refine lv_iload hx hb dL_law_477 (lv_at hl 1 rfl) ?_
      refine lv_icmp_eq (tgt := 484) hx hb dL_law_479 (by decide) (fun c_479 => ?_) (fun c_479 => ?_)
      · skip
        refine lv_iload hx hb dL_law_484 (lv_at hl 1 rfl) ?_
        refine lv_if_ne (tgt := 508) hx hb dL_law_486 (by decide) (fun c_486 => ?_) (fun c_486 => ?_)
        · skip
          refine lv_goto (tgt := 1862) hx hb dL_law_508 (by decide) ?_
          exact hk (N) (A) (fl9_442) (an) (nd) (wt) (B) (Hd) (O9_442) (R) (HL) (LB) (SO) (NG) (WO) (SA) (SE) (th9_468) (kw9_468) (HM) (CO) (F9_442) (G) _ _ hI2 hP hD hS ls (lv_sub hl [2, 3, 4, 5, 6, 7] rfl)
        · skip
          refine lv_aload_n hx hb dL_law_489 rfl (lv_at hl 5 rfl) ?_
          refine lv_iconst (v := 0) hx hb dL_law_490 (by decide) ?_
          refine ll_0 (D := D) (f := F9_442) hx hb hK hP 23 2 rfl rfl dL_law_491 ?_
          refine lv_iload hx hb dL_law_492 (lv_at hl 0 rfl) ?_
          refine lv_if_eq (tgt := 501) hx hb dL_law_494 (by decide) (fun c_494 => ?_) (fun c_494 => ?_)
          · skip
            refine lv_lconst (v := 0) hx hb dL_law_501 rfl ?_
            refine W.lcmp hx hb dL_law_502 ?_
            refine lv_if_eq (tgt := 508) hx hb dL_law_503 (by decide) (fun c_503 => ?_) (fun c_503 => ?_)
            · skip
              refine lv_goto (tgt := 1862) hx hb dL_law_508 (by decide) ?_
              exact hk (N) (A) (fl9_442) (an) (nd) (wt) (B) (Hd) (O9_442) (R) (HL) (LB) (SO) (NG) (WO) (SA) (SE) (th9_468) (kw9_468) (HM) (CO) (F9_442) (G) _ _ hI2 hP hD hS ls (lv_sub hl [2, 3, 4, 5, 6, 7] rfl)
            · skip
              refine lv_iconst (v := 0) hx hb dL_law_506 (by decide) ?_
              exfalso
              first | exact c_503 hth | exact c_503 ((lg_cmp_eq _ _).mpr (hvl c_433)) | exact c_503 ((lg_cmp_eq _ _).mpr ((hvl c_433).1 c_433)) | exact c_503 ((lg_cmp_eq _ _).mpr ((hvl c_433).2 c_433)) | exact c_503 ((lg_cmp_eq _ _).mpr ((hvl c_433).1 c_460)) | exact c_503 ((lg_cmp_eq _ _).mpr ((hvl c_433).2 c_460)) | exact c_503 ((lg_cmp_eq _ _).mpr ((hvl c_433).1 c_479)) | exact c_503 ((lg_cmp_eq _ _).mpr ((hvl c_433).2 c_479)) | exact c_503 ((lg_cmp_eq _ _).mpr ((hvl c_433).1 c_486)) | exact c_503 ((lg_cmp_eq _ _).mpr ((hvl c_433).2 c_486)) | exact c_503 ((lg_cmp_eq _ _).mpr ((hvl c_433).1 c_494)) | exact c_503 ((lg_cmp_eq _ _).mpr ((hvl c_433).2 c_494)) | exact c_503 ((lg_cmp_eq _ _).mpr ((hvl c_433).1 c_503)) | exact c_503 ((lg_cmp_eq _ _).mpr ((hvl c_433).2 c_503)) | exact c_503 ((lg_cmp_eq _ _).mpr (hvl c_460)) | exact c_503 ((lg_cmp_eq _ _).mpr ((hvl c_460).1 c_433)) | exact c_503 ((lg_cmp_eq _ _).mpr ((hvl c_460).2 c_433)) | exact c_503 ((lg_cmp_eq _ _).mpr ((hvl c_460).1 c_460)) | exact c_503 ((lg_cmp_eq _ _).mpr ((hvl c_460).2 c_460)) | exact c_503 ((lg_cmp_eq _ _).mpr ((hvl c_460).1 c_479)) | exact c_503 ((lg_cmp_eq _ _).mpr ((hvl c_460).2 c_479)) | exact c_503 ((lg_cmp_eq _ _).mpr ((hvl c_460).1 c_486)) | exact c_503 ((lg_cmp_eq _ _).mpr ((hvl c_460).2 c_486)) | exact c_503 ((lg_cmp_eq _ _).mpr ((hvl c_460).1 c_494)) | exact c_503 ((lg_cmp_eq _ _).mpr ((hvl c_460).2 c_494)) | exact c_503 ((lg_cmp_eq _ _).mpr ((hvl c_460).1 c_503)) | exact c_503 ((lg_cmp_eq _ _).mpr ((hvl c_460).2 c_503)) | exact c_503 ((lg_cmp_eq _ _).mpr (hvl c_479)) | exact c_503 ((lg_cmp_eq _ _).mpr ((hvl c_479).1 c_433)) | exact c_503 ((lg_cmp_eq _ _).mpr ((hvl c_479).2 c_433)) | exact c_503 ((lg_cmp_eq _ _).mpr ((hvl c_479).1 c_460)) | exact c_503 ((lg_cmp_eq _ _).mpr ((hvl c_479).2 c_460)) | exact c_503 ((lg_cmp_eq _ _).mpr ((hvl c_479).1 c_479)) | exact c_503 ((lg_cmp_eq _ _).mpr ((hvl c_479).2 c_479)) | exact c_503 ((lg_cmp_eq _ _).mpr ((hvl c_479).1 c_486)) | exact c_503 ((lg_cmp_eq _ _).mpr ((hvl c_479).2 c_486)) | exact c_503 ((lg_cmp_eq _ _).mpr ((hvl c_479).1 c_494)) | exact c_503 ((lg_cmp_eq _ _).mpr ((hvl c_479).2 c_494)) | exact c_503 ((lg_cmp_eq _ _).mpr ((hvl c_479).1 c_503)) | exact c_503 ((lg_cmp_eq _ _).mpr ((hvl c_479).2 c_503)) | exact c_503 ((lg_cmp_eq _ _).mpr (hvl c_486)) | exact c_503 ((lg_cmp_eq _ _).mpr ((hvl c_486).1 c_433)) | exact c_503 ((lg_cmp_eq _ _).mpr ((hvl c_486).2 c_433)) | exact c_503 ((lg_cmp_eq _ _).mpr ((hvl c_486).1 c_460)) | exact c_503 ((lg_cmp_eq _ _).mpr ((hvl c_486).2 c_460)) | exact c_503 ((lg_cmp_eq _ _).mpr ((hvl c_486).1 c_479)) | exact c_503 ((lg_cmp_eq _ _).mpr ((hvl c_486).2 c_479)) | exact c_503 ((lg_cmp_eq _ _).mpr ((hvl c_486).1 c_486)) | exact c_503 ((lg_cmp_eq _ _).mpr ((hvl c_486).2 c_486)) | exact c_503 ((lg_cmp_eq _ _).mpr ((hvl c_486).1 c_494)) | exact c_503 ((lg_cmp_eq _ _).mpr ((hvl c_486).2 c_494)) | exact c_503 ((lg_cmp_eq _ _).mpr ((hvl c_486).1 c_503)) | exact c_503 ((lg_cmp_eq _ _).mpr ((hvl c_486).2 c_503)) | exact c_503 ((lg_cmp_eq _ _).mpr (hvl c_494)) | exact c_503 ((lg_cmp_eq _ _).mpr ((hvl c_494).1 c_433)) | exact c_503 ((lg_cmp_eq _ _).mpr ((hvl c_494).2 c_433)) | exact c_503 ((lg_cmp_eq _ _).mpr ((hvl c_494).1 c_460)) | exact c_503 ((lg_cmp_eq _ _).mpr ((hvl c_494).2 c_460)) | exact c_503 ((lg_cmp_eq _ _).mpr ((hvl c_494).1 c_479)) | exact c_503 ((lg_cmp_eq _ _).mpr ((hvl c_494).2 c_479)) | exact c_503 ((lg_cmp_eq _ _).mpr ((hvl c_494).1 c_486)) | exact c_503 ((lg_cmp_eq _ _).mpr ((hvl c_494).2 c_486)) | exact c_503 ((lg_cmp_eq _ _).mpr ((hvl c_494).1 c_494)) | exact c_503 ((lg_cmp_eq _ _).mpr ((hvl c_494).2 c_494)) | exact c_503 ((lg_cmp_eq _ _).mpr ((hvl c_494).1 c_503)) | exact c_503 ((lg_cmp_eq _ _).mpr ((hvl c_494).2 c_503)) | exact c_503 ((lg_cmp_eq _ _).mpr (hvl c_503)) | exact c_503 ((lg_cmp_eq _ _).mpr ((hvl c_503).1 c_433)) | exact c_503 ((lg_cmp_eq _ _).mpr ((hvl c_503).2 c_433)) | exact c_503 ((lg_cmp_eq _ _).mpr ((hvl c_503).1 c_460)) | exact c_503 ((lg_cmp_eq _ _).mpr ((hvl c_503).2 c_460)) | exact c_503 ((lg_cmp_eq _ _).mpr ((hvl c_503).1 c_479)) | exact c_503 ((lg_cmp_eq _ _).mpr ((hvl c_503).2 c_479)) | exact c_503 ((lg_cmp_eq _ _).mpr ((hvl c_503).1 c_486)) | exact c_503 ((lg_cmp_eq _ _).mpr ((hvl c_503).2 c_486)) | exact c_503 ((lg_cmp_eq _ _).mpr ((hvl c_503).1 c_494)) | exact c_503 ((lg_cmp_eq _ _).mpr ((hvl c_503).2 c_494)) | exact c_503 ((lg_cmp_eq _ _).mpr ((hvl c_503).1 c_503)) | exact c_503 ((lg_cmp_eq _ _).mpr ((hvl c_503).2 c_503))
          · skip
            refine lv_lconst (v := 1) hx hb dL_law_497 rfl ?_
            refine lv_goto (tgt := 502) hx hb dL_law_498 (by decide) ?_
            refine W.lcmp hx hb dL_law_502 ?_
            refine lv_if_eq (tgt := 508) hx hb dL_law_503 (by decide) (fun c_503 => ?_) (fun c_503 => ?_)
            · skip
              refine lv_goto (tgt := 1862) hx hb dL_law_508 (by decide) ?_
              exact hk (N) (A) (fl9_442) (an) (nd) (wt) (B) (Hd) (O9_442) (R) (HL) (LB) (SO) (NG) (WO) (SA) (SE) (th9_468) (kw9_468) (HM) (CO) (F9_442) (G) _ _ hI2 hP hD hS ls (lv_sub hl [2, 3, 4, 5, 6, 7] rfl)
            · skip
              refine lv_iconst (v := 0) hx hb dL_law_506 (by decide) ?_
              exfalso
              first | exact c_503 hth | exact c_503 ((lg_cmp_eq _ _).mpr (hvl c_433)) | exact c_503 ((lg_cmp_eq _ _).mpr ((hvl c_433).1 c_433)) | exact c_503 ((lg_cmp_eq _ _).mpr ((hvl c_433).2 c_433)) | exact c_503 ((lg_cmp_eq _ _).mpr ((hvl c_433).1 c_460)) | exact c_503 ((lg_cmp_eq _ _).mpr ((hvl c_433).2 c_460)) | exact c_503 ((lg_cmp_eq _ _).mpr ((hvl c_433).1 c_479)) | exact c_503 ((lg_cmp_eq _ _).mpr ((hvl c_433).2 c_479)) | exact c_503 ((lg_cmp_eq _ _).mpr ((hvl c_433).1 c_486)) | exact c_503 ((lg_cmp_eq _ _).mpr ((hvl c_433).2 c_486)) | exact c_503 ((lg_cmp_eq _ _).mpr ((hvl c_433).1 c_494)) | exact c_503 ((lg_cmp_eq _ _).mpr ((hvl c_433).2 c_494)) | exact c_503 ((lg_cmp_eq _ _).mpr ((hvl c_433).1 c_503)) | exact c_503 ((lg_cmp_eq _ _).mpr ((hvl c_433).2 c_503)) | exact c_503 ((lg_cmp_eq _ _).mpr (hvl c_460)) | exact c_503 ((lg_cmp_eq _ _).mpr ((hvl c_460).1 c_433)) | exact c_503 ((lg_cmp_eq _ _).mpr ((hvl c_460).2 c_433)) | exact c_503 ((lg_cmp_eq _ _).mpr ((hvl c_460).1 c_460)) | exact c_503 ((lg_cmp_eq _ _).mpr ((hvl c_460).2 c_460)) | exact c_503 ((lg_cmp_eq _ _).mpr ((hvl c_460).1 c_479)) | exact c_503 ((lg_cmp_eq _ _).mpr ((hvl c_460).2 c_479)) | exact c_503 ((lg_cmp_eq _ _).mpr ((hvl c_460).1 c_486)) | exact c_503 ((lg_cmp_eq _ _).mpr ((hvl c_460).2 c_486)) | exact c_503 ((lg_cmp_eq _ _).mpr ((hvl c_460).1 c_494)) | exact c_503 ((lg_cmp_eq _ _).mpr ((hvl c_460).2 c_494)) | exact c_503 ((lg_cmp_eq _ _).mpr ((hvl c_460).1 c_503)) | exact c_503 ((lg_cmp_eq _ _).mpr ((hvl c_460).2 c_503)) | exact c_503 ((lg_cmp_eq _ _).mpr (hvl c_479)) | exact c_503 ((lg_cmp_eq _ _).mpr ((hvl c_479).1 c_433)) | exact c_503 ((lg_cmp_eq _ _).mpr ((hvl c_479).2 c_433)) | exact c_503 ((lg_cmp_eq _ _).mpr ((hvl c_479).1 c_460)) | exact c_503 ((lg_cmp_eq _ _).mpr ((hvl c_479).2 c_460)) | exact c_503 ((lg_cmp_eq _ _).mpr ((hvl c_479).1 c_479)) | exact c_503 ((lg_cmp_eq _ _).mpr ((hvl c_479).2 c_479)) | exact c_503 ((lg_cmp_eq _ _).mpr ((hvl c_479).1 c_486)) | exact c_503 ((lg_cmp_eq _ _).mpr ((hvl c_479).2 c_486)) | exact c_503 ((lg_cmp_eq _ _).mpr ((hvl c_479).1 c_494)) | exact c_503 ((lg_cmp_eq _ _).mpr ((hvl c_479).2 c_494)) | exact c_503 ((lg_cmp_eq _ _).mpr ((hvl c_479).1 c_503)) | exact c_503 ((lg_cmp_eq _ _).mpr ((hvl c_479).2 c_503)) | exact c_503 ((lg_cmp_eq _ _).mpr (hvl c_486)) | exact c_503 ((lg_cmp_eq _ _).mpr ((hvl c_486).1 c_433)) | exact c_503 ((lg_cmp_eq _ _).mpr ((hvl c_486).2 c_433)) | exact c_503 ((lg_cmp_eq _ _).mpr ((hvl c_486).1 c_460)) | exact c_503 ((lg_cmp_eq _ _).mpr ((hvl c_486).2 c_460)) | exact c_503 ((lg_cmp_eq _ _).mpr ((hvl c_486).1 c_479)) | exact c_503 ((lg_cmp_eq _ _).mpr ((hvl c_486).2 c_479)) | exact c_503 ((lg_cmp_eq _ _).mpr ((hvl c_486).1 c_486)) | exact c_503 ((lg_cmp_eq _ _).mpr ((hvl c_486).2 c_486)) | exact c_503 ((lg_cmp_eq _ _).mpr ((hvl c_486).1 c_494)) | exact c_503 ((lg_cmp_eq _ _).mpr ((hvl c_486).2 c_494)) | exact c_503 ((lg_cmp_eq _ _).mpr ((hvl c_486).1 c_503)) | exact c_503 ((lg_cmp_eq _ _).mpr ((hvl c_486).2 c_503)) | exact c_503 ((lg_cmp_eq _ _).mpr (hvl c_494)) | exact c_503 ((lg_cmp_eq _ _).mpr ((hvl c_494).1 c_433)) | exact c_503 ((lg_cmp_eq _ _).mpr ((hvl c_494).2 c_433)) | exact c_503 ((lg_cmp_eq _ _).mpr ((hvl c_494).1 c_460)) | exact c_503 ((lg_cmp_eq _ _).mpr ((hvl c_494).2 c_460)) | exact c_503 ((lg_cmp_eq _ _).mpr ((hvl c_494).1 c_479)) | exact c_503 ((lg_cmp_eq _ _).mpr ((hvl c_494).2 c_479)) | exact c_503 ((lg_cmp_eq _ _).mpr ((hvl c_494).1 c_486)) | exact c_503 ((lg_cmp_eq _ _).mpr ((hvl c_494).2 c_486)) | exact c_503 ((lg_cmp_eq _ _).mpr ((hvl c_494).1 c_494)) | exact c_503 ((lg_cmp_eq _ _).mpr ((hvl c_494).2 c_494)) | exact c_503 ((lg_cmp_eq _ _).mpr ((hvl c_494).1 c_503)) | exact c_503 ((lg_cmp_eq _ _).mpr ((hvl c_494).2 c_503)) | exact c_503 ((lg_cmp_eq _ _).mpr (hvl c_503)) | exact c_503 ((lg_cmp_eq _ _).mpr ((hvl c_503).1 c_433)) | exact c_503 ((lg_cmp_eq _ _).mpr ((hvl c_503).2 c_433)) | exact c_503 ((lg_cmp_eq _ _).mpr ((hvl c_503).1 c_460)) | exact c_503 ((lg_cmp_eq _ _).mpr ((hvl c_503).2 c_460)) | exact c_503 ((lg_cmp_eq _ _).mpr ((hvl c_503).1 c_479)) | exact c_503 ((lg_cmp_eq _ _).mpr ((hvl c_503).2 c_479)) | exact c_503 ((lg_cmp_eq _ _).mpr ((hvl c_503).1 c_486)) | exact c_503 ((lg_cmp_eq _ _).mpr ((hvl c_503).2 c_486)) | exact c_503 ((lg_cmp_eq _ _).mpr ((hvl c_503).1 c_494)) | exact c_503 ((lg_cmp_eq _ _).mpr ((hvl c_503).2 c_494)) | exact c_503 ((lg_cmp_eq _ _).mpr ((hvl c_503).1 c_503)) | exact c_503 ((lg_cmp_eq _ _).mpr ((hvl c_503).2 c_503))
      · skip
        refine lv_iconst (v := 0) hx hb dL_law_482 (by decide) ?_
        exfalso
        first | exact c_479 hth | exact c_479 ((lg_cmp_eq _ _).mpr (hvl c_433)) | exact c_479 ((lg_cmp_eq _ _).mpr ((hvl c_433).1 c_433)) | exact c_479 ((lg_cmp_eq _ _).mpr ((hvl c_433).2 c_433)) | exact c_479 ((lg_cmp_eq _ _).mpr ((hvl c_433).1 c_460)) | exact c_479 ((lg_cmp_eq _ _).mpr ((hvl c_433).2 c_460)) | exact c_479 ((lg_cmp_eq _ _).mpr ((hvl c_433).1 c_479)) | exact c_479 ((lg_cmp_eq _ _).mpr ((hvl c_433).2 c_479)) | exact c_479 ((lg_cmp_eq _ _).mpr (hvl c_460)) | exact c_479 ((lg_cmp_eq _ _).mpr ((hvl c_460).1 c_433)) | exact c_479 ((lg_cmp_eq _ _).mpr ((hvl c_460).2 c_433)) | exact c_479 ((lg_cmp_eq _ _).mpr ((hvl c_460).1 c_460)) | exact c_479 ((lg_cmp_eq _ _).mpr ((hvl c_460).2 c_460)) | exact c_479 ((lg_cmp_eq _ _).mpr ((hvl c_460).1 c_479)) | exact c_479 ((lg_cmp_eq _ _).mpr ((hvl c_460).2 c_479)) | exact c_479 ((lg_cmp_eq _ _).mpr (hvl c_479)) | exact c_479 ((lg_cmp_eq _ _).mpr ((hvl c_479).1 c_433)) | exact c_479 ((lg_cmp_eq _ _).mpr ((hvl c_479).2 c_433)) | exact c_479 ((lg_cmp_eq _ _).mpr ((hvl c_479).1 c_460)) | exact c_479 ((lg_cmp_eq _ _).mpr ((hvl c_479).2 c_460)) | exact c_479 ((lg_cmp_eq _ _).mpr ((hvl c_479).1 c_479)) | exact c_479 ((lg_cmp_eq _ _).mpr ((hvl c_479).2 c_479))
    · skip
      exact absurd c_433 c_460
  · skip
    refine lv_iconst (v := 1) hx hb dL_law_436 (by decide) ?_
    refine lv_goto (tgt := 441) hx hb dL_law_437 (by decide) ?_
    refine lv_aload_n hx hb dL_law_441 rfl (lv_at hl 3 rfl) ?_
    refine mu_i (wr := [(md 0, .inr (3, [.int (th), .int (nI (N)), .ref (md 1), .int (nI (A)), .ref (md 2), .ref (md 3), .int (nI (R)), .ref (md 4), .ref (md 5), .ref (md 6), .int (bI (kw)), .ref (md 7), .ref (md 8)])), (md 1, .inl (cI, 24, .inl an)), (md 2, .inl (cI, 9, .inl nd)), (md 3, .inl (cI, 9, .inl wt)), (md 4, .inl (cI, 40, .inl B)), (md 5, .inl (cI, 40, .inl Hd)), (md 6, .inl (cZ, 40, .inl (fun j => bI (O j)))), (md 7, .inl (cI, 512, .inl HM)), (md 8, .inl (cZ, 512, .inl (fun j => bI (CO j)))), (od, .inl (cE, 1, .inr (.inr (.inr (.inl G)))))]) (vx_runSW (As := [.ref (ad 0), .int (xs (i3 + 1)), .int (1), .ref (ou)]) (rest := []) ⟨hx, hb, hml, hown, hts⟩ (c_L_turn l D cI cZ cJ cE ad ou (N) (A) (fl) (an) (nd) (wt) (B) (Hd) (O) (R) (HL) (LB) (SO) (NG) (WO) (SA) (SE) (F) (xs (i3 + 1)) (true) (hR) hst (H).size) (vx_cwSW 4 hts gL_law_L_turn rfl rfl rfl (by decide +kernel) ⟨Nat.le_of_ble_eq_true rfl, Nat.le_of_ble_eq_true rfl⟩) (prl_S (hP.sub (ws' := (wKL cI cZ cJ ad ou N A fl an nd wt B Hd O R HL LB SO NG WO SA SE F)) [0, 1, 2, 3, 4, 5, 6, 7, 8, 9, 10, 11, 12, 13, 23] rfl) (hD.sub (ws' := (wKL cI cZ cJ ad ou N A fl an nd wt B Hd O R HL LB SO NG WO SA SE F)) [0, 1, 2, 3, 4, 5, 6, 7, 8, 9, 10, 11, 12, 13, 23] (by decide) rfl) hK hX hZ hY hS (va_free (wc := (wKL cI cZ cJ ad ou N A fl an nd wt B Hd O R HL LB SO NG WO SA SE F)) hD hS hAp [0, 1, 2, 3, 4, 5, 6, 7, 8, 9, 10, 11, 12, 13, 23] rfl)) rfl rfl hl.1 rfl (lv_room (Nat.le_of_ble_eq_true rfl)) dL_law_442 ⟨hcc 1 (by decide), hss 6 (by decide)⟩) hP hD hS hAp [0, 1, 2, 3, 4, 5, 6, 7, 8, 9, 10, 11, 12, 13, 23] [14, 15, 16, 17, 18, 19, 20, 21, 22, 24] rfl rfl (by decide) (by decide) (fun r_442 u_442 H locs hq_442 hP hD hS => ?_)
    obtain ⟨fl9_442, O9_442, F9_442⟩ := u_442
    obtain ⟨hpo_442, -⟩ := hq_442
    have hpo_442 : (r_442 = 0 ∧ ∃ rr : Int32, (inR (xs (i3 + 1)) R = true) ∧ (∃ j, j < R ∧ (xs (i3 + 1)) = nI j ∧ rr = bI (O j) ∧ O9_442 = updB O j true) ∧ fl9_442 = false ∧ F9_442 0 = rr.toInt64) ∨ (r_442 = 1 ∧ (inR (xs (i3 + 1)) R = false) ∧ fl9_442 = fl ∧ O9_442 = O) := hpo_442
    have hP : va_P D vwCl (wZ cI cZ cJ cE ad md ou od N A fl9_442 an nd wt B Hd O9_442 R HL LB SO NG WO SA SE th N A R kw an nd wt B Hd O HM CO F9_442 G) H := hP.sub [10, 11, 12, 13, 14, 15, 16, 17, 18, 19, 20, 21, 22, 23, 0, 1, 2, 3, 4, 5, 6, 7, 8, 24, 9] rfl
    have hD : va_D (apS s) (wZ cI cZ cJ cE ad md ou od N A fl9_442 an nd wt B Hd O9_442 R HL LB SO NG WO SA SE th N A R kw an nd wt B Hd O HM CO F9_442 G) := hD.sub [10, 11, 12, 13, 14, 15, 16, 17, 18, 19, 20, 21, 22, 23, 0, 1, 2, 3, 4, 5, 6, 7, 8, 24, 9] (by decide) rfl
    refine W.widen (k := cs + 2) (n := sl + 12) (Nat.add_le_add_left (by decide) cs) (Nat.add_le_add_left (by decide) sl) ?_
    refine lv_istore (lv' := [(6, .int (r_442)), (0, .ref (b)), (1, .ref (ad 0)), (2, .ref (md 0)), (3, .ref (ou)), (4, .ref (od)), (5, .int (nI (i3)))]) hx hb dL_law_445 hl (by decide) rfl (fun ls hl => ?_)
    refine lv_aload_n hx hb dL_law_447 rfl (lv_at hl 3 rfl) ?_
    refine lv_aload_n hx hb dL_law_448 rfl (lv_at hl 1 rfl) ?_
    refine lv_iload hx hb dL_law_449 (lv_at hl 6 rfl) ?_
    refine lv_iconst (v := 1) hx hb dL_law_451 (by decide) ?_
    refine lv_iadd hx hb dL_law_452 ?_
    rw [nI_1]
    refine sld_ (i := i3 + 1) hx hb hXs hbl hbA hS (by omega) hL dL_law_453 ?_
    refine lv_aload_n hx hb dL_law_454 rfl (lv_at hl 1 rfl) ?_
    refine lv_iload hx hb dL_law_455 (lv_at hl 6 rfl) ?_
    refine lv_iconst (v := 2) hx hb dL_law_457 (by decide) ?_
    refine lv_iadd hx hb dL_law_458 ?_
    rw [show (2 : Int32) = nI 2 from rfl, nI_add]
    refine sld_ (i := i3 + 2) hx hb hXs hbl hbA hS (by omega) hL dL_law_459 ?_
    refine lv_if_eq (tgt := 467) hx hb dL_law_460 (by decide) (fun c_460 => ?_) (fun c_460 => ?_)
    · skip
      exact absurd c_460 c_433
    · skip
      refine lv_iconst (v := 1) hx hb dL_law_463 (by decide) ?_
      refine lv_goto (tgt := 468) hx hb dL_law_464 (by decide) ?_
      refine mu_i (wr := [(ad 0, .inr (2, [.ref (ad 1), .ref (ad 2), .ref (ad 3), .ref (ad 4), .ref (ad 8), .int (nI (N)), .int (nI (A)), .int (bI (fl9_442))])), (ad 1, .inl (cI, 24, .inl an)), (ad 2, .inl (cI, 9, .inl nd)), (ad 3, .inl (cI, 9, .inl wt)), (ad 4, .inr (0, [.ref (ad 5), .ref (ad 6), .ref (ad 7), .int (nI (R))])), (ad 5, .inl (cI, 40, .inl B)), (ad 6, .inl (cI, 40, .inl Hd)), (ad 7, .inl (cZ, 40, .inl (fun j => bI (O9_442 j)))), (ad 8, .inr (1, [.ref (ad 9), .ref (ad 10), .ref (ad 11), .ref (ad 12), .ref (ad 13), .int (nI (SA)), .int (nI (SE))])), (ad 9, .inl (cI, 512, .inl HL)), (ad 10, .inl (cI, 512, .inl LB)), (ad 11, .inl (cZ, 512, .inl (fun j => bI (SO j)))), (ad 12, .inl (cZ, 512, .inl (fun j => bI (NG j)))), (ad 13, .inl (cZ, 512, .inl (fun j => bI (WO j)))), (ou, .inl (cJ, 1, .inr (.inl F9_442))), (od, .inl (cE, 1, .inr (.inr (.inr (.inl G)))))]) (va_runV (As := [.int (xs (i3 + 1)), .int (1)]) (rest := []) ⟨hx, hb, hml, hown, hts⟩ (c_X3_turn l D cI cZ md (th) (N) (A) (R) (kw) (an) (nd) (wt) (B) (Hd) (O) (HM) (CO) (xs (i3 + 1)) (true) (hR) (H).size) (cwV 2 hts gL_law_X3_turn rfl rfl rfl (by decide +kernel) ⟨Nat.le_of_ble_eq_true rfl, Nat.le_of_ble_eq_true rfl⟩) (prw_V (q0 := 0) (ci := 3) (hP.sub (ws' := (wM cI cZ md th N A R kw an nd wt B Hd O HM CO)) [14, 15, 16, 17, 18, 19, 20, 21, 22] rfl) (hD.sub (ws' := (wM cI cZ md th N A R kw an nd wt B Hd O HM CO)) [14, 15, 16, 17, 18, 19, 20, 21, 22] (by decide) rfl) (hK.sub [0, 1] rfl) rfl rfl) rfl rfl hl.1 rfl (lv_room (Nat.le_of_ble_eq_true rfl)) dL_law_468 ⟨hcc 2 (by decide), hss 12 (by decide)⟩) hP hD hS hAp [14, 15, 16, 17, 18, 19, 20, 21, 22] [0, 1, 2, 3, 4, 5, 6, 7, 8, 9, 10, 11, 12, 13, 23, 24] rfl rfl (by decide) (by decide) (fun r_468 u_468 H locs hq_468 hP hD hS => ?_)
      obtain ⟨th9_468, O9_468, kw9_468⟩ := u_468
      obtain ⟨hst_468, -⟩ := hq_468
      have hst_468 : (inR (xs (i3 + 1)) R = false ∧ th9_468 = 1 ∧ O9_468 = O ∧ kw9_468 = kw) ∨ (inR (xs (i3 + 1)) R = true ∧ th9_468 = 0 ∧ kw9_468 = false ∧ ∃ j, j < R ∧ (xs (i3 + 1)) = nI j ∧ r_468 = bI (O j) ∧ O9_468 = updB O j true) := hst_468
      have hP : va_P D vwCl (wZ cI cZ cJ cE ad md ou od N A fl9_442 an nd wt B Hd O9_442 R HL LB SO NG WO SA SE th9_468 N A R kw9_468 an nd wt B Hd O9_468 HM CO F9_442 G) H := hP.sub [0, 1, 2, 3, 4, 5, 6, 7, 8, 9, 10, 11, 12, 13, 16, 17, 18, 19, 20, 21, 22, 23, 24, 14, 15] rfl
      have hD : va_D (apS s) (wZ cI cZ cJ cE ad md ou od N A fl9_442 an nd wt B Hd O9_442 R HL LB SO NG WO SA SE th9_468 N A R kw9_468 an nd wt B Hd O9_468 HM CO F9_442 G) := hD.sub [0, 1, 2, 3, 4, 5, 6, 7, 8, 9, 10, 11, 12, 13, 16, 17, 18, 19, 20, 21, 22, 23, 24, 14, 15] (by decide) rfl
      refine lv_istore (lv' := [(7, .int (r_468)), (6, .int (r_442)), (0, .ref (b)), (1, .ref (ad 0)), (2, .ref (md 0)), (3, .ref (ou)), (4, .ref (od)), (5, .int (nI (i3)))]) hx hb dL_law_471 hl (by decide) rfl (fun ls hl => ?_)
      have hAG : ((th9_468) = r_442) ∧ ((r_442 = 0 → (r_468 = 0 → F9_442 0 = 0) ∧ (¬ r_468 = 0 → F9_442 0 = 1))) ∧ (O9_468 = O9_442) ∧ (Inv N A fl9_442 nd wt B Hd O9_442 R HL LB SO NG WO SA SE kw9_468 HM CO) := by
        rcases hpo_442 with ⟨ha, rr, h2, ⟨j, hj, hx9, hr9, hO9⟩, h4, h5⟩ | ⟨ha, h2, h4, h5⟩ <;> rcases hst_468 with ⟨g1, g2, g3, g4⟩ | ⟨g1, g2, g4, j2, hj2, hx8, hr8, hO8⟩
        · rw [h2] at g1; cases g1
        · have hjj := nI_same (by omega) (by omega) (hx9.symm.trans hx8)
          subst hjj
          exact ⟨g2.trans ha.symm, fun _ => zz_ h5 hr9 hr8, hO8.trans hO9.symm, by rw [h4, g4]; exact ⟨hn, hA, hR, hH, hN, hw, fun q => (by cases q), fun q => (by cases q)⟩⟩
        · exact ⟨g2.trans ha.symm, fun h0 => absurd (ha.symm.trans h0) (by decide), g3.trans h5.symm, by rw [h4, h5, g4]; exact ⟨hn, hA, hR, hH, hN, hw, hsv, hkw⟩⟩
        · rw [h2] at g1; cases g1
      obtain ⟨hth, hvl, heO, hI2⟩ := hAG
      rw [heO] at hP hD
      refine lv_aload_n hx hb dL_law_473 rfl (lv_at hl 4 rfl) ?_
      refine pu_i (va_runV (As := []) (rest := []) ⟨hx, hb, hml, hown, hts⟩ (c_X3_thrown l D cI cZ md (th9_468) (N) (A) (R) (kw9_468) (an) (nd) (wt) (B) (Hd) (O9_442) (HM) (CO) ) (cwV 0 hts gL_law_X3_thrown rfl rfl rfl (by decide +kernel) ⟨Nat.le_of_ble_eq_true rfl, Nat.le_of_ble_eq_true rfl⟩) (pre_V (q0 := 0) (ci := 3) (hP.sub (ws' := (wM cI cZ md th9_468 N A R kw9_468 an nd wt B Hd O9_442 HM CO)) [14, 15, 16, 17, 18, 19, 20, 21, 22] rfl) (hK.sub [0, 1] rfl) rfl rfl) rfl rfl hl.1 rfl (lv_room (Nat.le_of_ble_eq_true rfl)) dL_law_474 ⟨hcc 2 (by decide), hss 12 (by decide)⟩) ?_
      refine lv_iload hx hb dL_law_477 (lv_at hl 1 rfl) ?_
      refine lv_icmp_eq (tgt := 484) hx hb dL_law_479 (by decide) (fun c_479 => ?_) (fun c_479 => ?_)
      · skip
        refine lv_iload hx hb dL_law_484 (lv_at hl 1 rfl) ?_
        refine lv_if_ne (tgt := 508) hx hb dL_law_486 (by decide) (fun c_486 => ?_) (fun c_486 => ?_)
        · skip
          refine lv_goto (tgt := 1862) hx hb dL_law_508 (by decide) ?_
          exact hk (N) (A) (fl9_442) (an) (nd) (wt) (B) (Hd) (O9_442) (R) (HL) (LB) (SO) (NG) (WO) (SA) (SE) (th9_468) (kw9_468) (HM) (CO) (F9_442) (G) _ _ hI2 hP hD hS ls (lv_sub hl [2, 3, 4, 5, 6, 7] rfl)
        · skip
          refine lv_aload_n hx hb dL_law_489 rfl (lv_at hl 5 rfl) ?_
          refine lv_iconst (v := 0) hx hb dL_law_490 (by decide) ?_
          refine ll_0 (D := D) (f := F9_442) hx hb hK hP 23 2 rfl rfl dL_law_491 ?_
          refine lv_iload hx hb dL_law_492 (lv_at hl 0 rfl) ?_
          refine lv_if_eq (tgt := 501) hx hb dL_law_494 (by decide) (fun c_494 => ?_) (fun c_494 => ?_)
          · skip
            refine lv_lconst (v := 0) hx hb dL_law_501 rfl ?_
            refine W.lcmp hx hb dL_law_502 ?_
            refine lv_if_eq (tgt := 508) hx hb dL_law_503 (by decide) (fun c_503 => ?_) (fun c_503 => ?_)
            · skip
              refine lv_goto (tgt := 1862) hx hb dL_law_508 (by decide) ?_
              exact hk (N) (A) (fl9_442) (an) (nd) (wt) (B) (Hd) (O9_442) (R) (HL) (LB) (SO) (NG) (WO) (SA) (SE) (th9_468) (kw9_468) (HM) (CO) (F9_442) (G) _ _ hI2 hP hD hS ls (lv_sub hl [2, 3, 4, 5, 6, 7] rfl)
            · skip
              refine lv_iconst (v := 0) hx hb dL_law_506 (by decide) ?_
              exfalso
              first | exact c_503 hth | exact c_503 ((lg_cmp_eq _ _).mpr (hvl c_433)) | exact c_503 ((lg_cmp_eq _ _).mpr ((hvl c_433).1 c_433)) | exact c_503 ((lg_cmp_eq _ _).mpr ((hvl c_433).2 c_433)) | exact c_503 ((lg_cmp_eq _ _).mpr ((hvl c_433).1 c_460)) | exact c_503 ((lg_cmp_eq _ _).mpr ((hvl c_433).2 c_460)) | exact c_503 ((lg_cmp_eq _ _).mpr ((hvl c_433).1 c_479)) | exact c_503 ((lg_cmp_eq _ _).mpr ((hvl c_433).2 c_479)) | exact c_503 ((lg_cmp_eq _ _).mpr ((hvl c_433).1 c_486)) | exact c_503 ((lg_cmp_eq _ _).mpr ((hvl c_433).2 c_486)) | exact c_503 ((lg_cmp_eq _ _).mpr ((hvl c_433).1 c_494)) | exact c_503 ((lg_cmp_eq _ _).mpr ((hvl c_433).2 c_494)) | exact c_503 ((lg_cmp_eq _ _).mpr ((hvl c_433).1 c_503)) | exact c_503 ((lg_cmp_eq _ _).mpr ((hvl c_433).2 c_503)) | exact c_503 ((lg_cmp_eq _ _).mpr (hvl c_460)) | exact c_503 ((lg_cmp_eq _ _).mpr ((hvl c_460).1 c_433)) | exact c_503 ((lg_cmp_eq _ _).mpr ((hvl c_460).2 c_433)) | exact c_503 ((lg_cmp_eq _ _).mpr ((hvl c_460).1 c_460)) | exact c_503 ((lg_cmp_eq _ _).mpr ((hvl c_460).2 c_460)) | exact c_503 ((lg_cmp_eq _ _).mpr ((hvl c_460).1 c_479)) | exact c_503 ((lg_cmp_eq _ _).mpr ((hvl c_460).2 c_479)) | exact c_503 ((lg_cmp_eq _ _).mpr ((hvl c_460).1 c_486)) | exact c_503 ((lg_cmp_eq _ _).mpr ((hvl c_460).2 c_486)) | exact c_503 ((lg_cmp_eq _ _).mpr ((hvl c_460).1 c_494)) | exact c_503 ((lg_cmp_eq _ _).mpr ((hvl c_460).2 c_494)) | exact c_503 ((lg_cmp_eq _ _).mpr ((hvl c_460).1 c_503)) | exact c_503 ((lg_cmp_eq _ _).mpr ((hvl c_460).2 c_503)) | exact c_503 ((lg_cmp_eq _ _).mpr (hvl c_479)) | exact c_503 ((lg_cmp_eq _ _).mpr ((hvl c_479).1 c_433)) | exact c_503 ((lg_cmp_eq _ _).mpr ((hvl c_479).2 c_433)) | exact c_503 ((lg_cmp_eq _ _).mpr ((hvl c_479).1 c_460)) | exact c_503 ((lg_cmp_eq _ _).mpr ((hvl c_479).2 c_460)) | exact c_503 ((lg_cmp_eq _ _).mpr ((hvl c_479).1 c_479)) | exact c_503 ((lg_cmp_eq _ _).mpr ((hvl c_479).2 c_479)) | exact c_503 ((lg_cmp_eq _ _).mpr ((hvl c_479).1 c_486)) | exact c_503 ((lg_cmp_eq _ _).mpr ((hvl c_479).2 c_486)) | exact c_503 ((lg_cmp_eq _ _).mpr ((hvl c_479).1 c_494)) | exact c_503 ((lg_cmp_eq _ _).mpr ((hvl c_479).2 c_494)) | exact c_503 ((lg_cmp_eq _ _).mpr ((hvl c_479).1 c_503)) | exact c_503 ((lg_cmp_eq _ _).mpr ((hvl c_479).2 c_503)) | exact c_503 ((lg_cmp_eq _ _).mpr (hvl c_486)) | exact c_503 ((lg_cmp_eq _ _).mpr ((hvl c_486).1 c_433)) | exact c_503 ((lg_cmp_eq _ _).mpr ((hvl c_486).2 c_433)) | exact c_503 ((lg_cmp_eq _ _).mpr ((hvl c_486).1 c_460)) | exact c_503 ((lg_cmp_eq _ _).mpr ((hvl c_486).2 c_460)) | exact c_503 ((lg_cmp_eq _ _).mpr ((hvl c_486).1 c_479)) | exact c_503 ((lg_cmp_eq _ _).mpr ((hvl c_486).2 c_479)) | exact c_503 ((lg_cmp_eq _ _).mpr ((hvl c_486).1 c_486)) | exact c_503 ((lg_cmp_eq _ _).mpr ((hvl c_486).2 c_486)) | exact c_503 ((lg_cmp_eq _ _).mpr ((hvl c_486).1 c_494)) | exact c_503 ((lg_cmp_eq _ _).mpr ((hvl c_486).2 c_494)) | exact c_503 ((lg_cmp_eq _ _).mpr ((hvl c_486).1 c_503)) | exact c_503 ((lg_cmp_eq _ _).mpr ((hvl c_486).2 c_503)) | exact c_503 ((lg_cmp_eq _ _).mpr (hvl c_494)) | exact c_503 ((lg_cmp_eq _ _).mpr ((hvl c_494).1 c_433)) | exact c_503 ((lg_cmp_eq _ _).mpr ((hvl c_494).2 c_433)) | exact c_503 ((lg_cmp_eq _ _).mpr ((hvl c_494).1 c_460)) | exact c_503 ((lg_cmp_eq _ _).mpr ((hvl c_494).2 c_460)) | exact c_503 ((lg_cmp_eq _ _).mpr ((hvl c_494).1 c_479)) | exact c_503 ((lg_cmp_eq _ _).mpr ((hvl c_494).2 c_479)) | exact c_503 ((lg_cmp_eq _ _).mpr ((hvl c_494).1 c_486)) | exact c_503 ((lg_cmp_eq _ _).mpr ((hvl c_494).2 c_486)) | exact c_503 ((lg_cmp_eq _ _).mpr ((hvl c_494).1 c_494)) | exact c_503 ((lg_cmp_eq _ _).mpr ((hvl c_494).2 c_494)) | exact c_503 ((lg_cmp_eq _ _).mpr ((hvl c_494).1 c_503)) | exact c_503 ((lg_cmp_eq _ _).mpr ((hvl c_494).2 c_503)) | exact c_503 ((lg_cmp_eq _ _).mpr (hvl c_503)) | exact c_503 ((lg_cmp_eq _ _).mpr ((hvl c_503).1 c_433)) | exact c_503 ((lg_cmp_eq _ _).mpr ((hvl c_503).2 c_433)) | exact c_503 ((lg_cmp_eq _ _).mpr ((hvl c_503).1 c_460)) | exact c_503 ((lg_cmp_eq _ _).mpr ((hvl c_503).2 c_460)) | exact c_503 ((lg_cmp_eq _ _).mpr ((hvl c_503).1 c_479)) | exact c_503 ((lg_cmp_eq _ _).mpr ((hvl c_503).2 c_479)) | exact c_503 ((lg_cmp_eq _ _).mpr ((hvl c_503).1 c_486)) | exact c_503 ((lg_cmp_eq _ _).mpr ((hvl c_503).2 c_486)) | exact c_503 ((lg_cmp_eq _ _).mpr ((hvl c_503).1 c_494)) | exact c_503 ((lg_cmp_eq _ _).mpr ((hvl c_503).2 c_494)) | exact c_503 ((lg_cmp_eq _ _).mpr ((hvl c_503).1 c_503)) | exact c_503 ((lg_cmp_eq _ _).mpr ((hvl c_503).2 c_503))
          · skip
            refine lv_lconst (v := 1) hx hb dL_law_497 rfl ?_
            refine lv_goto (tgt := 502) hx hb dL_law_498 (by decide) ?_
            refine W.lcmp hx hb dL_law_502 ?_
            refine lv_if_eq (tgt := 508) hx hb dL_law_503 (by decide) (fun c_503 => ?_) (fun c_503 => ?_)
            · skip
              refine lv_goto (tgt := 1862) hx hb dL_law_508 (by decide) ?_
              exact hk (N) (A) (fl9_442) (an) (nd) (wt) (B) (Hd) (O9_442) (R) (HL) (LB) (SO) (NG) (WO) (SA) (SE) (th9_468) (kw9_468) (HM) (CO) (F9_442) (G) _ _ hI2 hP hD hS ls (lv_sub hl [2, 3, 4, 5, 6, 7] rfl)
            · skip
              refine lv_iconst (v := 0) hx hb dL_law_506 (by decide) ?_
              exfalso
              first | exact c_503 hth | exact c_503 ((lg_cmp_eq _ _).mpr (hvl c_433)) | exact c_503 ((lg_cmp_eq _ _).mpr ((hvl c_433).1 c_433)) | exact c_503 ((lg_cmp_eq _ _).mpr ((hvl c_433).2 c_433)) | exact c_503 ((lg_cmp_eq _ _).mpr ((hvl c_433).1 c_460)) | exact c_503 ((lg_cmp_eq _ _).mpr ((hvl c_433).2 c_460)) | exact c_503 ((lg_cmp_eq _ _).mpr ((hvl c_433).1 c_479)) | exact c_503 ((lg_cmp_eq _ _).mpr ((hvl c_433).2 c_479)) | exact c_503 ((lg_cmp_eq _ _).mpr ((hvl c_433).1 c_486)) | exact c_503 ((lg_cmp_eq _ _).mpr ((hvl c_433).2 c_486)) | exact c_503 ((lg_cmp_eq _ _).mpr ((hvl c_433).1 c_494)) | exact c_503 ((lg_cmp_eq _ _).mpr ((hvl c_433).2 c_494)) | exact c_503 ((lg_cmp_eq _ _).mpr ((hvl c_433).1 c_503)) | exact c_503 ((lg_cmp_eq _ _).mpr ((hvl c_433).2 c_503)) | exact c_503 ((lg_cmp_eq _ _).mpr (hvl c_460)) | exact c_503 ((lg_cmp_eq _ _).mpr ((hvl c_460).1 c_433)) | exact c_503 ((lg_cmp_eq _ _).mpr ((hvl c_460).2 c_433)) | exact c_503 ((lg_cmp_eq _ _).mpr ((hvl c_460).1 c_460)) | exact c_503 ((lg_cmp_eq _ _).mpr ((hvl c_460).2 c_460)) | exact c_503 ((lg_cmp_eq _ _).mpr ((hvl c_460).1 c_479)) | exact c_503 ((lg_cmp_eq _ _).mpr ((hvl c_460).2 c_479)) | exact c_503 ((lg_cmp_eq _ _).mpr ((hvl c_460).1 c_486)) | exact c_503 ((lg_cmp_eq _ _).mpr ((hvl c_460).2 c_486)) | exact c_503 ((lg_cmp_eq _ _).mpr ((hvl c_460).1 c_494)) | exact c_503 ((lg_cmp_eq _ _).mpr ((hvl c_460).2 c_494)) | exact c_503 ((lg_cmp_eq _ _).mpr ((hvl c_460).1 c_503)) | exact c_503 ((lg_cmp_eq _ _).mpr ((hvl c_460).2 c_503)) | exact c_503 ((lg_cmp_eq _ _).mpr (hvl c_479)) | exact c_503 ((lg_cmp_eq _ _).mpr ((hvl c_479).1 c_433)) | exact c_503 ((lg_cmp_eq _ _).mpr ((hvl c_479).2 c_433)) | exact c_503 ((lg_cmp_eq _ _).mpr ((hvl c_479).1 c_460)) | exact c_503 ((lg_cmp_eq _ _).mpr ((hvl c_479).2 c_460)) | exact c_503 ((lg_cmp_eq _ _).mpr ((hvl c_479).1 c_479)) | exact c_503 ((lg_cmp_eq _ _).mpr ((hvl c_479).2 c_479)) | exact c_503 ((lg_cmp_eq _ _).mpr ((hvl c_479).1 c_486)) | exact c_503 ((lg_cmp_eq _ _).mpr ((hvl c_479).2 c_486)) | exact c_503 ((lg_cmp_eq _ _).mpr ((hvl c_479).1 c_494)) | exact c_503 ((lg_cmp_eq _ _).mpr ((hvl c_479).2 c_494)) | exact c_503 ((lg_cmp_eq _ _).mpr ((hvl c_479).1 c_503)) | exact c_503 ((lg_cmp_eq _ _).mpr ((hvl c_479).2 c_503)) | exact c_503 ((lg_cmp_eq _ _).mpr (hvl c_486)) | exact c_503 ((lg_cmp_eq _ _).mpr ((hvl c_486).1 c_433)) | exact c_503 ((lg_cmp_eq _ _).mpr ((hvl c_486).2 c_433)) | exact c_503 ((lg_cmp_eq _ _).mpr ((hvl c_486).1 c_460)) | exact c_503 ((lg_cmp_eq _ _).mpr ((hvl c_486).2 c_460)) | exact c_503 ((lg_cmp_eq _ _).mpr ((hvl c_486).1 c_479)) | exact c_503 ((lg_cmp_eq _ _).mpr ((hvl c_486).2 c_479)) | exact c_503 ((lg_cmp_eq _ _).mpr ((hvl c_486).1 c_486)) | exact c_503 ((lg_cmp_eq _ _).mpr ((hvl c_486).2 c_486)) | exact c_503 ((lg_cmp_eq _ _).mpr ((hvl c_486).1 c_494)) | exact c_503 ((lg_cmp_eq _ _).mpr ((hvl c_486).2 c_494)) | exact c_503 ((lg_cmp_eq _ _).mpr ((hvl c_486).1 c_503)) | exact c_503 ((lg_cmp_eq _ _).mpr ((hvl c_486).2 c_503)) | exact c_503 ((lg_cmp_eq _ _).mpr (hvl c_494)) | exact c_503 ((lg_cmp_eq _ _).mpr ((hvl c_494).1 c_433)) | exact c_503 ((lg_cmp_eq _ _).mpr ((hvl c_494).2 c_433)) | exact c_503 ((lg_cmp_eq _ _).mpr ((hvl c_494).1 c_460)) | exact c_503 ((lg_cmp_eq _ _).mpr ((hvl c_494).2 c_460)) | exact c_503 ((lg_cmp_eq _ _).mpr ((hvl c_494).1 c_479)) | exact c_503 ((lg_cmp_eq _ _).mpr ((hvl c_494).2 c_479)) | exact c_503 ((lg_cmp_eq _ _).mpr ((hvl c_494).1 c_486)) | exact c_503 ((lg_cmp_eq _ _).mpr ((hvl c_494).2 c_486)) | exact c_503 ((lg_cmp_eq _ _).mpr ((hvl c_494).1 c_494)) | exact c_503 ((lg_cmp_eq _ _).mpr ((hvl c_494).2 c_494)) | exact c_503 ((lg_cmp_eq _ _).mpr ((hvl c_494).1 c_503)) | exact c_503 ((lg_cmp_eq _ _).mpr ((hvl c_494).2 c_503)) | exact c_503 ((lg_cmp_eq _ _).mpr (hvl c_503)) | exact c_503 ((lg_cmp_eq _ _).mpr ((hvl c_503).1 c_433)) | exact c_503 ((lg_cmp_eq _ _).mpr ((hvl c_503).2 c_433)) | exact c_503 ((lg_cmp_eq _ _).mpr ((hvl c_503).1 c_460)) | exact c_503 ((lg_cmp_eq _ _).mpr ((hvl c_503).2 c_460)) | exact c_503 ((lg_cmp_eq _ _).mpr ((hvl c_503).1 c_479)) | exact c_503 ((lg_cmp_eq _ _).mpr ((hvl c_503).2 c_479)) | exact c_503 ((lg_cmp_eq _ _).mpr ((hvl c_503).1 c_486)) | exact c_503 ((lg_cmp_eq _ _).mpr ((hvl c_503).2 c_486)) | exact c_503 ((lg_cmp_eq _ _).mpr ((hvl c_503).1 c_494)) | exact c_503 ((lg_cmp_eq _ _).mpr ((hvl c_503).2 c_494)) | exact c_503 ((lg_cmp_eq _ _).mpr ((hvl c_503).1 c_503)) | exact c_503 ((lg_cmp_eq _ _).mpr ((hvl c_503).2 c_503))
      · skip
        refine lv_iconst (v := 0) hx hb dL_law_482 (by decide) ?_
        exfalso
        first | exact c_479 hth | exact c_479 ((lg_cmp_eq _ _).mpr (hvl c_433)) | exact c_479 ((lg_cmp_eq _ _).mpr ((hvl c_433).1 c_433)) | exact c_479 ((lg_cmp_eq _ _).mpr ((hvl c_433).2 c_433)) | exact c_479 ((lg_cmp_eq _ _).mpr ((hvl c_433).1 c_460)) | exact c_479 ((lg_cmp_eq _ _).mpr ((hvl c_433).2 c_460)) | exact c_479 ((lg_cmp_eq _ _).mpr ((hvl c_433).1 c_479)) | exact c_479 ((lg_cmp_eq _ _).mpr ((hvl c_433).2 c_479)) | exact c_479 ((lg_cmp_eq _ _).mpr (hvl c_460)) | exact c_479 ((lg_cmp_eq _ _).mpr ((hvl c_460).1 c_433)) | exact c_479 ((lg_cmp_eq _ _).mpr ((hvl c_460).2 c_433)) | exact c_479 ((lg_cmp_eq _ _).mpr ((hvl c_460).1 c_460)) | exact c_479 ((lg_cmp_eq _ _).mpr ((hvl c_460).2 c_460)) | exact c_479 ((lg_cmp_eq _ _).mpr ((hvl c_460).1 c_479)) | exact c_479 ((lg_cmp_eq _ _).mpr ((hvl c_460).2 c_479)) | exact c_479 ((lg_cmp_eq _ _).mpr (hvl c_479)) | exact c_479 ((lg_cmp_eq _ _).mpr ((hvl c_479).1 c_433)) | exact c_479 ((lg_cmp_eq _ _).mpr ((hvl c_479).2 c_433)) | exact c_479 ((lg_cmp_eq _ _).mpr ((hvl c_479).1 c_460)) | exact c_479 ((lg_cmp_eq _ _).mpr ((hvl c_479).2 c_460)) | exact c_479 ((lg_cmp_eq _ _).mpr ((hvl c_479).1 c_479)) | exact c_479 ((lg_cmp_eq _ _).mpr ((hvl c_479).2 c_479))
set_option maxHeartbeats 4000000 in
set_option maxRecDepth 100000 in
theorem law_c5 {p : Program} {e : Env} {s : State} {m : MethodId} {below : List Frame} {meth : Method} {c : Code} (l : Launch) (hst : l.stackTraces = false) {b L : Nat} {xs : Nat → Int32} (hL : L ≤ 1536) (C0 : lw_At p s m meth c b L xs) (D : va_G) (cI cZ cJ cE : ClassId) (ad md : Nat → Nat) (ou od : Nat) (hK : kn D (tyL cI cZ cJ cE) s) (hX : xK s) (hZ : xZ (apS s) s s.heap) (hY : yN s) (cs sl i3 : Nat) (hcs : cs + 2 ≤ 1061) (hsl : sl + 12 ≤ 12206) (hi3 : i3 + 3 ≤ L) (hk : lwK p l e s m below meth c b D cI cZ cJ cE ad md ou od cs sl i3) (N A : Nat) (fl : Bool) (an nd wt B Hd : Nat → Int32) (O : Nat → Bool) (R : Nat) (HL LB : Nat → Int32) (SO NG WO : Nat → Bool) (SA SE : Nat) (th : Int32) (kw : Bool) (HM : Nat → Int32) (CO : Nat → Bool) (F : Nat → Int64) (G : Nat → UInt64) (hI : Inv N A fl nd wt B Hd O R HL LB SO NG WO SA SE kw HM CO) (H : Heap) (locs : List Loc) (hP : va_P D vwCl (wZ cI cZ cJ cE ad md ou od N A fl an nd wt B Hd O R HL LB SO NG WO SA SE th N A R kw an nd wt B Hd O HM CO F G) H) (hD : va_D (apS s) (wZ cI cZ cJ cE ad md ou od N A fl an nd wt B Hd O R HL LB SO NG WO SA SE th N A R kw an nd wt B Hd O HM CO F G)) (hS : va_S (apS s) s.heap H locs) (ls : Array Slot) (hl : lv_has ls 9 [(0, .ref b), (1, .ref (ad 0)), (2, .ref (md 0)), (3, .ref ou), (4, .ref od), (5, .int (nI i3))]) : W p l e room_1 s m #[Value.ref b] below meth c H locs cs sl (lw_Z below #[Value.ref b] s) (F0 m 511 ls []) := by
  obtain ⟨hx, hb, hr, hml, hown, hts, hXs, hbl, hlocks, hgv⟩ := id C0
  have hts := fun w h => hts w (wsL_law_in w h)
  have hb : c.code = cL_law := hb
  have hbA : ¬ apS s b := Nat.not_le.mpr hbl
  have hAp : ∀ q : Nat, s.heap.size ≤ q → apS s q := fun _ h => h
  obtain ⟨hn, hA, hR, hH, hN, hw, hsv, hkw⟩ := hI
  have hcc : ∀ k, k ≤ 2 → cs + k ≤ room_1.cells := fun k hk => Nat.le_trans (Nat.add_le_add_left hk cs) hcs
  have hss : ∀ k, k ≤ 12 → sl + k ≤ room_1.slots := fun k hk => Nat.le_trans (Nat.add_le_add_left hk sl) hsl
  refine lv_aload_n hx hb dL_law_511 rfl (lv_at hl 1 rfl) ?_
  refine lv_aload_n hx hb dL_law_512 rfl (lv_at hl 3 rfl) ?_
  refine mu_i (wr := [(md 0, .inr (3, [.int (th), .int (nI (N)), .ref (md 1), .int (nI (A)), .ref (md 2), .ref (md 3), .int (nI (R)), .ref (md 4), .ref (md 5), .ref (md 6), .int (bI (kw)), .ref (md 7), .ref (md 8)])), (md 1, .inl (cI, 24, .inl an)), (md 2, .inl (cI, 9, .inl nd)), (md 3, .inl (cI, 9, .inl wt)), (md 4, .inl (cI, 40, .inl B)), (md 5, .inl (cI, 40, .inl Hd)), (md 6, .inl (cZ, 40, .inl (fun j => bI (O j)))), (md 7, .inl (cI, 512, .inl HM)), (md 8, .inl (cZ, 512, .inl (fun j => bI (CO j)))), (od, .inl (cE, 1, .inr (.inr (.inr (.inl G)))))]) (vx_runSW (As := [.ref (ad 0), .ref (ou)]) (rest := []) ⟨hx, hb, hml, hown, hts⟩ (c_L_drop l D cI cZ cJ cE ad ou (N) (A) (fl) (an) (nd) (wt) (B) (Hd) (O) (R) (HL) (LB) (SO) (NG) (WO) (SA) (SE) (F) (hR) hst (H).size) (vx_cwSW 2 hts gL_law_L_drop rfl rfl rfl (by decide +kernel) ⟨Nat.le_of_ble_eq_true rfl, Nat.le_of_ble_eq_true rfl⟩) (prl_S (hP.sub (ws' := (wKL cI cZ cJ ad ou N A fl an nd wt B Hd O R HL LB SO NG WO SA SE F)) [0, 1, 2, 3, 4, 5, 6, 7, 8, 9, 10, 11, 12, 13, 23] rfl) (hD.sub (ws' := (wKL cI cZ cJ ad ou N A fl an nd wt B Hd O R HL LB SO NG WO SA SE F)) [0, 1, 2, 3, 4, 5, 6, 7, 8, 9, 10, 11, 12, 13, 23] (by decide) rfl) hK hX hZ hY hS (va_free (wc := (wKL cI cZ cJ ad ou N A fl an nd wt B Hd O R HL LB SO NG WO SA SE F)) hD hS hAp [0, 1, 2, 3, 4, 5, 6, 7, 8, 9, 10, 11, 12, 13, 23] rfl)) rfl rfl hl.1 rfl (lv_room (Nat.le_of_ble_eq_true rfl)) dL_law_513 ⟨hcc 1 (by decide), hss 6 (by decide)⟩) hP hD hS hAp [0, 1, 2, 3, 4, 5, 6, 7, 8, 9, 10, 11, 12, 13, 23] [14, 15, 16, 17, 18, 19, 20, 21, 22, 24] rfl rfl (by decide) (by decide) (fun r_513 u_513 H locs hq_513 hP hD hS => ?_)
  obtain ⟨fl9_513, R9_513, F9_513⟩ := u_513
  obtain ⟨hpo_513, -⟩ := hq_513
  have hpo_513 : (r_513 = 0 ∧ ∃ rr : Int32, rr = nI (R - 1) ∧ (0 < R) ∧ R9_513 = R - 1 ∧ fl9_513 = false ∧ F9_513 0 = rr.toInt64) ∨ (r_513 = 1 ∧ (R = 0) ∧ fl9_513 = fl ∧ R9_513 = R) := hpo_513
  have hP : va_P D vwCl (wZ cI cZ cJ cE ad md ou od N A fl9_513 an nd wt B Hd O R9_513 HL LB SO NG WO SA SE th N A R kw an nd wt B Hd O HM CO F9_513 G) H := hP.sub [10, 11, 12, 13, 14, 15, 16, 17, 18, 19, 20, 21, 22, 23, 0, 1, 2, 3, 4, 5, 6, 7, 8, 24, 9] rfl
  have hD : va_D (apS s) (wZ cI cZ cJ cE ad md ou od N A fl9_513 an nd wt B Hd O R9_513 HL LB SO NG WO SA SE th N A R kw an nd wt B Hd O HM CO F9_513 G) := hD.sub [10, 11, 12, 13, 14, 15, 16, 17, 18, 19, 20, 21, 22, 23, 0, 1, 2, 3, 4, 5, 6, 7, 8, 24, 9] (by decide) rfl
  refine W.widen (k := cs + 2) (n := sl + 12) (Nat.add_le_add_left (by decide) cs) (Nat.add_le_add_left (by decide) sl) ?_
  refine lv_istore (lv' := [(6, .int (r_513)), (0, .ref (b)), (1, .ref (ad 0)), (2, .ref (md 0)), (3, .ref (ou)), (4, .ref (od)), (5, .int (nI (i3)))]) hx hb dL_law_516 hl (by decide) rfl (fun ls hl => ?_)
  refine lv_aload_n hx hb dL_law_518 rfl (lv_at hl 3 rfl) ?_
  refine mu_i (wr := [(ad 0, .inr (2, [.ref (ad 1), .ref (ad 2), .ref (ad 3), .ref (ad 4), .ref (ad 8), .int (nI (N)), .int (nI (A)), .int (bI (fl9_513))])), (ad 1, .inl (cI, 24, .inl an)), (ad 2, .inl (cI, 9, .inl nd)), (ad 3, .inl (cI, 9, .inl wt)), (ad 4, .inr (0, [.ref (ad 5), .ref (ad 6), .ref (ad 7), .int (nI (R9_513))])), (ad 5, .inl (cI, 40, .inl B)), (ad 6, .inl (cI, 40, .inl Hd)), (ad 7, .inl (cZ, 40, .inl (fun j => bI (O j)))), (ad 8, .inr (1, [.ref (ad 9), .ref (ad 10), .ref (ad 11), .ref (ad 12), .ref (ad 13), .int (nI (SA)), .int (nI (SE))])), (ad 9, .inl (cI, 512, .inl HL)), (ad 10, .inl (cI, 512, .inl LB)), (ad 11, .inl (cZ, 512, .inl (fun j => bI (SO j)))), (ad 12, .inl (cZ, 512, .inl (fun j => bI (NG j)))), (ad 13, .inl (cZ, 512, .inl (fun j => bI (WO j)))), (ou, .inl (cJ, 1, .inr (.inl F9_513))), (od, .inl (cE, 1, .inr (.inr (.inr (.inl G)))))]) (va_runV (As := []) (rest := []) ⟨hx, hb, hml, hown, hts⟩ (c_X3_drop l D cI cZ md (th) (N) (A) (R) (kw) (an) (nd) (wt) (B) (Hd) (O) (HM) (CO) (hR) (H).size) (cwV 0 hts gL_law_X3_drop rfl rfl rfl (by decide +kernel) ⟨Nat.le_of_ble_eq_true rfl, Nat.le_of_ble_eq_true rfl⟩) (prw_V (q0 := 0) (ci := 3) (hP.sub (ws' := (wM cI cZ md th N A R kw an nd wt B Hd O HM CO)) [14, 15, 16, 17, 18, 19, 20, 21, 22] rfl) (hD.sub (ws' := (wM cI cZ md th N A R kw an nd wt B Hd O HM CO)) [14, 15, 16, 17, 18, 19, 20, 21, 22] (by decide) rfl) (hK.sub [0, 1] rfl) rfl rfl) rfl rfl hl.1 rfl (lv_room (Nat.le_of_ble_eq_true rfl)) dL_law_519 ⟨hcc 2 (by decide), hss 12 (by decide)⟩) hP hD hS hAp [14, 15, 16, 17, 18, 19, 20, 21, 22] [0, 1, 2, 3, 4, 5, 6, 7, 8, 9, 10, 11, 12, 13, 23, 24] rfl rfl (by decide) (by decide) (fun r_519 u_519 H locs hq_519 hP hD hS => ?_)
  obtain ⟨th9_519, R9_519, kw9_519⟩ := u_519
  obtain ⟨hst_519, -⟩ := hq_519
  have hst_519 : (R = 0 ∧ th9_519 = 1 ∧ R9_519 = R ∧ kw9_519 = kw) ∨ (0 < R ∧ th9_519 = 0 ∧ r_519 = nI (R - 1) ∧ R9_519 = R - 1 ∧ kw9_519 = false) := hst_519
  have hP : va_P D vwCl (wZ cI cZ cJ cE ad md ou od N A fl9_513 an nd wt B Hd O R9_513 HL LB SO NG WO SA SE th9_519 N A R9_519 kw9_519 an nd wt B Hd O HM CO F9_513 G) H := hP.sub [0, 1, 2, 3, 4, 5, 6, 7, 8, 9, 10, 11, 12, 13, 16, 17, 18, 19, 20, 21, 22, 23, 24, 14, 15] rfl
  have hD : va_D (apS s) (wZ cI cZ cJ cE ad md ou od N A fl9_513 an nd wt B Hd O R9_513 HL LB SO NG WO SA SE th9_519 N A R9_519 kw9_519 an nd wt B Hd O HM CO F9_513 G) := hD.sub [0, 1, 2, 3, 4, 5, 6, 7, 8, 9, 10, 11, 12, 13, 16, 17, 18, 19, 20, 21, 22, 23, 24, 14, 15] (by decide) rfl
  refine lv_istore (lv' := [(7, .int (r_519)), (6, .int (r_513)), (0, .ref (b)), (1, .ref (ad 0)), (2, .ref (md 0)), (3, .ref (ou)), (4, .ref (od)), (5, .int (nI (i3)))]) hx hb dL_law_522 hl (by decide) rfl (fun ls hl => ?_)
  have hAG : ((th9_519) = r_513) ∧ ((r_513 = 0 → F9_513 0 = (r_519).toInt64)) ∧ (R9_519 = R9_513) ∧ (Inv N A fl9_513 nd wt B Hd O R9_513 HL LB SO NG WO SA SE kw9_519 HM CO) := by
    rcases hpo_513 with ⟨ha, rr, h1, h2, h3, h4, h5⟩ | ⟨ha, h2, h3, h4⟩ <;> rcases hst_519 with ⟨g1, g2, g3, g4⟩ | ⟨g1, g2, g3, g4, g5⟩
    · omega
    · exact ⟨g2.trans ha.symm, fun _ => by rw [h5, h1, g3], g4.trans h3.symm, by rw [h3, h4, g5]; exact ⟨hn, hA, by omega, okH_drop hH, hN, hw, fun q => (by cases q), fun q => (by cases q)⟩⟩
    · exact ⟨g2.trans ha.symm, fun h0 => absurd (ha.symm.trans h0) (by decide), g3.trans h4.symm, by rw [h3, h4, g4]; exact ⟨hn, hA, hR, hH, hN, hw, hsv, hkw⟩⟩
    · omega
  obtain ⟨hth, hvl, heR, hI2⟩ := hAG
  rw [heR] at hP hD
  refine lv_aload_n hx hb dL_law_524 rfl (lv_at hl 4 rfl) ?_
  refine pu_i (va_runV (As := []) (rest := []) ⟨hx, hb, hml, hown, hts⟩ (c_X3_thrown l D cI cZ md (th9_519) (N) (A) (R9_513) (kw9_519) (an) (nd) (wt) (B) (Hd) (O) (HM) (CO) ) (cwV 0 hts gL_law_X3_thrown rfl rfl rfl (by decide +kernel) ⟨Nat.le_of_ble_eq_true rfl, Nat.le_of_ble_eq_true rfl⟩) (pre_V (q0 := 0) (ci := 3) (hP.sub (ws' := (wM cI cZ md th9_519 N A R9_513 kw9_519 an nd wt B Hd O HM CO)) [14, 15, 16, 17, 18, 19, 20, 21, 22] rfl) (hK.sub [0, 1] rfl) rfl rfl) rfl rfl hl.1 rfl (lv_room (Nat.le_of_ble_eq_true rfl)) dL_law_525 ⟨hcc 2 (by decide), hss 12 (by decide)⟩) ?_
  refine lv_iload hx hb dL_law_528 (lv_at hl 1 rfl) ?_
  refine lv_icmp_eq (tgt := 535) hx hb dL_law_530 (by decide) (fun c_530 => ?_) (fun c_530 => ?_)
  · skip
    refine lv_iload hx hb dL_law_535 (lv_at hl 1 rfl) ?_
    refine lv_if_ne (tgt := 552) hx hb dL_law_537 (by decide) (fun c_537 => ?_) (fun c_537 => ?_)
    · skip
      refine lv_goto (tgt := 1862) hx hb dL_law_552 (by decide) ?_
      exact hk (N) (A) (fl9_513) (an) (nd) (wt) (B) (Hd) (O) (R9_513) (HL) (LB) (SO) (NG) (WO) (SA) (SE) (th9_519) (kw9_519) (HM) (CO) (F9_513) (G) _ _ hI2 hP hD hS ls (lv_sub hl [2, 3, 4, 5, 6, 7] rfl)
    · skip
      refine lv_aload_n hx hb dL_law_540 rfl (lv_at hl 5 rfl) ?_
      refine lv_iconst (v := 0) hx hb dL_law_541 (by decide) ?_
      refine ll_0 (D := D) (f := F9_513) hx hb hK hP 23 2 rfl rfl dL_law_542 ?_
      refine lv_iload hx hb dL_law_543 (lv_at hl 0 rfl) ?_
      refine lv_i2l hx hb dL_law_545 rfl ?_
      refine W.lcmp hx hb dL_law_546 ?_
      refine lv_if_eq (tgt := 552) hx hb dL_law_547 (by decide) (fun c_547 => ?_) (fun c_547 => ?_)
      · skip
        refine lv_goto (tgt := 1862) hx hb dL_law_552 (by decide) ?_
        exact hk (N) (A) (fl9_513) (an) (nd) (wt) (B) (Hd) (O) (R9_513) (HL) (LB) (SO) (NG) (WO) (SA) (SE) (th9_519) (kw9_519) (HM) (CO) (F9_513) (G) _ _ hI2 hP hD hS ls (lv_sub hl [2, 3, 4, 5, 6, 7] rfl)
      · skip
        refine lv_iconst (v := 0) hx hb dL_law_550 (by decide) ?_
        exfalso
        first | exact c_547 hth | exact c_547 ((lg_cmp_eq _ _).mpr (hvl c_530)) | exact c_547 ((lg_cmp_eq _ _).mpr (hvl c_537)) | exact c_547 ((lg_cmp_eq _ _).mpr (hvl c_547))
  · skip
    refine lv_iconst (v := 0) hx hb dL_law_533 (by decide) ?_
    exfalso
    first | exact c_530 hth | exact c_530 ((lg_cmp_eq _ _).mpr (hvl c_530))
set_option maxHeartbeats 4000000 in
set_option maxRecDepth 100000 in
theorem law_c6 {p : Program} {e : Env} {s : State} {m : MethodId} {below : List Frame} {meth : Method} {c : Code} (l : Launch) (hst : l.stackTraces = false) {b L : Nat} {xs : Nat → Int32} (hL : L ≤ 1536) (C0 : lw_At p s m meth c b L xs) (D : va_G) (cI cZ cJ cE : ClassId) (ad md : Nat → Nat) (ou od : Nat) (hK : kn D (tyL cI cZ cJ cE) s) (hX : xK s) (hZ : xZ (apS s) s s.heap) (hY : yN s) (cs sl i3 : Nat) (hcs : cs + 2 ≤ 1061) (hsl : sl + 12 ≤ 12206) (hi3 : i3 + 3 ≤ L) (hk : lwK p l e s m below meth c b D cI cZ cJ cE ad md ou od cs sl i3) (N A : Nat) (fl : Bool) (an nd wt B Hd : Nat → Int32) (O : Nat → Bool) (R : Nat) (HL LB : Nat → Int32) (SO NG WO : Nat → Bool) (SA SE : Nat) (th : Int32) (kw : Bool) (HM : Nat → Int32) (CO : Nat → Bool) (F : Nat → Int64) (G : Nat → UInt64) (hI : Inv N A fl nd wt B Hd O R HL LB SO NG WO SA SE kw HM CO) (H : Heap) (locs : List Loc) (hP : va_P D vwCl (wZ cI cZ cJ cE ad md ou od N A fl an nd wt B Hd O R HL LB SO NG WO SA SE th N A R kw an nd wt B Hd O HM CO F G) H) (hD : va_D (apS s) (wZ cI cZ cJ cE ad md ou od N A fl an nd wt B Hd O R HL LB SO NG WO SA SE th N A R kw an nd wt B Hd O HM CO F G)) (hS : va_S (apS s) s.heap H locs) (ls : Array Slot) (hl : lv_has ls 9 [(0, .ref b), (1, .ref (ad 0)), (2, .ref (md 0)), (3, .ref ou), (4, .ref od), (5, .int (nI i3))]) : W p l e room_1 s m #[Value.ref b] below meth c H locs cs sl (lw_Z below #[Value.ref b] s) (F0 m 555 ls []) := by
  obtain ⟨hx, hb, hr, hml, hown, hts, hXs, hbl, hlocks, hgv⟩ := id C0
  have hts := fun w h => hts w (wsL_law_in w h)
  have hb : c.code = cL_law := hb
  have hbA : ¬ apS s b := Nat.not_le.mpr hbl
  have hAp : ∀ q : Nat, s.heap.size ≤ q → apS s q := fun _ h => h
  obtain ⟨hn, hA, hR, hH, hN, hw, hsv, hkw⟩ := hI
  have hcc : ∀ k, k ≤ 2 → cs + k ≤ room_1.cells := fun k hk => Nat.le_trans (Nat.add_le_add_left hk cs) hcs
  have hss : ∀ k, k ≤ 12 → sl + k ≤ room_1.slots := fun k hk => Nat.le_trans (Nat.add_le_add_left hk sl) hsl
  refine lv_aload_n hx hb dL_law_555 rfl (lv_at hl 1 rfl) ?_
  refine pu_i (va_runV (As := []) (rest := []) ⟨hx, hb, hml, hown, hts⟩ (c_X2_nodeCount l D cI cZ ad (N) (A) (fl) (an) (nd) (wt) (B) (Hd) (O) (R) (HL) (LB) (SO) (NG) (WO) (SA) (SE) ) (cwV 0 hts gL_law_X2_nodeCount rfl rfl rfl (by decide +kernel) ⟨Nat.le_of_ble_eq_true rfl, Nat.le_of_ble_eq_true rfl⟩) (pre_V (q0 := 0) (ci := 2) (hP.sub (ws' := (wK cI cZ ad N A fl an nd wt B Hd O R HL LB SO NG WO SA SE)) [0, 1, 2, 3, 4, 5, 6, 7, 8, 9, 10, 11, 12, 13] rfl) (hK.sub [0, 1] rfl) rfl rfl) rfl rfl hl.1 rfl (lv_room (Nat.le_of_ble_eq_true rfl)) dL_law_556 ⟨hcc 0 (by decide), hss 0 (by decide)⟩) ?_
  refine lv_aload_n hx hb dL_law_559 rfl (lv_at hl 2 rfl) ?_
  refine mu_i (wr := [(ad 0, .inr (2, [.ref (ad 1), .ref (ad 2), .ref (ad 3), .ref (ad 4), .ref (ad 8), .int (nI (N)), .int (nI (A)), .int (bI (fl))])), (ad 1, .inl (cI, 24, .inl an)), (ad 2, .inl (cI, 9, .inl nd)), (ad 3, .inl (cI, 9, .inl wt)), (ad 4, .inr (0, [.ref (ad 5), .ref (ad 6), .ref (ad 7), .int (nI (R))])), (ad 5, .inl (cI, 40, .inl B)), (ad 6, .inl (cI, 40, .inl Hd)), (ad 7, .inl (cZ, 40, .inl (fun j => bI (O j)))), (ad 8, .inr (1, [.ref (ad 9), .ref (ad 10), .ref (ad 11), .ref (ad 12), .ref (ad 13), .int (nI (SA)), .int (nI (SE))])), (ad 9, .inl (cI, 512, .inl HL)), (ad 10, .inl (cI, 512, .inl LB)), (ad 11, .inl (cZ, 512, .inl (fun j => bI (SO j)))), (ad 12, .inl (cZ, 512, .inl (fun j => bI (NG j)))), (ad 13, .inl (cZ, 512, .inl (fun j => bI (WO j)))), (ou, .inl (cJ, 1, .inr (.inl F))), (od, .inl (cE, 1, .inr (.inr (.inr (.inl G)))))]) (va_runV (As := []) (rest := [.int (nI (N))]) ⟨hx, hb, hml, hown, hts⟩ (c_X3_nodeCount l D cI cZ md (th) (N) (A) (R) (kw) (an) (nd) (wt) (B) (Hd) (O) (HM) (CO)  (H).size) (cwV 0 hts gL_law_X3_nodeCount rfl rfl rfl (by decide +kernel) ⟨Nat.le_of_ble_eq_true rfl, Nat.le_of_ble_eq_true rfl⟩) (prw_V (q0 := 0) (ci := 3) (hP.sub (ws' := (wM cI cZ md th N A R kw an nd wt B Hd O HM CO)) [14, 15, 16, 17, 18, 19, 20, 21, 22] rfl) (hD.sub (ws' := (wM cI cZ md th N A R kw an nd wt B Hd O HM CO)) [14, 15, 16, 17, 18, 19, 20, 21, 22] (by decide) rfl) (hK.sub [0, 1] rfl) rfl rfl) rfl rfl hl.1 rfl (lv_room (Nat.le_of_ble_eq_true rfl)) dL_law_560 ⟨hcc 0 (by decide), hss 0 (by decide)⟩) hP hD hS hAp [14, 15, 16, 17, 18, 19, 20, 21, 22] [0, 1, 2, 3, 4, 5, 6, 7, 8, 9, 10, 11, 12, 13, 23, 24] rfl rfl (by decide) (by decide) (fun r_560 u_560 H locs hq_560 hP hD hS => ?_)
  obtain ⟨rfl, -⟩ := hq_560
  have hP : va_P D vwCl (wZ cI cZ cJ cE ad md ou od N A fl an nd wt B Hd O R HL LB SO NG WO SA SE 0 N A R kw an nd wt B Hd O HM CO F G) H := hP.sub [0, 1, 2, 3, 4, 5, 6, 7, 8, 9, 10, 11, 12, 13, 16, 17, 18, 19, 20, 21, 22, 23, 24, 14, 15] rfl
  have hD : va_D (apS s) (wZ cI cZ cJ cE ad md ou od N A fl an nd wt B Hd O R HL LB SO NG WO SA SE 0 N A R kw an nd wt B Hd O HM CO F G) := hD.sub [0, 1, 2, 3, 4, 5, 6, 7, 8, 9, 10, 11, 12, 13, 16, 17, 18, 19, 20, 21, 22, 23, 24, 14, 15] (by decide) rfl
  refine lv_icmp_eq (tgt := 1862) hx hb dL_law_563 (by decide) (fun c_563 => ?_) (fun c_563 => ?_)
  · skip
    refine W.widen (k := cs + 2) (n := sl + 12) (Nat.le_add_right _ _) (Nat.le_add_right _ _) ?_
    exact hk (N) (A) (fl) (an) (nd) (wt) (B) (Hd) (O) (R) (HL) (LB) (SO) (NG) (WO) (SA) (SE) (0) (kw) (HM) (CO) (F) (G) _ _ ⟨hn, hA, hR, hH, hN, hw, hsv, hkw⟩ hP hD hS ls (lv_sub hl [0, 1, 2, 3, 4, 5] rfl)
  · skip
    refine lv_iconst (v := 0) hx hb dL_law_566 (by decide) ?_
    exfalso
    first | exact c_563 rfl | exact c_563 ((lg_cmp_eq _ _).mpr rfl)
set_option maxHeartbeats 4000000 in
set_option maxRecDepth 100000 in
theorem law_c7 {p : Program} {e : Env} {s : State} {m : MethodId} {below : List Frame} {meth : Method} {c : Code} (l : Launch) (hst : l.stackTraces = false) {b L : Nat} {xs : Nat → Int32} (hL : L ≤ 1536) (C0 : lw_At p s m meth c b L xs) (D : va_G) (cI cZ cJ cE : ClassId) (ad md : Nat → Nat) (ou od : Nat) (hK : kn D (tyL cI cZ cJ cE) s) (hX : xK s) (hZ : xZ (apS s) s s.heap) (hY : yN s) (cs sl i3 : Nat) (hcs : cs + 2 ≤ 1061) (hsl : sl + 12 ≤ 12206) (hi3 : i3 + 3 ≤ L) (hk : lwK p l e s m below meth c b D cI cZ cJ cE ad md ou od cs sl i3) (N A : Nat) (fl : Bool) (an nd wt B Hd : Nat → Int32) (O : Nat → Bool) (R : Nat) (HL LB : Nat → Int32) (SO NG WO : Nat → Bool) (SA SE : Nat) (th : Int32) (kw : Bool) (HM : Nat → Int32) (CO : Nat → Bool) (F : Nat → Int64) (G : Nat → UInt64) (hI : Inv N A fl nd wt B Hd O R HL LB SO NG WO SA SE kw HM CO) (H : Heap) (locs : List Loc) (hP : va_P D vwCl (wZ cI cZ cJ cE ad md ou od N A fl an nd wt B Hd O R HL LB SO NG WO SA SE th N A R kw an nd wt B Hd O HM CO F G) H) (hD : va_D (apS s) (wZ cI cZ cJ cE ad md ou od N A fl an nd wt B Hd O R HL LB SO NG WO SA SE th N A R kw an nd wt B Hd O HM CO F G)) (hS : va_S (apS s) s.heap H locs) (ls : Array Slot) (hl : lv_has ls 9 [(0, .ref b), (1, .ref (ad 0)), (2, .ref (md 0)), (3, .ref ou), (4, .ref od), (5, .int (nI i3))]) : W p l e room_1 s m #[Value.ref b] below meth c H locs cs sl (lw_Z below #[Value.ref b] s) (F0 m 568 ls []) := by
  obtain ⟨hx, hb, hr, hml, hown, hts, hXs, hbl, hlocks, hgv⟩ := id C0
  have hts := fun w h => hts w (wsL_law_in w h)
  have hb : c.code = cL_law := hb
  have hbA : ¬ apS s b := Nat.not_le.mpr hbl
  have hAp : ∀ q : Nat, s.heap.size ≤ q → apS s q := fun _ h => h
  obtain ⟨hn, hA, hR, hH, hN, hw, hsv, hkw⟩ := hI
  have hcc : ∀ k, k ≤ 2 → cs + k ≤ room_1.cells := fun k hk => Nat.le_trans (Nat.add_le_add_left hk cs) hcs
  have hss : ∀ k, k ≤ 12 → sl + k ≤ room_1.slots := fun k hk => Nat.le_trans (Nat.add_le_add_left hk sl) hsl
  refine lv_aload_n hx hb dL_law_568 rfl (lv_at hl 1 rfl) ?_
  refine pu_i (va_runV (As := []) (rest := []) ⟨hx, hb, hml, hown, hts⟩ (c_X2_assumptionCount l D cI cZ ad (N) (A) (fl) (an) (nd) (wt) (B) (Hd) (O) (R) (HL) (LB) (SO) (NG) (WO) (SA) (SE) ) (cwV 0 hts gL_law_X2_assumptionCount rfl rfl rfl (by decide +kernel) ⟨Nat.le_of_ble_eq_true rfl, Nat.le_of_ble_eq_true rfl⟩) (pre_V (q0 := 0) (ci := 2) (hP.sub (ws' := (wK cI cZ ad N A fl an nd wt B Hd O R HL LB SO NG WO SA SE)) [0, 1, 2, 3, 4, 5, 6, 7, 8, 9, 10, 11, 12, 13] rfl) (hK.sub [0, 1] rfl) rfl rfl) rfl rfl hl.1 rfl (lv_room (Nat.le_of_ble_eq_true rfl)) dL_law_569 ⟨hcc 0 (by decide), hss 0 (by decide)⟩) ?_
  refine lv_aload_n hx hb dL_law_572 rfl (lv_at hl 2 rfl) ?_
  refine mu_i (wr := [(ad 0, .inr (2, [.ref (ad 1), .ref (ad 2), .ref (ad 3), .ref (ad 4), .ref (ad 8), .int (nI (N)), .int (nI (A)), .int (bI (fl))])), (ad 1, .inl (cI, 24, .inl an)), (ad 2, .inl (cI, 9, .inl nd)), (ad 3, .inl (cI, 9, .inl wt)), (ad 4, .inr (0, [.ref (ad 5), .ref (ad 6), .ref (ad 7), .int (nI (R))])), (ad 5, .inl (cI, 40, .inl B)), (ad 6, .inl (cI, 40, .inl Hd)), (ad 7, .inl (cZ, 40, .inl (fun j => bI (O j)))), (ad 8, .inr (1, [.ref (ad 9), .ref (ad 10), .ref (ad 11), .ref (ad 12), .ref (ad 13), .int (nI (SA)), .int (nI (SE))])), (ad 9, .inl (cI, 512, .inl HL)), (ad 10, .inl (cI, 512, .inl LB)), (ad 11, .inl (cZ, 512, .inl (fun j => bI (SO j)))), (ad 12, .inl (cZ, 512, .inl (fun j => bI (NG j)))), (ad 13, .inl (cZ, 512, .inl (fun j => bI (WO j)))), (ou, .inl (cJ, 1, .inr (.inl F))), (od, .inl (cE, 1, .inr (.inr (.inr (.inl G)))))]) (va_runV (As := []) (rest := [.int (nI (A))]) ⟨hx, hb, hml, hown, hts⟩ (c_X3_assumptionCount l D cI cZ md (th) (N) (A) (R) (kw) (an) (nd) (wt) (B) (Hd) (O) (HM) (CO)  (H).size) (cwV 0 hts gL_law_X3_assumptionCount rfl rfl rfl (by decide +kernel) ⟨Nat.le_of_ble_eq_true rfl, Nat.le_of_ble_eq_true rfl⟩) (prw_V (q0 := 0) (ci := 3) (hP.sub (ws' := (wM cI cZ md th N A R kw an nd wt B Hd O HM CO)) [14, 15, 16, 17, 18, 19, 20, 21, 22] rfl) (hD.sub (ws' := (wM cI cZ md th N A R kw an nd wt B Hd O HM CO)) [14, 15, 16, 17, 18, 19, 20, 21, 22] (by decide) rfl) (hK.sub [0, 1] rfl) rfl rfl) rfl rfl hl.1 rfl (lv_room (Nat.le_of_ble_eq_true rfl)) dL_law_573 ⟨hcc 0 (by decide), hss 0 (by decide)⟩) hP hD hS hAp [14, 15, 16, 17, 18, 19, 20, 21, 22] [0, 1, 2, 3, 4, 5, 6, 7, 8, 9, 10, 11, 12, 13, 23, 24] rfl rfl (by decide) (by decide) (fun r_573 u_573 H locs hq_573 hP hD hS => ?_)
  obtain ⟨rfl, -⟩ := hq_573
  have hP : va_P D vwCl (wZ cI cZ cJ cE ad md ou od N A fl an nd wt B Hd O R HL LB SO NG WO SA SE 0 N A R kw an nd wt B Hd O HM CO F G) H := hP.sub [0, 1, 2, 3, 4, 5, 6, 7, 8, 9, 10, 11, 12, 13, 16, 17, 18, 19, 20, 21, 22, 23, 24, 14, 15] rfl
  have hD : va_D (apS s) (wZ cI cZ cJ cE ad md ou od N A fl an nd wt B Hd O R HL LB SO NG WO SA SE 0 N A R kw an nd wt B Hd O HM CO F G) := hD.sub [0, 1, 2, 3, 4, 5, 6, 7, 8, 9, 10, 11, 12, 13, 16, 17, 18, 19, 20, 21, 22, 23, 24, 14, 15] (by decide) rfl
  refine lv_icmp_eq (tgt := 1862) hx hb dL_law_576 (by decide) (fun c_576 => ?_) (fun c_576 => ?_)
  · skip
    refine W.widen (k := cs + 2) (n := sl + 12) (Nat.le_add_right _ _) (Nat.le_add_right _ _) ?_
    exact hk (N) (A) (fl) (an) (nd) (wt) (B) (Hd) (O) (R) (HL) (LB) (SO) (NG) (WO) (SA) (SE) (0) (kw) (HM) (CO) (F) (G) _ _ ⟨hn, hA, hR, hH, hN, hw, hsv, hkw⟩ hP hD hS ls (lv_sub hl [0, 1, 2, 3, 4, 5] rfl)
  · skip
    refine lv_iconst (v := 0) hx hb dL_law_579 (by decide) ?_
    exfalso
    first | exact c_576 rfl | exact c_576 ((lg_cmp_eq _ _).mpr rfl)
set_option maxHeartbeats 4000000 in
set_option maxRecDepth 100000 in
theorem law_c8 {p : Program} {e : Env} {s : State} {m : MethodId} {below : List Frame} {meth : Method} {c : Code} (l : Launch) (hst : l.stackTraces = false) {b L : Nat} {xs : Nat → Int32} (hL : L ≤ 1536) (C0 : lw_At p s m meth c b L xs) (D : va_G) (cI cZ cJ cE : ClassId) (ad md : Nat → Nat) (ou od : Nat) (hK : kn D (tyL cI cZ cJ cE) s) (hX : xK s) (hZ : xZ (apS s) s s.heap) (hY : yN s) (cs sl i3 : Nat) (hcs : cs + 2 ≤ 1061) (hsl : sl + 12 ≤ 12206) (hi3 : i3 + 3 ≤ L) (hk : lwK p l e s m below meth c b D cI cZ cJ cE ad md ou od cs sl i3) (N A : Nat) (fl : Bool) (an nd wt B Hd : Nat → Int32) (O : Nat → Bool) (R : Nat) (HL LB : Nat → Int32) (SO NG WO : Nat → Bool) (SA SE : Nat) (th : Int32) (kw : Bool) (HM : Nat → Int32) (CO : Nat → Bool) (F : Nat → Int64) (G : Nat → UInt64) (hI : Inv N A fl nd wt B Hd O R HL LB SO NG WO SA SE kw HM CO) (H : Heap) (locs : List Loc) (hP : va_P D vwCl (wZ cI cZ cJ cE ad md ou od N A fl an nd wt B Hd O R HL LB SO NG WO SA SE th N A R kw an nd wt B Hd O HM CO F G) H) (hD : va_D (apS s) (wZ cI cZ cJ cE ad md ou od N A fl an nd wt B Hd O R HL LB SO NG WO SA SE th N A R kw an nd wt B Hd O HM CO F G)) (hS : va_S (apS s) s.heap H locs) (ls : Array Slot) (hl : lv_has ls 9 [(0, .ref b), (1, .ref (ad 0)), (2, .ref (md 0)), (3, .ref ou), (4, .ref od), (5, .int (nI i3))]) : W p l e room_1 s m #[Value.ref b] below meth c H locs cs sl (lw_Z below #[Value.ref b] s) (F0 m 581 ls []) := by
  obtain ⟨hx, hb, hr, hml, hown, hts, hXs, hbl, hlocks, hgv⟩ := id C0
  have hts := fun w h => hts w (wsL_law_in w h)
  have hb : c.code = cL_law := hb
  have hbA : ¬ apS s b := Nat.not_le.mpr hbl
  have hAp : ∀ q : Nat, s.heap.size ≤ q → apS s q := fun _ h => h
  obtain ⟨hn, hA, hR, hH, hN, hw, hsv, hkw⟩ := hI
  have hcc : ∀ k, k ≤ 2 → cs + k ≤ room_1.cells := fun k hk => Nat.le_trans (Nat.add_le_add_left hk cs) hcs
  have hss : ∀ k, k ≤ 12 → sl + k ≤ room_1.slots := fun k hk => Nat.le_trans (Nat.add_le_add_left hk sl) hsl
  refine lv_aload_n hx hb dL_law_581 rfl (lv_at hl 1 rfl) ?_
  refine lv_aload_n hx hb dL_law_582 rfl (lv_at hl 0 rfl) ?_
  refine lv_iload hx hb dL_law_583 (lv_at hl 5 rfl) ?_
  refine lv_iconst (v := 1) hx hb dL_law_585 (by decide) ?_
  refine lv_iadd hx hb dL_law_586 ?_
  rw [nI_1]
  refine sld_ (i := i3 + 1) hx hb hXs hbl hbA hS (by omega) hL dL_law_587 ?_
  refine lv_aload_n hx hb dL_law_588 rfl (lv_at hl 3 rfl) ?_
  refine mu_i (wr := [(md 0, .inr (3, [.int (th), .int (nI (N)), .ref (md 1), .int (nI (A)), .ref (md 2), .ref (md 3), .int (nI (R)), .ref (md 4), .ref (md 5), .ref (md 6), .int (bI (kw)), .ref (md 7), .ref (md 8)])), (md 1, .inl (cI, 24, .inl an)), (md 2, .inl (cI, 9, .inl nd)), (md 3, .inl (cI, 9, .inl wt)), (md 4, .inl (cI, 40, .inl B)), (md 5, .inl (cI, 40, .inl Hd)), (md 6, .inl (cZ, 40, .inl (fun j => bI (O j)))), (md 7, .inl (cI, 512, .inl HM)), (md 8, .inl (cZ, 512, .inl (fun j => bI (CO j)))), (od, .inl (cE, 1, .inr (.inr (.inr (.inl G)))))]) (vx_runSW (As := [.ref (ad 0), .int (xs (i3 + 1)), .ref (ou)]) (rest := []) ⟨hx, hb, hml, hown, hts⟩ (c_L_assumptionOf l D cI cZ cJ cE ad ou (N) (A) (fl) (an) (nd) (wt) (B) (Hd) (O) (R) (HL) (LB) (SO) (NG) (WO) (SA) (SE) (F) (xs (i3 + 1)) (hn) hst (H).size) (vx_cwSW 3 hts gL_law_L_assumptionOf rfl rfl rfl (by decide +kernel) ⟨Nat.le_of_ble_eq_true rfl, Nat.le_of_ble_eq_true rfl⟩) (prl_S (hP.sub (ws' := (wKL cI cZ cJ ad ou N A fl an nd wt B Hd O R HL LB SO NG WO SA SE F)) [0, 1, 2, 3, 4, 5, 6, 7, 8, 9, 10, 11, 12, 13, 23] rfl) (hD.sub (ws' := (wKL cI cZ cJ ad ou N A fl an nd wt B Hd O R HL LB SO NG WO SA SE F)) [0, 1, 2, 3, 4, 5, 6, 7, 8, 9, 10, 11, 12, 13, 23] (by decide) rfl) hK hX hZ hY hS (va_free (wc := (wKL cI cZ cJ ad ou N A fl an nd wt B Hd O R HL LB SO NG WO SA SE F)) hD hS hAp [0, 1, 2, 3, 4, 5, 6, 7, 8, 9, 10, 11, 12, 13, 23] rfl)) rfl rfl hl.1 rfl (lv_room (Nat.le_of_ble_eq_true rfl)) dL_law_589 ⟨hcc 1 (by decide), hss 6 (by decide)⟩) hP hD hS hAp [0, 1, 2, 3, 4, 5, 6, 7, 8, 9, 10, 11, 12, 13, 23] [14, 15, 16, 17, 18, 19, 20, 21, 22, 24] rfl rfl (by decide) (by decide) (fun r_589 u_589 H locs hq_589 hP hD hS => ?_)
  obtain ⟨F9_589, rfl⟩ : ∃ z, z = u_589 := ⟨_, rfl⟩
  obtain ⟨hpo_589, -⟩ := hq_589
  have hP : va_P D vwCl (wZ cI cZ cJ cE ad md ou od N A fl an nd wt B Hd O R HL LB SO NG WO SA SE th N A R kw an nd wt B Hd O HM CO F9_589 G) H := hP.sub [10, 11, 12, 13, 14, 15, 16, 17, 18, 19, 20, 21, 22, 23, 0, 1, 2, 3, 4, 5, 6, 7, 8, 24, 9] rfl
  have hD : va_D (apS s) (wZ cI cZ cJ cE ad md ou od N A fl an nd wt B Hd O R HL LB SO NG WO SA SE th N A R kw an nd wt B Hd O HM CO F9_589 G) := hD.sub [10, 11, 12, 13, 14, 15, 16, 17, 18, 19, 20, 21, 22, 23, 0, 1, 2, 3, 4, 5, 6, 7, 8, 24, 9] (by decide) rfl
  refine W.widen (k := cs + 2) (n := sl + 12) (Nat.add_le_add_left (by decide) cs) (Nat.add_le_add_left (by decide) sl) ?_
  refine lv_istore (lv' := [(6, .int (r_589)), (0, .ref (b)), (1, .ref (ad 0)), (2, .ref (md 0)), (3, .ref (ou)), (4, .ref (od)), (5, .int (nI (i3)))]) hx hb dL_law_592 hl (by decide) rfl (fun ls hl => ?_)
  refine lv_aload_n hx hb dL_law_594 rfl (lv_at hl 3 rfl) ?_
  refine lv_aload_n hx hb dL_law_595 rfl (lv_at hl 1 rfl) ?_
  refine lv_iload hx hb dL_law_596 (lv_at hl 6 rfl) ?_
  refine lv_iconst (v := 1) hx hb dL_law_598 (by decide) ?_
  refine lv_iadd hx hb dL_law_599 ?_
  rw [nI_1]
  refine sld_ (i := i3 + 1) hx hb hXs hbl hbA hS (by omega) hL dL_law_600 ?_
  refine mu_i (wr := [(ad 0, .inr (2, [.ref (ad 1), .ref (ad 2), .ref (ad 3), .ref (ad 4), .ref (ad 8), .int (nI (N)), .int (nI (A)), .int (bI (fl))])), (ad 1, .inl (cI, 24, .inl an)), (ad 2, .inl (cI, 9, .inl nd)), (ad 3, .inl (cI, 9, .inl wt)), (ad 4, .inr (0, [.ref (ad 5), .ref (ad 6), .ref (ad 7), .int (nI (R))])), (ad 5, .inl (cI, 40, .inl B)), (ad 6, .inl (cI, 40, .inl Hd)), (ad 7, .inl (cZ, 40, .inl (fun j => bI (O j)))), (ad 8, .inr (1, [.ref (ad 9), .ref (ad 10), .ref (ad 11), .ref (ad 12), .ref (ad 13), .int (nI (SA)), .int (nI (SE))])), (ad 9, .inl (cI, 512, .inl HL)), (ad 10, .inl (cI, 512, .inl LB)), (ad 11, .inl (cZ, 512, .inl (fun j => bI (SO j)))), (ad 12, .inl (cZ, 512, .inl (fun j => bI (NG j)))), (ad 13, .inl (cZ, 512, .inl (fun j => bI (WO j)))), (ou, .inl (cJ, 1, .inr (.inl F9_589))), (od, .inl (cE, 1, .inr (.inr (.inr (.inl G)))))]) (va_runV (As := [.int (xs (i3 + 1))]) (rest := []) ⟨hx, hb, hml, hown, hts⟩ (c_X3_assumptionOf l D cI cZ md (th) (N) (A) (R) (kw) (an) (nd) (wt) (B) (Hd) (O) (HM) (CO) (xs (i3 + 1)) (hn) (H).size) (cwV 1 hts gL_law_X3_assumptionOf rfl rfl rfl (by decide +kernel) ⟨Nat.le_of_ble_eq_true rfl, Nat.le_of_ble_eq_true rfl⟩) (prw_V (q0 := 0) (ci := 3) (hP.sub (ws' := (wM cI cZ md th N A R kw an nd wt B Hd O HM CO)) [14, 15, 16, 17, 18, 19, 20, 21, 22] rfl) (hD.sub (ws' := (wM cI cZ md th N A R kw an nd wt B Hd O HM CO)) [14, 15, 16, 17, 18, 19, 20, 21, 22] (by decide) rfl) (hK.sub [0, 1] rfl) rfl rfl) rfl rfl hl.1 rfl (lv_room (Nat.le_of_ble_eq_true rfl)) dL_law_601 ⟨hcc 2 (by decide), hss 12 (by decide)⟩) hP hD hS hAp [14, 15, 16, 17, 18, 19, 20, 21, 22] [0, 1, 2, 3, 4, 5, 6, 7, 8, 9, 10, 11, 12, 13, 23, 24] rfl rfl (by decide) (by decide) (fun r_601 u_601 H locs hq_601 hP hD hS => ?_)
  obtain ⟨th9_601, rfl⟩ : ∃ z, z = u_601 := ⟨_, rfl⟩
  obtain ⟨hst_601, -⟩ := hq_601
  have hP : va_P D vwCl (wZ cI cZ cJ cE ad md ou od N A fl an nd wt B Hd O R HL LB SO NG WO SA SE th9_601 N A R kw an nd wt B Hd O HM CO F9_589 G) H := hP.sub [0, 1, 2, 3, 4, 5, 6, 7, 8, 9, 10, 11, 12, 13, 16, 17, 18, 19, 20, 21, 22, 23, 24, 14, 15] rfl
  have hD : va_D (apS s) (wZ cI cZ cJ cE ad md ou od N A fl an nd wt B Hd O R HL LB SO NG WO SA SE th9_601 N A R kw an nd wt B Hd O HM CO F9_589 G) := hD.sub [0, 1, 2, 3, 4, 5, 6, 7, 8, 9, 10, 11, 12, 13, 16, 17, 18, 19, 20, 21, 22, 23, 24, 14, 15] (by decide) rfl
  refine lv_istore (lv' := [(7, .int (r_601)), (6, .int (r_589)), (0, .ref (b)), (1, .ref (ad 0)), (2, .ref (md 0)), (3, .ref (ou)), (4, .ref (od)), (5, .int (nI (i3)))]) hx hb dL_law_604 hl (by decide) rfl (fun ls hl => ?_)
  have hAG : ((th9_601) = r_589) ∧ ((r_589 = 0 → F9_589 0 = (r_601).toInt64)) ∧ (Inv N A fl nd wt B Hd O R HL LB SO NG WO SA SE kw HM CO) := by
    rcases hpo_589 with ⟨ha, rr, h2, ⟨j, hj, hx9, hr9⟩, h4⟩ | ⟨ha, h2⟩ <;> rcases hst_601 with ⟨g1, g2⟩ | ⟨g1, g2, j2, hj2, hx8, hr8⟩
    · rw [h2] at g1; cases g1
    · exact ⟨g2.trans ha.symm, fun _ => by rw [h4, hr9, hr8, nI_same (by omega) (by omega) (hx9.symm.trans hx8)], ⟨hn, hA, hR, hH, hN, hw, hsv, hkw⟩⟩
    · exact ⟨g2.trans ha.symm, fun h0 => absurd (ha.symm.trans h0) (by decide), ⟨hn, hA, hR, hH, hN, hw, hsv, hkw⟩⟩
    · rw [h2] at g1; cases g1
  obtain ⟨hth, hvl, hI2⟩ := hAG
  refine lv_aload_n hx hb dL_law_606 rfl (lv_at hl 4 rfl) ?_
  refine pu_i (va_runV (As := []) (rest := []) ⟨hx, hb, hml, hown, hts⟩ (c_X3_thrown l D cI cZ md (th9_601) (N) (A) (R) (kw) (an) (nd) (wt) (B) (Hd) (O) (HM) (CO) ) (cwV 0 hts gL_law_X3_thrown rfl rfl rfl (by decide +kernel) ⟨Nat.le_of_ble_eq_true rfl, Nat.le_of_ble_eq_true rfl⟩) (pre_V (q0 := 0) (ci := 3) (hP.sub (ws' := (wM cI cZ md th9_601 N A R kw an nd wt B Hd O HM CO)) [14, 15, 16, 17, 18, 19, 20, 21, 22] rfl) (hK.sub [0, 1] rfl) rfl rfl) rfl rfl hl.1 rfl (lv_room (Nat.le_of_ble_eq_true rfl)) dL_law_607 ⟨hcc 2 (by decide), hss 12 (by decide)⟩) ?_
  refine lv_iload hx hb dL_law_610 (lv_at hl 1 rfl) ?_
  refine lv_icmp_eq (tgt := 617) hx hb dL_law_612 (by decide) (fun c_612 => ?_) (fun c_612 => ?_)
  · skip
    refine lv_iload hx hb dL_law_617 (lv_at hl 1 rfl) ?_
    refine lv_if_ne (tgt := 634) hx hb dL_law_619 (by decide) (fun c_619 => ?_) (fun c_619 => ?_)
    · skip
      refine lv_goto (tgt := 1862) hx hb dL_law_634 (by decide) ?_
      exact hk (N) (A) (fl) (an) (nd) (wt) (B) (Hd) (O) (R) (HL) (LB) (SO) (NG) (WO) (SA) (SE) (th9_601) (kw) (HM) (CO) (F9_589) (G) _ _ hI2 hP hD hS ls (lv_sub hl [2, 3, 4, 5, 6, 7] rfl)
    · skip
      refine lv_aload_n hx hb dL_law_622 rfl (lv_at hl 5 rfl) ?_
      refine lv_iconst (v := 0) hx hb dL_law_623 (by decide) ?_
      refine ll_0 (D := D) (f := F9_589) hx hb hK hP 23 2 rfl rfl dL_law_624 ?_
      refine lv_iload hx hb dL_law_625 (lv_at hl 0 rfl) ?_
      refine lv_i2l hx hb dL_law_627 rfl ?_
      refine W.lcmp hx hb dL_law_628 ?_
      refine lv_if_eq (tgt := 634) hx hb dL_law_629 (by decide) (fun c_629 => ?_) (fun c_629 => ?_)
      · skip
        refine lv_goto (tgt := 1862) hx hb dL_law_634 (by decide) ?_
        exact hk (N) (A) (fl) (an) (nd) (wt) (B) (Hd) (O) (R) (HL) (LB) (SO) (NG) (WO) (SA) (SE) (th9_601) (kw) (HM) (CO) (F9_589) (G) _ _ hI2 hP hD hS ls (lv_sub hl [2, 3, 4, 5, 6, 7] rfl)
      · skip
        refine lv_iconst (v := 0) hx hb dL_law_632 (by decide) ?_
        exfalso
        first | exact c_629 hth | exact c_629 ((lg_cmp_eq _ _).mpr (hvl c_612)) | exact c_629 ((lg_cmp_eq _ _).mpr (hvl c_619)) | exact c_629 ((lg_cmp_eq _ _).mpr (hvl c_629))
  · skip
    refine lv_iconst (v := 0) hx hb dL_law_615 (by decide) ?_
    exfalso
    first | exact c_612 hth | exact c_612 ((lg_cmp_eq _ _).mpr (hvl c_612))
set_option maxHeartbeats 4000000 in
set_option maxRecDepth 100000 in
theorem law_c9 {p : Program} {e : Env} {s : State} {m : MethodId} {below : List Frame} {meth : Method} {c : Code} (l : Launch) (hst : l.stackTraces = false) {b L : Nat} {xs : Nat → Int32} (hL : L ≤ 1536) (C0 : lw_At p s m meth c b L xs) (D : va_G) (cI cZ cJ cE : ClassId) (ad md : Nat → Nat) (ou od : Nat) (hK : kn D (tyL cI cZ cJ cE) s) (hX : xK s) (hZ : xZ (apS s) s s.heap) (hY : yN s) (cs sl i3 : Nat) (hcs : cs + 2 ≤ 1061) (hsl : sl + 12 ≤ 12206) (hi3 : i3 + 3 ≤ L) (hk : lwK p l e s m below meth c b D cI cZ cJ cE ad md ou od cs sl i3) (N A : Nat) (fl : Bool) (an nd wt B Hd : Nat → Int32) (O : Nat → Bool) (R : Nat) (HL LB : Nat → Int32) (SO NG WO : Nat → Bool) (SA SE : Nat) (th : Int32) (kw : Bool) (HM : Nat → Int32) (CO : Nat → Bool) (F : Nat → Int64) (G : Nat → UInt64) (hI : Inv N A fl nd wt B Hd O R HL LB SO NG WO SA SE kw HM CO) (H : Heap) (locs : List Loc) (hP : va_P D vwCl (wZ cI cZ cJ cE ad md ou od N A fl an nd wt B Hd O R HL LB SO NG WO SA SE th N A R kw an nd wt B Hd O HM CO F G) H) (hD : va_D (apS s) (wZ cI cZ cJ cE ad md ou od N A fl an nd wt B Hd O R HL LB SO NG WO SA SE th N A R kw an nd wt B Hd O HM CO F G)) (hS : va_S (apS s) s.heap H locs) (ls : Array Slot) (hl : lv_has ls 9 [(0, .ref b), (1, .ref (ad 0)), (2, .ref (md 0)), (3, .ref ou), (4, .ref od), (5, .int (nI i3))]) : W p l e room_1 s m #[Value.ref b] below meth c H locs cs sl (lw_Z below #[Value.ref b] s) (F0 m 637 ls []) := by
  obtain ⟨hx, hb, hr, hml, hown, hts, hXs, hbl, hlocks, hgv⟩ := id C0
  have hts := fun w h => hts w (wsL_law_in w h)
  have hb : c.code = cL_law := hb
  have hbA : ¬ apS s b := Nat.not_le.mpr hbl
  have hAp : ∀ q : Nat, s.heap.size ≤ q → apS s q := fun _ h => h
  obtain ⟨hn, hA, hR, hH, hN, hw, hsv, hkw⟩ := hI
  have hcc : ∀ k, k ≤ 2 → cs + k ≤ room_1.cells := fun k hk => Nat.le_trans (Nat.add_le_add_left hk cs) hcs
  have hss : ∀ k, k ≤ 12 → sl + k ≤ room_1.slots := fun k hk => Nat.le_trans (Nat.add_le_add_left hk sl) hsl
  refine lv_aload_n hx hb dL_law_637 rfl (lv_at hl 1 rfl) ?_
  refine lv_aload_n hx hb dL_law_638 rfl (lv_at hl 0 rfl) ?_
  refine lv_iload hx hb dL_law_639 (lv_at hl 5 rfl) ?_
  refine lv_iconst (v := 1) hx hb dL_law_641 (by decide) ?_
  refine lv_iadd hx hb dL_law_642 ?_
  rw [nI_1]
  refine sld_ (i := i3 + 1) hx hb hXs hbl hbA hS (by omega) hL dL_law_643 ?_
  refine lv_aload_n hx hb dL_law_644 rfl (lv_at hl 3 rfl) ?_
  refine mu_i (wr := [(md 0, .inr (3, [.int (th), .int (nI (N)), .ref (md 1), .int (nI (A)), .ref (md 2), .ref (md 3), .int (nI (R)), .ref (md 4), .ref (md 5), .ref (md 6), .int (bI (kw)), .ref (md 7), .ref (md 8)])), (md 1, .inl (cI, 24, .inl an)), (md 2, .inl (cI, 9, .inl nd)), (md 3, .inl (cI, 9, .inl wt)), (md 4, .inl (cI, 40, .inl B)), (md 5, .inl (cI, 40, .inl Hd)), (md 6, .inl (cZ, 40, .inl (fun j => bI (O j)))), (md 7, .inl (cI, 512, .inl HM)), (md 8, .inl (cZ, 512, .inl (fun j => bI (CO j)))), (od, .inl (cE, 1, .inr (.inr (.inr (.inl G)))))]) (vx_runSW (As := [.ref (ad 0), .int (xs (i3 + 1)), .ref (ou)]) (rest := []) ⟨hx, hb, hml, hown, hts⟩ (c_L_nodeOf l D cI cZ cJ cE ad ou (N) (A) (fl) (an) (nd) (wt) (B) (Hd) (O) (R) (HL) (LB) (SO) (NG) (WO) (SA) (SE) (F) (xs (i3 + 1)) (hA) hst (H).size) (vx_cwSW 3 hts gL_law_L_nodeOf rfl rfl rfl (by decide +kernel) ⟨Nat.le_of_ble_eq_true rfl, Nat.le_of_ble_eq_true rfl⟩) (prl_S (hP.sub (ws' := (wKL cI cZ cJ ad ou N A fl an nd wt B Hd O R HL LB SO NG WO SA SE F)) [0, 1, 2, 3, 4, 5, 6, 7, 8, 9, 10, 11, 12, 13, 23] rfl) (hD.sub (ws' := (wKL cI cZ cJ ad ou N A fl an nd wt B Hd O R HL LB SO NG WO SA SE F)) [0, 1, 2, 3, 4, 5, 6, 7, 8, 9, 10, 11, 12, 13, 23] (by decide) rfl) hK hX hZ hY hS (va_free (wc := (wKL cI cZ cJ ad ou N A fl an nd wt B Hd O R HL LB SO NG WO SA SE F)) hD hS hAp [0, 1, 2, 3, 4, 5, 6, 7, 8, 9, 10, 11, 12, 13, 23] rfl)) rfl rfl hl.1 rfl (lv_room (Nat.le_of_ble_eq_true rfl)) dL_law_645 ⟨hcc 1 (by decide), hss 6 (by decide)⟩) hP hD hS hAp [0, 1, 2, 3, 4, 5, 6, 7, 8, 9, 10, 11, 12, 13, 23] [14, 15, 16, 17, 18, 19, 20, 21, 22, 24] rfl rfl (by decide) (by decide) (fun r_645 u_645 H locs hq_645 hP hD hS => ?_)
  obtain ⟨F9_645, rfl⟩ : ∃ z, z = u_645 := ⟨_, rfl⟩
  obtain ⟨hpo_645, -⟩ := hq_645
  have hP : va_P D vwCl (wZ cI cZ cJ cE ad md ou od N A fl an nd wt B Hd O R HL LB SO NG WO SA SE th N A R kw an nd wt B Hd O HM CO F9_645 G) H := hP.sub [10, 11, 12, 13, 14, 15, 16, 17, 18, 19, 20, 21, 22, 23, 0, 1, 2, 3, 4, 5, 6, 7, 8, 24, 9] rfl
  have hD : va_D (apS s) (wZ cI cZ cJ cE ad md ou od N A fl an nd wt B Hd O R HL LB SO NG WO SA SE th N A R kw an nd wt B Hd O HM CO F9_645 G) := hD.sub [10, 11, 12, 13, 14, 15, 16, 17, 18, 19, 20, 21, 22, 23, 0, 1, 2, 3, 4, 5, 6, 7, 8, 24, 9] (by decide) rfl
  refine W.widen (k := cs + 2) (n := sl + 12) (Nat.add_le_add_left (by decide) cs) (Nat.add_le_add_left (by decide) sl) ?_
  refine lv_istore (lv' := [(6, .int (r_645)), (0, .ref (b)), (1, .ref (ad 0)), (2, .ref (md 0)), (3, .ref (ou)), (4, .ref (od)), (5, .int (nI (i3)))]) hx hb dL_law_648 hl (by decide) rfl (fun ls hl => ?_)
  refine lv_aload_n hx hb dL_law_650 rfl (lv_at hl 3 rfl) ?_
  refine lv_aload_n hx hb dL_law_651 rfl (lv_at hl 1 rfl) ?_
  refine lv_iload hx hb dL_law_652 (lv_at hl 6 rfl) ?_
  refine lv_iconst (v := 1) hx hb dL_law_654 (by decide) ?_
  refine lv_iadd hx hb dL_law_655 ?_
  rw [nI_1]
  refine sld_ (i := i3 + 1) hx hb hXs hbl hbA hS (by omega) hL dL_law_656 ?_
  refine mu_i (wr := [(ad 0, .inr (2, [.ref (ad 1), .ref (ad 2), .ref (ad 3), .ref (ad 4), .ref (ad 8), .int (nI (N)), .int (nI (A)), .int (bI (fl))])), (ad 1, .inl (cI, 24, .inl an)), (ad 2, .inl (cI, 9, .inl nd)), (ad 3, .inl (cI, 9, .inl wt)), (ad 4, .inr (0, [.ref (ad 5), .ref (ad 6), .ref (ad 7), .int (nI (R))])), (ad 5, .inl (cI, 40, .inl B)), (ad 6, .inl (cI, 40, .inl Hd)), (ad 7, .inl (cZ, 40, .inl (fun j => bI (O j)))), (ad 8, .inr (1, [.ref (ad 9), .ref (ad 10), .ref (ad 11), .ref (ad 12), .ref (ad 13), .int (nI (SA)), .int (nI (SE))])), (ad 9, .inl (cI, 512, .inl HL)), (ad 10, .inl (cI, 512, .inl LB)), (ad 11, .inl (cZ, 512, .inl (fun j => bI (SO j)))), (ad 12, .inl (cZ, 512, .inl (fun j => bI (NG j)))), (ad 13, .inl (cZ, 512, .inl (fun j => bI (WO j)))), (ou, .inl (cJ, 1, .inr (.inl F9_645))), (od, .inl (cE, 1, .inr (.inr (.inr (.inl G)))))]) (va_runV (As := [.int (xs (i3 + 1))]) (rest := []) ⟨hx, hb, hml, hown, hts⟩ (c_X3_nodeOf l D cI cZ md (th) (N) (A) (R) (kw) (an) (nd) (wt) (B) (Hd) (O) (HM) (CO) (xs (i3 + 1)) (hA) (H).size) (cwV 1 hts gL_law_X3_nodeOf rfl rfl rfl (by decide +kernel) ⟨Nat.le_of_ble_eq_true rfl, Nat.le_of_ble_eq_true rfl⟩) (prw_V (q0 := 0) (ci := 3) (hP.sub (ws' := (wM cI cZ md th N A R kw an nd wt B Hd O HM CO)) [14, 15, 16, 17, 18, 19, 20, 21, 22] rfl) (hD.sub (ws' := (wM cI cZ md th N A R kw an nd wt B Hd O HM CO)) [14, 15, 16, 17, 18, 19, 20, 21, 22] (by decide) rfl) (hK.sub [0, 1] rfl) rfl rfl) rfl rfl hl.1 rfl (lv_room (Nat.le_of_ble_eq_true rfl)) dL_law_657 ⟨hcc 2 (by decide), hss 12 (by decide)⟩) hP hD hS hAp [14, 15, 16, 17, 18, 19, 20, 21, 22] [0, 1, 2, 3, 4, 5, 6, 7, 8, 9, 10, 11, 12, 13, 23, 24] rfl rfl (by decide) (by decide) (fun r_657 u_657 H locs hq_657 hP hD hS => ?_)
  obtain ⟨th9_657, rfl⟩ : ∃ z, z = u_657 := ⟨_, rfl⟩
  obtain ⟨hst_657, -⟩ := hq_657
  have hP : va_P D vwCl (wZ cI cZ cJ cE ad md ou od N A fl an nd wt B Hd O R HL LB SO NG WO SA SE th9_657 N A R kw an nd wt B Hd O HM CO F9_645 G) H := hP.sub [0, 1, 2, 3, 4, 5, 6, 7, 8, 9, 10, 11, 12, 13, 16, 17, 18, 19, 20, 21, 22, 23, 24, 14, 15] rfl
  have hD : va_D (apS s) (wZ cI cZ cJ cE ad md ou od N A fl an nd wt B Hd O R HL LB SO NG WO SA SE th9_657 N A R kw an nd wt B Hd O HM CO F9_645 G) := hD.sub [0, 1, 2, 3, 4, 5, 6, 7, 8, 9, 10, 11, 12, 13, 16, 17, 18, 19, 20, 21, 22, 23, 24, 14, 15] (by decide) rfl
  refine lv_istore (lv' := [(7, .int (r_657)), (6, .int (r_645)), (0, .ref (b)), (1, .ref (ad 0)), (2, .ref (md 0)), (3, .ref (ou)), (4, .ref (od)), (5, .int (nI (i3)))]) hx hb dL_law_660 hl (by decide) rfl (fun ls hl => ?_)
  have hAG : ((th9_657) = r_645) ∧ ((r_645 = 0 → F9_645 0 = (r_657).toInt64)) ∧ (Inv N A fl nd wt B Hd O R HL LB SO NG WO SA SE kw HM CO) := by
    rcases hpo_645 with ⟨ha, rr, h2, ⟨j, hj, hx9, hr9⟩, h4⟩ | ⟨ha, h2⟩ <;> rcases hst_657 with ⟨g1, g2⟩ | ⟨g1, g2, j2, hj2, hx8, hr8⟩
    · rw [h2] at g1; cases g1
    · exact ⟨g2.trans ha.symm, fun _ => by rw [h4, hr9, hr8, nI_same (by omega) (by omega) (hx9.symm.trans hx8)], ⟨hn, hA, hR, hH, hN, hw, hsv, hkw⟩⟩
    · exact ⟨g2.trans ha.symm, fun h0 => absurd (ha.symm.trans h0) (by decide), ⟨hn, hA, hR, hH, hN, hw, hsv, hkw⟩⟩
    · rw [h2] at g1; cases g1
  obtain ⟨hth, hvl, hI2⟩ := hAG
  refine lv_aload_n hx hb dL_law_662 rfl (lv_at hl 4 rfl) ?_
  refine pu_i (va_runV (As := []) (rest := []) ⟨hx, hb, hml, hown, hts⟩ (c_X3_thrown l D cI cZ md (th9_657) (N) (A) (R) (kw) (an) (nd) (wt) (B) (Hd) (O) (HM) (CO) ) (cwV 0 hts gL_law_X3_thrown rfl rfl rfl (by decide +kernel) ⟨Nat.le_of_ble_eq_true rfl, Nat.le_of_ble_eq_true rfl⟩) (pre_V (q0 := 0) (ci := 3) (hP.sub (ws' := (wM cI cZ md th9_657 N A R kw an nd wt B Hd O HM CO)) [14, 15, 16, 17, 18, 19, 20, 21, 22] rfl) (hK.sub [0, 1] rfl) rfl rfl) rfl rfl hl.1 rfl (lv_room (Nat.le_of_ble_eq_true rfl)) dL_law_663 ⟨hcc 2 (by decide), hss 12 (by decide)⟩) ?_
  refine lv_iload hx hb dL_law_666 (lv_at hl 1 rfl) ?_
  refine lv_icmp_eq (tgt := 673) hx hb dL_law_668 (by decide) (fun c_668 => ?_) (fun c_668 => ?_)
  · skip
    refine lv_iload hx hb dL_law_673 (lv_at hl 1 rfl) ?_
    refine lv_if_ne (tgt := 690) hx hb dL_law_675 (by decide) (fun c_675 => ?_) (fun c_675 => ?_)
    · skip
      refine lv_goto (tgt := 1862) hx hb dL_law_690 (by decide) ?_
      exact hk (N) (A) (fl) (an) (nd) (wt) (B) (Hd) (O) (R) (HL) (LB) (SO) (NG) (WO) (SA) (SE) (th9_657) (kw) (HM) (CO) (F9_645) (G) _ _ hI2 hP hD hS ls (lv_sub hl [2, 3, 4, 5, 6, 7] rfl)
    · skip
      refine lv_aload_n hx hb dL_law_678 rfl (lv_at hl 5 rfl) ?_
      refine lv_iconst (v := 0) hx hb dL_law_679 (by decide) ?_
      refine ll_0 (D := D) (f := F9_645) hx hb hK hP 23 2 rfl rfl dL_law_680 ?_
      refine lv_iload hx hb dL_law_681 (lv_at hl 0 rfl) ?_
      refine lv_i2l hx hb dL_law_683 rfl ?_
      refine W.lcmp hx hb dL_law_684 ?_
      refine lv_if_eq (tgt := 690) hx hb dL_law_685 (by decide) (fun c_685 => ?_) (fun c_685 => ?_)
      · skip
        refine lv_goto (tgt := 1862) hx hb dL_law_690 (by decide) ?_
        exact hk (N) (A) (fl) (an) (nd) (wt) (B) (Hd) (O) (R) (HL) (LB) (SO) (NG) (WO) (SA) (SE) (th9_657) (kw) (HM) (CO) (F9_645) (G) _ _ hI2 hP hD hS ls (lv_sub hl [2, 3, 4, 5, 6, 7] rfl)
      · skip
        refine lv_iconst (v := 0) hx hb dL_law_688 (by decide) ?_
        exfalso
        first | exact c_685 hth | exact c_685 ((lg_cmp_eq _ _).mpr (hvl c_668)) | exact c_685 ((lg_cmp_eq _ _).mpr (hvl c_675)) | exact c_685 ((lg_cmp_eq _ _).mpr (hvl c_685))
  · skip
    refine lv_iconst (v := 0) hx hb dL_law_671 (by decide) ?_
    exfalso
    first | exact c_668 hth | exact c_668 ((lg_cmp_eq _ _).mpr (hvl c_668))
