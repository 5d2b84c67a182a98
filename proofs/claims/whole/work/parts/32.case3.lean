set_option maxHeartbeats 4000000 in
set_option maxRecDepth 100000 in
theorem law_c20 {p : Program} {e : Env} {s : State} {m : MethodId} {below : List Frame} {meth : Method} {c : Code} (l : Launch) (hst : l.stackTraces = false) {b L : Nat} {xs : Nat → Int32} (hL : L ≤ 1536) (C0 : lw_At p s m meth c b L xs) (D : va_G) (cI cZ cJ cE : ClassId) (ad md : Nat → Nat) (ou od : Nat) (hK : kn D (tyL cI cZ cJ cE) s) (hX : xK s) (hZ : xZ (apS s) s s.heap) (hY : yN s) (cs sl i3 : Nat) (hcs : cs + 2 ≤ 1061) (hsl : sl + 12 ≤ 12206) (hi3 : i3 + 3 ≤ L) (hk : lwK p l e s m below meth c b D cI cZ cJ cE ad md ou od cs sl i3) (N A : Nat) (fl : Bool) (an nd wt B Hd : Nat → Int32) (O : Nat → Bool) (R : Nat) (HL LB : Nat → Int32) (SO NG WO : Nat → Bool) (SA SE : Nat) (th : Int32) (kw : Bool) (HM : Nat → Int32) (CO : Nat → Bool) (F : Nat → Int64) (G : Nat → UInt64) (hI : Inv N A fl nd wt B Hd O R HL LB SO NG WO SA SE kw HM CO) (H : Heap) (locs : List Loc) (hP : va_P D vwCl (wZ cI cZ cJ cE ad md ou od N A fl an nd wt B Hd O R HL LB SO NG WO SA SE th N A R kw an nd wt B Hd O HM CO F G) H) (hD : va_D (apS s) (wZ cI cZ cJ cE ad md ou od N A fl an nd wt B Hd O R HL LB SO NG WO SA SE th N A R kw an nd wt B Hd O HM CO F G)) (hS : va_S (apS s) s.heap H locs) (ls : Array Slot) (hl : lv_has ls 9 [(0, .ref b), (1, .ref (ad 0)), (2, .ref (md 0)), (3, .ref ou), (4, .ref od), (5, .int (nI i3))]) : W p l e room_1 s m #[Value.ref b] below meth c H locs cs sl (lw_Z below #[Value.ref b] s) (F0 m 1315 ls []) := by
  obtain ⟨hx, hb, hr, hml, hown, hts, hXs, hbl, hlocks, hgv⟩ := id C0
  have hts := fun w h => hts w (wsL_law_in w h)
  have hb : c.code = cL_law := hb
  have hbA : ¬ apS s b := Nat.not_le.mpr hbl
  have hAp : ∀ q : Nat, s.heap.size ≤ q → apS s q := fun _ h => h
  obtain ⟨hn, hA, hR, hH, hN, hw, hsv, hkw⟩ := hI
  have hcc : ∀ k, k ≤ 2 → cs + k ≤ room_1.cells := fun k hk => Nat.le_trans (Nat.add_le_add_left hk cs) hcs
  have hss : ∀ k, k ≤ 12 → sl + k ≤ room_1.slots := fun k hk => Nat.le_trans (Nat.add_le_add_left hk sl) hsl
  refine lv_aload_n hx hb dL_law_1315 rfl (lv_at hl 1 rfl) ?_
  refine lv_aload_n hx hb dL_law_1316 rfl (lv_at hl 0 rfl) ?_
  refine lv_iload hx hb dL_law_1317 (lv_at hl 5 rfl) ?_
  refine lv_iconst (v := 1) hx hb dL_law_1319 (by decide) ?_
  refine lv_iadd hx hb dL_law_1320 ?_
  rw [nI_1]
  refine sld_ (i := i3 + 1) hx hb hXs hbl hbA hS (by omega) hL dL_law_1321 ?_
  refine lv_aload_n hx hb dL_law_1322 rfl (lv_at hl 3 rfl) ?_
  refine mu_i (wr := [(md 0, .inr (3, [.int (th), .int (nI (N)), .ref (md 1), .int (nI (A)), .ref (md 2), .ref (md 3), .int (nI (R)), .ref (md 4), .ref (md 5), .ref (md 6), .int (bI (kw)), .ref (md 7), .ref (md 8)])), (md 1, .inl (cI, 24, .inl an)), (md 2, .inl (cI, 9, .inl nd)), (md 3, .inl (cI, 9, .inl wt)), (md 4, .inl (cI, 40, .inl B)), (md 5, .inl (cI, 40, .inl Hd)), (md 6, .inl (cZ, 40, .inl (fun j => bI (O j)))), (md 7, .inl (cI, 512, .inl HM)), (md 8, .inl (cZ, 512, .inl (fun j => bI (CO j)))), (od, .inl (cE, 1, .inr (.inr (.inr (.inl G)))))]) (vx_runSW (As := [.ref (ad 0), .int (xs (i3 + 1)), .ref (ou)]) (rest := []) ⟨hx, hb, hml, hown, hts⟩ (c_L_needed l D cI cZ cJ cE ad ou (N) (A) (fl) (an) (nd) (wt) (B) (Hd) (O) (R) (HL) (LB) (SO) (NG) (WO) (SA) (SE) (F) (xs (i3 + 1)) (hA) (hR) (hn) (hH) (hN) (hsv) hst (H).size) (vx_cwSW 3 hts gL_law_L_needed rfl rfl rfl (by decide +kernel) ⟨Nat.le_of_ble_eq_true rfl, Nat.le_of_ble_eq_true rfl⟩) (prl_S (hP.sub (ws' := (wKL cI cZ cJ ad ou N A fl an nd wt B Hd O R HL LB SO NG WO SA SE F)) [0, 1, 2, 3, 4, 5, 6, 7, 8, 9, 10, 11, 12, 13, 23] rfl) (hD.sub (ws' := (wKL cI cZ cJ ad ou N A fl an nd wt B Hd O R HL LB SO NG WO SA SE F)) [0, 1, 2, 3, 4, 5, 6, 7, 8, 9, 10, 11, 12, 13, 23] (by decide) rfl) hK hX hZ hY hS (va_free (wc := (wKL cI cZ cJ ad ou N A fl an nd wt B Hd O R HL LB SO NG WO SA SE F)) hD hS hAp [0, 1, 2, 3, 4, 5, 6, 7, 8, 9, 10, 11, 12, 13, 23] rfl)) rfl rfl hl.1 rfl (lv_room (Nat.le_of_ble_eq_true rfl)) dL_law_1323 ⟨hcc 1 (by decide), hss 6 (by decide)⟩) hP hD hS hAp [0, 1, 2, 3, 4, 5, 6, 7, 8, 9, 10, 11, 12, 13, 23] [14, 15, 16, 17, 18, 19, 20, 21, 22, 24] rfl rfl (by decide) (by decide) (fun r_1323 u_1323 H locs hq_1323 hP hD hS => ?_)
  obtain ⟨fl9_1323, HL9_1323, LB9_1323, SO9_1323, NG9_1323, WO9_1323, SA9_1323, SE9_1323, F9_1323⟩ := u_1323
  obtain ⟨hpo_1323, -⟩ := hq_1323
  have hpo_1323 : (r_1323 = 0 ∧ ∃ rr : Int32, rr = ndE (fun e => lbM (hdE B Hd O R nd A) (soE B Hd O R nd A) (xs (i3 + 1)) e) (nI (2 ^ A - 1)) (2 ^ A) ∧ (inR (xs (i3 + 1)) N = true) ∧ (fl9_1323 = true → svOK B Hd O R nd A HL9_1323 LB9_1323 SO9_1323 NG9_1323 WO9_1323 SA9_1323 SE9_1323) ∧ F9_1323 0 = rr.toInt64) ∨ (r_1323 = 1 ∧ (inR (xs (i3 + 1)) N = false) ∧ (fl9_1323 = true → svOK B Hd O R nd A HL9_1323 LB9_1323 SO9_1323 NG9_1323 WO9_1323 SA9_1323 SE9_1323)) := hpo_1323
  have hP : va_P D vwCl (wZ cI cZ cJ cE ad md ou od N A fl9_1323 an nd wt B Hd O R HL9_1323 LB9_1323 SO9_1323 NG9_1323 WO9_1323 SA9_1323 SE9_1323 th N A R kw an nd wt B Hd O HM CO F9_1323 G) H := hP.sub [10, 11, 12, 13, 14, 15, 16, 17, 18, 19, 20, 21, 22, 23, 0, 1, 2, 3, 4, 5, 6, 7, 8, 24, 9] rfl
  have hD : va_D (apS s) (wZ cI cZ cJ cE ad md ou od N A fl9_1323 an nd wt B Hd O R HL9_1323 LB9_1323 SO9_1323 NG9_1323 WO9_1323 SA9_1323 SE9_1323 th N A R kw an nd wt B Hd O HM CO F9_1323 G) := hD.sub [10, 11, 12, 13, 14, 15, 16, 17, 18, 19, 20, 21, 22, 23, 0, 1, 2, 3, 4, 5, 6, 7, 8, 24, 9] (by decide) rfl
  refine W.widen (k := cs + 2) (n := sl + 12) (Nat.add_le_add_left (by decide) cs) (Nat.add_le_add_left (by decide) sl) ?_
  refine lv_istore (lv' := [(6, .int (r_1323)), (0, .ref (b)), (1, .ref (ad 0)), (2, .ref (md 0)), (3, .ref (ou)), (4, .ref (od)), (5, .int (nI (i3)))]) hx hb dL_law_1326 hl (by decide) rfl (fun ls hl => ?_)
  refine lv_aload_n hx hb dL_law_1328 rfl (lv_at hl 3 rfl) ?_
  refine lv_aload_n hx hb dL_law_1329 rfl (lv_at hl 1 rfl) ?_
  refine lv_iload hx hb dL_law_1330 (lv_at hl 6 rfl) ?_
  refine lv_iconst (v := 1) hx hb dL_law_1332 (by decide) ?_
  refine lv_iadd hx hb dL_law_1333 ?_
  rw [nI_1]
  refine sld_ (i := i3 + 1) hx hb hXs hbl hbA hS (by omega) hL dL_law_1334 ?_
  refine mu_i (wr := [(ad 0, .inr (2, [.ref (ad 1), .ref (ad 2), .ref (ad 3), .ref (ad 4), .ref (ad 8), .int (nI (N)), .int (nI (A)), .int (bI (fl9_1323))])), (ad 1, .inl (cI, 24, .inl an)), (ad 2, .inl (cI, 9, .inl nd)), (ad 3, .inl (cI, 9, .inl wt)), (ad 4, .inr (0, [.ref (ad 5), .ref (ad 6), .ref (ad 7), .int (nI (R))])), (ad 5, .inl (cI, 40, .inl B)), (ad 6, .inl (cI, 40, .inl Hd)), (ad 7, .inl (cZ, 40, .inl (fun j => bI (O j)))), (ad 8, .inr (1, [.ref (ad 9), .ref (ad 10), .ref (ad 11), .ref (ad 12), .ref (ad 13), .int (nI (SA9_1323)), .int (nI (SE9_1323))])), (ad 9, .inl (cI, 512, .inl HL9_1323)), (ad 10, .inl (cI, 512, .inl LB9_1323)), (ad 11, .inl (cZ, 512, .inl (fun j => bI (SO9_1323 j)))), (ad 12, .inl (cZ, 512, .inl (fun j => bI (NG9_1323 j)))), (ad 13, .inl (cZ, 512, .inl (fun j => bI (WO9_1323 j)))), (ou, .inl (cJ, 1, .inr (.inl F9_1323))), (od, .inl (cE, 1, .inr (.inr (.inr (.inl G)))))]) (va_runV (As := [.int (xs (i3 + 1))]) (rest := []) ⟨hx, hb, hml, hown, hts⟩ (c_X3_needed l D cI cZ md (th) (N) (A) (R) (kw) (an) (nd) (wt) (B) (Hd) (O) (HM) (CO) (xs (i3 + 1)) (hA) (hR) (hn) (hH) (hN) (hkw) (H).size) (cwV 1 hts gL_law_X3_needed rfl rfl rfl (by decide +kernel) ⟨Nat.le_of_ble_eq_true rfl, Nat.le_of_ble_eq_true rfl⟩) (prw_V (q0 := 0) (ci := 3) (hP.sub (ws' := (wM cI cZ md th N A R kw an nd wt B Hd O HM CO)) [14, 15, 16, 17, 18, 19, 20, 21, 22] rfl) (hD.sub (ws' := (wM cI cZ md th N A R kw an nd wt B Hd O HM CO)) [14, 15, 16, 17, 18, 19, 20, 21, 22] (by decide) rfl) (hK.sub [0, 1] rfl) rfl rfl) rfl rfl hl.1 rfl (lv_room (Nat.le_of_ble_eq_true rfl)) dL_law_1335 ⟨hcc 2 (by decide), hss 12 (by decide)⟩) hP hD hS hAp [14, 15, 16, 17, 18, 19, 20, 21, 22] [0, 1, 2, 3, 4, 5, 6, 7, 8, 9, 10, 11, 12, 13, 23, 24] rfl rfl (by decide) (by decide) (fun r_1335 u_1335 H locs hq_1335 hP hD hS => ?_)
  obtain ⟨th9_1335, HL9_1335, CO9_1335, kw9_1335⟩ := u_1335
  obtain ⟨hthp_1335, hknp_1335, hval_1335, -⟩ := hq_1335
  have hthp_1335 : th9_1335 = tB (inR (xs (i3 + 1)) N) := hthp_1335
  have hknp_1335 : kw9_1335 = true → knOK B Hd O R nd A HL9_1335 CO9_1335 := hknp_1335
  have hval_1335 : inR (xs (i3 + 1)) N = true → r_1335 = ndE (fun e => lbM (hdE B Hd O R nd A) (soE B Hd O R nd A) (xs (i3 + 1)) e) (nI (2 ^ A - 1)) (2 ^ A) := hval_1335
  have hP : va_P D vwCl (wZ cI cZ cJ cE ad md ou od N A fl9_1323 an nd wt B Hd O R HL9_1323 LB9_1323 SO9_1323 NG9_1323 WO9_1323 SA9_1323 SE9_1323 th9_1335 N A R kw9_1335 an nd wt B Hd O HL9_1335 CO9_1335 F9_1323 G) H := hP.sub [0, 1, 2, 3, 4, 5, 6, 7, 8, 9, 10, 11, 12, 13, 16, 17, 18, 19, 20, 21, 22, 23, 24, 14, 15] rfl
  have hD : va_D (apS s) (wZ cI cZ cJ cE ad md ou od N A fl9_1323 an nd wt B Hd O R HL9_1323 LB9_1323 SO9_1323 NG9_1323 WO9_1323 SA9_1323 SE9_1323 th9_1335 N A R kw9_1335 an nd wt B Hd O HL9_1335 CO9_1335 F9_1323 G) := hD.sub [0, 1, 2, 3, 4, 5, 6, 7, 8, 9, 10, 11, 12, 13, 16, 17, 18, 19, 20, 21, 22, 23, 24, 14, 15] (by decide) rfl
  refine lv_istore (lv' := [(7, .int (r_1335)), (6, .int (r_1323)), (0, .ref (b)), (1, .ref (ad 0)), (2, .ref (md 0)), (3, .ref (ou)), (4, .ref (od)), (5, .int (nI (i3)))]) hx hb dL_law_1338 hl (by decide) rfl (fun ls hl => ?_)
  have hAG : ((th9_1335) = r_1323) ∧ ((r_1323 = 0 → F9_1323 0 = (r_1335).toInt64)) ∧ (Inv N A fl9_1323 nd wt B Hd O R HL9_1323 LB9_1323 SO9_1323 NG9_1323 WO9_1323 SA9_1323 SE9_1323 kw9_1335 HL9_1335 CO9_1335) := by
    rcases hpo_1323 with ⟨ha, rr, h1, h2, h3, h4⟩ | ⟨ha, h2, h3⟩
    · exact ⟨by rw [hthp_1335, h2, ha]; rfl, fun _ => by rw [h4, h1, hval_1335 h2], ⟨hn, hA, hR, hH, hN, hw, h3, hknp_1335⟩⟩
    · exact ⟨by rw [hthp_1335, h2, ha]; rfl, fun h0 => absurd (ha.symm.trans h0) (by decide), ⟨hn, hA, hR, hH, hN, hw, h3, hknp_1335⟩⟩
  obtain ⟨hth, hvl, hI2⟩ := hAG
  refine lv_aload_n hx hb dL_law_1340 rfl (lv_at hl 4 rfl) ?_
  refine pu_i (va_runV (As := []) (rest := []) ⟨hx, hb, hml, hown, hts⟩ (c_X3_thrown l D cI cZ md (th9_1335) (N) (A) (R) (kw9_1335) (an) (nd) (wt) (B) (Hd) (O) (HL9_1335) (CO9_1335) ) (cwV 0 hts gL_law_X3_thrown rfl rfl rfl (by decide +kernel) ⟨Nat.le_of_ble_eq_true rfl, Nat.le_of_ble_eq_true rfl⟩) (pre_V (q0 := 0) (ci := 3) (hP.sub (ws' := (wM cI cZ md th9_1335 N A R kw9_1335 an nd wt B Hd O HL9_1335 CO9_1335)) [14, 15, 16, 17, 18, 19, 20, 21, 22] rfl) (hK.sub [0, 1] rfl) rfl rfl) rfl rfl hl.1 rfl (lv_room (Nat.le_of_ble_eq_true rfl)) dL_law_1341 ⟨hcc 2 (by decide), hss 12 (by decide)⟩) ?_
  refine lv_iload hx hb dL_law_1344 (lv_at hl 1 rfl) ?_
  refine lv_icmp_eq (tgt := 1351) hx hb dL_law_1346 (by decide) (fun c_1346 => ?_) (fun c_1346 => ?_)
  · skip
    refine lv_iload hx hb dL_law_1351 (lv_at hl 1 rfl) ?_
    refine lv_if_ne (tgt := 1368) hx hb dL_law_1353 (by decide) (fun c_1353 => ?_) (fun c_1353 => ?_)
    · skip
      refine lv_goto (tgt := 1862) hx hb dL_law_1368 (by decide) ?_
      exact hk (N) (A) (fl9_1323) (an) (nd) (wt) (B) (Hd) (O) (R) (HL9_1323) (LB9_1323) (SO9_1323) (NG9_1323) (WO9_1323) (SA9_1323) (SE9_1323) (th9_1335) (kw9_1335) (HL9_1335) (CO9_1335) (F9_1323) (G) _ _ hI2 hP hD hS ls (lv_sub hl [2, 3, 4, 5, 6, 7] rfl)
    · skip
      refine lv_aload_n hx hb dL_law_1356 rfl (lv_at hl 5 rfl) ?_
      refine lv_iconst (v := 0) hx hb dL_law_1357 (by decide) ?_
      refine ll_0 (D := D) (f := F9_1323) hx hb hK hP 23 2 rfl rfl dL_law_1358 ?_
      refine lv_iload hx hb dL_law_1359 (lv_at hl 0 rfl) ?_
      refine lv_i2l hx hb dL_law_1361 rfl ?_
      refine W.lcmp hx hb dL_law_1362 ?_
      refine lv_if_eq (tgt := 1368) hx hb dL_law_1363 (by decide) (fun c_1363 => ?_) (fun c_1363 => ?_)
      · skip
        refine lv_goto (tgt := 1862) hx hb dL_law_1368 (by decide) ?_
        exact hk (N) (A) (fl9_1323) (an) (nd) (wt) (B) (Hd) (O) (R) (HL9_1323) (LB9_1323) (SO9_1323) (NG9_1323) (WO9_1323) (SA9_1323) (SE9_1323) (th9_1335) (kw9_1335) (HL9_1335) (CO9_1335) (F9_1323) (G) _ _ hI2 hP hD hS ls (lv_sub hl [2, 3, 4, 5, 6, 7] rfl)
      · skip
        refine lv_iconst (v := 0) hx hb dL_law_1366 (by decide) ?_
        exfalso
        first | exact c_1363 hth | exact c_1363 ((lg_cmp_eq _ _).mpr (hvl c_1346)) | exact c_1363 ((lg_cmp_eq _ _).mpr (hvl c_1353)) | exact c_1363 ((lg_cmp_eq _ _).mpr (hvl c_1363))
  · skip
    refine lv_iconst (v := 0) hx hb dL_law_1349 (by decide) ?_
    exfalso
    first | exact c_1346 hth | exact c_1346 ((lg_cmp_eq _ _).mpr (hvl c_1346))
set_option maxHeartbeats 4000000 in
set_option maxRecDepth 100000 in
theorem law_c21 {p : Program} {e : Env} {s : State} {m : MethodId} {below : List Frame} {meth : Method} {c : Code} (l : Launch) (hst : l.stackTraces = false) {b L : Nat} {xs : Nat → Int32} (hL : L ≤ 1536) (C0 : lw_At p s m meth c b L xs) (D : va_G) (cI cZ cJ cE : ClassId) (ad md : Nat → Nat) (ou od : Nat) (hK : kn D (tyL cI cZ cJ cE) s) (hX : xK s) (hZ : xZ (apS s) s s.heap) (hY : yN s) (cs sl i3 : Nat) (hcs : cs + 2 ≤ 1061) (hsl : sl + 12 ≤ 12206) (hi3 : i3 + 3 ≤ L) (hk : lwK p l e s m below meth c b D cI cZ cJ cE ad md ou od cs sl i3) (N A : Nat) (fl : Bool) (an nd wt B Hd : Nat → Int32) (O : Nat → Bool) (R : Nat) (HL LB : Nat → Int32) (SO NG WO : Nat → Bool) (SA SE : Nat) (th : Int32) (kw : Bool) (HM : Nat → Int32) (CO : Nat → Bool) (F : Nat → Int64) (G : Nat → UInt64) (hI : Inv N A fl nd wt B Hd O R HL LB SO NG WO SA SE kw HM CO) (H : Heap) (locs : List Loc) (hP : va_P D vwCl (wZ cI cZ cJ cE ad md ou od N A fl an nd wt B Hd O R HL LB SO NG WO SA SE th N A R kw an nd wt B Hd O HM CO F G) H) (hD : va_D (apS s) (wZ cI cZ cJ cE ad md ou od N A fl an nd wt B Hd O R HL LB SO NG WO SA SE th N A R kw an nd wt B Hd O HM CO F G)) (hS : va_S (apS s) s.heap H locs) (ls : Array Slot) (hl : lv_has ls 9 [(0, .ref b), (1, .ref (ad 0)), (2, .ref (md 0)), (3, .ref ou), (4, .ref od), (5, .int (nI i3))]) : W p l e room_1 s m #[Value.ref b] below meth c H locs cs sl (lw_Z below #[Value.ref b] s) (F0 m 1371 ls []) := by
  obtain ⟨hx, hb, hr, hml, hown, hts, hXs, hbl, hlocks, hgv⟩ := id C0
  have hts := fun w h => hts w (wsL_law_in w h)
  have hb : c.code = cL_law := hb
  have hbA : ¬ apS s b := Nat.not_le.mpr hbl
  have hAp : ∀ q : Nat, s.heap.size ≤ q → apS s q := fun _ h => h
  obtain ⟨hn, hA, hR, hH, hN, hw, hsv, hkw⟩ := hI
  have hcc : ∀ k, k ≤ 2 → cs + k ≤ room_1.cells := fun k hk => Nat.le_trans (Nat.add_le_add_left hk cs) hcs
  have hss : ∀ k, k ≤ 12 → sl + k ≤ room_1.slots := fun k hk => Nat.le_trans (Nat.add_le_add_left hk sl) hsl
  refine lv_aload_n hx hb dL_law_1371 rfl (lv_at hl 1 rfl) ?_
  refine lv_aload_n hx hb dL_law_1372 rfl (lv_at hl 0 rfl) ?_
  refine lv_iload hx hb dL_law_1373 (lv_at hl 5 rfl) ?_
  refine lv_iconst (v := 1) hx hb dL_law_1375 (by decide) ?_
  refine lv_iadd hx hb dL_law_1376 ?_
  rw [nI_1]
  refine sld_ (i := i3 + 1) hx hb hXs hbl hbA hS (by omega) hL dL_law_1377 ?_
  refine lv_aload_n hx hb dL_law_1378 rfl (lv_at hl 3 rfl) ?_
  refine mu_i (wr := [(md 0, .inr (3, [.int (th), .int (nI (N)), .ref (md 1), .int (nI (A)), .ref (md 2), .ref (md 3), .int (nI (R)), .ref (md 4), .ref (md 5), .ref (md 6), .int (bI (kw)), .ref (md 7), .ref (md 8)])), (md 1, .inl (cI, 24, .inl an)), (md 2, .inl (cI, 9, .inl nd)), (md 3, .inl (cI, 9, .inl wt)), (md 4, .inl (cI, 40, .inl B)), (md 5, .inl (cI, 40, .inl Hd)), (md 6, .inl (cZ, 40, .inl (fun j => bI (O j)))), (md 7, .inl (cI, 512, .inl HM)), (md 8, .inl (cZ, 512, .inl (fun j => bI (CO j)))), (od, .inl (cE, 1, .inr (.inr (.inr (.inl G)))))]) (vx_runSW (As := [.ref (ad 0), .int (xs (i3 + 1)), .ref (ou)]) (rest := []) ⟨hx, hb, hml, hown, hts⟩ (c_L_useful l D cI cZ cJ cE ad ou (N) (A) (fl) (an) (nd) (wt) (B) (Hd) (O) (R) (HL) (LB) (SO) (NG) (WO) (SA) (SE) (F) (xs (i3 + 1)) (hA) (hR) (hn) (hH) (hN) (hsv) hst (H).size) (vx_cwSW 3 hts gL_law_L_useful rfl rfl rfl (by decide +kernel) ⟨Nat.le_of_ble_eq_true rfl, Nat.le_of_ble_eq_true rfl⟩) (prl_S (hP.sub (ws' := (wKL cI cZ cJ ad ou N A fl an nd wt B Hd O R HL LB SO NG WO SA SE F)) [0, 1, 2, 3, 4, 5, 6, 7, 8, 9, 10, 11, 12, 13, 23] rfl) (hD.sub (ws' := (wKL cI cZ cJ ad ou N A fl an nd wt B Hd O R HL LB SO NG WO SA SE F)) [0, 1, 2, 3, 4, 5, 6, 7, 8, 9, 10, 11, 12, 13, 23] (by decide) rfl) hK hX hZ hY hS (va_free (wc := (wKL cI cZ cJ ad ou N A fl an nd wt B Hd O R HL LB SO NG WO SA SE F)) hD hS hAp [0, 1, 2, 3, 4, 5, 6, 7, 8, 9, 10, 11, 12, 13, 23] rfl)) rfl rfl hl.1 rfl (lv_room (Nat.le_of_ble_eq_true rfl)) dL_law_1379 ⟨hcc 1 (by decide), hss 6 (by decide)⟩) hP hD hS hAp [0, 1, 2, 3, 4, 5, 6, 7, 8, 9, 10, 11, 12, 13, 23] [14, 15, 16, 17, 18, 19, 20, 21, 22, 24] rfl rfl (by decide) (by decide) (fun r_1379 u_1379 H locs hq_1379 hP hD hS => ?_)
  obtain ⟨fl9_1379, HL9_1379, LB9_1379, SO9_1379, NG9_1379, WO9_1379, SA9_1379, SE9_1379, F9_1379⟩ := u_1379
  obtain ⟨hpo_1379, -⟩ := hq_1379
  have hpo_1379 : (r_1379 = 0 ∧ ∃ rr : Int32, rr = usE (fun e => lbM (hdE B Hd O R nd A) (soE B Hd O R nd A) (xs (i3 + 1)) e) (2 ^ A) ∧ (inR (xs (i3 + 1)) N = true) ∧ (fl9_1379 = true → svOK B Hd O R nd A HL9_1379 LB9_1379 SO9_1379 NG9_1379 WO9_1379 SA9_1379 SE9_1379) ∧ F9_1379 0 = rr.toInt64) ∨ (r_1379 = 1 ∧ (inR (xs (i3 + 1)) N = false) ∧ (fl9_1379 = true → svOK B Hd O R nd A HL9_1379 LB9_1379 SO9_1379 NG9_1379 WO9_1379 SA9_1379 SE9_1379)) := hpo_1379
  have hP : va_P D vwCl (wZ cI cZ cJ cE ad md ou od N A fl9_1379 an nd wt B Hd O R HL9_1379 LB9_1379 SO9_1379 NG9_1379 WO9_1379 SA9_1379 SE9_1379 th N A R kw an nd wt B Hd O HM CO F9_1379 G) H := hP.sub [10, 11, 12, 13, 14, 15, 16, 17, 18, 19, 20, 21, 22, 23, 0, 1, 2, 3, 4, 5, 6, 7, 8, 24, 9] rfl
  have hD : va_D (apS s) (wZ cI cZ cJ cE ad md ou od N A fl9_1379 an nd wt B Hd O R HL9_1379 LB9_1379 SO9_1379 NG9_1379 WO9_1379 SA9_1379 SE9_1379 th N A R kw an nd wt B Hd O HM CO F9_1379 G) := hD.sub [10, 11, 12, 13, 14, 15, 16, 17, 18, 19, 20, 21, 22, 23, 0, 1, 2, 3, 4, 5, 6, 7, 8, 24, 9] (by decide) rfl
  refine W.widen (k := cs + 2) (n := sl + 12) (Nat.add_le_add_left (by decide) cs) (Nat.add_le_add_left (by decide) sl) ?_
  refine lv_istore (lv' := [(6, .int (r_1379)), (0, .ref (b)), (1, .ref (ad 0)), (2, .ref (md 0)), (3, .ref (ou)), (4, .ref (od)), (5, .int (nI (i3)))]) hx hb dL_law_1382 hl (by decide) rfl (fun ls hl => ?_)
  refine lv_aload_n hx hb dL_law_1384 rfl (lv_at hl 3 rfl) ?_
  refine lv_aload_n hx hb dL_law_1385 rfl (lv_at hl 1 rfl) ?_
  refine lv_iload hx hb dL_law_1386 (lv_at hl 6 rfl) ?_
  refine lv_iconst (v := 1) hx hb dL_law_1388 (by decide) ?_
  refine lv_iadd hx hb dL_law_1389 ?_
  rw [nI_1]
  refine sld_ (i := i3 + 1) hx hb hXs hbl hbA hS (by omega) hL dL_law_1390 ?_
  refine mu_i (wr := [(ad 0, .inr (2, [.ref (ad 1), .ref (ad 2), .ref (ad 3), .ref (ad 4), .ref (ad 8), .int (nI (N)), .int (nI (A)), .int (bI (fl9_1379))])), (ad 1, .inl (cI, 24, .inl an)), (ad 2, .inl (cI, 9, .inl nd)), (ad 3, .inl (cI, 9, .inl wt)), (ad 4, .inr (0, [.ref (ad 5), .ref (ad 6), .ref (ad 7), .int (nI (R))])), (ad 5, .inl (cI, 40, .inl B)), (ad 6, .inl (cI, 40, .inl Hd)), (ad 7, .inl (cZ, 40, .inl (fun j => bI (O j)))), (ad 8, .inr (1, [.ref (ad 9), .ref (ad 10), .ref (ad 11), .ref (ad 12), .ref (ad 13), .int (nI (SA9_1379)), .int (nI (SE9_1379))])), (ad 9, .inl (cI, 512, .inl HL9_1379)), (ad 10, .inl (cI, 512, .inl LB9_1379)), (ad 11, .inl (cZ, 512, .inl (fun j => bI (SO9_1379 j)))), (ad 12, .inl (cZ, 512, .inl (fun j => bI (NG9_1379 j)))), (ad 13, .inl (cZ, 512, .inl (fun j => bI (WO9_1379 j)))), (ou, .inl (cJ, 1, .inr (.inl F9_1379))), (od, .inl (cE, 1, .inr (.inr (.inr (.inl G)))))]) (va_runV (As := [.int (xs (i3 + 1))]) (rest := []) ⟨hx, hb, hml, hown, hts⟩ (c_X3_useful l D cI cZ md (th) (N) (A) (R) (kw) (an) (nd) (wt) (B) (Hd) (O) (HM) (CO) (xs (i3 + 1)) (hA) (hR) (hn) (hH) (hN) (hkw) (H).size) (cwV 1 hts gL_law_X3_useful rfl rfl rfl (by decide +kernel) ⟨Nat.le_of_ble_eq_true rfl, Nat.le_of_ble_eq_true rfl⟩) (prw_V (q0 := 0) (ci := 3) (hP.sub (ws' := (wM cI cZ md th N A R kw an nd wt B Hd O HM CO)) [14, 15, 16, 17, 18, 19, 20, 21, 22] rfl) (hD.sub (ws' := (wM cI cZ md th N A R kw an nd wt B Hd O HM CO)) [14, 15, 16, 17, 18, 19, 20, 21, 22] (by decide) rfl) (hK.sub [0, 1] rfl) rfl rfl) rfl rfl hl.1 rfl (lv_room (Nat.le_of_ble_eq_true rfl)) dL_law_1391 ⟨hcc 2 (by decide), hss 12 (by decide)⟩) hP hD hS hAp [14, 15, 16, 17, 18, 19, 20, 21, 22] [0, 1, 2, 3, 4, 5, 6, 7, 8, 9, 10, 11, 12, 13, 23, 24] rfl rfl (by decide) (by decide) (fun r_1391 u_1391 H locs hq_1391 hP hD hS => ?_)
  obtain ⟨th9_1391, HL9_1391, CO9_1391, kw9_1391⟩ := u_1391
  obtain ⟨hthp_1391, hknp_1391, hval_1391, -⟩ := hq_1391
  have hthp_1391 : th9_1391 = tB (inR (xs (i3 + 1)) N) := hthp_1391
  have hknp_1391 : kw9_1391 = true → knOK B Hd O R nd A HL9_1391 CO9_1391 := hknp_1391
  have hval_1391 : inR (xs (i3 + 1)) N = true → r_1391 = usE (fun e => lbM (hdE B Hd O R nd A) (soE B Hd O R nd A) (xs (i3 + 1)) e) (2 ^ A) := hval_1391
  have hP : va_P D vwCl (wZ cI cZ cJ cE ad md ou od N A fl9_1379 an nd wt B Hd O R HL9_1379 LB9_1379 SO9_1379 NG9_1379 WO9_1379 SA9_1379 SE9_1379 th9_1391 N A R kw9_1391 an nd wt B Hd O HL9_1391 CO9_1391 F9_1379 G) H := hP.sub [0, 1, 2, 3, 4, 5, 6, 7, 8, 9, 10, 11, 12, 13, 16, 17, 18, 19, 20, 21, 22, 23, 24, 14, 15] rfl
  have hD : va_D (apS s) (wZ cI cZ cJ cE ad md ou od N A fl9_1379 an nd wt B Hd O R HL9_1379 LB9_1379 SO9_1379 NG9_1379 WO9_1379 SA9_1379 SE9_1379 th9_1391 N A R kw9_1391 an nd wt B Hd O HL9_1391 CO9_1391 F9_1379 G) := hD.sub [0, 1, 2, 3, 4, 5, 6, 7, 8, 9, 10, 11, 12, 13, 16, 17, 18, 19, 20, 21, 22, 23, 24, 14, 15] (by decide) rfl
  refine lv_istore (lv' := [(7, .int (r_1391)), (6, .int (r_1379)), (0, .ref (b)), (1, .ref (ad 0)), (2, .ref (md 0)), (3, .ref (ou)), (4, .ref (od)), (5, .int (nI (i3)))]) hx hb dL_law_1394 hl (by decide) rfl (fun ls hl => ?_)
  have hAG : ((th9_1391) = r_1379) ∧ ((r_1379 = 0 → F9_1379 0 = (r_1391).toInt64)) ∧ (Inv N A fl9_1379 nd wt B Hd O R HL9_1379 LB9_1379 SO9_1379 NG9_1379 WO9_1379 SA9_1379 SE9_1379 kw9_1391 HL9_1391 CO9_1391) := by
    rcases hpo_1379 with ⟨ha, rr, h1, h2, h3, h4⟩ | ⟨ha, h2, h3⟩
    · exact ⟨by rw [hthp_1391, h2, ha]; rfl, fun _ => by rw [h4, h1, hval_1391 h2], ⟨hn, hA, hR, hH, hN, hw, h3, hknp_1391⟩⟩
    · exact ⟨by rw [hthp_1391, h2, ha]; rfl, fun h0 => absurd (ha.symm.trans h0) (by decide), ⟨hn, hA, hR, hH, hN, hw, h3, hknp_1391⟩⟩
  obtain ⟨hth, hvl, hI2⟩ := hAG
  refine lv_aload_n hx hb dL_law_1396 rfl (lv_at hl 4 rfl) ?_
  refine pu_i (va_runV (As := []) (rest := []) ⟨hx, hb, hml, hown, hts⟩ (c_X3_thrown l D cI cZ md (th9_1391) (N) (A) (R) (kw9_1391) (an) (nd) (wt) (B) (Hd) (O) (HL9_1391) (CO9_1391) ) (cwV 0 hts gL_law_X3_thrown rfl rfl rfl (by decide +kernel) ⟨Nat.le_of_ble_eq_true rfl, Nat.le_of_ble_eq_true rfl⟩) (pre_V (q0 := 0) (ci := 3) (hP.sub (ws' := (wM cI cZ md th9_1391 N A R kw9_1391 an nd wt B Hd O HL9_1391 CO9_1391)) [14, 15, 16, 17, 18, 19, 20, 21, 22] rfl) (hK.sub [0, 1] rfl) rfl rfl) rfl rfl hl.1 rfl (lv_room (Nat.le_of_ble_eq_true rfl)) dL_law_1397 ⟨hcc 2 (by decide), hss 12 (by decide)⟩) ?_
  refine lv_iload hx hb dL_law_1400 (lv_at hl 1 rfl) ?_
  refine lv_icmp_eq (tgt := 1407) hx hb dL_law_1402 (by decide) (fun c_1402 => ?_) (fun c_1402 => ?_)
  · skip
    refine lv_iload hx hb dL_law_1407 (lv_at hl 1 rfl) ?_
    refine lv_if_ne (tgt := 1424) hx hb dL_law_1409 (by decide) (fun c_1409 => ?_) (fun c_1409 => ?_)
    · skip
      refine lv_goto (tgt := 1862) hx hb dL_law_1424 (by decide) ?_
      exact hk (N) (A) (fl9_1379) (an) (nd) (wt) (B) (Hd) (O) (R) (HL9_1379) (LB9_1379) (SO9_1379) (NG9_1379) (WO9_1379) (SA9_1379) (SE9_1379) (th9_1391) (kw9_1391) (HL9_1391) (CO9_1391) (F9_1379) (G) _ _ hI2 hP hD hS ls (lv_sub hl [2, 3, 4, 5, 6, 7] rfl)
    · skip
      refine lv_aload_n hx hb dL_law_1412 rfl (lv_at hl 5 rfl) ?_
      refine lv_iconst (v := 0) hx hb dL_law_1413 (by decide) ?_
      refine ll_0 (D := D) (f := F9_1379) hx hb hK hP 23 2 rfl rfl dL_law_1414 ?_
      refine lv_iload hx hb dL_law_1415 (lv_at hl 0 rfl) ?_
      refine lv_i2l hx hb dL_law_1417 rfl ?_
      refine W.lcmp hx hb dL_law_1418 ?_
      refine lv_if_eq (tgt := 1424) hx hb dL_law_1419 (by decide) (fun c_1419 => ?_) (fun c_1419 => ?_)
      · skip
        refine lv_goto (tgt := 1862) hx hb dL_law_1424 (by decide) ?_
        exact hk (N) (A) (fl9_1379) (an) (nd) (wt) (B) (Hd) (O) (R) (HL9_1379) (LB9_1379) (SO9_1379) (NG9_1379) (WO9_1379) (SA9_1379) (SE9_1379) (th9_1391) (kw9_1391) (HL9_1391) (CO9_1391) (F9_1379) (G) _ _ hI2 hP hD hS ls (lv_sub hl [2, 3, 4, 5, 6, 7] rfl)
      · skip
        refine lv_iconst (v := 0) hx hb dL_law_1422 (by decide) ?_
        exfalso
        first | exact c_1419 hth | exact c_1419 ((lg_cmp_eq _ _).mpr (hvl c_1402)) | exact c_1419 ((lg_cmp_eq _ _).mpr (hvl c_1409)) | exact c_1419 ((lg_cmp_eq _ _).mpr (hvl c_1419))
  · skip
    refine lv_iconst (v := 0) hx hb dL_law_1405 (by decide) ?_
    exfalso
    first | exact c_1402 hth | exact c_1402 ((lg_cmp_eq _ _).mpr (hvl c_1402))
set_option maxHeartbeats 4000000 in
set_option maxRecDepth 100000 in
theorem law_c22 {p : Program} {e : Env} {s : State} {m : MethodId} {below : List Frame} {meth : Method} {c : Code} (l : Launch) (hst : l.stackTraces = false) {b L : Nat} {xs : Nat → Int32} (hL : L ≤ 1536) (C0 : lw_At p s m meth c b L xs) (D : va_G) (cI cZ cJ cE : ClassId) (ad md : Nat → Nat) (ou od : Nat) (hK : kn D (tyL cI cZ cJ cE) s) (hX : xK s) (hZ : xZ (apS s) s s.heap) (hY : yN s) (cs sl i3 : Nat) (hcs : cs + 2 ≤ 1061) (hsl : sl + 12 ≤ 12206) (hi3 : i3 + 3 ≤ L) (hk : lwK p l e s m below meth c b D cI cZ cJ cE ad md ou od cs sl i3) (N A : Nat) (fl : Bool) (an nd wt B Hd : Nat → Int32) (O : Nat → Bool) (R : Nat) (HL LB : Nat → Int32) (SO NG WO : Nat → Bool) (SA SE : Nat) (th : Int32) (kw : Bool) (HM : Nat → Int32) (CO : Nat → Bool) (F : Nat → Int64) (G : Nat → UInt64) (hI : Inv N A fl nd wt B Hd O R HL LB SO NG WO SA SE kw HM CO) (H : Heap) (locs : List Loc) (hP : va_P D vwCl (wZ cI cZ cJ cE ad md ou od N A fl an nd wt B Hd O R HL LB SO NG WO SA SE th N A R kw an nd wt B Hd O HM CO F G) H) (hD : va_D (apS s) (wZ cI cZ cJ cE ad md ou od N A fl an nd wt B Hd O R HL LB SO NG WO SA SE th N A R kw an nd wt B Hd O HM CO F G)) (hS : va_S (apS s) s.heap H locs) (ls : Array Slot) (hl : lv_has ls 9 [(0, .ref b), (1, .ref (ad 0)), (2, .ref (md 0)), (3, .ref ou), (4, .ref od), (5, .int (nI i3))]) : W p l e room_1 s m #[Value.ref b] below meth c H locs cs sl (lw_Z below #[Value.ref b] s) (F0 m 1427 ls []) := by
  obtain ⟨hx, hb, hr, hml, hown, hts, hXs, hbl, hlocks, hgv⟩ := id C0
  have hts := fun w h => hts w (wsL_law_in w h)
  have hb : c.code = cL_law := hb
  have hbA : ¬ apS s b := Nat.not_le.mpr hbl
  have hAp : ∀ q : Nat, s.heap.size ≤ q → apS s q := fun _ h => h
  obtain ⟨hn, hA, hR, hH, hN, hw, hsv, hkw⟩ := hI
  have hcc : ∀ k, k ≤ 2 → cs + k ≤ room_1.cells := fun k hk => Nat.le_trans (Nat.add_le_add_left hk cs) hcs
  have hss : ∀ k, k ≤ 12 → sl + k ≤ room_1.slots := fun k hk => Nat.le_trans (Nat.add_le_add_left hk sl) hsl
  refine lv_aload_n hx hb dL_law_1427 rfl (lv_at hl 1 rfl) ?_
  refine mu_i (wr := [(md 0, .inr (3, [.int (th), .int (nI (N)), .ref (md 1), .int (nI (A)), .ref (md 2), .ref (md 3), .int (nI (R)), .ref (md 4), .ref (md 5), .ref (md 6), .int (bI (kw)), .ref (md 7), .ref (md 8)])), (md 1, .inl (cI, 24, .inl an)), (md 2, .inl (cI, 9, .inl nd)), (md 3, .inl (cI, 9, .inl wt)), (md 4, .inl (cI, 40, .inl B)), (md 5, .inl (cI, 40, .inl Hd)), (md 6, .inl (cZ, 40, .inl (fun j => bI (O j)))), (md 7, .inl (cI, 512, .inl HM)), (md 8, .inl (cZ, 512, .inl (fun j => bI (CO j)))), (ou, .inl (cJ, 1, .inr (.inl F))), (od, .inl (cE, 1, .inr (.inr (.inr (.inl G)))))]) (va_runV (As := []) (rest := []) ⟨hx, hb, hml, hown, hts⟩ (c_X2_nogoodCount l D cI cZ ad (N) (A) (fl) (an) (nd) (wt) (B) (Hd) (O) (R) (HL) (LB) (SO) (NG) (WO) (SA) (SE) (hA) (hR) (hn) (hH) (hN) (hsv) (H).size) (cwV 0 hts gL_law_X2_nogoodCount rfl rfl rfl (by decide +kernel) ⟨Nat.le_of_ble_eq_true rfl, Nat.le_of_ble_eq_true rfl⟩) (prw_V (q0 := 0) (ci := 2) (hP.sub (ws' := (wK cI cZ ad N A fl an nd wt B Hd O R HL LB SO NG WO SA SE)) [0, 1, 2, 3, 4, 5, 6, 7, 8, 9, 10, 11, 12, 13] rfl) (hD.sub (ws' := (wK cI cZ ad N A fl an nd wt B Hd O R HL LB SO NG WO SA SE)) [0, 1, 2, 3, 4, 5, 6, 7, 8, 9, 10, 11, 12, 13] (by decide) rfl) (hK.sub [0, 1] rfl) rfl rfl) rfl rfl hl.1 rfl (lv_room (Nat.le_of_ble_eq_true rfl)) dL_law_1428 ⟨hcc 0 (by decide), hss 0 (by decide)⟩) hP hD hS hAp [0, 1, 2, 3, 4, 5, 6, 7, 8, 9, 10, 11, 12, 13] [14, 15, 16, 17, 18, 19, 20, 21, 22, 23, 24] rfl rfl (by decide) (by decide) (fun r_1428 u_1428 H locs hq_1428 hP hD hS => ?_)
  obtain ⟨fl9_1428, HL9_1428, LB9_1428, SO9_1428, NG9_1428, WO9_1428, SA9_1428, SE9_1428⟩ := u_1428
  obtain ⟨rfl, hsvp_1428, -⟩ := hq_1428
  have hsvp_1428 : fl9_1428 = true → svOK B Hd O R nd A HL9_1428 LB9_1428 SO9_1428 NG9_1428 WO9_1428 SA9_1428 SE9_1428 := hsvp_1428
  have hP : va_P D vwCl (wZ cI cZ cJ cE ad md ou od N A fl9_1428 an nd wt B Hd O R HL9_1428 LB9_1428 SO9_1428 NG9_1428 WO9_1428 SA9_1428 SE9_1428 th N A R kw an nd wt B Hd O HM CO F G) H := hP.sub [11, 12, 13, 14, 15, 16, 17, 18, 19, 20, 21, 22, 23, 24, 0, 1, 2, 3, 4, 5, 6, 7, 8, 9, 10] rfl
  have hD : va_D (apS s) (wZ cI cZ cJ cE ad md ou od N A fl9_1428 an nd wt B Hd O R HL9_1428 LB9_1428 SO9_1428 NG9_1428 WO9_1428 SA9_1428 SE9_1428 th N A R kw an nd wt B Hd O HM CO F G) := hD.sub [11, 12, 13, 14, 15, 16, 17, 18, 19, 20, 21, 22, 23, 24, 0, 1, 2, 3, 4, 5, 6, 7, 8, 9, 10] (by decide) rfl
  refine lv_aload_n hx hb dL_law_1431 rfl (lv_at hl 2 rfl) ?_
  refine mu_i (wr := [(ad 0, .inr (2, [.ref (ad 1), .ref (ad 2), .ref (ad 3), .ref (ad 4), .ref (ad 8), .int (nI (N)), .int (nI (A)), .int (bI (fl9_1428))])), (ad 1, .inl (cI, 24, .inl an)), (ad 2, .inl (cI, 9, .inl nd)), (ad 3, .inl (cI, 9, .inl wt)), (ad 4, .inr (0, [.ref (ad 5), .ref (ad 6), .ref (ad 7), .int (nI (R))])), (ad 5, .inl (cI, 40, .inl B)), (ad 6, .inl (cI, 40, .inl Hd)), (ad 7, .inl (cZ, 40, .inl (fun j => bI (O j)))), (ad 8, .inr (1, [.ref (ad 9), .ref (ad 10), .ref (ad 11), .ref (ad 12), .ref (ad 13), .int (nI (SA9_1428)), .int (nI (SE9_1428))])), (ad 9, .inl (cI, 512, .inl HL9_1428)), (ad 10, .inl (cI, 512, .inl LB9_1428)), (ad 11, .inl (cZ, 512, .inl (fun j => bI (SO9_1428 j)))), (ad 12, .inl (cZ, 512, .inl (fun j => bI (NG9_1428 j)))), (ad 13, .inl (cZ, 512, .inl (fun j => bI (WO9_1428 j)))), (ou, .inl (cJ, 1, .inr (.inl F))), (od, .inl (cE, 1, .inr (.inr (.inr (.inl G)))))]) (va_runV (As := []) (rest := [.int (nI (cnt (fun e => ngM (soE B Hd O R nd A) e) (2 ^ A)))]) ⟨hx, hb, hml, hown, hts⟩ (c_X3_nogoodCount l D cI cZ md (th) (N) (A) (R) (kw) (an) (nd) (wt) (B) (Hd) (O) (HM) (CO) (hA) (hR) (hn) (hH) (hN) (hkw) (H).size) (cwV 0 hts gL_law_X3_nogoodCount rfl rfl rfl (by decide +kernel) ⟨Nat.le_of_ble_eq_true rfl, Nat.le_of_ble_eq_true rfl⟩) (prw_V (q0 := 0) (ci := 3) (hP.sub (ws' := (wM cI cZ md th N A R kw an nd wt B Hd O HM CO)) [14, 15, 16, 17, 18, 19, 20, 21, 22] rfl) (hD.sub (ws' := (wM cI cZ md th N A R kw an nd wt B Hd O HM CO)) [14, 15, 16, 17, 18, 19, 20, 21, 22] (by decide) rfl) (hK.sub [0, 1] rfl) rfl rfl) rfl rfl hl.1 rfl (lv_room (Nat.le_of_ble_eq_true rfl)) dL_law_1432 ⟨hcc 0 (by decide), hss 0 (by decide)⟩) hP hD hS hAp [14, 15, 16, 17, 18, 19, 20, 21, 22] [0, 1, 2, 3, 4, 5, 6, 7, 8, 9, 10, 11, 12, 13, 23, 24] rfl rfl (by decide) (by decide) (fun r_1432 u_1432 H locs hq_1432 hP hD hS => ?_)
  obtain ⟨HL9_1432, CO9_1432⟩ := u_1432
  obtain ⟨rfl, hkn_1432, -⟩ := hq_1432
  have hkn_1432 : knOK B Hd O R nd A HL9_1432 CO9_1432 := hkn_1432
  have hP : va_P D vwCl (wZ cI cZ cJ cE ad md ou od N A fl9_1428 an nd wt B Hd O R HL9_1428 LB9_1428 SO9_1428 NG9_1428 WO9_1428 SA9_1428 SE9_1428 0 N A R true an nd wt B Hd O HL9_1432 CO9_1432 F G) H := hP.sub [0, 1, 2, 3, 4, 5, 6, 7, 8, 9, 10, 11, 12, 13, 16, 17, 18, 19, 20, 21, 22, 23, 24, 14, 15] rfl
  have hD : va_D (apS s) (wZ cI cZ cJ cE ad md ou od N A fl9_1428 an nd wt B Hd O R HL9_1428 LB9_1428 SO9_1428 NG9_1428 WO9_1428 SA9_1428 SE9_1428 0 N A R true an nd wt B Hd O HL9_1432 CO9_1432 F G) := hD.sub [0, 1, 2, 3, 4, 5, 6, 7, 8, 9, 10, 11, 12, 13, 16, 17, 18, 19, 20, 21, 22, 23, 24, 14, 15] (by decide) rfl
  refine lv_icmp_eq (tgt := 1862) hx hb dL_law_1435 (by decide) (fun c_1435 => ?_) (fun c_1435 => ?_)
  · skip
    refine W.widen (k := cs + 2) (n := sl + 12) (Nat.le_add_right _ _) (Nat.le_add_right _ _) ?_
    exact hk (N) (A) (fl9_1428) (an) (nd) (wt) (B) (Hd) (O) (R) (HL9_1428) (LB9_1428) (SO9_1428) (NG9_1428) (WO9_1428) (SA9_1428) (SE9_1428) (0) (true) (HL9_1432) (CO9_1432) (F) (G) _ _ ⟨hn, hA, hR, hH, hN, hw, hsvp_1428, fun _ => hkn_1432⟩ hP hD hS ls (lv_sub hl [0, 1, 2, 3, 4, 5] rfl)
  · skip
    refine lv_iconst (v := 0) hx hb dL_law_1438 (by decide) ?_
    exfalso
    first | exact c_1435 rfl | exact c_1435 ((lg_cmp_eq _ _).mpr rfl)
set_option maxHeartbeats 4000000 in
set_option maxRecDepth 100000 in
theorem law_c23 {p : Program} {e : Env} {s : State} {m : MethodId} {below : List Frame} {meth : Method} {c : Code} (l : Launch) (hst : l.stackTraces = false) {b L : Nat} {xs : Nat → Int32} (hL : L ≤ 1536) (C0 : lw_At p s m meth c b L xs) (D : va_G) (cI cZ cJ cE : ClassId) (ad md : Nat → Nat) (ou od : Nat) (hK : kn D (tyL cI cZ cJ cE) s) (hX : xK s) (hZ : xZ (apS s) s s.heap) (hY : yN s) (cs sl i3 : Nat) (hcs : cs + 2 ≤ 1061) (hsl : sl + 12 ≤ 12206) (hi3 : i3 + 3 ≤ L) (hk : lwK p l e s m below meth c b D cI cZ cJ cE ad md ou od cs sl i3) (N A : Nat) (fl : Bool) (an nd wt B Hd : Nat → Int32) (O : Nat → Bool) (R : Nat) (HL LB : Nat → Int32) (SO NG WO : Nat → Bool) (SA SE : Nat) (th : Int32) (kw : Bool) (HM : Nat → Int32) (CO : Nat → Bool) (F : Nat → Int64) (G : Nat → UInt64) (hI : Inv N A fl nd wt B Hd O R HL LB SO NG WO SA SE kw HM CO) (H : Heap) (locs : List Loc) (hP : va_P D vwCl (wZ cI cZ cJ cE ad md ou od N A fl an nd wt B Hd O R HL LB SO NG WO SA SE th N A R kw an nd wt B Hd O HM CO F G) H) (hD : va_D (apS s) (wZ cI cZ cJ cE ad md ou od N A fl an nd wt B Hd O R HL LB SO NG WO SA SE th N A R kw an nd wt B Hd O HM CO F G)) (hS : va_S (apS s) s.heap H locs) (ls : Array Slot) (hl : lv_has ls 9 [(0, .ref b), (1, .ref (ad 0)), (2, .ref (md 0)), (3, .ref ou), (4, .ref od), (5, .int (nI i3))]) : W p l e room_1 s m #[Value.ref b] below meth c H locs cs sl (lw_Z below #[Value.ref b] s) (F0 m 1440 ls []) := by
  obtain ⟨hx, hb, hr, hml, hown, hts, hXs, hbl, hlocks, hgv⟩ := id C0
  have hts := fun w h => hts w (wsL_law_in w h)
  have hb : c.code = cL_law := hb
  have hbA : ¬ apS s b := Nat.not_le.mpr hbl
  have hAp : ∀ q : Nat, s.heap.size ≤ q → apS s q := fun _ h => h
  obtain ⟨hn, hA, hR, hH, hN, hw, hsv, hkw⟩ := hI
  have hcc : ∀ k, k ≤ 2 → cs + k ≤ room_1.cells := fun k hk => Nat.le_trans (Nat.add_le_add_left hk cs) hcs
  have hss : ∀ k, k ≤ 12 → sl + k ≤ room_1.slots := fun k hk => Nat.le_trans (Nat.add_le_add_left hk sl) hsl
  refine lv_aload_n hx hb dL_law_1440 rfl (lv_at hl 1 rfl) ?_
  refine lv_aload_n hx hb dL_law_1441 rfl (lv_at hl 0 rfl) ?_
  refine lv_iload hx hb dL_law_1442 (lv_at hl 5 rfl) ?_
  refine lv_iconst (v := 1) hx hb dL_law_1444 (by decide) ?_
  refine lv_iadd hx hb dL_law_1445 ?_
  rw [nI_1]
  refine sld_ (i := i3 + 1) hx hb hXs hbl hbA hS (by omega) hL dL_law_1446 ?_
  refine lv_aload_n hx hb dL_law_1447 rfl (lv_at hl 3 rfl) ?_
  refine mu_i (wr := [(md 0, .inr (3, [.int (th), .int (nI (N)), .ref (md 1), .int (nI (A)), .ref (md 2), .ref (md 3), .int (nI (R)), .ref (md 4), .ref (md 5), .ref (md 6), .int (bI (kw)), .ref (md 7), .ref (md 8)])), (md 1, .inl (cI, 24, .inl an)), (md 2, .inl (cI, 9, .inl nd)), (md 3, .inl (cI, 9, .inl wt)), (md 4, .inl (cI, 40, .inl B)), (md 5, .inl (cI, 40, .inl Hd)), (md 6, .inl (cZ, 40, .inl (fun j => bI (O j)))), (md 7, .inl (cI, 512, .inl HM)), (md 8, .inl (cZ, 512, .inl (fun j => bI (CO j)))), (od, .inl (cE, 1, .inr (.inr (.inr (.inl G)))))]) (vx_runSW (As := [.ref (ad 0), .int (xs (i3 + 1)), .ref (ou)]) (rest := []) ⟨hx, hb, hml, hown, hts⟩ (c_L_nogood l D cI cZ cJ cE ad ou (N) (A) (fl) (an) (nd) (wt) (B) (Hd) (O) (R) (HL) (LB) (SO) (NG) (WO) (SA) (SE) (F) (xs (i3 + 1)) (hA) (hR) (hn) (hH) (hN) (hsv) hst (H).size) (vx_cwSW 3 hts gL_law_L_nogood rfl rfl rfl (by decide +kernel) ⟨Nat.le_of_ble_eq_true rfl, Nat.le_of_ble_eq_true rfl⟩) (prl_S (hP.sub (ws' := (wKL cI cZ cJ ad ou N A fl an nd wt B Hd O R HL LB SO NG WO SA SE F)) [0, 1, 2, 3, 4, 5, 6, 7, 8, 9, 10, 11, 12, 13, 23] rfl) (hD.sub (ws' := (wKL cI cZ cJ ad ou N A fl an nd wt B Hd O R HL LB SO NG WO SA SE F)) [0, 1, 2, 3, 4, 5, 6, 7, 8, 9, 10, 11, 12, 13, 23] (by decide) rfl) hK hX hZ hY hS (va_free (wc := (wKL cI cZ cJ ad ou N A fl an nd wt B Hd O R HL LB SO NG WO SA SE F)) hD hS hAp [0, 1, 2, 3, 4, 5, 6, 7, 8, 9, 10, 11, 12, 13, 23] rfl)) rfl rfl hl.1 rfl (lv_room (Nat.le_of_ble_eq_true rfl)) dL_law_1448 ⟨hcc 1 (by decide), hss 6 (by decide)⟩) hP hD hS hAp [0, 1, 2, 3, 4, 5, 6, 7, 8, 9, 10, 11, 12, 13, 23] [14, 15, 16, 17, 18, 19, 20, 21, 22, 24] rfl rfl (by decide) (by decide) (fun r_1448 u_1448 H locs hq_1448 hP hD hS => ?_)
  obtain ⟨fl9_1448, HL9_1448, LB9_1448, SO9_1448, NG9_1448, WO9_1448, SA9_1448, SE9_1448, F9_1448⟩ := u_1448
  obtain ⟨hpo_1448, -⟩ := hq_1448
  have hpo_1448 : (r_1448 = 0 ∧ ∃ rr : Int32, rr = nth (fun e => ngM (soE B Hd O R nd A) e) (2 ^ A) (xs (i3 + 1)) ∧ (¬ nth (fun e => ngM (soE B Hd O R nd A) e) (2 ^ A) (xs (i3 + 1)) = -1) ∧ (fl9_1448 = true → svOK B Hd O R nd A HL9_1448 LB9_1448 SO9_1448 NG9_1448 WO9_1448 SA9_1448 SE9_1448) ∧ F9_1448 0 = rr.toInt64) ∨ (r_1448 = 1 ∧ (nth (fun e => ngM (soE B Hd O R nd A) e) (2 ^ A) (xs (i3 + 1)) = -1) ∧ (fl9_1448 = true → svOK B Hd O R nd A HL9_1448 LB9_1448 SO9_1448 NG9_1448 WO9_1448 SA9_1448 SE9_1448)) := hpo_1448
  have hP : va_P D vwCl (wZ cI cZ cJ cE ad md ou od N A fl9_1448 an nd wt B Hd O R HL9_1448 LB9_1448 SO9_1448 NG9_1448 WO9_1448 SA9_1448 SE9_1448 th N A R kw an nd wt B Hd O HM CO F9_1448 G) H := hP.sub [10, 11, 12, 13, 14, 15, 16, 17, 18, 19, 20, 21, 22, 23, 0, 1, 2, 3, 4, 5, 6, 7, 8, 24, 9] rfl
  have hD : va_D (apS s) (wZ cI cZ cJ cE ad md ou od N A fl9_1448 an nd wt B Hd O R HL9_1448 LB9_1448 SO9_1448 NG9_1448 WO9_1448 SA9_1448 SE9_1448 th N A R kw an nd wt B Hd O HM CO F9_1448 G) := hD.sub [10, 11, 12, 13, 14, 15, 16, 17, 18, 19, 20, 21, 22, 23, 0, 1, 2, 3, 4, 5, 6, 7, 8, 24, 9] (by decide) rfl
  refine W.widen (k := cs + 2) (n := sl + 12) (Nat.add_le_add_left (by decide) cs) (Nat.add_le_add_left (by decide) sl) ?_
  refine lv_istore (lv' := [(6, .int (r_1448)), (0, .ref (b)), (1, .ref (ad 0)), (2, .ref (md 0)), (3, .ref (ou)), (4, .ref (od)), (5, .int (nI (i3)))]) hx hb dL_law_1451 hl (by decide) rfl (fun ls hl => ?_)
  refine lv_aload_n hx hb dL_law_1453 rfl (lv_at hl 3 rfl) ?_
  refine lv_aload_n hx hb dL_law_1454 rfl (lv_at hl 1 rfl) ?_
  refine lv_iload hx hb dL_law_1455 (lv_at hl 6 rfl) ?_
  refine lv_iconst (v := 1) hx hb dL_law_1457 (by decide) ?_
  refine lv_iadd hx hb dL_law_1458 ?_
  rw [nI_1]
  refine sld_ (i := i3 + 1) hx hb hXs hbl hbA hS (by omega) hL dL_law_1459 ?_
  refine mu_i (wr := [(ad 0, .inr (2, [.ref (ad 1), .ref (ad 2), .ref (ad 3), .ref (ad 4), .ref (ad 8), .int (nI (N)), .int (nI (A)), .int (bI (fl9_1448))])), (ad 1, .inl (cI, 24, .inl an)), (ad 2, .inl (cI, 9, .inl nd)), (ad 3, .inl (cI, 9, .inl wt)), (ad 4, .inr (0, [.ref (ad 5), .ref (ad 6), .ref (ad 7), .int (nI (R))])), (ad 5, .inl (cI, 40, .inl B)), (ad 6, .inl (cI, 40, .inl Hd)), (ad 7, .inl (cZ, 40, .inl (fun j => bI (O j)))), (ad 8, .inr (1, [.ref (ad 9), .ref (ad 10), .ref (ad 11), .ref (ad 12), .ref (ad 13), .int (nI (SA9_1448)), .int (nI (SE9_1448))])), (ad 9, .inl (cI, 512, .inl HL9_1448)), (ad 10, .inl (cI, 512, .inl LB9_1448)), (ad 11, .inl (cZ, 512, .inl (fun j => bI (SO9_1448 j)))), (ad 12, .inl (cZ, 512, .inl (fun j => bI (NG9_1448 j)))), (ad 13, .inl (cZ, 512, .inl (fun j => bI (WO9_1448 j)))), (ou, .inl (cJ, 1, .inr (.inl F9_1448))), (od, .inl (cE, 1, .inr (.inr (.inr (.inl G)))))]) (va_runV (As := [.int (xs (i3 + 1))]) (rest := []) ⟨hx, hb, hml, hown, hts⟩ (c_X3_nogood l D cI cZ md (th) (N) (A) (R) (kw) (an) (nd) (wt) (B) (Hd) (O) (HM) (CO) (xs (i3 + 1)) (hA) (hR) (hn) (hH) (hN) (hkw) (H).size) (cwV 1 hts gL_law_X3_nogood rfl rfl rfl (by decide +kernel) ⟨Nat.le_of_ble_eq_true rfl, Nat.le_of_ble_eq_true rfl⟩) (prw_V (q0 := 0) (ci := 3) (hP.sub (ws' := (wM cI cZ md th N A R kw an nd wt B Hd O HM CO)) [14, 15, 16, 17, 18, 19, 20, 21, 22] rfl) (hD.sub (ws' := (wM cI cZ md th N A R kw an nd wt B Hd O HM CO)) [14, 15, 16, 17, 18, 19, 20, 21, 22] (by decide) rfl) (hK.sub [0, 1] rfl) rfl rfl) rfl rfl hl.1 rfl (lv_room (Nat.le_of_ble_eq_true rfl)) dL_law_1460 ⟨hcc 2 (by decide), hss 12 (by decide)⟩) hP hD hS hAp [14, 15, 16, 17, 18, 19, 20, 21, 22] [0, 1, 2, 3, 4, 5, 6, 7, 8, 9, 10, 11, 12, 13, 23, 24] rfl rfl (by decide) (by decide) (fun r_1460 u_1460 H locs hq_1460 hP hD hS => ?_)
  obtain ⟨th9_1460, HL9_1460, CO9_1460⟩ := u_1460
  obtain ⟨hthp_1460, hkn_1460, hval_1460, -⟩ := hq_1460
  have hthp_1460 : th9_1460 = (if nth (fun e => ngM (soE B Hd O R nd A) e) (2 ^ A) (xs (i3 + 1)) = -1 then 1 else 0) := hthp_1460
  have hkn_1460 : knOK B Hd O R nd A HL9_1460 CO9_1460 := hkn_1460
  have hval_1460 : ¬ nth (fun e => ngM (soE B Hd O R nd A) e) (2 ^ A) (xs (i3 + 1)) = -1 → r_1460 = nth (fun e => ngM (soE B Hd O R nd A) e) (2 ^ A) (xs (i3 + 1)) := hval_1460
  have hP : va_P D vwCl (wZ cI cZ cJ cE ad md ou od N A fl9_1448 an nd wt B Hd O R HL9_1448 LB9_1448 SO9_1448 NG9_1448 WO9_1448 SA9_1448 SE9_1448 th9_1460 N A R true an nd wt B Hd O HL9_1460 CO9_1460 F9_1448 G) H := hP.sub [0, 1, 2, 3, 4, 5, 6, 7, 8, 9, 10, 11, 12, 13, 16, 17, 18, 19, 20, 21, 22, 23, 24, 14, 15] rfl
  have hD : va_D (apS s) (wZ cI cZ cJ cE ad md ou od N A fl9_1448 an nd wt B Hd O R HL9_1448 LB9_1448 SO9_1448 NG9_1448 WO9_1448 SA9_1448 SE9_1448 th9_1460 N A R true an nd wt B Hd O HL9_1460 CO9_1460 F9_1448 G) := hD.sub [0, 1, 2, 3, 4, 5, 6, 7, 8, 9, 10, 11, 12, 13, 16, 17, 18, 19, 20, 21, 22, 23, 24, 14, 15] (by decide) rfl
  refine lv_istore (lv' := [(7, .int (r_1460)), (6, .int (r_1448)), (0, .ref (b)), (1, .ref (ad 0)), (2, .ref (md 0)), (3, .ref (ou)), (4, .ref (od)), (5, .int (nI (i3)))]) hx hb dL_law_1463 hl (by decide) rfl (fun ls hl => ?_)
  have hAG : ((th9_1460) = r_1448) ∧ ((r_1448 = 0 → F9_1448 0 = (r_1460).toInt64)) ∧ (Inv N A fl9_1448 nd wt B Hd O R HL9_1448 LB9_1448 SO9_1448 NG9_1448 WO9_1448 SA9_1448 SE9_1448 true HL9_1460 CO9_1460) := by
    rcases hpo_1448 with ⟨ha, rr, h1, h3, h5, h4⟩ | ⟨ha, h3, h5⟩
    · exact ⟨by rw [hthp_1460, if_neg h3, ha], fun _ => by rw [h4, h1, hval_1460 h3], ⟨hn, hA, hR, hH, hN, hw, h5, fun _ => hkn_1460⟩⟩
    · exact ⟨by rw [hthp_1460, if_pos h3, ha], fun h0 => absurd (ha.symm.trans h0) (by decide), ⟨hn, hA, hR, hH, hN, hw, h5, fun _ => hkn_1460⟩⟩
  obtain ⟨hth, hvl, hI2⟩ := hAG
  refine lv_aload_n hx hb dL_law_1465 rfl (lv_at hl 4 rfl) ?_
  refine pu_i (va_runV (As := []) (rest := []) ⟨hx, hb, hml, hown, hts⟩ (c_X3_thrown l D cI cZ md (th9_1460) (N) (A) (R) (true) (an) (nd) (wt) (B) (Hd) (O) (HL9_1460) (CO9_1460) ) (cwV 0 hts gL_law_X3_thrown rfl rfl rfl (by decide +kernel) ⟨Nat.le_of_ble_eq_true rfl, Nat.le_of_ble_eq_true rfl⟩) (pre_V (q0 := 0) (ci := 3) (hP.sub (ws' := (wM cI cZ md th9_1460 N A R true an nd wt B Hd O HL9_1460 CO9_1460)) [14, 15, 16, 17, 18, 19, 20, 21, 22] rfl) (hK.sub [0, 1] rfl) rfl rfl) rfl rfl hl.1 rfl (lv_room (Nat.le_of_ble_eq_true rfl)) dL_law_1466 ⟨hcc 2 (by decide), hss 12 (by decide)⟩) ?_
  refine lv_iload hx hb dL_law_1469 (lv_at hl 1 rfl) ?_
  refine lv_icmp_eq (tgt := 1476) hx hb dL_law_1471 (by decide) (fun c_1471 => ?_) (fun c_1471 => ?_)
  · skip
    refine lv_iload hx hb dL_law_1476 (lv_at hl 1 rfl) ?_
    refine lv_if_ne (tgt := 1493) hx hb dL_law_1478 (by decide) (fun c_1478 => ?_) (fun c_1478 => ?_)
    · skip
      refine lv_goto (tgt := 1862) hx hb dL_law_1493 (by decide) ?_
      exact hk (N) (A) (fl9_1448) (an) (nd) (wt) (B) (Hd) (O) (R) (HL9_1448) (LB9_1448) (SO9_1448) (NG9_1448) (WO9_1448) (SA9_1448) (SE9_1448) (th9_1460) (true) (HL9_1460) (CO9_1460) (F9_1448) (G) _ _ hI2 hP hD hS ls (lv_sub hl [2, 3, 4, 5, 6, 7] rfl)
    · skip
      refine lv_aload_n hx hb dL_law_1481 rfl (lv_at hl 5 rfl) ?_
      refine lv_iconst (v := 0) hx hb dL_law_1482 (by decide) ?_
      refine ll_0 (D := D) (f := F9_1448) hx hb hK hP 23 2 rfl rfl dL_law_1483 ?_
      refine lv_iload hx hb dL_law_1484 (lv_at hl 0 rfl) ?_
      refine lv_i2l hx hb dL_law_1486 rfl ?_
      refine W.lcmp hx hb dL_law_1487 ?_
      refine lv_if_eq (tgt := 1493) hx hb dL_law_1488 (by decide) (fun c_1488 => ?_) (fun c_1488 => ?_)
      · skip
        refine lv_goto (tgt := 1862) hx hb dL_law_1493 (by decide) ?_
        exact hk (N) (A) (fl9_1448) (an) (nd) (wt) (B) (Hd) (O) (R) (HL9_1448) (LB9_1448) (SO9_1448) (NG9_1448) (WO9_1448) (SA9_1448) (SE9_1448) (th9_1460) (true) (HL9_1460) (CO9_1460) (F9_1448) (G) _ _ hI2 hP hD hS ls (lv_sub hl [2, 3, 4, 5, 6, 7] rfl)
      · skip
        refine lv_iconst (v := 0) hx hb dL_law_1491 (by decide) ?_
        exfalso
        first | exact c_1488 hth | exact c_1488 ((lg_cmp_eq _ _).mpr (hvl c_1471)) | exact c_1488 ((lg_cmp_eq _ _).mpr (hvl c_1478)) | exact c_1488 ((lg_cmp_eq _ _).mpr (hvl c_1488))
  · skip
    refine lv_iconst (v := 0) hx hb dL_law_1474 (by decide) ?_
    exfalso
    first | exact c_1471 hth | exact c_1471 ((lg_cmp_eq _ _).mpr (hvl c_1471))
set_option maxHeartbeats 4000000 in
set_option maxRecDepth 100000 in
theorem law_c24 {p : Program} {e : Env} {s : State} {m : MethodId} {below : List Frame} {meth : Method} {c : Code} (l : Launch) (hst : l.stackTraces = false) {b L : Nat} {xs : Nat → Int32} (hL : L ≤ 1536) (C0 : lw_At p s m meth c b L xs) (D : va_G) (cI cZ cJ cE : ClassId) (ad md : Nat → Nat) (ou od : Nat) (hK : kn D (tyL cI cZ cJ cE) s) (hX : xK s) (hZ : xZ (apS s) s s.heap) (hY : yN s) (cs sl i3 : Nat) (hcs : cs + 2 ≤ 1061) (hsl : sl + 12 ≤ 12206) (hi3 : i3 + 3 ≤ L) (hk : lwK p l e s m below meth c b D cI cZ cJ cE ad md ou od cs sl i3) (N A : Nat) (fl : Bool) (an nd wt B Hd : Nat → Int32) (O : Nat → Bool) (R : Nat) (HL LB : Nat → Int32) (SO NG WO : Nat → Bool) (SA SE : Nat) (th : Int32) (kw : Bool) (HM : Nat → Int32) (CO : Nat → Bool) (F : Nat → Int64) (G : Nat → UInt64) (hI : Inv N A fl nd wt B Hd O R HL LB SO NG WO SA SE kw HM CO) (H : Heap) (locs : List Loc) (hP : va_P D vwCl (wZ cI cZ cJ cE ad md ou od N A fl an nd wt B Hd O R HL LB SO NG WO SA SE th N A R kw an nd wt B Hd O HM CO F G) H) (hD : va_D (apS s) (wZ cI cZ cJ cE ad md ou od N A fl an nd wt B Hd O R HL LB SO NG WO SA SE th N A R kw an nd wt B Hd O HM CO F G)) (hS : va_S (apS s) s.heap H locs) (ls : Array Slot) (hl : lv_has ls 9 [(0, .ref b), (1, .ref (ad 0)), (2, .ref (md 0)), (3, .ref ou), (4, .ref od), (5, .int (nI i3))]) : W p l e room_1 s m #[Value.ref b] below meth c H locs cs sl (lw_Z below #[Value.ref b] s) (F0 m 1496 ls []) := by
  obtain ⟨hx, hb, hr, hml, hown, hts, hXs, hbl, hlocks, hgv⟩ := id C0
  have hts := fun w h => hts w (wsL_law_in w h)
  have hb : c.code = cL_law := hb
  have hbA : ¬ apS s b := Nat.not_le.mpr hbl
  have hAp : ∀ q : Nat, s.heap.size ≤ q → apS s q := fun _ h => h
  obtain ⟨hn, hA, hR, hH, hN, hw, hsv, hkw⟩ := hI
  have hcc : ∀ k, k ≤ 2 → cs + k ≤ room_1.cells := fun k hk => Nat.le_trans (Nat.add_le_add_left hk cs) hcs
  have hss : ∀ k, k ≤ 12 → sl + k ≤ room_1.slots := fun k hk => Nat.le_trans (Nat.add_le_add_left hk sl) hsl
  refine lv_aload_n hx hb dL_law_1496 rfl (lv_at hl 1 rfl) ?_
  refine mu_i (wr := [(md 0, .inr (3, [.int (th), .int (nI (N)), .ref (md 1), .int (nI (A)), .ref (md 2), .ref (md 3), .int (nI (R)), .ref (md 4), .ref (md 5), .ref (md 6), .int (bI (kw)), .ref (md 7), .ref (md 8)])), (md 1, .inl (cI, 24, .inl an)), (md 2, .inl (cI, 9, .inl nd)), (md 3, .inl (cI, 9, .inl wt)), (md 4, .inl (cI, 40, .inl B)), (md 5, .inl (cI, 40, .inl Hd)), (md 6, .inl (cZ, 40, .inl (fun j => bI (O j)))), (md 7, .inl (cI, 512, .inl HM)), (md 8, .inl (cZ, 512, .inl (fun j => bI (CO j)))), (ou, .inl (cJ, 1, .inr (.inl F))), (od, .inl (cE, 1, .inr (.inr (.inr (.inl G)))))]) (va_runV (As := []) (rest := []) ⟨hx, hb, hml, hown, hts⟩ (c_X2_worldCount l D cI cZ ad (N) (A) (fl) (an) (nd) (wt) (B) (Hd) (O) (R) (HL) (LB) (SO) (NG) (WO) (SA) (SE) (hA) (hR) (hn) (hH) (hN) (hsv) (H).size) (cwV 0 hts gL_law_X2_worldCount rfl rfl rfl (by decide +kernel) ⟨Nat.le_of_ble_eq_true rfl, Nat.le_of_ble_eq_true rfl⟩) (prw_V (q0 := 0) (ci := 2) (hP.sub (ws' := (wK cI cZ ad N A fl an nd wt B Hd O R HL LB SO NG WO SA SE)) [0, 1, 2, 3, 4, 5, 6, 7, 8, 9, 10, 11, 12, 13] rfl) (hD.sub (ws' := (wK cI cZ ad N A fl an nd wt B Hd O R HL LB SO NG WO SA SE)) [0, 1, 2, 3, 4, 5, 6, 7, 8, 9, 10, 11, 12, 13] (by decide) rfl) (hK.sub [0, 1] rfl) rfl rfl) rfl rfl hl.1 rfl (lv_room (Nat.le_of_ble_eq_true rfl)) dL_law_1497 ⟨hcc 0 (by decide), hss 0 (by decide)⟩) hP hD hS hAp [0, 1, 2, 3, 4, 5, 6, 7, 8, 9, 10, 11, 12, 13] [14, 15, 16, 17, 18, 19, 20, 21, 22, 23, 24] rfl rfl (by decide) (by decide) (fun r_1497 u_1497 H locs hq_1497 hP hD hS => ?_)
  obtain ⟨fl9_1497, HL9_1497, LB9_1497, SO9_1497, NG9_1497, WO9_1497, SA9_1497, SE9_1497⟩ := u_1497
  obtain ⟨rfl, hsvp_1497, -⟩ := hq_1497
  have hsvp_1497 : fl9_1497 = true → svOK B Hd O R nd A HL9_1497 LB9_1497 SO9_1497 NG9_1497 WO9_1497 SA9_1497 SE9_1497 := hsvp_1497
  have hP : va_P D vwCl (wZ cI cZ cJ cE ad md ou od N A fl9_1497 an nd wt B Hd O R HL9_1497 LB9_1497 SO9_1497 NG9_1497 WO9_1497 SA9_1497 SE9_1497 th N A R kw an nd wt B Hd O HM CO F G) H := hP.sub [11, 12, 13, 14, 15, 16, 17, 18, 19, 20, 21, 22, 23, 24, 0, 1, 2, 3, 4, 5, 6, 7, 8, 9, 10] rfl
  have hD : va_D (apS s) (wZ cI cZ cJ cE ad md ou od N A fl9_1497 an nd wt B Hd O R HL9_1497 LB9_1497 SO9_1497 NG9_1497 WO9_1497 SA9_1497 SE9_1497 th N A R kw an nd wt B Hd O HM CO F G) := hD.sub [11, 12, 13, 14, 15, 16, 17, 18, 19, 20, 21, 22, 23, 24, 0, 1, 2, 3, 4, 5, 6, 7, 8, 9, 10] (by decide) rfl
  refine lv_aload_n hx hb dL_law_1500 rfl (lv_at hl 2 rfl) ?_
  refine mu_i (wr := [(ad 0, .inr (2, [.ref (ad 1), .ref (ad 2), .ref (ad 3), .ref (ad 4), .ref (ad 8), .int (nI (N)), .int (nI (A)), .int (bI (fl9_1497))])), (ad 1, .inl (cI, 24, .inl an)), (ad 2, .inl (cI, 9, .inl nd)), (ad 3, .inl (cI, 9, .inl wt)), (ad 4, .inr (0, [.ref (ad 5), .ref (ad 6), .ref (ad 7), .int (nI (R))])), (ad 5, .inl (cI, 40, .inl B)), (ad 6, .inl (cI, 40, .inl Hd)), (ad 7, .inl (cZ, 40, .inl (fun j => bI (O j)))), (ad 8, .inr (1, [.ref (ad 9), .ref (ad 10), .ref (ad 11), .ref (ad 12), .ref (ad 13), .int (nI (SA9_1497)), .int (nI (SE9_1497))])), (ad 9, .inl (cI, 512, .inl HL9_1497)), (ad 10, .inl (cI, 512, .inl LB9_1497)), (ad 11, .inl (cZ, 512, .inl (fun j => bI (SO9_1497 j)))), (ad 12, .inl (cZ, 512, .inl (fun j => bI (NG9_1497 j)))), (ad 13, .inl (cZ, 512, .inl (fun j => bI (WO9_1497 j)))), (ou, .inl (cJ, 1, .inr (.inl F))), (od, .inl (cE, 1, .inr (.inr (.inr (.inl G)))))]) (va_runV (As := []) (rest := [.int (nI (cnt (fun e => woM A (soE B Hd O R nd A) e) (2 ^ A)))]) ⟨hx, hb, hml, hown, hts⟩ (c_X3_worldCount l D cI cZ md (th) (N) (A) (R) (kw) (an) (nd) (wt) (B) (Hd) (O) (HM) (CO) (hA) (hR) (hn) (hH) (hN) (hkw) (H).size) (cwV 0 hts gL_law_X3_worldCount rfl rfl rfl (by decide +kernel) ⟨Nat.le_of_ble_eq_true rfl, Nat.le_of_ble_eq_true rfl⟩) (prw_V (q0 := 0) (ci := 3) (hP.sub (ws' := (wM cI cZ md th N A R kw an nd wt B Hd O HM CO)) [14, 15, 16, 17, 18, 19, 20, 21, 22] rfl) (hD.sub (ws' := (wM cI cZ md th N A R kw an nd wt B Hd O HM CO)) [14, 15, 16, 17, 18, 19, 20, 21, 22] (by decide) rfl) (hK.sub [0, 1] rfl) rfl rfl) rfl rfl hl.1 rfl (lv_room (Nat.le_of_ble_eq_true rfl)) dL_law_1501 ⟨hcc 0 (by decide), hss 0 (by decide)⟩) hP hD hS hAp [14, 15, 16, 17, 18, 19, 20, 21, 22] [0, 1, 2, 3, 4, 5, 6, 7, 8, 9, 10, 11, 12, 13, 23, 24] rfl rfl (by decide) (by decide) (fun r_1501 u_1501 H locs hq_1501 hP hD hS => ?_)
  obtain ⟨HL9_1501, CO9_1501⟩ := u_1501
  obtain ⟨rfl, hkn_1501, -⟩ := hq_1501
  have hkn_1501 : knOK B Hd O R nd A HL9_1501 CO9_1501 := hkn_1501
  have hP : va_P D vwCl (wZ cI cZ cJ cE ad md ou od N A fl9_1497 an nd wt B Hd O R HL9_1497 LB9_1497 SO9_1497 NG9_1497 WO9_1497 SA9_1497 SE9_1497 0 N A R true an nd wt B Hd O HL9_1501 CO9_1501 F G) H := hP.sub [0, 1, 2, 3, 4, 5, 6, 7, 8, 9, 10, 11, 12, 13, 16, 17, 18, 19, 20, 21, 22, 23, 24, 14, 15] rfl
  have hD : va_D (apS s) (wZ cI cZ cJ cE ad md ou od N A fl9_1497 an nd wt B Hd O R HL9_1497 LB9_1497 SO9_1497 NG9_1497 WO9_1497 SA9_1497 SE9_1497 0 N A R true an nd wt B Hd O HL9_1501 CO9_1501 F G) := hD.sub [0, 1, 2, 3, 4, 5, 6, 7, 8, 9, 10, 11, 12, 13, 16, 17, 18, 19, 20, 21, 22, 23, 24, 14, 15] (by decide) rfl
  refine lv_icmp_eq (tgt := 1862) hx hb dL_law_1504 (by decide) (fun c_1504 => ?_) (fun c_1504 => ?_)
  · skip
    refine W.widen (k := cs + 2) (n := sl + 12) (Nat.le_add_right _ _) (Nat.le_add_right _ _) ?_
    exact hk (N) (A) (fl9_1497) (an) (nd) (wt) (B) (Hd) (O) (R) (HL9_1497) (LB9_1497) (SO9_1497) (NG9_1497) (WO9_1497) (SA9_1497) (SE9_1497) (0) (true) (HL9_1501) (CO9_1501) (F) (G) _ _ ⟨hn, hA, hR, hH, hN, hw, hsvp_1497, fun _ => hkn_1501⟩ hP hD hS ls (lv_sub hl [0, 1, 2, 3, 4, 5] rfl)
  · skip
    refine lv_iconst (v := 0) hx hb dL_law_1507 (by decide) ?_
    exfalso
    first | exact c_1504 rfl | exact c_1504 ((lg_cmp_eq _ _).mpr rfl)
set_option maxHeartbeats 4000000 in
set_option maxRecDepth 100000 in
theorem law_c25 {p : Program} {e : Env} {s : State} {m : MethodId} {below : List Frame} {meth : Method} {c : Code} (l : Launch) (hst : l.stackTraces = false) {b L : Nat} {xs : Nat → Int32} (hL : L ≤ 1536) (C0 : lw_At p s m meth c b L xs) (D : va_G) (cI cZ cJ cE : ClassId) (ad md : Nat → Nat) (ou od : Nat) (hK : kn D (tyL cI cZ cJ cE) s) (hX : xK s) (hZ : xZ (apS s) s s.heap) (hY : yN s) (cs sl i3 : Nat) (hcs : cs + 2 ≤ 1061) (hsl : sl + 12 ≤ 12206) (hi3 : i3 + 3 ≤ L) (hk : lwK p l e s m below meth c b D cI cZ cJ cE ad md ou od cs sl i3) (N A : Nat) (fl : Bool) (an nd wt B Hd : Nat → Int32) (O : Nat → Bool) (R : Nat) (HL LB : Nat → Int32) (SO NG WO : Nat → Bool) (SA SE : Nat) (th : Int32) (kw : Bool) (HM : Nat → Int32) (CO : Nat → Bool) (F : Nat → Int64) (G : Nat → UInt64) (hI : Inv N A fl nd wt B Hd O R HL LB SO NG WO SA SE kw HM CO) (H : Heap) (locs : List Loc) (hP : va_P D vwCl (wZ cI cZ cJ cE ad md ou od N A fl an nd wt B Hd O R HL LB SO NG WO SA SE th N A R kw an nd wt B Hd O HM CO F G) H) (hD : va_D (apS s) (wZ cI cZ cJ cE ad md ou od N A fl an nd wt B Hd O R HL LB SO NG WO SA SE th N A R kw an nd wt B Hd O HM CO F G)) (hS : va_S (apS s) s.heap H locs) (ls : Array Slot) (hl : lv_has ls 9 [(0, .ref b), (1, .ref (ad 0)), (2, .ref (md 0)), (3, .ref ou), (4, .ref od), (5, .int (nI i3))]) : W p l e room_1 s m #[Value.ref b] below meth c H locs cs sl (lw_Z below #[Value.ref b] s) (F0 m 1509 ls []) := by
  obtain ⟨hx, hb, hr, hml, hown, hts, hXs, hbl, hlocks, hgv⟩ := id C0
  have hts := fun w h => hts w (wsL_law_in w h)
  have hb : c.code = cL_law := hb
  have hbA : ¬ apS s b := Nat.not_le.mpr hbl
  have hAp : ∀ q : Nat, s.heap.size ≤ q → apS s q := fun _ h => h
  obtain ⟨hn, hA, hR, hH, hN, hw, hsv, hkw⟩ := hI
  have hcc : ∀ k, k ≤ 2 → cs + k ≤ room_1.cells := fun k hk => Nat.le_trans (Nat.add_le_add_left hk cs) hcs
  have hss : ∀ k, k ≤ 12 → sl + k ≤ room_1.slots := fun k hk => Nat.le_trans (Nat.add_le_add_left hk sl) hsl
  refine lv_aload_n hx hb dL_law_1509 rfl (lv_at hl 1 rfl) ?_
  refine lv_aload_n hx hb dL_law_1510 rfl (lv_at hl 0 rfl) ?_
  refine lv_iload hx hb dL_law_1511 (lv_at hl 5 rfl) ?_
  refine lv_iconst (v := 1) hx hb dL_law_1513 (by decide) ?_
  refine lv_iadd hx hb dL_law_1514 ?_
  rw [nI_1]
  refine sld_ (i := i3 + 1) hx hb hXs hbl hbA hS (by omega) hL dL_law_1515 ?_
  refine lv_aload_n hx hb dL_law_1516 rfl (lv_at hl 3 rfl) ?_
  refine mu_i (wr := [(md 0, .inr (3, [.int (th), .int (nI (N)), .ref (md 1), .int (nI (A)), .ref (md 2), .ref (md 3), .int (nI (R)), .ref (md 4), .ref (md 5), .ref (md 6), .int (bI (kw)), .ref (md 7), .ref (md 8)])), (md 1, .inl (cI, 24, .inl an)), (md 2, .inl (cI, 9, .inl nd)), (md 3, .inl (cI, 9, .inl wt)), (md 4, .inl (cI, 40, .inl B)), (md 5, .inl (cI, 40, .inl Hd)), (md 6, .inl (cZ, 40, .inl (fun j => bI (O j)))), (md 7, .inl (cI, 512, .inl HM)), (md 8, .inl (cZ, 512, .inl (fun j => bI (CO j)))), (od, .inl (cE, 1, .inr (.inr (.inr (.inl G)))))]) (vx_runSW (As := [.ref (ad 0), .int (xs (i3 + 1)), .ref (ou)]) (rest := []) ⟨hx, hb, hml, hown, hts⟩ (c_L_world l D cI cZ cJ cE ad ou (N) (A) (fl) (an) (nd) (wt) (B) (Hd) (O) (R) (HL) (LB) (SO) (NG) (WO) (SA) (SE) (F) (xs (i3 + 1)) (hA) (hR) (hn) (hH) (hN) (hsv) hst (H).size) (vx_cwSW 3 hts gL_law_L_world rfl rfl rfl (by decide +kernel) ⟨Nat.le_of_ble_eq_true rfl, Nat.le_of_ble_eq_true rfl⟩) (prl_S (hP.sub (ws' := (wKL cI cZ cJ ad ou N A fl an nd wt B Hd O R HL LB SO NG WO SA SE F)) [0, 1, 2, 3, 4, 5, 6, 7, 8, 9, 10, 11, 12, 13, 23] rfl) (hD.sub (ws' := (wKL cI cZ cJ ad ou N A fl an nd wt B Hd O R HL LB SO NG WO SA SE F)) [0, 1, 2, 3, 4, 5, 6, 7, 8, 9, 10, 11, 12, 13, 23] (by decide) rfl) hK hX hZ hY hS (va_free (wc := (wKL cI cZ cJ ad ou N A fl an nd wt B Hd O R HL LB SO NG WO SA SE F)) hD hS hAp [0, 1, 2, 3, 4, 5, 6, 7, 8, 9, 10, 11, 12, 13, 23] rfl)) rfl rfl hl.1 rfl (lv_room (Nat.le_of_ble_eq_true rfl)) dL_law_1517 ⟨hcc 1 (by decide), hss 6 (by decide)⟩) hP hD hS hAp [0, 1, 2, 3, 4, 5, 6, 7, 8, 9, 10, 11, 12, 13, 23] [14, 15, 16, 17, 18, 19, 20, 21, 22, 24] rfl rfl (by decide) (by decide) (fun r_1517 u_1517 H locs hq_1517 hP hD hS => ?_)
  obtain ⟨fl9_1517, HL9_1517, LB9_1517, SO9_1517, NG9_1517, WO9_1517, SA9_1517, SE9_1517, F9_1517⟩ := u_1517
  obtain ⟨hpo_1517, -⟩ := hq_1517
  have hpo_1517 : (r_1517 = 0 ∧ ∃ rr : Int32, rr = nth (fun e => woM A (soE B Hd O R nd A) e) (2 ^ A) (xs (i3 + 1)) ∧ (¬ nth (fun e => woM A (soE B Hd O R nd A) e) (2 ^ A) (xs (i3 + 1)) = -1) ∧ (fl9_1517 = true → svOK B Hd O R nd A HL9_1517 LB9_1517 SO9_1517 NG9_1517 WO9_1517 SA9_1517 SE9_1517) ∧ F9_1517 0 = rr.toInt64) ∨ (r_1517 = 1 ∧ (nth (fun e => woM A (soE B Hd O R nd A) e) (2 ^ A) (xs (i3 + 1)) = -1) ∧ (fl9_1517 = true → svOK B Hd O R nd A HL9_1517 LB9_1517 SO9_1517 NG9_1517 WO9_1517 SA9_1517 SE9_1517)) := hpo_1517
  have hP : va_P D vwCl (wZ cI cZ cJ cE ad md ou od N A fl9_1517 an nd wt B Hd O R HL9_1517 LB9_1517 SO9_1517 NG9_1517 WO9_1517 SA9_1517 SE9_1517 th N A R kw an nd wt B Hd O HM CO F9_1517 G) H := hP.sub [10, 11, 12, 13, 14, 15, 16, 17, 18, 19, 20, 21, 22, 23, 0, 1, 2, 3, 4, 5, 6, 7, 8, 24, 9] rfl
  have hD : va_D (apS s) (wZ cI cZ cJ cE ad md ou od N A fl9_1517 an nd wt B Hd O R HL9_1517 LB9_1517 SO9_1517 NG9_1517 WO9_1517 SA9_1517 SE9_1517 th N A R kw an nd wt B Hd O HM CO F9_1517 G) := hD.sub [10, 11, 12, 13, 14, 15, 16, 17, 18, 19, 20, 21, 22, 23, 0, 1, 2, 3, 4, 5, 6, 7, 8, 24, 9] (by decide) rfl
  refine W.widen (k := cs + 2) (n := sl + 12) (Nat.add_le_add_left (by decide) cs) (Nat.add_le_add_left (by decide) sl) ?_
  refine lv_istore (lv' := [(6, .int (r_1517)), (0, .ref (b)), (1, .ref (ad 0)), (2, .ref (md 0)), (3, .ref (ou)), (4, .ref (od)), (5, .int (nI (i3)))]) hx hb dL_law_1520 hl (by decide) rfl (fun ls hl => ?_)
  refine lv_aload_n hx hb dL_law_1522 rfl (lv_at hl 3 rfl) ?_
  refine lv_aload_n hx hb dL_law_1523 rfl (lv_at hl 1 rfl) ?_
  refine lv_iload hx hb dL_law_1524 (lv_at hl 6 rfl) ?_
  refine lv_iconst (v := 1) hx hb dL_law_1526 (by decide) ?_
  refine lv_iadd hx hb dL_law_1527 ?_
  rw [nI_1]
  refine sld_ (i := i3 + 1) hx hb hXs hbl hbA hS (by omega) hL dL_law_1528 ?_
  refine mu_i (wr := [(ad 0, .inr (2, [.ref (ad 1), .ref (ad 2), .ref (ad 3), .ref (ad 4), .ref (ad 8), .int (nI (N)), .int (nI (A)), .int (bI (fl9_1517))])), (ad 1, .inl (cI, 24, .inl an)), (ad 2, .inl (cI, 9, .inl nd)), (ad 3, .inl (cI, 9, .inl wt)), (ad 4, .inr (0, [.ref (ad 5), .ref (ad 6), .ref (ad 7), .int (nI (R))])), (ad 5, .inl (cI, 40, .inl B)), (ad 6, .inl (cI, 40, .inl Hd)), (ad 7, .inl (cZ, 40, .inl (fun j => bI (O j)))), (ad 8, .inr (1, [.ref (ad 9), .ref (ad 10), .ref (ad 11), .ref (ad 12), .ref (ad 13), .int (nI (SA9_1517)), .int (nI (SE9_1517))])), (ad 9, .inl (cI, 512, .inl HL9_1517)), (ad 10, .inl (cI, 512, .inl LB9_1517)), (ad 11, .inl (cZ, 512, .inl (fun j => bI (SO9_1517 j)))), (ad 12, .inl (cZ, 512, .inl (fun j => bI (NG9_1517 j)))), (ad 13, .inl (cZ, 512, .inl (fun j => bI (WO9_1517 j)))), (ou, .inl (cJ, 1, .inr (.inl F9_1517))), (od, .inl (cE, 1, .inr (.inr (.inr (.inl G)))))]) (va_runV (As := [.int (xs (i3 + 1))]) (rest := []) ⟨hx, hb, hml, hown, hts⟩ (c_X3_world l D cI cZ md (th) (N) (A) (R) (kw) (an) (nd) (wt) (B) (Hd) (O) (HM) (CO) (xs (i3 + 1)) (hA) (hR) (hn) (hH) (hN) (hkw) (H).size) (cwV 1 hts gL_law_X3_world rfl rfl rfl (by decide +kernel) ⟨Nat.le_of_ble_eq_true rfl, Nat.le_of_ble_eq_true rfl⟩) (prw_V (q0 := 0) (ci := 3) (hP.sub (ws' := (wM cI cZ md th N A R kw an nd wt B Hd O HM CO)) [14, 15, 16, 17, 18, 19, 20, 21, 22] rfl) (hD.sub (ws' := (wM cI cZ md th N A R kw an nd wt B Hd O HM CO)) [14, 15, 16, 17, 18, 19, 20, 21, 22] (by decide) rfl) (hK.sub [0, 1] rfl) rfl rfl) rfl rfl hl.1 rfl (lv_room (Nat.le_of_ble_eq_true rfl)) dL_law_1529 ⟨hcc 2 (by decide), hss 12 (by decide)⟩) hP hD hS hAp [14, 15, 16, 17, 18, 19, 20, 21, 22] [0, 1, 2, 3, 4, 5, 6, 7, 8, 9, 10, 11, 12, 13, 23, 24] rfl rfl (by decide) (by decide) (fun r_1529 u_1529 H locs hq_1529 hP hD hS => ?_)
  obtain ⟨th9_1529, HL9_1529, CO9_1529⟩ := u_1529
  obtain ⟨hthp_1529, hkn_1529, hval_1529, -⟩ := hq_1529
  have hthp_1529 : th9_1529 = (if nth (fun e => woM A (soE B Hd O R nd A) e) (2 ^ A) (xs (i3 + 1)) = -1 then 1 else 0) := hthp_1529
  have hkn_1529 : knOK B Hd O R nd A HL9_1529 CO9_1529 := hkn_1529
  have hval_1529 : ¬ nth (fun e => woM A (soE B Hd O R nd A) e) (2 ^ A) (xs (i3 + 1)) = -1 → r_1529 = nth (fun e => woM A (soE B Hd O R nd A) e) (2 ^ A) (xs (i3 + 1)) := hval_1529
  have hP : va_P D vwCl (wZ cI cZ cJ cE ad md ou od N A fl9_1517 an nd wt B Hd O R HL9_1517 LB9_1517 SO9_1517 NG9_1517 WO9_1517 SA9_1517 SE9_1517 th9_1529 N A R true an nd wt B Hd O HL9_1529 CO9_1529 F9_1517 G) H := hP.sub [0, 1, 2, 3, 4, 5, 6, 7, 8, 9, 10, 11, 12, 13, 16, 17, 18, 19, 20, 21, 22, 23, 24, 14, 15] rfl
  have hD : va_D (apS s) (wZ cI cZ cJ cE ad md ou od N A fl9_1517 an nd wt B Hd O R HL9_1517 LB9_1517 SO9_1517 NG9_1517 WO9_1517 SA9_1517 SE9_1517 th9_1529 N A R true an nd wt B Hd O HL9_1529 CO9_1529 F9_1517 G) := hD.sub [0, 1, 2, 3, 4, 5, 6, 7, 8, 9, 10, 11, 12, 13, 16, 17, 18, 19, 20, 21, 22, 23, 24, 14, 15] (by decide) rfl
  refine lv_istore (lv' := [(7, .int (r_1529)), (6, .int (r_1517)), (0, .ref (b)), (1, .ref (ad 0)), (2, .ref (md 0)), (3, .ref (ou)), (4, .ref (od)), (5, .int (nI (i3)))]) hx hb dL_law_1532 hl (by decide) rfl (fun ls hl => ?_)
  have hAG : ((th9_1529) = r_1517) ∧ ((r_1517 = 0 → F9_1517 0 = (r_1529).toInt64)) ∧ (Inv N A fl9_1517 nd wt B Hd O R HL9_1517 LB9_1517 SO9_1517 NG9_1517 WO9_1517 SA9_1517 SE9_1517 true HL9_1529 CO9_1529) := by
    rcases hpo_1517 with ⟨ha, rr, h1, h3, h5, h4⟩ | ⟨ha, h3, h5⟩
    · exact ⟨by rw [hthp_1529, if_neg h3, ha], fun _ => by rw [h4, h1, hval_1529 h3], ⟨hn, hA, hR, hH, hN, hw, h5, fun _ => hkn_1529⟩⟩
    · exact ⟨by rw [hthp_1529, if_pos h3, ha], fun h0 => absurd (ha.symm.trans h0) (by decide), ⟨hn, hA, hR, hH, hN, hw, h5, fun _ => hkn_1529⟩⟩
  obtain ⟨hth, hvl, hI2⟩ := hAG
  refine lv_aload_n hx hb dL_law_1534 rfl (lv_at hl 4 rfl) ?_
  refine pu_i (va_runV (As := []) (rest := []) ⟨hx, hb, hml, hown, hts⟩ (c_X3_thrown l D cI cZ md (th9_1529) (N) (A) (R) (true) (an) (nd) (wt) (B) (Hd) (O) (HL9_1529) (CO9_1529) ) (cwV 0 hts gL_law_X3_thrown rfl rfl rfl (by decide +kernel) ⟨Nat.le_of_ble_eq_true rfl, Nat.le_of_ble_eq_true rfl⟩) (pre_V (q0 := 0) (ci := 3) (hP.sub (ws' := (wM cI cZ md th9_1529 N A R true an nd wt B Hd O HL9_1529 CO9_1529)) [14, 15, 16, 17, 18, 19, 20, 21, 22] rfl) (hK.sub [0, 1] rfl) rfl rfl) rfl rfl hl.1 rfl (lv_room (Nat.le_of_ble_eq_true rfl)) dL_law_1535 ⟨hcc 2 (by decide), hss 12 (by decide)⟩) ?_
  refine lv_iload hx hb dL_law_1538 (lv_at hl 1 rfl) ?_
  refine lv_icmp_eq (tgt := 1545) hx hb dL_law_1540 (by decide) (fun c_1540 => ?_) (fun c_1540 => ?_)
  · skip
    refine lv_iload hx hb dL_law_1545 (lv_at hl 1 rfl) ?_
    refine lv_if_ne (tgt := 1562) hx hb dL_law_1547 (by decide) (fun c_1547 => ?_) (fun c_1547 => ?_)
    · skip
      refine lv_goto (tgt := 1862) hx hb dL_law_1562 (by decide) ?_
      exact hk (N) (A) (fl9_1517) (an) (nd) (wt) (B) (Hd) (O) (R) (HL9_1517) (LB9_1517) (SO9_1517) (NG9_1517) (WO9_1517) (SA9_1517) (SE9_1517) (th9_1529) (true) (HL9_1529) (CO9_1529) (F9_1517) (G) _ _ hI2 hP hD hS ls (lv_sub hl [2, 3, 4, 5, 6, 7] rfl)
    · skip
      refine lv_aload_n hx hb dL_law_1550 rfl (lv_at hl 5 rfl) ?_
      refine lv_iconst (v := 0) hx hb dL_law_1551 (by decide) ?_
      refine ll_0 (D := D) (f := F9_1517) hx hb hK hP 23 2 rfl rfl dL_law_1552 ?_
      refine lv_iload hx hb dL_law_1553 (lv_at hl 0 rfl) ?_
      refine lv_i2l hx hb dL_law_1555 rfl ?_
      refine W.lcmp hx hb dL_law_1556 ?_
      refine lv_if_eq (tgt := 1562) hx hb dL_law_1557 (by decide) (fun c_1557 => ?_) (fun c_1557 => ?_)
      · skip
        refine lv_goto (tgt := 1862) hx hb dL_law_1562 (by decide) ?_
        exact hk (N) (A) (fl9_1517) (an) (nd) (wt) (B) (Hd) (O) (R) (HL9_1517) (LB9_1517) (SO9_1517) (NG9_1517) (WO9_1517) (SA9_1517) (SE9_1517) (th9_1529) (true) (HL9_1529) (CO9_1529) (F9_1517) (G) _ _ hI2 hP hD hS ls (lv_sub hl [2, 3, 4, 5, 6, 7] rfl)
      · skip
        refine lv_iconst (v := 0) hx hb dL_law_1560 (by decide) ?_
        exfalso
        first | exact c_1557 hth | exact c_1557 ((lg_cmp_eq _ _).mpr (hvl c_1540)) | exact c_1557 ((lg_cmp_eq _ _).mpr (hvl c_1547)) | exact c_1557 ((lg_cmp_eq _ _).mpr (hvl c_1557))
  · skip
    refine lv_iconst (v := 0) hx hb dL_law_1543 (by decide) ?_
    exfalso
    first | exact c_1540 hth | exact c_1540 ((lg_cmp_eq _ _).mpr (hvl c_1540))
set_option maxHeartbeats 4000000 in
set_option maxRecDepth 100000 in
theorem law_c26 {p : Program} {e : Env} {s : State} {m : MethodId} {below : List Frame} {meth : Method} {c : Code} (l : Launch) (hst : l.stackTraces = false) {b L : Nat} {xs : Nat → Int32} (hL : L ≤ 1536) (C0 : lw_At p s m meth c b L xs) (D : va_G) (cI cZ cJ cE : ClassId) (ad md : Nat → Nat) (ou od : Nat) (hK : kn D (tyL cI cZ cJ cE) s) (hX : xK s) (hZ : xZ (apS s) s s.heap) (hY : yN s) (cs sl i3 : Nat) (hcs : cs + 2 ≤ 1061) (hsl : sl + 12 ≤ 12206) (hi3 : i3 + 3 ≤ L) (hk : lwK p l e s m below meth c b D cI cZ cJ cE ad md ou od cs sl i3) (N A : Nat) (fl : Bool) (an nd wt B Hd : Nat → Int32) (O : Nat → Bool) (R : Nat) (HL LB : Nat → Int32) (SO NG WO : Nat → Bool) (SA SE : Nat) (th : Int32) (kw : Bool) (HM : Nat → Int32) (CO : Nat → Bool) (F : Nat → Int64) (G : Nat → UInt64) (hI : Inv N A fl nd wt B Hd O R HL LB SO NG WO SA SE kw HM CO) (H : Heap) (locs : List Loc) (hP : va_P D vwCl (wZ cI cZ cJ cE ad md ou od N A fl an nd wt B Hd O R HL LB SO NG WO SA SE th N A R kw an nd wt B Hd O HM CO F G) H) (hD : va_D (apS s) (wZ cI cZ cJ cE ad md ou od N A fl an nd wt B Hd O R HL LB SO NG WO SA SE th N A R kw an nd wt B Hd O HM CO F G)) (hS : va_S (apS s) s.heap H locs) (ls : Array Slot) (hl : lv_has ls 9 [(0, .ref b), (1, .ref (ad 0)), (2, .ref (md 0)), (3, .ref ou), (4, .ref od), (5, .int (nI i3))]) : W p l e room_1 s m #[Value.ref b] below meth c H locs cs sl (lw_Z below #[Value.ref b] s) (F0 m 1565 ls []) := by
  obtain ⟨hx, hb, hr, hml, hown, hts, hXs, hbl, hlocks, hgv⟩ := id C0
  have hts := fun w h => hts w (wsL_law_in w h)
  have hb : c.code = cL_law := hb
  have hbA : ¬ apS s b := Nat.not_le.mpr hbl
  have hAp : ∀ q : Nat, s.heap.size ≤ q → apS s q := fun _ h => h
  obtain ⟨hn, hA, hR, hH, hN, hw, hsv, hkw⟩ := hI
  have hcc : ∀ k, k ≤ 2 → cs + k ≤ room_1.cells := fun k hk => Nat.le_trans (Nat.add_le_add_left hk cs) hcs
  have hss : ∀ k, k ≤ 12 → sl + k ≤ room_1.slots := fun k hk => Nat.le_trans (Nat.add_le_add_left hk sl) hsl
  refine lv_aload_n hx hb dL_law_1565 rfl (lv_at hl 1 rfl) ?_
  refine lv_aload_n hx hb dL_law_1566 rfl (lv_at hl 0 rfl) ?_
  refine lv_iload hx hb dL_law_1567 (lv_at hl 5 rfl) ?_
  refine lv_iconst (v := 1) hx hb dL_law_1569 (by decide) ?_
  refine lv_iadd hx hb dL_law_1570 ?_
  rw [nI_1]
  refine sld_ (i := i3 + 1) hx hb hXs hbl hbA hS (by omega) hL dL_law_1571 ?_
  refine lv_aload_n hx hb dL_law_1572 rfl (lv_at hl 3 rfl) ?_
  refine mu_i (wr := [(md 0, .inr (3, [.int (th), .int (nI (N)), .ref (md 1), .int (nI (A)), .ref (md 2), .ref (md 3), .int (nI (R)), .ref (md 4), .ref (md 5), .ref (md 6), .int (bI (kw)), .ref (md 7), .ref (md 8)])), (md 1, .inl (cI, 24, .inl an)), (md 2, .inl (cI, 9, .inl nd)), (md 3, .inl (cI, 9, .inl wt)), (md 4, .inl (cI, 40, .inl B)), (md 5, .inl (cI, 40, .inl Hd)), (md 6, .inl (cZ, 40, .inl (fun j => bI (O j)))), (md 7, .inl (cI, 512, .inl HM)), (md 8, .inl (cZ, 512, .inl (fun j => bI (CO j)))), (od, .inl (cE, 1, .inr (.inr (.inr (.inl G)))))]) (vx_runSW (As := [.ref (ad 0), .int (xs (i3 + 1)), .ref (ou)]) (rest := []) ⟨hx, hb, hml, hown, hts⟩ (c_L_worldsWith l D cI cZ cJ cE ad ou (N) (A) (fl) (an) (nd) (wt) (B) (Hd) (O) (R) (HL) (LB) (SO) (NG) (WO) (SA) (SE) (F) (xs (i3 + 1)) (hA) (hR) (hn) (hH) (hN) (hsv) hst (H).size) (vx_cwSW 3 hts gL_law_L_worldsWith rfl rfl rfl (by decide +kernel) ⟨Nat.le_of_ble_eq_true rfl, Nat.le_of_ble_eq_true rfl⟩) (prl_S (hP.sub (ws' := (wKL cI cZ cJ ad ou N A fl an nd wt B Hd O R HL LB SO NG WO SA SE F)) [0, 1, 2, 3, 4, 5, 6, 7, 8, 9, 10, 11, 12, 13, 23] rfl) (hD.sub (ws' := (wKL cI cZ cJ ad ou N A fl an nd wt B Hd O R HL LB SO NG WO SA SE F)) [0, 1, 2, 3, 4, 5, 6, 7, 8, 9, 10, 11, 12, 13, 23] (by decide) rfl) hK hX hZ hY hS (va_free (wc := (wKL cI cZ cJ ad ou N A fl an nd wt B Hd O R HL LB SO NG WO SA SE F)) hD hS hAp [0, 1, 2, 3, 4, 5, 6, 7, 8, 9, 10, 11, 12, 13, 23] rfl)) rfl rfl hl.1 rfl (lv_room (Nat.le_of_ble_eq_true rfl)) dL_law_1573 ⟨hcc 1 (by decide), hss 6 (by decide)⟩) hP hD hS hAp [0, 1, 2, 3, 4, 5, 6, 7, 8, 9, 10, 11, 12, 13, 23] [14, 15, 16, 17, 18, 19, 20, 21, 22, 24] rfl rfl (by decide) (by decide) (fun r_1573 u_1573 H locs hq_1573 hP hD hS => ?_)
  obtain ⟨fl9_1573, HL9_1573, LB9_1573, SO9_1573, NG9_1573, WO9_1573, SA9_1573, SE9_1573, F9_1573⟩ := u_1573
  obtain ⟨hpo_1573, -⟩ := hq_1573
  have hpo_1573 : (r_1573 = 0 ∧ ∃ rr : Int32, rr = nI (cnt (fun e => woM A (soE B Hd O R nd A) e && hs ((hdE B Hd O R nd A) e) (xs (i3 + 1))) (2 ^ A)) ∧ (inR (xs (i3 + 1)) N = true) ∧ (fl9_1573 = true → svOK B Hd O R nd A HL9_1573 LB9_1573 SO9_1573 NG9_1573 WO9_1573 SA9_1573 SE9_1573) ∧ F9_1573 0 = rr.toInt64) ∨ (r_1573 = 1 ∧ (inR (xs (i3 + 1)) N = false) ∧ (fl9_1573 = true → svOK B Hd O R nd A HL9_1573 LB9_1573 SO9_1573 NG9_1573 WO9_1573 SA9_1573 SE9_1573)) := hpo_1573
  have hP : va_P D vwCl (wZ cI cZ cJ cE ad md ou od N A fl9_1573 an nd wt B Hd O R HL9_1573 LB9_1573 SO9_1573 NG9_1573 WO9_1573 SA9_1573 SE9_1573 th N A R kw an nd wt B Hd O HM CO F9_1573 G) H := hP.sub [10, 11, 12, 13, 14, 15, 16, 17, 18, 19, 20, 21, 22, 23, 0, 1, 2, 3, 4, 5, 6, 7, 8, 24, 9] rfl
  have hD : va_D (apS s) (wZ cI cZ cJ cE ad md ou od N A fl9_1573 an nd wt B Hd O R HL9_1573 LB9_1573 SO9_1573 NG9_1573 WO9_1573 SA9_1573 SE9_1573 th N A R kw an nd wt B Hd O HM CO F9_1573 G) := hD.sub [10, 11, 12, 13, 14, 15, 16, 17, 18, 19, 20, 21, 22, 23, 0, 1, 2, 3, 4, 5, 6, 7, 8, 24, 9] (by decide) rfl
  refine W.widen (k := cs + 2) (n := sl + 12) (Nat.add_le_add_left (by decide) cs) (Nat.add_le_add_left (by decide) sl) ?_
  refine lv_istore (lv' := [(6, .int (r_1573)), (0, .ref (b)), (1, .ref (ad 0)), (2, .ref (md 0)), (3, .ref (ou)), (4, .ref (od)), (5, .int (nI (i3)))]) hx hb dL_law_1576 hl (by decide) rfl (fun ls hl => ?_)
  refine lv_aload_n hx hb dL_law_1578 rfl (lv_at hl 3 rfl) ?_
  refine lv_aload_n hx hb dL_law_1579 rfl (lv_at hl 1 rfl) ?_
  refine lv_iload hx hb dL_law_1580 (lv_at hl 6 rfl) ?_
  refine lv_iconst (v := 1) hx hb dL_law_1582 (by decide) ?_
  refine lv_iadd hx hb dL_law_1583 ?_
  rw [nI_1]
  refine sld_ (i := i3 + 1) hx hb hXs hbl hbA hS (by omega) hL dL_law_1584 ?_
  refine mu_i (wr := [(ad 0, .inr (2, [.ref (ad 1), .ref (ad 2), .ref (ad 3), .ref (ad 4), .ref (ad 8), .int (nI (N)), .int (nI (A)), .int (bI (fl9_1573))])), (ad 1, .inl (cI, 24, .inl an)), (ad 2, .inl (cI, 9, .inl nd)), (ad 3, .inl (cI, 9, .inl wt)), (ad 4, .inr (0, [.ref (ad 5), .ref (ad 6), .ref (ad 7), .int (nI (R))])), (ad 5, .inl (cI, 40, .inl B)), (ad 6, .inl (cI, 40, .inl Hd)), (ad 7, .inl (cZ, 40, .inl (fun j => bI (O j)))), (ad 8, .inr (1, [.ref (ad 9), .ref (ad 10), .ref (ad 11), .ref (ad 12), .ref (ad 13), .int (nI (SA9_1573)), .int (nI (SE9_1573))])), (ad 9, .inl (cI, 512, .inl HL9_1573)), (ad 10, .inl (cI, 512, .inl LB9_1573)), (ad 11, .inl (cZ, 512, .inl (fun j => bI (SO9_1573 j)))), (ad 12, .inl (cZ, 512, .inl (fun j => bI (NG9_1573 j)))), (ad 13, .inl (cZ, 512, .inl (fun j => bI (WO9_1573 j)))), (ou, .inl (cJ, 1, .inr (.inl F9_1573))), (od, .inl (cE, 1, .inr (.inr (.inr (.inl G)))))]) (va_runV (As := [.int (xs (i3 + 1))]) (rest := []) ⟨hx, hb, hml, hown, hts⟩ (c_X3_worldsWith l D cI cZ md (th) (N) (A) (R) (kw) (an) (nd) (wt) (B) (Hd) (O) (HM) (CO) (xs (i3 + 1)) (hA) (hR) (hn) (hH) (hN) (hkw) (H).size) (cwV 1 hts gL_law_X3_worldsWith rfl rfl rfl (by decide +kernel) ⟨Nat.le_of_ble_eq_true rfl, Nat.le_of_ble_eq_true rfl⟩) (prw_V (q0 := 0) (ci := 3) (hP.sub (ws' := (wM cI cZ md th N A R kw an nd wt B Hd O HM CO)) [14, 15, 16, 17, 18, 19, 20, 21, 22] rfl) (hD.sub (ws' := (wM cI cZ md th N A R kw an nd wt B Hd O HM CO)) [14, 15, 16, 17, 18, 19, 20, 21, 22] (by decide) rfl) (hK.sub [0, 1] rfl) rfl rfl) rfl rfl hl.1 rfl (lv_room (Nat.le_of_ble_eq_true rfl)) dL_law_1585 ⟨hcc 2 (by decide), hss 12 (by decide)⟩) hP hD hS hAp [14, 15, 16, 17, 18, 19, 20, 21, 22] [0, 1, 2, 3, 4, 5, 6, 7, 8, 9, 10, 11, 12, 13, 23, 24] rfl rfl (by decide) (by decide) (fun r_1585 u_1585 H locs hq_1585 hP hD hS => ?_)
  obtain ⟨th9_1585, HL9_1585, CO9_1585, kw9_1585⟩ := u_1585
  obtain ⟨hthp_1585, hknp_1585, hval_1585, -⟩ := hq_1585
  have hthp_1585 : th9_1585 = tB (inR (xs (i3 + 1)) N) := hthp_1585
  have hknp_1585 : kw9_1585 = true → knOK B Hd O R nd A HL9_1585 CO9_1585 := hknp_1585
  have hval_1585 : inR (xs (i3 + 1)) N = true → r_1585 = nI (cnt (fun e => woM A (soE B Hd O R nd A) e && hs ((hdE B Hd O R nd A) e) (xs (i3 + 1))) (2 ^ A)) := hval_1585
  have hP : va_P D vwCl (wZ cI cZ cJ cE ad md ou od N A fl9_1573 an nd wt B Hd O R HL9_1573 LB9_1573 SO9_1573 NG9_1573 WO9_1573 SA9_1573 SE9_1573 th9_1585 N A R kw9_1585 an nd wt B Hd O HL9_1585 CO9_1585 F9_1573 G) H := hP.sub [0, 1, 2, 3, 4, 5, 6, 7, 8, 9, 10, 11, 12, 13, 16, 17, 18, 19, 20, 21, 22, 23, 24, 14, 15] rfl
  have hD : va_D (apS s) (wZ cI cZ cJ cE ad md ou od N A fl9_1573 an nd wt B Hd O R HL9_1573 LB9_1573 SO9_1573 NG9_1573 WO9_1573 SA9_1573 SE9_1573 th9_1585 N A R kw9_1585 an nd wt B Hd O HL9_1585 CO9_1585 F9_1573 G) := hD.sub [0, 1, 2, 3, 4, 5, 6, 7, 8, 9, 10, 11, 12, 13, 16, 17, 18, 19, 20, 21, 22, 23, 24, 14, 15] (by decide) rfl
  refine lv_istore (lv' := [(7, .int (r_1585)), (6, .int (r_1573)), (0, .ref (b)), (1, .ref (ad 0)), (2, .ref (md 0)), (3, .ref (ou)), (4, .ref (od)), (5, .int (nI (i3)))]) hx hb dL_law_1588 hl (by decide) rfl (fun ls hl => ?_)
  have hAG : ((th9_1585) = r_1573) ∧ ((r_1573 = 0 → F9_1573 0 = (r_1585).toInt64)) ∧ (Inv N A fl9_1573 nd wt B Hd O R HL9_1573 LB9_1573 SO9_1573 NG9_1573 WO9_1573 SA9_1573 SE9_1573 kw9_1585 HL9_1585 CO9_1585) := by
    rcases hpo_1573 with ⟨ha, rr, h1, h2, h3, h4⟩ | ⟨ha, h2, h3⟩
    · exact ⟨by rw [hthp_1585, h2, ha]; rfl, fun _ => by rw [h4, h1, hval_1585 h2], ⟨hn, hA, hR, hH, hN, hw, h3, hknp_1585⟩⟩
    · exact ⟨by rw [hthp_1585, h2, ha]; rfl, fun h0 => absurd (ha.symm.trans h0) (by decide), ⟨hn, hA, hR, hH, hN, hw, h3, hknp_1585⟩⟩
  obtain ⟨hth, hvl, hI2⟩ := hAG
  refine lv_aload_n hx hb dL_law_1590 rfl (lv_at hl 4 rfl) ?_
  refine pu_i (va_runV (As := []) (rest := []) ⟨hx, hb, hml, hown, hts⟩ (c_X3_thrown l D cI cZ md (th9_1585) (N) (A) (R) (kw9_1585) (an) (nd) (wt) (B) (Hd) (O) (HL9_1585) (CO9_1585) ) (cwV 0 hts gL_law_X3_thrown rfl rfl rfl (by decide +kernel) ⟨Nat.le_of_ble_eq_true rfl, Nat.le_of_ble_eq_true rfl⟩) (pre_V (q0 := 0) (ci := 3) (hP.sub (ws' := (wM cI cZ md th9_1585 N A R kw9_1585 an nd wt B Hd O HL9_1585 CO9_1585)) [14, 15, 16, 17, 18, 19, 20, 21, 22] rfl) (hK.sub [0, 1] rfl) rfl rfl) rfl rfl hl.1 rfl (lv_room (Nat.le_of_ble_eq_true rfl)) dL_law_1591 ⟨hcc 2 (by decide), hss 12 (by decide)⟩) ?_
  refine lv_iload hx hb dL_law_1594 (lv_at hl 1 rfl) ?_
  refine lv_icmp_eq (tgt := 1601) hx hb dL_law_1596 (by decide) (fun c_1596 => ?_) (fun c_1596 => ?_)
  · skip
    refine lv_iload hx hb dL_law_1601 (lv_at hl 1 rfl) ?_
    refine lv_if_ne (tgt := 1618) hx hb dL_law_1603 (by decide) (fun c_1603 => ?_) (fun c_1603 => ?_)
    · skip
      refine lv_goto (tgt := 1862) hx hb dL_law_1618 (by decide) ?_
      exact hk (N) (A) (fl9_1573) (an) (nd) (wt) (B) (Hd) (O) (R) (HL9_1573) (LB9_1573) (SO9_1573) (NG9_1573) (WO9_1573) (SA9_1573) (SE9_1573) (th9_1585) (kw9_1585) (HL9_1585) (CO9_1585) (F9_1573) (G) _ _ hI2 hP hD hS ls (lv_sub hl [2, 3, 4, 5, 6, 7] rfl)
    · skip
      refine lv_aload_n hx hb dL_law_1606 rfl (lv_at hl 5 rfl) ?_
      refine lv_iconst (v := 0) hx hb dL_law_1607 (by decide) ?_
      refine ll_0 (D := D) (f := F9_1573) hx hb hK hP 23 2 rfl rfl dL_law_1608 ?_
      refine lv_iload hx hb dL_law_1609 (lv_at hl 0 rfl) ?_
      refine lv_i2l hx hb dL_law_1611 rfl ?_
      refine W.lcmp hx hb dL_law_1612 ?_
      refine lv_if_eq (tgt := 1618) hx hb dL_law_1613 (by decide) (fun c_1613 => ?_) (fun c_1613 => ?_)
      · skip
        refine lv_goto (tgt := 1862) hx hb dL_law_1618 (by decide) ?_
        exact hk (N) (A) (fl9_1573) (an) (nd) (wt) (B) (Hd) (O) (R) (HL9_1573) (LB9_1573) (SO9_1573) (NG9_1573) (WO9_1573) (SA9_1573) (SE9_1573) (th9_1585) (kw9_1585) (HL9_1585) (CO9_1585) (F9_1573) (G) _ _ hI2 hP hD hS ls (lv_sub hl [2, 3, 4, 5, 6, 7] rfl)
      · skip
        refine lv_iconst (v := 0) hx hb dL_law_1616 (by decide) ?_
        exfalso
        first | exact c_1613 hth | exact c_1613 ((lg_cmp_eq _ _).mpr (hvl c_1596)) | exact c_1613 ((lg_cmp_eq _ _).mpr (hvl c_1603)) | exact c_1613 ((lg_cmp_eq _ _).mpr (hvl c_1613))
  · skip
    refine lv_iconst (v := 0) hx hb dL_law_1599 (by decide) ?_
    exfalso
    first | exact c_1596 hth | exact c_1596 ((lg_cmp_eq _ _).mpr (hvl c_1596))
set_option maxHeartbeats 4000000 in
set_option maxRecDepth 100000 in
theorem law_c27 {p : Program} {e : Env} {s : State} {m : MethodId} {below : List Frame} {meth : Method} {c : Code} (l : Launch) (hst : l.stackTraces = false) {b L : Nat} {xs : Nat → Int32} (hL : L ≤ 1536) (C0 : lw_At p s m meth c b L xs) (D : va_G) (cI cZ cJ cE : ClassId) (ad md : Nat → Nat) (ou od : Nat) (hK : kn D (tyL cI cZ cJ cE) s) (hX : xK s) (hZ : xZ (apS s) s s.heap) (hY : yN s) (cs sl i3 : Nat) (hcs : cs + 2 ≤ 1061) (hsl : sl + 12 ≤ 12206) (hi3 : i3 + 3 ≤ L) (hk : lwK p l e s m below meth c b D cI cZ cJ cE ad md ou od cs sl i3) (N A : Nat) (fl : Bool) (an nd wt B Hd : Nat → Int32) (O : Nat → Bool) (R : Nat) (HL LB : Nat → Int32) (SO NG WO : Nat → Bool) (SA SE : Nat) (th : Int32) (kw : Bool) (HM : Nat → Int32) (CO : Nat → Bool) (F : Nat → Int64) (G : Nat → UInt64) (hI : Inv N A fl nd wt B Hd O R HL LB SO NG WO SA SE kw HM CO) (H : Heap) (locs : List Loc) (hP : va_P D vwCl (wZ cI cZ cJ cE ad md ou od N A fl an nd wt B Hd O R HL LB SO NG WO SA SE th N A R kw an nd wt B Hd O HM CO F G) H) (hD : va_D (apS s) (wZ cI cZ cJ cE ad md ou od N A fl an nd wt B Hd O R HL LB SO NG WO SA SE th N A R kw an nd wt B Hd O HM CO F G)) (hS : va_S (apS s) s.heap H locs) (ls : Array Slot) (hl : lv_has ls 9 [(0, .ref b), (1, .ref (ad 0)), (2, .ref (md 0)), (3, .ref ou), (4, .ref od), (5, .int (nI i3))]) : W p l e room_1 s m #[Value.ref b] below meth c H locs cs sl (lw_Z below #[Value.ref b] s) (F0 m 1621 ls []) := by
  obtain ⟨hx, hb, hr, hml, hown, hts, hXs, hbl, hlocks, hgv⟩ := id C0
  have hts := fun w h => hts w (wsL_law_in w h)
  have hb : c.code = cL_law := hb
  have hbA : ¬ apS s b := Nat.not_le.mpr hbl
  have hAp : ∀ q : Nat, s.heap.size ≤ q → apS s q := fun _ h => h
  obtain ⟨hn, hA, hR, hH, hN, hw, hsv, hkw⟩ := hI
  have hcc : ∀ k, k ≤ 2 → cs + k ≤ room_1.cells := fun k hk => Nat.le_trans (Nat.add_le_add_left hk cs) hcs
  have hss : ∀ k, k ≤ 12 → sl + k ≤ room_1.slots := fun k hk => Nat.le_trans (Nat.add_le_add_left hk sl) hsl
  refine lv_aload_n hx hb dL_law_1621 rfl (lv_at hl 1 rfl) ?_
  refine lv_aload_n hx hb dL_law_1622 rfl (lv_at hl 0 rfl) ?_
  refine lv_iload hx hb dL_law_1623 (lv_at hl 5 rfl) ?_
  refine lv_iconst (v := 1) hx hb dL_law_1625 (by decide) ?_
  refine lv_iadd hx hb dL_law_1626 ?_
  rw [nI_1]
  refine sld_ (i := i3 + 1) hx hb hXs hbl hbA hS (by omega) hL dL_law_1627 ?_
  refine lv_aload hx hb dL_law_1628 (lv_at hl 4 rfl) ?_
  refine mu_i (wr := [(md 0, .inr (3, [.int (th), .int (nI (N)), .ref (md 1), .int (nI (A)), .ref (md 2), .ref (md 3), .int (nI (R)), .ref (md 4), .ref (md 5), .ref (md 6), .int (bI (kw)), .ref (md 7), .ref (md 8)])), (md 1, .inl (cI, 24, .inl an)), (md 2, .inl (cI, 9, .inl nd)), (md 3, .inl (cI, 9, .inl wt)), (md 4, .inl (cI, 40, .inl B)), (md 5, .inl (cI, 40, .inl Hd)), (md 6, .inl (cZ, 40, .inl (fun j => bI (O j)))), (md 7, .inl (cI, 512, .inl HM)), (md 8, .inl (cZ, 512, .inl (fun j => bI (CO j)))), (ou, .inl (cJ, 1, .inr (.inl F)))]) (vx_runSW (As := [.ref (ad 0), .int (xs (i3 + 1)), .ref (od)]) (rest := []) ⟨hx, hb, hml, hown, hts⟩ (c_L_belief l D cI cZ cJ cE ad od (N) (A) (fl) (an) (nd) (wt) (B) (Hd) (O) (R) (HL) (LB) (SO) (NG) (WO) (SA) (SE) (G) (xs (i3 + 1)) (hA) (hR) (hn) (hH) (hN) (hsv) hst (H).size) (vx_cwSW 3 hts gL_law_L_belief rfl rfl rfl (by decide +kernel) ⟨Nat.le_of_ble_eq_true rfl, Nat.le_of_ble_eq_true rfl⟩) (prl_S (hP.sub (ws' := (wKD cI cZ cE ad od N A fl an nd wt B Hd O R HL LB SO NG WO SA SE G)) [0, 1, 2, 3, 4, 5, 6, 7, 8, 9, 10, 11, 12, 13, 24] rfl) (hD.sub (ws' := (wKD cI cZ cE ad od N A fl an nd wt B Hd O R HL LB SO NG WO SA SE G)) [0, 1, 2, 3, 4, 5, 6, 7, 8, 9, 10, 11, 12, 13, 24] (by decide) rfl) hK hX hZ hY hS (va_free (wc := (wKD cI cZ cE ad od N A fl an nd wt B Hd O R HL LB SO NG WO SA SE G)) hD hS hAp [0, 1, 2, 3, 4, 5, 6, 7, 8, 9, 10, 11, 12, 13, 24] rfl)) rfl rfl hl.1 rfl (lv_room (Nat.le_of_ble_eq_true rfl)) dL_law_1630 ⟨hcc 1 (by decide), hss 6 (by decide)⟩) hP hD hS hAp [0, 1, 2, 3, 4, 5, 6, 7, 8, 9, 10, 11, 12, 13, 24] [14, 15, 16, 17, 18, 19, 20, 21, 22, 23] rfl rfl (by decide) (by decide) (fun r_1630 u_1630 H locs hq_1630 hP hD hS => ?_)
  obtain ⟨fl9_1630, HL9_1630, LB9_1630, SO9_1630, NG9_1630, WO9_1630, SA9_1630, SE9_1630, G9_1630⟩ := u_1630
  obtain ⟨hpo_1630, -⟩ := hq_1630
  have hpo_1630 : (r_1630 = 0 ∧ ∃ rr : UInt64, rr = blE (cnt (soE B Hd O R nd A) (2 ^ A)) (cnt (fun e => (soE B Hd O R nd A) e && hs ((hdE B Hd O R nd A) e) (xs (i3 + 1))) (2 ^ A)) ∧ (inR (xs (i3 + 1)) N = true) ∧ (fl9_1630 = true → svOK B Hd O R nd A HL9_1630 LB9_1630 SO9_1630 NG9_1630 WO9_1630 SA9_1630 SE9_1630) ∧ G9_1630 0 = rr) ∨ (r_1630 = 1 ∧ (inR (xs (i3 + 1)) N = false) ∧ (fl9_1630 = true → svOK B Hd O R nd A HL9_1630 LB9_1630 SO9_1630 NG9_1630 WO9_1630 SA9_1630 SE9_1630)) := hpo_1630
  have hP : va_P D vwCl (wZ cI cZ cJ cE ad md ou od N A fl9_1630 an nd wt B Hd O R HL9_1630 LB9_1630 SO9_1630 NG9_1630 WO9_1630 SA9_1630 SE9_1630 th N A R kw an nd wt B Hd O HM CO F G9_1630) H := hP.sub [10, 11, 12, 13, 14, 15, 16, 17, 18, 19, 20, 21, 22, 23, 0, 1, 2, 3, 4, 5, 6, 7, 8, 9, 24] rfl
  have hD : va_D (apS s) (wZ cI cZ cJ cE ad md ou od N A fl9_1630 an nd wt B Hd O R HL9_1630 LB9_1630 SO9_1630 NG9_1630 WO9_1630 SA9_1630 SE9_1630 th N A R kw an nd wt B Hd O HM CO F G9_1630) := hD.sub [10, 11, 12, 13, 14, 15, 16, 17, 18, 19, 20, 21, 22, 23, 0, 1, 2, 3, 4, 5, 6, 7, 8, 9, 24] (by decide) rfl
  refine W.widen (k := cs + 2) (n := sl + 12) (Nat.add_le_add_left (by decide) cs) (Nat.add_le_add_left (by decide) sl) ?_
  refine lv_istore (lv' := [(6, .int (r_1630)), (0, .ref (b)), (1, .ref (ad 0)), (2, .ref (md 0)), (3, .ref (ou)), (4, .ref (od)), (5, .int (nI (i3)))]) hx hb dL_law_1633 hl (by decide) rfl (fun ls hl => ?_)
  refine lv_aload_n hx hb dL_law_1635 rfl (lv_at hl 3 rfl) ?_
  refine lv_aload_n hx hb dL_law_1636 rfl (lv_at hl 1 rfl) ?_
  refine lv_iload hx hb dL_law_1637 (lv_at hl 6 rfl) ?_
  refine lv_iconst (v := 1) hx hb dL_law_1639 (by decide) ?_
  refine lv_iadd hx hb dL_law_1640 ?_
  rw [nI_1]
  refine sld_ (i := i3 + 1) hx hb hXs hbl hbA hS (by omega) hL dL_law_1641 ?_
  refine mu_d (wr := [(ad 0, .inr (2, [.ref (ad 1), .ref (ad 2), .ref (ad 3), .ref (ad 4), .ref (ad 8), .int (nI (N)), .int (nI (A)), .int (bI (fl9_1630))])), (ad 1, .inl (cI, 24, .inl an)), (ad 2, .inl (cI, 9, .inl nd)), (ad 3, .inl (cI, 9, .inl wt)), (ad 4, .inr (0, [.ref (ad 5), .ref (ad 6), .ref (ad 7), .int (nI (R))])), (ad 5, .inl (cI, 40, .inl B)), (ad 6, .inl (cI, 40, .inl Hd)), (ad 7, .inl (cZ, 40, .inl (fun j => bI (O j)))), (ad 8, .inr (1, [.ref (ad 9), .ref (ad 10), .ref (ad 11), .ref (ad 12), .ref (ad 13), .int (nI (SA9_1630)), .int (nI (SE9_1630))])), (ad 9, .inl (cI, 512, .inl HL9_1630)), (ad 10, .inl (cI, 512, .inl LB9_1630)), (ad 11, .inl (cZ, 512, .inl (fun j => bI (SO9_1630 j)))), (ad 12, .inl (cZ, 512, .inl (fun j => bI (NG9_1630 j)))), (ad 13, .inl (cZ, 512, .inl (fun j => bI (WO9_1630 j)))), (ou, .inl (cJ, 1, .inr (.inl F))), (od, .inl (cE, 1, .inr (.inr (.inr (.inl G9_1630)))))]) (va_runV (As := [.int (xs (i3 + 1))]) (rest := []) ⟨hx, hb, hml, hown, hts⟩ (c_X3_belief l D cI cZ md (th) (N) (A) (R) (kw) (an) (nd) (wt) (B) (Hd) (O) (HM) (CO) (xs (i3 + 1)) (hA) (hR) (hn) (hH) (hN) (hkw) (H).size) (cwV 1 hts gL_law_X3_belief rfl rfl rfl (by decide +kernel) ⟨Nat.le_of_ble_eq_true rfl, Nat.le_of_ble_eq_true rfl⟩) (prw_V (q0 := 0) (ci := 3) (hP.sub (ws' := (wM cI cZ md th N A R kw an nd wt B Hd O HM CO)) [14, 15, 16, 17, 18, 19, 20, 21, 22] rfl) (hD.sub (ws' := (wM cI cZ md th N A R kw an nd wt B Hd O HM CO)) [14, 15, 16, 17, 18, 19, 20, 21, 22] (by decide) rfl) (hK.sub [0, 1] rfl) rfl rfl) rfl rfl hl.1 rfl (lv_room (Nat.le_of_ble_eq_true rfl)) dL_law_1642 ⟨hcc 2 (by decide), hss 12 (by decide)⟩) hP hD hS hAp [14, 15, 16, 17, 18, 19, 20, 21, 22] [0, 1, 2, 3, 4, 5, 6, 7, 8, 9, 10, 11, 12, 13, 23, 24] rfl rfl (by decide) (by decide) (fun r_1642 u_1642 H locs hq_1642 hP hD hS => ?_)
  obtain ⟨th9_1642, HL9_1642, CO9_1642, kw9_1642⟩ := u_1642
  obtain ⟨hthp_1642, hknp_1642, hval_1642, -⟩ := hq_1642
  have hthp_1642 : th9_1642 = tB (inR (xs (i3 + 1)) N) := hthp_1642
  have hknp_1642 : kw9_1642 = true → knOK B Hd O R nd A HL9_1642 CO9_1642 := hknp_1642
  have hval_1642 : inR (xs (i3 + 1)) N = true → r_1642 = blE (cnt (soE B Hd O R nd A) (2 ^ A)) (cnt (fun e => gd (hdE B Hd O R nd A) (soE B Hd O R nd A) (xs (i3 + 1)) e) (2 ^ A)) := hval_1642
  have hP : va_P D vwCl (wZ cI cZ cJ cE ad md ou od N A fl9_1630 an nd wt B Hd O R HL9_1630 LB9_1630 SO9_1630 NG9_1630 WO9_1630 SA9_1630 SE9_1630 th9_1642 N A R kw9_1642 an nd wt B Hd O HL9_1642 CO9_1642 F G9_1630) H := hP.sub [0, 1, 2, 3, 4, 5, 6, 7, 8, 9, 10, 11, 12, 13, 16, 17, 18, 19, 20, 21, 22, 23, 24, 14, 15] rfl
  have hD : va_D (apS s) (wZ cI cZ cJ cE ad md ou od N A fl9_1630 an nd wt B Hd O R HL9_1630 LB9_1630 SO9_1630 NG9_1630 WO9_1630 SA9_1630 SE9_1630 th9_1642 N A R kw9_1642 an nd wt B Hd O HL9_1642 CO9_1642 F G9_1630) := hD.sub [0, 1, 2, 3, 4, 5, 6, 7, 8, 9, 10, 11, 12, 13, 16, 17, 18, 19, 20, 21, 22, 23, 24, 14, 15] (by decide) rfl
  refine lv_dstore (lv' := [(7, .double (r_1642)), (6, .int (r_1630)), (0, .ref (b)), (1, .ref (ad 0)), (2, .ref (md 0)), (3, .ref (ou)), (4, .ref (od)), (5, .int (nI (i3)))]) hx hb dL_law_1645 hl (by decide) rfl (fun ls hl => ?_)
  have hAG : ((th9_1642) = r_1630) ∧ ((r_1630 = 0 → G9_1630 0 = r_1642)) ∧ (Inv N A fl9_1630 nd wt B Hd O R HL9_1630 LB9_1630 SO9_1630 NG9_1630 WO9_1630 SA9_1630 SE9_1630 kw9_1642 HL9_1642 CO9_1642) := by
    rcases hpo_1630 with ⟨ha, rr, h1, h2, h3, h4⟩ | ⟨ha, h2, h3⟩
    · exact ⟨by rw [hthp_1642, h2, ha]; rfl, fun _ => by rw [h4, h1, hval_1642 h2]; rfl, ⟨hn, hA, hR, hH, hN, hw, h3, hknp_1642⟩⟩
    · exact ⟨by rw [hthp_1642, h2, ha]; rfl, fun h0 => absurd (ha.symm.trans h0) (by decide), ⟨hn, hA, hR, hH, hN, hw, h3, hknp_1642⟩⟩
  obtain ⟨hth, hvl, hI2⟩ := hAG
  refine lv_aload_n hx hb dL_law_1647 rfl (lv_at hl 4 rfl) ?_
  refine pu_i (va_runV (As := []) (rest := []) ⟨hx, hb, hml, hown, hts⟩ (c_X3_thrown l D cI cZ md (th9_1642) (N) (A) (R) (kw9_1642) (an) (nd) (wt) (B) (Hd) (O) (HL9_1642) (CO9_1642) ) (cwV 0 hts gL_law_X3_thrown rfl rfl rfl (by decide +kernel) ⟨Nat.le_of_ble_eq_true rfl, Nat.le_of_ble_eq_true rfl⟩) (pre_V (q0 := 0) (ci := 3) (hP.sub (ws' := (wM cI cZ md th9_1642 N A R kw9_1642 an nd wt B Hd O HL9_1642 CO9_1642)) [14, 15, 16, 17, 18, 19, 20, 21, 22] rfl) (hK.sub [0, 1] rfl) rfl rfl) rfl rfl hl.1 rfl (lv_room (Nat.le_of_ble_eq_true rfl)) dL_law_1648 ⟨hcc 2 (by decide), hss 12 (by decide)⟩) ?_
  refine lv_iload hx hb dL_law_1651 (lv_at hl 1 rfl) ?_
  refine lv_icmp_eq (tgt := 1658) hx hb dL_law_1653 (by decide) (fun c_1653 => ?_) (fun c_1653 => ?_)
  · skip
    refine lv_iload hx hb dL_law_1658 (lv_at hl 1 rfl) ?_
    refine lv_if_ne (tgt := 1695) hx hb dL_law_1660 (by decide) (fun c_1660 => ?_) (fun c_1660 => ?_)
    · skip
      refine lv_goto (tgt := 1862) hx hb dL_law_1695 (by decide) ?_
      exact hk (N) (A) (fl9_1630) (an) (nd) (wt) (B) (Hd) (O) (R) (HL9_1630) (LB9_1630) (SO9_1630) (NG9_1630) (WO9_1630) (SA9_1630) (SE9_1630) (th9_1642) (kw9_1642) (HL9_1642) (CO9_1642) (F) (G9_1630) _ _ hI2 hP hD hS ls (lv_sub hl [2, 3, 4, 5, 6, 7] rfl)
    · skip
      refine lv_aload hx hb dL_law_1663 (lv_at hl 6 rfl) ?_
      refine lv_iconst (v := 0) hx hb dL_law_1665 (by decide) ?_
      refine ld_0 (D := D) (f := G9_1630) hx hb hK hP 24 3 rfl rfl dL_law_1666 ?_
      refine lv_dload hx hb dL_law_1667 (lv_at hl 0 rfl) ?_
      refine lv_dcmp hx hb dL_law_1669 ?_
      refine lv_if_eq (tgt := 1695) hx hb dL_law_1670 (by decide) (fun c_1670 => ?_) (fun c_1670 => ?_)
      · skip
        refine lv_goto (tgt := 1862) hx hb dL_law_1695 (by decide) ?_
        exact hk (N) (A) (fl9_1630) (an) (nd) (wt) (B) (Hd) (O) (R) (HL9_1630) (LB9_1630) (SO9_1630) (NG9_1630) (WO9_1630) (SA9_1630) (SE9_1630) (th9_1642) (kw9_1642) (HL9_1642) (CO9_1642) (F) (G9_1630) _ _ hI2 hP hD hS ls (lv_sub hl [2, 3, 4, 5, 6, 7] rfl)
      · skip
        refine lv_aload hx hb dL_law_1673 (lv_at hl 6 rfl) ?_
        refine lv_iconst (v := 0) hx hb dL_law_1675 (by decide) ?_
        refine ld_0 (D := D) (f := G9_1630) hx hb hK hP 24 3 rfl rfl dL_law_1676 ?_
        refine lv_aload hx hb dL_law_1677 (lv_at hl 6 rfl) ?_
        refine lv_iconst (v := 0) hx hb dL_law_1679 (by decide) ?_
        refine ld_0 (D := D) (f := G9_1630) hx hb hK hP 24 3 rfl rfl dL_law_1680 ?_
        refine lv_dcmp hx hb dL_law_1681 ?_
        refine lv_if_eq (tgt := 1693) hx hb dL_law_1682 (by decide) (fun c_1682 => ?_) (fun c_1682 => ?_)
        · skip
          refine lv_iconst (v := 0) hx hb dL_law_1693 (by decide) ?_
          exfalso
          have hG9 := hvl c_1660
          rw [hG9] at c_1670
          first | exact c_1670 c_1682 | (rw [hG9] at c_1682; exact c_1670 c_1682)
        · skip
          refine lv_dload hx hb dL_law_1685 (lv_at hl 0 rfl) ?_
          refine lv_dload hx hb dL_law_1687 (lv_at hl 0 rfl) ?_
          refine lv_dcmp hx hb dL_law_1689 ?_
          refine lv_if_ne (tgt := 1695) hx hb dL_law_1690 (by decide) (fun c_1690 => ?_) (fun c_1690 => ?_)
          · skip
            refine lv_goto (tgt := 1862) hx hb dL_law_1695 (by decide) ?_
            exact hk (N) (A) (fl9_1630) (an) (nd) (wt) (B) (Hd) (O) (R) (HL9_1630) (LB9_1630) (SO9_1630) (NG9_1630) (WO9_1630) (SA9_1630) (SE9_1630) (th9_1642) (kw9_1642) (HL9_1642) (CO9_1642) (F) (G9_1630) _ _ hI2 hP hD hS ls (lv_sub hl [2, 3, 4, 5, 6, 7] rfl)
          · skip
            refine lv_iconst (v := 0) hx hb dL_law_1693 (by decide) ?_
            exfalso
            have hG9 := hvl c_1660
            rw [hG9] at c_1670
            first | exact c_1670 c_1690 | (rw [hG9] at c_1690; exact c_1670 c_1690)
  · skip
    refine lv_iconst (v := 0) hx hb dL_law_1656 (by decide) ?_
    exfalso
    first | exact c_1653 hth | exact c_1653 ((lg_cmp_eq _ _).mpr (hvl c_1653))
set_option maxHeartbeats 4000000 in
set_option maxRecDepth 100000 in
theorem law_c28 {p : Program} {e : Env} {s : State} {m : MethodId} {below : List Frame} {meth : Method} {c : Code} (l : Launch) (hst : l.stackTraces = false) {b L : Nat} {xs : Nat → Int32} (hL : L ≤ 1536) (C0 : lw_At p s m meth c b L xs) (D : va_G) (cI cZ cJ cE : ClassId) (ad md : Nat → Nat) (ou od : Nat) (hK : kn D (tyL cI cZ cJ cE) s) (hX : xK s) (hZ : xZ (apS s) s s.heap) (hY : yN s) (cs sl i3 : Nat) (hcs : cs + 2 ≤ 1061) (hsl : sl + 12 ≤ 12206) (hi3 : i3 + 3 ≤ L) (hk : lwK p l e s m below meth c b D cI cZ cJ cE ad md ou od cs sl i3) (N A : Nat) (fl : Bool) (an nd wt B Hd : Nat → Int32) (O : Nat → Bool) (R : Nat) (HL LB : Nat → Int32) (SO NG WO : Nat → Bool) (SA SE : Nat) (th : Int32) (kw : Bool) (HM : Nat → Int32) (CO : Nat → Bool) (F : Nat → Int64) (G : Nat → UInt64) (hI : Inv N A fl nd wt B Hd O R HL LB SO NG WO SA SE kw HM CO) (H : Heap) (locs : List Loc) (hP : va_P D vwCl (wZ cI cZ cJ cE ad md ou od N A fl an nd wt B Hd O R HL LB SO NG WO SA SE th N A R kw an nd wt B Hd O HM CO F G) H) (hD : va_D (apS s) (wZ cI cZ cJ cE ad md ou od N A fl an nd wt B Hd O R HL LB SO NG WO SA SE th N A R kw an nd wt B Hd O HM CO F G)) (hS : va_S (apS s) s.heap H locs) (ls : Array Slot) (hl : lv_has ls 9 [(0, .ref b), (1, .ref (ad 0)), (2, .ref (md 0)), (3, .ref ou), (4, .ref od), (5, .int (nI i3))]) : W p l e room_1 s m #[Value.ref b] below meth c H locs cs sl (lw_Z below #[Value.ref b] s) (F0 m 1698 ls []) := by
  obtain ⟨hx, hb, hr, hml, hown, hts, hXs, hbl, hlocks, hgv⟩ := id C0
  have hts := fun w h => hts w (wsL_law_in w h)
  have hb : c.code = cL_law := hb
  have hbA : ¬ apS s b := Nat.not_le.mpr hbl
  have hAp : ∀ q : Nat, s.heap.size ≤ q → apS s q := fun _ h => h
  obtain ⟨hn, hA, hR, hH, hN, hw, hsv, hkw⟩ := hI
  have hcc : ∀ k, k ≤ 2 → cs + k ≤ room_1.cells := fun k hk => Nat.le_trans (Nat.add_le_add_left hk cs) hcs
  have hss : ∀ k, k ≤ 12 → sl + k ≤ room_1.slots := fun k hk => Nat.le_trans (Nat.add_le_add_left hk sl) hsl
  refine lv_aload_n hx hb dL_law_1698 rfl (lv_at hl 1 rfl) ?_
  refine lv_aload_n hx hb dL_law_1699 rfl (lv_at hl 0 rfl) ?_
  refine lv_iload hx hb dL_law_1700 (lv_at hl 5 rfl) ?_
  refine lv_iconst (v := 1) hx hb dL_law_1702 (by decide) ?_
  refine lv_iadd hx hb dL_law_1703 ?_
  rw [nI_1]
  refine sld_ (i := i3 + 1) hx hb hXs hbl hbA hS (by omega) hL dL_law_1704 ?_
  refine lv_aload_n hx hb dL_law_1705 rfl (lv_at hl 0 rfl) ?_
  refine lv_iload hx hb dL_law_1706 (lv_at hl 5 rfl) ?_
  refine lv_iconst (v := 2) hx hb dL_law_1708 (by decide) ?_
  refine lv_iadd hx hb dL_law_1709 ?_
  rw [show (2 : Int32) = nI 2 from rfl, nI_add]
  refine sld_ (i := i3 + 2) hx hb hXs hbl hbA hS (by omega) hL dL_law_1710 ?_
  refine lv_aload_n hx hb dL_law_1711 rfl (lv_at hl 3 rfl) ?_
  refine mu_i (wr := [(md 0, .inr (3, [.int (th), .int (nI (N)), .ref (md 1), .int (nI (A)), .ref (md 2), .ref (md 3), .int (nI (R)), .ref (md 4), .ref (md 5), .ref (md 6), .int (bI (kw)), .ref (md 7), .ref (md 8)])), (md 1, .inl (cI, 24, .inl an)), (md 2, .inl (cI, 9, .inl nd)), (md 3, .inl (cI, 9, .inl wt)), (md 4, .inl (cI, 40, .inl B)), (md 5, .inl (cI, 40, .inl Hd)), (md 6, .inl (cZ, 40, .inl (fun j => bI (O j)))), (md 7, .inl (cI, 512, .inl HM)), (md 8, .inl (cZ, 512, .inl (fun j => bI (CO j)))), (od, .inl (cE, 1, .inr (.inr (.inr (.inl G)))))]) (vx_runSW (As := [.ref (ad 0), .int (xs (i3 + 1)), .int (xs (i3 + 2)), .ref (ou)]) (rest := []) ⟨hx, hb, hml, hown, hts⟩ (c_L_implies l D cI cZ cJ cE ad ou (N) (A) (fl) (an) (nd) (wt) (B) (Hd) (O) (R) (HL) (LB) (SO) (NG) (WO) (SA) (SE) (F) (xs (i3 + 1)) (xs (i3 + 2)) (hA) (hR) (hn) (hH) (hN) (hsv) hst (H).size) (vx_cwSW 4 hts gL_law_L_implies rfl rfl rfl (by decide +kernel) ⟨Nat.le_of_ble_eq_true rfl, Nat.le_of_ble_eq_true rfl⟩) (prl_S (hP.sub (ws' := (wKL cI cZ cJ ad ou N A fl an nd wt B Hd O R HL LB SO NG WO SA SE F)) [0, 1, 2, 3, 4, 5, 6, 7, 8, 9, 10, 11, 12, 13, 23] rfl) (hD.sub (ws' := (wKL cI cZ cJ ad ou N A fl an nd wt B Hd O R HL LB SO NG WO SA SE F)) [0, 1, 2, 3, 4, 5, 6, 7, 8, 9, 10, 11, 12, 13, 23] (by decide) rfl) hK hX hZ hY hS (va_free (wc := (wKL cI cZ cJ ad ou N A fl an nd wt B Hd O R HL LB SO NG WO SA SE F)) hD hS hAp [0, 1, 2, 3, 4, 5, 6, 7, 8, 9, 10, 11, 12, 13, 23] rfl)) rfl rfl hl.1 rfl (lv_room (Nat.le_of_ble_eq_true rfl)) dL_law_1712 ⟨hcc 2 (by decide), hss 12 (by decide)⟩) hP hD hS hAp [0, 1, 2, 3, 4, 5, 6, 7, 8, 9, 10, 11, 12, 13, 23] [14, 15, 16, 17, 18, 19, 20, 21, 22, 24] rfl rfl (by decide) (by decide) (fun r_1712 u_1712 H locs hq_1712 hP hD hS => ?_)
  obtain ⟨fl9_1712, HL9_1712, LB9_1712, SO9_1712, NG9_1712, WO9_1712, SA9_1712, SE9_1712, F9_1712⟩ := u_1712
  obtain ⟨hpo_1712, -⟩ := hq_1712
  have hpo_1712 : (r_1712 = 0 ∧ ∃ rr : Int32, rr = bI (!(ex (fun e => (soE B Hd O R nd A) e && (hs ((hdE B Hd O R nd A) e) (xs (i3 + 1)) && !(hs ((hdE B Hd O R nd A) e) (xs (i3 + 2))))) (2 ^ A))) ∧ (inR (xs (i3 + 1)) N = true ∧ inR (xs (i3 + 2)) N = true) ∧ (fl9_1712 = true → svOK B Hd O R nd A HL9_1712 LB9_1712 SO9_1712 NG9_1712 WO9_1712 SA9_1712 SE9_1712) ∧ F9_1712 0 = rr.toInt64) ∨ (r_1712 = 1 ∧ (inR (xs (i3 + 1)) N = false ∨ (inR (xs (i3 + 1)) N = true ∧ inR (xs (i3 + 2)) N = false)) ∧ (fl9_1712 = true → svOK B Hd O R nd A HL9_1712 LB9_1712 SO9_1712 NG9_1712 WO9_1712 SA9_1712 SE9_1712)) := hpo_1712
  have hP : va_P D vwCl (wZ cI cZ cJ cE ad md ou od N A fl9_1712 an nd wt B Hd O R HL9_1712 LB9_1712 SO9_1712 NG9_1712 WO9_1712 SA9_1712 SE9_1712 th N A R kw an nd wt B Hd O HM CO F9_1712 G) H := hP.sub [10, 11, 12, 13, 14, 15, 16, 17, 18, 19, 20, 21, 22, 23, 0, 1, 2, 3, 4, 5, 6, 7, 8, 24, 9] rfl
  have hD : va_D (apS s) (wZ cI cZ cJ cE ad md ou od N A fl9_1712 an nd wt B Hd O R HL9_1712 LB9_1712 SO9_1712 NG9_1712 WO9_1712 SA9_1712 SE9_1712 th N A R kw an nd wt B Hd O HM CO F9_1712 G) := hD.sub [10, 11, 12, 13, 14, 15, 16, 17, 18, 19, 20, 21, 22, 23, 0, 1, 2, 3, 4, 5, 6, 7, 8, 24, 9] (by decide) rfl
  refine W.widen (k := cs + 2) (n := sl + 12) (Nat.add_le_add_left (by decide) cs) (Nat.add_le_add_left (by decide) sl) ?_
  refine lv_istore (lv' := [(6, .int (r_1712)), (0, .ref (b)), (1, .ref (ad 0)), (2, .ref (md 0)), (3, .ref (ou)), (4, .ref (od)), (5, .int (nI (i3)))]) hx hb dL_law_1715 hl (by decide) rfl (fun ls hl => ?_)
  refine lv_aload_n hx hb dL_law_1717 rfl (lv_at hl 3 rfl) ?_
  refine lv_aload_n hx hb dL_law_1718 rfl (lv_at hl 1 rfl) ?_
  refine lv_iload hx hb dL_law_1719 (lv_at hl 6 rfl) ?_
  refine lv_iconst (v := 1) hx hb dL_law_1721 (by decide) ?_
  refine lv_iadd hx hb dL_law_1722 ?_
  rw [nI_1]
  refine sld_ (i := i3 + 1) hx hb hXs hbl hbA hS (by omega) hL dL_law_1723 ?_
  refine lv_aload_n hx hb dL_law_1724 rfl (lv_at hl 1 rfl) ?_
  refine lv_iload hx hb dL_law_1725 (lv_at hl 6 rfl) ?_
  refine lv_iconst (v := 2) hx hb dL_law_1727 (by decide) ?_
  refine lv_iadd hx hb dL_law_1728 ?_
  rw [show (2 : Int32) = nI 2 from rfl, nI_add]
  refine sld_ (i := i3 + 2) hx hb hXs hbl hbA hS (by omega) hL dL_law_1729 ?_
  refine mu_i (wr := [(ad 0, .inr (2, [.ref (ad 1), .ref (ad 2), .ref (ad 3), .ref (ad 4), .ref (ad 8), .int (nI (N)), .int (nI (A)), .int (bI (fl9_1712))])), (ad 1, .inl (cI, 24, .inl an)), (ad 2, .inl (cI, 9, .inl nd)), (ad 3, .inl (cI, 9, .inl wt)), (ad 4, .inr (0, [.ref (ad 5), .ref (ad 6), .ref (ad 7), .int (nI (R))])), (ad 5, .inl (cI, 40, .inl B)), (ad 6, .inl (cI, 40, .inl Hd)), (ad 7, .inl (cZ, 40, .inl (fun j => bI (O j)))), (ad 8, .inr (1, [.ref (ad 9), .ref (ad 10), .ref (ad 11), .ref (ad 12), .ref (ad 13), .int (nI (SA9_1712)), .int (nI (SE9_1712))])), (ad 9, .inl (cI, 512, .inl HL9_1712)), (ad 10, .inl (cI, 512, .inl LB9_1712)), (ad 11, .inl (cZ, 512, .inl (fun j => bI (SO9_1712 j)))), (ad 12, .inl (cZ, 512, .inl (fun j => bI (NG9_1712 j)))), (ad 13, .inl (cZ, 512, .inl (fun j => bI (WO9_1712 j)))), (ou, .inl (cJ, 1, .inr (.inl F9_1712))), (od, .inl (cE, 1, .inr (.inr (.inr (.inl G)))))]) (va_runV (As := [.int (xs (i3 + 1)), .int (xs (i3 + 2))]) (rest := []) ⟨hx, hb, hml, hown, hts⟩ (c_X3_implies l D cI cZ md (th) (N) (A) (R) (kw) (an) (nd) (wt) (B) (Hd) (O) (HM) (CO) (xs (i3 + 1)) (xs (i3 + 2)) (hA) (hR) (hn) (hH) (hN) (hkw) (H).size) (cwV 2 hts gL_law_X3_implies rfl rfl rfl (by decide +kernel) ⟨Nat.le_of_ble_eq_true rfl, Nat.le_of_ble_eq_true rfl⟩) (prw_V (q0 := 0) (ci := 3) (hP.sub (ws' := (wM cI cZ md th N A R kw an nd wt B Hd O HM CO)) [14, 15, 16, 17, 18, 19, 20, 21, 22] rfl) (hD.sub (ws' := (wM cI cZ md th N A R kw an nd wt B Hd O HM CO)) [14, 15, 16, 17, 18, 19, 20, 21, 22] (by decide) rfl) (hK.sub [0, 1] rfl) rfl rfl) rfl rfl hl.1 rfl (lv_room (Nat.le_of_ble_eq_true rfl)) dL_law_1730 ⟨hcc 2 (by decide), hss 12 (by decide)⟩) hP hD hS hAp [14, 15, 16, 17, 18, 19, 20, 21, 22] [0, 1, 2, 3, 4, 5, 6, 7, 8, 9, 10, 11, 12, 13, 23, 24] rfl rfl (by decide) (by decide) (fun r_1730 u_1730 H locs hq_1730 hP hD hS => ?_)
  obtain ⟨th9_1730, HL9_1730, CO9_1730, kw9_1730⟩ := u_1730
  obtain ⟨hthp_1730, hknp_1730, hval_1730, -⟩ := hq_1730
  have hthp_1730 : th9_1730 = tB (inR (xs (i3 + 1)) N && inR (xs (i3 + 2)) N) := hthp_1730
  have hknp_1730 : kw9_1730 = true → knOK B Hd O R nd A HL9_1730 CO9_1730 := hknp_1730
  have hval_1730 : inR (xs (i3 + 1)) N = true → inR (xs (i3 + 2)) N = true → r_1730 = bI (!(ex (fun e => (soE B Hd O R nd A) e && (hs ((hdE B Hd O R nd A) e) (xs (i3 + 1)) && !(hs ((hdE B Hd O R nd A) e) (xs (i3 + 2))))) (2 ^ A))) := hval_1730
  have hP : va_P D vwCl (wZ cI cZ cJ cE ad md ou od N A fl9_1712 an nd wt B Hd O R HL9_1712 LB9_1712 SO9_1712 NG9_1712 WO9_1712 SA9_1712 SE9_1712 th9_1730 N A R kw9_1730 an nd wt B Hd O HL9_1730 CO9_1730 F9_1712 G) H := hP.sub [0, 1, 2, 3, 4, 5, 6, 7, 8, 9, 10, 11, 12, 13, 16, 17, 18, 19, 20, 21, 22, 23, 24, 14, 15] rfl
  have hD : va_D (apS s) (wZ cI cZ cJ cE ad md ou od N A fl9_1712 an nd wt B Hd O R HL9_1712 LB9_1712 SO9_1712 NG9_1712 WO9_1712 SA9_1712 SE9_1712 th9_1730 N A R kw9_1730 an nd wt B Hd O HL9_1730 CO9_1730 F9_1712 G) := hD.sub [0, 1, 2, 3, 4, 5, 6, 7, 8, 9, 10, 11, 12, 13, 16, 17, 18, 19, 20, 21, 22, 23, 24, 14, 15] (by decide) rfl
  refine lv_istore (lv' := [(7, .int (r_1730)), (6, .int (r_1712)), (0, .ref (b)), (1, .ref (ad 0)), (2, .ref (md 0)), (3, .ref (ou)), (4, .ref (od)), (5, .int (nI (i3)))]) hx hb dL_law_1733 hl (by decide) rfl (fun ls hl => ?_)
  have hAG : ((th9_1730) = r_1712) ∧ ((r_1712 = 0 → (r_1730 = 0 → F9_1712 0 = 0) ∧ (¬ r_1730 = 0 → F9_1712 0 = 1))) ∧ (Inv N A fl9_1712 nd wt B Hd O R HL9_1712 LB9_1712 SO9_1712 NG9_1712 WO9_1712 SA9_1712 SE9_1712 kw9_1730 HL9_1730 CO9_1730) := by
    rcases hpo_1712 with ⟨ha, rr, h1, ⟨h2, h3⟩, h5, h4⟩ | ⟨ha, h2 | ⟨h2, h3⟩, h5⟩
    · exact ⟨by rw [hthp_1730, h2, h3, ha]; rfl, fun _ => zz_ h4 h1 (hval_1730 h2 h3), ⟨hn, hA, hR, hH, hN, hw, h5, hknp_1730⟩⟩
    · exact ⟨by rw [hthp_1730, h2, ha]; rfl, fun h0 => absurd (ha.symm.trans h0) (by decide), ⟨hn, hA, hR, hH, hN, hw, h5, hknp_1730⟩⟩
    · exact ⟨by rw [hthp_1730, h2, h3, ha]; rfl, fun h0 => absurd (ha.symm.trans h0) (by decide), ⟨hn, hA, hR, hH, hN, hw, h5, hknp_1730⟩⟩
  obtain ⟨hth, hvl, hI2⟩ := hAG
  refine lv_aload_n hx hb dL_law_1735 rfl (lv_at hl 4 rfl) ?_
  refine pu_i (va_runV (As := []) (rest := []) ⟨hx, hb, hml, hown, hts⟩ (c_X3_thrown l D cI cZ md (th9_1730) (N) (A) (R) (kw9_1730) (an) (nd) (wt) (B) (Hd) (O) (HL9_1730) (CO9_1730) ) (cwV 0 hts gL_law_X3_thrown rfl rfl rfl (by decide +kernel) ⟨Nat.le_of_ble_eq_true rfl, Nat.le_of_ble_eq_true rfl⟩) (pre_V (q0 := 0) (ci := 3) (hP.sub (ws' := (wM cI cZ md th9_1730 N A R kw9_1730 an nd wt B Hd O HL9_1730 CO9_1730)) [14, 15, 16, 17, 18, 19, 20, 21, 22] rfl) (hK.sub [0, 1] rfl) rfl rfl) rfl rfl hl.1 rfl (lv_room (Nat.le_of_ble_eq_true rfl)) dL_law_1736 ⟨hcc 2 (by decide), hss 12 (by decide)⟩) ?_
  refine lv_iload hx hb dL_law_1739 (lv_at hl 1 rfl) ?_
  refine lv_icmp_eq (tgt := 1746) hx hb dL_law_1741 (by decide) (fun c_1741 => ?_) (fun c_1741 => ?_)
  · skip
    refine lv_iload hx hb dL_law_1746 (lv_at hl 1 rfl) ?_
    refine lv_if_ne (tgt := 1770) hx hb dL_law_1748 (by decide) (fun c_1748 => ?_) (fun c_1748 => ?_)
    · skip
      refine lv_goto (tgt := 1862) hx hb dL_law_1770 (by decide) ?_
      exact hk (N) (A) (fl9_1712) (an) (nd) (wt) (B) (Hd) (O) (R) (HL9_1712) (LB9_1712) (SO9_1712) (NG9_1712) (WO9_1712) (SA9_1712) (SE9_1712) (th9_1730) (kw9_1730) (HL9_1730) (CO9_1730) (F9_1712) (G) _ _ hI2 hP hD hS ls (lv_sub hl [2, 3, 4, 5, 6, 7] rfl)
    · skip
      refine lv_aload_n hx hb dL_law_1751 rfl (lv_at hl 5 rfl) ?_
      refine lv_iconst (v := 0) hx hb dL_law_1752 (by decide) ?_
      refine ll_0 (D := D) (f := F9_1712) hx hb hK hP 23 2 rfl rfl dL_law_1753 ?_
      refine lv_iload hx hb dL_law_1754 (lv_at hl 0 rfl) ?_
      refine lv_if_eq (tgt := 1763) hx hb dL_law_1756 (by decide) (fun c_1756 => ?_) (fun c_1756 => ?_)
      · skip
        refine lv_lconst (v := 0) hx hb dL_law_1763 rfl ?_
        refine W.lcmp hx hb dL_law_1764 ?_
        refine lv_if_eq (tgt := 1770) hx hb dL_law_1765 (by decide) (fun c_1765 => ?_) (fun c_1765 => ?_)
        · skip
          refine lv_goto (tgt := 1862) hx hb dL_law_1770 (by decide) ?_
          exact hk (N) (A) (fl9_1712) (an) (nd) (wt) (B) (Hd) (O) (R) (HL9_1712) (LB9_1712) (SO9_1712) (NG9_1712) (WO9_1712) (SA9_1712) (SE9_1712) (th9_1730) (kw9_1730) (HL9_1730) (CO9_1730) (F9_1712) (G) _ _ hI2 hP hD hS ls (lv_sub hl [2, 3, 4, 5, 6, 7] rfl)
        · skip
          refine lv_iconst (v := 0) hx hb dL_law_1768 (by decide) ?_
          exfalso
          first | exact c_1765 hth | exact c_1765 ((lg_cmp_eq _ _).mpr (hvl c_1741)) | exact c_1765 ((lg_cmp_eq _ _).mpr ((hvl c_1741).1 c_1741)) | exact c_1765 ((lg_cmp_eq _ _).mpr ((hvl c_1741).2 c_1741)) | exact c_1765 ((lg_cmp_eq _ _).mpr ((hvl c_1741).1 c_1748)) | exact c_1765 ((lg_cmp_eq _ _).mpr ((hvl c_1741).2 c_1748)) | exact c_1765 ((lg_cmp_eq _ _).mpr ((hvl c_1741).1 c_1756)) | exact c_1765 ((lg_cmp_eq _ _).mpr ((hvl c_1741).2 c_1756)) | exact c_1765 ((lg_cmp_eq _ _).mpr ((hvl c_1741).1 c_1765)) | exact c_1765 ((lg_cmp_eq _ _).mpr ((hvl c_1741).2 c_1765)) | exact c_1765 ((lg_cmp_eq _ _).mpr (hvl c_1748)) | exact c_1765 ((lg_cmp_eq _ _).mpr ((hvl c_1748).1 c_1741)) | exact c_1765 ((lg_cmp_eq _ _).mpr ((hvl c_1748).2 c_1741)) | exact c_1765 ((lg_cmp_eq _ _).mpr ((hvl c_1748).1 c_1748)) | exact c_1765 ((lg_cmp_eq _ _).mpr ((hvl c_1748).2 c_1748)) | exact c_1765 ((lg_cmp_eq _ _).mpr ((hvl c_1748).1 c_1756)) | exact c_1765 ((lg_cmp_eq _ _).mpr ((hvl c_1748).2 c_1756)) | exact c_1765 ((lg_cmp_eq _ _).mpr ((hvl c_1748).1 c_1765)) | exact c_1765 ((lg_cmp_eq _ _).mpr ((hvl c_1748).2 c_1765)) | exact c_1765 ((lg_cmp_eq _ _).mpr (hvl c_1756)) | exact c_1765 ((lg_cmp_eq _ _).mpr ((hvl c_1756).1 c_1741)) | exact c_1765 ((lg_cmp_eq _ _).mpr ((hvl c_1756).2 c_1741)) | exact c_1765 ((lg_cmp_eq _ _).mpr ((hvl c_1756).1 c_1748)) | exact c_1765 ((lg_cmp_eq _ _).mpr ((hvl c_1756).2 c_1748)) | exact c_1765 ((lg_cmp_eq _ _).mpr ((hvl c_1756).1 c_1756)) | exact c_1765 ((lg_cmp_eq _ _).mpr ((hvl c_1756).2 c_1756)) | exact c_1765 ((lg_cmp_eq _ _).mpr ((hvl c_1756).1 c_1765)) | exact c_1765 ((lg_cmp_eq _ _).mpr ((hvl c_1756).2 c_1765)) | exact c_1765 ((lg_cmp_eq _ _).mpr (hvl c_1765)) | exact c_1765 ((lg_cmp_eq _ _).mpr ((hvl c_1765).1 c_1741)) | exact c_1765 ((lg_cmp_eq _ _).mpr ((hvl c_1765).2 c_1741)) | exact c_1765 ((lg_cmp_eq _ _).mpr ((hvl c_1765).1 c_1748)) | exact c_1765 ((lg_cmp_eq _ _).mpr ((hvl c_1765).2 c_1748)) | exact c_1765 ((lg_cmp_eq _ _).mpr ((hvl c_1765).1 c_1756)) | exact c_1765 ((lg_cmp_eq _ _).mpr ((hvl c_1765).2 c_1756)) | exact c_1765 ((lg_cmp_eq _ _).mpr ((hvl c_1765).1 c_1765)) | exact c_1765 ((lg_cmp_eq _ _).mpr ((hvl c_1765).2 c_1765))
      · skip
        refine lv_lconst (v := 1) hx hb dL_law_1759 rfl ?_
        refine lv_goto (tgt := 1764) hx hb dL_law_1760 (by decide) ?_
        refine W.lcmp hx hb dL_law_1764 ?_
        refine lv_if_eq (tgt := 1770) hx hb dL_law_1765 (by decide) (fun c_1765 => ?_) (fun c_1765 => ?_)
        · skip
          refine lv_goto (tgt := 1862) hx hb dL_law_1770 (by decide) ?_
          exact hk (N) (A) (fl9_1712) (an) (nd) (wt) (B) (Hd) (O) (R) (HL9_1712) (LB9_1712) (SO9_1712) (NG9_1712) (WO9_1712) (SA9_1712) (SE9_1712) (th9_1730) (kw9_1730) (HL9_1730) (CO9_1730) (F9_1712) (G) _ _ hI2 hP hD hS ls (lv_sub hl [2, 3, 4, 5, 6, 7] rfl)
        · skip
          refine lv_iconst (v := 0) hx hb dL_law_1768 (by decide) ?_
          exfalso
          first | exact c_1765 hth | exact c_1765 ((lg_cmp_eq _ _).mpr (hvl c_1741)) | exact c_1765 ((lg_cmp_eq _ _).mpr ((hvl c_1741).1 c_1741)) | exact c_1765 ((lg_cmp_eq _ _).mpr ((hvl c_1741).2 c_1741)) | exact c_1765 ((lg_cmp_eq _ _).mpr ((hvl c_1741).1 c_1748)) | exact c_1765 ((lg_cmp_eq _ _).mpr ((hvl c_1741).2 c_1748)) | exact c_1765 ((lg_cmp_eq _ _).mpr ((hvl c_1741).1 c_1756)) | exact c_1765 ((lg_cmp_eq _ _).mpr ((hvl c_1741).2 c_1756)) | exact c_1765 ((lg_cmp_eq _ _).mpr ((hvl c_1741).1 c_1765)) | exact c_1765 ((lg_cmp_eq _ _).mpr ((hvl c_1741).2 c_1765)) | exact c_1765 ((lg_cmp_eq _ _).mpr (hvl c_1748)) | exact c_1765 ((lg_cmp_eq _ _).mpr ((hvl c_1748).1 c_1741)) | exact c_1765 ((lg_cmp_eq _ _).mpr ((hvl c_1748).2 c_1741)) | exact c_1765 ((lg_cmp_eq _ _).mpr ((hvl c_1748).1 c_1748)) | exact c_1765 ((lg_cmp_eq _ _).mpr ((hvl c_1748).2 c_1748)) | exact c_1765 ((lg_cmp_eq _ _).mpr ((hvl c_1748).1 c_1756)) | exact c_1765 ((lg_cmp_eq _ _).mpr ((hvl c_1748).2 c_1756)) | exact c_1765 ((lg_cmp_eq _ _).mpr ((hvl c_1748).1 c_1765)) | exact c_1765 ((lg_cmp_eq _ _).mpr ((hvl c_1748).2 c_1765)) | exact c_1765 ((lg_cmp_eq _ _).mpr (hvl c_1756)) | exact c_1765 ((lg_cmp_eq _ _).mpr ((hvl c_1756).1 c_1741)) | exact c_1765 ((lg_cmp_eq _ _).mpr ((hvl c_1756).2 c_1741)) | exact c_1765 ((lg_cmp_eq _ _).mpr ((hvl c_1756).1 c_1748)) | exact c_1765 ((lg_cmp_eq _ _).mpr ((hvl c_1756).2 c_1748)) | exact c_1765 ((lg_cmp_eq _ _).mpr ((hvl c_1756).1 c_1756)) | exact c_1765 ((lg_cmp_eq _ _).mpr ((hvl c_1756).2 c_1756)) | exact c_1765 ((lg_cmp_eq _ _).mpr ((hvl c_1756).1 c_1765)) | exact c_1765 ((lg_cmp_eq _ _).mpr ((hvl c_1756).2 c_1765)) | exact c_1765 ((lg_cmp_eq _ _).mpr (hvl c_1765)) | exact c_1765 ((lg_cmp_eq _ _).mpr ((hvl c_1765).1 c_1741)) | exact c_1765 ((lg_cmp_eq _ _).mpr ((hvl c_1765).2 c_1741)) | exact c_1765 ((lg_cmp_eq _ _).mpr ((hvl c_1765).1 c_1748)) | exact c_1765 ((lg_cmp_eq _ _).mpr ((hvl c_1765).2 c_1748)) | exact c_1765 ((lg_cmp_eq _ _).mpr ((hvl c_1765).1 c_1756)) | exact c_1765 ((lg_cmp_eq _ _).mpr ((hvl c_1765).2 c_1756)) | exact c_1765 ((lg_cmp_eq _ _).mpr ((hvl c_1765).1 c_1765)) | exact c_1765 ((lg_cmp_eq _ _).mpr ((hvl c_1765).2 c_1765))
  · skip
    refine lv_iconst (v := 0) hx hb dL_law_1744 (by decide) ?_
    exfalso
    first | exact c_1741 hth | exact c_1741 ((lg_cmp_eq _ _).mpr (hvl c_1741)) | exact c_1741 ((lg_cmp_eq _ _).mpr ((hvl c_1741).1 c_1741)) | exact c_1741 ((lg_cmp_eq _ _).mpr ((hvl c_1741).2 c_1741))
set_option maxHeartbeats 4000000 in
set_option maxRecDepth 100000 in
theorem law_c29 {p : Program} {e : Env} {s : State} {m : MethodId} {below : List Frame} {meth : Method} {c : Code} (l : Launch) (hst : l.stackTraces = false) {b L : Nat} {xs : Nat → Int32} (hL : L ≤ 1536) (C0 : lw_At p s m meth c b L xs) (D : va_G) (cI cZ cJ cE : ClassId) (ad md : Nat → Nat) (ou od : Nat) (hK : kn D (tyL cI cZ cJ cE) s) (hX : xK s) (hZ : xZ (apS s) s s.heap) (hY : yN s) (cs sl i3 : Nat) (hcs : cs + 2 ≤ 1061) (hsl : sl + 12 ≤ 12206) (hi3 : i3 + 3 ≤ L) (hk : lwK p l e s m below meth c b D cI cZ cJ cE ad md ou od cs sl i3) (N A : Nat) (fl : Bool) (an nd wt B Hd : Nat → Int32) (O : Nat → Bool) (R : Nat) (HL LB : Nat → Int32) (SO NG WO : Nat → Bool) (SA SE : Nat) (th : Int32) (kw : Bool) (HM : Nat → Int32) (CO : Nat → Bool) (F : Nat → Int64) (G : Nat → UInt64) (hI : Inv N A fl nd wt B Hd O R HL LB SO NG WO SA SE kw HM CO) (H : Heap) (locs : List Loc) (hP : va_P D vwCl (wZ cI cZ cJ cE ad md ou od N A fl an nd wt B Hd O R HL LB SO NG WO SA SE th N A R kw an nd wt B Hd O HM CO F G) H) (hD : va_D (apS s) (wZ cI cZ cJ cE ad md ou od N A fl an nd wt B Hd O R HL LB SO NG WO SA SE th N A R kw an nd wt B Hd O HM CO F G)) (hS : va_S (apS s) s.heap H locs) (ls : Array Slot) (hl : lv_has ls 9 [(0, .ref b), (1, .ref (ad 0)), (2, .ref (md 0)), (3, .ref ou), (4, .ref od), (5, .int (nI i3))]) : W p l e room_1 s m #[Value.ref b] below meth c H locs cs sl (lw_Z below #[Value.ref b] s) (F0 m 1773 ls []) := by
  obtain ⟨hx, hb, hr, hml, hown, hts, hXs, hbl, hlocks, hgv⟩ := id C0
  have hts := fun w h => hts w (wsL_law_in w h)
  have hb : c.code = cL_law := hb
  have hbA : ¬ apS s b := Nat.not_le.mpr hbl
  have hAp : ∀ q : Nat, s.heap.size ≤ q → apS s q := fun _ h => h
  obtain ⟨hn, hA, hR, hH, hN, hw, hsv, hkw⟩ := hI
  have hcc : ∀ k, k ≤ 2 → cs + k ≤ room_1.cells := fun k hk => Nat.le_trans (Nat.add_le_add_left hk cs) hcs
  have hss : ∀ k, k ≤ 12 → sl + k ≤ room_1.slots := fun k hk => Nat.le_trans (Nat.add_le_add_left hk sl) hsl
  refine lv_aload_n hx hb dL_law_1773 rfl (lv_at hl 1 rfl) ?_
  refine lv_aload_n hx hb dL_law_1774 rfl (lv_at hl 0 rfl) ?_
  refine lv_iload hx hb dL_law_1775 (lv_at hl 5 rfl) ?_
  refine lv_iconst (v := 1) hx hb dL_law_1777 (by decide) ?_
  refine lv_iadd hx hb dL_law_1778 ?_
  rw [nI_1]
  refine sld_ (i := i3 + 1) hx hb hXs hbl hbA hS (by omega) hL dL_law_1779 ?_
  refine lv_aload_n hx hb dL_law_1780 rfl (lv_at hl 0 rfl) ?_
  refine lv_iload hx hb dL_law_1781 (lv_at hl 5 rfl) ?_
  refine lv_iconst (v := 2) hx hb dL_law_1783 (by decide) ?_
  refine lv_iadd hx hb dL_law_1784 ?_
  rw [show (2 : Int32) = nI 2 from rfl, nI_add]
  refine sld_ (i := i3 + 2) hx hb hXs hbl hbA hS (by omega) hL dL_law_1785 ?_
  refine lv_aload_n hx hb dL_law_1786 rfl (lv_at hl 3 rfl) ?_
  refine mu_i (wr := [(md 0, .inr (3, [.int (th), .int (nI (N)), .ref (md 1), .int (nI (A)), .ref (md 2), .ref (md 3), .int (nI (R)), .ref (md 4), .ref (md 5), .ref (md 6), .int (bI (kw)), .ref (md 7), .ref (md 8)])), (md 1, .inl (cI, 24, .inl an)), (md 2, .inl (cI, 9, .inl nd)), (md 3, .inl (cI, 9, .inl wt)), (md 4, .inl (cI, 40, .inl B)), (md 5, .inl (cI, 40, .inl Hd)), (md 6, .inl (cZ, 40, .inl (fun j => bI (O j)))), (md 7, .inl (cI, 512, .inl HM)), (md 8, .inl (cZ, 512, .inl (fun j => bI (CO j)))), (od, .inl (cE, 1, .inr (.inr (.inr (.inl G)))))]) (vx_runSW (As := [.ref (ad 0), .int (xs (i3 + 1)), .int (xs (i3 + 2)), .ref (ou)]) (rest := []) ⟨hx, hb, hml, hown, hts⟩ (c_L_excludes l D cI cZ cJ cE ad ou (N) (A) (fl) (an) (nd) (wt) (B) (Hd) (O) (R) (HL) (LB) (SO) (NG) (WO) (SA) (SE) (F) (xs (i3 + 1)) (xs (i3 + 2)) (hA) (hR) (hn) (hH) (hN) (hsv) hst (H).size) (vx_cwSW 4 hts gL_law_L_excludes rfl rfl rfl (by decide +kernel) ⟨Nat.le_of_ble_eq_true rfl, Nat.le_of_ble_eq_true rfl⟩) (prl_S (hP.sub (ws' := (wKL cI cZ cJ ad ou N A fl an nd wt B Hd O R HL LB SO NG WO SA SE F)) [0, 1, 2, 3, 4, 5, 6, 7, 8, 9, 10, 11, 12, 13, 23] rfl) (hD.sub (ws' := (wKL cI cZ cJ ad ou N A fl an nd wt B Hd O R HL LB SO NG WO SA SE F)) [0, 1, 2, 3, 4, 5, 6, 7, 8, 9, 10, 11, 12, 13, 23] (by decide) rfl) hK hX hZ hY hS (va_free (wc := (wKL cI cZ cJ ad ou N A fl an nd wt B Hd O R HL LB SO NG WO SA SE F)) hD hS hAp [0, 1, 2, 3, 4, 5, 6, 7, 8, 9, 10, 11, 12, 13, 23] rfl)) rfl rfl hl.1 rfl (lv_room (Nat.le_of_ble_eq_true rfl)) dL_law_1787 ⟨hcc 2 (by decide), hss 12 (by decide)⟩) hP hD hS hAp [0, 1, 2, 3, 4, 5, 6, 7, 8, 9, 10, 11, 12, 13, 23] [14, 15, 16, 17, 18, 19, 20, 21, 22, 24] rfl rfl (by decide) (by decide) (fun r_1787 u_1787 H locs hq_1787 hP hD hS => ?_)
  obtain ⟨fl9_1787, HL9_1787, LB9_1787, SO9_1787, NG9_1787, WO9_1787, SA9_1787, SE9_1787, F9_1787⟩ := u_1787
  obtain ⟨hpo_1787, -⟩ := hq_1787
  have hpo_1787 : (r_1787 = 0 ∧ ∃ rr : Int32, rr = bI (!(ex (fun e => (soE B Hd O R nd A) e && (hs ((hdE B Hd O R nd A) e) (xs (i3 + 1)) && hs ((hdE B Hd O R nd A) e) (xs (i3 + 2)))) (2 ^ A))) ∧ (inR (xs (i3 + 1)) N = true ∧ inR (xs (i3 + 2)) N = true) ∧ (fl9_1787 = true → svOK B Hd O R nd A HL9_1787 LB9_1787 SO9_1787 NG9_1787 WO9_1787 SA9_1787 SE9_1787) ∧ F9_1787 0 = rr.toInt64) ∨ (r_1787 = 1 ∧ (inR (xs (i3 + 1)) N = false ∨ (inR (xs (i3 + 1)) N = true ∧ inR (xs (i3 + 2)) N = false)) ∧ (fl9_1787 = true → svOK B Hd O R nd A HL9_1787 LB9_1787 SO9_1787 NG9_1787 WO9_1787 SA9_1787 SE9_1787)) := hpo_1787
  have hP : va_P D vwCl (wZ cI cZ cJ cE ad md ou od N A fl9_1787 an nd wt B Hd O R HL9_1787 LB9_1787 SO9_1787 NG9_1787 WO9_1787 SA9_1787 SE9_1787 th N A R kw an nd wt B Hd O HM CO F9_1787 G) H := hP.sub [10, 11, 12, 13, 14, 15, 16, 17, 18, 19, 20, 21, 22, 23, 0, 1, 2, 3, 4, 5, 6, 7, 8, 24, 9] rfl
  have hD : va_D (apS s) (wZ cI cZ cJ cE ad md ou od N A fl9_1787 an nd wt B Hd O R HL9_1787 LB9_1787 SO9_1787 NG9_1787 WO9_1787 SA9_1787 SE9_1787 th N A R kw an nd wt B Hd O HM CO F9_1787 G) := hD.sub [10, 11, 12, 13, 14, 15, 16, 17, 18, 19, 20, 21, 22, 23, 0, 1, 2, 3, 4, 5, 6, 7, 8, 24, 9] (by decide) rfl
  refine W.widen (k := cs + 2) (n := sl + 12) (Nat.add_le_add_left (by decide) cs) (Nat.add_le_add_left (by decide) sl) ?_
  refine lv_istore (lv' := [(6, .int (r_1787)), (0, .ref (b)), (1, .ref (ad 0)), (2, .ref (md 0)), (3, .ref (ou)), (4, .ref (od)), (5, .int (nI (i3)))]) hx hb dL_law_1790 hl (by decide) rfl (fun ls hl => ?_)
  refine lv_aload_n hx hb dL_law_1792 rfl (lv_at hl 3 rfl) ?_
  refine lv_aload_n hx hb dL_law_1793 rfl (lv_at hl 1 rfl) ?_
  refine lv_iload hx hb dL_law_1794 (lv_at hl 6 rfl) ?_
  refine lv_iconst (v := 1) hx hb dL_law_1796 (by decide) ?_
  refine lv_iadd hx hb dL_law_1797 ?_
  rw [nI_1]
  refine sld_ (i := i3 + 1) hx hb hXs hbl hbA hS (by omega) hL dL_law_1798 ?_
  refine lv_aload_n hx hb dL_law_1799 rfl (lv_at hl 1 rfl) ?_
  refine lv_iload hx hb dL_law_1800 (lv_at hl 6 rfl) ?_
  refine lv_iconst (v := 2) hx hb dL_law_1802 (by decide) ?_
  refine lv_iadd hx hb dL_law_1803 ?_
  rw [show (2 : Int32) = nI 2 from rfl, nI_add]
  refine sld_ (i := i3 + 2) hx hb hXs hbl hbA hS (by omega) hL dL_law_1804 ?_
  refine mu_i (wr := [(ad 0, .inr (2, [.ref (ad 1), .ref (ad 2), .ref (ad 3), .ref (ad 4), .ref (ad 8), .int (nI (N)), .int (nI (A)), .int (bI (fl9_1787))])), (ad 1, .inl (cI, 24, .inl an)), (ad 2, .inl (cI, 9, .inl nd)), (ad 3, .inl (cI, 9, .inl wt)), (ad 4, .inr (0, [.ref (ad 5), .ref (ad 6), .ref (ad 7), .int (nI (R))])), (ad 5, .inl (cI, 40, .inl B)), (ad 6, .inl (cI, 40, .inl Hd)), (ad 7, .inl (cZ, 40, .inl (fun j => bI (O j)))), (ad 8, .inr (1, [.ref (ad 9), .ref (ad 10), .ref (ad 11), .ref (ad 12), .ref (ad 13), .int (nI (SA9_1787)), .int (nI (SE9_1787))])), (ad 9, .inl (cI, 512, .inl HL9_1787)), (ad 10, .inl (cI, 512, .inl LB9_1787)), (ad 11, .inl (cZ, 512, .inl (fun j => bI (SO9_1787 j)))), (ad 12, .inl (cZ, 512, .inl (fun j => bI (NG9_1787 j)))), (ad 13, .inl (cZ, 512, .inl (fun j => bI (WO9_1787 j)))), (ou, .inl (cJ, 1, .inr (.inl F9_1787))), (od, .inl (cE, 1, .inr (.inr (.inr (.inl G)))))]) (va_runV (As := [.int (xs (i3 + 1)), .int (xs (i3 + 2))]) (rest := []) ⟨hx, hb, hml, hown, hts⟩ (c_X3_excludes l D cI cZ md (th) (N) (A) (R) (kw) (an) (nd) (wt) (B) (Hd) (O) (HM) (CO) (xs (i3 + 1)) (xs (i3 + 2)) (hA) (hR) (hn) (hH) (hN) (hkw) (H).size) (cwV 2 hts gL_law_X3_excludes rfl rfl rfl (by decide +kernel) ⟨Nat.le_of_ble_eq_true rfl, Nat.le_of_ble_eq_true rfl⟩) (prw_V (q0 := 0) (ci := 3) (hP.sub (ws' := (wM cI cZ md th N A R kw an nd wt B Hd O HM CO)) [14, 15, 16, 17, 18, 19, 20, 21, 22] rfl) (hD.sub (ws' := (wM cI cZ md th N A R kw an nd wt B Hd O HM CO)) [14, 15, 16, 17, 18, 19, 20, 21, 22] (by decide) rfl) (hK.sub [0, 1] rfl) rfl rfl) rfl rfl hl.1 rfl (lv_room (Nat.le_of_ble_eq_true rfl)) dL_law_1805 ⟨hcc 2 (by decide), hss 12 (by decide)⟩) hP hD hS hAp [14, 15, 16, 17, 18, 19, 20, 21, 22] [0, 1, 2, 3, 4, 5, 6, 7, 8, 9, 10, 11, 12, 13, 23, 24] rfl rfl (by decide) (by decide) (fun r_1805 u_1805 H locs hq_1805 hP hD hS => ?_)
  obtain ⟨th9_1805, HL9_1805, CO9_1805, kw9_1805⟩ := u_1805
  obtain ⟨hthp_1805, hknp_1805, hval_1805, -⟩ := hq_1805
  have hthp_1805 : th9_1805 = tB (inR (xs (i3 + 1)) N && inR (xs (i3 + 2)) N) := hthp_1805
  have hknp_1805 : kw9_1805 = true → knOK B Hd O R nd A HL9_1805 CO9_1805 := hknp_1805
  have hval_1805 : inR (xs (i3 + 1)) N = true → inR (xs (i3 + 2)) N = true → r_1805 = bI (!(ex (fun e => (soE B Hd O R nd A) e && (hs ((hdE B Hd O R nd A) e) (xs (i3 + 1)) && hs ((hdE B Hd O R nd A) e) (xs (i3 + 2)))) (2 ^ A))) := hval_1805
  have hP : va_P D vwCl (wZ cI cZ cJ cE ad md ou od N A fl9_1787 an nd wt B Hd O R HL9_1787 LB9_1787 SO9_1787 NG9_1787 WO9_1787 SA9_1787 SE9_1787 th9_1805 N A R kw9_1805 an nd wt B Hd O HL9_1805 CO9_1805 F9_1787 G) H := hP.sub [0, 1, 2, 3, 4, 5, 6, 7, 8, 9, 10, 11, 12, 13, 16, 17, 18, 19, 20, 21, 22, 23, 24, 14, 15] rfl
  have hD : va_D (apS s) (wZ cI cZ cJ cE ad md ou od N A fl9_1787 an nd wt B Hd O R HL9_1787 LB9_1787 SO9_1787 NG9_1787 WO9_1787 SA9_1787 SE9_1787 th9_1805 N A R kw9_1805 an nd wt B Hd O HL9_1805 CO9_1805 F9_1787 G) := hD.sub [0, 1, 2, 3, 4, 5, 6, 7, 8, 9, 10, 11, 12, 13, 16, 17, 18, 19, 20, 21, 22, 23, 24, 14, 15] (by decide) rfl
  refine lv_istore (lv' := [(7, .int (r_1805)), (6, .int (r_1787)), (0, .ref (b)), (1, .ref (ad 0)), (2, .ref (md 0)), (3, .ref (ou)), (4, .ref (od)), (5, .int (nI (i3)))]) hx hb dL_law_1808 hl (by decide) rfl (fun ls hl => ?_)
  have hAG : ((th9_1805) = r_1787) ∧ ((r_1787 = 0 → (r_1805 = 0 → F9_1787 0 = 0) ∧ (¬ r_1805 = 0 → F9_1787 0 = 1))) ∧ (Inv N A fl9_1787 nd wt B Hd O R HL9_1787 LB9_1787 SO9_1787 NG9_1787 WO9_1787 SA9_1787 SE9_1787 kw9_1805 HL9_1805 CO9_1805) := by
    rcases hpo_1787 with ⟨ha, rr, h1, ⟨h2, h3⟩, h5, h4⟩ | ⟨ha, h2 | ⟨h2, h3⟩, h5⟩
    · exact ⟨by rw [hthp_1805, h2, h3, ha]; rfl, fun _ => zz_ h4 h1 (hval_1805 h2 h3), ⟨hn, hA, hR, hH, hN, hw, h5, hknp_1805⟩⟩
    · exact ⟨by rw [hthp_1805, h2, ha]; rfl, fun h0 => absurd (ha.symm.trans h0) (by decide), ⟨hn, hA, hR, hH, hN, hw, h5, hknp_1805⟩⟩
    · exact ⟨by rw [hthp_1805, h2, h3, ha]; rfl, fun h0 => absurd (ha.symm.trans h0) (by decide), ⟨hn, hA, hR, hH, hN, hw, h5, hknp_1805⟩⟩
  obtain ⟨hth, hvl, hI2⟩ := hAG
  refine lv_aload_n hx hb dL_law_1810 rfl (lv_at hl 4 rfl) ?_
  refine pu_i (va_runV (As := []) (rest := []) ⟨hx, hb, hml, hown, hts⟩ (c_X3_thrown l D cI cZ md (th9_1805) (N) (A) (R) (kw9_1805) (an) (nd) (wt) (B) (Hd) (O) (HL9_1805) (CO9_1805) ) (cwV 0 hts gL_law_X3_thrown rfl rfl rfl (by decide +kernel) ⟨Nat.le_of_ble_eq_true rfl, Nat.le_of_ble_eq_true rfl⟩) (pre_V (q0 := 0) (ci := 3) (hP.sub (ws' := (wM cI cZ md th9_1805 N A R kw9_1805 an nd wt B Hd O HL9_1805 CO9_1805)) [14, 15, 16, 17, 18, 19, 20, 21, 22] rfl) (hK.sub [0, 1] rfl) rfl rfl) rfl rfl hl.1 rfl (lv_room (Nat.le_of_ble_eq_true rfl)) dL_law_1811 ⟨hcc 2 (by decide), hss 12 (by decide)⟩) ?_
  refine lv_iload hx hb dL_law_1814 (lv_at hl 1 rfl) ?_
  refine lv_icmp_eq (tgt := 1821) hx hb dL_law_1816 (by decide) (fun c_1816 => ?_) (fun c_1816 => ?_)
  · skip
    refine lv_iload hx hb dL_law_1821 (lv_at hl 1 rfl) ?_
    refine lv_if_ne (tgt := 1845) hx hb dL_law_1823 (by decide) (fun c_1823 => ?_) (fun c_1823 => ?_)
    · skip
      refine lv_goto (tgt := 1862) hx hb dL_law_1845 (by decide) ?_
      exact hk (N) (A) (fl9_1787) (an) (nd) (wt) (B) (Hd) (O) (R) (HL9_1787) (LB9_1787) (SO9_1787) (NG9_1787) (WO9_1787) (SA9_1787) (SE9_1787) (th9_1805) (kw9_1805) (HL9_1805) (CO9_1805) (F9_1787) (G) _ _ hI2 hP hD hS ls (lv_sub hl [2, 3, 4, 5, 6, 7] rfl)
    · skip
      refine lv_aload_n hx hb dL_law_1826 rfl (lv_at hl 5 rfl) ?_
      refine lv_iconst (v := 0) hx hb dL_law_1827 (by decide) ?_
      refine ll_0 (D := D) (f := F9_1787) hx hb hK hP 23 2 rfl rfl dL_law_1828 ?_
      refine lv_iload hx hb dL_law_1829 (lv_at hl 0 rfl) ?_
      refine lv_if_eq (tgt := 1838) hx hb dL_law_1831 (by decide) (fun c_1831 => ?_) (fun c_1831 => ?_)
      · skip
        refine lv_lconst (v := 0) hx hb dL_law_1838 rfl ?_
        refine W.lcmp hx hb dL_law_1839 ?_
        refine lv_if_eq (tgt := 1845) hx hb dL_law_1840 (by decide) (fun c_1840 => ?_) (fun c_1840 => ?_)
        · skip
          refine lv_goto (tgt := 1862) hx hb dL_law_1845 (by decide) ?_
          exact hk (N) (A) (fl9_1787) (an) (nd) (wt) (B) (Hd) (O) (R) (HL9_1787) (LB9_1787) (SO9_1787) (NG9_1787) (WO9_1787) (SA9_1787) (SE9_1787) (th9_1805) (kw9_1805) (HL9_1805) (CO9_1805) (F9_1787) (G) _ _ hI2 hP hD hS ls (lv_sub hl [2, 3, 4, 5, 6, 7] rfl)
        · skip
          refine lv_iconst (v := 0) hx hb dL_law_1843 (by decide) ?_
          exfalso
          first | exact c_1840 hth | exact c_1840 ((lg_cmp_eq _ _).mpr (hvl c_1816)) | exact c_1840 ((lg_cmp_eq _ _).mpr ((hvl c_1816).1 c_1816)) | exact c_1840 ((lg_cmp_eq _ _).mpr ((hvl c_1816).2 c_1816)) | exact c_1840 ((lg_cmp_eq _ _).mpr ((hvl c_1816).1 c_1823)) | exact c_1840 ((lg_cmp_eq _ _).mpr ((hvl c_1816).2 c_1823)) | exact c_1840 ((lg_cmp_eq _ _).mpr ((hvl c_1816).1 c_1831)) | exact c_1840 ((lg_cmp_eq _ _).mpr ((hvl c_1816).2 c_1831)) | exact c_1840 ((lg_cmp_eq _ _).mpr ((hvl c_1816).1 c_1840)) | exact c_1840 ((lg_cmp_eq _ _).mpr ((hvl c_1816).2 c_1840)) | exact c_1840 ((lg_cmp_eq _ _).mpr (hvl c_1823)) | exact c_1840 ((lg_cmp_eq _ _).mpr ((hvl c_1823).1 c_1816)) | exact c_1840 ((lg_cmp_eq _ _).mpr ((hvl c_1823).2 c_1816)) | exact c_1840 ((lg_cmp_eq _ _).mpr ((hvl c_1823).1 c_1823)) | exact c_1840 ((lg_cmp_eq _ _).mpr ((hvl c_1823).2 c_1823)) | exact c_1840 ((lg_cmp_eq _ _).mpr ((hvl c_1823).1 c_1831)) | exact c_1840 ((lg_cmp_eq _ _).mpr ((hvl c_1823).2 c_1831)) | exact c_1840 ((lg_cmp_eq _ _).mpr ((hvl c_1823).1 c_1840)) | exact c_1840 ((lg_cmp_eq _ _).mpr ((hvl c_1823).2 c_1840)) | exact c_1840 ((lg_cmp_eq _ _).mpr (hvl c_1831)) | exact c_1840 ((lg_cmp_eq _ _).mpr ((hvl c_1831).1 c_1816)) | exact c_1840 ((lg_cmp_eq _ _).mpr ((hvl c_1831).2 c_1816)) | exact c_1840 ((lg_cmp_eq _ _).mpr ((hvl c_1831).1 c_1823)) | exact c_1840 ((lg_cmp_eq _ _).mpr ((hvl c_1831).2 c_1823)) | exact c_1840 ((lg_cmp_eq _ _).mpr ((hvl c_1831).1 c_1831)) | exact c_1840 ((lg_cmp_eq _ _).mpr ((hvl c_1831).2 c_1831)) | exact c_1840 ((lg_cmp_eq _ _).mpr ((hvl c_1831).1 c_1840)) | exact c_1840 ((lg_cmp_eq _ _).mpr ((hvl c_1831).2 c_1840)) | exact c_1840 ((lg_cmp_eq _ _).mpr (hvl c_1840)) | exact c_1840 ((lg_cmp_eq _ _).mpr ((hvl c_1840).1 c_1816)) | exact c_1840 ((lg_cmp_eq _ _).mpr ((hvl c_1840).2 c_1816)) | exact c_1840 ((lg_cmp_eq _ _).mpr ((hvl c_1840).1 c_1823)) | exact c_1840 ((lg_cmp_eq _ _).mpr ((hvl c_1840).2 c_1823)) | exact c_1840 ((lg_cmp_eq _ _).mpr ((hvl c_1840).1 c_1831)) | exact c_1840 ((lg_cmp_eq _ _).mpr ((hvl c_1840).2 c_1831)) | exact c_1840 ((lg_cmp_eq _ _).mpr ((hvl c_1840).1 c_1840)) | exact c_1840 ((lg_cmp_eq _ _).mpr ((hvl c_1840).2 c_1840))
      · skip
        refine lv_lconst (v := 1) hx hb dL_law_1834 rfl ?_
        refine lv_goto (tgt := 1839) hx hb dL_law_1835 (by decide) ?_
        refine W.lcmp hx hb dL_law_1839 ?_
        refine lv_if_eq (tgt := 1845) hx hb dL_law_1840 (by decide) (fun c_1840 => ?_) (fun c_1840 => ?_)
        · skip
          refine lv_goto (tgt := 1862) hx hb dL_law_1845 (by decide) ?_
          exact hk (N) (A) (fl9_1787) (an) (nd) (wt) (B) (Hd) (O) (R) (HL9_1787) (LB9_1787) (SO9_1787) (NG9_1787) (WO9_1787) (SA9_1787) (SE9_1787) (th9_1805) (kw9_1805) (HL9_1805) (CO9_1805) (F9_1787) (G) _ _ hI2 hP hD hS ls (lv_sub hl [2, 3, 4, 5, 6, 7] rfl)
        · skip
          refine lv_iconst (v := 0) hx hb dL_law_1843 (by decide) ?_
          exfalso
          first | exact c_1840 hth | exact c_1840 ((lg_cmp_eq _ _).mpr (hvl c_1816)) | exact c_1840 ((lg_cmp_eq _ _).mpr ((hvl c_1816).1 c_1816)) | exact c_1840 ((lg_cmp_eq _ _).mpr ((hvl c_1816).2 c_1816)) | exact c_1840 ((lg_cmp_eq _ _).mpr ((hvl c_1816).1 c_1823)) | exact c_1840 ((lg_cmp_eq _ _).mpr ((hvl c_1816).2 c_1823)) | exact c_1840 ((lg_cmp_eq _ _).mpr ((hvl c_1816).1 c_1831)) | exact c_1840 ((lg_cmp_eq _ _).mpr ((hvl c_1816).2 c_1831)) | exact c_1840 ((lg_cmp_eq _ _).mpr ((hvl c_1816).1 c_1840)) | exact c_1840 ((lg_cmp_eq _ _).mpr ((hvl c_1816).2 c_1840)) | exact c_1840 ((lg_cmp_eq _ _).mpr (hvl c_1823)) | exact c_1840 ((lg_cmp_eq _ _).mpr ((hvl c_1823).1 c_1816)) | exact c_1840 ((lg_cmp_eq _ _).mpr ((hvl c_1823).2 c_1816)) | exact c_1840 ((lg_cmp_eq _ _).mpr ((hvl c_1823).1 c_1823)) | exact c_1840 ((lg_cmp_eq _ _).mpr ((hvl c_1823).2 c_1823)) | exact c_1840 ((lg_cmp_eq _ _).mpr ((hvl c_1823).1 c_1831)) | exact c_1840 ((lg_cmp_eq _ _).mpr ((hvl c_1823).2 c_1831)) | exact c_1840 ((lg_cmp_eq _ _).mpr ((hvl c_1823).1 c_1840)) | exact c_1840 ((lg_cmp_eq _ _).mpr ((hvl c_1823).2 c_1840)) | exact c_1840 ((lg_cmp_eq _ _).mpr (hvl c_1831)) | exact c_1840 ((lg_cmp_eq _ _).mpr ((hvl c_1831).1 c_1816)) | exact c_1840 ((lg_cmp_eq _ _).mpr ((hvl c_1831).2 c_1816)) | exact c_1840 ((lg_cmp_eq _ _).mpr ((hvl c_1831).1 c_1823)) | exact c_1840 ((lg_cmp_eq _ _).mpr ((hvl c_1831).2 c_1823)) | exact c_1840 ((lg_cmp_eq _ _).mpr ((hvl c_1831).1 c_1831)) | exact c_1840 ((lg_cmp_eq _ _).mpr ((hvl c_1831).2 c_1831)) | exact c_1840 ((lg_cmp_eq _ _).mpr ((hvl c_1831).1 c_1840)) | exact c_1840 ((lg_cmp_eq _ _).mpr ((hvl c_1831).2 c_1840)) | exact c_1840 ((lg_cmp_eq _ _).mpr (hvl c_1840)) | exact c_1840 ((lg_cmp_eq _ _).mpr ((hvl c_1840).1 c_1816)) | exact c_1840 ((lg_cmp_eq _ _).mpr ((hvl c_1840).2 c_1816)) | exact c_1840 ((lg_cmp_eq _ _).mpr ((hvl c_1840).1 c_1823)) | exact c_1840 ((lg_cmp_eq _ _).mpr ((hvl c_1840).2 c_1823)) | exact c_1840 ((lg_cmp_eq _ _).mpr ((hvl c_1840).1 c_1831)) | exact c_1840 ((lg_cmp_eq _ _).mpr ((hvl c_1840).2 c_1831)) | exact c_1840 ((lg_cmp_eq _ _).mpr ((hvl c_1840).1 c_1840)) | exact c_1840 ((lg_cmp_eq _ _).mpr ((hvl c_1840).2 c_1840))
  · skip
    refine lv_iconst (v := 0) hx hb dL_law_1819 (by decide) ?_
    exfalso
    first | exact c_1816 hth | exact c_1816 ((lg_cmp_eq _ _).mpr (hvl c_1816)) | exact c_1816 ((lg_cmp_eq _ _).mpr ((hvl c_1816).1 c_1816)) | exact c_1816 ((lg_cmp_eq _ _).mpr ((hvl c_1816).2 c_1816))
set_option maxHeartbeats 4000000 in
set_option maxRecDepth 100000 in
theorem law_c30 {p : Program} {e : Env} {s : State} {m : MethodId} {below : List Frame} {meth : Method} {c : Code} (l : Launch) (hst : l.stackTraces = false) {b L : Nat} {xs : Nat → Int32} (hL : L ≤ 1536) (C0 : lw_At p s m meth c b L xs) (D : va_G) (cI cZ cJ cE : ClassId) (ad md : Nat → Nat) (ou od : Nat) (hK : kn D (tyL cI cZ cJ cE) s) (hX : xK s) (hZ : xZ (apS s) s s.heap) (hY : yN s) (cs sl i3 : Nat) (hcs : cs + 2 ≤ 1061) (hsl : sl + 12 ≤ 12206) (hi3 : i3 + 3 ≤ L) (hk : lwK p l e s m below meth c b D cI cZ cJ cE ad md ou od cs sl i3) (N A : Nat) (fl : Bool) (an nd wt B Hd : Nat → Int32) (O : Nat → Bool) (R : Nat) (HL LB : Nat → Int32) (SO NG WO : Nat → Bool) (SA SE : Nat) (th : Int32) (kw : Bool) (HM : Nat → Int32) (CO : Nat → Bool) (F : Nat → Int64) (G : Nat → UInt64) (hI : Inv N A fl nd wt B Hd O R HL LB SO NG WO SA SE kw HM CO) (H : Heap) (locs : List Loc) (hP : va_P D vwCl (wZ cI cZ cJ cE ad md ou od N A fl an nd wt B Hd O R HL LB SO NG WO SA SE th N A R kw an nd wt B Hd O HM CO F G) H) (hD : va_D (apS s) (wZ cI cZ cJ cE ad md ou od N A fl an nd wt B Hd O R HL LB SO NG WO SA SE th N A R kw an nd wt B Hd O HM CO F G)) (hS : va_S (apS s) s.heap H locs) (ls : Array Slot) (hl : lv_has ls 9 [(0, .ref b), (1, .ref (ad 0)), (2, .ref (md 0)), (3, .ref ou), (4, .ref od), (5, .int (nI i3))]) : W p l e room_1 s m #[Value.ref b] below meth c H locs cs sl (lw_Z below #[Value.ref b] s) (F0 m 1848 ls []) := by
  obtain ⟨hx, hb, hr, hml, hown, hts, hXs, hbl, hlocks, hgv⟩ := id C0
  have hts := fun w h => hts w (wsL_law_in w h)
  have hb : c.code = cL_law := hb
  have hbA : ¬ apS s b := Nat.not_le.mpr hbl
  have hAp : ∀ q : Nat, s.heap.size ≤ q → apS s q := fun _ h => h
  obtain ⟨hn, hA, hR, hH, hN, hw, hsv, hkw⟩ := hI
  have hcc : ∀ k, k ≤ 2 → cs + k ≤ room_1.cells := fun k hk => Nat.le_trans (Nat.add_le_add_left hk cs) hcs
  have hss : ∀ k, k ≤ 12 → sl + k ≤ room_1.slots := fun k hk => Nat.le_trans (Nat.add_le_add_left hk sl) hsl
  refine lv_aload_n hx hb dL_law_1848 rfl (lv_at hl 1 rfl) ?_
  refine mu_l (wr := [(md 0, .inr (3, [.int (th), .int (nI (N)), .ref (md 1), .int (nI (A)), .ref (md 2), .ref (md 3), .int (nI (R)), .ref (md 4), .ref (md 5), .ref (md 6), .int (bI (kw)), .ref (md 7), .ref (md 8)])), (md 1, .inl (cI, 24, .inl an)), (md 2, .inl (cI, 9, .inl nd)), (md 3, .inl (cI, 9, .inl wt)), (md 4, .inl (cI, 40, .inl B)), (md 5, .inl (cI, 40, .inl Hd)), (md 6, .inl (cZ, 40, .inl (fun j => bI (O j)))), (md 7, .inl (cI, 512, .inl HM)), (md 8, .inl (cZ, 512, .inl (fun j => bI (CO j)))), (ou, .inl (cJ, 1, .inr (.inl F))), (od, .inl (cE, 1, .inr (.inr (.inr (.inl G)))))]) (va_runV (As := []) (rest := []) ⟨hx, hb, hml, hown, hts⟩ (c_X2_digest l D cI cZ ad (N) (A) (fl) (an) (nd) (wt) (B) (Hd) (O) (R) (HL) (LB) (SO) (NG) (WO) (SA) (SE) (hA) (hR) (hn) (hH) (hN) (hsv) (H).size) (cwV 0 hts gL_law_X2_digest rfl rfl rfl (by decide +kernel) ⟨Nat.le_of_ble_eq_true rfl, Nat.le_of_ble_eq_true rfl⟩) (prw_V (q0 := 0) (ci := 2) (hP.sub (ws' := (wK cI cZ ad N A fl an nd wt B Hd O R HL LB SO NG WO SA SE)) [0, 1, 2, 3, 4, 5, 6, 7, 8, 9, 10, 11, 12, 13] rfl) (hD.sub (ws' := (wK cI cZ ad N A fl an nd wt B Hd O R HL LB SO NG WO SA SE)) [0, 1, 2, 3, 4, 5, 6, 7, 8, 9, 10, 11, 12, 13] (by decide) rfl) (hK.sub [0, 1] rfl) rfl rfl) rfl rfl hl.1 rfl (lv_room (Nat.le_of_ble_eq_true rfl)) dL_law_1849 ⟨hcc 0 (by decide), hss 0 (by decide)⟩) hP hD hS hAp [0, 1, 2, 3, 4, 5, 6, 7, 8, 9, 10, 11, 12, 13] [14, 15, 16, 17, 18, 19, 20, 21, 22, 23, 24] rfl rfl (by decide) (by decide) (fun r_1849 u_1849 H locs hq_1849 hP hD hS => ?_)
  obtain ⟨fl9_1849, HL9_1849, LB9_1849, SO9_1849, NG9_1849, WO9_1849, SA9_1849, SE9_1849⟩ := u_1849
  obtain ⟨rfl, hsvp_1849, -⟩ := hq_1849
  have hsvp_1849 : fl9_1849 = true → svOK B Hd O R nd A HL9_1849 LB9_1849 SO9_1849 NG9_1849 WO9_1849 SA9_1849 SE9_1849 := hsvp_1849
  have hP : va_P D vwCl (wZ cI cZ cJ cE ad md ou od N A fl9_1849 an nd wt B Hd O R HL9_1849 LB9_1849 SO9_1849 NG9_1849 WO9_1849 SA9_1849 SE9_1849 th N A R kw an nd wt B Hd O HM CO F G) H := hP.sub [11, 12, 13, 14, 15, 16, 17, 18, 19, 20, 21, 22, 23, 24, 0, 1, 2, 3, 4, 5, 6, 7, 8, 9, 10] rfl
  have hD : va_D (apS s) (wZ cI cZ cJ cE ad md ou od N A fl9_1849 an nd wt B Hd O R HL9_1849 LB9_1849 SO9_1849 NG9_1849 WO9_1849 SA9_1849 SE9_1849 th N A R kw an nd wt B Hd O HM CO F G) := hD.sub [11, 12, 13, 14, 15, 16, 17, 18, 19, 20, 21, 22, 23, 24, 0, 1, 2, 3, 4, 5, 6, 7, 8, 9, 10] (by decide) rfl
  refine lv_aload_n hx hb dL_law_1852 rfl (lv_at hl 2 rfl) ?_
  refine mu_l (wr := [(ad 0, .inr (2, [.ref (ad 1), .ref (ad 2), .ref (ad 3), .ref (ad 4), .ref (ad 8), .int (nI (N)), .int (nI (A)), .int (bI (fl9_1849))])), (ad 1, .inl (cI, 24, .inl an)), (ad 2, .inl (cI, 9, .inl nd)), (ad 3, .inl (cI, 9, .inl wt)), (ad 4, .inr (0, [.ref (ad 5), .ref (ad 6), .ref (ad 7), .int (nI (R))])), (ad 5, .inl (cI, 40, .inl B)), (ad 6, .inl (cI, 40, .inl Hd)), (ad 7, .inl (cZ, 40, .inl (fun j => bI (O j)))), (ad 8, .inr (1, [.ref (ad 9), .ref (ad 10), .ref (ad 11), .ref (ad 12), .ref (ad 13), .int (nI (SA9_1849)), .int (nI (SE9_1849))])), (ad 9, .inl (cI, 512, .inl HL9_1849)), (ad 10, .inl (cI, 512, .inl LB9_1849)), (ad 11, .inl (cZ, 512, .inl (fun j => bI (SO9_1849 j)))), (ad 12, .inl (cZ, 512, .inl (fun j => bI (NG9_1849 j)))), (ad 13, .inl (cZ, 512, .inl (fun j => bI (WO9_1849 j)))), (ou, .inl (cJ, 1, .inr (.inl F))), (od, .inl (cE, 1, .inr (.inr (.inr (.inl G)))))]) (va_runV (As := []) (rest := [.long (dgE an wt B Hd O N A R (fun k e => lbM (hdE B Hd O R nd A) (soE B Hd O R nd A) (nI k) e) (fun e => ngM (soE B Hd O R nd A) e) (fun e => woM A (soE B Hd O R nd A) e))]) ⟨hx, hb, hml, hown, hts⟩ (c_X3_digest l D cI cZ md (th) (N) (A) (R) (kw) (an) (nd) (wt) (B) (Hd) (O) (HM) (CO) (hA) (hR) (hn) (hH) (hN) (hkw) (H).size) (cwV 0 hts gL_law_X3_digest rfl rfl rfl (by decide +kernel) ⟨Nat.le_of_ble_eq_true rfl, Nat.le_of_ble_eq_true rfl⟩) (prw_V (q0 := 0) (ci := 3) (hP.sub (ws' := (wM cI cZ md th N A R kw an nd wt B Hd O HM CO)) [14, 15, 16, 17, 18, 19, 20, 21, 22] rfl) (hD.sub (ws' := (wM cI cZ md th N A R kw an nd wt B Hd O HM CO)) [14, 15, 16, 17, 18, 19, 20, 21, 22] (by decide) rfl) (hK.sub [0, 1] rfl) rfl rfl) rfl rfl hl.1 rfl (lv_room (Nat.le_of_ble_eq_true rfl)) dL_law_1853 ⟨hcc 0 (by decide), hss 0 (by decide)⟩) hP hD hS hAp [14, 15, 16, 17, 18, 19, 20, 21, 22] [0, 1, 2, 3, 4, 5, 6, 7, 8, 9, 10, 11, 12, 13, 23, 24] rfl rfl (by decide) (by decide) (fun r_1853 u_1853 H locs hq_1853 hP hD hS => ?_)
  obtain ⟨HL9_1853, CO9_1853⟩ := u_1853
  obtain ⟨rfl, hkn_1853, -⟩ := hq_1853
  have hkn_1853 : knOK B Hd O R nd A HL9_1853 CO9_1853 := hkn_1853
  have hP : va_P D vwCl (wZ cI cZ cJ cE ad md ou od N A fl9_1849 an nd wt B Hd O R HL9_1849 LB9_1849 SO9_1849 NG9_1849 WO9_1849 SA9_1849 SE9_1849 0 N A R true an nd wt B Hd O HL9_1853 CO9_1853 F G) H := hP.sub [0, 1, 2, 3, 4, 5, 6, 7, 8, 9, 10, 11, 12, 13, 16, 17, 18, 19, 20, 21, 22, 23, 24, 14, 15] rfl
  have hD : va_D (apS s) (wZ cI cZ cJ cE ad md ou od N A fl9_1849 an nd wt B Hd O R HL9_1849 LB9_1849 SO9_1849 NG9_1849 WO9_1849 SA9_1849 SE9_1849 0 N A R true an nd wt B Hd O HL9_1853 CO9_1853 F G) := hD.sub [0, 1, 2, 3, 4, 5, 6, 7, 8, 9, 10, 11, 12, 13, 16, 17, 18, 19, 20, 21, 22, 23, 24, 14, 15] (by decide) rfl
  refine W.lcmp hx hb dL_law_1856 ?_
  refine lv_if_eq (tgt := 1862) hx hb dL_law_1857 (by decide) (fun c_1857 => ?_) (fun c_1857 => ?_)
  · skip
    refine W.widen (k := cs + 2) (n := sl + 12) (Nat.le_add_right _ _) (Nat.le_add_right _ _) ?_
    exact hk (N) (A) (fl9_1849) (an) (nd) (wt) (B) (Hd) (O) (R) (HL9_1849) (LB9_1849) (SO9_1849) (NG9_1849) (WO9_1849) (SA9_1849) (SE9_1849) (0) (true) (HL9_1853) (CO9_1853) (F) (G) _ _ ⟨hn, hA, hR, hH, hN, hw, hsvp_1849, fun _ => hkn_1853⟩ hP hD hS ls (lv_sub hl [0, 1, 2, 3, 4, 5] rfl)
  · skip
    refine lv_iconst (v := 0) hx hb dL_law_1860 (by decide) ?_
    exfalso
    first | exact c_1857 rfl | exact c_1857 ((lg_cmp_eq _ _).mpr rfl)
