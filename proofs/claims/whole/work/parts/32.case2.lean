set_option maxHeartbeats 4000000 in
set_option maxRecDepth 100000 in
theorem law_c10 {p : Program} {e : Env} {s : State} {m : MethodId} {below : List Frame} {meth : Method} {c : Code} (l : Launch) (hst : l.stackTraces = false) {b L : Nat} {xs : Nat → Int32} (hL : L ≤ 1536) (C0 : lw_At p s m meth c b L xs) (D : va_G) (cI cZ cJ cE : ClassId) (ad md : Nat → Nat) (ou od : Nat) (hK : kn D (tyL cI cZ cJ cE) s) (hX : xK s) (hZ : xZ (apS s) s s.heap) (hY : yN s) (cs sl i3 : Nat) (hcs : cs + 2 ≤ 1061) (hsl : sl + 12 ≤ 12206) (hi3 : i3 + 3 ≤ L) (hk : lwK p l e s m below meth c b D cI cZ cJ cE ad md ou od cs sl i3) (N A : Nat) (fl : Bool) (an nd wt B Hd : Nat → Int32) (O : Nat → Bool) (R : Nat) (HL LB : Nat → Int32) (SO NG WO : Nat → Bool) (SA SE : Nat) (th : Int32) (kw : Bool) (HM : Nat → Int32) (CO : Nat → Bool) (F : Nat → Int64) (G : Nat → UInt64) (hI : Inv N A fl nd wt B Hd O R HL LB SO NG WO SA SE kw HM CO) (H : Heap) (locs : List Loc) (hP : va_P D vwCl (wZ cI cZ cJ cE ad md ou od N A fl an nd wt B Hd O R HL LB SO NG WO SA SE th N A R kw an nd wt B Hd O HM CO F G) H) (hD : va_D (apS s) (wZ cI cZ cJ cE ad md ou od N A fl an nd wt B Hd O R HL LB SO NG WO SA SE th N A R kw an nd wt B Hd O HM CO F G)) (hS : va_S (apS s) s.heap H locs) (ls : Array Slot) (hl : lv_has ls 9 [(0, .ref b), (1, .ref (ad 0)), (2, .ref (md 0)), (3, .ref ou), (4, .ref od), (5, .int (nI i3))]) : W p l e room_1 s m #[Value.ref b] below meth c H locs cs sl (lw_Z below #[Value.ref b] s) (F0 m 693 ls []) := by
  obtain ⟨hx, hb, hr, hml, hown, hts, hXs, hbl, hlocks, hgv⟩ := id C0
  have hts := fun w h => hts w (wsL_law_in w h)
  have hb : c.code = cL_law := hb
  have hbA : ¬ apS s b := Nat.not_le.mpr hbl
  have hAp : ∀ q : Nat, s.heap.size ≤ q → apS s q := fun _ h => h
  obtain ⟨hn, hA, hR, hH, hN, hw, hsv, hkw⟩ := hI
  have hcc : ∀ k, k ≤ 2 → cs + k ≤ room_1.cells := fun k hk => Nat.le_trans (Nat.add_le_add_left hk cs) hcs
  have hss : ∀ k, k ≤ 12 → sl + k ≤ room_1.slots := fun k hk => Nat.le_trans (Nat.add_le_add_left hk sl) hsl
  refine lv_aload_n hx hb dL_law_693 rfl (lv_at hl 1 rfl) ?_
  refine lv_aload_n hx hb dL_law_694 rfl (lv_at hl 0 rfl) ?_
  refine lv_iload hx hb dL_law_695 (lv_at hl 5 rfl) ?_
  refine lv_iconst (v := 1) hx hb dL_law_697 (by decide) ?_
  refine lv_iadd hx hb dL_law_698 ?_
  rw [nI_1]
  refine sld_ (i := i3 + 1) hx hb hXs hbl hbA hS (by omega) hL dL_law_699 ?_
  refine lv_aload_n hx hb dL_law_700 rfl (lv_at hl 0 rfl) ?_
  refine lv_iload hx hb dL_law_701 (lv_at hl 5 rfl) ?_
  refine lv_iconst (v := 2) hx hb dL_law_703 (by decide) ?_
  refine lv_iadd hx hb dL_law_704 ?_
  rw [show (2 : Int32) = nI 2 from rfl, nI_add]
  refine sld_ (i := i3 + 2) hx hb hXs hbl hbA hS (by omega) hL dL_law_705 ?_
  refine lv_aload_n hx hb dL_law_706 rfl (lv_at hl 3 rfl) ?_
  refine mu_i (wr := [(md 0, .inr (3, [.int (th), .int (nI (N)), .ref (md 1), .int (nI (A)), .ref (md 2), .ref (md 3), .int (nI (R)), .ref (md 4), .ref (md 5), .ref (md 6), .int (bI (kw)), .ref (md 7), .ref (md 8)])), (md 1, .inl (cI, 24, .inl an)), (md 2, .inl (cI, 9, .inl nd)), (md 3, .inl (cI, 9, .inl wt)), (md 4, .inl (cI, 40, .inl B)), (md 5, .inl (cI, 40, .inl Hd)), (md 6, .inl (cZ, 40, .inl (fun j => bI (O j)))), (md 7, .inl (cI, 512, .inl HM)), (md 8, .inl (cZ, 512, .inl (fun j => bI (CO j)))), (od, .inl (cE, 1, .inr (.inr (.inr (.inl G)))))]) (vx_runSW (As := [.ref (ad 0), .int (xs (i3 + 1)), .int (xs (i3 + 2)), .ref (ou)]) (rest := []) ⟨hx, hb, hml, hown, hts⟩ (c_L_holds l D cI cZ cJ cE ad ou (N) (A) (fl) (an) (nd) (wt) (B) (Hd) (O) (R) (HL) (LB) (SO) (NG) (WO) (SA) (SE) (F) (xs (i3 + 1)) (xs (i3 + 2)) (hA) (hR) hst (H).size) (vx_cwSW 4 hts gL_law_L_holds rfl rfl rfl (by decide +kernel) ⟨Nat.le_of_ble_eq_true rfl, Nat.le_of_ble_eq_true rfl⟩) (prl_S (hP.sub (ws' := (wKL cI cZ cJ ad ou N A fl an nd wt B Hd O R HL LB SO NG WO SA SE F)) [0, 1, 2, 3, 4, 5, 6, 7, 8, 9, 10, 11, 12, 13, 23] rfl) (hD.sub (ws' := (wKL cI cZ cJ ad ou N A fl an nd wt B Hd O R HL LB SO NG WO SA SE F)) [0, 1, 2, 3, 4, 5, 6, 7, 8, 9, 10, 11, 12, 13, 23] (by decide) rfl) hK hX hZ hY hS (va_free (wc := (wKL cI cZ cJ ad ou N A fl an nd wt B Hd O R HL LB SO NG WO SA SE F)) hD hS hAp [0, 1, 2, 3, 4, 5, 6, 7, 8, 9, 10, 11, 12, 13, 23] rfl)) rfl rfl hl.1 rfl (lv_room (Nat.le_of_ble_eq_true rfl)) dL_law_707 ⟨hcc 2 (by decide), hss 12 (by decide)⟩) hP hD hS hAp [0, 1, 2, 3, 4, 5, 6, 7, 8, 9, 10, 11, 12, 13, 23] [14, 15, 16, 17, 18, 19, 20, 21, 22, 24] rfl rfl (by decide) (by decide) (fun r_707 u_707 H locs hq_707 hP hD hS => ?_)
  obtain ⟨F9_707, rfl⟩ : ∃ z, z = u_707 := ⟨_, rfl⟩
  obtain ⟨hpo_707, -⟩ := hq_707
  have hP : va_P D vwCl (wZ cI cZ cJ cE ad md ou od N A fl an nd wt B Hd O R HL LB SO NG WO SA SE th N A R kw an nd wt B Hd O HM CO F9_707 G) H := hP.sub [10, 11, 12, 13, 14, 15, 16, 17, 18, 19, 20, 21, 22, 23, 0, 1, 2, 3, 4, 5, 6, 7, 8, 24, 9] rfl
  have hD : va_D (apS s) (wZ cI cZ cJ cE ad md ou od N A fl an nd wt B Hd O R HL LB SO NG WO SA SE th N A R kw an nd wt B Hd O HM CO F9_707 G) := hD.sub [10, 11, 12, 13, 14, 15, 16, 17, 18, 19, 20, 21, 22, 23, 0, 1, 2, 3, 4, 5, 6, 7, 8, 24, 9] (by decide) rfl
  refine W.widen (k := cs + 2) (n := sl + 12) (Nat.add_le_add_left (by decide) cs) (Nat.add_le_add_left (by decide) sl) ?_
  refine lv_istore (lv' := [(6, .int (r_707)), (0, .ref (b)), (1, .ref (ad 0)), (2, .ref (md 0)), (3, .ref (ou)), (4, .ref (od)), (5, .int (nI (i3)))]) hx hb dL_law_710 hl (by decide) rfl (fun ls hl => ?_)
  refine lv_aload_n hx hb dL_law_712 rfl (lv_at hl 3 rfl) ?_
  refine lv_aload_n hx hb dL_law_713 rfl (lv_at hl 1 rfl) ?_
  refine lv_iload hx hb dL_law_714 (lv_at hl 6 rfl) ?_
  refine lv_iconst (v := 1) hx hb dL_law_716 (by decide) ?_
  refine lv_iadd hx hb dL_law_717 ?_
  rw [nI_1]
  refine sld_ (i := i3 + 1) hx hb hXs hbl hbA hS (by omega) hL dL_law_718 ?_
  refine lv_aload_n hx hb dL_law_719 rfl (lv_at hl 1 rfl) ?_
  refine lv_iload hx hb dL_law_720 (lv_at hl 6 rfl) ?_
  refine lv_iconst (v := 2) hx hb dL_law_722 (by decide) ?_
  refine lv_iadd hx hb dL_law_723 ?_
  rw [show (2 : Int32) = nI 2 from rfl, nI_add]
  refine sld_ (i := i3 + 2) hx hb hXs hbl hbA hS (by omega) hL dL_law_724 ?_
  refine mu_i (wr := [(ad 0, .inr (2, [.ref (ad 1), .ref (ad 2), .ref (ad 3), .ref (ad 4), .ref (ad 8), .int (nI (N)), .int (nI (A)), .int (bI (fl))])), (ad 1, .inl (cI, 24, .inl an)), (ad 2, .inl (cI, 9, .inl nd)), (ad 3, .inl (cI, 9, .inl wt)), (ad 4, .inr (0, [.ref (ad 5), .ref (ad 6), .ref (ad 7), .int (nI (R))])), (ad 5, .inl (cI, 40, .inl B)), (ad 6, .inl (cI, 40, .inl Hd)), (ad 7, .inl (cZ, 40, .inl (fun j => bI (O j)))), (ad 8, .inr (1, [.ref (ad 9), .ref (ad 10), .ref (ad 11), .ref (ad 12), .ref (ad 13), .int (nI (SA)), .int (nI (SE))])), (ad 9, .inl (cI, 512, .inl HL)), (ad 10, .inl (cI, 512, .inl LB)), (ad 11, .inl (cZ, 512, .inl (fun j => bI (SO j)))), (ad 12, .inl (cZ, 512, .inl (fun j => bI (NG j)))), (ad 13, .inl (cZ, 512, .inl (fun j => bI (WO j)))), (ou, .inl (cJ, 1, .inr (.inl F9_707))), (od, .inl (cE, 1, .inr (.inr (.inr (.inl G)))))]) (va_runV (As := [.int (xs (i3 + 1)), .int (xs (i3 + 2))]) (rest := []) ⟨hx, hb, hml, hown, hts⟩ (c_X3_holds l D cI cZ md (th) (N) (A) (R) (kw) (an) (nd) (wt) (B) (Hd) (O) (HM) (CO) (xs (i3 + 1)) (xs (i3 + 2)) (hA) (hR) (hn) (hH) (hN) (hkw) (H).size) (cwV 2 hts gL_law_X3_holds rfl rfl rfl (by decide +kernel) ⟨Nat.le_of_ble_eq_true rfl, Nat.le_of_ble_eq_true rfl⟩) (prw_V (q0 := 0) (ci := 3) (hP.sub (ws' := (wM cI cZ md th N A R kw an nd wt B Hd O HM CO)) [14, 15, 16, 17, 18, 19, 20, 21, 22] rfl) (hD.sub (ws' := (wM cI cZ md th N A R kw an nd wt B Hd O HM CO)) [14, 15, 16, 17, 18, 19, 20, 21, 22] (by decide) rfl) (hK.sub [0, 1] rfl) rfl rfl) rfl rfl hl.1 rfl (lv_room (Nat.le_of_ble_eq_true rfl)) dL_law_725 ⟨hcc 2 (by decide), hss 12 (by decide)⟩) hP hD hS hAp [14, 15, 16, 17, 18, 19, 20, 21, 22] [0, 1, 2, 3, 4, 5, 6, 7, 8, 9, 10, 11, 12, 13, 23, 24] rfl rfl (by decide) (by decide) (fun r_725 u_725 H locs hq_725 hP hD hS => ?_)
  obtain ⟨th9_725, HL9_725, CO9_725, kw9_725⟩ := u_725
  obtain ⟨hthp_725, hknp_725, hval_725, -⟩ := hq_725
  have hthp_725 : th9_725 = tNE (inR (xs (i3 + 1)) N) (inS (xs (i3 + 2)) A) := hthp_725
  have hknp_725 : kw9_725 = true → knOK B Hd O R nd A HL9_725 CO9_725 := hknp_725
  have hval_725 : inR (xs (i3 + 1)) N = true → inS (xs (i3 + 2)) A = true → r_725 = bI (hs (clo B Hd O R (bg nd (xs (i3 + 2)) A)) (xs (i3 + 1))) := hval_725
  have hP : va_P D vwCl (wZ cI cZ cJ cE ad md ou od N A fl an nd wt B Hd O R HL LB SO NG WO SA SE th9_725 N A R kw9_725 an nd wt B Hd O HL9_725 CO9_725 F9_707 G) H := hP.sub [0, 1, 2, 3, 4, 5, 6, 7, 8, 9, 10, 11, 12, 13, 16, 17, 18, 19, 20, 21, 22, 23, 24, 14, 15] rfl
  have hD : va_D (apS s) (wZ cI cZ cJ cE ad md ou od N A fl an nd wt B Hd O R HL LB SO NG WO SA SE th9_725 N A R kw9_725 an nd wt B Hd O HL9_725 CO9_725 F9_707 G) := hD.sub [0, 1, 2, 3, 4, 5, 6, 7, 8, 9, 10, 11, 12, 13, 16, 17, 18, 19, 20, 21, 22, 23, 24, 14, 15] (by decide) rfl
  refine lv_istore (lv' := [(7, .int (r_725)), (6, .int (r_707)), (0, .ref (b)), (1, .ref (ad 0)), (2, .ref (md 0)), (3, .ref (ou)), (4, .ref (od)), (5, .int (nI (i3)))]) hx hb dL_law_728 hl (by decide) rfl (fun ls hl => ?_)
  have hAG : ((th9_725) = r_707) ∧ ((r_707 = 0 → (r_725 = 0 → F9_707 0 = 0) ∧ (¬ r_725 = 0 → F9_707 0 = 1))) ∧ (Inv N A fl nd wt B Hd O R HL LB SO NG WO SA SE kw9_725 HL9_725 CO9_725) := by
    rcases hpo_707 with ⟨ha, rr, h1, ⟨h2, h3⟩, h4⟩ | ⟨ha, h2⟩ | ⟨ha, h2, h3⟩
    · exact ⟨by rw [hthp_725, h2, h3, ha]; rfl, fun _ => zz_ h4 h1 (hval_725 h2 h3), ⟨hn, hA, hR, hH, hN, hw, hsv, hknp_725⟩⟩
    · exact ⟨by rw [hthp_725, h2, ha]; rfl, fun h0 => absurd (ha.symm.trans h0) (by decide), ⟨hn, hA, hR, hH, hN, hw, hsv, hknp_725⟩⟩
    · exact ⟨by rw [hthp_725, h2, h3, ha]; rfl, fun h0 => absurd (ha.symm.trans h0) (by decide), ⟨hn, hA, hR, hH, hN, hw, hsv, hknp_725⟩⟩
  obtain ⟨hth, hvl, hI2⟩ := hAG
  refine lv_aload_n hx hb dL_law_730 rfl (lv_at hl 4 rfl) ?_
  refine pu_i (va_runV (As := []) (rest := []) ⟨hx, hb, hml, hown, hts⟩ (c_X3_thrown l D cI cZ md (th9_725) (N) (A) (R) (kw9_725) (an) (nd) (wt) (B) (Hd) (O) (HL9_725) (CO9_725) ) (cwV 0 hts gL_law_X3_thrown rfl rfl rfl (by decide +kernel) ⟨Nat.le_of_ble_eq_true rfl, Nat.le_of_ble_eq_true rfl⟩) (pre_V (q0 := 0) (ci := 3) (hP.sub (ws' := (wM cI cZ md th9_725 N A R kw9_725 an nd wt B Hd O HL9_725 CO9_725)) [14, 15, 16, 17, 18, 19, 20, 21, 22] rfl) (hK.sub [0, 1] rfl) rfl rfl) rfl rfl hl.1 rfl (lv_room (Nat.le_of_ble_eq_true rfl)) dL_law_731 ⟨hcc 2 (by decide), hss 12 (by decide)⟩) ?_
  refine lv_iload hx hb dL_law_734 (lv_at hl 1 rfl) ?_
  refine lv_icmp_eq (tgt := 741) hx hb dL_law_736 (by decide) (fun c_736 => ?_) (fun c_736 => ?_)
  · skip
    refine lv_iload hx hb dL_law_741 (lv_at hl 1 rfl) ?_
    refine lv_if_ne (tgt := 765) hx hb dL_law_743 (by decide) (fun c_743 => ?_) (fun c_743 => ?_)
    · skip
      refine lv_goto (tgt := 1862) hx hb dL_law_765 (by decide) ?_
      exact hk (N) (A) (fl) (an) (nd) (wt) (B) (Hd) (O) (R) (HL) (LB) (SO) (NG) (WO) (SA) (SE) (th9_725) (kw9_725) (HL9_725) (CO9_725) (F9_707) (G) _ _ hI2 hP hD hS ls (lv_sub hl [2, 3, 4, 5, 6, 7] rfl)
    · skip
      refine lv_aload_n hx hb dL_law_746 rfl (lv_at hl 5 rfl) ?_
      refine lv_iconst (v := 0) hx hb dL_law_747 (by decide) ?_
      refine ll_0 (D := D) (f := F9_707) hx hb hK hP 23 2 rfl rfl dL_law_748 ?_
      refine lv_iload hx hb dL_law_749 (lv_at hl 0 rfl) ?_
      refine lv_if_eq (tgt := 758) hx hb dL_law_751 (by decide) (fun c_751 => ?_) (fun c_751 => ?_)
      · skip
        refine lv_lconst (v := 0) hx hb dL_law_758 rfl ?_
        refine W.lcmp hx hb dL_law_759 ?_
        refine lv_if_eq (tgt := 765) hx hb dL_law_760 (by decide) (fun c_760 => ?_) (fun c_760 => ?_)
        · skip
          refine lv_goto (tgt := 1862) hx hb dL_law_765 (by decide) ?_
          exact hk (N) (A) (fl) (an) (nd) (wt) (B) (Hd) (O) (R) (HL) (LB) (SO) (NG) (WO) (SA) (SE) (th9_725) (kw9_725) (HL9_725) (CO9_725) (F9_707) (G) _ _ hI2 hP hD hS ls (lv_sub hl [2, 3, 4, 5, 6, 7] rfl)
        · skip
          refine lv_iconst (v := 0) hx hb dL_law_763 (by decide) ?_
          exfalso
          first | exact c_760 hth | exact c_760 ((lg_cmp_eq _ _).mpr (hvl c_736)) | exact c_760 ((lg_cmp_eq _ _).mpr ((hvl c_736).1 c_736)) | exact c_760 ((lg_cmp_eq _ _).mpr ((hvl c_736).2 c_736)) | exact c_760 ((lg_cmp_eq _ _).mpr ((hvl c_736).1 c_743)) | exact c_760 ((lg_cmp_eq _ _).mpr ((hvl c_736).2 c_743)) | exact c_760 ((lg_cmp_eq _ _).mpr ((hvl c_736).1 c_751)) | exact c_760 ((lg_cmp_eq _ _).mpr ((hvl c_736).2 c_751)) | exact c_760 ((lg_cmp_eq _ _).mpr ((hvl c_736).1 c_760)) | exact c_760 ((lg_cmp_eq _ _).mpr ((hvl c_736).2 c_760)) | exact c_760 ((lg_cmp_eq _ _).mpr (hvl c_743)) | exact c_760 ((lg_cmp_eq _ _).mpr ((hvl c_743).1 c_736)) | exact c_760 ((lg_cmp_eq _ _).mpr ((hvl c_743).2 c_736)) | exact c_760 ((lg_cmp_eq _ _).mpr ((hvl c_743).1 c_743)) | exact c_760 ((lg_cmp_eq _ _).mpr ((hvl c_743).2 c_743)) | exact c_760 ((lg_cmp_eq _ _).mpr ((hvl c_743).1 c_751)) | exact c_760 ((lg_cmp_eq _ _).mpr ((hvl c_743).2 c_751)) | exact c_760 ((lg_cmp_eq _ _).mpr ((hvl c_743).1 c_760)) | exact c_760 ((lg_cmp_eq _ _).mpr ((hvl c_743).2 c_760)) | exact c_760 ((lg_cmp_eq _ _).mpr (hvl c_751)) | exact c_760 ((lg_cmp_eq _ _).mpr ((hvl c_751).1 c_736)) | exact c_760 ((lg_cmp_eq _ _).mpr ((hvl c_751).2 c_736)) | exact c_760 ((lg_cmp_eq _ _).mpr ((hvl c_751).1 c_743)) | exact c_760 ((lg_cmp_eq _ _).mpr ((hvl c_751).2 c_743)) | exact c_760 ((lg_cmp_eq _ _).mpr ((hvl c_751).1 c_751)) | exact c_760 ((lg_cmp_eq _ _).mpr ((hvl c_751).2 c_751)) | exact c_760 ((lg_cmp_eq _ _).mpr ((hvl c_751).1 c_760)) | exact c_760 ((lg_cmp_eq _ _).mpr ((hvl c_751).2 c_760)) | exact c_760 ((lg_cmp_eq _ _).mpr (hvl c_760)) | exact c_760 ((lg_cmp_eq _ _).mpr ((hvl c_760).1 c_736)) | exact c_760 ((lg_cmp_eq _ _).mpr ((hvl c_760).2 c_736)) | exact c_760 ((lg_cmp_eq _ _).mpr ((hvl c_760).1 c_743)) | exact c_760 ((lg_cmp_eq _ _).mpr ((hvl c_760).2 c_743)) | exact c_760 ((lg_cmp_eq _ _).mpr ((hvl c_760).1 c_751)) | exact c_760 ((lg_cmp_eq _ _).mpr ((hvl c_760).2 c_751)) | exact c_760 ((lg_cmp_eq _ _).mpr ((hvl c_760).1 c_760)) | exact c_760 ((lg_cmp_eq _ _).mpr ((hvl c_760).2 c_760))
      · skip
        refine lv_lconst (v := 1) hx hb dL_law_754 rfl ?_
        refine lv_goto (tgt := 759) hx hb dL_law_755 (by decide) ?_
        refine W.lcmp hx hb dL_law_759 ?_
        refine lv_if_eq (tgt := 765) hx hb dL_law_760 (by decide) (fun c_760 => ?_) (fun c_760 => ?_)
        · skip
          refine lv_goto (tgt := 1862) hx hb dL_law_765 (by decide) ?_
          exact hk (N) (A) (fl) (an) (nd) (wt) (B) (Hd) (O) (R) (HL) (LB) (SO) (NG) (WO) (SA) (SE) (th9_725) (kw9_725) (HL9_725) (CO9_725) (F9_707) (G) _ _ hI2 hP hD hS ls (lv_sub hl [2, 3, 4, 5, 6, 7] rfl)
        · skip
          refine lv_iconst (v := 0) hx hb dL_law_763 (by decide) ?_
          exfalso
          first | exact c_760 hth | exact c_760 ((lg_cmp_eq _ _).mpr (hvl c_736)) | exact c_760 ((lg_cmp_eq _ _).mpr ((hvl c_736).1 c_736)) | exact c_760 ((lg_cmp_eq _ _).mpr ((hvl c_736).2 c_736)) | exact c_760 ((lg_cmp_eq _ _).mpr ((hvl c_736).1 c_743)) | exact c_760 ((lg_cmp_eq _ _).mpr ((hvl c_736).2 c_743)) | exact c_760 ((lg_cmp_eq _ _).mpr ((hvl c_736).1 c_751)) | exact c_760 ((lg_cmp_eq _ _).mpr ((hvl c_736).2 c_751)) | exact c_760 ((lg_cmp_eq _ _).mpr ((hvl c_736).1 c_760)) | exact c_760 ((lg_cmp_eq _ _).mpr ((hvl c_736).2 c_760)) | exact c_760 ((lg_cmp_eq _ _).mpr (hvl c_743)) | exact c_760 ((lg_cmp_eq _ _).mpr ((hvl c_743).1 c_736)) | exact c_760 ((lg_cmp_eq _ _).mpr ((hvl c_743).2 c_736)) | exact c_760 ((lg_cmp_eq _ _).mpr ((hvl c_743).1 c_743)) | exact c_760 ((lg_cmp_eq _ _).mpr ((hvl c_743).2 c_743)) | exact c_760 ((lg_cmp_eq _ _).mpr ((hvl c_743).1 c_751)) | exact c_760 ((lg_cmp_eq _ _).mpr ((hvl c_743).2 c_751)) | exact c_760 ((lg_cmp_eq _ _).mpr ((hvl c_743).1 c_760)) | exact c_760 ((lg_cmp_eq _ _).mpr ((hvl c_743).2 c_760)) | exact c_760 ((lg_cmp_eq _ _).mpr (hvl c_751)) | exact c_760 ((lg_cmp_eq _ _).mpr ((hvl c_751).1 c_736)) | exact c_760 ((lg_cmp_eq _ _).mpr ((hvl c_751).2 c_736)) | exact c_760 ((lg_cmp_eq _ _).mpr ((hvl c_751).1 c_743)) | exact c_760 ((lg_cmp_eq _ _).mpr ((hvl c_751).2 c_743)) | exact c_760 ((lg_cmp_eq _ _).mpr ((hvl c_751).1 c_751)) | exact c_760 ((lg_cmp_eq _ _).mpr ((hvl c_751).2 c_751)) | exact c_760 ((lg_cmp_eq _ _).mpr ((hvl c_751).1 c_760)) | exact c_760 ((lg_cmp_eq _ _).mpr ((hvl c_751).2 c_760)) | exact c_760 ((lg_cmp_eq _ _).mpr (hvl c_760)) | exact c_760 ((lg_cmp_eq _ _).mpr ((hvl c_760).1 c_736)) | exact c_760 ((lg_cmp_eq _ _).mpr ((hvl c_760).2 c_736)) | exact c_760 ((lg_cmp_eq _ _).mpr ((hvl c_760).1 c_743)) | exact c_760 ((lg_cmp_eq _ _).mpr ((hvl c_760).2 c_743)) | exact c_760 ((lg_cmp_eq _ _).mpr ((hvl c_760).1 c_751)) | exact c_760 ((lg_cmp_eq _ _).mpr ((hvl c_760).2 c_751)) | exact c_760 ((lg_cmp_eq _ _).mpr ((hvl c_760).1 c_760)) | exact c_760 ((lg_cmp_eq _ _).mpr ((hvl c_760).2 c_760))
  · skip
    refine lv_iconst (v := 0) hx hb dL_law_739 (by decide) ?_
    exfalso
    first | exact c_736 hth | exact c_736 ((lg_cmp_eq _ _).mpr (hvl c_736)) | exact c_736 ((lg_cmp_eq _ _).mpr ((hvl c_736).1 c_736)) | exact c_736 ((lg_cmp_eq _ _).mpr ((hvl c_736).2 c_736))
set_option maxHeartbeats 4000000 in
set_option maxRecDepth 100000 in
theorem law_c11 {p : Program} {e : Env} {s : State} {m : MethodId} {below : List Frame} {meth : Method} {c : Code} (l : Launch) (hst : l.stackTraces = false) {b L : Nat} {xs : Nat → Int32} (hL : L ≤ 1536) (C0 : lw_At p s m meth c b L xs) (D : va_G) (cI cZ cJ cE : ClassId) (ad md : Nat → Nat) (ou od : Nat) (hK : kn D (tyL cI cZ cJ cE) s) (hX : xK s) (hZ : xZ (apS s) s s.heap) (hY : yN s) (cs sl i3 : Nat) (hcs : cs + 2 ≤ 1061) (hsl : sl + 12 ≤ 12206) (hi3 : i3 + 3 ≤ L) (hk : lwK p l e s m below meth c b D cI cZ cJ cE ad md ou od cs sl i3) (N A : Nat) (fl : Bool) (an nd wt B Hd : Nat → Int32) (O : Nat → Bool) (R : Nat) (HL LB : Nat → Int32) (SO NG WO : Nat → Bool) (SA SE : Nat) (th : Int32) (kw : Bool) (HM : Nat → Int32) (CO : Nat → Bool) (F : Nat → Int64) (G : Nat → UInt64) (hI : Inv N A fl nd wt B Hd O R HL LB SO NG WO SA SE kw HM CO) (H : Heap) (locs : List Loc) (hP : va_P D vwCl (wZ cI cZ cJ cE ad md ou od N A fl an nd wt B Hd O R HL LB SO NG WO SA SE th N A R kw an nd wt B Hd O HM CO F G) H) (hD : va_D (apS s) (wZ cI cZ cJ cE ad md ou od N A fl an nd wt B Hd O R HL LB SO NG WO SA SE th N A R kw an nd wt B Hd O HM CO F G)) (hS : va_S (apS s) s.heap H locs) (ls : Array Slot) (hl : lv_has ls 9 [(0, .ref b), (1, .ref (ad 0)), (2, .ref (md 0)), (3, .ref ou), (4, .ref od), (5, .int (nI i3))]) : W p l e room_1 s m #[Value.ref b] below meth c H locs cs sl (lw_Z below #[Value.ref b] s) (F0 m 768 ls []) := by
  obtain ⟨hx, hb, hr, hml, hown, hts, hXs, hbl, hlocks, hgv⟩ := id C0
  have hts := fun w h => hts w (wsL_law_in w h)
  have hb : c.code = cL_law := hb
  have hbA : ¬ apS s b := Nat.not_le.mpr hbl
  have hAp : ∀ q : Nat, s.heap.size ≤ q → apS s q := fun _ h => h
  obtain ⟨hn, hA, hR, hH, hN, hw, hsv, hkw⟩ := hI
  have hcc : ∀ k, k ≤ 2 → cs + k ≤ room_1.cells := fun k hk => Nat.le_trans (Nat.add_le_add_left hk cs) hcs
  have hss : ∀ k, k ≤ 12 → sl + k ≤ room_1.slots := fun k hk => Nat.le_trans (Nat.add_le_add_left hk sl) hsl
  refine lv_aload_n hx hb dL_law_768 rfl (lv_at hl 1 rfl) ?_
  refine lv_aload_n hx hb dL_law_769 rfl (lv_at hl 0 rfl) ?_
  refine lv_iload hx hb dL_law_770 (lv_at hl 5 rfl) ?_
  refine lv_iconst (v := 1) hx hb dL_law_772 (by decide) ?_
  refine lv_iadd hx hb dL_law_773 ?_
  rw [nI_1]
  refine sld_ (i := i3 + 1) hx hb hXs hbl hbA hS (by omega) hL dL_law_774 ?_
  refine lv_aload_n hx hb dL_law_775 rfl (lv_at hl 0 rfl) ?_
  refine lv_iload hx hb dL_law_776 (lv_at hl 5 rfl) ?_
  refine lv_iconst (v := 2) hx hb dL_law_778 (by decide) ?_
  refine lv_iadd hx hb dL_law_779 ?_
  rw [show (2 : Int32) = nI 2 from rfl, nI_add]
  refine sld_ (i := i3 + 2) hx hb hXs hbl hbA hS (by omega) hL dL_law_780 ?_
  refine lv_aload_n hx hb dL_law_781 rfl (lv_at hl 3 rfl) ?_
  refine mu_i (wr := [(md 0, .inr (3, [.int (th), .int (nI (N)), .ref (md 1), .int (nI (A)), .ref (md 2), .ref (md 3), .int (nI (R)), .ref (md 4), .ref (md 5), .ref (md 6), .int (bI (kw)), .ref (md 7), .ref (md 8)])), (md 1, .inl (cI, 24, .inl an)), (md 2, .inl (cI, 9, .inl nd)), (md 3, .inl (cI, 9, .inl wt)), (md 4, .inl (cI, 40, .inl B)), (md 5, .inl (cI, 40, .inl Hd)), (md 6, .inl (cZ, 40, .inl (fun j => bI (O j)))), (md 7, .inl (cI, 512, .inl HM)), (md 8, .inl (cZ, 512, .inl (fun j => bI (CO j)))), (od, .inl (cE, 1, .inr (.inr (.inr (.inl G)))))]) (vx_runSW (As := [.ref (ad 0), .int (xs (i3 + 1)), .int (xs (i3 + 2)), .ref (ou)]) (rest := []) ⟨hx, hb, hml, hown, hts⟩ (c_L_depth l D cI cZ cJ cE ad ou (N) (A) (fl) (an) (nd) (wt) (B) (Hd) (O) (R) (HL) (LB) (SO) (NG) (WO) (SA) (SE) (F) (xs (i3 + 1)) (xs (i3 + 2)) (hA) (hR) hst (H).size) (vx_cwSW 4 hts gL_law_L_depth rfl rfl rfl (by decide +kernel) ⟨Nat.le_of_ble_eq_true rfl, Nat.le_of_ble_eq_true rfl⟩) (prl_S (hP.sub (ws' := (wKL cI cZ cJ ad ou N A fl an nd wt B Hd O R HL LB SO NG WO SA SE F)) [0, 1, 2, 3, 4, 5, 6, 7, 8, 9, 10, 11, 12, 13, 23] rfl) (hD.sub (ws' := (wKL cI cZ cJ ad ou N A fl an nd wt B Hd O R HL LB SO NG WO SA SE F)) [0, 1, 2, 3, 4, 5, 6, 7, 8, 9, 10, 11, 12, 13, 23] (by decide) rfl) hK hX hZ hY hS (va_free (wc := (wKL cI cZ cJ ad ou N A fl an nd wt B Hd O R HL LB SO NG WO SA SE F)) hD hS hAp [0, 1, 2, 3, 4, 5, 6, 7, 8, 9, 10, 11, 12, 13, 23] rfl)) rfl rfl hl.1 rfl (lv_room (Nat.le_of_ble_eq_true rfl)) dL_law_782 ⟨hcc 2 (by decide), hss 12 (by decide)⟩) hP hD hS hAp [0, 1, 2, 3, 4, 5, 6, 7, 8, 9, 10, 11, 12, 13, 23] [14, 15, 16, 17, 18, 19, 20, 21, 22, 24] rfl rfl (by decide) (by decide) (fun r_782 u_782 H locs hq_782 hP hD hS => ?_)
  obtain ⟨F9_782, rfl⟩ : ∃ z, z = u_782 := ⟨_, rfl⟩
  obtain ⟨hpo_782, -⟩ := hq_782
  have hP : va_P D vwCl (wZ cI cZ cJ cE ad md ou od N A fl an nd wt B Hd O R HL LB SO NG WO SA SE th N A R kw an nd wt B Hd O HM CO F9_782 G) H := hP.sub [10, 11, 12, 13, 14, 15, 16, 17, 18, 19, 20, 21, 22, 23, 0, 1, 2, 3, 4, 5, 6, 7, 8, 24, 9] rfl
  have hD : va_D (apS s) (wZ cI cZ cJ cE ad md ou od N A fl an nd wt B Hd O R HL LB SO NG WO SA SE th N A R kw an nd wt B Hd O HM CO F9_782 G) := hD.sub [10, 11, 12, 13, 14, 15, 16, 17, 18, 19, 20, 21, 22, 23, 0, 1, 2, 3, 4, 5, 6, 7, 8, 24, 9] (by decide) rfl
  refine W.widen (k := cs + 2) (n := sl + 12) (Nat.add_le_add_left (by decide) cs) (Nat.add_le_add_left (by decide) sl) ?_
  refine lv_istore (lv' := [(6, .int (r_782)), (0, .ref (b)), (1, .ref (ad 0)), (2, .ref (md 0)), (3, .ref (ou)), (4, .ref (od)), (5, .int (nI (i3)))]) hx hb dL_law_785 hl (by decide) rfl (fun ls hl => ?_)
  refine lv_aload_n hx hb dL_law_787 rfl (lv_at hl 3 rfl) ?_
  refine lv_aload_n hx hb dL_law_788 rfl (lv_at hl 1 rfl) ?_
  refine lv_iload hx hb dL_law_789 (lv_at hl 6 rfl) ?_
  refine lv_iconst (v := 1) hx hb dL_law_791 (by decide) ?_
  refine lv_iadd hx hb dL_law_792 ?_
  rw [nI_1]
  refine sld_ (i := i3 + 1) hx hb hXs hbl hbA hS (by omega) hL dL_law_793 ?_
  refine lv_aload_n hx hb dL_law_794 rfl (lv_at hl 1 rfl) ?_
  refine lv_iload hx hb dL_law_795 (lv_at hl 6 rfl) ?_
  refine lv_iconst (v := 2) hx hb dL_law_797 (by decide) ?_
  refine lv_iadd hx hb dL_law_798 ?_
  rw [show (2 : Int32) = nI 2 from rfl, nI_add]
  refine sld_ (i := i3 + 2) hx hb hXs hbl hbA hS (by omega) hL dL_law_799 ?_
  refine mu_i (wr := [(ad 0, .inr (2, [.ref (ad 1), .ref (ad 2), .ref (ad 3), .ref (ad 4), .ref (ad 8), .int (nI (N)), .int (nI (A)), .int (bI (fl))])), (ad 1, .inl (cI, 24, .inl an)), (ad 2, .inl (cI, 9, .inl nd)), (ad 3, .inl (cI, 9, .inl wt)), (ad 4, .inr (0, [.ref (ad 5), .ref (ad 6), .ref (ad 7), .int (nI (R))])), (ad 5, .inl (cI, 40, .inl B)), (ad 6, .inl (cI, 40, .inl Hd)), (ad 7, .inl (cZ, 40, .inl (fun j => bI (O j)))), (ad 8, .inr (1, [.ref (ad 9), .ref (ad 10), .ref (ad 11), .ref (ad 12), .ref (ad 13), .int (nI (SA)), .int (nI (SE))])), (ad 9, .inl (cI, 512, .inl HL)), (ad 10, .inl (cI, 512, .inl LB)), (ad 11, .inl (cZ, 512, .inl (fun j => bI (SO j)))), (ad 12, .inl (cZ, 512, .inl (fun j => bI (NG j)))), (ad 13, .inl (cZ, 512, .inl (fun j => bI (WO j)))), (ou, .inl (cJ, 1, .inr (.inl F9_782))), (od, .inl (cE, 1, .inr (.inr (.inr (.inl G)))))]) (va_runV (As := [.int (xs (i3 + 1)), .int (xs (i3 + 2))]) (rest := []) ⟨hx, hb, hml, hown, hts⟩ (c_X3_depth l D cI cZ md (th) (N) (A) (R) (kw) (an) (nd) (wt) (B) (Hd) (O) (HM) (CO) (xs (i3 + 1)) (xs (i3 + 2)) (hA) (hR) (hn) (hH) (hN) (hkw) (H).size) (cwV 2 hts gL_law_X3_depth rfl rfl rfl (by decide +kernel) ⟨Nat.le_of_ble_eq_true rfl, Nat.le_of_ble_eq_true rfl⟩) (prw_V (q0 := 0) (ci := 3) (hP.sub (ws' := (wM cI cZ md th N A R kw an nd wt B Hd O HM CO)) [14, 15, 16, 17, 18, 19, 20, 21, 22] rfl) (hD.sub (ws' := (wM cI cZ md th N A R kw an nd wt B Hd O HM CO)) [14, 15, 16, 17, 18, 19, 20, 21, 22] (by decide) rfl) (hK.sub [0, 1] rfl) rfl rfl) rfl rfl hl.1 rfl (lv_room (Nat.le_of_ble_eq_true rfl)) dL_law_800 ⟨hcc 2 (by decide), hss 12 (by decide)⟩) hP hD hS hAp [14, 15, 16, 17, 18, 19, 20, 21, 22] [0, 1, 2, 3, 4, 5, 6, 7, 8, 9, 10, 11, 12, 13, 23, 24] rfl rfl (by decide) (by decide) (fun r_800 u_800 H locs hq_800 hP hD hS => ?_)
  obtain ⟨th9_800, HL9_800, CO9_800, kw9_800⟩ := u_800
  obtain ⟨hthp_800, hknp_800, hval_800, -⟩ := hq_800
  have hthp_800 : th9_800 = tNE (inR (xs (i3 + 1)) N) (inS (xs (i3 + 2)) A) := hthp_800
  have hknp_800 : kw9_800 = true → knOK B Hd O R nd A HL9_800 CO9_800 := hknp_800
  have hval_800 : inR (xs (i3 + 1)) N = true → inS (xs (i3 + 2)) A = true → r_800 = fndI (fun d => hs (itr (fun y => aR B Hd O y R) (bg nd (xs (i3 + 2)) A) d) (xs (i3 + 1))) 25 (-1) := hval_800
  have hP : va_P D vwCl (wZ cI cZ cJ cE ad md ou od N A fl an nd wt B Hd O R HL LB SO NG WO SA SE th9_800 N A R kw9_800 an nd wt B Hd O HL9_800 CO9_800 F9_782 G) H := hP.sub [0, 1, 2, 3, 4, 5, 6, 7, 8, 9, 10, 11, 12, 13, 16, 17, 18, 19, 20, 21, 22, 23, 24, 14, 15] rfl
  have hD : va_D (apS s) (wZ cI cZ cJ cE ad md ou od N A fl an nd wt B Hd O R HL LB SO NG WO SA SE th9_800 N A R kw9_800 an nd wt B Hd O HL9_800 CO9_800 F9_782 G) := hD.sub [0, 1, 2, 3, 4, 5, 6, 7, 8, 9, 10, 11, 12, 13, 16, 17, 18, 19, 20, 21, 22, 23, 24, 14, 15] (by decide) rfl
  refine lv_istore (lv' := [(7, .int (r_800)), (6, .int (r_782)), (0, .ref (b)), (1, .ref (ad 0)), (2, .ref (md 0)), (3, .ref (ou)), (4, .ref (od)), (5, .int (nI (i3)))]) hx hb dL_law_803 hl (by decide) rfl (fun ls hl => ?_)
  have hAG : ((th9_800) = r_782) ∧ ((r_782 = 0 → F9_782 0 = (r_800).toInt64)) ∧ (Inv N A fl nd wt B Hd O R HL LB SO NG WO SA SE kw9_800 HL9_800 CO9_800) := by
    rcases hpo_782 with ⟨ha, rr, h1, ⟨h2, h3⟩, h4⟩ | ⟨ha, h2⟩ | ⟨ha, h2, h3⟩
    · exact ⟨by rw [hthp_800, h2, h3, ha]; rfl, fun _ => by rw [h4, h1, hval_800 h2 h3], ⟨hn, hA, hR, hH, hN, hw, hsv, hknp_800⟩⟩
    · exact ⟨by rw [hthp_800, h2, ha]; rfl, fun h0 => absurd (ha.symm.trans h0) (by decide), ⟨hn, hA, hR, hH, hN, hw, hsv, hknp_800⟩⟩
    · exact ⟨by rw [hthp_800, h2, h3, ha]; rfl, fun h0 => absurd (ha.symm.trans h0) (by decide), ⟨hn, hA, hR, hH, hN, hw, hsv, hknp_800⟩⟩
  obtain ⟨hth, hvl, hI2⟩ := hAG
  refine lv_aload_n hx hb dL_law_805 rfl (lv_at hl 4 rfl) ?_
  refine pu_i (va_runV (As := []) (rest := []) ⟨hx, hb, hml, hown, hts⟩ (c_X3_thrown l D cI cZ md (th9_800) (N) (A) (R) (kw9_800) (an) (nd) (wt) (B) (Hd) (O) (HL9_800) (CO9_800) ) (cwV 0 hts gL_law_X3_thrown rfl rfl rfl (by decide +kernel) ⟨Nat.le_of_ble_eq_true rfl, Nat.le_of_ble_eq_true rfl⟩) (pre_V (q0 := 0) (ci := 3) (hP.sub (ws' := (wM cI cZ md th9_800 N A R kw9_800 an nd wt B Hd O HL9_800 CO9_800)) [14, 15, 16, 17, 18, 19, 20, 21, 22] rfl) (hK.sub [0, 1] rfl) rfl rfl) rfl rfl hl.1 rfl (lv_room (Nat.le_of_ble_eq_true rfl)) dL_law_806 ⟨hcc 2 (by decide), hss 12 (by decide)⟩) ?_
  refine lv_iload hx hb dL_law_809 (lv_at hl 1 rfl) ?_
  refine lv_icmp_eq (tgt := 816) hx hb dL_law_811 (by decide) (fun c_811 => ?_) (fun c_811 => ?_)
  · skip
    refine lv_iload hx hb dL_law_816 (lv_at hl 1 rfl) ?_
    refine lv_if_ne (tgt := 833) hx hb dL_law_818 (by decide) (fun c_818 => ?_) (fun c_818 => ?_)
    · skip
      refine lv_goto (tgt := 1862) hx hb dL_law_833 (by decide) ?_
      exact hk (N) (A) (fl) (an) (nd) (wt) (B) (Hd) (O) (R) (HL) (LB) (SO) (NG) (WO) (SA) (SE) (th9_800) (kw9_800) (HL9_800) (CO9_800) (F9_782) (G) _ _ hI2 hP hD hS ls (lv_sub hl [2, 3, 4, 5, 6, 7] rfl)
    · skip
      refine lv_aload_n hx hb dL_law_821 rfl (lv_at hl 5 rfl) ?_
      refine lv_iconst (v := 0) hx hb dL_law_822 (by decide) ?_
      refine ll_0 (D := D) (f := F9_782) hx hb hK hP 23 2 rfl rfl dL_law_823 ?_
      refine lv_iload hx hb dL_law_824 (lv_at hl 0 rfl) ?_
      refine lv_i2l hx hb dL_law_826 rfl ?_
      refine W.lcmp hx hb dL_law_827 ?_
      refine lv_if_eq (tgt := 833) hx hb dL_law_828 (by decide) (fun c_828 => ?_) (fun c_828 => ?_)
      · skip
        refine lv_goto (tgt := 1862) hx hb dL_law_833 (by decide) ?_
        exact hk (N) (A) (fl) (an) (nd) (wt) (B) (Hd) (O) (R) (HL) (LB) (SO) (NG) (WO) (SA) (SE) (th9_800) (kw9_800) (HL9_800) (CO9_800) (F9_782) (G) _ _ hI2 hP hD hS ls (lv_sub hl [2, 3, 4, 5, 6, 7] rfl)
      · skip
        refine lv_iconst (v := 0) hx hb dL_law_831 (by decide) ?_
        exfalso
        first | exact c_828 hth | exact c_828 ((lg_cmp_eq _ _).mpr (hvl c_811)) | exact c_828 ((lg_cmp_eq _ _).mpr (hvl c_818)) | exact c_828 ((lg_cmp_eq _ _).mpr (hvl c_828))
  · skip
    refine lv_iconst (v := 0) hx hb dL_law_814 (by decide) ?_
    exfalso
    first | exact c_811 hth | exact c_811 ((lg_cmp_eq _ _).mpr (hvl c_811))
set_option maxHeartbeats 4000000 in
set_option maxRecDepth 100000 in
theorem law_c12 {p : Program} {e : Env} {s : State} {m : MethodId} {below : List Frame} {meth : Method} {c : Code} (l : Launch) (hst : l.stackTraces = false) {b L : Nat} {xs : Nat → Int32} (hL : L ≤ 1536) (C0 : lw_At p s m meth c b L xs) (D : va_G) (cI cZ cJ cE : ClassId) (ad md : Nat → Nat) (ou od : Nat) (hK : kn D (tyL cI cZ cJ cE) s) (hX : xK s) (hZ : xZ (apS s) s s.heap) (hY : yN s) (cs sl i3 : Nat) (hcs : cs + 2 ≤ 1061) (hsl : sl + 12 ≤ 12206) (hi3 : i3 + 3 ≤ L) (hk : lwK p l e s m below meth c b D cI cZ cJ cE ad md ou od cs sl i3) (N A : Nat) (fl : Bool) (an nd wt B Hd : Nat → Int32) (O : Nat → Bool) (R : Nat) (HL LB : Nat → Int32) (SO NG WO : Nat → Bool) (SA SE : Nat) (th : Int32) (kw : Bool) (HM : Nat → Int32) (CO : Nat → Bool) (F : Nat → Int64) (G : Nat → UInt64) (hI : Inv N A fl nd wt B Hd O R HL LB SO NG WO SA SE kw HM CO) (H : Heap) (locs : List Loc) (hP : va_P D vwCl (wZ cI cZ cJ cE ad md ou od N A fl an nd wt B Hd O R HL LB SO NG WO SA SE th N A R kw an nd wt B Hd O HM CO F G) H) (hD : va_D (apS s) (wZ cI cZ cJ cE ad md ou od N A fl an nd wt B Hd O R HL LB SO NG WO SA SE th N A R kw an nd wt B Hd O HM CO F G)) (hS : va_S (apS s) s.heap H locs) (ls : Array Slot) (hl : lv_has ls 9 [(0, .ref b), (1, .ref (ad 0)), (2, .ref (md 0)), (3, .ref ou), (4, .ref od), (5, .int (nI i3))]) : W p l e room_1 s m #[Value.ref b] below meth c H locs cs sl (lw_Z below #[Value.ref b] s) (F0 m 836 ls []) := by
  obtain ⟨hx, hb, hr, hml, hown, hts, hXs, hbl, hlocks, hgv⟩ := id C0
  have hts := fun w h => hts w (wsL_law_in w h)
  have hb : c.code = cL_law := hb
  have hbA : ¬ apS s b := Nat.not_le.mpr hbl
  have hAp : ∀ q : Nat, s.heap.size ≤ q → apS s q := fun _ h => h
  obtain ⟨hn, hA, hR, hH, hN, hw, hsv, hkw⟩ := hI
  have hcc : ∀ k, k ≤ 2 → cs + k ≤ room_1.cells := fun k hk => Nat.le_trans (Nat.add_le_add_left hk cs) hcs
  have hss : ∀ k, k ≤ 12 → sl + k ≤ room_1.slots := fun k hk => Nat.le_trans (Nat.add_le_add_left hk sl) hsl
  refine lv_aload_n hx hb dL_law_836 rfl (lv_at hl 1 rfl) ?_
  refine lv_aload_n hx hb dL_law_837 rfl (lv_at hl 0 rfl) ?_
  refine lv_iload hx hb dL_law_838 (lv_at hl 5 rfl) ?_
  refine lv_iconst (v := 1) hx hb dL_law_840 (by decide) ?_
  refine lv_iadd hx hb dL_law_841 ?_
  rw [nI_1]
  refine sld_ (i := i3 + 1) hx hb hXs hbl hbA hS (by omega) hL dL_law_842 ?_
  refine lv_aload_n hx hb dL_law_843 rfl (lv_at hl 0 rfl) ?_
  refine lv_iload hx hb dL_law_844 (lv_at hl 5 rfl) ?_
  refine lv_iconst (v := 2) hx hb dL_law_846 (by decide) ?_
  refine lv_iadd hx hb dL_law_847 ?_
  rw [show (2 : Int32) = nI 2 from rfl, nI_add]
  refine sld_ (i := i3 + 2) hx hb hXs hbl hbA hS (by omega) hL dL_law_848 ?_
  refine lv_aload_n hx hb dL_law_849 rfl (lv_at hl 3 rfl) ?_
  refine mu_i (wr := [(md 0, .inr (3, [.int (th), .int (nI (N)), .ref (md 1), .int (nI (A)), .ref (md 2), .ref (md 3), .int (nI (R)), .ref (md 4), .ref (md 5), .ref (md 6), .int (bI (kw)), .ref (md 7), .ref (md 8)])), (md 1, .inl (cI, 24, .inl an)), (md 2, .inl (cI, 9, .inl nd)), (md 3, .inl (cI, 9, .inl wt)), (md 4, .inl (cI, 40, .inl B)), (md 5, .inl (cI, 40, .inl Hd)), (md 6, .inl (cZ, 40, .inl (fun j => bI (O j)))), (md 7, .inl (cI, 512, .inl HM)), (md 8, .inl (cZ, 512, .inl (fun j => bI (CO j)))), (od, .inl (cE, 1, .inr (.inr (.inr (.inl G)))))]) (vx_runSW (As := [.ref (ad 0), .int (xs (i3 + 1)), .int (xs (i3 + 2)), .ref (ou)]) (rest := []) ⟨hx, hb, hml, hown, hts⟩ (c_L_support l D cI cZ cJ cE ad ou (N) (A) (fl) (an) (nd) (wt) (B) (Hd) (O) (R) (HL) (LB) (SO) (NG) (WO) (SA) (SE) (F) (xs (i3 + 1)) (xs (i3 + 2)) (hA) (hR) hst (H).size) (vx_cwSW 4 hts gL_law_L_support rfl rfl rfl (by decide +kernel) ⟨Nat.le_of_ble_eq_true rfl, Nat.le_of_ble_eq_true rfl⟩) (prl_S (hP.sub (ws' := (wKL cI cZ cJ ad ou N A fl an nd wt B Hd O R HL LB SO NG WO SA SE F)) [0, 1, 2, 3, 4, 5, 6, 7, 8, 9, 10, 11, 12, 13, 23] rfl) (hD.sub (ws' := (wKL cI cZ cJ ad ou N A fl an nd wt B Hd O R HL LB SO NG WO SA SE F)) [0, 1, 2, 3, 4, 5, 6, 7, 8, 9, 10, 11, 12, 13, 23] (by decide) rfl) hK hX hZ hY hS (va_free (wc := (wKL cI cZ cJ ad ou N A fl an nd wt B Hd O R HL LB SO NG WO SA SE F)) hD hS hAp [0, 1, 2, 3, 4, 5, 6, 7, 8, 9, 10, 11, 12, 13, 23] rfl)) rfl rfl hl.1 rfl (lv_room (Nat.le_of_ble_eq_true rfl)) dL_law_850 ⟨hcc 2 (by decide), hss 12 (by decide)⟩) hP hD hS hAp [0, 1, 2, 3, 4, 5, 6, 7, 8, 9, 10, 11, 12, 13, 23] [14, 15, 16, 17, 18, 19, 20, 21, 22, 24] rfl rfl (by decide) (by decide) (fun r_850 u_850 H locs hq_850 hP hD hS => ?_)
  obtain ⟨F9_850, rfl⟩ : ∃ z, z = u_850 := ⟨_, rfl⟩
  obtain ⟨hpo_850, -⟩ := hq_850
  have hP : va_P D vwCl (wZ cI cZ cJ cE ad md ou od N A fl an nd wt B Hd O R HL LB SO NG WO SA SE th N A R kw an nd wt B Hd O HM CO F9_850 G) H := hP.sub [10, 11, 12, 13, 14, 15, 16, 17, 18, 19, 20, 21, 22, 23, 0, 1, 2, 3, 4, 5, 6, 7, 8, 24, 9] rfl
  have hD : va_D (apS s) (wZ cI cZ cJ cE ad md ou od N A fl an nd wt B Hd O R HL LB SO NG WO SA SE th N A R kw an nd wt B Hd O HM CO F9_850 G) := hD.sub [10, 11, 12, 13, 14, 15, 16, 17, 18, 19, 20, 21, 22, 23, 0, 1, 2, 3, 4, 5, 6, 7, 8, 24, 9] (by decide) rfl
  refine W.widen (k := cs + 2) (n := sl + 12) (Nat.add_le_add_left (by decide) cs) (Nat.add_le_add_left (by decide) sl) ?_
  refine lv_istore (lv' := [(6, .int (r_850)), (0, .ref (b)), (1, .ref (ad 0)), (2, .ref (md 0)), (3, .ref (ou)), (4, .ref (od)), (5, .int (nI (i3)))]) hx hb dL_law_853 hl (by decide) rfl (fun ls hl => ?_)
  refine lv_aload_n hx hb dL_law_855 rfl (lv_at hl 3 rfl) ?_
  refine lv_aload_n hx hb dL_law_856 rfl (lv_at hl 1 rfl) ?_
  refine lv_iload hx hb dL_law_857 (lv_at hl 6 rfl) ?_
  refine lv_iconst (v := 1) hx hb dL_law_859 (by decide) ?_
  refine lv_iadd hx hb dL_law_860 ?_
  rw [nI_1]
  refine sld_ (i := i3 + 1) hx hb hXs hbl hbA hS (by omega) hL dL_law_861 ?_
  refine lv_aload_n hx hb dL_law_862 rfl (lv_at hl 1 rfl) ?_
  refine lv_iload hx hb dL_law_863 (lv_at hl 6 rfl) ?_
  refine lv_iconst (v := 2) hx hb dL_law_865 (by decide) ?_
  refine lv_iadd hx hb dL_law_866 ?_
  rw [show (2 : Int32) = nI 2 from rfl, nI_add]
  refine sld_ (i := i3 + 2) hx hb hXs hbl hbA hS (by omega) hL dL_law_867 ?_
  refine mu_i (wr := [(ad 0, .inr (2, [.ref (ad 1), .ref (ad 2), .ref (ad 3), .ref (ad 4), .ref (ad 8), .int (nI (N)), .int (nI (A)), .int (bI (fl))])), (ad 1, .inl (cI, 24, .inl an)), (ad 2, .inl (cI, 9, .inl nd)), (ad 3, .inl (cI, 9, .inl wt)), (ad 4, .inr (0, [.ref (ad 5), .ref (ad 6), .ref (ad 7), .int (nI (R))])), (ad 5, .inl (cI, 40, .inl B)), (ad 6, .inl (cI, 40, .inl Hd)), (ad 7, .inl (cZ, 40, .inl (fun j => bI (O j)))), (ad 8, .inr (1, [.ref (ad 9), .ref (ad 10), .ref (ad 11), .ref (ad 12), .ref (ad 13), .int (nI (SA)), .int (nI (SE))])), (ad 9, .inl (cI, 512, .inl HL)), (ad 10, .inl (cI, 512, .inl LB)), (ad 11, .inl (cZ, 512, .inl (fun j => bI (SO j)))), (ad 12, .inl (cZ, 512, .inl (fun j => bI (NG j)))), (ad 13, .inl (cZ, 512, .inl (fun j => bI (WO j)))), (ou, .inl (cJ, 1, .inr (.inl F9_850))), (od, .inl (cE, 1, .inr (.inr (.inr (.inl G)))))]) (va_runV (As := [.int (xs (i3 + 1)), .int (xs (i3 + 2))]) (rest := []) ⟨hx, hb, hml, hown, hts⟩ (c_X3_support l D cI cZ md (th) (N) (A) (R) (kw) (an) (nd) (wt) (B) (Hd) (O) (HM) (CO) (xs (i3 + 1)) (xs (i3 + 2)) (hA) (hR) (hn) (hH) (hN) (hkw) (H).size) (cwV 2 hts gL_law_X3_support rfl rfl rfl (by decide +kernel) ⟨Nat.le_of_ble_eq_true rfl, Nat.le_of_ble_eq_true rfl⟩) (prw_V (q0 := 0) (ci := 3) (hP.sub (ws' := (wM cI cZ md th N A R kw an nd wt B Hd O HM CO)) [14, 15, 16, 17, 18, 19, 20, 21, 22] rfl) (hD.sub (ws' := (wM cI cZ md th N A R kw an nd wt B Hd O HM CO)) [14, 15, 16, 17, 18, 19, 20, 21, 22] (by decide) rfl) (hK.sub [0, 1] rfl) rfl rfl) rfl rfl hl.1 rfl (lv_room (Nat.le_of_ble_eq_true rfl)) dL_law_868 ⟨hcc 2 (by decide), hss 12 (by decide)⟩) hP hD hS hAp [14, 15, 16, 17, 18, 19, 20, 21, 22] [0, 1, 2, 3, 4, 5, 6, 7, 8, 9, 10, 11, 12, 13, 23, 24] rfl rfl (by decide) (by decide) (fun r_868 u_868 H locs hq_868 hP hD hS => ?_)
  obtain ⟨th9_868, HL9_868, CO9_868, kw9_868⟩ := u_868
  obtain ⟨hthp_868, hknp_868, hval_868, -⟩ := hq_868
  have hthp_868 : th9_868 = tNE (inR (xs (i3 + 1)) N) (inS (xs (i3 + 2)) A) := hthp_868
  have hknp_868 : kw9_868 = true → knOK B Hd O R nd A HL9_868 CO9_868 := hknp_868
  have hval_868 : inR (xs (i3 + 1)) N = true → inS (xs (i3 + 2)) A = true → r_868 = supE B Hd O R (bg nd (xs (i3 + 2)) A) (xs (i3 + 1)) := hval_868
  have hP : va_P D vwCl (wZ cI cZ cJ cE ad md ou od N A fl an nd wt B Hd O R HL LB SO NG WO SA SE th9_868 N A R kw9_868 an nd wt B Hd O HL9_868 CO9_868 F9_850 G) H := hP.sub [0, 1, 2, 3, 4, 5, 6, 7, 8, 9, 10, 11, 12, 13, 16, 17, 18, 19, 20, 21, 22, 23, 24, 14, 15] rfl
  have hD : va_D (apS s) (wZ cI cZ cJ cE ad md ou od N A fl an nd wt B Hd O R HL LB SO NG WO SA SE th9_868 N A R kw9_868 an nd wt B Hd O HL9_868 CO9_868 F9_850 G) := hD.sub [0, 1, 2, 3, 4, 5, 6, 7, 8, 9, 10, 11, 12, 13, 16, 17, 18, 19, 20, 21, 22, 23, 24, 14, 15] (by decide) rfl
  refine lv_istore (lv' := [(7, .int (r_868)), (6, .int (r_850)), (0, .ref (b)), (1, .ref (ad 0)), (2, .ref (md 0)), (3, .ref (ou)), (4, .ref (od)), (5, .int (nI (i3)))]) hx hb dL_law_871 hl (by decide) rfl (fun ls hl => ?_)
  have hAG : ((th9_868) = r_850) ∧ ((r_850 = 0 → F9_850 0 = (r_868).toInt64)) ∧ (Inv N A fl nd wt B Hd O R HL LB SO NG WO SA SE kw9_868 HL9_868 CO9_868) := by
    rcases hpo_850 with ⟨ha, rr, h1, ⟨h2, h3⟩, h4⟩ | ⟨ha, h2⟩ | ⟨ha, h2, h3⟩
    · exact ⟨by rw [hthp_868, h2, h3, ha]; rfl, fun _ => by rw [h4, h1, hval_868 h2 h3], ⟨hn, hA, hR, hH, hN, hw, hsv, hknp_868⟩⟩
    · exact ⟨by rw [hthp_868, h2, ha]; rfl, fun h0 => absurd (ha.symm.trans h0) (by decide), ⟨hn, hA, hR, hH, hN, hw, hsv, hknp_868⟩⟩
    · exact ⟨by rw [hthp_868, h2, h3, ha]; rfl, fun h0 => absurd (ha.symm.trans h0) (by decide), ⟨hn, hA, hR, hH, hN, hw, hsv, hknp_868⟩⟩
  obtain ⟨hth, hvl, hI2⟩ := hAG
  refine lv_aload_n hx hb dL_law_873 rfl (lv_at hl 4 rfl) ?_
  refine pu_i (va_runV (As := []) (rest := []) ⟨hx, hb, hml, hown, hts⟩ (c_X3_thrown l D cI cZ md (th9_868) (N) (A) (R) (kw9_868) (an) (nd) (wt) (B) (Hd) (O) (HL9_868) (CO9_868) ) (cwV 0 hts gL_law_X3_thrown rfl rfl rfl (by decide +kernel) ⟨Nat.le_of_ble_eq_true rfl, Nat.le_of_ble_eq_true rfl⟩) (pre_V (q0 := 0) (ci := 3) (hP.sub (ws' := (wM cI cZ md th9_868 N A R kw9_868 an nd wt B Hd O HL9_868 CO9_868)) [14, 15, 16, 17, 18, 19, 20, 21, 22] rfl) (hK.sub [0, 1] rfl) rfl rfl) rfl rfl hl.1 rfl (lv_room (Nat.le_of_ble_eq_true rfl)) dL_law_874 ⟨hcc 2 (by decide), hss 12 (by decide)⟩) ?_
  refine lv_iload hx hb dL_law_877 (lv_at hl 1 rfl) ?_
  refine lv_icmp_eq (tgt := 884) hx hb dL_law_879 (by decide) (fun c_879 => ?_) (fun c_879 => ?_)
  · skip
    refine lv_iload hx hb dL_law_884 (lv_at hl 1 rfl) ?_
    refine lv_if_ne (tgt := 901) hx hb dL_law_886 (by decide) (fun c_886 => ?_) (fun c_886 => ?_)
    · skip
      refine lv_goto (tgt := 1862) hx hb dL_law_901 (by decide) ?_
      exact hk (N) (A) (fl) (an) (nd) (wt) (B) (Hd) (O) (R) (HL) (LB) (SO) (NG) (WO) (SA) (SE) (th9_868) (kw9_868) (HL9_868) (CO9_868) (F9_850) (G) _ _ hI2 hP hD hS ls (lv_sub hl [2, 3, 4, 5, 6, 7] rfl)
    · skip
      refine lv_aload_n hx hb dL_law_889 rfl (lv_at hl 5 rfl) ?_
      refine lv_iconst (v := 0) hx hb dL_law_890 (by decide) ?_
      refine ll_0 (D := D) (f := F9_850) hx hb hK hP 23 2 rfl rfl dL_law_891 ?_
      refine lv_iload hx hb dL_law_892 (lv_at hl 0 rfl) ?_
      refine lv_i2l hx hb dL_law_894 rfl ?_
      refine W.lcmp hx hb dL_law_895 ?_
      refine lv_if_eq (tgt := 901) hx hb dL_law_896 (by decide) (fun c_896 => ?_) (fun c_896 => ?_)
      · skip
        refine lv_goto (tgt := 1862) hx hb dL_law_901 (by decide) ?_
        exact hk (N) (A) (fl) (an) (nd) (wt) (B) (Hd) (O) (R) (HL) (LB) (SO) (NG) (WO) (SA) (SE) (th9_868) (kw9_868) (HL9_868) (CO9_868) (F9_850) (G) _ _ hI2 hP hD hS ls (lv_sub hl [2, 3, 4, 5, 6, 7] rfl)
      · skip
        refine lv_iconst (v := 0) hx hb dL_law_899 (by decide) ?_
        exfalso
        first | exact c_896 hth | exact c_896 ((lg_cmp_eq _ _).mpr (hvl c_879)) | exact c_896 ((lg_cmp_eq _ _).mpr (hvl c_886)) | exact c_896 ((lg_cmp_eq _ _).mpr (hvl c_896))
  · skip
    refine lv_iconst (v := 0) hx hb dL_law_882 (by decide) ?_
    exfalso
    first | exact c_879 hth | exact c_879 ((lg_cmp_eq _ _).mpr (hvl c_879))
set_option maxHeartbeats 4000000 in
set_option maxRecDepth 100000 in
theorem law_c13 {p : Program} {e : Env} {s : State} {m : MethodId} {below : List Frame} {meth : Method} {c : Code} (l : Launch) (hst : l.stackTraces = false) {b L : Nat} {xs : Nat → Int32} (hL : L ≤ 1536) (C0 : lw_At p s m meth c b L xs) (D : va_G) (cI cZ cJ cE : ClassId) (ad md : Nat → Nat) (ou od : Nat) (hK : kn D (tyL cI cZ cJ cE) s) (hX : xK s) (hZ : xZ (apS s) s s.heap) (hY : yN s) (cs sl i3 : Nat) (hcs : cs + 2 ≤ 1061) (hsl : sl + 12 ≤ 12206) (hi3 : i3 + 3 ≤ L) (hk : lwK p l e s m below meth c b D cI cZ cJ cE ad md ou od cs sl i3) (N A : Nat) (fl : Bool) (an nd wt B Hd : Nat → Int32) (O : Nat → Bool) (R : Nat) (HL LB : Nat → Int32) (SO NG WO : Nat → Bool) (SA SE : Nat) (th : Int32) (kw : Bool) (HM : Nat → Int32) (CO : Nat → Bool) (F : Nat → Int64) (G : Nat → UInt64) (hI : Inv N A fl nd wt B Hd O R HL LB SO NG WO SA SE kw HM CO) (H : Heap) (locs : List Loc) (hP : va_P D vwCl (wZ cI cZ cJ cE ad md ou od N A fl an nd wt B Hd O R HL LB SO NG WO SA SE th N A R kw an nd wt B Hd O HM CO F G) H) (hD : va_D (apS s) (wZ cI cZ cJ cE ad md ou od N A fl an nd wt B Hd O R HL LB SO NG WO SA SE th N A R kw an nd wt B Hd O HM CO F G)) (hS : va_S (apS s) s.heap H locs) (ls : Array Slot) (hl : lv_has ls 9 [(0, .ref b), (1, .ref (ad 0)), (2, .ref (md 0)), (3, .ref ou), (4, .ref od), (5, .int (nI i3))]) : W p l e room_1 s m #[Value.ref b] below meth c H locs cs sl (lw_Z below #[Value.ref b] s) (F0 m 904 ls []) := by
  obtain ⟨hx, hb, hr, hml, hown, hts, hXs, hbl, hlocks, hgv⟩ := id C0
  have hts := fun w h => hts w (wsL_law_in w h)
  have hb : c.code = cL_law := hb
  have hbA : ¬ apS s b := Nat.not_le.mpr hbl
  have hAp : ∀ q : Nat, s.heap.size ≤ q → apS s q := fun _ h => h
  obtain ⟨hn, hA, hR, hH, hN, hw, hsv, hkw⟩ := hI
  have hcc : ∀ k, k ≤ 2 → cs + k ≤ room_1.cells := fun k hk => Nat.le_trans (Nat.add_le_add_left hk cs) hcs
  have hss : ∀ k, k ≤ 12 → sl + k ≤ room_1.slots := fun k hk => Nat.le_trans (Nat.add_le_add_left hk sl) hsl
  refine lv_aload_n hx hb dL_law_904 rfl (lv_at hl 1 rfl) ?_
  refine lv_aload_n hx hb dL_law_905 rfl (lv_at hl 0 rfl) ?_
  refine lv_iload hx hb dL_law_906 (lv_at hl 5 rfl) ?_
  refine lv_iconst (v := 1) hx hb dL_law_908 (by decide) ?_
  refine lv_iadd hx hb dL_law_909 ?_
  rw [nI_1]
  refine sld_ (i := i3 + 1) hx hb hXs hbl hbA hS (by omega) hL dL_law_910 ?_
  refine lv_aload_n hx hb dL_law_911 rfl (lv_at hl 3 rfl) ?_
  refine mu_i (wr := [(md 0, .inr (3, [.int (th), .int (nI (N)), .ref (md 1), .int (nI (A)), .ref (md 2), .ref (md 3), .int (nI (R)), .ref (md 4), .ref (md 5), .ref (md 6), .int (bI (kw)), .ref (md 7), .ref (md 8)])), (md 1, .inl (cI, 24, .inl an)), (md 2, .inl (cI, 9, .inl nd)), (md 3, .inl (cI, 9, .inl wt)), (md 4, .inl (cI, 40, .inl B)), (md 5, .inl (cI, 40, .inl Hd)), (md 6, .inl (cZ, 40, .inl (fun j => bI (O j)))), (md 7, .inl (cI, 512, .inl HM)), (md 8, .inl (cZ, 512, .inl (fun j => bI (CO j)))), (od, .inl (cE, 1, .inr (.inr (.inr (.inl G)))))]) (vx_runSW (As := [.ref (ad 0), .int (xs (i3 + 1)), .ref (ou)]) (rest := []) ⟨hx, hb, hml, hown, hts⟩ (c_L_heldCount l D cI cZ cJ cE ad ou (N) (A) (fl) (an) (nd) (wt) (B) (Hd) (O) (R) (HL) (LB) (SO) (NG) (WO) (SA) (SE) (F) (xs (i3 + 1)) (hA) (hR) (hn) (hH) (hN) hst (H).size) (vx_cwSW 3 hts gL_law_L_heldCount rfl rfl rfl (by decide +kernel) ⟨Nat.le_of_ble_eq_true rfl, Nat.le_of_ble_eq_true rfl⟩) (prl_S (hP.sub (ws' := (wKL cI cZ cJ ad ou N A fl an nd wt B Hd O R HL LB SO NG WO SA SE F)) [0, 1, 2, 3, 4, 5, 6, 7, 8, 9, 10, 11, 12, 13, 23] rfl) (hD.sub (ws' := (wKL cI cZ cJ ad ou N A fl an nd wt B Hd O R HL LB SO NG WO SA SE F)) [0, 1, 2, 3, 4, 5, 6, 7, 8, 9, 10, 11, 12, 13, 23] (by decide) rfl) hK hX hZ hY hS (va_free (wc := (wKL cI cZ cJ ad ou N A fl an nd wt B Hd O R HL LB SO NG WO SA SE F)) hD hS hAp [0, 1, 2, 3, 4, 5, 6, 7, 8, 9, 10, 11, 12, 13, 23] rfl)) rfl rfl hl.1 rfl (lv_room (Nat.le_of_ble_eq_true rfl)) dL_law_912 ⟨hcc 1 (by decide), hss 6 (by decide)⟩) hP hD hS hAp [0, 1, 2, 3, 4, 5, 6, 7, 8, 9, 10, 11, 12, 13, 23] [14, 15, 16, 17, 18, 19, 20, 21, 22, 24] rfl rfl (by decide) (by decide) (fun r_912 u_912 H locs hq_912 hP hD hS => ?_)
  obtain ⟨F9_912, rfl⟩ : ∃ z, z = u_912 := ⟨_, rfl⟩
  obtain ⟨hpo_912, -⟩ := hq_912
  have hP : va_P D vwCl (wZ cI cZ cJ cE ad md ou od N A fl an nd wt B Hd O R HL LB SO NG WO SA SE th N A R kw an nd wt B Hd O HM CO F9_912 G) H := hP.sub [10, 11, 12, 13, 14, 15, 16, 17, 18, 19, 20, 21, 22, 23, 0, 1, 2, 3, 4, 5, 6, 7, 8, 24, 9] rfl
  have hD : va_D (apS s) (wZ cI cZ cJ cE ad md ou od N A fl an nd wt B Hd O R HL LB SO NG WO SA SE th N A R kw an nd wt B Hd O HM CO F9_912 G) := hD.sub [10, 11, 12, 13, 14, 15, 16, 17, 18, 19, 20, 21, 22, 23, 0, 1, 2, 3, 4, 5, 6, 7, 8, 24, 9] (by decide) rfl
  refine W.widen (k := cs + 2) (n := sl + 12) (Nat.add_le_add_left (by decide) cs) (Nat.add_le_add_left (by decide) sl) ?_
  refine lv_istore (lv' := [(6, .int (r_912)), (0, .ref (b)), (1, .ref (ad 0)), (2, .ref (md 0)), (3, .ref (ou)), (4, .ref (od)), (5, .int (nI (i3)))]) hx hb dL_law_915 hl (by decide) rfl (fun ls hl => ?_)
  refine lv_aload_n hx hb dL_law_917 rfl (lv_at hl 3 rfl) ?_
  refine lv_aload_n hx hb dL_law_918 rfl (lv_at hl 1 rfl) ?_
  refine lv_iload hx hb dL_law_919 (lv_at hl 6 rfl) ?_
  refine lv_iconst (v := 1) hx hb dL_law_921 (by decide) ?_
  refine lv_iadd hx hb dL_law_922 ?_
  rw [nI_1]
  refine sld_ (i := i3 + 1) hx hb hXs hbl hbA hS (by omega) hL dL_law_923 ?_
  refine mu_i (wr := [(ad 0, .inr (2, [.ref (ad 1), .ref (ad 2), .ref (ad 3), .ref (ad 4), .ref (ad 8), .int (nI (N)), .int (nI (A)), .int (bI (fl))])), (ad 1, .inl (cI, 24, .inl an)), (ad 2, .inl (cI, 9, .inl nd)), (ad 3, .inl (cI, 9, .inl wt)), (ad 4, .inr (0, [.ref (ad 5), .ref (ad 6), .ref (ad 7), .int (nI (R))])), (ad 5, .inl (cI, 40, .inl B)), (ad 6, .inl (cI, 40, .inl Hd)), (ad 7, .inl (cZ, 40, .inl (fun j => bI (O j)))), (ad 8, .inr (1, [.ref (ad 9), .ref (ad 10), .ref (ad 11), .ref (ad 12), .ref (ad 13), .int (nI (SA)), .int (nI (SE))])), (ad 9, .inl (cI, 512, .inl HL)), (ad 10, .inl (cI, 512, .inl LB)), (ad 11, .inl (cZ, 512, .inl (fun j => bI (SO j)))), (ad 12, .inl (cZ, 512, .inl (fun j => bI (NG j)))), (ad 13, .inl (cZ, 512, .inl (fun j => bI (WO j)))), (ou, .inl (cJ, 1, .inr (.inl F9_912))), (od, .inl (cE, 1, .inr (.inr (.inr (.inl G)))))]) (va_runV (As := [.int (xs (i3 + 1))]) (rest := []) ⟨hx, hb, hml, hown, hts⟩ (c_X3_heldCount l D cI cZ md (th) (N) (A) (R) (kw) (an) (nd) (wt) (B) (Hd) (O) (HM) (CO) (xs (i3 + 1)) (hA) (hR) (hn) (hH) (hN) (hkw) (H).size) (cwV 1 hts gL_law_X3_heldCount rfl rfl rfl (by decide +kernel) ⟨Nat.le_of_ble_eq_true rfl, Nat.le_of_ble_eq_true rfl⟩) (prw_V (q0 := 0) (ci := 3) (hP.sub (ws' := (wM cI cZ md th N A R kw an nd wt B Hd O HM CO)) [14, 15, 16, 17, 18, 19, 20, 21, 22] rfl) (hD.sub (ws' := (wM cI cZ md th N A R kw an nd wt B Hd O HM CO)) [14, 15, 16, 17, 18, 19, 20, 21, 22] (by decide) rfl) (hK.sub [0, 1] rfl) rfl rfl) rfl rfl hl.1 rfl (lv_room (Nat.le_of_ble_eq_true rfl)) dL_law_924 ⟨hcc 2 (by decide), hss 12 (by decide)⟩) hP hD hS hAp [14, 15, 16, 17, 18, 19, 20, 21, 22] [0, 1, 2, 3, 4, 5, 6, 7, 8, 9, 10, 11, 12, 13, 23, 24] rfl rfl (by decide) (by decide) (fun r_924 u_924 H locs hq_924 hP hD hS => ?_)
  obtain ⟨th9_924, HL9_924, CO9_924, kw9_924⟩ := u_924
  obtain ⟨hthp_924, hknp_924, hval_924, -⟩ := hq_924
  have hthp_924 : th9_924 = tB (inS (xs (i3 + 1)) A) := hthp_924
  have hknp_924 : kw9_924 = true → knOK B Hd O R nd A HL9_924 CO9_924 := hknp_924
  have hval_924 : inS (xs (i3 + 1)) A = true → r_924 = nI (cnt (fun k => hs (clo B Hd O R (bg nd (xs (i3 + 1)) A)) (nI k)) N) := hval_924
  have hP : va_P D vwCl (wZ cI cZ cJ cE ad md ou od N A fl an nd wt B Hd O R HL LB SO NG WO SA SE th9_924 N A R kw9_924 an nd wt B Hd O HL9_924 CO9_924 F9_912 G) H := hP.sub [0, 1, 2, 3, 4, 5, 6, 7, 8, 9, 10, 11, 12, 13, 16, 17, 18, 19, 20, 21, 22, 23, 24, 14, 15] rfl
  have hD : va_D (apS s) (wZ cI cZ cJ cE ad md ou od N A fl an nd wt B Hd O R HL LB SO NG WO SA SE th9_924 N A R kw9_924 an nd wt B Hd O HL9_924 CO9_924 F9_912 G) := hD.sub [0, 1, 2, 3, 4, 5, 6, 7, 8, 9, 10, 11, 12, 13, 16, 17, 18, 19, 20, 21, 22, 23, 24, 14, 15] (by decide) rfl
  refine lv_istore (lv' := [(7, .int (r_924)), (6, .int (r_912)), (0, .ref (b)), (1, .ref (ad 0)), (2, .ref (md 0)), (3, .ref (ou)), (4, .ref (od)), (5, .int (nI (i3)))]) hx hb dL_law_927 hl (by decide) rfl (fun ls hl => ?_)
  have hAG : ((th9_924) = r_912) ∧ ((r_912 = 0 → F9_912 0 = (r_924).toInt64)) ∧ (Inv N A fl nd wt B Hd O R HL LB SO NG WO SA SE kw9_924 HL9_924 CO9_924) := by
    rcases hpo_912 with ⟨ha, rr, h1, h2, h4⟩ | ⟨ha, h2⟩
    · exact ⟨by rw [hthp_924, h2, ha]; rfl, fun _ => by rw [h4, h1, hval_924 h2], ⟨hn, hA, hR, hH, hN, hw, hsv, hknp_924⟩⟩
    · exact ⟨by rw [hthp_924, h2, ha]; rfl, fun h0 => absurd (ha.symm.trans h0) (by decide), ⟨hn, hA, hR, hH, hN, hw, hsv, hknp_924⟩⟩
  obtain ⟨hth, hvl, hI2⟩ := hAG
  refine lv_aload_n hx hb dL_law_929 rfl (lv_at hl 4 rfl) ?_
  refine pu_i (va_runV (As := []) (rest := []) ⟨hx, hb, hml, hown, hts⟩ (c_X3_thrown l D cI cZ md (th9_924) (N) (A) (R) (kw9_924) (an) (nd) (wt) (B) (Hd) (O) (HL9_924) (CO9_924) ) (cwV 0 hts gL_law_X3_thrown rfl rfl rfl (by decide +kernel) ⟨Nat.le_of_ble_eq_true rfl, Nat.le_of_ble_eq_true rfl⟩) (pre_V (q0 := 0) (ci := 3) (hP.sub (ws' := (wM cI cZ md th9_924 N A R kw9_924 an nd wt B Hd O HL9_924 CO9_924)) [14, 15, 16, 17, 18, 19, 20, 21, 22] rfl) (hK.sub [0, 1] rfl) rfl rfl) rfl rfl hl.1 rfl (lv_room (Nat.le_of_ble_eq_true rfl)) dL_law_930 ⟨hcc 2 (by decide), hss 12 (by decide)⟩) ?_
  refine lv_iload hx hb dL_law_933 (lv_at hl 1 rfl) ?_
  refine lv_icmp_eq (tgt := 940) hx hb dL_law_935 (by decide) (fun c_935 => ?_) (fun c_935 => ?_)
  · skip
    refine lv_iload hx hb dL_law_940 (lv_at hl 1 rfl) ?_
    refine lv_if_ne (tgt := 957) hx hb dL_law_942 (by decide) (fun c_942 => ?_) (fun c_942 => ?_)
    · skip
      refine lv_goto (tgt := 1862) hx hb dL_law_957 (by decide) ?_
      exact hk (N) (A) (fl) (an) (nd) (wt) (B) (Hd) (O) (R) (HL) (LB) (SO) (NG) (WO) (SA) (SE) (th9_924) (kw9_924) (HL9_924) (CO9_924) (F9_912) (G) _ _ hI2 hP hD hS ls (lv_sub hl [2, 3, 4, 5, 6, 7] rfl)
    · skip
      refine lv_aload_n hx hb dL_law_945 rfl (lv_at hl 5 rfl) ?_
      refine lv_iconst (v := 0) hx hb dL_law_946 (by decide) ?_
      refine ll_0 (D := D) (f := F9_912) hx hb hK hP 23 2 rfl rfl dL_law_947 ?_
      refine lv_iload hx hb dL_law_948 (lv_at hl 0 rfl) ?_
      refine lv_i2l hx hb dL_law_950 rfl ?_
      refine W.lcmp hx hb dL_law_951 ?_
      refine lv_if_eq (tgt := 957) hx hb dL_law_952 (by decide) (fun c_952 => ?_) (fun c_952 => ?_)
      · skip
        refine lv_goto (tgt := 1862) hx hb dL_law_957 (by decide) ?_
        exact hk (N) (A) (fl) (an) (nd) (wt) (B) (Hd) (O) (R) (HL) (LB) (SO) (NG) (WO) (SA) (SE) (th9_924) (kw9_924) (HL9_924) (CO9_924) (F9_912) (G) _ _ hI2 hP hD hS ls (lv_sub hl [2, 3, 4, 5, 6, 7] rfl)
      · skip
        refine lv_iconst (v := 0) hx hb dL_law_955 (by decide) ?_
        exfalso
        first | exact c_952 hth | exact c_952 ((lg_cmp_eq _ _).mpr (hvl c_935)) | exact c_952 ((lg_cmp_eq _ _).mpr (hvl c_942)) | exact c_952 ((lg_cmp_eq _ _).mpr (hvl c_952))
  · skip
    refine lv_iconst (v := 0) hx hb dL_law_938 (by decide) ?_
    exfalso
    first | exact c_935 hth | exact c_935 ((lg_cmp_eq _ _).mpr (hvl c_935))
set_option maxHeartbeats 4000000 in
set_option maxRecDepth 100000 in
theorem law_c14 {p : Program} {e : Env} {s : State} {m : MethodId} {below : List Frame} {meth : Method} {c : Code} (l : Launch) (hst : l.stackTraces = false) {b L : Nat} {xs : Nat → Int32} (hL : L ≤ 1536) (C0 : lw_At p s m meth c b L xs) (D : va_G) (cI cZ cJ cE : ClassId) (ad md : Nat → Nat) (ou od : Nat) (hK : kn D (tyL cI cZ cJ cE) s) (hX : xK s) (hZ : xZ (apS s) s s.heap) (hY : yN s) (cs sl i3 : Nat) (hcs : cs + 2 ≤ 1061) (hsl : sl + 12 ≤ 12206) (hi3 : i3 + 3 ≤ L) (hk : lwK p l e s m below meth c b D cI cZ cJ cE ad md ou od cs sl i3) (N A : Nat) (fl : Bool) (an nd wt B Hd : Nat → Int32) (O : Nat → Bool) (R : Nat) (HL LB : Nat → Int32) (SO NG WO : Nat → Bool) (SA SE : Nat) (th : Int32) (kw : Bool) (HM : Nat → Int32) (CO : Nat → Bool) (F : Nat → Int64) (G : Nat → UInt64) (hI : Inv N A fl nd wt B Hd O R HL LB SO NG WO SA SE kw HM CO) (H : Heap) (locs : List Loc) (hP : va_P D vwCl (wZ cI cZ cJ cE ad md ou od N A fl an nd wt B Hd O R HL LB SO NG WO SA SE th N A R kw an nd wt B Hd O HM CO F G) H) (hD : va_D (apS s) (wZ cI cZ cJ cE ad md ou od N A fl an nd wt B Hd O R HL LB SO NG WO SA SE th N A R kw an nd wt B Hd O HM CO F G)) (hS : va_S (apS s) s.heap H locs) (ls : Array Slot) (hl : lv_has ls 9 [(0, .ref b), (1, .ref (ad 0)), (2, .ref (md 0)), (3, .ref ou), (4, .ref od), (5, .int (nI i3))]) : W p l e room_1 s m #[Value.ref b] below meth c H locs cs sl (lw_Z below #[Value.ref b] s) (F0 m 960 ls []) := by
  obtain ⟨hx, hb, hr, hml, hown, hts, hXs, hbl, hlocks, hgv⟩ := id C0
  have hts := fun w h => hts w (wsL_law_in w h)
  have hb : c.code = cL_law := hb
  have hbA : ¬ apS s b := Nat.not_le.mpr hbl
  have hAp : ∀ q : Nat, s.heap.size ≤ q → apS s q := fun _ h => h
  obtain ⟨hn, hA, hR, hH, hN, hw, hsv, hkw⟩ := hI
  have hcc : ∀ k, k ≤ 2 → cs + k ≤ room_1.cells := fun k hk => Nat.le_trans (Nat.add_le_add_left hk cs) hcs
  have hss : ∀ k, k ≤ 12 → sl + k ≤ room_1.slots := fun k hk => Nat.le_trans (Nat.add_le_add_left hk sl) hsl
  refine lv_aload_n hx hb dL_law_960 rfl (lv_at hl 1 rfl) ?_
  refine lv_aload_n hx hb dL_law_961 rfl (lv_at hl 0 rfl) ?_
  refine lv_iload hx hb dL_law_962 (lv_at hl 5 rfl) ?_
  refine lv_iconst (v := 1) hx hb dL_law_964 (by decide) ?_
  refine lv_iadd hx hb dL_law_965 ?_
  rw [nI_1]
  refine sld_ (i := i3 + 1) hx hb hXs hbl hbA hS (by omega) hL dL_law_966 ?_
  refine lv_aload_n hx hb dL_law_967 rfl (lv_at hl 3 rfl) ?_
  refine mu_i (wr := [(md 0, .inr (3, [.int (th), .int (nI (N)), .ref (md 1), .int (nI (A)), .ref (md 2), .ref (md 3), .int (nI (R)), .ref (md 4), .ref (md 5), .ref (md 6), .int (bI (kw)), .ref (md 7), .ref (md 8)])), (md 1, .inl (cI, 24, .inl an)), (md 2, .inl (cI, 9, .inl nd)), (md 3, .inl (cI, 9, .inl wt)), (md 4, .inl (cI, 40, .inl B)), (md 5, .inl (cI, 40, .inl Hd)), (md 6, .inl (cZ, 40, .inl (fun j => bI (O j)))), (md 7, .inl (cI, 512, .inl HM)), (md 8, .inl (cZ, 512, .inl (fun j => bI (CO j)))), (od, .inl (cE, 1, .inr (.inr (.inr (.inl G)))))]) (vx_runSW (As := [.ref (ad 0), .int (xs (i3 + 1)), .ref (ou)]) (rest := []) ⟨hx, hb, hml, hown, hts⟩ (c_L_isConsistent l D cI cZ cJ cE ad ou (N) (A) (fl) (an) (nd) (wt) (B) (Hd) (O) (R) (HL) (LB) (SO) (NG) (WO) (SA) (SE) (F) (xs (i3 + 1)) (hA) (hR) hst (H).size) (vx_cwSW 3 hts gL_law_L_isConsistent rfl rfl rfl (by decide +kernel) ⟨Nat.le_of_ble_eq_true rfl, Nat.le_of_ble_eq_true rfl⟩) (prl_S (hP.sub (ws' := (wKL cI cZ cJ ad ou N A fl an nd wt B Hd O R HL LB SO NG WO SA SE F)) [0, 1, 2, 3, 4, 5, 6, 7, 8, 9, 10, 11, 12, 13, 23] rfl) (hD.sub (ws' := (wKL cI cZ cJ ad ou N A fl an nd wt B Hd O R HL LB SO NG WO SA SE F)) [0, 1, 2, 3, 4, 5, 6, 7, 8, 9, 10, 11, 12, 13, 23] (by decide) rfl) hK hX hZ hY hS (va_free (wc := (wKL cI cZ cJ ad ou N A fl an nd wt B Hd O R HL LB SO NG WO SA SE F)) hD hS hAp [0, 1, 2, 3, 4, 5, 6, 7, 8, 9, 10, 11, 12, 13, 23] rfl)) rfl rfl hl.1 rfl (lv_room (Nat.le_of_ble_eq_true rfl)) dL_law_968 ⟨hcc 1 (by decide), hss 6 (by decide)⟩) hP hD hS hAp [0, 1, 2, 3, 4, 5, 6, 7, 8, 9, 10, 11, 12, 13, 23] [14, 15, 16, 17, 18, 19, 20, 21, 22, 24] rfl rfl (by decide) (by decide) (fun r_968 u_968 H locs hq_968 hP hD hS => ?_)
  obtain ⟨F9_968, rfl⟩ : ∃ z, z = u_968 := ⟨_, rfl⟩
  obtain ⟨hpo_968, -⟩ := hq_968
  have hP : va_P D vwCl (wZ cI cZ cJ cE ad md ou od N A fl an nd wt B Hd O R HL LB SO NG WO SA SE th N A R kw an nd wt B Hd O HM CO F9_968 G) H := hP.sub [10, 11, 12, 13, 14, 15, 16, 17, 18, 19, 20, 21, 22, 23, 0, 1, 2, 3, 4, 5, 6, 7, 8, 24, 9] rfl
  have hD : va_D (apS s) (wZ cI cZ cJ cE ad md ou od N A fl an nd wt B Hd O R HL LB SO NG WO SA SE th N A R kw an nd wt B Hd O HM CO F9_968 G) := hD.sub [10, 11, 12, 13, 14, 15, 16, 17, 18, 19, 20, 21, 22, 23, 0, 1, 2, 3, 4, 5, 6, 7, 8, 24, 9] (by decide) rfl
  refine W.widen (k := cs + 2) (n := sl + 12) (Nat.add_le_add_left (by decide) cs) (Nat.add_le_add_left (by decide) sl) ?_
  refine lv_istore (lv' := [(6, .int (r_968)), (0, .ref (b)), (1, .ref (ad 0)), (2, .ref (md 0)), (3, .ref (ou)), (4, .ref (od)), (5, .int (nI (i3)))]) hx hb dL_law_971 hl (by decide) rfl (fun ls hl => ?_)
  refine lv_aload_n hx hb dL_law_973 rfl (lv_at hl 3 rfl) ?_
  refine lv_aload_n hx hb dL_law_974 rfl (lv_at hl 1 rfl) ?_
  refine lv_iload hx hb dL_law_975 (lv_at hl 6 rfl) ?_
  refine lv_iconst (v := 1) hx hb dL_law_977 (by decide) ?_
  refine lv_iadd hx hb dL_law_978 ?_
  rw [nI_1]
  refine sld_ (i := i3 + 1) hx hb hXs hbl hbA hS (by omega) hL dL_law_979 ?_
  refine mu_i (wr := [(ad 0, .inr (2, [.ref (ad 1), .ref (ad 2), .ref (ad 3), .ref (ad 4), .ref (ad 8), .int (nI (N)), .int (nI (A)), .int (bI (fl))])), (ad 1, .inl (cI, 24, .inl an)), (ad 2, .inl (cI, 9, .inl nd)), (ad 3, .inl (cI, 9, .inl wt)), (ad 4, .inr (0, [.ref (ad 5), .ref (ad 6), .ref (ad 7), .int (nI (R))])), (ad 5, .inl (cI, 40, .inl B)), (ad 6, .inl (cI, 40, .inl Hd)), (ad 7, .inl (cZ, 40, .inl (fun j => bI (O j)))), (ad 8, .inr (1, [.ref (ad 9), .ref (ad 10), .ref (ad 11), .ref (ad 12), .ref (ad 13), .int (nI (SA)), .int (nI (SE))])), (ad 9, .inl (cI, 512, .inl HL)), (ad 10, .inl (cI, 512, .inl LB)), (ad 11, .inl (cZ, 512, .inl (fun j => bI (SO j)))), (ad 12, .inl (cZ, 512, .inl (fun j => bI (NG j)))), (ad 13, .inl (cZ, 512, .inl (fun j => bI (WO j)))), (ou, .inl (cJ, 1, .inr (.inl F9_968))), (od, .inl (cE, 1, .inr (.inr (.inr (.inl G)))))]) (va_runV (As := [.int (xs (i3 + 1))]) (rest := []) ⟨hx, hb, hml, hown, hts⟩ (c_X3_isConsistent l D cI cZ md (th) (N) (A) (R) (kw) (an) (nd) (wt) (B) (Hd) (O) (HM) (CO) (xs (i3 + 1)) (hA) (hR) (hn) (hH) (hN) (hkw) (H).size) (cwV 1 hts gL_law_X3_isConsistent rfl rfl rfl (by decide +kernel) ⟨Nat.le_of_ble_eq_true rfl, Nat.le_of_ble_eq_true rfl⟩) (prw_V (q0 := 0) (ci := 3) (hP.sub (ws' := (wM cI cZ md th N A R kw an nd wt B Hd O HM CO)) [14, 15, 16, 17, 18, 19, 20, 21, 22] rfl) (hD.sub (ws' := (wM cI cZ md th N A R kw an nd wt B Hd O HM CO)) [14, 15, 16, 17, 18, 19, 20, 21, 22] (by decide) rfl) (hK.sub [0, 1] rfl) rfl rfl) rfl rfl hl.1 rfl (lv_room (Nat.le_of_ble_eq_true rfl)) dL_law_980 ⟨hcc 2 (by decide), hss 12 (by decide)⟩) hP hD hS hAp [14, 15, 16, 17, 18, 19, 20, 21, 22] [0, 1, 2, 3, 4, 5, 6, 7, 8, 9, 10, 11, 12, 13, 23, 24] rfl rfl (by decide) (by decide) (fun r_980 u_980 H locs hq_980 hP hD hS => ?_)
  obtain ⟨th9_980, HL9_980, CO9_980, kw9_980⟩ := u_980
  obtain ⟨hthp_980, hknp_980, hval_980, -⟩ := hq_980
  have hthp_980 : th9_980 = tB (inS (xs (i3 + 1)) A) := hthp_980
  have hknp_980 : kw9_980 = true → knOK B Hd O R nd A HL9_980 CO9_980 := hknp_980
  have hval_980 : inS (xs (i3 + 1)) A = true → r_980 = bI (!(ct B Hd O R (clo B Hd O R (bg nd (xs (i3 + 1)) A)))) := hval_980
  have hP : va_P D vwCl (wZ cI cZ cJ cE ad md ou od N A fl an nd wt B Hd O R HL LB SO NG WO SA SE th9_980 N A R kw9_980 an nd wt B Hd O HL9_980 CO9_980 F9_968 G) H := hP.sub [0, 1, 2, 3, 4, 5, 6, 7, 8, 9, 10, 11, 12, 13, 16, 17, 18, 19, 20, 21, 22, 23, 24, 14, 15] rfl
  have hD : va_D (apS s) (wZ cI cZ cJ cE ad md ou od N A fl an nd wt B Hd O R HL LB SO NG WO SA SE th9_980 N A R kw9_980 an nd wt B Hd O HL9_980 CO9_980 F9_968 G) := hD.sub [0, 1, 2, 3, 4, 5, 6, 7, 8, 9, 10, 11, 12, 13, 16, 17, 18, 19, 20, 21, 22, 23, 24, 14, 15] (by decide) rfl
  refine lv_istore (lv' := [(7, .int (r_980)), (6, .int (r_968)), (0, .ref (b)), (1, .ref (ad 0)), (2, .ref (md 0)), (3, .ref (ou)), (4, .ref (od)), (5, .int (nI (i3)))]) hx hb dL_law_983 hl (by decide) rfl (fun ls hl => ?_)
  have hAG : ((th9_980) = r_968) ∧ ((r_968 = 0 → (r_980 = 0 → F9_968 0 = 0) ∧ (¬ r_980 = 0 → F9_968 0 = 1))) ∧ (Inv N A fl nd wt B Hd O R HL LB SO NG WO SA SE kw9_980 HL9_980 CO9_980) := by
    rcases hpo_968 with ⟨ha, rr, h1, h2, h4⟩ | ⟨ha, h2⟩
    · exact ⟨by rw [hthp_980, h2, ha]; rfl, fun _ => zz_ h4 h1 (hval_980 h2), ⟨hn, hA, hR, hH, hN, hw, hsv, hknp_980⟩⟩
    · exact ⟨by rw [hthp_980, h2, ha]; rfl, fun h0 => absurd (ha.symm.trans h0) (by decide), ⟨hn, hA, hR, hH, hN, hw, hsv, hknp_980⟩⟩
  obtain ⟨hth, hvl, hI2⟩ := hAG
  refine lv_aload_n hx hb dL_law_985 rfl (lv_at hl 4 rfl) ?_
  refine pu_i (va_runV (As := []) (rest := []) ⟨hx, hb, hml, hown, hts⟩ (c_X3_thrown l D cI cZ md (th9_980) (N) (A) (R) (kw9_980) (an) (nd) (wt) (B) (Hd) (O) (HL9_980) (CO9_980) ) (cwV 0 hts gL_law_X3_thrown rfl rfl rfl (by decide +kernel) ⟨Nat.le_of_ble_eq_true rfl, Nat.le_of_ble_eq_true rfl⟩) (pre_V (q0 := 0) (ci := 3) (hP.sub (ws' := (wM cI cZ md th9_980 N A R kw9_980 an nd wt B Hd O HL9_980 CO9_980)) [14, 15, 16, 17, 18, 19, 20, 21, 22] rfl) (hK.sub [0, 1] rfl) rfl rfl) rfl rfl hl.1 rfl (lv_room (Nat.le_of_ble_eq_true rfl)) dL_law_986 ⟨hcc 2 (by decide), hss 12 (by decide)⟩) ?_
  refine lv_iload hx hb dL_law_989 (lv_at hl 1 rfl) ?_
  refine lv_icmp_eq (tgt := 996) hx hb dL_law_991 (by decide) (fun c_991 => ?_) (fun c_991 => ?_)
  · skip
    refine lv_iload hx hb dL_law_996 (lv_at hl 1 rfl) ?_
    refine lv_if_ne (tgt := 1020) hx hb dL_law_998 (by decide) (fun c_998 => ?_) (fun c_998 => ?_)
    · skip
      refine lv_goto (tgt := 1862) hx hb dL_law_1020 (by decide) ?_
      exact hk (N) (A) (fl) (an) (nd) (wt) (B) (Hd) (O) (R) (HL) (LB) (SO) (NG) (WO) (SA) (SE) (th9_980) (kw9_980) (HL9_980) (CO9_980) (F9_968) (G) _ _ hI2 hP hD hS ls (lv_sub hl [2, 3, 4, 5, 6, 7] rfl)
    · skip
      refine lv_aload_n hx hb dL_law_1001 rfl (lv_at hl 5 rfl) ?_
      refine lv_iconst (v := 0) hx hb dL_law_1002 (by decide) ?_
      refine ll_0 (D := D) (f := F9_968) hx hb hK hP 23 2 rfl rfl dL_law_1003 ?_
      refine lv_iload hx hb dL_law_1004 (lv_at hl 0 rfl) ?_
      refine lv_if_eq (tgt := 1013) hx hb dL_law_1006 (by decide) (fun c_1006 => ?_) (fun c_1006 => ?_)
      · skip
        refine lv_lconst (v := 0) hx hb dL_law_1013 rfl ?_
        refine W.lcmp hx hb dL_law_1014 ?_
        refine lv_if_eq (tgt := 1020) hx hb dL_law_1015 (by decide) (fun c_1015 => ?_) (fun c_1015 => ?_)
        · skip
          refine lv_goto (tgt := 1862) hx hb dL_law_1020 (by decide) ?_
          exact hk (N) (A) (fl) (an) (nd) (wt) (B) (Hd) (O) (R) (HL) (LB) (SO) (NG) (WO) (SA) (SE) (th9_980) (kw9_980) (HL9_980) (CO9_980) (F9_968) (G) _ _ hI2 hP hD hS ls (lv_sub hl [2, 3, 4, 5, 6, 7] rfl)
        · skip
          refine lv_iconst (v := 0) hx hb dL_law_1018 (by decide) ?_
          exfalso
          first | exact c_1015 hth | exact c_1015 ((lg_cmp_eq _ _).mpr (hvl c_991)) | exact c_1015 ((lg_cmp_eq _ _).mpr ((hvl c_991).1 c_991)) | exact c_1015 ((lg_cmp_eq _ _).mpr ((hvl c_991).2 c_991)) | exact c_1015 ((lg_cmp_eq _ _).mpr ((hvl c_991).1 c_998)) | exact c_1015 ((lg_cmp_eq _ _).mpr ((hvl c_991).2 c_998)) | exact c_1015 ((lg_cmp_eq _ _).mpr ((hvl c_991).1 c_1006)) | exact c_1015 ((lg_cmp_eq _ _).mpr ((hvl c_991).2 c_1006)) | exact c_1015 ((lg_cmp_eq _ _).mpr ((hvl c_991).1 c_1015)) | exact c_1015 ((lg_cmp_eq _ _).mpr ((hvl c_991).2 c_1015)) | exact c_1015 ((lg_cmp_eq _ _).mpr (hvl c_998)) | exact c_1015 ((lg_cmp_eq _ _).mpr ((hvl c_998).1 c_991)) | exact c_1015 ((lg_cmp_eq _ _).mpr ((hvl c_998).2 c_991)) | exact c_1015 ((lg_cmp_eq _ _).mpr ((hvl c_998).1 c_998)) | exact c_1015 ((lg_cmp_eq _ _).mpr ((hvl c_998).2 c_998)) | exact c_1015 ((lg_cmp_eq _ _).mpr ((hvl c_998).1 c_1006)) | exact c_1015 ((lg_cmp_eq _ _).mpr ((hvl c_998).2 c_1006)) | exact c_1015 ((lg_cmp_eq _ _).mpr ((hvl c_998).1 c_1015)) | exact c_1015 ((lg_cmp_eq _ _).mpr ((hvl c_998).2 c_1015)) | exact c_1015 ((lg_cmp_eq _ _).mpr (hvl c_1006)) | exact c_1015 ((lg_cmp_eq _ _).mpr ((hvl c_1006).1 c_991)) | exact c_1015 ((lg_cmp_eq _ _).mpr ((hvl c_1006).2 c_991)) | exact c_1015 ((lg_cmp_eq _ _).mpr ((hvl c_1006).1 c_998)) | exact c_1015 ((lg_cmp_eq _ _).mpr ((hvl c_1006).2 c_998)) | exact c_1015 ((lg_cmp_eq _ _).mpr ((hvl c_1006).1 c_1006)) | exact c_1015 ((lg_cmp_eq _ _).mpr ((hvl c_1006).2 c_1006)) | exact c_1015 ((lg_cmp_eq _ _).mpr ((hvl c_1006).1 c_1015)) | exact c_1015 ((lg_cmp_eq _ _).mpr ((hvl c_1006).2 c_1015)) | exact c_1015 ((lg_cmp_eq _ _).mpr (hvl c_1015)) | exact c_1015 ((lg_cmp_eq _ _).mpr ((hvl c_1015).1 c_991)) | exact c_1015 ((lg_cmp_eq _ _).mpr ((hvl c_1015).2 c_991)) | exact c_1015 ((lg_cmp_eq _ _).mpr ((hvl c_1015).1 c_998)) | exact c_1015 ((lg_cmp_eq _ _).mpr ((hvl c_1015).2 c_998)) | exact c_1015 ((lg_cmp_eq _ _).mpr ((hvl c_1015).1 c_1006)) | exact c_1015 ((lg_cmp_eq _ _).mpr ((hvl c_1015).2 c_1006)) | exact c_1015 ((lg_cmp_eq _ _).mpr ((hvl c_1015).1 c_1015)) | exact c_1015 ((lg_cmp_eq _ _).mpr ((hvl c_1015).2 c_1015))
      · skip
        refine lv_lconst (v := 1) hx hb dL_law_1009 rfl ?_
        refine lv_goto (tgt := 1014) hx hb dL_law_1010 (by decide) ?_
        refine W.lcmp hx hb dL_law_1014 ?_
        refine lv_if_eq (tgt := 1020) hx hb dL_law_1015 (by decide) (fun c_1015 => ?_) (fun c_1015 => ?_)
        · skip
          refine lv_goto (tgt := 1862) hx hb dL_law_1020 (by decide) ?_
          exact hk (N) (A) (fl) (an) (nd) (wt) (B) (Hd) (O) (R) (HL) (LB) (SO) (NG) (WO) (SA) (SE) (th9_980) (kw9_980) (HL9_980) (CO9_980) (F9_968) (G) _ _ hI2 hP hD hS ls (lv_sub hl [2, 3, 4, 5, 6, 7] rfl)
        · skip
          refine lv_iconst (v := 0) hx hb dL_law_1018 (by decide) ?_
          exfalso
          first | exact c_1015 hth | exact c_1015 ((lg_cmp_eq _ _).mpr (hvl c_991)) | exact c_1015 ((lg_cmp_eq _ _).mpr ((hvl c_991).1 c_991)) | exact c_1015 ((lg_cmp_eq _ _).mpr ((hvl c_991).2 c_991)) | exact c_1015 ((lg_cmp_eq _ _).mpr ((hvl c_991).1 c_998)) | exact c_1015 ((lg_cmp_eq _ _).mpr ((hvl c_991).2 c_998)) | exact c_1015 ((lg_cmp_eq _ _).mpr ((hvl c_991).1 c_1006)) | exact c_1015 ((lg_cmp_eq _ _).mpr ((hvl c_991).2 c_1006)) | exact c_1015 ((lg_cmp_eq _ _).mpr ((hvl c_991).1 c_1015)) | exact c_1015 ((lg_cmp_eq _ _).mpr ((hvl c_991).2 c_1015)) | exact c_1015 ((lg_cmp_eq _ _).mpr (hvl c_998)) | exact c_1015 ((lg_cmp_eq _ _).mpr ((hvl c_998).1 c_991)) | exact c_1015 ((lg_cmp_eq _ _).mpr ((hvl c_998).2 c_991)) | exact c_1015 ((lg_cmp_eq _ _).mpr ((hvl c_998).1 c_998)) | exact c_1015 ((lg_cmp_eq _ _).mpr ((hvl c_998).2 c_998)) | exact c_1015 ((lg_cmp_eq _ _).mpr ((hvl c_998).1 c_1006)) | exact c_1015 ((lg_cmp_eq _ _).mpr ((hvl c_998).2 c_1006)) | exact c_1015 ((lg_cmp_eq _ _).mpr ((hvl c_998).1 c_1015)) | exact c_1015 ((lg_cmp_eq _ _).mpr ((hvl c_998).2 c_1015)) | exact c_1015 ((lg_cmp_eq _ _).mpr (hvl c_1006)) | exact c_1015 ((lg_cmp_eq _ _).mpr ((hvl c_1006).1 c_991)) | exact c_1015 ((lg_cmp_eq _ _).mpr ((hvl c_1006).2 c_991)) | exact c_1015 ((lg_cmp_eq _ _).mpr ((hvl c_1006).1 c_998)) | exact c_1015 ((lg_cmp_eq _ _).mpr ((hvl c_1006).2 c_998)) | exact c_1015 ((lg_cmp_eq _ _).mpr ((hvl c_1006).1 c_1006)) | exact c_1015 ((lg_cmp_eq _ _).mpr ((hvl c_1006).2 c_1006)) | exact c_1015 ((lg_cmp_eq _ _).mpr ((hvl c_1006).1 c_1015)) | exact c_1015 ((lg_cmp_eq _ _).mpr ((hvl c_1006).2 c_1015)) | exact c_1015 ((lg_cmp_eq _ _).mpr (hvl c_1015)) | exact c_1015 ((lg_cmp_eq _ _).mpr ((hvl c_1015).1 c_991)) | exact c_1015 ((lg_cmp_eq _ _).mpr ((hvl c_1015).2 c_991)) | exact c_1015 ((lg_cmp_eq _ _).mpr ((hvl c_1015).1 c_998)) | exact c_1015 ((lg_cmp_eq _ _).mpr ((hvl c_1015).2 c_998)) | exact c_1015 ((lg_cmp_eq _ _).mpr ((hvl c_1015).1 c_1006)) | exact c_1015 ((lg_cmp_eq _ _).mpr ((hvl c_1015).2 c_1006)) | exact c_1015 ((lg_cmp_eq _ _).mpr ((hvl c_1015).1 c_1015)) | exact c_1015 ((lg_cmp_eq _ _).mpr ((hvl c_1015).2 c_1015))
  · skip
    refine lv_iconst (v := 0) hx hb dL_law_994 (by decide) ?_
    exfalso
    first | exact c_991 hth | exact c_991 ((lg_cmp_eq _ _).mpr (hvl c_991)) | exact c_991 ((lg_cmp_eq _ _).mpr ((hvl c_991).1 c_991)) | exact c_991 ((lg_cmp_eq _ _).mpr ((hvl c_991).2 c_991))
set_option maxHeartbeats 4000000 in
set_option maxRecDepth 100000 in
theorem law_c15 {p : Program} {e : Env} {s : State} {m : MethodId} {below : List Frame} {meth : Method} {c : Code} (l : Launch) (hst : l.stackTraces = false) {b L : Nat} {xs : Nat → Int32} (hL : L ≤ 1536) (C0 : lw_At p s m meth c b L xs) (D : va_G) (cI cZ cJ cE : ClassId) (ad md : Nat → Nat) (ou od : Nat) (hK : kn D (tyL cI cZ cJ cE) s) (hX : xK s) (hZ : xZ (apS s) s s.heap) (hY : yN s) (cs sl i3 : Nat) (hcs : cs + 2 ≤ 1061) (hsl : sl + 12 ≤ 12206) (hi3 : i3 + 3 ≤ L) (hk : lwK p l e s m below meth c b D cI cZ cJ cE ad md ou od cs sl i3) (N A : Nat) (fl : Bool) (an nd wt B Hd : Nat → Int32) (O : Nat → Bool) (R : Nat) (HL LB : Nat → Int32) (SO NG WO : Nat → Bool) (SA SE : Nat) (th : Int32) (kw : Bool) (HM : Nat → Int32) (CO : Nat → Bool) (F : Nat → Int64) (G : Nat → UInt64) (hI : Inv N A fl nd wt B Hd O R HL LB SO NG WO SA SE kw HM CO) (H : Heap) (locs : List Loc) (hP : va_P D vwCl (wZ cI cZ cJ cE ad md ou od N A fl an nd wt B Hd O R HL LB SO NG WO SA SE th N A R kw an nd wt B Hd O HM CO F G) H) (hD : va_D (apS s) (wZ cI cZ cJ cE ad md ou od N A fl an nd wt B Hd O R HL LB SO NG WO SA SE th N A R kw an nd wt B Hd O HM CO F G)) (hS : va_S (apS s) s.heap H locs) (ls : Array Slot) (hl : lv_has ls 9 [(0, .ref b), (1, .ref (ad 0)), (2, .ref (md 0)), (3, .ref ou), (4, .ref od), (5, .int (nI i3))]) : W p l e room_1 s m #[Value.ref b] below meth c H locs cs sl (lw_Z below #[Value.ref b] s) (F0 m 1023 ls []) := by
  obtain ⟨hx, hb, hr, hml, hown, hts, hXs, hbl, hlocks, hgv⟩ := id C0
  have hts := fun w h => hts w (wsL_law_in w h)
  have hb : c.code = cL_law := hb
  have hbA : ¬ apS s b := Nat.not_le.mpr hbl
  have hAp : ∀ q : Nat, s.heap.size ≤ q → apS s q := fun _ h => h
  obtain ⟨hn, hA, hR, hH, hN, hw, hsv, hkw⟩ := hI
  have hcc : ∀ k, k ≤ 2 → cs + k ≤ room_1.cells := fun k hk => Nat.le_trans (Nat.add_le_add_left hk cs) hcs
  have hss : ∀ k, k ≤ 12 → sl + k ≤ room_1.slots := fun k hk => Nat.le_trans (Nat.add_le_add_left hk sl) hsl
  refine lv_aload_n hx hb dL_law_1023 rfl (lv_at hl 1 rfl) ?_
  refine lv_aload_n hx hb dL_law_1024 rfl (lv_at hl 0 rfl) ?_
  refine lv_iload hx hb dL_law_1025 (lv_at hl 5 rfl) ?_
  refine lv_iconst (v := 1) hx hb dL_law_1027 (by decide) ?_
  refine lv_iadd hx hb dL_law_1028 ?_
  rw [nI_1]
  refine sld_ (i := i3 + 1) hx hb hXs hbl hbA hS (by omega) hL dL_law_1029 ?_
  refine lv_aload_n hx hb dL_law_1030 rfl (lv_at hl 3 rfl) ?_
  refine mu_i (wr := [(md 0, .inr (3, [.int (th), .int (nI (N)), .ref (md 1), .int (nI (A)), .ref (md 2), .ref (md 3), .int (nI (R)), .ref (md 4), .ref (md 5), .ref (md 6), .int (bI (kw)), .ref (md 7), .ref (md 8)])), (md 1, .inl (cI, 24, .inl an)), (md 2, .inl (cI, 9, .inl nd)), (md 3, .inl (cI, 9, .inl wt)), (md 4, .inl (cI, 40, .inl B)), (md 5, .inl (cI, 40, .inl Hd)), (md 6, .inl (cZ, 40, .inl (fun j => bI (O j)))), (md 7, .inl (cI, 512, .inl HM)), (md 8, .inl (cZ, 512, .inl (fun j => bI (CO j)))), (od, .inl (cE, 1, .inr (.inr (.inr (.inl G)))))]) (vx_runSW (As := [.ref (ad 0), .int (xs (i3 + 1)), .ref (ou)]) (rest := []) ⟨hx, hb, hml, hown, hts⟩ (c_L_cost l D cI cZ cJ cE ad ou (N) (A) (fl) (an) (nd) (wt) (B) (Hd) (O) (R) (HL) (LB) (SO) (NG) (WO) (SA) (SE) (F) (xs (i3 + 1)) (hA) hst (H).size) (vx_cwSW 3 hts gL_law_L_cost rfl rfl rfl (by decide +kernel) ⟨Nat.le_of_ble_eq_true rfl, Nat.le_of_ble_eq_true rfl⟩) (prl_S (hP.sub (ws' := (wKL cI cZ cJ ad ou N A fl an nd wt B Hd O R HL LB SO NG WO SA SE F)) [0, 1, 2, 3, 4, 5, 6, 7, 8, 9, 10, 11, 12, 13, 23] rfl) (hD.sub (ws' := (wKL cI cZ cJ ad ou N A fl an nd wt B Hd O R HL LB SO NG WO SA SE F)) [0, 1, 2, 3, 4, 5, 6, 7, 8, 9, 10, 11, 12, 13, 23] (by decide) rfl) hK hX hZ hY hS (va_free (wc := (wKL cI cZ cJ ad ou N A fl an nd wt B Hd O R HL LB SO NG WO SA SE F)) hD hS hAp [0, 1, 2, 3, 4, 5, 6, 7, 8, 9, 10, 11, 12, 13, 23] rfl)) rfl rfl hl.1 rfl (lv_room (Nat.le_of_ble_eq_true rfl)) dL_law_1031 ⟨hcc 1 (by decide), hss 6 (by decide)⟩) hP hD hS hAp [0, 1, 2, 3, 4, 5, 6, 7, 8, 9, 10, 11, 12, 13, 23] [14, 15, 16, 17, 18, 19, 20, 21, 22, 24] rfl rfl (by decide) (by decide) (fun r_1031 u_1031 H locs hq_1031 hP hD hS => ?_)
  obtain ⟨F9_1031, rfl⟩ : ∃ z, z = u_1031 := ⟨_, rfl⟩
  obtain ⟨hpo_1031, -⟩ := hq_1031
  have hP : va_P D vwCl (wZ cI cZ cJ cE ad md ou od N A fl an nd wt B Hd O R HL LB SO NG WO SA SE th N A R kw an nd wt B Hd O HM CO F9_1031 G) H := hP.sub [10, 11, 12, 13, 14, 15, 16, 17, 18, 19, 20, 21, 22, 23, 0, 1, 2, 3, 4, 5, 6, 7, 8, 24, 9] rfl
  have hD : va_D (apS s) (wZ cI cZ cJ cE ad md ou od N A fl an nd wt B Hd O R HL LB SO NG WO SA SE th N A R kw an nd wt B Hd O HM CO F9_1031 G) := hD.sub [10, 11, 12, 13, 14, 15, 16, 17, 18, 19, 20, 21, 22, 23, 0, 1, 2, 3, 4, 5, 6, 7, 8, 24, 9] (by decide) rfl
  refine W.widen (k := cs + 2) (n := sl + 12) (Nat.add_le_add_left (by decide) cs) (Nat.add_le_add_left (by decide) sl) ?_
  refine lv_istore (lv' := [(6, .int (r_1031)), (0, .ref (b)), (1, .ref (ad 0)), (2, .ref (md 0)), (3, .ref (ou)), (4, .ref (od)), (5, .int (nI (i3)))]) hx hb dL_law_1034 hl (by decide) rfl (fun ls hl => ?_)
  refine lv_aload_n hx hb dL_law_1036 rfl (lv_at hl 3 rfl) ?_
  refine lv_aload_n hx hb dL_law_1037 rfl (lv_at hl 1 rfl) ?_
  refine lv_iload hx hb dL_law_1038 (lv_at hl 6 rfl) ?_
  refine lv_iconst (v := 1) hx hb dL_law_1040 (by decide) ?_
  refine lv_iadd hx hb dL_law_1041 ?_
  rw [nI_1]
  refine sld_ (i := i3 + 1) hx hb hXs hbl hbA hS (by omega) hL dL_law_1042 ?_
  refine mu_i (wr := [(ad 0, .inr (2, [.ref (ad 1), .ref (ad 2), .ref (ad 3), .ref (ad 4), .ref (ad 8), .int (nI (N)), .int (nI (A)), .int (bI (fl))])), (ad 1, .inl (cI, 24, .inl an)), (ad 2, .inl (cI, 9, .inl nd)), (ad 3, .inl (cI, 9, .inl wt)), (ad 4, .inr (0, [.ref (ad 5), .ref (ad 6), .ref (ad 7), .int (nI (R))])), (ad 5, .inl (cI, 40, .inl B)), (ad 6, .inl (cI, 40, .inl Hd)), (ad 7, .inl (cZ, 40, .inl (fun j => bI (O j)))), (ad 8, .inr (1, [.ref (ad 9), .ref (ad 10), .ref (ad 11), .ref (ad 12), .ref (ad 13), .int (nI (SA)), .int (nI (SE))])), (ad 9, .inl (cI, 512, .inl HL)), (ad 10, .inl (cI, 512, .inl LB)), (ad 11, .inl (cZ, 512, .inl (fun j => bI (SO j)))), (ad 12, .inl (cZ, 512, .inl (fun j => bI (NG j)))), (ad 13, .inl (cZ, 512, .inl (fun j => bI (WO j)))), (ou, .inl (cJ, 1, .inr (.inl F9_1031))), (od, .inl (cE, 1, .inr (.inr (.inr (.inl G)))))]) (va_runV (As := [.int (xs (i3 + 1))]) (rest := []) ⟨hx, hb, hml, hown, hts⟩ (c_X3_cost l D cI cZ md (th) (N) (A) (R) (kw) (an) (nd) (wt) (B) (Hd) (O) (HM) (CO) (xs (i3 + 1)) (hA) (hR) (hn) (hH) (hN) (hkw) (H).size) (cwV 1 hts gL_law_X3_cost rfl rfl rfl (by decide +kernel) ⟨Nat.le_of_ble_eq_true rfl, Nat.le_of_ble_eq_true rfl⟩) (prw_V (q0 := 0) (ci := 3) (hP.sub (ws' := (wM cI cZ md th N A R kw an nd wt B Hd O HM CO)) [14, 15, 16, 17, 18, 19, 20, 21, 22] rfl) (hD.sub (ws' := (wM cI cZ md th N A R kw an nd wt B Hd O HM CO)) [14, 15, 16, 17, 18, 19, 20, 21, 22] (by decide) rfl) (hK.sub [0, 1] rfl) rfl rfl) rfl rfl hl.1 rfl (lv_room (Nat.le_of_ble_eq_true rfl)) dL_law_1043 ⟨hcc 2 (by decide), hss 12 (by decide)⟩) hP hD hS hAp [14, 15, 16, 17, 18, 19, 20, 21, 22] [0, 1, 2, 3, 4, 5, 6, 7, 8, 9, 10, 11, 12, 13, 23, 24] rfl rfl (by decide) (by decide) (fun r_1043 u_1043 H locs hq_1043 hP hD hS => ?_)
  obtain ⟨th9_1043, HL9_1043, CO9_1043, kw9_1043⟩ := u_1043
  obtain ⟨hthp_1043, hknp_1043, hval_1043, -⟩ := hq_1043
  have hthp_1043 : th9_1043 = tB (inS (xs (i3 + 1)) A) := hthp_1043
  have hknp_1043 : kw9_1043 = true → knOK B Hd O R nd A HL9_1043 CO9_1043 := hknp_1043
  have hval_1043 : inS (xs (i3 + 1)) A = true → r_1043 = wo wt (xs (i3 + 1)) A := hval_1043
  have hP : va_P D vwCl (wZ cI cZ cJ cE ad md ou od N A fl an nd wt B Hd O R HL LB SO NG WO SA SE th9_1043 N A R kw9_1043 an nd wt B Hd O HL9_1043 CO9_1043 F9_1031 G) H := hP.sub [0, 1, 2, 3, 4, 5, 6, 7, 8, 9, 10, 11, 12, 13, 16, 17, 18, 19, 20, 21, 22, 23, 24, 14, 15] rfl
  have hD : va_D (apS s) (wZ cI cZ cJ cE ad md ou od N A fl an nd wt B Hd O R HL LB SO NG WO SA SE th9_1043 N A R kw9_1043 an nd wt B Hd O HL9_1043 CO9_1043 F9_1031 G) := hD.sub [0, 1, 2, 3, 4, 5, 6, 7, 8, 9, 10, 11, 12, 13, 16, 17, 18, 19, 20, 21, 22, 23, 24, 14, 15] (by decide) rfl
  refine lv_istore (lv' := [(7, .int (r_1043)), (6, .int (r_1031)), (0, .ref (b)), (1, .ref (ad 0)), (2, .ref (md 0)), (3, .ref (ou)), (4, .ref (od)), (5, .int (nI (i3)))]) hx hb dL_law_1046 hl (by decide) rfl (fun ls hl => ?_)
  have hAG : ((th9_1043) = r_1031) ∧ ((r_1031 = 0 → F9_1031 0 = (r_1043).toInt64)) ∧ (Inv N A fl nd wt B Hd O R HL LB SO NG WO SA SE kw9_1043 HL9_1043 CO9_1043) := by
    rcases hpo_1031 with ⟨ha, rr, h1, h2, h4⟩ | ⟨ha, h2⟩
    · exact ⟨by rw [hthp_1043, h2, ha]; rfl, fun _ => by rw [h4, h1, hval_1043 h2], ⟨hn, hA, hR, hH, hN, hw, hsv, hknp_1043⟩⟩
    · exact ⟨by rw [hthp_1043, h2, ha]; rfl, fun h0 => absurd (ha.symm.trans h0) (by decide), ⟨hn, hA, hR, hH, hN, hw, hsv, hknp_1043⟩⟩
  obtain ⟨hth, hvl, hI2⟩ := hAG
  refine lv_aload_n hx hb dL_law_1048 rfl (lv_at hl 4 rfl) ?_
  refine pu_i (va_runV (As := []) (rest := []) ⟨hx, hb, hml, hown, hts⟩ (c_X3_thrown l D cI cZ md (th9_1043) (N) (A) (R) (kw9_1043) (an) (nd) (wt) (B) (Hd) (O) (HL9_1043) (CO9_1043) ) (cwV 0 hts gL_law_X3_thrown rfl rfl rfl (by decide +kernel) ⟨Nat.le_of_ble_eq_true rfl, Nat.le_of_ble_eq_true rfl⟩) (pre_V (q0 := 0) (ci := 3) (hP.sub (ws' := (wM cI cZ md th9_1043 N A R kw9_1043 an nd wt B Hd O HL9_1043 CO9_1043)) [14, 15, 16, 17, 18, 19, 20, 21, 22] rfl) (hK.sub [0, 1] rfl) rfl rfl) rfl rfl hl.1 rfl (lv_room (Nat.le_of_ble_eq_true rfl)) dL_law_1049 ⟨hcc 2 (by decide), hss 12 (by decide)⟩) ?_
  refine lv_iload hx hb dL_law_1052 (lv_at hl 1 rfl) ?_
  refine lv_icmp_eq (tgt := 1059) hx hb dL_law_1054 (by decide) (fun c_1054 => ?_) (fun c_1054 => ?_)
  · skip
    refine lv_iload hx hb dL_law_1059 (lv_at hl 1 rfl) ?_
    refine lv_if_ne (tgt := 1076) hx hb dL_law_1061 (by decide) (fun c_1061 => ?_) (fun c_1061 => ?_)
    · skip
      refine lv_goto (tgt := 1862) hx hb dL_law_1076 (by decide) ?_
      exact hk (N) (A) (fl) (an) (nd) (wt) (B) (Hd) (O) (R) (HL) (LB) (SO) (NG) (WO) (SA) (SE) (th9_1043) (kw9_1043) (HL9_1043) (CO9_1043) (F9_1031) (G) _ _ hI2 hP hD hS ls (lv_sub hl [2, 3, 4, 5, 6, 7] rfl)
    · skip
      refine lv_aload_n hx hb dL_law_1064 rfl (lv_at hl 5 rfl) ?_
      refine lv_iconst (v := 0) hx hb dL_law_1065 (by decide) ?_
      refine ll_0 (D := D) (f := F9_1031) hx hb hK hP 23 2 rfl rfl dL_law_1066 ?_
      refine lv_iload hx hb dL_law_1067 (lv_at hl 0 rfl) ?_
      refine lv_i2l hx hb dL_law_1069 rfl ?_
      refine W.lcmp hx hb dL_law_1070 ?_
      refine lv_if_eq (tgt := 1076) hx hb dL_law_1071 (by decide) (fun c_1071 => ?_) (fun c_1071 => ?_)
      · skip
        refine lv_goto (tgt := 1862) hx hb dL_law_1076 (by decide) ?_
        exact hk (N) (A) (fl) (an) (nd) (wt) (B) (Hd) (O) (R) (HL) (LB) (SO) (NG) (WO) (SA) (SE) (th9_1043) (kw9_1043) (HL9_1043) (CO9_1043) (F9_1031) (G) _ _ hI2 hP hD hS ls (lv_sub hl [2, 3, 4, 5, 6, 7] rfl)
      · skip
        refine lv_iconst (v := 0) hx hb dL_law_1074 (by decide) ?_
        exfalso
        first | exact c_1071 hth | exact c_1071 ((lg_cmp_eq _ _).mpr (hvl c_1054)) | exact c_1071 ((lg_cmp_eq _ _).mpr (hvl c_1061)) | exact c_1071 ((lg_cmp_eq _ _).mpr (hvl c_1071))
  · skip
    refine lv_iconst (v := 0) hx hb dL_law_1057 (by decide) ?_
    exfalso
    first | exact c_1054 hth | exact c_1054 ((lg_cmp_eq _ _).mpr (hvl c_1054))
set_option maxHeartbeats 4000000 in
set_option maxRecDepth 100000 in
theorem law_c16 {p : Program} {e : Env} {s : State} {m : MethodId} {below : List Frame} {meth : Method} {c : Code} (l : Launch) (hst : l.stackTraces = false) {b L : Nat} {xs : Nat → Int32} (hL : L ≤ 1536) (C0 : lw_At p s m meth c b L xs) (D : va_G) (cI cZ cJ cE : ClassId) (ad md : Nat → Nat) (ou od : Nat) (hK : kn D (tyL cI cZ cJ cE) s) (hX : xK s) (hZ : xZ (apS s) s s.heap) (hY : yN s) (cs sl i3 : Nat) (hcs : cs + 2 ≤ 1061) (hsl : sl + 12 ≤ 12206) (hi3 : i3 + 3 ≤ L) (hk : lwK p l e s m below meth c b D cI cZ cJ cE ad md ou od cs sl i3) (N A : Nat) (fl : Bool) (an nd wt B Hd : Nat → Int32) (O : Nat → Bool) (R : Nat) (HL LB : Nat → Int32) (SO NG WO : Nat → Bool) (SA SE : Nat) (th : Int32) (kw : Bool) (HM : Nat → Int32) (CO : Nat → Bool) (F : Nat → Int64) (G : Nat → UInt64) (hI : Inv N A fl nd wt B Hd O R HL LB SO NG WO SA SE kw HM CO) (H : Heap) (locs : List Loc) (hP : va_P D vwCl (wZ cI cZ cJ cE ad md ou od N A fl an nd wt B Hd O R HL LB SO NG WO SA SE th N A R kw an nd wt B Hd O HM CO F G) H) (hD : va_D (apS s) (wZ cI cZ cJ cE ad md ou od N A fl an nd wt B Hd O R HL LB SO NG WO SA SE th N A R kw an nd wt B Hd O HM CO F G)) (hS : va_S (apS s) s.heap H locs) (ls : Array Slot) (hl : lv_has ls 9 [(0, .ref b), (1, .ref (ad 0)), (2, .ref (md 0)), (3, .ref ou), (4, .ref od), (5, .int (nI i3))]) : W p l e room_1 s m #[Value.ref b] below meth c H locs cs sl (lw_Z below #[Value.ref b] s) (F0 m 1079 ls []) := by
  obtain ⟨hx, hb, hr, hml, hown, hts, hXs, hbl, hlocks, hgv⟩ := id C0
  have hts := fun w h => hts w (wsL_law_in w h)
  have hb : c.code = cL_law := hb
  have hbA : ¬ apS s b := Nat.not_le.mpr hbl
  have hAp : ∀ q : Nat, s.heap.size ≤ q → apS s q := fun _ h => h
  obtain ⟨hn, hA, hR, hH, hN, hw, hsv, hkw⟩ := hI
  have hcc : ∀ k, k ≤ 2 → cs + k ≤ room_1.cells := fun k hk => Nat.le_trans (Nat.add_le_add_left hk cs) hcs
  have hss : ∀ k, k ≤ 12 → sl + k ≤ room_1.slots := fun k hk => Nat.le_trans (Nat.add_le_add_left hk sl) hsl
  refine lv_aload_n hx hb dL_law_1079 rfl (lv_at hl 1 rfl) ?_
  refine lv_aload_n hx hb dL_law_1080 rfl (lv_at hl 0 rfl) ?_
  refine lv_iload hx hb dL_law_1081 (lv_at hl 5 rfl) ?_
  refine lv_iconst (v := 1) hx hb dL_law_1083 (by decide) ?_
  refine lv_iadd hx hb dL_law_1084 ?_
  rw [nI_1]
  refine sld_ (i := i3 + 1) hx hb hXs hbl hbA hS (by omega) hL dL_law_1085 ?_
  refine lv_aload_n hx hb dL_law_1086 rfl (lv_at hl 3 rfl) ?_
  refine mu_i (wr := [(md 0, .inr (3, [.int (th), .int (nI (N)), .ref (md 1), .int (nI (A)), .ref (md 2), .ref (md 3), .int (nI (R)), .ref (md 4), .ref (md 5), .ref (md 6), .int (bI (kw)), .ref (md 7), .ref (md 8)])), (md 1, .inl (cI, 24, .inl an)), (md 2, .inl (cI, 9, .inl nd)), (md 3, .inl (cI, 9, .inl wt)), (md 4, .inl (cI, 40, .inl B)), (md 5, .inl (cI, 40, .inl Hd)), (md 6, .inl (cZ, 40, .inl (fun j => bI (O j)))), (md 7, .inl (cI, 512, .inl HM)), (md 8, .inl (cZ, 512, .inl (fun j => bI (CO j)))), (od, .inl (cE, 1, .inr (.inr (.inr (.inl G)))))]) (vx_runSW (As := [.ref (ad 0), .int (xs (i3 + 1)), .ref (ou)]) (rest := []) ⟨hx, hb, hml, hown, hts⟩ (c_L_extend l D cI cZ cJ cE ad ou (N) (A) (fl) (an) (nd) (wt) (B) (Hd) (O) (R) (HL) (LB) (SO) (NG) (WO) (SA) (SE) (F) (xs (i3 + 1)) (hA) (hR) hst (H).size) (vx_cwSW 3 hts gL_law_L_extend rfl rfl rfl (by decide +kernel) ⟨Nat.le_of_ble_eq_true rfl, Nat.le_of_ble_eq_true rfl⟩) (prl_S (hP.sub (ws' := (wKL cI cZ cJ ad ou N A fl an nd wt B Hd O R HL LB SO NG WO SA SE F)) [0, 1, 2, 3, 4, 5, 6, 7, 8, 9, 10, 11, 12, 13, 23] rfl) (hD.sub (ws' := (wKL cI cZ cJ ad ou N A fl an nd wt B Hd O R HL LB SO NG WO SA SE F)) [0, 1, 2, 3, 4, 5, 6, 7, 8, 9, 10, 11, 12, 13, 23] (by decide) rfl) hK hX hZ hY hS (va_free (wc := (wKL cI cZ cJ ad ou N A fl an nd wt B Hd O R HL LB SO NG WO SA SE F)) hD hS hAp [0, 1, 2, 3, 4, 5, 6, 7, 8, 9, 10, 11, 12, 13, 23] rfl)) rfl rfl hl.1 rfl (lv_room (Nat.le_of_ble_eq_true rfl)) dL_law_1087 ⟨hcc 2 (by decide), hss 12 (by decide)⟩) hP hD hS hAp [0, 1, 2, 3, 4, 5, 6, 7, 8, 9, 10, 11, 12, 13, 23] [14, 15, 16, 17, 18, 19, 20, 21, 22, 24] rfl rfl (by decide) (by decide) (fun r_1087 u_1087 H locs hq_1087 hP hD hS => ?_)
  obtain ⟨F9_1087, rfl⟩ : ∃ z, z = u_1087 := ⟨_, rfl⟩
  obtain ⟨hpo_1087, -⟩ := hq_1087
  have hP : va_P D vwCl (wZ cI cZ cJ cE ad md ou od N A fl an nd wt B Hd O R HL LB SO NG WO SA SE th N A R kw an nd wt B Hd O HM CO F9_1087 G) H := hP.sub [10, 11, 12, 13, 14, 15, 16, 17, 18, 19, 20, 21, 22, 23, 0, 1, 2, 3, 4, 5, 6, 7, 8, 24, 9] rfl
  have hD : va_D (apS s) (wZ cI cZ cJ cE ad md ou od N A fl an nd wt B Hd O R HL LB SO NG WO SA SE th N A R kw an nd wt B Hd O HM CO F9_1087 G) := hD.sub [10, 11, 12, 13, 14, 15, 16, 17, 18, 19, 20, 21, 22, 23, 0, 1, 2, 3, 4, 5, 6, 7, 8, 24, 9] (by decide) rfl
  refine W.widen (k := cs + 2) (n := sl + 12) (Nat.add_le_add_left (by decide) cs) (Nat.add_le_add_left (by decide) sl) ?_
  refine lv_istore (lv' := [(6, .int (r_1087)), (0, .ref (b)), (1, .ref (ad 0)), (2, .ref (md 0)), (3, .ref (ou)), (4, .ref (od)), (5, .int (nI (i3)))]) hx hb dL_law_1090 hl (by decide) rfl (fun ls hl => ?_)
  refine lv_aload_n hx hb dL_law_1092 rfl (lv_at hl 3 rfl) ?_
  refine lv_aload_n hx hb dL_law_1093 rfl (lv_at hl 1 rfl) ?_
  refine lv_iload hx hb dL_law_1094 (lv_at hl 6 rfl) ?_
  refine lv_iconst (v := 1) hx hb dL_law_1096 (by decide) ?_
  refine lv_iadd hx hb dL_law_1097 ?_
  rw [nI_1]
  refine sld_ (i := i3 + 1) hx hb hXs hbl hbA hS (by omega) hL dL_law_1098 ?_
  refine mu_i (wr := [(ad 0, .inr (2, [.ref (ad 1), .ref (ad 2), .ref (ad 3), .ref (ad 4), .ref (ad 8), .int (nI (N)), .int (nI (A)), .int (bI (fl))])), (ad 1, .inl (cI, 24, .inl an)), (ad 2, .inl (cI, 9, .inl nd)), (ad 3, .inl (cI, 9, .inl wt)), (ad 4, .inr (0, [.ref (ad 5), .ref (ad 6), .ref (ad 7), .int (nI (R))])), (ad 5, .inl (cI, 40, .inl B)), (ad 6, .inl (cI, 40, .inl Hd)), (ad 7, .inl (cZ, 40, .inl (fun j => bI (O j)))), (ad 8, .inr (1, [.ref (ad 9), .ref (ad 10), .ref (ad 11), .ref (ad 12), .ref (ad 13), .int (nI (SA)), .int (nI (SE))])), (ad 9, .inl (cI, 512, .inl HL)), (ad 10, .inl (cI, 512, .inl LB)), (ad 11, .inl (cZ, 512, .inl (fun j => bI (SO j)))), (ad 12, .inl (cZ, 512, .inl (fun j => bI (NG j)))), (ad 13, .inl (cZ, 512, .inl (fun j => bI (WO j)))), (ou, .inl (cJ, 1, .inr (.inl F9_1087))), (od, .inl (cE, 1, .inr (.inr (.inr (.inl G)))))]) (va_runV (As := [.int (xs (i3 + 1))]) (rest := []) ⟨hx, hb, hml, hown, hts⟩ (c_X3_extend l D cI cZ md (th) (N) (A) (R) (kw) (an) (nd) (wt) (B) (Hd) (O) (HM) (CO) (xs (i3 + 1)) (hA) (hR) (hn) (hH) (hN) (hkw) (hw) (H).size) (cwV 1 hts gL_law_X3_extend rfl rfl rfl (by decide +kernel) ⟨Nat.le_of_ble_eq_true rfl, Nat.le_of_ble_eq_true rfl⟩) (prw_V (q0 := 0) (ci := 3) (hP.sub (ws' := (wM cI cZ md th N A R kw an nd wt B Hd O HM CO)) [14, 15, 16, 17, 18, 19, 20, 21, 22] rfl) (hD.sub (ws' := (wM cI cZ md th N A R kw an nd wt B Hd O HM CO)) [14, 15, 16, 17, 18, 19, 20, 21, 22] (by decide) rfl) (hK.sub [0, 1] rfl) rfl rfl) rfl rfl hl.1 rfl (lv_room (Nat.le_of_ble_eq_true rfl)) dL_law_1099 ⟨hcc 2 (by decide), hss 12 (by decide)⟩) hP hD hS hAp [14, 15, 16, 17, 18, 19, 20, 21, 22] [0, 1, 2, 3, 4, 5, 6, 7, 8, 9, 10, 11, 12, 13, 23, 24] rfl rfl (by decide) (by decide) (fun r_1099 u_1099 H locs hq_1099 hP hD hS => ?_)
  obtain ⟨th9_1099, HL9_1099, CO9_1099, kw9_1099⟩ := u_1099
  obtain ⟨hthp_1099, hknp_1099, hval_1099, -⟩ := hq_1099
  have hthp_1099 : th9_1099 = (if inS (xs (i3 + 1)) A = true then (if ct B Hd O R (clo B Hd O R (bg nd (xs (i3 + 1)) A)) = true then 2 else 0) else 1) := hthp_1099
  have hknp_1099 : kw9_1099 = true → knOK B Hd O R nd A HL9_1099 CO9_1099 := hknp_1099
  have hval_1099 : inS (xs (i3 + 1)) A = true → ct B Hd O R (clo B Hd O R (bg nd (xs (i3 + 1)) A)) = false → r_1099 = (xtS wt A (fun y => !(ct B Hd O R (clo B Hd O R (bg nd y A)))) (xs (i3 + 1)) (xs (i3 + 1)) A).1 := hval_1099
  have hP : va_P D vwCl (wZ cI cZ cJ cE ad md ou od N A fl an nd wt B Hd O R HL LB SO NG WO SA SE th9_1099 N A R kw9_1099 an nd wt B Hd O HL9_1099 CO9_1099 F9_1087 G) H := hP.sub [0, 1, 2, 3, 4, 5, 6, 7, 8, 9, 10, 11, 12, 13, 16, 17, 18, 19, 20, 21, 22, 23, 24, 14, 15] rfl
  have hD : va_D (apS s) (wZ cI cZ cJ cE ad md ou od N A fl an nd wt B Hd O R HL LB SO NG WO SA SE th9_1099 N A R kw9_1099 an nd wt B Hd O HL9_1099 CO9_1099 F9_1087 G) := hD.sub [0, 1, 2, 3, 4, 5, 6, 7, 8, 9, 10, 11, 12, 13, 16, 17, 18, 19, 20, 21, 22, 23, 24, 14, 15] (by decide) rfl
  refine lv_istore (lv' := [(7, .int (r_1099)), (6, .int (r_1087)), (0, .ref (b)), (1, .ref (ad 0)), (2, .ref (md 0)), (3, .ref (ou)), (4, .ref (od)), (5, .int (nI (i3)))]) hx hb dL_law_1102 hl (by decide) rfl (fun ls hl => ?_)
  have hAG : ((th9_1099) = r_1087) ∧ ((r_1087 = 0 → F9_1087 0 = (r_1099).toInt64)) ∧ (Inv N A fl nd wt B Hd O R HL LB SO NG WO SA SE kw9_1099 HL9_1099 CO9_1099) := by
    rcases hpo_1087 with ⟨ha, rr, h1, ⟨h2, h3⟩, h4⟩ | ⟨ha, h2⟩ | ⟨ha, h2, h3⟩
    · exact ⟨by rw [hthp_1099, if_pos h2, if_neg (by rw [h3]; decide), ha], fun _ => by rw [h4, h1, hval_1099 h2 h3], ⟨hn, hA, hR, hH, hN, hw, hsv, hknp_1099⟩⟩
    · exact ⟨by rw [hthp_1099, if_neg (by rw [h2]; decide), ha], fun h0 => absurd (ha.symm.trans h0) (by decide), ⟨hn, hA, hR, hH, hN, hw, hsv, hknp_1099⟩⟩
    · exact ⟨by rw [hthp_1099, if_pos h2, if_pos h3, ha], fun h0 => absurd (ha.symm.trans h0) (by decide), ⟨hn, hA, hR, hH, hN, hw, hsv, hknp_1099⟩⟩
  obtain ⟨hth, hvl, hI2⟩ := hAG
  refine lv_aload_n hx hb dL_law_1104 rfl (lv_at hl 4 rfl) ?_
  refine pu_i (va_runV (As := []) (rest := []) ⟨hx, hb, hml, hown, hts⟩ (c_X3_thrown l D cI cZ md (th9_1099) (N) (A) (R) (kw9_1099) (an) (nd) (wt) (B) (Hd) (O) (HL9_1099) (CO9_1099) ) (cwV 0 hts gL_law_X3_thrown rfl rfl rfl (by decide +kernel) ⟨Nat.le_of_ble_eq_true rfl, Nat.le_of_ble_eq_true rfl⟩) (pre_V (q0 := 0) (ci := 3) (hP.sub (ws' := (wM cI cZ md th9_1099 N A R kw9_1099 an nd wt B Hd O HL9_1099 CO9_1099)) [14, 15, 16, 17, 18, 19, 20, 21, 22] rfl) (hK.sub [0, 1] rfl) rfl rfl) rfl rfl hl.1 rfl (lv_room (Nat.le_of_ble_eq_true rfl)) dL_law_1105 ⟨hcc 2 (by decide), hss 12 (by decide)⟩) ?_
  refine lv_iload hx hb dL_law_1108 (lv_at hl 1 rfl) ?_
  refine lv_icmp_eq (tgt := 1115) hx hb dL_law_1110 (by decide) (fun c_1110 => ?_) (fun c_1110 => ?_)
  · skip
    refine lv_iload hx hb dL_law_1115 (lv_at hl 1 rfl) ?_
    refine lv_if_ne (tgt := 1132) hx hb dL_law_1117 (by decide) (fun c_1117 => ?_) (fun c_1117 => ?_)
    · skip
      refine lv_goto (tgt := 1862) hx hb dL_law_1132 (by decide) ?_
      exact hk (N) (A) (fl) (an) (nd) (wt) (B) (Hd) (O) (R) (HL) (LB) (SO) (NG) (WO) (SA) (SE) (th9_1099) (kw9_1099) (HL9_1099) (CO9_1099) (F9_1087) (G) _ _ hI2 hP hD hS ls (lv_sub hl [2, 3, 4, 5, 6, 7] rfl)
    · skip
      refine lv_aload_n hx hb dL_law_1120 rfl (lv_at hl 5 rfl) ?_
      refine lv_iconst (v := 0) hx hb dL_law_1121 (by decide) ?_
      refine ll_0 (D := D) (f := F9_1087) hx hb hK hP 23 2 rfl rfl dL_law_1122 ?_
      refine lv_iload hx hb dL_law_1123 (lv_at hl 0 rfl) ?_
      refine lv_i2l hx hb dL_law_1125 rfl ?_
      refine W.lcmp hx hb dL_law_1126 ?_
      refine lv_if_eq (tgt := 1132) hx hb dL_law_1127 (by decide) (fun c_1127 => ?_) (fun c_1127 => ?_)
      · skip
        refine lv_goto (tgt := 1862) hx hb dL_law_1132 (by decide) ?_
        exact hk (N) (A) (fl) (an) (nd) (wt) (B) (Hd) (O) (R) (HL) (LB) (SO) (NG) (WO) (SA) (SE) (th9_1099) (kw9_1099) (HL9_1099) (CO9_1099) (F9_1087) (G) _ _ hI2 hP hD hS ls (lv_sub hl [2, 3, 4, 5, 6, 7] rfl)
      · skip
        refine lv_iconst (v := 0) hx hb dL_law_1130 (by decide) ?_
        exfalso
        first | exact c_1127 hth | exact c_1127 ((lg_cmp_eq _ _).mpr (hvl c_1110)) | exact c_1127 ((lg_cmp_eq _ _).mpr (hvl c_1117)) | exact c_1127 ((lg_cmp_eq _ _).mpr (hvl c_1127))
  · skip
    refine lv_iconst (v := 0) hx hb dL_law_1113 (by decide) ?_
    exfalso
    first | exact c_1110 hth | exact c_1110 ((lg_cmp_eq _ _).mpr (hvl c_1110))
set_option maxHeartbeats 4000000 in
set_option maxRecDepth 100000 in
theorem law_c17 {p : Program} {e : Env} {s : State} {m : MethodId} {below : List Frame} {meth : Method} {c : Code} (l : Launch) (hst : l.stackTraces = false) {b L : Nat} {xs : Nat → Int32} (hL : L ≤ 1536) (C0 : lw_At p s m meth c b L xs) (D : va_G) (cI cZ cJ cE : ClassId) (ad md : Nat → Nat) (ou od : Nat) (hK : kn D (tyL cI cZ cJ cE) s) (hX : xK s) (hZ : xZ (apS s) s s.heap) (hY : yN s) (cs sl i3 : Nat) (hcs : cs + 2 ≤ 1061) (hsl : sl + 12 ≤ 12206) (hi3 : i3 + 3 ≤ L) (hk : lwK p l e s m below meth c b D cI cZ cJ cE ad md ou od cs sl i3) (N A : Nat) (fl : Bool) (an nd wt B Hd : Nat → Int32) (O : Nat → Bool) (R : Nat) (HL LB : Nat → Int32) (SO NG WO : Nat → Bool) (SA SE : Nat) (th : Int32) (kw : Bool) (HM : Nat → Int32) (CO : Nat → Bool) (F : Nat → Int64) (G : Nat → UInt64) (hI : Inv N A fl nd wt B Hd O R HL LB SO NG WO SA SE kw HM CO) (H : Heap) (locs : List Loc) (hP : va_P D vwCl (wZ cI cZ cJ cE ad md ou od N A fl an nd wt B Hd O R HL LB SO NG WO SA SE th N A R kw an nd wt B Hd O HM CO F G) H) (hD : va_D (apS s) (wZ cI cZ cJ cE ad md ou od N A fl an nd wt B Hd O R HL LB SO NG WO SA SE th N A R kw an nd wt B Hd O HM CO F G)) (hS : va_S (apS s) s.heap H locs) (ls : Array Slot) (hl : lv_has ls 9 [(0, .ref b), (1, .ref (ad 0)), (2, .ref (md 0)), (3, .ref ou), (4, .ref od), (5, .int (nI i3))]) : W p l e room_1 s m #[Value.ref b] below meth c H locs cs sl (lw_Z below #[Value.ref b] s) (F0 m 1135 ls []) := by
  obtain ⟨hx, hb, hr, hml, hown, hts, hXs, hbl, hlocks, hgv⟩ := id C0
  have hts := fun w h => hts w (wsL_law_in w h)
  have hb : c.code = cL_law := hb
  have hbA : ¬ apS s b := Nat.not_le.mpr hbl
  have hAp : ∀ q : Nat, s.heap.size ≤ q → apS s q := fun _ h => h
  obtain ⟨hn, hA, hR, hH, hN, hw, hsv, hkw⟩ := hI
  have hcc : ∀ k, k ≤ 2 → cs + k ≤ room_1.cells := fun k hk => Nat.le_trans (Nat.add_le_add_left hk cs) hcs
  have hss : ∀ k, k ≤ 12 → sl + k ≤ room_1.slots := fun k hk => Nat.le_trans (Nat.add_le_add_left hk sl) hsl
  refine lv_aload_n hx hb dL_law_1135 rfl (lv_at hl 1 rfl) ?_
  refine lv_aload_n hx hb dL_law_1136 rfl (lv_at hl 0 rfl) ?_
  refine lv_iload hx hb dL_law_1137 (lv_at hl 5 rfl) ?_
  refine lv_iconst (v := 1) hx hb dL_law_1139 (by decide) ?_
  refine lv_iadd hx hb dL_law_1140 ?_
  rw [nI_1]
  refine sld_ (i := i3 + 1) hx hb hXs hbl hbA hS (by omega) hL dL_law_1141 ?_
  refine lv_aload_n hx hb dL_law_1142 rfl (lv_at hl 3 rfl) ?_
  refine mu_i (wr := [(md 0, .inr (3, [.int (th), .int (nI (N)), .ref (md 1), .int (nI (A)), .ref (md 2), .ref (md 3), .int (nI (R)), .ref (md 4), .ref (md 5), .ref (md 6), .int (bI (kw)), .ref (md 7), .ref (md 8)])), (md 1, .inl (cI, 24, .inl an)), (md 2, .inl (cI, 9, .inl nd)), (md 3, .inl (cI, 9, .inl wt)), (md 4, .inl (cI, 40, .inl B)), (md 5, .inl (cI, 40, .inl Hd)), (md 6, .inl (cZ, 40, .inl (fun j => bI (O j)))), (md 7, .inl (cI, 512, .inl HM)), (md 8, .inl (cZ, 512, .inl (fun j => bI (CO j)))), (od, .inl (cE, 1, .inr (.inr (.inr (.inl G)))))]) (vx_runSW (As := [.ref (ad 0), .int (xs (i3 + 1)), .ref (ou)]) (rest := []) ⟨hx, hb, hml, hown, hts⟩ (c_L_labelSize l D cI cZ cJ cE ad ou (N) (A) (fl) (an) (nd) (wt) (B) (Hd) (O) (R) (HL) (LB) (SO) (NG) (WO) (SA) (SE) (F) (xs (i3 + 1)) (hA) (hR) (hn) (hH) (hN) (hsv) hst (H).size) (vx_cwSW 3 hts gL_law_L_labelSize rfl rfl rfl (by decide +kernel) ⟨Nat.le_of_ble_eq_true rfl, Nat.le_of_ble_eq_true rfl⟩) (prl_S (hP.sub (ws' := (wKL cI cZ cJ ad ou N A fl an nd wt B Hd O R HL LB SO NG WO SA SE F)) [0, 1, 2, 3, 4, 5, 6, 7, 8, 9, 10, 11, 12, 13, 23] rfl) (hD.sub (ws' := (wKL cI cZ cJ ad ou N A fl an nd wt B Hd O R HL LB SO NG WO SA SE F)) [0, 1, 2, 3, 4, 5, 6, 7, 8, 9, 10, 11, 12, 13, 23] (by decide) rfl) hK hX hZ hY hS (va_free (wc := (wKL cI cZ cJ ad ou N A fl an nd wt B Hd O R HL LB SO NG WO SA SE F)) hD hS hAp [0, 1, 2, 3, 4, 5, 6, 7, 8, 9, 10, 11, 12, 13, 23] rfl)) rfl rfl hl.1 rfl (lv_room (Nat.le_of_ble_eq_true rfl)) dL_law_1143 ⟨hcc 1 (by decide), hss 6 (by decide)⟩) hP hD hS hAp [0, 1, 2, 3, 4, 5, 6, 7, 8, 9, 10, 11, 12, 13, 23] [14, 15, 16, 17, 18, 19, 20, 21, 22, 24] rfl rfl (by decide) (by decide) (fun r_1143 u_1143 H locs hq_1143 hP hD hS => ?_)
  obtain ⟨fl9_1143, HL9_1143, LB9_1143, SO9_1143, NG9_1143, WO9_1143, SA9_1143, SE9_1143, F9_1143⟩ := u_1143
  obtain ⟨hpo_1143, -⟩ := hq_1143
  have hpo_1143 : (r_1143 = 0 ∧ ∃ rr : Int32, rr = nI (cnt (fun e => lbM (hdE B Hd O R nd A) (soE B Hd O R nd A) (xs (i3 + 1)) e) (2 ^ A)) ∧ (inR (xs (i3 + 1)) N = true) ∧ (fl9_1143 = true → svOK B Hd O R nd A HL9_1143 LB9_1143 SO9_1143 NG9_1143 WO9_1143 SA9_1143 SE9_1143) ∧ F9_1143 0 = rr.toInt64) ∨ (r_1143 = 1 ∧ (inR (xs (i3 + 1)) N = false) ∧ (fl9_1143 = true → svOK B Hd O R nd A HL9_1143 LB9_1143 SO9_1143 NG9_1143 WO9_1143 SA9_1143 SE9_1143)) := hpo_1143
  have hP : va_P D vwCl (wZ cI cZ cJ cE ad md ou od N A fl9_1143 an nd wt B Hd O R HL9_1143 LB9_1143 SO9_1143 NG9_1143 WO9_1143 SA9_1143 SE9_1143 th N A R kw an nd wt B Hd O HM CO F9_1143 G) H := hP.sub [10, 11, 12, 13, 14, 15, 16, 17, 18, 19, 20, 21, 22, 23, 0, 1, 2, 3, 4, 5, 6, 7, 8, 24, 9] rfl
  have hD : va_D (apS s) (wZ cI cZ cJ cE ad md ou od N A fl9_1143 an nd wt B Hd O R HL9_1143 LB9_1143 SO9_1143 NG9_1143 WO9_1143 SA9_1143 SE9_1143 th N A R kw an nd wt B Hd O HM CO F9_1143 G) := hD.sub [10, 11, 12, 13, 14, 15, 16, 17, 18, 19, 20, 21, 22, 23, 0, 1, 2, 3, 4, 5, 6, 7, 8, 24, 9] (by decide) rfl
  refine W.widen (k := cs + 2) (n := sl + 12) (Nat.add_le_add_left (by decide) cs) (Nat.add_le_add_left (by decide) sl) ?_
  refine lv_istore (lv' := [(6, .int (r_1143)), (0, .ref (b)), (1, .ref (ad 0)), (2, .ref (md 0)), (3, .ref (ou)), (4, .ref (od)), (5, .int (nI (i3)))]) hx hb dL_law_1146 hl (by decide) rfl (fun ls hl => ?_)
  refine lv_aload_n hx hb dL_law_1148 rfl (lv_at hl 3 rfl) ?_
  refine lv_aload_n hx hb dL_law_1149 rfl (lv_at hl 1 rfl) ?_
  refine lv_iload hx hb dL_law_1150 (lv_at hl 6 rfl) ?_
  refine lv_iconst (v := 1) hx hb dL_law_1152 (by decide) ?_
  refine lv_iadd hx hb dL_law_1153 ?_
  rw [nI_1]
  refine sld_ (i := i3 + 1) hx hb hXs hbl hbA hS (by omega) hL dL_law_1154 ?_
  refine mu_i (wr := [(ad 0, .inr (2, [.ref (ad 1), .ref (ad 2), .ref (ad 3), .ref (ad 4), .ref (ad 8), .int (nI (N)), .int (nI (A)), .int (bI (fl9_1143))])), (ad 1, .inl (cI, 24, .inl an)), (ad 2, .inl (cI, 9, .inl nd)), (ad 3, .inl (cI, 9, .inl wt)), (ad 4, .inr (0, [.ref (ad 5), .ref (ad 6), .ref (ad 7), .int (nI (R))])), (ad 5, .inl (cI, 40, .inl B)), (ad 6, .inl (cI, 40, .inl Hd)), (ad 7, .inl (cZ, 40, .inl (fun j => bI (O j)))), (ad 8, .inr (1, [.ref (ad 9), .ref (ad 10), .ref (ad 11), .ref (ad 12), .ref (ad 13), .int (nI (SA9_1143)), .int (nI (SE9_1143))])), (ad 9, .inl (cI, 512, .inl HL9_1143)), (ad 10, .inl (cI, 512, .inl LB9_1143)), (ad 11, .inl (cZ, 512, .inl (fun j => bI (SO9_1143 j)))), (ad 12, .inl (cZ, 512, .inl (fun j => bI (NG9_1143 j)))), (ad 13, .inl (cZ, 512, .inl (fun j => bI (WO9_1143 j)))), (ou, .inl (cJ, 1, .inr (.inl F9_1143))), (od, .inl (cE, 1, .inr (.inr (.inr (.inl G)))))]) (va_runV (As := [.int (xs (i3 + 1))]) (rest := []) ⟨hx, hb, hml, hown, hts⟩ (c_X3_labelSize l D cI cZ md (th) (N) (A) (R) (kw) (an) (nd) (wt) (B) (Hd) (O) (HM) (CO) (xs (i3 + 1)) (hA) (hR) (hn) (hH) (hN) (hkw) (H).size) (cwV 1 hts gL_law_X3_labelSize rfl rfl rfl (by decide +kernel) ⟨Nat.le_of_ble_eq_true rfl, Nat.le_of_ble_eq_true rfl⟩) (prw_V (q0 := 0) (ci := 3) (hP.sub (ws' := (wM cI cZ md th N A R kw an nd wt B Hd O HM CO)) [14, 15, 16, 17, 18, 19, 20, 21, 22] rfl) (hD.sub (ws' := (wM cI cZ md th N A R kw an nd wt B Hd O HM CO)) [14, 15, 16, 17, 18, 19, 20, 21, 22] (by decide) rfl) (hK.sub [0, 1] rfl) rfl rfl) rfl rfl hl.1 rfl (lv_room (Nat.le_of_ble_eq_true rfl)) dL_law_1155 ⟨hcc 2 (by decide), hss 12 (by decide)⟩) hP hD hS hAp [14, 15, 16, 17, 18, 19, 20, 21, 22] [0, 1, 2, 3, 4, 5, 6, 7, 8, 9, 10, 11, 12, 13, 23, 24] rfl rfl (by decide) (by decide) (fun r_1155 u_1155 H locs hq_1155 hP hD hS => ?_)
  obtain ⟨th9_1155, HL9_1155, CO9_1155, kw9_1155⟩ := u_1155
  obtain ⟨hthp_1155, hknp_1155, hval_1155, -⟩ := hq_1155
  have hthp_1155 : th9_1155 = tB (inR (xs (i3 + 1)) N) := hthp_1155
  have hknp_1155 : kw9_1155 = true → knOK B Hd O R nd A HL9_1155 CO9_1155 := hknp_1155
  have hval_1155 : inR (xs (i3 + 1)) N = true → r_1155 = nI (cnt (fun e => lbM (hdE B Hd O R nd A) (soE B Hd O R nd A) (xs (i3 + 1)) e) (2 ^ A)) := hval_1155
  have hP : va_P D vwCl (wZ cI cZ cJ cE ad md ou od N A fl9_1143 an nd wt B Hd O R HL9_1143 LB9_1143 SO9_1143 NG9_1143 WO9_1143 SA9_1143 SE9_1143 th9_1155 N A R kw9_1155 an nd wt B Hd O HL9_1155 CO9_1155 F9_1143 G) H := hP.sub [0, 1, 2, 3, 4, 5, 6, 7, 8, 9, 10, 11, 12, 13, 16, 17, 18, 19, 20, 21, 22, 23, 24, 14, 15] rfl
  have hD : va_D (apS s) (wZ cI cZ cJ cE ad md ou od N A fl9_1143 an nd wt B Hd O R HL9_1143 LB9_1143 SO9_1143 NG9_1143 WO9_1143 SA9_1143 SE9_1143 th9_1155 N A R kw9_1155 an nd wt B Hd O HL9_1155 CO9_1155 F9_1143 G) := hD.sub [0, 1, 2, 3, 4, 5, 6, 7, 8, 9, 10, 11, 12, 13, 16, 17, 18, 19, 20, 21, 22, 23, 24, 14, 15] (by decide) rfl
  refine lv_istore (lv' := [(7, .int (r_1155)), (6, .int (r_1143)), (0, .ref (b)), (1, .ref (ad 0)), (2, .ref (md 0)), (3, .ref (ou)), (4, .ref (od)), (5, .int (nI (i3)))]) hx hb dL_law_1158 hl (by decide) rfl (fun ls hl => ?_)
  have hAG : ((th9_1155) = r_1143) ∧ ((r_1143 = 0 → F9_1143 0 = (r_1155).toInt64)) ∧ (Inv N A fl9_1143 nd wt B Hd O R HL9_1143 LB9_1143 SO9_1143 NG9_1143 WO9_1143 SA9_1143 SE9_1143 kw9_1155 HL9_1155 CO9_1155) := by
    rcases hpo_1143 with ⟨ha, rr, h1, h2, h3, h4⟩ | ⟨ha, h2, h3⟩
    · exact ⟨by rw [hthp_1155, h2, ha]; rfl, fun _ => by rw [h4, h1, hval_1155 h2], ⟨hn, hA, hR, hH, hN, hw, h3, hknp_1155⟩⟩
    · exact ⟨by rw [hthp_1155, h2, ha]; rfl, fun h0 => absurd (ha.symm.trans h0) (by decide), ⟨hn, hA, hR, hH, hN, hw, h3, hknp_1155⟩⟩
  obtain ⟨hth, hvl, hI2⟩ := hAG
  refine lv_aload_n hx hb dL_law_1160 rfl (lv_at hl 4 rfl) ?_
  refine pu_i (va_runV (As := []) (rest := []) ⟨hx, hb, hml, hown, hts⟩ (c_X3_thrown l D cI cZ md (th9_1155) (N) (A) (R) (kw9_1155) (an) (nd) (wt) (B) (Hd) (O) (HL9_1155) (CO9_1155) ) (cwV 0 hts gL_law_X3_thrown rfl rfl rfl (by decide +kernel) ⟨Nat.le_of_ble_eq_true rfl, Nat.le_of_ble_eq_true rfl⟩) (pre_V (q0 := 0) (ci := 3) (hP.sub (ws' := (wM cI cZ md th9_1155 N A R kw9_1155 an nd wt B Hd O HL9_1155 CO9_1155)) [14, 15, 16, 17, 18, 19, 20, 21, 22] rfl) (hK.sub [0, 1] rfl) rfl rfl) rfl rfl hl.1 rfl (lv_room (Nat.le_of_ble_eq_true rfl)) dL_law_1161 ⟨hcc 2 (by decide), hss 12 (by decide)⟩) ?_
  refine lv_iload hx hb dL_law_1164 (lv_at hl 1 rfl) ?_
  refine lv_icmp_eq (tgt := 1171) hx hb dL_law_1166 (by decide) (fun c_1166 => ?_) (fun c_1166 => ?_)
  · skip
    refine lv_iload hx hb dL_law_1171 (lv_at hl 1 rfl) ?_
    refine lv_if_ne (tgt := 1188) hx hb dL_law_1173 (by decide) (fun c_1173 => ?_) (fun c_1173 => ?_)
    · skip
      refine lv_goto (tgt := 1862) hx hb dL_law_1188 (by decide) ?_
      exact hk (N) (A) (fl9_1143) (an) (nd) (wt) (B) (Hd) (O) (R) (HL9_1143) (LB9_1143) (SO9_1143) (NG9_1143) (WO9_1143) (SA9_1143) (SE9_1143) (th9_1155) (kw9_1155) (HL9_1155) (CO9_1155) (F9_1143) (G) _ _ hI2 hP hD hS ls (lv_sub hl [2, 3, 4, 5, 6, 7] rfl)
    · skip
      refine lv_aload_n hx hb dL_law_1176 rfl (lv_at hl 5 rfl) ?_
      refine lv_iconst (v := 0) hx hb dL_law_1177 (by decide) ?_
      refine ll_0 (D := D) (f := F9_1143) hx hb hK hP 23 2 rfl rfl dL_law_1178 ?_
      refine lv_iload hx hb dL_law_1179 (lv_at hl 0 rfl) ?_
      refine lv_i2l hx hb dL_law_1181 rfl ?_
      refine W.lcmp hx hb dL_law_1182 ?_
      refine lv_if_eq (tgt := 1188) hx hb dL_law_1183 (by decide) (fun c_1183 => ?_) (fun c_1183 => ?_)
      · skip
        refine lv_goto (tgt := 1862) hx hb dL_law_1188 (by decide) ?_
        exact hk (N) (A) (fl9_1143) (an) (nd) (wt) (B) (Hd) (O) (R) (HL9_1143) (LB9_1143) (SO9_1143) (NG9_1143) (WO9_1143) (SA9_1143) (SE9_1143) (th9_1155) (kw9_1155) (HL9_1155) (CO9_1155) (F9_1143) (G) _ _ hI2 hP hD hS ls (lv_sub hl [2, 3, 4, 5, 6, 7] rfl)
      · skip
        refine lv_iconst (v := 0) hx hb dL_law_1186 (by decide) ?_
        exfalso
        first | exact c_1183 hth | exact c_1183 ((lg_cmp_eq _ _).mpr (hvl c_1166)) | exact c_1183 ((lg_cmp_eq _ _).mpr (hvl c_1173)) | exact c_1183 ((lg_cmp_eq _ _).mpr (hvl c_1183))
  · skip
    refine lv_iconst (v := 0) hx hb dL_law_1169 (by decide) ?_
    exfalso
    first | exact c_1166 hth | exact c_1166 ((lg_cmp_eq _ _).mpr (hvl c_1166))
set_option maxHeartbeats 4000000 in
set_option maxRecDepth 100000 in
theorem law_c18 {p : Program} {e : Env} {s : State} {m : MethodId} {below : List Frame} {meth : Method} {c : Code} (l : Launch) (hst : l.stackTraces = false) {b L : Nat} {xs : Nat → Int32} (hL : L ≤ 1536) (C0 : lw_At p s m meth c b L xs) (D : va_G) (cI cZ cJ cE : ClassId) (ad md : Nat → Nat) (ou od : Nat) (hK : kn D (tyL cI cZ cJ cE) s) (hX : xK s) (hZ : xZ (apS s) s s.heap) (hY : yN s) (cs sl i3 : Nat) (hcs : cs + 2 ≤ 1061) (hsl : sl + 12 ≤ 12206) (hi3 : i3 + 3 ≤ L) (hk : lwK p l e s m below meth c b D cI cZ cJ cE ad md ou od cs sl i3) (N A : Nat) (fl : Bool) (an nd wt B Hd : Nat → Int32) (O : Nat → Bool) (R : Nat) (HL LB : Nat → Int32) (SO NG WO : Nat → Bool) (SA SE : Nat) (th : Int32) (kw : Bool) (HM : Nat → Int32) (CO : Nat → Bool) (F : Nat → Int64) (G : Nat → UInt64) (hI : Inv N A fl nd wt B Hd O R HL LB SO NG WO SA SE kw HM CO) (H : Heap) (locs : List Loc) (hP : va_P D vwCl (wZ cI cZ cJ cE ad md ou od N A fl an nd wt B Hd O R HL LB SO NG WO SA SE th N A R kw an nd wt B Hd O HM CO F G) H) (hD : va_D (apS s) (wZ cI cZ cJ cE ad md ou od N A fl an nd wt B Hd O R HL LB SO NG WO SA SE th N A R kw an nd wt B Hd O HM CO F G)) (hS : va_S (apS s) s.heap H locs) (ls : Array Slot) (hl : lv_has ls 9 [(0, .ref b), (1, .ref (ad 0)), (2, .ref (md 0)), (3, .ref ou), (4, .ref od), (5, .int (nI i3))]) : W p l e room_1 s m #[Value.ref b] below meth c H locs cs sl (lw_Z below #[Value.ref b] s) (F0 m 1191 ls []) := by
  obtain ⟨hx, hb, hr, hml, hown, hts, hXs, hbl, hlocks, hgv⟩ := id C0
  have hts := fun w h => hts w (wsL_law_in w h)
  have hb : c.code = cL_law := hb
  have hbA : ¬ apS s b := Nat.not_le.mpr hbl
  have hAp : ∀ q : Nat, s.heap.size ≤ q → apS s q := fun _ h => h
  obtain ⟨hn, hA, hR, hH, hN, hw, hsv, hkw⟩ := hI
  have hcc : ∀ k, k ≤ 2 → cs + k ≤ room_1.cells := fun k hk => Nat.le_trans (Nat.add_le_add_left hk cs) hcs
  have hss : ∀ k, k ≤ 12 → sl + k ≤ room_1.slots := fun k hk => Nat.le_trans (Nat.add_le_add_left hk sl) hsl
  refine lv_aload_n hx hb dL_law_1191 rfl (lv_at hl 1 rfl) ?_
  refine lv_aload_n hx hb dL_law_1192 rfl (lv_at hl 0 rfl) ?_
  refine lv_iload hx hb dL_law_1193 (lv_at hl 5 rfl) ?_
  refine lv_iconst (v := 1) hx hb dL_law_1195 (by decide) ?_
  refine lv_iadd hx hb dL_law_1196 ?_
  rw [nI_1]
  refine sld_ (i := i3 + 1) hx hb hXs hbl hbA hS (by omega) hL dL_law_1197 ?_
  refine lv_aload_n hx hb dL_law_1198 rfl (lv_at hl 0 rfl) ?_
  refine lv_iload hx hb dL_law_1199 (lv_at hl 5 rfl) ?_
  refine lv_iconst (v := 2) hx hb dL_law_1201 (by decide) ?_
  refine lv_iadd hx hb dL_law_1202 ?_
  rw [show (2 : Int32) = nI 2 from rfl, nI_add]
  refine sld_ (i := i3 + 2) hx hb hXs hbl hbA hS (by omega) hL dL_law_1203 ?_
  refine lv_aload_n hx hb dL_law_1204 rfl (lv_at hl 3 rfl) ?_
  refine mu_i (wr := [(md 0, .inr (3, [.int (th), .int (nI (N)), .ref (md 1), .int (nI (A)), .ref (md 2), .ref (md 3), .int (nI (R)), .ref (md 4), .ref (md 5), .ref (md 6), .int (bI (kw)), .ref (md 7), .ref (md 8)])), (md 1, .inl (cI, 24, .inl an)), (md 2, .inl (cI, 9, .inl nd)), (md 3, .inl (cI, 9, .inl wt)), (md 4, .inl (cI, 40, .inl B)), (md 5, .inl (cI, 40, .inl Hd)), (md 6, .inl (cZ, 40, .inl (fun j => bI (O j)))), (md 7, .inl (cI, 512, .inl HM)), (md 8, .inl (cZ, 512, .inl (fun j => bI (CO j)))), (od, .inl (cE, 1, .inr (.inr (.inr (.inl G)))))]) (vx_runSW (As := [.ref (ad 0), .int (xs (i3 + 1)), .int (xs (i3 + 2)), .ref (ou)]) (rest := []) ⟨hx, hb, hml, hown, hts⟩ (c_L_label l D cI cZ cJ cE ad ou (N) (A) (fl) (an) (nd) (wt) (B) (Hd) (O) (R) (HL) (LB) (SO) (NG) (WO) (SA) (SE) (F) (xs (i3 + 1)) (xs (i3 + 2)) (hA) (hR) (hn) (hH) (hN) (hsv) hst (H).size) (vx_cwSW 4 hts gL_law_L_label rfl rfl rfl (by decide +kernel) ⟨Nat.le_of_ble_eq_true rfl, Nat.le_of_ble_eq_true rfl⟩) (prl_S (hP.sub (ws' := (wKL cI cZ cJ ad ou N A fl an nd wt B Hd O R HL LB SO NG WO SA SE F)) [0, 1, 2, 3, 4, 5, 6, 7, 8, 9, 10, 11, 12, 13, 23] rfl) (hD.sub (ws' := (wKL cI cZ cJ ad ou N A fl an nd wt B Hd O R HL LB SO NG WO SA SE F)) [0, 1, 2, 3, 4, 5, 6, 7, 8, 9, 10, 11, 12, 13, 23] (by decide) rfl) hK hX hZ hY hS (va_free (wc := (wKL cI cZ cJ ad ou N A fl an nd wt B Hd O R HL LB SO NG WO SA SE F)) hD hS hAp [0, 1, 2, 3, 4, 5, 6, 7, 8, 9, 10, 11, 12, 13, 23] rfl)) rfl rfl hl.1 rfl (lv_room (Nat.le_of_ble_eq_true rfl)) dL_law_1205 ⟨hcc 2 (by decide), hss 12 (by decide)⟩) hP hD hS hAp [0, 1, 2, 3, 4, 5, 6, 7, 8, 9, 10, 11, 12, 13, 23] [14, 15, 16, 17, 18, 19, 20, 21, 22, 24] rfl rfl (by decide) (by decide) (fun r_1205 u_1205 H locs hq_1205 hP hD hS => ?_)
  obtain ⟨fl9_1205, HL9_1205, LB9_1205, SO9_1205, NG9_1205, WO9_1205, SA9_1205, SE9_1205, F9_1205⟩ := u_1205
  obtain ⟨hpo_1205, -⟩ := hq_1205
  have hpo_1205 : (r_1205 = 0 ∧ ∃ rr : Int32, rr = nth (fun e => lbM (hdE B Hd O R nd A) (soE B Hd O R nd A) (xs (i3 + 1)) e) (2 ^ A) (xs (i3 + 2)) ∧ (inR (xs (i3 + 1)) N = true ∧ ¬ nth (fun e => lbM (hdE B Hd O R nd A) (soE B Hd O R nd A) (xs (i3 + 1)) e) (2 ^ A) (xs (i3 + 2)) = -1) ∧ (fl9_1205 = true → svOK B Hd O R nd A HL9_1205 LB9_1205 SO9_1205 NG9_1205 WO9_1205 SA9_1205 SE9_1205) ∧ F9_1205 0 = rr.toInt64) ∨ (r_1205 = 1 ∧ (inR (xs (i3 + 1)) N = false ∨ (inR (xs (i3 + 1)) N = true ∧ nth (fun e => lbM (hdE B Hd O R nd A) (soE B Hd O R nd A) (xs (i3 + 1)) e) (2 ^ A) (xs (i3 + 2)) = -1)) ∧ (fl9_1205 = true → svOK B Hd O R nd A HL9_1205 LB9_1205 SO9_1205 NG9_1205 WO9_1205 SA9_1205 SE9_1205)) := hpo_1205
  have hP : va_P D vwCl (wZ cI cZ cJ cE ad md ou od N A fl9_1205 an nd wt B Hd O R HL9_1205 LB9_1205 SO9_1205 NG9_1205 WO9_1205 SA9_1205 SE9_1205 th N A R kw an nd wt B Hd O HM CO F9_1205 G) H := hP.sub [10, 11, 12, 13, 14, 15, 16, 17, 18, 19, 20, 21, 22, 23, 0, 1, 2, 3, 4, 5, 6, 7, 8, 24, 9] rfl
  have hD : va_D (apS s) (wZ cI cZ cJ cE ad md ou od N A fl9_1205 an nd wt B Hd O R HL9_1205 LB9_1205 SO9_1205 NG9_1205 WO9_1205 SA9_1205 SE9_1205 th N A R kw an nd wt B Hd O HM CO F9_1205 G) := hD.sub [10, 11, 12, 13, 14, 15, 16, 17, 18, 19, 20, 21, 22, 23, 0, 1, 2, 3, 4, 5, 6, 7, 8, 24, 9] (by decide) rfl
  refine W.widen (k := cs + 2) (n := sl + 12) (Nat.add_le_add_left (by decide) cs) (Nat.add_le_add_left (by decide) sl) ?_
  refine lv_istore (lv' := [(6, .int (r_1205)), (0, .ref (b)), (1, .ref (ad 0)), (2, .ref (md 0)), (3, .ref (ou)), (4, .ref (od)), (5, .int (nI (i3)))]) hx hb dL_law_1208 hl (by decide) rfl (fun ls hl => ?_)
  refine lv_aload_n hx hb dL_law_1210 rfl (lv_at hl 3 rfl) ?_
  refine lv_aload_n hx hb dL_law_1211 rfl (lv_at hl 1 rfl) ?_
  refine lv_iload hx hb dL_law_1212 (lv_at hl 6 rfl) ?_
  refine lv_iconst (v := 1) hx hb dL_law_1214 (by decide) ?_
  refine lv_iadd hx hb dL_law_1215 ?_
  rw [nI_1]
  refine sld_ (i := i3 + 1) hx hb hXs hbl hbA hS (by omega) hL dL_law_1216 ?_
  refine lv_aload_n hx hb dL_law_1217 rfl (lv_at hl 1 rfl) ?_
  refine lv_iload hx hb dL_law_1218 (lv_at hl 6 rfl) ?_
  refine lv_iconst (v := 2) hx hb dL_law_1220 (by decide) ?_
  refine lv_iadd hx hb dL_law_1221 ?_
  rw [show (2 : Int32) = nI 2 from rfl, nI_add]
  refine sld_ (i := i3 + 2) hx hb hXs hbl hbA hS (by omega) hL dL_law_1222 ?_
  refine mu_i (wr := [(ad 0, .inr (2, [.ref (ad 1), .ref (ad 2), .ref (ad 3), .ref (ad 4), .ref (ad 8), .int (nI (N)), .int (nI (A)), .int (bI (fl9_1205))])), (ad 1, .inl (cI, 24, .inl an)), (ad 2, .inl (cI, 9, .inl nd)), (ad 3, .inl (cI, 9, .inl wt)), (ad 4, .inr (0, [.ref (ad 5), .ref (ad 6), .ref (ad 7), .int (nI (R))])), (ad 5, .inl (cI, 40, .inl B)), (ad 6, .inl (cI, 40, .inl Hd)), (ad 7, .inl (cZ, 40, .inl (fun j => bI (O j)))), (ad 8, .inr (1, [.ref (ad 9), .ref (ad 10), .ref (ad 11), .ref (ad 12), .ref (ad 13), .int (nI (SA9_1205)), .int (nI (SE9_1205))])), (ad 9, .inl (cI, 512, .inl HL9_1205)), (ad 10, .inl (cI, 512, .inl LB9_1205)), (ad 11, .inl (cZ, 512, .inl (fun j => bI (SO9_1205 j)))), (ad 12, .inl (cZ, 512, .inl (fun j => bI (NG9_1205 j)))), (ad 13, .inl (cZ, 512, .inl (fun j => bI (WO9_1205 j)))), (ou, .inl (cJ, 1, .inr (.inl F9_1205))), (od, .inl (cE, 1, .inr (.inr (.inr (.inl G)))))]) (va_runV (As := [.int (xs (i3 + 1)), .int (xs (i3 + 2))]) (rest := []) ⟨hx, hb, hml, hown, hts⟩ (c_X3_label l D cI cZ md (th) (N) (A) (R) (kw) (an) (nd) (wt) (B) (Hd) (O) (HM) (CO) (xs (i3 + 1)) (xs (i3 + 2)) (hA) (hR) (hn) (hH) (hN) (hkw) (H).size) (cwV 2 hts gL_law_X3_label rfl rfl rfl (by decide +kernel) ⟨Nat.le_of_ble_eq_true rfl, Nat.le_of_ble_eq_true rfl⟩) (prw_V (q0 := 0) (ci := 3) (hP.sub (ws' := (wM cI cZ md th N A R kw an nd wt B Hd O HM CO)) [14, 15, 16, 17, 18, 19, 20, 21, 22] rfl) (hD.sub (ws' := (wM cI cZ md th N A R kw an nd wt B Hd O HM CO)) [14, 15, 16, 17, 18, 19, 20, 21, 22] (by decide) rfl) (hK.sub [0, 1] rfl) rfl rfl) rfl rfl hl.1 rfl (lv_room (Nat.le_of_ble_eq_true rfl)) dL_law_1223 ⟨hcc 2 (by decide), hss 12 (by decide)⟩) hP hD hS hAp [14, 15, 16, 17, 18, 19, 20, 21, 22] [0, 1, 2, 3, 4, 5, 6, 7, 8, 9, 10, 11, 12, 13, 23, 24] rfl rfl (by decide) (by decide) (fun r_1223 u_1223 H locs hq_1223 hP hD hS => ?_)
  obtain ⟨th9_1223, HL9_1223, CO9_1223, kw9_1223⟩ := u_1223
  obtain ⟨hthp_1223, hknp_1223, hval_1223, -⟩ := hq_1223
  have hthp_1223 : th9_1223 = (if inR (xs (i3 + 1)) N = true then (if nth (fun e => lbM (hdE B Hd O R nd A) (soE B Hd O R nd A) (xs (i3 + 1)) e) (2 ^ A) (xs (i3 + 2)) = -1 then 1 else 0) else 1) := hthp_1223
  have hknp_1223 : kw9_1223 = true → knOK B Hd O R nd A HL9_1223 CO9_1223 := hknp_1223
  have hval_1223 : inR (xs (i3 + 1)) N = true → ¬ nth (fun e => lbM (hdE B Hd O R nd A) (soE B Hd O R nd A) (xs (i3 + 1)) e) (2 ^ A) (xs (i3 + 2)) = -1 → r_1223 = nth (fun e => lbM (hdE B Hd O R nd A) (soE B Hd O R nd A) (xs (i3 + 1)) e) (2 ^ A) (xs (i3 + 2)) := hval_1223
  have hP : va_P D vwCl (wZ cI cZ cJ cE ad md ou od N A fl9_1205 an nd wt B Hd O R HL9_1205 LB9_1205 SO9_1205 NG9_1205 WO9_1205 SA9_1205 SE9_1205 th9_1223 N A R kw9_1223 an nd wt B Hd O HL9_1223 CO9_1223 F9_1205 G) H := hP.sub [0, 1, 2, 3, 4, 5, 6, 7, 8, 9, 10, 11, 12, 13, 16, 17, 18, 19, 20, 21, 22, 23, 24, 14, 15] rfl
  have hD : va_D (apS s) (wZ cI cZ cJ cE ad md ou od N A fl9_1205 an nd wt B Hd O R HL9_1205 LB9_1205 SO9_1205 NG9_1205 WO9_1205 SA9_1205 SE9_1205 th9_1223 N A R kw9_1223 an nd wt B Hd O HL9_1223 CO9_1223 F9_1205 G) := hD.sub [0, 1, 2, 3, 4, 5, 6, 7, 8, 9, 10, 11, 12, 13, 16, 17, 18, 19, 20, 21, 22, 23, 24, 14, 15] (by decide) rfl
  refine lv_istore (lv' := [(7, .int (r_1223)), (6, .int (r_1205)), (0, .ref (b)), (1, .ref (ad 0)), (2, .ref (md 0)), (3, .ref (ou)), (4, .ref (od)), (5, .int (nI (i3)))]) hx hb dL_law_1226 hl (by decide) rfl (fun ls hl => ?_)
  have hAG : ((th9_1223) = r_1205) ∧ ((r_1205 = 0 → F9_1205 0 = (r_1223).toInt64)) ∧ (Inv N A fl9_1205 nd wt B Hd O R HL9_1205 LB9_1205 SO9_1205 NG9_1205 WO9_1205 SA9_1205 SE9_1205 kw9_1223 HL9_1223 CO9_1223) := by
    rcases hpo_1205 with ⟨ha, rr, h1, ⟨h2, h3⟩, h5, h4⟩ | ⟨ha, h2 | ⟨h2, h3⟩, h5⟩
    · exact ⟨by rw [hthp_1223, if_pos h2, if_neg h3, ha], fun _ => by rw [h4, h1, hval_1223 h2 h3], ⟨hn, hA, hR, hH, hN, hw, h5, hknp_1223⟩⟩
    · exact ⟨by rw [hthp_1223, if_neg (by rw [h2]; decide), ha], fun h0 => absurd (ha.symm.trans h0) (by decide), ⟨hn, hA, hR, hH, hN, hw, h5, hknp_1223⟩⟩
    · exact ⟨by rw [hthp_1223, if_pos h2, if_pos h3, ha], fun h0 => absurd (ha.symm.trans h0) (by decide), ⟨hn, hA, hR, hH, hN, hw, h5, hknp_1223⟩⟩
  obtain ⟨hth, hvl, hI2⟩ := hAG
  refine lv_aload_n hx hb dL_law_1228 rfl (lv_at hl 4 rfl) ?_
  refine pu_i (va_runV (As := []) (rest := []) ⟨hx, hb, hml, hown, hts⟩ (c_X3_thrown l D cI cZ md (th9_1223) (N) (A) (R) (kw9_1223) (an) (nd) (wt) (B) (Hd) (O) (HL9_1223) (CO9_1223) ) (cwV 0 hts gL_law_X3_thrown rfl rfl rfl (by decide +kernel) ⟨Nat.le_of_ble_eq_true rfl, Nat.le_of_ble_eq_true rfl⟩) (pre_V (q0 := 0) (ci := 3) (hP.sub (ws' := (wM cI cZ md th9_1223 N A R kw9_1223 an nd wt B Hd O HL9_1223 CO9_1223)) [14, 15, 16, 17, 18, 19, 20, 21, 22] rfl) (hK.sub [0, 1] rfl) rfl rfl) rfl rfl hl.1 rfl (lv_room (Nat.le_of_ble_eq_true rfl)) dL_law_1229 ⟨hcc 2 (by decide), hss 12 (by decide)⟩) ?_
  refine lv_iload hx hb dL_law_1232 (lv_at hl 1 rfl) ?_
  refine lv_icmp_eq (tgt := 1239) hx hb dL_law_1234 (by decide) (fun c_1234 => ?_) (fun c_1234 => ?_)
  · skip
    refine lv_iload hx hb dL_law_1239 (lv_at hl 1 rfl) ?_
    refine lv_if_ne (tgt := 1256) hx hb dL_law_1241 (by decide) (fun c_1241 => ?_) (fun c_1241 => ?_)
    · skip
      refine lv_goto (tgt := 1862) hx hb dL_law_1256 (by decide) ?_
      exact hk (N) (A) (fl9_1205) (an) (nd) (wt) (B) (Hd) (O) (R) (HL9_1205) (LB9_1205) (SO9_1205) (NG9_1205) (WO9_1205) (SA9_1205) (SE9_1205) (th9_1223) (kw9_1223) (HL9_1223) (CO9_1223) (F9_1205) (G) _ _ hI2 hP hD hS ls (lv_sub hl [2, 3, 4, 5, 6, 7] rfl)
    · skip
      refine lv_aload_n hx hb dL_law_1244 rfl (lv_at hl 5 rfl) ?_
      refine lv_iconst (v := 0) hx hb dL_law_1245 (by decide) ?_
      refine ll_0 (D := D) (f := F9_1205) hx hb hK hP 23 2 rfl rfl dL_law_1246 ?_
      refine lv_iload hx hb dL_law_1247 (lv_at hl 0 rfl) ?_
      refine lv_i2l hx hb dL_law_1249 rfl ?_
      refine W.lcmp hx hb dL_law_1250 ?_
      refine lv_if_eq (tgt := 1256) hx hb dL_law_1251 (by decide) (fun c_1251 => ?_) (fun c_1251 => ?_)
      · skip
        refine lv_goto (tgt := 1862) hx hb dL_law_1256 (by decide) ?_
        exact hk (N) (A) (fl9_1205) (an) (nd) (wt) (B) (Hd) (O) (R) (HL9_1205) (LB9_1205) (SO9_1205) (NG9_1205) (WO9_1205) (SA9_1205) (SE9_1205) (th9_1223) (kw9_1223) (HL9_1223) (CO9_1223) (F9_1205) (G) _ _ hI2 hP hD hS ls (lv_sub hl [2, 3, 4, 5, 6, 7] rfl)
      · skip
        refine lv_iconst (v := 0) hx hb dL_law_1254 (by decide) ?_
        exfalso
        first | exact c_1251 hth | exact c_1251 ((lg_cmp_eq _ _).mpr (hvl c_1234)) | exact c_1251 ((lg_cmp_eq _ _).mpr (hvl c_1241)) | exact c_1251 ((lg_cmp_eq _ _).mpr (hvl c_1251))
  · skip
    refine lv_iconst (v := 0) hx hb dL_law_1237 (by decide) ?_
    exfalso
    first | exact c_1234 hth | exact c_1234 ((lg_cmp_eq _ _).mpr (hvl c_1234))
set_option maxHeartbeats 4000000 in
set_option maxRecDepth 100000 in
theorem law_c19 {p : Program} {e : Env} {s : State} {m : MethodId} {below : List Frame} {meth : Method} {c : Code} (l : Launch) (hst : l.stackTraces = false) {b L : Nat} {xs : Nat → Int32} (hL : L ≤ 1536) (C0 : lw_At p s m meth c b L xs) (D : va_G) (cI cZ cJ cE : ClassId) (ad md : Nat → Nat) (ou od : Nat) (hK : kn D (tyL cI cZ cJ cE) s) (hX : xK s) (hZ : xZ (apS s) s s.heap) (hY : yN s) (cs sl i3 : Nat) (hcs : cs + 2 ≤ 1061) (hsl : sl + 12 ≤ 12206) (hi3 : i3 + 3 ≤ L) (hk : lwK p l e s m below meth c b D cI cZ cJ cE ad md ou od cs sl i3) (N A : Nat) (fl : Bool) (an nd wt B Hd : Nat → Int32) (O : Nat → Bool) (R : Nat) (HL LB : Nat → Int32) (SO NG WO : Nat → Bool) (SA SE : Nat) (th : Int32) (kw : Bool) (HM : Nat → Int32) (CO : Nat → Bool) (F : Nat → Int64) (G : Nat → UInt64) (hI : Inv N A fl nd wt B Hd O R HL LB SO NG WO SA SE kw HM CO) (H : Heap) (locs : List Loc) (hP : va_P D vwCl (wZ cI cZ cJ cE ad md ou od N A fl an nd wt B Hd O R HL LB SO NG WO SA SE th N A R kw an nd wt B Hd O HM CO F G) H) (hD : va_D (apS s) (wZ cI cZ cJ cE ad md ou od N A fl an nd wt B Hd O R HL LB SO NG WO SA SE th N A R kw an nd wt B Hd O HM CO F G)) (hS : va_S (apS s) s.heap H locs) (ls : Array Slot) (hl : lv_has ls 9 [(0, .ref b), (1, .ref (ad 0)), (2, .ref (md 0)), (3, .ref ou), (4, .ref od), (5, .int (nI i3))]) : W p l e room_1 s m #[Value.ref b] below meth c H locs cs sl (lw_Z below #[Value.ref b] s) (F0 m 1259 ls []) := by
  obtain ⟨hx, hb, hr, hml, hown, hts, hXs, hbl, hlocks, hgv⟩ := id C0
  have hts := fun w h => hts w (wsL_law_in w h)
  have hb : c.code = cL_law := hb
  have hbA : ¬ apS s b := Nat.not_le.mpr hbl
  have hAp : ∀ q : Nat, s.heap.size ≤ q → apS s q := fun _ h => h
  obtain ⟨hn, hA, hR, hH, hN, hw, hsv, hkw⟩ := hI
  have hcc : ∀ k, k ≤ 2 → cs + k ≤ room_1.cells := fun k hk => Nat.le_trans (Nat.add_le_add_left hk cs) hcs
  have hss : ∀ k, k ≤ 12 → sl + k ≤ room_1.slots := fun k hk => Nat.le_trans (Nat.add_le_add_left hk sl) hsl
  refine lv_aload_n hx hb dL_law_1259 rfl (lv_at hl 1 rfl) ?_
  refine lv_aload_n hx hb dL_law_1260 rfl (lv_at hl 0 rfl) ?_
  refine lv_iload hx hb dL_law_1261 (lv_at hl 5 rfl) ?_
  refine lv_iconst (v := 1) hx hb dL_law_1263 (by decide) ?_
  refine lv_iadd hx hb dL_law_1264 ?_
  rw [nI_1]
  refine sld_ (i := i3 + 1) hx hb hXs hbl hbA hS (by omega) hL dL_law_1265 ?_
  refine lv_aload_n hx hb dL_law_1266 rfl (lv_at hl 3 rfl) ?_
  refine mu_i (wr := [(md 0, .inr (3, [.int (th), .int (nI (N)), .ref (md 1), .int (nI (A)), .ref (md 2), .ref (md 3), .int (nI (R)), .ref (md 4), .ref (md 5), .ref (md 6), .int (bI (kw)), .ref (md 7), .ref (md 8)])), (md 1, .inl (cI, 24, .inl an)), (md 2, .inl (cI, 9, .inl nd)), (md 3, .inl (cI, 9, .inl wt)), (md 4, .inl (cI, 40, .inl B)), (md 5, .inl (cI, 40, .inl Hd)), (md 6, .inl (cZ, 40, .inl (fun j => bI (O j)))), (md 7, .inl (cI, 512, .inl HM)), (md 8, .inl (cZ, 512, .inl (fun j => bI (CO j)))), (od, .inl (cE, 1, .inr (.inr (.inr (.inl G)))))]) (vx_runSW (As := [.ref (ad 0), .int (xs (i3 + 1)), .ref (ou)]) (rest := []) ⟨hx, hb, hml, hown, hts⟩ (c_L_cheapest l D cI cZ cJ cE ad ou (N) (A) (fl) (an) (nd) (wt) (B) (Hd) (O) (R) (HL) (LB) (SO) (NG) (WO) (SA) (SE) (F) (xs (i3 + 1)) (hA) (hR) (hn) (hH) (hN) (hsv) hst (H).size) (vx_cwSW 3 hts gL_law_L_cheapest rfl rfl rfl (by decide +kernel) ⟨Nat.le_of_ble_eq_true rfl, Nat.le_of_ble_eq_true rfl⟩) (prl_S (hP.sub (ws' := (wKL cI cZ cJ ad ou N A fl an nd wt B Hd O R HL LB SO NG WO SA SE F)) [0, 1, 2, 3, 4, 5, 6, 7, 8, 9, 10, 11, 12, 13, 23] rfl) (hD.sub (ws' := (wKL cI cZ cJ ad ou N A fl an nd wt B Hd O R HL LB SO NG WO SA SE F)) [0, 1, 2, 3, 4, 5, 6, 7, 8, 9, 10, 11, 12, 13, 23] (by decide) rfl) hK hX hZ hY hS (va_free (wc := (wKL cI cZ cJ ad ou N A fl an nd wt B Hd O R HL LB SO NG WO SA SE F)) hD hS hAp [0, 1, 2, 3, 4, 5, 6, 7, 8, 9, 10, 11, 12, 13, 23] rfl)) rfl rfl hl.1 rfl (lv_room (Nat.le_of_ble_eq_true rfl)) dL_law_1267 ⟨hcc 1 (by decide), hss 6 (by decide)⟩) hP hD hS hAp [0, 1, 2, 3, 4, 5, 6, 7, 8, 9, 10, 11, 12, 13, 23] [14, 15, 16, 17, 18, 19, 20, 21, 22, 24] rfl rfl (by decide) (by decide) (fun r_1267 u_1267 H locs hq_1267 hP hD hS => ?_)
  obtain ⟨fl9_1267, HL9_1267, LB9_1267, SO9_1267, NG9_1267, WO9_1267, SA9_1267, SE9_1267, F9_1267⟩ := u_1267
  obtain ⟨hpo_1267, -⟩ := hq_1267
  have hpo_1267 : (r_1267 = 0 ∧ ∃ rr : Int32, rr = (chE (fun e => lbM (hdE B Hd O R nd A) (soE B Hd O R nd A) (xs (i3 + 1)) e) wt A (2 ^ A)).1 ∧ (inR (xs (i3 + 1)) N = true) ∧ (fl9_1267 = true → svOK B Hd O R nd A HL9_1267 LB9_1267 SO9_1267 NG9_1267 WO9_1267 SA9_1267 SE9_1267) ∧ F9_1267 0 = rr.toInt64) ∨ (r_1267 = 1 ∧ (inR (xs (i3 + 1)) N = false) ∧ (fl9_1267 = true → svOK B Hd O R nd A HL9_1267 LB9_1267 SO9_1267 NG9_1267 WO9_1267 SA9_1267 SE9_1267)) := hpo_1267
  have hP : va_P D vwCl (wZ cI cZ cJ cE ad md ou od N A fl9_1267 an nd wt B Hd O R HL9_1267 LB9_1267 SO9_1267 NG9_1267 WO9_1267 SA9_1267 SE9_1267 th N A R kw an nd wt B Hd O HM CO F9_1267 G) H := hP.sub [10, 11, 12, 13, 14, 15, 16, 17, 18, 19, 20, 21, 22, 23, 0, 1, 2, 3, 4, 5, 6, 7, 8, 24, 9] rfl
  have hD : va_D (apS s) (wZ cI cZ cJ cE ad md ou od N A fl9_1267 an nd wt B Hd O R HL9_1267 LB9_1267 SO9_1267 NG9_1267 WO9_1267 SA9_1267 SE9_1267 th N A R kw an nd wt B Hd O HM CO F9_1267 G) := hD.sub [10, 11, 12, 13, 14, 15, 16, 17, 18, 19, 20, 21, 22, 23, 0, 1, 2, 3, 4, 5, 6, 7, 8, 24, 9] (by decide) rfl
  refine W.widen (k := cs + 2) (n := sl + 12) (Nat.add_le_add_left (by decide) cs) (Nat.add_le_add_left (by decide) sl) ?_
  refine lv_istore (lv' := [(6, .int (r_1267)), (0, .ref (b)), (1, .ref (ad 0)), (2, .ref (md 0)), (3, .ref (ou)), (4, .ref (od)), (5, .int (nI (i3)))]) hx hb dL_law_1270 hl (by decide) rfl (fun ls hl => ?_)
  refine lv_aload_n hx hb dL_law_1272 rfl (lv_at hl 3 rfl) ?_
  refine lv_aload_n hx hb dL_law_1273 rfl (lv_at hl 1 rfl) ?_
  refine lv_iload hx hb dL_law_1274 (lv_at hl 6 rfl) ?_
  refine lv_iconst (v := 1) hx hb dL_law_1276 (by decide) ?_
  refine lv_iadd hx hb dL_law_1277 ?_
  rw [nI_1]
  refine sld_ (i := i3 + 1) hx hb hXs hbl hbA hS (by omega) hL dL_law_1278 ?_
  refine mu_i (wr := [(ad 0, .inr (2, [.ref (ad 1), .ref (ad 2), .ref (ad 3), .ref (ad 4), .ref (ad 8), .int (nI (N)), .int (nI (A)), .int (bI (fl9_1267))])), (ad 1, .inl (cI, 24, .inl an)), (ad 2, .inl (cI, 9, .inl nd)), (ad 3, .inl (cI, 9, .inl wt)), (ad 4, .inr (0, [.ref (ad 5), .ref (ad 6), .ref (ad 7), .int (nI (R))])), (ad 5, .inl (cI, 40, .inl B)), (ad 6, .inl (cI, 40, .inl Hd)), (ad 7, .inl (cZ, 40, .inl (fun j => bI (O j)))), (ad 8, .inr (1, [.ref (ad 9), .ref (ad 10), .ref (ad 11), .ref (ad 12), .ref (ad 13), .int (nI (SA9_1267)), .int (nI (SE9_1267))])), (ad 9, .inl (cI, 512, .inl HL9_1267)), (ad 10, .inl (cI, 512, .inl LB9_1267)), (ad 11, .inl (cZ, 512, .inl (fun j => bI (SO9_1267 j)))), (ad 12, .inl (cZ, 512, .inl (fun j => bI (NG9_1267 j)))), (ad 13, .inl (cZ, 512, .inl (fun j => bI (WO9_1267 j)))), (ou, .inl (cJ, 1, .inr (.inl F9_1267))), (od, .inl (cE, 1, .inr (.inr (.inr (.inl G)))))]) (va_runV (As := [.int (xs (i3 + 1))]) (rest := []) ⟨hx, hb, hml, hown, hts⟩ (c_X3_cheapest l D cI cZ md (th) (N) (A) (R) (kw) (an) (nd) (wt) (B) (Hd) (O) (HM) (CO) (xs (i3 + 1)) (hA) (hR) (hn) (hH) (hN) (hkw) (H).size) (cwV 1 hts gL_law_X3_cheapest rfl rfl rfl (by decide +kernel) ⟨Nat.le_of_ble_eq_true rfl, Nat.le_of_ble_eq_true rfl⟩) (prw_V (q0 := 0) (ci := 3) (hP.sub (ws' := (wM cI cZ md th N A R kw an nd wt B Hd O HM CO)) [14, 15, 16, 17, 18, 19, 20, 21, 22] rfl) (hD.sub (ws' := (wM cI cZ md th N A R kw an nd wt B Hd O HM CO)) [14, 15, 16, 17, 18, 19, 20, 21, 22] (by decide) rfl) (hK.sub [0, 1] rfl) rfl rfl) rfl rfl hl.1 rfl (lv_room (Nat.le_of_ble_eq_true rfl)) dL_law_1279 ⟨hcc 2 (by decide), hss 12 (by decide)⟩) hP hD hS hAp [14, 15, 16, 17, 18, 19, 20, 21, 22] [0, 1, 2, 3, 4, 5, 6, 7, 8, 9, 10, 11, 12, 13, 23, 24] rfl rfl (by decide) (by decide) (fun r_1279 u_1279 H locs hq_1279 hP hD hS => ?_)
  obtain ⟨th9_1279, HL9_1279, CO9_1279, kw9_1279⟩ := u_1279
  obtain ⟨hthp_1279, hknp_1279, hval_1279, -⟩ := hq_1279
  have hthp_1279 : th9_1279 = tB (inR (xs (i3 + 1)) N) := hthp_1279
  have hknp_1279 : kw9_1279 = true → knOK B Hd O R nd A HL9_1279 CO9_1279 := hknp_1279
  have hval_1279 : inR (xs (i3 + 1)) N = true → r_1279 = (chE (fun e => lbM (hdE B Hd O R nd A) (soE B Hd O R nd A) (xs (i3 + 1)) e) wt A (2 ^ A)).1 := hval_1279
  have hP : va_P D vwCl (wZ cI cZ cJ cE ad md ou od N A fl9_1267 an nd wt B Hd O R HL9_1267 LB9_1267 SO9_1267 NG9_1267 WO9_1267 SA9_1267 SE9_1267 th9_1279 N A R kw9_1279 an nd wt B Hd O HL9_1279 CO9_1279 F9_1267 G) H := hP.sub [0, 1, 2, 3, 4, 5, 6, 7, 8, 9, 10, 11, 12, 13, 16, 17, 18, 19, 20, 21, 22, 23, 24, 14, 15] rfl
  have hD : va_D (apS s) (wZ cI cZ cJ cE ad md ou od N A fl9_1267 an nd wt B Hd O R HL9_1267 LB9_1267 SO9_1267 NG9_1267 WO9_1267 SA9_1267 SE9_1267 th9_1279 N A R kw9_1279 an nd wt B Hd O HL9_1279 CO9_1279 F9_1267 G) := hD.sub [0, 1, 2, 3, 4, 5, 6, 7, 8, 9, 10, 11, 12, 13, 16, 17, 18, 19, 20, 21, 22, 23, 24, 14, 15] (by decide) rfl
  refine lv_istore (lv' := [(7, .int (r_1279)), (6, .int (r_1267)), (0, .ref (b)), (1, .ref (ad 0)), (2, .ref (md 0)), (3, .ref (ou)), (4, .ref (od)), (5, .int (nI (i3)))]) hx hb dL_law_1282 hl (by decide) rfl (fun ls hl => ?_)
  have hAG : ((th9_1279) = r_1267) ∧ ((r_1267 = 0 → F9_1267 0 = (r_1279).toInt64)) ∧ (Inv N A fl9_1267 nd wt B Hd O R HL9_1267 LB9_1267 SO9_1267 NG9_1267 WO9_1267 SA9_1267 SE9_1267 kw9_1279 HL9_1279 CO9_1279) := by
    rcases hpo_1267 with ⟨ha, rr, h1, h2, h3, h4⟩ | ⟨ha, h2, h3⟩
    · exact ⟨by rw [hthp_1279, h2, ha]; rfl, fun _ => by rw [h4, h1, hval_1279 h2], ⟨hn, hA, hR, hH, hN, hw, h3, hknp_1279⟩⟩
    · exact ⟨by rw [hthp_1279, h2, ha]; rfl, fun h0 => absurd (ha.symm.trans h0) (by decide), ⟨hn, hA, hR, hH, hN, hw, h3, hknp_1279⟩⟩
  obtain ⟨hth, hvl, hI2⟩ := hAG
  refine lv_aload_n hx hb dL_law_1284 rfl (lv_at hl 4 rfl) ?_
  refine pu_i (va_runV (As := []) (rest := []) ⟨hx, hb, hml, hown, hts⟩ (c_X3_thrown l D cI cZ md (th9_1279) (N) (A) (R) (kw9_1279) (an) (nd) (wt) (B) (Hd) (O) (HL9_1279) (CO9_1279) ) (cwV 0 hts gL_law_X3_thrown rfl rfl rfl (by decide +kernel) ⟨Nat.le_of_ble_eq_true rfl, Nat.le_of_ble_eq_true rfl⟩) (pre_V (q0 := 0) (ci := 3) (hP.sub (ws' := (wM cI cZ md th9_1279 N A R kw9_1279 an nd wt B Hd O HL9_1279 CO9_1279)) [14, 15, 16, 17, 18, 19, 20, 21, 22] rfl) (hK.sub [0, 1] rfl) rfl rfl) rfl rfl hl.1 rfl (lv_room (Nat.le_of_ble_eq_true rfl)) dL_law_1285 ⟨hcc 2 (by decide), hss 12 (by decide)⟩) ?_
  refine lv_iload hx hb dL_law_1288 (lv_at hl 1 rfl) ?_
  refine lv_icmp_eq (tgt := 1295) hx hb dL_law_1290 (by decide) (fun c_1290 => ?_) (fun c_1290 => ?_)
  · skip
    refine lv_iload hx hb dL_law_1295 (lv_at hl 1 rfl) ?_
    refine lv_if_ne (tgt := 1312) hx hb dL_law_1297 (by decide) (fun c_1297 => ?_) (fun c_1297 => ?_)
    · skip
      refine lv_goto (tgt := 1862) hx hb dL_law_1312 (by decide) ?_
      exact hk (N) (A) (fl9_1267) (an) (nd) (wt) (B) (Hd) (O) (R) (HL9_1267) (LB9_1267) (SO9_1267) (NG9_1267) (WO9_1267) (SA9_1267) (SE9_1267) (th9_1279) (kw9_1279) (HL9_1279) (CO9_1279) (F9_1267) (G) _ _ hI2 hP hD hS ls (lv_sub hl [2, 3, 4, 5, 6, 7] rfl)
    · skip
      refine lv_aload_n hx hb dL_law_1300 rfl (lv_at hl 5 rfl) ?_
      refine lv_iconst (v := 0) hx hb dL_law_1301 (by decide) ?_
      refine ll_0 (D := D) (f := F9_1267) hx hb hK hP 23 2 rfl rfl dL_law_1302 ?_
      refine lv_iload hx hb dL_law_1303 (lv_at hl 0 rfl) ?_
      refine lv_i2l hx hb dL_law_1305 rfl ?_
      refine W.lcmp hx hb dL_law_1306 ?_
      refine lv_if_eq (tgt := 1312) hx hb dL_law_1307 (by decide) (fun c_1307 => ?_) (fun c_1307 => ?_)
      · skip
        refine lv_goto (tgt := 1862) hx hb dL_law_1312 (by decide) ?_
        exact hk (N) (A) (fl9_1267) (an) (nd) (wt) (B) (Hd) (O) (R) (HL9_1267) (LB9_1267) (SO9_1267) (NG9_1267) (WO9_1267) (SA9_1267) (SE9_1267) (th9_1279) (kw9_1279) (HL9_1279) (CO9_1279) (F9_1267) (G) _ _ hI2 hP hD hS ls (lv_sub hl [2, 3, 4, 5, 6, 7] rfl)
      · skip
        refine lv_iconst (v := 0) hx hb dL_law_1310 (by decide) ?_
        exfalso
        first | exact c_1307 hth | exact c_1307 ((lg_cmp_eq _ _).mpr (hvl c_1290)) | exact c_1307 ((lg_cmp_eq _ _).mpr (hvl c_1297)) | exact c_1307 ((lg_cmp_eq _ _).mpr (hvl c_1307))
  · skip
    refine lv_iconst (v := 0) hx hb dL_law_1293 (by decide) ?_
    exfalso
    first | exact c_1290 hth | exact c_1290 ((lg_cmp_eq _ _).mpr (hvl c_1290))
