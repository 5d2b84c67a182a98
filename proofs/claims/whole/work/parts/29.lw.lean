set_option maxHeartbeats 4000000 in
set_option maxRecDepth 100000 in
theorem c_L_addStatement (l : Launch) (D : va_G) (cI cZ cJ cE : ClassId) (ad : Nat → Nat) (ou : Nat) (N : Nat) (A : Nat) (fl : Bool) (an : Nat → Int32) (nd : Nat → Int32) (wt : Nat → Int32) (B : Nat → Int32) (Hd : Nat → Int32) (O : Nat → Bool) (R : Nat) (HL : Nat → Int32) (LB : Nat → Int32) (SO : Nat → Bool) (NG : Nat → Bool) (WO : Nat → Bool) (SA : Nat) (SE : Nat) (F : Nat → Int64) (hn : N ≤ 24) (hst : l.stackTraces = false) (sz : Nat) : Met l yL_addStatement wsL_addStatement ({ frames := 7, cells := 1, slots := 6, locals := 110 }) (pcL D [(cI, .int), (cZ, .boolean), (cJ, .long), (cE, .double)] sz (wKL cI cZ cJ ad ou N A fl an nd wt B Hd O R HL LB SO NG WO SA SE F) [.ref (ad 0), .ref (ou)]) (va_Qi (fun (r9 : Int32) (u9 : (Nat) × (Bool) × (Nat → Int32) × (Nat → Int64)) => ((r9 = 0 ∧ ∃ rr : Int32, rr = nI (N) ∧ (N < 24) ∧ (u9.2.2.1) = upd an N (-1) ∧ (u9.1) = N + 1 ∧ (u9.2.1) = false ∧ (u9.2.2.2) 0 = rr.toInt64) ∨ (r9 = 1 ∧ (24 ≤ N) ∧ (u9.1) = N ∧ (u9.2.1) = fl ∧ (u9.2.2.1) = an)) ∧ (True)) (wB D (va_A (wKL cI cZ cJ ad ou N A fl an nd wt B Hd O R HL LB SO NG WO SA SE F) sz) (fun u9 : (Nat) × (Bool) × (Nat → Int32) × (Nat → Int64) => (wKL cI cZ cJ ad ou (u9.1) A (u9.2.1) (u9.2.2.1) nd wt B Hd O R HL LB SO NG WO SA SE (u9.2.2.2)))) (va_A (wKL cI cZ cJ ad ou N A fl an nd wt B Hd O R HL LB SO NG WO SA SE F) sz)) 1 6 (va_A (wKL cI cZ cJ ad ou N A fl an nd wt B Hd O R HL LB SO NG WO SA SE F) sz) := by
  refine va_MetW (cc := cL_addStatement) (maxL := 3) (ret := (some .int)) (hh := [(0, 8, 11, 13)]) (by decide) rfl ?_
  intro p e s m args below meth c s₁ BB hml hv
  obtain ⟨rfl, hsz, hP, hK, hD0, hX, hZ, hY⟩ := hv
  have hx := BB.exec
  have hb := BB.bytes
  have hrt := BB.returns
  have hts := atoms_spec (ws := wsL_addStatement) BB.pre
  have hown : s.vm.findClass RL = some m.cls := findClass_of_methodNamed BB.named
  have hlk := BB.notSynchronized
  subst hsz
  have hD := hD0.self (sz := s.heap.size)
  generalize hAe : va_A (wKL cI cZ cJ ad ou N A fl an nd wt B Hd O R HL LB SO NG WO SA SE F) s.heap.size = Ap at hD hZ ⊢
  have hAp : ∀ q : Nat, s.heap.size ≤ q → Ap q := fun q h => by rw [← hAe]; exact Or.inr h
  have hS : va_S Ap s.heap s.heap [] := va_S.rf
  have htb := vx_table (x := yL_addStatement) BB (hts (.codeWith yL_addStatement cL_addStatement 3 (some .int) [(0, 8, 11, 13)]) List.mem_cons_self)
  have hl := lv_entry ([.ref (ad 0), .ref (ou)]) (n := 3) (Nat.le_of_ble_eq_true rfl)
  rw [lg_entry_eq]
  generalize (lg_sl ([.ref (ad 0), .ref (ou)]) ++ List.replicate (3 - (lg_sl ([.ref (ad 0), .ref (ou)])).length) Slot.unset).toArray = ls at hl ⊢
  have hl : lv_has ls 3 [(0, .ref (ad 0)), (1, .ref (ou))] := hl
  refine lv_aload_n hx hb dL_addStatement_0 rfl (lv_at hl 1 rfl) ?_
  refine lv_iconst (v := 0) hx hb dL_addStatement_1 (by decide) ?_
  refine lv_aload_n hx hb dL_addStatement_2 rfl (lv_at hl 0 rfl) ?_
  refine xu_i (wr := [(ou, .inl (cJ, 1, .inr (.inl F)))]) (vx_runV (As := []) (rest := [.int (0), .ref (ou)]) ⟨hx, hb, hml, hown, hts⟩ (c_X2_addStatement l D cI cZ ad (N) (A) (fl) (an) (nd) (wt) (B) (Hd) (O) (R) (HL) (LB) (SO) (NG) (WO) (SA) (SE) (hn) hst (s.heap).size) (cwV 0 hts gL_addStatement_X2_addStatement rfl rfl rfl (by decide +kernel) ⟨Nat.le_of_ble_eq_true rfl, Nat.le_of_ble_eq_true rfl⟩) (prx_V (q0 := 0) (ci := 2) (hP.sub (ws' := (wK cI cZ ad N A fl an nd wt B Hd O R HL LB SO NG WO SA SE)) [0, 1, 2, 3, 4, 5, 6, 7, 8, 9, 10, 11, 12, 13] rfl) (hD.sub (ws' := (wK cI cZ ad N A fl an nd wt B Hd O R HL LB SO NG WO SA SE)) [0, 1, 2, 3, 4, 5, 6, 7, 8, 9, 10, 11, 12, 13] (by decide) rfl) (hK.sub [0, 1] rfl) hX hZ hS (va_free (wc := (wK cI cZ ad N A fl an nd wt B Hd O R HL LB SO NG WO SA SE)) hD hS hAp [0, 1, 2, 3, 4, 5, 6, 7, 8, 9, 10, 11, 12, 13] rfl) rfl rfl) rfl rfl hl.1 rfl (lv_room (Nat.le_of_ble_eq_true rfl)) dL_addStatement_3 ⟨Nat.le_of_ble_eq_true rfl, Nat.le_of_ble_eq_true rfl⟩) hP hD hS hAp [0, 1, 2, 3, 4, 5, 6, 7, 8, 9, 10, 11, 12, 13] [14] rfl rfl (by decide) (by decide) (fun E_3 ce_3 q9_3 ux_3 H locs hxp_3 hP hD hS h7_3 h8_3 h9_3 => ?_) (fun r_3 u_3 H locs hq_3 hP hD hS => ?_)
  · skip
    have hP : va_P D vwCl (wKL cI cZ cJ ad ou N A fl an nd wt B Hd O R HL LB SO NG WO SA SE F) H := hP.sub [1, 2, 3, 4, 5, 6, 7, 8, 9, 10, 11, 12, 13, 14, 0] rfl
    have hD : va_D Ap (wKL cI cZ cJ ad ou N A fl an nd wt B Hd O R HL LB SO NG WO SA SE F) := hD.sub [1, 2, 3, 4, 5, 6, 7, 8, 9, 10, 11, 12, 13, 14, 0] (by decide) rfl
    obtain ⟨hE9, hc9⟩ := hxp_3
    subst hE9
    refine vx_catch (E := "java/lang/IllegalStateException") (name := "java/lang/IllegalStateException") hown [] ⟨0, 8, 11, 13⟩ [] (htb.trans rfl) (fun z hz => by cases hz) (by decide) (by decide) (hts (.classLink RL 13 "java/lang/IllegalStateException") (by decide +kernel)) (va_Nw.use rfl (hX.2 (.castable "java/lang/IllegalStateException" "java/lang/IllegalStateException") (by decide +kernel))) h7_3 h8_3 h9_3 ?_
    refine lv_astore_n (lv' := [(2, .ref (q9_3)), (0, .ref (ad 0)), (1, .ref (ou))]) hx hb dL_addStatement_11 rfl hl (by decide) rfl (fun ls hl => ?_)
    refine lv_iconst (v := 1) hx hb dL_addStatement_12 (by decide) ?_
    exact mr_i (u := (N, fl, an, F)) hx hb hrt hlk dL_addStatement_13 hS hP hD ⟨(Or.inr (⟨rfl, hc9, rfl, rfl, rfl⟩)), trivial⟩
  · skip
    obtain ⟨rfl, hok_3, -⟩ := hq_3
    have hP : va_P D vwCl (wKL cI cZ cJ ad ou (N + 1) A false (upd an N (-1)) nd wt B Hd O R HL LB SO NG WO SA SE F) H := hP.sub [1, 2, 3, 4, 5, 6, 7, 8, 9, 10, 11, 12, 13, 14, 0] rfl
    have hD : va_D Ap (wKL cI cZ cJ ad ou (N + 1) A false (upd an N (-1)) nd wt B Hd O R HL LB SO NG WO SA SE F) := hD.sub [1, 2, 3, 4, 5, 6, 7, 8, 9, 10, 11, 12, 13, 14, 0] (by decide) rfl
    refine W.widen (k := 1) (n := 6) (by decide) (by decide) ?_
    refine lv_i2l hx hb dL_addStatement_6 rfl ?_
    refine sl_0 (D := D) (f := F) (x := (nI (N)).toInt64) hx hb hK hP hD hS 14 2 rfl rfl dL_addStatement_7 (fun H locs hP hD hS => ?_)
    have hP : va_P D vwCl (wKL cI cZ cJ ad ou (N + 1) A false (upd an N (-1)) nd wt B Hd O R HL LB SO NG WO SA SE (vp_updL F 0 ((nI (N)).toInt64))) H := hP
    have hD : va_D Ap (wKL cI cZ cJ ad ou (N + 1) A false (upd an N (-1)) nd wt B Hd O R HL LB SO NG WO SA SE (vp_updL F 0 ((nI (N)).toInt64))) := hD
    refine lv_goto (tgt := 14) hx hb dL_addStatement_8 (by decide) ?_
    refine lv_iconst (v := 0) hx hb dL_addStatement_14 (by decide) ?_
    exact mr_i (u := (N + 1, false, upd an N (-1), vp_updL F 0 ((nI (N)).toInt64))) hx hb hrt hlk dL_addStatement_15 hS hP hD ⟨(Or.inl ⟨rfl, _, rfl, hok_3, rfl, rfl, rfl, rfl⟩), trivial⟩
set_option maxHeartbeats 4000000 in
set_option maxRecDepth 100000 in
theorem c_L_addAssumption (l : Launch) (D : va_G) (cI cZ cJ cE : ClassId) (ad : Nat → Nat) (ou : Nat) (N : Nat) (A : Nat) (fl : Bool) (an : Nat → Int32) (nd : Nat → Int32) (wt : Nat → Int32) (B : Nat → Int32) (Hd : Nat → Int32) (O : Nat → Bool) (R : Nat) (HL : Nat → Int32) (LB : Nat → Int32) (SO : Nat → Bool) (NG : Nat → Bool) (WO : Nat → Bool) (SA : Nat) (SE : Nat) (F : Nat → Int64) (x0 : Int32) (hn : N ≤ 24) (hA : A ≤ 9) (hst : l.stackTraces = false) (sz : Nat) : Met l yL_addAssumption wsL_addAssumption ({ frames := 8, cells := 2, slots := 12, locals := 132 }) (pcL D [(cI, .int), (cZ, .boolean), (cJ, .long), (cE, .double)] sz (wKL cI cZ cJ ad ou N A fl an nd wt B Hd O R HL LB SO NG WO SA SE F) [.ref (ad 0), .int (x0), .ref (ou)]) (va_Qi (fun (r9 : Int32) (u9 : (Nat) × (Nat) × (Bool) × (Nat → Int32) × (Nat → Int32) × (Nat → Int32) × (Nat → Int64)) => ((r9 = 0 ∧ ∃ rr : Int32, rr = nI (N) ∧ (okW x0 = true ∧ N < 24 ∧ A < 9) ∧ (u9.2.2.2.2.1) = upd nd A (nI N) ∧ (u9.2.2.2.2.2.1) = upd wt A x0 ∧ (u9.2.1) = A + 1 ∧ (u9.2.2.2.1) = upd an N (nI A) ∧ (u9.1) = N + 1 ∧ (u9.2.2.1) = false ∧ (u9.2.2.2.2.2.2) 0 = rr.toInt64) ∨ (r9 = 1 ∧ (okW x0 = false) ∧ (u9.1) = N ∧ (u9.2.1) = A ∧ (u9.2.2.1) = fl ∧ (u9.2.2.2.1) = an ∧ (u9.2.2.2.2.1) = nd ∧ (u9.2.2.2.2.2.1) = wt) ∨ (r9 = 2 ∧ (okW x0 = true ∧ (24 ≤ N ∨ 9 ≤ A)) ∧ (u9.1) = N ∧ (u9.2.1) = A ∧ (u9.2.2.1) = fl ∧ (u9.2.2.2.1) = an ∧ (u9.2.2.2.2.1) = nd ∧ (u9.2.2.2.2.2.1) = wt)) ∧ (True)) (wB D (va_A (wKL cI cZ cJ ad ou N A fl an nd wt B Hd O R HL LB SO NG WO SA SE F) sz) (fun u9 : (Nat) × (Nat) × (Bool) × (Nat → Int32) × (Nat → Int32) × (Nat → Int32) × (Nat → Int64) => (wKL cI cZ cJ ad ou (u9.1) (u9.2.1) (u9.2.2.1) (u9.2.2.2.1) (u9.2.2.2.2.1) (u9.2.2.2.2.2.1) B Hd O R HL LB SO NG WO SA SE (u9.2.2.2.2.2.2)))) (va_A (wKL cI cZ cJ ad ou N A fl an nd wt B Hd O R HL LB SO NG WO SA SE F) sz)) 2 12 (va_A (wKL cI cZ cJ ad ou N A fl an nd wt B Hd O R HL LB SO NG WO SA SE F) sz) := by
  refine va_MetW (cc := cL_addAssumption) (maxL := 4) (ret := (some .int)) (hh := [(0, 9, 12, 19), (0, 9, 15, 13)]) (by decide) rfl ?_
  intro p e s m args below meth c s₁ BB hml hv
  obtain ⟨rfl, hsz, hP, hK, hD0, hX, hZ, hY⟩ := hv
  have hx := BB.exec
  have hb := BB.bytes
  have hrt := BB.returns
  have hts := atoms_spec (ws := wsL_addAssumption) BB.pre
  have hown : s.vm.findClass RL = some m.cls := findClass_of_methodNamed BB.named
  have hlk := BB.notSynchronized
  subst hsz
  have hD := hD0.self (sz := s.heap.size)
  generalize hAe : va_A (wKL cI cZ cJ ad ou N A fl an nd wt B Hd O R HL LB SO NG WO SA SE F) s.heap.size = Ap at hD hZ ⊢
  have hAp : ∀ q : Nat, s.heap.size ≤ q → Ap q := fun q h => by rw [← hAe]; exact Or.inr h
  have hS : va_S Ap s.heap s.heap [] := va_S.rf
  have htb := vx_table (x := yL_addAssumption) BB (hts (.codeWith yL_addAssumption cL_addAssumption 4 (some .int) [(0, 9, 12, 19), (0, 9, 15, 13)]) List.mem_cons_self)
  have hl := lv_entry ([.ref (ad 0), .int (x0), .ref (ou)]) (n := 4) (Nat.le_of_ble_eq_true rfl)
  rw [lg_entry_eq]
  generalize (lg_sl ([.ref (ad 0), .int (x0), .ref (ou)]) ++ List.replicate (4 - (lg_sl ([.ref (ad 0), .int (x0), .ref (ou)])).length) Slot.unset).toArray = ls at hl ⊢
  have hl : lv_has ls 4 [(0, .ref (ad 0)), (1, .int (x0)), (2, .ref (ou))] := hl
  refine lv_aload_n hx hb dL_addAssumption_0 rfl (lv_at hl 2 rfl) ?_
  refine lv_iconst (v := 0) hx hb dL_addAssumption_1 (by decide) ?_
  refine lv_aload_n hx hb dL_addAssumption_2 rfl (lv_at hl 0 rfl) ?_
  refine lv_iload_n hx hb dL_addAssumption_3 rfl (lv_at hl 1 rfl) ?_
  refine xu_i (wr := [(ou, .inl (cJ, 1, .inr (.inl F)))]) (vx_runV (As := [.int (x0)]) (rest := [.int (0), .ref (ou)]) ⟨hx, hb, hml, hown, hts⟩ (c_X2_addAssumption l D cI cZ ad (N) (A) (fl) (an) (nd) (wt) (B) (Hd) (O) (R) (HL) (LB) (SO) (NG) (WO) (SA) (SE) (x0) (hn) (hA) hst (s.heap).size) (cwV 1 hts gL_addAssumption_X2_addAssumption rfl rfl rfl (by decide +kernel) ⟨Nat.le_of_ble_eq_true rfl, Nat.le_of_ble_eq_true rfl⟩) (prx_V (q0 := 0) (ci := 2) (hP.sub (ws' := (wK cI cZ ad N A fl an nd wt B Hd O R HL LB SO NG WO SA SE)) [0, 1, 2, 3, 4, 5, 6, 7, 8, 9, 10, 11, 12, 13] rfl) (hD.sub (ws' := (wK cI cZ ad N A fl an nd wt B Hd O R HL LB SO NG WO SA SE)) [0, 1, 2, 3, 4, 5, 6, 7, 8, 9, 10, 11, 12, 13] (by decide) rfl) (hK.sub [0, 1] rfl) hX hZ hS (va_free (wc := (wK cI cZ ad N A fl an nd wt B Hd O R HL LB SO NG WO SA SE)) hD hS hAp [0, 1, 2, 3, 4, 5, 6, 7, 8, 9, 10, 11, 12, 13] rfl) rfl rfl) rfl rfl hl.1 rfl (lv_room (Nat.le_of_ble_eq_true rfl)) dL_addAssumption_4 ⟨Nat.le_of_ble_eq_true rfl, Nat.le_of_ble_eq_true rfl⟩) hP hD hS hAp [0, 1, 2, 3, 4, 5, 6, 7, 8, 9, 10, 11, 12, 13] [14] rfl rfl (by decide) (by decide) (fun E_4 ce_4 q9_4 ux_4 H locs hxp_4 hP hD hS h7_4 h8_4 h9_4 => ?_) (fun r_4 u_4 H locs hq_4 hP hD hS => ?_)
  · skip
    have hP : va_P D vwCl (wKL cI cZ cJ ad ou N A fl an nd wt B Hd O R HL LB SO NG WO SA SE F) H := hP.sub [1, 2, 3, 4, 5, 6, 7, 8, 9, 10, 11, 12, 13, 14, 0] rfl
    have hD : va_D Ap (wKL cI cZ cJ ad ou N A fl an nd wt B Hd O R HL LB SO NG WO SA SE F) := hD.sub [1, 2, 3, 4, 5, 6, 7, 8, 9, 10, 11, 12, 13, 14, 0] (by decide) rfl
    rcases hxp_4 with hxp_4 | hxp_4
    · skip
      obtain ⟨hE9, hc9⟩ := hxp_4
      subst hE9
      refine vx_catch (E := "java/lang/IllegalArgumentException") (name := "java/lang/IllegalArgumentException") hown [] ⟨0, 9, 12, 19⟩ [⟨0, 9, 15, 13⟩] (htb.trans rfl) (fun z hz => by cases hz) (by decide) (by decide) (hts (.classLink RL 19 "java/lang/IllegalArgumentException") (by decide +kernel)) (va_Nw.use rfl (hX.2 (.castable "java/lang/IllegalArgumentException" "java/lang/IllegalArgumentException") (by decide +kernel))) h7_4 h8_4 h9_4 ?_
      refine lv_astore_n (lv' := [(3, .ref (q9_4)), (0, .ref (ad 0)), (1, .int (x0)), (2, .ref (ou))]) hx hb dL_addAssumption_12 rfl hl (by decide) rfl (fun ls hl => ?_)
      refine lv_iconst (v := 1) hx hb dL_addAssumption_13 (by decide) ?_
      exact mr_i (u := (N, A, fl, an, nd, wt, F)) hx hb hrt hlk dL_addAssumption_14 hS hP hD ⟨(Or.inr (Or.inl ⟨rfl, hc9, rfl, rfl, rfl, rfl, rfl, rfl⟩)), trivial⟩
    · skip
      obtain ⟨hE9, hc9⟩ := hxp_4
      subst hE9
      refine vx_catch (E := "java/lang/IllegalStateException") (name := "java/lang/IllegalStateException") hown [⟨0, 9, 12, 19⟩] ⟨0, 9, 15, 13⟩ [] (htb.trans rfl) (fun z hz => by simp only [List.mem_cons, List.not_mem_nil, or_false] at hz; rcases hz with rfl <;> refine Or.inr ⟨by decide, ?_⟩ <;> first | exact ⟨_, hts (.classLink RL 19 "java/lang/IllegalArgumentException") (by decide +kernel), hY.1⟩) (by decide) (by decide) (hts (.classLink RL 13 "java/lang/IllegalStateException") (by decide +kernel)) (va_Nw.use rfl (hX.2 (.castable "java/lang/IllegalStateException" "java/lang/IllegalStateException") (by decide +kernel))) h7_4 h8_4 h9_4 ?_
      refine lv_astore_n (lv' := [(3, .ref (q9_4)), (0, .ref (ad 0)), (1, .int (x0)), (2, .ref (ou))]) hx hb dL_addAssumption_15 rfl hl (by decide) rfl (fun ls hl => ?_)
      refine lv_iconst (v := 2) hx hb dL_addAssumption_16 (by decide) ?_
      exact mr_i (u := (N, A, fl, an, nd, wt, F)) hx hb hrt hlk dL_addAssumption_17 hS hP hD ⟨(Or.inr (Or.inr (⟨rfl, hc9, rfl, rfl, rfl, rfl, rfl, rfl⟩))), trivial⟩
  · skip
    obtain ⟨rfl, hok_4, -⟩ := hq_4
    have hP : va_P D vwCl (wKL cI cZ cJ ad ou (N + 1) (A + 1) false (upd an N (nI A)) (upd nd A (nI N)) (upd wt A x0) B Hd O R HL LB SO NG WO SA SE F) H := hP.sub [1, 2, 3, 4, 5, 6, 7, 8, 9, 10, 11, 12, 13, 14, 0] rfl
    have hD : va_D Ap (wKL cI cZ cJ ad ou (N + 1) (A + 1) false (upd an N (nI A)) (upd nd A (nI N)) (upd wt A x0) B Hd O R HL LB SO NG WO SA SE F) := hD.sub [1, 2, 3, 4, 5, 6, 7, 8, 9, 10, 11, 12, 13, 14, 0] (by decide) rfl
    refine W.widen (k := 2) (n := 12) (by decide) (by decide) ?_
    refine lv_i2l hx hb dL_addAssumption_7 rfl ?_
    refine sl_0 (D := D) (f := F) (x := (nI (N)).toInt64) hx hb hK hP hD hS 14 2 rfl rfl dL_addAssumption_8 (fun H locs hP hD hS => ?_)
    have hP : va_P D vwCl (wKL cI cZ cJ ad ou (N + 1) (A + 1) false (upd an N (nI A)) (upd nd A (nI N)) (upd wt A x0) B Hd O R HL LB SO NG WO SA SE (vp_updL F 0 ((nI (N)).toInt64))) H := hP
    have hD : va_D Ap (wKL cI cZ cJ ad ou (N + 1) (A + 1) false (upd an N (nI A)) (upd nd A (nI N)) (upd wt A x0) B Hd O R HL LB SO NG WO SA SE (vp_updL F 0 ((nI (N)).toInt64))) := hD
    refine lv_goto (tgt := 18) hx hb dL_addAssumption_9 (by decide) ?_
    refine lv_iconst (v := 0) hx hb dL_addAssumption_18 (by decide) ?_
    exact mr_i (u := (N + 1, A + 1, false, upd an N (nI A), upd nd A (nI N), upd wt A x0, vp_updL F 0 ((nI (N)).toInt64))) hx hb hrt hlk dL_addAssumption_19 hS hP hD ⟨(Or.inl ⟨rfl, _, rfl, hok_4, rfl, rfl, rfl, rfl, rfl, rfl, rfl⟩), trivial⟩
set_option maxHeartbeats 4000000 in
set_option maxRecDepth 100000 in
theorem c_L_setWeight (l : Launch) (D : va_G) (cI cZ cJ cE : ClassId) (ad : Nat → Nat) (ou : Nat) (N : Nat) (A : Nat) (fl : Bool) (an : Nat → Int32) (nd : Nat → Int32) (wt : Nat → Int32) (B : Nat → Int32) (Hd : Nat → Int32) (O : Nat → Bool) (R : Nat) (HL : Nat → Int32) (LB : Nat → Int32) (SO : Nat → Bool) (NG : Nat → Bool) (WO : Nat → Bool) (SA : Nat) (SE : Nat) (F : Nat → Int64) (x0 : Int32) (y0 : Int32) (hA : A ≤ 9) (hst : l.stackTraces = false) (sz : Nat) : Met l yL_setWeight wsL_setWeight ({ frames := 8, cells := 2, slots := 12, locals := 134 }) (pcL D [(cI, .int), (cZ, .boolean), (cJ, .long), (cE, .double)] sz (wKL cI cZ cJ ad ou N A fl an nd wt B Hd O R HL LB SO NG WO SA SE F) [.ref (ad 0), .int (x0), .int (y0), .ref (ou)]) (va_Qi (fun (r9 : Int32) (u9 : (Nat → Int32) × (Nat → Int64)) => ((r9 = 0 ∧ ∃ rr : Int32, (inR x0 A = true ∧ okW y0 = true) ∧ (∃ j, j < A ∧ x0 = nI j ∧ rr = wt j ∧ (u9.1) = upd wt j y0) ∧ (u9.2) 0 = rr.toInt64) ∨ (r9 = 1 ∧ (inR x0 A = false) ∧ (u9.1) = wt) ∨ (r9 = 2 ∧ (inR x0 A = true ∧ okW y0 = false) ∧ (u9.1) = wt)) ∧ (True)) (wB D (va_A (wKL cI cZ cJ ad ou N A fl an nd wt B Hd O R HL LB SO NG WO SA SE F) sz) (fun u9 : (Nat → Int32) × (Nat → Int64) => (wKL cI cZ cJ ad ou N A fl an nd (u9.1) B Hd O R HL LB SO NG WO SA SE (u9.2)))) (va_A (wKL cI cZ cJ ad ou N A fl an nd wt B Hd O R HL LB SO NG WO SA SE F) sz)) 2 12 (va_A (wKL cI cZ cJ ad ou N A fl an nd wt B Hd O R HL LB SO NG WO SA SE F) sz) := by
  refine va_MetW (cc := cL_setWeight) (maxL := 5) (ret := (some .int)) (hh := [(0, 10, 13, 25), (0, 10, 17, 19)]) (by decide) rfl ?_
  intro p e s m args below meth c s₁ BB hml hv
  obtain ⟨rfl, hsz, hP, hK, hD0, hX, hZ, hY⟩ := hv
  have hx := BB.exec
  have hb := BB.bytes
  have hrt := BB.returns
  have hts := atoms_spec (ws := wsL_setWeight) BB.pre
  have hown : s.vm.findClass RL = some m.cls := findClass_of_methodNamed BB.named
  have hlk := BB.notSynchronized
  subst hsz
  have hD := hD0.self (sz := s.heap.size)
  generalize hAe : va_A (wKL cI cZ cJ ad ou N A fl an nd wt B Hd O R HL LB SO NG WO SA SE F) s.heap.size = Ap at hD hZ ⊢
  have hAp : ∀ q : Nat, s.heap.size ≤ q → Ap q := fun q h => by rw [← hAe]; exact Or.inr h
  have hS : va_S Ap s.heap s.heap [] := va_S.rf
  have htb := vx_table (x := yL_setWeight) BB (hts (.codeWith yL_setWeight cL_setWeight 5 (some .int) [(0, 10, 13, 25), (0, 10, 17, 19)]) List.mem_cons_self)
  have hl := lv_entry ([.ref (ad 0), .int (x0), .int (y0), .ref (ou)]) (n := 5) (Nat.le_of_ble_eq_true rfl)
  rw [lg_entry_eq]
  generalize (lg_sl ([.ref (ad 0), .int (x0), .int (y0), .ref (ou)]) ++ List.replicate (5 - (lg_sl ([.ref (ad 0), .int (x0), .int (y0), .ref (ou)])).length) Slot.unset).toArray = ls at hl ⊢
  have hl : lv_has ls 5 [(0, .ref (ad 0)), (1, .int (x0)), (2, .int (y0)), (3, .ref (ou))] := hl
  refine lv_aload_n hx hb dL_setWeight_0 rfl (lv_at hl 3 rfl) ?_
  refine lv_iconst (v := 0) hx hb dL_setWeight_1 (by decide) ?_
  refine lv_aload_n hx hb dL_setWeight_2 rfl (lv_at hl 0 rfl) ?_
  refine lv_iload_n hx hb dL_setWeight_3 rfl (lv_at hl 1 rfl) ?_
  refine lv_iload_n hx hb dL_setWeight_4 rfl (lv_at hl 2 rfl) ?_
  refine xu_i (wr := [(ou, .inl (cJ, 1, .inr (.inl F)))]) (vx_runV (As := [.int (x0), .int (y0)]) (rest := [.int (0), .ref (ou)]) ⟨hx, hb, hml, hown, hts⟩ (c_X2_setWeight l D cI cZ ad (N) (A) (fl) (an) (nd) (wt) (B) (Hd) (O) (R) (HL) (LB) (SO) (NG) (WO) (SA) (SE) (x0) (y0) (hA) hst (s.heap).size) (cwV 2 hts gL_setWeight_X2_setWeight rfl rfl rfl (by decide +kernel) ⟨Nat.le_of_ble_eq_true rfl, Nat.le_of_ble_eq_true rfl⟩) (prx_V (q0 := 0) (ci := 2) (hP.sub (ws' := (wK cI cZ ad N A fl an nd wt B Hd O R HL LB SO NG WO SA SE)) [0, 1, 2, 3, 4, 5, 6, 7, 8, 9, 10, 11, 12, 13] rfl) (hD.sub (ws' := (wK cI cZ ad N A fl an nd wt B Hd O R HL LB SO NG WO SA SE)) [0, 1, 2, 3, 4, 5, 6, 7, 8, 9, 10, 11, 12, 13] (by decide) rfl) (hK.sub [0, 1] rfl) hX hZ hS (va_free (wc := (wK cI cZ ad N A fl an nd wt B Hd O R HL LB SO NG WO SA SE)) hD hS hAp [0, 1, 2, 3, 4, 5, 6, 7, 8, 9, 10, 11, 12, 13] rfl) rfl rfl) rfl rfl hl.1 rfl (lv_room (Nat.le_of_ble_eq_true rfl)) dL_setWeight_5 ⟨Nat.le_of_ble_eq_true rfl, Nat.le_of_ble_eq_true rfl⟩) hP hD hS hAp [0, 1, 2, 3, 4, 5, 6, 7, 8, 9, 10, 11, 12, 13] [14] rfl rfl (by decide) (by decide) (fun E_5 ce_5 q9_5 ux_5 H locs hxp_5 hP hD hS h7_5 h8_5 h9_5 => ?_) (fun r_5 u_5 H locs hq_5 hP hD hS => ?_)
  · skip
    have hP : va_P D vwCl (wKL cI cZ cJ ad ou N A fl an nd wt B Hd O R HL LB SO NG WO SA SE F) H := hP.sub [1, 2, 3, 4, 5, 6, 7, 8, 9, 10, 11, 12, 13, 14, 0] rfl
    have hD : va_D Ap (wKL cI cZ cJ ad ou N A fl an nd wt B Hd O R HL LB SO NG WO SA SE F) := hD.sub [1, 2, 3, 4, 5, 6, 7, 8, 9, 10, 11, 12, 13, 14, 0] (by decide) rfl
    rcases hxp_5 with hxp_5 | hxp_5
    · skip
      obtain ⟨hE9, hc9⟩ := hxp_5
      subst hE9
      refine vx_catch (E := "java/lang/IndexOutOfBoundsException") (name := "java/lang/IndexOutOfBoundsException") hown [] ⟨0, 10, 13, 25⟩ [⟨0, 10, 17, 19⟩] (htb.trans rfl) (fun z hz => by cases hz) (by decide) (by decide) (hts (.classLink RL 25 "java/lang/IndexOutOfBoundsException") (by decide +kernel)) (va_Nw.use rfl (hX.2 (.castable "java/lang/IndexOutOfBoundsException" "java/lang/IndexOutOfBoundsException") (by decide +kernel))) h7_5 h8_5 h9_5 ?_
      refine lv_astore (lv' := [(4, .ref (q9_5)), (0, .ref (ad 0)), (1, .int (x0)), (2, .int (y0)), (3, .ref (ou))]) hx hb dL_setWeight_13 hl (by decide) rfl (fun ls hl => ?_)
      refine lv_iconst (v := 1) hx hb dL_setWeight_15 (by decide) ?_
      exact mr_i (u := (wt, F)) hx hb hrt hlk dL_setWeight_16 hS hP hD ⟨(Or.inr (Or.inl ⟨rfl, hc9, rfl⟩)), trivial⟩
    · skip
      obtain ⟨hE9, hc9⟩ := hxp_5
      subst hE9
      refine vx_catch (E := "java/lang/IllegalArgumentException") (name := "java/lang/IllegalArgumentException") hown [⟨0, 10, 13, 25⟩] ⟨0, 10, 17, 19⟩ [] (htb.trans rfl) (fun z hz => by simp only [List.mem_cons, List.not_mem_nil, or_false] at hz; rcases hz with rfl <;> refine Or.inr ⟨by decide, ?_⟩ <;> first | exact ⟨_, hts (.classLink RL 25 "java/lang/IndexOutOfBoundsException") (by decide +kernel), hY.2.1⟩) (by decide) (by decide) (hts (.classLink RL 19 "java/lang/IllegalArgumentException") (by decide +kernel)) (va_Nw.use rfl (hX.2 (.castable "java/lang/IllegalArgumentException" "java/lang/IllegalArgumentException") (by decide +kernel))) h7_5 h8_5 h9_5 ?_
      refine lv_astore (lv' := [(4, .ref (q9_5)), (0, .ref (ad 0)), (1, .int (x0)), (2, .int (y0)), (3, .ref (ou))]) hx hb dL_setWeight_17 hl (by decide) rfl (fun ls hl => ?_)
      refine lv_iconst (v := 2) hx hb dL_setWeight_19 (by decide) ?_
      exact mr_i (u := (wt, F)) hx hb hrt hlk dL_setWeight_20 hS hP hD ⟨(Or.inr (Or.inr (⟨rfl, hc9, rfl⟩))), trivial⟩
  · skip
    obtain ⟨wt9_5, rfl⟩ : ∃ z, z = u_5 := ⟨_, rfl⟩
    obtain ⟨hok_5, hup_5, -⟩ := hq_5
    have hP : va_P D vwCl (wKL cI cZ cJ ad ou N A fl an nd wt9_5 B Hd O R HL LB SO NG WO SA SE F) H := hP.sub [1, 2, 3, 4, 5, 6, 7, 8, 9, 10, 11, 12, 13, 14, 0] rfl
    have hD : va_D Ap (wKL cI cZ cJ ad ou N A fl an nd wt9_5 B Hd O R HL LB SO NG WO SA SE F) := hD.sub [1, 2, 3, 4, 5, 6, 7, 8, 9, 10, 11, 12, 13, 14, 0] (by decide) rfl
    refine W.widen (k := 2) (n := 12) (by decide) (by decide) ?_
    refine lv_i2l hx hb dL_setWeight_8 rfl ?_
    refine sl_0 (D := D) (f := F) (x := (r_5).toInt64) hx hb hK hP hD hS 14 2 rfl rfl dL_setWeight_9 (fun H locs hP hD hS => ?_)
    have hP : va_P D vwCl (wKL cI cZ cJ ad ou N A fl an nd wt9_5 B Hd O R HL LB SO NG WO SA SE (vp_updL F 0 ((r_5).toInt64))) H := hP
    have hD : va_D Ap (wKL cI cZ cJ ad ou N A fl an nd wt9_5 B Hd O R HL LB SO NG WO SA SE (vp_updL F 0 ((r_5).toInt64))) := hD
    refine lv_goto (tgt := 21) hx hb dL_setWeight_10 (by decide) ?_
    refine lv_iconst (v := 0) hx hb dL_setWeight_21 (by decide) ?_
    exact mr_i (u := (wt9_5, vp_updL F 0 ((r_5).toInt64))) hx hb hrt hlk dL_setWeight_22 hS hP hD ⟨(Or.inl ⟨rfl, _, hok_5, hup_5, rfl⟩), trivial⟩
set_option maxHeartbeats 4000000 in
set_option maxRecDepth 100000 in
theorem c_L_addRule (l : Launch) (D : va_G) (cI cZ cJ cE : ClassId) (ad : Nat → Nat) (ou : Nat) (N : Nat) (A : Nat) (fl : Bool) (an : Nat → Int32) (nd : Nat → Int32) (wt : Nat → Int32) (B : Nat → Int32) (Hd : Nat → Int32) (O : Nat → Bool) (R : Nat) (HL : Nat → Int32) (LB : Nat → Int32) (SO : Nat → Bool) (NG : Nat → Bool) (WO : Nat → Bool) (SA : Nat) (SE : Nat) (F : Nat → Int64) (x0 : Int32) (y0 : Int32) (hR : R ≤ 40) (hst : l.stackTraces = false) (sz : Nat) : Met l yL_addRule wsL_addRule ({ frames := 8, cells := 2, slots := 12, locals := 133 }) (pcL D [(cI, .int), (cZ, .boolean), (cJ, .long), (cE, .double)] sz (wKL cI cZ cJ ad ou N A fl an nd wt B Hd O R HL LB SO NG WO SA SE F) [.ref (ad 0), .int (x0), .int (y0), .ref (ou)]) (va_Qi (fun (r9 : Int32) (u9 : (Bool) × (Nat → Int32) × (Nat → Int32) × (Nat → Bool) × (Nat) × (Nat → Int64)) => ((r9 = 0 ∧ ∃ rr : Int32, rr = nI (R) ∧ (inS x0 N = true ∧ (y0 = -1 ∨ inR y0 N = true) ∧ R < 40) ∧ (u9.2.1) = upd B R x0 ∧ (u9.2.2.1) = upd Hd R y0 ∧ (u9.2.2.2.1) = updB O R true ∧ (u9.2.2.2.2.1) = R + 1 ∧ (u9.1) = false ∧ (u9.2.2.2.2.2) 0 = rr.toInt64) ∨ (r9 = 1 ∧ (inS x0 N = false) ∧ (u9.1) = fl ∧ (u9.2.1) = B ∧ (u9.2.2.1) = Hd ∧ (u9.2.2.2.1) = O ∧ (u9.2.2.2.2.1) = R) ∨ (r9 = 2 ∧ (inS x0 N = true ∧ ¬ y0 = -1 ∧ inR y0 N = false) ∧ (u9.1) = fl ∧ (u9.2.1) = B ∧ (u9.2.2.1) = Hd ∧ (u9.2.2.2.1) = O ∧ (u9.2.2.2.2.1) = R) ∨ (r9 = 3 ∧ (inS x0 N = true ∧ (y0 = -1 ∨ inR y0 N = true) ∧ 40 ≤ R) ∧ (u9.1) = fl ∧ (u9.2.1) = B ∧ (u9.2.2.1) = Hd ∧ (u9.2.2.2.1) = O ∧ (u9.2.2.2.2.1) = R)) ∧ (True)) (wB D (va_A (wKL cI cZ cJ ad ou N A fl an nd wt B Hd O R HL LB SO NG WO SA SE F) sz) (fun u9 : (Bool) × (Nat → Int32) × (Nat → Int32) × (Nat → Bool) × (Nat) × (Nat → Int64) => (wKL cI cZ cJ ad ou N A (u9.1) an nd wt (u9.2.1) (u9.2.2.1) (u9.2.2.2.1) (u9.2.2.2.2.1) HL LB SO NG WO SA SE (u9.2.2.2.2.2)))) (va_A (wKL cI cZ cJ ad ou N A fl an nd wt B Hd O R HL LB SO NG WO SA SE F) sz)) 2 12 (va_A (wKL cI cZ cJ ad ou N A fl an nd wt B Hd O R HL LB SO NG WO SA SE F) sz) := by
  refine va_MetW (cc := cL_addRule) (maxL := 5) (ret := (some .int)) (hh := [(0, 10, 13, 19), (0, 10, 17, 25), (0, 10, 21, 13)]) (by decide) rfl ?_
  intro p e s m args below meth c s₁ BB hml hv
  obtain ⟨rfl, hsz, hP, hK, hD0, hX, hZ, hY⟩ := hv
  have hx := BB.exec
  have hb := BB.bytes
  have hrt := BB.returns
  have hts := atoms_spec (ws := wsL_addRule) BB.pre
  have hown : s.vm.findClass RL = some m.cls := findClass_of_methodNamed BB.named
  have hlk := BB.notSynchronized
  subst hsz
  have hD := hD0.self (sz := s.heap.size)
  generalize hAe : va_A (wKL cI cZ cJ ad ou N A fl an nd wt B Hd O R HL LB SO NG WO SA SE F) s.heap.size = Ap at hD hZ ⊢
  have hAp : ∀ q : Nat, s.heap.size ≤ q → Ap q := fun q h => by rw [← hAe]; exact Or.inr h
  have hS : va_S Ap s.heap s.heap [] := va_S.rf
  have htb := vx_table (x := yL_addRule) BB (hts (.codeWith yL_addRule cL_addRule 5 (some .int) [(0, 10, 13, 19), (0, 10, 17, 25), (0, 10, 21, 13)]) List.mem_cons_self)
  have hl := lv_entry ([.ref (ad 0), .int (x0), .int (y0), .ref (ou)]) (n := 5) (Nat.le_of_ble_eq_true rfl)
  rw [lg_entry_eq]
  generalize (lg_sl ([.ref (ad 0), .int (x0), .int (y0), .ref (ou)]) ++ List.replicate (5 - (lg_sl ([.ref (ad 0), .int (x0), .int (y0), .ref (ou)])).length) Slot.unset).toArray = ls at hl ⊢
  have hl : lv_has ls 5 [(0, .ref (ad 0)), (1, .int (x0)), (2, .int (y0)), (3, .ref (ou))] := hl
  refine lv_aload_n hx hb dL_addRule_0 rfl (lv_at hl 3 rfl) ?_
  refine lv_iconst (v := 0) hx hb dL_addRule_1 (by decide) ?_
  refine lv_aload_n hx hb dL_addRule_2 rfl (lv_at hl 0 rfl) ?_
  refine lv_iload_n hx hb dL_addRule_3 rfl (lv_at hl 1 rfl) ?_
  refine lv_iload_n hx hb dL_addRule_4 rfl (lv_at hl 2 rfl) ?_
  refine xu_i (wr := [(ou, .inl (cJ, 1, .inr (.inl F)))]) (vx_runV (As := [.int (x0), .int (y0)]) (rest := [.int (0), .ref (ou)]) ⟨hx, hb, hml, hown, hts⟩ (c_X2_addRule l D cI cZ ad (N) (A) (fl) (an) (nd) (wt) (B) (Hd) (O) (R) (HL) (LB) (SO) (NG) (WO) (SA) (SE) (x0) (y0) (hR) hst (s.heap).size) (cwV 2 hts gL_addRule_X2_addRule rfl rfl rfl (by decide +kernel) ⟨Nat.le_of_ble_eq_true rfl, Nat.le_of_ble_eq_true rfl⟩) (prx_V (q0 := 0) (ci := 2) (hP.sub (ws' := (wK cI cZ ad N A fl an nd wt B Hd O R HL LB SO NG WO SA SE)) [0, 1, 2, 3, 4, 5, 6, 7, 8, 9, 10, 11, 12, 13] rfl) (hD.sub (ws' := (wK cI cZ ad N A fl an nd wt B Hd O R HL LB SO NG WO SA SE)) [0, 1, 2, 3, 4, 5, 6, 7, 8, 9, 10, 11, 12, 13] (by decide) rfl) (hK.sub [0, 1] rfl) hX hZ hS (va_free (wc := (wK cI cZ ad N A fl an nd wt B Hd O R HL LB SO NG WO SA SE)) hD hS hAp [0, 1, 2, 3, 4, 5, 6, 7, 8, 9, 10, 11, 12, 13] rfl) rfl rfl) rfl rfl hl.1 rfl (lv_room (Nat.le_of_ble_eq_true rfl)) dL_addRule_5 ⟨Nat.le_of_ble_eq_true rfl, Nat.le_of_ble_eq_true rfl⟩) hP hD hS hAp [0, 1, 2, 3, 4, 5, 6, 7, 8, 9, 10, 11, 12, 13] [14] rfl rfl (by decide) (by decide) (fun E_5 ce_5 q9_5 ux_5 H locs hxp_5 hP hD hS h7_5 h8_5 h9_5 => ?_) (fun r_5 u_5 H locs hq_5 hP hD hS => ?_)
  · skip
    have hP : va_P D vwCl (wKL cI cZ cJ ad ou N A fl an nd wt B Hd O R HL LB SO NG WO SA SE F) H := hP.sub [1, 2, 3, 4, 5, 6, 7, 8, 9, 10, 11, 12, 13, 14, 0] rfl
    have hD : va_D Ap (wKL cI cZ cJ ad ou N A fl an nd wt B Hd O R HL LB SO NG WO SA SE F) := hD.sub [1, 2, 3, 4, 5, 6, 7, 8, 9, 10, 11, 12, 13, 14, 0] (by decide) rfl
    rcases hxp_5 with hxp_5 | hxp_5
    · skip
      obtain ⟨hE9, hc9⟩ := hxp_5
      subst hE9
      refine vx_catch (E := "java/lang/IllegalArgumentException") (name := "java/lang/IllegalArgumentException") hown [] ⟨0, 10, 13, 19⟩ [⟨0, 10, 17, 25⟩, ⟨0, 10, 21, 13⟩] (htb.trans rfl) (fun z hz => by cases hz) (by decide) (by decide) (hts (.classLink RL 19 "java/lang/IllegalArgumentException") (by decide +kernel)) (va_Nw.use rfl (hX.2 (.castable "java/lang/IllegalArgumentException" "java/lang/IllegalArgumentException") (by decide +kernel))) h7_5 h8_5 h9_5 ?_
      refine lv_astore (lv' := [(4, .ref (q9_5)), (0, .ref (ad 0)), (1, .int (x0)), (2, .int (y0)), (3, .ref (ou))]) hx hb dL_addRule_13 hl (by decide) rfl (fun ls hl => ?_)
      refine lv_iconst (v := 1) hx hb dL_addRule_15 (by decide) ?_
      exact mr_i (u := (fl, B, Hd, O, R, F)) hx hb hrt hlk dL_addRule_16 hS hP hD ⟨(Or.inr (Or.inl ⟨rfl, hc9, rfl, rfl, rfl, rfl, rfl⟩)), trivial⟩
    · skip
      rcases hxp_5 with hxp_5 | hxp_5
      · skip
        obtain ⟨hE9, hc9⟩ := hxp_5
        subst hE9
        refine vx_catch (E := "java/lang/IndexOutOfBoundsException") (name := "java/lang/IndexOutOfBoundsException") hown [⟨0, 10, 13, 19⟩] ⟨0, 10, 17, 25⟩ [⟨0, 10, 21, 13⟩] (htb.trans rfl) (fun z hz => by simp only [List.mem_cons, List.not_mem_nil, or_false] at hz; rcases hz with rfl <;> refine Or.inr ⟨by decide, ?_⟩ <;> first | exact ⟨_, hts (.classLink RL 19 "java/lang/IllegalArgumentException") (by decide +kernel), hY.2.2.1⟩) (by decide) (by decide) (hts (.classLink RL 25 "java/lang/IndexOutOfBoundsException") (by decide +kernel)) (va_Nw.use rfl (hX.2 (.castable "java/lang/IndexOutOfBoundsException" "java/lang/IndexOutOfBoundsException") (by decide +kernel))) h7_5 h8_5 h9_5 ?_
        refine lv_astore (lv' := [(4, .ref (q9_5)), (0, .ref (ad 0)), (1, .int (x0)), (2, .int (y0)), (3, .ref (ou))]) hx hb dL_addRule_17 hl (by decide) rfl (fun ls hl => ?_)
        refine lv_iconst (v := 2) hx hb dL_addRule_19 (by decide) ?_
        exact mr_i (u := (fl, B, Hd, O, R, F)) hx hb hrt hlk dL_addRule_20 hS hP hD ⟨(Or.inr (Or.inr (Or.inl ⟨rfl, hc9, rfl, rfl, rfl, rfl, rfl⟩))), trivial⟩
      · skip
        obtain ⟨hE9, hc9⟩ := hxp_5
        subst hE9
        refine vx_catch (E := "java/lang/IllegalStateException") (name := "java/lang/IllegalStateException") hown [⟨0, 10, 13, 19⟩, ⟨0, 10, 17, 25⟩] ⟨0, 10, 21, 13⟩ [] (htb.trans rfl) (fun z hz => by simp only [List.mem_cons, List.not_mem_nil, or_false] at hz; rcases hz with rfl | rfl <;> refine Or.inr ⟨by decide, ?_⟩ <;> first | exact ⟨_, hts (.classLink RL 19 "java/lang/IllegalArgumentException") (by decide +kernel), hY.1⟩ | exact ⟨_, hts (.classLink RL 25 "java/lang/IndexOutOfBoundsException") (by decide +kernel), hY.2.2.2⟩) (by decide) (by decide) (hts (.classLink RL 13 "java/lang/IllegalStateException") (by decide +kernel)) (va_Nw.use rfl (hX.2 (.castable "java/lang/IllegalStateException" "java/lang/IllegalStateException") (by decide +kernel))) h7_5 h8_5 h9_5 ?_
        refine lv_astore (lv' := [(4, .ref (q9_5)), (0, .ref (ad 0)), (1, .int (x0)), (2, .int (y0)), (3, .ref (ou))]) hx hb dL_addRule_21 hl (by decide) rfl (fun ls hl => ?_)
        refine lv_iconst (v := 3) hx hb dL_addRule_23 (by decide) ?_
        exact mr_i (u := (fl, B, Hd, O, R, F)) hx hb hrt hlk dL_addRule_24 hS hP hD ⟨(Or.inr (Or.inr (Or.inr (⟨rfl, hc9, rfl, rfl, rfl, rfl, rfl⟩)))), trivial⟩
  · skip
    obtain ⟨rfl, hok_5, -⟩ := hq_5
    have hP : va_P D vwCl (wKL cI cZ cJ ad ou N A false an nd wt (upd B R x0) (upd Hd R y0) (updB O R true) (R + 1) HL LB SO NG WO SA SE F) H := hP.sub [1, 2, 3, 4, 5, 6, 7, 8, 9, 10, 11, 12, 13, 14, 0] rfl
    have hD : va_D Ap (wKL cI cZ cJ ad ou N A false an nd wt (upd B R x0) (upd Hd R y0) (updB O R true) (R + 1) HL LB SO NG WO SA SE F) := hD.sub [1, 2, 3, 4, 5, 6, 7, 8, 9, 10, 11, 12, 13, 14, 0] (by decide) rfl
    refine W.widen (k := 2) (n := 12) (by decide) (by decide) ?_
    refine lv_i2l hx hb dL_addRule_8 rfl ?_
    refine sl_0 (D := D) (f := F) (x := (nI (R)).toInt64) hx hb hK hP hD hS 14 2 rfl rfl dL_addRule_9 (fun H locs hP hD hS => ?_)
    have hP : va_P D vwCl (wKL cI cZ cJ ad ou N A false an nd wt (upd B R x0) (upd Hd R y0) (updB O R true) (R + 1) HL LB SO NG WO SA SE (vp_updL F 0 ((nI (R)).toInt64))) H := hP
    have hD : va_D Ap (wKL cI cZ cJ ad ou N A false an nd wt (upd B R x0) (upd Hd R y0) (updB O R true) (R + 1) HL LB SO NG WO SA SE (vp_updL F 0 ((nI (R)).toInt64))) := hD
    refine lv_goto (tgt := 25) hx hb dL_addRule_10 (by decide) ?_
    refine lv_iconst (v := 0) hx hb dL_addRule_25 (by decide) ?_
    exact mr_i (u := (false, upd B R x0, upd Hd R y0, updB O R true, R + 1, vp_updL F 0 ((nI (R)).toInt64))) hx hb hrt hlk dL_addRule_26 hS hP hD ⟨(Or.inl ⟨rfl, _, rfl, hok_5, rfl, rfl, rfl, rfl, rfl, rfl⟩), trivial⟩
set_option maxHeartbeats 4000000 in
set_option maxRecDepth 100000 in
theorem c_L_turn (l : Launch) (D : va_G) (cI cZ cJ cE : ClassId) (ad : Nat → Nat) (ou : Nat) (N : Nat) (A : Nat) (fl : Bool) (an : Nat → Int32) (nd : Nat → Int32) (wt : Nat → Int32) (B : Nat → Int32) (Hd : Nat → Int32) (O : Nat → Bool) (R : Nat) (HL : Nat → Int32) (LB : Nat → Int32) (SO : Nat → Bool) (NG : Nat → Bool) (WO : Nat → Bool) (SA : Nat) (SE : Nat) (F : Nat → Int64) (x0 : Int32) (b0 : Bool) (hR : R ≤ 40) (hst : l.stackTraces = false) (sz : Nat) : Met l yL_turn wsL_turn ({ frames := 7, cells := 1, slots := 6, locals := 112 }) (pcL D [(cI, .int), (cZ, .boolean), (cJ, .long), (cE, .double)] sz (wKL cI cZ cJ ad ou N A fl an nd wt B Hd O R HL LB SO NG WO SA SE F) [.ref (ad 0), .int (x0), .int (bI (b0)), .ref (ou)]) (va_Qi (fun (r9 : Int32) (u9 : (Bool) × (Nat → Bool) × (Nat → Int64)) => ((r9 = 0 ∧ ∃ rr : Int32, (inR x0 R = true) ∧ (∃ j, j < R ∧ x0 = nI j ∧ rr = bI (O j) ∧ (u9.2.1) = updB O j b0) ∧ (u9.1) = false ∧ (u9.2.2) 0 = rr.toInt64) ∨ (r9 = 1 ∧ (inR x0 R = false) ∧ (u9.1) = fl ∧ (u9.2.1) = O)) ∧ (True)) (wB D (va_A (wKL cI cZ cJ ad ou N A fl an nd wt B Hd O R HL LB SO NG WO SA SE F) sz) (fun u9 : (Bool) × (Nat → Bool) × (Nat → Int64) => (wKL cI cZ cJ ad ou N A (u9.1) an nd wt B Hd (u9.2.1) R HL LB SO NG WO SA SE (u9.2.2)))) (va_A (wKL cI cZ cJ ad ou N A fl an nd wt B Hd O R HL LB SO NG WO SA SE F) sz)) 1 6 (va_A (wKL cI cZ cJ ad ou N A fl an nd wt B Hd O R HL LB SO NG WO SA SE F) sz) := by
  refine va_MetW (cc := cL_turn) (maxL := 5) (ret := (some .int)) (hh := [(0, 17, 20, 25)]) (by decide) rfl ?_
  intro p e s m args below meth c s₁ BB hml hv
  obtain ⟨rfl, hsz, hP, hK, hD0, hX, hZ, hY⟩ := hv
  have hx := BB.exec
  have hb := BB.bytes
  have hrt := BB.returns
  have hts := atoms_spec (ws := wsL_turn) BB.pre
  have hown : s.vm.findClass RL = some m.cls := findClass_of_methodNamed BB.named
  have hlk := BB.notSynchronized
  subst hsz
  have hD := hD0.self (sz := s.heap.size)
  generalize hAe : va_A (wKL cI cZ cJ ad ou N A fl an nd wt B Hd O R HL LB SO NG WO SA SE F) s.heap.size = Ap at hD hZ ⊢
  have hAp : ∀ q : Nat, s.heap.size ≤ q → Ap q := fun q h => by rw [← hAe]; exact Or.inr h
  have hS : va_S Ap s.heap s.heap [] := va_S.rf
  have htb := vx_table (x := yL_turn) BB (hts (.codeWith yL_turn cL_turn 5 (some .int) [(0, 17, 20, 25)]) List.mem_cons_self)
  have hl := lv_entry ([.ref (ad 0), .int (x0), .int (bI (b0)), .ref (ou)]) (n := 5) (Nat.le_of_ble_eq_true rfl)
  rw [lg_entry_eq]
  generalize (lg_sl ([.ref (ad 0), .int (x0), .int (bI (b0)), .ref (ou)]) ++ List.replicate (5 - (lg_sl ([.ref (ad 0), .int (x0), .int (bI (b0)), .ref (ou)])).length) Slot.unset).toArray = ls at hl ⊢
  have hl : lv_has ls 5 [(0, .ref (ad 0)), (1, .int (x0)), (2, .int (bI (b0))), (3, .ref (ou))] := hl
  refine lv_aload_n hx hb dL_turn_0 rfl (lv_at hl 3 rfl) ?_
  refine lv_iconst (v := 0) hx hb dL_turn_1 (by decide) ?_
  refine lv_aload_n hx hb dL_turn_2 rfl (lv_at hl 0 rfl) ?_
  refine lv_iload_n hx hb dL_turn_3 rfl (lv_at hl 1 rfl) ?_
  refine lv_iload_n hx hb dL_turn_4 rfl (lv_at hl 2 rfl) ?_
  refine xu_i (wr := [(ou, .inl (cJ, 1, .inr (.inl F)))]) (vx_runV (As := [.int (x0), .int (bI (b0))]) (rest := [.int (0), .ref (ou)]) ⟨hx, hb, hml, hown, hts⟩ (c_X2_turn l D cI cZ ad (N) (A) (fl) (an) (nd) (wt) (B) (Hd) (O) (R) (HL) (LB) (SO) (NG) (WO) (SA) (SE) (x0) (b0) (hR) hst (s.heap).size) (cwV 2 hts gL_turn_X2_turn rfl rfl rfl (by decide +kernel) ⟨Nat.le_of_ble_eq_true rfl, Nat.le_of_ble_eq_true rfl⟩) (prx_V (q0 := 0) (ci := 2) (hP.sub (ws' := (wK cI cZ ad N A fl an nd wt B Hd O R HL LB SO NG WO SA SE)) [0, 1, 2, 3, 4, 5, 6, 7, 8, 9, 10, 11, 12, 13] rfl) (hD.sub (ws' := (wK cI cZ ad N A fl an nd wt B Hd O R HL LB SO NG WO SA SE)) [0, 1, 2, 3, 4, 5, 6, 7, 8, 9, 10, 11, 12, 13] (by decide) rfl) (hK.sub [0, 1] rfl) hX hZ hS (va_free (wc := (wK cI cZ ad N A fl an nd wt B Hd O R HL LB SO NG WO SA SE)) hD hS hAp [0, 1, 2, 3, 4, 5, 6, 7, 8, 9, 10, 11, 12, 13] rfl) rfl rfl) rfl rfl hl.1 rfl (lv_room (Nat.le_of_ble_eq_true rfl)) dL_turn_5 ⟨Nat.le_of_ble_eq_true rfl, Nat.le_of_ble_eq_true rfl⟩) hP hD hS hAp [0, 1, 2, 3, 4, 5, 6, 7, 8, 9, 10, 11, 12, 13] [14] rfl rfl (by decide) (by decide) (fun E_5 ce_5 q9_5 ux_5 H locs hxp_5 hP hD hS h7_5 h8_5 h9_5 => ?_) (fun r_5 u_5 H locs hq_5 hP hD hS => ?_)
  · skip
    have hP : va_P D vwCl (wKL cI cZ cJ ad ou N A fl an nd wt B Hd O R HL LB SO NG WO SA SE F) H := hP.sub [1, 2, 3, 4, 5, 6, 7, 8, 9, 10, 11, 12, 13, 14, 0] rfl
    have hD : va_D Ap (wKL cI cZ cJ ad ou N A fl an nd wt B Hd O R HL LB SO NG WO SA SE F) := hD.sub [1, 2, 3, 4, 5, 6, 7, 8, 9, 10, 11, 12, 13, 14, 0] (by decide) rfl
    obtain ⟨hE9, hc9⟩ := hxp_5
    subst hE9
    refine vx_catch (E := "java/lang/IndexOutOfBoundsException") (name := "java/lang/IndexOutOfBoundsException") hown [] ⟨0, 17, 20, 25⟩ [] (htb.trans rfl) (fun z hz => by cases hz) (by decide) (by decide) (hts (.classLink RL 25 "java/lang/IndexOutOfBoundsException") (by decide +kernel)) (va_Nw.use rfl (hX.2 (.castable "java/lang/IndexOutOfBoundsException" "java/lang/IndexOutOfBoundsException") (by decide +kernel))) h7_5 h8_5 h9_5 ?_
    refine lv_astore (lv' := [(4, .ref (q9_5)), (0, .ref (ad 0)), (1, .int (x0)), (2, .int (bI (b0))), (3, .ref (ou))]) hx hb dL_turn_20 hl (by decide) rfl (fun ls hl => ?_)
    refine lv_iconst (v := 1) hx hb dL_turn_22 (by decide) ?_
    exact mr_i (u := (fl, O, F)) hx hb hrt hlk dL_turn_23 hS hP hD ⟨(Or.inr (⟨rfl, hc9, rfl, rfl⟩)), trivial⟩
  · skip
    obtain ⟨O9_5, rfl⟩ : ∃ z, z = u_5 := ⟨_, rfl⟩
    obtain ⟨hok_5, hup_5, -⟩ := hq_5
    have hP : va_P D vwCl (wKL cI cZ cJ ad ou N A false an nd wt B Hd O9_5 R HL LB SO NG WO SA SE F) H := hP.sub [1, 2, 3, 4, 5, 6, 7, 8, 9, 10, 11, 12, 13, 14, 0] rfl
    have hD : va_D Ap (wKL cI cZ cJ ad ou N A false an nd wt B Hd O9_5 R HL LB SO NG WO SA SE F) := hD.sub [1, 2, 3, 4, 5, 6, 7, 8, 9, 10, 11, 12, 13, 14, 0] (by decide) rfl
    refine W.widen (k := 1) (n := 6) (by decide) (by decide) ?_
    obtain ⟨j0, hj0, hx0, hr0, hO0⟩ := hup_5
    subst hr0
    refine lv_if_eq (tgt := 15) hx hb dL_turn_8 (by decide) (fun c_8 => ?_) (fun c_8 => ?_)
    · skip
      have c_8 := bI_eq0 c_8
      refine lv_lconst (v := 0) hx hb dL_turn_15 rfl ?_
      refine sl_0 (D := D) (f := F) (x := 0) hx hb hK hP hD hS 14 2 rfl rfl dL_turn_16 (fun H locs hP hD hS => ?_)
      have hP : va_P D vwCl (wKL cI cZ cJ ad ou N A false an nd wt B Hd O9_5 R HL LB SO NG WO SA SE (vp_updL F 0 (0))) H := hP
      have hD : va_D Ap (wKL cI cZ cJ ad ou N A false an nd wt B Hd O9_5 R HL LB SO NG WO SA SE (vp_updL F 0 (0))) := hD
      refine lv_goto (tgt := 24) hx hb dL_turn_17 (by decide) ?_
      refine lv_iconst (v := 0) hx hb dL_turn_24 (by decide) ?_
      exact mr_i (u := (false, O9_5, vp_updL F 0 (0))) hx hb hrt hlk dL_turn_25 hS hP hD ⟨(Or.inl ⟨rfl, bI (O j0), hok_5, ⟨j0, hj0, hx0, rfl, hO0⟩, rfl, by first | (rw [c_8]; rfl) | (simp only [c_8]; rfl)⟩), trivial⟩
    · skip
      have c_8 := bI_ne0 c_8
      refine lv_lconst (v := 1) hx hb dL_turn_11 rfl ?_
      refine lv_goto (tgt := 16) hx hb dL_turn_12 (by decide) ?_
      refine sl_0 (D := D) (f := F) (x := 1) hx hb hK hP hD hS 14 2 rfl rfl dL_turn_16 (fun H locs hP hD hS => ?_)
      have hP : va_P D vwCl (wKL cI cZ cJ ad ou N A false an nd wt B Hd O9_5 R HL LB SO NG WO SA SE (vp_updL F 0 (1))) H := hP
      have hD : va_D Ap (wKL cI cZ cJ ad ou N A false an nd wt B Hd O9_5 R HL LB SO NG WO SA SE (vp_updL F 0 (1))) := hD
      refine lv_goto (tgt := 24) hx hb dL_turn_17 (by decide) ?_
      refine lv_iconst (v := 0) hx hb dL_turn_24 (by decide) ?_
      exact mr_i (u := (false, O9_5, vp_updL F 0 (1))) hx hb hrt hlk dL_turn_25 hS hP hD ⟨(Or.inl ⟨rfl, bI (O j0), hok_5, ⟨j0, hj0, hx0, rfl, hO0⟩, rfl, by first | (rw [c_8]; rfl) | (simp only [c_8]; rfl)⟩), trivial⟩
set_option maxHeartbeats 4000000 in
set_option maxRecDepth 100000 in
theorem c_L_drop (l : Launch) (D : va_G) (cI cZ cJ cE : ClassId) (ad : Nat → Nat) (ou : Nat) (N : Nat) (A : Nat) (fl : Bool) (an : Nat → Int32) (nd : Nat → Int32) (wt : Nat → Int32) (B : Nat → Int32) (Hd : Nat → Int32) (O : Nat → Bool) (R : Nat) (HL : Nat → Int32) (LB : Nat → Int32) (SO : Nat → Bool) (NG : Nat → Bool) (WO : Nat → Bool) (SA : Nat) (SE : Nat) (F : Nat → Int64) (hR : R ≤ 40) (hst : l.stackTraces = false) (sz : Nat) : Met l yL_drop wsL_drop ({ frames := 7, cells := 1, slots := 6, locals := 110 }) (pcL D [(cI, .int), (cZ, .boolean), (cJ, .long), (cE, .double)] sz (wKL cI cZ cJ ad ou N A fl an nd wt B Hd O R HL LB SO NG WO SA SE F) [.ref (ad 0), .ref (ou)]) (va_Qi (fun (r9 : Int32) (u9 : (Bool) × (Nat) × (Nat → Int64)) => ((r9 = 0 ∧ ∃ rr : Int32, rr = nI (R - 1) ∧ (0 < R) ∧ (u9.2.1) = R - 1 ∧ (u9.1) = false ∧ (u9.2.2) 0 = rr.toInt64) ∨ (r9 = 1 ∧ (R = 0) ∧ (u9.1) = fl ∧ (u9.2.1) = R)) ∧ (True)) (wB D (va_A (wKL cI cZ cJ ad ou N A fl an nd wt B Hd O R HL LB SO NG WO SA SE F) sz) (fun u9 : (Bool) × (Nat) × (Nat → Int64) => (wKL cI cZ cJ ad ou N A (u9.1) an nd wt B Hd O (u9.2.1) HL LB SO NG WO SA SE (u9.2.2)))) (va_A (wKL cI cZ cJ ad ou N A fl an nd wt B Hd O R HL LB SO NG WO SA SE F) sz)) 1 6 (va_A (wKL cI cZ cJ ad ou N A fl an nd wt B Hd O R HL LB SO NG WO SA SE F) sz) := by
  refine va_MetW (cc := cL_drop) (maxL := 3) (ret := (some .int)) (hh := [(0, 8, 11, 13)]) (by decide) rfl ?_
  intro p e s m args below meth c s₁ BB hml hv
  obtain ⟨rfl, hsz, hP, hK, hD0, hX, hZ, hY⟩ := hv
  have hx := BB.exec
  have hb := BB.bytes
  have hrt := BB.returns
  have hts := atoms_spec (ws := wsL_drop) BB.pre
  have hown : s.vm.findClass RL = some m.cls := findClass_of_methodNamed BB.named
  have hlk := BB.notSynchronized
  subst hsz
  have hD := hD0.self (sz := s.heap.size)
  generalize hAe : va_A (wKL cI cZ cJ ad ou N A fl an nd wt B Hd O R HL LB SO NG WO SA SE F) s.heap.size = Ap at hD hZ ⊢
  have hAp : ∀ q : Nat, s.heap.size ≤ q → Ap q := fun q h => by rw [← hAe]; exact Or.inr h
  have hS : va_S Ap s.heap s.heap [] := va_S.rf
  have htb := vx_table (x := yL_drop) BB (hts (.codeWith yL_drop cL_drop 3 (some .int) [(0, 8, 11, 13)]) List.mem_cons_self)
  have hl := lv_entry ([.ref (ad 0), .ref (ou)]) (n := 3) (Nat.le_of_ble_eq_true rfl)
  rw [lg_entry_eq]
  generalize (lg_sl ([.ref (ad 0), .ref (ou)]) ++ List.replicate (3 - (lg_sl ([.ref (ad 0), .ref (ou)])).length) Slot.unset).toArray = ls at hl ⊢
  have hl : lv_has ls 3 [(0, .ref (ad 0)), (1, .ref (ou))] := hl
  refine lv_aload_n hx hb dL_drop_0 rfl (lv_at hl 1 rfl) ?_
  refine lv_iconst (v := 0) hx hb dL_drop_1 (by decide) ?_
  refine lv_aload_n hx hb dL_drop_2 rfl (lv_at hl 0 rfl) ?_
  refine xu_i (wr := [(ou, .inl (cJ, 1, .inr (.inl F)))]) (vx_runV (As := []) (rest := [.int (0), .ref (ou)]) ⟨hx, hb, hml, hown, hts⟩ (c_X2_drop l D cI cZ ad (N) (A) (fl) (an) (nd) (wt) (B) (Hd) (O) (R) (HL) (LB) (SO) (NG) (WO) (SA) (SE) (hR) hst (s.heap).size) (cwV 0 hts gL_drop_X2_drop rfl rfl rfl (by decide +kernel) ⟨Nat.le_of_ble_eq_true rfl, Nat.le_of_ble_eq_true rfl⟩) (prx_V (q0 := 0) (ci := 2) (hP.sub (ws' := (wK cI cZ ad N A fl an nd wt B Hd O R HL LB SO NG WO SA SE)) [0, 1, 2, 3, 4, 5, 6, 7, 8, 9, 10, 11, 12, 13] rfl) (hD.sub (ws' := (wK cI cZ ad N A fl an nd wt B Hd O R HL LB SO NG WO SA SE)) [0, 1, 2, 3, 4, 5, 6, 7, 8, 9, 10, 11, 12, 13] (by decide) rfl) (hK.sub [0, 1] rfl) hX hZ hS (va_free (wc := (wK cI cZ ad N A fl an nd wt B Hd O R HL LB SO NG WO SA SE)) hD hS hAp [0, 1, 2, 3, 4, 5, 6, 7, 8, 9, 10, 11, 12, 13] rfl) rfl rfl) rfl rfl hl.1 rfl (lv_room (Nat.le_of_ble_eq_true rfl)) dL_drop_3 ⟨Nat.le_of_ble_eq_true rfl, Nat.le_of_ble_eq_true rfl⟩) hP hD hS hAp [0, 1, 2, 3, 4, 5, 6, 7, 8, 9, 10, 11, 12, 13] [14] rfl rfl (by decide) (by decide) (fun E_3 ce_3 q9_3 ux_3 H locs hxp_3 hP hD hS h7_3 h8_3 h9_3 => ?_) (fun r_3 u_3 H locs hq_3 hP hD hS => ?_)
  · skip
    have hP : va_P D vwCl (wKL cI cZ cJ ad ou N A fl an nd wt B Hd O R HL LB SO NG WO SA SE F) H := hP.sub [1, 2, 3, 4, 5, 6, 7, 8, 9, 10, 11, 12, 13, 14, 0] rfl
    have hD : va_D Ap (wKL cI cZ cJ ad ou N A fl an nd wt B Hd O R HL LB SO NG WO SA SE F) := hD.sub [1, 2, 3, 4, 5, 6, 7, 8, 9, 10, 11, 12, 13, 14, 0] (by decide) rfl
    obtain ⟨hE9, hc9⟩ := hxp_3
    subst hE9
    refine vx_catch (E := "java/lang/IllegalStateException") (name := "java/lang/IllegalStateException") hown [] ⟨0, 8, 11, 13⟩ [] (htb.trans rfl) (fun z hz => by cases hz) (by decide) (by decide) (hts (.classLink RL 13 "java/lang/IllegalStateException") (by decide +kernel)) (va_Nw.use rfl (hX.2 (.castable "java/lang/IllegalStateException" "java/lang/IllegalStateException") (by decide +kernel))) h7_3 h8_3 h9_3 ?_
    refine lv_astore_n (lv' := [(2, .ref (q9_3)), (0, .ref (ad 0)), (1, .ref (ou))]) hx hb dL_drop_11 rfl hl (by decide) rfl (fun ls hl => ?_)
    refine lv_iconst (v := 1) hx hb dL_drop_12 (by decide) ?_
    exact mr_i (u := (fl, R, F)) hx hb hrt hlk dL_drop_13 hS hP hD ⟨(Or.inr (⟨rfl, hc9, rfl, rfl⟩)), trivial⟩
  · skip
    obtain ⟨rfl, hok_3, -⟩ := hq_3
    have hP : va_P D vwCl (wKL cI cZ cJ ad ou N A false an nd wt B Hd O (R - 1) HL LB SO NG WO SA SE F) H := hP.sub [1, 2, 3, 4, 5, 6, 7, 8, 9, 10, 11, 12, 13, 14, 0] rfl
    have hD : va_D Ap (wKL cI cZ cJ ad ou N A false an nd wt B Hd O (R - 1) HL LB SO NG WO SA SE F) := hD.sub [1, 2, 3, 4, 5, 6, 7, 8, 9, 10, 11, 12, 13, 14, 0] (by decide) rfl
    refine W.widen (k := 1) (n := 6) (by decide) (by decide) ?_
    refine lv_i2l hx hb dL_drop_6 rfl ?_
    refine sl_0 (D := D) (f := F) (x := (nI (R - 1)).toInt64) hx hb hK hP hD hS 14 2 rfl rfl dL_drop_7 (fun H locs hP hD hS => ?_)
    have hP : va_P D vwCl (wKL cI cZ cJ ad ou N A false an nd wt B Hd O (R - 1) HL LB SO NG WO SA SE (vp_updL F 0 ((nI (R - 1)).toInt64))) H := hP
    have hD : va_D Ap (wKL cI cZ cJ ad ou N A false an nd wt B Hd O (R - 1) HL LB SO NG WO SA SE (vp_updL F 0 ((nI (R - 1)).toInt64))) := hD
    refine lv_goto (tgt := 14) hx hb dL_drop_8 (by decide) ?_
    refine lv_iconst (v := 0) hx hb dL_drop_14 (by decide) ?_
    exact mr_i (u := (false, R - 1, vp_updL F 0 ((nI (R - 1)).toInt64))) hx hb hrt hlk dL_drop_15 hS hP hD ⟨(Or.inl ⟨rfl, _, rfl, hok_3, rfl, rfl, rfl⟩), trivial⟩
set_option maxHeartbeats 4000000 in
set_option maxRecDepth 100000 in
theorem c_L_assumptionOf (l : Launch) (D : va_G) (cI cZ cJ cE : ClassId) (ad : Nat → Nat) (ou : Nat) (N : Nat) (A : Nat) (fl : Bool) (an : Nat → Int32) (nd : Nat → Int32) (wt : Nat → Int32) (B : Nat → Int32) (Hd : Nat → Int32) (O : Nat → Bool) (R : Nat) (HL : Nat → Int32) (LB : Nat → Int32) (SO : Nat → Bool) (NG : Nat → Bool) (WO : Nat → Bool) (SA : Nat) (SE : Nat) (F : Nat → Int64) (x0 : Int32) (hn : N ≤ 24) (hst : l.stackTraces = false) (sz : Nat) : Met l yL_assumptionOf wsL_assumptionOf ({ frames := 8, cells := 1, slots := 6, locals := 132 }) (pcL D [(cI, .int), (cZ, .boolean), (cJ, .long), (cE, .double)] sz (wKL cI cZ cJ ad ou N A fl an nd wt B Hd O R HL LB SO NG WO SA SE F) [.ref (ad 0), .int (x0), .ref (ou)]) (va_Qi (fun (r9 : Int32) (u9 : (Nat → Int64)) => ((r9 = 0 ∧ ∃ rr : Int32, (inR x0 N = true) ∧ (∃ j, j < N ∧ x0 = nI j ∧ rr = an j) ∧ u9 0 = rr.toInt64) ∨ (r9 = 1 ∧ (inR x0 N = false))) ∧ (True)) (wB D (va_A (wKL cI cZ cJ ad ou N A fl an nd wt B Hd O R HL LB SO NG WO SA SE F) sz) (fun u9 : (Nat → Int64) => (wKL cI cZ cJ ad ou N A fl an nd wt B Hd O R HL LB SO NG WO SA SE u9))) (va_A (wKL cI cZ cJ ad ou N A fl an nd wt B Hd O R HL LB SO NG WO SA SE F) sz)) 1 6 (va_A (wKL cI cZ cJ ad ou N A fl an nd wt B Hd O R HL LB SO NG WO SA SE F) sz) := by
  refine va_MetW (cc := cL_assumptionOf) (maxL := 4) (ret := (some .int)) (hh := [(0, 9, 12, 25)]) (by decide) rfl ?_
  intro p e s m args below meth c s₁ BB hml hv
  obtain ⟨rfl, hsz, hP, hK, hD0, hX, hZ, hY⟩ := hv
  have hx := BB.exec
  have hb := BB.bytes
  have hrt := BB.returns
  have hts := atoms_spec (ws := wsL_assumptionOf) BB.pre
  have hown : s.vm.findClass RL = some m.cls := findClass_of_methodNamed BB.named
  have hlk := BB.notSynchronized
  subst hsz
  have hD := hD0.self (sz := s.heap.size)
  generalize hAe : va_A (wKL cI cZ cJ ad ou N A fl an nd wt B Hd O R HL LB SO NG WO SA SE F) s.heap.size = Ap at hD hZ ⊢
  have hAp : ∀ q : Nat, s.heap.size ≤ q → Ap q := fun q h => by rw [← hAe]; exact Or.inr h
  have hS : va_S Ap s.heap s.heap [] := va_S.rf
  have htb := vx_table (x := yL_assumptionOf) BB (hts (.codeWith yL_assumptionOf cL_assumptionOf 4 (some .int) [(0, 9, 12, 25)]) List.mem_cons_self)
  have hl := lv_entry ([.ref (ad 0), .int (x0), .ref (ou)]) (n := 4) (Nat.le_of_ble_eq_true rfl)
  rw [lg_entry_eq]
  generalize (lg_sl ([.ref (ad 0), .int (x0), .ref (ou)]) ++ List.replicate (4 - (lg_sl ([.ref (ad 0), .int (x0), .ref (ou)])).length) Slot.unset).toArray = ls at hl ⊢
  have hl : lv_has ls 4 [(0, .ref (ad 0)), (1, .int (x0)), (2, .ref (ou))] := hl
  refine lv_aload_n hx hb dL_assumptionOf_0 rfl (lv_at hl 2 rfl) ?_
  refine lv_iconst (v := 0) hx hb dL_assumptionOf_1 (by decide) ?_
  refine lv_aload_n hx hb dL_assumptionOf_2 rfl (lv_at hl 0 rfl) ?_
  refine lv_iload_n hx hb dL_assumptionOf_3 rfl (lv_at hl 1 rfl) ?_
  refine xu_i (wr := [(ou, .inl (cJ, 1, .inr (.inl F)))]) (vx_runV (As := [.int (x0)]) (rest := [.int (0), .ref (ou)]) ⟨hx, hb, hml, hown, hts⟩ (c_X2_assumptionOf l D cI cZ ad (N) (A) (fl) (an) (nd) (wt) (B) (Hd) (O) (R) (HL) (LB) (SO) (NG) (WO) (SA) (SE) (x0) (hn) hst (s.heap).size) (cwV 1 hts gL_assumptionOf_X2_assumptionOf rfl rfl rfl (by decide +kernel) ⟨Nat.le_of_ble_eq_true rfl, Nat.le_of_ble_eq_true rfl⟩) (prx_V (q0 := 0) (ci := 2) (hP.sub (ws' := (wK cI cZ ad N A fl an nd wt B Hd O R HL LB SO NG WO SA SE)) [0, 1, 2, 3, 4, 5, 6, 7, 8, 9, 10, 11, 12, 13] rfl) (hD.sub (ws' := (wK cI cZ ad N A fl an nd wt B Hd O R HL LB SO NG WO SA SE)) [0, 1, 2, 3, 4, 5, 6, 7, 8, 9, 10, 11, 12, 13] (by decide) rfl) (hK.sub [0, 1] rfl) hX hZ hS (va_free (wc := (wK cI cZ ad N A fl an nd wt B Hd O R HL LB SO NG WO SA SE)) hD hS hAp [0, 1, 2, 3, 4, 5, 6, 7, 8, 9, 10, 11, 12, 13] rfl) rfl rfl) rfl rfl hl.1 rfl (lv_room (Nat.le_of_ble_eq_true rfl)) dL_assumptionOf_4 ⟨Nat.le_of_ble_eq_true rfl, Nat.le_of_ble_eq_true rfl⟩) hP hD hS hAp [0, 1, 2, 3, 4, 5, 6, 7, 8, 9, 10, 11, 12, 13] [14] rfl rfl (by decide) (by decide) (fun E_4 ce_4 q9_4 ux_4 H locs hxp_4 hP hD hS h7_4 h8_4 h9_4 => ?_) (fun r_4 u_4 H locs hq_4 hP hD hS => ?_)
  · skip
    have hP : va_P D vwCl (wKL cI cZ cJ ad ou N A fl an nd wt B Hd O R HL LB SO NG WO SA SE F) H := hP.sub [1, 2, 3, 4, 5, 6, 7, 8, 9, 10, 11, 12, 13, 14, 0] rfl
    have hD : va_D Ap (wKL cI cZ cJ ad ou N A fl an nd wt B Hd O R HL LB SO NG WO SA SE F) := hD.sub [1, 2, 3, 4, 5, 6, 7, 8, 9, 10, 11, 12, 13, 14, 0] (by decide) rfl
    obtain ⟨hE9, hc9⟩ := hxp_4
    subst hE9
    refine vx_catch (E := "java/lang/IndexOutOfBoundsException") (name := "java/lang/IndexOutOfBoundsException") hown [] ⟨0, 9, 12, 25⟩ [] (htb.trans rfl) (fun z hz => by cases hz) (by decide) (by decide) (hts (.classLink RL 25 "java/lang/IndexOutOfBoundsException") (by decide +kernel)) (va_Nw.use rfl (hX.2 (.castable "java/lang/IndexOutOfBoundsException" "java/lang/IndexOutOfBoundsException") (by decide +kernel))) h7_4 h8_4 h9_4 ?_
    refine lv_astore_n (lv' := [(3, .ref (q9_4)), (0, .ref (ad 0)), (1, .int (x0)), (2, .ref (ou))]) hx hb dL_assumptionOf_12 rfl hl (by decide) rfl (fun ls hl => ?_)
    refine lv_iconst (v := 1) hx hb dL_assumptionOf_13 (by decide) ?_
    exact mr_i (u := (F)) hx hb hrt hlk dL_assumptionOf_14 hS hP hD ⟨(Or.inr (⟨rfl, hc9⟩)), trivial⟩
  · skip
    obtain ⟨hok_4, hup_4, -⟩ := hq_4
    have hP : va_P D vwCl (wKL cI cZ cJ ad ou N A fl an nd wt B Hd O R HL LB SO NG WO SA SE F) H := hP.sub [1, 2, 3, 4, 5, 6, 7, 8, 9, 10, 11, 12, 13, 14, 0] rfl
    have hD : va_D Ap (wKL cI cZ cJ ad ou N A fl an nd wt B Hd O R HL LB SO NG WO SA SE F) := hD.sub [1, 2, 3, 4, 5, 6, 7, 8, 9, 10, 11, 12, 13, 14, 0] (by decide) rfl
    refine W.widen (k := 1) (n := 6) (by decide) (by decide) ?_
    refine lv_i2l hx hb dL_assumptionOf_7 rfl ?_
    refine sl_0 (D := D) (f := F) (x := (r_4).toInt64) hx hb hK hP hD hS 14 2 rfl rfl dL_assumptionOf_8 (fun H locs hP hD hS => ?_)
    have hP : va_P D vwCl (wKL cI cZ cJ ad ou N A fl an nd wt B Hd O R HL LB SO NG WO SA SE (vp_updL F 0 ((r_4).toInt64))) H := hP
    have hD : va_D Ap (wKL cI cZ cJ ad ou N A fl an nd wt B Hd O R HL LB SO NG WO SA SE (vp_updL F 0 ((r_4).toInt64))) := hD
    refine lv_goto (tgt := 15) hx hb dL_assumptionOf_9 (by decide) ?_
    refine lv_iconst (v := 0) hx hb dL_assumptionOf_15 (by decide) ?_
    exact mr_i (u := (vp_updL F 0 ((r_4).toInt64))) hx hb hrt hlk dL_assumptionOf_16 hS hP hD ⟨(Or.inl ⟨rfl, _, hok_4, hup_4, rfl⟩), trivial⟩
set_option maxHeartbeats 4000000 in
set_option maxRecDepth 100000 in
theorem c_L_nodeOf (l : Launch) (D : va_G) (cI cZ cJ cE : ClassId) (ad : Nat → Nat) (ou : Nat) (N : Nat) (A : Nat) (fl : Bool) (an : Nat → Int32) (nd : Nat → Int32) (wt : Nat → Int32) (B : Nat → Int32) (Hd : Nat → Int32) (O : Nat → Bool) (R : Nat) (HL : Nat → Int32) (LB : Nat → Int32) (SO : Nat → Bool) (NG : Nat → Bool) (WO : Nat → Bool) (SA : Nat) (SE : Nat) (F : Nat → Int64) (x0 : Int32) (hA : A ≤ 9) (hst : l.stackTraces = false) (sz : Nat) : Met l yL_nodeOf wsL_nodeOf ({ frames := 8, cells := 1, slots := 6, locals := 132 }) (pcL D [(cI, .int), (cZ, .boolean), (cJ, .long), (cE, .double)] sz (wKL cI cZ cJ ad ou N A fl an nd wt B Hd O R HL LB SO NG WO SA SE F) [.ref (ad 0), .int (x0), .ref (ou)]) (va_Qi (fun (r9 : Int32) (u9 : (Nat → Int64)) => ((r9 = 0 ∧ ∃ rr : Int32, (inR x0 A = true) ∧ (∃ j, j < A ∧ x0 = nI j ∧ rr = nd j) ∧ u9 0 = rr.toInt64) ∨ (r9 = 1 ∧ (inR x0 A = false))) ∧ (True)) (wB D (va_A (wKL cI cZ cJ ad ou N A fl an nd wt B Hd O R HL LB SO NG WO SA SE F) sz) (fun u9 : (Nat → Int64) => (wKL cI cZ cJ ad ou N A fl an nd wt B Hd O R HL LB SO NG WO SA SE u9))) (va_A (wKL cI cZ cJ ad ou N A fl an nd wt B Hd O R HL LB SO NG WO SA SE F) sz)) 1 6 (va_A (wKL cI cZ cJ ad ou N A fl an nd wt B Hd O R HL LB SO NG WO SA SE F) sz) := by
  refine va_MetW (cc := cL_nodeOf) (maxL := 4) (ret := (some .int)) (hh := [(0, 9, 12, 25)]) (by decide) rfl ?_
  intro p e s m args below meth c s₁ BB hml hv
  obtain ⟨rfl, hsz, hP, hK, hD0, hX, hZ, hY⟩ := hv
  have hx := BB.exec
  have hb := BB.bytes
  have hrt := BB.returns
  have hts := atoms_spec (ws := wsL_nodeOf) BB.pre
  have hown : s.vm.findClass RL = some m.cls := findClass_of_methodNamed BB.named
  have hlk := BB.notSynchronized
  subst hsz
  have hD := hD0.self (sz := s.heap.size)
  generalize hAe : va_A (wKL cI cZ cJ ad ou N A fl an nd wt B Hd O R HL LB SO NG WO SA SE F) s.heap.size = Ap at hD hZ ⊢
  have hAp : ∀ q : Nat, s.heap.size ≤ q → Ap q := fun q h => by rw [← hAe]; exact Or.inr h
  have hS : va_S Ap s.heap s.heap [] := va_S.rf
  have htb := vx_table (x := yL_nodeOf) BB (hts (.codeWith yL_nodeOf cL_nodeOf 4 (some .int) [(0, 9, 12, 25)]) List.mem_cons_self)
  have hl := lv_entry ([.ref (ad 0), .int (x0), .ref (ou)]) (n := 4) (Nat.le_of_ble_eq_true rfl)
  rw [lg_entry_eq]
  generalize (lg_sl ([.ref (ad 0), .int (x0), .ref (ou)]) ++ List.replicate (4 - (lg_sl ([.ref (ad 0), .int (x0), .ref (ou)])).length) Slot.unset).toArray = ls at hl ⊢
  have hl : lv_has ls 4 [(0, .ref (ad 0)), (1, .int (x0)), (2, .ref (ou))] := hl
  refine lv_aload_n hx hb dL_nodeOf_0 rfl (lv_at hl 2 rfl) ?_
  refine lv_iconst (v := 0) hx hb dL_nodeOf_1 (by decide) ?_
  refine lv_aload_n hx hb dL_nodeOf_2 rfl (lv_at hl 0 rfl) ?_
  refine lv_iload_n hx hb dL_nodeOf_3 rfl (lv_at hl 1 rfl) ?_
  refine xu_i (wr := [(ou, .inl (cJ, 1, .inr (.inl F)))]) (vx_runV (As := [.int (x0)]) (rest := [.int (0), .ref (ou)]) ⟨hx, hb, hml, hown, hts⟩ (c_X2_nodeOf l D cI cZ ad (N) (A) (fl) (an) (nd) (wt) (B) (Hd) (O) (R) (HL) (LB) (SO) (NG) (WO) (SA) (SE) (x0) (hA) hst (s.heap).size) (cwV 1 hts gL_nodeOf_X2_nodeOf rfl rfl rfl (by decide +kernel) ⟨Nat.le_of_ble_eq_true rfl, Nat.le_of_ble_eq_true rfl⟩) (prx_V (q0 := 0) (ci := 2) (hP.sub (ws' := (wK cI cZ ad N A fl an nd wt B Hd O R HL LB SO NG WO SA SE)) [0, 1, 2, 3, 4, 5, 6, 7, 8, 9, 10, 11, 12, 13] rfl) (hD.sub (ws' := (wK cI cZ ad N A fl an nd wt B Hd O R HL LB SO NG WO SA SE)) [0, 1, 2, 3, 4, 5, 6, 7, 8, 9, 10, 11, 12, 13] (by decide) rfl) (hK.sub [0, 1] rfl) hX hZ hS (va_free (wc := (wK cI cZ ad N A fl an nd wt B Hd O R HL LB SO NG WO SA SE)) hD hS hAp [0, 1, 2, 3, 4, 5, 6, 7, 8, 9, 10, 11, 12, 13] rfl) rfl rfl) rfl rfl hl.1 rfl (lv_room (Nat.le_of_ble_eq_true rfl)) dL_nodeOf_4 ⟨Nat.le_of_ble_eq_true rfl, Nat.le_of_ble_eq_true rfl⟩) hP hD hS hAp [0, 1, 2, 3, 4, 5, 6, 7, 8, 9, 10, 11, 12, 13] [14] rfl rfl (by decide) (by decide) (fun E_4 ce_4 q9_4 ux_4 H locs hxp_4 hP hD hS h7_4 h8_4 h9_4 => ?_) (fun r_4 u_4 H locs hq_4 hP hD hS => ?_)
  · skip
    have hP : va_P D vwCl (wKL cI cZ cJ ad ou N A fl an nd wt B Hd O R HL LB SO NG WO SA SE F) H := hP.sub [1, 2, 3, 4, 5, 6, 7, 8, 9, 10, 11, 12, 13, 14, 0] rfl
    have hD : va_D Ap (wKL cI cZ cJ ad ou N A fl an nd wt B Hd O R HL LB SO NG WO SA SE F) := hD.sub [1, 2, 3, 4, 5, 6, 7, 8, 9, 10, 11, 12, 13, 14, 0] (by decide) rfl
    obtain ⟨hE9, hc9⟩ := hxp_4
    subst hE9
    refine vx_catch (E := "java/lang/IndexOutOfBoundsException") (name := "java/lang/IndexOutOfBoundsException") hown [] ⟨0, 9, 12, 25⟩ [] (htb.trans rfl) (fun z hz => by cases hz) (by decide) (by decide) (hts (.classLink RL 25 "java/lang/IndexOutOfBoundsException") (by decide +kernel)) (va_Nw.use rfl (hX.2 (.castable "java/lang/IndexOutOfBoundsException" "java/lang/IndexOutOfBoundsException") (by decide +kernel))) h7_4 h8_4 h9_4 ?_
    refine lv_astore_n (lv' := [(3, .ref (q9_4)), (0, .ref (ad 0)), (1, .int (x0)), (2, .ref (ou))]) hx hb dL_nodeOf_12 rfl hl (by decide) rfl (fun ls hl => ?_)
    refine lv_iconst (v := 1) hx hb dL_nodeOf_13 (by decide) ?_
    exact mr_i (u := (F)) hx hb hrt hlk dL_nodeOf_14 hS hP hD ⟨(Or.inr (⟨rfl, hc9⟩)), trivial⟩
  · skip
    obtain ⟨hok_4, hup_4, -⟩ := hq_4
    have hP : va_P D vwCl (wKL cI cZ cJ ad ou N A fl an nd wt B Hd O R HL LB SO NG WO SA SE F) H := hP.sub [1, 2, 3, 4, 5, 6, 7, 8, 9, 10, 11, 12, 13, 14, 0] rfl
    have hD : va_D Ap (wKL cI cZ cJ ad ou N A fl an nd wt B Hd O R HL LB SO NG WO SA SE F) := hD.sub [1, 2, 3, 4, 5, 6, 7, 8, 9, 10, 11, 12, 13, 14, 0] (by decide) rfl
    refine W.widen (k := 1) (n := 6) (by decide) (by decide) ?_
    refine lv_i2l hx hb dL_nodeOf_7 rfl ?_
    refine sl_0 (D := D) (f := F) (x := (r_4).toInt64) hx hb hK hP hD hS 14 2 rfl rfl dL_nodeOf_8 (fun H locs hP hD hS => ?_)
    have hP : va_P D vwCl (wKL cI cZ cJ ad ou N A fl an nd wt B Hd O R HL LB SO NG WO SA SE (vp_updL F 0 ((r_4).toInt64))) H := hP
    have hD : va_D Ap (wKL cI cZ cJ ad ou N A fl an nd wt B Hd O R HL LB SO NG WO SA SE (vp_updL F 0 ((r_4).toInt64))) := hD
    refine lv_goto (tgt := 15) hx hb dL_nodeOf_9 (by decide) ?_
    refine lv_iconst (v := 0) hx hb dL_nodeOf_15 (by decide) ?_
    exact mr_i (u := (vp_updL F 0 ((r_4).toInt64))) hx hb hrt hlk dL_nodeOf_16 hS hP hD ⟨(Or.inl ⟨rfl, _, hok_4, hup_4, rfl⟩), trivial⟩
set_option maxHeartbeats 4000000 in
set_option maxRecDepth 100000 in
theorem c_L_holds (l : Launch) (D : va_G) (cI cZ cJ cE : ClassId) (ad : Nat → Nat) (ou : Nat) (N : Nat) (A : Nat) (fl : Bool) (an : Nat → Int32) (nd : Nat → Int32) (wt : Nat → Int32) (B : Nat → Int32) (Hd : Nat → Int32) (O : Nat → Bool) (R : Nat) (HL : Nat → Int32) (LB : Nat → Int32) (SO : Nat → Bool) (NG : Nat → Bool) (WO : Nat → Bool) (SA : Nat) (SE : Nat) (F : Nat → Int64) (x0 : Int32) (y0 : Int32) (hA : A ≤ 9) (hR : R ≤ 40) (hst : l.stackTraces = false) (sz : Nat) : Met l yL_holds wsL_holds ({ frames := 8, cells := 2, slots := 12, locals := 133 }) (pcL D [(cI, .int), (cZ, .boolean), (cJ, .long), (cE, .double)] sz (wKL cI cZ cJ ad ou N A fl an nd wt B Hd O R HL LB SO NG WO SA SE F) [.ref (ad 0), .int (x0), .int (y0), .ref (ou)]) (va_Qi (fun (r9 : Int32) (u9 : (Nat → Int64)) => ((r9 = 0 ∧ ∃ rr : Int32, rr = bI (hs (clo B Hd O R (bg nd y0 A)) x0) ∧ (inR x0 N = true ∧ inS y0 A = true) ∧ u9 0 = rr.toInt64) ∨ (r9 = 1 ∧ (inR x0 N = false)) ∨ (r9 = 2 ∧ (inR x0 N = true ∧ inS y0 A = false))) ∧ (True)) (wB D (va_A (wKL cI cZ cJ ad ou N A fl an nd wt B Hd O R HL LB SO NG WO SA SE F) sz) (fun u9 : (Nat → Int64) => (wKL cI cZ cJ ad ou N A fl an nd wt B Hd O R HL LB SO NG WO SA SE u9))) (va_A (wKL cI cZ cJ ad ou N A fl an nd wt B Hd O R HL LB SO NG WO SA SE F) sz)) 2 12 (va_A (wKL cI cZ cJ ad ou N A fl an nd wt B Hd O R HL LB SO NG WO SA SE F) sz) := by
  refine va_MetW (cc := cL_holds) (maxL := 5) (ret := (some .int)) (hh := [(0, 17, 20, 25), (0, 17, 24, 19)]) (by decide) rfl ?_
  intro p e s m args below meth c s₁ BB hml hv
  obtain ⟨rfl, hsz, hP, hK, hD0, hX, hZ, hY⟩ := hv
  have hx := BB.exec
  have hb := BB.bytes
  have hrt := BB.returns
  have hts := atoms_spec (ws := wsL_holds) BB.pre
  have hown : s.vm.findClass RL = some m.cls := findClass_of_methodNamed BB.named
  have hlk := BB.notSynchronized
  subst hsz
  have hD := hD0.self (sz := s.heap.size)
  generalize hAe : va_A (wKL cI cZ cJ ad ou N A fl an nd wt B Hd O R HL LB SO NG WO SA SE F) s.heap.size = Ap at hD hZ ⊢
  have hAp : ∀ q : Nat, s.heap.size ≤ q → Ap q := fun q h => by rw [← hAe]; exact Or.inr h
  have hS : va_S Ap s.heap s.heap [] := va_S.rf
  have htb := vx_table (x := yL_holds) BB (hts (.codeWith yL_holds cL_holds 5 (some .int) [(0, 17, 20, 25), (0, 17, 24, 19)]) List.mem_cons_self)
  have hl := lv_entry ([.ref (ad 0), .int (x0), .int (y0), .ref (ou)]) (n := 5) (Nat.le_of_ble_eq_true rfl)
  rw [lg_entry_eq]
  generalize (lg_sl ([.ref (ad 0), .int (x0), .int (y0), .ref (ou)]) ++ List.replicate (5 - (lg_sl ([.ref (ad 0), .int (x0), .int (y0), .ref (ou)])).length) Slot.unset).toArray = ls at hl ⊢
  have hl : lv_has ls 5 [(0, .ref (ad 0)), (1, .int (x0)), (2, .int (y0)), (3, .ref (ou))] := hl
  refine lv_aload_n hx hb dL_holds_0 rfl (lv_at hl 3 rfl) ?_
  refine lv_iconst (v := 0) hx hb dL_holds_1 (by decide) ?_
  refine lv_aload_n hx hb dL_holds_2 rfl (lv_at hl 0 rfl) ?_
  refine lv_iload_n hx hb dL_holds_3 rfl (lv_at hl 1 rfl) ?_
  refine lv_iload_n hx hb dL_holds_4 rfl (lv_at hl 2 rfl) ?_
  refine xu_i (wr := [(ou, .inl (cJ, 1, .inr (.inl F)))]) (vx_runV (As := [.int (x0), .int (y0)]) (rest := [.int (0), .ref (ou)]) ⟨hx, hb, hml, hown, hts⟩ (c_X2_holds l D cI cZ ad (N) (A) (fl) (an) (nd) (wt) (B) (Hd) (O) (R) (HL) (LB) (SO) (NG) (WO) (SA) (SE) (x0) (y0) (hA) (hR) hst (s.heap).size) (cwV 2 hts gL_holds_X2_holds rfl rfl rfl (by decide +kernel) ⟨Nat.le_of_ble_eq_true rfl, Nat.le_of_ble_eq_true rfl⟩) (prx_V (q0 := 0) (ci := 2) (hP.sub (ws' := (wK cI cZ ad N A fl an nd wt B Hd O R HL LB SO NG WO SA SE)) [0, 1, 2, 3, 4, 5, 6, 7, 8, 9, 10, 11, 12, 13] rfl) (hD.sub (ws' := (wK cI cZ ad N A fl an nd wt B Hd O R HL LB SO NG WO SA SE)) [0, 1, 2, 3, 4, 5, 6, 7, 8, 9, 10, 11, 12, 13] (by decide) rfl) (hK.sub [0, 1] rfl) hX hZ hS (va_free (wc := (wK cI cZ ad N A fl an nd wt B Hd O R HL LB SO NG WO SA SE)) hD hS hAp [0, 1, 2, 3, 4, 5, 6, 7, 8, 9, 10, 11, 12, 13] rfl) rfl rfl) rfl rfl hl.1 rfl (lv_room (Nat.le_of_ble_eq_true rfl)) dL_holds_5 ⟨Nat.le_of_ble_eq_true rfl, Nat.le_of_ble_eq_true rfl⟩) hP hD hS hAp [0, 1, 2, 3, 4, 5, 6, 7, 8, 9, 10, 11, 12, 13] [14] rfl rfl (by decide) (by decide) (fun E_5 ce_5 q9_5 ux_5 H locs hxp_5 hP hD hS h7_5 h8_5 h9_5 => ?_) (fun r_5 u_5 H locs hq_5 hP hD hS => ?_)
  · skip
    have hP : va_P D vwCl (wKL cI cZ cJ ad ou N A fl an nd wt B Hd O R HL LB SO NG WO SA SE F) H := hP.sub [1, 2, 3, 4, 5, 6, 7, 8, 9, 10, 11, 12, 13, 14, 0] rfl
    have hD : va_D Ap (wKL cI cZ cJ ad ou N A fl an nd wt B Hd O R HL LB SO NG WO SA SE F) := hD.sub [1, 2, 3, 4, 5, 6, 7, 8, 9, 10, 11, 12, 13, 14, 0] (by decide) rfl
    rcases hxp_5 with hxp_5 | hxp_5
    · skip
      obtain ⟨hE9, hc9⟩ := hxp_5
      subst hE9
      refine vx_catch (E := "java/lang/IndexOutOfBoundsException") (name := "java/lang/IndexOutOfBoundsException") hown [] ⟨0, 17, 20, 25⟩ [⟨0, 17, 24, 19⟩] (htb.trans rfl) (fun z hz => by cases hz) (by decide) (by decide) (hts (.classLink RL 25 "java/lang/IndexOutOfBoundsException") (by decide +kernel)) (va_Nw.use rfl (hX.2 (.castable "java/lang/IndexOutOfBoundsException" "java/lang/IndexOutOfBoundsException") (by decide +kernel))) h7_5 h8_5 h9_5 ?_
      refine lv_astore (lv' := [(4, .ref (q9_5)), (0, .ref (ad 0)), (1, .int (x0)), (2, .int (y0)), (3, .ref (ou))]) hx hb dL_holds_20 hl (by decide) rfl (fun ls hl => ?_)
      refine lv_iconst (v := 1) hx hb dL_holds_22 (by decide) ?_
      exact mr_i (u := (F)) hx hb hrt hlk dL_holds_23 hS hP hD ⟨(Or.inr (Or.inl ⟨rfl, hc9⟩)), trivial⟩
    · skip
      obtain ⟨hE9, hc9⟩ := hxp_5
      subst hE9
      refine vx_catch (E := "java/lang/IllegalArgumentException") (name := "java/lang/IllegalArgumentException") hown [⟨0, 17, 20, 25⟩] ⟨0, 17, 24, 19⟩ [] (htb.trans rfl) (fun z hz => by simp only [List.mem_cons, List.not_mem_nil, or_false] at hz; rcases hz with rfl <;> refine Or.inr ⟨by decide, ?_⟩ <;> first | exact ⟨_, hts (.classLink RL 25 "java/lang/IndexOutOfBoundsException") (by decide +kernel), hY.2.1⟩) (by decide) (by decide) (hts (.classLink RL 19 "java/lang/IllegalArgumentException") (by decide +kernel)) (va_Nw.use rfl (hX.2 (.castable "java/lang/IllegalArgumentException" "java/lang/IllegalArgumentException") (by decide +kernel))) h7_5 h8_5 h9_5 ?_
      refine lv_astore (lv' := [(4, .ref (q9_5)), (0, .ref (ad 0)), (1, .int (x0)), (2, .int (y0)), (3, .ref (ou))]) hx hb dL_holds_24 hl (by decide) rfl (fun ls hl => ?_)
      refine lv_iconst (v := 2) hx hb dL_holds_26 (by decide) ?_
      exact mr_i (u := (F)) hx hb hrt hlk dL_holds_27 hS hP hD ⟨(Or.inr (Or.inr (⟨rfl, hc9⟩))), trivial⟩
  · skip
    obtain ⟨rfl, hok_5, -⟩ := hq_5
    have hP : va_P D vwCl (wKL cI cZ cJ ad ou N A fl an nd wt B Hd O R HL LB SO NG WO SA SE F) H := hP.sub [1, 2, 3, 4, 5, 6, 7, 8, 9, 10, 11, 12, 13, 14, 0] rfl
    have hD : va_D Ap (wKL cI cZ cJ ad ou N A fl an nd wt B Hd O R HL LB SO NG WO SA SE F) := hD.sub [1, 2, 3, 4, 5, 6, 7, 8, 9, 10, 11, 12, 13, 14, 0] (by decide) rfl
    refine W.widen (k := 2) (n := 12) (by decide) (by decide) ?_
    refine lv_if_eq (tgt := 15) hx hb dL_holds_8 (by decide) (fun c_8 => ?_) (fun c_8 => ?_)
    · skip
      have c_8 := bI_eq0 c_8
      refine lv_lconst (v := 0) hx hb dL_holds_15 rfl ?_
      refine sl_0 (D := D) (f := F) (x := 0) hx hb hK hP hD hS 14 2 rfl rfl dL_holds_16 (fun H locs hP hD hS => ?_)
      have hP : va_P D vwCl (wKL cI cZ cJ ad ou N A fl an nd wt B Hd O R HL LB SO NG WO SA SE (vp_updL F 0 (0))) H := hP
      have hD : va_D Ap (wKL cI cZ cJ ad ou N A fl an nd wt B Hd O R HL LB SO NG WO SA SE (vp_updL F 0 (0))) := hD
      refine lv_goto (tgt := 28) hx hb dL_holds_17 (by decide) ?_
      refine lv_iconst (v := 0) hx hb dL_holds_28 (by decide) ?_
      exact mr_i (u := (vp_updL F 0 (0))) hx hb hrt hlk dL_holds_29 hS hP hD ⟨(Or.inl ⟨rfl, _, rfl, hok_5, by first | (rw [c_8]; rfl) | (simp only [c_8]; rfl)⟩), trivial⟩
    · skip
      have c_8 := bI_ne0 c_8
      refine lv_lconst (v := 1) hx hb dL_holds_11 rfl ?_
      refine lv_goto (tgt := 16) hx hb dL_holds_12 (by decide) ?_
      refine sl_0 (D := D) (f := F) (x := 1) hx hb hK hP hD hS 14 2 rfl rfl dL_holds_16 (fun H locs hP hD hS => ?_)
      have hP : va_P D vwCl (wKL cI cZ cJ ad ou N A fl an nd wt B Hd O R HL LB SO NG WO SA SE (vp_updL F 0 (1))) H := hP
      have hD : va_D Ap (wKL cI cZ cJ ad ou N A fl an nd wt B Hd O R HL LB SO NG WO SA SE (vp_updL F 0 (1))) := hD
      refine lv_goto (tgt := 28) hx hb dL_holds_17 (by decide) ?_
      refine lv_iconst (v := 0) hx hb dL_holds_28 (by decide) ?_
      exact mr_i (u := (vp_updL F 0 (1))) hx hb hrt hlk dL_holds_29 hS hP hD ⟨(Or.inl ⟨rfl, _, rfl, hok_5, by first | (rw [c_8]; rfl) | (simp only [c_8]; rfl)⟩), trivial⟩
set_option maxHeartbeats 4000000 in
set_option maxRecDepth 100000 in
theorem c_L_depth (l : Launch) (D : va_G) (cI cZ cJ cE : ClassId) (ad : Nat → Nat) (ou : Nat) (N : Nat) (A : Nat) (fl : Bool) (an : Nat → Int32) (nd : Nat → Int32) (wt : Nat → Int32) (B : Nat → Int32) (Hd : Nat → Int32) (O : Nat → Bool) (R : Nat) (HL : Nat → Int32) (LB : Nat → Int32) (SO : Nat → Bool) (NG : Nat → Bool) (WO : Nat → Bool) (SA : Nat) (SE : Nat) (F : Nat → Int64) (x0 : Int32) (y0 : Int32) (hA : A ≤ 9) (hR : R ≤ 40) (hst : l.stackTraces = false) (sz : Nat) : Met l yL_depth wsL_depth ({ frames := 8, cells := 2, slots := 12, locals := 135 }) (pcL D [(cI, .int), (cZ, .boolean), (cJ, .long), (cE, .double)] sz (wKL cI cZ cJ ad ou N A fl an nd wt B Hd O R HL LB SO NG WO SA SE F) [.ref (ad 0), .int (x0), .int (y0), .ref (ou)]) (va_Qi (fun (r9 : Int32) (u9 : (Nat → Int64)) => ((r9 = 0 ∧ ∃ rr : Int32, rr = fndI (fun d => hs (itr (fun y => aR B Hd O y R) (bg nd y0 A) d) x0) 25 (-1) ∧ (inR x0 N = true ∧ inS y0 A = true) ∧ u9 0 = rr.toInt64) ∨ (r9 = 1 ∧ (inR x0 N = false)) ∨ (r9 = 2 ∧ (inR x0 N = true ∧ inS y0 A = false))) ∧ (True)) (wB D (va_A (wKL cI cZ cJ ad ou N A fl an nd wt B Hd O R HL LB SO NG WO SA SE F) sz) (fun u9 : (Nat → Int64) => (wKL cI cZ cJ ad ou N A fl an nd wt B Hd O R HL LB SO NG WO SA SE u9))) (va_A (wKL cI cZ cJ ad ou N A fl an nd wt B Hd O R HL LB SO NG WO SA SE F) sz)) 2 12 (va_A (wKL cI cZ cJ ad ou N A fl an nd wt B Hd O R HL LB SO NG WO SA SE F) sz) := by
  refine va_MetW (cc := cL_depth) (maxL := 5) (ret := (some .int)) (hh := [(0, 10, 13, 25), (0, 10, 17, 19)]) (by decide) rfl ?_
  intro p e s m args below meth c s₁ BB hml hv
  obtain ⟨rfl, hsz, hP, hK, hD0, hX, hZ, hY⟩ := hv
  have hx := BB.exec
  have hb := BB.bytes
  have hrt := BB.returns
  have hts := atoms_spec (ws := wsL_depth) BB.pre
  have hown : s.vm.findClass RL = some m.cls := findClass_of_methodNamed BB.named
  have hlk := BB.notSynchronized
  subst hsz
  have hD := hD0.self (sz := s.heap.size)
  generalize hAe : va_A (wKL cI cZ cJ ad ou N A fl an nd wt B Hd O R HL LB SO NG WO SA SE F) s.heap.size = Ap at hD hZ ⊢
  have hAp : ∀ q : Nat, s.heap.size ≤ q → Ap q := fun q h => by rw [← hAe]; exact Or.inr h
  have hS : va_S Ap s.heap s.heap [] := va_S.rf
  have htb := vx_table (x := yL_depth) BB (hts (.codeWith yL_depth cL_depth 5 (some .int) [(0, 10, 13, 25), (0, 10, 17, 19)]) List.mem_cons_self)
  have hl := lv_entry ([.ref (ad 0), .int (x0), .int (y0), .ref (ou)]) (n := 5) (Nat.le_of_ble_eq_true rfl)
  rw [lg_entry_eq]
  generalize (lg_sl ([.ref (ad 0), .int (x0), .int (y0), .ref (ou)]) ++ List.replicate (5 - (lg_sl ([.ref (ad 0), .int (x0), .int (y0), .ref (ou)])).length) Slot.unset).toArray = ls at hl ⊢
  have hl : lv_has ls 5 [(0, .ref (ad 0)), (1, .int (x0)), (2, .int (y0)), (3, .ref (ou))] := hl
  refine lv_aload_n hx hb dL_depth_0 rfl (lv_at hl 3 rfl) ?_
  refine lv_iconst (v := 0) hx hb dL_depth_1 (by decide) ?_
  refine lv_aload_n hx hb dL_depth_2 rfl (lv_at hl 0 rfl) ?_
  refine lv_iload_n hx hb dL_depth_3 rfl (lv_at hl 1 rfl) ?_
  refine lv_iload_n hx hb dL_depth_4 rfl (lv_at hl 2 rfl) ?_
  refine xu_i (wr := [(ou, .inl (cJ, 1, .inr (.inl F)))]) (vx_runV (As := [.int (x0), .int (y0)]) (rest := [.int (0), .ref (ou)]) ⟨hx, hb, hml, hown, hts⟩ (c_X2_depth l D cI cZ ad (N) (A) (fl) (an) (nd) (wt) (B) (Hd) (O) (R) (HL) (LB) (SO) (NG) (WO) (SA) (SE) (x0) (y0) (hA) (hR) hst (s.heap).size) (cwV 2 hts gL_depth_X2_depth rfl rfl rfl (by decide +kernel) ⟨Nat.le_of_ble_eq_true rfl, Nat.le_of_ble_eq_true rfl⟩) (prx_V (q0 := 0) (ci := 2) (hP.sub (ws' := (wK cI cZ ad N A fl an nd wt B Hd O R HL LB SO NG WO SA SE)) [0, 1, 2, 3, 4, 5, 6, 7, 8, 9, 10, 11, 12, 13] rfl) (hD.sub (ws' := (wK cI cZ ad N A fl an nd wt B Hd O R HL LB SO NG WO SA SE)) [0, 1, 2, 3, 4, 5, 6, 7, 8, 9, 10, 11, 12, 13] (by decide) rfl) (hK.sub [0, 1] rfl) hX hZ hS (va_free (wc := (wK cI cZ ad N A fl an nd wt B Hd O R HL LB SO NG WO SA SE)) hD hS hAp [0, 1, 2, 3, 4, 5, 6, 7, 8, 9, 10, 11, 12, 13] rfl) rfl rfl) rfl rfl hl.1 rfl (lv_room (Nat.le_of_ble_eq_true rfl)) dL_depth_5 ⟨Nat.le_of_ble_eq_true rfl, Nat.le_of_ble_eq_true rfl⟩) hP hD hS hAp [0, 1, 2, 3, 4, 5, 6, 7, 8, 9, 10, 11, 12, 13] [14] rfl rfl (by decide) (by decide) (fun E_5 ce_5 q9_5 ux_5 H locs hxp_5 hP hD hS h7_5 h8_5 h9_5 => ?_) (fun r_5 u_5 H locs hq_5 hP hD hS => ?_)
  · skip
    have hP : va_P D vwCl (wKL cI cZ cJ ad ou N A fl an nd wt B Hd O R HL LB SO NG WO SA SE F) H := hP.sub [1, 2, 3, 4, 5, 6, 7, 8, 9, 10, 11, 12, 13, 14, 0] rfl
    have hD : va_D Ap (wKL cI cZ cJ ad ou N A fl an nd wt B Hd O R HL LB SO NG WO SA SE F) := hD.sub [1, 2, 3, 4, 5, 6, 7, 8, 9, 10, 11, 12, 13, 14, 0] (by decide) rfl
    rcases hxp_5 with hxp_5 | hxp_5
    · skip
      obtain ⟨hE9, hc9⟩ := hxp_5
      subst hE9
      refine vx_catch (E := "java/lang/IndexOutOfBoundsException") (name := "java/lang/IndexOutOfBoundsException") hown [] ⟨0, 10, 13, 25⟩ [⟨0, 10, 17, 19⟩] (htb.trans rfl) (fun z hz => by cases hz) (by decide) (by decide) (hts (.classLink RL 25 "java/lang/IndexOutOfBoundsException") (by decide +kernel)) (va_Nw.use rfl (hX.2 (.castable "java/lang/IndexOutOfBoundsException" "java/lang/IndexOutOfBoundsException") (by decide +kernel))) h7_5 h8_5 h9_5 ?_
      refine lv_astore (lv' := [(4, .ref (q9_5)), (0, .ref (ad 0)), (1, .int (x0)), (2, .int (y0)), (3, .ref (ou))]) hx hb dL_depth_13 hl (by decide) rfl (fun ls hl => ?_)
      refine lv_iconst (v := 1) hx hb dL_depth_15 (by decide) ?_
      exact mr_i (u := (F)) hx hb hrt hlk dL_depth_16 hS hP hD ⟨(Or.inr (Or.inl ⟨rfl, hc9⟩)), trivial⟩
    · skip
      obtain ⟨hE9, hc9⟩ := hxp_5
      subst hE9
      refine vx_catch (E := "java/lang/IllegalArgumentException") (name := "java/lang/IllegalArgumentException") hown [⟨0, 10, 13, 25⟩] ⟨0, 10, 17, 19⟩ [] (htb.trans rfl) (fun z hz => by simp only [List.mem_cons, List.not_mem_nil, or_false] at hz; rcases hz with rfl <;> refine Or.inr ⟨by decide, ?_⟩ <;> first | exact ⟨_, hts (.classLink RL 25 "java/lang/IndexOutOfBoundsException") (by decide +kernel), hY.2.1⟩) (by decide) (by decide) (hts (.classLink RL 19 "java/lang/IllegalArgumentException") (by decide +kernel)) (va_Nw.use rfl (hX.2 (.castable "java/lang/IllegalArgumentException" "java/lang/IllegalArgumentException") (by decide +kernel))) h7_5 h8_5 h9_5 ?_
      refine lv_astore (lv' := [(4, .ref (q9_5)), (0, .ref (ad 0)), (1, .int (x0)), (2, .int (y0)), (3, .ref (ou))]) hx hb dL_depth_17 hl (by decide) rfl (fun ls hl => ?_)
      refine lv_iconst (v := 2) hx hb dL_depth_19 (by decide) ?_
      exact mr_i (u := (F)) hx hb hrt hlk dL_depth_20 hS hP hD ⟨(Or.inr (Or.inr (⟨rfl, hc9⟩))), trivial⟩
  · skip
    obtain ⟨rfl, hok_5, -⟩ := hq_5
    have hP : va_P D vwCl (wKL cI cZ cJ ad ou N A fl an nd wt B Hd O R HL LB SO NG WO SA SE F) H := hP.sub [1, 2, 3, 4, 5, 6, 7, 8, 9, 10, 11, 12, 13, 14, 0] rfl
    have hD : va_D Ap (wKL cI cZ cJ ad ou N A fl an nd wt B Hd O R HL LB SO NG WO SA SE F) := hD.sub [1, 2, 3, 4, 5, 6, 7, 8, 9, 10, 11, 12, 13, 14, 0] (by decide) rfl
    refine W.widen (k := 2) (n := 12) (by decide) (by decide) ?_
    refine lv_i2l hx hb dL_depth_8 rfl ?_
    refine sl_0 (D := D) (f := F) (x := (fndI (fun d => hs (itr (fun y => aR B Hd O y R) (bg nd y0 A) d) x0) 25 (-1)).toInt64) hx hb hK hP hD hS 14 2 rfl rfl dL_depth_9 (fun H locs hP hD hS => ?_)
    have hP : va_P D vwCl (wKL cI cZ cJ ad ou N A fl an nd wt B Hd O R HL LB SO NG WO SA SE (vp_updL F 0 ((fndI (fun d => hs (itr (fun y => aR B Hd O y R) (bg nd y0 A) d) x0) 25 (-1)).toInt64))) H := hP
    have hD : va_D Ap (wKL cI cZ cJ ad ou N A fl an nd wt B Hd O R HL LB SO NG WO SA SE (vp_updL F 0 ((fndI (fun d => hs (itr (fun y => aR B Hd O y R) (bg nd y0 A) d) x0) 25 (-1)).toInt64))) := hD
    refine lv_goto (tgt := 21) hx hb dL_depth_10 (by decide) ?_
    refine lv_iconst (v := 0) hx hb dL_depth_21 (by decide) ?_
    exact mr_i (u := (vp_updL F 0 ((fndI (fun d => hs (itr (fun y => aR B Hd O y R) (bg nd y0 A) d) x0) 25 (-1)).toInt64))) hx hb hrt hlk dL_depth_22 hS hP hD ⟨(Or.inl ⟨rfl, _, rfl, hok_5, rfl⟩), trivial⟩
set_option maxHeartbeats 4000000 in
set_option maxRecDepth 100000 in
theorem c_L_support (l : Launch) (D : va_G) (cI cZ cJ cE : ClassId) (ad : Nat → Nat) (ou : Nat) (N : Nat) (A : Nat) (fl : Bool) (an : Nat → Int32) (nd : Nat → Int32) (wt : Nat → Int32) (B : Nat → Int32) (Hd : Nat → Int32) (O : Nat → Bool) (R : Nat) (HL : Nat → Int32) (LB : Nat → Int32) (SO : Nat → Bool) (NG : Nat → Bool) (WO : Nat → Bool) (SA : Nat) (SE : Nat) (F : Nat → Int64) (x0 : Int32) (y0 : Int32) (hA : A ≤ 9) (hR : R ≤ 40) (hst : l.stackTraces = false) (sz : Nat) : Met l yL_support wsL_support ({ frames := 8, cells := 2, slots := 12, locals := 136 }) (pcL D [(cI, .int), (cZ, .boolean), (cJ, .long), (cE, .double)] sz (wKL cI cZ cJ ad ou N A fl an nd wt B Hd O R HL LB SO NG WO SA SE F) [.ref (ad 0), .int (x0), .int (y0), .ref (ou)]) (va_Qi (fun (r9 : Int32) (u9 : (Nat → Int64)) => ((r9 = 0 ∧ ∃ rr : Int32, rr = supE B Hd O R (bg nd y0 A) x0 ∧ (inR x0 N = true ∧ inS y0 A = true) ∧ u9 0 = rr.toInt64) ∨ (r9 = 1 ∧ (inR x0 N = false)) ∨ (r9 = 2 ∧ (inR x0 N = true ∧ inS y0 A = false))) ∧ (True)) (wB D (va_A (wKL cI cZ cJ ad ou N A fl an nd wt B Hd O R HL LB SO NG WO SA SE F) sz) (fun u9 : (Nat → Int64) => (wKL cI cZ cJ ad ou N A fl an nd wt B Hd O R HL LB SO NG WO SA SE u9))) (va_A (wKL cI cZ cJ ad ou N A fl an nd wt B Hd O R HL LB SO NG WO SA SE F) sz)) 2 12 (va_A (wKL cI cZ cJ ad ou N A fl an nd wt B Hd O R HL LB SO NG WO SA SE F) sz) := by
  refine va_MetW (cc := cL_support) (maxL := 5) (ret := (some .int)) (hh := [(0, 10, 13, 25), (0, 10, 17, 19)]) (by decide) rfl ?_
  intro p e s m args below meth c s₁ BB hml hv
  obtain ⟨rfl, hsz, hP, hK, hD0, hX, hZ, hY⟩ := hv
  have hx := BB.exec
  have hb := BB.bytes
  have hrt := BB.returns
  have hts := atoms_spec (ws := wsL_support) BB.pre
  have hown : s.vm.findClass RL = some m.cls := findClass_of_methodNamed BB.named
  have hlk := BB.notSynchronized
  subst hsz
  have hD := hD0.self (sz := s.heap.size)
  generalize hAe : va_A (wKL cI cZ cJ ad ou N A fl an nd wt B Hd O R HL LB SO NG WO SA SE F) s.heap.size = Ap at hD hZ ⊢
  have hAp : ∀ q : Nat, s.heap.size ≤ q → Ap q := fun q h => by rw [← hAe]; exact Or.inr h
  have hS : va_S Ap s.heap s.heap [] := va_S.rf
  have htb := vx_table (x := yL_support) BB (hts (.codeWith yL_support cL_support 5 (some .int) [(0, 10, 13, 25), (0, 10, 17, 19)]) List.mem_cons_self)
  have hl := lv_entry ([.ref (ad 0), .int (x0), .int (y0), .ref (ou)]) (n := 5) (Nat.le_of_ble_eq_true rfl)
  rw [lg_entry_eq]
  generalize (lg_sl ([.ref (ad 0), .int (x0), .int (y0), .ref (ou)]) ++ List.replicate (5 - (lg_sl ([.ref (ad 0), .int (x0), .int (y0), .ref (ou)])).length) Slot.unset).toArray = ls at hl ⊢
  have hl : lv_has ls 5 [(0, .ref (ad 0)), (1, .int (x0)), (2, .int (y0)), (3, .ref (ou))] := hl
  refine lv_aload_n hx hb dL_support_0 rfl (lv_at hl 3 rfl) ?_
  refine lv_iconst (v := 0) hx hb dL_support_1 (by decide) ?_
  refine lv_aload_n hx hb dL_support_2 rfl (lv_at hl 0 rfl) ?_
  refine lv_iload_n hx hb dL_support_3 rfl (lv_at hl 1 rfl) ?_
  refine lv_iload_n hx hb dL_support_4 rfl (lv_at hl 2 rfl) ?_
  refine xu_i (wr := [(ou, .inl (cJ, 1, .inr (.inl F)))]) (vx_runV (As := [.int (x0), .int (y0)]) (rest := [.int (0), .ref (ou)]) ⟨hx, hb, hml, hown, hts⟩ (c_X2_support l D cI cZ ad (N) (A) (fl) (an) (nd) (wt) (B) (Hd) (O) (R) (HL) (LB) (SO) (NG) (WO) (SA) (SE) (x0) (y0) (hA) (hR) hst (s.heap).size) (cwV 2 hts gL_support_X2_support rfl rfl rfl (by decide +kernel) ⟨Nat.le_of_ble_eq_true rfl, Nat.le_of_ble_eq_true rfl⟩) (prx_V (q0 := 0) (ci := 2) (hP.sub (ws' := (wK cI cZ ad N A fl an nd wt B Hd O R HL LB SO NG WO SA SE)) [0, 1, 2, 3, 4, 5, 6, 7, 8, 9, 10, 11, 12, 13] rfl) (hD.sub (ws' := (wK cI cZ ad N A fl an nd wt B Hd O R HL LB SO NG WO SA SE)) [0, 1, 2, 3, 4, 5, 6, 7, 8, 9, 10, 11, 12, 13] (by decide) rfl) (hK.sub [0, 1] rfl) hX hZ hS (va_free (wc := (wK cI cZ ad N A fl an nd wt B Hd O R HL LB SO NG WO SA SE)) hD hS hAp [0, 1, 2, 3, 4, 5, 6, 7, 8, 9, 10, 11, 12, 13] rfl) rfl rfl) rfl rfl hl.1 rfl (lv_room (Nat.le_of_ble_eq_true rfl)) dL_support_5 ⟨Nat.le_of_ble_eq_true rfl, Nat.le_of_ble_eq_true rfl⟩) hP hD hS hAp [0, 1, 2, 3, 4, 5, 6, 7, 8, 9, 10, 11, 12, 13] [14] rfl rfl (by decide) (by decide) (fun E_5 ce_5 q9_5 ux_5 H locs hxp_5 hP hD hS h7_5 h8_5 h9_5 => ?_) (fun r_5 u_5 H locs hq_5 hP hD hS => ?_)
  · skip
    have hP : va_P D vwCl (wKL cI cZ cJ ad ou N A fl an nd wt B Hd O R HL LB SO NG WO SA SE F) H := hP.sub [1, 2, 3, 4, 5, 6, 7, 8, 9, 10, 11, 12, 13, 14, 0] rfl
    have hD : va_D Ap (wKL cI cZ cJ ad ou N A fl an nd wt B Hd O R HL LB SO NG WO SA SE F) := hD.sub [1, 2, 3, 4, 5, 6, 7, 8, 9, 10, 11, 12, 13, 14, 0] (by decide) rfl
    rcases hxp_5 with hxp_5 | hxp_5
    · skip
      obtain ⟨hE9, hc9⟩ := hxp_5
      subst hE9
      refine vx_catch (E := "java/lang/IndexOutOfBoundsException") (name := "java/lang/IndexOutOfBoundsException") hown [] ⟨0, 10, 13, 25⟩ [⟨0, 10, 17, 19⟩] (htb.trans rfl) (fun z hz => by cases hz) (by decide) (by decide) (hts (.classLink RL 25 "java/lang/IndexOutOfBoundsException") (by decide +kernel)) (va_Nw.use rfl (hX.2 (.castable "java/lang/IndexOutOfBoundsException" "java/lang/IndexOutOfBoundsException") (by decide +kernel))) h7_5 h8_5 h9_5 ?_
      refine lv_astore (lv' := [(4, .ref (q9_5)), (0, .ref (ad 0)), (1, .int (x0)), (2, .int (y0)), (3, .ref (ou))]) hx hb dL_support_13 hl (by decide) rfl (fun ls hl => ?_)
      refine lv_iconst (v := 1) hx hb dL_support_15 (by decide) ?_
      exact mr_i (u := (F)) hx hb hrt hlk dL_support_16 hS hP hD ⟨(Or.inr (Or.inl ⟨rfl, hc9⟩)), trivial⟩
    · skip
      obtain ⟨hE9, hc9⟩ := hxp_5
      subst hE9
      refine vx_catch (E := "java/lang/IllegalArgumentException") (name := "java/lang/IllegalArgumentException") hown [⟨0, 10, 13, 25⟩] ⟨0, 10, 17, 19⟩ [] (htb.trans rfl) (fun z hz => by simp only [List.mem_cons, List.not_mem_nil, or_false] at hz; rcases hz with rfl <;> refine Or.inr ⟨by decide, ?_⟩ <;> first | exact ⟨_, hts (.classLink RL 25 "java/lang/IndexOutOfBoundsException") (by decide +kernel), hY.2.1⟩) (by decide) (by decide) (hts (.classLink RL 19 "java/lang/IllegalArgumentException") (by decide +kernel)) (va_Nw.use rfl (hX.2 (.castable "java/lang/IllegalArgumentException" "java/lang/IllegalArgumentException") (by decide +kernel))) h7_5 h8_5 h9_5 ?_
      refine lv_astore (lv' := [(4, .ref (q9_5)), (0, .ref (ad 0)), (1, .int (x0)), (2, .int (y0)), (3, .ref (ou))]) hx hb dL_support_17 hl (by decide) rfl (fun ls hl => ?_)
      refine lv_iconst (v := 2) hx hb dL_support_19 (by decide) ?_
      exact mr_i (u := (F)) hx hb hrt hlk dL_support_20 hS hP hD ⟨(Or.inr (Or.inr (⟨rfl, hc9⟩))), trivial⟩
  · skip
    obtain ⟨rfl, hok_5, -⟩ := hq_5
    have hP : va_P D vwCl (wKL cI cZ cJ ad ou N A fl an nd wt B Hd O R HL LB SO NG WO SA SE F) H := hP.sub [1, 2, 3, 4, 5, 6, 7, 8, 9, 10, 11, 12, 13, 14, 0] rfl
    have hD : va_D Ap (wKL cI cZ cJ ad ou N A fl an nd wt B Hd O R HL LB SO NG WO SA SE F) := hD.sub [1, 2, 3, 4, 5, 6, 7, 8, 9, 10, 11, 12, 13, 14, 0] (by decide) rfl
    refine W.widen (k := 2) (n := 12) (by decide) (by decide) ?_
    refine lv_i2l hx hb dL_support_8 rfl ?_
    refine sl_0 (D := D) (f := F) (x := (supE B Hd O R (bg nd y0 A) x0).toInt64) hx hb hK hP hD hS 14 2 rfl rfl dL_support_9 (fun H locs hP hD hS => ?_)
    have hP : va_P D vwCl (wKL cI cZ cJ ad ou N A fl an nd wt B Hd O R HL LB SO NG WO SA SE (vp_updL F 0 ((supE B Hd O R (bg nd y0 A) x0).toInt64))) H := hP
    have hD : va_D Ap (wKL cI cZ cJ ad ou N A fl an nd wt B Hd O R HL LB SO NG WO SA SE (vp_updL F 0 ((supE B Hd O R (bg nd y0 A) x0).toInt64))) := hD
    refine lv_goto (tgt := 21) hx hb dL_support_10 (by decide) ?_
    refine lv_iconst (v := 0) hx hb dL_support_21 (by decide) ?_
    exact mr_i (u := (vp_updL F 0 ((supE B Hd O R (bg nd y0 A) x0).toInt64))) hx hb hrt hlk dL_support_22 hS hP hD ⟨(Or.inl ⟨rfl, _, rfl, hok_5, rfl⟩), trivial⟩
set_option maxHeartbeats 4000000 in
set_option maxRecDepth 100000 in
theorem c_L_heldCount (l : Launch) (D : va_G) (cI cZ cJ cE : ClassId) (ad : Nat → Nat) (ou : Nat) (N : Nat) (A : Nat) (fl : Bool) (an : Nat → Int32) (nd : Nat → Int32) (wt : Nat → Int32) (B : Nat → Int32) (Hd : Nat → Int32) (O : Nat → Bool) (R : Nat) (HL : Nat → Int32) (LB : Nat → Int32) (SO : Nat → Bool) (NG : Nat → Bool) (WO : Nat → Bool) (SA : Nat) (SE : Nat) (F : Nat → Int64) (x0 : Int32) (hA : A ≤ 9) (hR : R ≤ 40) (hn : N ≤ 24) (hH : okH N Hd R) (hN : okN N nd A) (hst : l.stackTraces = false) (sz : Nat) : Met l yL_heldCount wsL_heldCount ({ frames := 8, cells := 1, slots := 6, locals := 132 }) (pcL D [(cI, .int), (cZ, .boolean), (cJ, .long), (cE, .double)] sz (wKL cI cZ cJ ad ou N A fl an nd wt B Hd O R HL LB SO NG WO SA SE F) [.ref (ad 0), .int (x0), .ref (ou)]) (va_Qi (fun (r9 : Int32) (u9 : (Nat → Int64)) => ((r9 = 0 ∧ ∃ rr : Int32, rr = nI (cnt (fun k => hs (clo B Hd O R (bg nd x0 A)) (nI k)) N) ∧ (inS x0 A = true) ∧ u9 0 = rr.toInt64) ∨ (r9 = 1 ∧ (inS x0 A = false))) ∧ (True)) (wB D (va_A (wKL cI cZ cJ ad ou N A fl an nd wt B Hd O R HL LB SO NG WO SA SE F) sz) (fun u9 : (Nat → Int64) => (wKL cI cZ cJ ad ou N A fl an nd wt B Hd O R HL LB SO NG WO SA SE u9))) (va_A (wKL cI cZ cJ ad ou N A fl an nd wt B Hd O R HL LB SO NG WO SA SE F) sz)) 1 6 (va_A (wKL cI cZ cJ ad ou N A fl an nd wt B Hd O R HL LB SO NG WO SA SE F) sz) := by
  refine va_MetW (cc := cL_heldCount) (maxL := 4) (ret := (some .int)) (hh := [(0, 9, 12, 19)]) (by decide) rfl ?_
  intro p e s m args below meth c s₁ BB hml hv
  obtain ⟨rfl, hsz, hP, hK, hD0, hX, hZ, hY⟩ := hv
  have hx := BB.exec
  have hb := BB.bytes
  have hrt := BB.returns
  have hts := atoms_spec (ws := wsL_heldCount) BB.pre
  have hown : s.vm.findClass RL = some m.cls := findClass_of_methodNamed BB.named
  have hlk := BB.notSynchronized
  subst hsz
  have hD := hD0.self (sz := s.heap.size)
  generalize hAe : va_A (wKL cI cZ cJ ad ou N A fl an nd wt B Hd O R HL LB SO NG WO SA SE F) s.heap.size = Ap at hD hZ ⊢
  have hAp : ∀ q : Nat, s.heap.size ≤ q → Ap q := fun q h => by rw [← hAe]; exact Or.inr h
  have hS : va_S Ap s.heap s.heap [] := va_S.rf
  have htb := vx_table (x := yL_heldCount) BB (hts (.codeWith yL_heldCount cL_heldCount 4 (some .int) [(0, 9, 12, 19)]) List.mem_cons_self)
  have hl := lv_entry ([.ref (ad 0), .int (x0), .ref (ou)]) (n := 4) (Nat.le_of_ble_eq_true rfl)
  rw [lg_entry_eq]
  generalize (lg_sl ([.ref (ad 0), .int (x0), .ref (ou)]) ++ List.replicate (4 - (lg_sl ([.ref (ad 0), .int (x0), .ref (ou)])).length) Slot.unset).toArray = ls at hl ⊢
  have hl : lv_has ls 4 [(0, .ref (ad 0)), (1, .int (x0)), (2, .ref (ou))] := hl
  refine lv_aload_n hx hb dL_heldCount_0 rfl (lv_at hl 2 rfl) ?_
  refine lv_iconst (v := 0) hx hb dL_heldCount_1 (by decide) ?_
  refine lv_aload_n hx hb dL_heldCount_2 rfl (lv_at hl 0 rfl) ?_
  refine lv_iload_n hx hb dL_heldCount_3 rfl (lv_at hl 1 rfl) ?_
  refine xu_i (wr := [(ou, .inl (cJ, 1, .inr (.inl F)))]) (vx_runV (As := [.int (x0)]) (rest := [.int (0), .ref (ou)]) ⟨hx, hb, hml, hown, hts⟩ (c_X2_heldCount l D cI cZ ad (N) (A) (fl) (an) (nd) (wt) (B) (Hd) (O) (R) (HL) (LB) (SO) (NG) (WO) (SA) (SE) (x0) (hA) (hR) (hn) (hH) (hN) hst (s.heap).size) (cwV 1 hts gL_heldCount_X2_heldCount rfl rfl rfl (by decide +kernel) ⟨Nat.le_of_ble_eq_true rfl, Nat.le_of_ble_eq_true rfl⟩) (prx_V (q0 := 0) (ci := 2) (hP.sub (ws' := (wK cI cZ ad N A fl an nd wt B Hd O R HL LB SO NG WO SA SE)) [0, 1, 2, 3, 4, 5, 6, 7, 8, 9, 10, 11, 12, 13] rfl) (hD.sub (ws' := (wK cI cZ ad N A fl an nd wt B Hd O R HL LB SO NG WO SA SE)) [0, 1, 2, 3, 4, 5, 6, 7, 8, 9, 10, 11, 12, 13] (by decide) rfl) (hK.sub [0, 1] rfl) hX hZ hS (va_free (wc := (wK cI cZ ad N A fl an nd wt B Hd O R HL LB SO NG WO SA SE)) hD hS hAp [0, 1, 2, 3, 4, 5, 6, 7, 8, 9, 10, 11, 12, 13] rfl) rfl rfl) rfl rfl hl.1 rfl (lv_room (Nat.le_of_ble_eq_true rfl)) dL_heldCount_4 ⟨Nat.le_of_ble_eq_true rfl, Nat.le_of_ble_eq_true rfl⟩) hP hD hS hAp [0, 1, 2, 3, 4, 5, 6, 7, 8, 9, 10, 11, 12, 13] [14] rfl rfl (by decide) (by decide) (fun E_4 ce_4 q9_4 ux_4 H locs hxp_4 hP hD hS h7_4 h8_4 h9_4 => ?_) (fun r_4 u_4 H locs hq_4 hP hD hS => ?_)
  · skip
    have hP : va_P D vwCl (wKL cI cZ cJ ad ou N A fl an nd wt B Hd O R HL LB SO NG WO SA SE F) H := hP.sub [1, 2, 3, 4, 5, 6, 7, 8, 9, 10, 11, 12, 13, 14, 0] rfl
    have hD : va_D Ap (wKL cI cZ cJ ad ou N A fl an nd wt B Hd O R HL LB SO NG WO SA SE F) := hD.sub [1, 2, 3, 4, 5, 6, 7, 8, 9, 10, 11, 12, 13, 14, 0] (by decide) rfl
    obtain ⟨hE9, hc9⟩ := hxp_4
    subst hE9
    refine vx_catch (E := "java/lang/IllegalArgumentException") (name := "java/lang/IllegalArgumentException") hown [] ⟨0, 9, 12, 19⟩ [] (htb.trans rfl) (fun z hz => by cases hz) (by decide) (by decide) (hts (.classLink RL 19 "java/lang/IllegalArgumentException") (by decide +kernel)) (va_Nw.use rfl (hX.2 (.castable "java/lang/IllegalArgumentException" "java/lang/IllegalArgumentException") (by decide +kernel))) h7_4 h8_4 h9_4 ?_
    refine lv_astore_n (lv' := [(3, .ref (q9_4)), (0, .ref (ad 0)), (1, .int (x0)), (2, .ref (ou))]) hx hb dL_heldCount_12 rfl hl (by decide) rfl (fun ls hl => ?_)
    refine lv_iconst (v := 1) hx hb dL_heldCount_13 (by decide) ?_
    exact mr_i (u := (F)) hx hb hrt hlk dL_heldCount_14 hS hP hD ⟨(Or.inr (⟨rfl, hc9⟩)), trivial⟩
  · skip
    obtain ⟨rfl, hok_4, -⟩ := hq_4
    have hP : va_P D vwCl (wKL cI cZ cJ ad ou N A fl an nd wt B Hd O R HL LB SO NG WO SA SE F) H := hP.sub [1, 2, 3, 4, 5, 6, 7, 8, 9, 10, 11, 12, 13, 14, 0] rfl
    have hD : va_D Ap (wKL cI cZ cJ ad ou N A fl an nd wt B Hd O R HL LB SO NG WO SA SE F) := hD.sub [1, 2, 3, 4, 5, 6, 7, 8, 9, 10, 11, 12, 13, 14, 0] (by decide) rfl
    refine W.widen (k := 1) (n := 6) (by decide) (by decide) ?_
    refine lv_i2l hx hb dL_heldCount_7 rfl ?_
    refine sl_0 (D := D) (f := F) (x := (nI (cnt (fun k => hs (clo B Hd O R (bg nd x0 A)) (nI k)) N)).toInt64) hx hb hK hP hD hS 14 2 rfl rfl dL_heldCount_8 (fun H locs hP hD hS => ?_)
    have hP : va_P D vwCl (wKL cI cZ cJ ad ou N A fl an nd wt B Hd O R HL LB SO NG WO SA SE (vp_updL F 0 ((nI (cnt (fun k => hs (clo B Hd O R (bg nd x0 A)) (nI k)) N)).toInt64))) H := hP
    have hD : va_D Ap (wKL cI cZ cJ ad ou N A fl an nd wt B Hd O R HL LB SO NG WO SA SE (vp_updL F 0 ((nI (cnt (fun k => hs (clo B Hd O R (bg nd x0 A)) (nI k)) N)).toInt64))) := hD
    refine lv_goto (tgt := 15) hx hb dL_heldCount_9 (by decide) ?_
    refine lv_iconst (v := 0) hx hb dL_heldCount_15 (by decide) ?_
    exact mr_i (u := (vp_updL F 0 ((nI (cnt (fun k => hs (clo B Hd O R (bg nd x0 A)) (nI k)) N)).toInt64))) hx hb hrt hlk dL_heldCount_16 hS hP hD ⟨(Or.inl ⟨rfl, _, rfl, hok_4, rfl⟩), trivial⟩
set_option maxHeartbeats 4000000 in
set_option maxRecDepth 100000 in
theorem c_L_isConsistent (l : Launch) (D : va_G) (cI cZ cJ cE : ClassId) (ad : Nat → Nat) (ou : Nat) (N : Nat) (A : Nat) (fl : Bool) (an : Nat → Int32) (nd : Nat → Int32) (wt : Nat → Int32) (B : Nat → Int32) (Hd : Nat → Int32) (O : Nat → Bool) (R : Nat) (HL : Nat → Int32) (LB : Nat → Int32) (SO : Nat → Bool) (NG : Nat → Bool) (WO : Nat → Bool) (SA : Nat) (SE : Nat) (F : Nat → Int64) (x0 : Int32) (hA : A ≤ 9) (hR : R ≤ 40) (hst : l.stackTraces = false) (sz : Nat) : Met l yL_isConsistent wsL_isConsistent ({ frames := 8, cells := 1, slots := 6, locals := 132 }) (pcL D [(cI, .int), (cZ, .boolean), (cJ, .long), (cE, .double)] sz (wKL cI cZ cJ ad ou N A fl an nd wt B Hd O R HL LB SO NG WO SA SE F) [.ref (ad 0), .int (x0), .ref (ou)]) (va_Qi (fun (r9 : Int32) (u9 : (Nat → Int64)) => ((r9 = 0 ∧ ∃ rr : Int32, rr = bI (!(ct B Hd O R (clo B Hd O R (bg nd x0 A)))) ∧ (inS x0 A = true) ∧ u9 0 = rr.toInt64) ∨ (r9 = 1 ∧ (inS x0 A = false))) ∧ (True)) (wB D (va_A (wKL cI cZ cJ ad ou N A fl an nd wt B Hd O R HL LB SO NG WO SA SE F) sz) (fun u9 : (Nat → Int64) => (wKL cI cZ cJ ad ou N A fl an nd wt B Hd O R HL LB SO NG WO SA SE u9))) (va_A (wKL cI cZ cJ ad ou N A fl an nd wt B Hd O R HL LB SO NG WO SA SE F) sz)) 1 6 (va_A (wKL cI cZ cJ ad ou N A fl an nd wt B Hd O R HL LB SO NG WO SA SE F) sz) := by
  refine va_MetW (cc := cL_isConsistent) (maxL := 4) (ret := (some .int)) (hh := [(0, 16, 19, 19)]) (by decide) rfl ?_
  intro p e s m args below meth c s₁ BB hml hv
  obtain ⟨rfl, hsz, hP, hK, hD0, hX, hZ, hY⟩ := hv
  have hx := BB.exec
  have hb := BB.bytes
  have hrt := BB.returns
  have hts := atoms_spec (ws := wsL_isConsistent) BB.pre
  have hown : s.vm.findClass RL = some m.cls := findClass_of_methodNamed BB.named
  have hlk := BB.notSynchronized
  subst hsz
  have hD := hD0.self (sz := s.heap.size)
  generalize hAe : va_A (wKL cI cZ cJ ad ou N A fl an nd wt B Hd O R HL LB SO NG WO SA SE F) s.heap.size = Ap at hD hZ ⊢
  have hAp : ∀ q : Nat, s.heap.size ≤ q → Ap q := fun q h => by rw [← hAe]; exact Or.inr h
  have hS : va_S Ap s.heap s.heap [] := va_S.rf
  have htb := vx_table (x := yL_isConsistent) BB (hts (.codeWith yL_isConsistent cL_isConsistent 4 (some .int) [(0, 16, 19, 19)]) List.mem_cons_self)
  have hl := lv_entry ([.ref (ad 0), .int (x0), .ref (ou)]) (n := 4) (Nat.le_of_ble_eq_true rfl)
  rw [lg_entry_eq]
  generalize (lg_sl ([.ref (ad 0), .int (x0), .ref (ou)]) ++ List.replicate (4 - (lg_sl ([.ref (ad 0), .int (x0), .ref (ou)])).length) Slot.unset).toArray = ls at hl ⊢
  have hl : lv_has ls 4 [(0, .ref (ad 0)), (1, .int (x0)), (2, .ref (ou))] := hl
  refine lv_aload_n hx hb dL_isConsistent_0 rfl (lv_at hl 2 rfl) ?_
  refine lv_iconst (v := 0) hx hb dL_isConsistent_1 (by decide) ?_
  refine lv_aload_n hx hb dL_isConsistent_2 rfl (lv_at hl 0 rfl) ?_
  refine lv_iload_n hx hb dL_isConsistent_3 rfl (lv_at hl 1 rfl) ?_
  refine xu_i (wr := [(ou, .inl (cJ, 1, .inr (.inl F)))]) (vx_runV (As := [.int (x0)]) (rest := [.int (0), .ref (ou)]) ⟨hx, hb, hml, hown, hts⟩ (c_X2_isConsistent l D cI cZ ad (N) (A) (fl) (an) (nd) (wt) (B) (Hd) (O) (R) (HL) (LB) (SO) (NG) (WO) (SA) (SE) (x0) (hA) (hR) hst (s.heap).size) (cwV 1 hts gL_isConsistent_X2_isConsistent rfl rfl rfl (by decide +kernel) ⟨Nat.le_of_ble_eq_true rfl, Nat.le_of_ble_eq_true rfl⟩) (prx_V (q0 := 0) (ci := 2) (hP.sub (ws' := (wK cI cZ ad N A fl an nd wt B Hd O R HL LB SO NG WO SA SE)) [0, 1, 2, 3, 4, 5, 6, 7, 8, 9, 10, 11, 12, 13] rfl) (hD.sub (ws' := (wK cI cZ ad N A fl an nd wt B Hd O R HL LB SO NG WO SA SE)) [0, 1, 2, 3, 4, 5, 6, 7, 8, 9, 10, 11, 12, 13] (by decide) rfl) (hK.sub [0, 1] rfl) hX hZ hS (va_free (wc := (wK cI cZ ad N A fl an nd wt B Hd O R HL LB SO NG WO SA SE)) hD hS hAp [0, 1, 2, 3, 4, 5, 6, 7, 8, 9, 10, 11, 12, 13] rfl) rfl rfl) rfl rfl hl.1 rfl (lv_room (Nat.le_of_ble_eq_true rfl)) dL_isConsistent_4 ⟨Nat.le_of_ble_eq_true rfl, Nat.le_of_ble_eq_true rfl⟩) hP hD hS hAp [0, 1, 2, 3, 4, 5, 6, 7, 8, 9, 10, 11, 12, 13] [14] rfl rfl (by decide) (by decide) (fun E_4 ce_4 q9_4 ux_4 H locs hxp_4 hP hD hS h7_4 h8_4 h9_4 => ?_) (fun r_4 u_4 H locs hq_4 hP hD hS => ?_)
  · skip
    have hP : va_P D vwCl (wKL cI cZ cJ ad ou N A fl an nd wt B Hd O R HL LB SO NG WO SA SE F) H := hP.sub [1, 2, 3, 4, 5, 6, 7, 8, 9, 10, 11, 12, 13, 14, 0] rfl
    have hD : va_D Ap (wKL cI cZ cJ ad ou N A fl an nd wt B Hd O R HL LB SO NG WO SA SE F) := hD.sub [1, 2, 3, 4, 5, 6, 7, 8, 9, 10, 11, 12, 13, 14, 0] (by decide) rfl
    obtain ⟨hE9, hc9⟩ := hxp_4
    subst hE9
    refine vx_catch (E := "java/lang/IllegalArgumentException") (name := "java/lang/IllegalArgumentException") hown [] ⟨0, 16, 19, 19⟩ [] (htb.trans rfl) (fun z hz => by cases hz) (by decide) (by decide) (hts (.classLink RL 19 "java/lang/IllegalArgumentException") (by decide +kernel)) (va_Nw.use rfl (hX.2 (.castable "java/lang/IllegalArgumentException" "java/lang/IllegalArgumentException") (by decide +kernel))) h7_4 h8_4 h9_4 ?_
    refine lv_astore_n (lv' := [(3, .ref (q9_4)), (0, .ref (ad 0)), (1, .int (x0)), (2, .ref (ou))]) hx hb dL_isConsistent_19 rfl hl (by decide) rfl (fun ls hl => ?_)
    refine lv_iconst (v := 1) hx hb dL_isConsistent_20 (by decide) ?_
    exact mr_i (u := (F)) hx hb hrt hlk dL_isConsistent_21 hS hP hD ⟨(Or.inr (⟨rfl, hc9⟩)), trivial⟩
  · skip
    obtain ⟨rfl, hok_4, -⟩ := hq_4
    have hP : va_P D vwCl (wKL cI cZ cJ ad ou N A fl an nd wt B Hd O R HL LB SO NG WO SA SE F) H := hP.sub [1, 2, 3, 4, 5, 6, 7, 8, 9, 10, 11, 12, 13, 14, 0] rfl
    have hD : va_D Ap (wKL cI cZ cJ ad ou N A fl an nd wt B Hd O R HL LB SO NG WO SA SE F) := hD.sub [1, 2, 3, 4, 5, 6, 7, 8, 9, 10, 11, 12, 13, 14, 0] (by decide) rfl
    refine W.widen (k := 1) (n := 6) (by decide) (by decide) ?_
    refine lv_if_eq (tgt := 14) hx hb dL_isConsistent_7 (by decide) (fun c_7 => ?_) (fun c_7 => ?_)
    · skip
      have c_7 := bI_eq0 c_7
      have c_7 := nb_f c_7
      refine lv_lconst (v := 0) hx hb dL_isConsistent_14 rfl ?_
      refine sl_0 (D := D) (f := F) (x := 0) hx hb hK hP hD hS 14 2 rfl rfl dL_isConsistent_15 (fun H locs hP hD hS => ?_)
      have hP : va_P D vwCl (wKL cI cZ cJ ad ou N A fl an nd wt B Hd O R HL LB SO NG WO SA SE (vp_updL F 0 (0))) H := hP
      have hD : va_D Ap (wKL cI cZ cJ ad ou N A fl an nd wt B Hd O R HL LB SO NG WO SA SE (vp_updL F 0 (0))) := hD
      refine lv_goto (tgt := 22) hx hb dL_isConsistent_16 (by decide) ?_
      refine lv_iconst (v := 0) hx hb dL_isConsistent_22 (by decide) ?_
      exact mr_i (u := (vp_updL F 0 (0))) hx hb hrt hlk dL_isConsistent_23 hS hP hD ⟨(Or.inl ⟨rfl, _, rfl, hok_4, by first | (rw [c_7]; rfl) | (simp only [c_7]; rfl)⟩), trivial⟩
    · skip
      have c_7 := bI_ne0 c_7
      have c_7 := nb_t c_7
      refine lv_lconst (v := 1) hx hb dL_isConsistent_10 rfl ?_
      refine lv_goto (tgt := 15) hx hb dL_isConsistent_11 (by decide) ?_
      refine sl_0 (D := D) (f := F) (x := 1) hx hb hK hP hD hS 14 2 rfl rfl dL_isConsistent_15 (fun H locs hP hD hS => ?_)
      have hP : va_P D vwCl (wKL cI cZ cJ ad ou N A fl an nd wt B Hd O R HL LB SO NG WO SA SE (vp_updL F 0 (1))) H := hP
      have hD : va_D Ap (wKL cI cZ cJ ad ou N A fl an nd wt B Hd O R HL LB SO NG WO SA SE (vp_updL F 0 (1))) := hD
      refine lv_goto (tgt := 22) hx hb dL_isConsistent_16 (by decide) ?_
      refine lv_iconst (v := 0) hx hb dL_isConsistent_22 (by decide) ?_
      exact mr_i (u := (vp_updL F 0 (1))) hx hb hrt hlk dL_isConsistent_23 hS hP hD ⟨(Or.inl ⟨rfl, _, rfl, hok_4, by first | (rw [c_7]; rfl) | (simp only [c_7]; rfl)⟩), trivial⟩
set_option maxHeartbeats 4000000 in
set_option maxRecDepth 100000 in
theorem c_L_cost (l : Launch) (D : va_G) (cI cZ cJ cE : ClassId) (ad : Nat → Nat) (ou : Nat) (N : Nat) (A : Nat) (fl : Bool) (an : Nat → Int32) (nd : Nat → Int32) (wt : Nat → Int32) (B : Nat → Int32) (Hd : Nat → Int32) (O : Nat → Bool) (R : Nat) (HL : Nat → Int32) (LB : Nat → Int32) (SO : Nat → Bool) (NG : Nat → Bool) (WO : Nat → Bool) (SA : Nat) (SE : Nat) (F : Nat → Int64) (x0 : Int32) (hA : A ≤ 9) (hst : l.stackTraces = false) (sz : Nat) : Met l yL_cost wsL_cost ({ frames := 8, cells := 1, slots := 6, locals := 132 }) (pcL D [(cI, .int), (cZ, .boolean), (cJ, .long), (cE, .double)] sz (wKL cI cZ cJ ad ou N A fl an nd wt B Hd O R HL LB SO NG WO SA SE F) [.ref (ad 0), .int (x0), .ref (ou)]) (va_Qi (fun (r9 : Int32) (u9 : (Nat → Int64)) => ((r9 = 0 ∧ ∃ rr : Int32, rr = wo wt x0 A ∧ (inS x0 A = true) ∧ u9 0 = rr.toInt64) ∨ (r9 = 1 ∧ (inS x0 A = false))) ∧ (True)) (wB D (va_A (wKL cI cZ cJ ad ou N A fl an nd wt B Hd O R HL LB SO NG WO SA SE F) sz) (fun u9 : (Nat → Int64) => (wKL cI cZ cJ ad ou N A fl an nd wt B Hd O R HL LB SO NG WO SA SE u9))) (va_A (wKL cI cZ cJ ad ou N A fl an nd wt B Hd O R HL LB SO NG WO SA SE F) sz)) 1 6 (va_A (wKL cI cZ cJ ad ou N A fl an nd wt B Hd O R HL LB SO NG WO SA SE F) sz) := by
  refine va_MetW (cc := cL_cost) (maxL := 4) (ret := (some .int)) (hh := [(0, 9, 12, 19)]) (by decide) rfl ?_
  intro p e s m args below meth c s₁ BB hml hv
  obtain ⟨rfl, hsz, hP, hK, hD0, hX, hZ, hY⟩ := hv
  have hx := BB.exec
  have hb := BB.bytes
  have hrt := BB.returns
  have hts := atoms_spec (ws := wsL_cost) BB.pre
  have hown : s.vm.findClass RL = some m.cls := findClass_of_methodNamed BB.named
  have hlk := BB.notSynchronized
  subst hsz
  have hD := hD0.self (sz := s.heap.size)
  generalize hAe : va_A (wKL cI cZ cJ ad ou N A fl an nd wt B Hd O R HL LB SO NG WO SA SE F) s.heap.size = Ap at hD hZ ⊢
  have hAp : ∀ q : Nat, s.heap.size ≤ q → Ap q := fun q h => by rw [← hAe]; exact Or.inr h
  have hS : va_S Ap s.heap s.heap [] := va_S.rf
  have htb := vx_table (x := yL_cost) BB (hts (.codeWith yL_cost cL_cost 4 (some .int) [(0, 9, 12, 19)]) List.mem_cons_self)
  have hl := lv_entry ([.ref (ad 0), .int (x0), .ref (ou)]) (n := 4) (Nat.le_of_ble_eq_true rfl)
  rw [lg_entry_eq]
  generalize (lg_sl ([.ref (ad 0), .int (x0), .ref (ou)]) ++ List.replicate (4 - (lg_sl ([.ref (ad 0), .int (x0), .ref (ou)])).length) Slot.unset).toArray = ls at hl ⊢
  have hl : lv_has ls 4 [(0, .ref (ad 0)), (1, .int (x0)), (2, .ref (ou))] := hl
  refine lv_aload_n hx hb dL_cost_0 rfl (lv_at hl 2 rfl) ?_
  refine lv_iconst (v := 0) hx hb dL_cost_1 (by decide) ?_
  refine lv_aload_n hx hb dL_cost_2 rfl (lv_at hl 0 rfl) ?_
  refine lv_iload_n hx hb dL_cost_3 rfl (lv_at hl 1 rfl) ?_
  refine xu_i (wr := [(ou, .inl (cJ, 1, .inr (.inl F)))]) (vx_runV (As := [.int (x0)]) (rest := [.int (0), .ref (ou)]) ⟨hx, hb, hml, hown, hts⟩ (c_X2_cost l D cI cZ ad (N) (A) (fl) (an) (nd) (wt) (B) (Hd) (O) (R) (HL) (LB) (SO) (NG) (WO) (SA) (SE) (x0) (hA) hst (s.heap).size) (cwV 1 hts gL_cost_X2_cost rfl rfl rfl (by decide +kernel) ⟨Nat.le_of_ble_eq_true rfl, Nat.le_of_ble_eq_true rfl⟩) (prx_V (q0 := 0) (ci := 2) (hP.sub (ws' := (wK cI cZ ad N A fl an nd wt B Hd O R HL LB SO NG WO SA SE)) [0, 1, 2, 3, 4, 5, 6, 7, 8, 9, 10, 11, 12, 13] rfl) (hD.sub (ws' := (wK cI cZ ad N A fl an nd wt B Hd O R HL LB SO NG WO SA SE)) [0, 1, 2, 3, 4, 5, 6, 7, 8, 9, 10, 11, 12, 13] (by decide) rfl) (hK.sub [0, 1] rfl) hX hZ hS (va_free (wc := (wK cI cZ ad N A fl an nd wt B Hd O R HL LB SO NG WO SA SE)) hD hS hAp [0, 1, 2, 3, 4, 5, 6, 7, 8, 9, 10, 11, 12, 13] rfl) rfl rfl) rfl rfl hl.1 rfl (lv_room (Nat.le_of_ble_eq_true rfl)) dL_cost_4 ⟨Nat.le_of_ble_eq_true rfl, Nat.le_of_ble_eq_true rfl⟩) hP hD hS hAp [0, 1, 2, 3, 4, 5, 6, 7, 8, 9, 10, 11, 12, 13] [14] rfl rfl (by decide) (by decide) (fun E_4 ce_4 q9_4 ux_4 H locs hxp_4 hP hD hS h7_4 h8_4 h9_4 => ?_) (fun r_4 u_4 H locs hq_4 hP hD hS => ?_)
  · skip
    have hP : va_P D vwCl (wKL cI cZ cJ ad ou N A fl an nd wt B Hd O R HL LB SO NG WO SA SE F) H := hP.sub [1, 2, 3, 4, 5, 6, 7, 8, 9, 10, 11, 12, 13, 14, 0] rfl
    have hD : va_D Ap (wKL cI cZ cJ ad ou N A fl an nd wt B Hd O R HL LB SO NG WO SA SE F) := hD.sub [1, 2, 3, 4, 5, 6, 7, 8, 9, 10, 11, 12, 13, 14, 0] (by decide) rfl
    obtain ⟨hE9, hc9⟩ := hxp_4
    subst hE9
    refine vx_catch (E := "java/lang/IllegalArgumentException") (name := "java/lang/IllegalArgumentException") hown [] ⟨0, 9, 12, 19⟩ [] (htb.trans rfl) (fun z hz => by cases hz) (by decide) (by decide) (hts (.classLink RL 19 "java/lang/IllegalArgumentException") (by decide +kernel)) (va_Nw.use rfl (hX.2 (.castable "java/lang/IllegalArgumentException" "java/lang/IllegalArgumentException") (by decide +kernel))) h7_4 h8_4 h9_4 ?_
    refine lv_astore_n (lv' := [(3, .ref (q9_4)), (0, .ref (ad 0)), (1, .int (x0)), (2, .ref (ou))]) hx hb dL_cost_12 rfl hl (by decide) rfl (fun ls hl => ?_)
    refine lv_iconst (v := 1) hx hb dL_cost_13 (by decide) ?_
    exact mr_i (u := (F)) hx hb hrt hlk dL_cost_14 hS hP hD ⟨(Or.inr (⟨rfl, hc9⟩)), trivial⟩
  · skip
    obtain ⟨rfl, hok_4, -⟩ := hq_4
    have hP : va_P D vwCl (wKL cI cZ cJ ad ou N A fl an nd wt B Hd O R HL LB SO NG WO SA SE F) H := hP.sub [1, 2, 3, 4, 5, 6, 7, 8, 9, 10, 11, 12, 13, 14, 0] rfl
    have hD : va_D Ap (wKL cI cZ cJ ad ou N A fl an nd wt B Hd O R HL LB SO NG WO SA SE F) := hD.sub [1, 2, 3, 4, 5, 6, 7, 8, 9, 10, 11, 12, 13, 14, 0] (by decide) rfl
    refine W.widen (k := 1) (n := 6) (by decide) (by decide) ?_
    refine lv_i2l hx hb dL_cost_7 rfl ?_
    refine sl_0 (D := D) (f := F) (x := (wo wt x0 A).toInt64) hx hb hK hP hD hS 14 2 rfl rfl dL_cost_8 (fun H locs hP hD hS => ?_)
    have hP : va_P D vwCl (wKL cI cZ cJ ad ou N A fl an nd wt B Hd O R HL LB SO NG WO SA SE (vp_updL F 0 ((wo wt x0 A).toInt64))) H := hP
    have hD : va_D Ap (wKL cI cZ cJ ad ou N A fl an nd wt B Hd O R HL LB SO NG WO SA SE (vp_updL F 0 ((wo wt x0 A).toInt64))) := hD
    refine lv_goto (tgt := 15) hx hb dL_cost_9 (by decide) ?_
    refine lv_iconst (v := 0) hx hb dL_cost_15 (by decide) ?_
    exact mr_i (u := (vp_updL F 0 ((wo wt x0 A).toInt64))) hx hb hrt hlk dL_cost_16 hS hP hD ⟨(Or.inl ⟨rfl, _, rfl, hok_4, rfl⟩), trivial⟩
set_option maxHeartbeats 4000000 in
set_option maxRecDepth 100000 in
theorem c_L_extend (l : Launch) (D : va_G) (cI cZ cJ cE : ClassId) (ad : Nat → Nat) (ou : Nat) (N : Nat) (A : Nat) (fl : Bool) (an : Nat → Int32) (nd : Nat → Int32) (wt : Nat → Int32) (B : Nat → Int32) (Hd : Nat → Int32) (O : Nat → Bool) (R : Nat) (HL : Nat → Int32) (LB : Nat → Int32) (SO : Nat → Bool) (NG : Nat → Bool) (WO : Nat → Bool) (SA : Nat) (SE : Nat) (F : Nat → Int64) (x0 : Int32) (hA : A ≤ 9) (hR : R ≤ 40) (hst : l.stackTraces = false) (sz : Nat) : Met l yL_extend wsL_extend ({ frames := 8, cells := 2, slots := 12, locals := 136 }) (pcL D [(cI, .int), (cZ, .boolean), (cJ, .long), (cE, .double)] sz (wKL cI cZ cJ ad ou N A fl an nd wt B Hd O R HL LB SO NG WO SA SE F) [.ref (ad 0), .int (x0), .ref (ou)]) (va_Qi (fun (r9 : Int32) (u9 : (Nat → Int64)) => ((r9 = 0 ∧ ∃ rr : Int32, rr = (xtS wt A (fun y => !(ct B Hd O R (clo B Hd O R (bg nd y A)))) x0 x0 A).1 ∧ (inS x0 A = true ∧ ct B Hd O R (clo B Hd O R (bg nd x0 A)) = false) ∧ u9 0 = rr.toInt64) ∨ (r9 = 1 ∧ (inS x0 A = false)) ∨ (r9 = 2 ∧ (inS x0 A = true ∧ ct B Hd O R (clo B Hd O R (bg nd x0 A)) = true))) ∧ (True)) (wB D (va_A (wKL cI cZ cJ ad ou N A fl an nd wt B Hd O R HL LB SO NG WO SA SE F) sz) (fun u9 : (Nat → Int64) => (wKL cI cZ cJ ad ou N A fl an nd wt B Hd O R HL LB SO NG WO SA SE u9))) (va_A (wKL cI cZ cJ ad ou N A fl an nd wt B Hd O R HL LB SO NG WO SA SE F) sz)) 2 12 (va_A (wKL cI cZ cJ ad ou N A fl an nd wt B Hd O R HL LB SO NG WO SA SE F) sz) := by
  refine va_MetW (cc := cL_extend) (maxL := 4) (ret := (some .int)) (hh := [(0, 9, 12, 19), (0, 9, 15, 13)]) (by decide) rfl ?_
  intro p e s m args below meth c s₁ BB hml hv
  obtain ⟨rfl, hsz, hP, hK, hD0, hX, hZ, hY⟩ := hv
  have hx := BB.exec
  have hb := BB.bytes
  have hrt := BB.returns
  have hts := atoms_spec (ws := wsL_extend) BB.pre
  have hown : s.vm.findClass RL = some m.cls := findClass_of_methodNamed BB.named
  have hlk := BB.notSynchronized
  subst hsz
  have hD := hD0.self (sz := s.heap.size)
  generalize hAe : va_A (wKL cI cZ cJ ad ou N A fl an nd wt B Hd O R HL LB SO NG WO SA SE F) s.heap.size = Ap at hD hZ ⊢
  have hAp : ∀ q : Nat, s.heap.size ≤ q → Ap q := fun q h => by rw [← hAe]; exact Or.inr h
  have hS : va_S Ap s.heap s.heap [] := va_S.rf
  have htb := vx_table (x := yL_extend) BB (hts (.codeWith yL_extend cL_extend 4 (some .int) [(0, 9, 12, 19), (0, 9, 15, 13)]) List.mem_cons_self)
  have hl := lv_entry ([.ref (ad 0), .int (x0), .ref (ou)]) (n := 4) (Nat.le_of_ble_eq_true rfl)
  rw [lg_entry_eq]
  generalize (lg_sl ([.ref (ad 0), .int (x0), .ref (ou)]) ++ List.replicate (4 - (lg_sl ([.ref (ad 0), .int (x0), .ref (ou)])).length) Slot.unset).toArray = ls at hl ⊢
  have hl : lv_has ls 4 [(0, .ref (ad 0)), (1, .int (x0)), (2, .ref (ou))] := hl
  refine lv_aload_n hx hb dL_extend_0 rfl (lv_at hl 2 rfl) ?_
  refine lv_iconst (v := 0) hx hb dL_extend_1 (by decide) ?_
  refine lv_aload_n hx hb dL_extend_2 rfl (lv_at hl 0 rfl) ?_
  refine lv_iload_n hx hb dL_extend_3 rfl (lv_at hl 1 rfl) ?_
  refine xu_i (wr := [(ou, .inl (cJ, 1, .inr (.inl F)))]) (vx_runV (As := [.int (x0)]) (rest := [.int (0), .ref (ou)]) ⟨hx, hb, hml, hown, hts⟩ (c_X2_extend l D cI cZ ad (N) (A) (fl) (an) (nd) (wt) (B) (Hd) (O) (R) (HL) (LB) (SO) (NG) (WO) (SA) (SE) (x0) (hA) (hR) hst (s.heap).size) (cwV 1 hts gL_extend_X2_extend rfl rfl rfl (by decide +kernel) ⟨Nat.le_of_ble_eq_true rfl, Nat.le_of_ble_eq_true rfl⟩) (prx_V (q0 := 0) (ci := 2) (hP.sub (ws' := (wK cI cZ ad N A fl an nd wt B Hd O R HL LB SO NG WO SA SE)) [0, 1, 2, 3, 4, 5, 6, 7, 8, 9, 10, 11, 12, 13] rfl) (hD.sub (ws' := (wK cI cZ ad N A fl an nd wt B Hd O R HL LB SO NG WO SA SE)) [0, 1, 2, 3, 4, 5, 6, 7, 8, 9, 10, 11, 12, 13] (by decide) rfl) (hK.sub [0, 1] rfl) hX hZ hS (va_free (wc := (wK cI cZ ad N A fl an nd wt B Hd O R HL LB SO NG WO SA SE)) hD hS hAp [0, 1, 2, 3, 4, 5, 6, 7, 8, 9, 10, 11, 12, 13] rfl) rfl rfl) rfl rfl hl.1 rfl (lv_room (Nat.le_of_ble_eq_true rfl)) dL_extend_4 ⟨Nat.le_of_ble_eq_true rfl, Nat.le_of_ble_eq_true rfl⟩) hP hD hS hAp [0, 1, 2, 3, 4, 5, 6, 7, 8, 9, 10, 11, 12, 13] [14] rfl rfl (by decide) (by decide) (fun E_4 ce_4 q9_4 ux_4 H locs hxp_4 hP hD hS h7_4 h8_4 h9_4 => ?_) (fun r_4 u_4 H locs hq_4 hP hD hS => ?_)
  · skip
    have hP : va_P D vwCl (wKL cI cZ cJ ad ou N A fl an nd wt B Hd O R HL LB SO NG WO SA SE F) H := hP.sub [1, 2, 3, 4, 5, 6, 7, 8, 9, 10, 11, 12, 13, 14, 0] rfl
    have hD : va_D Ap (wKL cI cZ cJ ad ou N A fl an nd wt B Hd O R HL LB SO NG WO SA SE F) := hD.sub [1, 2, 3, 4, 5, 6, 7, 8, 9, 10, 11, 12, 13, 14, 0] (by decide) rfl
    rcases hxp_4 with hxp_4 | hxp_4
    · skip
      obtain ⟨hE9, hc9⟩ := hxp_4
      subst hE9
      refine vx_catch (E := "java/lang/IllegalArgumentException") (name := "java/lang/IllegalArgumentException") hown [] ⟨0, 9, 12, 19⟩ [⟨0, 9, 15, 13⟩] (htb.trans rfl) (fun z hz => by cases hz) (by decide) (by decide) (hts (.classLink RL 19 "java/lang/IllegalArgumentException") (by decide +kernel)) (va_Nw.use rfl (hX.2 (.castable "java/lang/IllegalArgumentException" "java/lang/IllegalArgumentException") (by decide +kernel))) h7_4 h8_4 h9_4 ?_
      refine lv_astore_n (lv' := [(3, .ref (q9_4)), (0, .ref (ad 0)), (1, .int (x0)), (2, .ref (ou))]) hx hb dL_extend_12 rfl hl (by decide) rfl (fun ls hl => ?_)
      refine lv_iconst (v := 1) hx hb dL_extend_13 (by decide) ?_
      exact mr_i (u := (F)) hx hb hrt hlk dL_extend_14 hS hP hD ⟨(Or.inr (Or.inl ⟨rfl, hc9⟩)), trivial⟩
    · skip
      obtain ⟨hE9, hc9⟩ := hxp_4
      subst hE9
      refine vx_catch (E := "java/lang/IllegalStateException") (name := "java/lang/IllegalStateException") hown [⟨0, 9, 12, 19⟩] ⟨0, 9, 15, 13⟩ [] (htb.trans rfl) (fun z hz => by simp only [List.mem_cons, List.not_mem_nil, or_false] at hz; rcases hz with rfl <;> refine Or.inr ⟨by decide, ?_⟩ <;> first | exact ⟨_, hts (.classLink RL 19 "java/lang/IllegalArgumentException") (by decide +kernel), hY.1⟩) (by decide) (by decide) (hts (.classLink RL 13 "java/lang/IllegalStateException") (by decide +kernel)) (va_Nw.use rfl (hX.2 (.castable "java/lang/IllegalStateException" "java/lang/IllegalStateException") (by decide +kernel))) h7_4 h8_4 h9_4 ?_
      refine lv_astore_n (lv' := [(3, .ref (q9_4)), (0, .ref (ad 0)), (1, .int (x0)), (2, .ref (ou))]) hx hb dL_extend_15 rfl hl (by decide) rfl (fun ls hl => ?_)
      refine lv_iconst (v := 2) hx hb dL_extend_16 (by decide) ?_
      exact mr_i (u := (F)) hx hb hrt hlk dL_extend_17 hS hP hD ⟨(Or.inr (Or.inr (⟨rfl, hc9⟩))), trivial⟩
  · skip
    obtain ⟨rfl, hok_4, -⟩ := hq_4
    have hP : va_P D vwCl (wKL cI cZ cJ ad ou N A fl an nd wt B Hd O R HL LB SO NG WO SA SE F) H := hP.sub [1, 2, 3, 4, 5, 6, 7, 8, 9, 10, 11, 12, 13, 14, 0] rfl
    have hD : va_D Ap (wKL cI cZ cJ ad ou N A fl an nd wt B Hd O R HL LB SO NG WO SA SE F) := hD.sub [1, 2, 3, 4, 5, 6, 7, 8, 9, 10, 11, 12, 13, 14, 0] (by decide) rfl
    refine W.widen (k := 2) (n := 12) (by decide) (by decide) ?_
    refine lv_i2l hx hb dL_extend_7 rfl ?_
    refine sl_0 (D := D) (f := F) (x := ((xtS wt A (fun y => !(ct B Hd O R (clo B Hd O R (bg nd y A)))) x0 x0 A).1).toInt64) hx hb hK hP hD hS 14 2 rfl rfl dL_extend_8 (fun H locs hP hD hS => ?_)
    have hP : va_P D vwCl (wKL cI cZ cJ ad ou N A fl an nd wt B Hd O R HL LB SO NG WO SA SE (vp_updL F 0 (((xtS wt A (fun y => !(ct B Hd O R (clo B Hd O R (bg nd y A)))) x0 x0 A).1).toInt64))) H := hP
    have hD : va_D Ap (wKL cI cZ cJ ad ou N A fl an nd wt B Hd O R HL LB SO NG WO SA SE (vp_updL F 0 (((xtS wt A (fun y => !(ct B Hd O R (clo B Hd O R (bg nd y A)))) x0 x0 A).1).toInt64))) := hD
    refine lv_goto (tgt := 18) hx hb dL_extend_9 (by decide) ?_
    refine lv_iconst (v := 0) hx hb dL_extend_18 (by decide) ?_
    exact mr_i (u := (vp_updL F 0 (((xtS wt A (fun y => !(ct B Hd O R (clo B Hd O R (bg nd y A)))) x0 x0 A).1).toInt64))) hx hb hrt hlk dL_extend_19 hS hP hD ⟨(Or.inl ⟨rfl, _, rfl, hok_4, rfl⟩), trivial⟩
set_option maxHeartbeats 4000000 in
set_option maxRecDepth 100000 in
theorem c_L_labelSize (l : Launch) (D : va_G) (cI cZ cJ cE : ClassId) (ad : Nat → Nat) (ou : Nat) (N : Nat) (A : Nat) (fl : Bool) (an : Nat → Int32) (nd : Nat → Int32) (wt : Nat → Int32) (B : Nat → Int32) (Hd : Nat → Int32) (O : Nat → Bool) (R : Nat) (HL : Nat → Int32) (LB : Nat → Int32) (SO : Nat → Bool) (NG : Nat → Bool) (WO : Nat → Bool) (SA : Nat) (SE : Nat) (F : Nat → Int64) (x0 : Int32) (hA : A ≤ 9) (hR : R ≤ 40) (hn : N ≤ 24) (hH : okH N Hd R) (hN : okN N nd A) (hsv : fl = true → svOK B Hd O R nd A HL LB SO NG WO SA SE) (hst : l.stackTraces = false) (sz : Nat) : Met l yL_labelSize wsL_labelSize ({ frames := 8, cells := 1, slots := 6, locals := 159 }) (pcL D [(cI, .int), (cZ, .boolean), (cJ, .long), (cE, .double)] sz (wKL cI cZ cJ ad ou N A fl an nd wt B Hd O R HL LB SO NG WO SA SE F) [.ref (ad 0), .int (x0), .ref (ou)]) (va_Qi (fun (r9 : Int32) (u9 : (Bool) × (Nat → Int32) × (Nat → Int32) × (Nat → Bool) × (Nat → Bool) × (Nat → Bool) × (Nat) × (Nat) × (Nat → Int64)) => ((r9 = 0 ∧ ∃ rr : Int32, rr = nI (cnt (fun e => lbM (hdE B Hd O R nd A) (soE B Hd O R nd A) x0 e) (2 ^ A)) ∧ (inR x0 N = true) ∧ ((u9.1) = true → svOK B Hd O R nd A (u9.2.1) (u9.2.2.1) (u9.2.2.2.1) (u9.2.2.2.2.1) (u9.2.2.2.2.2.1) (u9.2.2.2.2.2.2.1) (u9.2.2.2.2.2.2.2.1)) ∧ (u9.2.2.2.2.2.2.2.2) 0 = rr.toInt64) ∨ (r9 = 1 ∧ (inR x0 N = false) ∧ ((u9.1) = true → svOK B Hd O R nd A (u9.2.1) (u9.2.2.1) (u9.2.2.2.1) (u9.2.2.2.2.1) (u9.2.2.2.2.2.1) (u9.2.2.2.2.2.2.1) (u9.2.2.2.2.2.2.2.1)))) ∧ (True)) (wB D (va_A (wKL cI cZ cJ ad ou N A fl an nd wt B Hd O R HL LB SO NG WO SA SE F) sz) (fun u9 : (Bool) × (Nat → Int32) × (Nat → Int32) × (Nat → Bool) × (Nat → Bool) × (Nat → Bool) × (Nat) × (Nat) × (Nat → Int64) => (wKL cI cZ cJ ad ou N A (u9.1) an nd wt B Hd O R (u9.2.1) (u9.2.2.1) (u9.2.2.2.1) (u9.2.2.2.2.1) (u9.2.2.2.2.2.1) (u9.2.2.2.2.2.2.1) (u9.2.2.2.2.2.2.2.1) (u9.2.2.2.2.2.2.2.2)))) (va_A (wKL cI cZ cJ ad ou N A fl an nd wt B Hd O R HL LB SO NG WO SA SE F) sz)) 1 6 (va_A (wKL cI cZ cJ ad ou N A fl an nd wt B Hd O R HL LB SO NG WO SA SE F) sz) := by
  refine va_MetW (cc := cL_labelSize) (maxL := 4) (ret := (some .int)) (hh := [(0, 9, 12, 25)]) (by decide) rfl ?_
  intro p e s m args below meth c s₁ BB hml hv
  obtain ⟨rfl, hsz, hP, hK, hD0, hX, hZ, hY⟩ := hv
  have hx := BB.exec
  have hb := BB.bytes
  have hrt := BB.returns
  have hts := atoms_spec (ws := wsL_labelSize) BB.pre
  have hown : s.vm.findClass RL = some m.cls := findClass_of_methodNamed BB.named
  have hlk := BB.notSynchronized
  subst hsz
  have hD := hD0.self (sz := s.heap.size)
  generalize hAe : va_A (wKL cI cZ cJ ad ou N A fl an nd wt B Hd O R HL LB SO NG WO SA SE F) s.heap.size = Ap at hD hZ ⊢
  have hAp : ∀ q : Nat, s.heap.size ≤ q → Ap q := fun q h => by rw [← hAe]; exact Or.inr h
  have hS : va_S Ap s.heap s.heap [] := va_S.rf
  have htb := vx_table (x := yL_labelSize) BB (hts (.codeWith yL_labelSize cL_labelSize 4 (some .int) [(0, 9, 12, 25)]) List.mem_cons_self)
  have hl := lv_entry ([.ref (ad 0), .int (x0), .ref (ou)]) (n := 4) (Nat.le_of_ble_eq_true rfl)
  rw [lg_entry_eq]
  generalize (lg_sl ([.ref (ad 0), .int (x0), .ref (ou)]) ++ List.replicate (4 - (lg_sl ([.ref (ad 0), .int (x0), .ref (ou)])).length) Slot.unset).toArray = ls at hl ⊢
  have hl : lv_has ls 4 [(0, .ref (ad 0)), (1, .int (x0)), (2, .ref (ou))] := hl
  refine lv_aload_n hx hb dL_labelSize_0 rfl (lv_at hl 2 rfl) ?_
  refine lv_iconst (v := 0) hx hb dL_labelSize_1 (by decide) ?_
  refine lv_aload_n hx hb dL_labelSize_2 rfl (lv_at hl 0 rfl) ?_
  refine lv_iload_n hx hb dL_labelSize_3 rfl (lv_at hl 1 rfl) ?_
  refine xu_i (wr := [(ou, .inl (cJ, 1, .inr (.inl F)))]) (vx_runV (As := [.int (x0)]) (rest := [.int (0), .ref (ou)]) ⟨hx, hb, hml, hown, hts⟩ (c_X2_labelSize l D cI cZ ad (N) (A) (fl) (an) (nd) (wt) (B) (Hd) (O) (R) (HL) (LB) (SO) (NG) (WO) (SA) (SE) (x0) (hA) (hR) (hn) (hH) (hN) (hsv) hst (s.heap).size) (cwV 1 hts gL_labelSize_X2_labelSize rfl rfl rfl (by decide +kernel) ⟨Nat.le_of_ble_eq_true rfl, Nat.le_of_ble_eq_true rfl⟩) (prx_V (q0 := 0) (ci := 2) (hP.sub (ws' := (wK cI cZ ad N A fl an nd wt B Hd O R HL LB SO NG WO SA SE)) [0, 1, 2, 3, 4, 5, 6, 7, 8, 9, 10, 11, 12, 13] rfl) (hD.sub (ws' := (wK cI cZ ad N A fl an nd wt B Hd O R HL LB SO NG WO SA SE)) [0, 1, 2, 3, 4, 5, 6, 7, 8, 9, 10, 11, 12, 13] (by decide) rfl) (hK.sub [0, 1] rfl) hX hZ hS (va_free (wc := (wK cI cZ ad N A fl an nd wt B Hd O R HL LB SO NG WO SA SE)) hD hS hAp [0, 1, 2, 3, 4, 5, 6, 7, 8, 9, 10, 11, 12, 13] rfl) rfl rfl) rfl rfl hl.1 rfl (lv_room (Nat.le_of_ble_eq_true rfl)) dL_labelSize_4 ⟨Nat.le_of_ble_eq_true rfl, Nat.le_of_ble_eq_true rfl⟩) hP hD hS hAp [0, 1, 2, 3, 4, 5, 6, 7, 8, 9, 10, 11, 12, 13] [14] rfl rfl (by decide) (by decide) (fun E_4 ce_4 q9_4 ux_4 H locs hxp_4 hP hD hS h7_4 h8_4 h9_4 => ?_) (fun r_4 u_4 H locs hq_4 hP hD hS => ?_)
  · skip
    obtain ⟨fl9_4, HL9_4, LB9_4, SO9_4, NG9_4, WO9_4, SA9_4, SE9_4⟩ := ux_4
    have hP : va_P D vwCl (wKL cI cZ cJ ad ou N A fl9_4 an nd wt B Hd O R HL9_4 LB9_4 SO9_4 NG9_4 WO9_4 SA9_4 SE9_4 F) H := hP.sub [1, 2, 3, 4, 5, 6, 7, 8, 9, 10, 11, 12, 13, 14, 0] rfl
    have hD : va_D Ap (wKL cI cZ cJ ad ou N A fl9_4 an nd wt B Hd O R HL9_4 LB9_4 SO9_4 NG9_4 WO9_4 SA9_4 SE9_4 F) := hD.sub [1, 2, 3, 4, 5, 6, 7, 8, 9, 10, 11, 12, 13, 14, 0] (by decide) rfl
    obtain ⟨hxp_4, hxsvp⟩ := hxp_4
    obtain ⟨hE9, hc9⟩ := hxp_4
    subst hE9
    refine vx_catch (E := "java/lang/IndexOutOfBoundsException") (name := "java/lang/IndexOutOfBoundsException") hown [] ⟨0, 9, 12, 25⟩ [] (htb.trans rfl) (fun z hz => by cases hz) (by decide) (by decide) (hts (.classLink RL 25 "java/lang/IndexOutOfBoundsException") (by decide +kernel)) (va_Nw.use rfl (hX.2 (.castable "java/lang/IndexOutOfBoundsException" "java/lang/IndexOutOfBoundsException") (by decide +kernel))) h7_4 h8_4 h9_4 ?_
    refine lv_astore_n (lv' := [(3, .ref (q9_4)), (0, .ref (ad 0)), (1, .int (x0)), (2, .ref (ou))]) hx hb dL_labelSize_12 rfl hl (by decide) rfl (fun ls hl => ?_)
    refine lv_iconst (v := 1) hx hb dL_labelSize_13 (by decide) ?_
    exact mr_i (u := (fl9_4, HL9_4, LB9_4, SO9_4, NG9_4, WO9_4, SA9_4, SE9_4, F)) hx hb hrt hlk dL_labelSize_14 hS hP hD ⟨(Or.inr (⟨rfl, hc9, hxsvp⟩)), trivial⟩
  · skip
    obtain ⟨fl9_4, HL9_4, LB9_4, SO9_4, NG9_4, WO9_4, SA9_4, SE9_4⟩ := u_4
    obtain ⟨rfl, hok_4, hsvp_4, -⟩ := hq_4
    have hok_4 : inR x0 N = true := hok_4
    have hsvp_4 : fl9_4 = true → svOK B Hd O R nd A HL9_4 LB9_4 SO9_4 NG9_4 WO9_4 SA9_4 SE9_4 := hsvp_4
    have hP : va_P D vwCl (wKL cI cZ cJ ad ou N A fl9_4 an nd wt B Hd O R HL9_4 LB9_4 SO9_4 NG9_4 WO9_4 SA9_4 SE9_4 F) H := hP.sub [1, 2, 3, 4, 5, 6, 7, 8, 9, 10, 11, 12, 13, 14, 0] rfl
    have hD : va_D Ap (wKL cI cZ cJ ad ou N A fl9_4 an nd wt B Hd O R HL9_4 LB9_4 SO9_4 NG9_4 WO9_4 SA9_4 SE9_4 F) := hD.sub [1, 2, 3, 4, 5, 6, 7, 8, 9, 10, 11, 12, 13, 14, 0] (by decide) rfl
    refine W.widen (k := 1) (n := 6) (by decide) (by decide) ?_
    refine lv_i2l hx hb dL_labelSize_7 rfl ?_
    refine sl_0 (D := D) (f := F) (x := (nI (cnt (fun e => lbM (hdE B Hd O R nd A) (soE B Hd O R nd A) x0 e) (2 ^ A))).toInt64) hx hb hK hP hD hS 14 2 rfl rfl dL_labelSize_8 (fun H locs hP hD hS => ?_)
    have hP : va_P D vwCl (wKL cI cZ cJ ad ou N A fl9_4 an nd wt B Hd O R HL9_4 LB9_4 SO9_4 NG9_4 WO9_4 SA9_4 SE9_4 (vp_updL F 0 ((nI (cnt (fun e => lbM (hdE B Hd O R nd A) (soE B Hd O R nd A) x0 e) (2 ^ A))).toInt64))) H := hP
    have hD : va_D Ap (wKL cI cZ cJ ad ou N A fl9_4 an nd wt B Hd O R HL9_4 LB9_4 SO9_4 NG9_4 WO9_4 SA9_4 SE9_4 (vp_updL F 0 ((nI (cnt (fun e => lbM (hdE B Hd O R nd A) (soE B Hd O R nd A) x0 e) (2 ^ A))).toInt64))) := hD
    refine lv_goto (tgt := 15) hx hb dL_labelSize_9 (by decide) ?_
    refine lv_iconst (v := 0) hx hb dL_labelSize_15 (by decide) ?_
    exact mr_i (u := (fl9_4, HL9_4, LB9_4, SO9_4, NG9_4, WO9_4, SA9_4, SE9_4, vp_updL F 0 ((nI (cnt (fun e => lbM (hdE B Hd O R nd A) (soE B Hd O R nd A) x0 e) (2 ^ A))).toInt64))) hx hb hrt hlk dL_labelSize_16 hS hP hD ⟨(Or.inl ⟨rfl, _, rfl, hok_4, hsvp_4, rfl⟩), trivial⟩
set_option maxHeartbeats 4000000 in
set_option maxRecDepth 100000 in
theorem c_L_label (l : Launch) (D : va_G) (cI cZ cJ cE : ClassId) (ad : Nat → Nat) (ou : Nat) (N : Nat) (A : Nat) (fl : Bool) (an : Nat → Int32) (nd : Nat → Int32) (wt : Nat → Int32) (B : Nat → Int32) (Hd : Nat → Int32) (O : Nat → Bool) (R : Nat) (HL : Nat → Int32) (LB : Nat → Int32) (SO : Nat → Bool) (NG : Nat → Bool) (WO : Nat → Bool) (SA : Nat) (SE : Nat) (F : Nat → Int64) (x0 : Int32) (y0 : Int32) (hA : A ≤ 9) (hR : R ≤ 40) (hn : N ≤ 24) (hH : okH N Hd R) (hN : okN N nd A) (hsv : fl = true → svOK B Hd O R nd A HL LB SO NG WO SA SE) (hst : l.stackTraces = false) (sz : Nat) : Met l yL_label wsL_label ({ frames := 8, cells := 2, slots := 12, locals := 160 }) (pcL D [(cI, .int), (cZ, .boolean), (cJ, .long), (cE, .double)] sz (wKL cI cZ cJ ad ou N A fl an nd wt B Hd O R HL LB SO NG WO SA SE F) [.ref (ad 0), .int (x0), .int (y0), .ref (ou)]) (va_Qi (fun (r9 : Int32) (u9 : (Bool) × (Nat → Int32) × (Nat → Int32) × (Nat → Bool) × (Nat → Bool) × (Nat → Bool) × (Nat) × (Nat) × (Nat → Int64)) => ((r9 = 0 ∧ ∃ rr : Int32, rr = nth (fun e => lbM (hdE B Hd O R nd A) (soE B Hd O R nd A) x0 e) (2 ^ A) y0 ∧ (inR x0 N = true ∧ ¬ nth (fun e => lbM (hdE B Hd O R nd A) (soE B Hd O R nd A) x0 e) (2 ^ A) y0 = -1) ∧ ((u9.1) = true → svOK B Hd O R nd A (u9.2.1) (u9.2.2.1) (u9.2.2.2.1) (u9.2.2.2.2.1) (u9.2.2.2.2.2.1) (u9.2.2.2.2.2.2.1) (u9.2.2.2.2.2.2.2.1)) ∧ (u9.2.2.2.2.2.2.2.2) 0 = rr.toInt64) ∨ (r9 = 1 ∧ (inR x0 N = false ∨ (inR x0 N = true ∧ nth (fun e => lbM (hdE B Hd O R nd A) (soE B Hd O R nd A) x0 e) (2 ^ A) y0 = -1)) ∧ ((u9.1) = true → svOK B Hd O R nd A (u9.2.1) (u9.2.2.1) (u9.2.2.2.1) (u9.2.2.2.2.1) (u9.2.2.2.2.2.1) (u9.2.2.2.2.2.2.1) (u9.2.2.2.2.2.2.2.1)))) ∧ (True)) (wB D (va_A (wKL cI cZ cJ ad ou N A fl an nd wt B Hd O R HL LB SO NG WO SA SE F) sz) (fun u9 : (Bool) × (Nat → Int32) × (Nat → Int32) × (Nat → Bool) × (Nat → Bool) × (Nat → Bool) × (Nat) × (Nat) × (Nat → Int64) => (wKL cI cZ cJ ad ou N A (u9.1) an nd wt B Hd O R (u9.2.1) (u9.2.2.1) (u9.2.2.2.1) (u9.2.2.2.2.1) (u9.2.2.2.2.2.1) (u9.2.2.2.2.2.2.1) (u9.2.2.2.2.2.2.2.1) (u9.2.2.2.2.2.2.2.2)))) (va_A (wKL cI cZ cJ ad ou N A fl an nd wt B Hd O R HL LB SO NG WO SA SE F) sz)) 2 12 (va_A (wKL cI cZ cJ ad ou N A fl an nd wt B Hd O R HL LB SO NG WO SA SE F) sz) := by
  refine va_MetW (cc := cL_label) (maxL := 5) (ret := (some .int)) (hh := [(0, 10, 13, 25)]) (by decide) rfl ?_
  intro p e s m args below meth c s₁ BB hml hv
  obtain ⟨rfl, hsz, hP, hK, hD0, hX, hZ, hY⟩ := hv
  have hx := BB.exec
  have hb := BB.bytes
  have hrt := BB.returns
  have hts := atoms_spec (ws := wsL_label) BB.pre
  have hown : s.vm.findClass RL = some m.cls := findClass_of_methodNamed BB.named
  have hlk := BB.notSynchronized
  subst hsz
  have hD := hD0.self (sz := s.heap.size)
  generalize hAe : va_A (wKL cI cZ cJ ad ou N A fl an nd wt B Hd O R HL LB SO NG WO SA SE F) s.heap.size = Ap at hD hZ ⊢
  have hAp : ∀ q : Nat, s.heap.size ≤ q → Ap q := fun q h => by rw [← hAe]; exact Or.inr h
  have hS : va_S Ap s.heap s.heap [] := va_S.rf
  have htb := vx_table (x := yL_label) BB (hts (.codeWith yL_label cL_label 5 (some .int) [(0, 10, 13, 25)]) List.mem_cons_self)
  have hl := lv_entry ([.ref (ad 0), .int (x0), .int (y0), .ref (ou)]) (n := 5) (Nat.le_of_ble_eq_true rfl)
  rw [lg_entry_eq]
  generalize (lg_sl ([.ref (ad 0), .int (x0), .int (y0), .ref (ou)]) ++ List.replicate (5 - (lg_sl ([.ref (ad 0), .int (x0), .int (y0), .ref (ou)])).length) Slot.unset).toArray = ls at hl ⊢
  have hl : lv_has ls 5 [(0, .ref (ad 0)), (1, .int (x0)), (2, .int (y0)), (3, .ref (ou))] := hl
  refine lv_aload_n hx hb dL_label_0 rfl (lv_at hl 3 rfl) ?_
  refine lv_iconst (v := 0) hx hb dL_label_1 (by decide) ?_
  refine lv_aload_n hx hb dL_label_2 rfl (lv_at hl 0 rfl) ?_
  refine lv_iload_n hx hb dL_label_3 rfl (lv_at hl 1 rfl) ?_
  refine lv_iload_n hx hb dL_label_4 rfl (lv_at hl 2 rfl) ?_
  refine xu_i (wr := [(ou, .inl (cJ, 1, .inr (.inl F)))]) (vx_runV (As := [.int (x0), .int (y0)]) (rest := [.int (0), .ref (ou)]) ⟨hx, hb, hml, hown, hts⟩ (c_X2_label l D cI cZ ad (N) (A) (fl) (an) (nd) (wt) (B) (Hd) (O) (R) (HL) (LB) (SO) (NG) (WO) (SA) (SE) (x0) (y0) (hA) (hR) (hn) (hH) (hN) (hsv) hst (s.heap).size) (cwV 2 hts gL_label_X2_label rfl rfl rfl (by decide +kernel) ⟨Nat.le_of_ble_eq_true rfl, Nat.le_of_ble_eq_true rfl⟩) (prx_V (q0 := 0) (ci := 2) (hP.sub (ws' := (wK cI cZ ad N A fl an nd wt B Hd O R HL LB SO NG WO SA SE)) [0, 1, 2, 3, 4, 5, 6, 7, 8, 9, 10, 11, 12, 13] rfl) (hD.sub (ws' := (wK cI cZ ad N A fl an nd wt B Hd O R HL LB SO NG WO SA SE)) [0, 1, 2, 3, 4, 5, 6, 7, 8, 9, 10, 11, 12, 13] (by decide) rfl) (hK.sub [0, 1] rfl) hX hZ hS (va_free (wc := (wK cI cZ ad N A fl an nd wt B Hd O R HL LB SO NG WO SA SE)) hD hS hAp [0, 1, 2, 3, 4, 5, 6, 7, 8, 9, 10, 11, 12, 13] rfl) rfl rfl) rfl rfl hl.1 rfl (lv_room (Nat.le_of_ble_eq_true rfl)) dL_label_5 ⟨Nat.le_of_ble_eq_true rfl, Nat.le_of_ble_eq_true rfl⟩) hP hD hS hAp [0, 1, 2, 3, 4, 5, 6, 7, 8, 9, 10, 11, 12, 13] [14] rfl rfl (by decide) (by decide) (fun E_5 ce_5 q9_5 ux_5 H locs hxp_5 hP hD hS h7_5 h8_5 h9_5 => ?_) (fun r_5 u_5 H locs hq_5 hP hD hS => ?_)
  · skip
    obtain ⟨fl9_5, HL9_5, LB9_5, SO9_5, NG9_5, WO9_5, SA9_5, SE9_5⟩ := ux_5
    have hP : va_P D vwCl (wKL cI cZ cJ ad ou N A fl9_5 an nd wt B Hd O R HL9_5 LB9_5 SO9_5 NG9_5 WO9_5 SA9_5 SE9_5 F) H := hP.sub [1, 2, 3, 4, 5, 6, 7, 8, 9, 10, 11, 12, 13, 14, 0] rfl
    have hD : va_D Ap (wKL cI cZ cJ ad ou N A fl9_5 an nd wt B Hd O R HL9_5 LB9_5 SO9_5 NG9_5 WO9_5 SA9_5 SE9_5 F) := hD.sub [1, 2, 3, 4, 5, 6, 7, 8, 9, 10, 11, 12, 13, 14, 0] (by decide) rfl
    obtain ⟨hxp_5, hxsvp⟩ := hxp_5
    obtain ⟨hE9, hc9⟩ := hxp_5
    subst hE9
    refine vx_catch (E := "java/lang/IndexOutOfBoundsException") (name := "java/lang/IndexOutOfBoundsException") hown [] ⟨0, 10, 13, 25⟩ [] (htb.trans rfl) (fun z hz => by cases hz) (by decide) (by decide) (hts (.classLink RL 25 "java/lang/IndexOutOfBoundsException") (by decide +kernel)) (va_Nw.use rfl (hX.2 (.castable "java/lang/IndexOutOfBoundsException" "java/lang/IndexOutOfBoundsException") (by decide +kernel))) h7_5 h8_5 h9_5 ?_
    refine lv_astore (lv' := [(4, .ref (q9_5)), (0, .ref (ad 0)), (1, .int (x0)), (2, .int (y0)), (3, .ref (ou))]) hx hb dL_label_13 hl (by decide) rfl (fun ls hl => ?_)
    refine lv_iconst (v := 1) hx hb dL_label_15 (by decide) ?_
    exact mr_i (u := (fl9_5, HL9_5, LB9_5, SO9_5, NG9_5, WO9_5, SA9_5, SE9_5, F)) hx hb hrt hlk dL_label_16 hS hP hD ⟨(Or.inr (⟨rfl, hc9, hxsvp⟩)), trivial⟩
  · skip
    obtain ⟨fl9_5, HL9_5, LB9_5, SO9_5, NG9_5, WO9_5, SA9_5, SE9_5⟩ := u_5
    obtain ⟨rfl, hok_5, hsvp_5, -⟩ := hq_5
    have hok_5 : inR x0 N = true ∧ ¬ nth (fun e => lbM (hdE B Hd O R nd A) (soE B Hd O R nd A) x0 e) (2 ^ A) y0 = -1 := hok_5
    have hsvp_5 : fl9_5 = true → svOK B Hd O R nd A HL9_5 LB9_5 SO9_5 NG9_5 WO9_5 SA9_5 SE9_5 := hsvp_5
    have hP : va_P D vwCl (wKL cI cZ cJ ad ou N A fl9_5 an nd wt B Hd O R HL9_5 LB9_5 SO9_5 NG9_5 WO9_5 SA9_5 SE9_5 F) H := hP.sub [1, 2, 3, 4, 5, 6, 7, 8, 9, 10, 11, 12, 13, 14, 0] rfl
    have hD : va_D Ap (wKL cI cZ cJ ad ou N A fl9_5 an nd wt B Hd O R HL9_5 LB9_5 SO9_5 NG9_5 WO9_5 SA9_5 SE9_5 F) := hD.sub [1, 2, 3, 4, 5, 6, 7, 8, 9, 10, 11, 12, 13, 14, 0] (by decide) rfl
    refine W.widen (k := 2) (n := 12) (by decide) (by decide) ?_
    refine lv_i2l hx hb dL_label_8 rfl ?_
    refine sl_0 (D := D) (f := F) (x := (nth (fun e => lbM (hdE B Hd O R nd A) (soE B Hd O R nd A) x0 e) (2 ^ A) y0).toInt64) hx hb hK hP hD hS 14 2 rfl rfl dL_label_9 (fun H locs hP hD hS => ?_)
    have hP : va_P D vwCl (wKL cI cZ cJ ad ou N A fl9_5 an nd wt B Hd O R HL9_5 LB9_5 SO9_5 NG9_5 WO9_5 SA9_5 SE9_5 (vp_updL F 0 ((nth (fun e => lbM (hdE B Hd O R nd A) (soE B Hd O R nd A) x0 e) (2 ^ A) y0).toInt64))) H := hP
    have hD : va_D Ap (wKL cI cZ cJ ad ou N A fl9_5 an nd wt B Hd O R HL9_5 LB9_5 SO9_5 NG9_5 WO9_5 SA9_5 SE9_5 (vp_updL F 0 ((nth (fun e => lbM (hdE B Hd O R nd A) (soE B Hd O R nd A) x0 e) (2 ^ A) y0).toInt64))) := hD
    refine lv_goto (tgt := 17) hx hb dL_label_10 (by decide) ?_
    refine lv_iconst (v := 0) hx hb dL_label_17 (by decide) ?_
    exact mr_i (u := (fl9_5, HL9_5, LB9_5, SO9_5, NG9_5, WO9_5, SA9_5, SE9_5, vp_updL F 0 ((nth (fun e => lbM (hdE B Hd O R nd A) (soE B Hd O R nd A) x0 e) (2 ^ A) y0).toInt64))) hx hb hrt hlk dL_label_18 hS hP hD ⟨(Or.inl ⟨rfl, _, rfl, hok_5, hsvp_5, rfl⟩), trivial⟩
set_option maxHeartbeats 4000000 in
set_option maxRecDepth 100000 in
theorem c_L_cheapest (l : Launch) (D : va_G) (cI cZ cJ cE : ClassId) (ad : Nat → Nat) (ou : Nat) (N : Nat) (A : Nat) (fl : Bool) (an : Nat → Int32) (nd : Nat → Int32) (wt : Nat → Int32) (B : Nat → Int32) (Hd : Nat → Int32) (O : Nat → Bool) (R : Nat) (HL : Nat → Int32) (LB : Nat → Int32) (SO : Nat → Bool) (NG : Nat → Bool) (WO : Nat → Bool) (SA : Nat) (SE : Nat) (F : Nat → Int64) (x0 : Int32) (hA : A ≤ 9) (hR : R ≤ 40) (hn : N ≤ 24) (hH : okH N Hd R) (hN : okN N nd A) (hsv : fl = true → svOK B Hd O R nd A HL LB SO NG WO SA SE) (hst : l.stackTraces = false) (sz : Nat) : Met l yL_cheapest wsL_cheapest ({ frames := 8, cells := 1, slots := 6, locals := 164 }) (pcL D [(cI, .int), (cZ, .boolean), (cJ, .long), (cE, .double)] sz (wKL cI cZ cJ ad ou N A fl an nd wt B Hd O R HL LB SO NG WO SA SE F) [.ref (ad 0), .int (x0), .ref (ou)]) (va_Qi (fun (r9 : Int32) (u9 : (Bool) × (Nat → Int32) × (Nat → Int32) × (Nat → Bool) × (Nat → Bool) × (Nat → Bool) × (Nat) × (Nat) × (Nat → Int64)) => ((r9 = 0 ∧ ∃ rr : Int32, rr = (chE (fun e => lbM (hdE B Hd O R nd A) (soE B Hd O R nd A) x0 e) wt A (2 ^ A)).1 ∧ (inR x0 N = true) ∧ ((u9.1) = true → svOK B Hd O R nd A (u9.2.1) (u9.2.2.1) (u9.2.2.2.1) (u9.2.2.2.2.1) (u9.2.2.2.2.2.1) (u9.2.2.2.2.2.2.1) (u9.2.2.2.2.2.2.2.1)) ∧ (u9.2.2.2.2.2.2.2.2) 0 = rr.toInt64) ∨ (r9 = 1 ∧ (inR x0 N = false) ∧ ((u9.1) = true → svOK B Hd O R nd A (u9.2.1) (u9.2.2.1) (u9.2.2.2.1) (u9.2.2.2.2.1) (u9.2.2.2.2.2.1) (u9.2.2.2.2.2.2.1) (u9.2.2.2.2.2.2.2.1)))) ∧ (True)) (wB D (va_A (wKL cI cZ cJ ad ou N A fl an nd wt B Hd O R HL LB SO NG WO SA SE F) sz) (fun u9 : (Bool) × (Nat → Int32) × (Nat → Int32) × (Nat → Bool) × (Nat → Bool) × (Nat → Bool) × (Nat) × (Nat) × (Nat → Int64) => (wKL cI cZ cJ ad ou N A (u9.1) an nd wt B Hd O R (u9.2.1) (u9.2.2.1) (u9.2.2.2.1) (u9.2.2.2.2.1) (u9.2.2.2.2.2.1) (u9.2.2.2.2.2.2.1) (u9.2.2.2.2.2.2.2.1) (u9.2.2.2.2.2.2.2.2)))) (va_A (wKL cI cZ cJ ad ou N A fl an nd wt B Hd O R HL LB SO NG WO SA SE F) sz)) 1 6 (va_A (wKL cI cZ cJ ad ou N A fl an nd wt B Hd O R HL LB SO NG WO SA SE F) sz) := by
  refine va_MetW (cc := cL_cheapest) (maxL := 4) (ret := (some .int)) (hh := [(0, 9, 12, 25)]) (by decide) rfl ?_
  intro p e s m args below meth c s₁ BB hml hv
  obtain ⟨rfl, hsz, hP, hK, hD0, hX, hZ, hY⟩ := hv
  have hx := BB.exec
  have hb := BB.bytes
  have hrt := BB.returns
  have hts := atoms_spec (ws := wsL_cheapest) BB.pre
  have hown : s.vm.findClass RL = some m.cls := findClass_of_methodNamed BB.named
  have hlk := BB.notSynchronized
  subst hsz
  have hD := hD0.self (sz := s.heap.size)
  generalize hAe : va_A (wKL cI cZ cJ ad ou N A fl an nd wt B Hd O R HL LB SO NG WO SA SE F) s.heap.size = Ap at hD hZ ⊢
  have hAp : ∀ q : Nat, s.heap.size ≤ q → Ap q := fun q h => by rw [← hAe]; exact Or.inr h
  have hS : va_S Ap s.heap s.heap [] := va_S.rf
  have htb := vx_table (x := yL_cheapest) BB (hts (.codeWith yL_cheapest cL_cheapest 4 (some .int) [(0, 9, 12, 25)]) List.mem_cons_self)
  have hl := lv_entry ([.ref (ad 0), .int (x0), .ref (ou)]) (n := 4) (Nat.le_of_ble_eq_true rfl)
  rw [lg_entry_eq]
  generalize (lg_sl ([.ref (ad 0), .int (x0), .ref (ou)]) ++ List.replicate (4 - (lg_sl ([.ref (ad 0), .int (x0), .ref (ou)])).length) Slot.unset).toArray = ls at hl ⊢
  have hl : lv_has ls 4 [(0, .ref (ad 0)), (1, .int (x0)), (2, .ref (ou))] := hl
  refine lv_aload_n hx hb dL_cheapest_0 rfl (lv_at hl 2 rfl) ?_
  refine lv_iconst (v := 0) hx hb dL_cheapest_1 (by decide) ?_
  refine lv_aload_n hx hb dL_cheapest_2 rfl (lv_at hl 0 rfl) ?_
  refine lv_iload_n hx hb dL_cheapest_3 rfl (lv_at hl 1 rfl) ?_
  refine xu_i (wr := [(ou, .inl (cJ, 1, .inr (.inl F)))]) (vx_runV (As := [.int (x0)]) (rest := [.int (0), .ref (ou)]) ⟨hx, hb, hml, hown, hts⟩ (c_X2_cheapest l D cI cZ ad (N) (A) (fl) (an) (nd) (wt) (B) (Hd) (O) (R) (HL) (LB) (SO) (NG) (WO) (SA) (SE) (x0) (hA) (hR) (hn) (hH) (hN) (hsv) hst (s.heap).size) (cwV 1 hts gL_cheapest_X2_cheapest rfl rfl rfl (by decide +kernel) ⟨Nat.le_of_ble_eq_true rfl, Nat.le_of_ble_eq_true rfl⟩) (prx_V (q0 := 0) (ci := 2) (hP.sub (ws' := (wK cI cZ ad N A fl an nd wt B Hd O R HL LB SO NG WO SA SE)) [0, 1, 2, 3, 4, 5, 6, 7, 8, 9, 10, 11, 12, 13] rfl) (hD.sub (ws' := (wK cI cZ ad N A fl an nd wt B Hd O R HL LB SO NG WO SA SE)) [0, 1, 2, 3, 4, 5, 6, 7, 8, 9, 10, 11, 12, 13] (by decide) rfl) (hK.sub [0, 1] rfl) hX hZ hS (va_free (wc := (wK cI cZ ad N A fl an nd wt B Hd O R HL LB SO NG WO SA SE)) hD hS hAp [0, 1, 2, 3, 4, 5, 6, 7, 8, 9, 10, 11, 12, 13] rfl) rfl rfl) rfl rfl hl.1 rfl (lv_room (Nat.le_of_ble_eq_true rfl)) dL_cheapest_4 ⟨Nat.le_of_ble_eq_true rfl, Nat.le_of_ble_eq_true rfl⟩) hP hD hS hAp [0, 1, 2, 3, 4, 5, 6, 7, 8, 9, 10, 11, 12, 13] [14] rfl rfl (by decide) (by decide) (fun E_4 ce_4 q9_4 ux_4 H locs hxp_4 hP hD hS h7_4 h8_4 h9_4 => ?_) (fun r_4 u_4 H locs hq_4 hP hD hS => ?_)
  · skip
    obtain ⟨fl9_4, HL9_4, LB9_4, SO9_4, NG9_4, WO9_4, SA9_4, SE9_4⟩ := ux_4
    have hP : va_P D vwCl (wKL cI cZ cJ ad ou N A fl9_4 an nd wt B Hd O R HL9_4 LB9_4 SO9_4 NG9_4 WO9_4 SA9_4 SE9_4 F) H := hP.sub [1, 2, 3, 4, 5, 6, 7, 8, 9, 10, 11, 12, 13, 14, 0] rfl
    have hD : va_D Ap (wKL cI cZ cJ ad ou N A fl9_4 an nd wt B Hd O R HL9_4 LB9_4 SO9_4 NG9_4 WO9_4 SA9_4 SE9_4 F) := hD.sub [1, 2, 3, 4, 5, 6, 7, 8, 9, 10, 11, 12, 13, 14, 0] (by decide) rfl
    obtain ⟨hxp_4, hxsvp⟩ := hxp_4
    obtain ⟨hE9, hc9⟩ := hxp_4
    subst hE9
    refine vx_catch (E := "java/lang/IndexOutOfBoundsException") (name := "java/lang/IndexOutOfBoundsException") hown [] ⟨0, 9, 12, 25⟩ [] (htb.trans rfl) (fun z hz => by cases hz) (by decide) (by decide) (hts (.classLink RL 25 "java/lang/IndexOutOfBoundsException") (by decide +kernel)) (va_Nw.use rfl (hX.2 (.castable "java/lang/IndexOutOfBoundsException" "java/lang/IndexOutOfBoundsException") (by decide +kernel))) h7_4 h8_4 h9_4 ?_
    refine lv_astore_n (lv' := [(3, .ref (q9_4)), (0, .ref (ad 0)), (1, .int (x0)), (2, .ref (ou))]) hx hb dL_cheapest_12 rfl hl (by decide) rfl (fun ls hl => ?_)
    refine lv_iconst (v := 1) hx hb dL_cheapest_13 (by decide) ?_
    exact mr_i (u := (fl9_4, HL9_4, LB9_4, SO9_4, NG9_4, WO9_4, SA9_4, SE9_4, F)) hx hb hrt hlk dL_cheapest_14 hS hP hD ⟨(Or.inr (⟨rfl, hc9, hxsvp⟩)), trivial⟩
  · skip
    obtain ⟨fl9_4, HL9_4, LB9_4, SO9_4, NG9_4, WO9_4, SA9_4, SE9_4⟩ := u_4
    obtain ⟨rfl, hok_4, hsvp_4, -⟩ := hq_4
    have hok_4 : inR x0 N = true := hok_4
    have hsvp_4 : fl9_4 = true → svOK B Hd O R nd A HL9_4 LB9_4 SO9_4 NG9_4 WO9_4 SA9_4 SE9_4 := hsvp_4
    have hP : va_P D vwCl (wKL cI cZ cJ ad ou N A fl9_4 an nd wt B Hd O R HL9_4 LB9_4 SO9_4 NG9_4 WO9_4 SA9_4 SE9_4 F) H := hP.sub [1, 2, 3, 4, 5, 6, 7, 8, 9, 10, 11, 12, 13, 14, 0] rfl
    have hD : va_D Ap (wKL cI cZ cJ ad ou N A fl9_4 an nd wt B Hd O R HL9_4 LB9_4 SO9_4 NG9_4 WO9_4 SA9_4 SE9_4 F) := hD.sub [1, 2, 3, 4, 5, 6, 7, 8, 9, 10, 11, 12, 13, 14, 0] (by decide) rfl
    refine W.widen (k := 1) (n := 6) (by decide) (by decide) ?_
    refine lv_i2l hx hb dL_cheapest_7 rfl ?_
    refine sl_0 (D := D) (f := F) (x := ((chE (fun e => lbM (hdE B Hd O R nd A) (soE B Hd O R nd A) x0 e) wt A (2 ^ A)).1).toInt64) hx hb hK hP hD hS 14 2 rfl rfl dL_cheapest_8 (fun H locs hP hD hS => ?_)
    have hP : va_P D vwCl (wKL cI cZ cJ ad ou N A fl9_4 an nd wt B Hd O R HL9_4 LB9_4 SO9_4 NG9_4 WO9_4 SA9_4 SE9_4 (vp_updL F 0 (((chE (fun e => lbM (hdE B Hd O R nd A) (soE B Hd O R nd A) x0 e) wt A (2 ^ A)).1).toInt64))) H := hP
    have hD : va_D Ap (wKL cI cZ cJ ad ou N A fl9_4 an nd wt B Hd O R HL9_4 LB9_4 SO9_4 NG9_4 WO9_4 SA9_4 SE9_4 (vp_updL F 0 (((chE (fun e => lbM (hdE B Hd O R nd A) (soE B Hd O R nd A) x0 e) wt A (2 ^ A)).1).toInt64))) := hD
    refine lv_goto (tgt := 15) hx hb dL_cheapest_9 (by decide) ?_
    refine lv_iconst (v := 0) hx hb dL_cheapest_15 (by decide) ?_
    exact mr_i (u := (fl9_4, HL9_4, LB9_4, SO9_4, NG9_4, WO9_4, SA9_4, SE9_4, vp_updL F 0 (((chE (fun e => lbM (hdE B Hd O R nd A) (soE B Hd O R nd A) x0 e) wt A (2 ^ A)).1).toInt64))) hx hb hrt hlk dL_cheapest_16 hS hP hD ⟨(Or.inl ⟨rfl, _, rfl, hok_4, hsvp_4, rfl⟩), trivial⟩
set_option maxHeartbeats 4000000 in
set_option maxRecDepth 100000 in
theorem c_L_needed (l : Launch) (D : va_G) (cI cZ cJ cE : ClassId) (ad : Nat → Nat) (ou : Nat) (N : Nat) (A : Nat) (fl : Bool) (an : Nat → Int32) (nd : Nat → Int32) (wt : Nat → Int32) (B : Nat → Int32) (Hd : Nat → Int32) (O : Nat → Bool) (R : Nat) (HL : Nat → Int32) (LB : Nat → Int32) (SO : Nat → Bool) (NG : Nat → Bool) (WO : Nat → Bool) (SA : Nat) (SE : Nat) (F : Nat → Int64) (x0 : Int32) (hA : A ≤ 9) (hR : R ≤ 40) (hn : N ≤ 24) (hH : okH N Hd R) (hN : okN N nd A) (hsv : fl = true → svOK B Hd O R nd A HL LB SO NG WO SA SE) (hst : l.stackTraces = false) (sz : Nat) : Met l yL_needed wsL_needed ({ frames := 8, cells := 1, slots := 6, locals := 162 }) (pcL D [(cI, .int), (cZ, .boolean), (cJ, .long), (cE, .double)] sz (wKL cI cZ cJ ad ou N A fl an nd wt B Hd O R HL LB SO NG WO SA SE F) [.ref (ad 0), .int (x0), .ref (ou)]) (va_Qi (fun (r9 : Int32) (u9 : (Bool) × (Nat → Int32) × (Nat → Int32) × (Nat → Bool) × (Nat → Bool) × (Nat → Bool) × (Nat) × (Nat) × (Nat → Int64)) => ((r9 = 0 ∧ ∃ rr : Int32, rr = ndE (fun e => lbM (hdE B Hd O R nd A) (soE B Hd O R nd A) x0 e) (nI (2 ^ A - 1)) (2 ^ A) ∧ (inR x0 N = true) ∧ ((u9.1) = true → svOK B Hd O R nd A (u9.2.1) (u9.2.2.1) (u9.2.2.2.1) (u9.2.2.2.2.1) (u9.2.2.2.2.2.1) (u9.2.2.2.2.2.2.1) (u9.2.2.2.2.2.2.2.1)) ∧ (u9.2.2.2.2.2.2.2.2) 0 = rr.toInt64) ∨ (r9 = 1 ∧ (inR x0 N = false) ∧ ((u9.1) = true → svOK B Hd O R nd A (u9.2.1) (u9.2.2.1) (u9.2.2.2.1) (u9.2.2.2.2.1) (u9.2.2.2.2.2.1) (u9.2.2.2.2.2.2.1) (u9.2.2.2.2.2.2.2.1)))) ∧ (True)) (wB D (va_A (wKL cI cZ cJ ad ou N A fl an nd wt B Hd O R HL LB SO NG WO SA SE F) sz) (fun u9 : (Bool) × (Nat → Int32) × (Nat → Int32) × (Nat → Bool) × (Nat → Bool) × (Nat → Bool) × (Nat) × (Nat) × (Nat → Int64) => (wKL cI cZ cJ ad ou N A (u9.1) an nd wt B Hd O R (u9.2.1) (u9.2.2.1) (u9.2.2.2.1) (u9.2.2.2.2.1) (u9.2.2.2.2.2.1) (u9.2.2.2.2.2.2.1) (u9.2.2.2.2.2.2.2.1) (u9.2.2.2.2.2.2.2.2)))) (va_A (wKL cI cZ cJ ad ou N A fl an nd wt B Hd O R HL LB SO NG WO SA SE F) sz)) 1 6 (va_A (wKL cI cZ cJ ad ou N A fl an nd wt B Hd O R HL LB SO NG WO SA SE F) sz) := by
  refine va_MetW (cc := cL_needed) (maxL := 4) (ret := (some .int)) (hh := [(0, 9, 12, 25)]) (by decide) rfl ?_
  intro p e s m args below meth c s₁ BB hml hv
  obtain ⟨rfl, hsz, hP, hK, hD0, hX, hZ, hY⟩ := hv
  have hx := BB.exec
  have hb := BB.bytes
  have hrt := BB.returns
  have hts := atoms_spec (ws := wsL_needed) BB.pre
  have hown : s.vm.findClass RL = some m.cls := findClass_of_methodNamed BB.named
  have hlk := BB.notSynchronized
  subst hsz
  have hD := hD0.self (sz := s.heap.size)
  generalize hAe : va_A (wKL cI cZ cJ ad ou N A fl an nd wt B Hd O R HL LB SO NG WO SA SE F) s.heap.size = Ap at hD hZ ⊢
  have hAp : ∀ q : Nat, s.heap.size ≤ q → Ap q := fun q h => by rw [← hAe]; exact Or.inr h
  have hS : va_S Ap s.heap s.heap [] := va_S.rf
  have htb := vx_table (x := yL_needed) BB (hts (.codeWith yL_needed cL_needed 4 (some .int) [(0, 9, 12, 25)]) List.mem_cons_self)
  have hl := lv_entry ([.ref (ad 0), .int (x0), .ref (ou)]) (n := 4) (Nat.le_of_ble_eq_true rfl)
  rw [lg_entry_eq]
  generalize (lg_sl ([.ref (ad 0), .int (x0), .ref (ou)]) ++ List.replicate (4 - (lg_sl ([.ref (ad 0), .int (x0), .ref (ou)])).length) Slot.unset).toArray = ls at hl ⊢
  have hl : lv_has ls 4 [(0, .ref (ad 0)), (1, .int (x0)), (2, .ref (ou))] := hl
  refine lv_aload_n hx hb dL_needed_0 rfl (lv_at hl 2 rfl) ?_
  refine lv_iconst (v := 0) hx hb dL_needed_1 (by decide) ?_
  refine lv_aload_n hx hb dL_needed_2 rfl (lv_at hl 0 rfl) ?_
  refine lv_iload_n hx hb dL_needed_3 rfl (lv_at hl 1 rfl) ?_
  refine xu_i (wr := [(ou, .inl (cJ, 1, .inr (.inl F)))]) (vx_runV (As := [.int (x0)]) (rest := [.int (0), .ref (ou)]) ⟨hx, hb, hml, hown, hts⟩ (c_X2_needed l D cI cZ ad (N) (A) (fl) (an) (nd) (wt) (B) (Hd) (O) (R) (HL) (LB) (SO) (NG) (WO) (SA) (SE) (x0) (hA) (hR) (hn) (hH) (hN) (hsv) hst (s.heap).size) (cwV 1 hts gL_needed_X2_needed rfl rfl rfl (by decide +kernel) ⟨Nat.le_of_ble_eq_true rfl, Nat.le_of_ble_eq_true rfl⟩) (prx_V (q0 := 0) (ci := 2) (hP.sub (ws' := (wK cI cZ ad N A fl an nd wt B Hd O R HL LB SO NG WO SA SE)) [0, 1, 2, 3, 4, 5, 6, 7, 8, 9, 10, 11, 12, 13] rfl) (hD.sub (ws' := (wK cI cZ ad N A fl an nd wt B Hd O R HL LB SO NG WO SA SE)) [0, 1, 2, 3, 4, 5, 6, 7, 8, 9, 10, 11, 12, 13] (by decide) rfl) (hK.sub [0, 1] rfl) hX hZ hS (va_free (wc := (wK cI cZ ad N A fl an nd wt B Hd O R HL LB SO NG WO SA SE)) hD hS hAp [0, 1, 2, 3, 4, 5, 6, 7, 8, 9, 10, 11, 12, 13] rfl) rfl rfl) rfl rfl hl.1 rfl (lv_room (Nat.le_of_ble_eq_true rfl)) dL_needed_4 ⟨Nat.le_of_ble_eq_true rfl, Nat.le_of_ble_eq_true rfl⟩) hP hD hS hAp [0, 1, 2, 3, 4, 5, 6, 7, 8, 9, 10, 11, 12, 13] [14] rfl rfl (by decide) (by decide) (fun E_4 ce_4 q9_4 ux_4 H locs hxp_4 hP hD hS h7_4 h8_4 h9_4 => ?_) (fun r_4 u_4 H locs hq_4 hP hD hS => ?_)
  · skip
    obtain ⟨fl9_4, HL9_4, LB9_4, SO9_4, NG9_4, WO9_4, SA9_4, SE9_4⟩ := ux_4
    have hP : va_P D vwCl (wKL cI cZ cJ ad ou N A fl9_4 an nd wt B Hd O R HL9_4 LB9_4 SO9_4 NG9_4 WO9_4 SA9_4 SE9_4 F) H := hP.sub [1, 2, 3, 4, 5, 6, 7, 8, 9, 10, 11, 12, 13, 14, 0] rfl
    have hD : va_D Ap (wKL cI cZ cJ ad ou N A fl9_4 an nd wt B Hd O R HL9_4 LB9_4 SO9_4 NG9_4 WO9_4 SA9_4 SE9_4 F) := hD.sub [1, 2, 3, 4, 5, 6, 7, 8, 9, 10, 11, 12, 13, 14, 0] (by decide) rfl
    obtain ⟨hxp_4, hxsvp⟩ := hxp_4
    obtain ⟨hE9, hc9⟩ := hxp_4
    subst hE9
    refine vx_catch (E := "java/lang/IndexOutOfBoundsException") (name := "java/lang/IndexOutOfBoundsException") hown [] ⟨0, 9, 12, 25⟩ [] (htb.trans rfl) (fun z hz => by cases hz) (by decide) (by decide) (hts (.classLink RL 25 "java/lang/IndexOutOfBoundsException") (by decide +kernel)) (va_Nw.use rfl (hX.2 (.castable "java/lang/IndexOutOfBoundsException" "java/lang/IndexOutOfBoundsException") (by decide +kernel))) h7_4 h8_4 h9_4 ?_
    refine lv_astore_n (lv' := [(3, .ref (q9_4)), (0, .ref (ad 0)), (1, .int (x0)), (2, .ref (ou))]) hx hb dL_needed_12 rfl hl (by decide) rfl (fun ls hl => ?_)
    refine lv_iconst (v := 1) hx hb dL_needed_13 (by decide) ?_
    exact mr_i (u := (fl9_4, HL9_4, LB9_4, SO9_4, NG9_4, WO9_4, SA9_4, SE9_4, F)) hx hb hrt hlk dL_needed_14 hS hP hD ⟨(Or.inr (⟨rfl, hc9, hxsvp⟩)), trivial⟩
  · skip
    obtain ⟨fl9_4, HL9_4, LB9_4, SO9_4, NG9_4, WO9_4, SA9_4, SE9_4⟩ := u_4
    obtain ⟨rfl, hok_4, hsvp_4, -⟩ := hq_4
    have hok_4 : inR x0 N = true := hok_4
    have hsvp_4 : fl9_4 = true → svOK B Hd O R nd A HL9_4 LB9_4 SO9_4 NG9_4 WO9_4 SA9_4 SE9_4 := hsvp_4
    have hP : va_P D vwCl (wKL cI cZ cJ ad ou N A fl9_4 an nd wt B Hd O R HL9_4 LB9_4 SO9_4 NG9_4 WO9_4 SA9_4 SE9_4 F) H := hP.sub [1, 2, 3, 4, 5, 6, 7, 8, 9, 10, 11, 12, 13, 14, 0] rfl
    have hD : va_D Ap (wKL cI cZ cJ ad ou N A fl9_4 an nd wt B Hd O R HL9_4 LB9_4 SO9_4 NG9_4 WO9_4 SA9_4 SE9_4 F) := hD.sub [1, 2, 3, 4, 5, 6, 7, 8, 9, 10, 11, 12, 13, 14, 0] (by decide) rfl
    refine W.widen (k := 1) (n := 6) (by decide) (by decide) ?_
    refine lv_i2l hx hb dL_needed_7 rfl ?_
    refine sl_0 (D := D) (f := F) (x := (ndE (fun e => lbM (hdE B Hd O R nd A) (soE B Hd O R nd A) x0 e) (nI (2 ^ A - 1)) (2 ^ A)).toInt64) hx hb hK hP hD hS 14 2 rfl rfl dL_needed_8 (fun H locs hP hD hS => ?_)
    have hP : va_P D vwCl (wKL cI cZ cJ ad ou N A fl9_4 an nd wt B Hd O R HL9_4 LB9_4 SO9_4 NG9_4 WO9_4 SA9_4 SE9_4 (vp_updL F 0 ((ndE (fun e => lbM (hdE B Hd O R nd A) (soE B Hd O R nd A) x0 e) (nI (2 ^ A - 1)) (2 ^ A)).toInt64))) H := hP
    have hD : va_D Ap (wKL cI cZ cJ ad ou N A fl9_4 an nd wt B Hd O R HL9_4 LB9_4 SO9_4 NG9_4 WO9_4 SA9_4 SE9_4 (vp_updL F 0 ((ndE (fun e => lbM (hdE B Hd O R nd A) (soE B Hd O R nd A) x0 e) (nI (2 ^ A - 1)) (2 ^ A)).toInt64))) := hD
    refine lv_goto (tgt := 15) hx hb dL_needed_9 (by decide) ?_
    refine lv_iconst (v := 0) hx hb dL_needed_15 (by decide) ?_
    exact mr_i (u := (fl9_4, HL9_4, LB9_4, SO9_4, NG9_4, WO9_4, SA9_4, SE9_4, vp_updL F 0 ((ndE (fun e => lbM (hdE B Hd O R nd A) (soE B Hd O R nd A) x0 e) (nI (2 ^ A - 1)) (2 ^ A)).toInt64))) hx hb hrt hlk dL_needed_16 hS hP hD ⟨(Or.inl ⟨rfl, _, rfl, hok_4, hsvp_4, rfl⟩), trivial⟩
set_option maxHeartbeats 4000000 in
set_option maxRecDepth 100000 in
theorem c_L_useful (l : Launch) (D : va_G) (cI cZ cJ cE : ClassId) (ad : Nat → Nat) (ou : Nat) (N : Nat) (A : Nat) (fl : Bool) (an : Nat → Int32) (nd : Nat → Int32) (wt : Nat → Int32) (B : Nat → Int32) (Hd : Nat → Int32) (O : Nat → Bool) (R : Nat) (HL : Nat → Int32) (LB : Nat → Int32) (SO : Nat → Bool) (NG : Nat → Bool) (WO : Nat → Bool) (SA : Nat) (SE : Nat) (F : Nat → Int64) (x0 : Int32) (hA : A ≤ 9) (hR : R ≤ 40) (hn : N ≤ 24) (hH : okH N Hd R) (hN : okN N nd A) (hsv : fl = true → svOK B Hd O R nd A HL LB SO NG WO SA SE) (hst : l.stackTraces = false) (sz : Nat) : Met l yL_useful wsL_useful ({ frames := 8, cells := 1, slots := 6, locals := 162 }) (pcL D [(cI, .int), (cZ, .boolean), (cJ, .long), (cE, .double)] sz (wKL cI cZ cJ ad ou N A fl an nd wt B Hd O R HL LB SO NG WO SA SE F) [.ref (ad 0), .int (x0), .ref (ou)]) (va_Qi (fun (r9 : Int32) (u9 : (Bool) × (Nat → Int32) × (Nat → Int32) × (Nat → Bool) × (Nat → Bool) × (Nat → Bool) × (Nat) × (Nat) × (Nat → Int64)) => ((r9 = 0 ∧ ∃ rr : Int32, rr = usE (fun e => lbM (hdE B Hd O R nd A) (soE B Hd O R nd A) x0 e) (2 ^ A) ∧ (inR x0 N = true) ∧ ((u9.1) = true → svOK B Hd O R nd A (u9.2.1) (u9.2.2.1) (u9.2.2.2.1) (u9.2.2.2.2.1) (u9.2.2.2.2.2.1) (u9.2.2.2.2.2.2.1) (u9.2.2.2.2.2.2.2.1)) ∧ (u9.2.2.2.2.2.2.2.2) 0 = rr.toInt64) ∨ (r9 = 1 ∧ (inR x0 N = false) ∧ ((u9.1) = true → svOK B Hd O R nd A (u9.2.1) (u9.2.2.1) (u9.2.2.2.1) (u9.2.2.2.2.1) (u9.2.2.2.2.2.1) (u9.2.2.2.2.2.2.1) (u9.2.2.2.2.2.2.2.1)))) ∧ (True)) (wB D (va_A (wKL cI cZ cJ ad ou N A fl an nd wt B Hd O R HL LB SO NG WO SA SE F) sz) (fun u9 : (Bool) × (Nat → Int32) × (Nat → Int32) × (Nat → Bool) × (Nat → Bool) × (Nat → Bool) × (Nat) × (Nat) × (Nat → Int64) => (wKL cI cZ cJ ad ou N A (u9.1) an nd wt B Hd O R (u9.2.1) (u9.2.2.1) (u9.2.2.2.1) (u9.2.2.2.2.1) (u9.2.2.2.2.2.1) (u9.2.2.2.2.2.2.1) (u9.2.2.2.2.2.2.2.1) (u9.2.2.2.2.2.2.2.2)))) (va_A (wKL cI cZ cJ ad ou N A fl an nd wt B Hd O R HL LB SO NG WO SA SE F) sz)) 1 6 (va_A (wKL cI cZ cJ ad ou N A fl an nd wt B Hd O R HL LB SO NG WO SA SE F) sz) := by
  refine va_MetW (cc := cL_useful) (maxL := 4) (ret := (some .int)) (hh := [(0, 9, 12, 25)]) (by decide) rfl ?_
  intro p e s m args below meth c s₁ BB hml hv
  obtain ⟨rfl, hsz, hP, hK, hD0, hX, hZ, hY⟩ := hv
  have hx := BB.exec
  have hb := BB.bytes
  have hrt := BB.returns
  have hts := atoms_spec (ws := wsL_useful) BB.pre
  have hown : s.vm.findClass RL = some m.cls := findClass_of_methodNamed BB.named
  have hlk := BB.notSynchronized
  subst hsz
  have hD := hD0.self (sz := s.heap.size)
  generalize hAe : va_A (wKL cI cZ cJ ad ou N A fl an nd wt B Hd O R HL LB SO NG WO SA SE F) s.heap.size = Ap at hD hZ ⊢
  have hAp : ∀ q : Nat, s.heap.size ≤ q → Ap q := fun q h => by rw [← hAe]; exact Or.inr h
  have hS : va_S Ap s.heap s.heap [] := va_S.rf
  have htb := vx_table (x := yL_useful) BB (hts (.codeWith yL_useful cL_useful 4 (some .int) [(0, 9, 12, 25)]) List.mem_cons_self)
  have hl := lv_entry ([.ref (ad 0), .int (x0), .ref (ou)]) (n := 4) (Nat.le_of_ble_eq_true rfl)
  rw [lg_entry_eq]
  generalize (lg_sl ([.ref (ad 0), .int (x0), .ref (ou)]) ++ List.replicate (4 - (lg_sl ([.ref (ad 0), .int (x0), .ref (ou)])).length) Slot.unset).toArray = ls at hl ⊢
  have hl : lv_has ls 4 [(0, .ref (ad 0)), (1, .int (x0)), (2, .ref (ou))] := hl
  refine lv_aload_n hx hb dL_useful_0 rfl (lv_at hl 2 rfl) ?_
  refine lv_iconst (v := 0) hx hb dL_useful_1 (by decide) ?_
  refine lv_aload_n hx hb dL_useful_2 rfl (lv_at hl 0 rfl) ?_
  refine lv_iload_n hx hb dL_useful_3 rfl (lv_at hl 1 rfl) ?_
  refine xu_i (wr := [(ou, .inl (cJ, 1, .inr (.inl F)))]) (vx_runV (As := [.int (x0)]) (rest := [.int (0), .ref (ou)]) ⟨hx, hb, hml, hown, hts⟩ (c_X2_useful l D cI cZ ad (N) (A) (fl) (an) (nd) (wt) (B) (Hd) (O) (R) (HL) (LB) (SO) (NG) (WO) (SA) (SE) (x0) (hA) (hR) (hn) (hH) (hN) (hsv) hst (s.heap).size) (cwV 1 hts gL_useful_X2_useful rfl rfl rfl (by decide +kernel) ⟨Nat.le_of_ble_eq_true rfl, Nat.le_of_ble_eq_true rfl⟩) (prx_V (q0 := 0) (ci := 2) (hP.sub (ws' := (wK cI cZ ad N A fl an nd wt B Hd O R HL LB SO NG WO SA SE)) [0, 1, 2, 3, 4, 5, 6, 7, 8, 9, 10, 11, 12, 13] rfl) (hD.sub (ws' := (wK cI cZ ad N A fl an nd wt B Hd O R HL LB SO NG WO SA SE)) [0, 1, 2, 3, 4, 5, 6, 7, 8, 9, 10, 11, 12, 13] (by decide) rfl) (hK.sub [0, 1] rfl) hX hZ hS (va_free (wc := (wK cI cZ ad N A fl an nd wt B Hd O R HL LB SO NG WO SA SE)) hD hS hAp [0, 1, 2, 3, 4, 5, 6, 7, 8, 9, 10, 11, 12, 13] rfl) rfl rfl) rfl rfl hl.1 rfl (lv_room (Nat.le_of_ble_eq_true rfl)) dL_useful_4 ⟨Nat.le_of_ble_eq_true rfl, Nat.le_of_ble_eq_true rfl⟩) hP hD hS hAp [0, 1, 2, 3, 4, 5, 6, 7, 8, 9, 10, 11, 12, 13] [14] rfl rfl (by decide) (by decide) (fun E_4 ce_4 q9_4 ux_4 H locs hxp_4 hP hD hS h7_4 h8_4 h9_4 => ?_) (fun r_4 u_4 H locs hq_4 hP hD hS => ?_)
  · skip
    obtain ⟨fl9_4, HL9_4, LB9_4, SO9_4, NG9_4, WO9_4, SA9_4, SE9_4⟩ := ux_4
    have hP : va_P D vwCl (wKL cI cZ cJ ad ou N A fl9_4 an nd wt B Hd O R HL9_4 LB9_4 SO9_4 NG9_4 WO9_4 SA9_4 SE9_4 F) H := hP.sub [1, 2, 3, 4, 5, 6, 7, 8, 9, 10, 11, 12, 13, 14, 0] rfl
    have hD : va_D Ap (wKL cI cZ cJ ad ou N A fl9_4 an nd wt B Hd O R HL9_4 LB9_4 SO9_4 NG9_4 WO9_4 SA9_4 SE9_4 F) := hD.sub [1, 2, 3, 4, 5, 6, 7, 8, 9, 10, 11, 12, 13, 14, 0] (by decide) rfl
    obtain ⟨hxp_4, hxsvp⟩ := hxp_4
    obtain ⟨hE9, hc9⟩ := hxp_4
    subst hE9
    refine vx_catch (E := "java/lang/IndexOutOfBoundsException") (name := "java/lang/IndexOutOfBoundsException") hown [] ⟨0, 9, 12, 25⟩ [] (htb.trans rfl) (fun z hz => by cases hz) (by decide) (by decide) (hts (.classLink RL 25 "java/lang/IndexOutOfBoundsException") (by decide +kernel)) (va_Nw.use rfl (hX.2 (.castable "java/lang/IndexOutOfBoundsException" "java/lang/IndexOutOfBoundsException") (by decide +kernel))) h7_4 h8_4 h9_4 ?_
    refine lv_astore_n (lv' := [(3, .ref (q9_4)), (0, .ref (ad 0)), (1, .int (x0)), (2, .ref (ou))]) hx hb dL_useful_12 rfl hl (by decide) rfl (fun ls hl => ?_)
    refine lv_iconst (v := 1) hx hb dL_useful_13 (by decide) ?_
    exact mr_i (u := (fl9_4, HL9_4, LB9_4, SO9_4, NG9_4, WO9_4, SA9_4, SE9_4, F)) hx hb hrt hlk dL_useful_14 hS hP hD ⟨(Or.inr (⟨rfl, hc9, hxsvp⟩)), trivial⟩
  · skip
    obtain ⟨fl9_4, HL9_4, LB9_4, SO9_4, NG9_4, WO9_4, SA9_4, SE9_4⟩ := u_4
    obtain ⟨rfl, hok_4, hsvp_4, -⟩ := hq_4
    have hok_4 : inR x0 N = true := hok_4
    have hsvp_4 : fl9_4 = true → svOK B Hd O R nd A HL9_4 LB9_4 SO9_4 NG9_4 WO9_4 SA9_4 SE9_4 := hsvp_4
    have hP : va_P D vwCl (wKL cI cZ cJ ad ou N A fl9_4 an nd wt B Hd O R HL9_4 LB9_4 SO9_4 NG9_4 WO9_4 SA9_4 SE9_4 F) H := hP.sub [1, 2, 3, 4, 5, 6, 7, 8, 9, 10, 11, 12, 13, 14, 0] rfl
    have hD : va_D Ap (wKL cI cZ cJ ad ou N A fl9_4 an nd wt B Hd O R HL9_4 LB9_4 SO9_4 NG9_4 WO9_4 SA9_4 SE9_4 F) := hD.sub [1, 2, 3, 4, 5, 6, 7, 8, 9, 10, 11, 12, 13, 14, 0] (by decide) rfl
    refine W.widen (k := 1) (n := 6) (by decide) (by decide) ?_
    refine lv_i2l hx hb dL_useful_7 rfl ?_
    refine sl_0 (D := D) (f := F) (x := (usE (fun e => lbM (hdE B Hd O R nd A) (soE B Hd O R nd A) x0 e) (2 ^ A)).toInt64) hx hb hK hP hD hS 14 2 rfl rfl dL_useful_8 (fun H locs hP hD hS => ?_)
    have hP : va_P D vwCl (wKL cI cZ cJ ad ou N A fl9_4 an nd wt B Hd O R HL9_4 LB9_4 SO9_4 NG9_4 WO9_4 SA9_4 SE9_4 (vp_updL F 0 ((usE (fun e => lbM (hdE B Hd O R nd A) (soE B Hd O R nd A) x0 e) (2 ^ A)).toInt64))) H := hP
    have hD : va_D Ap (wKL cI cZ cJ ad ou N A fl9_4 an nd wt B Hd O R HL9_4 LB9_4 SO9_4 NG9_4 WO9_4 SA9_4 SE9_4 (vp_updL F 0 ((usE (fun e => lbM (hdE B Hd O R nd A) (soE B Hd O R nd A) x0 e) (2 ^ A)).toInt64))) := hD
    refine lv_goto (tgt := 15) hx hb dL_useful_9 (by decide) ?_
    refine lv_iconst (v := 0) hx hb dL_useful_15 (by decide) ?_
    exact mr_i (u := (fl9_4, HL9_4, LB9_4, SO9_4, NG9_4, WO9_4, SA9_4, SE9_4, vp_updL F 0 ((usE (fun e => lbM (hdE B Hd O R nd A) (soE B Hd O R nd A) x0 e) (2 ^ A)).toInt64))) hx hb hrt hlk dL_useful_16 hS hP hD ⟨(Or.inl ⟨rfl, _, rfl, hok_4, hsvp_4, rfl⟩), trivial⟩
set_option maxHeartbeats 4000000 in
set_option maxRecDepth 100000 in
theorem c_L_nogood (l : Launch) (D : va_G) (cI cZ cJ cE : ClassId) (ad : Nat → Nat) (ou : Nat) (N : Nat) (A : Nat) (fl : Bool) (an : Nat → Int32) (nd : Nat → Int32) (wt : Nat → Int32) (B : Nat → Int32) (Hd : Nat → Int32) (O : Nat → Bool) (R : Nat) (HL : Nat → Int32) (LB : Nat → Int32) (SO : Nat → Bool) (NG : Nat → Bool) (WO : Nat → Bool) (SA : Nat) (SE : Nat) (F : Nat → Int64) (x0 : Int32) (hA : A ≤ 9) (hR : R ≤ 40) (hn : N ≤ 24) (hH : okH N Hd R) (hN : okN N nd A) (hsv : fl = true → svOK B Hd O R nd A HL LB SO NG WO SA SE) (hst : l.stackTraces = false) (sz : Nat) : Met l yL_nogood wsL_nogood ({ frames := 8, cells := 1, slots := 6, locals := 159 }) (pcL D [(cI, .int), (cZ, .boolean), (cJ, .long), (cE, .double)] sz (wKL cI cZ cJ ad ou N A fl an nd wt B Hd O R HL LB SO NG WO SA SE F) [.ref (ad 0), .int (x0), .ref (ou)]) (va_Qi (fun (r9 : Int32) (u9 : (Bool) × (Nat → Int32) × (Nat → Int32) × (Nat → Bool) × (Nat → Bool) × (Nat → Bool) × (Nat) × (Nat) × (Nat → Int64)) => ((r9 = 0 ∧ ∃ rr : Int32, rr = nth (fun e => ngM (soE B Hd O R nd A) e) (2 ^ A) x0 ∧ (¬ nth (fun e => ngM (soE B Hd O R nd A) e) (2 ^ A) x0 = -1) ∧ ((u9.1) = true → svOK B Hd O R nd A (u9.2.1) (u9.2.2.1) (u9.2.2.2.1) (u9.2.2.2.2.1) (u9.2.2.2.2.2.1) (u9.2.2.2.2.2.2.1) (u9.2.2.2.2.2.2.2.1)) ∧ (u9.2.2.2.2.2.2.2.2) 0 = rr.toInt64) ∨ (r9 = 1 ∧ (nth (fun e => ngM (soE B Hd O R nd A) e) (2 ^ A) x0 = -1) ∧ ((u9.1) = true → svOK B Hd O R nd A (u9.2.1) (u9.2.2.1) (u9.2.2.2.1) (u9.2.2.2.2.1) (u9.2.2.2.2.2.1) (u9.2.2.2.2.2.2.1) (u9.2.2.2.2.2.2.2.1)))) ∧ (True)) (wB D (va_A (wKL cI cZ cJ ad ou N A fl an nd wt B Hd O R HL LB SO NG WO SA SE F) sz) (fun u9 : (Bool) × (Nat → Int32) × (Nat → Int32) × (Nat → Bool) × (Nat → Bool) × (Nat → Bool) × (Nat) × (Nat) × (Nat → Int64) => (wKL cI cZ cJ ad ou N A (u9.1) an nd wt B Hd O R (u9.2.1) (u9.2.2.1) (u9.2.2.2.1) (u9.2.2.2.2.1) (u9.2.2.2.2.2.1) (u9.2.2.2.2.2.2.1) (u9.2.2.2.2.2.2.2.1) (u9.2.2.2.2.2.2.2.2)))) (va_A (wKL cI cZ cJ ad ou N A fl an nd wt B Hd O R HL LB SO NG WO SA SE F) sz)) 1 6 (va_A (wKL cI cZ cJ ad ou N A fl an nd wt B Hd O R HL LB SO NG WO SA SE F) sz) := by
  refine va_MetW (cc := cL_nogood) (maxL := 4) (ret := (some .int)) (hh := [(0, 9, 12, 25)]) (by decide) rfl ?_
  intro p e s m args below meth c s₁ BB hml hv
  obtain ⟨rfl, hsz, hP, hK, hD0, hX, hZ, hY⟩ := hv
  have hx := BB.exec
  have hb := BB.bytes
  have hrt := BB.returns
  have hts := atoms_spec (ws := wsL_nogood) BB.pre
  have hown : s.vm.findClass RL = some m.cls := findClass_of_methodNamed BB.named
  have hlk := BB.notSynchronized
  subst hsz
  have hD := hD0.self (sz := s.heap.size)
  generalize hAe : va_A (wKL cI cZ cJ ad ou N A fl an nd wt B Hd O R HL LB SO NG WO SA SE F) s.heap.size = Ap at hD hZ ⊢
  have hAp : ∀ q : Nat, s.heap.size ≤ q → Ap q := fun q h => by rw [← hAe]; exact Or.inr h
  have hS : va_S Ap s.heap s.heap [] := va_S.rf
  have htb := vx_table (x := yL_nogood) BB (hts (.codeWith yL_nogood cL_nogood 4 (some .int) [(0, 9, 12, 25)]) List.mem_cons_self)
  have hl := lv_entry ([.ref (ad 0), .int (x0), .ref (ou)]) (n := 4) (Nat.le_of_ble_eq_true rfl)
  rw [lg_entry_eq]
  generalize (lg_sl ([.ref (ad 0), .int (x0), .ref (ou)]) ++ List.replicate (4 - (lg_sl ([.ref (ad 0), .int (x0), .ref (ou)])).length) Slot.unset).toArray = ls at hl ⊢
  have hl : lv_has ls 4 [(0, .ref (ad 0)), (1, .int (x0)), (2, .ref (ou))] := hl
  refine lv_aload_n hx hb dL_nogood_0 rfl (lv_at hl 2 rfl) ?_
  refine lv_iconst (v := 0) hx hb dL_nogood_1 (by decide) ?_
  refine lv_aload_n hx hb dL_nogood_2 rfl (lv_at hl 0 rfl) ?_
  refine lv_iload_n hx hb dL_nogood_3 rfl (lv_at hl 1 rfl) ?_
  refine xu_i (wr := [(ou, .inl (cJ, 1, .inr (.inl F)))]) (vx_runV (As := [.int (x0)]) (rest := [.int (0), .ref (ou)]) ⟨hx, hb, hml, hown, hts⟩ (c_X2_nogood l D cI cZ ad (N) (A) (fl) (an) (nd) (wt) (B) (Hd) (O) (R) (HL) (LB) (SO) (NG) (WO) (SA) (SE) (x0) (hA) (hR) (hn) (hH) (hN) (hsv) hst (s.heap).size) (cwV 1 hts gL_nogood_X2_nogood rfl rfl rfl (by decide +kernel) ⟨Nat.le_of_ble_eq_true rfl, Nat.le_of_ble_eq_true rfl⟩) (prx_V (q0 := 0) (ci := 2) (hP.sub (ws' := (wK cI cZ ad N A fl an nd wt B Hd O R HL LB SO NG WO SA SE)) [0, 1, 2, 3, 4, 5, 6, 7, 8, 9, 10, 11, 12, 13] rfl) (hD.sub (ws' := (wK cI cZ ad N A fl an nd wt B Hd O R HL LB SO NG WO SA SE)) [0, 1, 2, 3, 4, 5, 6, 7, 8, 9, 10, 11, 12, 13] (by decide) rfl) (hK.sub [0, 1] rfl) hX hZ hS (va_free (wc := (wK cI cZ ad N A fl an nd wt B Hd O R HL LB SO NG WO SA SE)) hD hS hAp [0, 1, 2, 3, 4, 5, 6, 7, 8, 9, 10, 11, 12, 13] rfl) rfl rfl) rfl rfl hl.1 rfl (lv_room (Nat.le_of_ble_eq_true rfl)) dL_nogood_4 ⟨Nat.le_of_ble_eq_true rfl, Nat.le_of_ble_eq_true rfl⟩) hP hD hS hAp [0, 1, 2, 3, 4, 5, 6, 7, 8, 9, 10, 11, 12, 13] [14] rfl rfl (by decide) (by decide) (fun E_4 ce_4 q9_4 ux_4 H locs hxp_4 hP hD hS h7_4 h8_4 h9_4 => ?_) (fun r_4 u_4 H locs hq_4 hP hD hS => ?_)
  · skip
    obtain ⟨fl9_4, HL9_4, LB9_4, SO9_4, NG9_4, WO9_4, SA9_4, SE9_4⟩ := ux_4
    have hP : va_P D vwCl (wKL cI cZ cJ ad ou N A fl9_4 an nd wt B Hd O R HL9_4 LB9_4 SO9_4 NG9_4 WO9_4 SA9_4 SE9_4 F) H := hP.sub [1, 2, 3, 4, 5, 6, 7, 8, 9, 10, 11, 12, 13, 14, 0] rfl
    have hD : va_D Ap (wKL cI cZ cJ ad ou N A fl9_4 an nd wt B Hd O R HL9_4 LB9_4 SO9_4 NG9_4 WO9_4 SA9_4 SE9_4 F) := hD.sub [1, 2, 3, 4, 5, 6, 7, 8, 9, 10, 11, 12, 13, 14, 0] (by decide) rfl
    obtain ⟨hxp_4, hxsvp⟩ := hxp_4
    obtain ⟨hE9, hc9⟩ := hxp_4
    subst hE9
    refine vx_catch (E := "java/lang/IndexOutOfBoundsException") (name := "java/lang/IndexOutOfBoundsException") hown [] ⟨0, 9, 12, 25⟩ [] (htb.trans rfl) (fun z hz => by cases hz) (by decide) (by decide) (hts (.classLink RL 25 "java/lang/IndexOutOfBoundsException") (by decide +kernel)) (va_Nw.use rfl (hX.2 (.castable "java/lang/IndexOutOfBoundsException" "java/lang/IndexOutOfBoundsException") (by decide +kernel))) h7_4 h8_4 h9_4 ?_
    refine lv_astore_n (lv' := [(3, .ref (q9_4)), (0, .ref (ad 0)), (1, .int (x0)), (2, .ref (ou))]) hx hb dL_nogood_12 rfl hl (by decide) rfl (fun ls hl => ?_)
    refine lv_iconst (v := 1) hx hb dL_nogood_13 (by decide) ?_
    exact mr_i (u := (fl9_4, HL9_4, LB9_4, SO9_4, NG9_4, WO9_4, SA9_4, SE9_4, F)) hx hb hrt hlk dL_nogood_14 hS hP hD ⟨(Or.inr (⟨rfl, hc9, hxsvp⟩)), trivial⟩
  · skip
    obtain ⟨fl9_4, HL9_4, LB9_4, SO9_4, NG9_4, WO9_4, SA9_4, SE9_4⟩ := u_4
    obtain ⟨rfl, hok_4, hsvp_4, -⟩ := hq_4
    have hok_4 : ¬ nth (fun e => ngM (soE B Hd O R nd A) e) (2 ^ A) x0 = -1 := hok_4
    have hsvp_4 : fl9_4 = true → svOK B Hd O R nd A HL9_4 LB9_4 SO9_4 NG9_4 WO9_4 SA9_4 SE9_4 := hsvp_4
    have hP : va_P D vwCl (wKL cI cZ cJ ad ou N A fl9_4 an nd wt B Hd O R HL9_4 LB9_4 SO9_4 NG9_4 WO9_4 SA9_4 SE9_4 F) H := hP.sub [1, 2, 3, 4, 5, 6, 7, 8, 9, 10, 11, 12, 13, 14, 0] rfl
    have hD : va_D Ap (wKL cI cZ cJ ad ou N A fl9_4 an nd wt B Hd O R HL9_4 LB9_4 SO9_4 NG9_4 WO9_4 SA9_4 SE9_4 F) := hD.sub [1, 2, 3, 4, 5, 6, 7, 8, 9, 10, 11, 12, 13, 14, 0] (by decide) rfl
    refine W.widen (k := 1) (n := 6) (by decide) (by decide) ?_
    refine lv_i2l hx hb dL_nogood_7 rfl ?_
    refine sl_0 (D := D) (f := F) (x := (nth (fun e => ngM (soE B Hd O R nd A) e) (2 ^ A) x0).toInt64) hx hb hK hP hD hS 14 2 rfl rfl dL_nogood_8 (fun H locs hP hD hS => ?_)
    have hP : va_P D vwCl (wKL cI cZ cJ ad ou N A fl9_4 an nd wt B Hd O R HL9_4 LB9_4 SO9_4 NG9_4 WO9_4 SA9_4 SE9_4 (vp_updL F 0 ((nth (fun e => ngM (soE B Hd O R nd A) e) (2 ^ A) x0).toInt64))) H := hP
    have hD : va_D Ap (wKL cI cZ cJ ad ou N A fl9_4 an nd wt B Hd O R HL9_4 LB9_4 SO9_4 NG9_4 WO9_4 SA9_4 SE9_4 (vp_updL F 0 ((nth (fun e => ngM (soE B Hd O R nd A) e) (2 ^ A) x0).toInt64))) := hD
    refine lv_goto (tgt := 15) hx hb dL_nogood_9 (by decide) ?_
    refine lv_iconst (v := 0) hx hb dL_nogood_15 (by decide) ?_
    exact mr_i (u := (fl9_4, HL9_4, LB9_4, SO9_4, NG9_4, WO9_4, SA9_4, SE9_4, vp_updL F 0 ((nth (fun e => ngM (soE B Hd O R nd A) e) (2 ^ A) x0).toInt64))) hx hb hrt hlk dL_nogood_16 hS hP hD ⟨(Or.inl ⟨rfl, _, rfl, hok_4, hsvp_4, rfl⟩), trivial⟩
set_option maxHeartbeats 4000000 in
set_option maxRecDepth 100000 in
theorem c_L_world (l : Launch) (D : va_G) (cI cZ cJ cE : ClassId) (ad : Nat → Nat) (ou : Nat) (N : Nat) (A : Nat) (fl : Bool) (an : Nat → Int32) (nd : Nat → Int32) (wt : Nat → Int32) (B : Nat → Int32) (Hd : Nat → Int32) (O : Nat → Bool) (R : Nat) (HL : Nat → Int32) (LB : Nat → Int32) (SO : Nat → Bool) (NG : Nat → Bool) (WO : Nat → Bool) (SA : Nat) (SE : Nat) (F : Nat → Int64) (x0 : Int32) (hA : A ≤ 9) (hR : R ≤ 40) (hn : N ≤ 24) (hH : okH N Hd R) (hN : okN N nd A) (hsv : fl = true → svOK B Hd O R nd A HL LB SO NG WO SA SE) (hst : l.stackTraces = false) (sz : Nat) : Met l yL_world wsL_world ({ frames := 8, cells := 1, slots := 6, locals := 159 }) (pcL D [(cI, .int), (cZ, .boolean), (cJ, .long), (cE, .double)] sz (wKL cI cZ cJ ad ou N A fl an nd wt B Hd O R HL LB SO NG WO SA SE F) [.ref (ad 0), .int (x0), .ref (ou)]) (va_Qi (fun (r9 : Int32) (u9 : (Bool) × (Nat → Int32) × (Nat → Int32) × (Nat → Bool) × (Nat → Bool) × (Nat → Bool) × (Nat) × (Nat) × (Nat → Int64)) => ((r9 = 0 ∧ ∃ rr : Int32, rr = nth (fun e => woM A (soE B Hd O R nd A) e) (2 ^ A) x0 ∧ (¬ nth (fun e => woM A (soE B Hd O R nd A) e) (2 ^ A) x0 = -1) ∧ ((u9.1) = true → svOK B Hd O R nd A (u9.2.1) (u9.2.2.1) (u9.2.2.2.1) (u9.2.2.2.2.1) (u9.2.2.2.2.2.1) (u9.2.2.2.2.2.2.1) (u9.2.2.2.2.2.2.2.1)) ∧ (u9.2.2.2.2.2.2.2.2) 0 = rr.toInt64) ∨ (r9 = 1 ∧ (nth (fun e => woM A (soE B Hd O R nd A) e) (2 ^ A) x0 = -1) ∧ ((u9.1) = true → svOK B Hd O R nd A (u9.2.1) (u9.2.2.1) (u9.2.2.2.1) (u9.2.2.2.2.1) (u9.2.2.2.2.2.1) (u9.2.2.2.2.2.2.1) (u9.2.2.2.2.2.2.2.1)))) ∧ (True)) (wB D (va_A (wKL cI cZ cJ ad ou N A fl an nd wt B Hd O R HL LB SO NG WO SA SE F) sz) (fun u9 : (Bool) × (Nat → Int32) × (Nat → Int32) × (Nat → Bool) × (Nat → Bool) × (Nat → Bool) × (Nat) × (Nat) × (Nat → Int64) => (wKL cI cZ cJ ad ou N A (u9.1) an nd wt B Hd O R (u9.2.1) (u9.2.2.1) (u9.2.2.2.1) (u9.2.2.2.2.1) (u9.2.2.2.2.2.1) (u9.2.2.2.2.2.2.1) (u9.2.2.2.2.2.2.2.1) (u9.2.2.2.2.2.2.2.2)))) (va_A (wKL cI cZ cJ ad ou N A fl an nd wt B Hd O R HL LB SO NG WO SA SE F) sz)) 1 6 (va_A (wKL cI cZ cJ ad ou N A fl an nd wt B Hd O R HL LB SO NG WO SA SE F) sz) := by
  refine va_MetW (cc := cL_world) (maxL := 4) (ret := (some .int)) (hh := [(0, 9, 12, 25)]) (by decide) rfl ?_
  intro p e s m args below meth c s₁ BB hml hv
  obtain ⟨rfl, hsz, hP, hK, hD0, hX, hZ, hY⟩ := hv
  have hx := BB.exec
  have hb := BB.bytes
  have hrt := BB.returns
  have hts := atoms_spec (ws := wsL_world) BB.pre
  have hown : s.vm.findClass RL = some m.cls := findClass_of_methodNamed BB.named
  have hlk := BB.notSynchronized
  subst hsz
  have hD := hD0.self (sz := s.heap.size)
  generalize hAe : va_A (wKL cI cZ cJ ad ou N A fl an nd wt B Hd O R HL LB SO NG WO SA SE F) s.heap.size = Ap at hD hZ ⊢
  have hAp : ∀ q : Nat, s.heap.size ≤ q → Ap q := fun q h => by rw [← hAe]; exact Or.inr h
  have hS : va_S Ap s.heap s.heap [] := va_S.rf
  have htb := vx_table (x := yL_world) BB (hts (.codeWith yL_world cL_world 4 (some .int) [(0, 9, 12, 25)]) List.mem_cons_self)
  have hl := lv_entry ([.ref (ad 0), .int (x0), .ref (ou)]) (n := 4) (Nat.le_of_ble_eq_true rfl)
  rw [lg_entry_eq]
  generalize (lg_sl ([.ref (ad 0), .int (x0), .ref (ou)]) ++ List.replicate (4 - (lg_sl ([.ref (ad 0), .int (x0), .ref (ou)])).length) Slot.unset).toArray = ls at hl ⊢
  have hl : lv_has ls 4 [(0, .ref (ad 0)), (1, .int (x0)), (2, .ref (ou))] := hl
  refine lv_aload_n hx hb dL_world_0 rfl (lv_at hl 2 rfl) ?_
  refine lv_iconst (v := 0) hx hb dL_world_1 (by decide) ?_
  refine lv_aload_n hx hb dL_world_2 rfl (lv_at hl 0 rfl) ?_
  refine lv_iload_n hx hb dL_world_3 rfl (lv_at hl 1 rfl) ?_
  refine xu_i (wr := [(ou, .inl (cJ, 1, .inr (.inl F)))]) (vx_runV (As := [.int (x0)]) (rest := [.int (0), .ref (ou)]) ⟨hx, hb, hml, hown, hts⟩ (c_X2_world l D cI cZ ad (N) (A) (fl) (an) (nd) (wt) (B) (Hd) (O) (R) (HL) (LB) (SO) (NG) (WO) (SA) (SE) (x0) (hA) (hR) (hn) (hH) (hN) (hsv) hst (s.heap).size) (cwV 1 hts gL_world_X2_world rfl rfl rfl (by decide +kernel) ⟨Nat.le_of_ble_eq_true rfl, Nat.le_of_ble_eq_true rfl⟩) (prx_V (q0 := 0) (ci := 2) (hP.sub (ws' := (wK cI cZ ad N A fl an nd wt B Hd O R HL LB SO NG WO SA SE)) [0, 1, 2, 3, 4, 5, 6, 7, 8, 9, 10, 11, 12, 13] rfl) (hD.sub (ws' := (wK cI cZ ad N A fl an nd wt B Hd O R HL LB SO NG WO SA SE)) [0, 1, 2, 3, 4, 5, 6, 7, 8, 9, 10, 11, 12, 13] (by decide) rfl) (hK.sub [0, 1] rfl) hX hZ hS (va_free (wc := (wK cI cZ ad N A fl an nd wt B Hd O R HL LB SO NG WO SA SE)) hD hS hAp [0, 1, 2, 3, 4, 5, 6, 7, 8, 9, 10, 11, 12, 13] rfl) rfl rfl) rfl rfl hl.1 rfl (lv_room (Nat.le_of_ble_eq_true rfl)) dL_world_4 ⟨Nat.le_of_ble_eq_true rfl, Nat.le_of_ble_eq_true rfl⟩) hP hD hS hAp [0, 1, 2, 3, 4, 5, 6, 7, 8, 9, 10, 11, 12, 13] [14] rfl rfl (by decide) (by decide) (fun E_4 ce_4 q9_4 ux_4 H locs hxp_4 hP hD hS h7_4 h8_4 h9_4 => ?_) (fun r_4 u_4 H locs hq_4 hP hD hS => ?_)
  · skip
    obtain ⟨fl9_4, HL9_4, LB9_4, SO9_4, NG9_4, WO9_4, SA9_4, SE9_4⟩ := ux_4
    have hP : va_P D vwCl (wKL cI cZ cJ ad ou N A fl9_4 an nd wt B Hd O R HL9_4 LB9_4 SO9_4 NG9_4 WO9_4 SA9_4 SE9_4 F) H := hP.sub [1, 2, 3, 4, 5, 6, 7, 8, 9, 10, 11, 12, 13, 14, 0] rfl
    have hD : va_D Ap (wKL cI cZ cJ ad ou N A fl9_4 an nd wt B Hd O R HL9_4 LB9_4 SO9_4 NG9_4 WO9_4 SA9_4 SE9_4 F) := hD.sub [1, 2, 3, 4, 5, 6, 7, 8, 9, 10, 11, 12, 13, 14, 0] (by decide) rfl
    obtain ⟨hxp_4, hxsvp⟩ := hxp_4
    obtain ⟨hE9, hc9⟩ := hxp_4
    subst hE9
    refine vx_catch (E := "java/lang/IndexOutOfBoundsException") (name := "java/lang/IndexOutOfBoundsException") hown [] ⟨0, 9, 12, 25⟩ [] (htb.trans rfl) (fun z hz => by cases hz) (by decide) (by decide) (hts (.classLink RL 25 "java/lang/IndexOutOfBoundsException") (by decide +kernel)) (va_Nw.use rfl (hX.2 (.castable "java/lang/IndexOutOfBoundsException" "java/lang/IndexOutOfBoundsException") (by decide +kernel))) h7_4 h8_4 h9_4 ?_
    refine lv_astore_n (lv' := [(3, .ref (q9_4)), (0, .ref (ad 0)), (1, .int (x0)), (2, .ref (ou))]) hx hb dL_world_12 rfl hl (by decide) rfl (fun ls hl => ?_)
    refine lv_iconst (v := 1) hx hb dL_world_13 (by decide) ?_
    exact mr_i (u := (fl9_4, HL9_4, LB9_4, SO9_4, NG9_4, WO9_4, SA9_4, SE9_4, F)) hx hb hrt hlk dL_world_14 hS hP hD ⟨(Or.inr (⟨rfl, hc9, hxsvp⟩)), trivial⟩
  · skip
    obtain ⟨fl9_4, HL9_4, LB9_4, SO9_4, NG9_4, WO9_4, SA9_4, SE9_4⟩ := u_4
    obtain ⟨rfl, hok_4, hsvp_4, -⟩ := hq_4
    have hok_4 : ¬ nth (fun e => woM A (soE B Hd O R nd A) e) (2 ^ A) x0 = -1 := hok_4
    have hsvp_4 : fl9_4 = true → svOK B Hd O R nd A HL9_4 LB9_4 SO9_4 NG9_4 WO9_4 SA9_4 SE9_4 := hsvp_4
    have hP : va_P D vwCl (wKL cI cZ cJ ad ou N A fl9_4 an nd wt B Hd O R HL9_4 LB9_4 SO9_4 NG9_4 WO9_4 SA9_4 SE9_4 F) H := hP.sub [1, 2, 3, 4, 5, 6, 7, 8, 9, 10, 11, 12, 13, 14, 0] rfl
    have hD : va_D Ap (wKL cI cZ cJ ad ou N A fl9_4 an nd wt B Hd O R HL9_4 LB9_4 SO9_4 NG9_4 WO9_4 SA9_4 SE9_4 F) := hD.sub [1, 2, 3, 4, 5, 6, 7, 8, 9, 10, 11, 12, 13, 14, 0] (by decide) rfl
    refine W.widen (k := 1) (n := 6) (by decide) (by decide) ?_
    refine lv_i2l hx hb dL_world_7 rfl ?_
    refine sl_0 (D := D) (f := F) (x := (nth (fun e => woM A (soE B Hd O R nd A) e) (2 ^ A) x0).toInt64) hx hb hK hP hD hS 14 2 rfl rfl dL_world_8 (fun H locs hP hD hS => ?_)
    have hP : va_P D vwCl (wKL cI cZ cJ ad ou N A fl9_4 an nd wt B Hd O R HL9_4 LB9_4 SO9_4 NG9_4 WO9_4 SA9_4 SE9_4 (vp_updL F 0 ((nth (fun e => woM A (soE B Hd O R nd A) e) (2 ^ A) x0).toInt64))) H := hP
    have hD : va_D Ap (wKL cI cZ cJ ad ou N A fl9_4 an nd wt B Hd O R HL9_4 LB9_4 SO9_4 NG9_4 WO9_4 SA9_4 SE9_4 (vp_updL F 0 ((nth (fun e => woM A (soE B Hd O R nd A) e) (2 ^ A) x0).toInt64))) := hD
    refine lv_goto (tgt := 15) hx hb dL_world_9 (by decide) ?_
    refine lv_iconst (v := 0) hx hb dL_world_15 (by decide) ?_
    exact mr_i (u := (fl9_4, HL9_4, LB9_4, SO9_4, NG9_4, WO9_4, SA9_4, SE9_4, vp_updL F 0 ((nth (fun e => woM A (soE B Hd O R nd A) e) (2 ^ A) x0).toInt64))) hx hb hrt hlk dL_world_16 hS hP hD ⟨(Or.inl ⟨rfl, _, rfl, hok_4, hsvp_4, rfl⟩), trivial⟩
set_option maxHeartbeats 4000000 in
set_option maxRecDepth 100000 in
theorem c_L_worldsWith (l : Launch) (D : va_G) (cI cZ cJ cE : ClassId) (ad : Nat → Nat) (ou : Nat) (N : Nat) (A : Nat) (fl : Bool) (an : Nat → Int32) (nd : Nat → Int32) (wt : Nat → Int32) (B : Nat → Int32) (Hd : Nat → Int32) (O : Nat → Bool) (R : Nat) (HL : Nat → Int32) (LB : Nat → Int32) (SO : Nat → Bool) (NG : Nat → Bool) (WO : Nat → Bool) (SA : Nat) (SE : Nat) (F : Nat → Int64) (x0 : Int32) (hA : A ≤ 9) (hR : R ≤ 40) (hn : N ≤ 24) (hH : okH N Hd R) (hN : okN N nd A) (hsv : fl = true → svOK B Hd O R nd A HL LB SO NG WO SA SE) (hst : l.stackTraces = false) (sz : Nat) : Met l yL_worldsWith wsL_worldsWith ({ frames := 8, cells := 1, slots := 6, locals := 162 }) (pcL D [(cI, .int), (cZ, .boolean), (cJ, .long), (cE, .double)] sz (wKL cI cZ cJ ad ou N A fl an nd wt B Hd O R HL LB SO NG WO SA SE F) [.ref (ad 0), .int (x0), .ref (ou)]) (va_Qi (fun (r9 : Int32) (u9 : (Bool) × (Nat → Int32) × (Nat → Int32) × (Nat → Bool) × (Nat → Bool) × (Nat → Bool) × (Nat) × (Nat) × (Nat → Int64)) => ((r9 = 0 ∧ ∃ rr : Int32, rr = nI (cnt (fun e => woM A (soE B Hd O R nd A) e && hs ((hdE B Hd O R nd A) e) x0) (2 ^ A)) ∧ (inR x0 N = true) ∧ ((u9.1) = true → svOK B Hd O R nd A (u9.2.1) (u9.2.2.1) (u9.2.2.2.1) (u9.2.2.2.2.1) (u9.2.2.2.2.2.1) (u9.2.2.2.2.2.2.1) (u9.2.2.2.2.2.2.2.1)) ∧ (u9.2.2.2.2.2.2.2.2) 0 = rr.toInt64) ∨ (r9 = 1 ∧ (inR x0 N = false) ∧ ((u9.1) = true → svOK B Hd O R nd A (u9.2.1) (u9.2.2.1) (u9.2.2.2.1) (u9.2.2.2.2.1) (u9.2.2.2.2.2.1) (u9.2.2.2.2.2.2.1) (u9.2.2.2.2.2.2.2.1)))) ∧ (True)) (wB D (va_A (wKL cI cZ cJ ad ou N A fl an nd wt B Hd O R HL LB SO NG WO SA SE F) sz) (fun u9 : (Bool) × (Nat → Int32) × (Nat → Int32) × (Nat → Bool) × (Nat → Bool) × (Nat → Bool) × (Nat) × (Nat) × (Nat → Int64) => (wKL cI cZ cJ ad ou N A (u9.1) an nd wt B Hd O R (u9.2.1) (u9.2.2.1) (u9.2.2.2.1) (u9.2.2.2.2.1) (u9.2.2.2.2.2.1) (u9.2.2.2.2.2.2.1) (u9.2.2.2.2.2.2.2.1) (u9.2.2.2.2.2.2.2.2)))) (va_A (wKL cI cZ cJ ad ou N A fl an nd wt B Hd O R HL LB SO NG WO SA SE F) sz)) 1 6 (va_A (wKL cI cZ cJ ad ou N A fl an nd wt B Hd O R HL LB SO NG WO SA SE F) sz) := by
  refine va_MetW (cc := cL_worldsWith) (maxL := 4) (ret := (some .int)) (hh := [(0, 9, 12, 25)]) (by decide) rfl ?_
  intro p e s m args below meth c s₁ BB hml hv
  obtain ⟨rfl, hsz, hP, hK, hD0, hX, hZ, hY⟩ := hv
  have hx := BB.exec
  have hb := BB.bytes
  have hrt := BB.returns
  have hts := atoms_spec (ws := wsL_worldsWith) BB.pre
  have hown : s.vm.findClass RL = some m.cls := findClass_of_methodNamed BB.named
  have hlk := BB.notSynchronized
  subst hsz
  have hD := hD0.self (sz := s.heap.size)
  generalize hAe : va_A (wKL cI cZ cJ ad ou N A fl an nd wt B Hd O R HL LB SO NG WO SA SE F) s.heap.size = Ap at hD hZ ⊢
  have hAp : ∀ q : Nat, s.heap.size ≤ q → Ap q := fun q h => by rw [← hAe]; exact Or.inr h
  have hS : va_S Ap s.heap s.heap [] := va_S.rf
  have htb := vx_table (x := yL_worldsWith) BB (hts (.codeWith yL_worldsWith cL_worldsWith 4 (some .int) [(0, 9, 12, 25)]) List.mem_cons_self)
  have hl := lv_entry ([.ref (ad 0), .int (x0), .ref (ou)]) (n := 4) (Nat.le_of_ble_eq_true rfl)
  rw [lg_entry_eq]
  generalize (lg_sl ([.ref (ad 0), .int (x0), .ref (ou)]) ++ List.replicate (4 - (lg_sl ([.ref (ad 0), .int (x0), .ref (ou)])).length) Slot.unset).toArray = ls at hl ⊢
  have hl : lv_has ls 4 [(0, .ref (ad 0)), (1, .int (x0)), (2, .ref (ou))] := hl
  refine lv_aload_n hx hb dL_worldsWith_0 rfl (lv_at hl 2 rfl) ?_
  refine lv_iconst (v := 0) hx hb dL_worldsWith_1 (by decide) ?_
  refine lv_aload_n hx hb dL_worldsWith_2 rfl (lv_at hl 0 rfl) ?_
  refine lv_iload_n hx hb dL_worldsWith_3 rfl (lv_at hl 1 rfl) ?_
  refine xu_i (wr := [(ou, .inl (cJ, 1, .inr (.inl F)))]) (vx_runV (As := [.int (x0)]) (rest := [.int (0), .ref (ou)]) ⟨hx, hb, hml, hown, hts⟩ (c_X2_worldsWith l D cI cZ ad (N) (A) (fl) (an) (nd) (wt) (B) (Hd) (O) (R) (HL) (LB) (SO) (NG) (WO) (SA) (SE) (x0) (hA) (hR) (hn) (hH) (hN) (hsv) hst (s.heap).size) (cwV 1 hts gL_worldsWith_X2_worldsWith rfl rfl rfl (by decide +kernel) ⟨Nat.le_of_ble_eq_true rfl, Nat.le_of_ble_eq_true rfl⟩) (prx_V (q0 := 0) (ci := 2) (hP.sub (ws' := (wK cI cZ ad N A fl an nd wt B Hd O R HL LB SO NG WO SA SE)) [0, 1, 2, 3, 4, 5, 6, 7, 8, 9, 10, 11, 12, 13] rfl) (hD.sub (ws' := (wK cI cZ ad N A fl an nd wt B Hd O R HL LB SO NG WO SA SE)) [0, 1, 2, 3, 4, 5, 6, 7, 8, 9, 10, 11, 12, 13] (by decide) rfl) (hK.sub [0, 1] rfl) hX hZ hS (va_free (wc := (wK cI cZ ad N A fl an nd wt B Hd O R HL LB SO NG WO SA SE)) hD hS hAp [0, 1, 2, 3, 4, 5, 6, 7, 8, 9, 10, 11, 12, 13] rfl) rfl rfl) rfl rfl hl.1 rfl (lv_room (Nat.le_of_ble_eq_true rfl)) dL_worldsWith_4 ⟨Nat.le_of_ble_eq_true rfl, Nat.le_of_ble_eq_true rfl⟩) hP hD hS hAp [0, 1, 2, 3, 4, 5, 6, 7, 8, 9, 10, 11, 12, 13] [14] rfl rfl (by decide) (by decide) (fun E_4 ce_4 q9_4 ux_4 H locs hxp_4 hP hD hS h7_4 h8_4 h9_4 => ?_) (fun r_4 u_4 H locs hq_4 hP hD hS => ?_)
  · skip
    obtain ⟨fl9_4, HL9_4, LB9_4, SO9_4, NG9_4, WO9_4, SA9_4, SE9_4⟩ := ux_4
    have hP : va_P D vwCl (wKL cI cZ cJ ad ou N A fl9_4 an nd wt B Hd O R HL9_4 LB9_4 SO9_4 NG9_4 WO9_4 SA9_4 SE9_4 F) H := hP.sub [1, 2, 3, 4, 5, 6, 7, 8, 9, 10, 11, 12, 13, 14, 0] rfl
    have hD : va_D Ap (wKL cI cZ cJ ad ou N A fl9_4 an nd wt B Hd O R HL9_4 LB9_4 SO9_4 NG9_4 WO9_4 SA9_4 SE9_4 F) := hD.sub [1, 2, 3, 4, 5, 6, 7, 8, 9, 10, 11, 12, 13, 14, 0] (by decide) rfl
    obtain ⟨hxp_4, hxsvp⟩ := hxp_4
    obtain ⟨hE9, hc9⟩ := hxp_4
    subst hE9
    refine vx_catch (E := "java/lang/IndexOutOfBoundsException") (name := "java/lang/IndexOutOfBoundsException") hown [] ⟨0, 9, 12, 25⟩ [] (htb.trans rfl) (fun z hz => by cases hz) (by decide) (by decide) (hts (.classLink RL 25 "java/lang/IndexOutOfBoundsException") (by decide +kernel)) (va_Nw.use rfl (hX.2 (.castable "java/lang/IndexOutOfBoundsException" "java/lang/IndexOutOfBoundsException") (by decide +kernel))) h7_4 h8_4 h9_4 ?_
    refine lv_astore_n (lv' := [(3, .ref (q9_4)), (0, .ref (ad 0)), (1, .int (x0)), (2, .ref (ou))]) hx hb dL_worldsWith_12 rfl hl (by decide) rfl (fun ls hl => ?_)
    refine lv_iconst (v := 1) hx hb dL_worldsWith_13 (by decide) ?_
    exact mr_i (u := (fl9_4, HL9_4, LB9_4, SO9_4, NG9_4, WO9_4, SA9_4, SE9_4, F)) hx hb hrt hlk dL_worldsWith_14 hS hP hD ⟨(Or.inr (⟨rfl, hc9, hxsvp⟩)), trivial⟩
  · skip
    obtain ⟨fl9_4, HL9_4, LB9_4, SO9_4, NG9_4, WO9_4, SA9_4, SE9_4⟩ := u_4
    obtain ⟨rfl, hok_4, hsvp_4, -⟩ := hq_4
    have hok_4 : inR x0 N = true := hok_4
    have hsvp_4 : fl9_4 = true → svOK B Hd O R nd A HL9_4 LB9_4 SO9_4 NG9_4 WO9_4 SA9_4 SE9_4 := hsvp_4
    have hP : va_P D vwCl (wKL cI cZ cJ ad ou N A fl9_4 an nd wt B Hd O R HL9_4 LB9_4 SO9_4 NG9_4 WO9_4 SA9_4 SE9_4 F) H := hP.sub [1, 2, 3, 4, 5, 6, 7, 8, 9, 10, 11, 12, 13, 14, 0] rfl
    have hD : va_D Ap (wKL cI cZ cJ ad ou N A fl9_4 an nd wt B Hd O R HL9_4 LB9_4 SO9_4 NG9_4 WO9_4 SA9_4 SE9_4 F) := hD.sub [1, 2, 3, 4, 5, 6, 7, 8, 9, 10, 11, 12, 13, 14, 0] (by decide) rfl
    refine W.widen (k := 1) (n := 6) (by decide) (by decide) ?_
    refine lv_i2l hx hb dL_worldsWith_7 rfl ?_
    refine sl_0 (D := D) (f := F) (x := (nI (cnt (fun e => woM A (soE B Hd O R nd A) e && hs ((hdE B Hd O R nd A) e) x0) (2 ^ A))).toInt64) hx hb hK hP hD hS 14 2 rfl rfl dL_worldsWith_8 (fun H locs hP hD hS => ?_)
    have hP : va_P D vwCl (wKL cI cZ cJ ad ou N A fl9_4 an nd wt B Hd O R HL9_4 LB9_4 SO9_4 NG9_4 WO9_4 SA9_4 SE9_4 (vp_updL F 0 ((nI (cnt (fun e => woM A (soE B Hd O R nd A) e && hs ((hdE B Hd O R nd A) e) x0) (2 ^ A))).toInt64))) H := hP
    have hD : va_D Ap (wKL cI cZ cJ ad ou N A fl9_4 an nd wt B Hd O R HL9_4 LB9_4 SO9_4 NG9_4 WO9_4 SA9_4 SE9_4 (vp_updL F 0 ((nI (cnt (fun e => woM A (soE B Hd O R nd A) e && hs ((hdE B Hd O R nd A) e) x0) (2 ^ A))).toInt64))) := hD
    refine lv_goto (tgt := 15) hx hb dL_worldsWith_9 (by decide) ?_
    refine lv_iconst (v := 0) hx hb dL_worldsWith_15 (by decide) ?_
    exact mr_i (u := (fl9_4, HL9_4, LB9_4, SO9_4, NG9_4, WO9_4, SA9_4, SE9_4, vp_updL F 0 ((nI (cnt (fun e => woM A (soE B Hd O R nd A) e && hs ((hdE B Hd O R nd A) e) x0) (2 ^ A))).toInt64))) hx hb hrt hlk dL_worldsWith_16 hS hP hD ⟨(Or.inl ⟨rfl, _, rfl, hok_4, hsvp_4, rfl⟩), trivial⟩
set_option maxHeartbeats 4000000 in
set_option maxRecDepth 100000 in
theorem c_L_belief (l : Launch) (D : va_G) (cI cZ cJ cE : ClassId) (ad : Nat → Nat) (ou : Nat) (N : Nat) (A : Nat) (fl : Bool) (an : Nat → Int32) (nd : Nat → Int32) (wt : Nat → Int32) (B : Nat → Int32) (Hd : Nat → Int32) (O : Nat → Bool) (R : Nat) (HL : Nat → Int32) (LB : Nat → Int32) (SO : Nat → Bool) (NG : Nat → Bool) (WO : Nat → Bool) (SA : Nat) (SE : Nat) (G : Nat → UInt64) (x0 : Int32) (hA : A ≤ 9) (hR : R ≤ 40) (hn : N ≤ 24) (hH : okH N Hd R) (hN : okN N nd A) (hsv : fl = true → svOK B Hd O R nd A HL LB SO NG WO SA SE) (hst : l.stackTraces = false) (sz : Nat) : Met l yL_belief wsL_belief ({ frames := 8, cells := 1, slots := 6, locals := 163 }) (pcL D [(cI, .int), (cZ, .boolean), (cJ, .long), (cE, .double)] sz (wKD cI cZ cE ad ou N A fl an nd wt B Hd O R HL LB SO NG WO SA SE G) [.ref (ad 0), .int (x0), .ref (ou)]) (va_Qi (fun (r9 : Int32) (u9 : (Bool) × (Nat → Int32) × (Nat → Int32) × (Nat → Bool) × (Nat → Bool) × (Nat → Bool) × (Nat) × (Nat) × (Nat → UInt64)) => ((r9 = 0 ∧ ∃ rr : UInt64, rr = blE (cnt (soE B Hd O R nd A) (2 ^ A)) (cnt (fun e => (soE B Hd O R nd A) e && hs ((hdE B Hd O R nd A) e) x0) (2 ^ A)) ∧ (inR x0 N = true) ∧ ((u9.1) = true → svOK B Hd O R nd A (u9.2.1) (u9.2.2.1) (u9.2.2.2.1) (u9.2.2.2.2.1) (u9.2.2.2.2.2.1) (u9.2.2.2.2.2.2.1) (u9.2.2.2.2.2.2.2.1)) ∧ (u9.2.2.2.2.2.2.2.2) 0 = rr) ∨ (r9 = 1 ∧ (inR x0 N = false) ∧ ((u9.1) = true → svOK B Hd O R nd A (u9.2.1) (u9.2.2.1) (u9.2.2.2.1) (u9.2.2.2.2.1) (u9.2.2.2.2.2.1) (u9.2.2.2.2.2.2.1) (u9.2.2.2.2.2.2.2.1)))) ∧ (True)) (wB D (va_A (wKD cI cZ cE ad ou N A fl an nd wt B Hd O R HL LB SO NG WO SA SE G) sz) (fun u9 : (Bool) × (Nat → Int32) × (Nat → Int32) × (Nat → Bool) × (Nat → Bool) × (Nat → Bool) × (Nat) × (Nat) × (Nat → UInt64) => (wKD cI cZ cE ad ou N A (u9.1) an nd wt B Hd O R (u9.2.1) (u9.2.2.1) (u9.2.2.2.1) (u9.2.2.2.2.1) (u9.2.2.2.2.2.1) (u9.2.2.2.2.2.2.1) (u9.2.2.2.2.2.2.2.1) (u9.2.2.2.2.2.2.2.2)))) (va_A (wKD cI cZ cE ad ou N A fl an nd wt B Hd O R HL LB SO NG WO SA SE G) sz)) 1 6 (va_A (wKD cI cZ cE ad ou N A fl an nd wt B Hd O R HL LB SO NG WO SA SE G) sz) := by
  refine va_MetW (cc := cL_belief) (maxL := 4) (ret := (some .int)) (hh := [(0, 8, 11, 25)]) (by decide) rfl ?_
  intro p e s m args below meth c s₁ BB hml hv
  obtain ⟨rfl, hsz, hP, hK, hD0, hX, hZ, hY⟩ := hv
  have hx := BB.exec
  have hb := BB.bytes
  have hrt := BB.returns
  have hts := atoms_spec (ws := wsL_belief) BB.pre
  have hown : s.vm.findClass RL = some m.cls := findClass_of_methodNamed BB.named
  have hlk := BB.notSynchronized
  subst hsz
  have hD := hD0.self (sz := s.heap.size)
  generalize hAe : va_A (wKD cI cZ cE ad ou N A fl an nd wt B Hd O R HL LB SO NG WO SA SE G) s.heap.size = Ap at hD hZ ⊢
  have hAp : ∀ q : Nat, s.heap.size ≤ q → Ap q := fun q h => by rw [← hAe]; exact Or.inr h
  have hS : va_S Ap s.heap s.heap [] := va_S.rf
  have htb := vx_table (x := yL_belief) BB (hts (.codeWith yL_belief cL_belief 4 (some .int) [(0, 8, 11, 25)]) List.mem_cons_self)
  have hl := lv_entry ([.ref (ad 0), .int (x0), .ref (ou)]) (n := 4) (Nat.le_of_ble_eq_true rfl)
  rw [lg_entry_eq]
  generalize (lg_sl ([.ref (ad 0), .int (x0), .ref (ou)]) ++ List.replicate (4 - (lg_sl ([.ref (ad 0), .int (x0), .ref (ou)])).length) Slot.unset).toArray = ls at hl ⊢
  have hl : lv_has ls 4 [(0, .ref (ad 0)), (1, .int (x0)), (2, .ref (ou))] := hl
  refine lv_aload_n hx hb dL_belief_0 rfl (lv_at hl 2 rfl) ?_
  refine lv_iconst (v := 0) hx hb dL_belief_1 (by decide) ?_
  refine lv_aload_n hx hb dL_belief_2 rfl (lv_at hl 0 rfl) ?_
  refine lv_iload_n hx hb dL_belief_3 rfl (lv_at hl 1 rfl) ?_
  refine xu_d (wr := [(ou, .inl (cE, 1, .inr (.inr (.inr (.inl G)))))]) (vx_runV (As := [.int (x0)]) (rest := [.int (0), .ref (ou)]) ⟨hx, hb, hml, hown, hts⟩ (c_X2_belief l D cI cZ ad (N) (A) (fl) (an) (nd) (wt) (B) (Hd) (O) (R) (HL) (LB) (SO) (NG) (WO) (SA) (SE) (x0) (hA) (hR) (hn) (hH) (hN) (hsv) hst (s.heap).size) (cwV 1 hts gL_belief_X2_belief rfl rfl rfl (by decide +kernel) ⟨Nat.le_of_ble_eq_true rfl, Nat.le_of_ble_eq_true rfl⟩) (prx_V (q0 := 0) (ci := 2) (hP.sub (ws' := (wK cI cZ ad N A fl an nd wt B Hd O R HL LB SO NG WO SA SE)) [0, 1, 2, 3, 4, 5, 6, 7, 8, 9, 10, 11, 12, 13] rfl) (hD.sub (ws' := (wK cI cZ ad N A fl an nd wt B Hd O R HL LB SO NG WO SA SE)) [0, 1, 2, 3, 4, 5, 6, 7, 8, 9, 10, 11, 12, 13] (by decide) rfl) (hK.sub [0, 1] rfl) hX hZ hS (va_free (wc := (wK cI cZ ad N A fl an nd wt B Hd O R HL LB SO NG WO SA SE)) hD hS hAp [0, 1, 2, 3, 4, 5, 6, 7, 8, 9, 10, 11, 12, 13] rfl) rfl rfl) rfl rfl hl.1 rfl (lv_room (Nat.le_of_ble_eq_true rfl)) dL_belief_4 ⟨Nat.le_of_ble_eq_true rfl, Nat.le_of_ble_eq_true rfl⟩) hP hD hS hAp [0, 1, 2, 3, 4, 5, 6, 7, 8, 9, 10, 11, 12, 13] [14] rfl rfl (by decide) (by decide) (fun E_4 ce_4 q9_4 ux_4 H locs hxp_4 hP hD hS h7_4 h8_4 h9_4 => ?_) (fun r_4 u_4 H locs hq_4 hP hD hS => ?_)
  · skip
    obtain ⟨fl9_4, HL9_4, LB9_4, SO9_4, NG9_4, WO9_4, SA9_4, SE9_4⟩ := ux_4
    have hP : va_P D vwCl (wKD cI cZ cE ad ou N A fl9_4 an nd wt B Hd O R HL9_4 LB9_4 SO9_4 NG9_4 WO9_4 SA9_4 SE9_4 G) H := hP.sub [1, 2, 3, 4, 5, 6, 7, 8, 9, 10, 11, 12, 13, 14, 0] rfl
    have hD : va_D Ap (wKD cI cZ cE ad ou N A fl9_4 an nd wt B Hd O R HL9_4 LB9_4 SO9_4 NG9_4 WO9_4 SA9_4 SE9_4 G) := hD.sub [1, 2, 3, 4, 5, 6, 7, 8, 9, 10, 11, 12, 13, 14, 0] (by decide) rfl
    obtain ⟨hxp_4, hxsvp⟩ := hxp_4
    obtain ⟨hE9, hc9⟩ := hxp_4
    subst hE9
    refine vx_catch (E := "java/lang/IndexOutOfBoundsException") (name := "java/lang/IndexOutOfBoundsException") hown [] ⟨0, 8, 11, 25⟩ [] (htb.trans rfl) (fun z hz => by cases hz) (by decide) (by decide) (hts (.classLink RL 25 "java/lang/IndexOutOfBoundsException") (by decide +kernel)) (va_Nw.use rfl (hX.2 (.castable "java/lang/IndexOutOfBoundsException" "java/lang/IndexOutOfBoundsException") (by decide +kernel))) h7_4 h8_4 h9_4 ?_
    refine lv_astore_n (lv' := [(3, .ref (q9_4)), (0, .ref (ad 0)), (1, .int (x0)), (2, .ref (ou))]) hx hb dL_belief_11 rfl hl (by decide) rfl (fun ls hl => ?_)
    refine lv_iconst (v := 1) hx hb dL_belief_12 (by decide) ?_
    exact mr_i (u := (fl9_4, HL9_4, LB9_4, SO9_4, NG9_4, WO9_4, SA9_4, SE9_4, G)) hx hb hrt hlk dL_belief_13 hS hP hD ⟨(Or.inr (⟨rfl, hc9, hxsvp⟩)), trivial⟩
  · skip
    obtain ⟨fl9_4, HL9_4, LB9_4, SO9_4, NG9_4, WO9_4, SA9_4, SE9_4⟩ := u_4
    obtain ⟨rfl, hok_4, hsvp_4, -⟩ := hq_4
    have hok_4 : inR x0 N = true := hok_4
    have hsvp_4 : fl9_4 = true → svOK B Hd O R nd A HL9_4 LB9_4 SO9_4 NG9_4 WO9_4 SA9_4 SE9_4 := hsvp_4
    have hP : va_P D vwCl (wKD cI cZ cE ad ou N A fl9_4 an nd wt B Hd O R HL9_4 LB9_4 SO9_4 NG9_4 WO9_4 SA9_4 SE9_4 G) H := hP.sub [1, 2, 3, 4, 5, 6, 7, 8, 9, 10, 11, 12, 13, 14, 0] rfl
    have hD : va_D Ap (wKD cI cZ cE ad ou N A fl9_4 an nd wt B Hd O R HL9_4 LB9_4 SO9_4 NG9_4 WO9_4 SA9_4 SE9_4 G) := hD.sub [1, 2, 3, 4, 5, 6, 7, 8, 9, 10, 11, 12, 13, 14, 0] (by decide) rfl
    refine W.widen (k := 1) (n := 6) (by decide) (by decide) ?_
    refine sd_0 (D := D) (f := G) (x := blE (cnt (soE B Hd O R nd A) (2 ^ A)) (cnt (fun e => (soE B Hd O R nd A) e && hs ((hdE B Hd O R nd A) e) x0) (2 ^ A))) hx hb hK hP hD hS 14 3 rfl rfl dL_belief_7 (fun H locs hP hD hS => ?_)
    have hP : va_P D vwCl (wKD cI cZ cE ad ou N A fl9_4 an nd wt B Hd O R HL9_4 LB9_4 SO9_4 NG9_4 WO9_4 SA9_4 SE9_4 (vf_upd G 0 (blE (cnt (soE B Hd O R nd A) (2 ^ A)) (cnt (fun e => (soE B Hd O R nd A) e && hs ((hdE B Hd O R nd A) e) x0) (2 ^ A))))) H := hP
    have hD : va_D Ap (wKD cI cZ cE ad ou N A fl9_4 an nd wt B Hd O R HL9_4 LB9_4 SO9_4 NG9_4 WO9_4 SA9_4 SE9_4 (vf_upd G 0 (blE (cnt (soE B Hd O R nd A) (2 ^ A)) (cnt (fun e => (soE B Hd O R nd A) e && hs ((hdE B Hd O R nd A) e) x0) (2 ^ A))))) := hD
    refine lv_goto (tgt := 14) hx hb dL_belief_8 (by decide) ?_
    refine lv_iconst (v := 0) hx hb dL_belief_14 (by decide) ?_
    exact mr_i (u := (fl9_4, HL9_4, LB9_4, SO9_4, NG9_4, WO9_4, SA9_4, SE9_4, vf_upd G 0 (blE (cnt (soE B Hd O R nd A) (2 ^ A)) (cnt (fun e => (soE B Hd O R nd A) e && hs ((hdE B Hd O R nd A) e) x0) (2 ^ A))))) hx hb hrt hlk dL_belief_15 hS hP hD ⟨(Or.inl ⟨rfl, _, rfl, hok_4, hsvp_4, rfl⟩), trivial⟩
set_option maxHeartbeats 4000000 in
set_option maxRecDepth 100000 in
theorem c_L_implies (l : Launch) (D : va_G) (cI cZ cJ cE : ClassId) (ad : Nat → Nat) (ou : Nat) (N : Nat) (A : Nat) (fl : Bool) (an : Nat → Int32) (nd : Nat → Int32) (wt : Nat → Int32) (B : Nat → Int32) (Hd : Nat → Int32) (O : Nat → Bool) (R : Nat) (HL : Nat → Int32) (LB : Nat → Int32) (SO : Nat → Bool) (NG : Nat → Bool) (WO : Nat → Bool) (SA : Nat) (SE : Nat) (F : Nat → Int64) (x0 : Int32) (y0 : Int32) (hA : A ≤ 9) (hR : R ≤ 40) (hn : N ≤ 24) (hH : okH N Hd R) (hN : okN N nd A) (hsv : fl = true → svOK B Hd O R nd A HL LB SO NG WO SA SE) (hst : l.stackTraces = false) (sz : Nat) : Met l yL_implies wsL_implies ({ frames := 8, cells := 2, slots := 12, locals := 162 }) (pcL D [(cI, .int), (cZ, .boolean), (cJ, .long), (cE, .double)] sz (wKL cI cZ cJ ad ou N A fl an nd wt B Hd O R HL LB SO NG WO SA SE F) [.ref (ad 0), .int (x0), .int (y0), .ref (ou)]) (va_Qi (fun (r9 : Int32) (u9 : (Bool) × (Nat → Int32) × (Nat → Int32) × (Nat → Bool) × (Nat → Bool) × (Nat → Bool) × (Nat) × (Nat) × (Nat → Int64)) => ((r9 = 0 ∧ ∃ rr : Int32, rr = bI (!(ex (fun e => (soE B Hd O R nd A) e && (hs ((hdE B Hd O R nd A) e) x0 && !(hs ((hdE B Hd O R nd A) e) y0))) (2 ^ A))) ∧ (inR x0 N = true ∧ inR y0 N = true) ∧ ((u9.1) = true → svOK B Hd O R nd A (u9.2.1) (u9.2.2.1) (u9.2.2.2.1) (u9.2.2.2.2.1) (u9.2.2.2.2.2.1) (u9.2.2.2.2.2.2.1) (u9.2.2.2.2.2.2.2.1)) ∧ (u9.2.2.2.2.2.2.2.2) 0 = rr.toInt64) ∨ (r9 = 1 ∧ (inR x0 N = false ∨ (inR x0 N = true ∧ inR y0 N = false)) ∧ ((u9.1) = true → svOK B Hd O R nd A (u9.2.1) (u9.2.2.1) (u9.2.2.2.1) (u9.2.2.2.2.1) (u9.2.2.2.2.2.1) (u9.2.2.2.2.2.2.1) (u9.2.2.2.2.2.2.2.1)))) ∧ (True)) (wB D (va_A (wKL cI cZ cJ ad ou N A fl an nd wt B Hd O R HL LB SO NG WO SA SE F) sz) (fun u9 : (Bool) × (Nat → Int32) × (Nat → Int32) × (Nat → Bool) × (Nat → Bool) × (Nat → Bool) × (Nat) × (Nat) × (Nat → Int64) => (wKL cI cZ cJ ad ou N A (u9.1) an nd wt B Hd O R (u9.2.1) (u9.2.2.1) (u9.2.2.2.1) (u9.2.2.2.2.1) (u9.2.2.2.2.2.1) (u9.2.2.2.2.2.2.1) (u9.2.2.2.2.2.2.2.1) (u9.2.2.2.2.2.2.2.2)))) (va_A (wKL cI cZ cJ ad ou N A fl an nd wt B Hd O R HL LB SO NG WO SA SE F) sz)) 2 12 (va_A (wKL cI cZ cJ ad ou N A fl an nd wt B Hd O R HL LB SO NG WO SA SE F) sz) := by
  refine va_MetW (cc := cL_implies) (maxL := 5) (ret := (some .int)) (hh := [(0, 17, 20, 25)]) (by decide) rfl ?_
  intro p e s m args below meth c s₁ BB hml hv
  obtain ⟨rfl, hsz, hP, hK, hD0, hX, hZ, hY⟩ := hv
  have hx := BB.exec
  have hb := BB.bytes
  have hrt := BB.returns
  have hts := atoms_spec (ws := wsL_implies) BB.pre
  have hown : s.vm.findClass RL = some m.cls := findClass_of_methodNamed BB.named
  have hlk := BB.notSynchronized
  subst hsz
  have hD := hD0.self (sz := s.heap.size)
  generalize hAe : va_A (wKL cI cZ cJ ad ou N A fl an nd wt B Hd O R HL LB SO NG WO SA SE F) s.heap.size = Ap at hD hZ ⊢
  have hAp : ∀ q : Nat, s.heap.size ≤ q → Ap q := fun q h => by rw [← hAe]; exact Or.inr h
  have hS : va_S Ap s.heap s.heap [] := va_S.rf
  have htb := vx_table (x := yL_implies) BB (hts (.codeWith yL_implies cL_implies 5 (some .int) [(0, 17, 20, 25)]) List.mem_cons_self)
  have hl := lv_entry ([.ref (ad 0), .int (x0), .int (y0), .ref (ou)]) (n := 5) (Nat.le_of_ble_eq_true rfl)
  rw [lg_entry_eq]
  generalize (lg_sl ([.ref (ad 0), .int (x0), .int (y0), .ref (ou)]) ++ List.replicate (5 - (lg_sl ([.ref (ad 0), .int (x0), .int (y0), .ref (ou)])).length) Slot.unset).toArray = ls at hl ⊢
  have hl : lv_has ls 5 [(0, .ref (ad 0)), (1, .int (x0)), (2, .int (y0)), (3, .ref (ou))] := hl
  refine lv_aload_n hx hb dL_implies_0 rfl (lv_at hl 3 rfl) ?_
  refine lv_iconst (v := 0) hx hb dL_implies_1 (by decide) ?_
  refine lv_aload_n hx hb dL_implies_2 rfl (lv_at hl 0 rfl) ?_
  refine lv_iload_n hx hb dL_implies_3 rfl (lv_at hl 1 rfl) ?_
  refine lv_iload_n hx hb dL_implies_4 rfl (lv_at hl 2 rfl) ?_
  refine xu_i (wr := [(ou, .inl (cJ, 1, .inr (.inl F)))]) (vx_runV (As := [.int (x0), .int (y0)]) (rest := [.int (0), .ref (ou)]) ⟨hx, hb, hml, hown, hts⟩ (c_X2_implies l D cI cZ ad (N) (A) (fl) (an) (nd) (wt) (B) (Hd) (O) (R) (HL) (LB) (SO) (NG) (WO) (SA) (SE) (x0) (y0) (hA) (hR) (hn) (hH) (hN) (hsv) hst (s.heap).size) (cwV 2 hts gL_implies_X2_implies rfl rfl rfl (by decide +kernel) ⟨Nat.le_of_ble_eq_true rfl, Nat.le_of_ble_eq_true rfl⟩) (prx_V (q0 := 0) (ci := 2) (hP.sub (ws' := (wK cI cZ ad N A fl an nd wt B Hd O R HL LB SO NG WO SA SE)) [0, 1, 2, 3, 4, 5, 6, 7, 8, 9, 10, 11, 12, 13] rfl) (hD.sub (ws' := (wK cI cZ ad N A fl an nd wt B Hd O R HL LB SO NG WO SA SE)) [0, 1, 2, 3, 4, 5, 6, 7, 8, 9, 10, 11, 12, 13] (by decide) rfl) (hK.sub [0, 1] rfl) hX hZ hS (va_free (wc := (wK cI cZ ad N A fl an nd wt B Hd O R HL LB SO NG WO SA SE)) hD hS hAp [0, 1, 2, 3, 4, 5, 6, 7, 8, 9, 10, 11, 12, 13] rfl) rfl rfl) rfl rfl hl.1 rfl (lv_room (Nat.le_of_ble_eq_true rfl)) dL_implies_5 ⟨Nat.le_of_ble_eq_true rfl, Nat.le_of_ble_eq_true rfl⟩) hP hD hS hAp [0, 1, 2, 3, 4, 5, 6, 7, 8, 9, 10, 11, 12, 13] [14] rfl rfl (by decide) (by decide) (fun E_5 ce_5 q9_5 ux_5 H locs hxp_5 hP hD hS h7_5 h8_5 h9_5 => ?_) (fun r_5 u_5 H locs hq_5 hP hD hS => ?_)
  · skip
    obtain ⟨fl9_5, HL9_5, LB9_5, SO9_5, NG9_5, WO9_5, SA9_5, SE9_5⟩ := ux_5
    have hP : va_P D vwCl (wKL cI cZ cJ ad ou N A fl9_5 an nd wt B Hd O R HL9_5 LB9_5 SO9_5 NG9_5 WO9_5 SA9_5 SE9_5 F) H := hP.sub [1, 2, 3, 4, 5, 6, 7, 8, 9, 10, 11, 12, 13, 14, 0] rfl
    have hD : va_D Ap (wKL cI cZ cJ ad ou N A fl9_5 an nd wt B Hd O R HL9_5 LB9_5 SO9_5 NG9_5 WO9_5 SA9_5 SE9_5 F) := hD.sub [1, 2, 3, 4, 5, 6, 7, 8, 9, 10, 11, 12, 13, 14, 0] (by decide) rfl
    obtain ⟨hxp_5, hxsvp⟩ := hxp_5
    obtain ⟨hE9, hc9⟩ := hxp_5
    subst hE9
    refine vx_catch (E := "java/lang/IndexOutOfBoundsException") (name := "java/lang/IndexOutOfBoundsException") hown [] ⟨0, 17, 20, 25⟩ [] (htb.trans rfl) (fun z hz => by cases hz) (by decide) (by decide) (hts (.classLink RL 25 "java/lang/IndexOutOfBoundsException") (by decide +kernel)) (va_Nw.use rfl (hX.2 (.castable "java/lang/IndexOutOfBoundsException" "java/lang/IndexOutOfBoundsException") (by decide +kernel))) h7_5 h8_5 h9_5 ?_
    refine lv_astore (lv' := [(4, .ref (q9_5)), (0, .ref (ad 0)), (1, .int (x0)), (2, .int (y0)), (3, .ref (ou))]) hx hb dL_implies_20 hl (by decide) rfl (fun ls hl => ?_)
    refine lv_iconst (v := 1) hx hb dL_implies_22 (by decide) ?_
    exact mr_i (u := (fl9_5, HL9_5, LB9_5, SO9_5, NG9_5, WO9_5, SA9_5, SE9_5, F)) hx hb hrt hlk dL_implies_23 hS hP hD ⟨(Or.inr (⟨rfl, hc9, hxsvp⟩)), trivial⟩
  · skip
    obtain ⟨fl9_5, HL9_5, LB9_5, SO9_5, NG9_5, WO9_5, SA9_5, SE9_5⟩ := u_5
    obtain ⟨rfl, hok_5, hsvp_5, -⟩ := hq_5
    have hok_5 : inR x0 N = true ∧ inR y0 N = true := hok_5
    have hsvp_5 : fl9_5 = true → svOK B Hd O R nd A HL9_5 LB9_5 SO9_5 NG9_5 WO9_5 SA9_5 SE9_5 := hsvp_5
    have hP : va_P D vwCl (wKL cI cZ cJ ad ou N A fl9_5 an nd wt B Hd O R HL9_5 LB9_5 SO9_5 NG9_5 WO9_5 SA9_5 SE9_5 F) H := hP.sub [1, 2, 3, 4, 5, 6, 7, 8, 9, 10, 11, 12, 13, 14, 0] rfl
    have hD : va_D Ap (wKL cI cZ cJ ad ou N A fl9_5 an nd wt B Hd O R HL9_5 LB9_5 SO9_5 NG9_5 WO9_5 SA9_5 SE9_5 F) := hD.sub [1, 2, 3, 4, 5, 6, 7, 8, 9, 10, 11, 12, 13, 14, 0] (by decide) rfl
    refine W.widen (k := 2) (n := 12) (by decide) (by decide) ?_
    refine lv_if_eq (tgt := 15) hx hb dL_implies_8 (by decide) (fun c_8 => ?_) (fun c_8 => ?_)
    · skip
      have c_8 := bI_eq0 c_8
      have c_8 := nb_f c_8
      refine lv_lconst (v := 0) hx hb dL_implies_15 rfl ?_
      refine sl_0 (D := D) (f := F) (x := 0) hx hb hK hP hD hS 14 2 rfl rfl dL_implies_16 (fun H locs hP hD hS => ?_)
      have hP : va_P D vwCl (wKL cI cZ cJ ad ou N A fl9_5 an nd wt B Hd O R HL9_5 LB9_5 SO9_5 NG9_5 WO9_5 SA9_5 SE9_5 (vp_updL F 0 (0))) H := hP
      have hD : va_D Ap (wKL cI cZ cJ ad ou N A fl9_5 an nd wt B Hd O R HL9_5 LB9_5 SO9_5 NG9_5 WO9_5 SA9_5 SE9_5 (vp_updL F 0 (0))) := hD
      refine lv_goto (tgt := 24) hx hb dL_implies_17 (by decide) ?_
      refine lv_iconst (v := 0) hx hb dL_implies_24 (by decide) ?_
      exact mr_i (u := (fl9_5, HL9_5, LB9_5, SO9_5, NG9_5, WO9_5, SA9_5, SE9_5, vp_updL F 0 (0))) hx hb hrt hlk dL_implies_25 hS hP hD ⟨(Or.inl ⟨rfl, _, rfl, hok_5, hsvp_5, by first | (rw [c_8]; rfl) | (simp only [c_8]; rfl)⟩), trivial⟩
    · skip
      have c_8 := bI_ne0 c_8
      have c_8 := nb_t c_8
      refine lv_lconst (v := 1) hx hb dL_implies_11 rfl ?_
      refine lv_goto (tgt := 16) hx hb dL_implies_12 (by decide) ?_
      refine sl_0 (D := D) (f := F) (x := 1) hx hb hK hP hD hS 14 2 rfl rfl dL_implies_16 (fun H locs hP hD hS => ?_)
      have hP : va_P D vwCl (wKL cI cZ cJ ad ou N A fl9_5 an nd wt B Hd O R HL9_5 LB9_5 SO9_5 NG9_5 WO9_5 SA9_5 SE9_5 (vp_updL F 0 (1))) H := hP
      have hD : va_D Ap (wKL cI cZ cJ ad ou N A fl9_5 an nd wt B Hd O R HL9_5 LB9_5 SO9_5 NG9_5 WO9_5 SA9_5 SE9_5 (vp_updL F 0 (1))) := hD
      refine lv_goto (tgt := 24) hx hb dL_implies_17 (by decide) ?_
      refine lv_iconst (v := 0) hx hb dL_implies_24 (by decide) ?_
      exact mr_i (u := (fl9_5, HL9_5, LB9_5, SO9_5, NG9_5, WO9_5, SA9_5, SE9_5, vp_updL F 0 (1))) hx hb hrt hlk dL_implies_25 hS hP hD ⟨(Or.inl ⟨rfl, _, rfl, hok_5, hsvp_5, by first | (rw [c_8]; rfl) | (simp only [c_8]; rfl)⟩), trivial⟩
set_option maxHeartbeats 4000000 in
set_option maxRecDepth 100000 in
theorem c_L_excludes (l : Launch) (D : va_G) (cI cZ cJ cE : ClassId) (ad : Nat → Nat) (ou : Nat) (N : Nat) (A : Nat) (fl : Bool) (an : Nat → Int32) (nd : Nat → Int32) (wt : Nat → Int32) (B : Nat → Int32) (Hd : Nat → Int32) (O : Nat → Bool) (R : Nat) (HL : Nat → Int32) (LB : Nat → Int32) (SO : Nat → Bool) (NG : Nat → Bool) (WO : Nat → Bool) (SA : Nat) (SE : Nat) (F : Nat → Int64) (x0 : Int32) (y0 : Int32) (hA : A ≤ 9) (hR : R ≤ 40) (hn : N ≤ 24) (hH : okH N Hd R) (hN : okN N nd A) (hsv : fl = true → svOK B Hd O R nd A HL LB SO NG WO SA SE) (hst : l.stackTraces = false) (sz : Nat) : Met l yL_excludes wsL_excludes ({ frames := 8, cells := 2, slots := 12, locals := 162 }) (pcL D [(cI, .int), (cZ, .boolean), (cJ, .long), (cE, .double)] sz (wKL cI cZ cJ ad ou N A fl an nd wt B Hd O R HL LB SO NG WO SA SE F) [.ref (ad 0), .int (x0), .int (y0), .ref (ou)]) (va_Qi (fun (r9 : Int32) (u9 : (Bool) × (Nat → Int32) × (Nat → Int32) × (Nat → Bool) × (Nat → Bool) × (Nat → Bool) × (Nat) × (Nat) × (Nat → Int64)) => ((r9 = 0 ∧ ∃ rr : Int32, rr = bI (!(ex (fun e => (soE B Hd O R nd A) e && (hs ((hdE B Hd O R nd A) e) x0 && hs ((hdE B Hd O R nd A) e) y0)) (2 ^ A))) ∧ (inR x0 N = true ∧ inR y0 N = true) ∧ ((u9.1) = true → svOK B Hd O R nd A (u9.2.1) (u9.2.2.1) (u9.2.2.2.1) (u9.2.2.2.2.1) (u9.2.2.2.2.2.1) (u9.2.2.2.2.2.2.1) (u9.2.2.2.2.2.2.2.1)) ∧ (u9.2.2.2.2.2.2.2.2) 0 = rr.toInt64) ∨ (r9 = 1 ∧ (inR x0 N = false ∨ (inR x0 N = true ∧ inR y0 N = false)) ∧ ((u9.1) = true → svOK B Hd O R nd A (u9.2.1) (u9.2.2.1) (u9.2.2.2.1) (u9.2.2.2.2.1) (u9.2.2.2.2.2.1) (u9.2.2.2.2.2.2.1) (u9.2.2.2.2.2.2.2.1)))) ∧ (True)) (wB D (va_A (wKL cI cZ cJ ad ou N A fl an nd wt B Hd O R HL LB SO NG WO SA SE F) sz) (fun u9 : (Bool) × (Nat → Int32) × (Nat → Int32) × (Nat → Bool) × (Nat → Bool) × (Nat → Bool) × (Nat) × (Nat) × (Nat → Int64) => (wKL cI cZ cJ ad ou N A (u9.1) an nd wt B Hd O R (u9.2.1) (u9.2.2.1) (u9.2.2.2.1) (u9.2.2.2.2.1) (u9.2.2.2.2.2.1) (u9.2.2.2.2.2.2.1) (u9.2.2.2.2.2.2.2.1) (u9.2.2.2.2.2.2.2.2)))) (va_A (wKL cI cZ cJ ad ou N A fl an nd wt B Hd O R HL LB SO NG WO SA SE F) sz)) 2 12 (va_A (wKL cI cZ cJ ad ou N A fl an nd wt B Hd O R HL LB SO NG WO SA SE F) sz) := by
  refine va_MetW (cc := cL_excludes) (maxL := 5) (ret := (some .int)) (hh := [(0, 17, 20, 25)]) (by decide) rfl ?_
  intro p e s m args below meth c s₁ BB hml hv
  obtain ⟨rfl, hsz, hP, hK, hD0, hX, hZ, hY⟩ := hv
  have hx := BB.exec
  have hb := BB.bytes
  have hrt := BB.returns
  have hts := atoms_spec (ws := wsL_excludes) BB.pre
  have hown : s.vm.findClass RL = some m.cls := findClass_of_methodNamed BB.named
  have hlk := BB.notSynchronized
  subst hsz
  have hD := hD0.self (sz := s.heap.size)
  generalize hAe : va_A (wKL cI cZ cJ ad ou N A fl an nd wt B Hd O R HL LB SO NG WO SA SE F) s.heap.size = Ap at hD hZ ⊢
  have hAp : ∀ q : Nat, s.heap.size ≤ q → Ap q := fun q h => by rw [← hAe]; exact Or.inr h
  have hS : va_S Ap s.heap s.heap [] := va_S.rf
  have htb := vx_table (x := yL_excludes) BB (hts (.codeWith yL_excludes cL_excludes 5 (some .int) [(0, 17, 20, 25)]) List.mem_cons_self)
  have hl := lv_entry ([.ref (ad 0), .int (x0), .int (y0), .ref (ou)]) (n := 5) (Nat.le_of_ble_eq_true rfl)
  rw [lg_entry_eq]
  generalize (lg_sl ([.ref (ad 0), .int (x0), .int (y0), .ref (ou)]) ++ List.replicate (5 - (lg_sl ([.ref (ad 0), .int (x0), .int (y0), .ref (ou)])).length) Slot.unset).toArray = ls at hl ⊢
  have hl : lv_has ls 5 [(0, .ref (ad 0)), (1, .int (x0)), (2, .int (y0)), (3, .ref (ou))] := hl
  refine lv_aload_n hx hb dL_excludes_0 rfl (lv_at hl 3 rfl) ?_
  refine lv_iconst (v := 0) hx hb dL_excludes_1 (by decide) ?_
  refine lv_aload_n hx hb dL_excludes_2 rfl (lv_at hl 0 rfl) ?_
  refine lv_iload_n hx hb dL_excludes_3 rfl (lv_at hl 1 rfl) ?_
  refine lv_iload_n hx hb dL_excludes_4 rfl (lv_at hl 2 rfl) ?_
  refine xu_i (wr := [(ou, .inl (cJ, 1, .inr (.inl F)))]) (vx_runV (As := [.int (x0), .int (y0)]) (rest := [.int (0), .ref (ou)]) ⟨hx, hb, hml, hown, hts⟩ (c_X2_excludes l D cI cZ ad (N) (A) (fl) (an) (nd) (wt) (B) (Hd) (O) (R) (HL) (LB) (SO) (NG) (WO) (SA) (SE) (x0) (y0) (hA) (hR) (hn) (hH) (hN) (hsv) hst (s.heap).size) (cwV 2 hts gL_excludes_X2_excludes rfl rfl rfl (by decide +kernel) ⟨Nat.le_of_ble_eq_true rfl, Nat.le_of_ble_eq_true rfl⟩) (prx_V (q0 := 0) (ci := 2) (hP.sub (ws' := (wK cI cZ ad N A fl an nd wt B Hd O R HL LB SO NG WO SA SE)) [0, 1, 2, 3, 4, 5, 6, 7, 8, 9, 10, 11, 12, 13] rfl) (hD.sub (ws' := (wK cI cZ ad N A fl an nd wt B Hd O R HL LB SO NG WO SA SE)) [0, 1, 2, 3, 4, 5, 6, 7, 8, 9, 10, 11, 12, 13] (by decide) rfl) (hK.sub [0, 1] rfl) hX hZ hS (va_free (wc := (wK cI cZ ad N A fl an nd wt B Hd O R HL LB SO NG WO SA SE)) hD hS hAp [0, 1, 2, 3, 4, 5, 6, 7, 8, 9, 10, 11, 12, 13] rfl) rfl rfl) rfl rfl hl.1 rfl (lv_room (Nat.le_of_ble_eq_true rfl)) dL_excludes_5 ⟨Nat.le_of_ble_eq_true rfl, Nat.le_of_ble_eq_true rfl⟩) hP hD hS hAp [0, 1, 2, 3, 4, 5, 6, 7, 8, 9, 10, 11, 12, 13] [14] rfl rfl (by decide) (by decide) (fun E_5 ce_5 q9_5 ux_5 H locs hxp_5 hP hD hS h7_5 h8_5 h9_5 => ?_) (fun r_5 u_5 H locs hq_5 hP hD hS => ?_)
  · skip
    obtain ⟨fl9_5, HL9_5, LB9_5, SO9_5, NG9_5, WO9_5, SA9_5, SE9_5⟩ := ux_5
    have hP : va_P D vwCl (wKL cI cZ cJ ad ou N A fl9_5 an nd wt B Hd O R HL9_5 LB9_5 SO9_5 NG9_5 WO9_5 SA9_5 SE9_5 F) H := hP.sub [1, 2, 3, 4, 5, 6, 7, 8, 9, 10, 11, 12, 13, 14, 0] rfl
    have hD : va_D Ap (wKL cI cZ cJ ad ou N A fl9_5 an nd wt B Hd O R HL9_5 LB9_5 SO9_5 NG9_5 WO9_5 SA9_5 SE9_5 F) := hD.sub [1, 2, 3, 4, 5, 6, 7, 8, 9, 10, 11, 12, 13, 14, 0] (by decide) rfl
    obtain ⟨hxp_5, hxsvp⟩ := hxp_5
    obtain ⟨hE9, hc9⟩ := hxp_5
    subst hE9
    refine vx_catch (E := "java/lang/IndexOutOfBoundsException") (name := "java/lang/IndexOutOfBoundsException") hown [] ⟨0, 17, 20, 25⟩ [] (htb.trans rfl) (fun z hz => by cases hz) (by decide) (by decide) (hts (.classLink RL 25 "java/lang/IndexOutOfBoundsException") (by decide +kernel)) (va_Nw.use rfl (hX.2 (.castable "java/lang/IndexOutOfBoundsException" "java/lang/IndexOutOfBoundsException") (by decide +kernel))) h7_5 h8_5 h9_5 ?_
    refine lv_astore (lv' := [(4, .ref (q9_5)), (0, .ref (ad 0)), (1, .int (x0)), (2, .int (y0)), (3, .ref (ou))]) hx hb dL_excludes_20 hl (by decide) rfl (fun ls hl => ?_)
    refine lv_iconst (v := 1) hx hb dL_excludes_22 (by decide) ?_
    exact mr_i (u := (fl9_5, HL9_5, LB9_5, SO9_5, NG9_5, WO9_5, SA9_5, SE9_5, F)) hx hb hrt hlk dL_excludes_23 hS hP hD ⟨(Or.inr (⟨rfl, hc9, hxsvp⟩)), trivial⟩
  · skip
    obtain ⟨fl9_5, HL9_5, LB9_5, SO9_5, NG9_5, WO9_5, SA9_5, SE9_5⟩ := u_5
    obtain ⟨rfl, hok_5, hsvp_5, -⟩ := hq_5
    have hok_5 : inR x0 N = true ∧ inR y0 N = true := hok_5
    have hsvp_5 : fl9_5 = true → svOK B Hd O R nd A HL9_5 LB9_5 SO9_5 NG9_5 WO9_5 SA9_5 SE9_5 := hsvp_5
    have hP : va_P D vwCl (wKL cI cZ cJ ad ou N A fl9_5 an nd wt B Hd O R HL9_5 LB9_5 SO9_5 NG9_5 WO9_5 SA9_5 SE9_5 F) H := hP.sub [1, 2, 3, 4, 5, 6, 7, 8, 9, 10, 11, 12, 13, 14, 0] rfl
    have hD : va_D Ap (wKL cI cZ cJ ad ou N A fl9_5 an nd wt B Hd O R HL9_5 LB9_5 SO9_5 NG9_5 WO9_5 SA9_5 SE9_5 F) := hD.sub [1, 2, 3, 4, 5, 6, 7, 8, 9, 10, 11, 12, 13, 14, 0] (by decide) rfl
    refine W.widen (k := 2) (n := 12) (by decide) (by decide) ?_
    refine lv_if_eq (tgt := 15) hx hb dL_excludes_8 (by decide) (fun c_8 => ?_) (fun c_8 => ?_)
    · skip
      have c_8 := bI_eq0 c_8
      have c_8 := nb_f c_8
      refine lv_lconst (v := 0) hx hb dL_excludes_15 rfl ?_
      refine sl_0 (D := D) (f := F) (x := 0) hx hb hK hP hD hS 14 2 rfl rfl dL_excludes_16 (fun H locs hP hD hS => ?_)
      have hP : va_P D vwCl (wKL cI cZ cJ ad ou N A fl9_5 an nd wt B Hd O R HL9_5 LB9_5 SO9_5 NG9_5 WO9_5 SA9_5 SE9_5 (vp_updL F 0 (0))) H := hP
      have hD : va_D Ap (wKL cI cZ cJ ad ou N A fl9_5 an nd wt B Hd O R HL9_5 LB9_5 SO9_5 NG9_5 WO9_5 SA9_5 SE9_5 (vp_updL F 0 (0))) := hD
      refine lv_goto (tgt := 24) hx hb dL_excludes_17 (by decide) ?_
      refine lv_iconst (v := 0) hx hb dL_excludes_24 (by decide) ?_
      exact mr_i (u := (fl9_5, HL9_5, LB9_5, SO9_5, NG9_5, WO9_5, SA9_5, SE9_5, vp_updL F 0 (0))) hx hb hrt hlk dL_excludes_25 hS hP hD ⟨(Or.inl ⟨rfl, _, rfl, hok_5, hsvp_5, by first | (rw [c_8]; rfl) | (simp only [c_8]; rfl)⟩), trivial⟩
    · skip
      have c_8 := bI_ne0 c_8
      have c_8 := nb_t c_8
      refine lv_lconst (v := 1) hx hb dL_excludes_11 rfl ?_
      refine lv_goto (tgt := 16) hx hb dL_excludes_12 (by decide) ?_
      refine sl_0 (D := D) (f := F) (x := 1) hx hb hK hP hD hS 14 2 rfl rfl dL_excludes_16 (fun H locs hP hD hS => ?_)
      have hP : va_P D vwCl (wKL cI cZ cJ ad ou N A fl9_5 an nd wt B Hd O R HL9_5 LB9_5 SO9_5 NG9_5 WO9_5 SA9_5 SE9_5 (vp_updL F 0 (1))) H := hP
      have hD : va_D Ap (wKL cI cZ cJ ad ou N A fl9_5 an nd wt B Hd O R HL9_5 LB9_5 SO9_5 NG9_5 WO9_5 SA9_5 SE9_5 (vp_updL F 0 (1))) := hD
      refine lv_goto (tgt := 24) hx hb dL_excludes_17 (by decide) ?_
      refine lv_iconst (v := 0) hx hb dL_excludes_24 (by decide) ?_
      exact mr_i (u := (fl9_5, HL9_5, LB9_5, SO9_5, NG9_5, WO9_5, SA9_5, SE9_5, vp_updL F 0 (1))) hx hb hrt hlk dL_excludes_25 hS hP hD ⟨(Or.inl ⟨rfl, _, rfl, hok_5, hsvp_5, by first | (rw [c_8]; rfl) | (simp only [c_8]; rfl)⟩), trivial⟩
