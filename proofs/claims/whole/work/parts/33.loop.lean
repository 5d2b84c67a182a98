/-! the law's loop -/
theorem and31 (x : Int32) : ∃ k : Nat, k < 32 ∧ x &&& 31 = nI k := by
  refine ⟨(x &&& 31).toBitVec.toNat, ?_, ?_⟩
  · rw [Int32.toBitVec_and, BitVec.toNat_and]
    exact Nat.lt_of_le_of_lt Nat.and_le_right (by decide)
  · apply Int32.toBitVec_inj.mp
    show _ = BitVec.ofNat 32 _
    rw [BitVec.ofNat_toNat]
    simp
theorem sub3 {L : Nat} (h : L ≤ 1536) : (Int32.ofNat L - 3).toInt = (L : Int) - 3 := by
  have h1 : (Int32.ofNat L).toInt = (L : Int) := nI_toInt (n := L) (by omega)
  rw [Int32.toInt_sub, h1]
  have h3 : (3 : Int32).toInt = 3 := by decide
  rw [h3]
  apply Int.bmod_eq_of_le <;> omega
theorem go3 {L i : Nat} (h : L ≤ 1536) (hi : i ≤ L) (hc : ¬ (Int32.ofNat L - 3 < nI i)) : i + 3 ≤ L := by
  rw [Int32.lt_iff_toInt_lt, sub3 h, nI_toInt (by omega)] at hc
  omega
set_option maxHeartbeats 4000000 in
set_option maxRecDepth 100000 in
theorem law_loop {p : Program} {e : Env} {s : State} {m : MethodId} {below : List Frame} {meth : Method} {c : Code} (l : Launch) (hst : l.stackTraces = false) {b L : Nat} {xs : Nat → Int32} (hL : L ≤ 1536) (C0 : lw_At p s m meth c b L xs) (D : va_G) (cI cZ cJ cE : ClassId) (ad md : Nat → Nat) (ou od : Nat) (hK : kn D (tyL cI cZ cJ cE) s) (hX : xK s) (hZ : xZ (apS s) s s.heap) (hY : yN s) :
    ∀ (n i cs sl : Nat), 3 * i ≤ L → L + 1 ≤ 3 * i + n → cs = 25 + 2 * i → sl = 3942 + 12 * i → ∀ (N A : Nat) (fl : Bool) (an nd wt B Hd : Nat → Int32) (O : Nat → Bool) (R : Nat) (HL LB : Nat → Int32) (SO NG WO : Nat → Bool) (SA SE : Nat) (th : Int32) (kw : Bool) (HM : Nat → Int32) (CO : Nat → Bool) (F : Nat → Int64) (G : Nat → UInt64) (H : Heap) (locs : List Loc), Inv N A fl nd wt B Hd O R HL LB SO NG WO SA SE kw HM CO → va_P D vwCl (wZ cI cZ cJ cE ad md ou od N A fl an nd wt B Hd O R HL LB SO NG WO SA SE th N A R kw an nd wt B Hd O HM CO F G) H → va_D (apS s) (wZ cI cZ cJ cE ad md ou od N A fl an nd wt B Hd O R HL LB SO NG WO SA SE th N A R kw an nd wt B Hd O HM CO F G) → va_S (apS s) s.heap H locs → ∀ ls : Array Slot, lv_has ls 9 [(0, .ref b), (1, .ref (ad 0)), (2, .ref (md 0)), (3, .ref ou), (4, .ref od), (5, .int (nI (3 * i)))] → W p l e room_1 s m #[Value.ref b] below meth c H locs cs sl (lw_Z below #[Value.ref b] s) (F0 m 28 ls []) := by
  have C1 := C0
  obtain ⟨hx, hb0, hr, hml, hown, hts, hXs, hbl, hlocks, hgv⟩ := C1
  have hb : c.code = cL_law := hb0
  have hbA : ¬ apS s b := Nat.not_le.mpr hbl
  intro n
  induction n with
  | zero => intro i cs sl h1 h2; exact absurd h2 (by omega)
  | succ n ih =>
    intro i cs sl hi hn9 hcs hsl N A fl an nd wt B Hd O R HL LB SO NG WO SA SE th kw HM CO F G H locs hI hP hD hS ls hl
    refine lv_iload hx hb dL_law_28 (lv_at hl 5 rfl) ?_
    refine lv_aload_n hx hb dL_law_30 rfl (lv_at hl 0 rfl) ?_
    refine va_slen hx hb hXs hbl hbA hS dL_law_31 ?_
    refine lv_iconst (v := 3) hx hb dL_law_32 (by decide) ?_
    refine lv_isub hx hb dL_law_33 ?_
    refine lv_icmp_gt (tgt := 1868) hx hb dL_law_34 (by decide) (fun c_34 => ?_) (fun c_34 => ?_)
    · refine va_forget (fun q hq => hS.2.2 q hq) ?_
      refine W.widen (k := 1061) (n := 12206) (by omega) (by omega) ?_
      refine lv_iconst (v := 1) hx hb dL_law_1868 (by decide) ?_
      exact lw_ret0 hx hb0 hr hlocks dL_law_1869
    · have hi3 : 3 * i + 3 ≤ L := go3 hL hi c_34
      have hk : lwK p l e s m below meth c b D cI cZ cJ cE ad md ou od cs sl (3 * i) := by
        intro N A fl an nd wt B Hd O R HL LB SO NG WO SA SE th kw HM CO F G H locs hI hP hD hS ls hl
        refine lv_iinc (v := nI (3 * (i + 1))) (lv' := [(5, .int (nI (3 * (i + 1)))), (0, .ref b), (1, .ref (ad 0)), (2, .ref (md 0)), (3, .ref ou), (4, .ref od)]) hx hb dL_law_1862 hl (k := 5) rfl (nI_add (3 * i) 3) (by decide) rfl (fun ls hl => ?_)
        refine lv_goto (tgt := 28) hx hb dL_law_1865 (by decide) ?_
        exact ih (i + 1) (cs + 2) (sl + 12) (by omega) (by omega) (by omega) (by omega) N A fl an nd wt B Hd O R HL LB SO NG WO SA SE th kw HM CO F G H locs hI hP hD hS ls (lv_sub hl [1, 2, 3, 4, 5, 0] rfl)
      refine lv_aload_n hx hb dL_law_37 rfl (lv_at hl 0 rfl) ?_
      refine lv_iload hx hb dL_law_38 (lv_at hl 5 rfl) ?_
      refine sld_ (i := 3 * i) hx hb hXs hbl hbA hS (by omega) hL dL_law_40 ?_
      refine lv_bipush (v := 31) hx hb dL_law_41 (by decide) ?_
      refine lv_iand hx hb dL_law_43 ?_
      obtain ⟨k, hk32, hke⟩ := and31 (xs (3 * i))
      rw [hke]
      rcases (show k = 0 ∨ k = 1 ∨ k = 2 ∨ k = 3 ∨ k = 4 ∨ k = 5 ∨ k = 6 ∨ k = 7 ∨ k = 8 ∨ k = 9 ∨ k = 10 ∨ k = 11 ∨ k = 12 ∨ k = 13 ∨ k = 14 ∨ k = 15 ∨ k = 16 ∨ k = 17 ∨ k = 18 ∨ k = 19 ∨ k = 20 ∨ k = 21 ∨ k = 22 ∨ k = 23 ∨ k = 24 ∨ k = 25 ∨ k = 26 ∨ k = 27 ∨ k = 28 ∨ k = 29 ∨ k = 30 ∨ k = 31 by omega) with rfl | rfl | rfl | rfl | rfl | rfl | rfl | rfl | rfl | rfl | rfl | rfl | rfl | rfl | rfl | rfl | rfl | rfl | rfl | rfl | rfl | rfl | rfl | rfl | rfl | rfl | rfl | rfl | rfl | rfl | rfl | rfl
      · refine lv_tableIn (off := 140) (tgt := 184) hx hb dL_law_44 (by decide) (by decide) (by decide) (by decide) ?_
        exact law_c0 l hst hL C0 D cI cZ cJ cE ad md ou od hK hX hZ hY cs sl (3 * i) (by omega) (by omega) hi3 hk N A fl an nd wt B Hd O R HL LB SO NG WO SA SE th kw HM CO F G hI H locs hP hD hS ls hl
      · refine lv_tableIn (off := 184) (tgt := 228) hx hb dL_law_44 (by decide) (by decide) (by decide) (by decide) ?_
        exact law_c1 l hst hL C0 D cI cZ cJ cE ad md ou od hK hX hZ hY cs sl (3 * i) (by omega) (by omega) hi3 hk N A fl an nd wt B Hd O R HL LB SO NG WO SA SE th kw HM CO F G hI H locs hP hD hS ls hl
      · refine lv_tableIn (off := 240) (tgt := 284) hx hb dL_law_44 (by decide) (by decide) (by decide) (by decide) ?_
        exact law_c2 l hst hL C0 D cI cZ cJ cE ad md ou od hK hX hZ hY cs sl (3 * i) (by omega) (by omega) hi3 hk N A fl an nd wt B Hd O R HL LB SO NG WO SA SE th kw HM CO F G hI H locs hP hD hS ls hl
      · refine lv_tableIn (off := 308) (tgt := 352) hx hb dL_law_44 (by decide) (by decide) (by decide) (by decide) ?_
        exact law_c3 l hst hL C0 D cI cZ cJ cE ad md ou od hK hX hZ hY cs sl (3 * i) (by omega) (by omega) hi3 hk N A fl an nd wt B Hd O R HL LB SO NG WO SA SE th kw HM CO F G hI H locs hP hD hS ls hl
      · refine lv_tableIn (off := 376) (tgt := 420) hx hb dL_law_44 (by decide) (by decide) (by decide) (by decide) ?_
        exact law_c4 l hst hL C0 D cI cZ cJ cE ad md ou od hK hX hZ hY cs sl (3 * i) (by omega) (by omega) hi3 hk N A fl an nd wt B Hd O R HL LB SO NG WO SA SE th kw HM CO F G hI H locs hP hD hS ls hl
      · refine lv_tableIn (off := 467) (tgt := 511) hx hb dL_law_44 (by decide) (by decide) (by decide) (by decide) ?_
        exact law_c5 l hst hL C0 D cI cZ cJ cE ad md ou od hK hX hZ hY cs sl (3 * i) (by omega) (by omega) hi3 hk N A fl an nd wt B Hd O R HL LB SO NG WO SA SE th kw HM CO F G hI H locs hP hD hS ls hl
      · refine lv_tableIn (off := 511) (tgt := 555) hx hb dL_law_44 (by decide) (by decide) (by decide) (by decide) ?_
        exact law_c6 l hst hL C0 D cI cZ cJ cE ad md ou od hK hX hZ hY cs sl (3 * i) (by omega) (by omega) hi3 hk N A fl an nd wt B Hd O R HL LB SO NG WO SA SE th kw HM CO F G hI H locs hP hD hS ls hl
      · refine lv_tableIn (off := 524) (tgt := 568) hx hb dL_law_44 (by decide) (by decide) (by decide) (by decide) ?_
        exact law_c7 l hst hL C0 D cI cZ cJ cE ad md ou od hK hX hZ hY cs sl (3 * i) (by omega) (by omega) hi3 hk N A fl an nd wt B Hd O R HL LB SO NG WO SA SE th kw HM CO F G hI H locs hP hD hS ls hl
      · refine lv_tableIn (off := 537) (tgt := 581) hx hb dL_law_44 (by decide) (by decide) (by decide) (by decide) ?_
        exact law_c8 l hst hL C0 D cI cZ cJ cE ad md ou od hK hX hZ hY cs sl (3 * i) (by omega) (by omega) hi3 hk N A fl an nd wt B Hd O R HL LB SO NG WO SA SE th kw HM CO F G hI H locs hP hD hS ls hl
      · refine lv_tableIn (off := 593) (tgt := 637) hx hb dL_law_44 (by decide) (by decide) (by decide) (by decide) ?_
        exact law_c9 l hst hL C0 D cI cZ cJ cE ad md ou od hK hX hZ hY cs sl (3 * i) (by omega) (by omega) hi3 hk N A fl an nd wt B Hd O R HL LB SO NG WO SA SE th kw HM CO F G hI H locs hP hD hS ls hl
      · refine lv_tableIn (off := 649) (tgt := 693) hx hb dL_law_44 (by decide) (by decide) (by decide) (by decide) ?_
        exact law_c10 l hst hL C0 D cI cZ cJ cE ad md ou od hK hX hZ hY cs sl (3 * i) (by omega) (by omega) hi3 hk N A fl an nd wt B Hd O R HL LB SO NG WO SA SE th kw HM CO F G hI H locs hP hD hS ls hl
      · refine lv_tableIn (off := 724) (tgt := 768) hx hb dL_law_44 (by decide) (by decide) (by decide) (by decide) ?_
        exact law_c11 l hst hL C0 D cI cZ cJ cE ad md ou od hK hX hZ hY cs sl (3 * i) (by omega) (by omega) hi3 hk N A fl an nd wt B Hd O R HL LB SO NG WO SA SE th kw HM CO F G hI H locs hP hD hS ls hl
      · refine lv_tableIn (off := 792) (tgt := 836) hx hb dL_law_44 (by decide) (by decide) (by decide) (by decide) ?_
        exact law_c12 l hst hL C0 D cI cZ cJ cE ad md ou od hK hX hZ hY cs sl (3 * i) (by omega) (by omega) hi3 hk N A fl an nd wt B Hd O R HL LB SO NG WO SA SE th kw HM CO F G hI H locs hP hD hS ls hl
      · refine lv_tableIn (off := 860) (tgt := 904) hx hb dL_law_44 (by decide) (by decide) (by decide) (by decide) ?_
        exact law_c13 l hst hL C0 D cI cZ cJ cE ad md ou od hK hX hZ hY cs sl (3 * i) (by omega) (by omega) hi3 hk N A fl an nd wt B Hd O R HL LB SO NG WO SA SE th kw HM CO F G hI H locs hP hD hS ls hl
      · refine lv_tableIn (off := 916) (tgt := 960) hx hb dL_law_44 (by decide) (by decide) (by decide) (by decide) ?_
        exact law_c14 l hst hL C0 D cI cZ cJ cE ad md ou od hK hX hZ hY cs sl (3 * i) (by omega) (by omega) hi3 hk N A fl an nd wt B Hd O R HL LB SO NG WO SA SE th kw HM CO F G hI H locs hP hD hS ls hl
      · refine lv_tableIn (off := 979) (tgt := 1023) hx hb dL_law_44 (by decide) (by decide) (by decide) (by decide) ?_
        exact law_c15 l hst hL C0 D cI cZ cJ cE ad md ou od hK hX hZ hY cs sl (3 * i) (by omega) (by omega) hi3 hk N A fl an nd wt B Hd O R HL LB SO NG WO SA SE th kw HM CO F G hI H locs hP hD hS ls hl
      · refine lv_tableIn (off := 1035) (tgt := 1079) hx hb dL_law_44 (by decide) (by decide) (by decide) (by decide) ?_
        exact law_c16 l hst hL C0 D cI cZ cJ cE ad md ou od hK hX hZ hY cs sl (3 * i) (by omega) (by omega) hi3 hk N A fl an nd wt B Hd O R HL LB SO NG WO SA SE th kw HM CO F G hI H locs hP hD hS ls hl
      · refine lv_tableIn (off := 1091) (tgt := 1135) hx hb dL_law_44 (by decide) (by decide) (by decide) (by decide) ?_
        exact law_c17 l hst hL C0 D cI cZ cJ cE ad md ou od hK hX hZ hY cs sl (3 * i) (by omega) (by omega) hi3 hk N A fl an nd wt B Hd O R HL LB SO NG WO SA SE th kw HM CO F G hI H locs hP hD hS ls hl
      · refine lv_tableIn (off := 1147) (tgt := 1191) hx hb dL_law_44 (by decide) (by decide) (by decide) (by decide) ?_
        exact law_c18 l hst hL C0 D cI cZ cJ cE ad md ou od hK hX hZ hY cs sl (3 * i) (by omega) (by omega) hi3 hk N A fl an nd wt B Hd O R HL LB SO NG WO SA SE th kw HM CO F G hI H locs hP hD hS ls hl
      · refine lv_tableIn (off := 1215) (tgt := 1259) hx hb dL_law_44 (by decide) (by decide) (by decide) (by decide) ?_
        exact law_c19 l hst hL C0 D cI cZ cJ cE ad md ou od hK hX hZ hY cs sl (3 * i) (by omega) (by omega) hi3 hk N A fl an nd wt B Hd O R HL LB SO NG WO SA SE th kw HM CO F G hI H locs hP hD hS ls hl
      · refine lv_tableIn (off := 1271) (tgt := 1315) hx hb dL_law_44 (by decide) (by decide) (by decide) (by decide) ?_
        exact law_c20 l hst hL C0 D cI cZ cJ cE ad md ou od hK hX hZ hY cs sl (3 * i) (by omega) (by omega) hi3 hk N A fl an nd wt B Hd O R HL LB SO NG WO SA SE th kw HM CO F G hI H locs hP hD hS ls hl
      · refine lv_tableIn (off := 1327) (tgt := 1371) hx hb dL_law_44 (by decide) (by decide) (by decide) (by decide) ?_
        exact law_c21 l hst hL C0 D cI cZ cJ cE ad md ou od hK hX hZ hY cs sl (3 * i) (by omega) (by omega) hi3 hk N A fl an nd wt B Hd O R HL LB SO NG WO SA SE th kw HM CO F G hI H locs hP hD hS ls hl
      · refine lv_tableIn (off := 1383) (tgt := 1427) hx hb dL_law_44 (by decide) (by decide) (by decide) (by decide) ?_
        exact law_c22 l hst hL C0 D cI cZ cJ cE ad md ou od hK hX hZ hY cs sl (3 * i) (by omega) (by omega) hi3 hk N A fl an nd wt B Hd O R HL LB SO NG WO SA SE th kw HM CO F G hI H locs hP hD hS ls hl
      · refine lv_tableIn (off := 1396) (tgt := 1440) hx hb dL_law_44 (by decide) (by decide) (by decide) (by decide) ?_
        exact law_c23 l hst hL C0 D cI cZ cJ cE ad md ou od hK hX hZ hY cs sl (3 * i) (by omega) (by omega) hi3 hk N A fl an nd wt B Hd O R HL LB SO NG WO SA SE th kw HM CO F G hI H locs hP hD hS ls hl
      · refine lv_tableIn (off := 1452) (tgt := 1496) hx hb dL_law_44 (by decide) (by decide) (by decide) (by decide) ?_
        exact law_c24 l hst hL C0 D cI cZ cJ cE ad md ou od hK hX hZ hY cs sl (3 * i) (by omega) (by omega) hi3 hk N A fl an nd wt B Hd O R HL LB SO NG WO SA SE th kw HM CO F G hI H locs hP hD hS ls hl
      · refine lv_tableIn (off := 1465) (tgt := 1509) hx hb dL_law_44 (by decide) (by decide) (by decide) (by decide) ?_
        exact law_c25 l hst hL C0 D cI cZ cJ cE ad md ou od hK hX hZ hY cs sl (3 * i) (by omega) (by omega) hi3 hk N A fl an nd wt B Hd O R HL LB SO NG WO SA SE th kw HM CO F G hI H locs hP hD hS ls hl
      · refine lv_tableIn (off := 1521) (tgt := 1565) hx hb dL_law_44 (by decide) (by decide) (by decide) (by decide) ?_
        exact law_c26 l hst hL C0 D cI cZ cJ cE ad md ou od hK hX hZ hY cs sl (3 * i) (by omega) (by omega) hi3 hk N A fl an nd wt B Hd O R HL LB SO NG WO SA SE th kw HM CO F G hI H locs hP hD hS ls hl
      · refine lv_tableIn (off := 1577) (tgt := 1621) hx hb dL_law_44 (by decide) (by decide) (by decide) (by decide) ?_
        exact law_c27 l hst hL C0 D cI cZ cJ cE ad md ou od hK hX hZ hY cs sl (3 * i) (by omega) (by omega) hi3 hk N A fl an nd wt B Hd O R HL LB SO NG WO SA SE th kw HM CO F G hI H locs hP hD hS ls hl
      · refine lv_tableIn (off := 1654) (tgt := 1698) hx hb dL_law_44 (by decide) (by decide) (by decide) (by decide) ?_
        exact law_c28 l hst hL C0 D cI cZ cJ cE ad md ou od hK hX hZ hY cs sl (3 * i) (by omega) (by omega) hi3 hk N A fl an nd wt B Hd O R HL LB SO NG WO SA SE th kw HM CO F G hI H locs hP hD hS ls hl
      · refine lv_tableIn (off := 1729) (tgt := 1773) hx hb dL_law_44 (by decide) (by decide) (by decide) (by decide) ?_
        exact law_c29 l hst hL C0 D cI cZ cJ cE ad md ou od hK hX hZ hY cs sl (3 * i) (by omega) (by omega) hi3 hk N A fl an nd wt B Hd O R HL LB SO NG WO SA SE th kw HM CO F G hI H locs hP hD hS ls hl
      · refine lv_tableIn (off := 1804) (tgt := 1848) hx hb dL_law_44 (by decide) (by decide) (by decide) (by decide) ?_
        exact law_c30 l hst hL C0 D cI cZ cJ cE ad md ou od hK hX hZ hY cs sl (3 * i) (by omega) (by omega) hi3 hk N A fl an nd wt B Hd O R HL LB SO NG WO SA SE th kw HM CO F G hI H locs hP hD hS ls hl
      · refine lv_tableOut (tgt := 1862) hx hb dL_law_44 (Or.inr (by decide)) (by decide) ?_
        refine W.widen (k := cs + 2) (n := sl + 12) (Nat.le_add_right _ _) (Nat.le_add_right _ _) ?_
        exact hk N A fl an nd wt B Hd O R HL LB SO NG WO SA SE th kw HM CO F G H locs hI hP hD hS ls hl
