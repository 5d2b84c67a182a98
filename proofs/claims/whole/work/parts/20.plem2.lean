/-! facts for the methods that ask all environments -/
theorem q0_eq {a : Nat} (ha : a < 2 ^ 31) (h : nI a = 0) : a = 0 := (qI_inj (a := a) (b := 0) ha (by decide)).mp h
theorem q0_ne {a : Nat} (_ : a < 2 ^ 31) (h : ¬ nI a = 0) : ¬ a = 0 := fun q => h (by rw [q]; rfl)
section SVK
variable {B Hd : Nat → Int32} {O : Nat → Bool} {R N : Nat} {nd : Nat → Int32} {A SA SE : Nat} {HL LB : Nat → Int32} {SO NG WO CO : Nat → Bool}
theorem hB_congr {F G : Nat → Int32} {e : Nat} (n : Nat) (h : ∀ a, a < n → hs (nI e) (nI a) = true → F (e - 2 ^ a) = G (e - 2 ^ a)) : hB F e n = hB G e n := by
  induction n with
  | zero => rfl
  | succ n ih =>
    simp only [hB]
    rw [ih (fun a ha => h a (by omega))]
    by_cases hc : hs (nI e) (nI n) = true
    · rw [if_pos hc, if_pos hc, h n (by omega) hc]
    · rw [if_neg hc, if_neg hc]
theorem hd_mo (hA : A ≤ 9) : ∀ j e, e < 2 ^ A → sN j e → sb (hdE B Hd O R nd A j) (hdE B Hd O R nd A e) := fun _ _ _ h => hdE_mono hA h
theorem so_mo (hA : A ≤ 9) : ∀ j e, e < 2 ^ A → sN j e → soE B Hd O R nd A e = true → soE B Hd O R nd A j = true := fun _ _ _ h1 h2 => soE_mono hA h1 h2
theorem svA (h : svOK B Hd O R nd A HL LB SO NG WO SA SE) : ∀ e, e < 2 ^ A → HL e = hdE B Hd O R nd A e := fun e he => (h.2.2 e he).1
theorem svS (h : svOK B Hd O R nd A HL LB SO NG WO SA SE) : ∀ e, e < 2 ^ A → SO e = soE B Hd O R nd A e := fun e he => (h.2.2 e he).2.1
theorem lbK (hA : A ≤ 9) (hn : N ≤ 24) {x : Int32} (hx : inR x N = true) (h : svOK B Hd O R nd A HL LB SO NG WO SA SE) : ∀ e, e < 2 ^ A → hs (LB e) x = lbM (hdE B Hd O R nd A) (soE B Hd O R nd A) x e := by
  intro e he
  obtain ⟨k, hk, rfl⟩ := inR_nat hx
  rw [← lbl_eq hA (hd_mo hA) (so_mo hA) he (by omega), (h.2.2 e he).2.2.1]
  unfold lbE
  rw [svA h e he, svS h e he]
  rw [hB_congr (F := HL) (G := hdE B Hd O R nd A) A (fun a ha hb => by
    rw [hs_nI (by omega)] at hb
    exact svA h (e - 2 ^ a) (Nat.lt_trans (sub_lt hb) he))]
theorem ngK (hA : A ≤ 9) (h : svOK B Hd O R nd A HL LB SO NG WO SA SE) : ∀ e, e < 2 ^ A → NG e = ngM (soE B Hd O R nd A) e := by
  intro e he
  rw [← ng_eq hA (so_mo hA) he, (h.2.2 e he).2.2.2.1]
  unfold ngE
  rw [svS h e he]
  congr 2
  apply ex_congr
  intro a ha
  cases hb : hs (nI e) (nI a) with
  | false => rfl
  | true =>
    rw [hs_nI (by omega)] at hb
    rw [svS h (e - 2 ^ a) (Nat.lt_trans (sub_lt hb) he)]
theorem woK (hA : A ≤ 9) (h : svOK B Hd O R nd A HL LB SO NG WO SA SE) : ∀ e, e < 2 ^ A → WO e = woM A (soE B Hd O R nd A) e := by
  intro e he
  rw [← wo_eq hA (so_mo hA) he, (h.2.2 e he).2.2.2.2]
  unfold woE
  rw [svS h e he]
  congr 2
  apply ex_congr
  intro a ha
  cases hb : hs (nI e) (nI a) with
  | true => rfl
  | false =>
    rw [hs_nI (by omega)] at hb
    rw [svS h (e + 2 ^ a) (nat_add_lt ha he hb)]
theorem whK (hA : A ≤ 9) {x : Int32} (h : svOK B Hd O R nd A HL LB SO NG WO SA SE) : ∀ e, e < 2 ^ A → (WO e && hs (HL e) x) = (woM A (soE B Hd O R nd A) e && hs (hdE B Hd O R nd A e) x) := fun e he => by rw [woK hA h e he, svA h e he]
theorem shK {x : Int32} (h : svOK B Hd O R nd A HL LB SO NG WO SA SE) : ∀ e, e < 2 ^ A → (SO e && hs (HL e) x) = (soE B Hd O R nd A e && hs (hdE B Hd O R nd A e) x) := fun e he => by rw [svS h e he, svA h e he]
theorem imK {x y : Int32} (h : svOK B Hd O R nd A HL LB SO NG WO SA SE) : ∀ e, e < 2 ^ A → (SO e && (hs (HL e) x && !(hs (HL e) y))) = (soE B Hd O R nd A e && (hs (hdE B Hd O R nd A e) x && !(hs (hdE B Hd O R nd A e) y))) := fun e he => by rw [svS h e he, svA h e he]
theorem exK {x y : Int32} (h : svOK B Hd O R nd A HL LB SO NG WO SA SE) : ∀ e, e < 2 ^ A → (SO e && (hs (HL e) x && hs (HL e) y)) = (soE B Hd O R nd A e && (hs (hdE B Hd O R nd A e) x && hs (hdE B Hd O R nd A e) y)) := fun e he => by rw [svS h e he, svA h e he]
/-- the same of the reference's rows -/
theorem knH (h : knOK B Hd O R nd A HL CO) : ∀ e, e < 2 ^ A → HL e = hdE B Hd O R nd A e := fun e he => (h e he).1
theorem knC (h : knOK B Hd O R nd A HL CO) : ∀ e, e < 2 ^ A → CO e = soE B Hd O R nd A e := fun e he => (h e he).2
theorem gdJ {x : Int32} (h : knOK B Hd O R nd A HL CO) : ∀ e, e < 2 ^ A → gd HL CO x e = gd (hdE B Hd O R nd A) (soE B Hd O R nd A) x e := fun e he => by unfold gd; rw [knH h e he, knC h e he]
theorem lbJ {x : Int32} (h : knOK B Hd O R nd A HL CO) : ∀ e, e < 2 ^ A → lbM HL CO x e = lbM (hdE B Hd O R nd A) (soE B Hd O R nd A) x e := by
  intro e he
  unfold lbM
  rw [gdJ h e he]
  congr 2
  apply ex_congr
  intro j hj
  rw [gdJ h j (by omega)]
theorem ngJ (h : knOK B Hd O R nd A HL CO) : ∀ e, e < 2 ^ A → ngM CO e = ngM (soE B Hd O R nd A) e := by
  intro e he
  unfold ngM
  rw [knC h e he]
  congr 2
  apply ex_congr
  intro j hj
  rw [knC h j (by omega)]
theorem woJ (h : knOK B Hd O R nd A HL CO) : ∀ e, e < 2 ^ A → woM A CO e = woM A (soE B Hd O R nd A) e := by
  intro e he
  unfold woM
  rw [knC h e he]
  congr 2
  apply ex_congr
  intro j hj
  rw [knC h j hj]
end SVK
def chE (P : Nat → Bool) (wt : Nat → Int32) (A : Nat) : Nat → Int32 × Int32
  | 0 => (-1, 0)
  | e + 1 => if P e = true ∧ ((chE P wt A e).1 = -1 ∨ ¬ (chE P wt A e).2 ≤ wo wt (nI e) A) then (nI e, wo wt (nI e) A) else chE P wt A e
theorem chE_congr {P Q : Nat → Bool} {wt : Nat → Int32} {A n : Nat} (h : ∀ j, j < n → P j = Q j) : chE P wt A n = chE Q wt A n := by
  induction n with
  | zero => rfl
  | succ n ih => simp only [chE]; rw [ih (fun j hj => h j (by omega)), h n (by omega)]
def ndE (P : Nat → Bool) (z : Int32) : Nat → Int32
  | 0 => z
  | e + 1 => if P e = true then ndE P z e &&& nI e else ndE P z e
theorem ndE_congr {P Q : Nat → Bool} {z : Int32} {n : Nat} (h : ∀ j, j < n → P j = Q j) : ndE P z n = ndE Q z n := by
  induction n with
  | zero => rfl
  | succ n ih => simp only [ndE]; rw [ih (fun j hj => h j (by omega)), h n (by omega)]
def usE (P : Nat → Bool) : Nat → Int32
  | 0 => 0
  | e + 1 => if P e = true then usE P e ||| nI e else usE P e
theorem usE_congr {P Q : Nat → Bool} {n : Nat} (h : ∀ j, j < n → P j = Q j) : usE P n = usE Q n := by
  induction n with
  | zero => rfl
  | succ n ih => simp only [usE]; rw [ih (fun j hj => h j (by omega)), h n (by omega)]
def blE (a h : Nat) : UInt64 := if a = 0 then FP.dconst0 else FP.ddiv (FP.i2d (nI h)) (FP.i2d (nI a))
def dgN (an : Nat → Int32) (L : Nat → Nat → Bool) (z : Nat) (s : Int64) : Nat → Int64
  | 0 => s
  | k + 1 => mxS (L k) (mx (dgN an L z s k) (an k).toInt64) z
theorem dgN_congr {an : Nat → Int32} {L M : Nat → Nat → Bool} {z : Nat} {s : Int64} {n : Nat} (h : ∀ k, k < n → ∀ e, e < z → L k e = M k e) : dgN an L z s n = dgN an M z s n := by
  induction n with
  | zero => rfl
  | succ n ih => simp only [dgN]; rw [ih (fun k hk => h k (by omega)), mxS_congr (h n (by omega))]
def dgW (wt : Nat → Int32) (s : Int64) : Nat → Int64
  | 0 => s
  | a + 1 => mx (dgW wt s a) (wt a).toInt64
def dgE (an wt B Hd : Nat → Int32) (O : Nat → Bool) (N A R : Nat) (L : Nat → Nat → Bool) (G W : Nat → Bool) : Int64 :=
  mxS W (mxS G (mxR B Hd O (mx (dgW wt (mx (dgN an L (2 ^ A) (mx 113 (nI N).toInt64) N) (nI A).toInt64) A) (nI R).toInt64) R) (2 ^ A)) (2 ^ A)
theorem dgE_congr {an wt B Hd : Nat → Int32} {O : Nat → Bool} {N A R : Nat} {L L' : Nat → Nat → Bool} {G G' W W' : Nat → Bool} (h1 : ∀ k, k < N → ∀ e, e < 2 ^ A → L k e = L' k e) (h2 : ∀ e, e < 2 ^ A → G e = G' e) (h3 : ∀ e, e < 2 ^ A → W e = W' e) : dgE an wt B Hd O N A R L G W = dgE an wt B Hd O N A R L' G' W' := by
  unfold dgE
  rw [dgN_congr h1, mxS_congr h2, mxS_congr h3]
theorem inR_nI {k n : Nat} (hn : n < 2 ^ 31) (h : k < n) : inR (nI k) n = true := by
  unfold inR
  simp [nI_pos (show k < 2 ^ 31 by omega), nI_ge h hn]
/-! a quotient of two small whole numbers is a number -/
def isFin (d : FP.Core.Datum) : Bool := match d with
  | .fin _ _ _ => true
  | _ => false
def isNz (d : FP.Core.Datum) : Bool := match d with
  | .fin _ c _ => !(c == 0)
  | _ => false
theorem i2d_fins : ∀ a : Fin 513, isFin (FP.Core.decode FP.Core.b64 (FP.i2d (nI a.val)).toNat) = true := by decide +kernel
theorem i2d_nzs : ∀ a : Fin 513, a.val = 0 ∨ isNz (FP.Core.decode FP.Core.b64 (FP.i2d (nI a.val)).toNat) = true := by decide +kernel
def okD (d : FP.Core.Datum) : Prop := match d with
  | .nan => False
  | .inf _ => True
  | .fin _ c q => c < 2 ^ 53 ∧ q ≤ FP.Core.b64.qmax
theorem bound_ok (s : Bool) {c : Nat} (q : Int) (h : c < 2 ^ 53) : okD (FP.Core.bound FP.Core.b64 s c q) := by
  unfold FP.Core.bound
  split
  · rename_i hq; exact ⟨h, hq⟩
  · trivial
theorem settle_ok (s : Bool) (c : Nat) (q : Int) : okD (FP.Core.settle FP.Core.b64 s c q) := by
  unfold FP.Core.settle
  split
  · rename_i hc; exact bound_ok s q hc
  · exact bound_ok s (q + 1) (by decide)
theorem ratio_ok (s : Bool) (a b : Nat) (e : Int) : okD (FP.Core.roundRatio FP.Core.b64 s a b e) := by
  unfold FP.Core.roundRatio
  split
  · exact ⟨by decide, by decide⟩
  · exact settle_ok _ _ _
theorem enc_ok {d : FP.Core.Datum} (h : okD d) : FP.Core.encode FP.Core.b64 d < 2 ^ 64 ∧ FP.Core.encode FP.Core.b64 d % 2 ^ 63 ≤ 2047 * 2 ^ 52 := by
  have e1 : FP.Core.b64.exps = 2048 := by decide
  have e2 : FP.Core.b64.tails = 2 ^ 52 := by decide
  have e3 : FP.Core.b64.qmax = 971 := by decide
  have e4 : FP.Core.b64.qmin = -1074 := by decide
  cases d with
  | nan => exact h.elim
  | inf s => cases s <;> decide
  | fin s c q =>
    obtain ⟨h1, h2⟩ := h
    rw [e3] at h2
    have h3 : s.toNat ≤ 1 := by cases s <;> decide
    have h5 : s.toNat = 0 ∨ s.toNat = 1 := by omega
    have e5 : FP.Core.encode FP.Core.b64 (.fin s c q) = if c < FP.Core.b64.tails then (s.toNat * FP.Core.b64.exps + 0) * FP.Core.b64.tails + c else (s.toNat * FP.Core.b64.exps + ((q - FP.Core.b64.qmin).toNat + 1)) * FP.Core.b64.tails + (c - FP.Core.b64.tails) := rfl
    rw [e5, e1, e2, e4]
    split
    · rcases h5 with h5 | h5 <;> rw [h5] <;> omega
    · have h4 : (q - -1074).toNat + 1 ≤ 2046 := by omega
      rcases h5 with h5 | h5 <;> rw [h5] <;> omega
theorem div_ok {x y : UInt64} (hx : isFin (FP.Core.decode FP.Core.b64 x.toNat) = true) (hy : isNz (FP.Core.decode FP.Core.b64 y.toNat) = true) : vf_n64 (FP.ddiv x y) := by
  have h1 : ∃ d, okD d ∧ FP.ddiv x y = UInt64.ofNat (FP.Core.encode FP.Core.b64 d) := by
    refine ⟨FP.Core.quotient FP.Core.b64 (FP.Core.decode FP.Core.b64 x.toNat) (FP.Core.decode FP.Core.b64 y.toNat), ?_, rfl⟩
    cases hx1 : FP.Core.decode FP.Core.b64 x.toNat with
    | nan => rw [hx1] at hx; cases hx
    | inf s => rw [hx1] at hx; cases hx
    | fin s c q =>
      cases hy1 : FP.Core.decode FP.Core.b64 y.toNat with
      | nan => rw [hy1] at hy; cases hy
      | inf s => rw [hy1] at hy; cases hy
      | fin t d r =>
        rw [hy1] at hy
        have hd : ¬ d = 0 := by simpa [isNz] using hy
        simp only [FP.Core.quotient, if_neg hd]
        exact ratio_ok _ _ _ _
  obtain ⟨d, h2, h3⟩ := h1
  obtain ⟨h4, h5⟩ := enc_ok h2
  unfold vf_n64
  rw [h3, UInt64.le_iff_toNat_le, UInt64.toNat_and, UInt64.toNat_ofNat_of_lt' h4]
  have h6 : (0x7fffffffffffffff : UInt64).toNat = 2 ^ 63 - 1 := by decide
  have h7 : (0x7ff0000000000000 : UInt64).toNat = 2047 * 2 ^ 52 := by decide
  rw [h6, h7, Nat.and_two_pow_sub_one_eq_mod]
  exact h5
theorem bl_ok {a h : Nat} (ha : a ≤ 512) (hh : h ≤ 512) (h0 : ¬ a = 0) : vf_n64 (FP.ddiv (FP.i2d (nI h)) (FP.i2d (nI a))) :=
  div_ok (i2d_fins ⟨h, by omega⟩) ((i2d_nzs ⟨a, by omega⟩).resolve_left h0)
