/-! facts for the methods that write -/
abbrev wT (cI cZ : ClassId) (ad rd : Nat → Nat) (na : Nat) (HL LB : Nat → Int32) (SO NG WO : Nat → Bool) (SA SE : Nat) (B Hd : Nat → Int32) (O : Nat → Bool) (R : Nat) (nd : Nat → Int32) : va_W := [(ad 0, .inr (1, [.ref (ad 1), .ref (ad 2), .ref (ad 3), .ref (ad 4), .ref (ad 5), .int (nI SA), .int (nI SE)])), (ad 1, .inl (cI, 512, .inl HL)), (ad 2, .inl (cI, 512, .inl LB)), (ad 3, .inl (cZ, 512, .inl (fun j => bI (SO j)))), (ad 4, .inl (cZ, 512, .inl (fun j => bI (NG j)))), (ad 5, .inl (cZ, 512, .inl (fun j => bI (WO j)))),
  (rd 0, .inr (0, [.ref (rd 1), .ref (rd 2), .ref (rd 3), .int (nI R)])), (rd 1, .inl (cI, 40, .inl B)), (rd 2, .inl (cI, 40, .inl Hd)), (rd 3, .inl (cZ, 40, .inl (fun j => bI (O j)))), (na, .inl (cI, 9, .inl nd))]
def knOK (B Hd : Nat → Int32) (O : Nat → Bool) (R : Nat) (nd : Nat → Int32) (A : Nat) (HL : Nat → Int32) (CO : Nat → Bool) : Prop := ∀ j, j < 2 ^ A → HL j = hdE B Hd O R nd A j ∧ CO j = soE B Hd O R nd A j
def svOK (B Hd : Nat → Int32) (O : Nat → Bool) (R : Nat) (nd : Nat → Int32) (A : Nat) (HL LB : Nat → Int32) (SO NG WO : Nat → Bool) (SA SE : Nat) : Prop := SA = A ∧ SE = 2 ^ A ∧ ∀ j, j < 2 ^ A → HL j = hdE B Hd O R nd A j ∧ SO j = soE B Hd O R nd A j ∧ LB j = lbE HL SO A j ∧ NG j = ngE SO A j ∧ WO j = woE SO A j
theorem pow8 {a : Nat} (h : a ≤ 8) : 2 ^ a ≤ 256 := Nat.pow_le_pow_right (n := 2) (by decide) h
theorem upd_lt {f g : Nat → Int32} {i : Nat} {v : Int32} (h : ∀ j, j < i → f j = g j) (hv : v = g i) : ∀ j, j < i + 1 → upd f i v j = g j := by
  intro j hj
  by_cases hi : j = i
  · subst hi; simp [upd, hv]
  · simp only [upd, if_neg hi]; exact h j (by omega)
theorem updB_lt {f g : Nat → Bool} {i : Nat} {v : Bool} (h : ∀ j, j < i → f j = g j) (hv : v = g i) : ∀ j, j < i + 1 → updB f i v j = g j := by
  intro j hj
  by_cases hi : j = i
  · subst hi; simp [updB, hv]
  · simp only [updB, if_neg hi]; exact h j (by omega)
section MLM
variable {B Hd : Nat → Int32} {O : Nat → Bool} {R N : Nat} {nd : Nat → Int32} {A : Nat}
theorem drv_0 {HL : Nat → Int32} : ∀ k, k < 2 ^ 0 → upd HL 0 (clo B Hd O R 0) k = hdE B Hd O R nd A k := by
  intro k hk
  obtain rfl : k = 0 := by omega
  show clo B Hd O R 0 = clo B Hd O R (bg nd (nI 0) A)
  rw [bg_nil]
theorem drv_step {HL : Nat → Int32} {i j : Nat} (hn : N ≤ 24) (hH : okH N Hd R) (hN : okN N nd A) (hA : A ≤ 9) (hi : i < A) (hj : j < 2 ^ i) (h : ∀ k, k < 2 ^ i + j → HL k = hdE B Hd O R nd A k) : ∀ k, k < 2 ^ i + (j + 1) → upd HL (2 ^ i + j) (clo B Hd O R (HL j ||| 1 <<< (nd i &&& 31))) k = hdE B Hd O R nd A k := by
  refine upd_lt h ?_
  rw [h j (by omega)]
  exact hdE_add hn hH hN hA hi hj
theorem drv_out {HL : Nat → Int32} {i j : Nat} (hj : j = 2 ^ i) (h : ∀ k, k < 2 ^ i + j → HL k = hdE B Hd O R nd A k) : ∀ k, k < 2 ^ (i + 1) → HL k = hdE B Hd O R nd A k := by
  intro k hk
  exact h k (by rw [Nat.pow_succ] at hk; omega)
theorem neg1_bt : bt (-1) 31 = true := by decide
theorem know_exit {i j : Nat} {v2 : Int32} (hn : N ≤ 24) (hN : okN N nd A) (hj : j ≤ 25) (hH : okH N Hd R) (hb : (j = 0 ∧ v2 = -1) ∨ (0 < j ∧ v2 = itr (fun y => aR B Hd O y R) (bg nd (nI i) A) (j - 1))) (h : itr (fun y => aR B Hd O y R) (bg nd (nI i) A) j = v2) : itr (fun y => aR B Hd O y R) (bg nd (nI i) A) j = hdE B Hd O R nd A i := by
  rcases hb with ⟨rfl, hv⟩ | ⟨hp, hv⟩
  · exfalso
    have h1 : bg nd (nI i) A = -1 := h.trans hv
    have h2 := bg_bd hn hN (nI i) 31 (by omega)
    rw [h1, neg1_bt] at h2
    cases h2
  · have h1 : aR B Hd O (itr (fun y => aR B Hd O y R) (bg nd (nI i) A) (j - 1)) R = itr (fun y => aR B Hd O y R) (bg nd (nI i) A) (j - 1) := by
      have h2 : itr (fun y => aR B Hd O y R) (bg nd (nI i) A) (j - 1 + 1) = v2 := by rw [show j - 1 + 1 = j by omega]; exact h
      exact h2.trans hv
    rw [h, hv]
    exact (itr_fix (F := fun y => aR B Hd O y R) (n := 24) h1 (by omega)).symm
theorem know_lt {i j : Nat} {v2 : Int32} (hn : N ≤ 24) (hN : okN N nd A) (hH : okH N Hd R) (hj : j ≤ 25) (hb : (j = 0 ∧ v2 = -1) ∨ (0 < j ∧ v2 = itr (fun y => aR B Hd O y R) (bg nd (nI i) A) (j - 1))) (h : ¬ itr (fun y => aR B Hd O y R) (bg nd (nI i) A) j = v2) : j < 25 := by
  rcases Nat.lt_or_ge j 25 with q | q
  · exact q
  · obtain rfl : j = 25 := by omega
    exfalso
    apply h
    rcases hb with ⟨h0, -⟩ | ⟨-, hv⟩
    · omega
    · rw [hv]; exact itr_24 hn hH (bg_bd hn hN _)
theorem co_keep {CO1 CO2 : Nat → Bool} {Q : Nat → Bool} {i r : Nat} (h : ∀ k, CO2 k = updB CO1 i (!(ex Q r)) k) (hq : Q r = false) : ∀ k, CO2 k = updB CO1 i (!(ex Q (r + 1))) k := by
  intro k
  rw [h k]
  simp only [ex, hq, Bool.or_false]
theorem co_set {CO1 CO2 : Nat → Bool} {Q : Nat → Bool} {i r : Nat} (h : ∀ k, CO2 k = updB CO1 i (!(ex Q r)) k) (hq : Q r = true) : ∀ k, updB CO2 i false k = updB CO1 i (!(ex Q (r + 1))) k := by
  intro k
  by_cases hk : k = i
  · simp [updB, hk, ex, hq]
  · have h1 := h k
    simp only [updB, if_neg hk] at h1 ⊢
    exact h1
theorem co_0 {CO1 : Nat → Bool} {Q : Nat → Bool} {i : Nat} : ∀ k, updB CO1 i true k = updB CO1 i (!(ex Q 0)) k := fun _ => rfl
theorem know_step {HL1 : Nat → Int32} {CO1 CO2 : Nat → Bool} {i r : Nat} (hr : r = R) (h : ∀ j, j < i → HL1 j = hdE B Hd O R nd A j ∧ CO1 j = soE B Hd O R nd A j) (hco : ∀ k, CO2 k = updB CO1 i (!(ex (fun r => Hd r == -1 && fi B O (hdE B Hd O R nd A i) r) r)) k) : ∀ j, j < i + 1 → upd HL1 i (hdE B Hd O R nd A i) j = hdE B Hd O R nd A j ∧ CO2 j = soE B Hd O R nd A j := by
  subst hr
  intro j hj
  by_cases hk : j = i
  · subst hk
    refine ⟨by simp [upd], ?_⟩
    rw [hco j]
    simp only [updB, if_true]
    rfl
  · refine ⟨by simp only [upd, if_neg hk]; exact (h j (by omega)).1, ?_⟩
    rw [hco j]
    simp only [updB, if_neg hk]
    exact (h j (by omega)).2
end MLM
