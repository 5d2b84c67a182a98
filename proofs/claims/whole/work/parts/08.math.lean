/-! sets as Int32, by their bits -/
def bt (x : Int32) (k : Nat) : Bool := x.toBitVec.getLsbD k
def sb (x y : Int32) : Prop := ∀ k, bt x k = true → bt y k = true
def bd (N : Nat) (x : Int32) : Prop := ∀ k, N ≤ k → bt x k = false
theorem hs_bt (x : Int32) {a : Nat} (h : a < 32) : hs x (nI a) = bt x a := hs_bit x h
theorem bt_ge (x : Int32) {k : Nat} (h : 32 ≤ k) : bt x k = false := BitVec.getLsbD_of_ge _ _ h
theorem bt_or (x y : Int32) (k : Nat) : bt (x ||| y) k = (bt x k || bt y k) := by
  show (x.toBitVec ||| y.toBitVec).getLsbD k = _
  rw [BitVec.getLsbD_or]; rfl
theorem bt_and (x y : Int32) (k : Nat) : bt (x &&& y) k = (bt x k && bt y k) := by
  show (x.toBitVec &&& y.toBitVec).getLsbD k = _
  rw [BitVec.getLsbD_and]; rfl
theorem bt_not (x : Int32) {k : Nat} (h : k < 32) : bt (x ^^^ -1) k = !(bt x k) := by
  show (x.toBitVec ^^^ (-1 : Int32).toBitVec).getLsbD k = _
  rw [BitVec.getLsbD_xor]
  have h1 : (-1 : Int32).toBitVec = BitVec.allOnes 32 := by decide
  rw [h1, BitVec.getLsbD_allOnes]
  simp [h, bt]
theorem bt_zero (k : Nat) : bt 0 k = false := by
  show (0#32).getLsbD k = false
  exact BitVec.getLsbD_zero
theorem bt_nI (e : Nat) {k : Nat} (h : k < 32) : bt (nI e) k = e.testBit k := nI_bit e h
theorem bt_sh1 {j : Nat} (hj : j < 31) (k : Nat) : bt (sh1 (nI j)) k = decide (j = k) := by
  rw [sh1_nI hj]
  rcases Nat.lt_or_ge k 32 with h | h
  · rw [bt_nI _ h, Nat.testBit_two_pow]
  · rw [bt_ge _ h]
    have : ¬ j = k := by omega
    simp [this]
theorem bt_ext {x y : Int32} (h : ∀ k, k < 32 → bt x k = bt y k) : x = y := by
  apply Int32.toBitVec_inj.mp
  apply BitVec.eq_of_getLsbD_eq
  intro i hi
  exact h i hi
theorem sb_refl (x : Int32) : sb x x := fun _ h => h
theorem sb_trans {x y z : Int32} (h1 : sb x y) (h2 : sb y z) : sb x z := fun k h => h2 k (h1 k h)
theorem sb_anti {x y : Int32} (h1 : sb x y) (h2 : sb y x) : x = y := bt_ext fun k _ => by
  cases hx : bt x k <;> cases hy : bt y k <;> first | rfl | (have := h1 k hx; rw [hy] at this; cases this) | (have := h2 k hy; rw [hx] at this; cases this)
theorem sb_zero (x : Int32) : sb 0 x := fun k h => by rw [bt_zero] at h; cases h
theorem inn_iff (a b : Int32) : inn a b = true ↔ sb a b := by
  unfold inn
  rw [beq_iff_eq]
  constructor
  · intro h k hk
    rcases Nat.lt_or_ge k 32 with hl | hl
    · have h1 : bt (a &&& (b ^^^ -1)) k = false := by rw [h]; exact bt_zero k
      rw [bt_and, bt_not b hl, hk] at h1
      simpa using h1
    · rw [bt_ge _ hl] at hk; cases hk
  · intro h
    apply bt_ext
    intro k hk
    rw [bt_and, bt_not b hk, bt_zero]
    cases ha : bt a k with
    | false => rfl
    | true => rw [h k ha]; rfl
theorem cnt_mono {P Q : Nat → Bool} (h : ∀ j, P j = true → Q j = true) (n : Nat) : cnt P n ≤ cnt Q n := by
  induction n with
  | zero => exact Nat.le_refl 0
  | succ n ih =>
    simp only [cnt]
    by_cases hp : P n = true
    · rw [if_pos hp, if_pos (h n hp)]; omega
    · rw [if_neg hp]; split <;> omega
theorem cnt_lt {P Q : Nat → Bool} (h : ∀ j, P j = true → Q j = true) {n i : Nat} (hi : i < n) (hq : Q i = true) (hp : P i = false) : cnt P n < cnt Q n := by
  induction n with
  | zero => omega
  | succ n ih =>
    simp only [cnt]
    rcases Nat.lt_or_ge i n with q | q
    · have h1 := ih q
      by_cases hp : P n = true
      · rw [if_pos hp, if_pos (h n hp)]; omega
      · rw [if_neg hp]; split <;> omega
    · have : i = n := by omega
      subst this
      rw [if_pos hq, if_neg (by rw [hp]; decide)]
      have := cnt_mono h i
      omega
section FIX
variable {B Hd : Nat → Int32} {O : Nat → Bool} {R N : Nat}
/-- the rules' heads are nodes below N, or -1 -/
def okH (N : Nat) (Hd : Nat → Int32) (R : Nat) : Prop := ∀ r, r < R → Hd r = -1 ∨ ∃ k, k < N ∧ Hd r = nI k
theorem fi_mono {x y : Int32} (h : sb x y) {r : Nat} (hf : fi B O x r = true) : fi B O y r = true := by
  unfold fi at hf ⊢
  simp only [Bool.and_eq_true] at hf ⊢
  exact ⟨hf.1, (inn_iff _ _).mpr (sb_trans ((inn_iff _ _).mp hf.2) h)⟩
theorem aR_bt (x : Int32) (n k : Nat) : bt (aR B Hd O x n) k = true ↔ bt x k = true ∨ ∃ r, r < n ∧ ¬ Hd r = -1 ∧ fi B O x r = true ∧ bt (sh1 (Hd r)) k = true := by
  induction n with
  | zero => simp [aR]
  | succ n ih =>
    simp only [aR]
    split
    · rename_i hc
      rw [bt_or, Bool.or_eq_true, ih]
      constructor
      · rintro ((h | ⟨r, h1, h2⟩) | h)
        · exact Or.inl h
        · exact Or.inr ⟨r, by omega, h2⟩
        · exact Or.inr ⟨n, by omega, hc.1, hc.2, h⟩
      · rintro (h | ⟨r, h1, h2, h3, h4⟩)
        · exact Or.inl (Or.inl h)
        · rcases Nat.lt_or_ge r n with q | q
          · exact Or.inl (Or.inr ⟨r, q, h2, h3, h4⟩)
          · obtain rfl : r = n := by omega
            exact Or.inr h4
    · rename_i hc
      rw [ih]
      constructor
      · rintro (h | ⟨r, h1, h2⟩)
        · exact Or.inl h
        · exact Or.inr ⟨r, by omega, h2⟩
      · rintro (h | ⟨r, h1, h2, h3, h4⟩)
        · exact Or.inl h
        · rcases Nat.lt_or_ge r n with q | q
          · exact Or.inr ⟨r, q, h2, h3, h4⟩
          · obtain rfl : r = n := by omega
            exact absurd ⟨h2, h3⟩ hc
theorem aR_sb (x : Int32) (n : Nat) : sb x (aR B Hd O x n) := fun k h => (aR_bt x n k).mpr (Or.inl h)
theorem aR_mono {x y : Int32} (h : sb x y) (n : Nat) : sb (aR B Hd O x n) (aR B Hd O y n) := by
  intro k hk
  rcases (aR_bt x n k).mp hk with q | ⟨r, h1, h2, h3, h4⟩
  · exact (aR_bt y n k).mpr (Or.inl (h k q))
  · exact (aR_bt y n k).mpr (Or.inr ⟨r, h1, h2, fi_mono h h3, h4⟩)
theorem aR_bd (hN : N ≤ 24) (hH : okH N Hd R) {x : Int32} (h : bd N x) : bd N (aR B Hd O x R) := by
  intro k hk
  cases hq : bt (aR B Hd O x R) k with
  | false => rfl
  | true =>
    rcases (aR_bt x R k).mp hq with q | ⟨r, h1, h2, h3, h4⟩
    · rw [h k hk] at q; cases q
    · rcases hH r h1 with q | ⟨j, hj, q⟩
      · exact absurd q h2
      · rw [q, bt_sh1 (by omega)] at h4
        have : j = k := by simpa using h4
        omega
theorem itr_bd (hN : N ≤ 24) (hH : okH N Hd R) {x : Int32} (h : bd N x) (n : Nat) : bd N (itr (fun y => aR B Hd O y R) x n) := by
  induction n with
  | zero => exact h
  | succ n ih => exact aR_bd hN hH ih
theorem itr_step (x : Int32) (n : Nat) : sb (itr (fun y => aR B Hd O y R) x n) (itr (fun y => aR B Hd O y R) x (n + 1)) := aR_sb _ _
theorem itr_up (x : Int32) {i n : Nat} (h : i ≤ n) : sb (itr (fun y => aR B Hd O y R) x i) (itr (fun y => aR B Hd O y R) x n) := by
  induction n with
  | zero => obtain rfl : i = 0 := by omega
            exact sb_refl _
  | succ n ih =>
    rcases Nat.lt_or_ge n i with q | q
    · obtain rfl : i = n + 1 := by omega
      exact sb_refl _
    · exact sb_trans (ih q) (itr_step x n)
theorem grow {x y : Int32} (hN : N ≤ 24) (h : sb x y) (hne : ¬ x = y) (hy : bd N y) : cnt (bt x) 24 < cnt (bt y) 24 := by
  have h1 : ∃ k, k < 24 ∧ bt y k = true ∧ bt x k = false := by
    apply Classical.byContradiction
    intro hno
    apply hne
    apply sb_anti h
    intro k hk
    rcases Nat.lt_or_ge k 24 with q | q
    · cases hx : bt x k with
      | true => rfl
      | false => exact absurd ⟨k, q, hk, hx⟩ hno
    · rw [hy k (by omega)] at hk; cases hk
  obtain ⟨k, h2, h3, h4⟩ := h1
  exact cnt_lt h h2 h3 h4
theorem itr_24 (hN : N ≤ 24) (hH : okH N Hd R) {x : Int32} (h : bd N x) : aR B Hd O (itr (fun y => aR B Hd O y R) x 24) R = itr (fun y => aR B Hd O y R) x 24 := by
  apply Classical.byContradiction
  intro hne
  have hall : ∀ i, i ≤ 24 → ¬ aR B Hd O (itr (fun y => aR B Hd O y R) x i) R = itr (fun y => aR B Hd O y R) x i := by
    intro i hi hq
    apply hne
    have h1 := itr_fix (F := fun y => aR B Hd O y R) (n := 24) hq hi
    rw [h1]; exact hq
  have hc : ∀ i, i ≤ 25 → i ≤ cnt (bt (itr (fun y => aR B Hd O y R) x i)) 24 := by
    intro i
    induction i with
    | zero => intro _; exact Nat.zero_le _
    | succ i ih =>
      intro hi
      have h1 := ih (by omega)
      have h2 := grow hN (itr_step (B := B) (Hd := Hd) (O := O) (R := R) x i) (fun hq => hall i (by omega) hq.symm) (itr_bd hN hH h (i + 1))
      omega
  have h1 := hc 25 (Nat.le_refl _)
  have h2 := cnt_le (bt (itr (fun y => aR B Hd O y R) x 25)) 24
  omega
theorem clo_fix (hN : N ≤ 24) (hH : okH N Hd R) {x : Int32} (h : bd N x) : aR B Hd O (clo B Hd O R x) R = clo B Hd O R x := itr_24 hN hH h
theorem clo_sb (x : Int32) : sb x (clo B Hd O R x) := itr_up x (Nat.zero_le 24)
theorem clo_bd (hN : N ≤ 24) (hH : okH N Hd R) {x : Int32} (h : bd N x) : bd N (clo B Hd O R x) := itr_bd hN hH h 24
theorem itr_mono {x y : Int32} (h : sb x y) (n : Nat) : sb (itr (fun y => aR B Hd O y R) x n) (itr (fun y => aR B Hd O y R) y n) := by
  induction n with
  | zero => exact h
  | succ n ih => exact aR_mono ih R
theorem clo_mono {x y : Int32} (h : sb x y) : sb (clo B Hd O R x) (clo B Hd O R y) := itr_mono h 24
theorem itr_of_fix {y : Int32} (h : aR B Hd O y R = y) (n : Nat) : itr (fun y => aR B Hd O y R) y n = y := by
  induction n with
  | zero => rfl
  | succ n ih => show aR B Hd O (itr _ y n) R = y; rw [ih, h]
theorem clo_least {x y : Int32} (h : sb x y) (hy : aR B Hd O y R = y) : sb (clo B Hd O R x) y := by
  have h1 := clo_mono (B := B) (Hd := Hd) (O := O) (R := R) h
  have h2 : clo B Hd O R y = y := itr_of_fix hy 24
  rwa [h2] at h1
theorem sb_or {x y z : Int32} (h1 : sb x z) (h2 : sb y z) : sb (x ||| y) z := by
  intro k hk
  rw [bt_or, Bool.or_eq_true] at hk
  exact hk.elim (h1 k) (h2 k)
theorem sb_orl (x y : Int32) : sb x (x ||| y) := fun k h => by rw [bt_or, h]; rfl
theorem sb_orr (x y : Int32) : sb y (x ||| y) := fun k h => by rw [bt_or, h]; simp
theorem bd_or {x y : Int32} (h1 : bd N x) (h2 : bd N y) : bd N (x ||| y) := fun k hk => by rw [bt_or, h1 k hk, h2 k hk]; rfl
theorem bd_zero : bd N 0 := fun k _ => bt_zero k
theorem bd_sb {x y : Int32} (h : sb x y) (hy : bd N y) : bd N x := fun k hk => by
  cases hq : bt x k with
  | false => rfl
  | true => have := h k hq; rw [hy k hk] at this; cases this
theorem clo_or (hN : N ≤ 24) (hH : okH N Hd R) {x y : Int32} (hx : bd N x) (hy : bd N y) : clo B Hd O R (clo B Hd O R x ||| y) = clo B Hd O R (x ||| y) := by
  apply sb_anti
  · apply clo_least
    · apply sb_or
      · exact clo_mono (sb_orl x y)
      · exact sb_trans (sb_orr x y) (clo_sb _)
    · exact clo_fix hN hH (bd_or hx hy)
  · apply clo_mono
    exact sb_or (sb_trans (clo_sb x) (sb_orl _ _)) (sb_orr _ _)
theorem ct_mono {x y : Int32} (h : sb x y) (hc : ct B Hd O R x = true) : ct B Hd O R y = true := by
  obtain ⟨r, h1, h2⟩ := ex_iff.mp hc
  refine ex_at (i := r) h1 ?_
  simp only [Bool.and_eq_true] at h2 ⊢
  exact ⟨h2.1, fi_mono h h2.2⟩
end FIX
section ENV
variable {nd : Nat → Int32} {N : Nat}
def okN (N : Nat) (nd : Nat → Int32) (A : Nat) : Prop := ∀ a, a < A → ∃ k, k < N ∧ nd a = nI k
theorem bg_bt (x : Int32) (n k : Nat) : bt (bg nd x n) k = true ↔ ∃ a, a < n ∧ hs x (nI a) = true ∧ bt (sh1 (nd a)) k = true := by
  induction n with
  | zero => simp [bg, bt_zero]
  | succ n ih =>
    simp only [bg]
    split
    · rename_i hc
      rw [bt_or, Bool.or_eq_true, ih]
      constructor
      · rintro (⟨a, h1, h2⟩ | h)
        · exact ⟨a, by omega, h2⟩
        · exact ⟨n, by omega, hc, h⟩
      · rintro ⟨a, h1, h2, h3⟩
        rcases Nat.lt_or_ge a n with q | q
        · exact Or.inl ⟨a, q, h2, h3⟩
        · obtain rfl : a = n := by omega
          exact Or.inr h3
    · rename_i hc
      rw [ih]
      constructor
      · rintro ⟨a, h1, h2⟩
        exact ⟨a, by omega, h2⟩
      · rintro ⟨a, h1, h2, h3⟩
        rcases Nat.lt_or_ge a n with q | q
        · exact ⟨a, q, h2, h3⟩
        · obtain rfl : a = n := by omega
          exact absurd h2 hc
theorem bg_bd {A : Nat} (hn : N ≤ 24) (hN : okN N nd A) (x : Int32) : bd N (bg nd x A) := by
  intro k hk
  cases hq : bt (bg nd x A) k with
  | false => rfl
  | true =>
    obtain ⟨a, h1, h2, h3⟩ := (bg_bt x A k).mp hq
    obtain ⟨j, hj, q⟩ := hN a h1
    rw [q, bt_sh1 (by omega)] at h3
    have : j = k := by simpa using h3
    omega
/-- a set of assumptions within another -/
def sN (j e : Nat) : Prop := ∀ b, j.testBit b = true → e.testBit b = true
theorem bg_mono {A : Nat} (hA : A ≤ 9) {j e : Nat} (h : sN j e) : sb (bg nd (nI j) A) (bg nd (nI e) A) := by
  intro k hk
  obtain ⟨a, h1, h2, h3⟩ := (bg_bt _ A k).mp hk
  refine (bg_bt _ A k).mpr ⟨a, h1, ?_, h3⟩
  rw [hs_nI (by omega)] at h2 ⊢
  exact h a h2
theorem tb_lt {e a b : Nat} (he : e < 2 ^ a) (h : e.testBit b = true) : b < a := by
  rcases Nat.lt_or_ge b a with q | q
  · exact q
  · rw [Nat.testBit_lt_two_pow (Nat.lt_of_lt_of_le he (Nat.pow_le_pow_right (by decide) q))] at h; cases h
theorem inn_sN {j e : Nat} (hj : j < 2 ^ 31) (he : e < 2 ^ 31) : inn (nI j) (nI e) = true ↔ sN j e := by
  rw [inn_iff]
  constructor
  · intro h b hb
    have hb2 := tb_lt hj hb
    have := h b (by rw [bt_nI _ (by omega)]; exact hb)
    rwa [bt_nI _ (by omega)] at this
  · intro h k hk
    rcases Nat.lt_or_ge k 32 with q | q
    · rw [bt_nI _ q] at hk ⊢; exact h k hk
    · rw [bt_ge _ q] at hk; cases hk
theorem sN_le {j e : Nat} (h : sN j e) : j ≤ e := by
  have : j ||| e = e := by
    apply Nat.eq_of_testBit_eq
    intro i
    rw [Nat.testBit_or]
    cases hj : j.testBit i with
    | false => rfl
    | true => rw [h i hj]; rfl
  rw [← this]
  exact Nat.left_le_or
theorem sub_tb {e a : Nat} (h : e.testBit a = true) (b : Nat) : (e - 2 ^ a).testBit b = (e.testBit b && !(decide (a = b))) := by
  have h1 : e = (e - 2 ^ a) + 2 ^ a := by have := Nat.ge_two_pow_of_testBit h; omega
  have h2 : e - 2 ^ a = e ^^^ 2 ^ a := by
    have h3 : (e ^^^ 2 ^ a) &&& 2 ^ a = 0 := by
      apply Nat.eq_of_testBit_eq
      intro i
      rw [Nat.testBit_and, Nat.testBit_xor, Nat.testBit_two_pow, Nat.zero_testBit]
      by_cases hi : a = i
      · subst hi; simp [h]
      · simp [hi]
    have h4 := nat_add_or h3
    have h5 : (e ^^^ 2 ^ a) ||| 2 ^ a = e := by
      apply Nat.eq_of_testBit_eq
      intro i
      rw [Nat.testBit_or, Nat.testBit_xor, Nat.testBit_two_pow]
      by_cases hi : a = i
      · subst hi; simp [h]
      · simp [hi]
    omega
  rw [h2, Nat.testBit_xor, Nat.testBit_two_pow]
  by_cases hi : a = b
  · subst hi; simp [h]
  · simp [hi]
theorem add_tb {e a : Nat} (h : e.testBit a = false) (b : Nat) : (e + 2 ^ a).testBit b = (e.testBit b || decide (a = b)) := by
  have h3 : e &&& 2 ^ a = 0 := by
    apply Nat.eq_of_testBit_eq
    intro j
    rw [Nat.testBit_and, Nat.testBit_two_pow, Nat.zero_testBit]
    by_cases hj : a = j
    · subst hj; simp [h]
    · simp [hj]
  rw [nat_add_or h3, Nat.testBit_or, Nat.testBit_two_pow]
theorem sN_ne {j e : Nat} (h : sN j e) (hlt : j < e) : ∃ a, e.testBit a = true ∧ j.testBit a = false := by
  apply Classical.byContradiction
  intro hno
  have : sN e j := fun b hb => by
    cases hq : j.testBit b with
    | true => rfl
    | false => exact absurd ⟨b, hb, hq⟩ hno
  have := sN_le this
  omega
theorem sN_sub {j e a : Nat} (h : sN j e) (ha : e.testBit a = true) (hj : j.testBit a = false) : sN j (e - 2 ^ a) := by
  intro b hb
  rw [sub_tb ha, h b hb]
  by_cases hi : a = b
  · subst hi; rw [hj] at hb; cases hb
  · simp [hi]
theorem sub_sN {e a : Nat} (ha : e.testBit a = true) : sN (e - 2 ^ a) e := by
  intro b hb
  rw [sub_tb ha, Bool.and_eq_true] at hb
  exact hb.1
theorem sub_lt {e a : Nat} (ha : e.testBit a = true) : e - 2 ^ a < e := by
  have := Nat.ge_two_pow_of_testBit ha
  have := Nat.two_pow_pos a
  omega
theorem add_sN {e f a : Nat} (h : sN e f) (ha : f.testBit a = true) (he : e.testBit a = false) : sN (e + 2 ^ a) f := by
  intro b hb
  rw [add_tb he, Bool.or_eq_true] at hb
  rcases hb with q | q
  · exact h b q
  · have : a = b := by simpa using q
    subst this; exact ha
theorem sN_add {e a : Nat} (he : e.testBit a = false) : sN e (e + 2 ^ a) := fun b hb => by rw [add_tb he, hb]; rfl
end ENV
