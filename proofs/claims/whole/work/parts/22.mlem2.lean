/-! facts for the reference's public methods -/
def tB (b : Bool) : Int32 := if b = true then 0 else 1
def tNE (a b : Bool) : Int32 := if a = true then (if b = true then 0 else 2) else 1
section MP
variable {B Hd : Nat → Int32} {O : Nat → Bool} {R N : Nat} {nd wt : Nat → Int32} {A : Nat}
theorem hup_ {k : Int32} (hn : N ≤ 24) (hk : inR k N = true) (x : Int32) : ∀ j, hs (itr (fun y => aR B Hd O y R) x j) k = true → hs (itr (fun y => aR B Hd O y R) x (j + 1)) k = true := by
  obtain ⟨i, hi, rfl⟩ := inR_nat hk
  intro j h
  rw [hs_bt _ (by omega)] at h ⊢
  exact itr_step x j i h
theorem fnd_case (P : Nat → Bool) (n : Nat) (d : Int32) : (∃ i, i < n ∧ fndI P n d = nI i ∧ P i = true ∧ ∀ j, j < i → P j = false) ∨ (fndI P n d = d ∧ ∀ j, j < n → P j = false) := by
  cases hq : (List.range n).find? P with
  | none =>
    refine Or.inr ⟨by simp [fndI, hq], fun j hj => ?_⟩
    have := List.find?_range_eq_none.mp hq j hj
    simpa using this
  | some i =>
    obtain ⟨h1, h2, h3⟩ := List.find?_range_eq_some.mp hq
    exact Or.inl ⟨i, List.mem_range.mp h2, by simp [fndI, hq], h1, fun j hj => by have := h3 j hj; simpa using this⟩
theorem fnd_pos {P : Nat → Bool} (h : 0 < fndI P 25 (-1)) : ∃ d, 0 < d ∧ d < 25 ∧ fndI P 25 (-1) = nI d ∧ P d = true ∧ ∀ j, j < d → P j = false := by
  rcases fnd_case P 25 (-1) with ⟨i, h1, h2, h3, h4⟩ | ⟨h1, -⟩
  · rw [h2] at h
    exact ⟨i, q0_gt (by omega) h, h1, h2, h3, h4⟩
  · rw [h1] at h; exact absurd h (by decide)
theorem fnd_zero {P : Nat → Bool} (h : fndI P 25 (-1) = 0) : P 0 = true := by
  rcases fnd_case P 25 (-1) with ⟨i, h1, h2, h3, h4⟩ | ⟨h1, -⟩
  · rw [h2] at h
    have := q0_eq (by omega) h
    subst this; exact h3
  · rw [h1] at h; exact absurd h (by decide)
theorem fnd_neg {P : Nat → Bool} (h : ¬ 0 < fndI P 25 (-1)) (h0 : ¬ fndI P 25 (-1) = 0) : ∀ j, j < 25 → P j = false := by
  rcases fnd_case P 25 (-1) with ⟨i, h1, h2, h3, h4⟩ | ⟨-, h2⟩
  · rw [h2] at h h0
    have := q0_ngt (by omega) h
    exact absurd (by rw [this]; rfl) h0
  · exact h2
theorem fires_ex {x k : Int32} (hn : N ≤ 24) (hk : inR k N = true) (hH : okH N Hd R) (h1 : hs (aR B Hd O x R) k = true) (h0 : hs x k = false) : ∃ r, r < R ∧ (fun r => Hd r == k && fi B O x r) r = true := by
  obtain ⟨i, hi, rfl⟩ := inR_nat hk
  rw [hs_bt _ (by omega)] at h1 h0
  rcases (aR_bt x R i).mp h1 with q | ⟨r, r1, r2, r3, r4⟩
  · rw [h0] at q; cases q
  · refine ⟨r, r1, ?_⟩
    rcases hH r r1 with q | ⟨j, hj, q⟩
    · exact absurd q r2
    · rw [q, bt_sh1 (by omega)] at r4
      have : j = i := by simpa using r4
      subst this
      simp [q, r3]
theorem hv_inv (x : Int32) (n : Nat) : ((hvO wt x n).1 = -1 ∧ (hvO wt x n).2 = 0) ∨ ∃ k, k < n ∧ (hvO wt x n).1 = nI k ∧ (hvO wt x n).2 = wt k ∧ hs x (nI k) = false := by
  induction n with
  | zero => exact Or.inl ⟨rfl, rfl⟩
  | succ n ih =>
    simp only [hvO]
    split
    · rename_i h; exact Or.inr ⟨n, by omega, rfl, rfl, h.1⟩
    · rcases ih with h | ⟨k, h1, h2⟩
      · exact Or.inl h
      · exact Or.inr ⟨k, by omega, h2⟩
theorem nI_ne_neg {k : Nat} (hk : k < 2 ^ 31) : ¬ nI k = -1 := by
  intro h
  have h1 := nI_pos hk
  rw [h] at h1
  exact h1 (by decide)
theorem hv_none {x : Int32} {n : Nat} (hn : n ≤ 9) (hw : ∀ a, a < n → 0 < wt a) (h : (hvO wt x n).1 = -1) : ∀ a, a < n → hs x (nI a) = true := by
  induction n with
  | zero => intro a ha; omega
  | succ n ih =>
    simp only [hvO] at h
    split at h
    · exact absurd h (nI_ne_neg (by omega))
    · rename_i hc
      have h1 := ih (by omega) (fun a ha => hw a (by omega)) h
      intro a ha
      rcases Nat.lt_or_ge a n with q | q
      · exact h1 a q
      · obtain rfl : a = n := by omega
        cases hq : hs x (nI a) with
        | true => rfl
        | false =>
          exfalso
          apply hc
          refine ⟨hq, ?_⟩
          rcases hv_inv (wt := wt) x a with ⟨-, h3⟩ | ⟨k, h3, h4, -⟩
          · rw [h3]; exact Int32.not_le.mpr (hw a (by omega))
          · rw [h4] at h; exact absurd h (nI_ne_neg (by omega))
theorem hv_full {x : Int32} {n : Nat} (h : ∀ a, a < n → hs x (nI a) = true) : (hvO wt x n).1 = -1 := by
  rcases hv_inv (wt := wt) x n with h1 | ⟨k, h1, -, -, h4⟩
  · exact h1.1
  · rw [h k h1] at h4; cases h4
theorem or_nI (a b : Nat) : nI a ||| nI b = nI (a ||| b) := by
  apply bt_ext
  intro k hk
  rw [bt_or, bt_nI _ hk, bt_nI _ hk, bt_nI _ hk, Nat.testBit_or]
theorem or_bit {a k : Nat} (hk : k < 31) : nI a ||| (1 <<< (nI k &&& 31)) = nI (a ||| 2 ^ k) := by
  rw [show (1 : Int32) <<< (nI k &&& 31) = nI (2 ^ k) from sh1_nI hk, or_nI]
theorem or_lt {a k n : Nat} (ha : a < 2 ^ n) (hk : k < n) : a ||| 2 ^ k < 2 ^ n := Nat.or_lt_two_pow ha (Nat.pow_lt_pow_right (by decide) hk)
theorem cnt_or {t k n : Nat} (hk : k < n) (h : t.testBit k = false) : cnt (fun a => t.testBit a) n < cnt (fun a => (t ||| 2 ^ k).testBit a) n := by
  refine cnt_lt (fun j hj => ?_) hk ?_ h
  · rw [Nat.testBit_or, hj]; rfl
  · rw [Nat.testBit_or, Nat.testBit_two_pow]; simp
theorem cnt_all {t n : Nat} (h : ∃ a, a < n ∧ t.testBit a = false) : cnt (fun a => t.testBit a) n < n := by
  obtain ⟨a, h1, h2⟩ := h
  have h3 := cnt_lt (P := fun a => t.testBit a) (Q := fun _ => true) (fun _ _ => rfl) h1 rfl h2
  have h4 := cnt_le (fun _ => true) n
  omega
theorem full_bits {t n : Nat} (h : t = 2 ^ n - 1) : ∀ a, a < n → t.testBit a = true := by
  intro a ha
  rw [h, Nat.testBit_two_pow_sub_one]; simp [ha]
theorem not_full {t n : Nat} (ht : t < 2 ^ n) (h : ¬ t = 2 ^ n - 1) : ∃ a, a < n ∧ t.testBit a = false := by
  apply Classical.byContradiction
  intro hno
  apply h
  apply Nat.eq_of_testBit_eq
  intro i
  rw [Nat.testBit_two_pow_sub_one]
  rcases Nat.lt_or_ge i n with q | q
  · cases hq : t.testBit i with
    | true => simp [q]
    | false => exact absurd ⟨i, q, hq⟩ hno
  · rw [Nat.testBit_lt_two_pow (Nat.lt_of_lt_of_le ht (Nat.pow_le_pow_right (by decide) q))]
    have : ¬ i < n := by omega
    simp [this]
variable {cn : Int32 → Bool} {x0 : Int32}
/-- where 'extend' is behind i takings -/
def xtI (wt : Nat → Int32) (A : Nat) (cn : Int32 → Bool) (x0 : Int32) (i : Nat) : Prop := ∃ m t, m < 2 ^ A ∧ t < 2 ^ A ∧ xtS wt A cn x0 x0 i = (nI m, nI t) ∧ i ≤ cnt (fun a => t.testBit a) A
theorem xt_step {i m t k : Nat} (hA : A ≤ 9) (hk : k < A) (h : xtS wt A cn x0 x0 i = (nI m, nI t)) (hv : (hvO wt (nI t) A).1 = nI k) : xtS wt A cn x0 x0 (i + 1) = (if cn (nI (m ||| 2 ^ k)) = true then nI (m ||| 2 ^ k) else nI m, nI (t ||| 2 ^ k)) := by
  simp only [xtS, h, hv]
  rw [if_neg (nI_ne_neg (by omega)), sh1_nI (by omega), or_nI, or_nI]
theorem xt_next {i m t k : Nat} (hA : A ≤ 9) (hk : k < A) (hm : m < 2 ^ A) (ht : t < 2 ^ A) (hc : i ≤ cnt (fun a => t.testBit a) A) (h : xtS wt A cn x0 x0 i = (nI m, nI t)) (hv : (hvO wt (nI t) A).1 = nI k) (hb : t.testBit k = false) : xtI wt A cn x0 (i + 1) := by
  have h1 := xt_step hA hk h hv
  have h2 := cnt_or hk hb
  by_cases hcn : cn (nI (m ||| 2 ^ k)) = true
  · rw [if_pos hcn] at h1
    exact ⟨m ||| 2 ^ k, t ||| 2 ^ k, or_lt hm hk, or_lt ht hk, h1, by omega⟩
  · rw [if_neg hcn] at h1
    exact ⟨m, t ||| 2 ^ k, hm, or_lt ht hk, h1, by omega⟩
theorem xt_end {i m t : Nat} (hA : A ≤ 9) (hi : i ≤ A) (h : xtS wt A cn x0 x0 i = (nI m, nI t)) (ht : t = 2 ^ A - 1) : nI m = (xtS wt A cn x0 x0 A).1 := by
  have h1 : (hvO wt (xtS wt A cn x0 x0 i).2 A).1 = -1 := by
    rw [h]
    exact hv_full (fun a ha => by rw [hs_nI (by omega)]; exact full_bits ht a ha)
  rw [xtS_stop h1 hi, h]
theorem hv_take {t : Nat} (hA : A ≤ 9) (hw : ∀ a, a < A → 0 < wt a) (ht : t < 2 ^ A) (h : ¬ t = 2 ^ A - 1) : ∃ k, k < A ∧ (hvO wt (nI t) A).1 = nI k ∧ t.testBit k = false := by
  rcases hv_inv (wt := wt) (nI t) A with h1 | ⟨k, h1, h2, -, h4⟩
  · obtain ⟨a, h3, h4⟩ := not_full ht h
    have h5 := hv_none hA hw h1.1 a h3
    rw [hs_nI (by omega), h4] at h5; cases h5
  · rw [hs_nI (by omega)] at h4
    exact ⟨k, h1, h2, h4⟩
theorem chE_cost {P : Nat → Bool} {n : Nat} (hn : n < 2 ^ 31) : (chE P wt A n).1 = -1 ∨ ((chE P wt A n).2 = wo wt (chE P wt A n).1 A ∧ ¬ (chE P wt A n).1 = -1) := by
  induction n with
  | zero => exact Or.inl rfl
  | succ n ih =>
    simp only [chE]
    split
    · exact Or.inr ⟨rfl, nI_ne_neg (by omega)⟩
    · exact ih (by omega)
end MP
theorem shr_0 {x : Int32} {n : Nat} (hn : n ≤ 24) (h0 : ¬ x < 0) : (x >>> (nI n &&& 31) = 0) ↔ inS x n = true := by
  obtain ⟨j, hj, rfl⟩ := nI_of h0
  have e1 : nI j >>> (nI n &&& 31) = nI (j / 2 ^ n) := by
    apply Int32.toBitVec_inj.mp
    rw [shr_bv _ (by omega)]
    apply BitVec.eq_of_toInt_eq
    rw [BitVec.toInt_sshiftRight]
    have h1 : (nI j).toBitVec.toInt = (j : Int) := nI_toInt hj
    have h2 : (nI (j / 2 ^ n)).toBitVec.toInt = ((j / 2 ^ n : Nat) : Int) := nI_toInt (Nat.lt_of_le_of_lt (Nat.div_le_self _ _) hj)
    rw [h1, h2, Int.shiftRight_eq_div_pow]
    norm_cast
  rw [e1]
  have h3 : j / 2 ^ n < 2 ^ 31 := Nat.lt_of_le_of_lt (Nat.div_le_self _ _) hj
  have h4 : 2 ^ n ≤ 2 ^ 24 := Nat.pow_le_pow_right (by decide) hn
  constructor
  · intro h
    have h5 := q0_eq h3 h
    have h6 : j < 2 ^ n := (Nat.div_eq_zero_iff_lt (Nat.two_pow_pos n)).mp h5
    unfold inS
    rw [sh1_nI (by omega)]
    exact inR_nI (n := 2 ^ n) (by omega) h6
  · intro h
    obtain ⟨i, hi, he⟩ := inS_nat (by omega) h
    have h7 := (qI_inj hj (by omega)).mp he
    subst h7
    rw [Nat.div_eq_of_lt hi]; rfl
