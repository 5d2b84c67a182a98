/-! what the keeper keeps of all environments, and what the reference asks of them -/
section LNK
variable {B Hd : Nat → Int32} {O : Nat → Bool} {R N : Nat} {nd : Nat → Int32} {A : Nat}
def hdE (B Hd : Nat → Int32) (O : Nat → Bool) (R : Nat) (nd : Nat → Int32) (A : Nat) (e : Nat) : Int32 := clo B Hd O R (bg nd (nI e) A)
def soE (B Hd : Nat → Int32) (O : Nat → Bool) (R : Nat) (nd : Nat → Int32) (A : Nat) (e : Nat) : Bool := !(ct B Hd O R (hdE B Hd O R nd A e))
def lbE (HL : Nat → Int32) (CO : Nat → Bool) (A : Nat) (e : Nat) : Int32 := if CO e = true then HL e &&& (hB HL e A ^^^ -1) else 0
def ngE (CO : Nat → Bool) (A : Nat) (e : Nat) : Bool := !(CO e) && !(ex (fun a => hs (nI e) (nI a) && !(CO (e - 2 ^ a))) A)
def woE (CO : Nat → Bool) (A : Nat) (e : Nat) : Bool := CO e && !(ex (fun a => !(hs (nI e) (nI a)) && CO (e + 2 ^ a)) A)
theorem hdE_mono (hA : A ≤ 9) {j e : Nat} (h : sN j e) : sb (hdE B Hd O R nd A j) (hdE B Hd O R nd A e) := clo_mono (bg_mono hA h)
theorem soE_mono (hA : A ≤ 9) {j e : Nat} (h : sN j e) (hs : soE B Hd O R nd A e = true) : soE B Hd O R nd A j = true := by
  unfold soE at hs ⊢
  cases hq : ct B Hd O R (hdE B Hd O R nd A j) with
  | false => rfl
  | true => rw [ct_mono (hdE_mono hA h) hq] at hs; cases hs
theorem bg_add (hA : A ≤ 9) {a e : Nat} (ha : a < A) (he : e < 2 ^ a) : bg nd (nI (2 ^ a + e)) A = bg nd (nI e) A ||| sh1 (nd a) := by
  have htb : e.testBit a = false := Nat.testBit_lt_two_pow he
  apply bt_ext
  intro k hk
  rw [Bool.eq_iff_iff, bt_or, Bool.or_eq_true, bg_bt, bg_bt]
  constructor
  · rintro ⟨b, h1, h2, h3⟩
    rw [hs_nI (by omega), Nat.add_comm, add_tb htb, Bool.or_eq_true] at h2
    rcases h2 with q | q
    · exact Or.inl ⟨b, h1, by rw [hs_nI (by omega)]; exact q, h3⟩
    · have : a = b := by simpa using q
      subst this; exact Or.inr h3
  · rintro (⟨b, h1, h2, h3⟩ | h)
    · refine ⟨b, h1, ?_, h3⟩
      rw [hs_nI (by omega)] at h2 ⊢
      rw [Nat.add_comm, add_tb htb, h2]; rfl
    · refine ⟨a, ha, ?_, h⟩
      rw [hs_nI (by omega), Nat.add_comm, add_tb htb]; simp
theorem hdE_add (hn : N ≤ 24) (hH : okH N Hd R) (hN : okN N nd A) (hA : A ≤ 9) {a e : Nat} (ha : a < A) (he : e < 2 ^ a) : clo B Hd O R (hdE B Hd O R nd A e ||| sh1 (nd a)) = hdE B Hd O R nd A (2 ^ a + e) := by
  unfold hdE
  rw [bg_add hA ha he]
  apply clo_or hn hH (bg_bd hn hN _)
  obtain ⟨j, hj, q⟩ := hN a ha
  intro k hk
  rw [q, bt_sh1 (by omega)]
  have : ¬ j = k := by omega
  simp [this]
theorem bg_nil : bg nd (nI 0) A = 0 := by
  apply bt_ext
  intro k hk
  rw [Bool.eq_iff_iff, bg_bt, bt_zero]
  constructor
  · rintro ⟨a, h1, h2, -⟩
    have h3 : hs (nI 0) (nI a) = false := by
      unfold hs
      have : ∀ y : Int32, (nI 0 >>> y) &&& 1 = 0 := by
        intro y
        have h4 : nI 0 >>> y = 0 := by
          rw [nI_0]; exact Int32.zero_shiftRight
        rw [h4]; rfl
      rw [this]; rfl
    rw [h3] at h2; cases h2
  · intro h; cases h
theorem hB_bt {HL : Nat → Int32} {e : Nat} (n k : Nat) : bt (hB HL e n) k = true ↔ ∃ a, a < n ∧ hs (nI e) (nI a) = true ∧ bt (HL (e - 2 ^ a)) k = true := by
  induction n with
  | zero => simp [hB, bt_zero]
  | succ n ih =>
    simp only [hB]
    split
    · rename_i hc
      rw [bt_or, Bool.or_eq_true, ih]
      constructor
      · rintro (⟨a, h1, h2⟩ | h)
        · exact ⟨a, by omega, h2⟩
        · exact ⟨n, by omega, hc, h⟩
      · rintro ⟨a, h1, h2, h3⟩
        rcases Nat.lt_or_ge a n with q | q
        · exact Or.inl ⟨a, q, h2, h3⟩
        · obtain rfl : a = n := by omega
          exact Or.inr h3
    · rename_i hc
      rw [ih]
      constructor
      · rintro ⟨a, h1, h2⟩
        exact ⟨a, by omega, h2⟩
      · rintro ⟨a, h1, h2, h3⟩
        rcases Nat.lt_or_ge a n with q | q
        · exact ⟨a, q, h2, h3⟩
        · obtain rfl : a = n := by omega
          exact absurd h2 hc
/-- the label by the neighbours below is the label by all subsets -/
theorem lbl_eq {HL : Nat → Int32} {CO : Nat → Bool} (hA : A ≤ 9) (h1 : ∀ j e, e < 2 ^ A → sN j e → sb (HL j) (HL e)) (h2 : ∀ j e, e < 2 ^ A → sN j e → CO e = true → CO j = true) {e k : Nat} (he : e < 2 ^ A) (hk : k < 32) : hs (lbE HL CO A e) (nI k) = lbM HL CO (nI k) e := by
  have h512 := pow9 hA
  unfold lbE lbM gd
  cases hc : CO e with
  | false =>
    simp only [Bool.false_and]
    rw [if_neg (by decide), hs_bt _ hk, bt_zero]
  | true =>
    rw [if_pos rfl, hs_bt _ hk, hs_bt _ hk, bt_and, bt_not _ hk, Bool.true_and]
    congr 1
    congr 1
    rw [Bool.eq_iff_iff, hB_bt, ex_iff]
    constructor
    · rintro ⟨a, q1, q2, q3⟩
      rw [hs_nI (by omega)] at q2
      have q9 := sub_lt q2
      refine ⟨e - 2 ^ a, q9, ?_⟩
      rw [Bool.and_eq_true, Bool.and_eq_true, inn_sN (by omega) (by omega)]
      exact ⟨sub_sN q2, h2 _ e he (sub_sN q2) hc, by rw [hs_bt _ hk]; exact q3⟩
    · rintro ⟨j, q1, q2⟩
      rw [Bool.and_eq_true, Bool.and_eq_true, inn_sN (by omega) (by omega), hs_bt _ hk] at q2
      obtain ⟨q2, q3, q4⟩ := q2
      obtain ⟨a, r1, r2⟩ := sN_ne q2 q1
      have r3 := tb_lt he r1
      refine ⟨a, r3, by rw [hs_nI (by omega)]; exact r1, ?_⟩
      exact h1 j (e - 2 ^ a) (Nat.lt_trans (sub_lt r1) he) (sN_sub q2 r1 r2) k q4
theorem ng_eq {CO : Nat → Bool} (hA : A ≤ 9) (h2 : ∀ j e, e < 2 ^ A → sN j e → CO e = true → CO j = true) {e : Nat} (he : e < 2 ^ A) : ngE CO A e = ngM CO e := by
  have h512 := pow9 hA
  unfold ngE ngM
  congr 1
  congr 1
  rw [Bool.eq_iff_iff, ex_iff, ex_iff]
  constructor
  · rintro ⟨a, q1, q2⟩
    rw [Bool.and_eq_true, hs_nI (by omega)] at q2
    have q9 := sub_lt q2.1
    refine ⟨e - 2 ^ a, q9, ?_⟩
    rw [Bool.and_eq_true, inn_sN (by omega) (by omega)]
    exact ⟨q2.2, sub_sN q2.1⟩
  · rintro ⟨j, q1, q2⟩
    rw [Bool.and_eq_true, inn_sN (by omega) (by omega)] at q2
    obtain ⟨a, r1, r2⟩ := sN_ne q2.2 q1
    have r3 := tb_lt he r1
    refine ⟨a, r3, ?_⟩
    rw [Bool.and_eq_true, hs_nI (by omega)]
    refine ⟨r1, ?_⟩
    cases hq : CO (e - 2 ^ a) with
    | false => rfl
    | true =>
      have := h2 j (e - 2 ^ a) (Nat.lt_trans (sub_lt r1) he) (sN_sub q2.2 r1 r2) hq
      rw [this] at q2; exact q2.1
theorem wo_eq {CO : Nat → Bool} (hA : A ≤ 9) (h2 : ∀ j e, e < 2 ^ A → sN j e → CO e = true → CO j = true) {e : Nat} (he : e < 2 ^ A) : woE CO A e = woM A CO e := by
  have h512 := pow9 hA
  unfold woE woM
  congr 1
  congr 1
  rw [Bool.eq_iff_iff, ex_iff, ex_iff]
  constructor
  · rintro ⟨a, q1, q2⟩
    rw [Bool.and_eq_true, hs_nI (by omega)] at q2
    have r1 : e.testBit a = false := by simpa using q2.1
    have r2 := nat_add_lt q1 he r1
    refine ⟨e + 2 ^ a, r2, ?_⟩
    rw [Bool.and_eq_true, Bool.and_eq_true, inn_sN (by omega) (by omega)]
    have := Nat.two_pow_pos a
    exact ⟨by simp; omega, q2.2, sN_add r1⟩
  · rintro ⟨j, q1, q2⟩
    rw [Bool.and_eq_true, Bool.and_eq_true, inn_sN (by omega) (by omega)] at q2
    obtain ⟨q3, q4, q5⟩ := q2
    have q3 : e < j := by simpa using q3
    obtain ⟨a, r1, r2⟩ := sN_ne q5 q3
    have r3 := tb_lt q1 r1
    refine ⟨a, r3, ?_⟩
    rw [Bool.and_eq_true, hs_nI (by omega), r2]
    exact ⟨rfl, h2 (e + 2 ^ a) j q1 (add_sN q5 r1 r2) q4⟩
end LNK
theorem ex_congr {P Q : Nat → Bool} {n : Nat} (h : ∀ j, j < n → P j = Q j) : ex P n = ex Q n := by
  induction n with
  | zero => rfl
  | succ n ih => simp only [ex]; rw [ih (fun j hj => h j (by omega)), h n (by omega)]
theorem cnt_congr {P Q : Nat → Bool} {n : Nat} (h : ∀ j, j < n → P j = Q j) : cnt P n = cnt Q n := by
  induction n with
  | zero => rfl
  | succ n ih => simp only [cnt]; rw [ih (fun j hj => h j (by omega)), h n (by omega)]
theorem fndI_congr {P Q : Nat → Bool} {n : Nat} {d : Int32} (h : ∀ j, j < n → P j = Q j) : fndI P n d = fndI Q n d := by
  unfold fndI
  have : (List.range n).find? P = (List.range n).find? Q := by
    cases hq : (List.range n).find? Q with
    | none =>
      rw [List.find?_range_eq_none] at hq ⊢
      intro i hi
      rw [h i hi]; exact hq i hi
    | some i =>
      rw [List.find?_range_eq_some] at hq ⊢
      obtain ⟨h1, h2, h3⟩ := hq
      have h4 := List.mem_range.mp h2
      exact ⟨by rw [h i h4]; exact h1, h2, fun j hj => by rw [h j (by omega)]; exact h3 j hj⟩
  rw [this]
theorem nth_congr {P Q : Nat → Bool} {n : Nat} {q : Int32} (h : ∀ j, j < n → P j = Q j) : nth P n q = nth Q n q := by
  unfold nth
  apply fndI_congr
  intro j hj
  rw [h j hj, cnt_congr (fun i hi => h i (by omega))]
theorem mxE_congr {P Q : Nat → Bool} {n : Nat} {x : Int64} (h : ∀ j, j < n → P j = Q j) : mxE P x n = mxE Q x n := by
  induction n with
  | zero => rfl
  | succ n ih => simp only [mxE]; rw [ih (fun j hj => h j (by omega)), h n (by omega)]
theorem mxS_congr {P Q : Nat → Bool} {n : Nat} {x : Int64} (h : ∀ j, j < n → P j = Q j) : mxS P x n = mxS Q x n := by
  unfold mxS
  rw [cnt_congr h, mxE_congr h]
