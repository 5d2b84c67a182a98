theorem and1_bit (y : Int32) : y &&& 1 = if y.toBitVec.getLsbD 0 = true then 1 else 0 := by
  apply Int32.toBitVec_inj.mp
  have h : (y &&& 1).toBitVec = y.toBitVec &&& 1#32 := rfl
  rw [h, BitVec.and_one_eq_setWidth_ofBool_getLsbD]
  cases y.toBitVec.getLsbD 0 <;> rfl
theorem hs_and (x k : Int32) : hs x k = (x >>> (k &&& 31)).toBitVec.getLsbD 0 := by
  unfold hs
  rw [and1_bit]
  cases (x >>> (k &&& 31)).toBitVec.getLsbD 0 <;> rfl
theorem shr_bv (x : Int32) {a : Nat} (h : a < 32) : (x >>> (nI a &&& 31)).toBitVec = x.toBitVec.sshiftRight a := by
  have h1 : ∀ k : Fin 32, ((nI k.val &&& 31).toBitVec.smod 32) = BitVec.ofNat 32 k.val := by decide +kernel
  have h2 : (x >>> (nI a &&& 31)).toBitVec = x.toBitVec.sshiftRight' ((nI a &&& 31).toBitVec.smod 32) := rfl
  rw [h2, h1 ⟨a, h⟩, BitVec.sshiftRight_eq']
  congr 1
  simp only [BitVec.toNat_ofNat]
  omega
theorem hs_bit (x : Int32) {a : Nat} (h : a < 32) : hs x (nI a) = x.toBitVec.getLsbD a := by
  rw [hs_and, shr_bv x h, BitVec.getLsbD_sshiftRight]
  simp [h]
theorem nI_bit (e : Nat) {a : Nat} (h : a < 32) : (nI e).toBitVec.getLsbD a = e.testBit a := by
  rw [nI_bv, BitVec.getLsbD_ofNat]
  simp [h]
theorem hs_nI {e a : Nat} (ha : a < 32) : hs (nI e) (nI a) = e.testBit a := by rw [hs_bit _ ha, nI_bit _ ha]
theorem hs_1 {x k : Int32} (h : (x >>> (k &&& 31)) &&& 1 = 1) : hs x k = true := by unfold hs; rw [h]; decide
theorem hs_n1 {x k : Int32} (h : ¬ (x >>> (k &&& 31)) &&& 1 = 1) : hs x k = false := by
  rw [hs_and]
  rw [and1_bit] at h
  cases hq : (x >>> (k &&& 31)).toBitVec.getLsbD 0 with
  | false => rfl
  | true => rw [hq] at h; exact absurd rfl h
theorem hs_0 {x k : Int32} (h : (x >>> (k &&& 31)) &&& 1 = 0) : hs x k = false := by unfold hs; rw [h]; decide
theorem hs_n0 {x k : Int32} (h : ¬ (x >>> (k &&& 31)) &&& 1 = 0) : hs x k = true := by unfold hs; simp [h]
theorem hs_if (x k : Int32) : (x >>> (k &&& 31)) &&& 1 = bI (hs x k) := by
  rw [hs_and, and1_bit]; rfl
theorem wo_mul (wt : Nat → Int32) (x : Int32) (a : Nat) : wo wt x a + ((x >>> (nI a &&& 31)) &&& 1) * wt a = wo wt x (a + 1) := by
  rw [hs_if]
  simp only [wo]
  cases hs x (nI a) <;> simp [bI]
theorem nI_sub {a b : Nat} (h : b ≤ a) : nI a - nI b = nI (a - b) := by
  have : nI a = nI (a - b) + nI b := by rw [nI_add]; congr 1; omega
  rw [this]; simp
theorem sub_bit {e i : Nat} (hi : i < 31) (h : hs (nI e) (nI i) = true) : nI e - (1 <<< (nI i &&& 31)) = nI (e - 2 ^ i) := by
  rw [show (1 : Int32) <<< (nI i &&& 31) = nI (2 ^ i) from sh1_nI hi]
  rw [hs_nI (by omega)] at h
  exact nI_sub (Nat.ge_two_pow_of_testBit h)
theorem add_bit {e i : Nat} (hi : i < 31) : nI e + (1 <<< (nI i &&& 31)) = nI (e + 2 ^ i) := by
  rw [show (1 : Int32) <<< (nI i &&& 31) = nI (2 ^ i) from sh1_nI hi]
  exact nI_add _ _
theorem nat_add_or {a b : Nat} (h : a &&& b = 0) : a + b = a ||| b := by
  have hw : a + b < 2 ^ (a + b) := Nat.lt_two_pow_self
  have ha : a % 2 ^ (a + b) = a := Nat.mod_eq_of_lt (by omega)
  have hb : b % 2 ^ (a + b) = b := Nat.mod_eq_of_lt (by omega)
  have h1 := BitVec.add_eq_or_of_and_eq_zero (w := a + b) (BitVec.ofNat _ a) (BitVec.ofNat _ b) (by
    apply BitVec.eq_of_toNat_eq
    rw [BitVec.toNat_and, BitVec.toNat_ofNat, BitVec.toNat_ofNat, ha, hb, h]
    simp)
  have h2 := congrArg BitVec.toNat h1
  rw [BitVec.toNat_add, BitVec.toNat_or, BitVec.toNat_ofNat, BitVec.toNat_ofNat, ha, hb, Nat.mod_eq_of_lt hw] at h2
  exact h2
theorem nat_add_lt {e i a : Nat} (hi : i < a) (he : e < 2 ^ a) (h : e.testBit i = false) : e + 2 ^ i < 2 ^ a := by
  have h1 : e ||| 2 ^ i < 2 ^ a := Nat.or_lt_two_pow he (Nat.pow_lt_pow_right (by decide) hi)
  have h2 : e + 2 ^ i = e ||| 2 ^ i := by
    have h3 : e &&& 2 ^ i = 0 := by
      apply Nat.eq_of_testBit_eq
      intro j
      rw [Nat.testBit_and, Nat.testBit_two_pow, Nat.zero_testBit]
      by_cases hj : i = j
      · subst hj; simp [h]
      · simp [hj]
    exact nat_add_or h3
  omega
theorem add_lt {e i a : Nat} (ha : a ≤ 9) (hi : i < a) (he : e < 2 ^ a) (h : hs (nI e) (nI i) = false) : e + 2 ^ i < 2 ^ a := by
  rw [hs_nI (by omega)] at h
  exact nat_add_lt hi he h
theorem ex_mono {P : Nat → Bool} {i n : Nat} (h : ex P i = true) (hn : i ≤ n) : ex P n = true := by
  obtain ⟨j, h1, h2⟩ := ex_iff.mp h
  exact ex_at (i := j) (by omega) h2
theorem sh1_eq {a : Nat} (h : a < 31) : (1 : Int32) <<< (nI a &&& 31) = nI (2 ^ a) := sh1_nI h
def gd (HL : Nat → Int32) (CO : Nat → Bool) (k : Int32) (j : Nat) : Bool := CO j && hs (HL j) k
def lbM (HL : Nat → Int32) (CO : Nat → Bool) (k : Int32) (e : Nat) : Bool := gd HL CO k e && !(ex (fun j => inn (nI j) (nI e) && gd HL CO k j) e)
def ngM (CO : Nat → Bool) (e : Nat) : Bool := !(CO e) && !(ex (fun j => !(CO j) && inn (nI j) (nI e)) e)
def woM (A : Nat) (CO : Nat → Bool) (e : Nat) : Bool := CO e && !(ex (fun j => decide (e < j) && (CO j && inn (nI e) (nI j))) (2 ^ A))
def okW (x : Int32) : Bool := !(decide (x < nI 1)) && !(decide (nI 100 < x))
theorem is_t {g ee q : Bool} (h : (g && !ee) = true) (hq : q = false) : (1 : Int32) = bI (g && !(ee || q)) := by subst hq; rw [Bool.or_false, h]; rfl
theorem is_f {g ee q : Bool} (hq : q = true) : nI 0 = bI (g && !(ee || q)) := by subst hq; rw [Bool.or_true]; cases g <;> rfl
theorem is_end {g : Bool} {P : Nat → Bool} {i n : Nat} (h : (g && !(ex P i)) = false) (hn : i ≤ n) : false = (g && !(ex P n)) := by
  cases g with
  | false => rfl
  | true =>
    have : ex P i = true := by simpa using h
    rw [ex_mono this hn]; rfl
theorem bI_inj {a b : Bool} (h : bI a = bI b) : a = b := by cases a <;> cases b <;> first | rfl | (revert h; decide)
theorem bI_ninj {a b : Bool} (h : ¬ bI a = bI b) : (a == b) = false := by cases a <;> cases b <;> first | rfl | exact absurd rfl h
theorem up_no {P : Nat → Bool} (hup : ∀ j, P j = true → P (j + 1) = true) {n : Nat} (h : P n = false) : ∀ j, j ≤ n → P j = false := by
  intro j hj
  cases hq : P j with
  | false => rfl
  | true =>
    have : ∀ d, P (j + d) = true := by
      intro d
      induction d with
      | zero => exact hq
      | succ d ih => exact hup _ ih
    have h1 := this (n - j)
    rw [show j + (n - j) = n by omega, h] at h1
    cases h1
theorem sub1_toInt {x : Int32} (h : ¬ x < 0) : (x - 1).toInt = x.toInt - 1 := by
  have h1 : (0 : Int) ≤ x.toInt := by
    have := Int32.not_lt.mp h
    have := Int32.le_iff_toInt_le.mp this
    rwa [Int32.toInt_zero] at this
  have h2 := Int32.toInt_lt x
  rw [Int32.toInt_sub]
  have : (1 : Int32).toInt = 1 := by decide
  rw [this]
  apply Int.bmod_eq_of_le <;> omega
theorem nn_toInt {x : Int32} : (0 ≤ x) ↔ (0 : Int) ≤ x.toInt := by rw [Int32.le_iff_toInt_le, Int32.toInt_zero]
theorem ng_toInt {x : Int32} : (x < 0) ↔ x.toInt < (0 : Int) := by rw [Int32.lt_iff_toInt_lt, Int32.toInt_zero]
theorem nI_eq_iff {a : Nat} {q : Int32} (ha : a < 2 ^ 31) : nI a = q ↔ (a : Int) = q.toInt := by
  constructor
  · intro h; rw [← h, nI_toInt ha]
  · intro h; apply Int32.toInt_inj.mp; rw [nI_toInt ha]; exact h
section NTH
variable {P : Nat → Bool} {i : Nat} {q v4 d : Int32}
theorem nth_no (hi : i < 2 ^ 31) (hlf : v4.toInt = q.toInt - (cnt P i : Int)) (h19 : ¬ v4 < 0) (h75 : 0 ≤ v4 - d) (hd : (d = 1 ∧ P i = true) ∨ (d = 0 ∧ P i = false)) : (P i && nI (cnt P i) == q) = false := by
  rcases hd with ⟨rfl, h⟩ | ⟨rfl, h⟩
  · have h1 := nn_toInt.mp h75
    rw [sub1_toInt h19] at h1
    have hc := cnt_le P i
    have : ¬ nI (cnt P i) = q := fun hq => by rw [nI_eq_iff (by omega)] at hq; omega
    simp [h, this]
  · simp [h]
theorem nth_lf (hlf : v4.toInt = q.toInt - (cnt P i : Int)) (h19 : ¬ v4 < 0) (h75 : 0 ≤ v4 - d) (hd : (d = 1 ∧ P i = true) ∨ (d = 0 ∧ P i = false)) : (v4 - d).toInt = q.toInt - (cnt P (i + 1) : Int) := by
  rcases hd with ⟨rfl, h⟩ | ⟨rfl, h⟩
  · rw [sub1_toInt h19]; simp only [cnt, h, if_true]; omega
  · rw [Int32.sub_zero]; simp only [cnt, h]; simpa using hlf
theorem nth_at (hi : i < 2 ^ 31) (hlf : v4.toInt = q.toInt - (cnt P i : Int)) (h19 : ¬ v4 < 0) (h75 : ¬ 0 ≤ v4 - d) (hd : (d = 1 ∧ P i = true) ∨ (d = 0 ∧ P i = false)) : (P i && nI (cnt P i) == q) = true := by
  rcases hd with ⟨rfl, h⟩ | ⟨rfl, h⟩
  · have h1 := mt nn_toInt.mpr h75
    rw [sub1_toInt h19] at h1
    have h2 := mt ng_toInt.mpr h19
    have hc := cnt_le P i
    have : nI (cnt P i) = q := by rw [nI_eq_iff (by omega)]; omega
    simp [h, this]
  · rw [Int32.sub_zero] at h75
    exact absurd (Int32.not_lt.mp h19) h75
theorem nth_neg {n : Nat} (hn : n < 2 ^ 31) (hlf : v4.toInt = q.toInt - (cnt P i : Int)) (hps : i = 0 ∨ 0 ≤ v4.toInt) (h19 : v4 < 0) : nth P n q = -1 := by
  have h1 := ng_toInt.mp h19
  rcases hps with rfl | h2
  · apply fndI_no
    intro j hj
    have hc := cnt_le P j
    have h3 : ((cnt P 0 : Nat) : Int) = 0 := rfl
    have : ¬ nI (cnt P j) = q := fun hq => by rw [nI_eq_iff (by omega)] at hq; omega
    simp [this]
  · omega
end NTH
