/-! Integer.bitCount on 24 bits -/
def bc1 (x : Nat) : Nat := x - ((x / 2) &&& 1431655765)
def bc2 (y : Nat) : Nat := (y &&& 858993459) + ((y / 4) &&& 858993459)
def bc3 (z : Nat) : Nat := (z + z / 16) &&& 252645135
def bc4 (w : Nat) : Nat := w + w / 256
def bc5 (v : Nat) : Nat := v + v / 65536
def bcN (x : Nat) : Nat := bc5 (bc4 (bc3 (bc2 (bc1 x)))) &&& 63
def u1 (a : Nat) : Nat := a - ((a / 2) &&& 85)
def u2 (y : Nat) : Nat := (y &&& 51) + ((y / 4) &&& 51)
def u3 (z : Nat) : Nat := (z + z / 16) &&& 15
theorem land_split {p q m n : Nat} (hp : p < 256) (hm : m < 256) : (p + 256 * q) &&& (m + 256 * n) = (p &&& m) + 256 * (q &&& n) := by
  have h1 : ((p + 256 * q) &&& (m + 256 * n)) % 2 ^ 8 = p &&& m := by
    rw [Nat.and_mod_two_pow, show (p + 256 * q) % 2 ^ 8 = p by omega, show (m + 256 * n) % 2 ^ 8 = m by omega]
  have h2 : ((p + 256 * q) &&& (m + 256 * n)) / 2 ^ 8 = q &&& n := by
    rw [Nat.and_div_two_pow, show (p + 256 * q) / 2 ^ 8 = q by omega, show (m + 256 * n) / 2 ^ 8 = n by omega]
  omega
theorem land3 {p q r : Nat} (hp : p < 256) (hq : q < 256) (hr : r < 256) (m : Nat) (hm : m < 256) : (p + 256 * (q + 256 * r)) &&& (m + 256 * (m + 256 * (m + 256 * m))) = (p &&& m) + 256 * ((q &&& m) + 256 * (r &&& m)) := by
  rw [land_split hp hm, land_split hq hm]
  have h := land_split (p := r) (q := 0) (m := m) (n := m) hr hm
  rw [Nat.mul_zero, Nat.add_zero, Nat.zero_and, Nat.mul_zero, Nat.add_zero] at h
  rw [h]
theorem b_1 : ∀ a : Fin 256, ∀ d : Fin 2, ((a.val / 2 + 128 * d.val) &&& 85) = ((a.val / 2) &&& 85) := by decide +kernel
theorem b_1l : ∀ a : Fin 256, ((a.val / 2) &&& 85) ≤ a.val := by decide +kernel
theorem b_2 : ∀ a : Fin 256, ∀ d : Fin 4, ((a.val / 4 + 64 * d.val) &&& 51) = ((a.val / 4) &&& 51) := by decide +kernel
theorem b_3 : ∀ a : Fin 256, ∀ d : Fin 16, ((a.val + a.val / 16 + 16 * d.val) &&& 15) = ((a.val + a.val / 16) &&& 15) := by decide +kernel
theorem b_z : ∀ a : Fin 256, u2 (u1 a.val) ≤ 68 ∧ u2 (u1 a.val) % 16 ≤ 4 := by decide +kernel
theorem b_p : ∀ a : Fin 256, u3 (u2 (u1 a.val)) = cnt (fun k => a.val.testBit k) 8 := by decide +kernel
theorem s_1 {a b c : Nat} (ha : a < 256) (hb : b < 256) (hc : c < 256) : bc1 (a + 256 * (b + 256 * c)) = u1 a + 256 * (u1 b + 256 * u1 c) := by
  have e1 : (a + 256 * (b + 256 * c)) / 2 = (a / 2 + 128 * (b % 2)) + 256 * ((b / 2 + 128 * (c % 2)) + 256 * (c / 2)) := by omega
  have h1 := b_1 ⟨a, ha⟩ ⟨b % 2, by omega⟩
  have h2 := b_1 ⟨b, hb⟩ ⟨c % 2, by omega⟩
  have l1 := b_1l ⟨a, ha⟩
  have l2 := b_1l ⟨b, hb⟩
  have l3 := b_1l ⟨c, hc⟩
  simp only at h1 h2 l1 l2 l3
  unfold bc1 u1
  rw [e1, show (1431655765 : Nat) = 85 + 256 * (85 + 256 * (85 + 256 * 85)) by decide, land3 (by omega) (by omega) (by omega) 85 (by decide), h1, h2]
  omega
theorem u1_lt {a : Nat} (ha : a < 256) : u1 a < 256 := by unfold u1; omega
theorem s_2 {a b c : Nat} (ha : a < 256) (hb : b < 256) (hc : c < 256) : bc2 (a + 256 * (b + 256 * c)) = u2 a + 256 * (u2 b + 256 * u2 c) := by
  have e1 : (a + 256 * (b + 256 * c)) / 4 = (a / 4 + 64 * (b % 4)) + 256 * ((b / 4 + 64 * (c % 4)) + 256 * (c / 4)) := by omega
  have h1 := b_2 ⟨a, ha⟩ ⟨b % 4, by omega⟩
  have h2 := b_2 ⟨b, hb⟩ ⟨c % 4, by omega⟩
  simp only at h1 h2
  unfold bc2 u2
  rw [e1, show (858993459 : Nat) = 51 + 256 * (51 + 256 * (51 + 256 * 51)) by decide, land3 ha hb hc 51 (by decide), land3 (by omega) (by omega) (by omega) 51 (by decide), h1, h2]
  omega
theorem s_3 {a b c : Nat} (ha : a ≤ 68) (hb : b ≤ 68) (hc : c ≤ 68) (hb4 : b % 16 ≤ 4) (hc4 : c % 16 ≤ 4) : bc3 (a + 256 * (b + 256 * c)) = u3 a + 256 * (u3 b + 256 * u3 c) := by
  have e1 : (a + 256 * (b + 256 * c)) + (a + 256 * (b + 256 * c)) / 16 = (a + a / 16 + 16 * (b % 16)) + 256 * ((b + b / 16 + 16 * (c % 16)) + 256 * (c + c / 16)) := by omega
  have h1 := b_3 ⟨a, by omega⟩ ⟨b % 16, by omega⟩
  have h2 := b_3 ⟨b, by omega⟩ ⟨c % 16, by omega⟩
  simp only at h1 h2
  unfold bc3 u3
  rw [e1, show (252645135 : Nat) = 15 + 256 * (15 + 256 * (15 + 256 * 15)) by decide, land3 (by omega) (by omega) (by omega) 15 (by decide), h1, h2]
theorem cnt_add (P : Nat → Bool) (n m : Nat) : cnt P (n + m) = cnt P n + cnt (fun k => P (n + k)) m := by
  induction m with
  | zero => rfl
  | succ m ih =>
    show cnt P (n + m + 1) = _
    simp only [cnt]
    rw [ih]
    split <;> omega
theorem fin_mod {a b c : Nat} (ha : a ≤ 8) (hb : b ≤ 8) (hc : c ≤ 8) : bc5 (bc4 (a + 256 * (b + 256 * c))) % 2 ^ 6 = a + b + c := by
  have e1 : bc4 (a + 256 * (b + 256 * c)) = (a + b) + 256 * (b + c) + 65536 * c := by
    unfold bc4
    have : (a + 256 * (b + 256 * c)) / 256 = b + 256 * c := by omega
    rw [this]; omega
  have e2 : bc5 ((a + b) + 256 * (b + c) + 65536 * c) = (a + b + c) + 256 * (b + c) + 65536 * c := by
    unfold bc5
    have : ((a + b) + 256 * (b + c) + 65536 * c) / 65536 = c := by omega
    rw [this]; omega
  rw [e1, e2]
  omega
theorem bcN_cnt {x : Nat} (hx : x < 2 ^ 24) : bcN x = cnt (fun k => x.testBit k) 24 := by
  have ha : x % 256 < 256 := by omega
  have hb : x / 256 % 256 < 256 := by omega
  have hc : x / 65536 < 256 := by omega
  have e0 : x = x % 256 + 256 * (x / 256 % 256 + 256 * (x / 65536)) := by omega
  have c1 : cnt (fun k => x.testBit k) 8 = cnt (fun k => (x % 256).testBit k) 8 := cnt_congr (fun j hj => by
    rw [show (256 : Nat) = 2 ^ 8 by decide, Nat.testBit_mod_two_pow]; simp [hj])
  have c2 : cnt (fun k => x.testBit (8 + k)) 8 = cnt (fun k => (x / 256 % 256).testBit k) 8 := cnt_congr (fun j hj => by
    rw [show (256 : Nat) = 2 ^ 8 by decide, Nat.testBit_mod_two_pow, Nat.testBit_div_two_pow]; simp [hj, Nat.add_comm])
  have c3 : cnt (fun k => x.testBit (16 + k)) 8 = cnt (fun k => (x / 65536).testBit k) 8 := cnt_congr (fun j hj => by
    rw [show (65536 : Nat) = 2 ^ 16 by decide, Nat.testBit_div_two_pow]; simp [Nat.add_comm])
  have hcnt : cnt (fun k => x.testBit k) 24 = cnt (fun k => (x % 256).testBit k) 8 + cnt (fun k => (x / 256 % 256).testBit k) 8 + cnt (fun k => (x / 65536).testBit k) 8 := by
    have h1 : cnt (fun k => x.testBit k) 24 = cnt (fun k => x.testBit k) 16 + cnt (fun k => x.testBit (16 + k)) 8 := cnt_add (fun k => x.testBit k) 16 8
    have h2 : cnt (fun k => x.testBit k) 16 = cnt (fun k => x.testBit k) 8 + cnt (fun k => x.testBit (8 + k)) 8 := cnt_add (fun k => x.testBit k) 8 8
    rw [h1, h2, c1, c2, c3]
  have z1 := b_z ⟨x % 256, ha⟩
  have z2 := b_z ⟨x / 256 % 256, hb⟩
  have z3 := b_z ⟨x / 65536, hc⟩
  have p1 := b_p ⟨x % 256, ha⟩
  have p2 := b_p ⟨x / 256 % 256, hb⟩
  have p3 := b_p ⟨x / 65536, hc⟩
  simp only at z1 z2 z3 p1 p2 p3
  have k1 := cnt_le (fun k => (x % 256).testBit k) 8
  have k2 := cnt_le (fun k => (x / 256 % 256).testBit k) 8
  have k3 := cnt_le (fun k => (x / 65536).testBit k) 8
  have e3 : bc3 (bc2 (bc1 x)) = cnt (fun k => (x % 256).testBit k) 8 + 256 * (cnt (fun k => (x / 256 % 256).testBit k) 8 + 256 * cnt (fun k => (x / 65536).testBit k) 8) := by
    have e1 : bc1 x = u1 (x % 256) + 256 * (u1 (x / 256 % 256) + 256 * u1 (x / 65536)) := by
      conv => lhs; rw [e0]
      exact s_1 ha hb hc
    rw [e1, s_2 (u1_lt ha) (u1_lt hb) (u1_lt hc), s_3 z1.1 z2.1 z3.1 z2.2 z3.2, p1, p2, p3]
  unfold bcN
  rw [e3, hcnt, show (63 : Nat) = 2 ^ 6 - 1 by decide, Nat.and_two_pow_sub_one_eq_mod]
  exact fin_mod k1 k2 k3
theorem and_nI (a b : Nat) : nI a &&& nI b = nI (a &&& b) := by
  apply bt_ext
  intro k hk
  rw [bt_and, bt_nI _ hk, bt_nI _ hk, bt_nI _ hk, Nat.testBit_and]
theorem us_nI {n : Nat} (hn : n < 2 ^ 32) (k : Fin 32) : ((nI n).toUInt32 >>> ((nI k.val).toUInt32 &&& Int32.toUInt32 31)).toInt32 = nI (n / 2 ^ k.val) := by
  have h : ∀ k : Fin 32, (((nI k.val).toUInt32 &&& Int32.toUInt32 31).toBitVec % 32).toNat = k.val := by decide +kernel
  exact pk_ushrN hn (nI k.val) k.val (h k)
theorem bd_nat {x : Int32} (h : bd 24 x) : ∃ n, n < 2 ^ 24 ∧ x = nI n := by
  refine ⟨x.toBitVec.toNat, ?_, ?_⟩
  · apply Nat.lt_of_not_le
    intro hge
    obtain ⟨i, h1, h2⟩ := Nat.exists_ge_and_testBit_of_ge_two_pow hge
    have h3 := h i h1
    unfold bt at h3
    rw [BitVec.getLsbD] at h3
    rw [h3] at h2; cases h2
  · apply Int32.toBitVec_inj.mp
    rw [nI_bv]
    simp
