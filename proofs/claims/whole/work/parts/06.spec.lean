/-! what the methods compute: worlds, and pure functions -/
abbrev wR (cI cZ : ClassId) (ad : Nat → Nat) (B Hd : Nat → Int32) (O : Nat → Bool) (R : Nat) : va_W := [(ad 0, .inr (0, [.ref (ad 1), .ref (ad 2), .ref (ad 3), .int (nI R)])), (ad 1, .inl (cI, 40, .inl B)), (ad 2, .inl (cI, 40, .inl Hd)), (ad 3, .inl (cZ, 40, .inl (fun j => bI (O j))))]
abbrev wS (cI cZ : ClassId) (ad : Nat → Nat) (HL LB : Nat → Int32) (SO NG WO : Nat → Bool) (SA SE : Nat) : va_W := [(ad 0, .inr (1, [.ref (ad 1), .ref (ad 2), .ref (ad 3), .ref (ad 4), .ref (ad 5), .int (nI SA), .int (nI SE)])), (ad 1, .inl (cI, 512, .inl HL)), (ad 2, .inl (cI, 512, .inl LB)), (ad 3, .inl (cZ, 512, .inl (fun j => bI (SO j)))), (ad 4, .inl (cZ, 512, .inl (fun j => bI (NG j)))), (ad 5, .inl (cZ, 512, .inl (fun j => bI (WO j))))]
abbrev wK (cI cZ : ClassId) (ad : Nat → Nat) (N A : Nat) (fl : Bool) (an nd wt B Hd : Nat → Int32) (O : Nat → Bool) (R : Nat) (HL LB : Nat → Int32) (SO NG WO : Nat → Bool) (SA SE : Nat) : va_W := [(ad 0, .inr (2, [.ref (ad 1), .ref (ad 2), .ref (ad 3), .ref (ad 4), .ref (ad 8), .int (nI N), .int (nI A), .int (bI fl)])), (ad 1, .inl (cI, 24, .inl an)), (ad 2, .inl (cI, 9, .inl nd)), (ad 3, .inl (cI, 9, .inl wt)),
  (ad 4, .inr (0, [.ref (ad 5), .ref (ad 6), .ref (ad 7), .int (nI R)])), (ad 5, .inl (cI, 40, .inl B)), (ad 6, .inl (cI, 40, .inl Hd)), (ad 7, .inl (cZ, 40, .inl (fun j => bI (O j)))),
  (ad 8, .inr (1, [.ref (ad 9), .ref (ad 10), .ref (ad 11), .ref (ad 12), .ref (ad 13), .int (nI SA), .int (nI SE)])), (ad 9, .inl (cI, 512, .inl HL)), (ad 10, .inl (cI, 512, .inl LB)), (ad 11, .inl (cZ, 512, .inl (fun j => bI (SO j)))), (ad 12, .inl (cZ, 512, .inl (fun j => bI (NG j)))), (ad 13, .inl (cZ, 512, .inl (fun j => bI (WO j))))]
abbrev wM (cI cZ : ClassId) (ad : Nat → Nat) (th : Int32) (N A R : Nat) (kw : Bool) (an nd wt B Hd : Nat → Int32) (O : Nat → Bool) (HL : Nat → Int32) (CO : Nat → Bool) : va_W := [(ad 0, .inr (3, [.int th, .int (nI N), .ref (ad 1), .int (nI A), .ref (ad 2), .ref (ad 3), .int (nI R), .ref (ad 4), .ref (ad 5), .ref (ad 6), .int (bI kw), .ref (ad 7), .ref (ad 8)])), (ad 1, .inl (cI, 24, .inl an)), (ad 2, .inl (cI, 9, .inl nd)), (ad 3, .inl (cI, 9, .inl wt)), (ad 4, .inl (cI, 40, .inl B)), (ad 5, .inl (cI, 40, .inl Hd)), (ad 6, .inl (cZ, 40, .inl (fun j => bI (O j)))), (ad 7, .inl (cI, 512, .inl HL)), (ad 8, .inl (cZ, 512, .inl (fun j => bI (CO j))))]
def hs (x k : Int32) : Bool := !((x >>> (k &&& 31)) &&& 1 == 0)
def sh1 (k : Int32) : Int32 := 1 <<< (k &&& 31)
def inn (a b : Int32) : Bool := (a &&& (b ^^^ -1)) == 0
def inR (p : Int32) (n : Nat) : Bool := !(decide (p < 0)) && !(decide (nI n ≤ p))
def inS (p : Int32) (n : Nat) : Bool := !(decide (p < 0)) && !(decide (sh1 (nI n) ≤ p))
def fi (B : Nat → Int32) (O : Nat → Bool) (x : Int32) (r : Nat) : Bool := O r && inn (B r) x
def aR (B Hd : Nat → Int32) (O : Nat → Bool) (x : Int32) : Nat → Int32
  | 0 => x
  | r + 1 => if ¬ Hd r = -1 ∧ fi B O x r = true then aR B Hd O x r ||| sh1 (Hd r) else aR B Hd O x r
def itr (F : Int32 → Int32) (x : Int32) : Nat → Int32
  | 0 => x
  | n + 1 => F (itr F x n)
theorem itr_fix {F : Int32 → Int32} {x : Int32} {i n : Nat} (h : F (itr F x i) = itr F x i) (hn : i ≤ n) : itr F x n = itr F x i := by
  induction n with
  | zero => have : i = 0 := by omega
            subst this; rfl
  | succ n ih =>
    rcases Nat.lt_or_ge n i with q | q
    · have : i = n + 1 := by omega
      subst this; rfl
    · show F (itr F x n) = _
      rw [ih q, h]
def clo (B Hd : Nat → Int32) (O : Nat → Bool) (R : Nat) (x : Int32) : Int32 := itr (fun y => aR B Hd O y R) x 24
def ex (P : Nat → Bool) : Nat → Bool
  | 0 => false
  | n + 1 => ex P n || P n
theorem ex_iff {P : Nat → Bool} {n : Nat} : ex P n = true ↔ ∃ i, i < n ∧ P i = true := by
  induction n with
  | zero => simp [ex]
  | succ n ih =>
    simp only [ex, Bool.or_eq_true, ih]
    constructor
    · rintro (⟨i, h1, h2⟩ | h)
      · exact ⟨i, by omega, h2⟩
      · exact ⟨n, by omega, h⟩
    · rintro ⟨i, h1, h2⟩
      rcases Nat.lt_or_ge i n with q | q
      · exact Or.inl ⟨i, q, h2⟩
      · have : i = n := by omega
        subst this; exact Or.inr h2
theorem ex_at {P : Nat → Bool} {n i : Nat} (hi : i < n) (h : P i = true) : ex P n = true := ex_iff.mpr ⟨i, hi, h⟩
theorem ex_no {P : Nat → Bool} {n : Nat} (h : ∀ j, j < n → P j = false) : ex P n = false := by
  cases hq : ex P n with
  | false => rfl
  | true =>
    obtain ⟨i, h1, h2⟩ := ex_iff.mp hq
    rw [h i h1] at h2; cases h2
theorem no_succ {P : Nat → Bool} {i : Nat} (h : ∀ j, j < i → P j = false) (h2 : P i = false) : ∀ j, j < i + 1 → P j = false := by
  intro j hj
  rcases Nat.lt_or_ge j i with q | q
  · exact h j q
  · have : j = i := by omega
    subst this; exact h2
def ct (B Hd : Nat → Int32) (O : Nat → Bool) (R : Nat) (x : Int32) : Bool := ex (fun r => Hd r == -1 && fi B O x r) R
def fndI (P : Nat → Bool) (n : Nat) (d : Int32) : Int32 := match (List.range n).find? P with
  | some i => nI i
  | none => d
theorem fndI_at {P : Nat → Bool} {n i : Nat} {d : Int32} (hi : i < n) (h : P i = true) (hno : ∀ j, j < i → P j = false) : fndI P n d = nI i := by
  have h1 : (List.range n).find? P = some i := List.find?_range_eq_some.mpr ⟨h, List.mem_range.mpr hi, fun j hj => by rw [hno j hj]; rfl⟩
  simp [fndI, h1]
theorem fndI_no {P : Nat → Bool} {n : Nat} {d : Int32} (h : ∀ j, j < n → P j = false) : fndI P n d = d := by
  have h1 : (List.range n).find? P = none := List.find?_range_eq_none.mpr (fun i hi => by rw [h i hi]; rfl)
  simp [fndI, h1]
def cnt (P : Nat → Bool) : Nat → Nat
  | 0 => 0
  | n + 1 => if P n = true then cnt P n + 1 else cnt P n
theorem cnt_le (P : Nat → Bool) (n : Nat) : cnt P n ≤ n := by
  induction n with
  | zero => exact Nat.le_refl 0
  | succ n ih =>
    simp only [cnt]
    split <;> omega
/-- the member with the given number in ascending order -/
def nth (P : Nat → Bool) (n : Nat) (p : Int32) : Int32 := fndI (fun e => P e && nI (cnt P e) == p) n (-1)
def bg (nd : Nat → Int32) (x : Int32) : Nat → Int32
  | 0 => 0
  | a + 1 => if hs x (nI a) = true then bg nd x a ||| sh1 (nd a) else bg nd x a
def wo (wt : Nat → Int32) (x : Int32) : Nat → Int32
  | 0 => 0
  | a + 1 => if hs x (nI a) = true then wo wt x a + wt a else wo wt x a
def mx (s x : Int64) : Int64 := s * 31 + x
def mxR (B Hd : Nat → Int32) (O : Nat → Bool) (s : Int64) : Nat → Int64
  | 0 => s
  | r + 1 => mx (mx (mx (mxR B Hd O s r) (B r).toInt64) (Hd r).toInt64) (bI (O r)).toInt64
def mxE (P : Nat → Bool) (s : Int64) : Nat → Int64
  | 0 => s
  | e + 1 => if P e = true then mx (mxE P s e) (nI e).toInt64 else mxE P s e
/-- a set's digest: how many, and these -/
def mxS (P : Nat → Bool) (s : Int64) (n : Nat) : Int64 := mxE P (mx s (nI (cnt P n)).toInt64) n
def hB (HL : Nat → Int32) (e : Nat) : Nat → Int32
  | 0 => 0
  | a + 1 => if hs (nI e) (nI a) = true then hB HL e a ||| HL (e - 2 ^ a) else hB HL e a
/-! bits -/
theorem nI_bv (e : Nat) : (nI e).toBitVec = BitVec.ofNat 32 e := rfl
theorem nI_and31 {a : Nat} (h : a < 32) : nI a &&& 31 = nI a := by
  have : ∀ k : Fin 32, nI k.val &&& 31 = nI k.val := by decide +kernel
  exact this ⟨a, h⟩
theorem sh1_nI {a : Nat} (h : a < 31) : sh1 (nI a) = nI (2 ^ a) := by
  have : ∀ k : Fin 31, sh1 (nI k.val) = nI (2 ^ k.val) := by decide +kernel
  exact this ⟨a, h⟩
def hvO (wt : Nat → Int32) (x : Int32) : Nat → Int32 × Int32
  | 0 => (-1, 0)
  | a + 1 => if hs x (nI a) = false ∧ ¬ wt a ≤ (hvO wt x a).2 then (nI a, wt a) else hvO wt x a
theorem pow9 {a : Nat} (h : a ≤ 9) : 2 ^ a ≤ 512 := Nat.pow_le_pow_right (n := 2) (by decide) h
