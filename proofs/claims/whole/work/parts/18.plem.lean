/-! facts for the public methods -/
theorem q0_gt {a : Nat} (_ : a < 2 ^ 31) (h : 0 < nI a) : 0 < a := by
  rcases Nat.eq_zero_or_pos a with q | q
  · subst q; exact absurd h (by decide)
  · exact q
theorem q0_ngt {a : Nat} (ha : a < 2 ^ 31) (h : ¬ 0 < nI a) : a = 0 := by
  rcases Nat.eq_zero_or_pos a with q | q
  · exact q
  · exact absurd (nI_lt q ha) h
theorem q0_le {a : Nat} (ha : a < 2 ^ 31) (h : nI a ≤ 0) : a = 0 := by
  have := (qI_le (a := a) (b := 0) ha (by decide)).mp h
  omega
theorem q0_nle {a : Nat} (ha : a < 2 ^ 31) (h : ¬ nI a ≤ 0) : 0 < a := by
  have := mt (qI_le (a := a) (b := 0) ha (by decide)).mpr h
  omega
theorem inR_nat {x : Int32} {n : Nat} (h : inR x n = true) : ∃ j, j < n ∧ x = nI j := by
  unfold inR at h
  simp only [Bool.and_eq_true, Bool.not_eq_true', decide_eq_false_iff_not] at h
  obtain ⟨j, hj, rfl⟩ := nI_of h.1
  refine ⟨j, ?_, rfl⟩
  rcases Nat.lt_or_ge j n with q | q
  · exact q
  · exact absurd (nI_le q hj) h.2
theorem inS_nat {x : Int32} {n : Nat} (hn : n < 31) (h : inS x n = true) : ∃ j, j < 2 ^ n ∧ x = nI j := by
  unfold inS at h
  rw [sh1_nI hn] at h
  exact inR_nat (n := 2 ^ n) h
def supE (B Hd : Nat → Int32) (O : Nat → Bool) (R : Nat) (x k : Int32) : Int32 := if hs x k = true then -1 else match (List.range 24).find? (fun d => hs (itr (fun y => aR B Hd O y R) x (d + 1)) k) with
  | some d => fndI (fun r => Hd r == k && fi B O (itr (fun y => aR B Hd O y R) x d) r) R (-2)
  | none => -2
theorem supE_at {B Hd : Nat → Int32} {O : Nat → Bool} {R i : Nat} {x k : Int32} (h0 : hs x k = false) (hi : i < 24) (h : hs (aR B Hd O (itr (fun y => aR B Hd O y R) x i) R) k = true) (hno : ∀ j, j < i → (fun d => hs (itr (fun y => aR B Hd O y R) x (d + 1)) k) j = false) : supE B Hd O R x k = fndI (fun r => Hd r == k && fi B O (itr (fun y => aR B Hd O y R) x i) r) R (-2) := by
  have h1 : (List.range 24).find? (fun d => hs (itr (fun y => aR B Hd O y R) x (d + 1)) k) = some i := List.find?_range_eq_some.mpr ⟨h, List.mem_range.mpr hi, fun j hj => by have h9 := hno j hj; simp only at h9; rw [h9]; rfl⟩
  unfold supE
  rw [h0, if_neg (by decide), h1]
theorem supE_no {B Hd : Nat → Int32} {O : Nat → Bool} {R : Nat} {x k : Int32} (h0 : hs x k = false) (hno : ∀ j, j < 24 → (fun d => hs (itr (fun y => aR B Hd O y R) x (d + 1)) k) j = false) : supE B Hd O R x k = -2 := by
  have h1 : (List.range 24).find? (fun d => hs (itr (fun y => aR B Hd O y R) x (d + 1)) k) = none := List.find?_range_eq_none.mpr (fun i hi => by have h9 := hno i hi; simp only at h9; rw [h9]; rfl)
  unfold supE
  rw [h0, if_neg (by decide), h1]
def xtS (wt : Nat → Int32) (A : Nat) (cn : Int32 → Bool) (m0 t0 : Int32) : Nat → Int32 × Int32
  | 0 => (m0, t0)
  | i + 1 => if (hvO wt (xtS wt A cn m0 t0 i).2 A).1 = -1 then xtS wt A cn m0 t0 i else (if cn ((xtS wt A cn m0 t0 i).1 ||| sh1 (hvO wt (xtS wt A cn m0 t0 i).2 A).1) = true then (xtS wt A cn m0 t0 i).1 ||| sh1 (hvO wt (xtS wt A cn m0 t0 i).2 A).1 else (xtS wt A cn m0 t0 i).1, (xtS wt A cn m0 t0 i).2 ||| sh1 (hvO wt (xtS wt A cn m0 t0 i).2 A).1)
theorem xtS_stop {wt : Nat → Int32} {A : Nat} {cn : Int32 → Bool} {m0 t0 : Int32} {i n : Nat} (h : (hvO wt (xtS wt A cn m0 t0 i).2 A).1 = -1) (hn : i ≤ n) : xtS wt A cn m0 t0 n = xtS wt A cn m0 t0 i := by
  induction n with
  | zero => obtain rfl : i = 0 := by omega
            rfl
  | succ n ih =>
    rcases Nat.lt_or_ge n i with q | q
    · obtain rfl : i = n + 1 := by omega
      rfl
    · have h1 := ih q
      simp only [xtS]
      rw [h1, if_pos h]
