section MP3
variable {wt : Nat → Int32} {x : Int32} {j k A i : Nat} {P : Nat → Bool}
theorem hv_s2 (h : hs x (nI j) = true) : (hvO wt x j).1 = (hvO wt x (j + 1)).1 := by simp [hvO, h]
theorem hv_s3 (hj : j < 2 ^ 31) (h : hs x (nI j) = false) (hw : 0 < wt j) (h68 : (hvO wt x j).1 = -1) : nI j = (hvO wt x (j + 1)).1 := by
  have h2 : (hvO wt x j).2 = 0 := by
    rcases hv_inv (wt := wt) x j with q | ⟨k, q1, q2, -⟩
    · exact q.2
    · rw [q2] at h68; exact absurd h68 (nI_ne_neg (by omega))
  have h3 : ¬ wt j ≤ (hvO wt x j).2 := by rw [h2]; exact Int32.not_le.mpr hw
  simp only [hvO]
  rw [if_pos ⟨h, h3⟩]
theorem hv_s0 (h : hs x (nI j) = false) (hkv : (hvO wt x j).1 = nI k) (hkw : (hvO wt x j).2 = wt k) (h85 : wt j ≤ wt k) : nI k = (hvO wt x (j + 1)).1 := by
  simp only [hvO]
  rw [if_neg (fun q => q.2 (by rw [hkw]; exact h85)), hkv]
theorem hv_s1 (h : hs x (nI j) = false) (_hkv : (hvO wt x j).1 = nI k) (hkw : (hvO wt x j).2 = wt k) (h85 : ¬ wt j ≤ wt k) : nI j = (hvO wt x (j + 1)).1 := by
  simp only [hvO]
  rw [if_pos ⟨h, by rw [hkw]; exact h85⟩]
theorem ch_a (h : P i = false) : (chE P wt A i).1 = (chE P wt A (i + 1)).1 := by simp [chE, h]
theorem ch_b (h : P i = true) (h1 : (chE P wt A i).1 = -1) : nI i = (chE P wt A (i + 1)).1 := by
  simp only [chE]
  rw [if_pos ⟨h, Or.inl h1⟩]
theorem ch_c (hi : i < 2 ^ 31) (_h : P i = true) (h1 : ¬ (chE P wt A i).1 = -1) (h2 : wo wt (chE P wt A i).1 A ≤ wo wt (nI i) A) : (chE P wt A i).1 = (chE P wt A (i + 1)).1 := by
  have h3 := (chE_cost (P := P) (wt := wt) (A := A) hi).resolve_left h1
  simp only [chE]
  rw [if_neg (fun q => q.2.elim h1 (fun q2 => q2 (by rw [h3.1]; exact h2)))]
theorem ch_d (hi : i < 2 ^ 31) (h : P i = true) (h1 : ¬ (chE P wt A i).1 = -1) (h2 : ¬ wo wt (chE P wt A i).1 A ≤ wo wt (nI i) A) : nI i = (chE P wt A (i + 1)).1 := by
  have h3 := (chE_cost (P := P) (wt := wt) (A := A) hi).resolve_left h1
  simp only [chE]
  rw [if_pos ⟨h, Or.inr (by rw [h3.1]; exact h2)⟩]
end MP3
