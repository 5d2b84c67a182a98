/-! the two sides agree: small facts -/
theorem zz_ {v : Bool} {f : Int64} {r rr : Int32} (h4 : f = rr.toInt64) (h1 : rr = bI v) (hr : r = bI v) : (r = 0 → f = 0) ∧ (¬ r = 0 → f = 1) := by
  subst h1; subst hr; subst h4
  cases v
  · exact ⟨fun _ => rfl, fun h => absurd rfl h⟩
  · exact ⟨fun h => absurd h (by decide), fun _ => rfl⟩
theorem nI_same {a b : Nat} (ha : a < 2 ^ 31) (hb : b < 2 ^ 31) (h : nI a = nI b) : a = b := (qI_inj ha hb).mp h
theorem okH_up {N R : Nat} {Hd : Nat → Int32} (h : okH N Hd R) : okH (N + 1) Hd R := fun r hr => (h r hr).imp id (fun ⟨k, hk, q⟩ => ⟨k, by omega, q⟩)
theorem okN_up {N A : Nat} {nd : Nat → Int32} (h : okN N nd A) : okN (N + 1) nd A := fun a ha => let ⟨k, hk, q⟩ := h a ha; ⟨k, by omega, q⟩
theorem okN_add {N A : Nat} {nd : Nat → Int32} (h : okN N nd A) : okN (N + 1) (upd nd A (nI N)) (A + 1) := by
  intro a ha
  by_cases hq : a = A
  · exact ⟨N, by omega, by simp [upd, hq]⟩
  · obtain ⟨k, hk, q⟩ := h a (by omega)
    exact ⟨k, by omega, by simp only [upd, if_neg hq]; exact q⟩
theorem okW_pos {x : Int32} (h : okW x = true) : 0 < x := by
  unfold okW at h
  simp only [Bool.and_eq_true, Bool.not_eq_true', decide_eq_false_iff_not] at h
  have h1 := Int32.not_lt.mp h.1
  rw [Int32.lt_iff_toInt_lt, Int32.toInt_zero]
  have h2 := Int32.le_iff_toInt_le.mp h1
  rw [nI_toInt (by decide)] at h2
  omega
theorem wt_add {A : Nat} {wt : Nat → Int32} {x : Int32} (h : ∀ a, a < A → 0 < wt a) (hx : okW x = true) : ∀ a, a < A + 1 → 0 < upd wt A x a := by
  intro a ha
  by_cases hq : a = A
  · simp only [upd, if_pos hq]; exact okW_pos hx
  · simp only [upd, if_neg hq]; exact h a (by omega)
theorem wt_upd {A j : Nat} {wt : Nat → Int32} {x : Int32} (h : ∀ a, a < A → 0 < wt a) (hx : okW x = true) : ∀ a, a < A → 0 < upd wt j x a := by
  intro a ha
  by_cases hq : a = j
  · simp only [upd, if_pos hq]; exact okW_pos hx
  · simp only [upd, if_neg hq]; exact h a ha
theorem okH_add {N R : Nat} {Hd : Nat → Int32} {y : Int32} (h : okH N Hd R) (hy : y = -1 ∨ inR y N = true) : okH N (upd Hd R y) (R + 1) := by
  intro r hr
  by_cases hq : r = R
  · simp only [upd, if_pos hq]
    rcases hy with q | q
    · exact Or.inl q
    · obtain ⟨k, hk, q2⟩ := inR_nat q
      exact Or.inr ⟨k, hk, q2⟩
  · simp only [upd, if_neg hq]; exact h r (by omega)
theorem okH_drop {N R : Nat} {Hd : Nat → Int32} (h : okH N Hd R) : okH N Hd (R - 1) := fun r hr => h r (by omega)
theorem no_head {y : Int32} {N : Nat} (h1 : ¬ y = -1) (h2 : inR y N = false) : ¬ (y = -1 ∨ inR y N = true) := fun h => h.elim h1 (fun q => by rw [h2] at q; cases q)
