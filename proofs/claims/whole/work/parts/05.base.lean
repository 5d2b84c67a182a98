/-! my own rows: pure contracts, calls of them, array rows by natural indices -/
def bI (b : Bool) : Int32 := if b then 1 else 0
theorem bI_t : bI true = 1 := rfl
theorem bI_f : bI false = 0 := rfl
theorem bI_eq0 {b : Bool} (h : bI b = 0) : b = false := by cases b <;> first | rfl | (revert h; decide)
theorem bI_ne0 {b : Bool} (h : ¬ bI b = 0) : b = true := by cases b <;> first | rfl | exact absurd rfl h
theorem nb_f {b : Bool} (h : (!b) = false) : b = true := by cases b <;> first | rfl | (revert h; decide)
theorem nb_t {b : Bool} (h : (!b) = true) : b = false := by cases b <;> first | rfl | (revert h; decide)
theorem bI_nar (b : Bool) : narrow .boolean (.int (bI b)) = .int (bI b) := by cases b <;> rfl
theorem bI_vnar (b : Bool) : vp_nar .boolean (bI b) = bI b := by cases b <;> rfl
theorem qI_le {a b : Nat} (ha : a < 2 ^ 31) (hb : b < 2 ^ 31) : nI a ≤ nI b ↔ a ≤ b := by
  rw [Int32.le_iff_toInt_le, nI_toInt ha, nI_toInt hb]; omega
theorem qI_lt {a b : Nat} (ha : a < 2 ^ 31) (hb : b < 2 ^ 31) : nI a < nI b ↔ a < b := by
  rw [Int32.lt_iff_toInt_lt, nI_toInt ha, nI_toInt hb]; omega
theorem qI_inj {a b : Nat} (ha : a < 2 ^ 31) (hb : b < 2 ^ 31) : nI a = nI b ↔ a = b := by
  constructor
  · intro h
    have h1 := congrArg Int32.toInt h
    rw [nI_toInt ha, nI_toInt hb] at h1
    omega
  · intro h; rw [h]
theorem qI_of {x : Int32} (h : 0 ≤ x) : ∃ j : Nat, x = nI j ∧ j < 2 ^ 31 := by
  have h1 : (0 : Int) ≤ x.toInt := by have := Int32.le_iff_toInt_le.mp h; rwa [Int32.toInt_zero] at this
  refine ⟨x.toInt.toNat, ?_, ?_⟩
  · apply Int32.toInt_inj.mp
    rw [nI_toInt]
    · omega
    · have := Int32.toInt_lt x; omega
  · have := Int32.toInt_lt x; omega
def updB (f : Nat → Bool) (k : Nat) (x : Bool) : Nat → Bool := fun j => if j = k then x else f j
theorem updB_I (f : Nat → Bool) (k : Nat) (b : Bool) : upd (fun j => bI (f j)) k (bI b) = fun j => bI (updB f k b j) := by
  funext j
  by_cases h : j = k <;> simp [upd, updB, h]
/-- the links between nest mates -/
def nW (U : State) : Prop := va_Nw (.methodLinkNest RX0 34 yX2_mix "AssumptionKeeper") U ∧ va_Nw (.methodLinkNest RX1 58 yX2_contains "AssumptionKeeper") U ∧ va_Nw (.methodLinkNest RX1 76 yX2_mix "AssumptionKeeper") U
def kn (D : va_G) (tys : List (ClassId × FieldType)) (U : State) : Prop := va_K D vwCl tys U ∧ nW U
theorem kn.warm {D : va_G} {tys : List (ClassId × FieldType)} {s U : State} (hW : s.WarmedH U.vm) (h : kn D tys s) : kn D tys U := ⟨va_K.moved hW.alike h.1, va_Nw.warmM hW h.2.1, va_Nw.warmM hW h.2.2.1, va_Nw.warmM hW h.2.2.2⟩
theorem kn.sub {D : va_G} {tys tys' : List (ClassId × FieldType)} {U : State} (h : kn D tys U) (is : List Nat) (hs : is.filterMap (fun i => tys[i]?) = tys') : kn D tys' U := ⟨h.1.sub is hs, h.2⟩
/-- the start of a method that only reads -/
def pcP (D : va_G) (tys : List (ClassId × FieldType)) (ws : va_W) (av : List Value) : Array Value → State → Prop := va_Pc av (fun U => va_P D vwCl ws U.heap ∧ kn D tys U)
theorem pcP_blind {D : va_G} {tys : List (ClassId × FieldType)} {ws : va_W} {av : List Value} : FrameBlind (pcP D tys ws av) := fun a U g mk q => ⟨q.1, q.2.1, va_K.moved (u := U) (U := U.calling g mk a) (Vm.Alike.refl U.vm) q.2.2.1, va_Nw.same rfl (u := U) (U := U.calling g mk a) rfl q.2.2.2.1, va_Nw.same rfl (u := U) (U := U.calling g mk a) rfl q.2.2.2.2.1, va_Nw.same rfl (u := U) (U := U.calling g mk a) rfl q.2.2.2.2.2⟩
section PUR
variable {p : Program} {l : Launch} {e : Env} {R : Room} {s : State} {m : MethodId} {args : Array Value} {below : List Frame} {meth : Method} {c : Code} {H : Heap} {locs : List Loc} {cells slots : Nat} {Q : State → Prop}
variable {cc : ByteArray} {pc : Nat} {ls : Array Slot} {rest st0 : List Value} {D : va_G} {tys : List (ClassId × FieldType)} {ws w0 : va_W} {a : Nat}
theorem pre_S {av : List Value} (hP : va_P D vwCl ws H) (hK : kn D tys s) : PreS s H (pcP D tys ws av) av := ⟨pcP_blind, fun U hU hW => ⟨rfl, by rw [hU]; exact hP, hK.warm hW⟩⟩
theorem pre_V {As : List Value} {q0 ci b : Nat} {q : vw_C} {fs : List Value} (hP : va_P D vwCl ws H) (hK : kn D tys s) (hc : vwCl[ci]? = some q) (he : ws[q0]? = some (b, .inr (ci, fs))) : PreV s H q.1 b (pcP D tys ws (.ref b :: As)) As :=
  ⟨pcP_blind, va_recv hK.1 hP hc he, fun U hU hW => ⟨rfl, by rw [hU]; exact hP, hK.warm hW⟩⟩
theorem pu_i {v : Int32} {aa : Array Value} (hr : va_Run p l e R s m args below meth c H locs cells slots 0 0 (F0 m pc ls st0) rest (vp_Si (fun r => r = v) aa) (fun _ => False))
    (kk : W p l e R s m args below meth c H locs cells slots Q (F0 m (pc + 3) ls (.int v :: rest))) : W p l e R s m args below meth c H locs cells slots Q (F0 m pc ls st0) := by
  intro T hT X
  obtain ⟨v, st₀, t, T', L, h0, X', hL, e1, -, ⟨r, hv, hp, hh⟩, st⟩ := hr T hT X
  cases hv
  subst hp
  obtain ⟨t2, a1, b1⟩ := kk T' (by rw [e1, hh, h0]) (Stand.forget X' (fun q h => (hL q h).elim))
  exact ⟨t2, st t2 a1, b1⟩
theorem pu_l {v : Int64} {aa : Array Value} (hr : va_Run p l e R s m args below meth c H locs cells slots 0 0 (F0 m pc ls st0) rest (vp_Sl (fun r => r = v) aa) (fun _ => False))
    (kk : W p l e R s m args below meth c H locs cells slots Q (F0 m (pc + 3) ls (.long v :: rest))) : W p l e R s m args below meth c H locs cells slots Q (F0 m pc ls st0) := by
  intro T hT X
  obtain ⟨v, st₀, t, T', L, h0, X', hL, e1, -, ⟨r, hv, hp, hh⟩, st⟩ := hr T hT X
  cases hv
  subst hp
  obtain ⟨t2, a1, b1⟩ := kk T' (by rw [e1, hh, h0]) (Stand.forget X' (fun q h => (hL q h).elim))
  exact ⟨t2, st t2 a1, b1⟩
theorem ai_ (hx : p.tables.exec = Jvm.exec) (hb : c.code = cc) (hK : kn D tys s) (hP : va_P D vwCl ws H) (q0 t0 : Nat) {cA : ClassId} {n : Nat} {f : Nat → Int32} (ha : ws[q0]? = some (a, .inl (cA, n, .inl f))) (ht : tys[t0]? = some (cA, .int)) {i : Nat} (hi : i < n) (hn : n < 2 ^ 31) (hdg : decode cc pc = .ok (.iaload, 1))
    (kk : W p l e R s m args below meth c H locs cells slots Q (F0 m (pc + 1) ls (.int (f i) :: rest))) : W p l e R s m args below meth c H locs cells slots Q (F0 m pc ls (.int (nI i) :: .ref a :: rest)) :=
  va_iald hx hb hK.1 hP q0 t0 ha ht (vp_in_nI hi hn) hdg (by rw [nI_clamp (by omega)]; exact kk)
theorem az_ (hx : p.tables.exec = Jvm.exec) (hb : c.code = cc) (hK : kn D tys s) (hP : va_P D vwCl ws H) (q0 t0 : Nat) {cA : ClassId} {n : Nat} {f : Nat → Bool} (ha : ws[q0]? = some (a, .inl (cA, n, .inl (fun j => bI (f j))))) (ht : tys[t0]? = some (cA, .boolean)) {i : Nat} (hi : i < n) (hn : n < 2 ^ 31) (hdg : decode cc pc = .ok (.baload, 1))
    (kk : W p l e R s m args below meth c H locs cells slots Q (F0 m (pc + 1) ls (.int (bI (f i)) :: rest))) : W p l e R s m args below meth c H locs cells slots Q (F0 m pc ls (.int (nI i) :: .ref a :: rest)) :=
  va_zald hx hb hK.1 hP q0 t0 ha ht (vp_in_nI hi hn) hdg (by rw [nI_clamp (by omega)]; exact kk)
variable {A : Nat → Prop} {H0 : Heap}
theorem si_ (hx : p.tables.exec = Jvm.exec) (hb : c.code = cc) (hK : kn D tys s) (hP : va_P D vwCl ws H) (hD : va_D A ws) (hS : va_S A H0 H locs) (q0 t0 : Nat) {cA : ClassId} {n : Nat} {f : Nat → Int32} (ha : ws[q0]? = some (a, .inl (cA, n, .inl f))) (ht : tys[t0]? = some (cA, .int)) {i : Nat} {x : Int32} (hi : i < n) (hn : n < 2 ^ 31) (hdg : decode cc pc = .ok (.iastore, 1))
    (kk : ∀ (H1 : Heap) (locs1 : List Loc), va_P D vwCl (ws.set q0 (a, .inl (cA, n, .inl (upd f i x)))) H1 → va_D A (ws.set q0 (a, .inl (cA, n, .inl (upd f i x)))) → va_S A H0 H1 locs1 → W p l e R s m args below meth c H1 locs1 cells slots Q (F0 m (pc + 1) ls rest)) : W p l e R s m args below meth c H locs cells slots Q (F0 m pc ls (.int x :: .int (nI i) :: .ref a :: rest)) :=
  va_iast hx hb hK.1 hP hD hS q0 t0 ha ht (vp_in_nI hi hn) hdg (fun H1 l1 h1 h2 h3 => by
    rw [nI_clamp (by omega)] at h1 h2
    exact kk H1 l1 h1 h2 h3)
theorem sz_ (hx : p.tables.exec = Jvm.exec) (hb : c.code = cc) (hK : kn D tys s) (hP : va_P D vwCl ws H) (hD : va_D A ws) (hS : va_S A H0 H locs) (q0 t0 : Nat) {cA : ClassId} {n : Nat} {f : Nat → Bool} (ha : ws[q0]? = some (a, .inl (cA, n, .inl (fun j => bI (f j))))) (ht : tys[t0]? = some (cA, .boolean)) {i : Nat} {x : Bool} (hi : i < n) (hn : n < 2 ^ 31) (hdg : decode cc pc = .ok (.bastore, 1))
    (kk : ∀ (H1 : Heap) (locs1 : List Loc), va_P D vwCl (ws.set q0 (a, .inl (cA, n, .inl (fun j => bI (updB f i x j))))) H1 → va_D A (ws.set q0 (a, .inl (cA, n, .inl (fun j => bI (updB f i x j))))) → va_S A H0 H1 locs1 → W p l e R s m args below meth c H1 locs1 cells slots Q (F0 m (pc + 1) ls rest)) : W p l e R s m args below meth c H locs cells slots Q (F0 m pc ls (.int (bI x) :: .int (nI i) :: .ref a :: rest)) :=
  va_zast hx hb hK.1 hP hD hS q0 t0 ha ht (vp_in_nI hi hn) hdg (fun H1 l1 h1 h2 h3 => by
    rw [nI_clamp (by omega), bI_vnar, updB_I] at h1 h2
    exact kk H1 l1 h1 h2 h3)
theorem ri_ {v w : Int32} (hx : p.tables.exec = Jvm.exec) (hb : c.code = cc) (hr : meth.sig.returnType = some .int) (hlocks : meth.locks = false) (hdg : decode cc pc = .ok (.ireturn, 1)) (hv : v = w) :
    W p l e R s m args below meth c s.heap [] 0 0 (MQ below (vp_Si (fun r => r = w)) args s 0 0 (fun _ => False)) (F0 m pc ls [.int v]) :=
  W.iret hx hb hr (fun t ht hW => ⟨v, rfl, hv, ht⟩) t_nil hdg hlocks
theorem rz_ {v w : Bool} (hx : p.tables.exec = Jvm.exec) (hb : c.code = cc) (hr : meth.sig.returnType = some .boolean) (hlocks : meth.locks = false) (hdg : decode cc pc = .ok (.ireturn, 1)) (hv : v = w) :
    W p l e R s m args below meth c s.heap [] 0 0 (MQ below (vp_Si (fun r => r = bI w)) args s 0 0 (fun _ => False)) (F0 m pc ls [.int (bI v)]) :=
  W.zret hx hb hr (bI_nar v) (fun t ht hW => ⟨bI v, rfl, by rw [hv], ht⟩) t_nil hdg hlocks
theorem rl_ {v w : Int64} (hx : p.tables.exec = Jvm.exec) (hb : c.code = cc) (hr : meth.sig.returnType = some .long) (hlocks : meth.locks = false) (hdg : decode cc pc = .ok (.lreturn, 1)) (hv : v = w) :
    W p l e R s m args below meth c s.heap [] 0 0 (MQ below (vp_Sl (fun r => r = w)) args s 0 0 (fun _ => False)) (F0 m pc ls [.long v]) :=
  W.lret hx hb hr (fun t ht hW => ⟨v, rfl, hv, ht⟩) t_nil hdg hlocks
theorem ct_ {t : Bool} (h : W p l e R s m args below meth c H locs cells slots Q (F0 m pc ls (.int (bI t) :: rest))) : ∀ v : Int32, bI t = v → W p l e R s m args below meth c H locs cells slots Q (F0 m pc ls (.int v :: rest)) := fun v hv => hv ▸ h
end PUR
