/-! THE CLAIM OUT OF ONE WALK OF THE LAW'S BODY. Your part is whole_start (and what it stands on); all else here is the same for every law, but numbers. -/
def R_law : String := "AssumptionKeeperLaw"
def lw_P (b : Addr) (xs : List Int32) (args : Array Value) (s : State) : Prop := args = #[.ref b] ∧ s.IntsAt b xs ∧ xs.length ≤ 1536 ∧ (Jvm.Cond.and given_1 narrow_1).before args s = true
/-- what a walk over the start with the record d0 says of its end, said of the start itself -/
theorem lw_closed {s t : State} {o : Outcome} {d0 : Drawn} {L : List Loc} {k n : Nat} (hd0 : s.drawn.sameBut d0 lw_cs) (hv : ∃ v, o = .returned v) (hW : (s.setDrawn d0).WarmedH t.vm) (hs : (s.setDrawn d0).sameButNew ({ t with vm := s.vm } : State) L k n) : State.butDraws s t lw_cs (fun t1 => Framed s o t1 L k n) := by
  have h2 : t.drawn = d0 := congrArg State.drawn hs.1
  refine ⟨⟨hv, hW, State.sameButNew.setDrawn hs s.drawn⟩, ?_, by decide⟩
  rw [h2]
  exact hd0
def lw_Q (_ : Array Value) (s : State) (o : Outcome) (t : State) : Prop := o = .returned (some (.int 1)) ∧ State.butDraws s t lw_cs (fun t1 => Framed s o t1 [] 1061 12206)
def lw_Z (below : List Frame) (a : Array Value) (s : State) : State → Prop := fun t => ∃ o, t.status = .running ∧ Ended t below o ∧ lw_Q a s o t
/-- the law's own end, with 1 on the stack, nothing written that was there before, its room as the claim has it; d0: the record of draws at this point (at the entry s.drawn: begin with 'refine W.base ?_' and 'have hd0 := Drawn.sameBut.refl s.drawn lw_cs') -/
theorem lw_ret {p : Program} {l : Launch} {e : Env} {s : State} {m : MethodId} {below : List Frame} {meth : Method} {c : Code} {b : Nat} {d0 : Drawn} (hd0 : s.drawn.sameBut d0 lw_cs) (hx : p.tables.exec = Jvm.exec) (hb : c.code = code) (hr : meth.sig.returnType = ret) (hlocks : meth.locks = false) {pc : Nat} {H : Heap} {ls : Array Slot} (hdg : decode code pc = .ok (.ireturn, 1)) : W p l e room_1 (s.setDrawn d0) m #[Value.ref b] below meth c H [] 1061 12206 (lw_Z below #[Value.ref b] s) (F0 m pc ls [.int 1]) := by
  intro T hT X
  obtain ⟨fs, hret, hrun, hended, hW, hframe⟩ := X.leave (v := some (.int 1)) (hlocks := hlocks) (fun h => by rw [hr] at h; cases h)
  have hmeth' : T.vm.method? m = some meth := X.method'
  refine ⟨T.setFrames fs, ?_, .returned (some (.int 1)), hrun, hended, rfl, lw_closed hd0 ⟨_, rfl⟩ hW hframe⟩
  jvm_step X.here [X.here.top, hx, hb, hdg, hmeth', hr, ret, narrow_b1]
  (try refine ⟨rfl, ?_⟩); (try refine ⟨rfl, ?_⟩)
  first | (intro acts; rw [hret _ acts rfl rfl rfl]) | rw [hret _ _ rfl rfl rfl]
  exact Steps.refl _
/-- what holds at the law's entry: the machine, the code, the tables' words (any of lw_tbl by 'hts w (by decide +kernel)'), the script of L ints xs at the cell b, what the Statement gives of the start (any of its parts by flat_of_before) -/
def lw_At (p : Program) (s : State) (m : MethodId) (meth : Method) (c : Code) (b L : Nat) (xs : Nat → Int32) : Prop :=
  p.tables.exec = Jvm.exec ∧ c.code = code ∧ meth.sig.returnType = ret ∧ c.maxLocals = 9 ∧ s.vm.findClass R_law = some m.cls ∧ (∀ w ∈ lw_tbl, w.before #[Value.ref b] s = true) ∧ va_X b L xs s s.heap ∧ b < s.heap.size ∧ meth.locks = false ∧ (Jvm.Cond.and given_1 narrow_1).before #[Value.ref b] s = true
theorem lw_ret0 {p : Program} {l : Launch} {e : Env} {s : State} {m : MethodId} {below : List Frame} {meth : Method} {c : Code} {b : Nat} (hx : p.tables.exec = Jvm.exec) (hb : c.code = code) (hr : meth.sig.returnType = ret) (hlocks : meth.locks = false) {pc : Nat} {H : Heap} {ls : Array Slot} (hdg : decode code pc = .ok (.ireturn, 1)) : W p l e room_1 s m #[Value.ref b] below meth c H [] 1061 12206 (lw_Z below #[Value.ref b] s) (F0 m pc ls [.int 1]) :=
  lw_ret (d0 := s.drawn) (Drawn.sameBut.refl s.drawn lw_cs) hx hb hr hlocks hdg
abbrev wZ (cI cZ cJ cE : ClassId) (ad md : Nat → Nat) (ou od : Nat) (N A : Nat) (fl : Bool) (an nd wt B Hd : Nat → Int32) (O : Nat → Bool) (R : Nat) (HL LB : Nat → Int32) (SO NG WO : Nat → Bool) (SA SE : Nat) (th : Int32) (Nm Am Rm : Nat) (kw : Bool) (anm ndm wtm Bm Hdm : Nat → Int32) (Om : Nat → Bool) (HM : Nat → Int32) (CO : Nat → Bool) (F : Nat → Int64) (G : Nat → UInt64) : va_W := [(ad 0, .inr (2, [.ref (ad 1), .ref (ad 2), .ref (ad 3), .ref (ad 4), .ref (ad 8), .int (nI N), .int (nI A), .int (bI fl)])), (ad 1, .inl (cI, 24, .inl an)), (ad 2, .inl (cI, 9, .inl nd)), (ad 3, .inl (cI, 9, .inl wt)),
  (ad 4, .inr (0, [.ref (ad 5), .ref (ad 6), .ref (ad 7), .int (nI R)])), (ad 5, .inl (cI, 40, .inl B)), (ad 6, .inl (cI, 40, .inl Hd)), (ad 7, .inl (cZ, 40, .inl (fun j => bI (O j)))),
  (ad 8, .inr (1, [.ref (ad 9), .ref (ad 10), .ref (ad 11), .ref (ad 12), .ref (ad 13), .int (nI SA), .int (nI SE)])), (ad 9, .inl (cI, 512, .inl HL)), (ad 10, .inl (cI, 512, .inl LB)), (ad 11, .inl (cZ, 512, .inl (fun j => bI (SO j)))), (ad 12, .inl (cZ, 512, .inl (fun j => bI (NG j)))), (ad 13, .inl (cZ, 512, .inl (fun j => bI (WO j)))),
  (md 0, .inr (3, [.int th, .int (nI Nm), .ref (md 1), .int (nI Am), .ref (md 2), .ref (md 3), .int (nI Rm), .ref (md 4), .ref (md 5), .ref (md 6), .int (bI kw), .ref (md 7), .ref (md 8)])), (md 1, .inl (cI, 24, .inl anm)), (md 2, .inl (cI, 9, .inl ndm)), (md 3, .inl (cI, 9, .inl wtm)), (md 4, .inl (cI, 40, .inl Bm)), (md 5, .inl (cI, 40, .inl Hdm)), (md 6, .inl (cZ, 40, .inl (fun j => bI (Om j)))), (md 7, .inl (cI, 512, .inl HM)), (md 8, .inl (cZ, 512, .inl (fun j => bI (CO j)))),
  (ou, .inl (cJ, 1, .inr (.inl F))), (od, .inl (cE, 1, .inr (.inr (.inr (.inl G)))))]
/-- what holds between the calls -/
def Inv (N A : Nat) (fl : Bool) (nd wt B Hd : Nat → Int32) (O : Nat → Bool) (R : Nat) (HL LB : Nat → Int32) (SO NG WO : Nat → Bool) (SA SE : Nat) (kw : Bool) (HM : Nat → Int32) (CO : Nat → Bool) : Prop :=
  N ≤ 24 ∧ A ≤ 9 ∧ R ≤ 40 ∧ okH N Hd R ∧ okN N nd A ∧ (∀ a, a < A → 0 < wt a) ∧ (fl = true → svOK B Hd O R nd A HL LB SO NG WO SA SE) ∧ (kw = true → knOK B Hd O R nd A HM CO)
abbrev apS (s : State) : Nat → Prop := fun q => s.heap.size ≤ q
abbrev tyL (cI cZ cJ cE : ClassId) : List (ClassId × FieldType) := [(cI, .int), (cZ, .boolean), (cJ, .long), (cE, .double)]
/-- the way on from the end of a case -/
def lwK (p : Program) (l : Launch) (e : Env) (s : State) (m : MethodId) (below : List Frame) (meth : Method) (c : Code) (b : Nat) (D : va_G) (cI cZ cJ cE : ClassId) (ad md : Nat → Nat) (ou od : Nat) (cs sl i3 : Nat) : Prop :=
  ∀ (N A : Nat) (fl : Bool) (an nd wt B Hd : Nat → Int32) (O : Nat → Bool) (R : Nat) (HL LB : Nat → Int32) (SO NG WO : Nat → Bool) (SA SE : Nat) (th : Int32) (kw : Bool) (HM : Nat → Int32) (CO : Nat → Bool) (F : Nat → Int64) (G : Nat → UInt64) (H : Heap) (locs : List Loc),
    Inv N A fl nd wt B Hd O R HL LB SO NG WO SA SE kw HM CO → va_P D vwCl (wZ cI cZ cJ cE ad md ou od N A fl an nd wt B Hd O R HL LB SO NG WO SA SE th N A R kw an nd wt B Hd O HM CO F G) H → va_D (apS s) (wZ cI cZ cJ cE ad md ou od N A fl an nd wt B Hd O R HL LB SO NG WO SA SE th N A R kw an nd wt B Hd O HM CO F G) → va_S (apS s) s.heap H locs →
    ∀ ls : Array Slot, lv_has ls 9 [(0, .ref b), (1, .ref (ad 0)), (2, .ref (md 0)), (3, .ref ou), (4, .ref od), (5, .int (nI i3))] → W p l e room_1 s m #[Value.ref b] below meth c H locs (cs + 2) (sl + 12) (lw_Z below #[Value.ref b] s) (F0 m 1862 ls [])
section LSC
variable {p : Program} {l : Launch} {e : Env} {R : Room} {s : State} {m : MethodId} {args : Array Value} {below : List Frame} {meth : Method} {c : Code} {H : Heap} {locs : List Loc} {cells slots : Nat} {Q : State → Prop} {cc : ByteArray} {pc : Nat} {ls : Array Slot} {rest : List Value} {A : Nat → Prop} {H0 : Heap}
theorem sld_ (hx : p.tables.exec = Jvm.exec) (hb : c.code = cc) {b L : Nat} {xs : Nat → Int32} (hX : va_X b L xs s H0) (hbl : b < H0.size) (hbA : ¬ A b) (hS : va_S A H0 H locs) {i : Nat} (hi : i < L) (hL : L ≤ 1536) (hdg : decode cc pc = .ok (.iaload, 1))
    (kk : W p l e R s m args below meth c H locs cells slots Q (F0 m (pc + 1) ls (.int (xs i) :: rest))) : W p l e R s m args below meth c H locs cells slots Q (F0 m pc ls (.int (nI i) :: .ref b :: rest)) :=
  va_sld hx hb hX hbl hbA hS (vp_in_nI hi (by omega)) hdg (by rw [nI_clamp (by omega)]; exact kk)
end LSC

