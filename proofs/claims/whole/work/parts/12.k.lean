/-! calls in xE; a method's contract out of its walk -/
def xM (y : MethodName) (cc : ByteArray) (nL : Nat) (ret : Option FieldType) (n : Nat) : Prop := Cond.code y cc nL ret ∈ xtbl ∧ Cond.initialized y.cls ∈ xtbl ∧ (y.cls ≠ "java/lang/invoke/MethodHandle" ∧ y.cls ≠ "java/lang/invoke/VarHandle") ∧ (parseMethodDescriptor y.desc).map (fun d => d.parameters.length) = some n ∧ plainName y.cls = true
def xI (y : MethodName) : Prop := Cond.instanceMethod y ∈ xtbl ∧ Cond.selects y.cls y y ∈ xtbl
def xRoom (d : Nat) : Room := { frames := d, cells := 0, slots := 0, locals := 40 * d }
abbrev xws (y : MethodName) (cc : ByteArray) (nL : Nat) (ret : Option FieldType) : List Cond := Cond.code y cc nL ret :: xtbl
section XK
variable {g : Gb} {me : Me} {Po Po1 : Outcome → Mm → Prop} {pc k : Nat} {lv lv' : List (Nat × Value)} {st : List Value} {σ : Mm}
variable {y : MethodName} {cc : ByteArray} {nL n idx : Nat} {ret : Option FieldType} {rm : Room} {As rest : List Value}
theorem xbk {p : Program} {e : Env} {s : State} {args : Array Value} {below : List Frame} {Pc : Array Value → State → Prop} {Qc : State → Outcome → State → Prop} {free : Addr → Prop} {R : Room} {l : Launch} (hts : ∀ w ∈ xtbl, w.before args s = true)
    (hM : xMet l y (xws y cc nL ret) rm Pc Qc free) (hy : xM y cc nL ret n) (hrm : rm.frames + 1 ≤ R.frames ∧ 8 + (nL + 11) + rm.locals ≤ R.locals ∧ rm.cells = 0 ∧ rm.slots = 0) : xBack l R p e below s args y Pc Qc free := by
  have hw : ∀ w ∈ xtbl, ∀ (a' : Array Value) (U : State), s.WarmedH U.vm → w.before a' U = true := fun w h a' U hW => word_at hW (good_of_word (xgood h)) (hts w h)
  refine xBack_of (bytes := cc) (ret := ret) (maxL := nL) hM hrm.1 hrm.2.1 hrm.2.2.1 hrm.2.2.2 (fun U hW => ?_) (fun w h => ?_) (hw _ hy.2.1)
  · have h1 := hw _ hy.1 #[] U hW
    obtain ⟨mY, hn⟩ := Cond.code_named h1
    obtain ⟨methY, cY, a1, a2, a3, a4, -⟩ := Cond.code_spec hn h1
    exact ⟨mY, methY, cY, hn, a1, a2, a4⟩
  · rcases List.mem_cons.mp h with rfl | h
    · exact hw _ hy.1
    · exact hw _ h
theorem xlen (hy : xM y cc nL ret n) : ∀ sig, parseMethodDescriptor y.desc = some sig → n = sig.parameters.length := by
  intro sig h
  have h2 := hy.2.2.2.1
  rw [h] at h2
  exact (Option.some.inj h2).symm
theorem xgoon {p : Program} {e : Env} {s : State} {m : MethodId} {args : Array Value} {below : List Frame} {meth : Method} {c : Code} {H : Heap} {locs : List Loc} {ls : Array Slot} {T : State} {st0 : List Value}
    (C : xC g me p s m args meth c) (hS : va_S (xA g) s.heap H locs) (hl : lv_has ls me.2.2.1 lv) (hT : T.heap = H)
    (hr : xRes p (gL g) e me.2.2.2.2.1 s m args below meth c T locs 0 0 (F0 m pc ls st0) rest (xQ g Po1) (xA g))
    (kR : ∀ v σ1, Po1 (.returned v) σ1 → xE g me Po (pc + 3) lv (v.toList ++ rest) σ1) (kT : ∀ x σ1, Po1 (.threw x) σ1 → (∀ x ∈ me.2.2.2.2.2, covers x pc = false) ∧ Po (.threw x) σ1) :
    ∃ t, Steps p.tables e below (T.setTop (F0 m pc ls st0)) t ∧ xMQ below (xQ g Po) s (xA g) t := by
  obtain ⟨c1, c2, c3, c4, c5, c6, c7, c8, c9, c10, c11⟩ := id C
  obtain ⟨o, st0, t, T', L, h0, X', hL, h1, h2, ⟨⟨σ1, hp, hP1⟩, hz, hk⟩, hr⟩ := hr
  rw [h0, hT] at hz hk
  have hS1 : va_S (xA g) s.heap T'.heap (locs ++ L) := by
    rw [h1]
    refine ⟨Nat.le_trans hS.1 hz, fun q a b => ?_, fun q hq => ?_⟩
    · rw [hk q (Nat.lt_of_lt_of_le a hS.1) b]; exact hS.2.1 q a b
    · rcases List.mem_append.mp hq with h | h
      · exact hS.2.2 q h
      · exact hL q h
  rcases hr with ⟨v, rfl, hst⟩ | ⟨x, rfl, hst⟩
  · obtain ⟨t2, a1, b1⟩ := kR v σ1 hp p e s m args below meth c T'.heap (locs ++ L) ls C (by rw [h1]; exact hP1) hS1 hl T' rfl X'
    exact ⟨t2, hst t2 a1, b1⟩
  · obtain ⟨hout, hpo⟩ := kT x σ1 hp
    obtain ⟨w1, w2, w3, w4, w5⟩ := X'.leaveThrown x (g := F0 m pc ls rest) rfl rfl rfl (by rw [c9]; exact hout) c6
    have hh : (T'.setFrames (.throwing x :: below)).heap = T'.heap := rfl
    refine ⟨_, hst _ w1, .threw x, w2, w3, ⟨⟨σ1, hpo, by rw [hh, h1]; exact hP1⟩, hS1.F hh⟩, locs ++ L, ⟨Or.inr ⟨x, rfl⟩, w4, w5⟩, hS1.2.2⟩
theorem e_callV {q ci : Nat} {st0 : List Value} (hd : me.2.1[k]? = some (pc, .invokevirtual idx, 3)) (hM : xMet (gL g) y (xws y cc nL ret) rm (xPc g (.ref (gR g q) :: As) σ) (xQ g Po1) (xA g)) (hy : xM y cc nL ret n) (hi : xI y) (hl : Cond.methodLink me.1 idx y ∈ xtbl)
    (hq : xlay q = (0, ci, 0)) (hc : ∃ r, xCl[ci]? = some r ∧ r.1 = y.cls) (hn : As.length = n) (hst : st0 = As.reverse ++ .ref (gR g q) :: rest) (hsum : (rest.map fun v => v.category).sum ≤ 8) (hrm : rm.frames + 1 ≤ me.2.2.2.2.1.frames ∧ 8 + (nL + 11) + rm.locals ≤ me.2.2.2.2.1.locals ∧ rm.cells = 0 ∧ rm.slots = 0)
    (kR : ∀ v σ1, Po1 (.returned v) σ1 → xE g me Po (pc + 3) lv (v.toList ++ rest) σ1) (kT : ∀ x σ1, Po1 (.threw x) σ1 → (∀ x ∈ me.2.2.2.2.2, covers x pc = false) ∧ Po (.threw x) σ1) : xE g me Po pc lv st0 σ := by
  intro p e s m args below meth c H locs ls C hP hS hl0 T hT X
  obtain ⟨c1, c2, c3, c4, c5, c6, c7, c8, c9, c10, c11⟩ := id C
  have hlt : q < 67 := xlay_lt (by simp [hq])
  obtain ⟨r, hc1, hc2⟩ := hc
  obtain ⟨cell, k1, k2, k3⟩ := va_recv c8 hP.1 (q0 := q) hc1 (by rw [xw_get hlt, xent_o hq])
  rw [hc2] at k3
  refine xgoon C hS hl0 hT (xcallV (C := y.cls) X c1 (bytes := cc) (maxL := nL) (ret := ret) c5 (c7 _ hl) (c7 _ hi.1) (c7 _ hi.2) (fun mk methM h1 h2 => ?_) hy.2.2.1 (xbk c7 hM hy hrm) (by rw [hT]; exact k1) k2 k3 rfl (hl0.1.trans c3.symm) (argsL := As) (rest := rest) (fun sig h => hn.trans (xlen hy sig h)) hst (lv_room hsum) (xdec C hd) (Nat.zero_le _) (Nat.zero_le _) (fun vm₁ g' mk hW => ?_)) kR kT
  · obtain ⟨methM', cM, a1, -, -, -, -, -, -, a2⟩ := Cond.code_spec h1 (c7 _ hy.1)
    cases h2.symm.trans a1
    exact a2
  · have hh : ((T.setVm vm₁).calling g' mk (Value.ref (gR g q) :: As).toArray).heap = H := hT
    have hW1 : s.WarmedH ((T.setVm vm₁).calling g' mk (Value.ref (gR g q) :: As).toArray).vm := hW
    exact ⟨rfl, by rw [hh]; exact hP, va_K.moved hW1.alike c8, c11.to hW1 (by rw [hh]; exact hS.2.1)⟩
theorem e_callS {st0 : List Value} (hd : me.2.1[k]? = some (pc, .invokestatic idx, 3)) (hM : xMet (gL g) y (xws y cc nL ret) rm (xPc g As σ) (xQ g Po1) (xA g)) (hy : xM y cc nL ret n) (hi : Cond.static y ∈ xtbl) (hl : Cond.methodLink me.1 idx y ∈ xtbl)
    (hn : As.length = n) (hst : st0 = As.reverse ++ rest) (hsum : (rest.map fun v => v.category).sum ≤ 8) (hrm : rm.frames + 1 ≤ me.2.2.2.2.1.frames ∧ 8 + (nL + 11) + rm.locals ≤ me.2.2.2.2.1.locals ∧ rm.cells = 0 ∧ rm.slots = 0)
    (kR : ∀ v σ1, Po1 (.returned v) σ1 → xE g me Po (pc + 3) lv (v.toList ++ rest) σ1) (kT : ∀ x σ1, Po1 (.threw x) σ1 → (∀ x ∈ me.2.2.2.2.2, covers x pc = false) ∧ Po (.threw x) σ1) : xE g me Po pc lv st0 σ := by
  intro p e s m args below meth c H locs ls C hP hS hl0 T hT X
  obtain ⟨c1, c2, c3, c4, c5, c6, c7, c8, c9, c10, c11⟩ := id C
  refine xgoon C hS hl0 hT (xcallS X c1 c5 (c7 _ hl) (c7 _ hi) (c7 _ hy.2.1) ?_ hy.2.2.1 (xbk c7 hM hy hrm) rfl (hl0.1.trans c3.symm) (argsL := As) (rest := rest) (fun sig h => hn.trans (xlen hy sig h)) hst (lv_room hsum) (xdec C hd) (Nat.zero_le _) (Nat.zero_le _) (fun vm₁ g' mk hW => ?_)) kR kT
  · obtain ⟨mY, hn⟩ := Cond.code_named (c7 _ hy.1)
    obtain ⟨methM', cM, a1, -, -, -, -, -, -, a2⟩ := Cond.code_spec hn (c7 _ hy.1)
    exact ⟨mY, methM', hn, a1, a2⟩
  · have hh : ((T.setVm vm₁).calling g' mk As.toArray).heap = H := hT
    have hW1 : s.WarmedH ((T.setVm vm₁).calling g' mk As.toArray).vm := hW
    exact ⟨rfl, by rw [hh]; exact hP, va_K.moved hW1.alike c8, c11.to hW1 (by rw [hh]; exact hS.2.1)⟩
/-- a contract -/
theorem xbody {av : List Value} {il : List (Nat × Instr × Nat)} {d : Nat} (hinj : xInj g) (hil : ∀ x ∈ il, decode cc x.1 = .ok x.2) (hy : xM y cc nL ret n) (hlen : (lg_sl av).length ≤ nL)
    (kk : xE g (y.cls, il, nL, ret, xRoom d, []) Po 0 (lv_args 0 av) [] σ) : xMet (gL g) y (xws y cc nL ret) (xRoom d) (xPc g av σ) (xQ g Po) (xA g) := by
  refine xMet_ofW (cc := cc) (maxL := nL) (ret := ret) hy.2.2.2.2 rfl ?_
  intro p e s m args below meth c s₁ B hml hv
  obtain ⟨rfl, hP, hK, hC⟩ := hv
  have hts := atoms_spec (ws := xws y cc nL ret) B.pre
  have hl := lv_entry av (n := nL) hlen
  rw [lg_entry_eq]
  have hx : c.exceptionTable.toList = [] := by
    have h1 := B.noHandlers (hts _ List.mem_cons_self)
    have h2 : c.exceptionTable = #[] := Array.isEmpty_iff.mp h1
    rw [h2]
  exact kk p e s m _ below meth c s.heap [] _ ⟨B.exec, fun x h => by rw [B.bytes]; exact hil x h, hml, B.returns, findClass_of_methodNamed B.named, B.notSynchronized, fun w h => hts w (List.mem_cons_of_mem _ h), hK, hx, hinj, hC⟩ hP va_S.rf hl
end XK
