/-! a call whose throw the method catches; the contract of a method with a table of handlers -/
abbrev xwsW (y : MethodName) (cc : ByteArray) (nL : Nat) (ret : Option FieldType) (hs : List (Nat × Nat × Nat × Nat)) : List Cond := Cond.codeWith y cc nL ret hs :: xtbl
section XW
variable {g : Gb} {me : Me} {Po : Outcome → Mm → Prop} {pc k : Nat} {lv lv' : List (Nat × Value)} {st : List Value} {σ : Mm}
variable {y : MethodName} {cc : ByteArray} {nL n idx : Nat} {ret : Option FieldType} {rm : Room} {As rest : List Value}
theorem e_callVvC {q ci : Nat} {st0 : List Value} {Q1 T1 : Mm → Prop} {x : ExceptionTableEntry} (hd : me.2.1[k]? = some (pc, .invokevirtual idx, 3)) (hM : xMet (gL g) y (xws y cc nL ret) rm (xPc g (.ref (gR g q) :: As) σ) (xQ g (pV g Q1 T1)) (xA g)) (hy : xM y cc nL ret n) (hi : xI y) (hl : Cond.methodLink me.1 idx y ∈ xtbl)
    (hq : xlay q = (0, ci, 0)) (hc : ∃ r, xCl[ci]? = some r ∧ r.1 = y.cls) (hn : As.length = n) (hst : st0 = As.reverse ++ .ref (gR g q) :: rest) (hsum : (rest.map fun v => v.category).sum ≤ 8) (hrm : rm.frames + 1 ≤ me.2.2.2.2.1.frames ∧ 8 + (nL + 11) + rm.locals ≤ me.2.2.2.2.1.locals ∧ rm.cells = 0 ∧ rm.slots = 0)
    (hx : me.2.2.2.2.2 = [x]) (hcv : covers x pc = true) (hct : x.catchType ≠ 0) (hcl : Cond.classLink me.1 x.catchType RX11 ∈ xtbl)
    (kC : ∀ σ1, T1 σ1 → xE g me Po x.handlerPc lv [.ref (gR g 1)] σ1) (kR : ∀ σ1, Q1 σ1 → xE g me Po (pc + 3) lv rest σ1) : xE g me Po pc lv st0 σ := by
  intro p e s m args below meth c H locs ls C hP hS hl0 T hT X
  obtain ⟨c1, c2, c3, c4, c5, c6, c7, c8, c9, c10, c11⟩ := id C
  have hlt : q < 67 := xlay_lt (by simp [hq])
  obtain ⟨r, hc1, hc2⟩ := hc
  obtain ⟨cell, k1, k2, k3⟩ := va_recv c8 hP.1 (q0 := q) hc1 (by rw [xw_get hlt, xent_o hq])
  rw [hc2] at k3
  have hr : xRes p (gL g) e me.2.2.2.2.1 s m args below meth c T locs 0 0 (F0 m pc ls st0) rest (xQ g (pV g Q1 T1)) (xA g) := by
    refine xcallV (C := y.cls) X c1 (bytes := cc) (maxL := nL) (ret := ret) c5 (c7 _ hl) (c7 _ hi.1) (c7 _ hi.2) (fun mk methM h1 h2 => ?_) hy.2.2.1 (xbk c7 hM hy hrm) (by rw [hT]; exact k1) k2 k3 rfl (hl0.1.trans c3.symm) (argsL := As) (rest := rest) (fun sig h => hn.trans (xlen hy sig h)) hst (lv_room hsum) (xdec C hd) (Nat.zero_le _) (Nat.zero_le _) (fun vm₁ g' mk hW => ?_)
    · obtain ⟨methM', cM, a1, -, -, -, -, -, -, a2⟩ := Cond.code_spec h1 (c7 _ hy.1)
      cases h2.symm.trans a1
      exact a2
    · have hh : ((T.setVm vm₁).calling g' mk (Value.ref (gR g q) :: As).toArray).heap = H := hT
      have hW1 : s.WarmedH ((T.setVm vm₁).calling g' mk (Value.ref (gR g q) :: As).toArray).vm := hW
      exact ⟨rfl, by rw [hh]; exact hP, va_K.moved hW1.alike c8, c11.to hW1 (by rw [hh]; exact hS.2.1)⟩
  obtain ⟨o, st1, t, T', L, h0, X', hL, h1, h2, ⟨⟨σ1, hp, hP1⟩, hz, hk⟩, hr⟩ := hr
  rw [h0, hT] at hz hk
  have hS1 : va_S (xA g) s.heap T'.heap (locs ++ L) := by
    rw [h1]
    refine ⟨Nat.le_trans hS.1 hz, fun q a b => ?_, fun q hq => ?_⟩
    · rw [hk q (Nat.lt_of_lt_of_le a hS.1) b]; exact hS.2.1 q a b
    · rcases List.mem_append.mp hq with h | h
      · exact hS.2.2 q h
      · exact hL q h
  have hP2 : xP g σ1 T'.heap := by rw [h1]; exact hP1
  rcases hp with ⟨rfl, hq1⟩ | ⟨rfl, ht1⟩
  · rcases hr with ⟨v, hv, hst⟩ | ⟨x, hv, -⟩
    · cases hv
      obtain ⟨t2, a1, b1⟩ := kR σ1 hq1 p e s m args below meth c T'.heap (locs ++ L) ls C hP2 hS1 hl0 T' rfl X'
      exact ⟨t2, hst t2 a1, b1⟩
    · cases hv
  · rcases hr with ⟨v, hv, -⟩ | ⟨z, hv, hst⟩
    · cases hv
    · cases hv
      obtain ⟨cellF, f1, f2, f3⟩ := va_recv c8 hP2.1 (q0 := 1) (ci := 10) rfl (by rw [xw_get (by decide), xent_o (n := 0) rfl])
      obtain ⟨vm', X2, hst2⟩ := xcatch X' (own := me.1) (name := RX11) c5 (x := x) (c7 _ hcl) (by rw [c9, hx]) f1 f2 f3 (va_asg _ _) (g := F0 m pc ls rest) rfl hcv hct
      obtain ⟨t2, a1, b1⟩ := kC σ1 ht1 p e s m args below meth c T'.heap (locs ++ L) ls C hP2 hS1 hl0 (T'.setVm vm') rfl X2
      exact ⟨t2, hst _ (hst2 t2 a1), b1⟩
theorem xbodyW {av : List Value} {il : List (Nat × Instr × Nat)} {d : Nat} {hs : List (Nat × Nat × Nat × Nat)} {ex : List ExceptionTableEntry} (hinj : xInj g) (hil : ∀ x ∈ il, decode cc x.1 = .ok x.2) (hpn : plainName y.cls = true) (hex : tableOf hs = ex) (hlen : (lg_sl av).length ≤ nL)
    (kk : xE g (y.cls, il, nL, ret, xRoom d, ex) Po 0 (lv_args 0 av) [] σ) : xMet (gL g) y (xwsW y cc nL ret hs) (xRoom d) (xPc g av σ) (xQ g Po) (xA g) := by
  refine MetFree.of_bodyS (code := cc) (maxLocals := nL) (ret := ret) hpn ?_ ?_
  · intro args s m h hn
    obtain ⟨m', meth, c, h1, h2, h3, h4, h5, h6, h7, h8, -⟩ := Cond.codeWith_spec (atoms_spec (ws := xwsW y cc nL ret hs) h _ List.mem_cons_self)
    cases hn.symm.trans h1
    exact ⟨meth, c, h2, h3, h4, h5, h7, h8⟩
  · intro p e s m args below meth c s₁ B hml hv _
    obtain ⟨rfl, hP, hK, hC⟩ := hv
    have hts := atoms_spec (ws := xwsW y cc nL ret hs) B.pre
    have hl := lv_entry av (n := nL) hlen
    have hx : c.exceptionTable.toList = ex := by
      obtain ⟨m', meth', c', h1, h2, h3, h4, h5, h6, h7, h8, -⟩ := Cond.codeWith_spec (hts _ List.mem_cons_self)
      cases B.named.symm.trans h1
      cases B.method.symm.trans h2
      cases (Stand.of_body B).code.symm.trans h3
      rw [← hex, ← h6, table_eq]
    have hh0 : s₁.heap = s.heap := by rw [B.state]; rfl
    have w := kk p e s m av.toArray below meth c s.heap [] _ ⟨B.exec, fun x h => by rw [B.bytes]; exact hil x h, hml, B.returns, findClass_of_methodNamed B.named, B.notSynchronized, fun w h => hts w (List.mem_cons_of_mem _ h), hK, hx, hinj, hC⟩ hP va_S.rf hl
    rw [← lg_entry_eq] at w
    obtain ⟨t, a1, o, b1, b2, b3⟩ := w s₁ hh0 (Stand.of_body B)
    exact ⟨t, o, a1, b1, b2, ⟨b3.1, b3.2⟩⟩
end XW
