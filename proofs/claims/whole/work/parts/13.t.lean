/-! typed ends and calls; names for what is computed; switches; strings -/
def mlet (σ : Mm) (f : Mm → Prop) : Prop := f σ
def ilet (x : Int32) (f : Int32 → Prop) : Prop := f x
def jlet (x : Int64) (f : Int64 → Prop) : Prop := f x
def pV (g : Gb) (Q : Mm → Prop) (T : Mm → Prop) : Outcome → Mm → Prop := fun o σ => (o = .returned none ∧ Q σ) ∨ (o = .threw (gR g 1) ∧ T σ)
def pI (g : Gb) (Q : Int32 → Mm → Prop) (T : Mm → Prop) : Outcome → Mm → Prop := fun o σ => (∃ r, o = .returned (some (.int r)) ∧ Q r σ) ∨ (o = .threw (gR g 1) ∧ T σ)
def pL (g : Gb) (Q : Int64 → Mm → Prop) (T : Mm → Prop) : Outcome → Mm → Prop := fun o σ => (∃ r, o = .returned (some (.long r)) ∧ Q r σ) ∨ (o = .threw (gR g 1) ∧ T σ)
def pR (g : Gb) (y : Nat × Nat × Nat) (Q : Nat → Mm → Prop) (T : Mm → Prop) : Outcome → Mm → Prop := fun o σ => (∃ r, o = .returned (some (.ref (gR g r))) ∧ xlay r = y ∧ Q r σ) ∨ (o = .threw (gR g 1) ∧ T σ)
abbrev noT : Mm → Prop := fun _ => False
theorem xne {x v : Int32} {i : Int} (h : ¬ x = v) (hv : v.toInt = i) : x.toInt ≠ i := fun e => h (Int32.toInt_inj.mp (e.trans hv.symm))
theorem xlayV {q : Nat} (h : xlay q = (0, 7, 0)) : xlay (q + 3) = (1, 3, 300) ∧ xlay (q + 6) = (1, 3, 300) ∧ xlay (q + 9) = (1, 0, 84) := by
  have hlt : q < 67 := xlay_lt (by simp [h])
  have hd : ∀ q, q < 67 → xlay q = (0, 7, 0) → xlay (q + 3) = (1, 3, 300) ∧ xlay (q + 6) = (1, 3, 300) ∧ xlay (q + 9) = (1, 0, 84) := by decide +kernel
  exact hd q hlt h
theorem xlayA {i : Int32} (h : vp_in i 3) : xlay (50 + ix i) = (0, 7, 0) := by
  have hlt : ix i < 3 := Nat.not_le.mp fun z => h (Or.inr z)
  have hd : ∀ j, j < 3 → xlay (50 + j) = (0, 7, 0) := by decide +kernel
  exact hd _ hlt
section XT
variable {g : Gb} {me : Me} {Po : Outcome → Mm → Prop} {pc k : Nat} {lv lv' : List (Nat × Value)} {st : List Value} {σ : Mm}
variable {y : MethodName} {cc : ByteArray} {nL n idx : Nat} {ret : Option FieldType} {rm : Room} {As rest : List Value}
theorem e_mlet {σ0 : Mm} {f : Mm → Prop} (h : mlet σ0 f) (kk : ∀ σ1, f σ1 → xE g me Po pc lv st σ1) : xE g me Po pc lv st σ0 := kk σ0 h
theorem e_ilet {x : Int32} {f : Int32 → Prop} (h : ilet x f) (kk : ∀ x1, f x1 → xE g me Po pc lv (.int x1 :: st) σ) : xE g me Po pc lv (.int x :: st) σ := kk x h
theorem e_jlet {x : Int64} {f : Int64 → Prop} (h : jlet x f) (kk : ∀ x1, f x1 → xE g me Po pc lv (.long x1 :: st) σ) : xE g me Po pc lv (.long x :: st) σ := kk x h
theorem e_case {a : Prop} (k1 : a → xE g me Po pc lv st σ) (k2 : ¬ a → xE g me Po pc lv st σ) : xE g me Po pc lv st σ := (Classical.em a).elim k1 k2
theorem e_tableIn {dflt lo hi off : Int} {offs : Array Int} {len tgt : Nat} {x v : Int32} (hd : me.2.1[k]? = some (pc, .tableswitch dflt lo hi offs, len)) (hx : x = v) (h1 : ¬ v.toInt < lo) (h2 : ¬ hi < v.toInt) (ho : offs[(v.toInt - lo).toNat]? = some off) (ht : (pc : Int) + off = (tgt : Int)) (kk : xE g me Po tgt lv st σ) : xE g me Po pc lv (.int x :: st) σ := by
  intro p e s m args below meth c H locs ls C hP hS hl
  subst hx
  exact lv_tableIn C.1 rfl (xdec C hd) h1 h2 ho ht (kk p e s m args below meth c H locs ls C hP hS hl)
theorem e_tableOut {dflt lo hi : Int} {offs : Array Int} {len tgt : Nat} {x : Int32} (hd : me.2.1[k]? = some (pc, .tableswitch dflt lo hi offs, len)) (h : x.toInt < lo ∨ hi < x.toInt) (ht : (pc : Int) + dflt = (tgt : Int)) (kk : xE g me Po tgt lv st σ) : xE g me Po pc lv (.int x :: st) σ := by
  intro p e s m args below meth c H locs ls C hP hS hl
  exact lv_tableOut C.1 rfl (xdec C hd) h ht (kk p e s m args below meth c H locs ls C hP hS hl)
theorem e_lookup {dflt off : Int} {ps : Array (Int × Int)} {len tgt : Nat} {x : Int32} (hd : me.2.1[k]? = some (pc, .lookupswitch dflt ps, len)) (hp : (ps.toList.zip (ps.toList.drop 1)).all (fun (a, next) => a.1 < next.1) = true) (ho : Op.lookupswitch.offset ps.toList dflt x.toInt = off) (ht : (pc : Int) + off = (tgt : Int)) (kk : xE g me Po tgt lv st σ) : xE g me Po pc lv (.int x :: st) σ := by
  intro p e s m args below meth c H locs ls C hP hS hl
  exact lv_lookup C.1 rfl (xdec C hd) hp ho ht (kk p e s m args below meth c H locs ls C hP hS hl)
theorem e_strV {idx j : Nat} (hd : me.2.1[k]? = some (pc, .getfield idx, 3)) (hw : Cond.fieldLink me.1 idx "java/lang/String" "value" "[B" ∈ xtbl) (hj : j < xtx.length) (kk : xE g me Po (pc + 3) lv (.ref (gV g j) :: st) σ) : xE g me Po pc lv (.ref (gK g j) :: st) σ := by
  intro p e s m args below meth c H locs ls C hP hS hl
  obtain ⟨c1, c2, c3, c4, c5, c6, c7, c8, c9, c10, c11⟩ := id C
  exact vk_getf c1 rfl (c11.1 j hj).2.2.1 hS c5 (c7 _ hw) (fun x h => h) (xdec C hd) (kk p e s m args below meth c H locs ls C hP hS hl)
theorem e_strC {idx j : Nat} (hd : me.2.1[k]? = some (pc, .getfield idx, 3)) (hw : Cond.fieldLink me.1 idx "java/lang/String" "coder" "B" ∈ xtbl) (hj : j < xtx.length) (kk : xE g me Po (pc + 3) lv (.int 0 :: st) σ) : xE g me Po pc lv (.ref (gK g j) :: st) σ := by
  intro p e s m args below meth c H locs ls C hP hS hl
  obtain ⟨c1, c2, c3, c4, c5, c6, c7, c8, c9, c10, c11⟩ := id C
  exact vk_getf c1 rfl (c11.1 j hj).2.1 hS c5 (c7 _ hw) (fun x h => h) (xdec C hd) (kk p e s m args below meth c H locs ls C hP hS hl)
theorem e_svlen {j : Nat} (hd : me.2.1[k]? = some (pc, .arraylength, 1)) (hj : j < xtx.length) (kk : xE g me Po (pc + 1) lv (.int (Int32.ofNat (xtx.getD j []).length) :: st) σ) : xE g me Po pc lv (.ref (gV g j) :: st) σ := by
  intro p e s m args below meth c H locs ls C hP hS hl
  obtain ⟨c1, c2, c3, c4, c5, c6, c7, c8, c9, c10, c11⟩ := id C
  exact va_tlen c1 rfl (c11.1 j hj).2.2.2 hS rfl (xdec C hd) (kk p e s m args below meth c H locs ls C hP hS hl)
theorem e_svld {j : Nat} {i : Int32} (hd : me.2.1[k]? = some (pc, .baload, 1)) (hj : j < xtx.length) (hi : vp_in i (xtx.getD j []).length) (kk : xE g me Po (pc + 1) lv (.int ((xtx.getD j []).getD (ix i) 0) :: st) σ) : xE g me Po pc lv (.int i :: .ref (gV g j) :: st) σ := by
  intro p e s m args below meth c H locs ls C hP hS hl
  obtain ⟨c1, c2, c3, c4, c5, c6, c7, c8, c9, c10, c11⟩ := id C
  exact va_tb c1 rfl (c11.1 j hj).2.2.2 hS hi rfl (xdec C hd) (kk p e s m args below meth c H locs ls C hP hS hl)
theorem e_compact {idx : Nat} (hd : me.2.1[k]? = some (pc, .getstatic idx, 3)) (hw : Cond.fieldLink me.1 idx "java/lang/String" "COMPACT_STRINGS" "Z" ∈ xtbl) (kk : xE g me Po (pc + 3) lv (.int 1 :: st) σ) : xE g me Po pc lv st σ := by
  intro p e s m args below meth c H locs ls C hP hS hl
  obtain ⟨c1, c2, c3, c4, c5, c6, c7, c8, c9, c10, c11⟩ := id C
  exact va_gets c1 rfl c11.2.2.1.1 hS c5 (c7 _ hw) (fun x h => h) (xdec C hd) (kk p e s m args below meth c H locs ls C hP hS hl)
theorem e_st1 {idx : Nat} {host : String} (hd : me.2.1[k]? = some (pc, .getstatic idx, 3)) (hw : (me.1, idx, "AbcForms", "SHARP_ORDER", "[I", host) ∈ xnl) (kk : xE g me Po (pc + 3) lv (.ref (gK g 31) :: st) σ) : xE g me Po pc lv st σ := by
  intro p e s m args below meth c H locs ls C hP hS hl
  obtain ⟨c1, c2, c3, c4, c5, c6, c7, c8, c9, c10, c11⟩ := id C
  exact va_getsN c1 rfl c11.2.2.2.1.1 hS c5 (va_Nw.use rfl (c11.2.2.2.2.2 _ hw)) (fun x h => h) (xdec C hd) (kk p e s m args below meth c H locs ls C hP hS hl)
theorem e_st2 {idx : Nat} {host : String} (hd : me.2.1[k]? = some (pc, .getstatic idx, 3)) (hw : (me.1, idx, "AbcForms", "LETTER_PITCH", "[I", host) ∈ xnl) (kk : xE g me Po (pc + 3) lv (.ref (gK g 32) :: st) σ) : xE g me Po pc lv st σ := by
  intro p e s m args below meth c H locs ls C hP hS hl
  obtain ⟨c1, c2, c3, c4, c5, c6, c7, c8, c9, c10, c11⟩ := id C
  exact va_getsN c1 rfl c11.2.2.2.2.1.1 hS c5 (va_Nw.use rfl (c11.2.2.2.2.2 _ hw)) (fun x h => h) (xdec C hd) (kk p e s m args below meth c H locs ls C hP hS hl)
theorem e_st1ld {i : Int32} (hd : me.2.1[k]? = some (pc, .iaload, 1)) (hi : vp_in i 7) (kk : xE g me Po (pc + 1) lv (.int (xf1 (ix i)) :: st) σ) : xE g me Po pc lv (.int i :: .ref (gK g 31) :: st) σ := by
  intro p e s m args below meth c H locs ls C hP hS hl
  obtain ⟨c1, c2, c3, c4, c5, c6, c7, c8, c9, c10, c11⟩ := id C
  exact va_ti c1 rfl c11.2.2.2.1.2 hS hi rfl (xdec C hd) (kk p e s m args below meth c H locs ls C hP hS hl)
theorem e_st2ld {i : Int32} (hd : me.2.1[k]? = some (pc, .iaload, 1)) (hi : vp_in i 7) (kk : xE g me Po (pc + 1) lv (.int (xf2 (ix i)) :: st) σ) : xE g me Po pc lv (.int i :: .ref (gK g 32) :: st) σ := by
  intro p e s m args below meth c H locs ls C hP hS hl
  obtain ⟨c1, c2, c3, c4, c5, c6, c7, c8, c9, c10, c11⟩ := id C
  exact va_ti c1 rfl c11.2.2.2.2.1.2 hS hi rfl (xdec C hd) (kk p e s m args below meth c H locs ls C hP hS hl)
theorem e_callVi {q ci : Nat} {st0 : List Value} {Q1 : Int32 → Mm → Prop} {T1 : Mm → Prop} (hd : me.2.1[k]? = some (pc, .invokevirtual idx, 3)) (hM : xMet (gL g) y (xws y cc nL ret) rm (xPc g (.ref (gR g q) :: As) σ) (xQ g (pI g Q1 T1)) (xA g)) (hy : xM y cc nL ret n) (hi : xI y) (hl : Cond.methodLink me.1 idx y ∈ xtbl)
    (hq : xlay q = (0, ci, 0)) (hc : ∃ r, xCl[ci]? = some r ∧ r.1 = y.cls) (hn : As.length = n) (hst : st0 = As.reverse ++ .ref (gR g q) :: rest) (hsum : (rest.map fun v => v.category).sum ≤ 8) (hrm : rm.frames + 1 ≤ me.2.2.2.2.1.frames ∧ 8 + (nL + 11) + rm.locals ≤ me.2.2.2.2.1.locals ∧ rm.cells = 0 ∧ rm.slots = 0)
    (kT : ∀ σ1, T1 σ1 → (∀ x ∈ me.2.2.2.2.2, covers x pc = false) ∧ Po (.threw (gR g 1)) σ1) (kR : ∀ r σ1, Q1 r σ1 → xE g me Po (pc + 3) lv (.int r :: rest) σ1) : xE g me Po pc lv st0 σ :=
  e_callV hd hM hy hi hl hq hc hn hst hsum hrm (fun v σ1 hp => by
    rcases hp with ⟨r, hr, hq⟩ | ⟨hr, -⟩
    · cases hr; exact kR r σ1 hq
    · cases hr) (fun x σ1 hp => by
    rcases hp with ⟨r, hr, -⟩ | ⟨hr, hq⟩
    · cases hr
    · cases hr; exact kT σ1 hq)
theorem e_callSi {st0 : List Value} {Q1 : Int32 → Mm → Prop} {T1 : Mm → Prop} (hd : me.2.1[k]? = some (pc, .invokestatic idx, 3)) (hM : xMet (gL g) y (xws y cc nL ret) rm (xPc g As σ) (xQ g (pI g Q1 T1)) (xA g)) (hy : xM y cc nL ret n) (hi : Cond.static y ∈ xtbl) (hl : Cond.methodLink me.1 idx y ∈ xtbl)
    (hn : As.length = n) (hst : st0 = As.reverse ++ rest) (hsum : (rest.map fun v => v.category).sum ≤ 8) (hrm : rm.frames + 1 ≤ me.2.2.2.2.1.frames ∧ 8 + (nL + 11) + rm.locals ≤ me.2.2.2.2.1.locals ∧ rm.cells = 0 ∧ rm.slots = 0)
    (kT : ∀ σ1, T1 σ1 → (∀ x ∈ me.2.2.2.2.2, covers x pc = false) ∧ Po (.threw (gR g 1)) σ1) (kR : ∀ r σ1, Q1 r σ1 → xE g me Po (pc + 3) lv (.int r :: rest) σ1) : xE g me Po pc lv st0 σ :=
  e_callS hd hM hy hi hl hn hst hsum hrm (fun v σ1 hp => by
    rcases hp with ⟨r, hr, hq⟩ | ⟨hr, -⟩
    · cases hr; exact kR r σ1 hq
    · cases hr) (fun x σ1 hp => by
    rcases hp with ⟨r, hr, -⟩ | ⟨hr, hq⟩
    · cases hr
    · cases hr; exact kT σ1 hq)
theorem e_callVl {q ci : Nat} {st0 : List Value} {Q1 : Int64 → Mm → Prop} {T1 : Mm → Prop} (hd : me.2.1[k]? = some (pc, .invokevirtual idx, 3)) (hM : xMet (gL g) y (xws y cc nL ret) rm (xPc g (.ref (gR g q) :: As) σ) (xQ g (pL g Q1 T1)) (xA g)) (hy : xM y cc nL ret n) (hi : xI y) (hl : Cond.methodLink me.1 idx y ∈ xtbl)
    (hq : xlay q = (0, ci, 0)) (hc : ∃ r, xCl[ci]? = some r ∧ r.1 = y.cls) (hn : As.length = n) (hst : st0 = As.reverse ++ .ref (gR g q) :: rest) (hsum : (rest.map fun v => v.category).sum ≤ 8) (hrm : rm.frames + 1 ≤ me.2.2.2.2.1.frames ∧ 8 + (nL + 11) + rm.locals ≤ me.2.2.2.2.1.locals ∧ rm.cells = 0 ∧ rm.slots = 0)
    (kT : ∀ σ1, T1 σ1 → (∀ x ∈ me.2.2.2.2.2, covers x pc = false) ∧ Po (.threw (gR g 1)) σ1) (kR : ∀ r σ1, Q1 r σ1 → xE g me Po (pc + 3) lv (.long r :: rest) σ1) : xE g me Po pc lv st0 σ :=
  e_callV hd hM hy hi hl hq hc hn hst hsum hrm (fun v σ1 hp => by
    rcases hp with ⟨r, hr, hq⟩ | ⟨hr, -⟩
    · cases hr; exact kR r σ1 hq
    · cases hr) (fun x σ1 hp => by
    rcases hp with ⟨r, hr, -⟩ | ⟨hr, hq⟩
    · cases hr
    · cases hr; exact kT σ1 hq)
theorem e_callSl {st0 : List Value} {Q1 : Int64 → Mm → Prop} {T1 : Mm → Prop} (hd : me.2.1[k]? = some (pc, .invokestatic idx, 3)) (hM : xMet (gL g) y (xws y cc nL ret) rm (xPc g As σ) (xQ g (pL g Q1 T1)) (xA g)) (hy : xM y cc nL ret n) (hi : Cond.static y ∈ xtbl) (hl : Cond.methodLink me.1 idx y ∈ xtbl)
    (hn : As.length = n) (hst : st0 = As.reverse ++ rest) (hsum : (rest.map fun v => v.category).sum ≤ 8) (hrm : rm.frames + 1 ≤ me.2.2.2.2.1.frames ∧ 8 + (nL + 11) + rm.locals ≤ me.2.2.2.2.1.locals ∧ rm.cells = 0 ∧ rm.slots = 0)
    (kT : ∀ σ1, T1 σ1 → (∀ x ∈ me.2.2.2.2.2, covers x pc = false) ∧ Po (.threw (gR g 1)) σ1) (kR : ∀ r σ1, Q1 r σ1 → xE g me Po (pc + 3) lv (.long r :: rest) σ1) : xE g me Po pc lv st0 σ :=
  e_callS hd hM hy hi hl hn hst hsum hrm (fun v σ1 hp => by
    rcases hp with ⟨r, hr, hq⟩ | ⟨hr, -⟩
    · cases hr; exact kR r σ1 hq
    · cases hr) (fun x σ1 hp => by
    rcases hp with ⟨r, hr, -⟩ | ⟨hr, hq⟩
    · cases hr
    · cases hr; exact kT σ1 hq)
theorem e_callVv {q ci : Nat} {st0 : List Value} {Q1 : Mm → Prop} {T1 : Mm → Prop} (hd : me.2.1[k]? = some (pc, .invokevirtual idx, 3)) (hM : xMet (gL g) y (xws y cc nL ret) rm (xPc g (.ref (gR g q) :: As) σ) (xQ g (pV g Q1 T1)) (xA g)) (hy : xM y cc nL ret n) (hi : xI y) (hl : Cond.methodLink me.1 idx y ∈ xtbl)
    (hq : xlay q = (0, ci, 0)) (hc : ∃ r, xCl[ci]? = some r ∧ r.1 = y.cls) (hn : As.length = n) (hst : st0 = As.reverse ++ .ref (gR g q) :: rest) (hsum : (rest.map fun v => v.category).sum ≤ 8) (hrm : rm.frames + 1 ≤ me.2.2.2.2.1.frames ∧ 8 + (nL + 11) + rm.locals ≤ me.2.2.2.2.1.locals ∧ rm.cells = 0 ∧ rm.slots = 0)
    (kT : ∀ σ1, T1 σ1 → (∀ x ∈ me.2.2.2.2.2, covers x pc = false) ∧ Po (.threw (gR g 1)) σ1) (kR : ∀ σ1, Q1 σ1 → xE g me Po (pc + 3) lv (rest) σ1) : xE g me Po pc lv st0 σ :=
  e_callV hd hM hy hi hl hq hc hn hst hsum hrm (fun v σ1 hp => by
    rcases hp with ⟨hr, hq⟩ | ⟨hr, -⟩
    · cases hr; exact kR σ1 hq
    · cases hr) (fun x σ1 hp => by
    rcases hp with ⟨hr, -⟩ | ⟨hr, hq⟩
    · cases hr
    · cases hr; exact kT σ1 hq)
theorem e_callSv {st0 : List Value} {Q1 : Mm → Prop} {T1 : Mm → Prop} (hd : me.2.1[k]? = some (pc, .invokestatic idx, 3)) (hM : xMet (gL g) y (xws y cc nL ret) rm (xPc g As σ) (xQ g (pV g Q1 T1)) (xA g)) (hy : xM y cc nL ret n) (hi : Cond.static y ∈ xtbl) (hl : Cond.methodLink me.1 idx y ∈ xtbl)
    (hn : As.length = n) (hst : st0 = As.reverse ++ rest) (hsum : (rest.map fun v => v.category).sum ≤ 8) (hrm : rm.frames + 1 ≤ me.2.2.2.2.1.frames ∧ 8 + (nL + 11) + rm.locals ≤ me.2.2.2.2.1.locals ∧ rm.cells = 0 ∧ rm.slots = 0)
    (kT : ∀ σ1, T1 σ1 → (∀ x ∈ me.2.2.2.2.2, covers x pc = false) ∧ Po (.threw (gR g 1)) σ1) (kR : ∀ σ1, Q1 σ1 → xE g me Po (pc + 3) lv (rest) σ1) : xE g me Po pc lv st0 σ :=
  e_callS hd hM hy hi hl hn hst hsum hrm (fun v σ1 hp => by
    rcases hp with ⟨hr, hq⟩ | ⟨hr, -⟩
    · cases hr; exact kR σ1 hq
    · cases hr) (fun x σ1 hp => by
    rcases hp with ⟨hr, -⟩ | ⟨hr, hq⟩
    · cases hr
    · cases hr; exact kT σ1 hq)
theorem e_callVr {ly : Nat × Nat × Nat} {q ci : Nat} {st0 : List Value} {Q1 : Nat → Mm → Prop} {T1 : Mm → Prop} (hd : me.2.1[k]? = some (pc, .invokevirtual idx, 3)) (hM : xMet (gL g) y (xws y cc nL ret) rm (xPc g (.ref (gR g q) :: As) σ) (xQ g (pR g ly Q1 T1)) (xA g)) (hy : xM y cc nL ret n) (hi : xI y) (hl : Cond.methodLink me.1 idx y ∈ xtbl)
    (hq : xlay q = (0, ci, 0)) (hc : ∃ r, xCl[ci]? = some r ∧ r.1 = y.cls) (hn : As.length = n) (hst : st0 = As.reverse ++ .ref (gR g q) :: rest) (hsum : (rest.map fun v => v.category).sum ≤ 8) (hrm : rm.frames + 1 ≤ me.2.2.2.2.1.frames ∧ 8 + (nL + 11) + rm.locals ≤ me.2.2.2.2.1.locals ∧ rm.cells = 0 ∧ rm.slots = 0)
    (kT : ∀ σ1, T1 σ1 → (∀ x ∈ me.2.2.2.2.2, covers x pc = false) ∧ Po (.threw (gR g 1)) σ1) (kR : ∀ r σ1, xlay r = ly → Q1 r σ1 → xE g me Po (pc + 3) lv (.ref (gR g r) :: rest) σ1) : xE g me Po pc lv st0 σ :=
  e_callV hd hM hy hi hl hq hc hn hst hsum hrm (fun v σ1 hp => by
    rcases hp with ⟨r, hr, hly, hq⟩ | ⟨hr, -⟩
    · cases hr; exact kR r σ1 hly hq
    · cases hr) (fun x σ1 hp => by
    rcases hp with ⟨r, hr, -, -⟩ | ⟨hr, hq⟩
    · cases hr
    · cases hr; exact kT σ1 hq)
theorem e_callSr {ly : Nat × Nat × Nat} {st0 : List Value} {Q1 : Nat → Mm → Prop} {T1 : Mm → Prop} (hd : me.2.1[k]? = some (pc, .invokestatic idx, 3)) (hM : xMet (gL g) y (xws y cc nL ret) rm (xPc g As σ) (xQ g (pR g ly Q1 T1)) (xA g)) (hy : xM y cc nL ret n) (hi : Cond.static y ∈ xtbl) (hl : Cond.methodLink me.1 idx y ∈ xtbl)
    (hn : As.length = n) (hst : st0 = As.reverse ++ rest) (hsum : (rest.map fun v => v.category).sum ≤ 8) (hrm : rm.frames + 1 ≤ me.2.2.2.2.1.frames ∧ 8 + (nL + 11) + rm.locals ≤ me.2.2.2.2.1.locals ∧ rm.cells = 0 ∧ rm.slots = 0)
    (kT : ∀ σ1, T1 σ1 → (∀ x ∈ me.2.2.2.2.2, covers x pc = false) ∧ Po (.threw (gR g 1)) σ1) (kR : ∀ r σ1, xlay r = ly → Q1 r σ1 → xE g me Po (pc + 3) lv (.ref (gR g r) :: rest) σ1) : xE g me Po pc lv st0 σ :=
  e_callS hd hM hy hi hl hn hst hsum hrm (fun v σ1 hp => by
    rcases hp with ⟨r, hr, hly, hq⟩ | ⟨hr, -⟩
    · cases hr; exact kR r σ1 hly hq
    · cases hr) (fun x σ1 hp => by
    rcases hp with ⟨r, hr, -, -⟩ | ⟨hr, hq⟩
    · cases hr
    · cases hr; exact kT σ1 hq)
theorem e_callK {Po1 : Outcome → Mm → Prop} {j : Nat} {st0 : List Value} (hd : me.2.1[k]? = some (pc, .invokevirtual idx, 3)) (hM : xMet (gL g) y (xws y cc nL ret) rm (xPc g (.ref (gK g j) :: As) σ) (xQ g Po1) (xA g)) (hy : xM y cc nL ret n) (hi : xI y) (hl : Cond.methodLink me.1 idx y ∈ xtbl)
    (hj : j < xtx.length) (hc : y.cls = "java/lang/String") (hn : As.length = n) (hst : st0 = As.reverse ++ .ref (gK g j) :: rest) (hsum : (rest.map fun v => v.category).sum ≤ 8) (hrm : rm.frames + 1 ≤ me.2.2.2.2.1.frames ∧ 8 + (nL + 11) + rm.locals ≤ me.2.2.2.2.1.locals ∧ rm.cells = 0 ∧ rm.slots = 0)
    (kR : ∀ v σ1, Po1 (.returned v) σ1 → xE g me Po (pc + 3) lv (v.toList ++ rest) σ1) (kT : ∀ x σ1, Po1 (.threw x) σ1 → (∀ x ∈ me.2.2.2.2.2, covers x pc = false) ∧ Po (.threw x) σ1) : xE g me Po pc lv st0 σ := by
  intro p e s m args below meth c H locs ls C hP hS hl0 T hT X
  obtain ⟨c1, c2, c3, c4, c5, c6, c7, c8, c9, c10, c11⟩ := id C
  obtain ⟨cell, k1, k2, k3, -⟩ := (c11.1 j hj).1.kept hS.2.1
  rw [← hc] at k3
  refine xgoon C hS hl0 hT (xcallV (C := y.cls) X c1 (bytes := cc) (maxL := nL) (ret := ret) c5 (c7 _ hl) (c7 _ hi.1) (c7 _ hi.2) (fun mk methM h1 h2 => ?_) hy.2.2.1 (xbk c7 hM hy hrm) (by rw [hT]; exact k1) k2 k3 rfl (hl0.1.trans c3.symm) (argsL := As) (rest := rest) (fun sig h => hn.trans (xlen hy sig h)) hst (lv_room hsum) (xdec C hd) (Nat.zero_le _) (Nat.zero_le _) (fun vm₁ g' mk hW => ?_)) kR kT
  · obtain ⟨methM', cM, a1, -, -, -, -, -, -, a2⟩ := Cond.code_spec h1 (c7 _ hy.1)
    cases h2.symm.trans a1
    exact a2
  · have hh : ((T.setVm vm₁).calling g' mk (Value.ref (gK g j) :: As).toArray).heap = H := hT
    have hW1 : s.WarmedH ((T.setVm vm₁).calling g' mk (Value.ref (gK g j) :: As).toArray).vm := hW
    exact ⟨rfl, by rw [hh]; exact hP, va_K.moved hW1.alike c8, c11.to hW1 (by rw [hh]; exact hS.2.1)⟩
theorem e_callKi {j : Nat} {st0 : List Value} {Q1 : Int32 → Mm → Prop} (hd : me.2.1[k]? = some (pc, .invokevirtual idx, 3)) (hM : xMet (gL g) y (xws y cc nL ret) rm (xPc g (.ref (gK g j) :: As) σ) (xQ g (pI g Q1 noT)) (xA g)) (hy : xM y cc nL ret n) (hi : xI y) (hl : Cond.methodLink me.1 idx y ∈ xtbl)
    (hj : j < xtx.length) (hc : y.cls = "java/lang/String") (hn : As.length = n) (hst : st0 = As.reverse ++ .ref (gK g j) :: rest) (hsum : (rest.map fun v => v.category).sum ≤ 8) (hrm : rm.frames + 1 ≤ me.2.2.2.2.1.frames ∧ 8 + (nL + 11) + rm.locals ≤ me.2.2.2.2.1.locals ∧ rm.cells = 0 ∧ rm.slots = 0)
    (kR : ∀ r σ1, Q1 r σ1 → xE g me Po (pc + 3) lv (.int r :: rest) σ1) : xE g me Po pc lv st0 σ :=
  e_callK hd hM hy hi hl hj hc hn hst hsum hrm (fun v σ1 hp => by
    rcases hp with ⟨r, hr, hq⟩ | ⟨hr, -⟩
    · cases hr; exact kR r σ1 hq
    · cases hr) (fun x σ1 hp => by
    rcases hp with ⟨r, hr, -⟩ | ⟨hr, hq⟩
    · cases hr
    · exact hq.elim)
theorem e_mmax {x y : Int32} (hd : me.2.1[k]? = some (pc, .invokestatic idx, 3)) (hl : Cond.methodLink me.1 idx Lib.Math.max.name ∈ xtbl) (h1 : Cond.static Lib.Math.max.name ∈ xtbl) (h2 : Cond.initialized "java/lang/Math" ∈ xtbl) (h3 : Cond.code Lib.Math.max.name Lib.Math.max.code 2 (some .int) ∈ xtbl) (hf : 1 ≤ me.2.2.2.2.1.frames) (ho : (st.map fun v => v.category).sum + 13 ≤ me.2.2.2.2.1.locals) (kk : xE g me Po (pc + 3) lv (.int (if x < y then y else x) :: st) σ) : xE g me Po pc lv (.int y :: .int x :: st) σ := by
  intro p e s m args below meth c H locs ls C hP hS hl0
  obtain ⟨c1, c2, c3, c4, c5, c6, c7, c8, c9, c10, c11⟩ := id C
  exact va_mmax c1 rfl (c3.trans hl0.1.symm) c5 (c7 _ hl) (c7 _ h1) (c7 _ h2) (c7 _ h3) hf ho (Nat.zero_le _) (Nat.zero_le _) (xdec C hd) (kk p e s m args below meth c H locs ls C hP hS hl0)
theorem e_mmin {x y : Int32} (hd : me.2.1[k]? = some (pc, .invokestatic idx, 3)) (hl : Cond.methodLink me.1 idx Lib.Math.min.name ∈ xtbl) (h1 : Cond.static Lib.Math.min.name ∈ xtbl) (h2 : Cond.initialized "java/lang/Math" ∈ xtbl) (h3 : Cond.code Lib.Math.min.name Lib.Math.min.code 2 (some .int) ∈ xtbl) (hf : 1 ≤ me.2.2.2.2.1.frames) (ho : (st.map fun v => v.category).sum + 13 ≤ me.2.2.2.2.1.locals) (kk : xE g me Po (pc + 3) lv (.int (if y < x then y else x) :: st) σ) : xE g me Po pc lv (.int y :: .int x :: st) σ := by
  intro p e s m args below meth c H locs ls C hP hS hl0
  obtain ⟨c1, c2, c3, c4, c5, c6, c7, c8, c9, c10, c11⟩ := id C
  exact va_mmin c1 rfl (c3.trans hl0.1.symm) c5 (c7 _ hl) (c7 _ h1) (c7 _ h2) (c7 _ h3) hf ho (Nat.zero_le _) (Nat.zero_le _) (xdec C hd) (kk p e s m args below meth c H locs ls C hP hS hl0)
theorem e_mabs {x : Int32} (hd : me.2.1[k]? = some (pc, .invokestatic idx, 3)) (hl : Cond.methodLink me.1 idx Lib.Math.abs.name ∈ xtbl) (h1 : Cond.static Lib.Math.abs.name ∈ xtbl) (h2 : Cond.initialized "java/lang/Math" ∈ xtbl) (h3 : Cond.code Lib.Math.abs.name Lib.Math.abs.code 1 (some .int) ∈ xtbl) (hf : 1 ≤ me.2.2.2.2.1.frames) (ho : (st.map fun v => v.category).sum + 13 ≤ me.2.2.2.2.1.locals) (kk : xE g me Po (pc + 3) lv (.int (if 0 ≤ x then x else 0 - x) :: st) σ) : xE g me Po pc lv (.int x :: st) σ := by
  intro p e s m args below meth c H locs ls C hP hS hl0
  obtain ⟨c1, c2, c3, c4, c5, c6, c7, c8, c9, c10, c11⟩ := id C
  exact va_mabs c1 rfl (c3.trans hl0.1.symm) c5 (c7 _ hl) (c7 _ h1) (c7 _ h2) (c7 _ h3) hf ho (Nat.zero_le _) (Nat.zero_le _) (xdec C hd) (kk p e s m args below meth c H locs ls C hP hS hl0)
end XT
