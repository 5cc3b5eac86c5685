/-! the judgement, its context, rows of the stack and of locals -/
def xC (g : Gb) (me : Me) (p : Program) (s : State) (m : MethodId) (args : Array Value) (meth : Method) (c : Code) : Prop :=
  p.tables.exec = Jvm.exec ∧ (∀ x ∈ me.2.1, decode c.code x.1 = .ok x.2) ∧ c.maxLocals = me.2.2.1 ∧ meth.sig.returnType = me.2.2.2.1 ∧ s.vm.findClass me.1 = some m.cls ∧ meth.locks = false ∧
  (∀ w ∈ xtbl, w.before args s = true) ∧ va_K (gD g) xCl (xt g) s ∧ c.exceptionTable.toList = me.2.2.2.2.2 ∧ xInj g ∧ xCon g s
def xQ (g : Gb) (Po : Outcome → Mm → Prop) : State → Outcome → State → Prop := fun s o t => (∃ σ', Po o σ' ∧ xP g σ' t.heap) ∧ va_F (xA g) s t
def xE (g : Gb) (me : Me) (Po : Outcome → Mm → Prop) (pc : Nat) (lv : List (Nat × Value)) (st : List Value) (σ : Mm) : Prop :=
  ∀ (p : Program) (e : Env) (s : State) (m : MethodId) (args : Array Value) (below : List Frame) (meth : Method) (c : Code) (H : Heap) (locs : List Loc) (ls : Array Slot),
    xC g me p s m args meth c → xP g σ H → va_S (xA g) s.heap H locs → lv_has ls me.2.2.1 lv →
    W p (gL g) e me.2.2.2.2.1 s m args below meth c H locs 0 0 (xMQ below (xQ g Po) s (xA g)) (F0 m pc ls st)
section XR
variable {g : Gb} {me : Me} {Po : Outcome → Mm → Prop} {pc k : Nat} {lv lv' : List (Nat × Value)} {st : List Value} {σ : Mm}
theorem xdec {p : Program} {s : State} {m : MethodId} {args : Array Value} {meth : Method} {c : Code} {i : Instr} {n : Nat} (C : xC g me p s m args meth c) (hd : me.2.1[k]? = some (pc, i, n)) : decode c.code pc = .ok (i, n) := C.2.1 (pc, i, n) (List.mem_of_getElem? hd)
theorem e_sub (ks : List Nat) (hl : lv_pick lv ks = lv') (kk : xE g me Po pc lv' st σ) : xE g me Po pc lv st σ := by
  intro p e s m args below meth c H locs ls C hP hS hl0
  exact kk p e s m args below meth c H locs ls C hP hS (lv_sub hl0 ks hl)
theorem e_iconst {n : Int} {v : Int32} (hd : me.2.1[k]? = some (pc, .iconst n, 1)) (hv : Int32.ofInt n = v) (kk : xE g me Po (pc + 1) lv (.int v :: st) σ) : xE g me Po pc lv (st) σ := by
  intro p e s m args below meth c H locs ls C hP hS hl
  exact lv_iconst C.1 rfl (xdec C hd) hv (kk p e s m args below meth c H locs ls C hP hS hl)
theorem e_bipush {n : Int} {v : Int32} (hd : me.2.1[k]? = some (pc, .bipush n, 2)) (hv : (Int8.ofInt n).toInt32 = v) (kk : xE g me Po (pc + 2) lv (.int v :: st) σ) : xE g me Po pc lv (st) σ := by
  intro p e s m args below meth c H locs ls C hP hS hl
  exact lv_bipush C.1 rfl (xdec C hd) hv (kk p e s m args below meth c H locs ls C hP hS hl)
theorem e_sipush {n : Int} {v : Int32} (hd : me.2.1[k]? = some (pc, .sipush n, 3)) (hv : (Int16.ofInt n).toInt32 = v) (kk : xE g me Po (pc + 3) lv (.int v :: st) σ) : xE g me Po pc lv (st) σ := by
  intro p e s m args below meth c H locs ls C hP hS hl
  exact lv_sipush C.1 rfl (xdec C hd) hv (kk p e s m args below meth c H locs ls C hP hS hl)
theorem e_lconst {n : Fin 2} {v : Int64} (hd : me.2.1[k]? = some (pc, .lconst n, 1)) (hv : Int64.ofNat (n : Nat) = v) (kk : xE g me Po (pc + 1) lv (.long v :: st) σ) : xE g me Po pc lv (st) σ := by
  intro p e s m args below meth c H locs ls C hP hS hl
  exact lv_lconst C.1 rfl (xdec C hd) hv (kk p e s m args below meth c H locs ls C hP hS hl)
theorem e_iload_n {n : Fin 4} {i : Nat} {x : Int32} (hd : me.2.1[k]? = some (pc, .iload_n n, 1)) (hi : (n : Nat) = i) (j : Nat) (hj : lv[j]? = some (i, .int x)) (kk : xE g me Po (pc + 1) lv (.int x :: st) σ) : xE g me Po pc lv (st) σ := by
  intro p e s m args below meth c H locs ls C hP hS hl
  exact lv_iload_n C.1 rfl (xdec C hd) hi (lv_at hl j hj) (kk p e s m args below meth c H locs ls C hP hS hl)
theorem e_iload {i : Nat} {x : Int32} (hd : me.2.1[k]? = some (pc, .iload i, 2)) (j : Nat) (hj : lv[j]? = some (i, .int x)) (kk : xE g me Po (pc + 2) lv (.int x :: st) σ) : xE g me Po pc lv (st) σ := by
  intro p e s m args below meth c H locs ls C hP hS hl
  exact lv_iload C.1 rfl (xdec C hd) (lv_at hl j hj) (kk p e s m args below meth c H locs ls C hP hS hl)
theorem e_lload_n {n : Fin 4} {i : Nat} {x : Int64} (hd : me.2.1[k]? = some (pc, .lload_n n, 1)) (hi : (n : Nat) = i) (j : Nat) (hj : lv[j]? = some (i, .long x)) (kk : xE g me Po (pc + 1) lv (.long x :: st) σ) : xE g me Po pc lv (st) σ := by
  intro p e s m args below meth c H locs ls C hP hS hl
  exact lv_lload_n C.1 rfl (xdec C hd) hi (lv_at hl j hj) (kk p e s m args below meth c H locs ls C hP hS hl)
theorem e_lload {i : Nat} {x : Int64} (hd : me.2.1[k]? = some (pc, .lload i, 2)) (j : Nat) (hj : lv[j]? = some (i, .long x)) (kk : xE g me Po (pc + 2) lv (.long x :: st) σ) : xE g me Po pc lv (st) σ := by
  intro p e s m args below meth c H locs ls C hP hS hl
  exact lv_lload C.1 rfl (xdec C hd) (lv_at hl j hj) (kk p e s m args below meth c H locs ls C hP hS hl)
theorem e_aload_n {n : Fin 4} {i x : Nat} (hd : me.2.1[k]? = some (pc, .aload_n n, 1)) (hi : (n : Nat) = i) (j : Nat) (hj : lv[j]? = some (i, .ref x)) (kk : xE g me Po (pc + 1) lv (.ref x :: st) σ) : xE g me Po pc lv (st) σ := by
  intro p e s m args below meth c H locs ls C hP hS hl
  exact lv_aload_n C.1 rfl (xdec C hd) hi (lv_at hl j hj) (kk p e s m args below meth c H locs ls C hP hS hl)
theorem e_aload {i x : Nat} (hd : me.2.1[k]? = some (pc, .aload i, 2)) (j : Nat) (hj : lv[j]? = some (i, .ref x)) (kk : xE g me Po (pc + 2) lv (.ref x :: st) σ) : xE g me Po pc lv (st) σ := by
  intro p e s m args below meth c H locs ls C hP hS hl
  exact lv_aload C.1 rfl (xdec C hd) (lv_at hl j hj) (kk p e s m args below meth c H locs ls C hP hS hl)
theorem e_iadd {x y : Int32} (hd : me.2.1[k]? = some (pc, .iadd, 1)) (kk : xE g me Po (pc + 1) lv (.int (x + y) :: st) σ) : xE g me Po pc lv (.int y :: .int x :: st) σ := by
  intro p e s m args below meth c H locs ls C hP hS hl
  exact lv_iadd C.1 rfl (xdec C hd) (kk p e s m args below meth c H locs ls C hP hS hl)
theorem e_ladd {x y : Int64} (hd : me.2.1[k]? = some (pc, .ladd, 1)) (kk : xE g me Po (pc + 1) lv (.long (x + y) :: st) σ) : xE g me Po pc lv (.long y :: .long x :: st) σ := by
  intro p e s m args below meth c H locs ls C hP hS hl
  exact lv_ladd C.1 rfl (xdec C hd) (kk p e s m args below meth c H locs ls C hP hS hl)
theorem e_isub {x y : Int32} (hd : me.2.1[k]? = some (pc, .isub, 1)) (kk : xE g me Po (pc + 1) lv (.int (x - y) :: st) σ) : xE g me Po pc lv (.int y :: .int x :: st) σ := by
  intro p e s m args below meth c H locs ls C hP hS hl
  exact lv_isub C.1 rfl (xdec C hd) (kk p e s m args below meth c H locs ls C hP hS hl)
theorem e_lsub {x y : Int64} (hd : me.2.1[k]? = some (pc, .lsub, 1)) (kk : xE g me Po (pc + 1) lv (.long (x - y) :: st) σ) : xE g me Po pc lv (.long y :: .long x :: st) σ := by
  intro p e s m args below meth c H locs ls C hP hS hl
  exact lv_lsub C.1 rfl (xdec C hd) (kk p e s m args below meth c H locs ls C hP hS hl)
theorem e_imul {x y : Int32} (hd : me.2.1[k]? = some (pc, .imul, 1)) (kk : xE g me Po (pc + 1) lv (.int (x * y) :: st) σ) : xE g me Po pc lv (.int y :: .int x :: st) σ := by
  intro p e s m args below meth c H locs ls C hP hS hl
  exact lv_imul C.1 rfl (xdec C hd) (kk p e s m args below meth c H locs ls C hP hS hl)
theorem e_lmul {x y : Int64} (hd : me.2.1[k]? = some (pc, .lmul, 1)) (kk : xE g me Po (pc + 1) lv (.long (x * y) :: st) σ) : xE g me Po pc lv (.long y :: .long x :: st) σ := by
  intro p e s m args below meth c H locs ls C hP hS hl
  exact lv_lmul C.1 rfl (xdec C hd) (kk p e s m args below meth c H locs ls C hP hS hl)
theorem e_iand {x y : Int32} (hd : me.2.1[k]? = some (pc, .iand, 1)) (kk : xE g me Po (pc + 1) lv (.int (x &&& y) :: st) σ) : xE g me Po pc lv (.int y :: .int x :: st) σ := by
  intro p e s m args below meth c H locs ls C hP hS hl
  exact lv_iand C.1 rfl (xdec C hd) (kk p e s m args below meth c H locs ls C hP hS hl)
theorem e_land {x y : Int64} (hd : me.2.1[k]? = some (pc, .land, 1)) (kk : xE g me Po (pc + 1) lv (.long (x &&& y) :: st) σ) : xE g me Po pc lv (.long y :: .long x :: st) σ := by
  intro p e s m args below meth c H locs ls C hP hS hl
  exact lv_land C.1 rfl (xdec C hd) (kk p e s m args below meth c H locs ls C hP hS hl)
theorem e_ior {x y : Int32} (hd : me.2.1[k]? = some (pc, .ior, 1)) (kk : xE g me Po (pc + 1) lv (.int (x ||| y) :: st) σ) : xE g me Po pc lv (.int y :: .int x :: st) σ := by
  intro p e s m args below meth c H locs ls C hP hS hl
  exact lv_ior C.1 rfl (xdec C hd) (kk p e s m args below meth c H locs ls C hP hS hl)
theorem e_lor {x y : Int64} (hd : me.2.1[k]? = some (pc, .lor, 1)) (kk : xE g me Po (pc + 1) lv (.long (x ||| y) :: st) σ) : xE g me Po pc lv (.long y :: .long x :: st) σ := by
  intro p e s m args below meth c H locs ls C hP hS hl
  exact lv_lor C.1 rfl (xdec C hd) (kk p e s m args below meth c H locs ls C hP hS hl)
theorem e_idiv {x y : Int32} (hd : me.2.1[k]? = some (pc, .idiv, 1)) (hne : ¬ y = 0) (kk : xE g me Po (pc + 1) lv (.int (x / y) :: st) σ) : xE g me Po pc lv (.int y :: .int x :: st) σ := by
  intro p e s m args below meth c H locs ls C hP hS hl
  exact lv_idiv C.1 rfl (xdec C hd) hne (kk p e s m args below meth c H locs ls C hP hS hl)
theorem e_irem {x y : Int32} (hd : me.2.1[k]? = some (pc, .irem, 1)) (hne : ¬ y = 0) (kk : xE g me Po (pc + 1) lv (.int (x - x / y * y) :: st) σ) : xE g me Po pc lv (.int y :: .int x :: st) σ := by
  intro p e s m args below meth c H locs ls C hP hS hl
  exact lv_irem C.1 rfl (xdec C hd) hne (kk p e s m args below meth c H locs ls C hP hS hl)
theorem e_ldiv {x y : Int64} (hd : me.2.1[k]? = some (pc, .ldiv, 1)) (hne : ¬ y = 0) (kk : xE g me Po (pc + 1) lv (.long (x / y) :: st) σ) : xE g me Po pc lv (.long y :: .long x :: st) σ := by
  intro p e s m args below meth c H locs ls C hP hS hl
  exact lv_ldiv C.1 rfl (xdec C hd) hne (kk p e s m args below meth c H locs ls C hP hS hl)
theorem e_lrem {x y : Int64} (hd : me.2.1[k]? = some (pc, .lrem, 1)) (hne : ¬ y = 0) (kk : xE g me Po (pc + 1) lv (.long (x - x / y * y) :: st) σ) : xE g me Po pc lv (.long y :: .long x :: st) σ := by
  intro p e s m args below meth c H locs ls C hP hS hl
  exact lv_lrem C.1 rfl (xdec C hd) hne (kk p e s m args below meth c H locs ls C hP hS hl)
theorem e_ineg {x : Int32} (hd : me.2.1[k]? = some (pc, .ineg, 1)) (kk : xE g me Po (pc + 1) lv (.int (-x) :: st) σ) : xE g me Po pc lv (.int x :: st) σ := by
  intro p e s m args below meth c H locs ls C hP hS hl
  exact lv_ineg C.1 rfl (xdec C hd) (kk p e s m args below meth c H locs ls C hP hS hl)
theorem e_ishl {x y : Int32} (hd : me.2.1[k]? = some (pc, .ishl, 1)) (kk : xE g me Po (pc + 1) lv (.int (x <<< (y &&& 31)) :: st) σ) : xE g me Po pc lv (.int y :: .int x :: st) σ := by
  intro p e s m args below meth c H locs ls C hP hS hl
  exact lv_ishl C.1 rfl (xdec C hd) (kk p e s m args below meth c H locs ls C hP hS hl)
theorem e_ishr {x y : Int32} (hd : me.2.1[k]? = some (pc, .ishr, 1)) (kk : xE g me Po (pc + 1) lv (.int (x >>> (y &&& 31)) :: st) σ) : xE g me Po pc lv (.int y :: .int x :: st) σ := by
  intro p e s m args below meth c H locs ls C hP hS hl
  exact lv_ishr C.1 rfl (xdec C hd) (kk p e s m args below meth c H locs ls C hP hS hl)
theorem e_iushr {x y : Int32} (hd : me.2.1[k]? = some (pc, .iushr, 1)) (kk : xE g me Po (pc + 1) lv (.int (x.toUInt32 >>> (y.toUInt32 &&& Int32.toUInt32 31)).toInt32 :: st) σ) : xE g me Po pc lv (.int y :: .int x :: st) σ := by
  intro p e s m args below meth c H locs ls C hP hS hl
  exact lv_iushr C.1 rfl (xdec C hd) rfl (kk p e s m args below meth c H locs ls C hP hS hl)
theorem e_i2l {x : Int32} (hd : me.2.1[k]? = some (pc, .i2l, 1)) (kk : xE g me Po (pc + 1) lv (.long x.toInt64 :: st) σ) : xE g me Po pc lv (.int x :: st) σ := by
  intro p e s m args below meth c H locs ls C hP hS hl
  exact lv_i2l C.1 rfl (xdec C hd) rfl (kk p e s m args below meth c H locs ls C hP hS hl)
theorem e_l2i {x : Int64} (hd : me.2.1[k]? = some (pc, .l2i, 1)) (kk : xE g me Po (pc + 1) lv (.int x.toInt32 :: st) σ) : xE g me Po pc lv (.long x :: st) σ := by
  intro p e s m args below meth c H locs ls C hP hS hl
  exact lv_l2i C.1 rfl (xdec C hd) rfl (kk p e s m args below meth c H locs ls C hP hS hl)
theorem e_i2b {x : Int32} (hd : me.2.1[k]? = some (pc, .i2b, 1)) (kk : xE g me Po (pc + 1) lv (.int x.toInt8.toInt32 :: st) σ) : xE g me Po pc lv (.int x :: st) σ := by
  intro p e s m args below meth c H locs ls C hP hS hl
  exact lv_i2b C.1 rfl (xdec C hd) rfl (kk p e s m args below meth c H locs ls C hP hS hl)
theorem e_i2c {x : Int32} (hd : me.2.1[k]? = some (pc, .i2c, 1)) (kk : xE g me Po (pc + 1) lv (.int (x.toUInt32 % 65536).toInt32 :: st) σ) : xE g me Po pc lv (.int x :: st) σ := by
  intro p e s m args below meth c H locs ls C hP hS hl
  exact lv_i2c C.1 rfl (xdec C hd) rfl (kk p e s m args below meth c H locs ls C hP hS hl)
theorem e_dup {a : Value} (hd : me.2.1[k]? = some (pc, .dup, 1)) (ha : a.category = 1) (kk : xE g me Po (pc + 1) lv (a :: a :: st) σ) : xE g me Po pc lv (a :: st) σ := by
  intro p e s m args below meth c H locs ls C hP hS hl
  exact lv_dup C.1 rfl (xdec C hd) ha (kk p e s m args below meth c H locs ls C hP hS hl)
theorem e_pop {a : Value} (hd : me.2.1[k]? = some (pc, .pop, 1)) (ha : a.category = 1) (kk : xE g me Po (pc + 1) lv (st) σ) : xE g me Po pc lv (a :: st) σ := by
  intro p e s m args below meth c H locs ls C hP hS hl
  exact lv_pop C.1 rfl (xdec C hd) ha (kk p e s m args below meth c H locs ls C hP hS hl)
theorem e_dup2 {a b : Value} (hd : me.2.1[k]? = some (pc, .dup2, 1)) (ha : a.category = 1) (hb2 : b.category = 1) (kk : xE g me Po (pc + 1) lv (a :: b :: a :: b :: st) σ) : xE g me Po pc lv (a :: b :: st) σ := by
  intro p e s m args below meth c H locs ls C hP hS hl
  exact lv_dup2_11 C.1 rfl (xdec C hd) ha hb2 (kk p e s m args below meth c H locs ls C hP hS hl)
theorem e_lcmp {x y : Int64} (hd : me.2.1[k]? = some (pc, .lcmp, 1)) (kk : xE g me Po (pc + 1) lv (.int (lg_cmp x y) :: st) σ) : xE g me Po pc lv (.long y :: .long x :: st) σ := by
  intro p e s m args below meth c H locs ls C hP hS hl
  exact W.lcmp C.1 rfl (xdec C hd) (kk p e s m args below meth c H locs ls C hP hS hl)
theorem e_istore_n {n : Fin 4} {i : Nat} {x : Int32} (hd : me.2.1[k]? = some (pc, .istore_n n, 1)) (hi : (n : Nat) = i) (hn : i < me.2.2.1) (ks : List Nat) (hk : lv_pick ((i, Value.int x) :: lv.filter (fun q => !(q.1 == i) && !(q.1 + 1 == i && q.2.category == 2))) ks = lv') (kk : xE g me Po (pc + 1) lv' st σ) : xE g me Po pc lv (.int x :: st) σ := by
  intro p e s m args below meth c H locs ls C hP hS hl
  exact lv_istore_n C.1 rfl (xdec C hd) hi hl hn rfl (fun ls' hl' => kk p e s m args below meth c H locs ls' C hP hS (lv_sub hl' ks hk))
theorem e_istore {i : Nat} {x : Int32} (hd : me.2.1[k]? = some (pc, .istore i, 2)) (hn : i < me.2.2.1) (ks : List Nat) (hk : lv_pick ((i, Value.int x) :: lv.filter (fun q => !(q.1 == i) && !(q.1 + 1 == i && q.2.category == 2))) ks = lv') (kk : xE g me Po (pc + 2) lv' st σ) : xE g me Po pc lv (.int x :: st) σ := by
  intro p e s m args below meth c H locs ls C hP hS hl
  exact lv_istore C.1 rfl (xdec C hd) hl hn rfl (fun ls' hl' => kk p e s m args below meth c H locs ls' C hP hS (lv_sub hl' ks hk))
theorem e_lstore_n {n : Fin 4} {i : Nat} {x : Int64} (hd : me.2.1[k]? = some (pc, .lstore_n n, 1)) (hi : (n : Nat) = i) (hn : i + 1 < me.2.2.1) (ks : List Nat) (hk : lv_pick ((i, Value.long x) :: lv.filter (fun q => !(q.1 == i) && (!(q.1 == i + 1) && !(q.1 + 1 == i && q.2.category == 2)))) ks = lv') (kk : xE g me Po (pc + 1) lv' st σ) : xE g me Po pc lv (.long x :: st) σ := by
  intro p e s m args below meth c H locs ls C hP hS hl
  exact lv_lstore_n C.1 rfl (xdec C hd) hi hl hn rfl (fun ls' hl' => kk p e s m args below meth c H locs ls' C hP hS (lv_sub hl' ks hk))
theorem e_lstore {i : Nat} {x : Int64} (hd : me.2.1[k]? = some (pc, .lstore i, 2)) (hn : i + 1 < me.2.2.1) (ks : List Nat) (hk : lv_pick ((i, Value.long x) :: lv.filter (fun q => !(q.1 == i) && (!(q.1 == i + 1) && !(q.1 + 1 == i && q.2.category == 2)))) ks = lv') (kk : xE g me Po (pc + 2) lv' st σ) : xE g me Po pc lv (.long x :: st) σ := by
  intro p e s m args below meth c H locs ls C hP hS hl
  exact lv_lstore C.1 rfl (xdec C hd) hl hn rfl (fun ls' hl' => kk p e s m args below meth c H locs ls' C hP hS (lv_sub hl' ks hk))
theorem e_astore_n {n : Fin 4} {i : Nat} {x : Nat} (hd : me.2.1[k]? = some (pc, .astore_n n, 1)) (hi : (n : Nat) = i) (hn : i < me.2.2.1) (ks : List Nat) (hk : lv_pick ((i, Value.ref x) :: lv.filter (fun q => !(q.1 == i) && !(q.1 + 1 == i && q.2.category == 2))) ks = lv') (kk : xE g me Po (pc + 1) lv' st σ) : xE g me Po pc lv (.ref x :: st) σ := by
  intro p e s m args below meth c H locs ls C hP hS hl
  exact lv_astore_n C.1 rfl (xdec C hd) hi hl hn rfl (fun ls' hl' => kk p e s m args below meth c H locs ls' C hP hS (lv_sub hl' ks hk))
theorem e_astore {i : Nat} {x : Nat} (hd : me.2.1[k]? = some (pc, .astore i, 2)) (hn : i < me.2.2.1) (ks : List Nat) (hk : lv_pick ((i, Value.ref x) :: lv.filter (fun q => !(q.1 == i) && !(q.1 + 1 == i && q.2.category == 2))) ks = lv') (kk : xE g me Po (pc + 2) lv' st σ) : xE g me Po pc lv (.ref x :: st) σ := by
  intro p e s m args below meth c H locs ls C hP hS hl
  exact lv_astore C.1 rfl (xdec C hd) hl hn rfl (fun ls' hl' => kk p e s m args below meth c H locs ls' C hP hS (lv_sub hl' ks hk))
theorem e_iinc {i j : Nat} {n : Int} {x v : Int32} (hd : me.2.1[k]? = some (pc, .iinc i n, 3)) (hj : lv[j]? = some (i, .int x)) (hv : x + Int32.ofInt n = v) (hn : i < me.2.2.1) (ks : List Nat) (hk : lv_pick ((i, Value.int v) :: lv.filter (fun q => !(q.1 == i) && !(q.1 + 1 == i && q.2.category == 2))) ks = lv') (kk : xE g me Po (pc + 3) lv' st σ) : xE g me Po pc lv st σ := by
  intro p e s m args below meth c H locs ls C hP hS hl
  exact lv_iinc C.1 rfl (xdec C hd) hl hj hv hn rfl (fun ls' hl' => kk p e s m args below meth c H locs ls' C hP hS (lv_sub hl' ks hk))
theorem e_goto {off : Int} {tgt : Nat} (hd : me.2.1[k]? = some (pc, .goto off, 3)) (ht : (pc : Int) + off = (tgt : Int)) (kk : xE g me Po tgt lv st σ) : xE g me Po pc lv st σ := by
  intro p e s m args below meth c H locs ls C hP hS hl
  exact lv_goto C.1 rfl (xdec C hd) ht (kk p e s m args below meth c H locs ls C hP hS hl)
theorem e_if_eq {x : Int32} {off : Int} {tgt : Nat} (hd : me.2.1[k]? = some (pc, .ifCond .eq off, 3)) (ht : (pc : Int) + off = (tgt : Int)) (kt : x = 0 → xE g me Po tgt lv st σ) (kf : ¬ (x = 0) → xE g me Po (pc + 3) lv st σ) : xE g me Po pc lv (.int x :: st) σ := by
  intro p e s m args below meth c H locs ls C hP hS hl
  exact lv_if_eq C.1 rfl (xdec C hd) ht (fun z => kt z p e s m args below meth c H locs ls C hP hS hl) (fun z => kf z p e s m args below meth c H locs ls C hP hS hl)
theorem e_icmp_eq {x y : Int32} {off : Int} {tgt : Nat} (hd : me.2.1[k]? = some (pc, .if_icmp .eq off, 3)) (ht : (pc : Int) + off = (tgt : Int)) (kt : x = y → xE g me Po tgt lv st σ) (kf : ¬ (x = y) → xE g me Po (pc + 3) lv st σ) : xE g me Po pc lv (.int y :: .int x :: st) σ := by
  intro p e s m args below meth c H locs ls C hP hS hl
  exact lv_icmp_eq C.1 rfl (xdec C hd) ht (fun z => kt z p e s m args below meth c H locs ls C hP hS hl) (fun z => kf z p e s m args below meth c H locs ls C hP hS hl)
theorem e_if_ne {x : Int32} {off : Int} {tgt : Nat} (hd : me.2.1[k]? = some (pc, .ifCond .ne off, 3)) (ht : (pc : Int) + off = (tgt : Int)) (kt : ¬ x = 0 → xE g me Po tgt lv st σ) (kf : x = 0 → xE g me Po (pc + 3) lv st σ) : xE g me Po pc lv (.int x :: st) σ := by
  intro p e s m args below meth c H locs ls C hP hS hl
  exact lv_if_ne C.1 rfl (xdec C hd) ht (fun z => kt z p e s m args below meth c H locs ls C hP hS hl) (fun z => kf z p e s m args below meth c H locs ls C hP hS hl)
theorem e_icmp_ne {x y : Int32} {off : Int} {tgt : Nat} (hd : me.2.1[k]? = some (pc, .if_icmp .ne off, 3)) (ht : (pc : Int) + off = (tgt : Int)) (kt : ¬ x = y → xE g me Po tgt lv st σ) (kf : x = y → xE g me Po (pc + 3) lv st σ) : xE g me Po pc lv (.int y :: .int x :: st) σ := by
  intro p e s m args below meth c H locs ls C hP hS hl
  exact lv_icmp_ne C.1 rfl (xdec C hd) ht (fun z => kt z p e s m args below meth c H locs ls C hP hS hl) (fun z => kf z p e s m args below meth c H locs ls C hP hS hl)
theorem e_if_lt {x : Int32} {off : Int} {tgt : Nat} (hd : me.2.1[k]? = some (pc, .ifCond .lt off, 3)) (ht : (pc : Int) + off = (tgt : Int)) (kt : x < 0 → xE g me Po tgt lv st σ) (kf : ¬ (x < 0) → xE g me Po (pc + 3) lv st σ) : xE g me Po pc lv (.int x :: st) σ := by
  intro p e s m args below meth c H locs ls C hP hS hl
  exact lv_if_lt C.1 rfl (xdec C hd) ht (fun z => kt z p e s m args below meth c H locs ls C hP hS hl) (fun z => kf z p e s m args below meth c H locs ls C hP hS hl)
theorem e_icmp_lt {x y : Int32} {off : Int} {tgt : Nat} (hd : me.2.1[k]? = some (pc, .if_icmp .lt off, 3)) (ht : (pc : Int) + off = (tgt : Int)) (kt : x < y → xE g me Po tgt lv st σ) (kf : ¬ (x < y) → xE g me Po (pc + 3) lv st σ) : xE g me Po pc lv (.int y :: .int x :: st) σ := by
  intro p e s m args below meth c H locs ls C hP hS hl
  exact lv_icmp_lt C.1 rfl (xdec C hd) ht (fun z => kt z p e s m args below meth c H locs ls C hP hS hl) (fun z => kf z p e s m args below meth c H locs ls C hP hS hl)
theorem e_if_ge {x : Int32} {off : Int} {tgt : Nat} (hd : me.2.1[k]? = some (pc, .ifCond .ge off, 3)) (ht : (pc : Int) + off = (tgt : Int)) (kt : 0 ≤ x → xE g me Po tgt lv st σ) (kf : ¬ (0 ≤ x) → xE g me Po (pc + 3) lv st σ) : xE g me Po pc lv (.int x :: st) σ := by
  intro p e s m args below meth c H locs ls C hP hS hl
  exact lv_if_ge C.1 rfl (xdec C hd) ht (fun z => kt z p e s m args below meth c H locs ls C hP hS hl) (fun z => kf z p e s m args below meth c H locs ls C hP hS hl)
theorem e_icmp_ge {x y : Int32} {off : Int} {tgt : Nat} (hd : me.2.1[k]? = some (pc, .if_icmp .ge off, 3)) (ht : (pc : Int) + off = (tgt : Int)) (kt : y ≤ x → xE g me Po tgt lv st σ) (kf : ¬ (y ≤ x) → xE g me Po (pc + 3) lv st σ) : xE g me Po pc lv (.int y :: .int x :: st) σ := by
  intro p e s m args below meth c H locs ls C hP hS hl
  exact lv_icmp_ge C.1 rfl (xdec C hd) ht (fun z => kt z p e s m args below meth c H locs ls C hP hS hl) (fun z => kf z p e s m args below meth c H locs ls C hP hS hl)
theorem e_if_gt {x : Int32} {off : Int} {tgt : Nat} (hd : me.2.1[k]? = some (pc, .ifCond .gt off, 3)) (ht : (pc : Int) + off = (tgt : Int)) (kt : 0 < x → xE g me Po tgt lv st σ) (kf : ¬ (0 < x) → xE g me Po (pc + 3) lv st σ) : xE g me Po pc lv (.int x :: st) σ := by
  intro p e s m args below meth c H locs ls C hP hS hl
  exact lv_if_gt C.1 rfl (xdec C hd) ht (fun z => kt z p e s m args below meth c H locs ls C hP hS hl) (fun z => kf z p e s m args below meth c H locs ls C hP hS hl)
theorem e_icmp_gt {x y : Int32} {off : Int} {tgt : Nat} (hd : me.2.1[k]? = some (pc, .if_icmp .gt off, 3)) (ht : (pc : Int) + off = (tgt : Int)) (kt : y < x → xE g me Po tgt lv st σ) (kf : ¬ (y < x) → xE g me Po (pc + 3) lv st σ) : xE g me Po pc lv (.int y :: .int x :: st) σ := by
  intro p e s m args below meth c H locs ls C hP hS hl
  exact lv_icmp_gt C.1 rfl (xdec C hd) ht (fun z => kt z p e s m args below meth c H locs ls C hP hS hl) (fun z => kf z p e s m args below meth c H locs ls C hP hS hl)
theorem e_if_le {x : Int32} {off : Int} {tgt : Nat} (hd : me.2.1[k]? = some (pc, .ifCond .le off, 3)) (ht : (pc : Int) + off = (tgt : Int)) (kt : x ≤ 0 → xE g me Po tgt lv st σ) (kf : ¬ (x ≤ 0) → xE g me Po (pc + 3) lv st σ) : xE g me Po pc lv (.int x :: st) σ := by
  intro p e s m args below meth c H locs ls C hP hS hl
  exact lv_if_le C.1 rfl (xdec C hd) ht (fun z => kt z p e s m args below meth c H locs ls C hP hS hl) (fun z => kf z p e s m args below meth c H locs ls C hP hS hl)
theorem e_icmp_le {x y : Int32} {off : Int} {tgt : Nat} (hd : me.2.1[k]? = some (pc, .if_icmp .le off, 3)) (ht : (pc : Int) + off = (tgt : Int)) (kt : x ≤ y → xE g me Po tgt lv st σ) (kf : ¬ (x ≤ y) → xE g me Po (pc + 3) lv st σ) : xE g me Po pc lv (.int y :: .int x :: st) σ := by
  intro p e s m args below meth c H locs ls C hP hS hl
  exact lv_icmp_le C.1 rfl (xdec C hd) ht (fun z => kt z p e s m args below meth c H locs ls C hP hS hl) (fun z => kf z p e s m args below meth c H locs ls C hP hS hl)
end XR
