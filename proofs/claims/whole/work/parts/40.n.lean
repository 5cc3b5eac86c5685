/-! making: cells come one behind the other; their addresses are known ahead -/
def xoffL : List Nat := [35, 36, 37, 38, 39, 40, 41, 42, 43, 44, 45, 46, 47, 48, 49, 50, 51, 52, 53, 54, 55, 56, 57, 58, 59, 60, 61, 62, 63, 64, 65, 66, 0, 2, 27, 4, 8, 28, 29, 30, 33, 1, 3, 5, 6, 7, 9, 10, 11, 12, 13, 17, 21, 14, 18, 22, 15, 19, 23, 16, 20, 24, 25, 26, 31, 32, 34]
def xoff (q : Nat) : Nat := xoffL.getD q 0
theorem xoff_inj : ∀ i, i < 67 → ∀ j, j < 67 → xoff i = xoff j → i = j := by decide +kernel
/-- addresses by the order of making, from B on -/
def nR (g : Gb) (B : Nat) : Prop := ∀ q, q < 67 → gR g q = B + xoff q
abbrev nL' : Type := List (Nat × va_E)
def nw (g : Gb) (ws : nL') : va_W := ws.map (fun x => (gR g x.1, x.2))
/-- the names are apart and made already -/
def nOk (k : Nat) (ws : nL') : Prop := (∀ x ∈ ws, x.1 < 67 ∧ xoff x.1 < k) ∧ (ws.map (·.1)).Nodup
def nC (g : Gb) (me : Me) (B : Nat) (p : Program) (s : State) (m : MethodId) (args : Array Value) (meth : Method) (c : Code) : Prop :=
  p.tables.exec = Jvm.exec ∧ (∀ x ∈ me.2.1, decode c.code x.1 = .ok x.2) ∧ c.maxLocals = me.2.2.1 ∧ meth.sig.returnType = me.2.2.2.1 ∧ s.vm.findClass me.1 = some m.cls ∧ meth.locks = false ∧
  (∀ w ∈ xtbl, w.before args s = true) ∧ va_K (gD g) xCl (xt g) s ∧ nX B s
def nQ (g : Gb) (B kf : Nat) (wf : nL') (oc : Option Value) : Array Value → State → Outcome → State → Prop := fun _ s o t => o = .returned oc ∧ va_P (gD g) xCl (nw g wf) t.heap ∧ va_F (nA B) s t
abbrev nF : Type := List Frame → Array Value → State → State → Prop
def nQf (g : Gb) (B kf : Nat) (wf : nL') (oc : Option Value) (mc ms : Nat) : nF := fun below args s => MQ below (nQ g B kf wf oc) args s mc ms (nA B)
def nE' (g : Gb) (me : Me) (B : Nat) (Qf : nF) (Hi : State → Array Value → Method → Code → Prop) (k nc ns pc : Nat) (lv : List (Nat × Value)) (st : List Value) (ws : nL') : Prop :=
  ∀ (p : Program) (e : Env) (s : State) (m : MethodId) (args : Array Value) (below : List Frame) (meth : Method) (c : Code) (H : Heap) (locs : List Loc) (ls : Array Slot),
    nC g me B p s m args meth c → Hi s args meth c → va_P (gD g) xCl (nw g ws) H → (s.heap.size + nc = B + k ∧ nR g B ∧ nOk k ws) → va_S (nA B) s.heap H locs → lv_has ls me.2.2.1 lv → B ≤ s.heap.size →
    W p (gL g) e me.2.2.2.2.1 s m args below meth c H locs nc ns (Qf below args s) (F0 m pc ls st)
abbrev nE (g : Gb) (me : Me) (B kf : Nat) (wf : nL') (iz : Prop × Option Value) (mc ms k nc ns pc : Nat) (lv : List (Nat × Value)) (st : List Value) (ws : nL') : Prop := nE' g me B (nQf g B kf wf iz.2 mc ms) (fun _ _ meth _ => iz.1 → meth.name = "<init>") k nc ns pc lv st ws
theorem nw_get {g : Gb} {ws : nL'} {i : Nat} {q : Nat} {e : va_E} (h : ws[i]? = some (q, e)) : (nw g ws)[i]? = some (gR g q, e) := by simp [nw, h]
theorem nw_get' {g : Gb} {ws : nL'} {i : Nat} {x : Nat × va_E} (h : (nw g ws)[i]? = some x) : ∃ y, ws[i]? = some y ∧ x = (gR g y.1, y.2) := by
  simp only [nw, List.getElem?_map, Option.map_eq_some_iff] at h
  obtain ⟨y, h1, h2⟩ := h
  exact ⟨y, h1, h2.symm⟩
theorem nD {g : Gb} {B k : Nat} {ws : nL'} (hR : nR g B) (h : nOk k ws) : va_D (nA B) (nw g ws) := by
  refine ⟨fun i j p q hp hq he => ?_, fun i q hq => ?_⟩
  · obtain ⟨y, h1, rfl⟩ := nw_get' hp
    obtain ⟨z, h2, rfl⟩ := nw_get' hq
    have hy := (h.1 y (List.mem_of_getElem? h1)).1
    have hz := (h.1 z (List.mem_of_getElem? h2)).1
    have e1 : xoff y.1 = xoff z.1 := by
      have e2 : gR g y.1 = gR g z.1 := he
      rw [hR _ hy, hR _ hz] at e2
      omega
    have e3 : y.1 = z.1 := xoff_inj _ hy _ hz e1
    have h3 : (ws.map (·.1))[i]? = some y.1 := by simp [h1]
    have h4 : (ws.map (·.1))[j]? = some y.1 := by simp [h2, e3]
    exact (List.getElem?_inj (List.getElem?_eq_some_iff.mp h3).1 h.2).mp (h3.trans h4.symm)
  · obtain ⟨y, h1, rfl⟩ := nw_get' hq
    have hy := (h.1 y (List.mem_of_getElem? h1)).1
    show B ≤ gR g y.1
    rw [hR _ hy]
    omega
theorem nw_set {g : Gb} {ws : nL'} {i q : Nat} {e : va_E} : (nw g ws).set i (gR g q, e) = nw g (ws.set i (q, e)) := by
  simp [nw, List.map_set]
section NR
variable {g : Gb} {me : Me} {Qf : nF} {Hi : State → Array Value → Method → Code → Prop} {iz : Prop × Option Value} {B kf mc ms k nc ns pc j : Nat} {wf ws : nL'} {lv lv' : List (Nat × Value)} {st : List Value}
theorem ndec {p : Program} {s : State} {m : MethodId} {args : Array Value} {meth : Method} {c : Code} {i : Instr} {n : Nat} (C : nC g me B p s m args meth c) (hd : me.2.1[j]? = some (pc, i, n)) : decode c.code pc = .ok (i, n) := C.2.1 (pc, i, n) (List.mem_of_getElem? hd)
theorem n_iconst {n : Int} {v : Int32} (hd : me.2.1[j]? = some (pc, .iconst n, 1)) (hv : Int32.ofInt n = v) (kk : nE' g me B Qf Hi k nc ns (pc + 1) lv (.int v :: st) ws) : nE' g me B Qf Hi k nc ns pc lv (st) ws := by
  intro p e s m args below meth c H locs ls C hin hP hz hS hl hB
  exact lv_iconst C.1 rfl (ndec C hd) hv (kk p e s m args below meth c H locs ls C hin hP hz hS hl hB)
theorem n_bipush {n : Int} {v : Int32} (hd : me.2.1[j]? = some (pc, .bipush n, 2)) (hv : (Int8.ofInt n).toInt32 = v) (kk : nE' g me B Qf Hi k nc ns (pc + 2) lv (.int v :: st) ws) : nE' g me B Qf Hi k nc ns pc lv (st) ws := by
  intro p e s m args below meth c H locs ls C hin hP hz hS hl hB
  exact lv_bipush C.1 rfl (ndec C hd) hv (kk p e s m args below meth c H locs ls C hin hP hz hS hl hB)
theorem n_sipush {n : Int} {v : Int32} (hd : me.2.1[j]? = some (pc, .sipush n, 3)) (hv : (Int16.ofInt n).toInt32 = v) (kk : nE' g me B Qf Hi k nc ns (pc + 3) lv (.int v :: st) ws) : nE' g me B Qf Hi k nc ns pc lv (st) ws := by
  intro p e s m args below meth c H locs ls C hin hP hz hS hl hB
  exact lv_sipush C.1 rfl (ndec C hd) hv (kk p e s m args below meth c H locs ls C hin hP hz hS hl hB)
theorem n_iload_n {n : Fin 4} {i : Nat} {x : Int32} (hd : me.2.1[j]? = some (pc, .iload_n n, 1)) (hi : (n : Nat) = i) (q : Nat) (hq : lv[q]? = some (i, .int x)) (kk : nE' g me B Qf Hi k nc ns (pc + 1) lv (.int x :: st) ws) : nE' g me B Qf Hi k nc ns pc lv (st) ws := by
  intro p e s m args below meth c H locs ls C hin hP hz hS hl hB
  exact lv_iload_n C.1 rfl (ndec C hd) hi (lv_at hl q hq) (kk p e s m args below meth c H locs ls C hin hP hz hS hl hB)
theorem n_iload {i : Nat} {x : Int32} (hd : me.2.1[j]? = some (pc, .iload i, 2)) (q : Nat) (hq : lv[q]? = some (i, .int x)) (kk : nE' g me B Qf Hi k nc ns (pc + 2) lv (.int x :: st) ws) : nE' g me B Qf Hi k nc ns pc lv (st) ws := by
  intro p e s m args below meth c H locs ls C hin hP hz hS hl hB
  exact lv_iload C.1 rfl (ndec C hd) (lv_at hl q hq) (kk p e s m args below meth c H locs ls C hin hP hz hS hl hB)
theorem n_aload_n {n : Fin 4} {i x : Nat} (hd : me.2.1[j]? = some (pc, .aload_n n, 1)) (hi : (n : Nat) = i) (q : Nat) (hq : lv[q]? = some (i, .ref x)) (kk : nE' g me B Qf Hi k nc ns (pc + 1) lv (.ref x :: st) ws) : nE' g me B Qf Hi k nc ns pc lv (st) ws := by
  intro p e s m args below meth c H locs ls C hin hP hz hS hl hB
  exact lv_aload_n C.1 rfl (ndec C hd) hi (lv_at hl q hq) (kk p e s m args below meth c H locs ls C hin hP hz hS hl hB)
theorem n_aload {i x : Nat} (hd : me.2.1[j]? = some (pc, .aload i, 2)) (q : Nat) (hq : lv[q]? = some (i, .ref x)) (kk : nE' g me B Qf Hi k nc ns (pc + 2) lv (.ref x :: st) ws) : nE' g me B Qf Hi k nc ns pc lv (st) ws := by
  intro p e s m args below meth c H locs ls C hin hP hz hS hl hB
  exact lv_aload C.1 rfl (ndec C hd) (lv_at hl q hq) (kk p e s m args below meth c H locs ls C hin hP hz hS hl hB)
theorem n_aload_nN {n : Fin 4} {i : Nat} (hd : me.2.1[j]? = some (pc, .aload_n n, 1)) (hi : (n : Nat) = i) (q : Nat) (hq : lv[q]? = some (i, .null)) (kk : nE' g me B Qf Hi k nc ns (pc + 1) lv (.null :: st) ws) : nE' g me B Qf Hi k nc ns pc lv (st) ws := by
  intro p e s m args below meth c H locs ls C hin hP hz hS hl hB
  exact lv_aload_nN C.1 rfl (ndec C hd) hi (lv_at hl q hq) (kk p e s m args below meth c H locs ls C hin hP hz hS hl hB)
theorem n_null (hd : me.2.1[j]? = some (pc, .aconst_null, 1)) (kk : nE' g me B Qf Hi k nc ns (pc + 1) lv (.null :: st) ws) : nE' g me B Qf Hi k nc ns pc lv (st) ws := by
  intro p e s m args below meth c H locs ls C hin hP hz hS hl hB
  exact lv_null C.1 rfl (ndec C hd) (kk p e s m args below meth c H locs ls C hin hP hz hS hl hB)
theorem n_dup {a : Value} (hd : me.2.1[j]? = some (pc, .dup, 1)) (ha : a.category = 1) (kk : nE' g me B Qf Hi k nc ns (pc + 1) lv (a :: a :: st) ws) : nE' g me B Qf Hi k nc ns pc lv (a :: st) ws := by
  intro p e s m args below meth c H locs ls C hin hP hz hS hl hB
  exact lv_dup C.1 rfl (ndec C hd) ha (kk p e s m args below meth c H locs ls C hin hP hz hS hl hB)
theorem n_istore_n {n : Fin 4} {i : Nat} {x : Int32} (hd : me.2.1[j]? = some (pc, .istore_n n, 1)) (hi : (n : Nat) = i) (hn : i < me.2.2.1) (kz : List Nat) (hk : lv_pick ((i, Value.int x) :: lv.filter (fun q => !(q.1 == i) && !(q.1 + 1 == i && q.2.category == 2))) kz = lv') (kk : nE' g me B Qf Hi k nc ns (pc + 1) lv' st ws) : nE' g me B Qf Hi k nc ns pc lv (.int x :: st) ws := by
  intro p e s m args below meth c H locs ls C hin hP hz hS hl hB
  exact lv_istore_n C.1 rfl (ndec C hd) hi hl hn rfl (fun ls' hl' => kk p e s m args below meth c H locs ls' C hin hP hz hS (lv_sub hl' kz hk) hB)
theorem n_astore_n {n : Fin 4} {i : Nat} {x : Nat} (hd : me.2.1[j]? = some (pc, .astore_n n, 1)) (hi : (n : Nat) = i) (hn : i < me.2.2.1) (kz : List Nat) (hk : lv_pick ((i, Value.ref x) :: lv.filter (fun q => !(q.1 == i) && !(q.1 + 1 == i && q.2.category == 2))) kz = lv') (kk : nE' g me B Qf Hi k nc ns (pc + 1) lv' st ws) : nE' g me B Qf Hi k nc ns pc lv (.ref x :: st) ws := by
  intro p e s m args below meth c H locs ls C hin hP hz hS hl hB
  exact lv_astore_n C.1 rfl (ndec C hd) hi hl hn rfl (fun ls' hl' => kk p e s m args below meth c H locs ls' C hin hP hz hS (lv_sub hl' kz hk) hB)
theorem n_iinc {i q : Nat} {n : Int} {x v : Int32} (hd : me.2.1[j]? = some (pc, .iinc i n, 3)) (hj : lv[q]? = some (i, .int x)) (hv : x + Int32.ofInt n = v) (hn : i < me.2.2.1) (kz : List Nat) (hk : lv_pick ((i, Value.int v) :: lv.filter (fun q => !(q.1 == i) && !(q.1 + 1 == i && q.2.category == 2))) kz = lv') (kk : nE' g me B Qf Hi k nc ns (pc + 3) lv' st ws) : nE' g me B Qf Hi k nc ns pc lv st ws := by
  intro p e s m args below meth c H locs ls C hin hP hz hS hl hB
  exact lv_iinc C.1 rfl (ndec C hd) hl hj hv hn rfl (fun ls' hl' => kk p e s m args below meth c H locs ls' C hin hP hz hS (lv_sub hl' kz hk) hB)
theorem n_goto {off : Int} {tgt : Nat} (hd : me.2.1[j]? = some (pc, .goto off, 3)) (ht : (pc : Int) + off = (tgt : Int)) (kk : nE' g me B Qf Hi k nc ns tgt lv st ws) : nE' g me B Qf Hi k nc ns pc lv st ws := by
  intro p e s m args below meth c H locs ls C hin hP hz hS hl hB
  exact lv_goto C.1 rfl (ndec C hd) ht (kk p e s m args below meth c H locs ls C hin hP hz hS hl hB)
theorem n_if_eq {x : Int32} {off : Int} {tgt : Nat} (hd : me.2.1[j]? = some (pc, .ifCond .eq off, 3)) (ht : (pc : Int) + off = (tgt : Int)) (kt : x = 0 → nE' g me B Qf Hi k nc ns tgt lv st ws) (kf' : ¬ (x = 0) → nE' g me B Qf Hi k nc ns (pc + 3) lv st ws) : nE' g me B Qf Hi k nc ns pc lv (.int x :: st) ws := by
  intro p e s m args below meth c H locs ls C hin hP hz hS hl hB
  exact lv_if_eq C.1 rfl (ndec C hd) ht (fun z => kt z p e s m args below meth c H locs ls C hin hP hz hS hl hB) (fun z => kf' z p e s m args below meth c H locs ls C hin hP hz hS hl hB)
theorem n_if_ne {x : Int32} {off : Int} {tgt : Nat} (hd : me.2.1[j]? = some (pc, .ifCond .ne off, 3)) (ht : (pc : Int) + off = (tgt : Int)) (kt : ¬ x = 0 → nE' g me B Qf Hi k nc ns tgt lv st ws) (kf' : x = 0 → nE' g me B Qf Hi k nc ns (pc + 3) lv st ws) : nE' g me B Qf Hi k nc ns pc lv (.int x :: st) ws := by
  intro p e s m args below meth c H locs ls C hin hP hz hS hl hB
  exact lv_if_ne C.1 rfl (ndec C hd) ht (fun z => kt z p e s m args below meth c H locs ls C hin hP hz hS hl hB) (fun z => kf' z p e s m args below meth c H locs ls C hin hP hz hS hl hB)
theorem n_icmp_ge {x y : Int32} {off : Int} {tgt : Nat} (hd : me.2.1[j]? = some (pc, .if_icmp .ge off, 3)) (ht : (pc : Int) + off = (tgt : Int)) (kt : y ≤ x → nE' g me B Qf Hi k nc ns tgt lv st ws) (kf' : ¬ (y ≤ x) → nE' g me B Qf Hi k nc ns (pc + 3) lv st ws) : nE' g me B Qf Hi k nc ns pc lv (.int y :: .int x :: st) ws := by
  intro p e s m args below meth c H locs ls C hin hP hz hS hl hB
  exact lv_icmp_ge C.1 rfl (ndec C hd) ht (fun z => kt z p e s m args below meth c H locs ls C hin hP hz hS hl hB) (fun z => kf' z p e s m args below meth c H locs ls C hin hP hz hS hl hB)
theorem nsize {p : Program} {l : Launch} {e : Env} {R : Room} {s : State} {m : MethodId} {args : Array Value} {below : List Frame} {meth : Method} {c : Code} {H : Heap} {locs : List Loc} {cells slots : Nat} {Q : State → Prop} {gf : JFrame} (h : H.size ≤ s.heap.size + cells → W p l e R s m args below meth c H locs cells slots Q gf) : W p l e R s m args below meth c H locs cells slots Q gf := by
  intro T hT X
  have h1 := X.same.2.2.1
  exact h (by rw [← hT]; exact h1) T hT X
/-- the newest cell is there (or none was made) -/
def nLast (k nc : Nat) (ws : nL') : Prop := nc = 0 ∨ ∃ (i : Nat) (x : Nat × va_E), ws[i]? = some x ∧ x.1 < 67 ∧ xoff x.1 + 1 = k
theorem nfull {s : State} {H : Heap} {A : Nat → Prop} {locs : List Loc} (hz : s.heap.size + nc = B + k ∧ nR g B ∧ nOk k ws) (hP : va_P (gD g) xCl (nw g ws) H) (hS : va_S A s.heap H locs) (hl : nLast k nc ws) (hu : H.size ≤ s.heap.size + nc) : H.size = B + k := by
  rcases hl with h | ⟨i, x, h1, h2, h3⟩
  · have := hS.1; omega
  · have h4 := (hP i _ (nw_get (q := x.1) (e := x.2) h1)).lt
    have h5 : gR g x.1 < H.size := h4
    rw [hz.2.1 _ h2] at h5
    omega
theorem nOk_set {i q : Nat} {e0 e : va_E} (h : nOk k ws) (hi : ws[i]? = some (q, e0)) : nOk k (ws.set i (q, e)) := by
  have hm : (ws.set i (q, e)).map (·.1) = ws.map (·.1) := by
    apply List.ext_getElem?
    intro a
    rw [List.getElem?_map, List.getElem?_map, List.getElem?_set]
    by_cases ha : i = a
    · subst ha
      rw [if_pos rfl, if_pos (List.getElem?_eq_some_iff.mp hi).1, hi]; rfl
    · rw [if_neg ha]
  refine ⟨fun x hx => ?_, by rw [hm]; exact h.2⟩
  have hx1 : x.1 ∈ (ws.set i (q, e)).map (·.1) := List.mem_map_of_mem hx
  rw [hm] at hx1
  obtain ⟨y, hy, he⟩ := List.mem_map.mp hx1
  rw [← he]
  exact h.1 y hy
theorem nOk_push {q : Nat} {e : va_E} (h : nOk k ws) (hq : q < 67) (ho : xoff q = k) : nOk (k + 1) ((q, e) :: ws) := by
  refine ⟨fun x hx => ?_, ?_⟩
  · rcases List.mem_cons.mp hx with rfl | hx
    · exact ⟨hq, by show xoff q < k + 1; omega⟩
    · have := h.1 x hx; omega
  · rw [List.map_cons, List.nodup_cons]
    refine ⟨fun hm => ?_, h.2⟩
    obtain ⟨y, hy, he⟩ := List.mem_map.mp hm
    have h1 := (h.1 y hy).2
    have h2 : y.1 = q := he
    rw [h2] at h1
    omega
theorem n_get {q ci f idx i : Nat} {fs : List Value} {v : Value} (hd : me.2.1[j]? = some (pc, .getfield idx, 3)) (hf : xF me.1 idx ci f) (hi : ws[i]? = some (q, .inr (ci, fs))) (hv : fs[f]? = some v) (kk : nE' g me B Qf Hi k nc ns (pc + 3) lv (v :: st) ws) : nE' g me B Qf Hi k nc ns pc lv (.ref (gR g q) :: st) ws := by
  intro p e s m args below meth c H locs ls C hin hP hz hS hl hB
  obtain ⟨⟨C0, T, N⟩, hc, hN, hw⟩ := hf
  obtain ⟨c1, c2, c3, c4, c5, c6, c7, c8, c9⟩ := id C
  exact va_get c1 rfl c7 (xin hc) c5 c8 hP i (nw_get hi) hc f hN (c7 _ hw) (fun x h => h) hv (ndec C hd) (kk p e s m args below meth c H locs ls C hin hP hz hS hl hB)
theorem n_put {q ci f idx i : Nat} {ty : FieldType} {fs : List Value} {v : Value} {ws' : nL'} (hd : me.2.1[j]? = some (pc, .putfield idx, 3)) (hf : xG me.1 idx ci f ty) (hi : ws[i]? = some (q, .inr (ci, fs))) (hn : narrow ty v = v) (hfit : fits ty v = true) (hlen : f < fs.length) (hs : ws.set i (q, .inr (ci, fs.set f v)) = ws') (kk : nE' g me B Qf Hi k nc ns (pc + 3) lv st ws') : nE' g me B Qf Hi k nc ns pc lv (v :: .ref (gR g q) :: st) ws := by
  intro p e s m args below meth c H locs ls C hin hP hz hS hl hB
  obtain ⟨⟨C0, T, N⟩, hc, hN, hw, hfin, hty0⟩ := hf
  obtain ⟨c1, c2, c3, c4, c5, c6, c7, c8, c9⟩ := id C
  obtain ⟨ty0, ht0, hnm⟩ := xtt hc
  refine va_put c1 rfl c7 (xin hc) ty0 ht0 hnm c5 c8 hP (nD hz.2.1 hz.2.2) hS i (nw_get hi) hc f hN (c7 _ hw) (fun x h => h) hfin hty0 hn hfit hlen (ndec C hd) (fun H1 locs1 hP1 hD1 hS1 => ?_)
  rw [nw_set, hs] at hP1
  exact kk p e s m args below meth c H1 locs1 ls C hin hP1 ⟨hz.1, hz.2.1, by rw [← hs]; exact nOk_set hz.2.2 hi⟩ hS1 hl hB
/-- a final field, in its constructor -/
def xGF (own : String) (idx ci f : Nat) (ty : FieldType) : Prop := ∃ r : vw_C, xCl[ci]? = some r ∧ f < r.2.2 ∧ Cond.fieldLink own idx (r.2.1 f).1 (r.2.1 f).2.1 (r.2.1 f).2.2.1 ∈ xtbl ∧ (r.2.1 f).2.2.2 = true ∧ (r.2.1 f).1 = own ∧ parseFieldDescriptor (r.2.1 f).2.2.1 = some ty
theorem n_putF {q ci f idx i : Nat} {ty : FieldType} {fs : List Value} {v : Value} {ws' : nL'} (hiz : ∀ (s : State) (args : Array Value) (meth : Method) (c : Code), Hi s args meth c → meth.name = "<init>") (hd : me.2.1[j]? = some (pc, .putfield idx, 3)) (hf : xGF me.1 idx ci f ty) (hi : ws[i]? = some (q, .inr (ci, fs))) (hn : narrow ty v = v) (hfit : fits ty v = true) (hlen : f < fs.length) (hs : ws.set i (q, .inr (ci, fs.set f v)) = ws') (kk : nE' g me B Qf Hi k nc ns (pc + 3) lv st ws') : nE' g me B Qf Hi k nc ns pc lv (v :: .ref (gR g q) :: st) ws := by
  intro p e s m args below meth c H locs ls C hin hP hz hS hl hB
  obtain ⟨⟨C0, T, N⟩, hc, hN, hw, hfin, hown, hty0⟩ := hf
  obtain ⟨c1, c2, c3, c4, c5, c6, c7, c8, c9⟩ := id C
  obtain ⟨ty0, ht0, hnm⟩ := xtt hc
  refine va_putF c1 rfl c7 (xin hc) ty0 ht0 hnm c5 c8 hP (nD hz.2.1 hz.2.2) hS i (nw_get hi) hc f hN (c7 _ hw) (fun x h => h) hfin (hiz s args meth c hin) hown hty0 hn hfit hlen (ndec C hd) (fun H1 locs1 hP1 hD1 hS1 => ?_)
  rw [nw_set, hs] at hP1
  exact kk p e s m args below meth c H1 locs1 ls C hin hP1 ⟨hz.1, hz.2.1, by rw [← hs]; exact nOk_set hz.2.2 hi⟩ hS1 hl hB
theorem n_new {q ci idx N : Nat} {C0 : String} {T : u_T} {fs : List Value} (ty : Nat → FieldType) (hty : ∀ k, k < N → parseFieldDescriptor (T k).2.2.1 = some (ty k)) (hd : me.2.1[j]? = some (pc, .new idx, 3)) (hc : xCl[ci]? = some (C0, T, N)) (h1 : Cond.classLink me.1 idx C0 ∈ xtbl) (h2 : Cond.instantiable C0 N ∈ xtbl) (h3 : Cond.initialized C0 ∈ xtbl) (hfs : ∀ i, i < N → defaultValue (ty i) = vp_V fs i) (hq : q < 67) (ho : xoff q = k) (hla : nLast k nc ws) (r1 : nc + 1 ≤ me.2.2.2.2.1.cells) (r2 : ns + N ≤ me.2.2.2.2.1.slots)
    (kk : nE' g me B Qf Hi (k + 1) (nc + 1) (ns + N) (pc + 3) lv (.ref (gR g q) :: st) ((q, .inr (ci, fs)) :: ws)) : nE' g me B Qf Hi k nc ns pc lv st ws := by
  intro p e s m args below meth c H locs ls C hin hP hz hS hl hB
  obtain ⟨c1, c2, c3, c4, c5, c6, c7, c8, c9⟩ := id C
  refine nsize fun hu => ?_
  have hH := nfull hz hP hS hla hu
  have hKn := c8.1 ci _ hc
  refine W.newcK c1 rfl c5 (c7 _ h1) (c7 _ h2) (c7 _ h3) rfl (ndec C hd) r1 r2 hKn.2.1 hH fun H1 kC hkC e1 z1 o1 => ?_
  have hgq : gR g q = B + k := by rw [hz.2.1 q hq, ho]
  rw [← hgq] at e1 z1 o1 ⊢
  refine kk p e s m args below meth c H1 locs ls C hin (fun i x hx => ?_) ⟨by omega, hz.2.1, nOk_push hz.2.2 hq ho⟩ ⟨Nat.le_trans hS.1 (by omega), fun x a1 a2 => (o1 x (by have := hS.1; omega)).trans (hS.2.1 x a1 a2), hS.2.2⟩ hl hB
  cases i with
  | zero =>
    cases hx
    exact ⟨_, hc, (u_born ty c7 (xin hc) hKn hkC e1 hty).to hfs⟩
  | succ i =>
    have hx' : (nw g ws)[i]? = some x := hx
    have h5 := (hP i x hx').lt
    exact (hP i x hx').kept (o1 x.1 (by omega))
end NR
