/-! making arrays; constructors called; their contracts -/
theorem nRA {U : State} {cA : ClassId} {ty : FieldType} (h : va_RA U cA ty) (hp : ∀ C, ty ≠ .object C) : U.vm.findClass ("[" ++ ty.toString) = some cA := by
  cases ty with
  | object C => exact absurd rfl (hp C)
  | _ => exact h
def nPc (g : Gb) (B : Nat) (av : List Value) (k0 : Nat) (w0 : nL') : Array Value → State → Prop := fun a U => a = av.toArray ∧ va_P (gD g) xCl (nw g w0) U.heap ∧ va_K (gD g) xCl (xt g) U ∧ nX B U ∧ U.heap.size = B + k0
def nRoom (d mc ms : Nat) : Room := { frames := d, cells := mc, slots := ms, locals := 40 * d }
section NS
variable {g : Gb} {me : Me} {Qf : nF} {Hi : State → Array Value → Method → Code → Prop} {iz : Prop × Option Value} {B kf mc ms k nc ns pc j : Nat} {wf ws : nL'} {lv lv' : List (Nat × Value)} {st : List Value}
theorem n_newa {q t N : Nat} {atype : ArrayType} {ty : FieldType} {n : Int32} {a0 : vp_A} (hd : me.2.1[j]? = some (pc, .newarray atype, 2)) (hty : newarray.typeOf atype = ty) (hp : ∀ C, ty ≠ .object C) (ht : (xt g)[t]? = some (gA g t, ty)) (harr : Cond.arrayClass (newarray.typeOf atype) ∈ xtbl) (ha : ∀ cA : ClassId, vp_cell cA a0 = arrV cA N (fun _ => defaultValue ty)) (hn : ¬ n < 0) (hN : n.toNatClampNeg = N) (hbytes : N * componentBytes ty ≤ 536870912)
    (hq : q < 67) (ho : xoff q = k) (hla : nLast k nc ws) (r1 : nc + 1 ≤ me.2.2.2.2.1.cells) (r2 : ns + N ≤ me.2.2.2.2.1.slots)
    (kk : nE' g me B Qf Hi (k + 1) (nc + 1) (ns + N) (pc + 2) lv (.ref (gR g q) :: st) ((q, .inl (gA g t, a0)) :: ws)) : nE' g me B Qf Hi k nc ns pc lv (.int n :: st) ws := by
  intro p e s m args below meth c H locs ls C hin hP hz hS hl hB
  obtain ⟨c1, c2, c3, c4, c5, c6, c7, c8, c9⟩ := id C
  refine nsize fun hu => ?_
  have hH := nfull hz hP hS hla hu
  subst hty
  refine va_newaK c1 rfl (c7 _ harr) rfl (ndec C hd) rfl hn hN hbytes r1 r2 hH fun H1 cA e1 z1 o1 hAr hNm => ?_
  have hgq : gR g q = B + k := by rw [hz.2.1 q hq, ho]
  rw [← hgq] at e1 z1 o1 ⊢
  have hcA : gA g t = cA := Option.some.inj ((nRA (c8.2 t _ ht).2 hp).symm.trans hNm)
  refine kk p e s m args below meth c H1 locs ls C hin (fun i x hx => ?_) ⟨by omega, hz.2.1, nOk_push hz.2.2 hq ho⟩ ⟨Nat.le_trans hS.1 (by omega), fun x a1 a2 => (o1 x (by have := hS.1; omega)).trans (hS.2.1 x a1 a2), hS.2.2⟩ hl hB
  cases i with
  | zero =>
    cases hx
    show H1[gR g q]? = some (vp_cell (gA g t) a0)
    rw [ha, hcA]
    exact e1
  | succ i =>
    have hx' : (nw g ws)[i]? = some x := hx
    have h5 := (hP i x hx').lt
    exact (hP i x hx').kept (o1 x.1 (by omega))
theorem n_anew {q idx N : Nat} {n : Int32} (hd : me.2.1[j]? = some (pc, .anewarray idx, 3)) (h1 : Cond.classLink me.1 idx "AbcForms$Voice" ∈ xtbl) (hn : ¬ n < 0) (hN : n.toNatClampNeg = N) (hbytes : N * 4 ≤ 536870912)
    (hq : q < 67) (ho : xoff q = k) (hla : nLast k nc ws) (r1 : nc + 1 ≤ me.2.2.2.2.1.cells) (r2 : ns + N ≤ me.2.2.2.2.1.slots)
    (kk : nE' g me B Qf Hi (k + 1) (nc + 1) (ns + N) (pc + 3) lv (.ref (gR g q) :: st) ((q, .inl (gA g 4, N, .inr (.inr (.inr (.inr (fun _ => none)))))) :: ws)) : nE' g me B Qf Hi k nc ns pc lv (.int n :: st) ws := by
  intro p e s m args below meth c H locs ls C hin hP hz hS hl hB
  obtain ⟨c1, c2, c3, c4, c5, c6, c7, c8, c9⟩ := id C
  refine nsize fun hu => ?_
  have hH := nfull hz hP hS hla hu
  subst hN
  refine W.anew c1 rfl c5 (c7 _ h1) (va_AO.use c9.1) rfl (ndec C hd) rfl hn hbytes r1 r2 fun cA kA comp f1 f2 f3 f4 => ?_
  have hgq : gR g q = H.size := by rw [hz.2.1 q hq, ho, hH]
  have hcA : gA g 4 = cA := by
    obtain ⟨kB, cB, b1, b2, b3, b4⟩ := (c8.2 4 _ (xt_v g)).2
    exact Option.some.inj (b4.symm.trans f1)
  generalize hH1 : H.push ({ cls := cA, slots := Array.replicate n.toNatClampNeg .null, vm := .none } : Cell) = H1
  have z1 : H1.size = H.size + 1 := by rw [← hH1, Array.size_push]
  have e1 : H1[H.size]? = some (arrV cA n.toNatClampNeg (fun _ => .null)) := by rw [← hH1, Array.getElem?_push_size, ← arrV_new]
  have o1 : ∀ x, x < H.size → H1[x]? = H[x]? := fun x hx => by rw [← hH1, Array.getElem?_push, if_neg (by omega)]
  rw [← hgq] at e1 z1 o1 ⊢
  refine kk p e s m args below meth c H1 locs ls C hin (fun i x hx => ?_) ⟨by omega, hz.2.1, nOk_push hz.2.2 hq ho⟩ ⟨Nat.le_trans hS.1 (by omega), fun x a1 a2 => (o1 x (by have := hS.1; omega)).trans (hS.2.1 x a1 a2), hS.2.2⟩ hl hB
  cases i with
  | zero =>
    cases hx
    show H1[gR g q]? = some (vp_cell (gA g 4) _)
    rw [hcA, e1]
    rfl
  | succ i =>
    have hx' : (nw g ws)[i]? = some x := hx
    have h5 := (hP i x hx').lt
    exact (hP i x hx').kept (o1 x.1 (by omega))
theorem n_aast {q v ia iv N : Nat} {vs : List Value} {i : Int32} {f f' : Nat → Option Nat} {ws' : nL'} (hd : me.2.1[j]? = some (pc, .aastore, 1)) (ha : ws[ia]? = some (q, .inl (gA g 4, N, .inr (.inr (.inr (.inr f)))))) (hv : ws[iv]? = some (v, .inr (7, vs))) (hi : vp_in i N) (hf : va_up f i.toNatClampNeg (some (gR g v)) = f') (hs : ws.set ia (q, .inl (gA g 4, N, .inr (.inr (.inr (.inr f'))))) = ws')
    (kk : nE' g me B Qf Hi k nc ns (pc + 1) lv st ws') : nE' g me B Qf Hi k nc ns pc lv (.ref (gR g v) :: .int i :: .ref (gR g q) :: st) ws := by
  intro p e s m args below meth c H locs ls C hin hP hz hS hl hB
  obtain ⟨c1, c2, c3, c4, c5, c6, c7, c8, c9⟩ := id C
  refine va_astq c1 rfl c8 hP (nD hz.2.1 hz.2.2) hS ia 4 iv 7 (r := (RX8, TX8, 14)) (nw_get ha) (xt_v g) (nw_get hv) rfl hi (ndec C hd) (fun H1 locs1 hP1 hD1 hS1 => ?_)
  rw [nw_set, hf, hs] at hP1
  exact kk p e s m args below meth c H1 locs1 ls C hin hP1 ⟨hz.1, hz.2.1, by rw [← hs]; exact nOk_set hz.2.2 ha⟩ hS1 hl hB
theorem n_objInit {idx a : Nat} (hd : me.2.1[j]? = some (pc, .invokespecial idx, 3)) (h1 : Cond.methodLink me.1 idx Lib.objectInit ∈ xtbl) (h2 : Cond.instanceMethod Lib.objectInit ∈ xtbl) (h3 : Cond.code Lib.objectInit ⟨#[0xb1]⟩ 1 none ∈ xtbl) (r1 : 1 ≤ me.2.2.2.2.1.frames) (r2 : (st.map fun v => v.category).sum + 12 ≤ me.2.2.2.2.1.locals) (kk : nE' g me B Qf Hi k nc ns (pc + 3) lv st ws) : nE' g me B Qf Hi k nc ns pc lv (.ref a :: st) ws := by
  intro p e s m args below meth c H locs ls C hin hP hz hS hl hB
  obtain ⟨c1, c2, c3, c4, c5, c6, c7, c8, c9⟩ := id C
  refine W.objInit c1 rfl c5 (c7 _ h1) (c7 _ h2) (c7 _ h3) rfl (hl.1.trans c3.symm) rfl (ndec C hd) r1 (by show 2 * 0 + _ + 12 ≤ _; omega) ?_
  exact kk p e s m args below meth c H locs ls C hin hP hz hS hl hB
theorem n_vret (hd : me.2.1[j]? = some (pc, .return_, 1)) (hr : me.2.2.2.1 = none) (hi : iz.2 = none) (hc : nc = mc) (hs : ns = ms) (hw : ws = wf) : nE g me B kf wf iz mc ms k nc ns pc lv [] ws := by
  intro p e s m args below meth c H locs ls C hin hP hz hS hl hB
  obtain ⟨c1, c2, c3, c4, c5, c6, c7, c8, c9⟩ := id C
  subst hc; subst hs; subst hw
  exact W.vret c1 rfl (c4.trans hr) (fun t ht _ => ⟨by rw [hi], by rw [ht]; exact hP, hS.F ht⟩) hS.2.2 (ndec C hd) c6
theorem nbody {y : MethodName} {cc : ByteArray} {nL n d : Nat} {il : List (Nat × Instr × Nat)} {av : List Value} (hR : nR g B) (hok : nOk k ws) (hil : ∀ x ∈ il, decode cc x.1 = .ok x.2) (hy : xM y cc nL none n) (hin : y.name = "<init>") (hlen : (lg_sl av).length ≤ nL)
    (kk : nE g (y.cls, il, nL, none, nRoom d mc ms, []) B kf wf (True, none) mc ms k 0 0 0 (lv_args 0 av) [] ws) : Met (gL g) y (xws y cc nL none) (nRoom d mc ms) (nPc g B av k ws) (nQ g B kf wf none) mc ms (nA B) := by
  refine Met.ofW (cc := cc) (maxL := nL) (ret := none) hy.2.2.2.2 rfl ?_
  intro p e s m args below meth c s₁ Bd hml hv
  obtain ⟨rfl, hP, hK, hO, hsz⟩ := hv
  have hts := atoms_spec (ws := xws y cc nL none) Bd.pre
  have hl := lv_entry av (n := nL) hlen
  rw [lg_entry_eq]
  exact kk p e s m _ below meth c s.heap [] _ ⟨Bd.exec, fun x h => by rw [Bd.bytes]; exact hil x h, hml, Bd.returns, findClass_of_methodNamed Bd.named, Bd.notSynchronized, fun w h => hts w (List.mem_cons_of_mem _ h), hK, hO⟩ (fun _ => (name_of_methodNamed Bd.named Bd.method).1.trans hin) hP ⟨by omega, hR, hok⟩ va_S.rf hl (by omega)
theorem n_callI {y : MethodName} {cc : ByteArray} {nL n idx q : Nat} {rm : Room} {As rest st0 : List Value} {mc1 ms1 k1 : Nat} {w1 : nL'} (hd : me.2.1[j]? = some (pc, .invokespecial idx, 3)) (hM : nR g B → nOk k ws → Met (gL g) y (xws y cc nL none) rm (nPc g B (.ref (gR g q) :: As) k ws) (nQ g B k1 w1 none) mc1 ms1 (nA B)) (hy : xM y cc nL none n) (hi : Cond.instanceMethod y ∈ xtbl) (hnm : y.name = "<init>") (hl : Cond.methodLink me.1 idx y ∈ xtbl) (hn : As.length = n) (hst : st0 = As.reverse ++ .ref (gR g q) :: rest) (hsum : (rest.map fun v => v.category).sum ≤ 8)
    (hrc : rm.cells = mc1) (hrs : rm.slots = ms1) (hrm : rm.frames + 1 ≤ me.2.2.2.2.1.frames ∧ 8 + (nL + 11) + rm.locals ≤ me.2.2.2.2.1.locals) (hla : nLast k nc ws) (r1 : nc + mc1 ≤ me.2.2.2.2.1.cells) (r2 : ns + ms1 ≤ me.2.2.2.2.1.slots) (hk1 : k1 = k + mc1) (hok : nOk k ws → nOk k1 w1)
    (kk : nE' g me B Qf Hi k1 (nc + mc1) (ns + ms1) (pc + 3) lv rest w1) : nE' g me B Qf Hi k nc ns pc lv st0 ws := by
  intro p e s m args below meth c H locs ls C hin hP hz hS hl0 hB
  obtain ⟨c1, c2, c3, c4, c5, c6, c7, c8, c9⟩ := id C
  refine nsize fun hu => ?_
  have hH := nfull hz hP hS hla hu
  have hG : GoodIn xtbl (xws y cc nL none) := fun w h => by
    rcases List.mem_cons.mp h with rfl | h
    · exact ⟨hy.1, good_of_word (xgood hy.1)⟩
    · exact ⟨h, good_of_word (xgood h)⟩
  have hr := va_runI (p := p) (l := gL g) (e := e) (R := me.2.2.2.2.1) (s := s) (m := m) (args := args) (below := below) (meth := meth) (c := c) (H := H) (locs := locs) (cells := nc) (slots := ns) (As := As) (rest := rest) (g := F0 m pc ls st0) ⟨c1, rfl, c3, c5, c7⟩ (hM hz.2.1 hz.2.2) (cwI n c7 hG rfl hrc hrs (c7 _ hy.2.1) (c7 _ hl) (c7 _ hi) hnm ⟨hy.2.2.1.1, hy.2.2.1.2, hy.2.2.2.1⟩ hrm)
    ⟨fun a U g' mk z => z, fun U hU hW => ⟨rfl, by rw [hU]; exact hP, va_K.moved hW.alike c8, c9.to hW (by rw [hU]; exact hS.2.1), by rw [hU]; exact hH⟩⟩ rfl hn hl0.1 hst (lv_room hsum) (ndec C hd) ⟨r1, r2⟩
  intro T hT X
  obtain ⟨v, st1, t, T', L, h0, X', hL, e1, e2, ⟨ho, hP1, hF⟩, hst1⟩ := hr T hT X
  cases ho
  have hS1 : va_S (nA B) s.heap T'.heap (locs ++ L) := by
    rw [e1]
    refine ⟨Nat.le_trans hS.1 (by rw [← h0]; exact hF.1), fun x a b => ?_, fun x hx => ?_⟩
    · rw [hF.2 x (by rw [h0]; exact Nat.lt_of_lt_of_le a hS.1) b, h0]; exact hS.2.1 x a b
    · rcases List.mem_append.mp hx with h | h
      · exact hS.2.2 x h
      · exact hL x h
  obtain ⟨t2, a1, b1⟩ := kk p e s m args below meth c T'.heap (locs ++ L) ls C hin (by rw [e1]; exact hP1) ⟨by omega, hz.2.1, hok hz.2.2⟩ hS1 hl0 hB T' rfl X'
  exact ⟨t2, hst1 t2 a1, b1⟩
theorem nOk_nm {ws' : nL'} (h : ws.map (·.1) = ws'.map (·.1)) (ho : nOk k ws) : nOk k ws' := by
  refine ⟨fun x hx => ?_, by rw [← h]; exact ho.2⟩
  have hx1 : x.1 ∈ ws'.map (·.1) := List.mem_map_of_mem hx
  rw [← h] at hx1
  obtain ⟨y, hy, he⟩ := List.mem_map.mp hx1
  rw [← he]
  exact ho.1 y hy
theorem n_icmp_lt {x y : Int32} {off : Int} {tgt : Nat} (hd : me.2.1[j]? = some (pc, .if_icmp .lt off, 3)) (ht : (pc : Int) + off = (tgt : Int)) (kt : x < y → nE' g me B Qf Hi k nc ns tgt lv st ws) (kf' : ¬ (x < y) → nE' g me B Qf Hi k nc ns (pc + 3) lv st ws) : nE' g me B Qf Hi k nc ns pc lv (.int y :: .int x :: st) ws := by
  intro p e s m args below meth c H locs ls C hin hP hz hS hl hB
  exact lv_icmp_lt C.1 rfl (ndec C hd) ht (fun z => kt z p e s m args below meth c H locs ls C hin hP hz hS hl hB) (fun z => kf' z p e s m args below meth c H locs ls C hin hP hz hS hl hB)
theorem n_icmp_gt {x y : Int32} {off : Int} {tgt : Nat} (hd : me.2.1[j]? = some (pc, .if_icmp .gt off, 3)) (ht : (pc : Int) + off = (tgt : Int)) (kt : y < x → nE' g me B Qf Hi k nc ns tgt lv st ws) (kf' : ¬ (y < x) → nE' g me B Qf Hi k nc ns (pc + 3) lv st ws) : nE' g me B Qf Hi k nc ns pc lv (.int y :: .int x :: st) ws := by
  intro p e s m args below meth c H locs ls C hin hP hz hS hl hB
  exact lv_icmp_gt C.1 rfl (ndec C hd) ht (fun z => kt z p e s m args below meth c H locs ls C hin hP hz hS hl hB) (fun z => kf' z p e s m args below meth c H locs ls C hin hP hz hS hl hB)
theorem n_isub {x y : Int32} (hd : me.2.1[j]? = some (pc, .isub, 1)) (kk : nE' g me B Qf Hi k nc ns (pc + 1) lv (.int (x - y) :: st) ws) : nE' g me B Qf Hi k nc ns pc lv (.int y :: .int x :: st) ws := by
  intro p e s m args below meth c H locs ls C hin hP hz hS hl hB
  exact lv_isub C.1 rfl (ndec C hd) (kk p e s m args below meth c H locs ls C hin hP hz hS hl hB)
theorem n_aald {q a ia N : Nat} {i : Int32} {f : Nat → Option Nat} (hd : me.2.1[j]? = some (pc, .aaload, 1)) (ha : ws[ia]? = some (q, .inl (gA g 4, N, .inr (.inr (.inr (.inr f)))))) (hi : vp_in i N) (hf : f i.toNatClampNeg = some a) (kk : nE' g me B Qf Hi k nc ns (pc + 1) lv (.ref a :: st) ws) : nE' g me B Qf Hi k nc ns pc lv (.int i :: .ref (gR g q) :: st) ws := by
  intro p e s m args below meth c H locs ls C hin hP hz hS hl hB
  obtain ⟨c1, c2, c3, c4, c5, c6, c7, c8, c9⟩ := id C
  refine va_aldq c1 rfl c8 hP ia 4 (nw_get ha) (xt_v g) hi (ndec C hd) ?_
  rw [hf]
  exact kk p e s m args below meth c H locs ls C hin hP hz hS hl hB
theorem n_aret {a : Nat} {C0 : String} (hd : me.2.1[j]? = some (pc, .areturn, 1)) (hr : me.2.2.2.1 = some (.object C0)) (hi : iz.2 = some (.ref a)) (hc : nc = mc) (hs : ns = ms) (hw : ws = wf) : nE g me B kf wf iz mc ms k nc ns pc lv [.ref a] ws := by
  intro p e s m args below meth c H locs ls C hin hP hz hS hl hB
  obtain ⟨c1, c2, c3, c4, c5, c6, c7, c8, c9⟩ := id C
  subst hc; subst hs; subst hw
  exact W.aret c1 rfl (c4.trans hr) (Or.inl ⟨_, rfl⟩) (Or.inr ⟨_, rfl⟩) (fun t ht _ => ⟨by rw [hi], by rw [ht]; exact hP, hS.F ht⟩) hS.2.2 (ndec C hd) c6
theorem nbodyV {y : MethodName} {cc : ByteArray} {nL n d : Nat} {ret : Option FieldType} {oc : Option Value} {il : List (Nat × Instr × Nat)} {av : List Value} (hR : nR g B) (hok : nOk k ws) (hil : ∀ x ∈ il, decode cc x.1 = .ok x.2) (hy : xM y cc nL ret n) (hlen : (lg_sl av).length ≤ nL)
    (kk : nE g (y.cls, il, nL, ret, nRoom d mc ms, []) B kf wf (False, oc) mc ms k 0 0 0 (lv_args 0 av) [] ws) : Met (gL g) y (xws y cc nL ret) (nRoom d mc ms) (nPc g B av k ws) (nQ g B kf wf oc) mc ms (nA B) := by
  refine Met.ofW (cc := cc) (maxL := nL) (ret := ret) hy.2.2.2.2 rfl ?_
  intro p e s m args below meth c s₁ Bd hml hv
  obtain ⟨rfl, hP, hK, hO, hsz⟩ := hv
  have hts := atoms_spec (ws := xws y cc nL ret) Bd.pre
  have hl := lv_entry av (n := nL) hlen
  rw [lg_entry_eq]
  exact kk p e s m _ below meth c s.heap [] _ ⟨Bd.exec, fun x h => by rw [Bd.bytes]; exact hil x h, hml, Bd.returns, findClass_of_methodNamed Bd.named, Bd.notSynchronized, fun w h => hts w (List.mem_cons_of_mem _ h), hK, hO⟩ (fun z => z.elim) hP ⟨by omega, hR, hok⟩ va_S.rf hl (by omega)
theorem n_callV {y : MethodName} {cc : ByteArray} {nL n idx q ci i : Nat} {ret : Option FieldType} {rm : Room} {As rest st0 fs : List Value} {v : Value} (hd : me.2.1[j]? = some (pc, .invokevirtual idx, 3)) (hM : nR g B → nOk k ws → Met (gL g) y (xws y cc nL ret) rm (nPc g B (.ref (gR g q) :: As) k ws) (nQ g B k ws (some v)) 0 0 (nA B)) (hy : xM y cc nL ret n) (hI : xI y) (hl : Cond.methodLink me.1 idx y ∈ xtbl) (hi : ws[i]? = some (q, .inr (ci, fs))) (hc : ∃ r, xCl[ci]? = some r ∧ r.1 = y.cls) (hn : As.length = n) (hst : st0 = As.reverse ++ .ref (gR g q) :: rest) (hsum : (rest.map fun v => v.category).sum ≤ 8)
    (hrc : rm.cells = 0) (hrs : rm.slots = 0) (hrm : rm.frames + 1 ≤ me.2.2.2.2.1.frames ∧ 8 + (nL + 11) + rm.locals ≤ me.2.2.2.2.1.locals) (hla : nLast k nc ws) (r1 : nc ≤ me.2.2.2.2.1.cells) (r2 : ns ≤ me.2.2.2.2.1.slots)
    (kk : nE' g me B Qf Hi k nc ns (pc + 3) lv (v :: rest) ws) : nE' g me B Qf Hi k nc ns pc lv st0 ws := by
  intro p e s m args below meth c H locs ls C hin hP hz hS hl0 hB
  obtain ⟨c1, c2, c3, c4, c5, c6, c7, c8, c9⟩ := id C
  refine nsize fun hu => ?_
  have hH := nfull hz hP hS hla hu
  have hG : GoodIn xtbl (xws y cc nL ret) := fun w h => by
    rcases List.mem_cons.mp h with rfl | h
    · exact ⟨hy.1, good_of_word (xgood hy.1)⟩
    · exact ⟨h, good_of_word (xgood h)⟩
  obtain ⟨r, hc1, hc2⟩ := hc
  have hrv := va_recv c8 hP (q0 := i) hc1 (nw_get hi)
  rw [hc2] at hrv
  have hr := va_runV (p := p) (l := gL g) (e := e) (R := me.2.2.2.2.1) (s := s) (m := m) (args := args) (below := below) (meth := meth) (c := c) (H := H) (locs := locs) (cells := nc) (slots := ns) (C := y.cls) (As := As) (rest := rest) (g := F0 m pc ls st0) ⟨c1, rfl, c3, c5, c7⟩ (hM hz.2.1 hz.2.2) ⟨callB_of n c7 hG rfl hrc hrs (c7 _ hy.2.1) (c7 _ hl) ⟨hy.2.2.1.1, hy.2.2.1.2, hy.2.2.2.1⟩ hrm, c7 _ hI.1, c7 _ hI.2⟩
    ⟨fun a U g' mk z => z, hrv, fun U hU hW => ⟨rfl, by rw [hU]; exact hP, va_K.moved hW.alike c8, c9.to hW (by rw [hU]; exact hS.2.1), by rw [hU]; exact hH⟩⟩ rfl hn hl0.1 hst (lv_room hsum) (ndec C hd) ⟨r1, r2⟩
  intro T hT X
  obtain ⟨v1, st1, t, T', L, h0, X', hL, e1, e2, ⟨ho, hP1, hF⟩, hst1⟩ := hr T hT X
  cases ho
  have hS1 : va_S (nA B) s.heap T'.heap (locs ++ L) := by
    rw [e1]
    refine ⟨Nat.le_trans hS.1 (by rw [← h0]; exact hF.1), fun x a b => ?_, fun x hx => ?_⟩
    · rw [hF.2 x (by rw [h0]; exact Nat.lt_of_lt_of_le a hS.1) b, h0]; exact hS.2.1 x a b
    · rcases List.mem_append.mp hx with h | h
      · exact hS.2.2 x h
      · exact hL x h
  obtain ⟨t2, a1, b1⟩ := kk p e s m args below meth c T'.heap (locs ++ L) ls C hin (by rw [e1]; exact hP1) hz hS1 hl0 hB T' rfl X'
  exact ⟨t2, hst1 t2 a1, b1⟩
theorem n_mmax {x y : Int32} {idx : Nat} (hd : me.2.1[j]? = some (pc, .invokestatic idx, 3)) (hl : Cond.methodLink me.1 idx Lib.Math.max.name ∈ xtbl) (h1 : Cond.static Lib.Math.max.name ∈ xtbl) (h2 : Cond.initialized "java/lang/Math" ∈ xtbl) (h3 : Cond.code Lib.Math.max.name Lib.Math.max.code 2 (some .int) ∈ xtbl) (hf : 1 ≤ me.2.2.2.2.1.frames) (ho : (st.map fun v => v.category).sum + 13 ≤ me.2.2.2.2.1.locals) (r1 : nc ≤ me.2.2.2.2.1.cells) (r2 : ns ≤ me.2.2.2.2.1.slots) (kk : nE' g me B Qf Hi k nc ns (pc + 3) lv (.int (if x < y then y else x) :: st) ws) : nE' g me B Qf Hi k nc ns pc lv (.int y :: .int x :: st) ws := by
  intro p e s m args below meth c H locs ls C hin hP hz hS hl0 hB
  obtain ⟨c1, c2, c3, c4, c5, c6, c7, c8, c9⟩ := id C
  exact va_mmax c1 rfl (c3.trans hl0.1.symm) c5 (c7 _ hl) (c7 _ h1) (c7 _ h2) (c7 _ h3) hf ho r1 r2 (ndec C hd) (kk p e s m args below meth c H locs ls C hin hP hz hS hl0 hB)
theorem n_mmin {x y : Int32} {idx : Nat} (hd : me.2.1[j]? = some (pc, .invokestatic idx, 3)) (hl : Cond.methodLink me.1 idx Lib.Math.min.name ∈ xtbl) (h1 : Cond.static Lib.Math.min.name ∈ xtbl) (h2 : Cond.initialized "java/lang/Math" ∈ xtbl) (h3 : Cond.code Lib.Math.min.name Lib.Math.min.code 2 (some .int) ∈ xtbl) (hf : 1 ≤ me.2.2.2.2.1.frames) (ho : (st.map fun v => v.category).sum + 13 ≤ me.2.2.2.2.1.locals) (r1 : nc ≤ me.2.2.2.2.1.cells) (r2 : ns ≤ me.2.2.2.2.1.slots) (kk : nE' g me B Qf Hi k nc ns (pc + 3) lv (.int (if y < x then y else x) :: st) ws) : nE' g me B Qf Hi k nc ns pc lv (.int y :: .int x :: st) ws := by
  intro p e s m args below meth c H locs ls C hin hP hz hS hl0 hB
  obtain ⟨c1, c2, c3, c4, c5, c6, c7, c8, c9⟩ := id C
  exact va_mmin c1 rfl (c3.trans hl0.1.symm) c5 (c7 _ hl) (c7 _ h1) (c7 _ h2) (c7 _ h3) hf ho r1 r2 (ndec C hd) (kk p e s m args below meth c H locs ls C hin hP hz hS hl0 hB)
end NS
