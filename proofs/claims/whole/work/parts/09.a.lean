/-! rows of arrays, constants, ends -/
theorem xt_i (g : Gb) : (xt g)[0]? = some (gA g 0, .int) := rfl
theorem xt_b (g : Gb) : (xt g)[1]? = some (gA g 1, .byte) := rfl
theorem xt_z (g : Gb) : (xt g)[2]? = some (gA g 2, .boolean) := rfl
theorem xt_j (g : Gb) : (xt g)[3]? = some (gA g 3, .long) := rfl
theorem xt_v (g : Gb) : (xt g)[4]? = some (gA g 4, .object "AbcForms$Voice") := rfl
abbrev ix (i : Int32) : Nat := i.toNatClampNeg
section XB
variable {g : Gb} {me : Me} {Po : Outcome → Mm → Prop} {pc k : Nat} {lv lv' : List (Nat × Value)} {st : List Value} {σ : Mm}
theorem e_iald {q n : Nat} {i : Int32} (hd : me.2.1[k]? = some (pc, .iaload, 1)) (hq : xlay q = (1, 0, n)) (hi : vp_in i n) (kk : xE g me Po (pc + 1) lv (.int (σ.1 q (ix i)) :: st) σ) : xE g me Po pc lv (.int i :: .ref (gR g q) :: st) σ := by
  intro p e s m args below meth c H locs ls C hP hS hl
  exact va_iald C.1 rfl C.2.2.2.2.2.2.2.1 hP.1 q 0 (by rw [xw_get (xlay_lt (by simp [hq])), xent_i hq (by decide)]) (xt_i g) hi (xdec C hd) (kk p e s m args below meth c H locs ls C hP hS hl)
theorem e_bald {q n : Nat} {i : Int32} (hd : me.2.1[k]? = some (pc, .baload, 1)) (hq : xlay q = (1, 1, n)) (hi : vp_in i n) (kk : xE g me Po (pc + 1) lv (.int (σ.1 q (ix i)) :: st) σ) : xE g me Po pc lv (.int i :: .ref (gR g q) :: st) σ := by
  intro p e s m args below meth c H locs ls C hP hS hl
  exact va_bald C.1 rfl C.2.2.2.2.2.2.2.1 hP.1 q 1 (by rw [xw_get (xlay_lt (by simp [hq])), xent_i hq (by decide)]) (xt_b g) hi (xdec C hd) (kk p e s m args below meth c H locs ls C hP hS hl)
theorem e_zald {q n : Nat} {i : Int32} (hd : me.2.1[k]? = some (pc, .baload, 1)) (hq : xlay q = (1, 2, n)) (hi : vp_in i n) (kk : xE g me Po (pc + 1) lv (.int (σ.1 q (ix i)) :: st) σ) : xE g me Po pc lv (.int i :: .ref (gR g q) :: st) σ := by
  intro p e s m args below meth c H locs ls C hP hS hl
  exact va_zald C.1 rfl C.2.2.2.2.2.2.2.1 hP.1 q 2 (by rw [xw_get (xlay_lt (by simp [hq])), xent_i hq (by decide)]) (xt_z g) hi (xdec C hd) (kk p e s m args below meth c H locs ls C hP hS hl)
theorem e_lald {q n : Nat} {i : Int32} (hd : me.2.1[k]? = some (pc, .laload, 1)) (hq : xlay q = (1, 3, n)) (hi : vp_in i n) (kk : xE g me Po (pc + 1) lv (.long (σ.2.1 q (ix i)) :: st) σ) : xE g me Po pc lv (.int i :: .ref (gR g q) :: st) σ := by
  intro p e s m args below meth c H locs ls C hP hS hl
  exact va_lald C.1 rfl C.2.2.2.2.2.2.2.1 hP.1 q 3 (by rw [xw_get (xlay_lt (by simp [hq])), xent_j hq]) (xt_j g) hi (xdec C hd) (kk p e s m args below meth c H locs ls C hP hS hl)
theorem e_aald {q b n : Nat} {i : Int32} (hd : me.2.1[k]? = some (pc, .aaload, 1)) (hq : xlay q = (2, b, n)) (hi : vp_in i n) (kk : xE g me Po (pc + 1) lv (.ref (gR g (b + ix i)) :: st) σ) : xE g me Po pc lv (.int i :: .ref (gR g q) :: st) σ := by
  intro p e s m args below meth c H locs ls C hP hS hl
  exact va_aldq (f := fun j => some (gR g (b + j))) C.1 rfl C.2.2.2.2.2.2.2.1 hP.1 q 4 (by rw [xw_get (xlay_lt (by simp [hq])), xent_v hq]) (xt_v g) hi (xdec C hd) (kk p e s m args below meth c H locs ls C hP hS hl)
theorem e_alen {q t n : Nat} {v : Int32} (hd : me.2.1[k]? = some (pc, .arraylength, 1)) (hq : xlay q = (1, t, n)) (ht : t < 3) (hv : Int32.ofNat n = v) (kk : xE g me Po (pc + 1) lv (.int v :: st) σ) : xE g me Po pc lv (.ref (gR g q) :: st) σ := by
  intro p e s m args below meth c H locs ls C hP hS hl
  have hg : (xw g σ)[q]? = some (gR g q, .inl (gA g t, n, .inl (σ.1 q))) := by rw [xw_get (xlay_lt (by simp [hq])), xent_i hq (by omega)]
  have hk := kk p e s m args below meth c H locs ls C hP hS hl
  rcases (show t = 0 ∨ t = 1 ∨ t = 2 by omega) with rfl | rfl | rfl
  · exact va_alen C.1 rfl C.2.2.2.2.2.2.2.1 hP.1 q 0 hg (xt_i g) hv (xdec C hd) hk
  · exact va_alen C.1 rfl C.2.2.2.2.2.2.2.1 hP.1 q 1 hg (xt_b g) hv (xdec C hd) hk
  · exact va_alen C.1 rfl C.2.2.2.2.2.2.2.1 hP.1 q 2 hg (xt_z g) hv (xdec C hd) hk
theorem e_iast {q n : Nat} {i x : Int32} (hd : me.2.1[k]? = some (pc, .iastore, 1)) (hq : xlay q = (1, 0, n)) (hi : vp_in i n) (kk : xE g me Po (pc + 1) lv st (setI σ q (ix i) x)) : xE g me Po pc lv (.int x :: .int i :: .ref (gR g q) :: st) σ := by
  intro p e s m args below meth c H locs ls C hP hS hl
  have hlt : q < 67 := xlay_lt (by simp [hq])
  refine va_iast C.1 rfl C.2.2.2.2.2.2.2.1 hP.1 (xD C.2.2.2.2.2.2.2.2.2.1) hS q 0 (by rw [xw_get hlt, xent_i hq (by decide)]) (xt_i g) hi (xdec C hd) (fun H1 locs1 hP1 _ hS1 => ?_)
  rw [xw_set (σ' := setI σ q (ix i) x) hlt (by rw [xent_i hq (by decide), setI_same]) (fun j h => xent_setI h)] at hP1
  exact kk p e s m args below meth c H1 locs1 ls C ⟨hP1, hP.2⟩ hS1 hl
theorem e_bast {q n : Nat} {i x : Int32} (hd : me.2.1[k]? = some (pc, .bastore, 1)) (hq : xlay q = (1, 1, n)) (hi : vp_in i n) (kk : xE g me Po (pc + 1) lv st (setI σ q (ix i) (vp_nar .byte x))) : xE g me Po pc lv (.int x :: .int i :: .ref (gR g q) :: st) σ := by
  intro p e s m args below meth c H locs ls C hP hS hl
  have hlt : q < 67 := xlay_lt (by simp [hq])
  refine va_bast C.1 rfl C.2.2.2.2.2.2.2.1 hP.1 (xD C.2.2.2.2.2.2.2.2.2.1) hS q 1 (by rw [xw_get hlt, xent_i hq (by decide)]) (xt_b g) hi (xdec C hd) (fun H1 locs1 hP1 _ hS1 => ?_)
  rw [xw_set (σ' := setI σ q (ix i) (vp_nar .byte x)) hlt (by rw [xent_i hq (by decide), setI_same]) (fun j h => xent_setI h)] at hP1
  exact kk p e s m args below meth c H1 locs1 ls C ⟨hP1, hP.2⟩ hS1 hl
theorem e_zast {q n : Nat} {i x : Int32} (hd : me.2.1[k]? = some (pc, .bastore, 1)) (hq : xlay q = (1, 2, n)) (hi : vp_in i n) (kk : xE g me Po (pc + 1) lv st (setI σ q (ix i) (vp_nar .boolean x))) : xE g me Po pc lv (.int x :: .int i :: .ref (gR g q) :: st) σ := by
  intro p e s m args below meth c H locs ls C hP hS hl
  have hlt : q < 67 := xlay_lt (by simp [hq])
  refine va_zast C.1 rfl C.2.2.2.2.2.2.2.1 hP.1 (xD C.2.2.2.2.2.2.2.2.2.1) hS q 2 (by rw [xw_get hlt, xent_i hq (by decide)]) (xt_z g) hi (xdec C hd) (fun H1 locs1 hP1 _ hS1 => ?_)
  rw [xw_set (σ' := setI σ q (ix i) (vp_nar .boolean x)) hlt (by rw [xent_i hq (by decide), setI_same]) (fun j h => xent_setI h)] at hP1
  exact kk p e s m args below meth c H1 locs1 ls C ⟨hP1, hP.2⟩ hS1 hl
theorem e_last {q n : Nat} {i : Int32} {x : Int64} (hd : me.2.1[k]? = some (pc, .lastore, 1)) (hq : xlay q = (1, 3, n)) (hi : vp_in i n) (kk : xE g me Po (pc + 1) lv st (setJ σ q (ix i) x)) : xE g me Po pc lv (.long x :: .int i :: .ref (gR g q) :: st) σ := by
  intro p e s m args below meth c H locs ls C hP hS hl
  have hlt : q < 67 := xlay_lt (by simp [hq])
  refine va_last C.1 rfl C.2.2.2.2.2.2.2.1 hP.1 (xD C.2.2.2.2.2.2.2.2.2.1) hS q 3 (by rw [xw_get hlt, xent_j hq]) (xt_j g) hi (xdec C hd) (fun H1 locs1 hP1 _ hS1 => ?_)
  rw [xw_set (σ' := setJ σ q (ix i) x) hlt (by rw [xent_j hq, setJ_same]) (fun j h => xent_setJ h)] at hP1
  exact kk p e s m args below meth c H1 locs1 ls C ⟨hP1, hP.2⟩ hS1 hl
theorem e_ldc {idx : Nat} {v : Int32} (hd : me.2.1[k]? = some (pc, .ldc idx, 2)) (hw : Cond.constant me.1 idx v ∈ xtbl) (kk : xE g me Po (pc + 2) lv (.int v :: st) σ) : xE g me Po pc lv st σ := by
  intro p e s m args below meth c H locs ls C hP hS hl
  exact lv_ldc C.1 rfl C.2.2.2.2.1 (C.2.2.2.2.2.2.1 _ hw) (xdec C hd) (kk p e s m args below meth c H locs ls C hP hS hl)
theorem e_ldcw {idx : Nat} {v : Int32} (hd : me.2.1[k]? = some (pc, .ldc_w idx, 3)) (hw : Cond.constant me.1 idx v ∈ xtbl) (kk : xE g me Po (pc + 3) lv (.int v :: st) σ) : xE g me Po pc lv st σ := by
  intro p e s m args below meth c H locs ls C hP hS hl
  exact lv_ldcw C.1 rfl C.2.2.2.2.1 (C.2.2.2.2.2.2.1 _ hw) (xdec C hd) (kk p e s m args below meth c H locs ls C hP hS hl)
theorem e_ldc2 {idx : Nat} {v : Int64} (hd : me.2.1[k]? = some (pc, .ldc2_w idx, 3)) (hw : Cond.constantLong me.1 idx v ∈ xtbl) (kk : xE g me Po (pc + 3) lv (.long v :: st) σ) : xE g me Po pc lv st σ := by
  intro p e s m args below meth c H locs ls C hP hS hl
  exact lv_ldc2 C.1 rfl C.2.2.2.2.1 (C.2.2.2.2.2.2.1 _ hw) (xdec C hd) (kk p e s m args below meth c H locs ls C hP hS hl)
theorem e_ldcS {idx j : Nat} {tx : String} (hd : me.2.1[k]? = some (pc, .ldc idx, 2)) (hj : xsr[j]? = some (me.1, idx, tx)) (kk : xE g me Po (pc + 2) lv (.ref (gK g j) :: st) σ) : xE g me Po pc lv st σ := by
  intro p e s m args below meth c H locs ls C hP hS hl
  obtain ⟨c1, c2, c3, c4, c5, c6, c7, c8, c9, c10, c11⟩ := id C
  exact va_ldcS c1 rfl c5 (c11.2.1 j _ hj) (xdec C hd) (kk p e s m args below meth c H locs ls C hP hS hl)
/-- the ends -/
theorem xend {p : Program} {e : Env} {s : State} {m : MethodId} {args : Array Value} {below : List Frame} {meth : Method} {c : Code} {H : Heap} {locs : List Loc} {gf : JFrame} {o : Outcome} (hP : xP g σ H) (hS : va_S (xA g) s.heap H locs) (h : Po o σ)
    (w : (∀ t : State, t.heap = H → s.WarmedH t.vm → xQ g Po s o t) → (∀ q ∈ locs, xA g q.base) → W p (gL g) e me.2.2.2.2.1 s m args below meth c H locs 0 0 (MQ below (fun _ => xQ g Po) args s 0 0 (xA g)) gf) : W p (gL g) e me.2.2.2.2.1 s m args below meth c H locs 0 0 (xMQ below (xQ g Po) s (xA g)) gf :=
  xmono xMQ_of (w (fun t ht _ => ⟨⟨σ, h, by rw [ht]; exact hP⟩, hS.F ht⟩) hS.2.2)
theorem e_iret {v : Int32} (hd : me.2.1[k]? = some (pc, .ireturn, 1)) (hr : me.2.2.2.1 = some .int) (h : Po (.returned (some (.int v))) σ) : xE g me Po pc lv [.int v] σ := by
  intro p e s m args below meth c H locs ls C hP hS hl
  have hlk := C.2.2.2.2.2.1
  exact xend hP hS h fun h1 h2 => W.iret C.1 rfl (C.2.2.2.1.trans hr) h1 h2 (xdec C hd) hlk
theorem e_zret {v : Int32} {ty : FieldType} (hd : me.2.1[k]? = some (pc, .ireturn, 1)) (hr : me.2.2.2.1 = some ty) (hn : narrow ty (.int v) = .int v) (h : Po (.returned (some (.int v))) σ) : xE g me Po pc lv [.int v] σ := by
  intro p e s m args below meth c H locs ls C hP hS hl
  have hlk := C.2.2.2.2.2.1
  exact xend hP hS h fun h1 h2 => W.zret C.1 rfl (C.2.2.2.1.trans hr) hn h1 h2 (xdec C hd) hlk
theorem e_lret {v : Int64} (hd : me.2.1[k]? = some (pc, .lreturn, 1)) (hr : me.2.2.2.1 = some .long) (h : Po (.returned (some (.long v))) σ) : xE g me Po pc lv [.long v] σ := by
  intro p e s m args below meth c H locs ls C hP hS hl
  have hlk := C.2.2.2.2.2.1
  exact xend hP hS h fun h1 h2 => W.lret C.1 rfl (C.2.2.2.1.trans hr) h1 h2 (xdec C hd) hlk
theorem e_vret (hd : me.2.1[k]? = some (pc, .return_, 1)) (hr : me.2.2.2.1 = none) (h : Po (.returned none) σ) : xE g me Po pc lv [] σ := by
  intro p e s m args below meth c H locs ls C hP hS hl
  have hlk := C.2.2.2.2.2.1
  exact xend hP hS h fun h1 h2 => W.vret C.1 rfl (C.2.2.2.1.trans hr) h1 h2 (xdec C hd) hlk
theorem e_aret {q : Nat} {C0 : String} (hd : me.2.1[k]? = some (pc, .areturn, 1)) (hr : me.2.2.2.1 = some (.object C0)) (h : Po (.returned (some (.ref (gR g q)))) σ) : xE g me Po pc lv [.ref (gR g q)] σ := by
  intro p e s m args below meth c H locs ls C hP hS hl
  have hlk := C.2.2.2.2.2.1
  exact xend hP hS h fun h1 h2 => W.aret C.1 rfl (C.2.2.2.1.trans hr) (Or.inl ⟨_, rfl⟩) (Or.inr ⟨_, rfl⟩) h1 h2 (xdec C hd) hlk
theorem e_athrow {a : Nat} (hd : me.2.1[k]? = some (pc, .athrow, 1)) (hx : ∀ x ∈ me.2.2.2.2.2, covers x pc = false) (h : Po (.threw a) σ) : xE g me Po pc lv (.ref a :: st) σ := by
  intro p e s m args below meth c H locs ls C hP hS hl T hT X
  obtain ⟨c1, c2, c3, c4, c5, c6, c7, c8, c9, c10, c11⟩ := id C
  obtain ⟨h1, h2, h3, h4, h5⟩ := X.athrowLeaves c1 (g := F0 m pc ls (.ref a :: st)) rfl rfl rfl (by rw [c9]; exact hx) rfl (xdec C hd) c6
  have hh : (T.setFrames (.throwing a :: below)).heap = H := hT
  exact ⟨_, h1, .threw a, h2, h3, ⟨⟨σ, h, by rw [hh]; exact hP⟩, hS.F hh⟩, locs, ⟨Or.inr ⟨a, rfl⟩, h4, h5⟩, hS.2.2⟩
end XB
