/-! a nest mate's constructor; statics of references -/
section NT
variable {g : Gb} {me : Me} {Qf : nF} {Hi : State → Array Value → Method → Code → Prop} {iz : Prop × Option Value} {B kf mc ms k nc ns pc j : Nat} {wf ws : nL'} {lv lv' : List (Nat × Value)} {st : List Value}
theorem n_callIN {y : MethodName} {cc : ByteArray} {nL n idx q : Nat} {host : String} {rm : Room} {As rest st0 : List Value} {mc1 ms1 k1 : Nat} {w1 : nL'} (hd : me.2.1[j]? = some (pc, .invokespecial idx, 3)) (hM : nR g B → nOk k ws → Met (gL g) y (xws y cc nL none) rm (nPc g B (.ref (gR g q) :: As) k ws) (nQ g B k1 w1 none) mc1 ms1 (nA B)) (hy : xM y cc nL none n) (hi : Cond.instanceMethod y ∈ xtbl) (hnm : y.name = "<init>") (hl : ∀ s, nX B s → va_Nw (.methodLinkNest me.1 idx y host) s) (hn : As.length = n) (hst : st0 = As.reverse ++ .ref (gR g q) :: rest) (hsum : (rest.map fun v => v.category).sum ≤ 8)
    (hrc : rm.cells = mc1) (hrs : rm.slots = ms1) (hrm : rm.frames + 1 ≤ me.2.2.2.2.1.frames ∧ 8 + (nL + 11) + rm.locals ≤ me.2.2.2.2.1.locals) (hla : nLast k nc ws) (r1 : nc + mc1 ≤ me.2.2.2.2.1.cells) (r2 : ns + ms1 ≤ me.2.2.2.2.1.slots) (hk1 : k1 = k + mc1) (hok : nOk k ws → nOk k1 w1)
    (kk : nE' g me B Qf Hi k1 (nc + mc1) (ns + ms1) (pc + 3) lv rest w1) : nE' g me B Qf Hi k nc ns pc lv st0 ws := by
  intro p e s m args below meth c H locs ls C hin hP hz hS hl0 hB
  obtain ⟨c1, c2, c3, c4, c5, c6, c7, c8, c9⟩ := id C
  refine nsize fun hu => ?_
  have hH := nfull hz hP hS hla hu
  have hG : GoodIn xtbl (xws y cc nL none) := fun w h => by
    rcases List.mem_cons.mp h with rfl | h
    · exact ⟨hy.1, good_of_word (xgood hy.1)⟩
    · exact ⟨h, good_of_word (xgood h)⟩
  have hr := va_runIN (p := p) (l := gL g) (e := e) (R := me.2.2.2.2.1) (s := s) (m := m) (args := args) (below := below) (meth := meth) (c := c) (H := H) (locs := locs) (cells := nc) (slots := ns) (As := As) (rest := rest) (g := F0 m pc ls st0) ⟨c1, rfl, c3, c5, c7⟩ (hM hz.2.1 hz.2.2) ⟨va_cnB n c7 hG rfl hrc hrs (hl s c9) (c7 _ hy.2.1) ⟨hy.2.2.1.1, hy.2.2.1.2, hy.2.2.2.1⟩ hrm, hnm, c7 _ hi⟩
    ⟨fun a U g' mk z => z, fun U hU hW => ⟨rfl, by rw [hU]; exact hP, va_K.moved hW.alike c8, c9.to hW (by rw [hU]; exact hS.2.1), by rw [hU]; exact hH⟩⟩ rfl hn hl0.1 hst (lv_room hsum) (ndec C hd) ⟨r1, r2⟩
  intro T hT X
  obtain ⟨v, st1, t, T', L, h0, X', hL, e1, e2, ⟨ho, hP1, hF⟩, hst1⟩ := hr T hT X
  cases ho
  have hS1 : va_S (nA B) s.heap T'.heap (locs ++ L) := by
    rw [e1]
    refine ⟨Nat.le_trans hS.1 (by rw [← h0]; exact hF.1), fun x a b => ?_, fun x hx => ?_⟩
    · rw [hF.2 x (by rw [h0]; exact Nat.lt_of_lt_of_le a hS.1) b, h0]; exact hS.2.1 x a b
    · rcases List.mem_append.mp hx with h | h
      · exact hS.2.2 x h
      · exact hL x h
  obtain ⟨t2, a1, b1⟩ := kk p e s m args below meth c T'.heap (locs ++ L) ls C hin (by rw [e1]; exact hP1) ⟨by omega, hz.2.1, hok hz.2.2⟩ hS1 hl0 hB T' rfl X'
  exact ⟨t2, hst1 t2 a1, b1⟩
theorem n_gets {C0 f d : String} {idx : Nat} (hd : me.2.1[j]? = some (pc, .getstatic idx, 3)) (hw : Cond.fieldLink me.1 idx C0 f d ∈ xtbl) (hZ : ∀ s, nX B s → va_Zq C0 f d (nA B) s s.heap) (kk : ∀ v : Value, (v = .null ∨ ∃ t, v = .ref t) → nE' g me B Qf Hi k nc ns (pc + 3) lv (v :: st) ws) : nE' g me B Qf Hi k nc ns pc lv st ws := by
  intro p e s m args below meth c H locs ls C hin hP hz hS hl0 hB
  obtain ⟨c1, c2, c3, c4, c5, c6, c7, c8, c9⟩ := id C
  rcases hZ s c9 with h | ⟨t, h⟩
  · exact va_gets c1 rfl h hS c5 (c7 _ hw) (fun x h => h) (ndec C hd) (kk _ (Or.inl rfl) p e s m args below meth c H locs ls C hin hP hz hS hl0 hB)
  · exact va_gets c1 rfl h hS c5 (c7 _ hw) (fun x h => h) (ndec C hd) (kk _ (Or.inr ⟨t, rfl⟩) p e s m args below meth c H locs ls C hin hP hz hS hl0 hB)
end NT
