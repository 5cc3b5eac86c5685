/-! the law's start: its static method, the two objects made -/
abbrev me_law : Me := (RL, il_law, 4, ret, room_1, [])
def oH (g : Gb) (b L : Nat) (xs : Nat → Int32) : State → Array Value → Method → Code → Prop := fun s args _ c => args = #[Value.ref b] ∧ va_X b L xs s s.heap ∧ b < s.heap.size ∧ xCon g s ∧ c.code = code
def oQ : nF := fun below args s => lw_Z below args s
def orr (L : Nat) (xs : Nat → Int32) : Int32 := if Int32.ofNat L ≤ 0 then 0 else xs 0
def oPc (b L : Nat) (xs : Nat → Int32) : Array Value → State → Prop := fun a U => a = ([.ref b, .int 0] : List Value).toArray ∧ va_X b L xs U U.heap ∧ b < U.heap.size
theorem c_cell {l : Launch} {b L : Nat} {xs : Nat → Int32} (hL : L ≤ 385) (hy : xM yL_cell cL_cell 2 (some .int) 2) : Met l yL_cell (xws yL_cell cL_cell 2 (some .int)) (nRoom 1 0 0) (oPc b L xs) (fun _ s o t => o = .returned (some (.int (orr L xs))) ∧ t.heap = s.heap) 0 0 (fun _ => False) := by
  refine Met.ofW (cc := cL_cell) (maxL := 2) (ret := some .int) (by decide) rfl ?_
  intro p e s m args below meth c s₁ B hml hv
  obtain ⟨rfl, hX, hbl⟩ := hv
  have hx := B.exec
  have hb := B.bytes
  have hr := B.returns
  have hlocks := B.notSynchronized
  have hl := lv_entry ([.ref b, .int 0] : List Value) (n := 2) (Nat.le_of_ble_eq_true rfl)
  rw [lg_entry_eq]
  generalize (lg_sl ([.ref b, .int 0] : List Value) ++ List.replicate (2 - (lg_sl ([.ref b, .int 0] : List Value)).length) Slot.unset).toArray = ls at hl ⊢
  have hl : lv_has ls 2 [(0, .ref b), (1, .int 0)] := hl
  have hS : va_S (fun _ => False) s.heap s.heap [] := va_S.rf
  have hd : ∀ (k pc : Nat) (i : Instr) (n : Nat), il_cell[k]? = some (pc, i, n) → decode cL_cell pc = .ok (i, n) := fun k pc i n h => il_cell_ok (pc, i, n) (List.mem_of_getElem? h)
  refine lv_iload_n hx hb (hd 0 _ _ _ rfl) rfl (lv_at hl 1 rfl) ?_
  refine lv_aload_n hx hb (hd 1 _ _ _ rfl) rfl (lv_at hl 0 rfl) ?_
  refine va_slen hx hb hX hbl (fun z => z) hS (hd 2 _ _ _ rfl) ?_
  refine lv_icmp_ge (tgt := 12) hx hb (hd 3 _ _ _ rfl) (by decide) (fun z => ?_) (fun z => ?_)
  · refine lv_iconst (v := 0) hx hb (hd 8 _ _ _ rfl) (by decide) ?_
    exact W.iret hx hb hr (fun t ht _ => ⟨by unfold orr; rw [if_pos z], ht⟩) (fun q h => by cases h) (hd 9 _ _ _ rfl) hlocks
  · have hz : 0 < L := by
      rcases Nat.eq_zero_or_pos L with h | h
      · subst h; exact absurd (by decide : nI 0 ≤ 0) z
      · exact h
    refine lv_aload_n hx hb (hd 4 _ _ _ rfl) rfl (lv_at hl 0 rfl) ?_
    refine lv_iload_n hx hb (hd 5 _ _ _ rfl) rfl (lv_at hl 1 rfl) ?_
    refine va_sld hx hb hX hbl (fun z => z) hS (vp_in_nI (n := 0) hz (by omega)) (hd 6 _ _ _ rfl) ?_
    refine lv_goto (tgt := 13) hx hb (hd 7 _ _ _ rfl) (by decide) ?_
    exact W.iret hx hb hr (fun t ht _ => ⟨by unfold orr; rw [if_neg z]; rfl, ht⟩) (fun q h => by cases h) (hd 9 _ _ _ rfl) hlocks
section OO
variable {g : Gb} {me : Me} {Qf : nF} {B k nc ns pc j : Nat} {ws : nL'} {lv lv' : List (Nat × Value)} {st : List Value} {b L : Nat} {xs : Nat → Int32}
theorem n_cell {idx : Nat} (hL : L ≤ 385) (hd : me_law.2.1[j]? = some (pc, .invokestatic idx, 3)) (hy : xM yL_cell cL_cell 2 (some .int) 2) (hi : Cond.static yL_cell ∈ xtbl) (hl : Cond.methodLink RL idx yL_cell ∈ xtbl) (hsum : (st.map fun v => v.category).sum ≤ 8) (hk : nc = k) (r1 : nc ≤ room_1.cells) (r2 : ns ≤ room_1.slots)
    (kk : nE' g me_law B Qf (oH g b L xs) k nc ns (pc + 3) lv (.int (orr L xs) :: st) ws) : nE' g me_law B Qf (oH g b L xs) k nc ns pc lv (.int 0 :: .ref b :: st) ws := by
  intro p e s m args below meth c H locs ls C hin hP hz hS hl0 hB
  obtain ⟨c1, c2, c3, c4, c5, c6, c7, c8, c9⟩ := id C
  obtain ⟨-, hX, hbl, -, -⟩ := id hin
  have hbB : ¬ nA B b := fun (z : B ≤ b) => by have := hz.1; omega
  have hHb : H[b]? = s.heap[b]? := hS.2.1 b hbl hbB
  have hG : GoodIn xtbl (xws yL_cell cL_cell 2 (some .int)) := fun w h => by
    rcases List.mem_cons.mp h with rfl | h
    · exact ⟨hy.1, good_of_word (xgood hy.1)⟩
    · exact ⟨h, good_of_word (xgood h)⟩
  have hr := va_runS (p := p) (l := gL g) (e := e) (R := room_1) (s := s) (m := m) (args := args) (below := below) (meth := meth) (c := c) (H := H) (locs := locs) (cells := nc) (slots := ns) (As := [.ref b, .int 0]) (rest := st) (g := F0 m pc ls (.int 0 :: .ref b :: st)) ⟨c1, rfl, c3, c5, c7⟩ (c_cell hL hy) ⟨callB_of 2 c7 hG rfl rfl rfl (c7 _ hy.2.1) (c7 _ hl) ⟨hy.2.2.1.1, hy.2.2.1.2, hy.2.2.2.1⟩ ⟨by decide, by decide⟩, c7 _ hi⟩
    ⟨fun a U g' mk z => z, fun U hU hW => ⟨rfl, by rw [hU]; exact va_X.moved hW.alike (hX.kept hHb), by rw [hU]; exact Nat.lt_of_lt_of_le hbl hS.1⟩⟩ rfl rfl hl0.1 rfl (lv_room hsum) (ndec C hd) ⟨r1, r2⟩
  intro T hT X
  obtain ⟨v, st1, t, T', L', h0, X', hL', e1, e2, ⟨ho, hh⟩, hst1⟩ := hr T hT X
  cases ho
  have hTH : T'.heap = H := by rw [e1, hh, h0]
  obtain ⟨t2, a1, b1⟩ := kk p e s m args below meth c H (locs ++ L') ls C hin hP hz ⟨hS.1, hS.2.1, fun x hx => (List.mem_append.mp hx).elim (hS.2.2 x) (fun h => (hL' x h).elim)⟩ hl0 hB T' hTH X'
  exact ⟨t2, hst1 t2 a1, b1⟩
end OO
