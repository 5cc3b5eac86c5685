/-! String.checkIndex and Preconditions.checkIndex (by hand): a place in range goes through -/
section MC
variable {g : Gb} {me : Me} {Po : Outcome → Mm → Prop} {pc k : Nat} {lv lv' : List (Nat × Value)} {st : List Value} {σ : Mm}
theorem e_sioobe {idx : Nat} (hd : me.2.1[k]? = some (pc, .getstatic idx, 3)) (hw : Cond.fieldLink me.1 idx "jdk/internal/util/Preconditions" "SIOOBE_FORMATTER" "Ljava/util/function/BiFunction;" ∈ xtbl) (kk : ∀ v : Value, (v = .null ∨ ∃ t, v = .ref t) → xE g me Po (pc + 3) lv (v :: st) σ) : xE g me Po pc lv st σ := by
  intro p e s m args below meth c H locs ls C hP hS hl
  obtain ⟨c1, c2, c3, c4, c5, c6, c7, c8, c9, c10, c11⟩ := id C
  rcases c11.2.2.1.2 with h | ⟨t, h⟩
  · exact va_gets c1 rfl h hS c5 (c7 _ hw) (fun x h => h) (xdec C hd) (kk _ (Or.inl rfl) p e s m args below meth c H locs ls C hP hS hl)
  · exact va_gets c1 rfl h hS c5 (c7 _ hw) (fun x h => h) (xdec C hd) (kk _ (Or.inr ⟨t, rfl⟩) p e s m args below meth c H locs ls C hP hS hl)
end MC
def il_J3_checkIndex_8e157 : List (Nat × Instr × Nat) := [(0, .iload_n 0, 1), (1, .ifCond .lt 8, 3), (4, .iload_n 0, 1), (5, .iload_n 1, 1), (6, .if_icmp .lt 10, 3), (16, .iload_n 0, 1), (17, .ireturn, 1)]
set_option maxRecDepth 20000 in
theorem il_J3_checkIndex_8e157_ok : ∀ x ∈ il_J3_checkIndex_8e157, decode cJ3_checkIndex_8e157 x.1 = .ok x.2 := by decide +kernel
abbrev me_J3_checkIndex_8e157 : Me := (RJ3, il_J3_checkIndex_8e157, 3, (some .int), xRoom 1, [])
def w_J3_checkIndex_8e157 (n : Nat) (a0 : Int32) (a1 : Int32) (u0 : Mm) (Q : Int32 → Mm → Prop) : Prop := ¬ a0 < 0 ∧ (a0 < a1 ∧ Q a0 u0)
theorem c_J3_checkIndex_8e157 {g : Gb} (hg : xInj g) {n : Nat} {a0 : Int32} {a1 : Int32} {v : Value} (hv : v = .null ∨ ∃ t, v = .ref t) {u0 : Mm} {Q : Int32 → Mm → Prop} (h : w_J3_checkIndex_8e157 n a0 a1 u0 Q) : xMet (gL g) yJ3_checkIndex_8e157 (xws yJ3_checkIndex_8e157 cJ3_checkIndex_8e157 3 (some .int)) (xRoom 1) (xPc g [.int a0, .int a1, v] u0) (xQ g (pI g Q noT)) (xA g) := by
  refine xbody (il := il_J3_checkIndex_8e157) hg il_J3_checkIndex_8e157_ok m_J3_checkIndex_8e157 ?_ ?_
  · rcases hv with rfl | ⟨t, rfl⟩ <;> exact Nat.le_of_ble_eq_true rfl
  · show xE g me_J3_checkIndex_8e157 (pI g Q noT) 0 [(0, .int a0), (1, .int a1), (2, v)] [] u0
    refine e_iload_n (k := 0) (i := 0) rfl rfl 0 rfl ?_
    refine e_if_lt (k := 1) (tgt := 9) rfl (by decide) (fun z => absurd z h.1) (fun z => ?_)
    refine e_iload_n (k := 2) (i := 0) rfl rfl 0 rfl ?_
    refine e_iload_n (k := 3) (i := 1) rfl rfl 1 rfl ?_
    refine e_icmp_lt (k := 4) (tgt := 16) rfl (by decide) (fun z => ?_) (fun z => absurd h.2.1 z)
    refine e_iload_n (k := 5) (i := 0) rfl rfl 0 rfl ?_
    exact e_iret (k := 6) rfl rfl (Or.inl ⟨_, rfl, h.2.2⟩)
def il_J0_checkIndex_df160 : List (Nat × Instr × Nat) := [(0, .iload_n 0, 1), (1, .iload_n 1, 1), (2, .getstatic 1053, 3), (5, .invokestatic 1059, 3), (8, .pop, 1), (9, .return_, 1)]
set_option maxRecDepth 20000 in
theorem il_J0_checkIndex_df160_ok : ∀ x ∈ il_J0_checkIndex_df160, decode cJ0_checkIndex_df160 x.1 = .ok x.2 := by decide +kernel
abbrev me_J0_checkIndex_df160 : Me := (RJ0, il_J0_checkIndex_df160, 2, none, xRoom 2, [])
def w_J0_checkIndex_df160 (n : Nat) (a0 : Int32) (a1 : Int32) (u0 : Mm) (Q : Mm → Prop) : Prop := w_J3_checkIndex_8e157 n a0 a1 u0 (fun _ u1 => Q u1)
theorem c_J0_checkIndex_df160 {g : Gb} (hg : xInj g) {n : Nat} {a0 : Int32} {a1 : Int32} {u0 : Mm} {Q : Mm → Prop} (h : w_J0_checkIndex_df160 n a0 a1 u0 Q) : xMet (gL g) yJ0_checkIndex_df160 (xws yJ0_checkIndex_df160 cJ0_checkIndex_df160 2 none) (xRoom 2) (xPc g [.int a0, .int a1] u0) (xQ g (pV g Q noT)) (xA g) := by
  refine xbody (il := il_J0_checkIndex_df160) hg il_J0_checkIndex_df160_ok m_J0_checkIndex_df160 (Nat.le_of_ble_eq_true rfl) ?_
  show xE g me_J0_checkIndex_df160 (pV g Q noT) 0 [(0, .int a0), (1, .int a1)] [] u0
  unfold w_J0_checkIndex_df160 at h
  refine e_iload_n (k := 0) (i := 0) rfl rfl 0 rfl ?_
  refine e_iload_n (k := 1) (i := 1) rfl rfl 1 rfl ?_
  refine e_sioobe (k := 2) rfl fz_J0_1053 (fun v hv => ?_)
  rcases hv with rfl | ⟨t, rfl⟩
  · refine e_callSi (k := 3) (As := [.int a0, .int a1, .null]) (rest := []) rfl (c_J3_checkIndex_8e157 (g := g) hg (n := n) (v := .null) (Or.inl rfl) h) m_J3_checkIndex_8e157 st_J3_checkIndex_8e157 l_J0_1059 rfl rfl (Nat.le_of_ble_eq_true rfl) ⟨by decide, by decide, rfl, rfl⟩ (fun _ h => h.elim) (fun r1 u1 h => ?_)
    refine e_pop (k := 4) rfl rfl ?_
    exact e_vret (k := 5) rfl rfl (Or.inl ⟨rfl, h⟩)
  · refine e_callSi (k := 3) (As := [.int a0, .int a1, .ref t]) (rest := []) rfl (c_J3_checkIndex_8e157 (g := g) hg (n := n) (v := .ref t) (Or.inr ⟨t, rfl⟩) h) m_J3_checkIndex_8e157 st_J3_checkIndex_8e157 l_J0_1059 rfl rfl (Nat.le_of_ble_eq_true rfl) ⟨by decide, by decide, rfl, rfl⟩ (fun _ h => h.elim) (fun r1 u1 h => ?_)
    refine e_pop (k := 4) rfl rfl ?_
    exact e_vret (k := 5) rfl rfl (Or.inl ⟨rfl, h⟩)
