/-! AbcFormsModel.read (by program) -/
theorem fg_X12_145 : xG RX12 145 11 6 .int := ⟨_, rfl, by decide, xm5 148 rfl rfl, rfl, by decide +kernel⟩
theorem fg_X12_27 : xG RX12 27 11 11 .int := ⟨_, rfl, by decide, xm5 153 rfl rfl, rfl, by decide +kernel⟩
theorem fg_X12_494 : xG RX12 494 11 10 .boolean := ⟨_, rfl, by decide, xm5 152 rfl rfl, rfl, by decide +kernel⟩
theorem hcl_read : Cond.classLink RX12 13 RX11 ∈ xtbl := xm5 72 rfl rfl
theorem l_X12_497 : Cond.methodLink RX12 497 yX12_readTune ∈ xtbl := xm6 136 rfl rfl
theorem l_X12_500 : Cond.methodLink RX12 500 yX12_findPlayed ∈ xtbl := xm7 155 rfl rfl
def il_X12_read : List (Nat × Instr × Nat) := [(0, .aload_n 0, 1), (1, .iconst 0, 1), (2, .putfield 1, 3), (5, .aload_n 0, 1), (6, .aload_n 0, 1), (7, .getfield 120, 3), (10, .putfield 145, 3), (13, .iconst 0, 1), (14, .istore_n 1, 1), (15, .iload_n 1, 1), (16, .aload_n 0, 1), (17, .getfield 145, 3), (20, .if_icmp .ge 21, 3), (23, .aload_n 0, 1), (24, .getfield 24, 3), (27, .iload_n 1, 1), (28, .aload_n 0, 1), (29, .getfield 20, 3), (32, .iload_n 1, 1), (33, .baload, 1), (34, .bastore, 1), (35, .iinc 1 1, 3), (38, .goto (-23), 3), (41, .aload_n 0, 1), (42, .iconst 0, 1), (43, .putfield 120, 3), (46, .aload_n 0, 1), (47, .iconst 0, 1), (48, .putfield 138, 3), (51, .aload_n 0, 1), (52, .iconst 0, 1), (53, .putfield 494, 3), (56, .aload_n 0, 1), (57, .bipush (-2), 2), (59, .putfield 27, 3), (62, .aload_n 0, 1), (63, .invokevirtual 497, 3), (66, .aload_n 0, 1), (67, .iconst 1, 1), (68, .putfield 494, 3), (71, .aload_n 0, 1), (72, .invokevirtual 500, 3), (75, .aload_n 0, 1), (76, .getfield 283, 3), (79, .ireturn, 1), (80, .astore_n 1, 1), (81, .aload_n 0, 1), (82, .aload_n 1, 1), (83, .getfield 132, 3), (86, .putfield 27, 3), (89, .bipush (-10), 2), (91, .aload_n 1, 1), (92, .getfield 129, 3), (95, .isub, 1), (96, .ireturn, 1)]
set_option maxRecDepth 20000 in
theorem il_X12_read_ok : ∀ x ∈ il_X12_read, decode cX12_read x.1 = .ok x.2 := by decide +kernel
abbrev me_X12_read : Me := (RX12, il_X12_read, 2, (some .int), xRoom 11, [⟨62, 79, 80, 13⟩])
def w_X12_read_80 (n : Nat) (u0 : Mm) (Q : Int32 → Mm → Prop) : Prop :=
  mlet (setI u0 0 11 (u0.1 1 7)) fun u1 =>
  Q ((-10 : Int32) - (u1.1 1 6)) u1
def w_X12_read_15 (n : Nat) (Q : Int32 → Mm → Prop) : Nat → Int32 → Mm → Prop
  | 0, _, _ => False
  | k + 1, x1, u0 =>
  ((u0.1 0 6) ≤ x1 → mlet (setI u0 0 4 (0 : Int32)) fun u1 =>
  mlet (setI u1 0 7 (0 : Int32)) fun u2 =>
  mlet (setI u2 0 10 (0 : Int32)) fun u3 =>
  mlet (setI u3 0 11 (-2 : Int32)) fun u4 =>
  w_X12_readTune n u4 (fun u5 =>
  mlet (setI u5 0 10 (1 : Int32)) fun u6 =>
  w_X12_findPlayed n u6 (fun u7 =>
  Q (u7.1 0 27) u7) (fun u8 =>
  w_X12_read_80 n u8 Q)) (fun u9 =>
  w_X12_read_80 n u9 Q)) ∧
  (¬ (u0.1 0 6) ≤ x1 → vp_in x1 2420 ∧ (vp_in x1 2420 ∧ (mlet (setI u0 3 (ix x1) (vp_nar .byte (u0.1 2 (ix x1)))) fun u10 =>
  (w_X12_read_15 n Q k) (x1 + (1 : Int32)) u10)))
def w_X12_read (n : Nat) (u0 : Mm) (Q : Int32 → Mm → Prop) : Prop :=
  mlet (setI u0 0 0 (0 : Int32)) fun u1 =>
  mlet (setI u1 0 6 (u1.1 0 4)) fun u2 =>
  (w_X12_read_15 n Q n) (0 : Int32) u2
set_option maxRecDepth 20000 in
theorem s_X12_read_80 {g : Gb} (hg : xInj g) {n : Nat} {Q : Int32 → Mm → Prop} {u0 : Mm} (h : w_X12_read_80 n  u0 Q) : xE g me_X12_read (pI g Q noT) 80 [(0, .ref (gR g 0))] [.ref (gR g 1)] u0 := by
  unfold w_X12_read_80 at h
  refine e_astore_n (k := 45) (i := 1) (lv' := [(0, .ref (gR g 0)), (1, .ref (gR g 1))]) rfl rfl (by decide) [1, 0] rfl ?_
  refine e_aload_n (k := 46) (i := 0) rfl rfl 0 rfl ?_
  refine e_aload_n (k := 47) (i := 1) rfl rfl 1 rfl ?_
  refine e_getN (k := 48) rfl fn_X12_132 rfl rfl ?_
  refine e_putI (k := 49) rfl fg_X12_27 rfl rfl ?_
  refine e_mlet h (fun u1 h => ?_)
  refine e_bipush (k := 50) (v := (-10 : Int32)) rfl (by decide) ?_
  refine e_aload_n (k := 51) (i := 1) rfl rfl 1 rfl ?_
  refine e_getN (k := 52) rfl fn_X12_129 rfl rfl ?_
  refine e_isub (k := 53) rfl ?_
  exact e_iret (k := 54) rfl rfl (Or.inl ⟨_, rfl, h⟩)
set_option maxRecDepth 20000 in
theorem s_X12_read_15 {g : Gb} (hg : xInj g) {n : Nat} {Q : Int32 → Mm → Prop} : ∀ (k : Nat) (x1 : Int32) (u0 : Mm), w_X12_read_15 n Q k x1 u0 → xE g me_X12_read (pI g Q noT) 15 [(0, .ref (gR g 0)), (1, .int x1)] [] u0 := by
  intro k
  induction k with
  | zero => intro x1 u0 h; exact h.elim
  | succ k ih =>
    intro x1 u0 h
    unfold w_X12_read_15 at h
    refine e_iload_n (k := 9) (i := 1) rfl rfl 1 rfl ?_
    refine e_aload_n (k := 10) (i := 0) rfl rfl 0 rfl ?_
    refine e_getI (k := 11) rfl f_X12_145 rfl rfl ?_
    refine e_icmp_ge (k := 12) (tgt := 41) rfl (by decide) (fun z => ?_) (fun z => ?_)
    · have h := h.1 z
      refine e_aload_n (k := 23) (i := 0) rfl rfl 0 rfl ?_
      refine e_iconst (k := 24) (v := (0 : Int32)) rfl (by decide) ?_
      refine e_putI (k := 25) rfl fg_X12_120 rfl rfl ?_
      refine e_mlet h (fun u1 h => ?_)
      refine e_aload_n (k := 26) (i := 0) rfl rfl 0 rfl ?_
      refine e_iconst (k := 27) (v := (0 : Int32)) rfl (by decide) ?_
      refine e_putI (k := 28) rfl fg_X12_138 rfl rfl ?_
      refine e_mlet h (fun u2 h => ?_)
      refine e_aload_n (k := 29) (i := 0) rfl rfl 0 rfl ?_
      refine e_iconst (k := 30) (v := (0 : Int32)) rfl (by decide) ?_
      refine e_putZ (k := 31) rfl fg_X12_494 rfl rfl (Or.inl rfl) ?_
      refine e_mlet h (fun u3 h => ?_)
      refine e_aload_n (k := 32) (i := 0) rfl rfl 0 rfl ?_
      refine e_bipush (k := 33) (v := (-2 : Int32)) rfl (by decide) ?_
      refine e_putI (k := 34) rfl fg_X12_27 rfl rfl ?_
      refine e_mlet h (fun u4 h => ?_)
      refine e_aload_n (k := 35) (i := 0) rfl rfl 0 rfl ?_
      refine e_callVvC (k := 36) (q := 0) (As := []) (rest := []) (x := ⟨62, 79, 80, 13⟩) rfl (c_X12_readTune (g := g) hg (n := n) h) m_X12_readTune i_X12_readTune l_X12_497 rfl ⟨_, rfl, rfl⟩ rfl rfl (Nat.le_of_ble_eq_true rfl) ⟨by decide, by decide, rfl, rfl⟩ rfl (by decide) (by decide) hcl_read (fun u9 h => ?_) (fun u5 h => ?_)
      · refine e_sub (lv' := [(0, .ref (gR g 0))]) [0] rfl ?_
        exact s_X12_read_80 hg h
      · refine e_aload_n (k := 37) (i := 0) rfl rfl 0 rfl ?_
        refine e_iconst (k := 38) (v := (1 : Int32)) rfl (by decide) ?_
        refine e_putZ (k := 39) rfl fg_X12_494 rfl rfl (Or.inr rfl) ?_
        refine e_mlet h (fun u6 h => ?_)
        refine e_aload_n (k := 40) (i := 0) rfl rfl 0 rfl ?_
        refine e_callVvC (k := 41) (q := 0) (As := []) (rest := []) (x := ⟨62, 79, 80, 13⟩) rfl (c_X12_findPlayed (g := g) hg (n := n) h) m_X12_findPlayed i_X12_findPlayed l_X12_500 rfl ⟨_, rfl, rfl⟩ rfl rfl (Nat.le_of_ble_eq_true rfl) ⟨by decide, by decide, rfl, rfl⟩ rfl (by decide) (by decide) hcl_read (fun u8 h => ?_) (fun u7 h => ?_)
        · refine e_sub (lv' := [(0, .ref (gR g 0))]) [0] rfl ?_
          exact s_X12_read_80 hg h
        · refine e_aload_n (k := 42) (i := 0) rfl rfl 0 rfl ?_
          refine e_getI (k := 43) rfl f_X12_283 rfl rfl ?_
          exact e_iret (k := 44) rfl rfl (Or.inl ⟨_, rfl, h⟩)
    · have h := h.2 z
      refine e_aload_n (k := 13) (i := 0) rfl rfl 0 rfl ?_
      refine e_getC (k := 14) rfl f_X12_24 rfl rfl ?_
      refine e_iload_n (k := 15) (i := 1) rfl rfl 1 rfl ?_
      refine e_aload_n (k := 16) (i := 0) rfl rfl 0 rfl ?_
      refine e_getC (k := 17) rfl f_X12_20 rfl rfl ?_
      refine e_iload_n (k := 18) (i := 1) rfl rfl 1 rfl ?_
      refine e_bald (k := 19) rfl rfl h.1 ?_
      have h := h.2
      refine e_bast (k := 20) rfl rfl h.1 ?_
      have h := h.2
      refine e_mlet h (fun u10 h => ?_)
      refine e_iinc (k := 21) (i := 1) (j := 1) (v := (x1 + (1 : Int32))) (lv' := [(0, .ref (gR g 0)), (1, .int (x1 + (1 : Int32)))]) rfl rfl rfl (by decide) [1, 0] rfl ?_
      refine e_goto (k := 22) (tgt := 15) rfl (by decide) ?_
      exact ih (x1 + (1 : Int32)) u10 h
set_option maxRecDepth 20000 in
theorem c_X12_read {g : Gb} (hg : xInj g) {n : Nat} {u0 : Mm} {Q : Int32 → Mm → Prop} (h : w_X12_read n u0 Q) : xMet (gL g) yX12_read (xwsW yX12_read cX12_read 2 (some .int) [(62, 79, 80, 13)]) (xRoom 11) (xPc g [.ref (gR g 0)] u0) (xQ g (pI g Q noT)) (xA g) := by
  refine xbodyW (il := il_X12_read) hg il_X12_read_ok (by decide) rfl (Nat.le_of_ble_eq_true rfl) ?_
  show xE g me_X12_read (pI g Q noT) 0 [(0, .ref (gR g 0))] [] u0
  unfold w_X12_read at h
  refine e_aload_n (k := 0) (i := 0) rfl rfl 0 rfl ?_
  refine e_iconst (k := 1) (v := (0 : Int32)) rfl (by decide) ?_
  refine e_putI (k := 2) rfl fg_X12_1 rfl rfl ?_
  refine e_mlet h (fun u1 h => ?_)
  refine e_aload_n (k := 3) (i := 0) rfl rfl 0 rfl ?_
  refine e_aload_n (k := 4) (i := 0) rfl rfl 0 rfl ?_
  refine e_getI (k := 5) rfl f_X12_120 rfl rfl ?_
  refine e_putI (k := 6) rfl fg_X12_145 rfl rfl ?_
  refine e_mlet h (fun u2 h => ?_)
  refine e_iconst (k := 7) (v := (0 : Int32)) rfl (by decide) ?_
  refine e_istore_n (k := 8) (i := 1) (lv' := [(0, .ref (gR g 0)), (1, .int (0 : Int32))]) rfl rfl (by decide) [1, 0] rfl ?_
  exact s_X12_read_15 hg n (0 : Int32) u2 h
