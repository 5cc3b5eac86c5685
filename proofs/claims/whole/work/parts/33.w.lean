/-! methods (by program) -/
def il_X9_write : List (Nat × Instr × Nat) := [(0, .aload_n 0, 1), (1, .iconst 0, 1), (2, .putfield 15, 3), (5, .aload_n 1, 1), (6, .iload_n 2, 1), (7, .bipush 18, 2), (9, .invokevirtual 19, 3), (12, .ifCond .eq 14, 3), (15, .aload_n 0, 1), (16, .aload_n 1, 1), (17, .iload_n 2, 1), (18, .bipush 6, 2), (20, .invokevirtual 19, 3), (23, .invokevirtual 25, 3), (26, .aload_n 0, 1), (27, .aload_n 1, 1), (28, .iload_n 2, 1), (29, .iconst 4, 1), (30, .invokevirtual 19, 3), (33, .aload_n 1, 1), (34, .iload_n 2, 1), (35, .iconst 5, 1), (36, .invokevirtual 19, 3), (39, .invokevirtual 29, 3), (42, .aload_n 1, 1), (43, .iload_n 2, 1), (44, .bipush 17, 2), (46, .invokevirtual 19, 3), (49, .istore_n 3, 1), (50, .iload_n 3, 1), (51, .ifCond .le 25, 3), (54, .aload_n 0, 1), (55, .aload_n 1, 1), (56, .iload_n 2, 1), (57, .invokevirtual 33, 3), (60, .ldc2_w 37, 3), (63, .iload_n 3, 1), (64, .i2l, 1), (65, .ldiv, 1), (66, .invokevirtual 39, 3), (69, .ifCond .eq 7, 3), (72, .iconst 1, 1), (73, .goto 4, 3), (76, .iconst 0, 1), (77, .ireturn, 1)]
set_option maxRecDepth 20000 in
theorem il_X9_write_ok : ∀ x ∈ il_X9_write, decode cX9_write x.1 = .ok x.2 := by decide +kernel
abbrev me_X9_write : Me := (RX9, il_X9_write, 4, (some .boolean), xRoom 6, [])
def w_X9_write_77 (n : Nat) (t0 : Int32) (u0 : Mm) (Q : Int32 → Mm → Prop) : Prop :=
  narrow .boolean (.int t0) = .int t0 ∧ Q t0 u0
def w_X9_write_76 (n : Nat) (u0 : Mm) (Q : Int32 → Mm → Prop) : Prop :=
  w_X9_write_77 n (0 : Int32) u0 Q
def w_X9_write_26 (n : Nat) (x2 : Int32) (u0 : Mm) (Q : Int32 → Mm → Prop) : Prop :=
  w_X6_cell n x2 (4 : Int32) u0 (fun r1 u1 =>
  w_X6_cell n x2 (5 : Int32) u1 (fun r2 u2 =>
  w_X9_writeLetter n r1 r2 u2 (fun u3 =>
  w_X6_cell n x2 (17 : Int32) u3 (fun r3 u4 =>
  (r3 ≤ 0 → w_X9_write_76 n u4 Q) ∧
  (¬ r3 ≤ 0 → w_X6_ticksOf n x2 u4 (fun r4 u5 =>
  ¬ r3.toInt64 = 0 ∧ (w_X9_writeLength n r4 ((1290240 : Int64) / r3.toInt64) u5 (fun r5 u6 =>
  (r5 = 0 → w_X9_write_76 n u6 Q) ∧
  (¬ r5 = 0 → w_X9_write_77 n (1 : Int32) u6 Q)))))))))
def w_X9_write (n : Nat) (a1 : Int32) (u0 : Mm) (Q : Int32 → Mm → Prop) : Prop :=
  mlet (setI u0 40 1 (0 : Int32)) fun u1 =>
  w_X6_cell n a1 (18 : Int32) u1 (fun r1 u2 =>
  (r1 = 0 → w_X9_write_26 n a1 u2 Q) ∧
  (¬ r1 = 0 → w_X6_cell n a1 (6 : Int32) u2 (fun r2 u3 =>
  w_X9_writeSign n r2 u3 (fun u4 =>
  w_X9_write_26 n a1 u4 Q))))
set_option maxRecDepth 20000 in
theorem s_X9_write_77 {g : Gb} (hg : xInj g) {n : Nat} {Q : Int32 → Mm → Prop} {t0 : Int32} {u0 : Mm} (h : w_X9_write_77 n t0 u0 Q) : xE g me_X9_write (pI g Q noT) 77 [] [.int t0] u0 := by
  unfold w_X9_write_77 at h
  exact e_zret (k := 44) rfl rfl h.1 (Or.inl ⟨_, rfl, h.2⟩)
set_option maxRecDepth 20000 in
theorem s_X9_write_76 {g : Gb} (hg : xInj g) {n : Nat} {Q : Int32 → Mm → Prop} {u0 : Mm} (h : w_X9_write_76 n  u0 Q) : xE g me_X9_write (pI g Q noT) 76 [] [] u0 := by
  unfold w_X9_write_76 at h
  refine e_iconst (k := 43) (v := (0 : Int32)) rfl (by decide) ?_
  exact s_X9_write_77 hg h
set_option maxRecDepth 20000 in
theorem s_X9_write_26 {g : Gb} (hg : xInj g) {n : Nat} {Q : Int32 → Mm → Prop} {x2 : Int32} {u0 : Mm} (h : w_X9_write_26 n x2 u0 Q) : xE g me_X9_write (pI g Q noT) 26 [(0, .ref (gR g 40)), (1, .ref (gR g 36)), (2, .int x2)] [] u0 := by
  unfold w_X9_write_26 at h
  refine e_aload_n (k := 14) (i := 0) rfl rfl 0 rfl ?_
  refine e_aload_n (k := 15) (i := 1) rfl rfl 1 rfl ?_
  refine e_iload_n (k := 16) (i := 2) rfl rfl 2 rfl ?_
  refine e_iconst (k := 17) (v := (4 : Int32)) rfl (by decide) ?_
  refine e_callVi (k := 18) (q := 36) (As := [.int x2, .int (4 : Int32)]) (rest := [.ref (gR g 40)]) rfl (c_X6_cell (g := g) hg (n := n) h) m_X6_cell i_X6_cell l_X9_19 rfl ⟨_, rfl, rfl⟩ rfl rfl (Nat.le_of_ble_eq_true rfl) ⟨by decide, by decide, rfl, rfl⟩ (fun _ h => h.elim) (fun r1 u1 h => ?_)
  refine e_aload_n (k := 19) (i := 1) rfl rfl 1 rfl ?_
  refine e_iload_n (k := 20) (i := 2) rfl rfl 2 rfl ?_
  refine e_iconst (k := 21) (v := (5 : Int32)) rfl (by decide) ?_
  refine e_callVi (k := 22) (q := 36) (As := [.int x2, .int (5 : Int32)]) (rest := [.int r1, .ref (gR g 40)]) rfl (c_X6_cell (g := g) hg (n := n) h) m_X6_cell i_X6_cell l_X9_19 rfl ⟨_, rfl, rfl⟩ rfl rfl (Nat.le_of_ble_eq_true rfl) ⟨by decide, by decide, rfl, rfl⟩ (fun _ h => h.elim) (fun r2 u2 h => ?_)
  refine e_callVv (k := 23) (q := 40) (As := [.int r1, .int r2]) (rest := []) rfl (c_X9_writeLetter (g := g) hg (n := n) h) m_X9_writeLetter i_X9_writeLetter l_X9_29 rfl ⟨_, rfl, rfl⟩ rfl rfl (Nat.le_of_ble_eq_true rfl) ⟨by decide, by decide, rfl, rfl⟩ (fun _ h => h.elim) (fun u3 h => ?_)
  refine e_aload_n (k := 24) (i := 1) rfl rfl 1 rfl ?_
  refine e_iload_n (k := 25) (i := 2) rfl rfl 2 rfl ?_
  refine e_bipush (k := 26) (v := (17 : Int32)) rfl (by decide) ?_
  refine e_callVi (k := 27) (q := 36) (As := [.int x2, .int (17 : Int32)]) (rest := []) rfl (c_X6_cell (g := g) hg (n := n) h) m_X6_cell i_X6_cell l_X9_19 rfl ⟨_, rfl, rfl⟩ rfl rfl (Nat.le_of_ble_eq_true rfl) ⟨by decide, by decide, rfl, rfl⟩ (fun _ h => h.elim) (fun r3 u4 h => ?_)
  refine e_istore_n (k := 28) (i := 3) (lv' := [(0, .ref (gR g 40)), (1, .ref (gR g 36)), (2, .int x2), (3, .int r3)]) rfl rfl (by decide) [1, 2, 3, 0] rfl ?_
  refine e_iload_n (k := 29) (i := 3) rfl rfl 3 rfl ?_
  refine e_if_le (k := 30) (tgt := 76) rfl (by decide) (fun z => ?_) (fun z => ?_)
  · have h := h.1 z
    refine e_sub (lv' := []) [] rfl ?_
    exact s_X9_write_76 hg h
  · have h := h.2 z
    refine e_aload_n (k := 31) (i := 0) rfl rfl 0 rfl ?_
    refine e_aload_n (k := 32) (i := 1) rfl rfl 1 rfl ?_
    refine e_iload_n (k := 33) (i := 2) rfl rfl 2 rfl ?_
    refine e_callVl (k := 34) (q := 36) (As := [.int x2]) (rest := [.ref (gR g 40)]) rfl (c_X6_ticksOf (g := g) hg (n := n) h) m_X6_ticksOf i_X6_ticksOf l_X9_33 rfl ⟨_, rfl, rfl⟩ rfl rfl (Nat.le_of_ble_eq_true rfl) ⟨by decide, by decide, rfl, rfl⟩ (fun _ h => h.elim) (fun r4 u5 h => ?_)
    refine e_ldc2 (k := 35) rfl k_X9_37 ?_
    refine e_iload_n (k := 36) (i := 3) rfl rfl 3 rfl ?_
    refine e_i2l (k := 37) rfl ?_
    refine e_ldiv (k := 38) rfl h.1 ?_
    have h := h.2
    refine e_callVi (k := 39) (q := 40) (As := [.long r4, .long ((1290240 : Int64) / r3.toInt64)]) (rest := []) rfl (c_X9_writeLength (g := g) hg (n := n) h) m_X9_writeLength i_X9_writeLength l_X9_39 rfl ⟨_, rfl, rfl⟩ rfl rfl (Nat.le_of_ble_eq_true rfl) ⟨by decide, by decide, rfl, rfl⟩ (fun _ h => h.elim) (fun r5 u6 h => ?_)
    refine e_if_eq (k := 40) (tgt := 76) rfl (by decide) (fun z => ?_) (fun z => ?_)
    · have h := h.1 z
      refine e_sub (lv' := []) [] rfl ?_
      exact s_X9_write_76 hg h
    · have h := h.2 z
      refine e_iconst (k := 41) (v := (1 : Int32)) rfl (by decide) ?_
      refine e_goto (k := 42) (tgt := 77) rfl (by decide) ?_
      refine e_sub (lv' := []) [] rfl ?_
      exact s_X9_write_77 hg h
set_option maxRecDepth 20000 in
theorem c_X9_write {g : Gb} (hg : xInj g) {n : Nat} {a1 : Int32} {u0 : Mm} {Q : Int32 → Mm → Prop} (h : w_X9_write n a1 u0 Q) : xMet (gL g) yX9_write (xws yX9_write cX9_write 4 (some .boolean)) (xRoom 6) (xPc g [.ref (gR g 40), .ref (gR g 36), .int a1] u0) (xQ g (pI g Q noT)) (xA g) := by
  refine xbody (il := il_X9_write) hg il_X9_write_ok m_X9_write (Nat.le_of_ble_eq_true rfl) ?_
  show xE g me_X9_write (pI g Q noT) 0 [(0, .ref (gR g 40)), (1, .ref (gR g 36)), (2, .int a1)] [] u0
  unfold w_X9_write at h
  refine e_aload_n (k := 0) (i := 0) rfl rfl 0 rfl ?_
  refine e_iconst (k := 1) (v := (0 : Int32)) rfl (by decide) ?_
  refine e_putI (k := 2) rfl fg_X9_15 rfl rfl ?_
  refine e_mlet h (fun u1 h => ?_)
  refine e_aload_n (k := 3) (i := 1) rfl rfl 1 rfl ?_
  refine e_iload_n (k := 4) (i := 2) rfl rfl 2 rfl ?_
  refine e_bipush (k := 5) (v := (18 : Int32)) rfl (by decide) ?_
  refine e_callVi (k := 6) (q := 36) (As := [.int a1, .int (18 : Int32)]) (rest := []) rfl (c_X6_cell (g := g) hg (n := n) h) m_X6_cell i_X6_cell l_X9_19 rfl ⟨_, rfl, rfl⟩ rfl rfl (Nat.le_of_ble_eq_true rfl) ⟨by decide, by decide, rfl, rfl⟩ (fun _ h => h.elim) (fun r1 u2 h => ?_)
  refine e_if_eq (k := 7) (tgt := 26) rfl (by decide) (fun z => ?_) (fun z => ?_)
  · have h := h.1 z
    exact s_X9_write_26 hg h
  · have h := h.2 z
    refine e_aload_n (k := 8) (i := 0) rfl rfl 0 rfl ?_
    refine e_aload_n (k := 9) (i := 1) rfl rfl 1 rfl ?_
    refine e_iload_n (k := 10) (i := 2) rfl rfl 2 rfl ?_
    refine e_bipush (k := 11) (v := (6 : Int32)) rfl (by decide) ?_
    refine e_callVi (k := 12) (q := 36) (As := [.int a1, .int (6 : Int32)]) (rest := [.ref (gR g 40)]) rfl (c_X6_cell (g := g) hg (n := n) h) m_X6_cell i_X6_cell l_X9_19 rfl ⟨_, rfl, rfl⟩ rfl rfl (Nat.le_of_ble_eq_true rfl) ⟨by decide, by decide, rfl, rfl⟩ (fun _ h => h.elim) (fun r2 u3 h => ?_)
    refine e_callVv (k := 13) (q := 40) (As := [.int r2]) (rest := []) rfl (c_X9_writeSign (g := g) hg (n := n) h) m_X9_writeSign i_X9_writeSign l_X9_25 rfl ⟨_, rfl, rfl⟩ rfl rfl (Nat.le_of_ble_eq_true rfl) ⟨by decide, by decide, rfl, rfl⟩ (fun _ h => h.elim) (fun u4 h => ?_)
    exact s_X9_write_26 hg h
def il_X0_readKey : List (Nat × Instr × Nat) := [(0, .aload_n 0, 1), (1, .getfield 9, 3), (4, .getfield 45, 3), (7, .istore_n 1, 1), (8, .aload_n 0, 1), (9, .iconst 0, 1), (10, .putfield 57, 3), (13, .aload_n 0, 1), (14, .getfield 9, 3), (17, .ldc 19, 2), (19, .invokevirtual 21, 3), (22, .ifCond .eq 4, 3), (25, .return_, 1), (26, .aload_n 0, 1), (27, .getfield 9, 3), (30, .iconst 0, 1), (31, .invokevirtual 41, 3), (34, .istore_n 2, 1), (35, .iload_n 2, 1), (36, .bipush 65, 2), (38, .if_icmp .lt 9, 3), (41, .iload_n 2, 1), (42, .bipush 71, 2), (44, .if_icmp .le 13, 3), (47, .aload_n 0, 1), (48, .getfield 9, 3), (51, .iconst 1, 1), (52, .iload_n 1, 1), (53, .invokevirtual 48, 3), (56, .return_, 1), (57, .aload_n 0, 1), (58, .ldc 60, 2), (60, .iload_n 2, 1), (61, .i2c, 1), (62, .invokevirtual 62, 3), (65, .iconst 1, 1), (66, .isub, 1), (67, .putfield 57, 3), (70, .aload_n 0, 1), (71, .getfield 9, 3), (74, .dup, 1), (75, .getfield 45, 3), (78, .iconst 1, 1), (79, .iadd, 1), (80, .putfield 45, 3), (83, .aload_n 0, 1), (84, .getfield 9, 3), (87, .ldc 67, 2), (89, .invokevirtual 21, 3), (92, .ifCond .eq 17, 3), (95, .aload_n 0, 1), (96, .dup, 1), (97, .getfield 57, 3), (100, .bipush 7, 2), (102, .iadd, 1), (103, .putfield 57, 3), (106, .goto 26, 3), (109, .aload_n 0, 1), (110, .getfield 9, 3), (113, .ldc 69, 2), (115, .invokevirtual 21, 3), (118, .ifCond .eq 14, 3), (121, .aload_n 0, 1), (122, .dup, 1), (123, .getfield 57, 3), (126, .bipush 7, 2), (128, .isub, 1), (129, .putfield 57, 3), (132, .aload_n 0, 1), (133, .dup, 1), (134, .getfield 57, 3), (137, .aload_n 0, 1), (138, .invokevirtual 71, 3), (141, .iadd, 1), (142, .putfield 57, 3), (145, .aload_n 0, 1), (146, .getfield 57, 3), (149, .invokestatic 75, 3), (152, .bipush 7, 2), (154, .if_icmp .le 12, 3), (157, .aload_n 0, 1), (158, .getfield 9, 3), (161, .iconst 3, 1), (162, .iload_n 1, 1), (163, .invokevirtual 48, 3), (166, .return_, 1)]
set_option maxRecDepth 20000 in
theorem il_X0_readKey_ok : ∀ x ∈ il_X0_readKey, decode cX0_readKey x.1 = .ok x.2 := by decide +kernel
abbrev me_X0_readKey : Me := (RX0, il_X0_readKey, 3, none, xRoom 7, [])
def w_X0_readKey_166 (n : Nat) (u0 : Mm) (Q : Mm → Prop) : Prop :=
  Q u0
def w_X0_readKey_132 (n : Nat) (x1 : Int32) (u0 : Mm) (Q : Mm → Prop) : Prop :=
  w_X0_readMode n u0 (fun r1 u1 =>
  mlet (setI u1 34 4 ((u0.1 34 4) + r1)) fun u2 =>
  ((if 0 ≤ (u2.1 34 4) then (u2.1 34 4) else 0 - (u2.1 34 4)) ≤ (7 : Int32) → w_X0_readKey_166 n u2 Q) ∧
  (¬ (if 0 ≤ (u2.1 34 4) then (u2.1 34 4) else 0 - (u2.1 34 4)) ≤ (7 : Int32) → w_X5_fail n (3 : Int32) x1 u2 (fun u3 =>
  w_X0_readKey_166 n u3 Q)))
def w_X0_readKey_47 (n : Nat) (x1 : Int32) (u0 : Mm) (Q : Mm → Prop) : Prop :=
  w_X5_fail n (1 : Int32) x1 u0 (fun u1 =>
  Q u1)
def w_X0_readKey (n : Nat) (u0 : Mm) (Q : Mm → Prop) : Prop :=
  ilet (u0.1 33 2) fun y1 =>
  mlet (setI u0 34 4 (0 : Int32)) fun u1 =>
  w_X5_takeWord n 0 u1 (fun r1 u2 =>
  (r1 = 0 → w_X5_peek n (0 : Int32) u2 (fun r2 u3 =>
  (r2 < (65 : Int32) → w_X0_readKey_47 n y1 u3 Q) ∧
  (¬ r2 < (65 : Int32) → (r2 ≤ (71 : Int32) → w_J0_indexOf_0f7a4 n 3 (r2.toUInt32 % 65536).toInt32 u3 (fun r3 u4 =>
  mlet (setI u4 34 4 (r3 - (1 : Int32))) fun u5 =>
  mlet (setI u5 33 2 ((u5.1 33 2) + (1 : Int32))) fun u6 =>
  w_X5_takeWord n 4 u6 (fun r4 u7 =>
  (r4 = 0 → w_X5_takeWord n 5 u7 (fun r5 u8 =>
  (r5 = 0 → w_X0_readKey_132 n y1 u8 Q) ∧
  (¬ r5 = 0 → mlet (setI u8 34 4 ((u8.1 34 4) - (7 : Int32))) fun u9 =>
  w_X0_readKey_132 n y1 u9 Q))) ∧
  (¬ r4 = 0 → mlet (setI u7 34 4 ((u7.1 34 4) + (7 : Int32))) fun u10 =>
  w_X0_readKey_132 n y1 u10 Q)))) ∧
  (¬ r2 ≤ (71 : Int32) → w_X0_readKey_47 n y1 u3 Q)))) ∧
  (¬ r1 = 0 → Q u2))
set_option maxRecDepth 20000 in
theorem s_X0_readKey_166 {g : Gb} (hg : xInj g) {n : Nat} {Q : Mm → Prop} {u0 : Mm} (h : w_X0_readKey_166 n  u0 Q) : xE g me_X0_readKey (pV g Q noT) 166 [] [] u0 := by
  unfold w_X0_readKey_166 at h
  exact e_vret (k := 85) rfl rfl (Or.inl ⟨rfl, h⟩)
set_option maxRecDepth 20000 in
theorem s_X0_readKey_132 {g : Gb} (hg : xInj g) {n : Nat} {Q : Mm → Prop} {x1 : Int32} {u0 : Mm} (h : w_X0_readKey_132 n x1 u0 Q) : xE g me_X0_readKey (pV g Q noT) 132 [(0, .ref (gR g 34)), (1, .int x1)] [] u0 := by
  unfold w_X0_readKey_132 at h
  refine e_aload_n (k := 68) (i := 0) rfl rfl 0 rfl ?_
  refine e_dup (k := 69) rfl rfl ?_
  refine e_getI (k := 70) rfl f_X0_57 rfl rfl ?_
  refine e_aload_n (k := 71) (i := 0) rfl rfl 0 rfl ?_
  refine e_callVi (k := 72) (q := 34) (As := []) (rest := [.int (u0.1 34 4), .ref (gR g 34)]) rfl (c_X0_readMode (g := g) hg (n := n) h) m_X0_readMode i_X0_readMode l_X0_71 rfl ⟨_, rfl, rfl⟩ rfl rfl (Nat.le_of_ble_eq_true rfl) ⟨by decide, by decide, rfl, rfl⟩ (fun _ h => h.elim) (fun r1 u1 h => ?_)
  refine e_iadd (k := 73) rfl ?_
  refine e_putI (k := 74) rfl fg_X0_57 rfl rfl ?_
  refine e_mlet h (fun u2 h => ?_)
  refine e_aload_n (k := 75) (i := 0) rfl rfl 0 rfl ?_
  refine e_getI (k := 76) rfl f_X0_57 rfl rfl ?_
  refine e_mabs (k := 77) rfl l_X0_75 st_J9_abs_0f7a4 h9_ini h9_abs (by decide) (Nat.le_of_ble_eq_true rfl) ?_
  refine e_bipush (k := 78) (v := (7 : Int32)) rfl (by decide) ?_
  refine e_icmp_le (k := 79) (tgt := 166) rfl (by decide) (fun z => ?_) (fun z => ?_)
  · have h := h.1 z
    refine e_sub (lv' := []) [] rfl ?_
    exact s_X0_readKey_166 hg h
  · have h := h.2 z
    refine e_aload_n (k := 80) (i := 0) rfl rfl 0 rfl ?_
    refine e_getC (k := 81) rfl f_X0_9 rfl rfl ?_
    refine e_iconst (k := 82) (v := (3 : Int32)) rfl (by decide) ?_
    refine e_iload_n (k := 83) (i := 1) rfl rfl 1 rfl ?_
    refine e_callVv (k := 84) (q := 33) (As := [.int (3 : Int32), .int x1]) (rest := []) rfl (c_X5_fail (g := g) hg (n := n) h) m_X5_fail i_X5_fail l_X0_48 rfl ⟨_, rfl, rfl⟩ rfl rfl (Nat.le_of_ble_eq_true rfl) ⟨by decide, by decide, rfl, rfl⟩ (fun _ h => h.elim) (fun u3 h => ?_)
    refine e_sub (lv' := []) [] rfl ?_
    exact s_X0_readKey_166 hg h
set_option maxRecDepth 20000 in
theorem s_X0_readKey_47 {g : Gb} (hg : xInj g) {n : Nat} {Q : Mm → Prop} {x1 : Int32} {u0 : Mm} (h : w_X0_readKey_47 n x1 u0 Q) : xE g me_X0_readKey (pV g Q noT) 47 [(0, .ref (gR g 34)), (1, .int x1)] [] u0 := by
  unfold w_X0_readKey_47 at h
  refine e_aload_n (k := 24) (i := 0) rfl rfl 0 rfl ?_
  refine e_getC (k := 25) rfl f_X0_9 rfl rfl ?_
  refine e_iconst (k := 26) (v := (1 : Int32)) rfl (by decide) ?_
  refine e_iload_n (k := 27) (i := 1) rfl rfl 1 rfl ?_
  refine e_callVv (k := 28) (q := 33) (As := [.int (1 : Int32), .int x1]) (rest := []) rfl (c_X5_fail (g := g) hg (n := n) h) m_X5_fail i_X5_fail l_X0_48 rfl ⟨_, rfl, rfl⟩ rfl rfl (Nat.le_of_ble_eq_true rfl) ⟨by decide, by decide, rfl, rfl⟩ (fun _ h => h.elim) (fun u1 h => ?_)
  exact e_vret (k := 29) rfl rfl (Or.inl ⟨rfl, h⟩)
set_option maxRecDepth 20000 in
theorem c_X0_readKey {g : Gb} (hg : xInj g) {n : Nat} {u0 : Mm} {Q : Mm → Prop} (h : w_X0_readKey n u0 Q) : xMet (gL g) yX0_readKey (xws yX0_readKey cX0_readKey 3 none) (xRoom 7) (xPc g [.ref (gR g 34)] u0) (xQ g (pV g Q noT)) (xA g) := by
  refine xbody (il := il_X0_readKey) hg il_X0_readKey_ok m_X0_readKey (Nat.le_of_ble_eq_true rfl) ?_
  show xE g me_X0_readKey (pV g Q noT) 0 [(0, .ref (gR g 34))] [] u0
  unfold w_X0_readKey at h
  refine e_aload_n (k := 0) (i := 0) rfl rfl 0 rfl ?_
  refine e_getC (k := 1) rfl f_X0_9 rfl rfl ?_
  refine e_getI (k := 2) rfl f_X0_45 rfl rfl ?_
  refine e_ilet h (fun y1 h => ?_)
  refine e_istore_n (k := 3) (i := 1) (lv' := [(0, .ref (gR g 34)), (1, .int y1)]) rfl rfl (by decide) [1, 0] rfl ?_
  refine e_aload_n (k := 4) (i := 0) rfl rfl 0 rfl ?_
  refine e_iconst (k := 5) (v := (0 : Int32)) rfl (by decide) ?_
  refine e_putI (k := 6) rfl fg_X0_57 rfl rfl ?_
  refine e_mlet h (fun u1 h => ?_)
  refine e_aload_n (k := 7) (i := 0) rfl rfl 0 rfl ?_
  refine e_getC (k := 8) rfl f_X0_9 rfl rfl ?_
  refine e_ldcS (k := 9) (j := 0) rfl rfl ?_
  refine e_callVi (k := 10) (q := 33) (As := [.ref (gK g 0)]) (rest := []) rfl (c_X5_takeWord (g := g) hg (n := n) (by decide) h) m_X5_takeWord i_X5_takeWord l_X0_21 rfl ⟨_, rfl, rfl⟩ rfl rfl (Nat.le_of_ble_eq_true rfl) ⟨by decide, by decide, rfl, rfl⟩ (fun _ h => h.elim) (fun r1 u2 h => ?_)
  refine e_if_eq (k := 11) (tgt := 26) rfl (by decide) (fun z => ?_) (fun z => ?_)
  · have h := h.1 z
    refine e_aload_n (k := 13) (i := 0) rfl rfl 0 rfl ?_
    refine e_getC (k := 14) rfl f_X0_9 rfl rfl ?_
    refine e_iconst (k := 15) (v := (0 : Int32)) rfl (by decide) ?_
    refine e_callVi (k := 16) (q := 33) (As := [.int (0 : Int32)]) (rest := []) rfl (c_X5_peek (g := g) hg (n := n) h) m_X5_peek i_X5_peek l_X0_41 rfl ⟨_, rfl, rfl⟩ rfl rfl (Nat.le_of_ble_eq_true rfl) ⟨by decide, by decide, rfl, rfl⟩ (fun _ h => h.elim) (fun r2 u3 h => ?_)
    refine e_istore_n (k := 17) (i := 2) (lv' := [(0, .ref (gR g 34)), (1, .int y1), (2, .int r2)]) rfl rfl (by decide) [1, 2, 0] rfl ?_
    refine e_iload_n (k := 18) (i := 2) rfl rfl 2 rfl ?_
    refine e_bipush (k := 19) (v := (65 : Int32)) rfl (by decide) ?_
    refine e_icmp_lt (k := 20) (tgt := 47) rfl (by decide) (fun z => ?_) (fun z => ?_)
    · have h := h.1 z
      refine e_sub (lv' := [(0, .ref (gR g 34)), (1, .int y1)]) [0, 1] rfl ?_
      exact s_X0_readKey_47 hg h
    · have h := h.2 z
      refine e_iload_n (k := 21) (i := 2) rfl rfl 2 rfl ?_
      refine e_bipush (k := 22) (v := (71 : Int32)) rfl (by decide) ?_
      refine e_icmp_le (k := 23) (tgt := 57) rfl (by decide) (fun z => ?_) (fun z => ?_)
      · have h := h.1 z
        refine e_aload_n (k := 30) (i := 0) rfl rfl 0 rfl ?_
        refine e_ldcS (k := 31) (j := 3) rfl rfl ?_
        refine e_iload_n (k := 32) (i := 2) rfl rfl 2 rfl ?_
        refine e_i2c (k := 33) rfl ?_
        refine e_callKi (k := 34) (j := 3) (As := [.int (r2.toUInt32 % 65536).toInt32]) (rest := [.ref (gR g 34)]) rfl (c_J0_indexOf_0f7a4 (g := g) hg (n := n) (by decide) h) m_J0_indexOf_0f7a4 i_J0_indexOf_0f7a4 l_X0_62 (by decide) rfl rfl rfl (Nat.le_of_ble_eq_true rfl) ⟨by decide, by decide, rfl, rfl⟩ (fun r3 u4 h => ?_)
        refine e_iconst (k := 35) (v := (1 : Int32)) rfl (by decide) ?_
        refine e_isub (k := 36) rfl ?_
        refine e_putI (k := 37) rfl fg_X0_57 rfl rfl ?_
        refine e_mlet h (fun u5 h => ?_)
        refine e_aload_n (k := 38) (i := 0) rfl rfl 0 rfl ?_
        refine e_getC (k := 39) rfl f_X0_9 rfl rfl ?_
        refine e_dup (k := 40) rfl rfl ?_
        refine e_getI (k := 41) rfl f_X0_45 rfl rfl ?_
        refine e_iconst (k := 42) (v := (1 : Int32)) rfl (by decide) ?_
        refine e_iadd (k := 43) rfl ?_
        refine e_putI (k := 44) rfl fg_X0_45 rfl rfl ?_
        refine e_mlet h (fun u6 h => ?_)
        refine e_aload_n (k := 45) (i := 0) rfl rfl 0 rfl ?_
        refine e_getC (k := 46) rfl f_X0_9 rfl rfl ?_
        refine e_ldcS (k := 47) (j := 4) rfl rfl ?_
        refine e_callVi (k := 48) (q := 33) (As := [.ref (gK g 4)]) (rest := []) rfl (c_X5_takeWord (g := g) hg (n := n) (by decide) h) m_X5_takeWord i_X5_takeWord l_X0_21 rfl ⟨_, rfl, rfl⟩ rfl rfl (Nat.le_of_ble_eq_true rfl) ⟨by decide, by decide, rfl, rfl⟩ (fun _ h => h.elim) (fun r4 u7 h => ?_)
        refine e_if_eq (k := 49) (tgt := 109) rfl (by decide) (fun z => ?_) (fun z => ?_)
        · have h := h.1 z
          refine e_aload_n (k := 57) (i := 0) rfl rfl 0 rfl ?_
          refine e_getC (k := 58) rfl f_X0_9 rfl rfl ?_
          refine e_ldcS (k := 59) (j := 5) rfl rfl ?_
          refine e_callVi (k := 60) (q := 33) (As := [.ref (gK g 5)]) (rest := []) rfl (c_X5_takeWord (g := g) hg (n := n) (by decide) h) m_X5_takeWord i_X5_takeWord l_X0_21 rfl ⟨_, rfl, rfl⟩ rfl rfl (Nat.le_of_ble_eq_true rfl) ⟨by decide, by decide, rfl, rfl⟩ (fun _ h => h.elim) (fun r5 u8 h => ?_)
          refine e_if_eq (k := 61) (tgt := 132) rfl (by decide) (fun z => ?_) (fun z => ?_)
          · have h := h.1 z
            refine e_sub (lv' := [(0, .ref (gR g 34)), (1, .int y1)]) [0, 1] rfl ?_
            exact s_X0_readKey_132 hg h
          · have h := h.2 z
            refine e_aload_n (k := 62) (i := 0) rfl rfl 0 rfl ?_
            refine e_dup (k := 63) rfl rfl ?_
            refine e_getI (k := 64) rfl f_X0_57 rfl rfl ?_
            refine e_bipush (k := 65) (v := (7 : Int32)) rfl (by decide) ?_
            refine e_isub (k := 66) rfl ?_
            refine e_putI (k := 67) rfl fg_X0_57 rfl rfl ?_
            refine e_mlet h (fun u9 h => ?_)
            refine e_sub (lv' := [(0, .ref (gR g 34)), (1, .int y1)]) [0, 1] rfl ?_
            exact s_X0_readKey_132 hg h
        · have h := h.2 z
          refine e_aload_n (k := 50) (i := 0) rfl rfl 0 rfl ?_
          refine e_dup (k := 51) rfl rfl ?_
          refine e_getI (k := 52) rfl f_X0_57 rfl rfl ?_
          refine e_bipush (k := 53) (v := (7 : Int32)) rfl (by decide) ?_
          refine e_iadd (k := 54) rfl ?_
          refine e_putI (k := 55) rfl fg_X0_57 rfl rfl ?_
          refine e_mlet h (fun u10 h => ?_)
          refine e_goto (k := 56) (tgt := 132) rfl (by decide) ?_
          refine e_sub (lv' := [(0, .ref (gR g 34)), (1, .int y1)]) [0, 1] rfl ?_
          exact s_X0_readKey_132 hg h
      · have h := h.2 z
        refine e_sub (lv' := [(0, .ref (gR g 34)), (1, .int y1)]) [0, 1] rfl ?_
        exact s_X0_readKey_47 hg h
  · have h := h.2 z
    exact e_vret (k := 12) rfl rfl (Or.inl ⟨rfl, h⟩)
def il_X10_written : List (Nat × Instr × Nat) := [(0, .aload_n 0, 1), (1, .iload_n 1, 1), (2, .invokevirtual 134, 3), (5, .ifCond .eq 23, 3), (8, .aload_n 0, 1), (9, .getfield 36, 3), (12, .getfield 108, 3), (15, .iload_n 1, 1), (16, .iconst 0, 1), (17, .invokevirtual 138, 3), (20, .ifCond .ne 8, 3), (23, .iload_n 2, 1), (24, .iconst (-1), 1), (25, .if_icmp .ge 5, 3), (28, .iconst (-1), 1), (29, .ireturn, 1), (30, .aload_n 0, 1), (31, .getfield 64, 3), (34, .aload_n 0, 1), (35, .getfield 36, 3), (38, .getfield 108, 3), (41, .iload_n 1, 1), (42, .invokevirtual 178, 3), (45, .ifCond .ne 5, 3), (48, .iconst (-1), 1), (49, .ireturn, 1), (50, .iload_n 2, 1), (51, .iconst (-1), 1), (52, .if_icmp .ne 13, 3), (55, .aload_n 0, 1), (56, .getfield 64, 3), (59, .getfield 182, 3), (62, .goto 11, 3), (65, .aload_n 0, 1), (66, .getfield 64, 3), (69, .iload_n 2, 1), (70, .invokevirtual 183, 3), (73, .ireturn, 1)]
set_option maxRecDepth 20000 in
theorem il_X10_written_ok : ∀ x ∈ il_X10_written, decode cX10_written x.1 = .ok x.2 := by decide +kernel
abbrev me_X10_written : Me := (RX10, il_X10_written, 3, (some .int), xRoom 7, [])
def w_X10_written_73 (n : Nat) (t0 : Int32) (u0 : Mm) (Q : Int32 → Mm → Prop) : Prop :=
  Q t0 u0
def w_X10_written_28 (n : Nat) (u0 : Mm) (Q : Int32 → Mm → Prop) : Prop :=
  Q (-1 : Int32) u0
def w_X10_written (n : Nat) (a0 : Int32) (a1 : Int32) (u0 : Mm) (Q : Int32 → Mm → Prop) : Prop :=
  w_X10_hasThing n a0 u0 (fun r1 u1 =>
  (r1 = 0 → w_X10_written_28 n u1 Q) ∧
  (¬ r1 = 0 → w_X6_cell n a0 (0 : Int32) u1 (fun r2 u2 =>
  (¬ r2 = 0 → w_X10_written_28 n u2 Q) ∧
  (r2 = 0 → ((-1 : Int32) ≤ a1 → w_X9_write n a0 u2 (fun r3 u3 =>
  (¬ r3 = 0 → (¬ a1 = (-1 : Int32) → w_X9_byteAt n a1 u3 (fun r4 u4 =>
  w_X10_written_73 n r4 u4 Q)) ∧
  (a1 = (-1 : Int32) → w_X10_written_73 n (u3.1 40 1) u3 Q)) ∧
  (r3 = 0 → Q (-1 : Int32) u3))) ∧
  (¬ (-1 : Int32) ≤ a1 → w_X10_written_28 n u2 Q)))))
set_option maxRecDepth 20000 in
theorem s_X10_written_73 {g : Gb} (hg : xInj g) {n : Nat} {Q : Int32 → Mm → Prop} {t0 : Int32} {u0 : Mm} (h : w_X10_written_73 n t0 u0 Q) : xE g me_X10_written (pI g Q noT) 73 [] [.int t0] u0 := by
  unfold w_X10_written_73 at h
  exact e_iret (k := 37) rfl rfl (Or.inl ⟨_, rfl, h⟩)
set_option maxRecDepth 20000 in
theorem s_X10_written_28 {g : Gb} (hg : xInj g) {n : Nat} {Q : Int32 → Mm → Prop} {u0 : Mm} (h : w_X10_written_28 n  u0 Q) : xE g me_X10_written (pI g Q noT) 28 [] [] u0 := by
  unfold w_X10_written_28 at h
  refine e_iconst (k := 14) (v := (-1 : Int32)) rfl (by decide) ?_
  exact e_iret (k := 15) rfl rfl (Or.inl ⟨_, rfl, h⟩)
set_option maxRecDepth 20000 in
theorem c_X10_written {g : Gb} (hg : xInj g) {n : Nat} {a0 : Int32} {a1 : Int32} {u0 : Mm} {Q : Int32 → Mm → Prop} (h : w_X10_written n a0 a1 u0 Q) : xMet (gL g) yX10_written (xws yX10_written cX10_written 3 (some .int)) (xRoom 7) (xPc g [.ref (gR g 32), .int a0, .int a1] u0) (xQ g (pI g Q noT)) (xA g) := by
  refine xbody (il := il_X10_written) hg il_X10_written_ok m_X10_written (Nat.le_of_ble_eq_true rfl) ?_
  show xE g me_X10_written (pI g Q noT) 0 [(0, .ref (gR g 32)), (1, .int a0), (2, .int a1)] [] u0
  unfold w_X10_written at h
  refine e_aload_n (k := 0) (i := 0) rfl rfl 0 rfl ?_
  refine e_iload_n (k := 1) (i := 1) rfl rfl 1 rfl ?_
  refine e_callVi (k := 2) (q := 32) (As := [.int a0]) (rest := []) rfl (c_X10_hasThing (g := g) hg (n := n) h) m_X10_hasThing i_X10_hasThing l_X10_134 rfl ⟨_, rfl, rfl⟩ rfl rfl (Nat.le_of_ble_eq_true rfl) ⟨by decide, by decide, rfl, rfl⟩ (fun _ h => h.elim) (fun r1 u1 h => ?_)
  refine e_if_eq (k := 3) (tgt := 28) rfl (by decide) (fun z => ?_) (fun z => ?_)
  · have h := h.1 z
    refine e_sub (lv' := []) [] rfl ?_
    exact s_X10_written_28 hg h
  · have h := h.2 z
    refine e_aload_n (k := 4) (i := 0) rfl rfl 0 rfl ?_
    refine e_getC (k := 5) rfl f_X10_36 rfl rfl ?_
    refine e_getC (k := 6) rfl f_X10_108 rfl rfl ?_
    refine e_iload_n (k := 7) (i := 1) rfl rfl 1 rfl ?_
    refine e_iconst (k := 8) (v := (0 : Int32)) rfl (by decide) ?_
    refine e_callVi (k := 9) (q := 36) (As := [.int a0, .int (0 : Int32)]) (rest := []) rfl (c_X6_cell (g := g) hg (n := n) h) m_X6_cell i_X6_cell l_X10_138 rfl ⟨_, rfl, rfl⟩ rfl rfl (Nat.le_of_ble_eq_true rfl) ⟨by decide, by decide, rfl, rfl⟩ (fun _ h => h.elim) (fun r2 u2 h => ?_)
    refine e_if_ne (k := 10) (tgt := 28) rfl (by decide) (fun z => ?_) (fun z => ?_)
    · have h := h.1 z
      refine e_sub (lv' := []) [] rfl ?_
      exact s_X10_written_28 hg h
    · have h := h.2 z
      refine e_iload_n (k := 11) (i := 2) rfl rfl 2 rfl ?_
      refine e_iconst (k := 12) (v := (-1 : Int32)) rfl (by decide) ?_
      refine e_icmp_ge (k := 13) (tgt := 30) rfl (by decide) (fun z => ?_) (fun z => ?_)
      · have h := h.1 z
        refine e_aload_n (k := 16) (i := 0) rfl rfl 0 rfl ?_
        refine e_getC (k := 17) rfl f_X10_64 rfl rfl ?_
        refine e_aload_n (k := 18) (i := 0) rfl rfl 0 rfl ?_
        refine e_getC (k := 19) rfl f_X10_36 rfl rfl ?_
        refine e_getC (k := 20) rfl f_X10_108 rfl rfl ?_
        refine e_iload_n (k := 21) (i := 1) rfl rfl 1 rfl ?_
        refine e_callVi (k := 22) (q := 40) (As := [.ref (gR g 36), .int a0]) (rest := []) rfl (c_X9_write (g := g) hg (n := n) h) m_X9_write i_X9_write l_X10_178 rfl ⟨_, rfl, rfl⟩ rfl rfl (Nat.le_of_ble_eq_true rfl) ⟨by decide, by decide, rfl, rfl⟩ (fun _ h => h.elim) (fun r3 u3 h => ?_)
        refine e_if_ne (k := 23) (tgt := 50) rfl (by decide) (fun z => ?_) (fun z => ?_)
        · have h := h.1 z
          refine e_iload_n (k := 26) (i := 2) rfl rfl 2 rfl ?_
          refine e_iconst (k := 27) (v := (-1 : Int32)) rfl (by decide) ?_
          refine e_icmp_ne (k := 28) (tgt := 65) rfl (by decide) (fun z => ?_) (fun z => ?_)
          · have h := h.1 z
            refine e_aload_n (k := 33) (i := 0) rfl rfl 0 rfl ?_
            refine e_getC (k := 34) rfl f_X10_64 rfl rfl ?_
            refine e_iload_n (k := 35) (i := 2) rfl rfl 2 rfl ?_
            refine e_callVi (k := 36) (q := 40) (As := [.int a1]) (rest := []) rfl (c_X9_byteAt (g := g) hg (n := n) h) m_X9_byteAt i_X9_byteAt l_X10_183 rfl ⟨_, rfl, rfl⟩ rfl rfl (Nat.le_of_ble_eq_true rfl) ⟨by decide, by decide, rfl, rfl⟩ (fun _ h => h.elim) (fun r4 u4 h => ?_)
            refine e_sub (lv' := []) [] rfl ?_
            exact s_X10_written_73 hg h
          · have h := h.2 z
            refine e_aload_n (k := 29) (i := 0) rfl rfl 0 rfl ?_
            refine e_getC (k := 30) rfl f_X10_64 rfl rfl ?_
            refine e_getI (k := 31) rfl f_X10_182 rfl rfl ?_
            refine e_goto (k := 32) (tgt := 73) rfl (by decide) ?_
            refine e_sub (lv' := []) [] rfl ?_
            exact s_X10_written_73 hg h
        · have h := h.2 z
          refine e_iconst (k := 24) (v := (-1 : Int32)) rfl (by decide) ?_
          exact e_iret (k := 25) rfl rfl (Or.inl ⟨_, rfl, h⟩)
      · have h := h.2 z
        refine e_sub (lv' := []) [] rfl ?_
        exact s_X10_written_28 hg h
def il_X12_readBroken : List (Nat × Instr × Nat) := [(0, .aload_n 0, 1), (1, .getfield 138, 3), (4, .istore_n 1, 1), (5, .aload_n 0, 1), (6, .invokevirtual 162, 3), (9, .istore_n 2, 1), (10, .aload_n 0, 1), (11, .getfield 423, 3), (14, .ifCond .ge 9, 3), (17, .aload_n 0, 1), (18, .iconst 5, 1), (19, .iload_n 1, 1), (20, .invokevirtual 148, 3), (23, .iconst 0, 1), (24, .istore_n 3, 1), (25, .aload_n 0, 1), (26, .iload_n 2, 1), (27, .invokevirtual 166, 3), (30, .ifCond .eq 24, 3), (33, .iload_n 3, 1), (34, .iconst 3, 1), (35, .if_icmp .ge 19, 3), (38, .iinc 3 1, 3), (41, .aload_n 0, 1), (42, .dup, 1), (43, .getfield 138, 3), (46, .iconst 1, 1), (47, .iadd, 1), (48, .putfield 138, 3), (51, .goto (-26), 3), (54, .aload_n 0, 1), (55, .invokevirtual 241, 3), (58, .aload_n 0, 1), (59, .invokevirtual 426, 3), (62, .ifCond .ne 12, 3), (65, .aload_n 0, 1), (66, .iconst 5, 1), (67, .aload_n 0, 1), (68, .getfield 138, 3), (71, .invokevirtual 148, 3), (74, .iconst 2, 1), (75, .iload_n 3, 1), (76, .ishl, 1), (77, .iconst 1, 1), (78, .isub, 1), (79, .istore 4, 2), (81, .iconst 1, 1), (82, .iload_n 3, 1), (83, .ishl, 1), (84, .istore 5, 2), (86, .iload_n 2, 1), (87, .bipush 62, 2), (89, .if_icmp .ne 8, 3), (92, .iload 4, 2), (94, .goto 4, 3), (97, .iconst 1, 1), (98, .istore 6, 2), (100, .aload_n 0, 1), (101, .getfield 423, 3), (104, .istore 7, 2), (106, .aload_n 0, 1), (107, .getfield 40, 3), (110, .iload 7, 2), (112, .laload, 1), (113, .lstore 8, 2), (115, .aload_n 0, 1), (116, .iload 7, 2), (118, .iconst 0, 1), (119, .invokevirtual 293, 3), (122, .ifCond .ne 14, 3), (125, .aload_n 0, 1), (126, .iload 7, 2), (128, .bipush 9, 2), (130, .invokevirtual 293, 3), (133, .goto 4, 3), (136, .iconst 1, 1), (137, .istore 10, 2), (139, .iload 7, 2), (141, .istore 11, 2), (143, .iload 11, 2), (145, .iload 7, 2), (147, .iload 10, 2), (149, .iadd, 1), (150, .if_icmp .ge 42, 3), (153, .aload_n 0, 1), (154, .getfield 40, 3), (157, .iload 11, 2), (159, .aload_n 0, 1), (160, .aload_n 0, 1), (161, .getfield 40, 3), (164, .iload 11, 2), (166, .laload, 1), (167, .iload 6, 2), (169, .i2l, 1), (170, .lmul, 1), (171, .iload 5, 2), (173, .i2l, 1), (174, .aload_n 0, 1), (175, .iload 11, 2), (177, .bipush 16, 2), (179, .invokevirtual 293, 3), (182, .invokevirtual 365, 3), (185, .lastore, 1), (186, .iinc 11 1, 3), (189, .goto (-46), 3), (192, .aload_n 0, 1), (193, .aload_n 0, 1), (194, .getfield 40, 3), (197, .iload 7, 2), (199, .laload, 1), (200, .lload 8, 2), (202, .lsub, 1), (203, .invokevirtual 419, 3), (206, .aload_n 0, 1), (207, .iload_n 2, 1), (208, .bipush 62, 2), (210, .if_icmp .ne 7, 3), (213, .iconst 1, 1), (214, .goto 5, 3), (217, .iload 4, 2), (219, .putfield 359, 3), (222, .aload_n 0, 1), (223, .iload 5, 2), (225, .putfield 362, 3), (228, .aload_n 0, 1), (229, .invokevirtual 429, 3), (232, .aload_n 0, 1), (233, .aload_n 0, 1), (234, .getfield 423, 3), (237, .putfield 432, 3), (240, .return_, 1)]
set_option maxRecDepth 20000 in
theorem il_X12_readBroken_ok : ∀ x ∈ il_X12_readBroken, decode cX12_readBroken x.1 = .ok x.2 := by decide +kernel
abbrev me_X12_readBroken : Me := (RX12, il_X12_readBroken, 12, none, xRoom 7, [])
def w_X12_readBroken_219 (n : Nat) (x5 : Int32) (t0 : Int32) (u0 : Mm) (Q : Mm → Prop) (T : Mm → Prop) : Prop :=
  mlet (setI u0 0 59 t0) fun u1 =>
  mlet (setI u1 0 60 x5) fun u2 =>
  w_X12_readTimed n u2 (fun u3 =>
  mlet (setI u3 0 63 (u3.1 0 49)) fun u4 =>
  Q u4) T
def w_X12_readBroken_143 (n : Nat) (Q : Mm → Prop) (T : Mm → Prop) : Nat → Int32 → Int32 → Int32 → Int32 → Int32 → Int64 → Int32 → Int32 → Mm → Prop
  | 0, _, _, _, _, _, _, _, _, _ => False
  | k + 1, x2, x4, x5, x6, x7, x8, x10, x11, u0 =>
  ((x7 + x10) ≤ x11 → vp_in x7 400 ∧ (w_X12_addTime n ((u0.2.1 7 (ix x7)) - x8) u0 (fun u1 =>
  (¬ x2 = (62 : Int32) → w_X12_readBroken_219 n x5 x4 u1 Q T) ∧
  (x2 = (62 : Int32) → w_X12_readBroken_219 n x5 (1 : Int32) u1 Q T)) T)) ∧
  (¬ (x7 + x10) ≤ x11 → vp_in x11 400 ∧ (w_X12_get n x11 (16 : Int32) u0 (fun r1 u2 =>
  w_X12_exact n ((u0.2.1 7 (ix x11)) * x6.toInt64) (x5.toInt64) r1 u2 (fun r2 u3 =>
  vp_in x11 400 ∧ (mlet (setJ u3 7 (ix x11) r2) fun u4 =>
  (w_X12_readBroken_143 n Q T k) x2 x4 x5 x6 x7 x8 x10 (x11 + (1 : Int32)) u4)) T) T))
def w_X12_readBroken_137 (n : Nat) (x2 : Int32) (x4 : Int32) (x5 : Int32) (x6 : Int32) (x7 : Int32) (x8 : Int64) (t0 : Int32) (u0 : Mm) (Q : Mm → Prop) (T : Mm → Prop) : Prop :=
  (w_X12_readBroken_143 n Q T n) x2 x4 x5 x6 x7 x8 t0 x7 u0
def w_X12_readBroken_98 (n : Nat) (x2 : Int32) (x4 : Int32) (x5 : Int32) (t0 : Int32) (u0 : Mm) (Q : Mm → Prop) (T : Mm → Prop) : Prop :=
  ilet (u0.1 0 49) fun y1 =>
  vp_in y1 400 ∧ (jlet (u0.2.1 7 (ix y1)) fun y2 =>
  w_X12_get n y1 (0 : Int32) u0 (fun r1 u1 =>
  (¬ r1 = 0 → w_X12_readBroken_137 n x2 x4 x5 t0 y1 y2 (1 : Int32) u1 Q T) ∧
  (r1 = 0 → w_X12_get n y1 (9 : Int32) u1 (fun r2 u2 =>
  w_X12_readBroken_137 n x2 x4 x5 t0 y1 y2 r2 u2 Q T) T)) T)
def w_X12_readBroken_74 (n : Nat) (x2 : Int32) (x3 : Int32) (u0 : Mm) (Q : Mm → Prop) (T : Mm → Prop) : Prop :=
  ilet (((2 : Int32) <<< (x3 &&& 31)) - (1 : Int32)) fun y1 =>
  ilet ((1 : Int32) <<< (x3 &&& 31)) fun y2 =>
  (¬ x2 = (62 : Int32) → w_X12_readBroken_98 n x2 y1 y2 (1 : Int32) u0 Q T) ∧
  (x2 = (62 : Int32) → w_X12_readBroken_98 n x2 y1 y2 y1 u0 Q T)
def w_X12_readBroken_54 (n : Nat) (x2 : Int32) (x3 : Int32) (u0 : Mm) (Q : Mm → Prop) (T : Mm → Prop) : Prop :=
  w_X12_blanks n u0 (fun u1 =>
  w_X12_beginsTimed n u1 (fun r1 u2 =>
  (¬ r1 = 0 → w_X12_readBroken_74 n x2 x3 u2 Q T) ∧
  (r1 = 0 → w_X12_fail n (5 : Int32) (u2.1 0 7) u2 (fun u3 =>
  w_X12_readBroken_74 n x2 x3 u3 Q T) T)) T) T
def w_X12_readBroken_25 (n : Nat) (Q : Mm → Prop) (T : Mm → Prop) : Nat → Int32 → Int32 → Mm → Prop
  | 0, _, _, _ => False
  | k + 1, x2, x3, u0 =>
  w_X12_is n x2 u0 (fun r1 u1 =>
  (r1 = 0 → w_X12_readBroken_54 n x2 x3 u1 Q T) ∧
  (¬ r1 = 0 → ((3 : Int32) ≤ x3 → w_X12_readBroken_54 n x2 x3 u1 Q T) ∧
  (¬ (3 : Int32) ≤ x3 → mlet (setI u1 0 7 ((u1.1 0 7) + (1 : Int32))) fun u2 =>
  (w_X12_readBroken_25 n Q T k) x2 (x3 + (1 : Int32)) u2))) T
def w_X12_readBroken_23 (n : Nat) (x2 : Int32) (u0 : Mm) (Q : Mm → Prop) (T : Mm → Prop) : Prop :=
  (w_X12_readBroken_25 n Q T n) x2 (0 : Int32) u0
def w_X12_readBroken (n : Nat) (u0 : Mm) (Q : Mm → Prop) (T : Mm → Prop) : Prop :=
  ilet (u0.1 0 7) fun y1 =>
  w_X12_here n u0 (fun r1 u1 =>
  (0 ≤ (u1.1 0 49) → w_X12_readBroken_23 n r1 u1 Q T) ∧
  (¬ 0 ≤ (u1.1 0 49) → w_X12_fail n (5 : Int32) y1 u1 (fun u2 =>
  w_X12_readBroken_23 n r1 u2 Q T) T)) T
set_option maxRecDepth 20000 in
theorem s_X12_readBroken_219 {g : Gb} (hg : xInj g) {n : Nat} {Q : Mm → Prop} {T : Mm → Prop} {x5 : Int32} {t0 : Int32} {u0 : Mm} (h : w_X12_readBroken_219 n x5 t0 u0 Q T) : xE g me_X12_readBroken (pV g Q T) 219 [(0, .ref (gR g 0)), (5, .int x5)] [.int t0, .ref (gR g 0)] u0 := by
  unfold w_X12_readBroken_219 at h
  refine e_putI (k := 120) rfl fg_X12_359 rfl rfl ?_
  refine e_mlet h (fun u1 h => ?_)
  refine e_aload_n (k := 121) (i := 0) rfl rfl 0 rfl ?_
  refine e_iload (k := 122) (i := 5) rfl 1 rfl ?_
  refine e_putI (k := 123) rfl fg_X12_362 rfl rfl ?_
  refine e_mlet h (fun u2 h => ?_)
  refine e_aload_n (k := 124) (i := 0) rfl rfl 0 rfl ?_
  refine e_callVv (k := 125) (q := 0) (As := []) (rest := []) rfl (c_X12_readTimed (g := g) hg (n := n) h) m_X12_readTimed i_X12_readTimed l_X12_429 rfl ⟨_, rfl, rfl⟩ rfl rfl (Nat.le_of_ble_eq_true rfl) ⟨by decide, by decide, rfl, rfl⟩ (fun _ h => ⟨fun _ z => (by cases z), Or.inr ⟨rfl, h⟩⟩) (fun u3 h => ?_)
  refine e_aload_n (k := 126) (i := 0) rfl rfl 0 rfl ?_
  refine e_aload_n (k := 127) (i := 0) rfl rfl 0 rfl ?_
  refine e_getI (k := 128) rfl f_X12_423 rfl rfl ?_
  refine e_putI (k := 129) rfl fg_X12_432 rfl rfl ?_
  refine e_mlet h (fun u4 h => ?_)
  exact e_vret (k := 130) rfl rfl (Or.inl ⟨rfl, h⟩)
set_option maxRecDepth 20000 in
theorem s_X12_readBroken_143 {g : Gb} (hg : xInj g) {n : Nat} {Q : Mm → Prop} {T : Mm → Prop} : ∀ (k : Nat) (x2 : Int32) (x4 : Int32) (x5 : Int32) (x6 : Int32) (x7 : Int32) (x8 : Int64) (x10 : Int32) (x11 : Int32) (u0 : Mm), w_X12_readBroken_143 n Q T k x2 x4 x5 x6 x7 x8 x10 x11 u0 → xE g me_X12_readBroken (pV g Q T) 143 [(0, .ref (gR g 0)), (2, .int x2), (4, .int x4), (5, .int x5), (6, .int x6), (7, .int x7), (8, .long x8), (10, .int x10), (11, .int x11)] [] u0 := by
  intro k
  induction k with
  | zero => intro x2 x4 x5 x6 x7 x8 x10 x11 u0 h; exact h.elim
  | succ k ih =>
    intro x2 x4 x5 x6 x7 x8 x10 x11 u0 h
    unfold w_X12_readBroken_143 at h
    refine e_iload (k := 79) (i := 11) rfl 8 rfl ?_
    refine e_iload (k := 80) (i := 7) rfl 5 rfl ?_
    refine e_iload (k := 81) (i := 10) rfl 7 rfl ?_
    refine e_iadd (k := 82) rfl ?_
    refine e_icmp_ge (k := 83) (tgt := 192) rfl (by decide) (fun z => ?_) (fun z => ?_)
    · have h := h.1 z
      refine e_aload_n (k := 105) (i := 0) rfl rfl 0 rfl ?_
      refine e_aload_n (k := 106) (i := 0) rfl rfl 0 rfl ?_
      refine e_getC (k := 107) rfl f_X12_40 rfl rfl ?_
      refine e_iload (k := 108) (i := 7) rfl 5 rfl ?_
      refine e_lald (k := 109) rfl rfl h.1 ?_
      have h := h.2
      refine e_lload (k := 110) (i := 8) rfl 6 rfl ?_
      refine e_lsub (k := 111) rfl ?_
      refine e_callVv (k := 112) (q := 0) (As := [.long ((u0.2.1 7 (ix x7)) - x8)]) (rest := []) rfl (c_X12_addTime (g := g) hg (n := n) h) m_X12_addTime i_X12_addTime l_X12_419 rfl ⟨_, rfl, rfl⟩ rfl rfl (Nat.le_of_ble_eq_true rfl) ⟨by decide, by decide, rfl, rfl⟩ (fun _ h => ⟨fun _ z => (by cases z), Or.inr ⟨rfl, h⟩⟩) (fun u1 h => ?_)
      refine e_aload_n (k := 113) (i := 0) rfl rfl 0 rfl ?_
      refine e_iload_n (k := 114) (i := 2) rfl rfl 1 rfl ?_
      refine e_bipush (k := 115) (v := (62 : Int32)) rfl (by decide) ?_
      refine e_icmp_ne (k := 116) (tgt := 217) rfl (by decide) (fun z => ?_) (fun z => ?_)
      · have h := h.1 z
        refine e_iload (k := 119) (i := 4) rfl 2 rfl ?_
        refine e_sub (lv' := [(0, .ref (gR g 0)), (5, .int x5)]) [0, 3] rfl ?_
        exact s_X12_readBroken_219 hg h
      · have h := h.2 z
        refine e_iconst (k := 117) (v := (1 : Int32)) rfl (by decide) ?_
        refine e_goto (k := 118) (tgt := 219) rfl (by decide) ?_
        refine e_sub (lv' := [(0, .ref (gR g 0)), (5, .int x5)]) [0, 3] rfl ?_
        exact s_X12_readBroken_219 hg h
    · have h := h.2 z
      refine e_aload_n (k := 84) (i := 0) rfl rfl 0 rfl ?_
      refine e_getC (k := 85) rfl f_X12_40 rfl rfl ?_
      refine e_iload (k := 86) (i := 11) rfl 8 rfl ?_
      refine e_aload_n (k := 87) (i := 0) rfl rfl 0 rfl ?_
      refine e_aload_n (k := 88) (i := 0) rfl rfl 0 rfl ?_
      refine e_getC (k := 89) rfl f_X12_40 rfl rfl ?_
      refine e_iload (k := 90) (i := 11) rfl 8 rfl ?_
      refine e_lald (k := 91) rfl rfl h.1 ?_
      have h := h.2
      refine e_iload (k := 92) (i := 6) rfl 4 rfl ?_
      refine e_i2l (k := 93) rfl ?_
      refine e_lmul (k := 94) rfl ?_
      refine e_iload (k := 95) (i := 5) rfl 3 rfl ?_
      refine e_i2l (k := 96) rfl ?_
      refine e_aload_n (k := 97) (i := 0) rfl rfl 0 rfl ?_
      refine e_iload (k := 98) (i := 11) rfl 8 rfl ?_
      refine e_bipush (k := 99) (v := (16 : Int32)) rfl (by decide) ?_
      refine e_callVi (k := 100) (q := 0) (As := [.int x11, .int (16 : Int32)]) (rest := [.long x5.toInt64, .long ((u0.2.1 7 (ix x11)) * x6.toInt64), .ref (gR g 0), .int x11, .ref (gR g 7)]) rfl (c_X12_get (g := g) hg (n := n) h) m_X12_get i_X12_get l_X12_293 rfl ⟨_, rfl, rfl⟩ rfl rfl (Nat.le_of_ble_eq_true rfl) ⟨by decide, by decide, rfl, rfl⟩ (fun _ h => ⟨fun _ z => (by cases z), Or.inr ⟨rfl, h⟩⟩) (fun r1 u2 h => ?_)
      refine e_callVl (k := 101) (q := 0) (As := [.long ((u0.2.1 7 (ix x11)) * x6.toInt64), .long x5.toInt64, .int r1]) (rest := [.int x11, .ref (gR g 7)]) rfl (c_X12_exact (g := g) hg (n := n) h) m_X12_exact i_X12_exact l_X12_365 rfl ⟨_, rfl, rfl⟩ rfl rfl (Nat.le_of_ble_eq_true rfl) ⟨by decide, by decide, rfl, rfl⟩ (fun _ h => ⟨fun _ z => (by cases z), Or.inr ⟨rfl, h⟩⟩) (fun r2 u3 h => ?_)
      refine e_last (k := 102) rfl rfl h.1 ?_
      have h := h.2
      refine e_mlet h (fun u4 h => ?_)
      refine e_iinc (k := 103) (i := 11) (j := 8) (v := (x11 + (1 : Int32))) (lv' := [(0, .ref (gR g 0)), (2, .int x2), (4, .int x4), (5, .int x5), (6, .int x6), (7, .int x7), (8, .long x8), (10, .int x10), (11, .int (x11 + (1 : Int32)))]) rfl rfl rfl (by decide) [1, 2, 3, 4, 5, 6, 7, 8, 0] rfl ?_
      refine e_goto (k := 104) (tgt := 143) rfl (by decide) ?_
      exact ih x2 x4 x5 x6 x7 x8 x10 (x11 + (1 : Int32)) u4 h
set_option maxRecDepth 20000 in
theorem s_X12_readBroken_137 {g : Gb} (hg : xInj g) {n : Nat} {Q : Mm → Prop} {T : Mm → Prop} {x2 : Int32} {x4 : Int32} {x5 : Int32} {x6 : Int32} {x7 : Int32} {x8 : Int64} {t0 : Int32} {u0 : Mm} (h : w_X12_readBroken_137 n x2 x4 x5 x6 x7 x8 t0 u0 Q T) : xE g me_X12_readBroken (pV g Q T) 137 [(0, .ref (gR g 0)), (2, .int x2), (4, .int x4), (5, .int x5), (6, .int x6), (7, .int x7), (8, .long x8)] [.int t0] u0 := by
  unfold w_X12_readBroken_137 at h
  refine e_istore (k := 76) (i := 10) (lv' := [(0, .ref (gR g 0)), (2, .int x2), (4, .int x4), (5, .int x5), (6, .int x6), (7, .int x7), (8, .long x8), (10, .int t0)]) rfl (by decide) [1, 2, 3, 4, 5, 6, 7, 0] rfl ?_
  refine e_iload (k := 77) (i := 7) rfl 5 rfl ?_
  refine e_istore (k := 78) (i := 11) (lv' := [(0, .ref (gR g 0)), (2, .int x2), (4, .int x4), (5, .int x5), (6, .int x6), (7, .int x7), (8, .long x8), (10, .int t0), (11, .int x7)]) rfl (by decide) [1, 2, 3, 4, 5, 6, 7, 8, 0] rfl ?_
  exact s_X12_readBroken_143 hg n x2 x4 x5 x6 x7 x8 t0 x7 u0 h
set_option maxRecDepth 20000 in
theorem s_X12_readBroken_98 {g : Gb} (hg : xInj g) {n : Nat} {Q : Mm → Prop} {T : Mm → Prop} {x2 : Int32} {x4 : Int32} {x5 : Int32} {t0 : Int32} {u0 : Mm} (h : w_X12_readBroken_98 n x2 x4 x5 t0 u0 Q T) : xE g me_X12_readBroken (pV g Q T) 98 [(0, .ref (gR g 0)), (2, .int x2), (4, .int x4), (5, .int x5)] [.int t0] u0 := by
  unfold w_X12_readBroken_98 at h
  refine e_istore (k := 56) (i := 6) (lv' := [(0, .ref (gR g 0)), (2, .int x2), (4, .int x4), (5, .int x5), (6, .int t0)]) rfl (by decide) [1, 2, 3, 4, 0] rfl ?_
  refine e_aload_n (k := 57) (i := 0) rfl rfl 0 rfl ?_
  refine e_getI (k := 58) rfl f_X12_423 rfl rfl ?_
  refine e_ilet h (fun y1 h => ?_)
  refine e_istore (k := 59) (i := 7) (lv' := [(0, .ref (gR g 0)), (2, .int x2), (4, .int x4), (5, .int x5), (6, .int t0), (7, .int y1)]) rfl (by decide) [1, 2, 3, 4, 5, 0] rfl ?_
  refine e_aload_n (k := 60) (i := 0) rfl rfl 0 rfl ?_
  refine e_getC (k := 61) rfl f_X12_40 rfl rfl ?_
  refine e_iload (k := 62) (i := 7) rfl 5 rfl ?_
  refine e_lald (k := 63) rfl rfl h.1 ?_
  have h := h.2
  refine e_jlet h (fun y2 h => ?_)
  refine e_lstore (k := 64) (i := 8) (lv' := [(0, .ref (gR g 0)), (2, .int x2), (4, .int x4), (5, .int x5), (6, .int t0), (7, .int y1), (8, .long y2)]) rfl (by decide) [1, 2, 3, 4, 5, 6, 0] rfl ?_
  refine e_aload_n (k := 65) (i := 0) rfl rfl 0 rfl ?_
  refine e_iload (k := 66) (i := 7) rfl 5 rfl ?_
  refine e_iconst (k := 67) (v := (0 : Int32)) rfl (by decide) ?_
  refine e_callVi (k := 68) (q := 0) (As := [.int y1, .int (0 : Int32)]) (rest := []) rfl (c_X12_get (g := g) hg (n := n) h) m_X12_get i_X12_get l_X12_293 rfl ⟨_, rfl, rfl⟩ rfl rfl (Nat.le_of_ble_eq_true rfl) ⟨by decide, by decide, rfl, rfl⟩ (fun _ h => ⟨fun _ z => (by cases z), Or.inr ⟨rfl, h⟩⟩) (fun r1 u1 h => ?_)
  refine e_if_ne (k := 69) (tgt := 136) rfl (by decide) (fun z => ?_) (fun z => ?_)
  · have h := h.1 z
    refine e_iconst (k := 75) (v := (1 : Int32)) rfl (by decide) ?_
    exact s_X12_readBroken_137 hg h
  · have h := h.2 z
    refine e_aload_n (k := 70) (i := 0) rfl rfl 0 rfl ?_
    refine e_iload (k := 71) (i := 7) rfl 5 rfl ?_
    refine e_bipush (k := 72) (v := (9 : Int32)) rfl (by decide) ?_
    refine e_callVi (k := 73) (q := 0) (As := [.int y1, .int (9 : Int32)]) (rest := []) rfl (c_X12_get (g := g) hg (n := n) h) m_X12_get i_X12_get l_X12_293 rfl ⟨_, rfl, rfl⟩ rfl rfl (Nat.le_of_ble_eq_true rfl) ⟨by decide, by decide, rfl, rfl⟩ (fun _ h => ⟨fun _ z => (by cases z), Or.inr ⟨rfl, h⟩⟩) (fun r2 u2 h => ?_)
    refine e_goto (k := 74) (tgt := 137) rfl (by decide) ?_
    exact s_X12_readBroken_137 hg h
set_option maxRecDepth 20000 in
theorem s_X12_readBroken_74 {g : Gb} (hg : xInj g) {n : Nat} {Q : Mm → Prop} {T : Mm → Prop} {x2 : Int32} {x3 : Int32} {u0 : Mm} (h : w_X12_readBroken_74 n x2 x3 u0 Q T) : xE g me_X12_readBroken (pV g Q T) 74 [(0, .ref (gR g 0)), (2, .int x2), (3, .int x3)] [] u0 := by
  unfold w_X12_readBroken_74 at h
  refine e_iconst (k := 40) (v := (2 : Int32)) rfl (by decide) ?_
  refine e_iload_n (k := 41) (i := 3) rfl rfl 2 rfl ?_
  refine e_ishl (k := 42) rfl ?_
  refine e_iconst (k := 43) (v := (1 : Int32)) rfl (by decide) ?_
  refine e_isub (k := 44) rfl ?_
  refine e_ilet h (fun y1 h => ?_)
  refine e_istore (k := 45) (i := 4) (lv' := [(0, .ref (gR g 0)), (2, .int x2), (3, .int x3), (4, .int y1)]) rfl (by decide) [1, 2, 3, 0] rfl ?_
  refine e_iconst (k := 46) (v := (1 : Int32)) rfl (by decide) ?_
  refine e_iload_n (k := 47) (i := 3) rfl rfl 2 rfl ?_
  refine e_ishl (k := 48) rfl ?_
  refine e_ilet h (fun y2 h => ?_)
  refine e_istore (k := 49) (i := 5) (lv' := [(0, .ref (gR g 0)), (2, .int x2), (3, .int x3), (4, .int y1), (5, .int y2)]) rfl (by decide) [1, 2, 3, 4, 0] rfl ?_
  refine e_iload_n (k := 50) (i := 2) rfl rfl 1 rfl ?_
  refine e_bipush (k := 51) (v := (62 : Int32)) rfl (by decide) ?_
  refine e_icmp_ne (k := 52) (tgt := 97) rfl (by decide) (fun z => ?_) (fun z => ?_)
  · have h := h.1 z
    refine e_iconst (k := 55) (v := (1 : Int32)) rfl (by decide) ?_
    refine e_sub (lv' := [(0, .ref (gR g 0)), (2, .int x2), (4, .int y1), (5, .int y2)]) [0, 1, 3, 4] rfl ?_
    exact s_X12_readBroken_98 hg h
  · have h := h.2 z
    refine e_iload (k := 53) (i := 4) rfl 3 rfl ?_
    refine e_goto (k := 54) (tgt := 98) rfl (by decide) ?_
    refine e_sub (lv' := [(0, .ref (gR g 0)), (2, .int x2), (4, .int y1), (5, .int y2)]) [0, 1, 3, 4] rfl ?_
    exact s_X12_readBroken_98 hg h
set_option maxRecDepth 20000 in
theorem s_X12_readBroken_54 {g : Gb} (hg : xInj g) {n : Nat} {Q : Mm → Prop} {T : Mm → Prop} {x2 : Int32} {x3 : Int32} {u0 : Mm} (h : w_X12_readBroken_54 n x2 x3 u0 Q T) : xE g me_X12_readBroken (pV g Q T) 54 [(0, .ref (gR g 0)), (2, .int x2), (3, .int x3)] [] u0 := by
  unfold w_X12_readBroken_54 at h
  refine e_aload_n (k := 30) (i := 0) rfl rfl 0 rfl ?_
  refine e_callVv (k := 31) (q := 0) (As := []) (rest := []) rfl (c_X12_blanks (g := g) hg (n := n) h) m_X12_blanks i_X12_blanks l_X12_241 rfl ⟨_, rfl, rfl⟩ rfl rfl (Nat.le_of_ble_eq_true rfl) ⟨by decide, by decide, rfl, rfl⟩ (fun _ h => ⟨fun _ z => (by cases z), Or.inr ⟨rfl, h⟩⟩) (fun u1 h => ?_)
  refine e_aload_n (k := 32) (i := 0) rfl rfl 0 rfl ?_
  refine e_callVi (k := 33) (q := 0) (As := []) (rest := []) rfl (c_X12_beginsTimed (g := g) hg (n := n) h) m_X12_beginsTimed i_X12_beginsTimed l_X12_426 rfl ⟨_, rfl, rfl⟩ rfl rfl (Nat.le_of_ble_eq_true rfl) ⟨by decide, by decide, rfl, rfl⟩ (fun _ h => ⟨fun _ z => (by cases z), Or.inr ⟨rfl, h⟩⟩) (fun r1 u2 h => ?_)
  refine e_if_ne (k := 34) (tgt := 74) rfl (by decide) (fun z => ?_) (fun z => ?_)
  · have h := h.1 z
    exact s_X12_readBroken_74 hg h
  · have h := h.2 z
    refine e_aload_n (k := 35) (i := 0) rfl rfl 0 rfl ?_
    refine e_iconst (k := 36) (v := (5 : Int32)) rfl (by decide) ?_
    refine e_aload_n (k := 37) (i := 0) rfl rfl 0 rfl ?_
    refine e_getI (k := 38) rfl f_X12_138 rfl rfl ?_
    refine e_callVv (k := 39) (q := 0) (As := [.int (5 : Int32), .int (u2.1 0 7)]) (rest := []) rfl (c_X12_fail (g := g) hg (n := n) h) m_X12_fail i_X12_fail l_X12_148 rfl ⟨_, rfl, rfl⟩ rfl rfl (Nat.le_of_ble_eq_true rfl) ⟨by decide, by decide, rfl, rfl⟩ (fun _ h => ⟨fun _ z => (by cases z), Or.inr ⟨rfl, h⟩⟩) (fun u3 h => ?_)
    exact s_X12_readBroken_74 hg h
set_option maxRecDepth 20000 in
theorem s_X12_readBroken_25 {g : Gb} (hg : xInj g) {n : Nat} {Q : Mm → Prop} {T : Mm → Prop} : ∀ (k : Nat) (x2 : Int32) (x3 : Int32) (u0 : Mm), w_X12_readBroken_25 n Q T k x2 x3 u0 → xE g me_X12_readBroken (pV g Q T) 25 [(0, .ref (gR g 0)), (2, .int x2), (3, .int x3)] [] u0 := by
  intro k
  induction k with
  | zero => intro x2 x3 u0 h; exact h.elim
  | succ k ih =>
    intro x2 x3 u0 h
    unfold w_X12_readBroken_25 at h
    refine e_aload_n (k := 15) (i := 0) rfl rfl 0 rfl ?_
    refine e_iload_n (k := 16) (i := 2) rfl rfl 1 rfl ?_
    refine e_callVi (k := 17) (q := 0) (As := [.int x2]) (rest := []) rfl (c_X12_is (g := g) hg (n := n) h) m_X12_is i_X12_is l_X12_166 rfl ⟨_, rfl, rfl⟩ rfl rfl (Nat.le_of_ble_eq_true rfl) ⟨by decide, by decide, rfl, rfl⟩ (fun _ h => ⟨fun _ z => (by cases z), Or.inr ⟨rfl, h⟩⟩) (fun r1 u1 h => ?_)
    refine e_if_eq (k := 18) (tgt := 54) rfl (by decide) (fun z => ?_) (fun z => ?_)
    · have h := h.1 z
      exact s_X12_readBroken_54 hg h
    · have h := h.2 z
      refine e_iload_n (k := 19) (i := 3) rfl rfl 2 rfl ?_
      refine e_iconst (k := 20) (v := (3 : Int32)) rfl (by decide) ?_
      refine e_icmp_ge (k := 21) (tgt := 54) rfl (by decide) (fun z => ?_) (fun z => ?_)
      · have h := h.1 z
        exact s_X12_readBroken_54 hg h
      · have h := h.2 z
        refine e_iinc (k := 22) (i := 3) (j := 2) (v := (x3 + (1 : Int32))) (lv' := [(0, .ref (gR g 0)), (2, .int x2), (3, .int (x3 + (1 : Int32)))]) rfl rfl rfl (by decide) [1, 2, 0] rfl ?_
        refine e_aload_n (k := 23) (i := 0) rfl rfl 0 rfl ?_
        refine e_dup (k := 24) rfl rfl ?_
        refine e_getI (k := 25) rfl f_X12_138 rfl rfl ?_
        refine e_iconst (k := 26) (v := (1 : Int32)) rfl (by decide) ?_
        refine e_iadd (k := 27) rfl ?_
        refine e_putI (k := 28) rfl fg_X12_138 rfl rfl ?_
        refine e_mlet h (fun u2 h => ?_)
        refine e_goto (k := 29) (tgt := 25) rfl (by decide) ?_
        exact ih x2 (x3 + (1 : Int32)) u2 h
set_option maxRecDepth 20000 in
theorem s_X12_readBroken_23 {g : Gb} (hg : xInj g) {n : Nat} {Q : Mm → Prop} {T : Mm → Prop} {x2 : Int32} {u0 : Mm} (h : w_X12_readBroken_23 n x2 u0 Q T) : xE g me_X12_readBroken (pV g Q T) 23 [(0, .ref (gR g 0)), (2, .int x2)] [] u0 := by
  unfold w_X12_readBroken_23 at h
  refine e_iconst (k := 13) (v := (0 : Int32)) rfl (by decide) ?_
  refine e_istore_n (k := 14) (i := 3) (lv' := [(0, .ref (gR g 0)), (2, .int x2), (3, .int (0 : Int32))]) rfl rfl (by decide) [1, 2, 0] rfl ?_
  exact s_X12_readBroken_25 hg n x2 (0 : Int32) u0 h
set_option maxRecDepth 20000 in
theorem c_X12_readBroken {g : Gb} (hg : xInj g) {n : Nat} {u0 : Mm} {Q : Mm → Prop} {T : Mm → Prop} (h : w_X12_readBroken n u0 Q T) : xMet (gL g) yX12_readBroken (xws yX12_readBroken cX12_readBroken 12 none) (xRoom 7) (xPc g [.ref (gR g 0)] u0) (xQ g (pV g Q T)) (xA g) := by
  refine xbody (il := il_X12_readBroken) hg il_X12_readBroken_ok m_X12_readBroken (Nat.le_of_ble_eq_true rfl) ?_
  show xE g me_X12_readBroken (pV g Q T) 0 [(0, .ref (gR g 0))] [] u0
  unfold w_X12_readBroken at h
  refine e_aload_n (k := 0) (i := 0) rfl rfl 0 rfl ?_
  refine e_getI (k := 1) rfl f_X12_138 rfl rfl ?_
  refine e_ilet h (fun y1 h => ?_)
  refine e_istore_n (k := 2) (i := 1) (lv' := [(0, .ref (gR g 0)), (1, .int y1)]) rfl rfl (by decide) [1, 0] rfl ?_
  refine e_aload_n (k := 3) (i := 0) rfl rfl 0 rfl ?_
  refine e_callVi (k := 4) (q := 0) (As := []) (rest := []) rfl (c_X12_here (g := g) hg (n := n) h) m_X12_here i_X12_here l_X12_162 rfl ⟨_, rfl, rfl⟩ rfl rfl (Nat.le_of_ble_eq_true rfl) ⟨by decide, by decide, rfl, rfl⟩ (fun _ h => ⟨fun _ z => (by cases z), Or.inr ⟨rfl, h⟩⟩) (fun r1 u1 h => ?_)
  refine e_istore_n (k := 5) (i := 2) (lv' := [(0, .ref (gR g 0)), (1, .int y1), (2, .int r1)]) rfl rfl (by decide) [1, 2, 0] rfl ?_
  refine e_aload_n (k := 6) (i := 0) rfl rfl 0 rfl ?_
  refine e_getI (k := 7) rfl f_X12_423 rfl rfl ?_
  refine e_if_ge (k := 8) (tgt := 23) rfl (by decide) (fun z => ?_) (fun z => ?_)
  · have h := h.1 z
    refine e_sub (lv' := [(0, .ref (gR g 0)), (2, .int r1)]) [0, 2] rfl ?_
    exact s_X12_readBroken_23 hg h
  · have h := h.2 z
    refine e_aload_n (k := 9) (i := 0) rfl rfl 0 rfl ?_
    refine e_iconst (k := 10) (v := (5 : Int32)) rfl (by decide) ?_
    refine e_iload_n (k := 11) (i := 1) rfl rfl 1 rfl ?_
    refine e_callVv (k := 12) (q := 0) (As := [.int (5 : Int32), .int y1]) (rest := []) rfl (c_X12_fail (g := g) hg (n := n) h) m_X12_fail i_X12_fail l_X12_148 rfl ⟨_, rfl, rfl⟩ rfl rfl (Nat.le_of_ble_eq_true rfl) ⟨by decide, by decide, rfl, rfl⟩ (fun _ h => ⟨fun _ z => (by cases z), Or.inr ⟨rfl, h⟩⟩) (fun u2 h => ?_)
    refine e_sub (lv' := [(0, .ref (gR g 0)), (2, .int r1)]) [0, 2] rfl ?_
    exact s_X12_readBroken_23 hg h
def il_X12_readField : List (Nat × Instr × Nat) := [(0, .aload_n 0, 1), (1, .invokevirtual 162, 3), (4, .istore_n 2, 1), (5, .iload_n 2, 1), (6, .bipush 86, 2), (8, .if_icmp .eq 30, 3), (11, .iload_n 2, 1), (12, .bipush 77, 2), (14, .if_icmp .eq 24, 3), (17, .iload_n 2, 1), (18, .bipush 76, 2), (20, .if_icmp .eq 18, 3), (23, .iload_n 2, 1), (24, .bipush 75, 2), (26, .if_icmp .eq 12, 3), (29, .aload_n 0, 1), (30, .iconst 1, 1), (31, .aload_n 0, 1), (32, .getfield 138, 3), (35, .invokevirtual 148, 3), (38, .aload_n 0, 1), (39, .dup, 1), (40, .getfield 138, 3), (43, .iconst 1, 1), (44, .iadd, 1), (45, .putfield 138, 3), (48, .aload_n 0, 1), (49, .bipush 58, 2), (51, .invokevirtual 211, 3), (54, .aload_n 0, 1), (55, .invokevirtual 241, 3), (58, .iload_n 2, 1), (59, .bipush 86, 2), (61, .if_icmp .ne 52, 3), (64, .aload_n 0, 1), (65, .aload_n 0, 1), (66, .iconst 1, 1), (67, .iconst 3, 1), (68, .aload_n 0, 1), (69, .getfield 138, 3), (72, .invokevirtual 207, 3), (75, .iconst 1, 1), (76, .isub, 1), (77, .putfield 290, 3), (80, .aload_n 0, 1), (81, .aload_n 0, 1), (82, .getfield 290, 3), (85, .iconst 1, 1), (86, .iadd, 1), (87, .aload_n 0, 1), (88, .getfield 449, 3), (91, .if_icmp .le 12, 3), (94, .aload_n 0, 1), (95, .getfield 290, 3), (98, .iconst 1, 1), (99, .iadd, 1), (100, .goto 7, 3), (103, .aload_n 0, 1), (104, .getfield 449, 3), (107, .putfield 449, 3), (110, .goto 151, 3), (113, .iload_n 2, 1), (114, .bipush 77, 2), (116, .if_icmp .ne 64, 3), (119, .aload_n 0, 1), (120, .invokevirtual 271, 3), (123, .aload_n 0, 1), (124, .getfield 60, 3), (127, .aload_n 0, 1), (128, .getfield 290, 3), (131, .aload_n 0, 1), (132, .getfield 195, 3), (135, .iastore, 1), (136, .aload_n 0, 1), (137, .getfield 63, 3), (140, .aload_n 0, 1), (141, .getfield 290, 3), (144, .aload_n 0, 1), (145, .getfield 198, 3), (148, .iastore, 1), (149, .aload_n 0, 1), (150, .bipush 7, 2), (152, .iload_n 1, 1), (153, .invokevirtual 333, 3), (156, .istore_n 3, 1), (157, .aload_n 0, 1), (158, .iload_n 3, 1), (159, .iconst 3, 1), (160, .aload_n 0, 1), (161, .getfield 195, 3), (164, .invokevirtual 286, 3), (167, .aload_n 0, 1), (168, .iload_n 3, 1), (169, .iconst 4, 1), (170, .aload_n 0, 1), (171, .getfield 198, 3), (174, .invokevirtual 286, 3), (177, .goto 84, 3), (180, .iload_n 2, 1), (181, .bipush 76, 2), (183, .if_icmp .ne 42, 3), (186, .aload_n 0, 1), (187, .getfield 66, 3), (190, .aload_n 0, 1), (191, .getfield 290, 3), (194, .aload_n 0, 1), (195, .invokevirtual 274, 3), (198, .iastore, 1), (199, .aload_n 0, 1), (200, .bipush 8, 2), (202, .iload_n 1, 1), (203, .invokevirtual 333, 3), (206, .istore_n 3, 1), (207, .aload_n 0, 1), (208, .iload_n 3, 1), (209, .iconst 3, 1), (210, .aload_n 0, 1), (211, .getfield 66, 3), (214, .aload_n 0, 1), (215, .getfield 290, 3), (218, .iaload, 1), (219, .invokevirtual 286, 3), (222, .goto 39, 3), (225, .aload_n 0, 1), (226, .getfield 57, 3), (229, .aload_n 0, 1), (230, .getfield 290, 3), (233, .aload_n 0, 1), (234, .invokevirtual 277, 3), (237, .iastore, 1), (238, .aload_n 0, 1), (239, .bipush 6, 2), (241, .iload_n 1, 1), (242, .invokevirtual 333, 3), (245, .istore_n 3, 1), (246, .aload_n 0, 1), (247, .iload_n 3, 1), (248, .iconst 3, 1), (249, .aload_n 0, 1), (250, .getfield 57, 3), (253, .aload_n 0, 1), (254, .getfield 290, 3), (257, .iaload, 1), (258, .invokevirtual 286, 3), (261, .return_, 1)]
set_option maxRecDepth 20000 in
theorem il_X12_readField_ok : ∀ x ∈ il_X12_readField, decode cX12_readField x.1 = .ok x.2 := by decide +kernel
abbrev me_X12_readField : Me := (RX12, il_X12_readField, 4, none, xRoom 7, [])
def w_X12_readField_261 (n : Nat) (u0 : Mm) (Q : Mm → Prop) (T : Mm → Prop) : Prop :=
  Q u0
def w_X12_readField_107 (n : Nat) (t0 : Int32) (u0 : Mm) (Q : Mm → Prop) (T : Mm → Prop) : Prop :=
  mlet (setI u0 0 29 t0) fun u1 =>
  w_X12_readField_261 n u1 Q T
def w_X12_readField_38 (n : Nat) (x1 : Int32) (x2 : Int32) (u0 : Mm) (Q : Mm → Prop) (T : Mm → Prop) : Prop :=
  mlet (setI u0 0 7 ((u0.1 0 7) + (1 : Int32))) fun u1 =>
  w_X12_must n (58 : Int32) u1 (fun u2 =>
  w_X12_blanks n u2 (fun u3 =>
  (¬ x2 = (86 : Int32) → (¬ x2 = (77 : Int32) → (¬ x2 = (76 : Int32) → w_X12_readKey n u3 (fun r1 u4 =>
  vp_in (u3.1 0 28) 3 ∧ (mlet (setI u4 12 (ix (u3.1 0 28)) r1) fun u5 =>
  w_X12_newThing n (6 : Int32) x1 u5 (fun r2 u6 =>
  vp_in (u6.1 0 28) 3 ∧ (w_X12_set n r2 (3 : Int32) (u6.1 12 (ix (u6.1 0 28))) u6 (fun u7 =>
  w_X12_readField_261 n u7 Q T) T)) T)) T) ∧
  (x2 = (76 : Int32) → w_X12_readUnit n u3 (fun r3 u8 =>
  vp_in (u3.1 0 28) 3 ∧ (mlet (setI u8 15 (ix (u3.1 0 28)) r3) fun u9 =>
  w_X12_newThing n (8 : Int32) x1 u9 (fun r4 u10 =>
  vp_in (u10.1 0 28) 3 ∧ (w_X12_set n r4 (3 : Int32) (u10.1 15 (ix (u10.1 0 28))) u10 (fun u11 =>
  w_X12_readField_261 n u11 Q T) T)) T)) T)) ∧
  (x2 = (77 : Int32) → w_X12_readMeter n u3 (fun u12 =>
  vp_in (u12.1 0 28) 3 ∧ (mlet (setI u12 13 (ix (u12.1 0 28)) (u12.1 0 50)) fun u13 =>
  vp_in (u13.1 0 28) 3 ∧ (mlet (setI u13 14 (ix (u13.1 0 28)) (u13.1 0 51)) fun u14 =>
  w_X12_newThing n (7 : Int32) x1 u14 (fun r5 u15 =>
  w_X12_set n r5 (3 : Int32) (u15.1 0 50) u15 (fun u16 =>
  w_X12_set n r5 (4 : Int32) (u16.1 0 51) u16 (fun u17 =>
  w_X12_readField_261 n u17 Q T) T) T) T))) T)) ∧
  (x2 = (86 : Int32) → w_X12_numberOf n (1 : Int32) (3 : Int32) (u3.1 0 7) u3 (fun r6 u18 =>
  mlet (setI u18 0 28 (r6 - (1 : Int32))) fun u19 =>
  (((u19.1 0 28) + (1 : Int32)) ≤ (u19.1 0 29) → w_X12_readField_107 n (u19.1 0 29) u19 Q T) ∧
  (¬ ((u19.1 0 28) + (1 : Int32)) ≤ (u19.1 0 29) → w_X12_readField_107 n ((u19.1 0 28) + (1 : Int32)) u19 Q T)) T)) T) T
def w_X12_readField (n : Nat) (a0 : Int32) (u0 : Mm) (Q : Mm → Prop) (T : Mm → Prop) : Prop :=
  w_X12_here n u0 (fun r1 u1 =>
  (r1 = (86 : Int32) → w_X12_readField_38 n a0 r1 u1 Q T) ∧
  (¬ r1 = (86 : Int32) → (r1 = (77 : Int32) → w_X12_readField_38 n a0 r1 u1 Q T) ∧
  (¬ r1 = (77 : Int32) → (r1 = (76 : Int32) → w_X12_readField_38 n a0 r1 u1 Q T) ∧
  (¬ r1 = (76 : Int32) → (r1 = (75 : Int32) → w_X12_readField_38 n a0 r1 u1 Q T) ∧
  (¬ r1 = (75 : Int32) → w_X12_fail n (1 : Int32) (u1.1 0 7) u1 (fun u2 =>
  w_X12_readField_38 n a0 r1 u2 Q T) T))))) T
set_option maxRecDepth 20000 in
theorem s_X12_readField_261 {g : Gb} (hg : xInj g) {n : Nat} {Q : Mm → Prop} {T : Mm → Prop} {u0 : Mm} (h : w_X12_readField_261 n  u0 Q T) : xE g me_X12_readField (pV g Q T) 261 [] [] u0 := by
  unfold w_X12_readField_261 at h
  exact e_vret (k := 144) rfl rfl (Or.inl ⟨rfl, h⟩)
set_option maxRecDepth 20000 in
theorem s_X12_readField_107 {g : Gb} (hg : xInj g) {n : Nat} {Q : Mm → Prop} {T : Mm → Prop} {t0 : Int32} {u0 : Mm} (h : w_X12_readField_107 n t0 u0 Q T) : xE g me_X12_readField (pV g Q T) 107 [] [.int t0, .ref (gR g 0)] u0 := by
  unfold w_X12_readField_107 at h
  refine e_putI (k := 59) rfl fg_X12_449 rfl rfl ?_
  refine e_mlet h (fun u1 h => ?_)
  refine e_goto (k := 60) (tgt := 261) rfl (by decide) ?_
  exact s_X12_readField_261 hg h
set_option maxRecDepth 20000 in
theorem s_X12_readField_38 {g : Gb} (hg : xInj g) {n : Nat} {Q : Mm → Prop} {T : Mm → Prop} {x1 : Int32} {x2 : Int32} {u0 : Mm} (h : w_X12_readField_38 n x1 x2 u0 Q T) : xE g me_X12_readField (pV g Q T) 38 [(0, .ref (gR g 0)), (1, .int x1), (2, .int x2)] [] u0 := by
  unfold w_X12_readField_38 at h
  refine e_aload_n (k := 20) (i := 0) rfl rfl 0 rfl ?_
  refine e_dup (k := 21) rfl rfl ?_
  refine e_getI (k := 22) rfl f_X12_138 rfl rfl ?_
  refine e_iconst (k := 23) (v := (1 : Int32)) rfl (by decide) ?_
  refine e_iadd (k := 24) rfl ?_
  refine e_putI (k := 25) rfl fg_X12_138 rfl rfl ?_
  refine e_mlet h (fun u1 h => ?_)
  refine e_aload_n (k := 26) (i := 0) rfl rfl 0 rfl ?_
  refine e_bipush (k := 27) (v := (58 : Int32)) rfl (by decide) ?_
  refine e_callVv (k := 28) (q := 0) (As := [.int (58 : Int32)]) (rest := []) rfl (c_X12_must (g := g) hg (n := n) h) m_X12_must i_X12_must l_X12_211 rfl ⟨_, rfl, rfl⟩ rfl rfl (Nat.le_of_ble_eq_true rfl) ⟨by decide, by decide, rfl, rfl⟩ (fun _ h => ⟨fun _ z => (by cases z), Or.inr ⟨rfl, h⟩⟩) (fun u2 h => ?_)
  refine e_aload_n (k := 29) (i := 0) rfl rfl 0 rfl ?_
  refine e_callVv (k := 30) (q := 0) (As := []) (rest := []) rfl (c_X12_blanks (g := g) hg (n := n) h) m_X12_blanks i_X12_blanks l_X12_241 rfl ⟨_, rfl, rfl⟩ rfl rfl (Nat.le_of_ble_eq_true rfl) ⟨by decide, by decide, rfl, rfl⟩ (fun _ h => ⟨fun _ z => (by cases z), Or.inr ⟨rfl, h⟩⟩) (fun u3 h => ?_)
  refine e_iload_n (k := 31) (i := 2) rfl rfl 2 rfl ?_
  refine e_bipush (k := 32) (v := (86 : Int32)) rfl (by decide) ?_
  refine e_icmp_ne (k := 33) (tgt := 113) rfl (by decide) (fun z => ?_) (fun z => ?_)
  · have h := h.1 z
    refine e_iload_n (k := 61) (i := 2) rfl rfl 2 rfl ?_
    refine e_bipush (k := 62) (v := (77 : Int32)) rfl (by decide) ?_
    refine e_icmp_ne (k := 63) (tgt := 180) rfl (by decide) (fun z => ?_) (fun z => ?_)
    · have h := h.1 z
      refine e_iload_n (k := 98) (i := 2) rfl rfl 2 rfl ?_
      refine e_bipush (k := 99) (v := (76 : Int32)) rfl (by decide) ?_
      refine e_icmp_ne (k := 100) (tgt := 225) rfl (by decide) (fun z => ?_) (fun z => ?_)
      · have h := h.1 z
        refine e_aload_n (k := 123) (i := 0) rfl rfl 0 rfl ?_
        refine e_getC (k := 124) rfl f_X12_57 rfl rfl ?_
        refine e_aload_n (k := 125) (i := 0) rfl rfl 0 rfl ?_
        refine e_getI (k := 126) rfl f_X12_290 rfl rfl ?_
        refine e_aload_n (k := 127) (i := 0) rfl rfl 0 rfl ?_
        refine e_callVi (k := 128) (q := 0) (As := []) (rest := [.int (u3.1 0 28), .ref (gR g 12)]) rfl (c_X12_readKey (g := g) hg (n := n) h) m_X12_readKey i_X12_readKey l_X12_277 rfl ⟨_, rfl, rfl⟩ rfl rfl (Nat.le_of_ble_eq_true rfl) ⟨by decide, by decide, rfl, rfl⟩ (fun _ h => ⟨fun _ z => (by cases z), Or.inr ⟨rfl, h⟩⟩) (fun r1 u4 h => ?_)
        refine e_iast (k := 129) rfl rfl h.1 ?_
        have h := h.2
        refine e_mlet h (fun u5 h => ?_)
        refine e_aload_n (k := 130) (i := 0) rfl rfl 0 rfl ?_
        refine e_bipush (k := 131) (v := (6 : Int32)) rfl (by decide) ?_
        refine e_iload_n (k := 132) (i := 1) rfl rfl 1 rfl ?_
        refine e_callVi (k := 133) (q := 0) (As := [.int (6 : Int32), .int x1]) (rest := []) rfl (c_X12_newThing (g := g) hg (n := n) h) m_X12_newThing i_X12_newThing l_X12_333 rfl ⟨_, rfl, rfl⟩ rfl rfl (Nat.le_of_ble_eq_true rfl) ⟨by decide, by decide, rfl, rfl⟩ (fun _ h => ⟨fun _ z => (by cases z), Or.inr ⟨rfl, h⟩⟩) (fun r2 u6 h => ?_)
        refine e_istore_n (k := 134) (i := 3) (lv' := [(0, .ref (gR g 0)), (1, .int x1), (2, .int x2), (3, .int r2)]) rfl rfl (by decide) [1, 2, 3, 0] rfl ?_
        refine e_aload_n (k := 135) (i := 0) rfl rfl 0 rfl ?_
        refine e_iload_n (k := 136) (i := 3) rfl rfl 3 rfl ?_
        refine e_iconst (k := 137) (v := (3 : Int32)) rfl (by decide) ?_
        refine e_aload_n (k := 138) (i := 0) rfl rfl 0 rfl ?_
        refine e_getC (k := 139) rfl f_X12_57 rfl rfl ?_
        refine e_aload_n (k := 140) (i := 0) rfl rfl 0 rfl ?_
        refine e_getI (k := 141) rfl f_X12_290 rfl rfl ?_
        refine e_iald (k := 142) rfl rfl h.1 ?_
        have h := h.2
        refine e_callVv (k := 143) (q := 0) (As := [.int r2, .int (3 : Int32), .int (u6.1 12 (ix (u6.1 0 28)))]) (rest := []) rfl (c_X12_set (g := g) hg (n := n) h) m_X12_set i_X12_set l_X12_286 rfl ⟨_, rfl, rfl⟩ rfl rfl (Nat.le_of_ble_eq_true rfl) ⟨by decide, by decide, rfl, rfl⟩ (fun _ h => ⟨fun _ z => (by cases z), Or.inr ⟨rfl, h⟩⟩) (fun u7 h => ?_)
        refine e_sub (lv' := []) [] rfl ?_
        exact s_X12_readField_261 hg h
      · have h := h.2 z
        refine e_aload_n (k := 101) (i := 0) rfl rfl 0 rfl ?_
        refine e_getC (k := 102) rfl f_X12_66 rfl rfl ?_
        refine e_aload_n (k := 103) (i := 0) rfl rfl 0 rfl ?_
        refine e_getI (k := 104) rfl f_X12_290 rfl rfl ?_
        refine e_aload_n (k := 105) (i := 0) rfl rfl 0 rfl ?_
        refine e_callVi (k := 106) (q := 0) (As := []) (rest := [.int (u3.1 0 28), .ref (gR g 15)]) rfl (c_X12_readUnit (g := g) hg (n := n) h) m_X12_readUnit i_X12_readUnit l_X12_274 rfl ⟨_, rfl, rfl⟩ rfl rfl (Nat.le_of_ble_eq_true rfl) ⟨by decide, by decide, rfl, rfl⟩ (fun _ h => ⟨fun _ z => (by cases z), Or.inr ⟨rfl, h⟩⟩) (fun r3 u8 h => ?_)
        refine e_iast (k := 107) rfl rfl h.1 ?_
        have h := h.2
        refine e_mlet h (fun u9 h => ?_)
        refine e_aload_n (k := 108) (i := 0) rfl rfl 0 rfl ?_
        refine e_bipush (k := 109) (v := (8 : Int32)) rfl (by decide) ?_
        refine e_iload_n (k := 110) (i := 1) rfl rfl 1 rfl ?_
        refine e_callVi (k := 111) (q := 0) (As := [.int (8 : Int32), .int x1]) (rest := []) rfl (c_X12_newThing (g := g) hg (n := n) h) m_X12_newThing i_X12_newThing l_X12_333 rfl ⟨_, rfl, rfl⟩ rfl rfl (Nat.le_of_ble_eq_true rfl) ⟨by decide, by decide, rfl, rfl⟩ (fun _ h => ⟨fun _ z => (by cases z), Or.inr ⟨rfl, h⟩⟩) (fun r4 u10 h => ?_)
        refine e_istore_n (k := 112) (i := 3) (lv' := [(0, .ref (gR g 0)), (1, .int x1), (2, .int x2), (3, .int r4)]) rfl rfl (by decide) [1, 2, 3, 0] rfl ?_
        refine e_aload_n (k := 113) (i := 0) rfl rfl 0 rfl ?_
        refine e_iload_n (k := 114) (i := 3) rfl rfl 3 rfl ?_
        refine e_iconst (k := 115) (v := (3 : Int32)) rfl (by decide) ?_
        refine e_aload_n (k := 116) (i := 0) rfl rfl 0 rfl ?_
        refine e_getC (k := 117) rfl f_X12_66 rfl rfl ?_
        refine e_aload_n (k := 118) (i := 0) rfl rfl 0 rfl ?_
        refine e_getI (k := 119) rfl f_X12_290 rfl rfl ?_
        refine e_iald (k := 120) rfl rfl h.1 ?_
        have h := h.2
        refine e_callVv (k := 121) (q := 0) (As := [.int r4, .int (3 : Int32), .int (u10.1 15 (ix (u10.1 0 28)))]) (rest := []) rfl (c_X12_set (g := g) hg (n := n) h) m_X12_set i_X12_set l_X12_286 rfl ⟨_, rfl, rfl⟩ rfl rfl (Nat.le_of_ble_eq_true rfl) ⟨by decide, by decide, rfl, rfl⟩ (fun _ h => ⟨fun _ z => (by cases z), Or.inr ⟨rfl, h⟩⟩) (fun u11 h => ?_)
        refine e_goto (k := 122) (tgt := 261) rfl (by decide) ?_
        refine e_sub (lv' := []) [] rfl ?_
        exact s_X12_readField_261 hg h
    · have h := h.2 z
      refine e_aload_n (k := 64) (i := 0) rfl rfl 0 rfl ?_
      refine e_callVv (k := 65) (q := 0) (As := []) (rest := []) rfl (c_X12_readMeter (g := g) hg (n := n) h) m_X12_readMeter i_X12_readMeter l_X12_271 rfl ⟨_, rfl, rfl⟩ rfl rfl (Nat.le_of_ble_eq_true rfl) ⟨by decide, by decide, rfl, rfl⟩ (fun _ h => ⟨fun _ z => (by cases z), Or.inr ⟨rfl, h⟩⟩) (fun u12 h => ?_)
      refine e_aload_n (k := 66) (i := 0) rfl rfl 0 rfl ?_
      refine e_getC (k := 67) rfl f_X12_60 rfl rfl ?_
      refine e_aload_n (k := 68) (i := 0) rfl rfl 0 rfl ?_
      refine e_getI (k := 69) rfl f_X12_290 rfl rfl ?_
      refine e_aload_n (k := 70) (i := 0) rfl rfl 0 rfl ?_
      refine e_getI (k := 71) rfl f_X12_195 rfl rfl ?_
      refine e_iast (k := 72) rfl rfl h.1 ?_
      have h := h.2
      refine e_mlet h (fun u13 h => ?_)
      refine e_aload_n (k := 73) (i := 0) rfl rfl 0 rfl ?_
      refine e_getC (k := 74) rfl f_X12_63 rfl rfl ?_
      refine e_aload_n (k := 75) (i := 0) rfl rfl 0 rfl ?_
      refine e_getI (k := 76) rfl f_X12_290 rfl rfl ?_
      refine e_aload_n (k := 77) (i := 0) rfl rfl 0 rfl ?_
      refine e_getI (k := 78) rfl f_X12_198 rfl rfl ?_
      refine e_iast (k := 79) rfl rfl h.1 ?_
      have h := h.2
      refine e_mlet h (fun u14 h => ?_)
      refine e_aload_n (k := 80) (i := 0) rfl rfl 0 rfl ?_
      refine e_bipush (k := 81) (v := (7 : Int32)) rfl (by decide) ?_
      refine e_iload_n (k := 82) (i := 1) rfl rfl 1 rfl ?_
      refine e_callVi (k := 83) (q := 0) (As := [.int (7 : Int32), .int x1]) (rest := []) rfl (c_X12_newThing (g := g) hg (n := n) h) m_X12_newThing i_X12_newThing l_X12_333 rfl ⟨_, rfl, rfl⟩ rfl rfl (Nat.le_of_ble_eq_true rfl) ⟨by decide, by decide, rfl, rfl⟩ (fun _ h => ⟨fun _ z => (by cases z), Or.inr ⟨rfl, h⟩⟩) (fun r5 u15 h => ?_)
      refine e_istore_n (k := 84) (i := 3) (lv' := [(0, .ref (gR g 0)), (1, .int x1), (2, .int x2), (3, .int r5)]) rfl rfl (by decide) [1, 2, 3, 0] rfl ?_
      refine e_aload_n (k := 85) (i := 0) rfl rfl 0 rfl ?_
      refine e_iload_n (k := 86) (i := 3) rfl rfl 3 rfl ?_
      refine e_iconst (k := 87) (v := (3 : Int32)) rfl (by decide) ?_
      refine e_aload_n (k := 88) (i := 0) rfl rfl 0 rfl ?_
      refine e_getI (k := 89) rfl f_X12_195 rfl rfl ?_
      refine e_callVv (k := 90) (q := 0) (As := [.int r5, .int (3 : Int32), .int (u15.1 0 50)]) (rest := []) rfl (c_X12_set (g := g) hg (n := n) h) m_X12_set i_X12_set l_X12_286 rfl ⟨_, rfl, rfl⟩ rfl rfl (Nat.le_of_ble_eq_true rfl) ⟨by decide, by decide, rfl, rfl⟩ (fun _ h => ⟨fun _ z => (by cases z), Or.inr ⟨rfl, h⟩⟩) (fun u16 h => ?_)
      refine e_aload_n (k := 91) (i := 0) rfl rfl 0 rfl ?_
      refine e_iload_n (k := 92) (i := 3) rfl rfl 3 rfl ?_
      refine e_iconst (k := 93) (v := (4 : Int32)) rfl (by decide) ?_
      refine e_aload_n (k := 94) (i := 0) rfl rfl 0 rfl ?_
      refine e_getI (k := 95) rfl f_X12_198 rfl rfl ?_
      refine e_callVv (k := 96) (q := 0) (As := [.int r5, .int (4 : Int32), .int (u16.1 0 51)]) (rest := []) rfl (c_X12_set (g := g) hg (n := n) h) m_X12_set i_X12_set l_X12_286 rfl ⟨_, rfl, rfl⟩ rfl rfl (Nat.le_of_ble_eq_true rfl) ⟨by decide, by decide, rfl, rfl⟩ (fun _ h => ⟨fun _ z => (by cases z), Or.inr ⟨rfl, h⟩⟩) (fun u17 h => ?_)
      refine e_goto (k := 97) (tgt := 261) rfl (by decide) ?_
      refine e_sub (lv' := []) [] rfl ?_
      exact s_X12_readField_261 hg h
  · have h := h.2 z
    refine e_aload_n (k := 34) (i := 0) rfl rfl 0 rfl ?_
    refine e_aload_n (k := 35) (i := 0) rfl rfl 0 rfl ?_
    refine e_iconst (k := 36) (v := (1 : Int32)) rfl (by decide) ?_
    refine e_iconst (k := 37) (v := (3 : Int32)) rfl (by decide) ?_
    refine e_aload_n (k := 38) (i := 0) rfl rfl 0 rfl ?_
    refine e_getI (k := 39) rfl f_X12_138 rfl rfl ?_
    refine e_callVi (k := 40) (q := 0) (As := [.int (1 : Int32), .int (3 : Int32), .int (u3.1 0 7)]) (rest := [.ref (gR g 0)]) rfl (c_X12_numberOf (g := g) hg (n := n) h) m_X12_numberOf i_X12_numberOf l_X12_207 rfl ⟨_, rfl, rfl⟩ rfl rfl (Nat.le_of_ble_eq_true rfl) ⟨by decide, by decide, rfl, rfl⟩ (fun _ h => ⟨fun _ z => (by cases z), Or.inr ⟨rfl, h⟩⟩) (fun r6 u18 h => ?_)
    refine e_iconst (k := 41) (v := (1 : Int32)) rfl (by decide) ?_
    refine e_isub (k := 42) rfl ?_
    refine e_putI (k := 43) rfl fg_X12_290 rfl rfl ?_
    refine e_mlet h (fun u19 h => ?_)
    refine e_aload_n (k := 44) (i := 0) rfl rfl 0 rfl ?_
    refine e_aload_n (k := 45) (i := 0) rfl rfl 0 rfl ?_
    refine e_getI (k := 46) rfl f_X12_290 rfl rfl ?_
    refine e_iconst (k := 47) (v := (1 : Int32)) rfl (by decide) ?_
    refine e_iadd (k := 48) rfl ?_
    refine e_aload_n (k := 49) (i := 0) rfl rfl 0 rfl ?_
    refine e_getI (k := 50) rfl f_X12_449 rfl rfl ?_
    refine e_icmp_le (k := 51) (tgt := 103) rfl (by decide) (fun z => ?_) (fun z => ?_)
    · have h := h.1 z
      refine e_aload_n (k := 57) (i := 0) rfl rfl 0 rfl ?_
      refine e_getI (k := 58) rfl f_X12_449 rfl rfl ?_
      refine e_sub (lv' := []) [] rfl ?_
      exact s_X12_readField_107 hg h
    · have h := h.2 z
      refine e_aload_n (k := 52) (i := 0) rfl rfl 0 rfl ?_
      refine e_getI (k := 53) rfl f_X12_290 rfl rfl ?_
      refine e_iconst (k := 54) (v := (1 : Int32)) rfl (by decide) ?_
      refine e_iadd (k := 55) rfl ?_
      refine e_goto (k := 56) (tgt := 107) rfl (by decide) ?_
      refine e_sub (lv' := []) [] rfl ?_
      exact s_X12_readField_107 hg h
set_option maxRecDepth 20000 in
theorem c_X12_readField {g : Gb} (hg : xInj g) {n : Nat} {a0 : Int32} {u0 : Mm} {Q : Mm → Prop} {T : Mm → Prop} (h : w_X12_readField n a0 u0 Q T) : xMet (gL g) yX12_readField (xws yX12_readField cX12_readField 4 none) (xRoom 7) (xPc g [.ref (gR g 0), .int a0] u0) (xQ g (pV g Q T)) (xA g) := by
  refine xbody (il := il_X12_readField) hg il_X12_readField_ok m_X12_readField (Nat.le_of_ble_eq_true rfl) ?_
  show xE g me_X12_readField (pV g Q T) 0 [(0, .ref (gR g 0)), (1, .int a0)] [] u0
  unfold w_X12_readField at h
  refine e_aload_n (k := 0) (i := 0) rfl rfl 0 rfl ?_
  refine e_callVi (k := 1) (q := 0) (As := []) (rest := []) rfl (c_X12_here (g := g) hg (n := n) h) m_X12_here i_X12_here l_X12_162 rfl ⟨_, rfl, rfl⟩ rfl rfl (Nat.le_of_ble_eq_true rfl) ⟨by decide, by decide, rfl, rfl⟩ (fun _ h => ⟨fun _ z => (by cases z), Or.inr ⟨rfl, h⟩⟩) (fun r1 u1 h => ?_)
  refine e_istore_n (k := 2) (i := 2) (lv' := [(0, .ref (gR g 0)), (1, .int a0), (2, .int r1)]) rfl rfl (by decide) [1, 2, 0] rfl ?_
  refine e_iload_n (k := 3) (i := 2) rfl rfl 2 rfl ?_
  refine e_bipush (k := 4) (v := (86 : Int32)) rfl (by decide) ?_
  refine e_icmp_eq (k := 5) (tgt := 38) rfl (by decide) (fun z => ?_) (fun z => ?_)
  · have h := h.1 z
    exact s_X12_readField_38 hg h
  · have h := h.2 z
    refine e_iload_n (k := 6) (i := 2) rfl rfl 2 rfl ?_
    refine e_bipush (k := 7) (v := (77 : Int32)) rfl (by decide) ?_
    refine e_icmp_eq (k := 8) (tgt := 38) rfl (by decide) (fun z => ?_) (fun z => ?_)
    · have h := h.1 z
      exact s_X12_readField_38 hg h
    · have h := h.2 z
      refine e_iload_n (k := 9) (i := 2) rfl rfl 2 rfl ?_
      refine e_bipush (k := 10) (v := (76 : Int32)) rfl (by decide) ?_
      refine e_icmp_eq (k := 11) (tgt := 38) rfl (by decide) (fun z => ?_) (fun z => ?_)
      · have h := h.1 z
        exact s_X12_readField_38 hg h
      · have h := h.2 z
        refine e_iload_n (k := 12) (i := 2) rfl rfl 2 rfl ?_
        refine e_bipush (k := 13) (v := (75 : Int32)) rfl (by decide) ?_
        refine e_icmp_eq (k := 14) (tgt := 38) rfl (by decide) (fun z => ?_) (fun z => ?_)
        · have h := h.1 z
          exact s_X12_readField_38 hg h
        · have h := h.2 z
          refine e_aload_n (k := 15) (i := 0) rfl rfl 0 rfl ?_
          refine e_iconst (k := 16) (v := (1 : Int32)) rfl (by decide) ?_
          refine e_aload_n (k := 17) (i := 0) rfl rfl 0 rfl ?_
          refine e_getI (k := 18) rfl f_X12_138 rfl rfl ?_
          refine e_callVv (k := 19) (q := 0) (As := [.int (1 : Int32), .int (u1.1 0 7)]) (rest := []) rfl (c_X12_fail (g := g) hg (n := n) h) m_X12_fail i_X12_fail l_X12_148 rfl ⟨_, rfl, rfl⟩ rfl rfl (Nat.le_of_ble_eq_true rfl) ⟨by decide, by decide, rfl, rfl⟩ (fun _ h => ⟨fun _ z => (by cases z), Or.inr ⟨rfl, h⟩⟩) (fun u2 h => ?_)
          exact s_X12_readField_38 hg h
def il_X12_readHeads : List (Nat × Instr × Nat) := [(0, .aload_n 0, 1), (1, .invokevirtual 152, 3), (4, .aload_n 0, 1), (5, .bipush 88, 2), (7, .invokevirtual 244, 3), (10, .ifCond .ne 12, 3), (13, .aload_n 0, 1), (14, .iconst 1, 1), (15, .aload_n 0, 1), (16, .getfield 138, 3), (19, .invokevirtual 148, 3), (22, .aload_n 0, 1), (23, .invokevirtual 247, 3), (26, .aload_n 0, 1), (27, .aload_n 0, 1), (28, .iconst 1, 1), (29, .sipush 9999, 3), (32, .aload_n 0, 1), (33, .getfield 138, 3), (36, .invokevirtual 207, 3), (39, .putfield 250, 3), (42, .aload_n 0, 1), (43, .invokevirtual 253, 3), (46, .aload_n 0, 1), (47, .iconst 0, 1), (48, .putfield 256, 3), (51, .aload_n 0, 1), (52, .invokevirtual 152, 3), (55, .aload_n 0, 1), (56, .bipush 84, 2), (58, .invokevirtual 244, 3), (61, .ifCond .ne 12, 3), (64, .aload_n 0, 1), (65, .iconst 1, 1), (66, .aload_n 0, 1), (67, .getfield 138, 3), (70, .invokevirtual 148, 3), (73, .aload_n 0, 1), (74, .bipush 84, 2), (76, .invokevirtual 244, 3), (79, .ifCond .eq 84, 3), (82, .aload_n 0, 1), (83, .getfield 256, 3), (86, .iconst 3, 1), (87, .if_icmp .ne 12, 3), (90, .aload_n 0, 1), (91, .iconst 1, 1), (92, .aload_n 0, 1), (93, .getfield 138, 3), (96, .invokevirtual 148, 3), (99, .aload_n 0, 1), (100, .invokevirtual 247, 3), (103, .aload_n 0, 1), (104, .getfield 30, 3), (107, .aload_n 0, 1), (108, .getfield 256, 3), (111, .aload_n 0, 1), (112, .getfield 138, 3), (115, .iastore, 1), (116, .aload_n 0, 1), (117, .getfield 34, 3), (120, .aload_n 0, 1), (121, .getfield 256, 3), (124, .aload_n 0, 1), (125, .getfield 135, 3), (128, .aload_n 0, 1), (129, .getfield 138, 3), (132, .isub, 1), (133, .iastore, 1), (134, .aload_n 0, 1), (135, .aload_n 0, 1), (136, .getfield 135, 3), (139, .putfield 138, 3), (142, .aload_n 0, 1), (143, .dup, 1), (144, .getfield 256, 3), (147, .iconst 1, 1), (148, .iadd, 1), (149, .putfield 256, 3), (152, .aload_n 0, 1), (153, .invokevirtual 253, 3), (156, .aload_n 0, 1), (157, .invokevirtual 152, 3), (160, .goto (-87), 3), (163, .iconst 0, 1), (164, .istore_n 1, 1), (165, .iconst 0, 1), (166, .istore_n 2, 1), (167, .iconst 0, 1), (168, .istore_n 3, 1), (169, .aload_n 0, 1), (170, .iconst 0, 1), (171, .putfield 259, 3), (174, .aload_n 0, 1), (175, .iconst 0, 1), (176, .putfield 262, 3), (179, .aload_n 0, 1), (180, .iconst 0, 1), (181, .putfield 265, 3), (184, .aload_n 0, 1), (185, .iconst 0, 1), (186, .putfield 268, 3), (189, .aload_n 0, 1), (190, .bipush 75, 2), (192, .invokevirtual 244, 3), (195, .ifCond .ne 133, 3), (198, .aload_n 0, 1), (199, .bipush 77, 2), (201, .invokevirtual 244, 3), (204, .ifCond .eq 36, 3), (207, .iload_n 1, 1), (208, .ifCond .ne 32, 3), (211, .iconst 1, 1), (212, .istore_n 1, 1), (213, .aload_n 0, 1), (214, .invokevirtual 247, 3), (217, .aload_n 0, 1), (218, .invokevirtual 271, 3), (221, .aload_n 0, 1), (222, .aload_n 0, 1), (223, .getfield 195, 3), (226, .putfield 259, 3), (229, .aload_n 0, 1), (230, .aload_n 0, 1), (231, .getfield 198, 3), (234, .putfield 262, 3), (237, .goto 80, 3), (240, .aload_n 0, 1), (241, .bipush 76, 2), (243, .invokevirtual 244, 3), (246, .ifCond .eq 24, 3), (249, .iload_n 2, 1), (250, .ifCond .ne 20, 3), (253, .iconst 1, 1), (254, .istore_n 2, 1), (255, .aload_n 0, 1), (256, .invokevirtual 247, 3), (259, .aload_n 0, 1), (260, .aload_n 0, 1), (261, .invokevirtual 274, 3), (264, .putfield 268, 3), (267, .goto 50, 3), (270, .aload_n 0, 1), (271, .bipush 81, 2), (273, .invokevirtual 244, 3), (276, .ifCond .eq 32, 3), (279, .iload_n 3, 1), (280, .ifCond .ne 28, 3), (283, .iconst 1, 1), (284, .istore_n 3, 1), (285, .aload_n 0, 1), (286, .invokevirtual 247, 3), (289, .aload_n 0, 1), (290, .aload_n 0, 1), (291, .iconst 1, 1), (292, .sipush 999, 3), (295, .aload_n 0, 1), (296, .getfield 138, 3), (299, .invokevirtual 207, 3), (302, .putfield 265, 3), (305, .goto 12, 3), (308, .aload_n 0, 1), (309, .iconst 1, 1), (310, .aload_n 0, 1), (311, .getfield 138, 3), (314, .invokevirtual 148, 3), (317, .aload_n 0, 1), (318, .invokevirtual 253, 3), (321, .aload_n 0, 1), (322, .invokevirtual 152, 3), (325, .goto (-136), 3), (328, .aload_n 0, 1), (329, .invokevirtual 247, 3), (332, .aload_n 0, 1), (333, .aload_n 0, 1), (334, .invokevirtual 277, 3), (337, .putfield 280, 3), (340, .aload_n 0, 1), (341, .invokevirtual 253, 3), (344, .iload_n 2, 1), (345, .ifCond .ne 36, 3), (348, .aload_n 0, 1), (349, .aload_n 0, 1), (350, .getfield 259, 3), (353, .ifCond .le 23, 3), (356, .iconst 4, 1), (357, .aload_n 0, 1), (358, .getfield 259, 3), (361, .imul, 1), (362, .iconst 3, 1), (363, .aload_n 0, 1), (364, .getfield 262, 3), (367, .imul, 1), (368, .if_icmp .ge 8, 3), (371, .bipush 16, 2), (373, .goto 5, 3), (376, .bipush 8, 2), (378, .putfield 268, 3), (381, .return_, 1)]
set_option maxRecDepth 20000 in
theorem il_X12_readHeads_ok : ∀ x ∈ il_X12_readHeads, decode cX12_readHeads x.1 = .ok x.2 := by decide +kernel
abbrev me_X12_readHeads : Me := (RX12, il_X12_readHeads, 4, none, xRoom 7, [])
def w_X12_readHeads_381 (n : Nat) (u0 : Mm) (Q : Mm → Prop) (T : Mm → Prop) : Prop :=
  Q u0
def w_X12_readHeads_378 (n : Nat) (t0 : Int32) (u0 : Mm) (Q : Mm → Prop) (T : Mm → Prop) : Prop :=
  mlet (setI u0 0 18 t0) fun u1 =>
  w_X12_readHeads_381 n u1 Q T
def w_X12_readHeads_376 (n : Nat) (u0 : Mm) (Q : Mm → Prop) (T : Mm → Prop) : Prop :=
  w_X12_readHeads_378 n (8 : Int32) u0 Q T
def w_X12_readHeads_317 (n : Nat) (L189 : Int32 → Int32 → Int32 → Mm → Prop) (x1 : Int32) (x2 : Int32) (x3 : Int32) (u0 : Mm) (Q : Mm → Prop) (T : Mm → Prop) : Prop :=
  w_X12_endLine n u0 (fun u1 =>
  w_X12_beginLine n u1 (fun u2 =>
  L189 x1 x2 x3 u2) T) T
def w_X12_readHeads_308 (n : Nat) (L189 : Int32 → Int32 → Int32 → Mm → Prop) (x1 : Int32) (x2 : Int32) (x3 : Int32) (u0 : Mm) (Q : Mm → Prop) (T : Mm → Prop) : Prop :=
  w_X12_fail n (1 : Int32) (u0.1 0 7) u0 (fun u1 =>
  w_X12_readHeads_317 n L189 x1 x2 x3 u1 Q T) T
def w_X12_readHeads_270 (n : Nat) (L189 : Int32 → Int32 → Int32 → Mm → Prop) (x1 : Int32) (x2 : Int32) (x3 : Int32) (u0 : Mm) (Q : Mm → Prop) (T : Mm → Prop) : Prop :=
  w_X12_isHead n (81 : Int32) u0 (fun r1 u1 =>
  (r1 = 0 → w_X12_readHeads_308 n L189 x1 x2 x3 u1 Q T) ∧
  (¬ r1 = 0 → (¬ x3 = 0 → w_X12_readHeads_308 n L189 x1 x2 x3 u1 Q T) ∧
  (x3 = 0 → w_X12_passHead n u1 (fun u2 =>
  w_X12_numberOf n (1 : Int32) (999 : Int32) (u2.1 0 7) u2 (fun r2 u3 =>
  mlet (setI u3 0 19 r2) fun u4 =>
  w_X12_readHeads_317 n L189 x1 x2 (1 : Int32) u4 Q T) T) T))) T
def w_X12_readHeads_240 (n : Nat) (L189 : Int32 → Int32 → Int32 → Mm → Prop) (x1 : Int32) (x2 : Int32) (x3 : Int32) (u0 : Mm) (Q : Mm → Prop) (T : Mm → Prop) : Prop :=
  w_X12_isHead n (76 : Int32) u0 (fun r1 u1 =>
  (r1 = 0 → w_X12_readHeads_270 n L189 x1 x2 x3 u1 Q T) ∧
  (¬ r1 = 0 → (¬ x2 = 0 → w_X12_readHeads_270 n L189 x1 x2 x3 u1 Q T) ∧
  (x2 = 0 → w_X12_passHead n u1 (fun u2 =>
  w_X12_readUnit n u2 (fun r2 u3 =>
  mlet (setI u3 0 18 r2) fun u4 =>
  w_X12_readHeads_317 n L189 x1 (1 : Int32) x3 u4 Q T) T) T))) T
def w_X12_readHeads_189 (n : Nat) (Q : Mm → Prop) (T : Mm → Prop) : Nat → Int32 → Int32 → Int32 → Mm → Prop
  | 0, _, _, _, _ => False
  | k + 1, x1, x2, x3, u0 =>
  w_X12_isHead n (75 : Int32) u0 (fun r1 u1 =>
  (¬ r1 = 0 → w_X12_passHead n u1 (fun u2 =>
  w_X12_readKey n u2 (fun r2 u3 =>
  mlet (setI u3 0 20 r2) fun u4 =>
  w_X12_endLine n u4 (fun u5 =>
  (¬ x2 = 0 → w_X12_readHeads_381 n u5 Q T) ∧
  (x2 = 0 → ((u5.1 0 16) ≤ 0 → w_X12_readHeads_376 n u5 Q T) ∧
  (¬ (u5.1 0 16) ≤ 0 → (((3 : Int32) * (u5.1 0 17)) ≤ ((4 : Int32) * (u5.1 0 16)) → w_X12_readHeads_376 n u5 Q T) ∧
  (¬ ((3 : Int32) * (u5.1 0 17)) ≤ ((4 : Int32) * (u5.1 0 16)) → w_X12_readHeads_378 n (16 : Int32) u5 Q T)))) T) T) T) ∧
  (r1 = 0 → w_X12_isHead n (77 : Int32) u1 (fun r3 u6 =>
  (r3 = 0 → w_X12_readHeads_240 n (w_X12_readHeads_189 n Q T k) x1 x2 x3 u6 Q T) ∧
  (¬ r3 = 0 → (¬ x1 = 0 → w_X12_readHeads_240 n (w_X12_readHeads_189 n Q T k) x1 x2 x3 u6 Q T) ∧
  (x1 = 0 → w_X12_passHead n u6 (fun u7 =>
  w_X12_readMeter n u7 (fun u8 =>
  mlet (setI u8 0 16 (u8.1 0 50)) fun u9 =>
  mlet (setI u9 0 17 (u9.1 0 51)) fun u10 =>
  w_X12_readHeads_317 n (w_X12_readHeads_189 n Q T k) (1 : Int32) x2 x3 u10 Q T) T) T))) T)) T
def w_X12_readHeads_99 (n : Nat) (L73 : Mm → Prop) (u0 : Mm) (Q : Mm → Prop) (T : Mm → Prop) : Prop :=
  w_X12_passHead n u0 (fun u1 =>
  vp_in (u1.1 0 13) 3 ∧ (mlet (setI u1 4 (ix (u1.1 0 13)) (u1.1 0 7)) fun u2 =>
  vp_in (u2.1 0 13) 3 ∧ (mlet (setI u2 5 (ix (u2.1 0 13)) ((u2.1 0 9) - (u2.1 0 7))) fun u3 =>
  mlet (setI u3 0 7 (u3.1 0 9)) fun u4 =>
  mlet (setI u4 0 13 ((u4.1 0 13) + (1 : Int32))) fun u5 =>
  w_X12_endLine n u5 (fun u6 =>
  w_X12_beginLine n u6 (fun u7 =>
  L73 u7) T) T))) T
def w_X12_readHeads_73 (n : Nat) (Q : Mm → Prop) (T : Mm → Prop) : Nat → Mm → Prop
  | 0, _ => False
  | k + 1, u0 =>
  w_X12_isHead n (84 : Int32) u0 (fun r1 u1 =>
  (r1 = 0 → mlet (setI u1 0 16 (0 : Int32)) fun u2 =>
  mlet (setI u2 0 17 (0 : Int32)) fun u3 =>
  mlet (setI u3 0 19 (0 : Int32)) fun u4 =>
  mlet (setI u4 0 18 (0 : Int32)) fun u5 =>
  (w_X12_readHeads_189 n Q T n) (0 : Int32) (0 : Int32) (0 : Int32) u5) ∧
  (¬ r1 = 0 → (¬ (u1.1 0 13) = (3 : Int32) → w_X12_readHeads_99 n (w_X12_readHeads_73 n Q T k) u1 Q T) ∧
  ((u1.1 0 13) = (3 : Int32) → w_X12_fail n (1 : Int32) (u1.1 0 7) u1 (fun u6 =>
  w_X12_readHeads_99 n (w_X12_readHeads_73 n Q T k) u6 Q T) T))) T
def w_X12_readHeads_22 (n : Nat) (u0 : Mm) (Q : Mm → Prop) (T : Mm → Prop) : Prop :=
  w_X12_passHead n u0 (fun u1 =>
  w_X12_numberOf n (1 : Int32) (9999 : Int32) (u1.1 0 7) u1 (fun r1 u2 =>
  mlet (setI u2 0 12 r1) fun u3 =>
  w_X12_endLine n u3 (fun u4 =>
  mlet (setI u4 0 13 (0 : Int32)) fun u5 =>
  w_X12_beginLine n u5 (fun u6 =>
  w_X12_isHead n (84 : Int32) u6 (fun r2 u7 =>
  (¬ r2 = 0 → (w_X12_readHeads_73 n Q T n) u7) ∧
  (r2 = 0 → w_X12_fail n (1 : Int32) (u7.1 0 7) u7 (fun u8 =>
  (w_X12_readHeads_73 n Q T n) u8) T)) T) T) T) T) T
def w_X12_readHeads (n : Nat) (u0 : Mm) (Q : Mm → Prop) (T : Mm → Prop) : Prop :=
  w_X12_beginLine n u0 (fun u1 =>
  w_X12_isHead n (88 : Int32) u1 (fun r1 u2 =>
  (¬ r1 = 0 → w_X12_readHeads_22 n u2 Q T) ∧
  (r1 = 0 → w_X12_fail n (1 : Int32) (u2.1 0 7) u2 (fun u3 =>
  w_X12_readHeads_22 n u3 Q T) T)) T) T
set_option maxRecDepth 20000 in
theorem s_X12_readHeads_381 {g : Gb} (hg : xInj g) {n : Nat} {Q : Mm → Prop} {T : Mm → Prop} {u0 : Mm} (h : w_X12_readHeads_381 n  u0 Q T) : xE g me_X12_readHeads (pV g Q T) 381 [] [] u0 := by
  unfold w_X12_readHeads_381 at h
  exact e_vret (k := 198) rfl rfl (Or.inl ⟨rfl, h⟩)
set_option maxRecDepth 20000 in
theorem s_X12_readHeads_378 {g : Gb} (hg : xInj g) {n : Nat} {Q : Mm → Prop} {T : Mm → Prop} {t0 : Int32} {u0 : Mm} (h : w_X12_readHeads_378 n t0 u0 Q T) : xE g me_X12_readHeads (pV g Q T) 378 [] [.int t0, .ref (gR g 0)] u0 := by
  unfold w_X12_readHeads_378 at h
  refine e_putI (k := 197) rfl fg_X12_268 rfl rfl ?_
  refine e_mlet h (fun u1 h => ?_)
  exact s_X12_readHeads_381 hg h
set_option maxRecDepth 20000 in
theorem s_X12_readHeads_376 {g : Gb} (hg : xInj g) {n : Nat} {Q : Mm → Prop} {T : Mm → Prop} {u0 : Mm} (h : w_X12_readHeads_376 n  u0 Q T) : xE g me_X12_readHeads (pV g Q T) 376 [] [.ref (gR g 0)] u0 := by
  unfold w_X12_readHeads_376 at h
  refine e_bipush (k := 196) (v := (8 : Int32)) rfl (by decide) ?_
  exact s_X12_readHeads_378 hg h
set_option maxRecDepth 20000 in
theorem s_X12_readHeads_317 {g : Gb} (hg : xInj g) {n : Nat} {Q : Mm → Prop} {T : Mm → Prop} {L189 : Int32 → Int32 → Int32 → Mm → Prop} (hL189 : ∀ (x1 : Int32) (x2 : Int32) (x3 : Int32) (u0 : Mm), L189 x1 x2 x3 u0 → xE g me_X12_readHeads (pV g Q T) 189 [(0, .ref (gR g 0)), (1, .int x1), (2, .int x2), (3, .int x3)] [] u0) {x1 : Int32} {x2 : Int32} {x3 : Int32} {u0 : Mm} (h : w_X12_readHeads_317 n L189 x1 x2 x3 u0 Q T) : xE g me_X12_readHeads (pV g Q T) 317 [(0, .ref (gR g 0)), (1, .int x1), (2, .int x2), (3, .int x3)] [] u0 := by
  unfold w_X12_readHeads_317 at h
  refine e_aload_n (k := 166) (i := 0) rfl rfl 0 rfl ?_
  refine e_callVv (k := 167) (q := 0) (As := []) (rest := []) rfl (c_X12_endLine (g := g) hg (n := n) h) m_X12_endLine i_X12_endLine l_X12_253 rfl ⟨_, rfl, rfl⟩ rfl rfl (Nat.le_of_ble_eq_true rfl) ⟨by decide, by decide, rfl, rfl⟩ (fun _ h => ⟨fun _ z => (by cases z), Or.inr ⟨rfl, h⟩⟩) (fun u1 h => ?_)
  refine e_aload_n (k := 168) (i := 0) rfl rfl 0 rfl ?_
  refine e_callVv (k := 169) (q := 0) (As := []) (rest := []) rfl (c_X12_beginLine (g := g) hg (n := n) h) m_X12_beginLine i_X12_beginLine l_X12_152 rfl ⟨_, rfl, rfl⟩ rfl rfl (Nat.le_of_ble_eq_true rfl) ⟨by decide, by decide, rfl, rfl⟩ (fun _ h => ⟨fun _ z => (by cases z), Or.inr ⟨rfl, h⟩⟩) (fun u2 h => ?_)
  refine e_goto (k := 170) (tgt := 189) rfl (by decide) ?_
  exact hL189 x1 x2 x3 u2 h
set_option maxRecDepth 20000 in
theorem s_X12_readHeads_308 {g : Gb} (hg : xInj g) {n : Nat} {Q : Mm → Prop} {T : Mm → Prop} {L189 : Int32 → Int32 → Int32 → Mm → Prop} (hL189 : ∀ (x1 : Int32) (x2 : Int32) (x3 : Int32) (u0 : Mm), L189 x1 x2 x3 u0 → xE g me_X12_readHeads (pV g Q T) 189 [(0, .ref (gR g 0)), (1, .int x1), (2, .int x2), (3, .int x3)] [] u0) {x1 : Int32} {x2 : Int32} {x3 : Int32} {u0 : Mm} (h : w_X12_readHeads_308 n L189 x1 x2 x3 u0 Q T) : xE g me_X12_readHeads (pV g Q T) 308 [(0, .ref (gR g 0)), (1, .int x1), (2, .int x2), (3, .int x3)] [] u0 := by
  unfold w_X12_readHeads_308 at h
  refine e_aload_n (k := 161) (i := 0) rfl rfl 0 rfl ?_
  refine e_iconst (k := 162) (v := (1 : Int32)) rfl (by decide) ?_
  refine e_aload_n (k := 163) (i := 0) rfl rfl 0 rfl ?_
  refine e_getI (k := 164) rfl f_X12_138 rfl rfl ?_
  refine e_callVv (k := 165) (q := 0) (As := [.int (1 : Int32), .int (u0.1 0 7)]) (rest := []) rfl (c_X12_fail (g := g) hg (n := n) h) m_X12_fail i_X12_fail l_X12_148 rfl ⟨_, rfl, rfl⟩ rfl rfl (Nat.le_of_ble_eq_true rfl) ⟨by decide, by decide, rfl, rfl⟩ (fun _ h => ⟨fun _ z => (by cases z), Or.inr ⟨rfl, h⟩⟩) (fun u1 h => ?_)
  exact s_X12_readHeads_317 hg hL189 h
set_option maxRecDepth 20000 in
theorem s_X12_readHeads_270 {g : Gb} (hg : xInj g) {n : Nat} {Q : Mm → Prop} {T : Mm → Prop} {L189 : Int32 → Int32 → Int32 → Mm → Prop} (hL189 : ∀ (x1 : Int32) (x2 : Int32) (x3 : Int32) (u0 : Mm), L189 x1 x2 x3 u0 → xE g me_X12_readHeads (pV g Q T) 189 [(0, .ref (gR g 0)), (1, .int x1), (2, .int x2), (3, .int x3)] [] u0) {x1 : Int32} {x2 : Int32} {x3 : Int32} {u0 : Mm} (h : w_X12_readHeads_270 n L189 x1 x2 x3 u0 Q T) : xE g me_X12_readHeads (pV g Q T) 270 [(0, .ref (gR g 0)), (1, .int x1), (2, .int x2), (3, .int x3)] [] u0 := by
  unfold w_X12_readHeads_270 at h
  refine e_aload_n (k := 142) (i := 0) rfl rfl 0 rfl ?_
  refine e_bipush (k := 143) (v := (81 : Int32)) rfl (by decide) ?_
  refine e_callVi (k := 144) (q := 0) (As := [.int (81 : Int32)]) (rest := []) rfl (c_X12_isHead (g := g) hg (n := n) h) m_X12_isHead i_X12_isHead l_X12_244 rfl ⟨_, rfl, rfl⟩ rfl rfl (Nat.le_of_ble_eq_true rfl) ⟨by decide, by decide, rfl, rfl⟩ (fun _ h => ⟨fun _ z => (by cases z), Or.inr ⟨rfl, h⟩⟩) (fun r1 u1 h => ?_)
  refine e_if_eq (k := 145) (tgt := 308) rfl (by decide) (fun z => ?_) (fun z => ?_)
  · have h := h.1 z
    exact s_X12_readHeads_308 hg hL189 h
  · have h := h.2 z
    refine e_iload_n (k := 146) (i := 3) rfl rfl 3 rfl ?_
    refine e_if_ne (k := 147) (tgt := 308) rfl (by decide) (fun z => ?_) (fun z => ?_)
    · have h := h.1 z
      exact s_X12_readHeads_308 hg hL189 h
    · have h := h.2 z
      refine e_iconst (k := 148) (v := (1 : Int32)) rfl (by decide) ?_
      refine e_istore_n (k := 149) (i := 3) (lv' := [(0, .ref (gR g 0)), (1, .int x1), (2, .int x2), (3, .int (1 : Int32))]) rfl rfl (by decide) [1, 2, 3, 0] rfl ?_
      refine e_aload_n (k := 150) (i := 0) rfl rfl 0 rfl ?_
      refine e_callVv (k := 151) (q := 0) (As := []) (rest := []) rfl (c_X12_passHead (g := g) hg (n := n) h) m_X12_passHead i_X12_passHead l_X12_247 rfl ⟨_, rfl, rfl⟩ rfl rfl (Nat.le_of_ble_eq_true rfl) ⟨by decide, by decide, rfl, rfl⟩ (fun _ h => ⟨fun _ z => (by cases z), Or.inr ⟨rfl, h⟩⟩) (fun u2 h => ?_)
      refine e_aload_n (k := 152) (i := 0) rfl rfl 0 rfl ?_
      refine e_aload_n (k := 153) (i := 0) rfl rfl 0 rfl ?_
      refine e_iconst (k := 154) (v := (1 : Int32)) rfl (by decide) ?_
      refine e_sipush (k := 155) (v := (999 : Int32)) rfl (by decide) ?_
      refine e_aload_n (k := 156) (i := 0) rfl rfl 0 rfl ?_
      refine e_getI (k := 157) rfl f_X12_138 rfl rfl ?_
      refine e_callVi (k := 158) (q := 0) (As := [.int (1 : Int32), .int (999 : Int32), .int (u2.1 0 7)]) (rest := [.ref (gR g 0)]) rfl (c_X12_numberOf (g := g) hg (n := n) h) m_X12_numberOf i_X12_numberOf l_X12_207 rfl ⟨_, rfl, rfl⟩ rfl rfl (Nat.le_of_ble_eq_true rfl) ⟨by decide, by decide, rfl, rfl⟩ (fun _ h => ⟨fun _ z => (by cases z), Or.inr ⟨rfl, h⟩⟩) (fun r2 u3 h => ?_)
      refine e_putI (k := 159) rfl fg_X12_265 rfl rfl ?_
      refine e_mlet h (fun u4 h => ?_)
      refine e_goto (k := 160) (tgt := 317) rfl (by decide) ?_
      exact s_X12_readHeads_317 hg hL189 h
set_option maxRecDepth 20000 in
theorem s_X12_readHeads_240 {g : Gb} (hg : xInj g) {n : Nat} {Q : Mm → Prop} {T : Mm → Prop} {L189 : Int32 → Int32 → Int32 → Mm → Prop} (hL189 : ∀ (x1 : Int32) (x2 : Int32) (x3 : Int32) (u0 : Mm), L189 x1 x2 x3 u0 → xE g me_X12_readHeads (pV g Q T) 189 [(0, .ref (gR g 0)), (1, .int x1), (2, .int x2), (3, .int x3)] [] u0) {x1 : Int32} {x2 : Int32} {x3 : Int32} {u0 : Mm} (h : w_X12_readHeads_240 n L189 x1 x2 x3 u0 Q T) : xE g me_X12_readHeads (pV g Q T) 240 [(0, .ref (gR g 0)), (1, .int x1), (2, .int x2), (3, .int x3)] [] u0 := by
  unfold w_X12_readHeads_240 at h
  refine e_aload_n (k := 127) (i := 0) rfl rfl 0 rfl ?_
  refine e_bipush (k := 128) (v := (76 : Int32)) rfl (by decide) ?_
  refine e_callVi (k := 129) (q := 0) (As := [.int (76 : Int32)]) (rest := []) rfl (c_X12_isHead (g := g) hg (n := n) h) m_X12_isHead i_X12_isHead l_X12_244 rfl ⟨_, rfl, rfl⟩ rfl rfl (Nat.le_of_ble_eq_true rfl) ⟨by decide, by decide, rfl, rfl⟩ (fun _ h => ⟨fun _ z => (by cases z), Or.inr ⟨rfl, h⟩⟩) (fun r1 u1 h => ?_)
  refine e_if_eq (k := 130) (tgt := 270) rfl (by decide) (fun z => ?_) (fun z => ?_)
  · have h := h.1 z
    exact s_X12_readHeads_270 hg hL189 h
  · have h := h.2 z
    refine e_iload_n (k := 131) (i := 2) rfl rfl 2 rfl ?_
    refine e_if_ne (k := 132) (tgt := 270) rfl (by decide) (fun z => ?_) (fun z => ?_)
    · have h := h.1 z
      exact s_X12_readHeads_270 hg hL189 h
    · have h := h.2 z
      refine e_iconst (k := 133) (v := (1 : Int32)) rfl (by decide) ?_
      refine e_istore_n (k := 134) (i := 2) (lv' := [(0, .ref (gR g 0)), (1, .int x1), (2, .int (1 : Int32)), (3, .int x3)]) rfl rfl (by decide) [1, 2, 0, 3] rfl ?_
      refine e_aload_n (k := 135) (i := 0) rfl rfl 0 rfl ?_
      refine e_callVv (k := 136) (q := 0) (As := []) (rest := []) rfl (c_X12_passHead (g := g) hg (n := n) h) m_X12_passHead i_X12_passHead l_X12_247 rfl ⟨_, rfl, rfl⟩ rfl rfl (Nat.le_of_ble_eq_true rfl) ⟨by decide, by decide, rfl, rfl⟩ (fun _ h => ⟨fun _ z => (by cases z), Or.inr ⟨rfl, h⟩⟩) (fun u2 h => ?_)
      refine e_aload_n (k := 137) (i := 0) rfl rfl 0 rfl ?_
      refine e_aload_n (k := 138) (i := 0) rfl rfl 0 rfl ?_
      refine e_callVi (k := 139) (q := 0) (As := []) (rest := [.ref (gR g 0)]) rfl (c_X12_readUnit (g := g) hg (n := n) h) m_X12_readUnit i_X12_readUnit l_X12_274 rfl ⟨_, rfl, rfl⟩ rfl rfl (Nat.le_of_ble_eq_true rfl) ⟨by decide, by decide, rfl, rfl⟩ (fun _ h => ⟨fun _ z => (by cases z), Or.inr ⟨rfl, h⟩⟩) (fun r2 u3 h => ?_)
      refine e_putI (k := 140) rfl fg_X12_268 rfl rfl ?_
      refine e_mlet h (fun u4 h => ?_)
      refine e_goto (k := 141) (tgt := 317) rfl (by decide) ?_
      exact s_X12_readHeads_317 hg hL189 h
set_option maxRecDepth 20000 in
theorem s_X12_readHeads_189 {g : Gb} (hg : xInj g) {n : Nat} {Q : Mm → Prop} {T : Mm → Prop} : ∀ (k : Nat) (x1 : Int32) (x2 : Int32) (x3 : Int32) (u0 : Mm), w_X12_readHeads_189 n Q T k x1 x2 x3 u0 → xE g me_X12_readHeads (pV g Q T) 189 [(0, .ref (gR g 0)), (1, .int x1), (2, .int x2), (3, .int x3)] [] u0 := by
  intro k
  induction k with
  | zero => intro x1 x2 x3 u0 h; exact h.elim
  | succ k ih =>
    intro x1 x2 x3 u0 h
    unfold w_X12_readHeads_189 at h
    refine e_aload_n (k := 102) (i := 0) rfl rfl 0 rfl ?_
    refine e_bipush (k := 103) (v := (75 : Int32)) rfl (by decide) ?_
    refine e_callVi (k := 104) (q := 0) (As := [.int (75 : Int32)]) (rest := []) rfl (c_X12_isHead (g := g) hg (n := n) h) m_X12_isHead i_X12_isHead l_X12_244 rfl ⟨_, rfl, rfl⟩ rfl rfl (Nat.le_of_ble_eq_true rfl) ⟨by decide, by decide, rfl, rfl⟩ (fun _ h => ⟨fun _ z => (by cases z), Or.inr ⟨rfl, h⟩⟩) (fun r1 u1 h => ?_)
    refine e_if_ne (k := 105) (tgt := 328) rfl (by decide) (fun z => ?_) (fun z => ?_)
    · have h := h.1 z
      refine e_aload_n (k := 171) (i := 0) rfl rfl 0 rfl ?_
      refine e_callVv (k := 172) (q := 0) (As := []) (rest := []) rfl (c_X12_passHead (g := g) hg (n := n) h) m_X12_passHead i_X12_passHead l_X12_247 rfl ⟨_, rfl, rfl⟩ rfl rfl (Nat.le_of_ble_eq_true rfl) ⟨by decide, by decide, rfl, rfl⟩ (fun _ h => ⟨fun _ z => (by cases z), Or.inr ⟨rfl, h⟩⟩) (fun u2 h => ?_)
      refine e_aload_n (k := 173) (i := 0) rfl rfl 0 rfl ?_
      refine e_aload_n (k := 174) (i := 0) rfl rfl 0 rfl ?_
      refine e_callVi (k := 175) (q := 0) (As := []) (rest := [.ref (gR g 0)]) rfl (c_X12_readKey (g := g) hg (n := n) h) m_X12_readKey i_X12_readKey l_X12_277 rfl ⟨_, rfl, rfl⟩ rfl rfl (Nat.le_of_ble_eq_true rfl) ⟨by decide, by decide, rfl, rfl⟩ (fun _ h => ⟨fun _ z => (by cases z), Or.inr ⟨rfl, h⟩⟩) (fun r2 u3 h => ?_)
      refine e_putI (k := 176) rfl fg_X12_280 rfl rfl ?_
      refine e_mlet h (fun u4 h => ?_)
      refine e_aload_n (k := 177) (i := 0) rfl rfl 0 rfl ?_
      refine e_callVv (k := 178) (q := 0) (As := []) (rest := []) rfl (c_X12_endLine (g := g) hg (n := n) h) m_X12_endLine i_X12_endLine l_X12_253 rfl ⟨_, rfl, rfl⟩ rfl rfl (Nat.le_of_ble_eq_true rfl) ⟨by decide, by decide, rfl, rfl⟩ (fun _ h => ⟨fun _ z => (by cases z), Or.inr ⟨rfl, h⟩⟩) (fun u5 h => ?_)
      refine e_iload_n (k := 179) (i := 2) rfl rfl 2 rfl ?_
      refine e_if_ne (k := 180) (tgt := 381) rfl (by decide) (fun z => ?_) (fun z => ?_)
      · have h := h.1 z
        refine e_sub (lv' := []) [] rfl ?_
        exact s_X12_readHeads_381 hg h
      · have h := h.2 z
        refine e_aload_n (k := 181) (i := 0) rfl rfl 0 rfl ?_
        refine e_aload_n (k := 182) (i := 0) rfl rfl 0 rfl ?_
        refine e_getI (k := 183) rfl f_X12_259 rfl rfl ?_
        refine e_if_le (k := 184) (tgt := 376) rfl (by decide) (fun z => ?_) (fun z => ?_)
        · have h := h.1 z
          refine e_sub (lv' := []) [] rfl ?_
          exact s_X12_readHeads_376 hg h
        · have h := h.2 z
          refine e_iconst (k := 185) (v := (4 : Int32)) rfl (by decide) ?_
          refine e_aload_n (k := 186) (i := 0) rfl rfl 0 rfl ?_
          refine e_getI (k := 187) rfl f_X12_259 rfl rfl ?_
          refine e_imul (k := 188) rfl ?_
          refine e_iconst (k := 189) (v := (3 : Int32)) rfl (by decide) ?_
          refine e_aload_n (k := 190) (i := 0) rfl rfl 0 rfl ?_
          refine e_getI (k := 191) rfl f_X12_262 rfl rfl ?_
          refine e_imul (k := 192) rfl ?_
          refine e_icmp_ge (k := 193) (tgt := 376) rfl (by decide) (fun z => ?_) (fun z => ?_)
          · have h := h.1 z
            refine e_sub (lv' := []) [] rfl ?_
            exact s_X12_readHeads_376 hg h
          · have h := h.2 z
            refine e_bipush (k := 194) (v := (16 : Int32)) rfl (by decide) ?_
            refine e_goto (k := 195) (tgt := 378) rfl (by decide) ?_
            refine e_sub (lv' := []) [] rfl ?_
            exact s_X12_readHeads_378 hg h
    · have h := h.2 z
      refine e_aload_n (k := 106) (i := 0) rfl rfl 0 rfl ?_
      refine e_bipush (k := 107) (v := (77 : Int32)) rfl (by decide) ?_
      refine e_callVi (k := 108) (q := 0) (As := [.int (77 : Int32)]) (rest := []) rfl (c_X12_isHead (g := g) hg (n := n) h) m_X12_isHead i_X12_isHead l_X12_244 rfl ⟨_, rfl, rfl⟩ rfl rfl (Nat.le_of_ble_eq_true rfl) ⟨by decide, by decide, rfl, rfl⟩ (fun _ h => ⟨fun _ z => (by cases z), Or.inr ⟨rfl, h⟩⟩) (fun r3 u6 h => ?_)
      refine e_if_eq (k := 109) (tgt := 240) rfl (by decide) (fun z => ?_) (fun z => ?_)
      · have h := h.1 z
        exact s_X12_readHeads_240 hg ih h
      · have h := h.2 z
        refine e_iload_n (k := 110) (i := 1) rfl rfl 1 rfl ?_
        refine e_if_ne (k := 111) (tgt := 240) rfl (by decide) (fun z => ?_) (fun z => ?_)
        · have h := h.1 z
          exact s_X12_readHeads_240 hg ih h
        · have h := h.2 z
          refine e_iconst (k := 112) (v := (1 : Int32)) rfl (by decide) ?_
          refine e_istore_n (k := 113) (i := 1) (lv' := [(0, .ref (gR g 0)), (1, .int (1 : Int32)), (2, .int x2), (3, .int x3)]) rfl rfl (by decide) [1, 0, 2, 3] rfl ?_
          refine e_aload_n (k := 114) (i := 0) rfl rfl 0 rfl ?_
          refine e_callVv (k := 115) (q := 0) (As := []) (rest := []) rfl (c_X12_passHead (g := g) hg (n := n) h) m_X12_passHead i_X12_passHead l_X12_247 rfl ⟨_, rfl, rfl⟩ rfl rfl (Nat.le_of_ble_eq_true rfl) ⟨by decide, by decide, rfl, rfl⟩ (fun _ h => ⟨fun _ z => (by cases z), Or.inr ⟨rfl, h⟩⟩) (fun u7 h => ?_)
          refine e_aload_n (k := 116) (i := 0) rfl rfl 0 rfl ?_
          refine e_callVv (k := 117) (q := 0) (As := []) (rest := []) rfl (c_X12_readMeter (g := g) hg (n := n) h) m_X12_readMeter i_X12_readMeter l_X12_271 rfl ⟨_, rfl, rfl⟩ rfl rfl (Nat.le_of_ble_eq_true rfl) ⟨by decide, by decide, rfl, rfl⟩ (fun _ h => ⟨fun _ z => (by cases z), Or.inr ⟨rfl, h⟩⟩) (fun u8 h => ?_)
          refine e_aload_n (k := 118) (i := 0) rfl rfl 0 rfl ?_
          refine e_aload_n (k := 119) (i := 0) rfl rfl 0 rfl ?_
          refine e_getI (k := 120) rfl f_X12_195 rfl rfl ?_
          refine e_putI (k := 121) rfl fg_X12_259 rfl rfl ?_
          refine e_mlet h (fun u9 h => ?_)
          refine e_aload_n (k := 122) (i := 0) rfl rfl 0 rfl ?_
          refine e_aload_n (k := 123) (i := 0) rfl rfl 0 rfl ?_
          refine e_getI (k := 124) rfl f_X12_198 rfl rfl ?_
          refine e_putI (k := 125) rfl fg_X12_262 rfl rfl ?_
          refine e_mlet h (fun u10 h => ?_)
          refine e_goto (k := 126) (tgt := 317) rfl (by decide) ?_
          exact s_X12_readHeads_317 hg ih h
set_option maxRecDepth 20000 in
theorem s_X12_readHeads_99 {g : Gb} (hg : xInj g) {n : Nat} {Q : Mm → Prop} {T : Mm → Prop} {L73 : Mm → Prop} (hL73 : ∀ (u0 : Mm), L73  u0 → xE g me_X12_readHeads (pV g Q T) 73 [(0, .ref (gR g 0))] [] u0) {u0 : Mm} (h : w_X12_readHeads_99 n L73  u0 Q T) : xE g me_X12_readHeads (pV g Q T) 99 [(0, .ref (gR g 0))] [] u0 := by
  unfold w_X12_readHeads_99 at h
  refine e_aload_n (k := 50) (i := 0) rfl rfl 0 rfl ?_
  refine e_callVv (k := 51) (q := 0) (As := []) (rest := []) rfl (c_X12_passHead (g := g) hg (n := n) h) m_X12_passHead i_X12_passHead l_X12_247 rfl ⟨_, rfl, rfl⟩ rfl rfl (Nat.le_of_ble_eq_true rfl) ⟨by decide, by decide, rfl, rfl⟩ (fun _ h => ⟨fun _ z => (by cases z), Or.inr ⟨rfl, h⟩⟩) (fun u1 h => ?_)
  refine e_aload_n (k := 52) (i := 0) rfl rfl 0 rfl ?_
  refine e_getC (k := 53) rfl f_X12_30 rfl rfl ?_
  refine e_aload_n (k := 54) (i := 0) rfl rfl 0 rfl ?_
  refine e_getI (k := 55) rfl f_X12_256 rfl rfl ?_
  refine e_aload_n (k := 56) (i := 0) rfl rfl 0 rfl ?_
  refine e_getI (k := 57) rfl f_X12_138 rfl rfl ?_
  refine e_iast (k := 58) rfl rfl h.1 ?_
  have h := h.2
  refine e_mlet h (fun u2 h => ?_)
  refine e_aload_n (k := 59) (i := 0) rfl rfl 0 rfl ?_
  refine e_getC (k := 60) rfl f_X12_34 rfl rfl ?_
  refine e_aload_n (k := 61) (i := 0) rfl rfl 0 rfl ?_
  refine e_getI (k := 62) rfl f_X12_256 rfl rfl ?_
  refine e_aload_n (k := 63) (i := 0) rfl rfl 0 rfl ?_
  refine e_getI (k := 64) rfl f_X12_135 rfl rfl ?_
  refine e_aload_n (k := 65) (i := 0) rfl rfl 0 rfl ?_
  refine e_getI (k := 66) rfl f_X12_138 rfl rfl ?_
  refine e_isub (k := 67) rfl ?_
  refine e_iast (k := 68) rfl rfl h.1 ?_
  have h := h.2
  refine e_mlet h (fun u3 h => ?_)
  refine e_aload_n (k := 69) (i := 0) rfl rfl 0 rfl ?_
  refine e_aload_n (k := 70) (i := 0) rfl rfl 0 rfl ?_
  refine e_getI (k := 71) rfl f_X12_135 rfl rfl ?_
  refine e_putI (k := 72) rfl fg_X12_138 rfl rfl ?_
  refine e_mlet h (fun u4 h => ?_)
  refine e_aload_n (k := 73) (i := 0) rfl rfl 0 rfl ?_
  refine e_dup (k := 74) rfl rfl ?_
  refine e_getI (k := 75) rfl f_X12_256 rfl rfl ?_
  refine e_iconst (k := 76) (v := (1 : Int32)) rfl (by decide) ?_
  refine e_iadd (k := 77) rfl ?_
  refine e_putI (k := 78) rfl fg_X12_256 rfl rfl ?_
  refine e_mlet h (fun u5 h => ?_)
  refine e_aload_n (k := 79) (i := 0) rfl rfl 0 rfl ?_
  refine e_callVv (k := 80) (q := 0) (As := []) (rest := []) rfl (c_X12_endLine (g := g) hg (n := n) h) m_X12_endLine i_X12_endLine l_X12_253 rfl ⟨_, rfl, rfl⟩ rfl rfl (Nat.le_of_ble_eq_true rfl) ⟨by decide, by decide, rfl, rfl⟩ (fun _ h => ⟨fun _ z => (by cases z), Or.inr ⟨rfl, h⟩⟩) (fun u6 h => ?_)
  refine e_aload_n (k := 81) (i := 0) rfl rfl 0 rfl ?_
  refine e_callVv (k := 82) (q := 0) (As := []) (rest := []) rfl (c_X12_beginLine (g := g) hg (n := n) h) m_X12_beginLine i_X12_beginLine l_X12_152 rfl ⟨_, rfl, rfl⟩ rfl rfl (Nat.le_of_ble_eq_true rfl) ⟨by decide, by decide, rfl, rfl⟩ (fun _ h => ⟨fun _ z => (by cases z), Or.inr ⟨rfl, h⟩⟩) (fun u7 h => ?_)
  refine e_goto (k := 83) (tgt := 73) rfl (by decide) ?_
  exact hL73 u7 h
set_option maxRecDepth 20000 in
theorem s_X12_readHeads_73 {g : Gb} (hg : xInj g) {n : Nat} {Q : Mm → Prop} {T : Mm → Prop} : ∀ (k : Nat) (u0 : Mm), w_X12_readHeads_73 n Q T k  u0 → xE g me_X12_readHeads (pV g Q T) 73 [(0, .ref (gR g 0))] [] u0 := by
  intro k
  induction k with
  | zero => intro  u0 h; exact h.elim
  | succ k ih =>
    intro  u0 h
    unfold w_X12_readHeads_73 at h
    refine e_aload_n (k := 37) (i := 0) rfl rfl 0 rfl ?_
    refine e_bipush (k := 38) (v := (84 : Int32)) rfl (by decide) ?_
    refine e_callVi (k := 39) (q := 0) (As := [.int (84 : Int32)]) (rest := []) rfl (c_X12_isHead (g := g) hg (n := n) h) m_X12_isHead i_X12_isHead l_X12_244 rfl ⟨_, rfl, rfl⟩ rfl rfl (Nat.le_of_ble_eq_true rfl) ⟨by decide, by decide, rfl, rfl⟩ (fun _ h => ⟨fun _ z => (by cases z), Or.inr ⟨rfl, h⟩⟩) (fun r1 u1 h => ?_)
    refine e_if_eq (k := 40) (tgt := 163) rfl (by decide) (fun z => ?_) (fun z => ?_)
    · have h := h.1 z
      refine e_iconst (k := 84) (v := (0 : Int32)) rfl (by decide) ?_
      refine e_istore_n (k := 85) (i := 1) (lv' := [(0, .ref (gR g 0)), (1, .int (0 : Int32))]) rfl rfl (by decide) [1, 0] rfl ?_
      refine e_iconst (k := 86) (v := (0 : Int32)) rfl (by decide) ?_
      refine e_istore_n (k := 87) (i := 2) (lv' := [(0, .ref (gR g 0)), (1, .int (0 : Int32)), (2, .int (0 : Int32))]) rfl rfl (by decide) [1, 2, 0] rfl ?_
      refine e_iconst (k := 88) (v := (0 : Int32)) rfl (by decide) ?_
      refine e_istore_n (k := 89) (i := 3) (lv' := [(0, .ref (gR g 0)), (1, .int (0 : Int32)), (2, .int (0 : Int32)), (3, .int (0 : Int32))]) rfl rfl (by decide) [1, 2, 3, 0] rfl ?_
      refine e_aload_n (k := 90) (i := 0) rfl rfl 0 rfl ?_
      refine e_iconst (k := 91) (v := (0 : Int32)) rfl (by decide) ?_
      refine e_putI (k := 92) rfl fg_X12_259 rfl rfl ?_
      refine e_mlet h (fun u2 h => ?_)
      refine e_aload_n (k := 93) (i := 0) rfl rfl 0 rfl ?_
      refine e_iconst (k := 94) (v := (0 : Int32)) rfl (by decide) ?_
      refine e_putI (k := 95) rfl fg_X12_262 rfl rfl ?_
      refine e_mlet h (fun u3 h => ?_)
      refine e_aload_n (k := 96) (i := 0) rfl rfl 0 rfl ?_
      refine e_iconst (k := 97) (v := (0 : Int32)) rfl (by decide) ?_
      refine e_putI (k := 98) rfl fg_X12_265 rfl rfl ?_
      refine e_mlet h (fun u4 h => ?_)
      refine e_aload_n (k := 99) (i := 0) rfl rfl 0 rfl ?_
      refine e_iconst (k := 100) (v := (0 : Int32)) rfl (by decide) ?_
      refine e_putI (k := 101) rfl fg_X12_268 rfl rfl ?_
      refine e_mlet h (fun u5 h => ?_)
      exact s_X12_readHeads_189 hg n (0 : Int32) (0 : Int32) (0 : Int32) u5 h
    · have h := h.2 z
      refine e_aload_n (k := 41) (i := 0) rfl rfl 0 rfl ?_
      refine e_getI (k := 42) rfl f_X12_256 rfl rfl ?_
      refine e_iconst (k := 43) (v := (3 : Int32)) rfl (by decide) ?_
      refine e_icmp_ne (k := 44) (tgt := 99) rfl (by decide) (fun z => ?_) (fun z => ?_)
      · have h := h.1 z
        exact s_X12_readHeads_99 hg ih h
      · have h := h.2 z
        refine e_aload_n (k := 45) (i := 0) rfl rfl 0 rfl ?_
        refine e_iconst (k := 46) (v := (1 : Int32)) rfl (by decide) ?_
        refine e_aload_n (k := 47) (i := 0) rfl rfl 0 rfl ?_
        refine e_getI (k := 48) rfl f_X12_138 rfl rfl ?_
        refine e_callVv (k := 49) (q := 0) (As := [.int (1 : Int32), .int (u1.1 0 7)]) (rest := []) rfl (c_X12_fail (g := g) hg (n := n) h) m_X12_fail i_X12_fail l_X12_148 rfl ⟨_, rfl, rfl⟩ rfl rfl (Nat.le_of_ble_eq_true rfl) ⟨by decide, by decide, rfl, rfl⟩ (fun _ h => ⟨fun _ z => (by cases z), Or.inr ⟨rfl, h⟩⟩) (fun u6 h => ?_)
        exact s_X12_readHeads_99 hg ih h
set_option maxRecDepth 20000 in
theorem s_X12_readHeads_22 {g : Gb} (hg : xInj g) {n : Nat} {Q : Mm → Prop} {T : Mm → Prop} {u0 : Mm} (h : w_X12_readHeads_22 n  u0 Q T) : xE g me_X12_readHeads (pV g Q T) 22 [(0, .ref (gR g 0))] [] u0 := by
  unfold w_X12_readHeads_22 at h
  refine e_aload_n (k := 11) (i := 0) rfl rfl 0 rfl ?_
  refine e_callVv (k := 12) (q := 0) (As := []) (rest := []) rfl (c_X12_passHead (g := g) hg (n := n) h) m_X12_passHead i_X12_passHead l_X12_247 rfl ⟨_, rfl, rfl⟩ rfl rfl (Nat.le_of_ble_eq_true rfl) ⟨by decide, by decide, rfl, rfl⟩ (fun _ h => ⟨fun _ z => (by cases z), Or.inr ⟨rfl, h⟩⟩) (fun u1 h => ?_)
  refine e_aload_n (k := 13) (i := 0) rfl rfl 0 rfl ?_
  refine e_aload_n (k := 14) (i := 0) rfl rfl 0 rfl ?_
  refine e_iconst (k := 15) (v := (1 : Int32)) rfl (by decide) ?_
  refine e_sipush (k := 16) (v := (9999 : Int32)) rfl (by decide) ?_
  refine e_aload_n (k := 17) (i := 0) rfl rfl 0 rfl ?_
  refine e_getI (k := 18) rfl f_X12_138 rfl rfl ?_
  refine e_callVi (k := 19) (q := 0) (As := [.int (1 : Int32), .int (9999 : Int32), .int (u1.1 0 7)]) (rest := [.ref (gR g 0)]) rfl (c_X12_numberOf (g := g) hg (n := n) h) m_X12_numberOf i_X12_numberOf l_X12_207 rfl ⟨_, rfl, rfl⟩ rfl rfl (Nat.le_of_ble_eq_true rfl) ⟨by decide, by decide, rfl, rfl⟩ (fun _ h => ⟨fun _ z => (by cases z), Or.inr ⟨rfl, h⟩⟩) (fun r1 u2 h => ?_)
  refine e_putI (k := 20) rfl fg_X12_250 rfl rfl ?_
  refine e_mlet h (fun u3 h => ?_)
  refine e_aload_n (k := 21) (i := 0) rfl rfl 0 rfl ?_
  refine e_callVv (k := 22) (q := 0) (As := []) (rest := []) rfl (c_X12_endLine (g := g) hg (n := n) h) m_X12_endLine i_X12_endLine l_X12_253 rfl ⟨_, rfl, rfl⟩ rfl rfl (Nat.le_of_ble_eq_true rfl) ⟨by decide, by decide, rfl, rfl⟩ (fun _ h => ⟨fun _ z => (by cases z), Or.inr ⟨rfl, h⟩⟩) (fun u4 h => ?_)
  refine e_aload_n (k := 23) (i := 0) rfl rfl 0 rfl ?_
  refine e_iconst (k := 24) (v := (0 : Int32)) rfl (by decide) ?_
  refine e_putI (k := 25) rfl fg_X12_256 rfl rfl ?_
  refine e_mlet h (fun u5 h => ?_)
  refine e_aload_n (k := 26) (i := 0) rfl rfl 0 rfl ?_
  refine e_callVv (k := 27) (q := 0) (As := []) (rest := []) rfl (c_X12_beginLine (g := g) hg (n := n) h) m_X12_beginLine i_X12_beginLine l_X12_152 rfl ⟨_, rfl, rfl⟩ rfl rfl (Nat.le_of_ble_eq_true rfl) ⟨by decide, by decide, rfl, rfl⟩ (fun _ h => ⟨fun _ z => (by cases z), Or.inr ⟨rfl, h⟩⟩) (fun u6 h => ?_)
  refine e_aload_n (k := 28) (i := 0) rfl rfl 0 rfl ?_
  refine e_bipush (k := 29) (v := (84 : Int32)) rfl (by decide) ?_
  refine e_callVi (k := 30) (q := 0) (As := [.int (84 : Int32)]) (rest := []) rfl (c_X12_isHead (g := g) hg (n := n) h) m_X12_isHead i_X12_isHead l_X12_244 rfl ⟨_, rfl, rfl⟩ rfl rfl (Nat.le_of_ble_eq_true rfl) ⟨by decide, by decide, rfl, rfl⟩ (fun _ h => ⟨fun _ z => (by cases z), Or.inr ⟨rfl, h⟩⟩) (fun r2 u7 h => ?_)
  refine e_if_ne (k := 31) (tgt := 73) rfl (by decide) (fun z => ?_) (fun z => ?_)
  · have h := h.1 z
    exact s_X12_readHeads_73 hg n u7 h
  · have h := h.2 z
    refine e_aload_n (k := 32) (i := 0) rfl rfl 0 rfl ?_
    refine e_iconst (k := 33) (v := (1 : Int32)) rfl (by decide) ?_
    refine e_aload_n (k := 34) (i := 0) rfl rfl 0 rfl ?_
    refine e_getI (k := 35) rfl f_X12_138 rfl rfl ?_
    refine e_callVv (k := 36) (q := 0) (As := [.int (1 : Int32), .int (u7.1 0 7)]) (rest := []) rfl (c_X12_fail (g := g) hg (n := n) h) m_X12_fail i_X12_fail l_X12_148 rfl ⟨_, rfl, rfl⟩ rfl rfl (Nat.le_of_ble_eq_true rfl) ⟨by decide, by decide, rfl, rfl⟩ (fun _ h => ⟨fun _ z => (by cases z), Or.inr ⟨rfl, h⟩⟩) (fun u8 h => ?_)
    exact s_X12_readHeads_73 hg n u8 h
set_option maxRecDepth 20000 in
theorem c_X12_readHeads {g : Gb} (hg : xInj g) {n : Nat} {u0 : Mm} {Q : Mm → Prop} {T : Mm → Prop} (h : w_X12_readHeads n u0 Q T) : xMet (gL g) yX12_readHeads (xws yX12_readHeads cX12_readHeads 4 none) (xRoom 7) (xPc g [.ref (gR g 0)] u0) (xQ g (pV g Q T)) (xA g) := by
  refine xbody (il := il_X12_readHeads) hg il_X12_readHeads_ok m_X12_readHeads (Nat.le_of_ble_eq_true rfl) ?_
  show xE g me_X12_readHeads (pV g Q T) 0 [(0, .ref (gR g 0))] [] u0
  unfold w_X12_readHeads at h
  refine e_aload_n (k := 0) (i := 0) rfl rfl 0 rfl ?_
  refine e_callVv (k := 1) (q := 0) (As := []) (rest := []) rfl (c_X12_beginLine (g := g) hg (n := n) h) m_X12_beginLine i_X12_beginLine l_X12_152 rfl ⟨_, rfl, rfl⟩ rfl rfl (Nat.le_of_ble_eq_true rfl) ⟨by decide, by decide, rfl, rfl⟩ (fun _ h => ⟨fun _ z => (by cases z), Or.inr ⟨rfl, h⟩⟩) (fun u1 h => ?_)
  refine e_aload_n (k := 2) (i := 0) rfl rfl 0 rfl ?_
  refine e_bipush (k := 3) (v := (88 : Int32)) rfl (by decide) ?_
  refine e_callVi (k := 4) (q := 0) (As := [.int (88 : Int32)]) (rest := []) rfl (c_X12_isHead (g := g) hg (n := n) h) m_X12_isHead i_X12_isHead l_X12_244 rfl ⟨_, rfl, rfl⟩ rfl rfl (Nat.le_of_ble_eq_true rfl) ⟨by decide, by decide, rfl, rfl⟩ (fun _ h => ⟨fun _ z => (by cases z), Or.inr ⟨rfl, h⟩⟩) (fun r1 u2 h => ?_)
  refine e_if_ne (k := 5) (tgt := 22) rfl (by decide) (fun z => ?_) (fun z => ?_)
  · have h := h.1 z
    exact s_X12_readHeads_22 hg h
  · have h := h.2 z
    refine e_aload_n (k := 6) (i := 0) rfl rfl 0 rfl ?_
    refine e_iconst (k := 7) (v := (1 : Int32)) rfl (by decide) ?_
    refine e_aload_n (k := 8) (i := 0) rfl rfl 0 rfl ?_
    refine e_getI (k := 9) rfl f_X12_138 rfl rfl ?_
    refine e_callVv (k := 10) (q := 0) (As := [.int (1 : Int32), .int (u2.1 0 7)]) (rest := []) rfl (c_X12_fail (g := g) hg (n := n) h) m_X12_fail i_X12_fail l_X12_148 rfl ⟨_, rfl, rfl⟩ rfl rfl (Nat.le_of_ble_eq_true rfl) ⟨by decide, by decide, rfl, rfl⟩ (fun _ h => ⟨fun _ z => (by cases z), Or.inr ⟨rfl, h⟩⟩) (fun u3 h => ?_)
    exact s_X12_readHeads_22 hg h
