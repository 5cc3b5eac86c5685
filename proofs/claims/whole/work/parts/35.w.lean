/-! methods (by program) -/
def il_X10_read : List (Nat × Instr × Nat) := [(0, .aload_n 0, 1), (1, .getfield 27, 3), (4, .getfield 82, 3), (7, .astore_n 1, 1), (8, .aload_n 0, 1), (9, .getfield 27, 3), (12, .aload_n 0, 1), (13, .getfield 18, 3), (16, .aload_n 0, 1), (17, .getfield 68, 3), (20, .invokevirtual 85, 3), (23, .aload_n 0, 1), (24, .aload_n 1, 1), (25, .putfield 18, 3), (28, .aload_n 0, 1), (29, .iconst 0, 1), (30, .putfield 68, 3), (33, .aload_n 0, 1), (34, .getfield 36, 3), (37, .invokevirtual 89, 3), (40, .aload_n 0, 1), (41, .getfield 27, 3), (44, .invokevirtual 92, 3), (47, .aload_n 0, 1), (48, .getfield 50, 3), (51, .invokevirtual 95, 3), (54, .aload_n 0, 1), (55, .getfield 57, 3), (58, .invokevirtual 98, 3), (61, .aload_n 0, 1), (62, .aload_n 0, 1), (63, .getfield 27, 3), (66, .getfield 101, 3), (69, .ifCond .ne 7, 3), (72, .iconst 1, 1), (73, .goto 4, 3), (76, .iconst 0, 1), (77, .putfield 72, 3), (80, .aload_n 0, 1), (81, .getfield 72, 3), (84, .ifCond .ne 25, 3), (87, .aload_n 0, 1), (88, .aload_n 0, 1), (89, .getfield 27, 3), (92, .getfield 104, 3), (95, .putfield 76, 3), (98, .bipush (-10), 2), (100, .aload_n 0, 1), (101, .getfield 27, 3), (104, .getfield 101, 3), (107, .isub, 1), (108, .ireturn, 1), (109, .aload_n 0, 1), (110, .bipush (-2), 2), (112, .putfield 76, 3), (115, .aload_n 0, 1), (116, .getfield 36, 3), (119, .invokevirtual 105, 3), (122, .aload_n 0, 1), (123, .getfield 36, 3), (126, .getfield 108, 3), (129, .getfield 112, 3), (132, .ireturn, 1)]
set_option maxRecDepth 20000 in
theorem il_X10_read_ok : ∀ x ∈ il_X10_read, decode cX10_read x.1 = .ok x.2 := by decide +kernel
abbrev me_X10_read : Me := (RX10, il_X10_read, 2, (some .int), xRoom 9, [])
def w_X10_read_77 (n : Nat) (t0 : Int32) (u0 : Mm) (Q : Int32 → Mm → Prop) : Prop :=
  xbz t0 ∧ (mlet (setI u0 32 7 t0) fun u1 =>
  (¬ (u1.1 32 7) = 0 → mlet (setI u1 32 8 (-2 : Int32)) fun u2 =>
  w_X7_findPlayed n u2 (fun u3 =>
  Q (u3.1 36 3) u3)) ∧
  ((u1.1 32 7) = 0 → mlet (setI u1 32 8 (u1.1 33 7)) fun u4 =>
  Q ((-10 : Int32) - (u4.1 33 6)) u4))
def w_X10_read (n : Nat) (u0 : Mm) (Q : Int32 → Mm → Prop) : Prop :=
  w_X5_take n (u0.2.2 0) (u0.1 32 6) u0 (fun u1 =>
  mlet (setP u1 0 (u0.2.2 1)) fun u2 =>
  mlet (setI u2 32 6 (0 : Int32)) fun u3 =>
  w_X7_clear n u3 (fun u4 =>
  w_X5_checkBytes n u4 (fun u5 =>
  w_X1_readHeads n u5 (fun u6 =>
  w_X4_readBody n u6 (fun u7 =>
  (¬ (u7.1 33 6) = 0 → w_X10_read_77 n (0 : Int32) u7 Q) ∧
  ((u7.1 33 6) = 0 → w_X10_read_77 n (1 : Int32) u7 Q))))))
set_option maxRecDepth 20000 in
theorem s_X10_read_77 {g : Gb} (hg : xInj g) {n : Nat} {Q : Int32 → Mm → Prop} {t0 : Int32} {u0 : Mm} (h : w_X10_read_77 n t0 u0 Q) : xE g me_X10_read (pI g Q noT) 77 [(0, .ref (gR g 32))] [.int t0, .ref (gR g 32)] u0 := by
  unfold w_X10_read_77 at h
  refine e_putZ (k := 37) rfl fg_X10_72 rfl rfl h.1 ?_
  have h := h.2
  refine e_mlet h (fun u1 h => ?_)
  refine e_aload_n (k := 38) (i := 0) rfl rfl 0 rfl ?_
  refine e_getI (k := 39) rfl f_X10_72 rfl rfl ?_
  refine e_if_ne (k := 40) (tgt := 109) rfl (by decide) (fun z => ?_) (fun z => ?_)
  · have h := h.1 z
    refine e_aload_n (k := 52) (i := 0) rfl rfl 0 rfl ?_
    refine e_bipush (k := 53) (v := (-2 : Int32)) rfl (by decide) ?_
    refine e_putI (k := 54) rfl fg_X10_76 rfl rfl ?_
    refine e_mlet h (fun u2 h => ?_)
    refine e_aload_n (k := 55) (i := 0) rfl rfl 0 rfl ?_
    refine e_getC (k := 56) rfl f_X10_36 rfl rfl ?_
    refine e_callVv (k := 57) (q := 35) (As := []) (rest := []) rfl (c_X7_findPlayed (g := g) hg (n := n) h) m_X7_findPlayed i_X7_findPlayed l_X10_105 rfl ⟨_, rfl, rfl⟩ rfl rfl (Nat.le_of_ble_eq_true rfl) ⟨by decide, by decide, rfl, rfl⟩ (fun _ h => h.elim) (fun u3 h => ?_)
    refine e_aload_n (k := 58) (i := 0) rfl rfl 0 rfl ?_
    refine e_getC (k := 59) rfl f_X10_36 rfl rfl ?_
    refine e_getC (k := 60) rfl f_X10_108 rfl rfl ?_
    refine e_getI (k := 61) rfl f_X10_112 rfl rfl ?_
    exact e_iret (k := 62) rfl rfl (Or.inl ⟨_, rfl, h⟩)
  · have h := h.2 z
    refine e_aload_n (k := 41) (i := 0) rfl rfl 0 rfl ?_
    refine e_aload_n (k := 42) (i := 0) rfl rfl 0 rfl ?_
    refine e_getC (k := 43) rfl f_X10_27 rfl rfl ?_
    refine e_getI (k := 44) rfl f_X10_104 rfl rfl ?_
    refine e_putI (k := 45) rfl fg_X10_76 rfl rfl ?_
    refine e_mlet h (fun u4 h => ?_)
    refine e_bipush (k := 46) (v := (-10 : Int32)) rfl (by decide) ?_
    refine e_aload_n (k := 47) (i := 0) rfl rfl 0 rfl ?_
    refine e_getC (k := 48) rfl f_X10_27 rfl rfl ?_
    refine e_getI (k := 49) rfl f_X10_101 rfl rfl ?_
    refine e_isub (k := 50) rfl ?_
    exact e_iret (k := 51) rfl rfl (Or.inl ⟨_, rfl, h⟩)
set_option maxRecDepth 20000 in
theorem c_X10_read {g : Gb} (hg : xInj g) {n : Nat} {u0 : Mm} {Q : Int32 → Mm → Prop} (h : w_X10_read n u0 Q) : xMet (gL g) yX10_read (xws yX10_read cX10_read 2 (some .int)) (xRoom 9) (xPc g [.ref (gR g 32)] u0) (xQ g (pI g Q noT)) (xA g) := by
  refine xbody (il := il_X10_read) hg il_X10_read_ok m_X10_read (Nat.le_of_ble_eq_true rfl) ?_
  show xE g me_X10_read (pI g Q noT) 0 [(0, .ref (gR g 32))] [] u0
  unfold w_X10_read at h
  refine e_aload_n (k := 0) (i := 0) rfl rfl 0 rfl ?_
  refine e_getC (k := 1) rfl f_X10_27 rfl rfl ?_
  refine e_getP (k := 2) rfl f_X10_82 rfl rfl (fun ty1 => ?_)
  refine e_astore_n (k := 3) (i := 1) (lv' := [(0, .ref (gR g 32)), (1, .ref (gR g (u0.2.2 1)))]) rfl rfl (by decide) [1, 0] rfl ?_
  refine e_aload_n (k := 4) (i := 0) rfl rfl 0 rfl ?_
  refine e_getC (k := 5) rfl f_X10_27 rfl rfl ?_
  refine e_aload_n (k := 6) (i := 0) rfl rfl 0 rfl ?_
  refine e_getP (k := 7) rfl f_X10_18 rfl rfl (fun ty2 => ?_)
  refine e_aload_n (k := 8) (i := 0) rfl rfl 0 rfl ?_
  refine e_getI (k := 9) rfl f_X10_68 rfl rfl ?_
  refine e_callVv (k := 10) (q := 33) (As := [.ref (gR g (u0.2.2 0)), .int (u0.1 32 6)]) (rest := []) rfl (c_X5_take (g := g) hg (n := n) ty2.1 h) m_X5_take i_X5_take l_X10_85 rfl ⟨_, rfl, rfl⟩ rfl rfl (Nat.le_of_ble_eq_true rfl) ⟨by decide, by decide, rfl, rfl⟩ (fun _ h => h.elim) (fun u1 h => ?_)
  refine e_aload_n (k := 11) (i := 0) rfl rfl 0 rfl ?_
  refine e_aload_n (k := 12) (i := 1) rfl rfl 1 rfl ?_
  refine e_putP (k := 13) rfl fg_X10_18 rfl rfl xu_0 xonly_0 rfl rfl (fun ty => ⟨ty1.2.1, ty.2.1, ty.2.2⟩) ?_
  refine e_mlet h (fun u2 h => ?_)
  refine e_aload_n (k := 14) (i := 0) rfl rfl 0 rfl ?_
  refine e_iconst (k := 15) (v := (0 : Int32)) rfl (by decide) ?_
  refine e_putI (k := 16) rfl fg_X10_68 rfl rfl ?_
  refine e_mlet h (fun u3 h => ?_)
  refine e_aload_n (k := 17) (i := 0) rfl rfl 0 rfl ?_
  refine e_getC (k := 18) rfl f_X10_36 rfl rfl ?_
  refine e_callVv (k := 19) (q := 35) (As := []) (rest := []) rfl (c_X7_clear (g := g) hg (n := n) h) m_X7_clear i_X7_clear l_X10_89 rfl ⟨_, rfl, rfl⟩ rfl rfl (Nat.le_of_ble_eq_true rfl) ⟨by decide, by decide, rfl, rfl⟩ (fun _ h => h.elim) (fun u4 h => ?_)
  refine e_aload_n (k := 20) (i := 0) rfl rfl 0 rfl ?_
  refine e_getC (k := 21) rfl f_X10_27 rfl rfl ?_
  refine e_callVv (k := 22) (q := 33) (As := []) (rest := []) rfl (c_X5_checkBytes (g := g) hg (n := n) h) m_X5_checkBytes i_X5_checkBytes l_X10_92 rfl ⟨_, rfl, rfl⟩ rfl rfl (Nat.le_of_ble_eq_true rfl) ⟨by decide, by decide, rfl, rfl⟩ (fun _ h => h.elim) (fun u5 h => ?_)
  refine e_aload_n (k := 23) (i := 0) rfl rfl 0 rfl ?_
  refine e_getC (k := 24) rfl f_X10_50 rfl rfl ?_
  refine e_callVv (k := 25) (q := 37) (As := []) (rest := []) rfl (c_X1_readHeads (g := g) hg (n := n) h) m_X1_readHeads i_X1_readHeads l_X10_95 rfl ⟨_, rfl, rfl⟩ rfl rfl (Nat.le_of_ble_eq_true rfl) ⟨by decide, by decide, rfl, rfl⟩ (fun _ h => h.elim) (fun u6 h => ?_)
  refine e_aload_n (k := 26) (i := 0) rfl rfl 0 rfl ?_
  refine e_getC (k := 27) rfl f_X10_57 rfl rfl ?_
  refine e_callVv (k := 28) (q := 38) (As := []) (rest := []) rfl (c_X4_readBody (g := g) hg (n := n) h) m_X4_readBody i_X4_readBody l_X10_98 rfl ⟨_, rfl, rfl⟩ rfl rfl (Nat.le_of_ble_eq_true rfl) ⟨by decide, by decide, rfl, rfl⟩ (fun _ h => h.elim) (fun u7 h => ?_)
  refine e_aload_n (k := 29) (i := 0) rfl rfl 0 rfl ?_
  refine e_aload_n (k := 30) (i := 0) rfl rfl 0 rfl ?_
  refine e_getC (k := 31) rfl f_X10_27 rfl rfl ?_
  refine e_getI (k := 32) rfl f_X10_101 rfl rfl ?_
  refine e_if_ne (k := 33) (tgt := 76) rfl (by decide) (fun z => ?_) (fun z => ?_)
  · have h := h.1 z
    refine e_iconst (k := 36) (v := (0 : Int32)) rfl (by decide) ?_
    refine e_sub (lv' := [(0, .ref (gR g 32))]) [0] rfl ?_
    exact s_X10_read_77 hg h
  · have h := h.2 z
    refine e_iconst (k := 34) (v := (1 : Int32)) rfl (by decide) ?_
    refine e_goto (k := 35) (tgt := 77) rfl (by decide) ?_
    refine e_sub (lv' := [(0, .ref (gR g 32))]) [0] rfl ?_
    exact s_X10_read_77 hg h
def il_X12_readMusic : List (Nat × Instr × Nat) := [(0, .iconst 0, 1), (1, .istore_n 1, 1), (2, .aload_n 0, 1), (3, .getfield 138, 3), (6, .aload_n 0, 1), (7, .getfield 145, 3), (10, .if_icmp .ge 121, 3), (13, .aload_n 0, 1), (14, .invokevirtual 152, 3), (17, .aload_n 0, 1), (18, .iconst (-1), 1), (19, .putfield 423, 3), (22, .aload_n 0, 1), (23, .getfield 135, 3), (26, .aload_n 0, 1), (27, .getfield 138, 3), (30, .if_icmp .ne 12, 3), (33, .iconst 1, 1), (34, .istore_n 1, 1), (35, .aload_n 0, 1), (36, .invokevirtual 253, 3), (39, .goto (-37), 3), (42, .iload_n 1, 1), (43, .ifCond .eq 15, 3), (46, .aload_n 0, 1), (47, .iconst 1, 1), (48, .aload_n 0, 1), (49, .getfield 138, 3), (52, .invokevirtual 148, 3), (55, .goto (-53), 3), (58, .aload_n 0, 1), (59, .invokevirtual 162, 3), (62, .invokestatic 446, 3), (65, .ifCond .eq 33, 3), (68, .aload_n 0, 1), (69, .aload_n 0, 1), (70, .getfield 138, 3), (73, .iconst 1, 1), (74, .iadd, 1), (75, .invokevirtual 141, 3), (78, .bipush 58, 2), (80, .if_icmp .ne 18, 3), (83, .aload_n 0, 1), (84, .aload_n 0, 1), (85, .getfield 138, 3), (88, .invokevirtual 458, 3), (91, .aload_n 0, 1), (92, .invokevirtual 253, 3), (95, .goto (-93), 3), (98, .aload_n 0, 1), (99, .invokevirtual 241, 3), (102, .aload_n 0, 1), (103, .getfield 138, 3), (106, .aload_n 0, 1), (107, .getfield 135, 3), (110, .if_icmp .ge 14, 3), (113, .aload_n 0, 1), (114, .invokevirtual 482, 3), (117, .aload_n 0, 1), (118, .invokevirtual 241, 3), (121, .goto (-19), 3), (124, .aload_n 0, 1), (125, .invokevirtual 253, 3), (128, .goto (-126), 3), (131, .aload_n 0, 1), (132, .getfield 350, 3), (135, .ifCond .gt 10, 3), (138, .aload_n 0, 1), (139, .getfield 438, 3), (142, .ifCond .le 13, 3), (145, .aload_n 0, 1), (146, .bipush 6, 2), (148, .aload_n 0, 1), (149, .getfield 145, 3), (152, .invokevirtual 148, 3), (155, .return_, 1)]
set_option maxRecDepth 20000 in
theorem il_X12_readMusic_ok : ∀ x ∈ il_X12_readMusic, decode cX12_readMusic x.1 = .ok x.2 := by decide +kernel
abbrev me_X12_readMusic : Me := (RX12, il_X12_readMusic, 2, none, xRoom 9, [])
def w_X12_readMusic_155 (n : Nat) (u0 : Mm) (Q : Mm → Prop) (T : Mm → Prop) : Prop :=
  Q u0
def w_X12_readMusic_145 (n : Nat) (u0 : Mm) (Q : Mm → Prop) (T : Mm → Prop) : Prop :=
  w_X12_fail n (6 : Int32) (u0.1 0 6) u0 (fun u1 =>
  w_X12_readMusic_155 n u1 Q T) T
def w_X12_readMusic_102 (n : Nat) (L2 : Int32 → Mm → Prop) (Q : Mm → Prop) (T : Mm → Prop) : Nat → Int32 → Mm → Prop
  | 0, _, _ => False
  | k + 1, x1, u0 =>
  ((u0.1 0 9) ≤ (u0.1 0 7) → w_X12_endLine n u0 (fun u1 =>
  L2 x1 u1) T) ∧
  (¬ (u0.1 0 9) ≤ (u0.1 0 7) → w_X12_readOne n u0 (fun u2 =>
  w_X12_blanks n u2 (fun u3 =>
  (w_X12_readMusic_102 n L2 Q T k) x1 u3) T) T)
def w_X12_readMusic_98 (n : Nat) (L2 : Int32 → Mm → Prop) (x1 : Int32) (u0 : Mm) (Q : Mm → Prop) (T : Mm → Prop) : Prop :=
  w_X12_blanks n u0 (fun u1 =>
  (w_X12_readMusic_102 n L2 Q T n) x1 u1) T
def w_X12_readMusic_2 (n : Nat) (Q : Mm → Prop) (T : Mm → Prop) : Nat → Int32 → Mm → Prop
  | 0, _, _ => False
  | k + 1, x1, u0 =>
  ((u0.1 0 6) ≤ (u0.1 0 7) → (0 < (u0.1 0 46) → w_X12_readMusic_145 n u0 Q T) ∧
  (¬ 0 < (u0.1 0 46) → ((u0.1 0 45) ≤ 0 → w_X12_readMusic_155 n u0 Q T) ∧
  (¬ (u0.1 0 45) ≤ 0 → w_X12_readMusic_145 n u0 Q T))) ∧
  (¬ (u0.1 0 6) ≤ (u0.1 0 7) → w_X12_beginLine n u0 (fun u1 =>
  mlet (setI u1 0 49 (-1 : Int32)) fun u2 =>
  (¬ (u2.1 0 9) = (u2.1 0 7) → (x1 = 0 → w_X12_here n u2 (fun r1 u3 =>
  w_X12_isLetter n r1 u3 (fun r2 u4 =>
  (r2 = 0 → w_X12_readMusic_98 n (w_X12_readMusic_2 n Q T k) x1 u4 Q T) ∧
  (¬ r2 = 0 → w_X12_peek n ((u4.1 0 7) + (1 : Int32)) u4 (fun r3 u5 =>
  (¬ r3 = (58 : Int32) → w_X12_readMusic_98 n (w_X12_readMusic_2 n Q T k) x1 u5 Q T) ∧
  (r3 = (58 : Int32) → w_X12_readField n (u5.1 0 7) u5 (fun u6 =>
  w_X12_endLine n u6 (fun u7 =>
  (w_X12_readMusic_2 n Q T k) x1 u7) T) T)) T)) T) T) ∧
  (¬ x1 = 0 → w_X12_fail n (1 : Int32) (u2.1 0 7) u2 (fun u8 =>
  (w_X12_readMusic_2 n Q T k) x1 u8) T)) ∧
  ((u2.1 0 9) = (u2.1 0 7) → w_X12_endLine n u2 (fun u9 =>
  (w_X12_readMusic_2 n Q T k) (1 : Int32) u9) T)) T)
def w_X12_readMusic (n : Nat) (u0 : Mm) (Q : Mm → Prop) (T : Mm → Prop) : Prop :=
  (w_X12_readMusic_2 n Q T n) (0 : Int32) u0
set_option maxRecDepth 20000 in
theorem s_X12_readMusic_155 {g : Gb} (hg : xInj g) {n : Nat} {Q : Mm → Prop} {T : Mm → Prop} {u0 : Mm} (h : w_X12_readMusic_155 n  u0 Q T) : xE g me_X12_readMusic (pV g Q T) 155 [] [] u0 := by
  unfold w_X12_readMusic_155 at h
  exact e_vret (k := 75) rfl rfl (Or.inl ⟨rfl, h⟩)
set_option maxRecDepth 20000 in
theorem s_X12_readMusic_145 {g : Gb} (hg : xInj g) {n : Nat} {Q : Mm → Prop} {T : Mm → Prop} {u0 : Mm} (h : w_X12_readMusic_145 n  u0 Q T) : xE g me_X12_readMusic (pV g Q T) 145 [(0, .ref (gR g 0))] [] u0 := by
  unfold w_X12_readMusic_145 at h
  refine e_aload_n (k := 70) (i := 0) rfl rfl 0 rfl ?_
  refine e_bipush (k := 71) (v := (6 : Int32)) rfl (by decide) ?_
  refine e_aload_n (k := 72) (i := 0) rfl rfl 0 rfl ?_
  refine e_getI (k := 73) rfl f_X12_145 rfl rfl ?_
  refine e_callVv (k := 74) (q := 0) (As := [.int (6 : Int32), .int (u0.1 0 6)]) (rest := []) rfl (c_X12_fail (g := g) hg (n := n) h) m_X12_fail i_X12_fail l_X12_148 rfl ⟨_, rfl, rfl⟩ rfl rfl (Nat.le_of_ble_eq_true rfl) ⟨by decide, by decide, rfl, rfl⟩ (fun _ h => ⟨fun _ z => (by cases z), Or.inr ⟨rfl, h⟩⟩) (fun u1 h => ?_)
  refine e_sub (lv' := []) [] rfl ?_
  exact s_X12_readMusic_155 hg h
set_option maxRecDepth 20000 in
theorem s_X12_readMusic_102 {g : Gb} (hg : xInj g) {n : Nat} {Q : Mm → Prop} {T : Mm → Prop} {L2 : Int32 → Mm → Prop} (hL2 : ∀ (x1 : Int32) (u0 : Mm), L2 x1 u0 → xE g me_X12_readMusic (pV g Q T) 2 [(0, .ref (gR g 0)), (1, .int x1)] [] u0) : ∀ (k : Nat) (x1 : Int32) (u0 : Mm), w_X12_readMusic_102 n L2 Q T k x1 u0 → xE g me_X12_readMusic (pV g Q T) 102 [(0, .ref (gR g 0)), (1, .int x1)] [] u0 := by
  intro k
  induction k with
  | zero => intro x1 u0 h; exact h.elim
  | succ k ih =>
    intro x1 u0 h
    unfold w_X12_readMusic_102 at h
    refine e_aload_n (k := 51) (i := 0) rfl rfl 0 rfl ?_
    refine e_getI (k := 52) rfl f_X12_138 rfl rfl ?_
    refine e_aload_n (k := 53) (i := 0) rfl rfl 0 rfl ?_
    refine e_getI (k := 54) rfl f_X12_135 rfl rfl ?_
    refine e_icmp_ge (k := 55) (tgt := 124) rfl (by decide) (fun z => ?_) (fun z => ?_)
    · have h := h.1 z
      refine e_aload_n (k := 61) (i := 0) rfl rfl 0 rfl ?_
      refine e_callVv (k := 62) (q := 0) (As := []) (rest := []) rfl (c_X12_endLine (g := g) hg (n := n) h) m_X12_endLine i_X12_endLine l_X12_253 rfl ⟨_, rfl, rfl⟩ rfl rfl (Nat.le_of_ble_eq_true rfl) ⟨by decide, by decide, rfl, rfl⟩ (fun _ h => ⟨fun _ z => (by cases z), Or.inr ⟨rfl, h⟩⟩) (fun u1 h => ?_)
      refine e_goto (k := 63) (tgt := 2) rfl (by decide) ?_
      exact hL2 x1 u1 h
    · have h := h.2 z
      refine e_aload_n (k := 56) (i := 0) rfl rfl 0 rfl ?_
      refine e_callVv (k := 57) (q := 0) (As := []) (rest := []) rfl (c_X12_readOne (g := g) hg (n := n) h) m_X12_readOne i_X12_readOne l_X12_482 rfl ⟨_, rfl, rfl⟩ rfl rfl (Nat.le_of_ble_eq_true rfl) ⟨by decide, by decide, rfl, rfl⟩ (fun _ h => ⟨fun _ z => (by cases z), Or.inr ⟨rfl, h⟩⟩) (fun u2 h => ?_)
      refine e_aload_n (k := 58) (i := 0) rfl rfl 0 rfl ?_
      refine e_callVv (k := 59) (q := 0) (As := []) (rest := []) rfl (c_X12_blanks (g := g) hg (n := n) h) m_X12_blanks i_X12_blanks l_X12_241 rfl ⟨_, rfl, rfl⟩ rfl rfl (Nat.le_of_ble_eq_true rfl) ⟨by decide, by decide, rfl, rfl⟩ (fun _ h => ⟨fun _ z => (by cases z), Or.inr ⟨rfl, h⟩⟩) (fun u3 h => ?_)
      refine e_goto (k := 60) (tgt := 102) rfl (by decide) ?_
      exact ih x1 u3 h
set_option maxRecDepth 20000 in
theorem s_X12_readMusic_98 {g : Gb} (hg : xInj g) {n : Nat} {Q : Mm → Prop} {T : Mm → Prop} {L2 : Int32 → Mm → Prop} (hL2 : ∀ (x1 : Int32) (u0 : Mm), L2 x1 u0 → xE g me_X12_readMusic (pV g Q T) 2 [(0, .ref (gR g 0)), (1, .int x1)] [] u0) {x1 : Int32} {u0 : Mm} (h : w_X12_readMusic_98 n L2 x1 u0 Q T) : xE g me_X12_readMusic (pV g Q T) 98 [(0, .ref (gR g 0)), (1, .int x1)] [] u0 := by
  unfold w_X12_readMusic_98 at h
  refine e_aload_n (k := 49) (i := 0) rfl rfl 0 rfl ?_
  refine e_callVv (k := 50) (q := 0) (As := []) (rest := []) rfl (c_X12_blanks (g := g) hg (n := n) h) m_X12_blanks i_X12_blanks l_X12_241 rfl ⟨_, rfl, rfl⟩ rfl rfl (Nat.le_of_ble_eq_true rfl) ⟨by decide, by decide, rfl, rfl⟩ (fun _ h => ⟨fun _ z => (by cases z), Or.inr ⟨rfl, h⟩⟩) (fun u1 h => ?_)
  exact s_X12_readMusic_102 hg hL2 n x1 u1 h
set_option maxRecDepth 20000 in
theorem s_X12_readMusic_2 {g : Gb} (hg : xInj g) {n : Nat} {Q : Mm → Prop} {T : Mm → Prop} : ∀ (k : Nat) (x1 : Int32) (u0 : Mm), w_X12_readMusic_2 n Q T k x1 u0 → xE g me_X12_readMusic (pV g Q T) 2 [(0, .ref (gR g 0)), (1, .int x1)] [] u0 := by
  intro k
  induction k with
  | zero => intro x1 u0 h; exact h.elim
  | succ k ih =>
    intro x1 u0 h
    unfold w_X12_readMusic_2 at h
    refine e_aload_n (k := 2) (i := 0) rfl rfl 0 rfl ?_
    refine e_getI (k := 3) rfl f_X12_138 rfl rfl ?_
    refine e_aload_n (k := 4) (i := 0) rfl rfl 0 rfl ?_
    refine e_getI (k := 5) rfl f_X12_145 rfl rfl ?_
    refine e_icmp_ge (k := 6) (tgt := 131) rfl (by decide) (fun z => ?_) (fun z => ?_)
    · have h := h.1 z
      refine e_aload_n (k := 64) (i := 0) rfl rfl 0 rfl ?_
      refine e_getI (k := 65) rfl f_X12_350 rfl rfl ?_
      refine e_if_gt (k := 66) (tgt := 145) rfl (by decide) (fun z => ?_) (fun z => ?_)
      · have h := h.1 z
        refine e_sub (lv' := [(0, .ref (gR g 0))]) [0] rfl ?_
        exact s_X12_readMusic_145 hg h
      · have h := h.2 z
        refine e_aload_n (k := 67) (i := 0) rfl rfl 0 rfl ?_
        refine e_getI (k := 68) rfl f_X12_438 rfl rfl ?_
        refine e_if_le (k := 69) (tgt := 155) rfl (by decide) (fun z => ?_) (fun z => ?_)
        · have h := h.1 z
          refine e_sub (lv' := []) [] rfl ?_
          exact s_X12_readMusic_155 hg h
        · have h := h.2 z
          refine e_sub (lv' := [(0, .ref (gR g 0))]) [0] rfl ?_
          exact s_X12_readMusic_145 hg h
    · have h := h.2 z
      refine e_aload_n (k := 7) (i := 0) rfl rfl 0 rfl ?_
      refine e_callVv (k := 8) (q := 0) (As := []) (rest := []) rfl (c_X12_beginLine (g := g) hg (n := n) h) m_X12_beginLine i_X12_beginLine l_X12_152 rfl ⟨_, rfl, rfl⟩ rfl rfl (Nat.le_of_ble_eq_true rfl) ⟨by decide, by decide, rfl, rfl⟩ (fun _ h => ⟨fun _ z => (by cases z), Or.inr ⟨rfl, h⟩⟩) (fun u1 h => ?_)
      refine e_aload_n (k := 9) (i := 0) rfl rfl 0 rfl ?_
      refine e_iconst (k := 10) (v := (-1 : Int32)) rfl (by decide) ?_
      refine e_putI (k := 11) rfl fg_X12_423 rfl rfl ?_
      refine e_mlet h (fun u2 h => ?_)
      refine e_aload_n (k := 12) (i := 0) rfl rfl 0 rfl ?_
      refine e_getI (k := 13) rfl f_X12_135 rfl rfl ?_
      refine e_aload_n (k := 14) (i := 0) rfl rfl 0 rfl ?_
      refine e_getI (k := 15) rfl f_X12_138 rfl rfl ?_
      refine e_icmp_ne (k := 16) (tgt := 42) rfl (by decide) (fun z => ?_) (fun z => ?_)
      · have h := h.1 z
        refine e_iload_n (k := 22) (i := 1) rfl rfl 1 rfl ?_
        refine e_if_eq (k := 23) (tgt := 58) rfl (by decide) (fun z => ?_) (fun z => ?_)
        · have h := h.1 z
          refine e_aload_n (k := 30) (i := 0) rfl rfl 0 rfl ?_
          refine e_callVi (k := 31) (q := 0) (As := []) (rest := []) rfl (c_X12_here (g := g) hg (n := n) h) m_X12_here i_X12_here l_X12_162 rfl ⟨_, rfl, rfl⟩ rfl rfl (Nat.le_of_ble_eq_true rfl) ⟨by decide, by decide, rfl, rfl⟩ (fun _ h => ⟨fun _ z => (by cases z), Or.inr ⟨rfl, h⟩⟩) (fun r1 u3 h => ?_)
          refine e_callSi (k := 32) (As := [.int r1]) (rest := []) rfl (c_X12_isLetter (g := g) hg (n := n) h) m_X12_isLetter st_X12_isLetter l_X12_446 rfl rfl (Nat.le_of_ble_eq_true rfl) ⟨by decide, by decide, rfl, rfl⟩ (fun _ h => ⟨fun _ z => (by cases z), Or.inr ⟨rfl, h⟩⟩) (fun r2 u4 h => ?_)
          refine e_if_eq (k := 33) (tgt := 98) rfl (by decide) (fun z => ?_) (fun z => ?_)
          · have h := h.1 z
            exact s_X12_readMusic_98 hg ih h
          · have h := h.2 z
            refine e_aload_n (k := 34) (i := 0) rfl rfl 0 rfl ?_
            refine e_aload_n (k := 35) (i := 0) rfl rfl 0 rfl ?_
            refine e_getI (k := 36) rfl f_X12_138 rfl rfl ?_
            refine e_iconst (k := 37) (v := (1 : Int32)) rfl (by decide) ?_
            refine e_iadd (k := 38) rfl ?_
            refine e_callVi (k := 39) (q := 0) (As := [.int ((u4.1 0 7) + (1 : Int32))]) (rest := []) rfl (c_X12_peek (g := g) hg (n := n) h) m_X12_peek i_X12_peek l_X12_141 rfl ⟨_, rfl, rfl⟩ rfl rfl (Nat.le_of_ble_eq_true rfl) ⟨by decide, by decide, rfl, rfl⟩ (fun _ h => ⟨fun _ z => (by cases z), Or.inr ⟨rfl, h⟩⟩) (fun r3 u5 h => ?_)
            refine e_bipush (k := 40) (v := (58 : Int32)) rfl (by decide) ?_
            refine e_icmp_ne (k := 41) (tgt := 98) rfl (by decide) (fun z => ?_) (fun z => ?_)
            · have h := h.1 z
              exact s_X12_readMusic_98 hg ih h
            · have h := h.2 z
              refine e_aload_n (k := 42) (i := 0) rfl rfl 0 rfl ?_
              refine e_aload_n (k := 43) (i := 0) rfl rfl 0 rfl ?_
              refine e_getI (k := 44) rfl f_X12_138 rfl rfl ?_
              refine e_callVv (k := 45) (q := 0) (As := [.int (u5.1 0 7)]) (rest := []) rfl (c_X12_readField (g := g) hg (n := n) h) m_X12_readField i_X12_readField l_X12_458 rfl ⟨_, rfl, rfl⟩ rfl rfl (Nat.le_of_ble_eq_true rfl) ⟨by decide, by decide, rfl, rfl⟩ (fun _ h => ⟨fun _ z => (by cases z), Or.inr ⟨rfl, h⟩⟩) (fun u6 h => ?_)
              refine e_aload_n (k := 46) (i := 0) rfl rfl 0 rfl ?_
              refine e_callVv (k := 47) (q := 0) (As := []) (rest := []) rfl (c_X12_endLine (g := g) hg (n := n) h) m_X12_endLine i_X12_endLine l_X12_253 rfl ⟨_, rfl, rfl⟩ rfl rfl (Nat.le_of_ble_eq_true rfl) ⟨by decide, by decide, rfl, rfl⟩ (fun _ h => ⟨fun _ z => (by cases z), Or.inr ⟨rfl, h⟩⟩) (fun u7 h => ?_)
              refine e_goto (k := 48) (tgt := 2) rfl (by decide) ?_
              exact ih x1 u7 h
        · have h := h.2 z
          refine e_aload_n (k := 24) (i := 0) rfl rfl 0 rfl ?_
          refine e_iconst (k := 25) (v := (1 : Int32)) rfl (by decide) ?_
          refine e_aload_n (k := 26) (i := 0) rfl rfl 0 rfl ?_
          refine e_getI (k := 27) rfl f_X12_138 rfl rfl ?_
          refine e_callVv (k := 28) (q := 0) (As := [.int (1 : Int32), .int (u2.1 0 7)]) (rest := []) rfl (c_X12_fail (g := g) hg (n := n) h) m_X12_fail i_X12_fail l_X12_148 rfl ⟨_, rfl, rfl⟩ rfl rfl (Nat.le_of_ble_eq_true rfl) ⟨by decide, by decide, rfl, rfl⟩ (fun _ h => ⟨fun _ z => (by cases z), Or.inr ⟨rfl, h⟩⟩) (fun u8 h => ?_)
          refine e_goto (k := 29) (tgt := 2) rfl (by decide) ?_
          exact ih x1 u8 h
      · have h := h.2 z
        refine e_iconst (k := 17) (v := (1 : Int32)) rfl (by decide) ?_
        refine e_istore_n (k := 18) (i := 1) (lv' := [(0, .ref (gR g 0)), (1, .int (1 : Int32))]) rfl rfl (by decide) [1, 0] rfl ?_
        refine e_aload_n (k := 19) (i := 0) rfl rfl 0 rfl ?_
        refine e_callVv (k := 20) (q := 0) (As := []) (rest := []) rfl (c_X12_endLine (g := g) hg (n := n) h) m_X12_endLine i_X12_endLine l_X12_253 rfl ⟨_, rfl, rfl⟩ rfl rfl (Nat.le_of_ble_eq_true rfl) ⟨by decide, by decide, rfl, rfl⟩ (fun _ h => ⟨fun _ z => (by cases z), Or.inr ⟨rfl, h⟩⟩) (fun u9 h => ?_)
        refine e_goto (k := 21) (tgt := 2) rfl (by decide) ?_
        exact ih (1 : Int32) u9 h
set_option maxRecDepth 20000 in
theorem c_X12_readMusic {g : Gb} (hg : xInj g) {n : Nat} {u0 : Mm} {Q : Mm → Prop} {T : Mm → Prop} (h : w_X12_readMusic n u0 Q T) : xMet (gL g) yX12_readMusic (xws yX12_readMusic cX12_readMusic 2 none) (xRoom 9) (xPc g [.ref (gR g 0)] u0) (xQ g (pV g Q T)) (xA g) := by
  refine xbody (il := il_X12_readMusic) hg il_X12_readMusic_ok m_X12_readMusic (Nat.le_of_ble_eq_true rfl) ?_
  show xE g me_X12_readMusic (pV g Q T) 0 [(0, .ref (gR g 0))] [] u0
  unfold w_X12_readMusic at h
  refine e_iconst (k := 0) (v := (0 : Int32)) rfl (by decide) ?_
  refine e_istore_n (k := 1) (i := 1) (lv' := [(0, .ref (gR g 0)), (1, .int (0 : Int32))]) rfl rfl (by decide) [1, 0] rfl ?_
  exact s_X12_readMusic_2 hg n (0 : Int32) u0 h
def il_X12_readTune : List (Nat × Instr × Nat) := [(0, .aload_n 0, 1), (1, .iconst 0, 1), (2, .putfield 283, 3), (5, .aload_n 0, 1), (6, .invokevirtual 485, 3), (9, .aload_n 0, 1), (10, .invokevirtual 488, 3), (13, .aload_n 0, 1), (14, .iconst 0, 1), (15, .putfield 290, 3), (18, .aload_n 0, 1), (19, .iconst 1, 1), (20, .putfield 449, 3), (23, .iconst 0, 1), (24, .istore_n 1, 1), (25, .iload_n 1, 1), (26, .iconst 3, 1), (27, .if_icmp .ge 93, 3), (30, .aload_n 0, 1), (31, .getfield 57, 3), (34, .iload_n 1, 1), (35, .aload_n 0, 1), (36, .getfield 280, 3), (39, .iastore, 1), (40, .aload_n 0, 1), (41, .getfield 60, 3), (44, .iload_n 1, 1), (45, .aload_n 0, 1), (46, .getfield 259, 3), (49, .iastore, 1), (50, .aload_n 0, 1), (51, .getfield 63, 3), (54, .iload_n 1, 1), (55, .aload_n 0, 1), (56, .getfield 262, 3), (59, .iastore, 1), (60, .aload_n 0, 1), (61, .getfield 66, 3), (64, .iload_n 1, 1), (65, .aload_n 0, 1), (66, .getfield 268, 3), (69, .iastore, 1), (70, .aload_n 0, 1), (71, .getfield 69, 3), (74, .iload_n 1, 1), (75, .lconst 0, 1), (76, .lastore, 1), (77, .aload_n 0, 1), (78, .getfield 72, 3), (81, .iload_n 1, 1), (82, .iconst 0, 1), (83, .iastore, 1), (84, .aload_n 0, 1), (85, .getfield 75, 3), (88, .iload_n 1, 1), (89, .iconst 0, 1), (90, .bastore, 1), (91, .aload_n 0, 1), (92, .getfield 78, 3), (95, .iload_n 1, 1), (96, .iconst 0, 1), (97, .iastore, 1), (98, .aload_n 0, 1), (99, .getfield 90, 3), (102, .iload_n 1, 1), (103, .iconst (-1), 1), (104, .iastore, 1), (105, .aload_n 0, 1), (106, .iload_n 1, 1), (107, .putfield 290, 3), (110, .aload_n 0, 1), (111, .invokevirtual 435, 3), (114, .iinc 1 1, 3), (117, .goto (-92), 3), (120, .aload_n 0, 1), (121, .iconst 0, 1), (122, .putfield 290, 3), (125, .aload_n 0, 1), (126, .iconst 0, 1), (127, .putfield 410, 3), (130, .aload_n 0, 1), (131, .iconst 0, 1), (132, .putfield 413, 3), (135, .aload_n 0, 1), (136, .iconst 0, 1), (137, .putfield 416, 3), (140, .aload_n 0, 1), (141, .iconst 0, 1), (142, .putfield 438, 3), (145, .aload_n 0, 1), (146, .iconst 0, 1), (147, .putfield 350, 3), (150, .aload_n 0, 1), (151, .iconst (-1), 1), (152, .putfield 423, 3), (155, .aload_n 0, 1), (156, .iconst (-1), 1), (157, .putfield 432, 3), (160, .aload_n 0, 1), (161, .iconst 1, 1), (162, .putfield 359, 3), (165, .aload_n 0, 1), (166, .iconst 1, 1), (167, .putfield 362, 3), (170, .aload_n 0, 1), (171, .invokevirtual 491, 3), (174, .return_, 1)]
set_option maxRecDepth 20000 in
theorem il_X12_readTune_ok : ∀ x ∈ il_X12_readTune, decode cX12_readTune x.1 = .ok x.2 := by decide +kernel
abbrev me_X12_readTune : Me := (RX12, il_X12_readTune, 2, none, xRoom 10, [])
def w_X12_readTune_25 (n : Nat) (Q : Mm → Prop) (T : Mm → Prop) : Nat → Int32 → Mm → Prop
  | 0, _, _ => False
  | k + 1, x1, u0 =>
  ((3 : Int32) ≤ x1 → mlet (setI u0 0 28 (0 : Int32)) fun u1 =>
  mlet (setI u1 0 42 (0 : Int32)) fun u2 =>
  mlet (setI u2 0 43 (0 : Int32)) fun u3 =>
  mlet (setI u3 0 44 (0 : Int32)) fun u4 =>
  mlet (setI u4 0 45 (0 : Int32)) fun u5 =>
  mlet (setI u5 0 46 (0 : Int32)) fun u6 =>
  mlet (setI u6 0 49 (-1 : Int32)) fun u7 =>
  mlet (setI u7 0 63 (-1 : Int32)) fun u8 =>
  mlet (setI u8 0 59 (1 : Int32)) fun u9 =>
  mlet (setI u9 0 60 (1 : Int32)) fun u10 =>
  w_X12_readMusic n u10 (fun u11 =>
  Q u11) T) ∧
  (¬ (3 : Int32) ≤ x1 → vp_in x1 3 ∧ (mlet (setI u0 12 (ix x1) (u0.1 0 20)) fun u12 =>
  vp_in x1 3 ∧ (mlet (setI u12 13 (ix x1) (u12.1 0 16)) fun u13 =>
  vp_in x1 3 ∧ (mlet (setI u13 14 (ix x1) (u13.1 0 17)) fun u14 =>
  vp_in x1 3 ∧ (mlet (setI u14 15 (ix x1) (u14.1 0 18)) fun u15 =>
  vp_in x1 3 ∧ (mlet (setJ u15 16 (ix x1) (0 : Int64)) fun u16 =>
  vp_in x1 3 ∧ (mlet (setI u16 17 (ix x1) (0 : Int32)) fun u17 =>
  vp_in x1 3 ∧ (mlet (setI u17 18 (ix x1) (vp_nar .boolean (0 : Int32))) fun u18 =>
  vp_in x1 3 ∧ (mlet (setI u18 19 (ix x1) (0 : Int32)) fun u19 =>
  vp_in x1 3 ∧ (mlet (setI u19 23 (ix x1) (-1 : Int32)) fun u20 =>
  mlet (setI u20 0 28 x1) fun u21 =>
  w_X12_clearBar n u21 (fun u22 =>
  (w_X12_readTune_25 n Q T k) (x1 + (1 : Int32)) u22) T))))))))))
def w_X12_readTune (n : Nat) (u0 : Mm) (Q : Mm → Prop) (T : Mm → Prop) : Prop :=
  mlet (setI u0 0 27 (0 : Int32)) fun u1 =>
  w_X12_lookAtBytes n u1 (fun u2 =>
  w_X12_readHeads n u2 (fun u3 =>
  mlet (setI u3 0 28 (0 : Int32)) fun u4 =>
  mlet (setI u4 0 29 (1 : Int32)) fun u5 =>
  (w_X12_readTune_25 n Q T n) (0 : Int32) u5) T) T
set_option maxRecDepth 20000 in
theorem s_X12_readTune_25 {g : Gb} (hg : xInj g) {n : Nat} {Q : Mm → Prop} {T : Mm → Prop} : ∀ (k : Nat) (x1 : Int32) (u0 : Mm), w_X12_readTune_25 n Q T k x1 u0 → xE g me_X12_readTune (pV g Q T) 25 [(0, .ref (gR g 0)), (1, .int x1)] [] u0 := by
  intro k
  induction k with
  | zero => intro x1 u0 h; exact h.elim
  | succ k ih =>
    intro x1 u0 h
    unfold w_X12_readTune_25 at h
    refine e_iload_n (k := 15) (i := 1) rfl rfl 1 rfl ?_
    refine e_iconst (k := 16) (v := (3 : Int32)) rfl (by decide) ?_
    refine e_icmp_ge (k := 17) (tgt := 120) rfl (by decide) (fun z => ?_) (fun z => ?_)
    · have h := h.1 z
      refine e_aload_n (k := 74) (i := 0) rfl rfl 0 rfl ?_
      refine e_iconst (k := 75) (v := (0 : Int32)) rfl (by decide) ?_
      refine e_putI (k := 76) rfl fg_X12_290 rfl rfl ?_
      refine e_mlet h (fun u1 h => ?_)
      refine e_aload_n (k := 77) (i := 0) rfl rfl 0 rfl ?_
      refine e_iconst (k := 78) (v := (0 : Int32)) rfl (by decide) ?_
      refine e_putI (k := 79) rfl fg_X12_410 rfl rfl ?_
      refine e_mlet h (fun u2 h => ?_)
      refine e_aload_n (k := 80) (i := 0) rfl rfl 0 rfl ?_
      refine e_iconst (k := 81) (v := (0 : Int32)) rfl (by decide) ?_
      refine e_putI (k := 82) rfl fg_X12_413 rfl rfl ?_
      refine e_mlet h (fun u3 h => ?_)
      refine e_aload_n (k := 83) (i := 0) rfl rfl 0 rfl ?_
      refine e_iconst (k := 84) (v := (0 : Int32)) rfl (by decide) ?_
      refine e_putI (k := 85) rfl fg_X12_416 rfl rfl ?_
      refine e_mlet h (fun u4 h => ?_)
      refine e_aload_n (k := 86) (i := 0) rfl rfl 0 rfl ?_
      refine e_iconst (k := 87) (v := (0 : Int32)) rfl (by decide) ?_
      refine e_putI (k := 88) rfl fg_X12_438 rfl rfl ?_
      refine e_mlet h (fun u5 h => ?_)
      refine e_aload_n (k := 89) (i := 0) rfl rfl 0 rfl ?_
      refine e_iconst (k := 90) (v := (0 : Int32)) rfl (by decide) ?_
      refine e_putI (k := 91) rfl fg_X12_350 rfl rfl ?_
      refine e_mlet h (fun u6 h => ?_)
      refine e_aload_n (k := 92) (i := 0) rfl rfl 0 rfl ?_
      refine e_iconst (k := 93) (v := (-1 : Int32)) rfl (by decide) ?_
      refine e_putI (k := 94) rfl fg_X12_423 rfl rfl ?_
      refine e_mlet h (fun u7 h => ?_)
      refine e_aload_n (k := 95) (i := 0) rfl rfl 0 rfl ?_
      refine e_iconst (k := 96) (v := (-1 : Int32)) rfl (by decide) ?_
      refine e_putI (k := 97) rfl fg_X12_432 rfl rfl ?_
      refine e_mlet h (fun u8 h => ?_)
      refine e_aload_n (k := 98) (i := 0) rfl rfl 0 rfl ?_
      refine e_iconst (k := 99) (v := (1 : Int32)) rfl (by decide) ?_
      refine e_putI (k := 100) rfl fg_X12_359 rfl rfl ?_
      refine e_mlet h (fun u9 h => ?_)
      refine e_aload_n (k := 101) (i := 0) rfl rfl 0 rfl ?_
      refine e_iconst (k := 102) (v := (1 : Int32)) rfl (by decide) ?_
      refine e_putI (k := 103) rfl fg_X12_362 rfl rfl ?_
      refine e_mlet h (fun u10 h => ?_)
      refine e_aload_n (k := 104) (i := 0) rfl rfl 0 rfl ?_
      refine e_callVv (k := 105) (q := 0) (As := []) (rest := []) rfl (c_X12_readMusic (g := g) hg (n := n) h) m_X12_readMusic i_X12_readMusic l_X12_491 rfl ⟨_, rfl, rfl⟩ rfl rfl (Nat.le_of_ble_eq_true rfl) ⟨by decide, by decide, rfl, rfl⟩ (fun _ h => ⟨fun _ z => (by cases z), Or.inr ⟨rfl, h⟩⟩) (fun u11 h => ?_)
      exact e_vret (k := 106) rfl rfl (Or.inl ⟨rfl, h⟩)
    · have h := h.2 z
      refine e_aload_n (k := 18) (i := 0) rfl rfl 0 rfl ?_
      refine e_getC (k := 19) rfl f_X12_57 rfl rfl ?_
      refine e_iload_n (k := 20) (i := 1) rfl rfl 1 rfl ?_
      refine e_aload_n (k := 21) (i := 0) rfl rfl 0 rfl ?_
      refine e_getI (k := 22) rfl f_X12_280 rfl rfl ?_
      refine e_iast (k := 23) rfl rfl h.1 ?_
      have h := h.2
      refine e_mlet h (fun u12 h => ?_)
      refine e_aload_n (k := 24) (i := 0) rfl rfl 0 rfl ?_
      refine e_getC (k := 25) rfl f_X12_60 rfl rfl ?_
      refine e_iload_n (k := 26) (i := 1) rfl rfl 1 rfl ?_
      refine e_aload_n (k := 27) (i := 0) rfl rfl 0 rfl ?_
      refine e_getI (k := 28) rfl f_X12_259 rfl rfl ?_
      refine e_iast (k := 29) rfl rfl h.1 ?_
      have h := h.2
      refine e_mlet h (fun u13 h => ?_)
      refine e_aload_n (k := 30) (i := 0) rfl rfl 0 rfl ?_
      refine e_getC (k := 31) rfl f_X12_63 rfl rfl ?_
      refine e_iload_n (k := 32) (i := 1) rfl rfl 1 rfl ?_
      refine e_aload_n (k := 33) (i := 0) rfl rfl 0 rfl ?_
      refine e_getI (k := 34) rfl f_X12_262 rfl rfl ?_
      refine e_iast (k := 35) rfl rfl h.1 ?_
      have h := h.2
      refine e_mlet h (fun u14 h => ?_)
      refine e_aload_n (k := 36) (i := 0) rfl rfl 0 rfl ?_
      refine e_getC (k := 37) rfl f_X12_66 rfl rfl ?_
      refine e_iload_n (k := 38) (i := 1) rfl rfl 1 rfl ?_
      refine e_aload_n (k := 39) (i := 0) rfl rfl 0 rfl ?_
      refine e_getI (k := 40) rfl f_X12_268 rfl rfl ?_
      refine e_iast (k := 41) rfl rfl h.1 ?_
      have h := h.2
      refine e_mlet h (fun u15 h => ?_)
      refine e_aload_n (k := 42) (i := 0) rfl rfl 0 rfl ?_
      refine e_getC (k := 43) rfl f_X12_69 rfl rfl ?_
      refine e_iload_n (k := 44) (i := 1) rfl rfl 1 rfl ?_
      refine e_lconst (k := 45) (v := (0 : Int64)) rfl (by decide) ?_
      refine e_last (k := 46) rfl rfl h.1 ?_
      have h := h.2
      refine e_mlet h (fun u16 h => ?_)
      refine e_aload_n (k := 47) (i := 0) rfl rfl 0 rfl ?_
      refine e_getC (k := 48) rfl f_X12_72 rfl rfl ?_
      refine e_iload_n (k := 49) (i := 1) rfl rfl 1 rfl ?_
      refine e_iconst (k := 50) (v := (0 : Int32)) rfl (by decide) ?_
      refine e_iast (k := 51) rfl rfl h.1 ?_
      have h := h.2
      refine e_mlet h (fun u17 h => ?_)
      refine e_aload_n (k := 52) (i := 0) rfl rfl 0 rfl ?_
      refine e_getC (k := 53) rfl f_X12_75 rfl rfl ?_
      refine e_iload_n (k := 54) (i := 1) rfl rfl 1 rfl ?_
      refine e_iconst (k := 55) (v := (0 : Int32)) rfl (by decide) ?_
      refine e_zast (k := 56) rfl rfl h.1 ?_
      have h := h.2
      refine e_mlet h (fun u18 h => ?_)
      refine e_aload_n (k := 57) (i := 0) rfl rfl 0 rfl ?_
      refine e_getC (k := 58) rfl f_X12_78 rfl rfl ?_
      refine e_iload_n (k := 59) (i := 1) rfl rfl 1 rfl ?_
      refine e_iconst (k := 60) (v := (0 : Int32)) rfl (by decide) ?_
      refine e_iast (k := 61) rfl rfl h.1 ?_
      have h := h.2
      refine e_mlet h (fun u19 h => ?_)
      refine e_aload_n (k := 62) (i := 0) rfl rfl 0 rfl ?_
      refine e_getC (k := 63) rfl f_X12_90 rfl rfl ?_
      refine e_iload_n (k := 64) (i := 1) rfl rfl 1 rfl ?_
      refine e_iconst (k := 65) (v := (-1 : Int32)) rfl (by decide) ?_
      refine e_iast (k := 66) rfl rfl h.1 ?_
      have h := h.2
      refine e_mlet h (fun u20 h => ?_)
      refine e_aload_n (k := 67) (i := 0) rfl rfl 0 rfl ?_
      refine e_iload_n (k := 68) (i := 1) rfl rfl 1 rfl ?_
      refine e_putI (k := 69) rfl fg_X12_290 rfl rfl ?_
      refine e_mlet h (fun u21 h => ?_)
      refine e_aload_n (k := 70) (i := 0) rfl rfl 0 rfl ?_
      refine e_callVv (k := 71) (q := 0) (As := []) (rest := []) rfl (c_X12_clearBar (g := g) hg (n := n) h) m_X12_clearBar i_X12_clearBar l_X12_435 rfl ⟨_, rfl, rfl⟩ rfl rfl (Nat.le_of_ble_eq_true rfl) ⟨by decide, by decide, rfl, rfl⟩ (fun _ h => ⟨fun _ z => (by cases z), Or.inr ⟨rfl, h⟩⟩) (fun u22 h => ?_)
      refine e_iinc (k := 72) (i := 1) (j := 1) (v := (x1 + (1 : Int32))) (lv' := [(0, .ref (gR g 0)), (1, .int (x1 + (1 : Int32)))]) rfl rfl rfl (by decide) [1, 0] rfl ?_
      refine e_goto (k := 73) (tgt := 25) rfl (by decide) ?_
      exact ih (x1 + (1 : Int32)) u22 h
set_option maxRecDepth 20000 in
theorem c_X12_readTune {g : Gb} (hg : xInj g) {n : Nat} {u0 : Mm} {Q : Mm → Prop} {T : Mm → Prop} (h : w_X12_readTune n u0 Q T) : xMet (gL g) yX12_readTune (xws yX12_readTune cX12_readTune 2 none) (xRoom 10) (xPc g [.ref (gR g 0)] u0) (xQ g (pV g Q T)) (xA g) := by
  refine xbody (il := il_X12_readTune) hg il_X12_readTune_ok m_X12_readTune (Nat.le_of_ble_eq_true rfl) ?_
  show xE g me_X12_readTune (pV g Q T) 0 [(0, .ref (gR g 0))] [] u0
  unfold w_X12_readTune at h
  refine e_aload_n (k := 0) (i := 0) rfl rfl 0 rfl ?_
  refine e_iconst (k := 1) (v := (0 : Int32)) rfl (by decide) ?_
  refine e_putI (k := 2) rfl fg_X12_283 rfl rfl ?_
  refine e_mlet h (fun u1 h => ?_)
  refine e_aload_n (k := 3) (i := 0) rfl rfl 0 rfl ?_
  refine e_callVv (k := 4) (q := 0) (As := []) (rest := []) rfl (c_X12_lookAtBytes (g := g) hg (n := n) h) m_X12_lookAtBytes i_X12_lookAtBytes l_X12_485 rfl ⟨_, rfl, rfl⟩ rfl rfl (Nat.le_of_ble_eq_true rfl) ⟨by decide, by decide, rfl, rfl⟩ (fun _ h => ⟨fun _ z => (by cases z), Or.inr ⟨rfl, h⟩⟩) (fun u2 h => ?_)
  refine e_aload_n (k := 5) (i := 0) rfl rfl 0 rfl ?_
  refine e_callVv (k := 6) (q := 0) (As := []) (rest := []) rfl (c_X12_readHeads (g := g) hg (n := n) h) m_X12_readHeads i_X12_readHeads l_X12_488 rfl ⟨_, rfl, rfl⟩ rfl rfl (Nat.le_of_ble_eq_true rfl) ⟨by decide, by decide, rfl, rfl⟩ (fun _ h => ⟨fun _ z => (by cases z), Or.inr ⟨rfl, h⟩⟩) (fun u3 h => ?_)
  refine e_aload_n (k := 7) (i := 0) rfl rfl 0 rfl ?_
  refine e_iconst (k := 8) (v := (0 : Int32)) rfl (by decide) ?_
  refine e_putI (k := 9) rfl fg_X12_290 rfl rfl ?_
  refine e_mlet h (fun u4 h => ?_)
  refine e_aload_n (k := 10) (i := 0) rfl rfl 0 rfl ?_
  refine e_iconst (k := 11) (v := (1 : Int32)) rfl (by decide) ?_
  refine e_putI (k := 12) rfl fg_X12_449 rfl rfl ?_
  refine e_mlet h (fun u5 h => ?_)
  refine e_iconst (k := 13) (v := (0 : Int32)) rfl (by decide) ?_
  refine e_istore_n (k := 14) (i := 1) (lv' := [(0, .ref (gR g 0)), (1, .int (0 : Int32))]) rfl rfl (by decide) [1, 0] rfl ?_
  exact s_X12_readTune_25 hg n (0 : Int32) u5 h
