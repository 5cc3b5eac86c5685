/-! methods (by program) -/
def il_X12_readOpen : List (Nat × Instr × Nat) := [(0, .aload_n 0, 1), (1, .getfield 138, 3), (4, .istore_n 1, 1), (5, .aload_n 0, 1), (6, .aload_n 0, 1), (7, .getfield 138, 3), (10, .iconst 1, 1), (11, .iadd, 1), (12, .invokevirtual 141, 3), (15, .istore_n 2, 1), (16, .iload_n 2, 1), (17, .invokestatic 182, 3), (20, .ifCond .ne 48, 3), (23, .aload_n 0, 1), (24, .getfield 438, 3), (27, .iconst 4, 1), (28, .if_icmp .ne 9, 3), (31, .aload_n 0, 1), (32, .iconst 5, 1), (33, .iload_n 1, 1), (34, .invokevirtual 148, 3), (37, .aload_n 0, 1), (38, .dup, 1), (39, .getfield 138, 3), (42, .iconst 1, 1), (43, .iadd, 1), (44, .putfield 138, 3), (47, .aload_n 0, 1), (48, .dup, 1), (49, .getfield 438, 3), (52, .iconst 1, 1), (53, .iadd, 1), (54, .putfield 438, 3), (57, .aload_n 0, 1), (58, .dup, 1), (59, .getfield 416, 3), (62, .iconst 1, 1), (63, .iadd, 1), (64, .putfield 416, 3), (67, .return_, 1), (68, .aload_n 0, 1), (69, .dup, 1), (70, .getfield 138, 3), (73, .iconst 1, 1), (74, .iadd, 1), (75, .putfield 138, 3), (78, .aload_n 0, 1), (79, .iconst 2, 1), (80, .invokevirtual 441, 3), (83, .istore_n 3, 1), (84, .aload_n 0, 1), (85, .getfield 350, 3), (88, .ifCond .le 9, 3), (91, .aload_n 0, 1), (92, .iconst 5, 1), (93, .iload_n 1, 1), (94, .invokevirtual 148, 3), (97, .aload_n 0, 1), (98, .getfield 63, 3), (101, .aload_n 0, 1), (102, .getfield 290, 3), (105, .iaload, 1), (106, .bipush 8, 2), (108, .if_icmp .ne 49, 3), (111, .aload_n 0, 1), (112, .getfield 60, 3), (115, .aload_n 0, 1), (116, .getfield 290, 3), (119, .iaload, 1), (120, .bipush 6, 2), (122, .if_icmp .eq 31, 3), (125, .aload_n 0, 1), (126, .getfield 60, 3), (129, .aload_n 0, 1), (130, .getfield 290, 3), (133, .iaload, 1), (134, .bipush 9, 2), (136, .if_icmp .eq 17, 3), (139, .aload_n 0, 1), (140, .getfield 60, 3), (143, .aload_n 0, 1), (144, .getfield 290, 3), (147, .iaload, 1), (148, .bipush 12, 2), (150, .if_icmp .ne 7, 3), (153, .iconst 1, 1), (154, .goto 4, 3), (157, .iconst 0, 1), (158, .istore 4, 2), (160, .iload_n 3, 1), (161, .iconst 3, 1), (162, .if_icmp .eq 9, 3), (165, .iload_n 3, 1), (166, .bipush 6, 2), (168, .if_icmp .ne 7, 3), (171, .iconst 2, 1), (172, .goto 33, 3), (175, .iload_n 3, 1), (176, .iconst 2, 1), (177, .if_icmp .eq 14, 3), (180, .iload_n 3, 1), (181, .iconst 4, 1), (182, .if_icmp .eq 9, 3), (185, .iload_n 3, 1), (186, .bipush 8, 2), (188, .if_icmp .ne 7, 3), (191, .iconst 3, 1), (192, .goto 13, 3), (195, .iload 4, 2), (197, .ifCond .eq 7, 3), (200, .iconst 3, 1), (201, .goto 4, 3), (204, .iconst 2, 1), (205, .istore 5, 2), (207, .iload_n 3, 1), (208, .istore 6, 2), (210, .aload_n 0, 1), (211, .bipush 58, 2), (213, .invokevirtual 166, 3), (216, .ifCond .eq 76, 3), (219, .aload_n 0, 1), (220, .dup, 1), (221, .getfield 138, 3), (224, .iconst 1, 1), (225, .iadd, 1), (226, .putfield 138, 3), (229, .aload_n 0, 1), (230, .invokevirtual 162, 3), (233, .invokestatic 182, 3), (236, .ifCond .eq 11, 3), (239, .aload_n 0, 1), (240, .iconst 1, 1), (241, .invokevirtual 441, 3), (244, .goto 5, 3), (247, .iload 5, 2), (249, .istore 5, 2), (251, .aload_n 0, 1), (252, .bipush 58, 2), (254, .invokevirtual 166, 3), (257, .ifCond .eq 35, 3), (260, .aload_n 0, 1), (261, .dup, 1), (262, .getfield 138, 3), (265, .iconst 1, 1), (266, .iadd, 1), (267, .putfield 138, 3), (270, .aload_n 0, 1), (271, .invokevirtual 162, 3), (274, .invokestatic 182, 3), (277, .ifCond .eq 11, 3), (280, .aload_n 0, 1), (281, .iconst 1, 1), (282, .invokevirtual 441, 3), (285, .goto 5, 3), (288, .iload 6, 2), (290, .istore 6, 2), (292, .aload_n 0, 1), (293, .iload 6, 2), (295, .putfield 350, 3), (298, .aload_n 0, 1), (299, .iload_n 3, 1), (300, .putfield 356, 3), (303, .aload_n 0, 1), (304, .iload 5, 2), (306, .putfield 353, 3), (309, .return_, 1)]
set_option maxRecDepth 20000 in
theorem il_X12_readOpen_ok : ∀ x ∈ il_X12_readOpen, decode cX12_readOpen x.1 = .ok x.2 := by decide +kernel
abbrev me_X12_readOpen : Me := (RX12, il_X12_readOpen, 7, none, xRoom 4, [])
def w_X12_readOpen_292 (n : Nat) (x3 : Int32) (x5 : Int32) (x6 : Int32) (u0 : Mm) (Q : Mm → Prop) (T : Mm → Prop) : Prop :=
  mlet (setI u0 0 46 x6) fun u1 =>
  mlet (setI u1 0 47 x3) fun u2 =>
  mlet (setI u2 0 48 x5) fun u3 =>
  Q u3
def w_X12_readOpen_290 (n : Nat) (x3 : Int32) (x5 : Int32) (t0 : Int32) (u0 : Mm) (Q : Mm → Prop) (T : Mm → Prop) : Prop :=
  w_X12_readOpen_292 n x3 x5 t0 u0 Q T
def w_X12_readOpen_249 (n : Nat) (x3 : Int32) (x6 : Int32) (t0 : Int32) (u0 : Mm) (Q : Mm → Prop) (T : Mm → Prop) : Prop :=
  w_X12_is n (58 : Int32) u0 (fun r1 u1 =>
  (r1 = 0 → w_X12_readOpen_292 n x3 t0 x6 u1 Q T) ∧
  (¬ r1 = 0 → mlet (setI u1 0 7 ((u1.1 0 7) + (1 : Int32))) fun u2 =>
  w_X12_here n u2 (fun r2 u3 =>
  w_X12_isDigit n r2 u3 (fun r3 u4 =>
  (r3 = 0 → w_X12_readOpen_290 n x3 t0 x6 u4 Q T) ∧
  (¬ r3 = 0 → w_X12_oneDigit n (1 : Int32) u4 (fun r4 u5 =>
  w_X12_readOpen_290 n x3 t0 r4 u5 Q T) T)) T) T)) T
def w_X12_readOpen_205 (n : Nat) (x3 : Int32) (t0 : Int32) (u0 : Mm) (Q : Mm → Prop) (T : Mm → Prop) : Prop :=
  w_X12_is n (58 : Int32) u0 (fun r1 u1 =>
  (r1 = 0 → w_X12_readOpen_292 n x3 t0 x3 u1 Q T) ∧
  (¬ r1 = 0 → mlet (setI u1 0 7 ((u1.1 0 7) + (1 : Int32))) fun u2 =>
  w_X12_here n u2 (fun r2 u3 =>
  w_X12_isDigit n r2 u3 (fun r3 u4 =>
  (r3 = 0 → w_X12_readOpen_249 n x3 x3 t0 u4 Q T) ∧
  (¬ r3 = 0 → w_X12_oneDigit n (1 : Int32) u4 (fun r4 u5 =>
  w_X12_readOpen_249 n x3 x3 r4 u5 Q T) T)) T) T)) T
def w_X12_readOpen_191 (n : Nat) (x3 : Int32) (u0 : Mm) (Q : Mm → Prop) (T : Mm → Prop) : Prop :=
  w_X12_readOpen_205 n x3 (3 : Int32) u0 Q T
def w_X12_readOpen_171 (n : Nat) (x3 : Int32) (u0 : Mm) (Q : Mm → Prop) (T : Mm → Prop) : Prop :=
  w_X12_readOpen_205 n x3 (2 : Int32) u0 Q T
def w_X12_readOpen_158 (n : Nat) (x3 : Int32) (t0 : Int32) (u0 : Mm) (Q : Mm → Prop) (T : Mm → Prop) : Prop :=
  (x3 = (3 : Int32) → w_X12_readOpen_171 n x3 u0 Q T) ∧
  (¬ x3 = (3 : Int32) → (¬ x3 = (6 : Int32) → (x3 = (2 : Int32) → w_X12_readOpen_191 n x3 u0 Q T) ∧
  (¬ x3 = (2 : Int32) → (x3 = (4 : Int32) → w_X12_readOpen_191 n x3 u0 Q T) ∧
  (¬ x3 = (4 : Int32) → (¬ x3 = (8 : Int32) → (t0 = 0 → w_X12_readOpen_205 n x3 (2 : Int32) u0 Q T) ∧
  (¬ t0 = 0 → w_X12_readOpen_205 n x3 (3 : Int32) u0 Q T)) ∧
  (x3 = (8 : Int32) → w_X12_readOpen_191 n x3 u0 Q T)))) ∧
  (x3 = (6 : Int32) → w_X12_readOpen_171 n x3 u0 Q T))
def w_X12_readOpen_157 (n : Nat) (x3 : Int32) (u0 : Mm) (Q : Mm → Prop) (T : Mm → Prop) : Prop :=
  w_X12_readOpen_158 n x3 (0 : Int32) u0 Q T
def w_X12_readOpen_153 (n : Nat) (x3 : Int32) (u0 : Mm) (Q : Mm → Prop) (T : Mm → Prop) : Prop :=
  w_X12_readOpen_158 n x3 (1 : Int32) u0 Q T
def w_X12_readOpen_97 (n : Nat) (x3 : Int32) (u0 : Mm) (Q : Mm → Prop) (T : Mm → Prop) : Prop :=
  vp_in (u0.1 0 28) 3 ∧ ((¬ (u0.1 14 (ix (u0.1 0 28))) = (8 : Int32) → w_X12_readOpen_157 n x3 u0 Q T) ∧
  ((u0.1 14 (ix (u0.1 0 28))) = (8 : Int32) → vp_in (u0.1 0 28) 3 ∧ (((u0.1 13 (ix (u0.1 0 28))) = (6 : Int32) → w_X12_readOpen_153 n x3 u0 Q T) ∧
  (¬ (u0.1 13 (ix (u0.1 0 28))) = (6 : Int32) → vp_in (u0.1 0 28) 3 ∧ (((u0.1 13 (ix (u0.1 0 28))) = (9 : Int32) → w_X12_readOpen_153 n x3 u0 Q T) ∧
  (¬ (u0.1 13 (ix (u0.1 0 28))) = (9 : Int32) → vp_in (u0.1 0 28) 3 ∧ ((¬ (u0.1 13 (ix (u0.1 0 28))) = (12 : Int32) → w_X12_readOpen_157 n x3 u0 Q T) ∧
  ((u0.1 13 (ix (u0.1 0 28))) = (12 : Int32) → w_X12_readOpen_153 n x3 u0 Q T))))))))
def w_X12_readOpen_37 (n : Nat) (u0 : Mm) (Q : Mm → Prop) (T : Mm → Prop) : Prop :=
  mlet (setI u0 0 7 ((u0.1 0 7) + (1 : Int32))) fun u1 =>
  mlet (setI u1 0 45 ((u1.1 0 45) + (1 : Int32))) fun u2 =>
  mlet (setI u2 0 44 ((u2.1 0 44) + (1 : Int32))) fun u3 =>
  Q u3
def w_X12_readOpen (n : Nat) (u0 : Mm) (Q : Mm → Prop) (T : Mm → Prop) : Prop :=
  ilet (u0.1 0 7) fun y1 =>
  w_X12_peek n ((u0.1 0 7) + (1 : Int32)) u0 (fun r1 u1 =>
  w_X12_isDigit n r1 u1 (fun r2 u2 =>
  (¬ r2 = 0 → mlet (setI u2 0 7 ((u2.1 0 7) + (1 : Int32))) fun u3 =>
  w_X12_oneDigit n (2 : Int32) u3 (fun r3 u4 =>
  ((u4.1 0 46) ≤ 0 → w_X12_readOpen_97 n r3 u4 Q T) ∧
  (¬ (u4.1 0 46) ≤ 0 → w_X12_fail n (5 : Int32) y1 u4 (fun u5 =>
  w_X12_readOpen_97 n r3 u5 Q T) T)) T) ∧
  (r2 = 0 → (¬ (u2.1 0 45) = (4 : Int32) → w_X12_readOpen_37 n u2 Q T) ∧
  ((u2.1 0 45) = (4 : Int32) → w_X12_fail n (5 : Int32) y1 u2 (fun u6 =>
  w_X12_readOpen_37 n u6 Q T) T))) T) T
set_option maxRecDepth 20000 in
theorem s_X12_readOpen_292 {g : Gb} (hg : xInj g) {n : Nat} {Q : Mm → Prop} {T : Mm → Prop} {x3 : Int32} {x5 : Int32} {x6 : Int32} {u0 : Mm} (h : w_X12_readOpen_292 n x3 x5 x6 u0 Q T) : xE g me_X12_readOpen (pV g Q T) 292 [(0, .ref (gR g 0)), (3, .int x3), (5, .int x5), (6, .int x6)] [] u0 := by
  unfold w_X12_readOpen_292 at h
  refine e_aload_n (k := 156) (i := 0) rfl rfl 0 rfl ?_
  refine e_iload (k := 157) (i := 6) rfl 3 rfl ?_
  refine e_putI (k := 158) rfl fg_X12_350 rfl rfl ?_
  refine e_mlet h (fun u1 h => ?_)
  refine e_aload_n (k := 159) (i := 0) rfl rfl 0 rfl ?_
  refine e_iload_n (k := 160) (i := 3) rfl rfl 1 rfl ?_
  refine e_putI (k := 161) rfl fg_X12_356 rfl rfl ?_
  refine e_mlet h (fun u2 h => ?_)
  refine e_aload_n (k := 162) (i := 0) rfl rfl 0 rfl ?_
  refine e_iload (k := 163) (i := 5) rfl 2 rfl ?_
  refine e_putI (k := 164) rfl fg_X12_353 rfl rfl ?_
  refine e_mlet h (fun u3 h => ?_)
  exact e_vret (k := 165) rfl rfl (Or.inl ⟨rfl, h⟩)
set_option maxRecDepth 20000 in
theorem s_X12_readOpen_290 {g : Gb} (hg : xInj g) {n : Nat} {Q : Mm → Prop} {T : Mm → Prop} {x3 : Int32} {x5 : Int32} {t0 : Int32} {u0 : Mm} (h : w_X12_readOpen_290 n x3 x5 t0 u0 Q T) : xE g me_X12_readOpen (pV g Q T) 290 [(0, .ref (gR g 0)), (3, .int x3), (5, .int x5)] [.int t0] u0 := by
  unfold w_X12_readOpen_290 at h
  refine e_istore (k := 155) (i := 6) (lv' := [(0, .ref (gR g 0)), (3, .int x3), (5, .int x5), (6, .int t0)]) rfl (by decide) [1, 2, 3, 0] rfl ?_
  exact s_X12_readOpen_292 hg h
set_option maxRecDepth 20000 in
theorem s_X12_readOpen_249 {g : Gb} (hg : xInj g) {n : Nat} {Q : Mm → Prop} {T : Mm → Prop} {x3 : Int32} {x6 : Int32} {t0 : Int32} {u0 : Mm} (h : w_X12_readOpen_249 n x3 x6 t0 u0 Q T) : xE g me_X12_readOpen (pV g Q T) 249 [(0, .ref (gR g 0)), (3, .int x3), (6, .int x6)] [.int t0] u0 := by
  unfold w_X12_readOpen_249 at h
  refine e_istore (k := 135) (i := 5) (lv' := [(0, .ref (gR g 0)), (3, .int x3), (5, .int t0), (6, .int x6)]) rfl (by decide) [1, 2, 0, 3] rfl ?_
  refine e_aload_n (k := 136) (i := 0) rfl rfl 0 rfl ?_
  refine e_bipush (k := 137) (v := (58 : Int32)) rfl (by decide) ?_
  refine e_callVi (k := 138) (q := 0) (As := [.int (58 : Int32)]) (rest := []) rfl (c_X12_is (g := g) hg (n := n) h) m_X12_is i_X12_is l_X12_166 rfl ⟨_, rfl, rfl⟩ rfl rfl (Nat.le_of_ble_eq_true rfl) ⟨by decide, by decide, rfl, rfl⟩ (fun _ h => ⟨fun _ z => (by cases z), Or.inr ⟨rfl, h⟩⟩) (fun r1 u1 h => ?_)
  refine e_if_eq (k := 139) (tgt := 292) rfl (by decide) (fun z => ?_) (fun z => ?_)
  · have h := h.1 z
    exact s_X12_readOpen_292 hg h
  · have h := h.2 z
    refine e_aload_n (k := 140) (i := 0) rfl rfl 0 rfl ?_
    refine e_dup (k := 141) rfl rfl ?_
    refine e_getI (k := 142) rfl f_X12_138 rfl rfl ?_
    refine e_iconst (k := 143) (v := (1 : Int32)) rfl (by decide) ?_
    refine e_iadd (k := 144) rfl ?_
    refine e_putI (k := 145) rfl fg_X12_138 rfl rfl ?_
    refine e_mlet h (fun u2 h => ?_)
    refine e_aload_n (k := 146) (i := 0) rfl rfl 0 rfl ?_
    refine e_callVi (k := 147) (q := 0) (As := []) (rest := []) rfl (c_X12_here (g := g) hg (n := n) h) m_X12_here i_X12_here l_X12_162 rfl ⟨_, rfl, rfl⟩ rfl rfl (Nat.le_of_ble_eq_true rfl) ⟨by decide, by decide, rfl, rfl⟩ (fun _ h => ⟨fun _ z => (by cases z), Or.inr ⟨rfl, h⟩⟩) (fun r2 u3 h => ?_)
    refine e_callSi (k := 148) (As := [.int r2]) (rest := []) rfl (c_X12_isDigit (g := g) hg (n := n) h) m_X12_isDigit st_X12_isDigit l_X12_182 rfl rfl (Nat.le_of_ble_eq_true rfl) ⟨by decide, by decide, rfl, rfl⟩ (fun _ h => ⟨fun _ z => (by cases z), Or.inr ⟨rfl, h⟩⟩) (fun r3 u4 h => ?_)
    refine e_if_eq (k := 149) (tgt := 288) rfl (by decide) (fun z => ?_) (fun z => ?_)
    · have h := h.1 z
      refine e_iload (k := 154) (i := 6) rfl 3 rfl ?_
      refine e_sub (lv' := [(0, .ref (gR g 0)), (3, .int x3), (5, .int t0)]) [0, 1, 2] rfl ?_
      exact s_X12_readOpen_290 hg h
    · have h := h.2 z
      refine e_aload_n (k := 150) (i := 0) rfl rfl 0 rfl ?_
      refine e_iconst (k := 151) (v := (1 : Int32)) rfl (by decide) ?_
      refine e_callVi (k := 152) (q := 0) (As := [.int (1 : Int32)]) (rest := []) rfl (c_X12_oneDigit (g := g) hg (n := n) h) m_X12_oneDigit i_X12_oneDigit l_X12_441 rfl ⟨_, rfl, rfl⟩ rfl rfl (Nat.le_of_ble_eq_true rfl) ⟨by decide, by decide, rfl, rfl⟩ (fun _ h => ⟨fun _ z => (by cases z), Or.inr ⟨rfl, h⟩⟩) (fun r4 u5 h => ?_)
      refine e_goto (k := 153) (tgt := 290) rfl (by decide) ?_
      refine e_sub (lv' := [(0, .ref (gR g 0)), (3, .int x3), (5, .int t0)]) [0, 1, 2] rfl ?_
      exact s_X12_readOpen_290 hg h
set_option maxRecDepth 20000 in
theorem s_X12_readOpen_205 {g : Gb} (hg : xInj g) {n : Nat} {Q : Mm → Prop} {T : Mm → Prop} {x3 : Int32} {t0 : Int32} {u0 : Mm} (h : w_X12_readOpen_205 n x3 t0 u0 Q T) : xE g me_X12_readOpen (pV g Q T) 205 [(0, .ref (gR g 0)), (3, .int x3)] [.int t0] u0 := by
  unfold w_X12_readOpen_205 at h
  refine e_istore (k := 113) (i := 5) (lv' := [(0, .ref (gR g 0)), (3, .int x3), (5, .int t0)]) rfl (by decide) [1, 2, 0] rfl ?_
  refine e_iload_n (k := 114) (i := 3) rfl rfl 1 rfl ?_
  refine e_istore (k := 115) (i := 6) (lv' := [(0, .ref (gR g 0)), (3, .int x3), (5, .int t0), (6, .int x3)]) rfl (by decide) [1, 2, 3, 0] rfl ?_
  refine e_aload_n (k := 116) (i := 0) rfl rfl 0 rfl ?_
  refine e_bipush (k := 117) (v := (58 : Int32)) rfl (by decide) ?_
  refine e_callVi (k := 118) (q := 0) (As := [.int (58 : Int32)]) (rest := []) rfl (c_X12_is (g := g) hg (n := n) h) m_X12_is i_X12_is l_X12_166 rfl ⟨_, rfl, rfl⟩ rfl rfl (Nat.le_of_ble_eq_true rfl) ⟨by decide, by decide, rfl, rfl⟩ (fun _ h => ⟨fun _ z => (by cases z), Or.inr ⟨rfl, h⟩⟩) (fun r1 u1 h => ?_)
  refine e_if_eq (k := 119) (tgt := 292) rfl (by decide) (fun z => ?_) (fun z => ?_)
  · have h := h.1 z
    exact s_X12_readOpen_292 hg h
  · have h := h.2 z
    refine e_aload_n (k := 120) (i := 0) rfl rfl 0 rfl ?_
    refine e_dup (k := 121) rfl rfl ?_
    refine e_getI (k := 122) rfl f_X12_138 rfl rfl ?_
    refine e_iconst (k := 123) (v := (1 : Int32)) rfl (by decide) ?_
    refine e_iadd (k := 124) rfl ?_
    refine e_putI (k := 125) rfl fg_X12_138 rfl rfl ?_
    refine e_mlet h (fun u2 h => ?_)
    refine e_aload_n (k := 126) (i := 0) rfl rfl 0 rfl ?_
    refine e_callVi (k := 127) (q := 0) (As := []) (rest := []) rfl (c_X12_here (g := g) hg (n := n) h) m_X12_here i_X12_here l_X12_162 rfl ⟨_, rfl, rfl⟩ rfl rfl (Nat.le_of_ble_eq_true rfl) ⟨by decide, by decide, rfl, rfl⟩ (fun _ h => ⟨fun _ z => (by cases z), Or.inr ⟨rfl, h⟩⟩) (fun r2 u3 h => ?_)
    refine e_callSi (k := 128) (As := [.int r2]) (rest := []) rfl (c_X12_isDigit (g := g) hg (n := n) h) m_X12_isDigit st_X12_isDigit l_X12_182 rfl rfl (Nat.le_of_ble_eq_true rfl) ⟨by decide, by decide, rfl, rfl⟩ (fun _ h => ⟨fun _ z => (by cases z), Or.inr ⟨rfl, h⟩⟩) (fun r3 u4 h => ?_)
    refine e_if_eq (k := 129) (tgt := 247) rfl (by decide) (fun z => ?_) (fun z => ?_)
    · have h := h.1 z
      refine e_iload (k := 134) (i := 5) rfl 2 rfl ?_
      refine e_sub (lv' := [(0, .ref (gR g 0)), (3, .int x3), (6, .int x3)]) [0, 1, 3] rfl ?_
      exact s_X12_readOpen_249 hg h
    · have h := h.2 z
      refine e_aload_n (k := 130) (i := 0) rfl rfl 0 rfl ?_
      refine e_iconst (k := 131) (v := (1 : Int32)) rfl (by decide) ?_
      refine e_callVi (k := 132) (q := 0) (As := [.int (1 : Int32)]) (rest := []) rfl (c_X12_oneDigit (g := g) hg (n := n) h) m_X12_oneDigit i_X12_oneDigit l_X12_441 rfl ⟨_, rfl, rfl⟩ rfl rfl (Nat.le_of_ble_eq_true rfl) ⟨by decide, by decide, rfl, rfl⟩ (fun _ h => ⟨fun _ z => (by cases z), Or.inr ⟨rfl, h⟩⟩) (fun r4 u5 h => ?_)
      refine e_goto (k := 133) (tgt := 249) rfl (by decide) ?_
      refine e_sub (lv' := [(0, .ref (gR g 0)), (3, .int x3), (6, .int x3)]) [0, 1, 3] rfl ?_
      exact s_X12_readOpen_249 hg h
set_option maxRecDepth 20000 in
theorem s_X12_readOpen_191 {g : Gb} (hg : xInj g) {n : Nat} {Q : Mm → Prop} {T : Mm → Prop} {x3 : Int32} {u0 : Mm} (h : w_X12_readOpen_191 n x3 u0 Q T) : xE g me_X12_readOpen (pV g Q T) 191 [(0, .ref (gR g 0)), (3, .int x3)] [] u0 := by
  unfold w_X12_readOpen_191 at h
  refine e_iconst (k := 106) (v := (3 : Int32)) rfl (by decide) ?_
  refine e_goto (k := 107) (tgt := 205) rfl (by decide) ?_
  exact s_X12_readOpen_205 hg h
set_option maxRecDepth 20000 in
theorem s_X12_readOpen_171 {g : Gb} (hg : xInj g) {n : Nat} {Q : Mm → Prop} {T : Mm → Prop} {x3 : Int32} {u0 : Mm} (h : w_X12_readOpen_171 n x3 u0 Q T) : xE g me_X12_readOpen (pV g Q T) 171 [(0, .ref (gR g 0)), (3, .int x3)] [] u0 := by
  unfold w_X12_readOpen_171 at h
  refine e_iconst (k := 95) (v := (2 : Int32)) rfl (by decide) ?_
  refine e_goto (k := 96) (tgt := 205) rfl (by decide) ?_
  exact s_X12_readOpen_205 hg h
set_option maxRecDepth 20000 in
theorem s_X12_readOpen_158 {g : Gb} (hg : xInj g) {n : Nat} {Q : Mm → Prop} {T : Mm → Prop} {x3 : Int32} {t0 : Int32} {u0 : Mm} (h : w_X12_readOpen_158 n x3 t0 u0 Q T) : xE g me_X12_readOpen (pV g Q T) 158 [(0, .ref (gR g 0)), (3, .int x3)] [.int t0] u0 := by
  unfold w_X12_readOpen_158 at h
  refine e_istore (k := 88) (i := 4) (lv' := [(0, .ref (gR g 0)), (3, .int x3), (4, .int t0)]) rfl (by decide) [1, 2, 0] rfl ?_
  refine e_iload_n (k := 89) (i := 3) rfl rfl 1 rfl ?_
  refine e_iconst (k := 90) (v := (3 : Int32)) rfl (by decide) ?_
  refine e_icmp_eq (k := 91) (tgt := 171) rfl (by decide) (fun z => ?_) (fun z => ?_)
  · have h := h.1 z
    refine e_sub (lv' := [(0, .ref (gR g 0)), (3, .int x3)]) [0, 1] rfl ?_
    exact s_X12_readOpen_171 hg h
  · have h := h.2 z
    refine e_iload_n (k := 92) (i := 3) rfl rfl 1 rfl ?_
    refine e_bipush (k := 93) (v := (6 : Int32)) rfl (by decide) ?_
    refine e_icmp_ne (k := 94) (tgt := 175) rfl (by decide) (fun z => ?_) (fun z => ?_)
    · have h := h.1 z
      refine e_iload_n (k := 97) (i := 3) rfl rfl 1 rfl ?_
      refine e_iconst (k := 98) (v := (2 : Int32)) rfl (by decide) ?_
      refine e_icmp_eq (k := 99) (tgt := 191) rfl (by decide) (fun z => ?_) (fun z => ?_)
      · have h := h.1 z
        refine e_sub (lv' := [(0, .ref (gR g 0)), (3, .int x3)]) [0, 1] rfl ?_
        exact s_X12_readOpen_191 hg h
      · have h := h.2 z
        refine e_iload_n (k := 100) (i := 3) rfl rfl 1 rfl ?_
        refine e_iconst (k := 101) (v := (4 : Int32)) rfl (by decide) ?_
        refine e_icmp_eq (k := 102) (tgt := 191) rfl (by decide) (fun z => ?_) (fun z => ?_)
        · have h := h.1 z
          refine e_sub (lv' := [(0, .ref (gR g 0)), (3, .int x3)]) [0, 1] rfl ?_
          exact s_X12_readOpen_191 hg h
        · have h := h.2 z
          refine e_iload_n (k := 103) (i := 3) rfl rfl 1 rfl ?_
          refine e_bipush (k := 104) (v := (8 : Int32)) rfl (by decide) ?_
          refine e_icmp_ne (k := 105) (tgt := 195) rfl (by decide) (fun z => ?_) (fun z => ?_)
          · have h := h.1 z
            refine e_iload (k := 108) (i := 4) rfl 2 rfl ?_
            refine e_if_eq (k := 109) (tgt := 204) rfl (by decide) (fun z => ?_) (fun z => ?_)
            · have h := h.1 z
              refine e_iconst (k := 112) (v := (2 : Int32)) rfl (by decide) ?_
              refine e_sub (lv' := [(0, .ref (gR g 0)), (3, .int x3)]) [0, 1] rfl ?_
              exact s_X12_readOpen_205 hg h
            · have h := h.2 z
              refine e_iconst (k := 110) (v := (3 : Int32)) rfl (by decide) ?_
              refine e_goto (k := 111) (tgt := 205) rfl (by decide) ?_
              refine e_sub (lv' := [(0, .ref (gR g 0)), (3, .int x3)]) [0, 1] rfl ?_
              exact s_X12_readOpen_205 hg h
          · have h := h.2 z
            refine e_sub (lv' := [(0, .ref (gR g 0)), (3, .int x3)]) [0, 1] rfl ?_
            exact s_X12_readOpen_191 hg h
    · have h := h.2 z
      refine e_sub (lv' := [(0, .ref (gR g 0)), (3, .int x3)]) [0, 1] rfl ?_
      exact s_X12_readOpen_171 hg h
set_option maxRecDepth 20000 in
theorem s_X12_readOpen_157 {g : Gb} (hg : xInj g) {n : Nat} {Q : Mm → Prop} {T : Mm → Prop} {x3 : Int32} {u0 : Mm} (h : w_X12_readOpen_157 n x3 u0 Q T) : xE g me_X12_readOpen (pV g Q T) 157 [(0, .ref (gR g 0)), (3, .int x3)] [] u0 := by
  unfold w_X12_readOpen_157 at h
  refine e_iconst (k := 87) (v := (0 : Int32)) rfl (by decide) ?_
  exact s_X12_readOpen_158 hg h
set_option maxRecDepth 20000 in
theorem s_X12_readOpen_153 {g : Gb} (hg : xInj g) {n : Nat} {Q : Mm → Prop} {T : Mm → Prop} {x3 : Int32} {u0 : Mm} (h : w_X12_readOpen_153 n x3 u0 Q T) : xE g me_X12_readOpen (pV g Q T) 153 [(0, .ref (gR g 0)), (3, .int x3)] [] u0 := by
  unfold w_X12_readOpen_153 at h
  refine e_iconst (k := 85) (v := (1 : Int32)) rfl (by decide) ?_
  refine e_goto (k := 86) (tgt := 158) rfl (by decide) ?_
  exact s_X12_readOpen_158 hg h
set_option maxRecDepth 20000 in
theorem s_X12_readOpen_97 {g : Gb} (hg : xInj g) {n : Nat} {Q : Mm → Prop} {T : Mm → Prop} {x3 : Int32} {u0 : Mm} (h : w_X12_readOpen_97 n x3 u0 Q T) : xE g me_X12_readOpen (pV g Q T) 97 [(0, .ref (gR g 0)), (3, .int x3)] [] u0 := by
  unfold w_X12_readOpen_97 at h
  refine e_aload_n (k := 57) (i := 0) rfl rfl 0 rfl ?_
  refine e_getC (k := 58) rfl f_X12_63 rfl rfl ?_
  refine e_aload_n (k := 59) (i := 0) rfl rfl 0 rfl ?_
  refine e_getI (k := 60) rfl f_X12_290 rfl rfl ?_
  refine e_iald (k := 61) rfl rfl h.1 ?_
  have h := h.2
  refine e_bipush (k := 62) (v := (8 : Int32)) rfl (by decide) ?_
  refine e_icmp_ne (k := 63) (tgt := 157) rfl (by decide) (fun z => ?_) (fun z => ?_)
  · have h := h.1 z
    exact s_X12_readOpen_157 hg h
  · have h := h.2 z
    refine e_aload_n (k := 64) (i := 0) rfl rfl 0 rfl ?_
    refine e_getC (k := 65) rfl f_X12_60 rfl rfl ?_
    refine e_aload_n (k := 66) (i := 0) rfl rfl 0 rfl ?_
    refine e_getI (k := 67) rfl f_X12_290 rfl rfl ?_
    refine e_iald (k := 68) rfl rfl h.1 ?_
    have h := h.2
    refine e_bipush (k := 69) (v := (6 : Int32)) rfl (by decide) ?_
    refine e_icmp_eq (k := 70) (tgt := 153) rfl (by decide) (fun z => ?_) (fun z => ?_)
    · have h := h.1 z
      exact s_X12_readOpen_153 hg h
    · have h := h.2 z
      refine e_aload_n (k := 71) (i := 0) rfl rfl 0 rfl ?_
      refine e_getC (k := 72) rfl f_X12_60 rfl rfl ?_
      refine e_aload_n (k := 73) (i := 0) rfl rfl 0 rfl ?_
      refine e_getI (k := 74) rfl f_X12_290 rfl rfl ?_
      refine e_iald (k := 75) rfl rfl h.1 ?_
      have h := h.2
      refine e_bipush (k := 76) (v := (9 : Int32)) rfl (by decide) ?_
      refine e_icmp_eq (k := 77) (tgt := 153) rfl (by decide) (fun z => ?_) (fun z => ?_)
      · have h := h.1 z
        exact s_X12_readOpen_153 hg h
      · have h := h.2 z
        refine e_aload_n (k := 78) (i := 0) rfl rfl 0 rfl ?_
        refine e_getC (k := 79) rfl f_X12_60 rfl rfl ?_
        refine e_aload_n (k := 80) (i := 0) rfl rfl 0 rfl ?_
        refine e_getI (k := 81) rfl f_X12_290 rfl rfl ?_
        refine e_iald (k := 82) rfl rfl h.1 ?_
        have h := h.2
        refine e_bipush (k := 83) (v := (12 : Int32)) rfl (by decide) ?_
        refine e_icmp_ne (k := 84) (tgt := 157) rfl (by decide) (fun z => ?_) (fun z => ?_)
        · have h := h.1 z
          exact s_X12_readOpen_157 hg h
        · have h := h.2 z
          exact s_X12_readOpen_153 hg h
set_option maxRecDepth 20000 in
theorem s_X12_readOpen_37 {g : Gb} (hg : xInj g) {n : Nat} {Q : Mm → Prop} {T : Mm → Prop} {u0 : Mm} (h : w_X12_readOpen_37 n  u0 Q T) : xE g me_X12_readOpen (pV g Q T) 37 [(0, .ref (gR g 0))] [] u0 := by
  unfold w_X12_readOpen_37 at h
  refine e_aload_n (k := 21) (i := 0) rfl rfl 0 rfl ?_
  refine e_dup (k := 22) rfl rfl ?_
  refine e_getI (k := 23) rfl f_X12_138 rfl rfl ?_
  refine e_iconst (k := 24) (v := (1 : Int32)) rfl (by decide) ?_
  refine e_iadd (k := 25) rfl ?_
  refine e_putI (k := 26) rfl fg_X12_138 rfl rfl ?_
  refine e_mlet h (fun u1 h => ?_)
  refine e_aload_n (k := 27) (i := 0) rfl rfl 0 rfl ?_
  refine e_dup (k := 28) rfl rfl ?_
  refine e_getI (k := 29) rfl f_X12_438 rfl rfl ?_
  refine e_iconst (k := 30) (v := (1 : Int32)) rfl (by decide) ?_
  refine e_iadd (k := 31) rfl ?_
  refine e_putI (k := 32) rfl fg_X12_438 rfl rfl ?_
  refine e_mlet h (fun u2 h => ?_)
  refine e_aload_n (k := 33) (i := 0) rfl rfl 0 rfl ?_
  refine e_dup (k := 34) rfl rfl ?_
  refine e_getI (k := 35) rfl f_X12_416 rfl rfl ?_
  refine e_iconst (k := 36) (v := (1 : Int32)) rfl (by decide) ?_
  refine e_iadd (k := 37) rfl ?_
  refine e_putI (k := 38) rfl fg_X12_416 rfl rfl ?_
  refine e_mlet h (fun u3 h => ?_)
  exact e_vret (k := 39) rfl rfl (Or.inl ⟨rfl, h⟩)
set_option maxRecDepth 20000 in
theorem c_X12_readOpen {g : Gb} (hg : xInj g) {n : Nat} {u0 : Mm} {Q : Mm → Prop} {T : Mm → Prop} (h : w_X12_readOpen n u0 Q T) : xMet (gL g) yX12_readOpen (xws yX12_readOpen cX12_readOpen 7 none) (xRoom 4) (xPc g [.ref (gR g 0)] u0) (xQ g (pV g Q T)) (xA g) := by
  refine xbody (il := il_X12_readOpen) hg il_X12_readOpen_ok m_X12_readOpen (Nat.le_of_ble_eq_true rfl) ?_
  show xE g me_X12_readOpen (pV g Q T) 0 [(0, .ref (gR g 0))] [] u0
  unfold w_X12_readOpen at h
  refine e_aload_n (k := 0) (i := 0) rfl rfl 0 rfl ?_
  refine e_getI (k := 1) rfl f_X12_138 rfl rfl ?_
  refine e_ilet h (fun y1 h => ?_)
  refine e_istore_n (k := 2) (i := 1) (lv' := [(0, .ref (gR g 0)), (1, .int y1)]) rfl rfl (by decide) [1, 0] rfl ?_
  refine e_aload_n (k := 3) (i := 0) rfl rfl 0 rfl ?_
  refine e_aload_n (k := 4) (i := 0) rfl rfl 0 rfl ?_
  refine e_getI (k := 5) rfl f_X12_138 rfl rfl ?_
  refine e_iconst (k := 6) (v := (1 : Int32)) rfl (by decide) ?_
  refine e_iadd (k := 7) rfl ?_
  refine e_callVi (k := 8) (q := 0) (As := [.int ((u0.1 0 7) + (1 : Int32))]) (rest := []) rfl (c_X12_peek (g := g) hg (n := n) h) m_X12_peek i_X12_peek l_X12_141 rfl ⟨_, rfl, rfl⟩ rfl rfl (Nat.le_of_ble_eq_true rfl) ⟨by decide, by decide, rfl, rfl⟩ (fun _ h => ⟨fun _ z => (by cases z), Or.inr ⟨rfl, h⟩⟩) (fun r1 u1 h => ?_)
  refine e_istore_n (k := 9) (i := 2) (lv' := [(0, .ref (gR g 0)), (1, .int y1), (2, .int r1)]) rfl rfl (by decide) [1, 2, 0] rfl ?_
  refine e_iload_n (k := 10) (i := 2) rfl rfl 2 rfl ?_
  refine e_callSi (k := 11) (As := [.int r1]) (rest := []) rfl (c_X12_isDigit (g := g) hg (n := n) h) m_X12_isDigit st_X12_isDigit l_X12_182 rfl rfl (Nat.le_of_ble_eq_true rfl) ⟨by decide, by decide, rfl, rfl⟩ (fun _ h => ⟨fun _ z => (by cases z), Or.inr ⟨rfl, h⟩⟩) (fun r2 u2 h => ?_)
  refine e_if_ne (k := 12) (tgt := 68) rfl (by decide) (fun z => ?_) (fun z => ?_)
  · have h := h.1 z
    refine e_aload_n (k := 40) (i := 0) rfl rfl 0 rfl ?_
    refine e_dup (k := 41) rfl rfl ?_
    refine e_getI (k := 42) rfl f_X12_138 rfl rfl ?_
    refine e_iconst (k := 43) (v := (1 : Int32)) rfl (by decide) ?_
    refine e_iadd (k := 44) rfl ?_
    refine e_putI (k := 45) rfl fg_X12_138 rfl rfl ?_
    refine e_mlet h (fun u3 h => ?_)
    refine e_aload_n (k := 46) (i := 0) rfl rfl 0 rfl ?_
    refine e_iconst (k := 47) (v := (2 : Int32)) rfl (by decide) ?_
    refine e_callVi (k := 48) (q := 0) (As := [.int (2 : Int32)]) (rest := []) rfl (c_X12_oneDigit (g := g) hg (n := n) h) m_X12_oneDigit i_X12_oneDigit l_X12_441 rfl ⟨_, rfl, rfl⟩ rfl rfl (Nat.le_of_ble_eq_true rfl) ⟨by decide, by decide, rfl, rfl⟩ (fun _ h => ⟨fun _ z => (by cases z), Or.inr ⟨rfl, h⟩⟩) (fun r3 u4 h => ?_)
    refine e_istore_n (k := 49) (i := 3) (lv' := [(0, .ref (gR g 0)), (1, .int y1), (2, .int r1), (3, .int r3)]) rfl rfl (by decide) [1, 2, 3, 0] rfl ?_
    refine e_aload_n (k := 50) (i := 0) rfl rfl 0 rfl ?_
    refine e_getI (k := 51) rfl f_X12_350 rfl rfl ?_
    refine e_if_le (k := 52) (tgt := 97) rfl (by decide) (fun z => ?_) (fun z => ?_)
    · have h := h.1 z
      refine e_sub (lv' := [(0, .ref (gR g 0)), (3, .int r3)]) [0, 3] rfl ?_
      exact s_X12_readOpen_97 hg h
    · have h := h.2 z
      refine e_aload_n (k := 53) (i := 0) rfl rfl 0 rfl ?_
      refine e_iconst (k := 54) (v := (5 : Int32)) rfl (by decide) ?_
      refine e_iload_n (k := 55) (i := 1) rfl rfl 1 rfl ?_
      refine e_callVv (k := 56) (q := 0) (As := [.int (5 : Int32), .int y1]) (rest := []) rfl (c_X12_fail (g := g) hg (n := n) h) m_X12_fail i_X12_fail l_X12_148 rfl ⟨_, rfl, rfl⟩ rfl rfl (Nat.le_of_ble_eq_true rfl) ⟨by decide, by decide, rfl, rfl⟩ (fun _ h => ⟨fun _ z => (by cases z), Or.inr ⟨rfl, h⟩⟩) (fun u5 h => ?_)
      refine e_sub (lv' := [(0, .ref (gR g 0)), (3, .int r3)]) [0, 3] rfl ?_
      exact s_X12_readOpen_97 hg h
  · have h := h.2 z
    refine e_aload_n (k := 13) (i := 0) rfl rfl 0 rfl ?_
    refine e_getI (k := 14) rfl f_X12_438 rfl rfl ?_
    refine e_iconst (k := 15) (v := (4 : Int32)) rfl (by decide) ?_
    refine e_icmp_ne (k := 16) (tgt := 37) rfl (by decide) (fun z => ?_) (fun z => ?_)
    · have h := h.1 z
      refine e_sub (lv' := [(0, .ref (gR g 0))]) [0] rfl ?_
      exact s_X12_readOpen_37 hg h
    · have h := h.2 z
      refine e_aload_n (k := 17) (i := 0) rfl rfl 0 rfl ?_
      refine e_iconst (k := 18) (v := (5 : Int32)) rfl (by decide) ?_
      refine e_iload_n (k := 19) (i := 1) rfl rfl 1 rfl ?_
      refine e_callVv (k := 20) (q := 0) (As := [.int (5 : Int32), .int y1]) (rest := []) rfl (c_X12_fail (g := g) hg (n := n) h) m_X12_fail i_X12_fail l_X12_148 rfl ⟨_, rfl, rfl⟩ rfl rfl (Nat.le_of_ble_eq_true rfl) ⟨by decide, by decide, rfl, rfl⟩ (fun _ h => ⟨fun _ z => (by cases z), Or.inr ⟨rfl, h⟩⟩) (fun u6 h => ?_)
      refine e_sub (lv' := [(0, .ref (gR g 0))]) [0] rfl ?_
      exact s_X12_readOpen_37 hg h
def il_X4_readBars : List (Nat × Instr × Nat) := [(0, .aload_n 0, 1), (1, .getfield 9, 3), (4, .getfield 123, 3), (7, .istore_n 1, 1), (8, .aload_n 0, 1), (9, .getfield 48, 3), (12, .invokevirtual 252, 3), (15, .ifCond .ne 13, 3), (18, .aload_n 0, 1), (19, .getfield 9, 3), (22, .iconst 2, 1), (23, .iload_n 1, 1), (24, .invokevirtual 93, 3), (27, .return_, 1), (28, .aload_n 0, 1), (29, .getfield 48, 3), (32, .invokevirtual 336, 3), (35, .lstore_n 2, 1), (36, .lload_n 2, 1), (37, .lconst 1, 1), (38, .lcmp, 1), (39, .ifCond .ge 13, 3), (42, .aload_n 0, 1), (43, .getfield 9, 3), (46, .iconst 1, 1), (47, .iload_n 1, 1), (48, .invokevirtual 93, 3), (51, .return_, 1), (52, .aload_n 0, 1), (53, .iconst 3, 1), (54, .iload_n 1, 1), (55, .invokevirtual 177, 3), (58, .istore 4, 2), (60, .aload_n 0, 1), (61, .getfield 9, 3), (64, .dup, 1), (65, .getfield 123, 3), (68, .iconst 1, 1), (69, .iadd, 1), (70, .putfield 123, 3), (73, .aload_n 0, 1), (74, .getfield 9, 3), (77, .getfield 78, 3), (80, .ifCond .ne 26, 3), (83, .aload_n 0, 1), (84, .getfield 9, 3), (87, .invokevirtual 310, 3), (90, .ifCond .eq 16, 3), (93, .aload_n 0, 1), (94, .getfield 9, 3), (97, .bipush 16, 2), (99, .iconst 0, 1), (100, .invokevirtual 133, 3), (103, .goto 4, 3), (106, .iconst 1, 1), (107, .istore 5, 2), (109, .aload_n 0, 1), (110, .getfield 29, 3), (113, .iload 4, 2), (115, .iconst 3, 1), (116, .iload 5, 2), (118, .invokevirtual 180, 3), (121, .aload_n 0, 1), (122, .getfield 29, 3), (125, .iload 4, 2), (127, .iload 5, 2), (129, .i2l, 1), (130, .lload_n 2, 1), (131, .lmul, 1), (132, .invokevirtual 317, 3), (135, .aload_n 0, 1), (136, .getfield 48, 3), (139, .lload_n 2, 1), (140, .invokevirtual 328, 3), (143, .iconst 1, 1), (144, .istore 6, 2), (146, .iload 6, 2), (148, .iload 5, 2), (150, .if_icmp .ge 47, 3), (153, .aload_n 0, 1), (154, .getfield 9, 3), (157, .getfield 78, 3), (160, .ifCond .ne 37, 3), (163, .aload_n 0, 1), (164, .getfield 48, 3), (167, .invokevirtual 340, 3), (170, .ifCond .ne 13, 3), (173, .aload_n 0, 1), (174, .getfield 9, 3), (177, .iconst 2, 1), (178, .iload_n 1, 1), (179, .invokevirtual 93, 3), (182, .return_, 1), (183, .aload_n 0, 1), (184, .getfield 48, 3), (187, .lload_n 2, 1), (188, .invokevirtual 328, 3), (191, .iinc 6 1, 3), (194, .goto (-48), 3), (197, .aload_n 0, 1), (198, .getfield 48, 3), (201, .invokevirtual 343, 3), (204, .aload_n 0, 1), (205, .getfield 48, 3), (208, .invokevirtual 346, 3), (211, .return_, 1)]
set_option maxRecDepth 20000 in
theorem il_X4_readBars_ok : ∀ x ∈ il_X4_readBars, decode cX4_readBars x.1 = .ok x.2 := by decide +kernel
abbrev me_X4_readBars : Me := (RX4, il_X4_readBars, 7, none, xRoom 4, [])
def w_X4_readBars_197 (n : Nat) (u0 : Mm) (Q : Mm → Prop) : Prop :=
  w_X8_clearMarks n (u0.2.2 2) u0 (fun u1 =>
  w_X8_forgetLast n (u1.2.2 2) u1 (fun u2 =>
  Q u2))
def w_X4_readBars_146 (n : Nat) (Q : Mm → Prop) : Nat → Int32 → Int64 → Int32 → Int32 → Mm → Prop
  | 0, _, _, _, _, _ => False
  | k + 1, x1, x2, x5, x6, u0 =>
  (x5 ≤ x6 → w_X4_readBars_197 n u0 Q) ∧
  (¬ x5 ≤ x6 → (¬ (u0.1 33 6) = 0 → w_X4_readBars_197 n u0 Q) ∧
  ((u0.1 33 6) = 0 → w_X8_addMeasure n (u0.2.2 2) u0 (fun r1 u1 =>
  (¬ r1 = 0 → w_X8_spend n (u1.2.2 2) x2 u1 (fun u2 =>
  (w_X4_readBars_146 n Q k) x1 x2 x5 (x6 + (1 : Int32)) u2)) ∧
  (r1 = 0 → w_X5_fail n (2 : Int32) x1 u1 (fun u3 =>
  Q u3)))))
def w_X4_readBars_107 (n : Nat) (x1 : Int32) (x2 : Int64) (x4 : Int32) (t0 : Int32) (u0 : Mm) (Q : Mm → Prop) : Prop :=
  w_X6_put n x4 (3 : Int32) t0 u0 (fun u1 =>
  w_X6_setTicks n x4 (t0.toInt64 * x2) u1 (fun u2 =>
  w_X8_spend n (u2.2.2 2) x2 u2 (fun u3 =>
  (w_X4_readBars_146 n Q n) x1 x2 t0 (1 : Int32) u3)))
def w_X4_readBars_106 (n : Nat) (x1 : Int32) (x2 : Int64) (x4 : Int32) (u0 : Mm) (Q : Mm → Prop) : Prop :=
  w_X4_readBars_107 n x1 x2 x4 (1 : Int32) u0 Q
def w_X4_readBars (n : Nat) (u0 : Mm) (Q : Mm → Prop) : Prop :=
  ilet (u0.1 33 2) fun y1 =>
  w_X8_enterMeasure n (u0.2.2 2) u0 (fun r1 u1 =>
  (¬ r1 = 0 → w_X8_meterTicks n (u1.2.2 2) u1 (fun r2 u2 =>
  (0 ≤ (lg_cmp r2 (1 : Int64)) → w_X4_addThing n (3 : Int32) y1 u2 (fun r3 u3 =>
  mlet (setI u3 33 2 ((u3.1 33 2) + (1 : Int32))) fun u4 =>
  (¬ (u4.1 33 6) = 0 → w_X4_readBars_106 n y1 r2 r3 u4 Q) ∧
  ((u4.1 33 6) = 0 → w_X5_digitHere n u4 (fun r4 u5 =>
  (r4 = 0 → w_X4_readBars_106 n y1 r2 r3 u5 Q) ∧
  (¬ r4 = 0 → w_X5_number n (16 : Int32) (0 : Int32) u5 (fun r5 u6 =>
  w_X4_readBars_107 n y1 r2 r3 r5 u6 Q)))))) ∧
  (¬ 0 ≤ (lg_cmp r2 (1 : Int64)) → w_X5_fail n (1 : Int32) y1 u2 (fun u7 =>
  Q u7)))) ∧
  (r1 = 0 → w_X5_fail n (2 : Int32) y1 u1 (fun u8 =>
  Q u8)))
set_option maxRecDepth 20000 in
theorem s_X4_readBars_197 {g : Gb} (hg : xInj g) {n : Nat} {Q : Mm → Prop} {u0 : Mm} (h : w_X4_readBars_197 n  u0 Q) : xE g me_X4_readBars (pV g Q noT) 197 [(0, .ref (gR g 38))] [] u0 := by
  unfold w_X4_readBars_197 at h
  refine e_aload_n (k := 99) (i := 0) rfl rfl 0 rfl ?_
  refine e_getP (k := 100) rfl f_X4_48 rfl rfl (fun ty1 => ?_)
  refine e_callVv (k := 101) (q := (u0.2.2 2)) (As := []) (rest := []) rfl (c_X8_clearMarks (g := g) hg (n := n) ty1.2.2 h) m_X8_clearMarks i_X8_clearMarks l_X4_343 ty1.2.2 ⟨_, rfl, rfl⟩ rfl rfl (Nat.le_of_ble_eq_true rfl) ⟨by decide, by decide, rfl, rfl⟩ (fun _ h => h.elim) (fun u1 h => ?_)
  refine e_aload_n (k := 102) (i := 0) rfl rfl 0 rfl ?_
  refine e_getP (k := 103) rfl f_X4_48 rfl rfl (fun ty2 => ?_)
  refine e_callVv (k := 104) (q := (u1.2.2 2)) (As := []) (rest := []) rfl (c_X8_forgetLast (g := g) hg (n := n) ty2.2.2 h) m_X8_forgetLast i_X8_forgetLast l_X4_346 ty2.2.2 ⟨_, rfl, rfl⟩ rfl rfl (Nat.le_of_ble_eq_true rfl) ⟨by decide, by decide, rfl, rfl⟩ (fun _ h => h.elim) (fun u2 h => ?_)
  exact e_vret (k := 105) rfl rfl (Or.inl ⟨rfl, h⟩)
set_option maxRecDepth 20000 in
theorem s_X4_readBars_146 {g : Gb} (hg : xInj g) {n : Nat} {Q : Mm → Prop} : ∀ (k : Nat) (x1 : Int32) (x2 : Int64) (x5 : Int32) (x6 : Int32) (u0 : Mm), w_X4_readBars_146 n Q k x1 x2 x5 x6 u0 → xE g me_X4_readBars (pV g Q noT) 146 [(0, .ref (gR g 38)), (1, .int x1), (2, .long x2), (5, .int x5), (6, .int x6)] [] u0 := by
  intro k
  induction k with
  | zero => intro x1 x2 x5 x6 u0 h; exact h.elim
  | succ k ih =>
    intro x1 x2 x5 x6 u0 h
    unfold w_X4_readBars_146 at h
    refine e_iload (k := 76) (i := 6) rfl 4 rfl ?_
    refine e_iload (k := 77) (i := 5) rfl 3 rfl ?_
    refine e_icmp_ge (k := 78) (tgt := 197) rfl (by decide) (fun z => ?_) (fun z => ?_)
    · have h := h.1 z
      refine e_sub (lv' := [(0, .ref (gR g 38))]) [0] rfl ?_
      exact s_X4_readBars_197 hg h
    · have h := h.2 z
      refine e_aload_n (k := 79) (i := 0) rfl rfl 0 rfl ?_
      refine e_getC (k := 80) rfl f_X4_9 rfl rfl ?_
      refine e_getI (k := 81) rfl f_X4_78 rfl rfl ?_
      refine e_if_ne (k := 82) (tgt := 197) rfl (by decide) (fun z => ?_) (fun z => ?_)
      · have h := h.1 z
        refine e_sub (lv' := [(0, .ref (gR g 38))]) [0] rfl ?_
        exact s_X4_readBars_197 hg h
      · have h := h.2 z
        refine e_aload_n (k := 83) (i := 0) rfl rfl 0 rfl ?_
        refine e_getP (k := 84) rfl f_X4_48 rfl rfl (fun ty1 => ?_)
        refine e_callVi (k := 85) (q := (u0.2.2 2)) (As := []) (rest := []) rfl (c_X8_addMeasure (g := g) hg (n := n) ty1.2.2 h) m_X8_addMeasure i_X8_addMeasure l_X4_340 ty1.2.2 ⟨_, rfl, rfl⟩ rfl rfl (Nat.le_of_ble_eq_true rfl) ⟨by decide, by decide, rfl, rfl⟩ (fun _ h => h.elim) (fun r1 u1 h => ?_)
        refine e_if_ne (k := 86) (tgt := 183) rfl (by decide) (fun z => ?_) (fun z => ?_)
        · have h := h.1 z
          refine e_aload_n (k := 93) (i := 0) rfl rfl 0 rfl ?_
          refine e_getP (k := 94) rfl f_X4_48 rfl rfl (fun ty2 => ?_)
          refine e_lload_n (k := 95) (i := 2) rfl rfl 2 rfl ?_
          refine e_callVv (k := 96) (q := (u1.2.2 2)) (As := [.long x2]) (rest := []) rfl (c_X8_spend (g := g) hg (n := n) ty2.2.2 h) m_X8_spend i_X8_spend l_X4_328 ty2.2.2 ⟨_, rfl, rfl⟩ rfl rfl (Nat.le_of_ble_eq_true rfl) ⟨by decide, by decide, rfl, rfl⟩ (fun _ h => h.elim) (fun u2 h => ?_)
          refine e_iinc (k := 97) (i := 6) (j := 4) (v := (x6 + (1 : Int32))) (lv' := [(0, .ref (gR g 38)), (1, .int x1), (2, .long x2), (5, .int x5), (6, .int (x6 + (1 : Int32)))]) rfl rfl rfl (by decide) [1, 2, 3, 4, 0] rfl ?_
          refine e_goto (k := 98) (tgt := 146) rfl (by decide) ?_
          exact ih x1 x2 x5 (x6 + (1 : Int32)) u2 h
        · have h := h.2 z
          refine e_aload_n (k := 87) (i := 0) rfl rfl 0 rfl ?_
          refine e_getC (k := 88) rfl f_X4_9 rfl rfl ?_
          refine e_iconst (k := 89) (v := (2 : Int32)) rfl (by decide) ?_
          refine e_iload_n (k := 90) (i := 1) rfl rfl 1 rfl ?_
          refine e_callVv (k := 91) (q := 33) (As := [.int (2 : Int32), .int x1]) (rest := []) rfl (c_X5_fail (g := g) hg (n := n) h) m_X5_fail i_X5_fail l_X4_93 rfl ⟨_, rfl, rfl⟩ rfl rfl (Nat.le_of_ble_eq_true rfl) ⟨by decide, by decide, rfl, rfl⟩ (fun _ h => h.elim) (fun u3 h => ?_)
          exact e_vret (k := 92) rfl rfl (Or.inl ⟨rfl, h⟩)
set_option maxRecDepth 20000 in
theorem s_X4_readBars_107 {g : Gb} (hg : xInj g) {n : Nat} {Q : Mm → Prop} {x1 : Int32} {x2 : Int64} {x4 : Int32} {t0 : Int32} {u0 : Mm} (h : w_X4_readBars_107 n x1 x2 x4 t0 u0 Q) : xE g me_X4_readBars (pV g Q noT) 107 [(0, .ref (gR g 38)), (1, .int x1), (2, .long x2), (4, .int x4)] [.int t0] u0 := by
  unfold w_X4_readBars_107 at h
  refine e_istore (k := 55) (i := 5) (lv' := [(0, .ref (gR g 38)), (1, .int x1), (2, .long x2), (4, .int x4), (5, .int t0)]) rfl (by decide) [1, 2, 3, 4, 0] rfl ?_
  refine e_aload_n (k := 56) (i := 0) rfl rfl 0 rfl ?_
  refine e_getC (k := 57) rfl f_X4_29 rfl rfl ?_
  refine e_iload (k := 58) (i := 4) rfl 3 rfl ?_
  refine e_iconst (k := 59) (v := (3 : Int32)) rfl (by decide) ?_
  refine e_iload (k := 60) (i := 5) rfl 4 rfl ?_
  refine e_callVv (k := 61) (q := 36) (As := [.int x4, .int (3 : Int32), .int t0]) (rest := []) rfl (c_X6_put (g := g) hg (n := n) h) m_X6_put i_X6_put l_X4_180 rfl ⟨_, rfl, rfl⟩ rfl rfl (Nat.le_of_ble_eq_true rfl) ⟨by decide, by decide, rfl, rfl⟩ (fun _ h => h.elim) (fun u1 h => ?_)
  refine e_aload_n (k := 62) (i := 0) rfl rfl 0 rfl ?_
  refine e_getC (k := 63) rfl f_X4_29 rfl rfl ?_
  refine e_iload (k := 64) (i := 4) rfl 3 rfl ?_
  refine e_iload (k := 65) (i := 5) rfl 4 rfl ?_
  refine e_i2l (k := 66) rfl ?_
  refine e_lload_n (k := 67) (i := 2) rfl rfl 2 rfl ?_
  refine e_lmul (k := 68) rfl ?_
  refine e_callVv (k := 69) (q := 36) (As := [.int x4, .long (t0.toInt64 * x2)]) (rest := []) rfl (c_X6_setTicks (g := g) hg (n := n) h) m_X6_setTicks i_X6_setTicks l_X4_317 rfl ⟨_, rfl, rfl⟩ rfl rfl (Nat.le_of_ble_eq_true rfl) ⟨by decide, by decide, rfl, rfl⟩ (fun _ h => h.elim) (fun u2 h => ?_)
  refine e_aload_n (k := 70) (i := 0) rfl rfl 0 rfl ?_
  refine e_getP (k := 71) rfl f_X4_48 rfl rfl (fun ty1 => ?_)
  refine e_lload_n (k := 72) (i := 2) rfl rfl 2 rfl ?_
  refine e_callVv (k := 73) (q := (u2.2.2 2)) (As := [.long x2]) (rest := []) rfl (c_X8_spend (g := g) hg (n := n) ty1.2.2 h) m_X8_spend i_X8_spend l_X4_328 ty1.2.2 ⟨_, rfl, rfl⟩ rfl rfl (Nat.le_of_ble_eq_true rfl) ⟨by decide, by decide, rfl, rfl⟩ (fun _ h => h.elim) (fun u3 h => ?_)
  refine e_iconst (k := 74) (v := (1 : Int32)) rfl (by decide) ?_
  refine e_istore (k := 75) (i := 6) (lv' := [(0, .ref (gR g 38)), (1, .int x1), (2, .long x2), (4, .int x4), (5, .int t0), (6, .int (1 : Int32))]) rfl (by decide) [1, 2, 3, 4, 5, 0] rfl ?_
  refine e_sub (lv' := [(0, .ref (gR g 38)), (1, .int x1), (2, .long x2), (5, .int t0), (6, .int (1 : Int32))]) [0, 1, 2, 4, 5] rfl ?_
  exact s_X4_readBars_146 hg n x1 x2 t0 (1 : Int32) u3 h
set_option maxRecDepth 20000 in
theorem s_X4_readBars_106 {g : Gb} (hg : xInj g) {n : Nat} {Q : Mm → Prop} {x1 : Int32} {x2 : Int64} {x4 : Int32} {u0 : Mm} (h : w_X4_readBars_106 n x1 x2 x4 u0 Q) : xE g me_X4_readBars (pV g Q noT) 106 [(0, .ref (gR g 38)), (1, .int x1), (2, .long x2), (4, .int x4)] [] u0 := by
  unfold w_X4_readBars_106 at h
  refine e_iconst (k := 54) (v := (1 : Int32)) rfl (by decide) ?_
  exact s_X4_readBars_107 hg h
set_option maxRecDepth 20000 in
theorem c_X4_readBars {g : Gb} (hg : xInj g) {n : Nat} {u0 : Mm} {Q : Mm → Prop} (h : w_X4_readBars n u0 Q) : xMet (gL g) yX4_readBars (xws yX4_readBars cX4_readBars 7 none) (xRoom 4) (xPc g [.ref (gR g 38)] u0) (xQ g (pV g Q noT)) (xA g) := by
  refine xbody (il := il_X4_readBars) hg il_X4_readBars_ok m_X4_readBars (Nat.le_of_ble_eq_true rfl) ?_
  show xE g me_X4_readBars (pV g Q noT) 0 [(0, .ref (gR g 38))] [] u0
  unfold w_X4_readBars at h
  refine e_aload_n (k := 0) (i := 0) rfl rfl 0 rfl ?_
  refine e_getC (k := 1) rfl f_X4_9 rfl rfl ?_
  refine e_getI (k := 2) rfl f_X4_123 rfl rfl ?_
  refine e_ilet h (fun y1 h => ?_)
  refine e_istore_n (k := 3) (i := 1) (lv' := [(0, .ref (gR g 38)), (1, .int y1)]) rfl rfl (by decide) [1, 0] rfl ?_
  refine e_aload_n (k := 4) (i := 0) rfl rfl 0 rfl ?_
  refine e_getP (k := 5) rfl f_X4_48 rfl rfl (fun ty1 => ?_)
  refine e_callVi (k := 6) (q := (u0.2.2 2)) (As := []) (rest := []) rfl (c_X8_enterMeasure (g := g) hg (n := n) ty1.2.2 h) m_X8_enterMeasure i_X8_enterMeasure l_X4_252 ty1.2.2 ⟨_, rfl, rfl⟩ rfl rfl (Nat.le_of_ble_eq_true rfl) ⟨by decide, by decide, rfl, rfl⟩ (fun _ h => h.elim) (fun r1 u1 h => ?_)
  refine e_if_ne (k := 7) (tgt := 28) rfl (by decide) (fun z => ?_) (fun z => ?_)
  · have h := h.1 z
    refine e_aload_n (k := 14) (i := 0) rfl rfl 0 rfl ?_
    refine e_getP (k := 15) rfl f_X4_48 rfl rfl (fun ty2 => ?_)
    refine e_callVl (k := 16) (q := (u1.2.2 2)) (As := []) (rest := []) rfl (c_X8_meterTicks (g := g) hg (n := n) ty2.2.2 h) m_X8_meterTicks i_X8_meterTicks l_X4_336 ty2.2.2 ⟨_, rfl, rfl⟩ rfl rfl (Nat.le_of_ble_eq_true rfl) ⟨by decide, by decide, rfl, rfl⟩ (fun _ h => h.elim) (fun r2 u2 h => ?_)
    refine e_lstore_n (k := 17) (i := 2) (lv' := [(0, .ref (gR g 38)), (1, .int y1), (2, .long r2)]) rfl rfl (by decide) [1, 2, 0] rfl ?_
    refine e_lload_n (k := 18) (i := 2) rfl rfl 2 rfl ?_
    refine e_lconst (k := 19) (v := (1 : Int64)) rfl (by decide) ?_
    refine e_lcmp (k := 20) rfl ?_
    refine e_if_ge (k := 21) (tgt := 52) rfl (by decide) (fun z => ?_) (fun z => ?_)
    · have h := h.1 z
      refine e_aload_n (k := 28) (i := 0) rfl rfl 0 rfl ?_
      refine e_iconst (k := 29) (v := (3 : Int32)) rfl (by decide) ?_
      refine e_iload_n (k := 30) (i := 1) rfl rfl 1 rfl ?_
      refine e_callVi (k := 31) (q := 38) (As := [.int (3 : Int32), .int y1]) (rest := []) rfl (c_X4_addThing (g := g) hg (n := n) h) m_X4_addThing i_X4_addThing l_X4_177 rfl ⟨_, rfl, rfl⟩ rfl rfl (Nat.le_of_ble_eq_true rfl) ⟨by decide, by decide, rfl, rfl⟩ (fun _ h => h.elim) (fun r3 u3 h => ?_)
      refine e_istore (k := 32) (i := 4) (lv' := [(0, .ref (gR g 38)), (1, .int y1), (2, .long r2), (4, .int r3)]) rfl (by decide) [1, 2, 3, 0] rfl ?_
      refine e_aload_n (k := 33) (i := 0) rfl rfl 0 rfl ?_
      refine e_getC (k := 34) rfl f_X4_9 rfl rfl ?_
      refine e_dup (k := 35) rfl rfl ?_
      refine e_getI (k := 36) rfl f_X4_123 rfl rfl ?_
      refine e_iconst (k := 37) (v := (1 : Int32)) rfl (by decide) ?_
      refine e_iadd (k := 38) rfl ?_
      refine e_putI (k := 39) rfl fg_X4_123 rfl rfl ?_
      refine e_mlet h (fun u4 h => ?_)
      refine e_aload_n (k := 40) (i := 0) rfl rfl 0 rfl ?_
      refine e_getC (k := 41) rfl f_X4_9 rfl rfl ?_
      refine e_getI (k := 42) rfl f_X4_78 rfl rfl ?_
      refine e_if_ne (k := 43) (tgt := 106) rfl (by decide) (fun z => ?_) (fun z => ?_)
      · have h := h.1 z
        exact s_X4_readBars_106 hg h
      · have h := h.2 z
        refine e_aload_n (k := 44) (i := 0) rfl rfl 0 rfl ?_
        refine e_getC (k := 45) rfl f_X4_9 rfl rfl ?_
        refine e_callVi (k := 46) (q := 33) (As := []) (rest := []) rfl (c_X5_digitHere (g := g) hg (n := n) h) m_X5_digitHere i_X5_digitHere l_X4_310 rfl ⟨_, rfl, rfl⟩ rfl rfl (Nat.le_of_ble_eq_true rfl) ⟨by decide, by decide, rfl, rfl⟩ (fun _ h => h.elim) (fun r4 u5 h => ?_)
        refine e_if_eq (k := 47) (tgt := 106) rfl (by decide) (fun z => ?_) (fun z => ?_)
        · have h := h.1 z
          exact s_X4_readBars_106 hg h
        · have h := h.2 z
          refine e_aload_n (k := 48) (i := 0) rfl rfl 0 rfl ?_
          refine e_getC (k := 49) rfl f_X4_9 rfl rfl ?_
          refine e_bipush (k := 50) (v := (16 : Int32)) rfl (by decide) ?_
          refine e_iconst (k := 51) (v := (0 : Int32)) rfl (by decide) ?_
          refine e_callVi (k := 52) (q := 33) (As := [.int (16 : Int32), .int (0 : Int32)]) (rest := []) rfl (c_X5_number (g := g) hg (n := n) h) m_X5_number i_X5_number l_X4_133 rfl ⟨_, rfl, rfl⟩ rfl rfl (Nat.le_of_ble_eq_true rfl) ⟨by decide, by decide, rfl, rfl⟩ (fun _ h => h.elim) (fun r5 u6 h => ?_)
          refine e_goto (k := 53) (tgt := 107) rfl (by decide) ?_
          exact s_X4_readBars_107 hg h
    · have h := h.2 z
      refine e_aload_n (k := 22) (i := 0) rfl rfl 0 rfl ?_
      refine e_getC (k := 23) rfl f_X4_9 rfl rfl ?_
      refine e_iconst (k := 24) (v := (1 : Int32)) rfl (by decide) ?_
      refine e_iload_n (k := 25) (i := 1) rfl rfl 1 rfl ?_
      refine e_callVv (k := 26) (q := 33) (As := [.int (1 : Int32), .int y1]) (rest := []) rfl (c_X5_fail (g := g) hg (n := n) h) m_X5_fail i_X5_fail l_X4_93 rfl ⟨_, rfl, rfl⟩ rfl rfl (Nat.le_of_ble_eq_true rfl) ⟨by decide, by decide, rfl, rfl⟩ (fun _ h => h.elim) (fun u7 h => ?_)
      exact e_vret (k := 27) rfl rfl (Or.inl ⟨rfl, h⟩)
  · have h := h.2 z
    refine e_aload_n (k := 8) (i := 0) rfl rfl 0 rfl ?_
    refine e_getC (k := 9) rfl f_X4_9 rfl rfl ?_
    refine e_iconst (k := 10) (v := (2 : Int32)) rfl (by decide) ?_
    refine e_iload_n (k := 11) (i := 1) rfl rfl 1 rfl ?_
    refine e_callVv (k := 12) (q := 33) (As := [.int (2 : Int32), .int y1]) (rest := []) rfl (c_X5_fail (g := g) hg (n := n) h) m_X5_fail i_X5_fail l_X4_93 rfl ⟨_, rfl, rfl⟩ rfl rfl (Nat.le_of_ble_eq_true rfl) ⟨by decide, by decide, rfl, rfl⟩ (fun _ h => h.elim) (fun u8 h => ?_)
    exact e_vret (k := 13) rfl rfl (Or.inl ⟨rfl, h⟩)
def il_X4_readRest : List (Nat × Instr × Nat) := [(0, .aload_n 0, 1), (1, .getfield 48, 3), (4, .invokevirtual 252, 3), (7, .ifCond .ne 19, 3), (10, .aload_n 0, 1), (11, .getfield 9, 3), (14, .iconst 2, 1), (15, .aload_n 0, 1), (16, .getfield 9, 3), (19, .getfield 123, 3), (22, .invokevirtual 93, 3), (25, .return_, 1), (26, .aload_n 0, 1), (27, .aload_n 0, 1), (28, .getfield 9, 3), (31, .iconst 0, 1), (32, .invokevirtual 126, 3), (35, .bipush 122, 2), (37, .if_icmp .ne 7, 3), (40, .iconst 1, 1), (41, .goto 4, 3), (44, .iconst 2, 1), (45, .aload_n 0, 1), (46, .getfield 9, 3), (49, .getfield 123, 3), (52, .invokevirtual 177, 3), (55, .istore_n 1, 1), (56, .iload_n 1, 1), (57, .ifCond .ge 4, 3), (60, .return_, 1), (61, .aload_n 0, 1), (62, .getfield 9, 3), (65, .dup, 1), (66, .getfield 123, 3), (69, .iconst 1, 1), (70, .iadd, 1), (71, .putfield 123, 3), (74, .aload_n 0, 1), (75, .invokevirtual 262, 3), (78, .aload_n 0, 1), (79, .getfield 37, 3), (82, .iconst 0, 1), (83, .aload_n 0, 1), (84, .getfield 265, 3), (87, .iastore, 1), (88, .aload_n 0, 1), (89, .getfield 41, 3), (92, .iconst 0, 1), (93, .aload_n 0, 1), (94, .getfield 268, 3), (97, .iastore, 1), (98, .aload_n 0, 1), (99, .iload_n 1, 1), (100, .iconst 1, 1), (101, .iconst 1, 1), (102, .iconst 1, 1), (103, .invokevirtual 259, 3), (106, .return_, 1)]
set_option maxRecDepth 20000 in
theorem il_X4_readRest_ok : ∀ x ∈ il_X4_readRest, decode cX4_readRest x.1 = .ok x.2 := by decide +kernel
abbrev me_X4_readRest : Me := (RX4, il_X4_readRest, 2, none, xRoom 4, [])
def w_X4_readRest_45 (n : Nat) (t0 : Int32) (u0 : Mm) (Q : Mm → Prop) : Prop :=
  w_X4_addThing n t0 (u0.1 33 2) u0 (fun r1 u1 =>
  (0 ≤ r1 → mlet (setI u1 33 2 ((u1.1 33 2) + (1 : Int32))) fun u2 =>
  w_X4_readLength n u2 (fun u3 =>
  mlet (setI u3 64 (ix (0 : Int32)) (u3.1 38 7)) fun u4 =>
  mlet (setI u4 65 (ix (0 : Int32)) (u4.1 38 8)) fun u5 =>
  w_X4_finishTimed n r1 (1 : Int32) (1 : Int32) (1 : Int32) u5 (fun u6 =>
  Q u6))) ∧
  (¬ 0 ≤ r1 → Q u1))
def w_X4_readRest (n : Nat) (u0 : Mm) (Q : Mm → Prop) : Prop :=
  w_X8_enterMeasure n (u0.2.2 2) u0 (fun r1 u1 =>
  (¬ r1 = 0 → w_X5_peek n (0 : Int32) u1 (fun r2 u2 =>
  (¬ r2 = (122 : Int32) → w_X4_readRest_45 n (2 : Int32) u2 Q) ∧
  (r2 = (122 : Int32) → w_X4_readRest_45 n (1 : Int32) u2 Q))) ∧
  (r1 = 0 → w_X5_fail n (2 : Int32) (u1.1 33 2) u1 (fun u3 =>
  Q u3)))
set_option maxRecDepth 20000 in
theorem s_X4_readRest_45 {g : Gb} (hg : xInj g) {n : Nat} {Q : Mm → Prop} {t0 : Int32} {u0 : Mm} (h : w_X4_readRest_45 n t0 u0 Q) : xE g me_X4_readRest (pV g Q noT) 45 [(0, .ref (gR g 38))] [.int t0, .ref (gR g 38)] u0 := by
  unfold w_X4_readRest_45 at h
  refine e_aload_n (k := 22) (i := 0) rfl rfl 0 rfl ?_
  refine e_getC (k := 23) rfl f_X4_9 rfl rfl ?_
  refine e_getI (k := 24) rfl f_X4_123 rfl rfl ?_
  refine e_callVi (k := 25) (q := 38) (As := [.int t0, .int (u0.1 33 2)]) (rest := []) rfl (c_X4_addThing (g := g) hg (n := n) h) m_X4_addThing i_X4_addThing l_X4_177 rfl ⟨_, rfl, rfl⟩ rfl rfl (Nat.le_of_ble_eq_true rfl) ⟨by decide, by decide, rfl, rfl⟩ (fun _ h => h.elim) (fun r1 u1 h => ?_)
  refine e_istore_n (k := 26) (i := 1) (lv' := [(0, .ref (gR g 38)), (1, .int r1)]) rfl rfl (by decide) [1, 0] rfl ?_
  refine e_iload_n (k := 27) (i := 1) rfl rfl 1 rfl ?_
  refine e_if_ge (k := 28) (tgt := 61) rfl (by decide) (fun z => ?_) (fun z => ?_)
  · have h := h.1 z
    refine e_aload_n (k := 30) (i := 0) rfl rfl 0 rfl ?_
    refine e_getC (k := 31) rfl f_X4_9 rfl rfl ?_
    refine e_dup (k := 32) rfl rfl ?_
    refine e_getI (k := 33) rfl f_X4_123 rfl rfl ?_
    refine e_iconst (k := 34) (v := (1 : Int32)) rfl (by decide) ?_
    refine e_iadd (k := 35) rfl ?_
    refine e_putI (k := 36) rfl fg_X4_123 rfl rfl ?_
    refine e_mlet h (fun u2 h => ?_)
    refine e_aload_n (k := 37) (i := 0) rfl rfl 0 rfl ?_
    refine e_callVv (k := 38) (q := 38) (As := []) (rest := []) rfl (c_X4_readLength (g := g) hg (n := n) h) m_X4_readLength i_X4_readLength l_X4_262 rfl ⟨_, rfl, rfl⟩ rfl rfl (Nat.le_of_ble_eq_true rfl) ⟨by decide, by decide, rfl, rfl⟩ (fun _ h => h.elim) (fun u3 h => ?_)
    refine e_aload_n (k := 39) (i := 0) rfl rfl 0 rfl ?_
    refine e_getC (k := 40) rfl f_X4_37 rfl rfl ?_
    refine e_iconst (k := 41) (v := (0 : Int32)) rfl (by decide) ?_
    refine e_aload_n (k := 42) (i := 0) rfl rfl 0 rfl ?_
    refine e_getI (k := 43) rfl f_X4_265 rfl rfl ?_
    refine e_iast (k := 44) rfl rfl (by unfold vp_in; decide) ?_
    refine e_mlet h (fun u4 h => ?_)
    refine e_aload_n (k := 45) (i := 0) rfl rfl 0 rfl ?_
    refine e_getC (k := 46) rfl f_X4_41 rfl rfl ?_
    refine e_iconst (k := 47) (v := (0 : Int32)) rfl (by decide) ?_
    refine e_aload_n (k := 48) (i := 0) rfl rfl 0 rfl ?_
    refine e_getI (k := 49) rfl f_X4_268 rfl rfl ?_
    refine e_iast (k := 50) rfl rfl (by unfold vp_in; decide) ?_
    refine e_mlet h (fun u5 h => ?_)
    refine e_aload_n (k := 51) (i := 0) rfl rfl 0 rfl ?_
    refine e_iload_n (k := 52) (i := 1) rfl rfl 1 rfl ?_
    refine e_iconst (k := 53) (v := (1 : Int32)) rfl (by decide) ?_
    refine e_iconst (k := 54) (v := (1 : Int32)) rfl (by decide) ?_
    refine e_iconst (k := 55) (v := (1 : Int32)) rfl (by decide) ?_
    refine e_callVv (k := 56) (q := 38) (As := [.int r1, .int (1 : Int32), .int (1 : Int32), .int (1 : Int32)]) (rest := []) rfl (c_X4_finishTimed (g := g) hg (n := n) h) m_X4_finishTimed i_X4_finishTimed l_X4_259 rfl ⟨_, rfl, rfl⟩ rfl rfl (Nat.le_of_ble_eq_true rfl) ⟨by decide, by decide, rfl, rfl⟩ (fun _ h => h.elim) (fun u6 h => ?_)
    exact e_vret (k := 57) rfl rfl (Or.inl ⟨rfl, h⟩)
  · have h := h.2 z
    exact e_vret (k := 29) rfl rfl (Or.inl ⟨rfl, h⟩)
set_option maxRecDepth 20000 in
theorem c_X4_readRest {g : Gb} (hg : xInj g) {n : Nat} {u0 : Mm} {Q : Mm → Prop} (h : w_X4_readRest n u0 Q) : xMet (gL g) yX4_readRest (xws yX4_readRest cX4_readRest 2 none) (xRoom 4) (xPc g [.ref (gR g 38)] u0) (xQ g (pV g Q noT)) (xA g) := by
  refine xbody (il := il_X4_readRest) hg il_X4_readRest_ok m_X4_readRest (Nat.le_of_ble_eq_true rfl) ?_
  show xE g me_X4_readRest (pV g Q noT) 0 [(0, .ref (gR g 38))] [] u0
  unfold w_X4_readRest at h
  refine e_aload_n (k := 0) (i := 0) rfl rfl 0 rfl ?_
  refine e_getP (k := 1) rfl f_X4_48 rfl rfl (fun ty1 => ?_)
  refine e_callVi (k := 2) (q := (u0.2.2 2)) (As := []) (rest := []) rfl (c_X8_enterMeasure (g := g) hg (n := n) ty1.2.2 h) m_X8_enterMeasure i_X8_enterMeasure l_X4_252 ty1.2.2 ⟨_, rfl, rfl⟩ rfl rfl (Nat.le_of_ble_eq_true rfl) ⟨by decide, by decide, rfl, rfl⟩ (fun _ h => h.elim) (fun r1 u1 h => ?_)
  refine e_if_ne (k := 3) (tgt := 26) rfl (by decide) (fun z => ?_) (fun z => ?_)
  · have h := h.1 z
    refine e_aload_n (k := 12) (i := 0) rfl rfl 0 rfl ?_
    refine e_aload_n (k := 13) (i := 0) rfl rfl 0 rfl ?_
    refine e_getC (k := 14) rfl f_X4_9 rfl rfl ?_
    refine e_iconst (k := 15) (v := (0 : Int32)) rfl (by decide) ?_
    refine e_callVi (k := 16) (q := 33) (As := [.int (0 : Int32)]) (rest := [.ref (gR g 38)]) rfl (c_X5_peek (g := g) hg (n := n) h) m_X5_peek i_X5_peek l_X4_126 rfl ⟨_, rfl, rfl⟩ rfl rfl (Nat.le_of_ble_eq_true rfl) ⟨by decide, by decide, rfl, rfl⟩ (fun _ h => h.elim) (fun r2 u2 h => ?_)
    refine e_bipush (k := 17) (v := (122 : Int32)) rfl (by decide) ?_
    refine e_icmp_ne (k := 18) (tgt := 44) rfl (by decide) (fun z => ?_) (fun z => ?_)
    · have h := h.1 z
      refine e_iconst (k := 21) (v := (2 : Int32)) rfl (by decide) ?_
      exact s_X4_readRest_45 hg h
    · have h := h.2 z
      refine e_iconst (k := 19) (v := (1 : Int32)) rfl (by decide) ?_
      refine e_goto (k := 20) (tgt := 45) rfl (by decide) ?_
      exact s_X4_readRest_45 hg h
  · have h := h.2 z
    refine e_aload_n (k := 4) (i := 0) rfl rfl 0 rfl ?_
    refine e_getC (k := 5) rfl f_X4_9 rfl rfl ?_
    refine e_iconst (k := 6) (v := (2 : Int32)) rfl (by decide) ?_
    refine e_aload_n (k := 7) (i := 0) rfl rfl 0 rfl ?_
    refine e_getC (k := 8) rfl f_X4_9 rfl rfl ?_
    refine e_getI (k := 9) rfl f_X4_123 rfl rfl ?_
    refine e_callVv (k := 10) (q := 33) (As := [.int (2 : Int32), .int (u1.1 33 2)]) (rest := []) rfl (c_X5_fail (g := g) hg (n := n) h) m_X5_fail i_X5_fail l_X4_93 rfl ⟨_, rfl, rfl⟩ rfl rfl (Nat.le_of_ble_eq_true rfl) ⟨by decide, by decide, rfl, rfl⟩ (fun _ h => h.elim) (fun u3 h => ?_)
    exact e_vret (k := 11) rfl rfl (Or.inl ⟨rfl, h⟩)
def il_X4_readTuplet : List (Nat × Instr × Nat) := [(0, .aload_n 0, 1), (1, .getfield 9, 3), (4, .getfield 123, 3), (7, .istore_n 1, 1), (8, .aload_n 0, 1), (9, .getfield 9, 3), (12, .dup, 1), (13, .getfield 123, 3), (16, .iconst 1, 1), (17, .iadd, 1), (18, .putfield 123, 3), (21, .aload_n 0, 1), (22, .getfield 9, 3), (25, .iconst 0, 1), (26, .invokevirtual 126, 3), (29, .bipush 48, 2), (31, .isub, 1), (32, .istore_n 2, 1), (33, .iload_n 2, 1), (34, .iconst 2, 1), (35, .if_icmp .lt 9, 3), (38, .iload_n 2, 1), (39, .bipush 9, 2), (41, .if_icmp .le 19, 3), (44, .aload_n 0, 1), (45, .getfield 9, 3), (48, .iconst 1, 1), (49, .aload_n 0, 1), (50, .getfield 9, 3), (53, .getfield 123, 3), (56, .invokevirtual 93, 3), (59, .return_, 1), (60, .aload_n 0, 1), (61, .getfield 33, 3), (64, .getfield 108, 3), (67, .ifCond .le 13, 3), (70, .aload_n 0, 1), (71, .getfield 9, 3), (74, .iconst 5, 1), (75, .iload_n 1, 1), (76, .invokevirtual 93, 3), (79, .return_, 1), (80, .aload_n 0, 1), (81, .getfield 9, 3), (84, .dup, 1), (85, .getfield 123, 3), (88, .iconst 1, 1), (89, .iadd, 1), (90, .putfield 123, 3), (93, .aload_n 0, 1), (94, .iload_n 2, 1), (95, .invokevirtual 358, 3), (98, .istore_n 3, 1), (99, .iload_n 2, 1), (100, .istore 4, 2), (102, .aload_n 0, 1), (103, .getfield 9, 3), (106, .iconst 0, 1), (107, .invokevirtual 126, 3), (110, .bipush 58, 2), (112, .if_icmp .ne 66, 3), (115, .aload_n 0, 1), (116, .getfield 9, 3), (119, .dup, 1), (120, .getfield 123, 3), (123, .iconst 1, 1), (124, .iadd, 1), (125, .putfield 123, 3), (128, .aload_n 0, 1), (129, .iload_n 3, 1), (130, .invokevirtual 361, 3), (133, .istore_n 3, 1), (134, .aload_n 0, 1), (135, .getfield 9, 3), (138, .getfield 78, 3), (141, .ifCond .ne 37, 3), (144, .aload_n 0, 1), (145, .getfield 9, 3), (148, .iconst 0, 1), (149, .invokevirtual 126, 3), (152, .bipush 58, 2), (154, .if_icmp .ne 24, 3), (157, .aload_n 0, 1), (158, .getfield 9, 3), (161, .dup, 1), (162, .getfield 123, 3), (165, .iconst 1, 1), (166, .iadd, 1), (167, .putfield 123, 3), (170, .aload_n 0, 1), (171, .iload 4, 2), (173, .invokevirtual 361, 3), (176, .istore 4, 2), (178, .aload_n 0, 1), (179, .getfield 33, 3), (182, .iload_n 3, 1), (183, .iload_n 2, 1), (184, .iload 4, 2), (186, .invokevirtual 364, 3), (189, .return_, 1)]
set_option maxRecDepth 20000 in
theorem il_X4_readTuplet_ok : ∀ x ∈ il_X4_readTuplet, decode cX4_readTuplet x.1 = .ok x.2 := by decide +kernel
abbrev me_X4_readTuplet : Me := (RX4, il_X4_readTuplet, 5, none, xRoom 4, [])
def w_X4_readTuplet_178 (n : Nat) (x2 : Int32) (x3 : Int32) (x4 : Int32) (u0 : Mm) (Q : Mm → Prop) : Prop :=
  w_X2_beginTuplet n x3 x2 x4 u0 (fun u1 =>
  Q u1)
def w_X4_readTuplet_44 (n : Nat) (u0 : Mm) (Q : Mm → Prop) : Prop :=
  w_X5_fail n (1 : Int32) (u0.1 33 2) u0 (fun u1 =>
  Q u1)
def w_X4_readTuplet (n : Nat) (u0 : Mm) (Q : Mm → Prop) : Prop :=
  ilet (u0.1 33 2) fun y1 =>
  mlet (setI u0 33 2 ((u0.1 33 2) + (1 : Int32))) fun u1 =>
  w_X5_peek n (0 : Int32) u1 (fun r1 u2 =>
  ilet (r1 - (48 : Int32)) fun y2 =>
  (y2 < (2 : Int32) → w_X4_readTuplet_44 n u2 Q) ∧
  (¬ y2 < (2 : Int32) → (y2 ≤ (9 : Int32) → ((u2.1 39 3) ≤ 0 → mlet (setI u2 33 2 ((u2.1 33 2) + (1 : Int32))) fun u3 =>
  w_X4_usualNumber n y2 u3 (fun r2 u4 =>
  w_X5_peek n (0 : Int32) u4 (fun r3 u5 =>
  (¬ r3 = (58 : Int32) → w_X4_readTuplet_178 n y2 r2 y2 u5 Q) ∧
  (r3 = (58 : Int32) → mlet (setI u5 33 2 ((u5.1 33 2) + (1 : Int32))) fun u6 =>
  w_X4_readDigit n r2 u6 (fun r4 u7 =>
  (¬ (u7.1 33 6) = 0 → w_X4_readTuplet_178 n y2 r4 y2 u7 Q) ∧
  ((u7.1 33 6) = 0 → w_X5_peek n (0 : Int32) u7 (fun r5 u8 =>
  (¬ r5 = (58 : Int32) → w_X4_readTuplet_178 n y2 r4 y2 u8 Q) ∧
  (r5 = (58 : Int32) → mlet (setI u8 33 2 ((u8.1 33 2) + (1 : Int32))) fun u9 =>
  w_X4_readDigit n y2 u9 (fun r6 u10 =>
  w_X4_readTuplet_178 n y2 r4 r6 u10 Q))))))))) ∧
  (¬ (u2.1 39 3) ≤ 0 → w_X5_fail n (5 : Int32) y1 u2 (fun u11 =>
  Q u11))) ∧
  (¬ y2 ≤ (9 : Int32) → w_X4_readTuplet_44 n u2 Q)))
set_option maxRecDepth 20000 in
theorem s_X4_readTuplet_178 {g : Gb} (hg : xInj g) {n : Nat} {Q : Mm → Prop} {x2 : Int32} {x3 : Int32} {x4 : Int32} {u0 : Mm} (h : w_X4_readTuplet_178 n x2 x3 x4 u0 Q) : xE g me_X4_readTuplet (pV g Q noT) 178 [(0, .ref (gR g 38)), (2, .int x2), (3, .int x3), (4, .int x4)] [] u0 := by
  unfold w_X4_readTuplet_178 at h
  refine e_aload_n (k := 93) (i := 0) rfl rfl 0 rfl ?_
  refine e_getC (k := 94) rfl f_X4_33 rfl rfl ?_
  refine e_iload_n (k := 95) (i := 3) rfl rfl 2 rfl ?_
  refine e_iload_n (k := 96) (i := 2) rfl rfl 1 rfl ?_
  refine e_iload (k := 97) (i := 4) rfl 3 rfl ?_
  refine e_callVv (k := 98) (q := 39) (As := [.int x3, .int x2, .int x4]) (rest := []) rfl (c_X2_beginTuplet (g := g) hg (n := n) h) m_X2_beginTuplet i_X2_beginTuplet l_X4_364 rfl ⟨_, rfl, rfl⟩ rfl rfl (Nat.le_of_ble_eq_true rfl) ⟨by decide, by decide, rfl, rfl⟩ (fun _ h => h.elim) (fun u1 h => ?_)
  exact e_vret (k := 99) rfl rfl (Or.inl ⟨rfl, h⟩)
set_option maxRecDepth 20000 in
theorem s_X4_readTuplet_44 {g : Gb} (hg : xInj g) {n : Nat} {Q : Mm → Prop} {u0 : Mm} (h : w_X4_readTuplet_44 n  u0 Q) : xE g me_X4_readTuplet (pV g Q noT) 44 [(0, .ref (gR g 38))] [] u0 := by
  unfold w_X4_readTuplet_44 at h
  refine e_aload_n (k := 24) (i := 0) rfl rfl 0 rfl ?_
  refine e_getC (k := 25) rfl f_X4_9 rfl rfl ?_
  refine e_iconst (k := 26) (v := (1 : Int32)) rfl (by decide) ?_
  refine e_aload_n (k := 27) (i := 0) rfl rfl 0 rfl ?_
  refine e_getC (k := 28) rfl f_X4_9 rfl rfl ?_
  refine e_getI (k := 29) rfl f_X4_123 rfl rfl ?_
  refine e_callVv (k := 30) (q := 33) (As := [.int (1 : Int32), .int (u0.1 33 2)]) (rest := []) rfl (c_X5_fail (g := g) hg (n := n) h) m_X5_fail i_X5_fail l_X4_93 rfl ⟨_, rfl, rfl⟩ rfl rfl (Nat.le_of_ble_eq_true rfl) ⟨by decide, by decide, rfl, rfl⟩ (fun _ h => h.elim) (fun u1 h => ?_)
  exact e_vret (k := 31) rfl rfl (Or.inl ⟨rfl, h⟩)
set_option maxRecDepth 20000 in
theorem c_X4_readTuplet {g : Gb} (hg : xInj g) {n : Nat} {u0 : Mm} {Q : Mm → Prop} (h : w_X4_readTuplet n u0 Q) : xMet (gL g) yX4_readTuplet (xws yX4_readTuplet cX4_readTuplet 5 none) (xRoom 4) (xPc g [.ref (gR g 38)] u0) (xQ g (pV g Q noT)) (xA g) := by
  refine xbody (il := il_X4_readTuplet) hg il_X4_readTuplet_ok m_X4_readTuplet (Nat.le_of_ble_eq_true rfl) ?_
  show xE g me_X4_readTuplet (pV g Q noT) 0 [(0, .ref (gR g 38))] [] u0
  unfold w_X4_readTuplet at h
  refine e_aload_n (k := 0) (i := 0) rfl rfl 0 rfl ?_
  refine e_getC (k := 1) rfl f_X4_9 rfl rfl ?_
  refine e_getI (k := 2) rfl f_X4_123 rfl rfl ?_
  refine e_ilet h (fun y1 h => ?_)
  refine e_istore_n (k := 3) (i := 1) (lv' := [(0, .ref (gR g 38)), (1, .int y1)]) rfl rfl (by decide) [1, 0] rfl ?_
  refine e_aload_n (k := 4) (i := 0) rfl rfl 0 rfl ?_
  refine e_getC (k := 5) rfl f_X4_9 rfl rfl ?_
  refine e_dup (k := 6) rfl rfl ?_
  refine e_getI (k := 7) rfl f_X4_123 rfl rfl ?_
  refine e_iconst (k := 8) (v := (1 : Int32)) rfl (by decide) ?_
  refine e_iadd (k := 9) rfl ?_
  refine e_putI (k := 10) rfl fg_X4_123 rfl rfl ?_
  refine e_mlet h (fun u1 h => ?_)
  refine e_aload_n (k := 11) (i := 0) rfl rfl 0 rfl ?_
  refine e_getC (k := 12) rfl f_X4_9 rfl rfl ?_
  refine e_iconst (k := 13) (v := (0 : Int32)) rfl (by decide) ?_
  refine e_callVi (k := 14) (q := 33) (As := [.int (0 : Int32)]) (rest := []) rfl (c_X5_peek (g := g) hg (n := n) h) m_X5_peek i_X5_peek l_X4_126 rfl ⟨_, rfl, rfl⟩ rfl rfl (Nat.le_of_ble_eq_true rfl) ⟨by decide, by decide, rfl, rfl⟩ (fun _ h => h.elim) (fun r1 u2 h => ?_)
  refine e_bipush (k := 15) (v := (48 : Int32)) rfl (by decide) ?_
  refine e_isub (k := 16) rfl ?_
  refine e_ilet h (fun y2 h => ?_)
  refine e_istore_n (k := 17) (i := 2) (lv' := [(0, .ref (gR g 38)), (1, .int y1), (2, .int y2)]) rfl rfl (by decide) [1, 2, 0] rfl ?_
  refine e_iload_n (k := 18) (i := 2) rfl rfl 2 rfl ?_
  refine e_iconst (k := 19) (v := (2 : Int32)) rfl (by decide) ?_
  refine e_icmp_lt (k := 20) (tgt := 44) rfl (by decide) (fun z => ?_) (fun z => ?_)
  · have h := h.1 z
    refine e_sub (lv' := [(0, .ref (gR g 38))]) [0] rfl ?_
    exact s_X4_readTuplet_44 hg h
  · have h := h.2 z
    refine e_iload_n (k := 21) (i := 2) rfl rfl 2 rfl ?_
    refine e_bipush (k := 22) (v := (9 : Int32)) rfl (by decide) ?_
    refine e_icmp_le (k := 23) (tgt := 60) rfl (by decide) (fun z => ?_) (fun z => ?_)
    · have h := h.1 z
      refine e_aload_n (k := 32) (i := 0) rfl rfl 0 rfl ?_
      refine e_getC (k := 33) rfl f_X4_33 rfl rfl ?_
      refine e_getI (k := 34) rfl f_X4_108 rfl rfl ?_
      refine e_if_le (k := 35) (tgt := 80) rfl (by decide) (fun z => ?_) (fun z => ?_)
      · have h := h.1 z
        refine e_aload_n (k := 42) (i := 0) rfl rfl 0 rfl ?_
        refine e_getC (k := 43) rfl f_X4_9 rfl rfl ?_
        refine e_dup (k := 44) rfl rfl ?_
        refine e_getI (k := 45) rfl f_X4_123 rfl rfl ?_
        refine e_iconst (k := 46) (v := (1 : Int32)) rfl (by decide) ?_
        refine e_iadd (k := 47) rfl ?_
        refine e_putI (k := 48) rfl fg_X4_123 rfl rfl ?_
        refine e_mlet h (fun u3 h => ?_)
        refine e_aload_n (k := 49) (i := 0) rfl rfl 0 rfl ?_
        refine e_iload_n (k := 50) (i := 2) rfl rfl 2 rfl ?_
        refine e_callVi (k := 51) (q := 38) (As := [.int y2]) (rest := []) rfl (c_X4_usualNumber (g := g) hg (n := n) h) m_X4_usualNumber i_X4_usualNumber l_X4_358 rfl ⟨_, rfl, rfl⟩ rfl rfl (Nat.le_of_ble_eq_true rfl) ⟨by decide, by decide, rfl, rfl⟩ (fun _ h => h.elim) (fun r2 u4 h => ?_)
        refine e_istore_n (k := 52) (i := 3) (lv' := [(0, .ref (gR g 38)), (1, .int y1), (2, .int y2), (3, .int r2)]) rfl rfl (by decide) [1, 2, 3, 0] rfl ?_
        refine e_iload_n (k := 53) (i := 2) rfl rfl 2 rfl ?_
        refine e_istore (k := 54) (i := 4) (lv' := [(0, .ref (gR g 38)), (1, .int y1), (2, .int y2), (3, .int r2), (4, .int y2)]) rfl (by decide) [1, 2, 3, 4, 0] rfl ?_
        refine e_aload_n (k := 55) (i := 0) rfl rfl 0 rfl ?_
        refine e_getC (k := 56) rfl f_X4_9 rfl rfl ?_
        refine e_iconst (k := 57) (v := (0 : Int32)) rfl (by decide) ?_
        refine e_callVi (k := 58) (q := 33) (As := [.int (0 : Int32)]) (rest := []) rfl (c_X5_peek (g := g) hg (n := n) h) m_X5_peek i_X5_peek l_X4_126 rfl ⟨_, rfl, rfl⟩ rfl rfl (Nat.le_of_ble_eq_true rfl) ⟨by decide, by decide, rfl, rfl⟩ (fun _ h => h.elim) (fun r3 u5 h => ?_)
        refine e_bipush (k := 59) (v := (58 : Int32)) rfl (by decide) ?_
        refine e_icmp_ne (k := 60) (tgt := 178) rfl (by decide) (fun z => ?_) (fun z => ?_)
        · have h := h.1 z
          refine e_sub (lv' := [(0, .ref (gR g 38)), (2, .int y2), (3, .int r2), (4, .int y2)]) [0, 2, 3, 4] rfl ?_
          exact s_X4_readTuplet_178 hg h
        · have h := h.2 z
          refine e_aload_n (k := 61) (i := 0) rfl rfl 0 rfl ?_
          refine e_getC (k := 62) rfl f_X4_9 rfl rfl ?_
          refine e_dup (k := 63) rfl rfl ?_
          refine e_getI (k := 64) rfl f_X4_123 rfl rfl ?_
          refine e_iconst (k := 65) (v := (1 : Int32)) rfl (by decide) ?_
          refine e_iadd (k := 66) rfl ?_
          refine e_putI (k := 67) rfl fg_X4_123 rfl rfl ?_
          refine e_mlet h (fun u6 h => ?_)
          refine e_aload_n (k := 68) (i := 0) rfl rfl 0 rfl ?_
          refine e_iload_n (k := 69) (i := 3) rfl rfl 3 rfl ?_
          refine e_callVi (k := 70) (q := 38) (As := [.int r2]) (rest := []) rfl (c_X4_readDigit (g := g) hg (n := n) h) m_X4_readDigit i_X4_readDigit l_X4_361 rfl ⟨_, rfl, rfl⟩ rfl rfl (Nat.le_of_ble_eq_true rfl) ⟨by decide, by decide, rfl, rfl⟩ (fun _ h => h.elim) (fun r4 u7 h => ?_)
          refine e_istore_n (k := 71) (i := 3) (lv' := [(0, .ref (gR g 38)), (1, .int y1), (2, .int y2), (3, .int r4), (4, .int y2)]) rfl rfl (by decide) [1, 2, 3, 0, 4] rfl ?_
          refine e_aload_n (k := 72) (i := 0) rfl rfl 0 rfl ?_
          refine e_getC (k := 73) rfl f_X4_9 rfl rfl ?_
          refine e_getI (k := 74) rfl f_X4_78 rfl rfl ?_
          refine e_if_ne (k := 75) (tgt := 178) rfl (by decide) (fun z => ?_) (fun z => ?_)
          · have h := h.1 z
            refine e_sub (lv' := [(0, .ref (gR g 38)), (2, .int y2), (3, .int r4), (4, .int y2)]) [0, 2, 3, 4] rfl ?_
            exact s_X4_readTuplet_178 hg h
          · have h := h.2 z
            refine e_aload_n (k := 76) (i := 0) rfl rfl 0 rfl ?_
            refine e_getC (k := 77) rfl f_X4_9 rfl rfl ?_
            refine e_iconst (k := 78) (v := (0 : Int32)) rfl (by decide) ?_
            refine e_callVi (k := 79) (q := 33) (As := [.int (0 : Int32)]) (rest := []) rfl (c_X5_peek (g := g) hg (n := n) h) m_X5_peek i_X5_peek l_X4_126 rfl ⟨_, rfl, rfl⟩ rfl rfl (Nat.le_of_ble_eq_true rfl) ⟨by decide, by decide, rfl, rfl⟩ (fun _ h => h.elim) (fun r5 u8 h => ?_)
            refine e_bipush (k := 80) (v := (58 : Int32)) rfl (by decide) ?_
            refine e_icmp_ne (k := 81) (tgt := 178) rfl (by decide) (fun z => ?_) (fun z => ?_)
            · have h := h.1 z
              refine e_sub (lv' := [(0, .ref (gR g 38)), (2, .int y2), (3, .int r4), (4, .int y2)]) [0, 2, 3, 4] rfl ?_
              exact s_X4_readTuplet_178 hg h
            · have h := h.2 z
              refine e_aload_n (k := 82) (i := 0) rfl rfl 0 rfl ?_
              refine e_getC (k := 83) rfl f_X4_9 rfl rfl ?_
              refine e_dup (k := 84) rfl rfl ?_
              refine e_getI (k := 85) rfl f_X4_123 rfl rfl ?_
              refine e_iconst (k := 86) (v := (1 : Int32)) rfl (by decide) ?_
              refine e_iadd (k := 87) rfl ?_
              refine e_putI (k := 88) rfl fg_X4_123 rfl rfl ?_
              refine e_mlet h (fun u9 h => ?_)
              refine e_aload_n (k := 89) (i := 0) rfl rfl 0 rfl ?_
              refine e_iload (k := 90) (i := 4) rfl 4 rfl ?_
              refine e_callVi (k := 91) (q := 38) (As := [.int y2]) (rest := []) rfl (c_X4_readDigit (g := g) hg (n := n) h) m_X4_readDigit i_X4_readDigit l_X4_361 rfl ⟨_, rfl, rfl⟩ rfl rfl (Nat.le_of_ble_eq_true rfl) ⟨by decide, by decide, rfl, rfl⟩ (fun _ h => h.elim) (fun r6 u10 h => ?_)
              refine e_istore (k := 92) (i := 4) (lv' := [(0, .ref (gR g 38)), (1, .int y1), (2, .int y2), (3, .int r4), (4, .int r6)]) rfl (by decide) [1, 2, 3, 4, 0] rfl ?_
              refine e_sub (lv' := [(0, .ref (gR g 38)), (2, .int y2), (3, .int r4), (4, .int r6)]) [0, 2, 3, 4] rfl ?_
              exact s_X4_readTuplet_178 hg h
      · have h := h.2 z
        refine e_aload_n (k := 36) (i := 0) rfl rfl 0 rfl ?_
        refine e_getC (k := 37) rfl f_X4_9 rfl rfl ?_
        refine e_iconst (k := 38) (v := (5 : Int32)) rfl (by decide) ?_
        refine e_iload_n (k := 39) (i := 1) rfl rfl 1 rfl ?_
        refine e_callVv (k := 40) (q := 33) (As := [.int (5 : Int32), .int y1]) (rest := []) rfl (c_X5_fail (g := g) hg (n := n) h) m_X5_fail i_X5_fail l_X4_93 rfl ⟨_, rfl, rfl⟩ rfl rfl (Nat.le_of_ble_eq_true rfl) ⟨by decide, by decide, rfl, rfl⟩ (fun _ h => h.elim) (fun u11 h => ?_)
        exact e_vret (k := 41) rfl rfl (Or.inl ⟨rfl, h⟩)
    · have h := h.2 z
      refine e_sub (lv' := [(0, .ref (gR g 38))]) [0] rfl ?_
      exact s_X4_readTuplet_44 hg h
def il_X12_isWord : List (Nat × Instr × Nat) := [(0, .iconst 1, 1), (1, .istore_n 2, 1), (2, .iconst 0, 1), (3, .istore_n 3, 1), (4, .iload_n 3, 1), (5, .aload_n 1, 1), (6, .invokevirtual 186, 3), (9, .if_icmp .ge 37, 3), (12, .iload_n 2, 1), (13, .ifCond .eq 33, 3), (16, .aload_n 0, 1), (17, .aload_n 0, 1), (18, .getfield 138, 3), (21, .iload_n 3, 1), (22, .iadd, 1), (23, .invokevirtual 141, 3), (26, .aload_n 1, 1), (27, .iload_n 3, 1), (28, .invokevirtual 191, 3), (31, .if_icmp .ne 7, 3), (34, .iconst 1, 1), (35, .goto 4, 3), (38, .iconst 0, 1), (39, .istore_n 2, 1), (40, .iinc 3 1, 3), (43, .goto (-39), 3), (46, .iload_n 2, 1), (47, .ireturn, 1)]
set_option maxRecDepth 20000 in
theorem il_X12_isWord_ok : ∀ x ∈ il_X12_isWord, decode cX12_isWord x.1 = .ok x.2 := by decide +kernel
abbrev me_X12_isWord : Me := (RX12, il_X12_isWord, 4, (some .boolean), xRoom 5, [])
def w_X12_isWord_46 (n : Nat) (a0 : Nat) (x2 : Int32) (u0 : Mm) (Q : Int32 → Mm → Prop) (T : Mm → Prop) : Prop :=
  narrow .boolean (.int x2) = .int x2 ∧ Q x2 u0
def w_X12_isWord_39 (n : Nat) (a0 : Nat) (L4 : Int32 → Int32 → Mm → Prop) (x3 : Int32) (t0 : Int32) (u0 : Mm) (Q : Int32 → Mm → Prop) (T : Mm → Prop) : Prop :=
  L4 t0 (x3 + (1 : Int32)) u0
def w_X12_isWord_4 (n : Nat) (a0 : Nat) (Q : Int32 → Mm → Prop) (T : Mm → Prop) : Nat → Int32 → Int32 → Mm → Prop
  | 0, _, _, _ => False
  | k + 1, x2, x3, u0 =>
  w_J0_length_8abf5 n a0 u0 (fun r1 u1 =>
  (r1 ≤ x3 → w_X12_isWord_46 n a0 x2 u1 Q T) ∧
  (¬ r1 ≤ x3 → (x2 = 0 → w_X12_isWord_46 n a0 x2 u1 Q T) ∧
  (¬ x2 = 0 → w_X12_peek n ((u1.1 0 7) + x3) u1 (fun r2 u2 =>
  w_J0_charAt_5068e n a0 x3 u2 (fun r3 u3 =>
  (¬ r2 = r3 → w_X12_isWord_39 n a0 (w_X12_isWord_4 n a0 Q T k) x3 (0 : Int32) u3 Q T) ∧
  (r2 = r3 → w_X12_isWord_39 n a0 (w_X12_isWord_4 n a0 Q T k) x3 (1 : Int32) u3 Q T))) T)))
def w_X12_isWord (n : Nat) (a0 : Nat) (u0 : Mm) (Q : Int32 → Mm → Prop) (T : Mm → Prop) : Prop :=
  (w_X12_isWord_4 n a0 Q T n) (1 : Int32) (0 : Int32) u0
set_option maxRecDepth 20000 in
theorem s_X12_isWord_46 {g : Gb} (hg : xInj g) {n : Nat} {a0 : Nat} (ha0 : a0 < xtx.length) {Q : Int32 → Mm → Prop} {T : Mm → Prop} {x2 : Int32} {u0 : Mm} (h : w_X12_isWord_46 n a0 x2 u0 Q T) : xE g me_X12_isWord (pI g Q T) 46 [(2, .int x2)] [] u0 := by
  unfold w_X12_isWord_46 at h
  refine e_iload_n (k := 26) (i := 2) rfl rfl 0 rfl ?_
  exact e_zret (k := 27) rfl rfl h.1 (Or.inl ⟨_, rfl, h.2⟩)
set_option maxRecDepth 20000 in
theorem s_X12_isWord_39 {g : Gb} (hg : xInj g) {n : Nat} {a0 : Nat} (ha0 : a0 < xtx.length) {Q : Int32 → Mm → Prop} {T : Mm → Prop} {L4 : Int32 → Int32 → Mm → Prop} (hL4 : ∀ (x2 : Int32) (x3 : Int32) (u0 : Mm), L4 x2 x3 u0 → xE g me_X12_isWord (pI g Q T) 4 [(0, .ref (gR g 0)), (1, .ref (gK g a0)), (2, .int x2), (3, .int x3)] [] u0) {x3 : Int32} {t0 : Int32} {u0 : Mm} (h : w_X12_isWord_39 n a0 L4 x3 t0 u0 Q T) : xE g me_X12_isWord (pI g Q T) 39 [(0, .ref (gR g 0)), (1, .ref (gK g a0)), (3, .int x3)] [.int t0] u0 := by
  unfold w_X12_isWord_39 at h
  refine e_istore_n (k := 23) (i := 2) (lv' := [(0, .ref (gR g 0)), (1, .ref (gK g a0)), (2, .int t0), (3, .int x3)]) rfl rfl (by decide) [1, 2, 0, 3] rfl ?_
  refine e_iinc (k := 24) (i := 3) (j := 3) (v := (x3 + (1 : Int32))) (lv' := [(0, .ref (gR g 0)), (1, .ref (gK g a0)), (2, .int t0), (3, .int (x3 + (1 : Int32)))]) rfl rfl rfl (by decide) [1, 2, 3, 0] rfl ?_
  refine e_goto (k := 25) (tgt := 4) rfl (by decide) ?_
  exact hL4 t0 (x3 + (1 : Int32)) u0 h
set_option maxRecDepth 20000 in
theorem s_X12_isWord_4 {g : Gb} (hg : xInj g) {n : Nat} {a0 : Nat} (ha0 : a0 < xtx.length) {Q : Int32 → Mm → Prop} {T : Mm → Prop} : ∀ (k : Nat) (x2 : Int32) (x3 : Int32) (u0 : Mm), w_X12_isWord_4 n a0 Q T k x2 x3 u0 → xE g me_X12_isWord (pI g Q T) 4 [(0, .ref (gR g 0)), (1, .ref (gK g a0)), (2, .int x2), (3, .int x3)] [] u0 := by
  intro k
  induction k with
  | zero => intro x2 x3 u0 h; exact h.elim
  | succ k ih =>
    intro x2 x3 u0 h
    unfold w_X12_isWord_4 at h
    refine e_iload_n (k := 4) (i := 3) rfl rfl 3 rfl ?_
    refine e_aload_n (k := 5) (i := 1) rfl rfl 1 rfl ?_
    refine e_callKi (k := 6) (j := a0) (As := []) (rest := [.int x3]) rfl (c_J0_length_8abf5 (g := g) hg (n := n) ha0 h) m_J0_length_8abf5 i_J0_length_8abf5 l_X12_186 ha0 rfl rfl rfl (Nat.le_of_ble_eq_true rfl) ⟨by decide, by decide, rfl, rfl⟩ (fun r1 u1 h => ?_)
    refine e_icmp_ge (k := 7) (tgt := 46) rfl (by decide) (fun z => ?_) (fun z => ?_)
    · have h := h.1 z
      refine e_sub (lv' := [(2, .int x2)]) [2] rfl ?_
      exact s_X12_isWord_46 hg ha0 h
    · have h := h.2 z
      refine e_iload_n (k := 8) (i := 2) rfl rfl 2 rfl ?_
      refine e_if_eq (k := 9) (tgt := 46) rfl (by decide) (fun z => ?_) (fun z => ?_)
      · have h := h.1 z
        refine e_sub (lv' := [(2, .int x2)]) [2] rfl ?_
        exact s_X12_isWord_46 hg ha0 h
      · have h := h.2 z
        refine e_aload_n (k := 10) (i := 0) rfl rfl 0 rfl ?_
        refine e_aload_n (k := 11) (i := 0) rfl rfl 0 rfl ?_
        refine e_getI (k := 12) rfl f_X12_138 rfl rfl ?_
        refine e_iload_n (k := 13) (i := 3) rfl rfl 3 rfl ?_
        refine e_iadd (k := 14) rfl ?_
        refine e_callVi (k := 15) (q := 0) (As := [.int ((u1.1 0 7) + x3)]) (rest := []) rfl (c_X12_peek (g := g) hg (n := n) h) m_X12_peek i_X12_peek l_X12_141 rfl ⟨_, rfl, rfl⟩ rfl rfl (Nat.le_of_ble_eq_true rfl) ⟨by decide, by decide, rfl, rfl⟩ (fun _ h => ⟨fun _ z => (by cases z), Or.inr ⟨rfl, h⟩⟩) (fun r2 u2 h => ?_)
        refine e_aload_n (k := 16) (i := 1) rfl rfl 1 rfl ?_
        refine e_iload_n (k := 17) (i := 3) rfl rfl 3 rfl ?_
        refine e_callKi (k := 18) (j := a0) (As := [.int x3]) (rest := [.int r2]) rfl (c_J0_charAt_5068e (g := g) hg (n := n) ha0 h) m_J0_charAt_5068e i_J0_charAt_5068e l_X12_191 ha0 rfl rfl rfl (Nat.le_of_ble_eq_true rfl) ⟨by decide, by decide, rfl, rfl⟩ (fun r3 u3 h => ?_)
        refine e_icmp_ne (k := 19) (tgt := 38) rfl (by decide) (fun z => ?_) (fun z => ?_)
        · have h := h.1 z
          refine e_iconst (k := 22) (v := (0 : Int32)) rfl (by decide) ?_
          refine e_sub (lv' := [(0, .ref (gR g 0)), (1, .ref (gK g a0)), (3, .int x3)]) [0, 1, 3] rfl ?_
          exact s_X12_isWord_39 hg ha0 ih h
        · have h := h.2 z
          refine e_iconst (k := 20) (v := (1 : Int32)) rfl (by decide) ?_
          refine e_goto (k := 21) (tgt := 39) rfl (by decide) ?_
          refine e_sub (lv' := [(0, .ref (gR g 0)), (1, .ref (gK g a0)), (3, .int x3)]) [0, 1, 3] rfl ?_
          exact s_X12_isWord_39 hg ha0 ih h
set_option maxRecDepth 20000 in
theorem c_X12_isWord {g : Gb} (hg : xInj g) {n : Nat} {a0 : Nat} (ha0 : a0 < xtx.length) {u0 : Mm} {Q : Int32 → Mm → Prop} {T : Mm → Prop} (h : w_X12_isWord n a0 u0 Q T) : xMet (gL g) yX12_isWord (xws yX12_isWord cX12_isWord 4 (some .boolean)) (xRoom 5) (xPc g [.ref (gR g 0), .ref (gK g a0)] u0) (xQ g (pI g Q T)) (xA g) := by
  refine xbody (il := il_X12_isWord) hg il_X12_isWord_ok m_X12_isWord (Nat.le_of_ble_eq_true rfl) ?_
  show xE g me_X12_isWord (pI g Q T) 0 [(0, .ref (gR g 0)), (1, .ref (gK g a0))] [] u0
  unfold w_X12_isWord at h
  refine e_iconst (k := 0) (v := (1 : Int32)) rfl (by decide) ?_
  refine e_istore_n (k := 1) (i := 2) (lv' := [(0, .ref (gR g 0)), (1, .ref (gK g a0)), (2, .int (1 : Int32))]) rfl rfl (by decide) [1, 2, 0] rfl ?_
  refine e_iconst (k := 2) (v := (0 : Int32)) rfl (by decide) ?_
  refine e_istore_n (k := 3) (i := 3) (lv' := [(0, .ref (gR g 0)), (1, .ref (gK g a0)), (2, .int (1 : Int32)), (3, .int (0 : Int32))]) rfl rfl (by decide) [1, 2, 3, 0] rfl ?_
  exact s_X12_isWord_4 hg ha0 n (1 : Int32) (0 : Int32) u0 h
def il_X12_passHead : List (Nat × Instr × Nat) := [(0, .aload_n 0, 1), (1, .aload_n 0, 1), (2, .getfield 138, 3), (5, .iconst 2, 1), (6, .iadd, 1), (7, .putfield 138, 3), (10, .aload_n 0, 1), (11, .invokevirtual 241, 3), (14, .return_, 1)]
set_option maxRecDepth 20000 in
theorem il_X12_passHead_ok : ∀ x ∈ il_X12_passHead, decode cX12_passHead x.1 = .ok x.2 := by decide +kernel
abbrev me_X12_passHead : Me := (RX12, il_X12_passHead, 1, none, xRoom 5, [])
def w_X12_passHead (n : Nat) (u0 : Mm) (Q : Mm → Prop) (T : Mm → Prop) : Prop :=
  mlet (setI u0 0 7 ((u0.1 0 7) + (2 : Int32))) fun u1 =>
  w_X12_blanks n u1 (fun u2 =>
  Q u2) T
set_option maxRecDepth 20000 in
theorem c_X12_passHead {g : Gb} (hg : xInj g) {n : Nat} {u0 : Mm} {Q : Mm → Prop} {T : Mm → Prop} (h : w_X12_passHead n u0 Q T) : xMet (gL g) yX12_passHead (xws yX12_passHead cX12_passHead 1 none) (xRoom 5) (xPc g [.ref (gR g 0)] u0) (xQ g (pV g Q T)) (xA g) := by
  refine xbody (il := il_X12_passHead) hg il_X12_passHead_ok m_X12_passHead (Nat.le_of_ble_eq_true rfl) ?_
  show xE g me_X12_passHead (pV g Q T) 0 [(0, .ref (gR g 0))] [] u0
  unfold w_X12_passHead at h
  refine e_aload_n (k := 0) (i := 0) rfl rfl 0 rfl ?_
  refine e_aload_n (k := 1) (i := 0) rfl rfl 0 rfl ?_
  refine e_getI (k := 2) rfl f_X12_138 rfl rfl ?_
  refine e_iconst (k := 3) (v := (2 : Int32)) rfl (by decide) ?_
  refine e_iadd (k := 4) rfl ?_
  refine e_putI (k := 5) rfl fg_X12_138 rfl rfl ?_
  refine e_mlet h (fun u1 h => ?_)
  refine e_aload_n (k := 6) (i := 0) rfl rfl 0 rfl ?_
  refine e_callVv (k := 7) (q := 0) (As := []) (rest := []) rfl (c_X12_blanks (g := g) hg (n := n) h) m_X12_blanks i_X12_blanks l_X12_241 rfl ⟨_, rfl, rfl⟩ rfl rfl (Nat.le_of_ble_eq_true rfl) ⟨by decide, by decide, rfl, rfl⟩ (fun _ h => ⟨fun _ z => (by cases z), Or.inr ⟨rfl, h⟩⟩) (fun u2 h => ?_)
  exact e_vret (k := 8) rfl rfl (Or.inl ⟨rfl, h⟩)
def il_X12_readLength : List (Nat × Instr × Nat) := [(0, .aload_n 0, 1), (1, .iconst 1, 1), (2, .putfield 303, 3), (5, .aload_n 0, 1), (6, .iconst 1, 1), (7, .putfield 306, 3), (10, .aload_n 0, 1), (11, .invokevirtual 162, 3), (14, .invokestatic 182, 3), (17, .ifCond .eq 62, 3), (20, .aload_n 0, 1), (21, .aload_n 0, 1), (22, .iconst 1, 1), (23, .bipush 64, 2), (25, .aload_n 0, 1), (26, .getfield 138, 3), (29, .invokevirtual 207, 3), (32, .putfield 303, 3), (35, .aload_n 0, 1), (36, .bipush 47, 2), (38, .invokevirtual 166, 3), (41, .ifCond .eq 133, 3), (44, .aload_n 0, 1), (45, .dup, 1), (46, .getfield 138, 3), (49, .iconst 1, 1), (50, .iadd, 1), (51, .putfield 138, 3), (54, .aload_n 0, 1), (55, .aload_n 0, 1), (56, .invokevirtual 162, 3), (59, .invokestatic 182, 3), (62, .ifCond .eq 10, 3), (65, .aload_n 0, 1), (66, .invokevirtual 309, 3), (69, .goto 4, 3), (72, .iconst 2, 1), (73, .putfield 306, 3), (76, .goto 98, 3), (79, .aload_n 0, 1), (80, .bipush 47, 2), (82, .invokevirtual 166, 3), (85, .ifCond .eq 89, 3), (88, .aload_n 0, 1), (89, .dup, 1), (90, .getfield 138, 3), (93, .iconst 1, 1), (94, .iadd, 1), (95, .putfield 138, 3), (98, .aload_n 0, 1), (99, .invokevirtual 162, 3), (102, .invokestatic 182, 3), (105, .ifCond .eq 14, 3), (108, .aload_n 0, 1), (109, .aload_n 0, 1), (110, .invokevirtual 309, 3), (113, .putfield 306, 3), (116, .goto 58, 3), (119, .aload_n 0, 1), (120, .iconst 2, 1), (121, .putfield 306, 3), (124, .aload_n 0, 1), (125, .bipush 47, 2), (127, .invokevirtual 166, 3), (130, .ifCond .eq 44, 3), (133, .aload_n 0, 1), (134, .getfield 306, 3), (137, .bipush 64, 2), (139, .if_icmp .ne 12, 3), (142, .aload_n 0, 1), (143, .iconst 1, 1), (144, .aload_n 0, 1), (145, .getfield 138, 3), (148, .invokevirtual 148, 3), (151, .aload_n 0, 1), (152, .iconst 2, 1), (153, .aload_n 0, 1), (154, .getfield 306, 3), (157, .imul, 1), (158, .putfield 306, 3), (161, .aload_n 0, 1), (162, .dup, 1), (163, .getfield 138, 3), (166, .iconst 1, 1), (167, .iadd, 1), (168, .putfield 138, 3), (171, .goto (-47), 3), (174, .return_, 1)]
set_option maxRecDepth 20000 in
theorem il_X12_readLength_ok : ∀ x ∈ il_X12_readLength, decode cX12_readLength x.1 = .ok x.2 := by decide +kernel
abbrev me_X12_readLength : Me := (RX12, il_X12_readLength, 1, none, xRoom 5, [])
def w_X12_readLength_174 (n : Nat) (u0 : Mm) (Q : Mm → Prop) (T : Mm → Prop) : Prop :=
  Q u0
def w_X12_readLength_151 (n : Nat) (L124 : Mm → Prop) (u0 : Mm) (Q : Mm → Prop) (T : Mm → Prop) : Prop :=
  mlet (setI u0 0 53 ((2 : Int32) * (u0.1 0 53))) fun u1 =>
  mlet (setI u1 0 7 ((u1.1 0 7) + (1 : Int32))) fun u2 =>
  L124 u2
def w_X12_readLength_124 (n : Nat) (Q : Mm → Prop) (T : Mm → Prop) : Nat → Mm → Prop
  | 0, _ => False
  | k + 1, u0 =>
  w_X12_is n (47 : Int32) u0 (fun r1 u1 =>
  (r1 = 0 → w_X12_readLength_174 n u1 Q T) ∧
  (¬ r1 = 0 → (¬ (u1.1 0 53) = (64 : Int32) → w_X12_readLength_151 n (w_X12_readLength_124 n Q T k) u1 Q T) ∧
  ((u1.1 0 53) = (64 : Int32) → w_X12_fail n (1 : Int32) (u1.1 0 7) u1 (fun u2 =>
  w_X12_readLength_151 n (w_X12_readLength_124 n Q T k) u2 Q T) T))) T
def w_X12_readLength_73 (n : Nat) (t0 : Int32) (u0 : Mm) (Q : Mm → Prop) (T : Mm → Prop) : Prop :=
  mlet (setI u0 0 53 t0) fun u1 =>
  w_X12_readLength_174 n u1 Q T
def w_X12_readLength (n : Nat) (u0 : Mm) (Q : Mm → Prop) (T : Mm → Prop) : Prop :=
  mlet (setI u0 0 52 (1 : Int32)) fun u1 =>
  mlet (setI u1 0 53 (1 : Int32)) fun u2 =>
  w_X12_here n u2 (fun r1 u3 =>
  w_X12_isDigit n r1 u3 (fun r2 u4 =>
  (r2 = 0 → w_X12_is n (47 : Int32) u4 (fun r3 u5 =>
  (r3 = 0 → w_X12_readLength_174 n u5 Q T) ∧
  (¬ r3 = 0 → mlet (setI u5 0 7 ((u5.1 0 7) + (1 : Int32))) fun u6 =>
  w_X12_here n u6 (fun r4 u7 =>
  w_X12_isDigit n r4 u7 (fun r5 u8 =>
  (r5 = 0 → mlet (setI u8 0 53 (2 : Int32)) fun u9 =>
  (w_X12_readLength_124 n Q T n) u9) ∧
  (¬ r5 = 0 → w_X12_lowerLength n u8 (fun r6 u10 =>
  mlet (setI u10 0 53 r6) fun u11 =>
  w_X12_readLength_174 n u11 Q T) T)) T) T)) T) ∧
  (¬ r2 = 0 → w_X12_numberOf n (1 : Int32) (64 : Int32) (u4.1 0 7) u4 (fun r7 u12 =>
  mlet (setI u12 0 52 r7) fun u13 =>
  w_X12_is n (47 : Int32) u13 (fun r8 u14 =>
  (r8 = 0 → w_X12_readLength_174 n u14 Q T) ∧
  (¬ r8 = 0 → mlet (setI u14 0 7 ((u14.1 0 7) + (1 : Int32))) fun u15 =>
  w_X12_here n u15 (fun r9 u16 =>
  w_X12_isDigit n r9 u16 (fun r10 u17 =>
  (r10 = 0 → w_X12_readLength_73 n (2 : Int32) u17 Q T) ∧
  (¬ r10 = 0 → w_X12_lowerLength n u17 (fun r11 u18 =>
  w_X12_readLength_73 n r11 u18 Q T) T)) T) T)) T) T)) T) T
set_option maxRecDepth 20000 in
theorem s_X12_readLength_174 {g : Gb} (hg : xInj g) {n : Nat} {Q : Mm → Prop} {T : Mm → Prop} {u0 : Mm} (h : w_X12_readLength_174 n  u0 Q T) : xE g me_X12_readLength (pV g Q T) 174 [] [] u0 := by
  unfold w_X12_readLength_174 at h
  exact e_vret (k := 87) rfl rfl (Or.inl ⟨rfl, h⟩)
set_option maxRecDepth 20000 in
theorem s_X12_readLength_151 {g : Gb} (hg : xInj g) {n : Nat} {Q : Mm → Prop} {T : Mm → Prop} {L124 : Mm → Prop} (hL124 : ∀ (u0 : Mm), L124  u0 → xE g me_X12_readLength (pV g Q T) 124 [(0, .ref (gR g 0))] [] u0) {u0 : Mm} (h : w_X12_readLength_151 n L124  u0 Q T) : xE g me_X12_readLength (pV g Q T) 151 [(0, .ref (gR g 0))] [] u0 := by
  unfold w_X12_readLength_151 at h
  refine e_aload_n (k := 74) (i := 0) rfl rfl 0 rfl ?_
  refine e_iconst (k := 75) (v := (2 : Int32)) rfl (by decide) ?_
  refine e_aload_n (k := 76) (i := 0) rfl rfl 0 rfl ?_
  refine e_getI (k := 77) rfl f_X12_306 rfl rfl ?_
  refine e_imul (k := 78) rfl ?_
  refine e_putI (k := 79) rfl fg_X12_306 rfl rfl ?_
  refine e_mlet h (fun u1 h => ?_)
  refine e_aload_n (k := 80) (i := 0) rfl rfl 0 rfl ?_
  refine e_dup (k := 81) rfl rfl ?_
  refine e_getI (k := 82) rfl f_X12_138 rfl rfl ?_
  refine e_iconst (k := 83) (v := (1 : Int32)) rfl (by decide) ?_
  refine e_iadd (k := 84) rfl ?_
  refine e_putI (k := 85) rfl fg_X12_138 rfl rfl ?_
  refine e_mlet h (fun u2 h => ?_)
  refine e_goto (k := 86) (tgt := 124) rfl (by decide) ?_
  exact hL124 u2 h
set_option maxRecDepth 20000 in
theorem s_X12_readLength_124 {g : Gb} (hg : xInj g) {n : Nat} {Q : Mm → Prop} {T : Mm → Prop} : ∀ (k : Nat) (u0 : Mm), w_X12_readLength_124 n Q T k  u0 → xE g me_X12_readLength (pV g Q T) 124 [(0, .ref (gR g 0))] [] u0 := by
  intro k
  induction k with
  | zero => intro  u0 h; exact h.elim
  | succ k ih =>
    intro  u0 h
    unfold w_X12_readLength_124 at h
    refine e_aload_n (k := 61) (i := 0) rfl rfl 0 rfl ?_
    refine e_bipush (k := 62) (v := (47 : Int32)) rfl (by decide) ?_
    refine e_callVi (k := 63) (q := 0) (As := [.int (47 : Int32)]) (rest := []) rfl (c_X12_is (g := g) hg (n := n) h) m_X12_is i_X12_is l_X12_166 rfl ⟨_, rfl, rfl⟩ rfl rfl (Nat.le_of_ble_eq_true rfl) ⟨by decide, by decide, rfl, rfl⟩ (fun _ h => ⟨fun _ z => (by cases z), Or.inr ⟨rfl, h⟩⟩) (fun r1 u1 h => ?_)
    refine e_if_eq (k := 64) (tgt := 174) rfl (by decide) (fun z => ?_) (fun z => ?_)
    · have h := h.1 z
      refine e_sub (lv' := []) [] rfl ?_
      exact s_X12_readLength_174 hg h
    · have h := h.2 z
      refine e_aload_n (k := 65) (i := 0) rfl rfl 0 rfl ?_
      refine e_getI (k := 66) rfl f_X12_306 rfl rfl ?_
      refine e_bipush (k := 67) (v := (64 : Int32)) rfl (by decide) ?_
      refine e_icmp_ne (k := 68) (tgt := 151) rfl (by decide) (fun z => ?_) (fun z => ?_)
      · have h := h.1 z
        exact s_X12_readLength_151 hg ih h
      · have h := h.2 z
        refine e_aload_n (k := 69) (i := 0) rfl rfl 0 rfl ?_
        refine e_iconst (k := 70) (v := (1 : Int32)) rfl (by decide) ?_
        refine e_aload_n (k := 71) (i := 0) rfl rfl 0 rfl ?_
        refine e_getI (k := 72) rfl f_X12_138 rfl rfl ?_
        refine e_callVv (k := 73) (q := 0) (As := [.int (1 : Int32), .int (u1.1 0 7)]) (rest := []) rfl (c_X12_fail (g := g) hg (n := n) h) m_X12_fail i_X12_fail l_X12_148 rfl ⟨_, rfl, rfl⟩ rfl rfl (Nat.le_of_ble_eq_true rfl) ⟨by decide, by decide, rfl, rfl⟩ (fun _ h => ⟨fun _ z => (by cases z), Or.inr ⟨rfl, h⟩⟩) (fun u2 h => ?_)
        exact s_X12_readLength_151 hg ih h
set_option maxRecDepth 20000 in
theorem s_X12_readLength_73 {g : Gb} (hg : xInj g) {n : Nat} {Q : Mm → Prop} {T : Mm → Prop} {t0 : Int32} {u0 : Mm} (h : w_X12_readLength_73 n t0 u0 Q T) : xE g me_X12_readLength (pV g Q T) 73 [] [.int t0, .ref (gR g 0)] u0 := by
  unfold w_X12_readLength_73 at h
  refine e_putI (k := 37) rfl fg_X12_306 rfl rfl ?_
  refine e_mlet h (fun u1 h => ?_)
  refine e_goto (k := 38) (tgt := 174) rfl (by decide) ?_
  exact s_X12_readLength_174 hg h
set_option maxRecDepth 20000 in
theorem c_X12_readLength {g : Gb} (hg : xInj g) {n : Nat} {u0 : Mm} {Q : Mm → Prop} {T : Mm → Prop} (h : w_X12_readLength n u0 Q T) : xMet (gL g) yX12_readLength (xws yX12_readLength cX12_readLength 1 none) (xRoom 5) (xPc g [.ref (gR g 0)] u0) (xQ g (pV g Q T)) (xA g) := by
  refine xbody (il := il_X12_readLength) hg il_X12_readLength_ok m_X12_readLength (Nat.le_of_ble_eq_true rfl) ?_
  show xE g me_X12_readLength (pV g Q T) 0 [(0, .ref (gR g 0))] [] u0
  unfold w_X12_readLength at h
  refine e_aload_n (k := 0) (i := 0) rfl rfl 0 rfl ?_
  refine e_iconst (k := 1) (v := (1 : Int32)) rfl (by decide) ?_
  refine e_putI (k := 2) rfl fg_X12_303 rfl rfl ?_
  refine e_mlet h (fun u1 h => ?_)
  refine e_aload_n (k := 3) (i := 0) rfl rfl 0 rfl ?_
  refine e_iconst (k := 4) (v := (1 : Int32)) rfl (by decide) ?_
  refine e_putI (k := 5) rfl fg_X12_306 rfl rfl ?_
  refine e_mlet h (fun u2 h => ?_)
  refine e_aload_n (k := 6) (i := 0) rfl rfl 0 rfl ?_
  refine e_callVi (k := 7) (q := 0) (As := []) (rest := []) rfl (c_X12_here (g := g) hg (n := n) h) m_X12_here i_X12_here l_X12_162 rfl ⟨_, rfl, rfl⟩ rfl rfl (Nat.le_of_ble_eq_true rfl) ⟨by decide, by decide, rfl, rfl⟩ (fun _ h => ⟨fun _ z => (by cases z), Or.inr ⟨rfl, h⟩⟩) (fun r1 u3 h => ?_)
  refine e_callSi (k := 8) (As := [.int r1]) (rest := []) rfl (c_X12_isDigit (g := g) hg (n := n) h) m_X12_isDigit st_X12_isDigit l_X12_182 rfl rfl (Nat.le_of_ble_eq_true rfl) ⟨by decide, by decide, rfl, rfl⟩ (fun _ h => ⟨fun _ z => (by cases z), Or.inr ⟨rfl, h⟩⟩) (fun r2 u4 h => ?_)
  refine e_if_eq (k := 9) (tgt := 79) rfl (by decide) (fun z => ?_) (fun z => ?_)
  · have h := h.1 z
    refine e_aload_n (k := 39) (i := 0) rfl rfl 0 rfl ?_
    refine e_bipush (k := 40) (v := (47 : Int32)) rfl (by decide) ?_
    refine e_callVi (k := 41) (q := 0) (As := [.int (47 : Int32)]) (rest := []) rfl (c_X12_is (g := g) hg (n := n) h) m_X12_is i_X12_is l_X12_166 rfl ⟨_, rfl, rfl⟩ rfl rfl (Nat.le_of_ble_eq_true rfl) ⟨by decide, by decide, rfl, rfl⟩ (fun _ h => ⟨fun _ z => (by cases z), Or.inr ⟨rfl, h⟩⟩) (fun r3 u5 h => ?_)
    refine e_if_eq (k := 42) (tgt := 174) rfl (by decide) (fun z => ?_) (fun z => ?_)
    · have h := h.1 z
      refine e_sub (lv' := []) [] rfl ?_
      exact s_X12_readLength_174 hg h
    · have h := h.2 z
      refine e_aload_n (k := 43) (i := 0) rfl rfl 0 rfl ?_
      refine e_dup (k := 44) rfl rfl ?_
      refine e_getI (k := 45) rfl f_X12_138 rfl rfl ?_
      refine e_iconst (k := 46) (v := (1 : Int32)) rfl (by decide) ?_
      refine e_iadd (k := 47) rfl ?_
      refine e_putI (k := 48) rfl fg_X12_138 rfl rfl ?_
      refine e_mlet h (fun u6 h => ?_)
      refine e_aload_n (k := 49) (i := 0) rfl rfl 0 rfl ?_
      refine e_callVi (k := 50) (q := 0) (As := []) (rest := []) rfl (c_X12_here (g := g) hg (n := n) h) m_X12_here i_X12_here l_X12_162 rfl ⟨_, rfl, rfl⟩ rfl rfl (Nat.le_of_ble_eq_true rfl) ⟨by decide, by decide, rfl, rfl⟩ (fun _ h => ⟨fun _ z => (by cases z), Or.inr ⟨rfl, h⟩⟩) (fun r4 u7 h => ?_)
      refine e_callSi (k := 51) (As := [.int r4]) (rest := []) rfl (c_X12_isDigit (g := g) hg (n := n) h) m_X12_isDigit st_X12_isDigit l_X12_182 rfl rfl (Nat.le_of_ble_eq_true rfl) ⟨by decide, by decide, rfl, rfl⟩ (fun _ h => ⟨fun _ z => (by cases z), Or.inr ⟨rfl, h⟩⟩) (fun r5 u8 h => ?_)
      refine e_if_eq (k := 52) (tgt := 119) rfl (by decide) (fun z => ?_) (fun z => ?_)
      · have h := h.1 z
        refine e_aload_n (k := 58) (i := 0) rfl rfl 0 rfl ?_
        refine e_iconst (k := 59) (v := (2 : Int32)) rfl (by decide) ?_
        refine e_putI (k := 60) rfl fg_X12_306 rfl rfl ?_
        refine e_mlet h (fun u9 h => ?_)
        exact s_X12_readLength_124 hg n u9 h
      · have h := h.2 z
        refine e_aload_n (k := 53) (i := 0) rfl rfl 0 rfl ?_
        refine e_aload_n (k := 54) (i := 0) rfl rfl 0 rfl ?_
        refine e_callVi (k := 55) (q := 0) (As := []) (rest := [.ref (gR g 0)]) rfl (c_X12_lowerLength (g := g) hg (n := n) h) m_X12_lowerLength i_X12_lowerLength l_X12_309 rfl ⟨_, rfl, rfl⟩ rfl rfl (Nat.le_of_ble_eq_true rfl) ⟨by decide, by decide, rfl, rfl⟩ (fun _ h => ⟨fun _ z => (by cases z), Or.inr ⟨rfl, h⟩⟩) (fun r6 u10 h => ?_)
        refine e_putI (k := 56) rfl fg_X12_306 rfl rfl ?_
        refine e_mlet h (fun u11 h => ?_)
        refine e_goto (k := 57) (tgt := 174) rfl (by decide) ?_
        refine e_sub (lv' := []) [] rfl ?_
        exact s_X12_readLength_174 hg h
  · have h := h.2 z
    refine e_aload_n (k := 10) (i := 0) rfl rfl 0 rfl ?_
    refine e_aload_n (k := 11) (i := 0) rfl rfl 0 rfl ?_
    refine e_iconst (k := 12) (v := (1 : Int32)) rfl (by decide) ?_
    refine e_bipush (k := 13) (v := (64 : Int32)) rfl (by decide) ?_
    refine e_aload_n (k := 14) (i := 0) rfl rfl 0 rfl ?_
    refine e_getI (k := 15) rfl f_X12_138 rfl rfl ?_
    refine e_callVi (k := 16) (q := 0) (As := [.int (1 : Int32), .int (64 : Int32), .int (u4.1 0 7)]) (rest := [.ref (gR g 0)]) rfl (c_X12_numberOf (g := g) hg (n := n) h) m_X12_numberOf i_X12_numberOf l_X12_207 rfl ⟨_, rfl, rfl⟩ rfl rfl (Nat.le_of_ble_eq_true rfl) ⟨by decide, by decide, rfl, rfl⟩ (fun _ h => ⟨fun _ z => (by cases z), Or.inr ⟨rfl, h⟩⟩) (fun r7 u12 h => ?_)
    refine e_putI (k := 17) rfl fg_X12_303 rfl rfl ?_
    refine e_mlet h (fun u13 h => ?_)
    refine e_aload_n (k := 18) (i := 0) rfl rfl 0 rfl ?_
    refine e_bipush (k := 19) (v := (47 : Int32)) rfl (by decide) ?_
    refine e_callVi (k := 20) (q := 0) (As := [.int (47 : Int32)]) (rest := []) rfl (c_X12_is (g := g) hg (n := n) h) m_X12_is i_X12_is l_X12_166 rfl ⟨_, rfl, rfl⟩ rfl rfl (Nat.le_of_ble_eq_true rfl) ⟨by decide, by decide, rfl, rfl⟩ (fun _ h => ⟨fun _ z => (by cases z), Or.inr ⟨rfl, h⟩⟩) (fun r8 u14 h => ?_)
    refine e_if_eq (k := 21) (tgt := 174) rfl (by decide) (fun z => ?_) (fun z => ?_)
    · have h := h.1 z
      refine e_sub (lv' := []) [] rfl ?_
      exact s_X12_readLength_174 hg h
    · have h := h.2 z
      refine e_aload_n (k := 22) (i := 0) rfl rfl 0 rfl ?_
      refine e_dup (k := 23) rfl rfl ?_
      refine e_getI (k := 24) rfl f_X12_138 rfl rfl ?_
      refine e_iconst (k := 25) (v := (1 : Int32)) rfl (by decide) ?_
      refine e_iadd (k := 26) rfl ?_
      refine e_putI (k := 27) rfl fg_X12_138 rfl rfl ?_
      refine e_mlet h (fun u15 h => ?_)
      refine e_aload_n (k := 28) (i := 0) rfl rfl 0 rfl ?_
      refine e_aload_n (k := 29) (i := 0) rfl rfl 0 rfl ?_
      refine e_callVi (k := 30) (q := 0) (As := []) (rest := [.ref (gR g 0)]) rfl (c_X12_here (g := g) hg (n := n) h) m_X12_here i_X12_here l_X12_162 rfl ⟨_, rfl, rfl⟩ rfl rfl (Nat.le_of_ble_eq_true rfl) ⟨by decide, by decide, rfl, rfl⟩ (fun _ h => ⟨fun _ z => (by cases z), Or.inr ⟨rfl, h⟩⟩) (fun r9 u16 h => ?_)
      refine e_callSi (k := 31) (As := [.int r9]) (rest := [.ref (gR g 0)]) rfl (c_X12_isDigit (g := g) hg (n := n) h) m_X12_isDigit st_X12_isDigit l_X12_182 rfl rfl (Nat.le_of_ble_eq_true rfl) ⟨by decide, by decide, rfl, rfl⟩ (fun _ h => ⟨fun _ z => (by cases z), Or.inr ⟨rfl, h⟩⟩) (fun r10 u17 h => ?_)
      refine e_if_eq (k := 32) (tgt := 72) rfl (by decide) (fun z => ?_) (fun z => ?_)
      · have h := h.1 z
        refine e_iconst (k := 36) (v := (2 : Int32)) rfl (by decide) ?_
        refine e_sub (lv' := []) [] rfl ?_
        exact s_X12_readLength_73 hg h
      · have h := h.2 z
        refine e_aload_n (k := 33) (i := 0) rfl rfl 0 rfl ?_
        refine e_callVi (k := 34) (q := 0) (As := []) (rest := [.ref (gR g 0)]) rfl (c_X12_lowerLength (g := g) hg (n := n) h) m_X12_lowerLength i_X12_lowerLength l_X12_309 rfl ⟨_, rfl, rfl⟩ rfl rfl (Nat.le_of_ble_eq_true rfl) ⟨by decide, by decide, rfl, rfl⟩ (fun _ h => ⟨fun _ z => (by cases z), Or.inr ⟨rfl, h⟩⟩) (fun r11 u18 h => ?_)
        refine e_goto (k := 35) (tgt := 73) rfl (by decide) ?_
        refine e_sub (lv' := []) [] rfl ?_
        exact s_X12_readLength_73 hg h
def il_X12_readQuote : List (Nat × Instr × Nat) := [(0, .aload_n 0, 1), (1, .dup, 1), (2, .getfield 138, 3), (5, .iconst 1, 1), (6, .iadd, 1), (7, .putfield 138, 3), (10, .iconst 0, 1), (11, .istore_n 1, 1), (12, .aload_n 0, 1), (13, .getfield 138, 3), (16, .aload_n 0, 1), (17, .getfield 135, 3), (20, .if_icmp .ge 34, 3), (23, .aload_n 0, 1), (24, .bipush 34, 2), (26, .invokevirtual 166, 3), (29, .ifCond .ne 25, 3), (32, .iload_n 1, 1), (33, .bipush 20, 2), (35, .if_icmp .ge 19, 3), (38, .aload_n 0, 1), (39, .dup, 1), (40, .getfield 138, 3), (43, .iconst 1, 1), (44, .iadd, 1), (45, .putfield 138, 3), (48, .iinc 1 1, 3), (51, .goto (-39), 3), (54, .aload_n 0, 1), (55, .bipush 34, 2), (57, .invokevirtual 211, 3), (60, .aload_n 0, 1), (61, .dup, 1), (62, .getfield 413, 3), (65, .iconst 1, 1), (66, .iadd, 1), (67, .putfield 413, 3), (70, .return_, 1)]
set_option maxRecDepth 20000 in
theorem il_X12_readQuote_ok : ∀ x ∈ il_X12_readQuote, decode cX12_readQuote x.1 = .ok x.2 := by decide +kernel
abbrev me_X12_readQuote : Me := (RX12, il_X12_readQuote, 2, none, xRoom 5, [])
def w_X12_readQuote_54 (n : Nat) (u0 : Mm) (Q : Mm → Prop) (T : Mm → Prop) : Prop :=
  w_X12_must n (34 : Int32) u0 (fun u1 =>
  mlet (setI u1 0 43 ((u1.1 0 43) + (1 : Int32))) fun u2 =>
  Q u2) T
def w_X12_readQuote_12 (n : Nat) (Q : Mm → Prop) (T : Mm → Prop) : Nat → Int32 → Mm → Prop
  | 0, _, _ => False
  | k + 1, x1, u0 =>
  ((u0.1 0 9) ≤ (u0.1 0 7) → w_X12_readQuote_54 n u0 Q T) ∧
  (¬ (u0.1 0 9) ≤ (u0.1 0 7) → w_X12_is n (34 : Int32) u0 (fun r1 u1 =>
  (¬ r1 = 0 → w_X12_readQuote_54 n u1 Q T) ∧
  (r1 = 0 → ((20 : Int32) ≤ x1 → w_X12_readQuote_54 n u1 Q T) ∧
  (¬ (20 : Int32) ≤ x1 → mlet (setI u1 0 7 ((u1.1 0 7) + (1 : Int32))) fun u2 =>
  (w_X12_readQuote_12 n Q T k) (x1 + (1 : Int32)) u2))) T)
def w_X12_readQuote (n : Nat) (u0 : Mm) (Q : Mm → Prop) (T : Mm → Prop) : Prop :=
  mlet (setI u0 0 7 ((u0.1 0 7) + (1 : Int32))) fun u1 =>
  (w_X12_readQuote_12 n Q T n) (0 : Int32) u1
set_option maxRecDepth 20000 in
theorem s_X12_readQuote_54 {g : Gb} (hg : xInj g) {n : Nat} {Q : Mm → Prop} {T : Mm → Prop} {u0 : Mm} (h : w_X12_readQuote_54 n  u0 Q T) : xE g me_X12_readQuote (pV g Q T) 54 [(0, .ref (gR g 0))] [] u0 := by
  unfold w_X12_readQuote_54 at h
  refine e_aload_n (k := 28) (i := 0) rfl rfl 0 rfl ?_
  refine e_bipush (k := 29) (v := (34 : Int32)) rfl (by decide) ?_
  refine e_callVv (k := 30) (q := 0) (As := [.int (34 : Int32)]) (rest := []) rfl (c_X12_must (g := g) hg (n := n) h) m_X12_must i_X12_must l_X12_211 rfl ⟨_, rfl, rfl⟩ rfl rfl (Nat.le_of_ble_eq_true rfl) ⟨by decide, by decide, rfl, rfl⟩ (fun _ h => ⟨fun _ z => (by cases z), Or.inr ⟨rfl, h⟩⟩) (fun u1 h => ?_)
  refine e_aload_n (k := 31) (i := 0) rfl rfl 0 rfl ?_
  refine e_dup (k := 32) rfl rfl ?_
  refine e_getI (k := 33) rfl f_X12_413 rfl rfl ?_
  refine e_iconst (k := 34) (v := (1 : Int32)) rfl (by decide) ?_
  refine e_iadd (k := 35) rfl ?_
  refine e_putI (k := 36) rfl fg_X12_413 rfl rfl ?_
  refine e_mlet h (fun u2 h => ?_)
  exact e_vret (k := 37) rfl rfl (Or.inl ⟨rfl, h⟩)
set_option maxRecDepth 20000 in
theorem s_X12_readQuote_12 {g : Gb} (hg : xInj g) {n : Nat} {Q : Mm → Prop} {T : Mm → Prop} : ∀ (k : Nat) (x1 : Int32) (u0 : Mm), w_X12_readQuote_12 n Q T k x1 u0 → xE g me_X12_readQuote (pV g Q T) 12 [(0, .ref (gR g 0)), (1, .int x1)] [] u0 := by
  intro k
  induction k with
  | zero => intro x1 u0 h; exact h.elim
  | succ k ih =>
    intro x1 u0 h
    unfold w_X12_readQuote_12 at h
    refine e_aload_n (k := 8) (i := 0) rfl rfl 0 rfl ?_
    refine e_getI (k := 9) rfl f_X12_138 rfl rfl ?_
    refine e_aload_n (k := 10) (i := 0) rfl rfl 0 rfl ?_
    refine e_getI (k := 11) rfl f_X12_135 rfl rfl ?_
    refine e_icmp_ge (k := 12) (tgt := 54) rfl (by decide) (fun z => ?_) (fun z => ?_)
    · have h := h.1 z
      refine e_sub (lv' := [(0, .ref (gR g 0))]) [0] rfl ?_
      exact s_X12_readQuote_54 hg h
    · have h := h.2 z
      refine e_aload_n (k := 13) (i := 0) rfl rfl 0 rfl ?_
      refine e_bipush (k := 14) (v := (34 : Int32)) rfl (by decide) ?_
      refine e_callVi (k := 15) (q := 0) (As := [.int (34 : Int32)]) (rest := []) rfl (c_X12_is (g := g) hg (n := n) h) m_X12_is i_X12_is l_X12_166 rfl ⟨_, rfl, rfl⟩ rfl rfl (Nat.le_of_ble_eq_true rfl) ⟨by decide, by decide, rfl, rfl⟩ (fun _ h => ⟨fun _ z => (by cases z), Or.inr ⟨rfl, h⟩⟩) (fun r1 u1 h => ?_)
      refine e_if_ne (k := 16) (tgt := 54) rfl (by decide) (fun z => ?_) (fun z => ?_)
      · have h := h.1 z
        refine e_sub (lv' := [(0, .ref (gR g 0))]) [0] rfl ?_
        exact s_X12_readQuote_54 hg h
      · have h := h.2 z
        refine e_iload_n (k := 17) (i := 1) rfl rfl 1 rfl ?_
        refine e_bipush (k := 18) (v := (20 : Int32)) rfl (by decide) ?_
        refine e_icmp_ge (k := 19) (tgt := 54) rfl (by decide) (fun z => ?_) (fun z => ?_)
        · have h := h.1 z
          refine e_sub (lv' := [(0, .ref (gR g 0))]) [0] rfl ?_
          exact s_X12_readQuote_54 hg h
        · have h := h.2 z
          refine e_aload_n (k := 20) (i := 0) rfl rfl 0 rfl ?_
          refine e_dup (k := 21) rfl rfl ?_
          refine e_getI (k := 22) rfl f_X12_138 rfl rfl ?_
          refine e_iconst (k := 23) (v := (1 : Int32)) rfl (by decide) ?_
          refine e_iadd (k := 24) rfl ?_
          refine e_putI (k := 25) rfl fg_X12_138 rfl rfl ?_
          refine e_mlet h (fun u2 h => ?_)
          refine e_iinc (k := 26) (i := 1) (j := 1) (v := (x1 + (1 : Int32))) (lv' := [(0, .ref (gR g 0)), (1, .int (x1 + (1 : Int32)))]) rfl rfl rfl (by decide) [1, 0] rfl ?_
          refine e_goto (k := 27) (tgt := 12) rfl (by decide) ?_
          exact ih (x1 + (1 : Int32)) u2 h
set_option maxRecDepth 20000 in
theorem c_X12_readQuote {g : Gb} (hg : xInj g) {n : Nat} {u0 : Mm} {Q : Mm → Prop} {T : Mm → Prop} (h : w_X12_readQuote n u0 Q T) : xMet (gL g) yX12_readQuote (xws yX12_readQuote cX12_readQuote 2 none) (xRoom 5) (xPc g [.ref (gR g 0)] u0) (xQ g (pV g Q T)) (xA g) := by
  refine xbody (il := il_X12_readQuote) hg il_X12_readQuote_ok m_X12_readQuote (Nat.le_of_ble_eq_true rfl) ?_
  show xE g me_X12_readQuote (pV g Q T) 0 [(0, .ref (gR g 0))] [] u0
  unfold w_X12_readQuote at h
  refine e_aload_n (k := 0) (i := 0) rfl rfl 0 rfl ?_
  refine e_dup (k := 1) rfl rfl ?_
  refine e_getI (k := 2) rfl f_X12_138 rfl rfl ?_
  refine e_iconst (k := 3) (v := (1 : Int32)) rfl (by decide) ?_
  refine e_iadd (k := 4) rfl ?_
  refine e_putI (k := 5) rfl fg_X12_138 rfl rfl ?_
  refine e_mlet h (fun u1 h => ?_)
  refine e_iconst (k := 6) (v := (0 : Int32)) rfl (by decide) ?_
  refine e_istore_n (k := 7) (i := 1) (lv' := [(0, .ref (gR g 0)), (1, .int (0 : Int32))]) rfl rfl (by decide) [1, 0] rfl ?_
  exact s_X12_readQuote_12 hg n (0 : Int32) u1 h
def il_X12_readSay : List (Nat × Instr × Nat) := [(0, .aload_n 0, 1), (1, .dup, 1), (2, .getfield 138, 3), (5, .iconst 1, 1), (6, .iadd, 1), (7, .putfield 138, 3), (10, .iconst 0, 1), (11, .istore_n 1, 1), (12, .aload_n 0, 1), (13, .invokevirtual 162, 3), (16, .invokestatic 446, 3), (19, .ifCond .eq 25, 3), (22, .iload_n 1, 1), (23, .bipush 12, 2), (25, .if_icmp .ge 19, 3), (28, .aload_n 0, 1), (29, .dup, 1), (30, .getfield 138, 3), (33, .iconst 1, 1), (34, .iadd, 1), (35, .putfield 138, 3), (38, .iinc 1 1, 3), (41, .goto (-29), 3), (44, .iload_n 1, 1), (45, .ifCond .ne 12, 3), (48, .aload_n 0, 1), (49, .iconst 1, 1), (50, .aload_n 0, 1), (51, .getfield 138, 3), (54, .invokevirtual 148, 3), (57, .aload_n 0, 1), (58, .bipush 33, 2), (60, .invokevirtual 211, 3), (63, .aload_n 0, 1), (64, .dup, 1), (65, .getfield 413, 3), (68, .iconst 1, 1), (69, .iadd, 1), (70, .putfield 413, 3), (73, .return_, 1)]
set_option maxRecDepth 20000 in
theorem il_X12_readSay_ok : ∀ x ∈ il_X12_readSay, decode cX12_readSay x.1 = .ok x.2 := by decide +kernel
abbrev me_X12_readSay : Me := (RX12, il_X12_readSay, 2, none, xRoom 5, [])
def w_X12_readSay_57 (n : Nat) (u0 : Mm) (Q : Mm → Prop) (T : Mm → Prop) : Prop :=
  w_X12_must n (33 : Int32) u0 (fun u1 =>
  mlet (setI u1 0 43 ((u1.1 0 43) + (1 : Int32))) fun u2 =>
  Q u2) T
def w_X12_readSay_44 (n : Nat) (x1 : Int32) (u0 : Mm) (Q : Mm → Prop) (T : Mm → Prop) : Prop :=
  (¬ x1 = 0 → w_X12_readSay_57 n u0 Q T) ∧
  (x1 = 0 → w_X12_fail n (1 : Int32) (u0.1 0 7) u0 (fun u1 =>
  w_X12_readSay_57 n u1 Q T) T)
def w_X12_readSay_12 (n : Nat) (Q : Mm → Prop) (T : Mm → Prop) : Nat → Int32 → Mm → Prop
  | 0, _, _ => False
  | k + 1, x1, u0 =>
  w_X12_here n u0 (fun r1 u1 =>
  w_X12_isLetter n r1 u1 (fun r2 u2 =>
  (r2 = 0 → w_X12_readSay_44 n x1 u2 Q T) ∧
  (¬ r2 = 0 → ((12 : Int32) ≤ x1 → w_X12_readSay_44 n x1 u2 Q T) ∧
  (¬ (12 : Int32) ≤ x1 → mlet (setI u2 0 7 ((u2.1 0 7) + (1 : Int32))) fun u3 =>
  (w_X12_readSay_12 n Q T k) (x1 + (1 : Int32)) u3))) T) T
def w_X12_readSay (n : Nat) (u0 : Mm) (Q : Mm → Prop) (T : Mm → Prop) : Prop :=
  mlet (setI u0 0 7 ((u0.1 0 7) + (1 : Int32))) fun u1 =>
  (w_X12_readSay_12 n Q T n) (0 : Int32) u1
set_option maxRecDepth 20000 in
theorem s_X12_readSay_57 {g : Gb} (hg : xInj g) {n : Nat} {Q : Mm → Prop} {T : Mm → Prop} {u0 : Mm} (h : w_X12_readSay_57 n  u0 Q T) : xE g me_X12_readSay (pV g Q T) 57 [(0, .ref (gR g 0))] [] u0 := by
  unfold w_X12_readSay_57 at h
  refine e_aload_n (k := 30) (i := 0) rfl rfl 0 rfl ?_
  refine e_bipush (k := 31) (v := (33 : Int32)) rfl (by decide) ?_
  refine e_callVv (k := 32) (q := 0) (As := [.int (33 : Int32)]) (rest := []) rfl (c_X12_must (g := g) hg (n := n) h) m_X12_must i_X12_must l_X12_211 rfl ⟨_, rfl, rfl⟩ rfl rfl (Nat.le_of_ble_eq_true rfl) ⟨by decide, by decide, rfl, rfl⟩ (fun _ h => ⟨fun _ z => (by cases z), Or.inr ⟨rfl, h⟩⟩) (fun u1 h => ?_)
  refine e_aload_n (k := 33) (i := 0) rfl rfl 0 rfl ?_
  refine e_dup (k := 34) rfl rfl ?_
  refine e_getI (k := 35) rfl f_X12_413 rfl rfl ?_
  refine e_iconst (k := 36) (v := (1 : Int32)) rfl (by decide) ?_
  refine e_iadd (k := 37) rfl ?_
  refine e_putI (k := 38) rfl fg_X12_413 rfl rfl ?_
  refine e_mlet h (fun u2 h => ?_)
  exact e_vret (k := 39) rfl rfl (Or.inl ⟨rfl, h⟩)
set_option maxRecDepth 20000 in
theorem s_X12_readSay_44 {g : Gb} (hg : xInj g) {n : Nat} {Q : Mm → Prop} {T : Mm → Prop} {x1 : Int32} {u0 : Mm} (h : w_X12_readSay_44 n x1 u0 Q T) : xE g me_X12_readSay (pV g Q T) 44 [(0, .ref (gR g 0)), (1, .int x1)] [] u0 := by
  unfold w_X12_readSay_44 at h
  refine e_iload_n (k := 23) (i := 1) rfl rfl 1 rfl ?_
  refine e_if_ne (k := 24) (tgt := 57) rfl (by decide) (fun z => ?_) (fun z => ?_)
  · have h := h.1 z
    refine e_sub (lv' := [(0, .ref (gR g 0))]) [0] rfl ?_
    exact s_X12_readSay_57 hg h
  · have h := h.2 z
    refine e_aload_n (k := 25) (i := 0) rfl rfl 0 rfl ?_
    refine e_iconst (k := 26) (v := (1 : Int32)) rfl (by decide) ?_
    refine e_aload_n (k := 27) (i := 0) rfl rfl 0 rfl ?_
    refine e_getI (k := 28) rfl f_X12_138 rfl rfl ?_
    refine e_callVv (k := 29) (q := 0) (As := [.int (1 : Int32), .int (u0.1 0 7)]) (rest := []) rfl (c_X12_fail (g := g) hg (n := n) h) m_X12_fail i_X12_fail l_X12_148 rfl ⟨_, rfl, rfl⟩ rfl rfl (Nat.le_of_ble_eq_true rfl) ⟨by decide, by decide, rfl, rfl⟩ (fun _ h => ⟨fun _ z => (by cases z), Or.inr ⟨rfl, h⟩⟩) (fun u1 h => ?_)
    refine e_sub (lv' := [(0, .ref (gR g 0))]) [0] rfl ?_
    exact s_X12_readSay_57 hg h
set_option maxRecDepth 20000 in
theorem s_X12_readSay_12 {g : Gb} (hg : xInj g) {n : Nat} {Q : Mm → Prop} {T : Mm → Prop} : ∀ (k : Nat) (x1 : Int32) (u0 : Mm), w_X12_readSay_12 n Q T k x1 u0 → xE g me_X12_readSay (pV g Q T) 12 [(0, .ref (gR g 0)), (1, .int x1)] [] u0 := by
  intro k
  induction k with
  | zero => intro x1 u0 h; exact h.elim
  | succ k ih =>
    intro x1 u0 h
    unfold w_X12_readSay_12 at h
    refine e_aload_n (k := 8) (i := 0) rfl rfl 0 rfl ?_
    refine e_callVi (k := 9) (q := 0) (As := []) (rest := []) rfl (c_X12_here (g := g) hg (n := n) h) m_X12_here i_X12_here l_X12_162 rfl ⟨_, rfl, rfl⟩ rfl rfl (Nat.le_of_ble_eq_true rfl) ⟨by decide, by decide, rfl, rfl⟩ (fun _ h => ⟨fun _ z => (by cases z), Or.inr ⟨rfl, h⟩⟩) (fun r1 u1 h => ?_)
    refine e_callSi (k := 10) (As := [.int r1]) (rest := []) rfl (c_X12_isLetter (g := g) hg (n := n) h) m_X12_isLetter st_X12_isLetter l_X12_446 rfl rfl (Nat.le_of_ble_eq_true rfl) ⟨by decide, by decide, rfl, rfl⟩ (fun _ h => ⟨fun _ z => (by cases z), Or.inr ⟨rfl, h⟩⟩) (fun r2 u2 h => ?_)
    refine e_if_eq (k := 11) (tgt := 44) rfl (by decide) (fun z => ?_) (fun z => ?_)
    · have h := h.1 z
      exact s_X12_readSay_44 hg h
    · have h := h.2 z
      refine e_iload_n (k := 12) (i := 1) rfl rfl 1 rfl ?_
      refine e_bipush (k := 13) (v := (12 : Int32)) rfl (by decide) ?_
      refine e_icmp_ge (k := 14) (tgt := 44) rfl (by decide) (fun z => ?_) (fun z => ?_)
      · have h := h.1 z
        exact s_X12_readSay_44 hg h
      · have h := h.2 z
        refine e_aload_n (k := 15) (i := 0) rfl rfl 0 rfl ?_
        refine e_dup (k := 16) rfl rfl ?_
        refine e_getI (k := 17) rfl f_X12_138 rfl rfl ?_
        refine e_iconst (k := 18) (v := (1 : Int32)) rfl (by decide) ?_
        refine e_iadd (k := 19) rfl ?_
        refine e_putI (k := 20) rfl fg_X12_138 rfl rfl ?_
        refine e_mlet h (fun u3 h => ?_)
        refine e_iinc (k := 21) (i := 1) (j := 1) (v := (x1 + (1 : Int32))) (lv' := [(0, .ref (gR g 0)), (1, .int (x1 + (1 : Int32)))]) rfl rfl rfl (by decide) [1, 0] rfl ?_
        refine e_goto (k := 22) (tgt := 12) rfl (by decide) ?_
        exact ih (x1 + (1 : Int32)) u3 h
set_option maxRecDepth 20000 in
theorem c_X12_readSay {g : Gb} (hg : xInj g) {n : Nat} {u0 : Mm} {Q : Mm → Prop} {T : Mm → Prop} (h : w_X12_readSay n u0 Q T) : xMet (gL g) yX12_readSay (xws yX12_readSay cX12_readSay 2 none) (xRoom 5) (xPc g [.ref (gR g 0)] u0) (xQ g (pV g Q T)) (xA g) := by
  refine xbody (il := il_X12_readSay) hg il_X12_readSay_ok m_X12_readSay (Nat.le_of_ble_eq_true rfl) ?_
  show xE g me_X12_readSay (pV g Q T) 0 [(0, .ref (gR g 0))] [] u0
  unfold w_X12_readSay at h
  refine e_aload_n (k := 0) (i := 0) rfl rfl 0 rfl ?_
  refine e_dup (k := 1) rfl rfl ?_
  refine e_getI (k := 2) rfl f_X12_138 rfl rfl ?_
  refine e_iconst (k := 3) (v := (1 : Int32)) rfl (by decide) ?_
  refine e_iadd (k := 4) rfl ?_
  refine e_putI (k := 5) rfl fg_X12_138 rfl rfl ?_
  refine e_mlet h (fun u1 h => ?_)
  refine e_iconst (k := 6) (v := (0 : Int32)) rfl (by decide) ?_
  refine e_istore_n (k := 7) (i := 1) (lv' := [(0, .ref (gR g 0)), (1, .int (0 : Int32))]) rfl rfl (by decide) [1, 0] rfl ?_
  exact s_X12_readSay_12 hg n (0 : Int32) u1 h
