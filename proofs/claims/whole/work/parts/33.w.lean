/-! methods (by program) -/
def il_X12_readTimed : List (Nat × Instr × Nat) := [(0, .aload_n 0, 1), (1, .getfield 138, 3), (4, .istore_n 1, 1), (5, .aload_n 0, 1), (6, .getfield 283, 3), (9, .istore_n 2, 1), (10, .iconst 1, 1), (11, .istore_n 3, 1), (12, .aload_n 0, 1), (13, .iload_n 1, 1), (14, .invokevirtual 391, 3), (17, .aload_n 0, 1), (18, .bipush 91, 2), (20, .invokevirtual 166, 3), (23, .ifCond .eq 173, 3), (26, .aload_n 0, 1), (27, .dup, 1), (28, .getfield 138, 3), (31, .iconst 1, 1), (32, .iadd, 1), (33, .putfield 138, 3), (36, .iconst 0, 1), (37, .istore_n 3, 1), (38, .aload_n 0, 1), (39, .bipush 93, 2), (41, .invokevirtual 166, 3), (44, .ifCond .eq 7, 3), (47, .iload_n 3, 1), (48, .ifCond .ne 70, 3), (51, .iload_n 3, 1), (52, .bipush 12, 2), (54, .if_icmp .ne 19, 3), (57, .aload_n 0, 1), (58, .invokevirtual 384, 3), (61, .ifCond .eq 12, 3), (64, .aload_n 0, 1), (65, .iconst 2, 1), (66, .aload_n 0, 1), (67, .getfield 138, 3), (70, .invokevirtual 148, 3), (73, .aload_n 0, 1), (74, .invokevirtual 394, 3), (77, .aload_n 0, 1), (78, .iconst 0, 1), (79, .invokevirtual 397, 3), (82, .istore 4, 2), (84, .aload_n 0, 1), (85, .invokevirtual 400, 3), (88, .aload_n 0, 1), (89, .invokevirtual 403, 3), (92, .aload_n 0, 1), (93, .getfield 93, 3), (96, .iload_n 3, 1), (97, .aload_n 0, 1), (98, .getfield 303, 3), (101, .iastore, 1), (102, .aload_n 0, 1), (103, .getfield 96, 3), (106, .iload_n 3, 1), (107, .aload_n 0, 1), (108, .getfield 306, 3), (111, .iastore, 1), (112, .iinc 3 1, 3), (115, .goto (-77), 3), (118, .aload_n 0, 1), (119, .dup, 1), (120, .getfield 138, 3), (123, .iconst 1, 1), (124, .iadd, 1), (125, .putfield 138, 3), (128, .aload_n 0, 1), (129, .invokevirtual 403, 3), (132, .aload_n 0, 1), (133, .getfield 303, 3), (136, .istore 4, 2), (138, .aload_n 0, 1), (139, .getfield 306, 3), (142, .istore 5, 2), (144, .iconst 0, 1), (145, .istore 6, 2), (147, .iload 6, 2), (149, .iload_n 3, 1), (150, .if_icmp .ge 43, 3), (153, .aload_n 0, 1), (154, .getfield 93, 3), (157, .iload 6, 2), (159, .aload_n 0, 1), (160, .getfield 93, 3), (163, .iload 6, 2), (165, .iaload, 1), (166, .iload 4, 2), (168, .imul, 1), (169, .iastore, 1), (170, .aload_n 0, 1), (171, .getfield 96, 3), (174, .iload 6, 2), (176, .aload_n 0, 1), (177, .getfield 96, 3), (180, .iload 6, 2), (182, .iaload, 1), (183, .iload 5, 2), (185, .imul, 1), (186, .iastore, 1), (187, .iinc 6 1, 3), (190, .goto (-43), 3), (193, .goto 118, 3), (196, .aload_n 0, 1), (197, .bipush 122, 2), (199, .invokevirtual 166, 3), (202, .ifCond .ne 12, 3), (205, .aload_n 0, 1), (206, .bipush 120, 2), (208, .invokevirtual 166, 3), (211, .ifCond .eq 61, 3), (214, .aload_n 0, 1), (215, .aload_n 0, 1), (216, .bipush 122, 2), (218, .invokevirtual 166, 3), (221, .ifCond .eq 7, 3), (224, .iconst 1, 1), (225, .goto 4, 3), (228, .iconst 2, 1), (229, .iload_n 1, 1), (230, .invokevirtual 333, 3), (233, .istore 4, 2), (235, .aload_n 0, 1), (236, .dup, 1), (237, .getfield 138, 3), (240, .iconst 1, 1), (241, .iadd, 1), (242, .putfield 138, 3), (245, .aload_n 0, 1), (246, .invokevirtual 403, 3), (249, .aload_n 0, 1), (250, .getfield 93, 3), (253, .iconst 0, 1), (254, .aload_n 0, 1), (255, .getfield 303, 3), (258, .iastore, 1), (259, .aload_n 0, 1), (260, .getfield 96, 3), (263, .iconst 0, 1), (264, .aload_n 0, 1), (265, .getfield 306, 3), (268, .iastore, 1), (269, .goto 42, 3), (272, .aload_n 0, 1), (273, .invokevirtual 394, 3), (276, .aload_n 0, 1), (277, .iconst 0, 1), (278, .invokevirtual 397, 3), (281, .istore 4, 2), (283, .aload_n 0, 1), (284, .invokevirtual 400, 3), (287, .aload_n 0, 1), (288, .invokevirtual 403, 3), (291, .aload_n 0, 1), (292, .getfield 93, 3), (295, .iconst 0, 1), (296, .aload_n 0, 1), (297, .getfield 303, 3), (300, .iastore, 1), (301, .aload_n 0, 1), (302, .getfield 96, 3), (305, .iconst 0, 1), (306, .aload_n 0, 1), (307, .getfield 306, 3), (310, .iastore, 1), (311, .aload_n 0, 1), (312, .iload_n 2, 1), (313, .iconst 0, 1), (314, .invokevirtual 293, 3), (317, .ifCond .ne 7, 3), (320, .iconst 1, 1), (321, .goto 4, 3), (324, .iconst 0, 1), (325, .istore 4, 2), (327, .iload 4, 2), (329, .ifCond .eq 16, 3), (332, .aload_n 0, 1), (333, .bipush 45, 2), (335, .invokevirtual 166, 3), (338, .ifCond .eq 7, 3), (341, .iconst 1, 1), (342, .goto 4, 3), (345, .iconst 0, 1), (346, .istore 5, 2), (348, .aload_n 0, 1), (349, .aload_n 0, 1), (350, .getfield 138, 3), (353, .iload 5, 2), (355, .iadd, 1), (356, .putfield 138, 3), (359, .iconst 0, 1), (360, .istore 6, 2), (362, .iload 6, 2), (364, .iload_n 3, 1), (365, .if_icmp .ge 86, 3), (368, .iload_n 2, 1), (369, .iload 6, 2), (371, .iadd, 1), (372, .istore 7, 2), (374, .aload_n 0, 1), (375, .getfield 40, 3), (378, .iload 7, 2), (380, .aload_n 0, 1), (381, .aload_n 0, 1), (382, .getfield 93, 3), (385, .iload 6, 2), (387, .iaload, 1), (388, .aload_n 0, 1), (389, .getfield 96, 3), (392, .iload 6, 2), (394, .iaload, 1), (395, .aload_n 0, 1), (396, .iload 7, 2), (398, .bipush 16, 2), (400, .invokevirtual 293, 3), (403, .invokevirtual 406, 3), (406, .lastore, 1), (407, .aload_n 0, 1), (408, .iload 7, 2), (410, .bipush 8, 2), (412, .iload 5, 2), (414, .invokevirtual 286, 3), (417, .aload_n 0, 1), (418, .iload 7, 2), (420, .bipush 9, 2), (422, .iload 4, 2), (424, .ifCond .eq 7, 3), (427, .iload_n 3, 1), (428, .goto 4, 3), (431, .iconst 0, 1), (432, .invokevirtual 286, 3), (435, .aload_n 0, 1), (436, .iload 7, 2), (438, .bipush 10, 2), (440, .iload 6, 2), (442, .invokevirtual 286, 3), (445, .iinc 6 1, 3), (448, .goto (-86), 3), (451, .aload_n 0, 1), (452, .iload_n 2, 1), (453, .bipush 11, 2), (455, .aload_n 0, 1), (456, .getfield 410, 3), (459, .invokevirtual 286, 3), (462, .aload_n 0, 1), (463, .iload_n 2, 1), (464, .bipush 12, 2), (466, .aload_n 0, 1), (467, .getfield 413, 3), (470, .invokevirtual 286, 3), (473, .aload_n 0, 1), (474, .iload_n 2, 1), (475, .bipush 13, 2), (477, .aload_n 0, 1), (478, .getfield 416, 3), (481, .invokevirtual 286, 3), (484, .aload_n 0, 1), (485, .iconst 0, 1), (486, .putfield 410, 3), (489, .aload_n 0, 1), (490, .iconst 0, 1), (491, .putfield 413, 3), (494, .aload_n 0, 1), (495, .iconst 0, 1), (496, .putfield 416, 3), (499, .aload_n 0, 1), (500, .aload_n 0, 1), (501, .getfield 40, 3), (504, .iload_n 2, 1), (505, .laload, 1), (506, .invokevirtual 419, 3), (509, .aload_n 0, 1), (510, .getfield 90, 3), (513, .aload_n 0, 1), (514, .getfield 290, 3), (517, .iload_n 2, 1), (518, .iastore, 1), (519, .aload_n 0, 1), (520, .iload_n 2, 1), (521, .putfield 423, 3), (524, .aload_n 0, 1), (525, .aload_n 0, 1), (526, .getfield 350, 3), (529, .ifCond .le 12, 3), (532, .aload_n 0, 1), (533, .getfield 350, 3), (536, .iconst 1, 1), (537, .isub, 1), (538, .goto 4, 3), (541, .iconst 0, 1), (542, .putfield 350, 3), (545, .aload_n 0, 1), (546, .iconst 1, 1), (547, .putfield 359, 3), (550, .aload_n 0, 1), (551, .iconst 1, 1), (552, .putfield 362, 3), (555, .return_, 1)]
set_option maxRecDepth 20000 in
theorem il_X12_readTimed_ok : ∀ x ∈ il_X12_readTimed, decode cX12_readTimed x.1 = .ok x.2 := by decide +kernel
abbrev me_X12_readTimed : Me := (RX12, il_X12_readTimed, 8, none, xRoom 6, [])
def w_X12_readTimed_542 (n : Nat) (t0 : Int32) (u0 : Mm) (Q : Mm → Prop) (T : Mm → Prop) : Prop :=
  mlet (setI u0 0 46 t0) fun u1 =>
  mlet (setI u1 0 59 (1 : Int32)) fun u2 =>
  mlet (setI u2 0 60 (1 : Int32)) fun u3 =>
  Q u3
def w_X12_readTimed_432 (n : Nat) (L362 : Int32 → Int32 → Int32 → Int32 → Int32 → Mm → Prop) (x2 : Int32) (x3 : Int32) (x4 : Int32) (x5 : Int32) (x6 : Int32) (x7 : Int32) (t0 : Int32) (t1 : Int32) (t2 : Int32) (u0 : Mm) (Q : Mm → Prop) (T : Mm → Prop) : Prop :=
  w_X12_set n t2 t1 t0 u0 (fun u1 =>
  w_X12_set n x7 (10 : Int32) x6 u1 (fun u2 =>
  L362 x2 x3 x4 x5 (x6 + (1 : Int32)) u2) T) T
def w_X12_readTimed_362 (n : Nat) (Q : Mm → Prop) (T : Mm → Prop) : Nat → Int32 → Int32 → Int32 → Int32 → Int32 → Mm → Prop
  | 0, _, _, _, _, _, _ => False
  | k + 1, x2, x3, x4, x5, x6, u0 =>
  (x3 ≤ x6 → w_X12_set n x2 (11 : Int32) (u0.1 0 42) u0 (fun u1 =>
  w_X12_set n x2 (12 : Int32) (u1.1 0 43) u1 (fun u2 =>
  w_X12_set n x2 (13 : Int32) (u2.1 0 44) u2 (fun u3 =>
  mlet (setI u3 0 42 (0 : Int32)) fun u4 =>
  mlet (setI u4 0 43 (0 : Int32)) fun u5 =>
  mlet (setI u5 0 44 (0 : Int32)) fun u6 =>
  vp_in x2 400 ∧ (w_X12_addTime n (u6.2.1 7 (ix x2)) u6 (fun u7 =>
  vp_in (u7.1 0 28) 3 ∧ (mlet (setI u7 23 (ix (u7.1 0 28)) x2) fun u8 =>
  mlet (setI u8 0 49 x2) fun u9 =>
  ((u9.1 0 46) ≤ 0 → w_X12_readTimed_542 n (0 : Int32) u9 Q T) ∧
  (¬ (u9.1 0 46) ≤ 0 → w_X12_readTimed_542 n ((u9.1 0 46) - (1 : Int32)) u9 Q T))) T)) T) T) T) ∧
  (¬ x3 ≤ x6 → ilet (x2 + x6) fun y1 =>
  vp_in x6 12 ∧ (vp_in x6 12 ∧ (w_X12_get n y1 (16 : Int32) u0 (fun r1 u10 =>
  w_X12_timeOf n (u0.1 24 (ix x6)) (u0.1 25 (ix x6)) r1 u10 (fun r2 u11 =>
  vp_in y1 400 ∧ (mlet (setJ u11 7 (ix y1) r2) fun u12 =>
  w_X12_set n y1 (8 : Int32) x5 u12 (fun u13 =>
  (x4 = 0 → w_X12_readTimed_432 n (w_X12_readTimed_362 n Q T k) x2 x3 x4 x5 x6 y1 (0 : Int32) (9 : Int32) y1 u13 Q T) ∧
  (¬ x4 = 0 → w_X12_readTimed_432 n (w_X12_readTimed_362 n Q T k) x2 x3 x4 x5 x6 y1 x3 (9 : Int32) y1 u13 Q T)) T)) T) T)))
def w_X12_readTimed_346 (n : Nat) (x2 : Int32) (x3 : Int32) (x4 : Int32) (t0 : Int32) (u0 : Mm) (Q : Mm → Prop) (T : Mm → Prop) : Prop :=
  mlet (setI u0 0 7 ((u0.1 0 7) + t0)) fun u1 =>
  (w_X12_readTimed_362 n Q T n) x2 x3 x4 t0 (0 : Int32) u1
def w_X12_readTimed_345 (n : Nat) (x2 : Int32) (x3 : Int32) (x4 : Int32) (u0 : Mm) (Q : Mm → Prop) (T : Mm → Prop) : Prop :=
  w_X12_readTimed_346 n x2 x3 x4 (0 : Int32) u0 Q T
def w_X12_readTimed_325 (n : Nat) (x2 : Int32) (x3 : Int32) (t0 : Int32) (u0 : Mm) (Q : Mm → Prop) (T : Mm → Prop) : Prop :=
  (t0 = 0 → w_X12_readTimed_345 n x2 x3 t0 u0 Q T) ∧
  (¬ t0 = 0 → w_X12_is n (45 : Int32) u0 (fun r1 u1 =>
  (r1 = 0 → w_X12_readTimed_345 n x2 x3 t0 u1 Q T) ∧
  (¬ r1 = 0 → w_X12_readTimed_346 n x2 x3 t0 (1 : Int32) u1 Q T)) T)
def w_X12_readTimed_311 (n : Nat) (x2 : Int32) (x3 : Int32) (u0 : Mm) (Q : Mm → Prop) (T : Mm → Prop) : Prop :=
  w_X12_get n x2 (0 : Int32) u0 (fun r1 u1 =>
  (¬ r1 = 0 → w_X12_readTimed_325 n x2 x3 (0 : Int32) u1 Q T) ∧
  (r1 = 0 → w_X12_readTimed_325 n x2 x3 (1 : Int32) u1 Q T)) T
def w_X12_readTimed_229 (n : Nat) (x1 : Int32) (x2 : Int32) (x3 : Int32) (t0 : Int32) (u0 : Mm) (Q : Mm → Prop) (T : Mm → Prop) : Prop :=
  w_X12_newThing n t0 x1 u0 (fun r1 u1 =>
  mlet (setI u1 0 7 ((u1.1 0 7) + (1 : Int32))) fun u2 =>
  w_X12_readLength n u2 (fun u3 =>
  mlet (setI u3 24 (ix (0 : Int32)) (u3.1 0 52)) fun u4 =>
  mlet (setI u4 25 (ix (0 : Int32)) (u4.1 0 53)) fun u5 =>
  w_X12_readTimed_311 n x2 x3 u5 Q T) T) T
def w_X12_readTimed_214 (n : Nat) (x1 : Int32) (x2 : Int32) (x3 : Int32) (u0 : Mm) (Q : Mm → Prop) (T : Mm → Prop) : Prop :=
  w_X12_is n (122 : Int32) u0 (fun r1 u1 =>
  (r1 = 0 → w_X12_readTimed_229 n x1 x2 x3 (2 : Int32) u1 Q T) ∧
  (¬ r1 = 0 → w_X12_readTimed_229 n x1 x2 x3 (1 : Int32) u1 Q T)) T
def w_X12_readTimed_147 (n : Nat) (Q : Mm → Prop) (T : Mm → Prop) : Nat → Int32 → Int32 → Int32 → Int32 → Int32 → Mm → Prop
  | 0, _, _, _, _, _, _ => False
  | k + 1, x2, x3, x4, x5, x6, u0 =>
  (x3 ≤ x6 → w_X12_readTimed_311 n x2 x3 u0 Q T) ∧
  (¬ x3 ≤ x6 → vp_in x6 12 ∧ (vp_in x6 12 ∧ (mlet (setI u0 24 (ix x6) ((u0.1 24 (ix x6)) * x4)) fun u1 =>
  vp_in x6 12 ∧ (vp_in x6 12 ∧ (mlet (setI u1 25 (ix x6) ((u1.1 25 (ix x6)) * x5)) fun u2 =>
  (w_X12_readTimed_147 n Q T k) x2 x3 x4 x5 (x6 + (1 : Int32)) u2)))))
def w_X12_readTimed_73 (n : Nat) (L38 : Int32 → Int32 → Mm → Prop) (x2 : Int32) (x3 : Int32) (u0 : Mm) (Q : Mm → Prop) (T : Mm → Prop) : Prop :=
  w_X12_readNote n u0 (fun u1 =>
  w_X12_addNote n (0 : Int32) u1 (fun r1 u2 =>
  w_X12_rememberSign n u2 (fun u3 =>
  w_X12_readLength n u3 (fun u4 =>
  vp_in x3 12 ∧ (mlet (setI u4 24 (ix x3) (u4.1 0 52)) fun u5 =>
  vp_in x3 12 ∧ (mlet (setI u5 25 (ix x3) (u5.1 0 53)) fun u6 =>
  L38 x2 (x3 + (1 : Int32)) u6))) T) T) T) T
def w_X12_readTimed_51 (n : Nat) (L38 : Int32 → Int32 → Mm → Prop) (x2 : Int32) (x3 : Int32) (u0 : Mm) (Q : Mm → Prop) (T : Mm → Prop) : Prop :=
  (¬ x3 = (12 : Int32) → w_X12_readTimed_73 n L38 x2 x3 u0 Q T) ∧
  (x3 = (12 : Int32) → w_X12_beginsNote n u0 (fun r1 u1 =>
  (r1 = 0 → w_X12_readTimed_73 n L38 x2 x3 u1 Q T) ∧
  (¬ r1 = 0 → w_X12_fail n (2 : Int32) (u1.1 0 7) u1 (fun u2 =>
  w_X12_readTimed_73 n L38 x2 x3 u2 Q T) T)) T)
def w_X12_readTimed_38 (n : Nat) (Q : Mm → Prop) (T : Mm → Prop) : Nat → Int32 → Int32 → Mm → Prop
  | 0, _, _, _ => False
  | k + 1, x2, x3, u0 =>
  w_X12_is n (93 : Int32) u0 (fun r1 u1 =>
  (r1 = 0 → w_X12_readTimed_51 n (w_X12_readTimed_38 n Q T k) x2 x3 u1 Q T) ∧
  (¬ r1 = 0 → (¬ x3 = 0 → mlet (setI u1 0 7 ((u1.1 0 7) + (1 : Int32))) fun u2 =>
  w_X12_readLength n u2 (fun u3 =>
  ilet (u3.1 0 52) fun y1 =>
  ilet (u3.1 0 53) fun y2 =>
  (w_X12_readTimed_147 n Q T n) x2 x3 y1 y2 (0 : Int32) u3) T) ∧
  (x3 = 0 → w_X12_readTimed_51 n (w_X12_readTimed_38 n Q T k) x2 x3 u1 Q T))) T
def w_X12_readTimed (n : Nat) (u0 : Mm) (Q : Mm → Prop) (T : Mm → Prop) : Prop :=
  ilet (u0.1 0 7) fun y1 =>
  ilet (u0.1 0 27) fun y2 =>
  w_X12_beginMeasure n y1 u0 (fun u1 =>
  w_X12_is n (91 : Int32) u1 (fun r1 u2 =>
  (r1 = 0 → w_X12_is n (122 : Int32) u2 (fun r2 u3 =>
  (¬ r2 = 0 → w_X12_readTimed_214 n y1 y2 (1 : Int32) u3 Q T) ∧
  (r2 = 0 → w_X12_is n (120 : Int32) u3 (fun r3 u4 =>
  (r3 = 0 → w_X12_readNote n u4 (fun u5 =>
  w_X12_addNote n (0 : Int32) u5 (fun r4 u6 =>
  w_X12_rememberSign n u6 (fun u7 =>
  w_X12_readLength n u7 (fun u8 =>
  mlet (setI u8 24 (ix (0 : Int32)) (u8.1 0 52)) fun u9 =>
  mlet (setI u9 25 (ix (0 : Int32)) (u9.1 0 53)) fun u10 =>
  w_X12_readTimed_311 n y2 (1 : Int32) u10 Q T) T) T) T) T) ∧
  (¬ r3 = 0 → w_X12_readTimed_214 n y1 y2 (1 : Int32) u4 Q T)) T)) T) ∧
  (¬ r1 = 0 → mlet (setI u2 0 7 ((u2.1 0 7) + (1 : Int32))) fun u11 =>
  (w_X12_readTimed_38 n Q T n) y2 (0 : Int32) u11)) T) T
set_option maxRecDepth 20000 in
theorem s_X12_readTimed_542 {g : Gb} (hg : xInj g) {n : Nat} {Q : Mm → Prop} {T : Mm → Prop} {t0 : Int32} {u0 : Mm} (h : w_X12_readTimed_542 n t0 u0 Q T) : xE g me_X12_readTimed (pV g Q T) 542 [(0, .ref (gR g 0))] [.int t0, .ref (gR g 0)] u0 := by
  unfold w_X12_readTimed_542 at h
  refine e_putI (k := 293) rfl fg_X12_350 rfl rfl ?_
  refine e_mlet h (fun u1 h => ?_)
  refine e_aload_n (k := 294) (i := 0) rfl rfl 0 rfl ?_
  refine e_iconst (k := 295) (v := (1 : Int32)) rfl (by decide) ?_
  refine e_putI (k := 296) rfl fg_X12_359 rfl rfl ?_
  refine e_mlet h (fun u2 h => ?_)
  refine e_aload_n (k := 297) (i := 0) rfl rfl 0 rfl ?_
  refine e_iconst (k := 298) (v := (1 : Int32)) rfl (by decide) ?_
  refine e_putI (k := 299) rfl fg_X12_362 rfl rfl ?_
  refine e_mlet h (fun u3 h => ?_)
  exact e_vret (k := 300) rfl rfl (Or.inl ⟨rfl, h⟩)
set_option maxRecDepth 20000 in
theorem s_X12_readTimed_432 {g : Gb} (hg : xInj g) {n : Nat} {Q : Mm → Prop} {T : Mm → Prop} {L362 : Int32 → Int32 → Int32 → Int32 → Int32 → Mm → Prop} (hL362 : ∀ (x2 : Int32) (x3 : Int32) (x4 : Int32) (x5 : Int32) (x6 : Int32) (u0 : Mm), L362 x2 x3 x4 x5 x6 u0 → xE g me_X12_readTimed (pV g Q T) 362 [(0, .ref (gR g 0)), (2, .int x2), (3, .int x3), (4, .int x4), (5, .int x5), (6, .int x6)] [] u0) {x2 : Int32} {x3 : Int32} {x4 : Int32} {x5 : Int32} {x6 : Int32} {x7 : Int32} {t0 : Int32} {t1 : Int32} {t2 : Int32} {u0 : Mm} (h : w_X12_readTimed_432 n L362 x2 x3 x4 x5 x6 x7 t0 t1 t2 u0 Q T) : xE g me_X12_readTimed (pV g Q T) 432 [(0, .ref (gR g 0)), (2, .int x2), (3, .int x3), (4, .int x4), (5, .int x5), (6, .int x6), (7, .int x7)] [.int t0, .int t1, .int t2, .ref (gR g 0)] u0 := by
  unfold w_X12_readTimed_432 at h
  refine e_callVv (k := 233) (q := 0) (As := [.int t2, .int t1, .int t0]) (rest := []) rfl (c_X12_set (g := g) hg (n := n) h) m_X12_set i_X12_set l_X12_286 rfl ⟨_, rfl, rfl⟩ rfl rfl (Nat.le_of_ble_eq_true rfl) ⟨by decide, by decide, rfl, rfl⟩ (fun _ h => ⟨fun _ z => (by cases z), Or.inr ⟨rfl, h⟩⟩) (fun u1 h => ?_)
  refine e_aload_n (k := 234) (i := 0) rfl rfl 0 rfl ?_
  refine e_iload (k := 235) (i := 7) rfl 6 rfl ?_
  refine e_bipush (k := 236) (v := (10 : Int32)) rfl (by decide) ?_
  refine e_iload (k := 237) (i := 6) rfl 5 rfl ?_
  refine e_callVv (k := 238) (q := 0) (As := [.int x7, .int (10 : Int32), .int x6]) (rest := []) rfl (c_X12_set (g := g) hg (n := n) h) m_X12_set i_X12_set l_X12_286 rfl ⟨_, rfl, rfl⟩ rfl rfl (Nat.le_of_ble_eq_true rfl) ⟨by decide, by decide, rfl, rfl⟩ (fun _ h => ⟨fun _ z => (by cases z), Or.inr ⟨rfl, h⟩⟩) (fun u2 h => ?_)
  refine e_iinc (k := 239) (i := 6) (j := 5) (v := (x6 + (1 : Int32))) (lv' := [(0, .ref (gR g 0)), (2, .int x2), (3, .int x3), (4, .int x4), (5, .int x5), (6, .int (x6 + (1 : Int32))), (7, .int x7)]) rfl rfl rfl (by decide) [1, 2, 3, 4, 5, 0, 6] rfl ?_
  refine e_goto (k := 240) (tgt := 362) rfl (by decide) ?_
  refine e_sub (lv' := [(0, .ref (gR g 0)), (2, .int x2), (3, .int x3), (4, .int x4), (5, .int x5), (6, .int (x6 + (1 : Int32)))]) [0, 1, 2, 3, 4, 5] rfl ?_
  exact hL362 x2 x3 x4 x5 (x6 + (1 : Int32)) u2 h
set_option maxRecDepth 20000 in
theorem s_X12_readTimed_362 {g : Gb} (hg : xInj g) {n : Nat} {Q : Mm → Prop} {T : Mm → Prop} : ∀ (k : Nat) (x2 : Int32) (x3 : Int32) (x4 : Int32) (x5 : Int32) (x6 : Int32) (u0 : Mm), w_X12_readTimed_362 n Q T k x2 x3 x4 x5 x6 u0 → xE g me_X12_readTimed (pV g Q T) 362 [(0, .ref (gR g 0)), (2, .int x2), (3, .int x3), (4, .int x4), (5, .int x5), (6, .int x6)] [] u0 := by
  intro k
  induction k with
  | zero => intro x2 x3 x4 x5 x6 u0 h; exact h.elim
  | succ k ih =>
    intro x2 x3 x4 x5 x6 u0 h
    unfold w_X12_readTimed_362 at h
    refine e_iload (k := 195) (i := 6) rfl 5 rfl ?_
    refine e_iload_n (k := 196) (i := 3) rfl rfl 2 rfl ?_
    refine e_icmp_ge (k := 197) (tgt := 451) rfl (by decide) (fun z => ?_) (fun z => ?_)
    · have h := h.1 z
      refine e_aload_n (k := 241) (i := 0) rfl rfl 0 rfl ?_
      refine e_iload_n (k := 242) (i := 2) rfl rfl 1 rfl ?_
      refine e_bipush (k := 243) (v := (11 : Int32)) rfl (by decide) ?_
      refine e_aload_n (k := 244) (i := 0) rfl rfl 0 rfl ?_
      refine e_getI (k := 245) rfl f_X12_410 rfl rfl ?_
      refine e_callVv (k := 246) (q := 0) (As := [.int x2, .int (11 : Int32), .int (u0.1 0 42)]) (rest := []) rfl (c_X12_set (g := g) hg (n := n) h) m_X12_set i_X12_set l_X12_286 rfl ⟨_, rfl, rfl⟩ rfl rfl (Nat.le_of_ble_eq_true rfl) ⟨by decide, by decide, rfl, rfl⟩ (fun _ h => ⟨fun _ z => (by cases z), Or.inr ⟨rfl, h⟩⟩) (fun u1 h => ?_)
      refine e_aload_n (k := 247) (i := 0) rfl rfl 0 rfl ?_
      refine e_iload_n (k := 248) (i := 2) rfl rfl 1 rfl ?_
      refine e_bipush (k := 249) (v := (12 : Int32)) rfl (by decide) ?_
      refine e_aload_n (k := 250) (i := 0) rfl rfl 0 rfl ?_
      refine e_getI (k := 251) rfl f_X12_413 rfl rfl ?_
      refine e_callVv (k := 252) (q := 0) (As := [.int x2, .int (12 : Int32), .int (u1.1 0 43)]) (rest := []) rfl (c_X12_set (g := g) hg (n := n) h) m_X12_set i_X12_set l_X12_286 rfl ⟨_, rfl, rfl⟩ rfl rfl (Nat.le_of_ble_eq_true rfl) ⟨by decide, by decide, rfl, rfl⟩ (fun _ h => ⟨fun _ z => (by cases z), Or.inr ⟨rfl, h⟩⟩) (fun u2 h => ?_)
      refine e_aload_n (k := 253) (i := 0) rfl rfl 0 rfl ?_
      refine e_iload_n (k := 254) (i := 2) rfl rfl 1 rfl ?_
      refine e_bipush (k := 255) (v := (13 : Int32)) rfl (by decide) ?_
      refine e_aload_n (k := 256) (i := 0) rfl rfl 0 rfl ?_
      refine e_getI (k := 257) rfl f_X12_416 rfl rfl ?_
      refine e_callVv (k := 258) (q := 0) (As := [.int x2, .int (13 : Int32), .int (u2.1 0 44)]) (rest := []) rfl (c_X12_set (g := g) hg (n := n) h) m_X12_set i_X12_set l_X12_286 rfl ⟨_, rfl, rfl⟩ rfl rfl (Nat.le_of_ble_eq_true rfl) ⟨by decide, by decide, rfl, rfl⟩ (fun _ h => ⟨fun _ z => (by cases z), Or.inr ⟨rfl, h⟩⟩) (fun u3 h => ?_)
      refine e_aload_n (k := 259) (i := 0) rfl rfl 0 rfl ?_
      refine e_iconst (k := 260) (v := (0 : Int32)) rfl (by decide) ?_
      refine e_putI (k := 261) rfl fg_X12_410 rfl rfl ?_
      refine e_mlet h (fun u4 h => ?_)
      refine e_aload_n (k := 262) (i := 0) rfl rfl 0 rfl ?_
      refine e_iconst (k := 263) (v := (0 : Int32)) rfl (by decide) ?_
      refine e_putI (k := 264) rfl fg_X12_413 rfl rfl ?_
      refine e_mlet h (fun u5 h => ?_)
      refine e_aload_n (k := 265) (i := 0) rfl rfl 0 rfl ?_
      refine e_iconst (k := 266) (v := (0 : Int32)) rfl (by decide) ?_
      refine e_putI (k := 267) rfl fg_X12_416 rfl rfl ?_
      refine e_mlet h (fun u6 h => ?_)
      refine e_aload_n (k := 268) (i := 0) rfl rfl 0 rfl ?_
      refine e_aload_n (k := 269) (i := 0) rfl rfl 0 rfl ?_
      refine e_getC (k := 270) rfl f_X12_40 rfl rfl ?_
      refine e_iload_n (k := 271) (i := 2) rfl rfl 1 rfl ?_
      refine e_lald (k := 272) rfl rfl h.1 ?_
      have h := h.2
      refine e_callVv (k := 273) (q := 0) (As := [.long (u6.2.1 7 (ix x2))]) (rest := []) rfl (c_X12_addTime (g := g) hg (n := n) h) m_X12_addTime i_X12_addTime l_X12_419 rfl ⟨_, rfl, rfl⟩ rfl rfl (Nat.le_of_ble_eq_true rfl) ⟨by decide, by decide, rfl, rfl⟩ (fun _ h => ⟨fun _ z => (by cases z), Or.inr ⟨rfl, h⟩⟩) (fun u7 h => ?_)
      refine e_aload_n (k := 274) (i := 0) rfl rfl 0 rfl ?_
      refine e_getC (k := 275) rfl f_X12_90 rfl rfl ?_
      refine e_aload_n (k := 276) (i := 0) rfl rfl 0 rfl ?_
      refine e_getI (k := 277) rfl f_X12_290 rfl rfl ?_
      refine e_iload_n (k := 278) (i := 2) rfl rfl 1 rfl ?_
      refine e_iast (k := 279) rfl rfl h.1 ?_
      have h := h.2
      refine e_mlet h (fun u8 h => ?_)
      refine e_aload_n (k := 280) (i := 0) rfl rfl 0 rfl ?_
      refine e_iload_n (k := 281) (i := 2) rfl rfl 1 rfl ?_
      refine e_putI (k := 282) rfl fg_X12_423 rfl rfl ?_
      refine e_mlet h (fun u9 h => ?_)
      refine e_aload_n (k := 283) (i := 0) rfl rfl 0 rfl ?_
      refine e_aload_n (k := 284) (i := 0) rfl rfl 0 rfl ?_
      refine e_getI (k := 285) rfl f_X12_350 rfl rfl ?_
      refine e_if_le (k := 286) (tgt := 541) rfl (by decide) (fun z => ?_) (fun z => ?_)
      · have h := h.1 z
        refine e_iconst (k := 292) (v := (0 : Int32)) rfl (by decide) ?_
        refine e_sub (lv' := [(0, .ref (gR g 0))]) [0] rfl ?_
        exact s_X12_readTimed_542 hg h
      · have h := h.2 z
        refine e_aload_n (k := 287) (i := 0) rfl rfl 0 rfl ?_
        refine e_getI (k := 288) rfl f_X12_350 rfl rfl ?_
        refine e_iconst (k := 289) (v := (1 : Int32)) rfl (by decide) ?_
        refine e_isub (k := 290) rfl ?_
        refine e_goto (k := 291) (tgt := 542) rfl (by decide) ?_
        refine e_sub (lv' := [(0, .ref (gR g 0))]) [0] rfl ?_
        exact s_X12_readTimed_542 hg h
    · have h := h.2 z
      refine e_iload_n (k := 198) (i := 2) rfl rfl 1 rfl ?_
      refine e_iload (k := 199) (i := 6) rfl 5 rfl ?_
      refine e_iadd (k := 200) rfl ?_
      refine e_ilet h (fun y1 h => ?_)
      refine e_istore (k := 201) (i := 7) (lv' := [(0, .ref (gR g 0)), (2, .int x2), (3, .int x3), (4, .int x4), (5, .int x5), (6, .int x6), (7, .int y1)]) rfl (by decide) [1, 2, 3, 4, 5, 6, 0] rfl ?_
      refine e_aload_n (k := 202) (i := 0) rfl rfl 0 rfl ?_
      refine e_getC (k := 203) rfl f_X12_40 rfl rfl ?_
      refine e_iload (k := 204) (i := 7) rfl 6 rfl ?_
      refine e_aload_n (k := 205) (i := 0) rfl rfl 0 rfl ?_
      refine e_aload_n (k := 206) (i := 0) rfl rfl 0 rfl ?_
      refine e_getC (k := 207) rfl f_X12_93 rfl rfl ?_
      refine e_iload (k := 208) (i := 6) rfl 5 rfl ?_
      refine e_iald (k := 209) rfl rfl h.1 ?_
      have h := h.2
      refine e_aload_n (k := 210) (i := 0) rfl rfl 0 rfl ?_
      refine e_getC (k := 211) rfl f_X12_96 rfl rfl ?_
      refine e_iload (k := 212) (i := 6) rfl 5 rfl ?_
      refine e_iald (k := 213) rfl rfl h.1 ?_
      have h := h.2
      refine e_aload_n (k := 214) (i := 0) rfl rfl 0 rfl ?_
      refine e_iload (k := 215) (i := 7) rfl 6 rfl ?_
      refine e_bipush (k := 216) (v := (16 : Int32)) rfl (by decide) ?_
      refine e_callVi (k := 217) (q := 0) (As := [.int y1, .int (16 : Int32)]) (rest := [.int (u0.1 25 (ix x6)), .int (u0.1 24 (ix x6)), .ref (gR g 0), .int y1, .ref (gR g 7)]) rfl (c_X12_get (g := g) hg (n := n) h) m_X12_get i_X12_get l_X12_293 rfl ⟨_, rfl, rfl⟩ rfl rfl (Nat.le_of_ble_eq_true rfl) ⟨by decide, by decide, rfl, rfl⟩ (fun _ h => ⟨fun _ z => (by cases z), Or.inr ⟨rfl, h⟩⟩) (fun r1 u10 h => ?_)
      refine e_callVl (k := 218) (q := 0) (As := [.int (u0.1 24 (ix x6)), .int (u0.1 25 (ix x6)), .int r1]) (rest := [.int y1, .ref (gR g 7)]) rfl (c_X12_timeOf (g := g) hg (n := n) h) m_X12_timeOf i_X12_timeOf l_X12_406 rfl ⟨_, rfl, rfl⟩ rfl rfl (Nat.le_of_ble_eq_true rfl) ⟨by decide, by decide, rfl, rfl⟩ (fun _ h => ⟨fun _ z => (by cases z), Or.inr ⟨rfl, h⟩⟩) (fun r2 u11 h => ?_)
      refine e_last (k := 219) rfl rfl h.1 ?_
      have h := h.2
      refine e_mlet h (fun u12 h => ?_)
      refine e_aload_n (k := 220) (i := 0) rfl rfl 0 rfl ?_
      refine e_iload (k := 221) (i := 7) rfl 6 rfl ?_
      refine e_bipush (k := 222) (v := (8 : Int32)) rfl (by decide) ?_
      refine e_iload (k := 223) (i := 5) rfl 4 rfl ?_
      refine e_callVv (k := 224) (q := 0) (As := [.int y1, .int (8 : Int32), .int x5]) (rest := []) rfl (c_X12_set (g := g) hg (n := n) h) m_X12_set i_X12_set l_X12_286 rfl ⟨_, rfl, rfl⟩ rfl rfl (Nat.le_of_ble_eq_true rfl) ⟨by decide, by decide, rfl, rfl⟩ (fun _ h => ⟨fun _ z => (by cases z), Or.inr ⟨rfl, h⟩⟩) (fun u13 h => ?_)
      refine e_aload_n (k := 225) (i := 0) rfl rfl 0 rfl ?_
      refine e_iload (k := 226) (i := 7) rfl 6 rfl ?_
      refine e_bipush (k := 227) (v := (9 : Int32)) rfl (by decide) ?_
      refine e_iload (k := 228) (i := 4) rfl 3 rfl ?_
      refine e_if_eq (k := 229) (tgt := 431) rfl (by decide) (fun z => ?_) (fun z => ?_)
      · have h := h.1 z
        refine e_iconst (k := 232) (v := (0 : Int32)) rfl (by decide) ?_
        exact s_X12_readTimed_432 hg ih h
      · have h := h.2 z
        refine e_iload_n (k := 230) (i := 3) rfl rfl 2 rfl ?_
        refine e_goto (k := 231) (tgt := 432) rfl (by decide) ?_
        exact s_X12_readTimed_432 hg ih h
set_option maxRecDepth 20000 in
theorem s_X12_readTimed_346 {g : Gb} (hg : xInj g) {n : Nat} {Q : Mm → Prop} {T : Mm → Prop} {x2 : Int32} {x3 : Int32} {x4 : Int32} {t0 : Int32} {u0 : Mm} (h : w_X12_readTimed_346 n x2 x3 x4 t0 u0 Q T) : xE g me_X12_readTimed (pV g Q T) 346 [(0, .ref (gR g 0)), (2, .int x2), (3, .int x3), (4, .int x4)] [.int t0] u0 := by
  unfold w_X12_readTimed_346 at h
  refine e_istore (k := 186) (i := 5) (lv' := [(0, .ref (gR g 0)), (2, .int x2), (3, .int x3), (4, .int x4), (5, .int t0)]) rfl (by decide) [1, 2, 3, 4, 0] rfl ?_
  refine e_aload_n (k := 187) (i := 0) rfl rfl 0 rfl ?_
  refine e_aload_n (k := 188) (i := 0) rfl rfl 0 rfl ?_
  refine e_getI (k := 189) rfl f_X12_138 rfl rfl ?_
  refine e_iload (k := 190) (i := 5) rfl 4 rfl ?_
  refine e_iadd (k := 191) rfl ?_
  refine e_putI (k := 192) rfl fg_X12_138 rfl rfl ?_
  refine e_mlet h (fun u1 h => ?_)
  refine e_iconst (k := 193) (v := (0 : Int32)) rfl (by decide) ?_
  refine e_istore (k := 194) (i := 6) (lv' := [(0, .ref (gR g 0)), (2, .int x2), (3, .int x3), (4, .int x4), (5, .int t0), (6, .int (0 : Int32))]) rfl (by decide) [1, 2, 3, 4, 5, 0] rfl ?_
  exact s_X12_readTimed_362 hg n x2 x3 x4 t0 (0 : Int32) u1 h
set_option maxRecDepth 20000 in
theorem s_X12_readTimed_345 {g : Gb} (hg : xInj g) {n : Nat} {Q : Mm → Prop} {T : Mm → Prop} {x2 : Int32} {x3 : Int32} {x4 : Int32} {u0 : Mm} (h : w_X12_readTimed_345 n x2 x3 x4 u0 Q T) : xE g me_X12_readTimed (pV g Q T) 345 [(0, .ref (gR g 0)), (2, .int x2), (3, .int x3), (4, .int x4)] [] u0 := by
  unfold w_X12_readTimed_345 at h
  refine e_iconst (k := 185) (v := (0 : Int32)) rfl (by decide) ?_
  exact s_X12_readTimed_346 hg h
set_option maxRecDepth 20000 in
theorem s_X12_readTimed_325 {g : Gb} (hg : xInj g) {n : Nat} {Q : Mm → Prop} {T : Mm → Prop} {x2 : Int32} {x3 : Int32} {t0 : Int32} {u0 : Mm} (h : w_X12_readTimed_325 n x2 x3 t0 u0 Q T) : xE g me_X12_readTimed (pV g Q T) 325 [(0, .ref (gR g 0)), (2, .int x2), (3, .int x3)] [.int t0] u0 := by
  unfold w_X12_readTimed_325 at h
  refine e_istore (k := 176) (i := 4) (lv' := [(0, .ref (gR g 0)), (2, .int x2), (3, .int x3), (4, .int t0)]) rfl (by decide) [1, 2, 3, 0] rfl ?_
  refine e_iload (k := 177) (i := 4) rfl 3 rfl ?_
  refine e_if_eq (k := 178) (tgt := 345) rfl (by decide) (fun z => ?_) (fun z => ?_)
  · have h := h.1 z
    exact s_X12_readTimed_345 hg h
  · have h := h.2 z
    refine e_aload_n (k := 179) (i := 0) rfl rfl 0 rfl ?_
    refine e_bipush (k := 180) (v := (45 : Int32)) rfl (by decide) ?_
    refine e_callVi (k := 181) (q := 0) (As := [.int (45 : Int32)]) (rest := []) rfl (c_X12_is (g := g) hg (n := n) h) m_X12_is i_X12_is l_X12_166 rfl ⟨_, rfl, rfl⟩ rfl rfl (Nat.le_of_ble_eq_true rfl) ⟨by decide, by decide, rfl, rfl⟩ (fun _ h => ⟨fun _ z => (by cases z), Or.inr ⟨rfl, h⟩⟩) (fun r1 u1 h => ?_)
    refine e_if_eq (k := 182) (tgt := 345) rfl (by decide) (fun z => ?_) (fun z => ?_)
    · have h := h.1 z
      exact s_X12_readTimed_345 hg h
    · have h := h.2 z
      refine e_iconst (k := 183) (v := (1 : Int32)) rfl (by decide) ?_
      refine e_goto (k := 184) (tgt := 346) rfl (by decide) ?_
      exact s_X12_readTimed_346 hg h
set_option maxRecDepth 20000 in
theorem s_X12_readTimed_311 {g : Gb} (hg : xInj g) {n : Nat} {Q : Mm → Prop} {T : Mm → Prop} {x2 : Int32} {x3 : Int32} {u0 : Mm} (h : w_X12_readTimed_311 n x2 x3 u0 Q T) : xE g me_X12_readTimed (pV g Q T) 311 [(0, .ref (gR g 0)), (2, .int x2), (3, .int x3)] [] u0 := by
  unfold w_X12_readTimed_311 at h
  refine e_aload_n (k := 168) (i := 0) rfl rfl 0 rfl ?_
  refine e_iload_n (k := 169) (i := 2) rfl rfl 1 rfl ?_
  refine e_iconst (k := 170) (v := (0 : Int32)) rfl (by decide) ?_
  refine e_callVi (k := 171) (q := 0) (As := [.int x2, .int (0 : Int32)]) (rest := []) rfl (c_X12_get (g := g) hg (n := n) h) m_X12_get i_X12_get l_X12_293 rfl ⟨_, rfl, rfl⟩ rfl rfl (Nat.le_of_ble_eq_true rfl) ⟨by decide, by decide, rfl, rfl⟩ (fun _ h => ⟨fun _ z => (by cases z), Or.inr ⟨rfl, h⟩⟩) (fun r1 u1 h => ?_)
  refine e_if_ne (k := 172) (tgt := 324) rfl (by decide) (fun z => ?_) (fun z => ?_)
  · have h := h.1 z
    refine e_iconst (k := 175) (v := (0 : Int32)) rfl (by decide) ?_
    exact s_X12_readTimed_325 hg h
  · have h := h.2 z
    refine e_iconst (k := 173) (v := (1 : Int32)) rfl (by decide) ?_
    refine e_goto (k := 174) (tgt := 325) rfl (by decide) ?_
    exact s_X12_readTimed_325 hg h
set_option maxRecDepth 20000 in
theorem s_X12_readTimed_229 {g : Gb} (hg : xInj g) {n : Nat} {Q : Mm → Prop} {T : Mm → Prop} {x1 : Int32} {x2 : Int32} {x3 : Int32} {t0 : Int32} {u0 : Mm} (h : w_X12_readTimed_229 n x1 x2 x3 t0 u0 Q T) : xE g me_X12_readTimed (pV g Q T) 229 [(0, .ref (gR g 0)), (1, .int x1), (2, .int x2), (3, .int x3)] [.int t0, .ref (gR g 0)] u0 := by
  unfold w_X12_readTimed_229 at h
  refine e_iload_n (k := 122) (i := 1) rfl rfl 1 rfl ?_
  refine e_callVi (k := 123) (q := 0) (As := [.int t0, .int x1]) (rest := []) rfl (c_X12_newThing (g := g) hg (n := n) h) m_X12_newThing i_X12_newThing l_X12_333 rfl ⟨_, rfl, rfl⟩ rfl rfl (Nat.le_of_ble_eq_true rfl) ⟨by decide, by decide, rfl, rfl⟩ (fun _ h => ⟨fun _ z => (by cases z), Or.inr ⟨rfl, h⟩⟩) (fun r1 u1 h => ?_)
  refine e_istore (k := 124) (i := 4) (lv' := [(0, .ref (gR g 0)), (1, .int x1), (2, .int x2), (3, .int x3), (4, .int r1)]) rfl (by decide) [1, 2, 3, 4, 0] rfl ?_
  refine e_aload_n (k := 125) (i := 0) rfl rfl 0 rfl ?_
  refine e_dup (k := 126) rfl rfl ?_
  refine e_getI (k := 127) rfl f_X12_138 rfl rfl ?_
  refine e_iconst (k := 128) (v := (1 : Int32)) rfl (by decide) ?_
  refine e_iadd (k := 129) rfl ?_
  refine e_putI (k := 130) rfl fg_X12_138 rfl rfl ?_
  refine e_mlet h (fun u2 h => ?_)
  refine e_aload_n (k := 131) (i := 0) rfl rfl 0 rfl ?_
  refine e_callVv (k := 132) (q := 0) (As := []) (rest := []) rfl (c_X12_readLength (g := g) hg (n := n) h) m_X12_readLength i_X12_readLength l_X12_403 rfl ⟨_, rfl, rfl⟩ rfl rfl (Nat.le_of_ble_eq_true rfl) ⟨by decide, by decide, rfl, rfl⟩ (fun _ h => ⟨fun _ z => (by cases z), Or.inr ⟨rfl, h⟩⟩) (fun u3 h => ?_)
  refine e_aload_n (k := 133) (i := 0) rfl rfl 0 rfl ?_
  refine e_getC (k := 134) rfl f_X12_93 rfl rfl ?_
  refine e_iconst (k := 135) (v := (0 : Int32)) rfl (by decide) ?_
  refine e_aload_n (k := 136) (i := 0) rfl rfl 0 rfl ?_
  refine e_getI (k := 137) rfl f_X12_303 rfl rfl ?_
  refine e_iast (k := 138) rfl rfl (by unfold vp_in; decide) ?_
  refine e_mlet h (fun u4 h => ?_)
  refine e_aload_n (k := 139) (i := 0) rfl rfl 0 rfl ?_
  refine e_getC (k := 140) rfl f_X12_96 rfl rfl ?_
  refine e_iconst (k := 141) (v := (0 : Int32)) rfl (by decide) ?_
  refine e_aload_n (k := 142) (i := 0) rfl rfl 0 rfl ?_
  refine e_getI (k := 143) rfl f_X12_306 rfl rfl ?_
  refine e_iast (k := 144) rfl rfl (by unfold vp_in; decide) ?_
  refine e_mlet h (fun u5 h => ?_)
  refine e_goto (k := 145) (tgt := 311) rfl (by decide) ?_
  refine e_sub (lv' := [(0, .ref (gR g 0)), (2, .int x2), (3, .int x3)]) [0, 2, 3] rfl ?_
  exact s_X12_readTimed_311 hg h
set_option maxRecDepth 20000 in
theorem s_X12_readTimed_214 {g : Gb} (hg : xInj g) {n : Nat} {Q : Mm → Prop} {T : Mm → Prop} {x1 : Int32} {x2 : Int32} {x3 : Int32} {u0 : Mm} (h : w_X12_readTimed_214 n x1 x2 x3 u0 Q T) : xE g me_X12_readTimed (pV g Q T) 214 [(0, .ref (gR g 0)), (1, .int x1), (2, .int x2), (3, .int x3)] [] u0 := by
  unfold w_X12_readTimed_214 at h
  refine e_aload_n (k := 114) (i := 0) rfl rfl 0 rfl ?_
  refine e_aload_n (k := 115) (i := 0) rfl rfl 0 rfl ?_
  refine e_bipush (k := 116) (v := (122 : Int32)) rfl (by decide) ?_
  refine e_callVi (k := 117) (q := 0) (As := [.int (122 : Int32)]) (rest := [.ref (gR g 0)]) rfl (c_X12_is (g := g) hg (n := n) h) m_X12_is i_X12_is l_X12_166 rfl ⟨_, rfl, rfl⟩ rfl rfl (Nat.le_of_ble_eq_true rfl) ⟨by decide, by decide, rfl, rfl⟩ (fun _ h => ⟨fun _ z => (by cases z), Or.inr ⟨rfl, h⟩⟩) (fun r1 u1 h => ?_)
  refine e_if_eq (k := 118) (tgt := 228) rfl (by decide) (fun z => ?_) (fun z => ?_)
  · have h := h.1 z
    refine e_iconst (k := 121) (v := (2 : Int32)) rfl (by decide) ?_
    exact s_X12_readTimed_229 hg h
  · have h := h.2 z
    refine e_iconst (k := 119) (v := (1 : Int32)) rfl (by decide) ?_
    refine e_goto (k := 120) (tgt := 229) rfl (by decide) ?_
    exact s_X12_readTimed_229 hg h
set_option maxRecDepth 20000 in
theorem s_X12_readTimed_147 {g : Gb} (hg : xInj g) {n : Nat} {Q : Mm → Prop} {T : Mm → Prop} : ∀ (k : Nat) (x2 : Int32) (x3 : Int32) (x4 : Int32) (x5 : Int32) (x6 : Int32) (u0 : Mm), w_X12_readTimed_147 n Q T k x2 x3 x4 x5 x6 u0 → xE g me_X12_readTimed (pV g Q T) 147 [(0, .ref (gR g 0)), (2, .int x2), (3, .int x3), (4, .int x4), (5, .int x5), (6, .int x6)] [] u0 := by
  intro k
  induction k with
  | zero => intro x2 x3 x4 x5 x6 u0 h; exact h.elim
  | succ k ih =>
    intro x2 x3 x4 x5 x6 u0 h
    unfold w_X12_readTimed_147 at h
    refine e_iload (k := 80) (i := 6) rfl 5 rfl ?_
    refine e_iload_n (k := 81) (i := 3) rfl rfl 2 rfl ?_
    refine e_icmp_ge (k := 82) (tgt := 193) rfl (by decide) (fun z => ?_) (fun z => ?_)
    · have h := h.1 z
      refine e_goto (k := 105) (tgt := 311) rfl (by decide) ?_
      refine e_sub (lv' := [(0, .ref (gR g 0)), (2, .int x2), (3, .int x3)]) [0, 1, 2] rfl ?_
      exact s_X12_readTimed_311 hg h
    · have h := h.2 z
      refine e_aload_n (k := 83) (i := 0) rfl rfl 0 rfl ?_
      refine e_getC (k := 84) rfl f_X12_93 rfl rfl ?_
      refine e_iload (k := 85) (i := 6) rfl 5 rfl ?_
      refine e_aload_n (k := 86) (i := 0) rfl rfl 0 rfl ?_
      refine e_getC (k := 87) rfl f_X12_93 rfl rfl ?_
      refine e_iload (k := 88) (i := 6) rfl 5 rfl ?_
      refine e_iald (k := 89) rfl rfl h.1 ?_
      have h := h.2
      refine e_iload (k := 90) (i := 4) rfl 3 rfl ?_
      refine e_imul (k := 91) rfl ?_
      refine e_iast (k := 92) rfl rfl h.1 ?_
      have h := h.2
      refine e_mlet h (fun u1 h => ?_)
      refine e_aload_n (k := 93) (i := 0) rfl rfl 0 rfl ?_
      refine e_getC (k := 94) rfl f_X12_96 rfl rfl ?_
      refine e_iload (k := 95) (i := 6) rfl 5 rfl ?_
      refine e_aload_n (k := 96) (i := 0) rfl rfl 0 rfl ?_
      refine e_getC (k := 97) rfl f_X12_96 rfl rfl ?_
      refine e_iload (k := 98) (i := 6) rfl 5 rfl ?_
      refine e_iald (k := 99) rfl rfl h.1 ?_
      have h := h.2
      refine e_iload (k := 100) (i := 5) rfl 4 rfl ?_
      refine e_imul (k := 101) rfl ?_
      refine e_iast (k := 102) rfl rfl h.1 ?_
      have h := h.2
      refine e_mlet h (fun u2 h => ?_)
      refine e_iinc (k := 103) (i := 6) (j := 5) (v := (x6 + (1 : Int32))) (lv' := [(0, .ref (gR g 0)), (2, .int x2), (3, .int x3), (4, .int x4), (5, .int x5), (6, .int (x6 + (1 : Int32)))]) rfl rfl rfl (by decide) [1, 2, 3, 4, 5, 0] rfl ?_
      refine e_goto (k := 104) (tgt := 147) rfl (by decide) ?_
      exact ih x2 x3 x4 x5 (x6 + (1 : Int32)) u2 h
set_option maxRecDepth 20000 in
theorem s_X12_readTimed_73 {g : Gb} (hg : xInj g) {n : Nat} {Q : Mm → Prop} {T : Mm → Prop} {L38 : Int32 → Int32 → Mm → Prop} (hL38 : ∀ (x2 : Int32) (x3 : Int32) (u0 : Mm), L38 x2 x3 u0 → xE g me_X12_readTimed (pV g Q T) 38 [(0, .ref (gR g 0)), (2, .int x2), (3, .int x3)] [] u0) {x2 : Int32} {x3 : Int32} {u0 : Mm} (h : w_X12_readTimed_73 n L38 x2 x3 u0 Q T) : xE g me_X12_readTimed (pV g Q T) 73 [(0, .ref (gR g 0)), (2, .int x2), (3, .int x3)] [] u0 := by
  unfold w_X12_readTimed_73 at h
  refine e_aload_n (k := 40) (i := 0) rfl rfl 0 rfl ?_
  refine e_callVv (k := 41) (q := 0) (As := []) (rest := []) rfl (c_X12_readNote (g := g) hg (n := n) h) m_X12_readNote i_X12_readNote l_X12_394 rfl ⟨_, rfl, rfl⟩ rfl rfl (Nat.le_of_ble_eq_true rfl) ⟨by decide, by decide, rfl, rfl⟩ (fun _ h => ⟨fun _ z => (by cases z), Or.inr ⟨rfl, h⟩⟩) (fun u1 h => ?_)
  refine e_aload_n (k := 42) (i := 0) rfl rfl 0 rfl ?_
  refine e_iconst (k := 43) (v := (0 : Int32)) rfl (by decide) ?_
  refine e_callVi (k := 44) (q := 0) (As := [.int (0 : Int32)]) (rest := []) rfl (c_X12_addNote (g := g) hg (n := n) h) m_X12_addNote i_X12_addNote l_X12_397 rfl ⟨_, rfl, rfl⟩ rfl rfl (Nat.le_of_ble_eq_true rfl) ⟨by decide, by decide, rfl, rfl⟩ (fun _ h => ⟨fun _ z => (by cases z), Or.inr ⟨rfl, h⟩⟩) (fun r1 u2 h => ?_)
  refine e_istore (k := 45) (i := 4) (lv' := [(0, .ref (gR g 0)), (2, .int x2), (3, .int x3), (4, .int r1)]) rfl (by decide) [1, 2, 3, 0] rfl ?_
  refine e_aload_n (k := 46) (i := 0) rfl rfl 0 rfl ?_
  refine e_callVv (k := 47) (q := 0) (As := []) (rest := []) rfl (c_X12_rememberSign (g := g) hg (n := n) h) m_X12_rememberSign i_X12_rememberSign l_X12_400 rfl ⟨_, rfl, rfl⟩ rfl rfl (Nat.le_of_ble_eq_true rfl) ⟨by decide, by decide, rfl, rfl⟩ (fun _ h => ⟨fun _ z => (by cases z), Or.inr ⟨rfl, h⟩⟩) (fun u3 h => ?_)
  refine e_aload_n (k := 48) (i := 0) rfl rfl 0 rfl ?_
  refine e_callVv (k := 49) (q := 0) (As := []) (rest := []) rfl (c_X12_readLength (g := g) hg (n := n) h) m_X12_readLength i_X12_readLength l_X12_403 rfl ⟨_, rfl, rfl⟩ rfl rfl (Nat.le_of_ble_eq_true rfl) ⟨by decide, by decide, rfl, rfl⟩ (fun _ h => ⟨fun _ z => (by cases z), Or.inr ⟨rfl, h⟩⟩) (fun u4 h => ?_)
  refine e_aload_n (k := 50) (i := 0) rfl rfl 0 rfl ?_
  refine e_getC (k := 51) rfl f_X12_93 rfl rfl ?_
  refine e_iload_n (k := 52) (i := 3) rfl rfl 2 rfl ?_
  refine e_aload_n (k := 53) (i := 0) rfl rfl 0 rfl ?_
  refine e_getI (k := 54) rfl f_X12_303 rfl rfl ?_
  refine e_iast (k := 55) rfl rfl h.1 ?_
  have h := h.2
  refine e_mlet h (fun u5 h => ?_)
  refine e_aload_n (k := 56) (i := 0) rfl rfl 0 rfl ?_
  refine e_getC (k := 57) rfl f_X12_96 rfl rfl ?_
  refine e_iload_n (k := 58) (i := 3) rfl rfl 2 rfl ?_
  refine e_aload_n (k := 59) (i := 0) rfl rfl 0 rfl ?_
  refine e_getI (k := 60) rfl f_X12_306 rfl rfl ?_
  refine e_iast (k := 61) rfl rfl h.1 ?_
  have h := h.2
  refine e_mlet h (fun u6 h => ?_)
  refine e_iinc (k := 62) (i := 3) (j := 2) (v := (x3 + (1 : Int32))) (lv' := [(0, .ref (gR g 0)), (2, .int x2), (3, .int (x3 + (1 : Int32))), (4, .int r1)]) rfl rfl rfl (by decide) [1, 2, 0, 3] rfl ?_
  refine e_goto (k := 63) (tgt := 38) rfl (by decide) ?_
  refine e_sub (lv' := [(0, .ref (gR g 0)), (2, .int x2), (3, .int (x3 + (1 : Int32)))]) [0, 1, 2] rfl ?_
  exact hL38 x2 (x3 + (1 : Int32)) u6 h
set_option maxRecDepth 20000 in
theorem s_X12_readTimed_51 {g : Gb} (hg : xInj g) {n : Nat} {Q : Mm → Prop} {T : Mm → Prop} {L38 : Int32 → Int32 → Mm → Prop} (hL38 : ∀ (x2 : Int32) (x3 : Int32) (u0 : Mm), L38 x2 x3 u0 → xE g me_X12_readTimed (pV g Q T) 38 [(0, .ref (gR g 0)), (2, .int x2), (3, .int x3)] [] u0) {x2 : Int32} {x3 : Int32} {u0 : Mm} (h : w_X12_readTimed_51 n L38 x2 x3 u0 Q T) : xE g me_X12_readTimed (pV g Q T) 51 [(0, .ref (gR g 0)), (2, .int x2), (3, .int x3)] [] u0 := by
  unfold w_X12_readTimed_51 at h
  refine e_iload_n (k := 29) (i := 3) rfl rfl 2 rfl ?_
  refine e_bipush (k := 30) (v := (12 : Int32)) rfl (by decide) ?_
  refine e_icmp_ne (k := 31) (tgt := 73) rfl (by decide) (fun z => ?_) (fun z => ?_)
  · have h := h.1 z
    exact s_X12_readTimed_73 hg hL38 h
  · have h := h.2 z
    refine e_aload_n (k := 32) (i := 0) rfl rfl 0 rfl ?_
    refine e_callVi (k := 33) (q := 0) (As := []) (rest := []) rfl (c_X12_beginsNote (g := g) hg (n := n) h) m_X12_beginsNote i_X12_beginsNote l_X12_384 rfl ⟨_, rfl, rfl⟩ rfl rfl (Nat.le_of_ble_eq_true rfl) ⟨by decide, by decide, rfl, rfl⟩ (fun _ h => ⟨fun _ z => (by cases z), Or.inr ⟨rfl, h⟩⟩) (fun r1 u1 h => ?_)
    refine e_if_eq (k := 34) (tgt := 73) rfl (by decide) (fun z => ?_) (fun z => ?_)
    · have h := h.1 z
      exact s_X12_readTimed_73 hg hL38 h
    · have h := h.2 z
      refine e_aload_n (k := 35) (i := 0) rfl rfl 0 rfl ?_
      refine e_iconst (k := 36) (v := (2 : Int32)) rfl (by decide) ?_
      refine e_aload_n (k := 37) (i := 0) rfl rfl 0 rfl ?_
      refine e_getI (k := 38) rfl f_X12_138 rfl rfl ?_
      refine e_callVv (k := 39) (q := 0) (As := [.int (2 : Int32), .int (u1.1 0 7)]) (rest := []) rfl (c_X12_fail (g := g) hg (n := n) h) m_X12_fail i_X12_fail l_X12_148 rfl ⟨_, rfl, rfl⟩ rfl rfl (Nat.le_of_ble_eq_true rfl) ⟨by decide, by decide, rfl, rfl⟩ (fun _ h => ⟨fun _ z => (by cases z), Or.inr ⟨rfl, h⟩⟩) (fun u2 h => ?_)
      exact s_X12_readTimed_73 hg hL38 h
set_option maxRecDepth 20000 in
theorem s_X12_readTimed_38 {g : Gb} (hg : xInj g) {n : Nat} {Q : Mm → Prop} {T : Mm → Prop} : ∀ (k : Nat) (x2 : Int32) (x3 : Int32) (u0 : Mm), w_X12_readTimed_38 n Q T k x2 x3 u0 → xE g me_X12_readTimed (pV g Q T) 38 [(0, .ref (gR g 0)), (2, .int x2), (3, .int x3)] [] u0 := by
  intro k
  induction k with
  | zero => intro x2 x3 u0 h; exact h.elim
  | succ k ih =>
    intro x2 x3 u0 h
    unfold w_X12_readTimed_38 at h
    refine e_aload_n (k := 23) (i := 0) rfl rfl 0 rfl ?_
    refine e_bipush (k := 24) (v := (93 : Int32)) rfl (by decide) ?_
    refine e_callVi (k := 25) (q := 0) (As := [.int (93 : Int32)]) (rest := []) rfl (c_X12_is (g := g) hg (n := n) h) m_X12_is i_X12_is l_X12_166 rfl ⟨_, rfl, rfl⟩ rfl rfl (Nat.le_of_ble_eq_true rfl) ⟨by decide, by decide, rfl, rfl⟩ (fun _ h => ⟨fun _ z => (by cases z), Or.inr ⟨rfl, h⟩⟩) (fun r1 u1 h => ?_)
    refine e_if_eq (k := 26) (tgt := 51) rfl (by decide) (fun z => ?_) (fun z => ?_)
    · have h := h.1 z
      exact s_X12_readTimed_51 hg ih h
    · have h := h.2 z
      refine e_iload_n (k := 27) (i := 3) rfl rfl 2 rfl ?_
      refine e_if_ne (k := 28) (tgt := 118) rfl (by decide) (fun z => ?_) (fun z => ?_)
      · have h := h.1 z
        refine e_aload_n (k := 64) (i := 0) rfl rfl 0 rfl ?_
        refine e_dup (k := 65) rfl rfl ?_
        refine e_getI (k := 66) rfl f_X12_138 rfl rfl ?_
        refine e_iconst (k := 67) (v := (1 : Int32)) rfl (by decide) ?_
        refine e_iadd (k := 68) rfl ?_
        refine e_putI (k := 69) rfl fg_X12_138 rfl rfl ?_
        refine e_mlet h (fun u2 h => ?_)
        refine e_aload_n (k := 70) (i := 0) rfl rfl 0 rfl ?_
        refine e_callVv (k := 71) (q := 0) (As := []) (rest := []) rfl (c_X12_readLength (g := g) hg (n := n) h) m_X12_readLength i_X12_readLength l_X12_403 rfl ⟨_, rfl, rfl⟩ rfl rfl (Nat.le_of_ble_eq_true rfl) ⟨by decide, by decide, rfl, rfl⟩ (fun _ h => ⟨fun _ z => (by cases z), Or.inr ⟨rfl, h⟩⟩) (fun u3 h => ?_)
        refine e_aload_n (k := 72) (i := 0) rfl rfl 0 rfl ?_
        refine e_getI (k := 73) rfl f_X12_303 rfl rfl ?_
        refine e_ilet h (fun y1 h => ?_)
        refine e_istore (k := 74) (i := 4) (lv' := [(0, .ref (gR g 0)), (2, .int x2), (3, .int x3), (4, .int y1)]) rfl (by decide) [1, 2, 3, 0] rfl ?_
        refine e_aload_n (k := 75) (i := 0) rfl rfl 0 rfl ?_
        refine e_getI (k := 76) rfl f_X12_306 rfl rfl ?_
        refine e_ilet h (fun y2 h => ?_)
        refine e_istore (k := 77) (i := 5) (lv' := [(0, .ref (gR g 0)), (2, .int x2), (3, .int x3), (4, .int y1), (5, .int y2)]) rfl (by decide) [1, 2, 3, 4, 0] rfl ?_
        refine e_iconst (k := 78) (v := (0 : Int32)) rfl (by decide) ?_
        refine e_istore (k := 79) (i := 6) (lv' := [(0, .ref (gR g 0)), (2, .int x2), (3, .int x3), (4, .int y1), (5, .int y2), (6, .int (0 : Int32))]) rfl (by decide) [1, 2, 3, 4, 5, 0] rfl ?_
        exact s_X12_readTimed_147 hg n x2 x3 y1 y2 (0 : Int32) u3 h
      · have h := h.2 z
        exact s_X12_readTimed_51 hg ih h
set_option maxRecDepth 20000 in
theorem c_X12_readTimed {g : Gb} (hg : xInj g) {n : Nat} {u0 : Mm} {Q : Mm → Prop} {T : Mm → Prop} (h : w_X12_readTimed n u0 Q T) : xMet (gL g) yX12_readTimed (xws yX12_readTimed cX12_readTimed 8 none) (xRoom 6) (xPc g [.ref (gR g 0)] u0) (xQ g (pV g Q T)) (xA g) := by
  refine xbody (il := il_X12_readTimed) hg il_X12_readTimed_ok m_X12_readTimed (Nat.le_of_ble_eq_true rfl) ?_
  show xE g me_X12_readTimed (pV g Q T) 0 [(0, .ref (gR g 0))] [] u0
  unfold w_X12_readTimed at h
  refine e_aload_n (k := 0) (i := 0) rfl rfl 0 rfl ?_
  refine e_getI (k := 1) rfl f_X12_138 rfl rfl ?_
  refine e_ilet h (fun y1 h => ?_)
  refine e_istore_n (k := 2) (i := 1) (lv' := [(0, .ref (gR g 0)), (1, .int y1)]) rfl rfl (by decide) [1, 0] rfl ?_
  refine e_aload_n (k := 3) (i := 0) rfl rfl 0 rfl ?_
  refine e_getI (k := 4) rfl f_X12_283 rfl rfl ?_
  refine e_ilet h (fun y2 h => ?_)
  refine e_istore_n (k := 5) (i := 2) (lv' := [(0, .ref (gR g 0)), (1, .int y1), (2, .int y2)]) rfl rfl (by decide) [1, 2, 0] rfl ?_
  refine e_iconst (k := 6) (v := (1 : Int32)) rfl (by decide) ?_
  refine e_istore_n (k := 7) (i := 3) (lv' := [(0, .ref (gR g 0)), (1, .int y1), (2, .int y2), (3, .int (1 : Int32))]) rfl rfl (by decide) [1, 2, 3, 0] rfl ?_
  refine e_aload_n (k := 8) (i := 0) rfl rfl 0 rfl ?_
  refine e_iload_n (k := 9) (i := 1) rfl rfl 1 rfl ?_
  refine e_callVv (k := 10) (q := 0) (As := [.int y1]) (rest := []) rfl (c_X12_beginMeasure (g := g) hg (n := n) h) m_X12_beginMeasure i_X12_beginMeasure l_X12_391 rfl ⟨_, rfl, rfl⟩ rfl rfl (Nat.le_of_ble_eq_true rfl) ⟨by decide, by decide, rfl, rfl⟩ (fun _ h => ⟨fun _ z => (by cases z), Or.inr ⟨rfl, h⟩⟩) (fun u1 h => ?_)
  refine e_aload_n (k := 11) (i := 0) rfl rfl 0 rfl ?_
  refine e_bipush (k := 12) (v := (91 : Int32)) rfl (by decide) ?_
  refine e_callVi (k := 13) (q := 0) (As := [.int (91 : Int32)]) (rest := []) rfl (c_X12_is (g := g) hg (n := n) h) m_X12_is i_X12_is l_X12_166 rfl ⟨_, rfl, rfl⟩ rfl rfl (Nat.le_of_ble_eq_true rfl) ⟨by decide, by decide, rfl, rfl⟩ (fun _ h => ⟨fun _ z => (by cases z), Or.inr ⟨rfl, h⟩⟩) (fun r1 u2 h => ?_)
  refine e_if_eq (k := 14) (tgt := 196) rfl (by decide) (fun z => ?_) (fun z => ?_)
  · have h := h.1 z
    refine e_aload_n (k := 106) (i := 0) rfl rfl 0 rfl ?_
    refine e_bipush (k := 107) (v := (122 : Int32)) rfl (by decide) ?_
    refine e_callVi (k := 108) (q := 0) (As := [.int (122 : Int32)]) (rest := []) rfl (c_X12_is (g := g) hg (n := n) h) m_X12_is i_X12_is l_X12_166 rfl ⟨_, rfl, rfl⟩ rfl rfl (Nat.le_of_ble_eq_true rfl) ⟨by decide, by decide, rfl, rfl⟩ (fun _ h => ⟨fun _ z => (by cases z), Or.inr ⟨rfl, h⟩⟩) (fun r2 u3 h => ?_)
    refine e_if_ne (k := 109) (tgt := 214) rfl (by decide) (fun z => ?_) (fun z => ?_)
    · have h := h.1 z
      exact s_X12_readTimed_214 hg h
    · have h := h.2 z
      refine e_aload_n (k := 110) (i := 0) rfl rfl 0 rfl ?_
      refine e_bipush (k := 111) (v := (120 : Int32)) rfl (by decide) ?_
      refine e_callVi (k := 112) (q := 0) (As := [.int (120 : Int32)]) (rest := []) rfl (c_X12_is (g := g) hg (n := n) h) m_X12_is i_X12_is l_X12_166 rfl ⟨_, rfl, rfl⟩ rfl rfl (Nat.le_of_ble_eq_true rfl) ⟨by decide, by decide, rfl, rfl⟩ (fun _ h => ⟨fun _ z => (by cases z), Or.inr ⟨rfl, h⟩⟩) (fun r3 u4 h => ?_)
      refine e_if_eq (k := 113) (tgt := 272) rfl (by decide) (fun z => ?_) (fun z => ?_)
      · have h := h.1 z
        refine e_aload_n (k := 146) (i := 0) rfl rfl 0 rfl ?_
        refine e_callVv (k := 147) (q := 0) (As := []) (rest := []) rfl (c_X12_readNote (g := g) hg (n := n) h) m_X12_readNote i_X12_readNote l_X12_394 rfl ⟨_, rfl, rfl⟩ rfl rfl (Nat.le_of_ble_eq_true rfl) ⟨by decide, by decide, rfl, rfl⟩ (fun _ h => ⟨fun _ z => (by cases z), Or.inr ⟨rfl, h⟩⟩) (fun u5 h => ?_)
        refine e_aload_n (k := 148) (i := 0) rfl rfl 0 rfl ?_
        refine e_iconst (k := 149) (v := (0 : Int32)) rfl (by decide) ?_
        refine e_callVi (k := 150) (q := 0) (As := [.int (0 : Int32)]) (rest := []) rfl (c_X12_addNote (g := g) hg (n := n) h) m_X12_addNote i_X12_addNote l_X12_397 rfl ⟨_, rfl, rfl⟩ rfl rfl (Nat.le_of_ble_eq_true rfl) ⟨by decide, by decide, rfl, rfl⟩ (fun _ h => ⟨fun _ z => (by cases z), Or.inr ⟨rfl, h⟩⟩) (fun r4 u6 h => ?_)
        refine e_istore (k := 151) (i := 4) (lv' := [(0, .ref (gR g 0)), (1, .int y1), (2, .int y2), (3, .int (1 : Int32)), (4, .int r4)]) rfl (by decide) [1, 2, 3, 4, 0] rfl ?_
        refine e_aload_n (k := 152) (i := 0) rfl rfl 0 rfl ?_
        refine e_callVv (k := 153) (q := 0) (As := []) (rest := []) rfl (c_X12_rememberSign (g := g) hg (n := n) h) m_X12_rememberSign i_X12_rememberSign l_X12_400 rfl ⟨_, rfl, rfl⟩ rfl rfl (Nat.le_of_ble_eq_true rfl) ⟨by decide, by decide, rfl, rfl⟩ (fun _ h => ⟨fun _ z => (by cases z), Or.inr ⟨rfl, h⟩⟩) (fun u7 h => ?_)
        refine e_aload_n (k := 154) (i := 0) rfl rfl 0 rfl ?_
        refine e_callVv (k := 155) (q := 0) (As := []) (rest := []) rfl (c_X12_readLength (g := g) hg (n := n) h) m_X12_readLength i_X12_readLength l_X12_403 rfl ⟨_, rfl, rfl⟩ rfl rfl (Nat.le_of_ble_eq_true rfl) ⟨by decide, by decide, rfl, rfl⟩ (fun _ h => ⟨fun _ z => (by cases z), Or.inr ⟨rfl, h⟩⟩) (fun u8 h => ?_)
        refine e_aload_n (k := 156) (i := 0) rfl rfl 0 rfl ?_
        refine e_getC (k := 157) rfl f_X12_93 rfl rfl ?_
        refine e_iconst (k := 158) (v := (0 : Int32)) rfl (by decide) ?_
        refine e_aload_n (k := 159) (i := 0) rfl rfl 0 rfl ?_
        refine e_getI (k := 160) rfl f_X12_303 rfl rfl ?_
        refine e_iast (k := 161) rfl rfl (by unfold vp_in; decide) ?_
        refine e_mlet h (fun u9 h => ?_)
        refine e_aload_n (k := 162) (i := 0) rfl rfl 0 rfl ?_
        refine e_getC (k := 163) rfl f_X12_96 rfl rfl ?_
        refine e_iconst (k := 164) (v := (0 : Int32)) rfl (by decide) ?_
        refine e_aload_n (k := 165) (i := 0) rfl rfl 0 rfl ?_
        refine e_getI (k := 166) rfl f_X12_306 rfl rfl ?_
        refine e_iast (k := 167) rfl rfl (by unfold vp_in; decide) ?_
        refine e_mlet h (fun u10 h => ?_)
        refine e_sub (lv' := [(0, .ref (gR g 0)), (2, .int y2), (3, .int (1 : Int32))]) [0, 2, 3] rfl ?_
        exact s_X12_readTimed_311 hg h
      · have h := h.2 z
        exact s_X12_readTimed_214 hg h
  · have h := h.2 z
    refine e_aload_n (k := 15) (i := 0) rfl rfl 0 rfl ?_
    refine e_dup (k := 16) rfl rfl ?_
    refine e_getI (k := 17) rfl f_X12_138 rfl rfl ?_
    refine e_iconst (k := 18) (v := (1 : Int32)) rfl (by decide) ?_
    refine e_iadd (k := 19) rfl ?_
    refine e_putI (k := 20) rfl fg_X12_138 rfl rfl ?_
    refine e_mlet h (fun u11 h => ?_)
    refine e_iconst (k := 21) (v := (0 : Int32)) rfl (by decide) ?_
    refine e_istore_n (k := 22) (i := 3) (lv' := [(0, .ref (gR g 0)), (1, .int y1), (2, .int y2), (3, .int (0 : Int32))]) rfl rfl (by decide) [1, 2, 3, 0] rfl ?_
    refine e_sub (lv' := [(0, .ref (gR g 0)), (2, .int y2), (3, .int (0 : Int32))]) [0, 2, 3] rfl ?_
    exact s_X12_readTimed_38 hg n y2 (0 : Int32) u11 h
def il_X1_readHead : List (Nat × Instr × Nat) := [(0, .iload_n 1, 1), (1, .bipush 88, 2), (3, .if_icmp .ne 26, 3), (6, .aload_n 0, 1), (7, .getfield 19, 3), (10, .getfield 71, 3), (13, .iconst 0, 1), (14, .aload_n 0, 1), (15, .getfield 9, 3), (18, .sipush 9999, 3), (21, .iconst 0, 1), (22, .invokevirtual 80, 3), (25, .iastore, 1), (26, .goto 209, 3), (29, .iload_n 1, 1), (30, .bipush 84, 2), (32, .if_icmp .ne 49, 3), (35, .aload_n 0, 1), (36, .getfield 19, 3), (39, .aload_n 0, 1), (40, .getfield 9, 3), (43, .getfield 58, 3), (46, .aload_n 0, 1), (47, .getfield 9, 3), (50, .getfield 84, 3), (53, .aload_n 0, 1), (54, .getfield 9, 3), (57, .getfield 58, 3), (60, .isub, 1), (61, .invokevirtual 87, 3), (64, .aload_n 0, 1), (65, .getfield 9, 3), (68, .aload_n 0, 1), (69, .getfield 9, 3), (72, .getfield 84, 3), (75, .putfield 58, 3), (78, .goto 157, 3), (81, .iload_n 1, 1), (82, .bipush 77, 2), (84, .if_icmp .ne 50, 3), (87, .aload_n 0, 1), (88, .getfield 15, 3), (91, .invokevirtual 90, 3), (94, .aload_n 0, 1), (95, .getfield 19, 3), (98, .getfield 71, 3), (101, .iconst 2, 1), (102, .aload_n 0, 1), (103, .getfield 15, 3), (106, .getfield 95, 3), (109, .iastore, 1), (110, .aload_n 0, 1), (111, .getfield 19, 3), (114, .getfield 71, 3), (117, .iconst 3, 1), (118, .aload_n 0, 1), (119, .getfield 15, 3), (122, .getfield 97, 3), (125, .iastore, 1), (126, .aload_n 0, 1), (127, .iconst 1, 1), (128, .putfield 23, 3), (131, .goto 104, 3), (134, .iload_n 1, 1), (135, .bipush 76, 2), (137, .if_icmp .ne 34, 3), (140, .aload_n 0, 1), (141, .getfield 15, 3), (144, .invokevirtual 100, 3), (147, .aload_n 0, 1), (148, .getfield 19, 3), (151, .getfield 71, 3), (154, .iconst 4, 1), (155, .aload_n 0, 1), (156, .getfield 15, 3), (159, .getfield 103, 3), (162, .iastore, 1), (163, .aload_n 0, 1), (164, .iconst 1, 1), (165, .putfield 27, 3), (168, .goto 67, 3), (171, .iload_n 1, 1), (172, .bipush 81, 2), (174, .if_icmp .ne 31, 3), (177, .aload_n 0, 1), (178, .getfield 19, 3), (181, .getfield 71, 3), (184, .iconst 5, 1), (185, .aload_n 0, 1), (186, .getfield 9, 3), (189, .sipush 999, 3), (192, .iconst 0, 1), (193, .invokevirtual 80, 3), (196, .iastore, 1), (197, .aload_n 0, 1), (198, .iconst 1, 1), (199, .putfield 30, 3), (202, .goto 33, 3), (205, .iload_n 1, 1), (206, .bipush 75, 2), (208, .if_icmp .ne 27, 3), (211, .aload_n 0, 1), (212, .getfield 15, 3), (215, .invokevirtual 106, 3), (218, .aload_n 0, 1), (219, .getfield 19, 3), (222, .getfield 71, 3), (225, .bipush 6, 2), (227, .aload_n 0, 1), (228, .getfield 15, 3), (231, .getfield 109, 3), (234, .iastore, 1), (235, .return_, 1)]
set_option maxRecDepth 20000 in
theorem il_X1_readHead_ok : ∀ x ∈ il_X1_readHead, decode cX1_readHead x.1 = .ok x.2 := by decide +kernel
abbrev me_X1_readHead : Me := (RX1, il_X1_readHead, 2, none, xRoom 6, [])
def w_X1_readHead_235 (n : Nat) (u0 : Mm) (Q : Mm → Prop) : Prop :=
  Q u0
def w_X1_readHead (n : Nat) (a0 : Int32) (u0 : Mm) (Q : Mm → Prop) : Prop :=
  (¬ a0 = (88 : Int32) → (¬ a0 = (84 : Int32) → (¬ a0 = (77 : Int32) → (¬ a0 = (76 : Int32) → (¬ a0 = (81 : Int32) → (¬ a0 = (75 : Int32) → w_X1_readHead_235 n u0 Q) ∧
  (a0 = (75 : Int32) → w_X0_readKey n u0 (fun u1 =>
  mlet (setI u1 43 (ix (6 : Int32)) (u1.1 34 4)) fun u2 =>
  w_X1_readHead_235 n u2 Q))) ∧
  (a0 = (81 : Int32) → w_X5_number n (999 : Int32) (0 : Int32) u0 (fun r1 u3 =>
  mlet (setI u3 43 (ix (5 : Int32)) r1) fun u4 =>
  mlet (setI u4 37 5 (1 : Int32)) fun u5 =>
  w_X1_readHead_235 n u5 Q))) ∧
  (a0 = (76 : Int32) → w_X0_readUnit n u0 (fun u6 =>
  mlet (setI u6 43 (ix (4 : Int32)) (u6.1 34 3)) fun u7 =>
  mlet (setI u7 37 4 (1 : Int32)) fun u8 =>
  w_X1_readHead_235 n u8 Q))) ∧
  (a0 = (77 : Int32) → w_X0_readMeter n u0 (fun u9 =>
  mlet (setI u9 43 (ix (2 : Int32)) (u9.1 34 1)) fun u10 =>
  mlet (setI u10 43 (ix (3 : Int32)) (u10.1 34 2)) fun u11 =>
  mlet (setI u11 37 3 (1 : Int32)) fun u12 =>
  w_X1_readHead_235 n u12 Q))) ∧
  (a0 = (84 : Int32) → w_X7_addTitle n (u0.1 33 2) ((u0.1 33 4) - (u0.1 33 2)) u0 (fun u13 =>
  mlet (setI u13 33 2 (u13.1 33 4)) fun u14 =>
  w_X1_readHead_235 n u14 Q))) ∧
  (a0 = (88 : Int32) → w_X5_number n (9999 : Int32) (0 : Int32) u0 (fun r2 u15 =>
  mlet (setI u15 43 (ix (0 : Int32)) r2) fun u16 =>
  w_X1_readHead_235 n u16 Q))
set_option maxRecDepth 20000 in
theorem s_X1_readHead_235 {g : Gb} (hg : xInj g) {n : Nat} {Q : Mm → Prop} {u0 : Mm} (h : w_X1_readHead_235 n  u0 Q) : xE g me_X1_readHead (pV g Q noT) 235 [] [] u0 := by
  unfold w_X1_readHead_235 at h
  exact e_vret (k := 112) rfl rfl (Or.inl ⟨rfl, h⟩)
set_option maxRecDepth 20000 in
theorem c_X1_readHead {g : Gb} (hg : xInj g) {n : Nat} {a0 : Int32} {u0 : Mm} {Q : Mm → Prop} (h : w_X1_readHead n a0 u0 Q) : xMet (gL g) yX1_readHead (xws yX1_readHead cX1_readHead 2 none) (xRoom 6) (xPc g [.ref (gR g 37), .int a0] u0) (xQ g (pV g Q noT)) (xA g) := by
  refine xbody (il := il_X1_readHead) hg il_X1_readHead_ok m_X1_readHead (Nat.le_of_ble_eq_true rfl) ?_
  show xE g me_X1_readHead (pV g Q noT) 0 [(0, .ref (gR g 37)), (1, .int a0)] [] u0
  unfold w_X1_readHead at h
  refine e_iload_n (k := 0) (i := 1) rfl rfl 1 rfl ?_
  refine e_bipush (k := 1) (v := (88 : Int32)) rfl (by decide) ?_
  refine e_icmp_ne (k := 2) (tgt := 29) rfl (by decide) (fun z => ?_) (fun z => ?_)
  · have h := h.1 z
    refine e_iload_n (k := 14) (i := 1) rfl rfl 1 rfl ?_
    refine e_bipush (k := 15) (v := (84 : Int32)) rfl (by decide) ?_
    refine e_icmp_ne (k := 16) (tgt := 81) rfl (by decide) (fun z => ?_) (fun z => ?_)
    · have h := h.1 z
      refine e_iload_n (k := 37) (i := 1) rfl rfl 1 rfl ?_
      refine e_bipush (k := 38) (v := (77 : Int32)) rfl (by decide) ?_
      refine e_icmp_ne (k := 39) (tgt := 134) rfl (by decide) (fun z => ?_) (fun z => ?_)
      · have h := h.1 z
        refine e_iload_n (k := 63) (i := 1) rfl rfl 1 rfl ?_
        refine e_bipush (k := 64) (v := (76 : Int32)) rfl (by decide) ?_
        refine e_icmp_ne (k := 65) (tgt := 171) rfl (by decide) (fun z => ?_) (fun z => ?_)
        · have h := h.1 z
          refine e_iload_n (k := 81) (i := 1) rfl rfl 1 rfl ?_
          refine e_bipush (k := 82) (v := (81 : Int32)) rfl (by decide) ?_
          refine e_icmp_ne (k := 83) (tgt := 205) rfl (by decide) (fun z => ?_) (fun z => ?_)
          · have h := h.1 z
            refine e_iload_n (k := 98) (i := 1) rfl rfl 1 rfl ?_
            refine e_bipush (k := 99) (v := (75 : Int32)) rfl (by decide) ?_
            refine e_icmp_ne (k := 100) (tgt := 235) rfl (by decide) (fun z => ?_) (fun z => ?_)
            · have h := h.1 z
              refine e_sub (lv' := []) [] rfl ?_
              exact s_X1_readHead_235 hg h
            · have h := h.2 z
              refine e_aload_n (k := 101) (i := 0) rfl rfl 0 rfl ?_
              refine e_getC (k := 102) rfl f_X1_15 rfl rfl ?_
              refine e_callVv (k := 103) (q := 34) (As := []) (rest := []) rfl (c_X0_readKey (g := g) hg (n := n) h) m_X0_readKey i_X0_readKey l_X1_106 rfl ⟨_, rfl, rfl⟩ rfl rfl (Nat.le_of_ble_eq_true rfl) ⟨by decide, by decide, rfl, rfl⟩ (fun _ h => h.elim) (fun u1 h => ?_)
              refine e_aload_n (k := 104) (i := 0) rfl rfl 0 rfl ?_
              refine e_getC (k := 105) rfl f_X1_19 rfl rfl ?_
              refine e_getC (k := 106) rfl f_X1_71 rfl rfl ?_
              refine e_bipush (k := 107) (v := (6 : Int32)) rfl (by decide) ?_
              refine e_aload_n (k := 108) (i := 0) rfl rfl 0 rfl ?_
              refine e_getC (k := 109) rfl f_X1_15 rfl rfl ?_
              refine e_getI (k := 110) rfl f_X1_109 rfl rfl ?_
              refine e_iast (k := 111) rfl rfl (by unfold vp_in; decide) ?_
              refine e_mlet h (fun u2 h => ?_)
              refine e_sub (lv' := []) [] rfl ?_
              exact s_X1_readHead_235 hg h
          · have h := h.2 z
            refine e_aload_n (k := 84) (i := 0) rfl rfl 0 rfl ?_
            refine e_getC (k := 85) rfl f_X1_19 rfl rfl ?_
            refine e_getC (k := 86) rfl f_X1_71 rfl rfl ?_
            refine e_iconst (k := 87) (v := (5 : Int32)) rfl (by decide) ?_
            refine e_aload_n (k := 88) (i := 0) rfl rfl 0 rfl ?_
            refine e_getC (k := 89) rfl f_X1_9 rfl rfl ?_
            refine e_sipush (k := 90) (v := (999 : Int32)) rfl (by decide) ?_
            refine e_iconst (k := 91) (v := (0 : Int32)) rfl (by decide) ?_
            refine e_callVi (k := 92) (q := 33) (As := [.int (999 : Int32), .int (0 : Int32)]) (rest := [.int (5 : Int32), .ref (gR g 43)]) rfl (c_X5_number (g := g) hg (n := n) h) m_X5_number i_X5_number l_X1_80 rfl ⟨_, rfl, rfl⟩ rfl rfl (Nat.le_of_ble_eq_true rfl) ⟨by decide, by decide, rfl, rfl⟩ (fun _ h => h.elim) (fun r1 u3 h => ?_)
            refine e_iast (k := 93) rfl rfl (by unfold vp_in; decide) ?_
            refine e_mlet h (fun u4 h => ?_)
            refine e_aload_n (k := 94) (i := 0) rfl rfl 0 rfl ?_
            refine e_iconst (k := 95) (v := (1 : Int32)) rfl (by decide) ?_
            refine e_putZ (k := 96) rfl fg_X1_30 rfl rfl (Or.inr rfl) ?_
            refine e_mlet h (fun u5 h => ?_)
            refine e_goto (k := 97) (tgt := 235) rfl (by decide) ?_
            refine e_sub (lv' := []) [] rfl ?_
            exact s_X1_readHead_235 hg h
        · have h := h.2 z
          refine e_aload_n (k := 66) (i := 0) rfl rfl 0 rfl ?_
          refine e_getC (k := 67) rfl f_X1_15 rfl rfl ?_
          refine e_callVv (k := 68) (q := 34) (As := []) (rest := []) rfl (c_X0_readUnit (g := g) hg (n := n) h) m_X0_readUnit i_X0_readUnit l_X1_100 rfl ⟨_, rfl, rfl⟩ rfl rfl (Nat.le_of_ble_eq_true rfl) ⟨by decide, by decide, rfl, rfl⟩ (fun _ h => h.elim) (fun u6 h => ?_)
          refine e_aload_n (k := 69) (i := 0) rfl rfl 0 rfl ?_
          refine e_getC (k := 70) rfl f_X1_19 rfl rfl ?_
          refine e_getC (k := 71) rfl f_X1_71 rfl rfl ?_
          refine e_iconst (k := 72) (v := (4 : Int32)) rfl (by decide) ?_
          refine e_aload_n (k := 73) (i := 0) rfl rfl 0 rfl ?_
          refine e_getC (k := 74) rfl f_X1_15 rfl rfl ?_
          refine e_getI (k := 75) rfl f_X1_103 rfl rfl ?_
          refine e_iast (k := 76) rfl rfl (by unfold vp_in; decide) ?_
          refine e_mlet h (fun u7 h => ?_)
          refine e_aload_n (k := 77) (i := 0) rfl rfl 0 rfl ?_
          refine e_iconst (k := 78) (v := (1 : Int32)) rfl (by decide) ?_
          refine e_putZ (k := 79) rfl fg_X1_27 rfl rfl (Or.inr rfl) ?_
          refine e_mlet h (fun u8 h => ?_)
          refine e_goto (k := 80) (tgt := 235) rfl (by decide) ?_
          refine e_sub (lv' := []) [] rfl ?_
          exact s_X1_readHead_235 hg h
      · have h := h.2 z
        refine e_aload_n (k := 40) (i := 0) rfl rfl 0 rfl ?_
        refine e_getC (k := 41) rfl f_X1_15 rfl rfl ?_
        refine e_callVv (k := 42) (q := 34) (As := []) (rest := []) rfl (c_X0_readMeter (g := g) hg (n := n) h) m_X0_readMeter i_X0_readMeter l_X1_90 rfl ⟨_, rfl, rfl⟩ rfl rfl (Nat.le_of_ble_eq_true rfl) ⟨by decide, by decide, rfl, rfl⟩ (fun _ h => h.elim) (fun u9 h => ?_)
        refine e_aload_n (k := 43) (i := 0) rfl rfl 0 rfl ?_
        refine e_getC (k := 44) rfl f_X1_19 rfl rfl ?_
        refine e_getC (k := 45) rfl f_X1_71 rfl rfl ?_
        refine e_iconst (k := 46) (v := (2 : Int32)) rfl (by decide) ?_
        refine e_aload_n (k := 47) (i := 0) rfl rfl 0 rfl ?_
        refine e_getC (k := 48) rfl f_X1_15 rfl rfl ?_
        refine e_getI (k := 49) rfl f_X1_95 rfl rfl ?_
        refine e_iast (k := 50) rfl rfl (by unfold vp_in; decide) ?_
        refine e_mlet h (fun u10 h => ?_)
        refine e_aload_n (k := 51) (i := 0) rfl rfl 0 rfl ?_
        refine e_getC (k := 52) rfl f_X1_19 rfl rfl ?_
        refine e_getC (k := 53) rfl f_X1_71 rfl rfl ?_
        refine e_iconst (k := 54) (v := (3 : Int32)) rfl (by decide) ?_
        refine e_aload_n (k := 55) (i := 0) rfl rfl 0 rfl ?_
        refine e_getC (k := 56) rfl f_X1_15 rfl rfl ?_
        refine e_getI (k := 57) rfl f_X1_97 rfl rfl ?_
        refine e_iast (k := 58) rfl rfl (by unfold vp_in; decide) ?_
        refine e_mlet h (fun u11 h => ?_)
        refine e_aload_n (k := 59) (i := 0) rfl rfl 0 rfl ?_
        refine e_iconst (k := 60) (v := (1 : Int32)) rfl (by decide) ?_
        refine e_putZ (k := 61) rfl fg_X1_23 rfl rfl (Or.inr rfl) ?_
        refine e_mlet h (fun u12 h => ?_)
        refine e_goto (k := 62) (tgt := 235) rfl (by decide) ?_
        refine e_sub (lv' := []) [] rfl ?_
        exact s_X1_readHead_235 hg h
    · have h := h.2 z
      refine e_aload_n (k := 17) (i := 0) rfl rfl 0 rfl ?_
      refine e_getC (k := 18) rfl f_X1_19 rfl rfl ?_
      refine e_aload_n (k := 19) (i := 0) rfl rfl 0 rfl ?_
      refine e_getC (k := 20) rfl f_X1_9 rfl rfl ?_
      refine e_getI (k := 21) rfl f_X1_58 rfl rfl ?_
      refine e_aload_n (k := 22) (i := 0) rfl rfl 0 rfl ?_
      refine e_getC (k := 23) rfl f_X1_9 rfl rfl ?_
      refine e_getI (k := 24) rfl f_X1_84 rfl rfl ?_
      refine e_aload_n (k := 25) (i := 0) rfl rfl 0 rfl ?_
      refine e_getC (k := 26) rfl f_X1_9 rfl rfl ?_
      refine e_getI (k := 27) rfl f_X1_58 rfl rfl ?_
      refine e_isub (k := 28) rfl ?_
      refine e_callVv (k := 29) (q := 35) (As := [.int (u0.1 33 2), .int ((u0.1 33 4) - (u0.1 33 2))]) (rest := []) rfl (c_X7_addTitle (g := g) hg (n := n) h) m_X7_addTitle i_X7_addTitle l_X1_87 rfl ⟨_, rfl, rfl⟩ rfl rfl (Nat.le_of_ble_eq_true rfl) ⟨by decide, by decide, rfl, rfl⟩ (fun _ h => h.elim) (fun u13 h => ?_)
      refine e_aload_n (k := 30) (i := 0) rfl rfl 0 rfl ?_
      refine e_getC (k := 31) rfl f_X1_9 rfl rfl ?_
      refine e_aload_n (k := 32) (i := 0) rfl rfl 0 rfl ?_
      refine e_getC (k := 33) rfl f_X1_9 rfl rfl ?_
      refine e_getI (k := 34) rfl f_X1_84 rfl rfl ?_
      refine e_putI (k := 35) rfl fg_X1_58 rfl rfl ?_
      refine e_mlet h (fun u14 h => ?_)
      refine e_goto (k := 36) (tgt := 235) rfl (by decide) ?_
      refine e_sub (lv' := []) [] rfl ?_
      exact s_X1_readHead_235 hg h
  · have h := h.2 z
    refine e_aload_n (k := 3) (i := 0) rfl rfl 0 rfl ?_
    refine e_getC (k := 4) rfl f_X1_19 rfl rfl ?_
    refine e_getC (k := 5) rfl f_X1_71 rfl rfl ?_
    refine e_iconst (k := 6) (v := (0 : Int32)) rfl (by decide) ?_
    refine e_aload_n (k := 7) (i := 0) rfl rfl 0 rfl ?_
    refine e_getC (k := 8) rfl f_X1_9 rfl rfl ?_
    refine e_sipush (k := 9) (v := (9999 : Int32)) rfl (by decide) ?_
    refine e_iconst (k := 10) (v := (0 : Int32)) rfl (by decide) ?_
    refine e_callVi (k := 11) (q := 33) (As := [.int (9999 : Int32), .int (0 : Int32)]) (rest := [.int (0 : Int32), .ref (gR g 43)]) rfl (c_X5_number (g := g) hg (n := n) h) m_X5_number i_X5_number l_X1_80 rfl ⟨_, rfl, rfl⟩ rfl rfl (Nat.le_of_ble_eq_true rfl) ⟨by decide, by decide, rfl, rfl⟩ (fun _ h => h.elim) (fun r2 u15 h => ?_)
    refine e_iast (k := 12) rfl rfl (by unfold vp_in; decide) ?_
    refine e_mlet h (fun u16 h => ?_)
    refine e_goto (k := 13) (tgt := 235) rfl (by decide) ?_
    refine e_sub (lv' := []) [] rfl ?_
    exact s_X1_readHead_235 hg h
def il_X4_readBroken : List (Nat × Instr × Nat) := [(0, .aload_n 0, 1), (1, .getfield 9, 3), (4, .getfield 123, 3), (7, .istore_n 2, 1), (8, .iload_n 1, 1), (9, .ifCond .ne 13, 3), (12, .aload_n 0, 1), (13, .getfield 9, 3), (16, .iconst 5, 1), (17, .iload_n 2, 1), (18, .invokevirtual 93, 3), (21, .return_, 1), (22, .aload_n 0, 1), (23, .getfield 9, 3), (26, .iconst 0, 1), (27, .invokevirtual 126, 3), (30, .istore_n 3, 1), (31, .iconst 1, 1), (32, .istore 4, 2), (34, .iload 4, 2), (36, .bipush 8, 2), (38, .if_icmp .ge 37, 3), (41, .aload_n 0, 1), (42, .getfield 9, 3), (45, .iconst 0, 1), (46, .invokevirtual 126, 3), (49, .iload_n 3, 1), (50, .if_icmp .ne 25, 3), (53, .iload 4, 2), (55, .iconst 2, 1), (56, .imul, 1), (57, .istore 4, 2), (59, .aload_n 0, 1), (60, .getfield 9, 3), (63, .dup, 1), (64, .getfield 123, 3), (67, .iconst 1, 1), (68, .iadd, 1), (69, .putfield 123, 3), (72, .goto (-38), 3), (75, .aload_n 0, 1), (76, .getfield 9, 3), (79, .invokevirtual 130, 3), (82, .aload_n 0, 1), (83, .invokevirtual 204, 3), (86, .istore 5, 2), (88, .iload 5, 2), (90, .iconst 1, 1), (91, .if_icmp .eq 31, 3), (94, .iload 5, 2), (96, .iconst 3, 1), (97, .if_icmp .eq 25, 3), (100, .iload 5, 2), (102, .iconst 2, 1), (103, .if_icmp .eq 19, 3), (106, .aload_n 0, 1), (107, .getfield 9, 3), (110, .iconst 5, 1), (111, .aload_n 0, 1), (112, .getfield 9, 3), (115, .getfield 123, 3), (118, .invokevirtual 93, 3), (121, .return_, 1), (122, .iconst 2, 1), (123, .iload 4, 2), (125, .imul, 1), (126, .iconst 1, 1), (127, .isub, 1), (128, .istore 6, 2), (130, .aload_n 0, 1), (131, .iload_n 3, 1), (132, .bipush 62, 2), (134, .if_icmp .ne 8, 3), (137, .iload 6, 2), (139, .goto 4, 3), (142, .iconst 1, 1), (143, .iload 4, 2), (145, .invokevirtual 370, 3), (148, .aload_n 0, 1), (149, .getfield 33, 3), (152, .iload_n 3, 1), (153, .bipush 62, 2), (155, .if_icmp .ne 7, 3), (158, .iconst 1, 1), (159, .goto 5, 3), (162, .iload 6, 2), (164, .putfield 373, 3), (167, .aload_n 0, 1), (168, .getfield 33, 3), (171, .iload 4, 2), (173, .putfield 376, 3), (176, .return_, 1)]
set_option maxRecDepth 20000 in
theorem il_X4_readBroken_ok : ∀ x ∈ il_X4_readBroken, decode cX4_readBroken x.1 = .ok x.2 := by decide +kernel
abbrev me_X4_readBroken : Me := (RX4, il_X4_readBroken, 7, none, xRoom 6, [])
def w_X4_readBroken_164 (n : Nat) (x4 : Int32) (t0 : Int32) (u0 : Mm) (Q : Mm → Prop) : Prop :=
  mlet (setI u0 39 6 t0) fun u1 =>
  mlet (setI u1 39 7 x4) fun u2 =>
  Q u2
def w_X4_readBroken_143 (n : Nat) (x3 : Int32) (x4 : Int32) (x6 : Int32) (t0 : Int32) (u0 : Mm) (Q : Mm → Prop) : Prop :=
  w_X4_changeLatest n t0 x4 u0 (fun u1 =>
  (¬ x3 = (62 : Int32) → w_X4_readBroken_164 n x4 x6 u1 Q) ∧
  (x3 = (62 : Int32) → w_X4_readBroken_164 n x4 (1 : Int32) u1 Q))
def w_X4_readBroken_122 (n : Nat) (x3 : Int32) (x4 : Int32) (u0 : Mm) (Q : Mm → Prop) : Prop :=
  ilet (((2 : Int32) * x4) - (1 : Int32)) fun y1 =>
  (¬ x3 = (62 : Int32) → w_X4_readBroken_143 n x3 x4 y1 (1 : Int32) u0 Q) ∧
  (x3 = (62 : Int32) → w_X4_readBroken_143 n x3 x4 y1 y1 u0 Q)
def w_X4_readBroken_75 (n : Nat) (x3 : Int32) (x4 : Int32) (u0 : Mm) (Q : Mm → Prop) : Prop :=
  w_X5_skipBlanks n u0 (fun u1 =>
  w_X4_formHere n u1 (fun r1 u2 =>
  (r1 = (1 : Int32) → w_X4_readBroken_122 n x3 x4 u2 Q) ∧
  (¬ r1 = (1 : Int32) → (r1 = (3 : Int32) → w_X4_readBroken_122 n x3 x4 u2 Q) ∧
  (¬ r1 = (3 : Int32) → (r1 = (2 : Int32) → w_X4_readBroken_122 n x3 x4 u2 Q) ∧
  (¬ r1 = (2 : Int32) → w_X5_fail n (5 : Int32) (u2.1 33 2) u2 (fun u3 =>
  Q u3))))))
def w_X4_readBroken_34 (n : Nat) (Q : Mm → Prop) : Nat → Int32 → Int32 → Mm → Prop
  | 0, _, _, _ => False
  | k + 1, x3, x4, u0 =>
  ((8 : Int32) ≤ x4 → w_X4_readBroken_75 n x3 x4 u0 Q) ∧
  (¬ (8 : Int32) ≤ x4 → w_X5_peek n (0 : Int32) u0 (fun r1 u1 =>
  (¬ r1 = x3 → w_X4_readBroken_75 n x3 x4 u1 Q) ∧
  (r1 = x3 → ilet (x4 * (2 : Int32)) fun y1 =>
  mlet (setI u1 33 2 ((u1.1 33 2) + (1 : Int32))) fun u2 =>
  (w_X4_readBroken_34 n Q k) x3 y1 u2)))
def w_X4_readBroken (n : Nat) (a0 : Int32) (u0 : Mm) (Q : Mm → Prop) : Prop :=
  ilet (u0.1 33 2) fun y1 =>
  (¬ a0 = 0 → w_X5_peek n (0 : Int32) u0 (fun r1 u1 =>
  (w_X4_readBroken_34 n Q n) r1 (1 : Int32) u1)) ∧
  (a0 = 0 → w_X5_fail n (5 : Int32) y1 u0 (fun u2 =>
  Q u2))
set_option maxRecDepth 20000 in
theorem s_X4_readBroken_164 {g : Gb} (hg : xInj g) {n : Nat} {Q : Mm → Prop} {x4 : Int32} {t0 : Int32} {u0 : Mm} (h : w_X4_readBroken_164 n x4 t0 u0 Q) : xE g me_X4_readBroken (pV g Q noT) 164 [(0, .ref (gR g 38)), (4, .int x4)] [.int t0, .ref (gR g 39)] u0 := by
  unfold w_X4_readBroken_164 at h
  refine e_putI (k := 86) rfl fg_X4_373 rfl rfl ?_
  refine e_mlet h (fun u1 h => ?_)
  refine e_aload_n (k := 87) (i := 0) rfl rfl 0 rfl ?_
  refine e_getC (k := 88) rfl f_X4_33 rfl rfl ?_
  refine e_iload (k := 89) (i := 4) rfl 1 rfl ?_
  refine e_putI (k := 90) rfl fg_X4_376 rfl rfl ?_
  refine e_mlet h (fun u2 h => ?_)
  exact e_vret (k := 91) rfl rfl (Or.inl ⟨rfl, h⟩)
set_option maxRecDepth 20000 in
theorem s_X4_readBroken_143 {g : Gb} (hg : xInj g) {n : Nat} {Q : Mm → Prop} {x3 : Int32} {x4 : Int32} {x6 : Int32} {t0 : Int32} {u0 : Mm} (h : w_X4_readBroken_143 n x3 x4 x6 t0 u0 Q) : xE g me_X4_readBroken (pV g Q noT) 143 [(0, .ref (gR g 38)), (3, .int x3), (4, .int x4), (6, .int x6)] [.int t0, .ref (gR g 38)] u0 := by
  unfold w_X4_readBroken_143 at h
  refine e_iload (k := 76) (i := 4) rfl 2 rfl ?_
  refine e_callVv (k := 77) (q := 38) (As := [.int t0, .int x4]) (rest := []) rfl (c_X4_changeLatest (g := g) hg (n := n) h) m_X4_changeLatest i_X4_changeLatest l_X4_370 rfl ⟨_, rfl, rfl⟩ rfl rfl (Nat.le_of_ble_eq_true rfl) ⟨by decide, by decide, rfl, rfl⟩ (fun _ h => h.elim) (fun u1 h => ?_)
  refine e_aload_n (k := 78) (i := 0) rfl rfl 0 rfl ?_
  refine e_getC (k := 79) rfl f_X4_33 rfl rfl ?_
  refine e_iload_n (k := 80) (i := 3) rfl rfl 1 rfl ?_
  refine e_bipush (k := 81) (v := (62 : Int32)) rfl (by decide) ?_
  refine e_icmp_ne (k := 82) (tgt := 162) rfl (by decide) (fun z => ?_) (fun z => ?_)
  · have h := h.1 z
    refine e_iload (k := 85) (i := 6) rfl 3 rfl ?_
    refine e_sub (lv' := [(0, .ref (gR g 38)), (4, .int x4)]) [0, 2] rfl ?_
    exact s_X4_readBroken_164 hg h
  · have h := h.2 z
    refine e_iconst (k := 83) (v := (1 : Int32)) rfl (by decide) ?_
    refine e_goto (k := 84) (tgt := 164) rfl (by decide) ?_
    refine e_sub (lv' := [(0, .ref (gR g 38)), (4, .int x4)]) [0, 2] rfl ?_
    exact s_X4_readBroken_164 hg h
set_option maxRecDepth 20000 in
theorem s_X4_readBroken_122 {g : Gb} (hg : xInj g) {n : Nat} {Q : Mm → Prop} {x3 : Int32} {x4 : Int32} {u0 : Mm} (h : w_X4_readBroken_122 n x3 x4 u0 Q) : xE g me_X4_readBroken (pV g Q noT) 122 [(0, .ref (gR g 38)), (3, .int x3), (4, .int x4)] [] u0 := by
  unfold w_X4_readBroken_122 at h
  refine e_iconst (k := 63) (v := (2 : Int32)) rfl (by decide) ?_
  refine e_iload (k := 64) (i := 4) rfl 2 rfl ?_
  refine e_imul (k := 65) rfl ?_
  refine e_iconst (k := 66) (v := (1 : Int32)) rfl (by decide) ?_
  refine e_isub (k := 67) rfl ?_
  refine e_ilet h (fun y1 h => ?_)
  refine e_istore (k := 68) (i := 6) (lv' := [(0, .ref (gR g 38)), (3, .int x3), (4, .int x4), (6, .int y1)]) rfl (by decide) [1, 2, 3, 0] rfl ?_
  refine e_aload_n (k := 69) (i := 0) rfl rfl 0 rfl ?_
  refine e_iload_n (k := 70) (i := 3) rfl rfl 1 rfl ?_
  refine e_bipush (k := 71) (v := (62 : Int32)) rfl (by decide) ?_
  refine e_icmp_ne (k := 72) (tgt := 142) rfl (by decide) (fun z => ?_) (fun z => ?_)
  · have h := h.1 z
    refine e_iconst (k := 75) (v := (1 : Int32)) rfl (by decide) ?_
    exact s_X4_readBroken_143 hg h
  · have h := h.2 z
    refine e_iload (k := 73) (i := 6) rfl 3 rfl ?_
    refine e_goto (k := 74) (tgt := 143) rfl (by decide) ?_
    exact s_X4_readBroken_143 hg h
set_option maxRecDepth 20000 in
theorem s_X4_readBroken_75 {g : Gb} (hg : xInj g) {n : Nat} {Q : Mm → Prop} {x3 : Int32} {x4 : Int32} {u0 : Mm} (h : w_X4_readBroken_75 n x3 x4 u0 Q) : xE g me_X4_readBroken (pV g Q noT) 75 [(0, .ref (gR g 38)), (3, .int x3), (4, .int x4)] [] u0 := by
  unfold w_X4_readBroken_75 at h
  refine e_aload_n (k := 40) (i := 0) rfl rfl 0 rfl ?_
  refine e_getC (k := 41) rfl f_X4_9 rfl rfl ?_
  refine e_callVv (k := 42) (q := 33) (As := []) (rest := []) rfl (c_X5_skipBlanks (g := g) hg (n := n) h) m_X5_skipBlanks i_X5_skipBlanks l_X4_130 rfl ⟨_, rfl, rfl⟩ rfl rfl (Nat.le_of_ble_eq_true rfl) ⟨by decide, by decide, rfl, rfl⟩ (fun _ h => h.elim) (fun u1 h => ?_)
  refine e_aload_n (k := 43) (i := 0) rfl rfl 0 rfl ?_
  refine e_callVi (k := 44) (q := 38) (As := []) (rest := []) rfl (c_X4_formHere (g := g) hg (n := n) h) m_X4_formHere i_X4_formHere l_X4_204 rfl ⟨_, rfl, rfl⟩ rfl rfl (Nat.le_of_ble_eq_true rfl) ⟨by decide, by decide, rfl, rfl⟩ (fun _ h => h.elim) (fun r1 u2 h => ?_)
  refine e_istore (k := 45) (i := 5) (lv' := [(0, .ref (gR g 38)), (3, .int x3), (4, .int x4), (5, .int r1)]) rfl (by decide) [1, 2, 3, 0] rfl ?_
  refine e_iload (k := 46) (i := 5) rfl 3 rfl ?_
  refine e_iconst (k := 47) (v := (1 : Int32)) rfl (by decide) ?_
  refine e_icmp_eq (k := 48) (tgt := 122) rfl (by decide) (fun z => ?_) (fun z => ?_)
  · have h := h.1 z
    refine e_sub (lv' := [(0, .ref (gR g 38)), (3, .int x3), (4, .int x4)]) [0, 1, 2] rfl ?_
    exact s_X4_readBroken_122 hg h
  · have h := h.2 z
    refine e_iload (k := 49) (i := 5) rfl 3 rfl ?_
    refine e_iconst (k := 50) (v := (3 : Int32)) rfl (by decide) ?_
    refine e_icmp_eq (k := 51) (tgt := 122) rfl (by decide) (fun z => ?_) (fun z => ?_)
    · have h := h.1 z
      refine e_sub (lv' := [(0, .ref (gR g 38)), (3, .int x3), (4, .int x4)]) [0, 1, 2] rfl ?_
      exact s_X4_readBroken_122 hg h
    · have h := h.2 z
      refine e_iload (k := 52) (i := 5) rfl 3 rfl ?_
      refine e_iconst (k := 53) (v := (2 : Int32)) rfl (by decide) ?_
      refine e_icmp_eq (k := 54) (tgt := 122) rfl (by decide) (fun z => ?_) (fun z => ?_)
      · have h := h.1 z
        refine e_sub (lv' := [(0, .ref (gR g 38)), (3, .int x3), (4, .int x4)]) [0, 1, 2] rfl ?_
        exact s_X4_readBroken_122 hg h
      · have h := h.2 z
        refine e_aload_n (k := 55) (i := 0) rfl rfl 0 rfl ?_
        refine e_getC (k := 56) rfl f_X4_9 rfl rfl ?_
        refine e_iconst (k := 57) (v := (5 : Int32)) rfl (by decide) ?_
        refine e_aload_n (k := 58) (i := 0) rfl rfl 0 rfl ?_
        refine e_getC (k := 59) rfl f_X4_9 rfl rfl ?_
        refine e_getI (k := 60) rfl f_X4_123 rfl rfl ?_
        refine e_callVv (k := 61) (q := 33) (As := [.int (5 : Int32), .int (u2.1 33 2)]) (rest := []) rfl (c_X5_fail (g := g) hg (n := n) h) m_X5_fail i_X5_fail l_X4_93 rfl ⟨_, rfl, rfl⟩ rfl rfl (Nat.le_of_ble_eq_true rfl) ⟨by decide, by decide, rfl, rfl⟩ (fun _ h => h.elim) (fun u3 h => ?_)
        exact e_vret (k := 62) rfl rfl (Or.inl ⟨rfl, h⟩)
set_option maxRecDepth 20000 in
theorem s_X4_readBroken_34 {g : Gb} (hg : xInj g) {n : Nat} {Q : Mm → Prop} : ∀ (k : Nat) (x3 : Int32) (x4 : Int32) (u0 : Mm), w_X4_readBroken_34 n Q k x3 x4 u0 → xE g me_X4_readBroken (pV g Q noT) 34 [(0, .ref (gR g 38)), (3, .int x3), (4, .int x4)] [] u0 := by
  intro k
  induction k with
  | zero => intro x3 x4 u0 h; exact h.elim
  | succ k ih =>
    intro x3 x4 u0 h
    unfold w_X4_readBroken_34 at h
    refine e_iload (k := 19) (i := 4) rfl 2 rfl ?_
    refine e_bipush (k := 20) (v := (8 : Int32)) rfl (by decide) ?_
    refine e_icmp_ge (k := 21) (tgt := 75) rfl (by decide) (fun z => ?_) (fun z => ?_)
    · have h := h.1 z
      exact s_X4_readBroken_75 hg h
    · have h := h.2 z
      refine e_aload_n (k := 22) (i := 0) rfl rfl 0 rfl ?_
      refine e_getC (k := 23) rfl f_X4_9 rfl rfl ?_
      refine e_iconst (k := 24) (v := (0 : Int32)) rfl (by decide) ?_
      refine e_callVi (k := 25) (q := 33) (As := [.int (0 : Int32)]) (rest := []) rfl (c_X5_peek (g := g) hg (n := n) h) m_X5_peek i_X5_peek l_X4_126 rfl ⟨_, rfl, rfl⟩ rfl rfl (Nat.le_of_ble_eq_true rfl) ⟨by decide, by decide, rfl, rfl⟩ (fun _ h => h.elim) (fun r1 u1 h => ?_)
      refine e_iload_n (k := 26) (i := 3) rfl rfl 1 rfl ?_
      refine e_icmp_ne (k := 27) (tgt := 75) rfl (by decide) (fun z => ?_) (fun z => ?_)
      · have h := h.1 z
        exact s_X4_readBroken_75 hg h
      · have h := h.2 z
        refine e_iload (k := 28) (i := 4) rfl 2 rfl ?_
        refine e_iconst (k := 29) (v := (2 : Int32)) rfl (by decide) ?_
        refine e_imul (k := 30) rfl ?_
        refine e_ilet h (fun y1 h => ?_)
        refine e_istore (k := 31) (i := 4) (lv' := [(0, .ref (gR g 38)), (3, .int x3), (4, .int y1)]) rfl (by decide) [1, 2, 0] rfl ?_
        refine e_aload_n (k := 32) (i := 0) rfl rfl 0 rfl ?_
        refine e_getC (k := 33) rfl f_X4_9 rfl rfl ?_
        refine e_dup (k := 34) rfl rfl ?_
        refine e_getI (k := 35) rfl f_X4_123 rfl rfl ?_
        refine e_iconst (k := 36) (v := (1 : Int32)) rfl (by decide) ?_
        refine e_iadd (k := 37) rfl ?_
        refine e_putI (k := 38) rfl fg_X4_123 rfl rfl ?_
        refine e_mlet h (fun u2 h => ?_)
        refine e_goto (k := 39) (tgt := 34) rfl (by decide) ?_
        exact ih x3 y1 u2 h
set_option maxRecDepth 20000 in
theorem c_X4_readBroken {g : Gb} (hg : xInj g) {n : Nat} {a0 : Int32} {u0 : Mm} {Q : Mm → Prop} (h : w_X4_readBroken n a0 u0 Q) : xMet (gL g) yX4_readBroken (xws yX4_readBroken cX4_readBroken 7 none) (xRoom 6) (xPc g [.ref (gR g 38), .int a0] u0) (xQ g (pV g Q noT)) (xA g) := by
  refine xbody (il := il_X4_readBroken) hg il_X4_readBroken_ok m_X4_readBroken (Nat.le_of_ble_eq_true rfl) ?_
  show xE g me_X4_readBroken (pV g Q noT) 0 [(0, .ref (gR g 38)), (1, .int a0)] [] u0
  unfold w_X4_readBroken at h
  refine e_aload_n (k := 0) (i := 0) rfl rfl 0 rfl ?_
  refine e_getC (k := 1) rfl f_X4_9 rfl rfl ?_
  refine e_getI (k := 2) rfl f_X4_123 rfl rfl ?_
  refine e_ilet h (fun y1 h => ?_)
  refine e_istore_n (k := 3) (i := 2) (lv' := [(0, .ref (gR g 38)), (1, .int a0), (2, .int y1)]) rfl rfl (by decide) [1, 2, 0] rfl ?_
  refine e_iload_n (k := 4) (i := 1) rfl rfl 1 rfl ?_
  refine e_if_ne (k := 5) (tgt := 22) rfl (by decide) (fun z => ?_) (fun z => ?_)
  · have h := h.1 z
    refine e_aload_n (k := 12) (i := 0) rfl rfl 0 rfl ?_
    refine e_getC (k := 13) rfl f_X4_9 rfl rfl ?_
    refine e_iconst (k := 14) (v := (0 : Int32)) rfl (by decide) ?_
    refine e_callVi (k := 15) (q := 33) (As := [.int (0 : Int32)]) (rest := []) rfl (c_X5_peek (g := g) hg (n := n) h) m_X5_peek i_X5_peek l_X4_126 rfl ⟨_, rfl, rfl⟩ rfl rfl (Nat.le_of_ble_eq_true rfl) ⟨by decide, by decide, rfl, rfl⟩ (fun _ h => h.elim) (fun r1 u1 h => ?_)
    refine e_istore_n (k := 16) (i := 3) (lv' := [(0, .ref (gR g 38)), (1, .int a0), (2, .int y1), (3, .int r1)]) rfl rfl (by decide) [1, 2, 3, 0] rfl ?_
    refine e_iconst (k := 17) (v := (1 : Int32)) rfl (by decide) ?_
    refine e_istore (k := 18) (i := 4) (lv' := [(0, .ref (gR g 38)), (1, .int a0), (2, .int y1), (3, .int r1), (4, .int (1 : Int32))]) rfl (by decide) [1, 2, 3, 4, 0] rfl ?_
    refine e_sub (lv' := [(0, .ref (gR g 38)), (3, .int r1), (4, .int (1 : Int32))]) [0, 3, 4] rfl ?_
    exact s_X4_readBroken_34 hg n r1 (1 : Int32) u1 h
  · have h := h.2 z
    refine e_aload_n (k := 6) (i := 0) rfl rfl 0 rfl ?_
    refine e_getC (k := 7) rfl f_X4_9 rfl rfl ?_
    refine e_iconst (k := 8) (v := (5 : Int32)) rfl (by decide) ?_
    refine e_iload_n (k := 9) (i := 2) rfl rfl 2 rfl ?_
    refine e_callVv (k := 10) (q := 33) (As := [.int (5 : Int32), .int y1]) (rest := []) rfl (c_X5_fail (g := g) hg (n := n) h) m_X5_fail i_X5_fail l_X4_93 rfl ⟨_, rfl, rfl⟩ rfl rfl (Nat.le_of_ble_eq_true rfl) ⟨by decide, by decide, rfl, rfl⟩ (fun _ h => h.elim) (fun u2 h => ?_)
    exact e_vret (k := 11) rfl rfl (Or.inl ⟨rfl, h⟩)
def il_X4_readChange : List (Nat × Instr × Nat) := [(0, .aload_n 0, 1), (1, .getfield 9, 3), (4, .getfield 123, 3), (7, .istore_n 2, 1), (8, .aload_n 0, 1), (9, .getfield 9, 3), (12, .iload_n 1, 1), (13, .ifCond .eq 7, 3), (16, .iconst 0, 1), (17, .goto 4, 3), (20, .iconst 1, 1), (21, .invokevirtual 126, 3), (24, .istore_n 3, 1), (25, .aload_n 0, 1), (26, .getfield 9, 3), (29, .dup, 1), (30, .getfield 123, 3), (33, .iload_n 1, 1), (34, .ifCond .eq 7, 3), (37, .iconst 2, 1), (38, .goto 4, 3), (41, .iconst 3, 1), (42, .iadd, 1), (43, .putfield 123, 3), (46, .aload_n 0, 1), (47, .getfield 9, 3), (50, .invokevirtual 130, 3), (53, .iload_n 3, 1), (54, .lookupswitch 195 #[(75, 156), (76, 117), (77, 58), (86, 42)], 42), (96, .aload_n 0, 1), (97, .aload_n 0, 1), (98, .getfield 9, 3), (101, .iconst 3, 1), (102, .iconst 0, 1), (103, .invokevirtual 133, 3), (106, .invokevirtual 61, 3), (109, .goto 149, 3), (112, .aload_n 0, 1), (113, .getfield 15, 3), (116, .invokevirtual 137, 3), (119, .aload_n 0, 1), (120, .getfield 48, 3), (123, .aload_n 0, 1), (124, .getfield 15, 3), (127, .getfield 142, 3), (130, .putfield 144, 3), (133, .aload_n 0, 1), (134, .getfield 48, 3), (137, .aload_n 0, 1), (138, .getfield 15, 3), (141, .getfield 147, 3), (144, .putfield 150, 3), (147, .aload_n 0, 1), (148, .bipush 7, 2), (150, .iload_n 2, 1), (151, .aload_n 0, 1), (152, .getfield 15, 3), (155, .getfield 142, 3), (158, .aload_n 0, 1), (159, .getfield 15, 3), (162, .getfield 147, 3), (165, .invokevirtual 153, 3), (168, .goto 90, 3), (171, .aload_n 0, 1), (172, .getfield 15, 3), (175, .invokevirtual 157, 3), (178, .aload_n 0, 1), (179, .getfield 48, 3), (182, .aload_n 0, 1), (183, .getfield 15, 3), (186, .getfield 160, 3), (189, .putfield 163, 3), (192, .aload_n 0, 1), (193, .bipush 8, 2), (195, .iload_n 2, 1), (196, .aload_n 0, 1), (197, .getfield 15, 3), (200, .getfield 160, 3), (203, .iconst 0, 1), (204, .invokevirtual 153, 3), (207, .goto 51, 3), (210, .aload_n 0, 1), (211, .getfield 15, 3), (214, .invokevirtual 164, 3), (217, .aload_n 0, 1), (218, .getfield 48, 3), (221, .aload_n 0, 1), (222, .getfield 15, 3), (225, .getfield 167, 3), (228, .putfield 170, 3), (231, .aload_n 0, 1), (232, .bipush 6, 2), (234, .iload_n 2, 1), (235, .aload_n 0, 1), (236, .getfield 15, 3), (239, .getfield 167, 3), (242, .iconst 0, 1), (243, .invokevirtual 153, 3), (246, .goto 12, 3), (249, .aload_n 0, 1), (250, .getfield 9, 3), (253, .iconst 1, 1), (254, .iload_n 2, 1), (255, .invokevirtual 93, 3), (258, .iload_n 1, 1), (259, .ifCond .eq 13, 3), (262, .aload_n 0, 1), (263, .getfield 9, 3), (266, .invokevirtual 171, 3), (269, .goto 7, 3), (272, .aload_n 0, 1), (273, .invokevirtual 174, 3), (276, .return_, 1)]
set_option maxRecDepth 20000 in
theorem il_X4_readChange_ok : ∀ x ∈ il_X4_readChange, decode cX4_readChange x.1 = .ok x.2 := by decide +kernel
abbrev me_X4_readChange : Me := (RX4, il_X4_readChange, 4, none, xRoom 6, [])
def w_X4_readChange_276 (n : Nat) (u0 : Mm) (Q : Mm → Prop) : Prop :=
  Q u0
def w_X4_readChange_258 (n : Nat) (x1 : Int32) (u0 : Mm) (Q : Mm → Prop) : Prop :=
  (x1 = 0 → w_X4_closeChange n u0 (fun u1 =>
  w_X4_readChange_276 n u1 Q)) ∧
  (¬ x1 = 0 → w_X5_mustStop n u0 (fun u2 =>
  w_X4_readChange_276 n u2 Q))
def w_X4_readChange_42 (n : Nat) (x1 : Int32) (x2 : Int32) (x3 : Int32) (t0 : Int32) (t1 : Int32) (u0 : Mm) (Q : Mm → Prop) : Prop :=
  mlet (setI u0 33 2 (t1 + t0)) fun u1 =>
  w_X5_skipBlanks n u1 (fun u2 =>
  (x3 = (75 : Int32) → w_X0_readKey n u2 (fun u3 =>
  mlet (setI u3 (u3.2.2 2) 7 (u3.1 34 4)) fun u4 =>
  w_X4_addChange n (6 : Int32) x2 (u4.1 34 4) (0 : Int32) u4 (fun u5 =>
  w_X4_readChange_258 n x1 u5 Q))) ∧
  (¬ x3 = (75 : Int32) → (x3 = (76 : Int32) → w_X0_readUnit n u2 (fun u6 =>
  mlet (setI u6 (u6.2.2 2) 10 (u6.1 34 3)) fun u7 =>
  w_X4_addChange n (8 : Int32) x2 (u7.1 34 3) (0 : Int32) u7 (fun u8 =>
  w_X4_readChange_258 n x1 u8 Q))) ∧
  (¬ x3 = (76 : Int32) → (x3 = (77 : Int32) → w_X0_readMeter n u2 (fun u9 =>
  mlet (setI u9 (u9.2.2 2) 8 (u9.1 34 1)) fun u10 =>
  mlet (setI u10 (u10.2.2 2) 9 (u10.1 34 2)) fun u11 =>
  w_X4_addChange n (7 : Int32) x2 (u11.1 34 1) (u11.1 34 2) u11 (fun u12 =>
  w_X4_readChange_258 n x1 u12 Q))) ∧
  (¬ x3 = (77 : Int32) → (x3 = (86 : Int32) → w_X5_number n (3 : Int32) (0 : Int32) u2 (fun r1 u13 =>
  w_X4_takeVoice n r1 u13 (fun u14 =>
  w_X4_readChange_258 n x1 u14 Q))) ∧
  (¬ x3 = (86 : Int32) → w_X5_fail n (1 : Int32) x2 u2 (fun u15 =>
  w_X4_readChange_258 n x1 u15 Q))))))
def w_X4_readChange_21 (n : Nat) (x1 : Int32) (x2 : Int32) (t0 : Int32) (u0 : Mm) (Q : Mm → Prop) : Prop :=
  w_X5_peek n t0 u0 (fun r1 u1 =>
  (x1 = 0 → w_X4_readChange_42 n x1 x2 r1 (3 : Int32) (u1.1 33 2) u1 Q) ∧
  (¬ x1 = 0 → w_X4_readChange_42 n x1 x2 r1 (2 : Int32) (u1.1 33 2) u1 Q))
def w_X4_readChange (n : Nat) (a0 : Int32) (u0 : Mm) (Q : Mm → Prop) : Prop :=
  ilet (u0.1 33 2) fun y1 =>
  (a0 = 0 → w_X4_readChange_21 n a0 y1 (1 : Int32) u0 Q) ∧
  (¬ a0 = 0 → w_X4_readChange_21 n a0 y1 (0 : Int32) u0 Q)
set_option maxRecDepth 20000 in
theorem s_X4_readChange_276 {g : Gb} (hg : xInj g) {n : Nat} {Q : Mm → Prop} {u0 : Mm} (h : w_X4_readChange_276 n  u0 Q) : xE g me_X4_readChange (pV g Q noT) 276 [] [] u0 := by
  unfold w_X4_readChange_276 at h
  exact e_vret (k := 112) rfl rfl (Or.inl ⟨rfl, h⟩)
set_option maxRecDepth 20000 in
theorem s_X4_readChange_258 {g : Gb} (hg : xInj g) {n : Nat} {Q : Mm → Prop} {x1 : Int32} {u0 : Mm} (h : w_X4_readChange_258 n x1 u0 Q) : xE g me_X4_readChange (pV g Q noT) 258 [(0, .ref (gR g 38)), (1, .int x1)] [] u0 := by
  unfold w_X4_readChange_258 at h
  refine e_iload_n (k := 104) (i := 1) rfl rfl 1 rfl ?_
  refine e_if_eq (k := 105) (tgt := 272) rfl (by decide) (fun z => ?_) (fun z => ?_)
  · have h := h.1 z
    refine e_aload_n (k := 110) (i := 0) rfl rfl 0 rfl ?_
    refine e_callVv (k := 111) (q := 38) (As := []) (rest := []) rfl (c_X4_closeChange (g := g) hg (n := n) h) m_X4_closeChange i_X4_closeChange l_X4_174 rfl ⟨_, rfl, rfl⟩ rfl rfl (Nat.le_of_ble_eq_true rfl) ⟨by decide, by decide, rfl, rfl⟩ (fun _ h => h.elim) (fun u1 h => ?_)
    refine e_sub (lv' := []) [] rfl ?_
    exact s_X4_readChange_276 hg h
  · have h := h.2 z
    refine e_aload_n (k := 106) (i := 0) rfl rfl 0 rfl ?_
    refine e_getC (k := 107) rfl f_X4_9 rfl rfl ?_
    refine e_callVv (k := 108) (q := 33) (As := []) (rest := []) rfl (c_X5_mustStop (g := g) hg (n := n) h) m_X5_mustStop i_X5_mustStop l_X4_171 rfl ⟨_, rfl, rfl⟩ rfl rfl (Nat.le_of_ble_eq_true rfl) ⟨by decide, by decide, rfl, rfl⟩ (fun _ h => h.elim) (fun u2 h => ?_)
    refine e_goto (k := 109) (tgt := 276) rfl (by decide) ?_
    refine e_sub (lv' := []) [] rfl ?_
    exact s_X4_readChange_276 hg h
set_option maxRecDepth 20000 in
theorem s_X4_readChange_42 {g : Gb} (hg : xInj g) {n : Nat} {Q : Mm → Prop} {x1 : Int32} {x2 : Int32} {x3 : Int32} {t0 : Int32} {t1 : Int32} {u0 : Mm} (h : w_X4_readChange_42 n x1 x2 x3 t0 t1 u0 Q) : xE g me_X4_readChange (pV g Q noT) 42 [(0, .ref (gR g 38)), (1, .int x1), (2, .int x2), (3, .int x3)] [.int t0, .int t1, .ref (gR g 33)] u0 := by
  unfold w_X4_readChange_42 at h
  refine e_iadd (k := 22) rfl ?_
  refine e_putI (k := 23) rfl fg_X4_123 rfl rfl ?_
  refine e_mlet h (fun u1 h => ?_)
  refine e_aload_n (k := 24) (i := 0) rfl rfl 0 rfl ?_
  refine e_getC (k := 25) rfl f_X4_9 rfl rfl ?_
  refine e_callVv (k := 26) (q := 33) (As := []) (rest := []) rfl (c_X5_skipBlanks (g := g) hg (n := n) h) m_X5_skipBlanks i_X5_skipBlanks l_X4_130 rfl ⟨_, rfl, rfl⟩ rfl rfl (Nat.le_of_ble_eq_true rfl) ⟨by decide, by decide, rfl, rfl⟩ (fun _ h => h.elim) (fun u2 h => ?_)
  refine e_iload_n (k := 27) (i := 3) rfl rfl 3 rfl ?_
  refine e_case (a := x3 = (75 : Int32)) (fun z75 => ?_) (fun z75 => ?_)
  · have h := h.1 z75
    refine e_lookup (k := 28) (tgt := 210) (off := 156) rfl (by decide) (by rw [z75]; decide) (by decide) ?_
    refine e_aload_n (k := 81) (i := 0) rfl rfl 0 rfl ?_
    refine e_getC (k := 82) rfl f_X4_15 rfl rfl ?_
    refine e_callVv (k := 83) (q := 34) (As := []) (rest := []) rfl (c_X0_readKey (g := g) hg (n := n) h) m_X0_readKey i_X0_readKey l_X4_164 rfl ⟨_, rfl, rfl⟩ rfl rfl (Nat.le_of_ble_eq_true rfl) ⟨by decide, by decide, rfl, rfl⟩ (fun _ h => h.elim) (fun u3 h => ?_)
    refine e_aload_n (k := 84) (i := 0) rfl rfl 0 rfl ?_
    refine e_getP (k := 85) rfl f_X4_48 rfl rfl (fun ty1 => ?_)
    refine e_aload_n (k := 86) (i := 0) rfl rfl 0 rfl ?_
    refine e_getC (k := 87) rfl f_X4_15 rfl rfl ?_
    refine e_getI (k := 88) rfl f_X4_167 rfl rfl ?_
    refine e_putI (k := 89) rfl fg_X4_170 ty1.2.2 rfl ?_
    refine e_mlet h (fun u4 h => ?_)
    refine e_aload_n (k := 90) (i := 0) rfl rfl 0 rfl ?_
    refine e_bipush (k := 91) (v := (6 : Int32)) rfl (by decide) ?_
    refine e_iload_n (k := 92) (i := 2) rfl rfl 2 rfl ?_
    refine e_aload_n (k := 93) (i := 0) rfl rfl 0 rfl ?_
    refine e_getC (k := 94) rfl f_X4_15 rfl rfl ?_
    refine e_getI (k := 95) rfl f_X4_167 rfl rfl ?_
    refine e_iconst (k := 96) (v := (0 : Int32)) rfl (by decide) ?_
    refine e_callVv (k := 97) (q := 38) (As := [.int (6 : Int32), .int x2, .int (u4.1 34 4), .int (0 : Int32)]) (rest := []) rfl (c_X4_addChange (g := g) hg (n := n) h) m_X4_addChange i_X4_addChange l_X4_153 rfl ⟨_, rfl, rfl⟩ rfl rfl (Nat.le_of_ble_eq_true rfl) ⟨by decide, by decide, rfl, rfl⟩ (fun _ h => h.elim) (fun u5 h => ?_)
    refine e_goto (k := 98) (tgt := 258) rfl (by decide) ?_
    refine e_sub (lv' := [(0, .ref (gR g 38)), (1, .int x1)]) [0, 1] rfl ?_
    exact s_X4_readChange_258 hg h
  · have h := h.2 z75
    refine e_case (a := x3 = (76 : Int32)) (fun z76 => ?_) (fun z76 => ?_)
    · have h := h.1 z76
      refine e_lookup (k := 28) (tgt := 171) (off := 117) rfl (by decide) (by rw [z76]; decide) (by decide) ?_
      refine e_aload_n (k := 63) (i := 0) rfl rfl 0 rfl ?_
      refine e_getC (k := 64) rfl f_X4_15 rfl rfl ?_
      refine e_callVv (k := 65) (q := 34) (As := []) (rest := []) rfl (c_X0_readUnit (g := g) hg (n := n) h) m_X0_readUnit i_X0_readUnit l_X4_157 rfl ⟨_, rfl, rfl⟩ rfl rfl (Nat.le_of_ble_eq_true rfl) ⟨by decide, by decide, rfl, rfl⟩ (fun _ h => h.elim) (fun u6 h => ?_)
      refine e_aload_n (k := 66) (i := 0) rfl rfl 0 rfl ?_
      refine e_getP (k := 67) rfl f_X4_48 rfl rfl (fun ty2 => ?_)
      refine e_aload_n (k := 68) (i := 0) rfl rfl 0 rfl ?_
      refine e_getC (k := 69) rfl f_X4_15 rfl rfl ?_
      refine e_getI (k := 70) rfl f_X4_160 rfl rfl ?_
      refine e_putI (k := 71) rfl fg_X4_163 ty2.2.2 rfl ?_
      refine e_mlet h (fun u7 h => ?_)
      refine e_aload_n (k := 72) (i := 0) rfl rfl 0 rfl ?_
      refine e_bipush (k := 73) (v := (8 : Int32)) rfl (by decide) ?_
      refine e_iload_n (k := 74) (i := 2) rfl rfl 2 rfl ?_
      refine e_aload_n (k := 75) (i := 0) rfl rfl 0 rfl ?_
      refine e_getC (k := 76) rfl f_X4_15 rfl rfl ?_
      refine e_getI (k := 77) rfl f_X4_160 rfl rfl ?_
      refine e_iconst (k := 78) (v := (0 : Int32)) rfl (by decide) ?_
      refine e_callVv (k := 79) (q := 38) (As := [.int (8 : Int32), .int x2, .int (u7.1 34 3), .int (0 : Int32)]) (rest := []) rfl (c_X4_addChange (g := g) hg (n := n) h) m_X4_addChange i_X4_addChange l_X4_153 rfl ⟨_, rfl, rfl⟩ rfl rfl (Nat.le_of_ble_eq_true rfl) ⟨by decide, by decide, rfl, rfl⟩ (fun _ h => h.elim) (fun u8 h => ?_)
      refine e_goto (k := 80) (tgt := 258) rfl (by decide) ?_
      refine e_sub (lv' := [(0, .ref (gR g 38)), (1, .int x1)]) [0, 1] rfl ?_
      exact s_X4_readChange_258 hg h
    · have h := h.2 z76
      refine e_case (a := x3 = (77 : Int32)) (fun z77 => ?_) (fun z77 => ?_)
      · have h := h.1 z77
        refine e_lookup (k := 28) (tgt := 112) (off := 58) rfl (by decide) (by rw [z77]; decide) (by decide) ?_
        refine e_aload_n (k := 37) (i := 0) rfl rfl 0 rfl ?_
        refine e_getC (k := 38) rfl f_X4_15 rfl rfl ?_
        refine e_callVv (k := 39) (q := 34) (As := []) (rest := []) rfl (c_X0_readMeter (g := g) hg (n := n) h) m_X0_readMeter i_X0_readMeter l_X4_137 rfl ⟨_, rfl, rfl⟩ rfl rfl (Nat.le_of_ble_eq_true rfl) ⟨by decide, by decide, rfl, rfl⟩ (fun _ h => h.elim) (fun u9 h => ?_)
        refine e_aload_n (k := 40) (i := 0) rfl rfl 0 rfl ?_
        refine e_getP (k := 41) rfl f_X4_48 rfl rfl (fun ty3 => ?_)
        refine e_aload_n (k := 42) (i := 0) rfl rfl 0 rfl ?_
        refine e_getC (k := 43) rfl f_X4_15 rfl rfl ?_
        refine e_getI (k := 44) rfl f_X4_142 rfl rfl ?_
        refine e_putI (k := 45) rfl fg_X4_144 ty3.2.2 rfl ?_
        refine e_mlet h (fun u10 h => ?_)
        refine e_aload_n (k := 46) (i := 0) rfl rfl 0 rfl ?_
        refine e_getP (k := 47) rfl f_X4_48 rfl rfl (fun ty4 => ?_)
        refine e_aload_n (k := 48) (i := 0) rfl rfl 0 rfl ?_
        refine e_getC (k := 49) rfl f_X4_15 rfl rfl ?_
        refine e_getI (k := 50) rfl f_X4_147 rfl rfl ?_
        refine e_putI (k := 51) rfl fg_X4_150 ty4.2.2 rfl ?_
        refine e_mlet h (fun u11 h => ?_)
        refine e_aload_n (k := 52) (i := 0) rfl rfl 0 rfl ?_
        refine e_bipush (k := 53) (v := (7 : Int32)) rfl (by decide) ?_
        refine e_iload_n (k := 54) (i := 2) rfl rfl 2 rfl ?_
        refine e_aload_n (k := 55) (i := 0) rfl rfl 0 rfl ?_
        refine e_getC (k := 56) rfl f_X4_15 rfl rfl ?_
        refine e_getI (k := 57) rfl f_X4_142 rfl rfl ?_
        refine e_aload_n (k := 58) (i := 0) rfl rfl 0 rfl ?_
        refine e_getC (k := 59) rfl f_X4_15 rfl rfl ?_
        refine e_getI (k := 60) rfl f_X4_147 rfl rfl ?_
        refine e_callVv (k := 61) (q := 38) (As := [.int (7 : Int32), .int x2, .int (u11.1 34 1), .int (u11.1 34 2)]) (rest := []) rfl (c_X4_addChange (g := g) hg (n := n) h) m_X4_addChange i_X4_addChange l_X4_153 rfl ⟨_, rfl, rfl⟩ rfl rfl (Nat.le_of_ble_eq_true rfl) ⟨by decide, by decide, rfl, rfl⟩ (fun _ h => h.elim) (fun u12 h => ?_)
        refine e_goto (k := 62) (tgt := 258) rfl (by decide) ?_
        refine e_sub (lv' := [(0, .ref (gR g 38)), (1, .int x1)]) [0, 1] rfl ?_
        exact s_X4_readChange_258 hg h
      · have h := h.2 z77
        refine e_case (a := x3 = (86 : Int32)) (fun z86 => ?_) (fun z86 => ?_)
        · have h := h.1 z86
          refine e_lookup (k := 28) (tgt := 96) (off := 42) rfl (by decide) (by rw [z86]; decide) (by decide) ?_
          refine e_aload_n (k := 29) (i := 0) rfl rfl 0 rfl ?_
          refine e_aload_n (k := 30) (i := 0) rfl rfl 0 rfl ?_
          refine e_getC (k := 31) rfl f_X4_9 rfl rfl ?_
          refine e_iconst (k := 32) (v := (3 : Int32)) rfl (by decide) ?_
          refine e_iconst (k := 33) (v := (0 : Int32)) rfl (by decide) ?_
          refine e_callVi (k := 34) (q := 33) (As := [.int (3 : Int32), .int (0 : Int32)]) (rest := [.ref (gR g 38)]) rfl (c_X5_number (g := g) hg (n := n) h) m_X5_number i_X5_number l_X4_133 rfl ⟨_, rfl, rfl⟩ rfl rfl (Nat.le_of_ble_eq_true rfl) ⟨by decide, by decide, rfl, rfl⟩ (fun _ h => h.elim) (fun r1 u13 h => ?_)
          refine e_callVv (k := 35) (q := 38) (As := [.int r1]) (rest := []) rfl (c_X4_takeVoice (g := g) hg (n := n) h) m_X4_takeVoice i_X4_takeVoice l_X4_61 rfl ⟨_, rfl, rfl⟩ rfl rfl (Nat.le_of_ble_eq_true rfl) ⟨by decide, by decide, rfl, rfl⟩ (fun _ h => h.elim) (fun u14 h => ?_)
          refine e_goto (k := 36) (tgt := 258) rfl (by decide) ?_
          refine e_sub (lv' := [(0, .ref (gR g 38)), (1, .int x1)]) [0, 1] rfl ?_
          exact s_X4_readChange_258 hg h
        · have h := h.2 z86
          have w75 := xne (i := 75) z75 (by decide)
          have w76 := xne (i := 76) z76 (by decide)
          have w77 := xne (i := 77) z77 (by decide)
          have w86 := xne (i := 86) z86 (by decide)
          refine e_lookup (k := 28) (tgt := 249) (off := 195) rfl (by decide) (by simp [Op.lookupswitch.offset, w75, w75.symm, w76, w76.symm, w77, w77.symm, w86, w86.symm]) (by decide) ?_
          refine e_aload_n (k := 99) (i := 0) rfl rfl 0 rfl ?_
          refine e_getC (k := 100) rfl f_X4_9 rfl rfl ?_
          refine e_iconst (k := 101) (v := (1 : Int32)) rfl (by decide) ?_
          refine e_iload_n (k := 102) (i := 2) rfl rfl 2 rfl ?_
          refine e_callVv (k := 103) (q := 33) (As := [.int (1 : Int32), .int x2]) (rest := []) rfl (c_X5_fail (g := g) hg (n := n) h) m_X5_fail i_X5_fail l_X4_93 rfl ⟨_, rfl, rfl⟩ rfl rfl (Nat.le_of_ble_eq_true rfl) ⟨by decide, by decide, rfl, rfl⟩ (fun _ h => h.elim) (fun u15 h => ?_)
          refine e_sub (lv' := [(0, .ref (gR g 38)), (1, .int x1)]) [0, 1] rfl ?_
          exact s_X4_readChange_258 hg h
set_option maxRecDepth 20000 in
theorem s_X4_readChange_21 {g : Gb} (hg : xInj g) {n : Nat} {Q : Mm → Prop} {x1 : Int32} {x2 : Int32} {t0 : Int32} {u0 : Mm} (h : w_X4_readChange_21 n x1 x2 t0 u0 Q) : xE g me_X4_readChange (pV g Q noT) 21 [(0, .ref (gR g 38)), (1, .int x1), (2, .int x2)] [.int t0, .ref (gR g 33)] u0 := by
  unfold w_X4_readChange_21 at h
  refine e_callVi (k := 11) (q := 33) (As := [.int t0]) (rest := []) rfl (c_X5_peek (g := g) hg (n := n) h) m_X5_peek i_X5_peek l_X4_126 rfl ⟨_, rfl, rfl⟩ rfl rfl (Nat.le_of_ble_eq_true rfl) ⟨by decide, by decide, rfl, rfl⟩ (fun _ h => h.elim) (fun r1 u1 h => ?_)
  refine e_istore_n (k := 12) (i := 3) (lv' := [(0, .ref (gR g 38)), (1, .int x1), (2, .int x2), (3, .int r1)]) rfl rfl (by decide) [1, 2, 3, 0] rfl ?_
  refine e_aload_n (k := 13) (i := 0) rfl rfl 0 rfl ?_
  refine e_getC (k := 14) rfl f_X4_9 rfl rfl ?_
  refine e_dup (k := 15) rfl rfl ?_
  refine e_getI (k := 16) rfl f_X4_123 rfl rfl ?_
  refine e_iload_n (k := 17) (i := 1) rfl rfl 1 rfl ?_
  refine e_if_eq (k := 18) (tgt := 41) rfl (by decide) (fun z => ?_) (fun z => ?_)
  · have h := h.1 z
    refine e_iconst (k := 21) (v := (3 : Int32)) rfl (by decide) ?_
    exact s_X4_readChange_42 hg h
  · have h := h.2 z
    refine e_iconst (k := 19) (v := (2 : Int32)) rfl (by decide) ?_
    refine e_goto (k := 20) (tgt := 42) rfl (by decide) ?_
    exact s_X4_readChange_42 hg h
set_option maxRecDepth 20000 in
theorem c_X4_readChange {g : Gb} (hg : xInj g) {n : Nat} {a0 : Int32} {u0 : Mm} {Q : Mm → Prop} (h : w_X4_readChange n a0 u0 Q) : xMet (gL g) yX4_readChange (xws yX4_readChange cX4_readChange 4 none) (xRoom 6) (xPc g [.ref (gR g 38), .int a0] u0) (xQ g (pV g Q noT)) (xA g) := by
  refine xbody (il := il_X4_readChange) hg il_X4_readChange_ok m_X4_readChange (Nat.le_of_ble_eq_true rfl) ?_
  show xE g me_X4_readChange (pV g Q noT) 0 [(0, .ref (gR g 38)), (1, .int a0)] [] u0
  unfold w_X4_readChange at h
  refine e_aload_n (k := 0) (i := 0) rfl rfl 0 rfl ?_
  refine e_getC (k := 1) rfl f_X4_9 rfl rfl ?_
  refine e_getI (k := 2) rfl f_X4_123 rfl rfl ?_
  refine e_ilet h (fun y1 h => ?_)
  refine e_istore_n (k := 3) (i := 2) (lv' := [(0, .ref (gR g 38)), (1, .int a0), (2, .int y1)]) rfl rfl (by decide) [1, 2, 0] rfl ?_
  refine e_aload_n (k := 4) (i := 0) rfl rfl 0 rfl ?_
  refine e_getC (k := 5) rfl f_X4_9 rfl rfl ?_
  refine e_iload_n (k := 6) (i := 1) rfl rfl 1 rfl ?_
  refine e_if_eq (k := 7) (tgt := 20) rfl (by decide) (fun z => ?_) (fun z => ?_)
  · have h := h.1 z
    refine e_iconst (k := 10) (v := (1 : Int32)) rfl (by decide) ?_
    exact s_X4_readChange_21 hg h
  · have h := h.2 z
    refine e_iconst (k := 8) (v := (0 : Int32)) rfl (by decide) ?_
    refine e_goto (k := 9) (tgt := 21) rfl (by decide) ?_
    exact s_X4_readChange_21 hg h
