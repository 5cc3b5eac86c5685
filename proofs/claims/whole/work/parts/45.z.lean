/-! the law: its instructions, its judgement behind the making, rows -/
def il_law : List (Nat × Instr × Nat) := [(0, .new 7, 3), (3, .dup, 1), (4, .aload_n 0, 1), (5, .iconst 0, 1), (6, .invokestatic 9, 3), (9, .invokespecial 15, 3), (12, .astore_n 1, 1), (13, .new 18, 3), (16, .dup, 1), (17, .aload_n 0, 1), (18, .iconst 0, 1), (19, .invokestatic 9, 3), (22, .invokespecial 20, 3), (25, .astore_n 2, 1), (26, .iconst 1, 1), (27, .istore_n 3, 1), (28, .iload_n 3, 1), (29, .aload_n 0, 1), (30, .arraylength, 1), (31, .bipush 6, 2), (33, .isub, 1), (34, .if_icmp .gt 479, 3), (37, .aload_n 0, 1), (38, .iload_n 3, 1), (39, .iaload, 1), (40, .bipush 15, 2), (42, .iand, 1), (43, .tableswitch 464 0 13 #[69, 132, 155, 168, 181, 204, 237, 270, 294, 318, 341, 374, 408, 431], 69), (112, .aload_n 1, 1), (113, .aload_n 0, 1), (114, .iload_n 3, 1), (115, .iconst 1, 1), (116, .iadd, 1), (117, .iaload, 1), (118, .aload_n 0, 1), (119, .iload_n 3, 1), (120, .iconst 2, 1), (121, .iadd, 1), (122, .iaload, 1), (123, .aload_n 0, 1), (124, .iload_n 3, 1), (125, .iconst 3, 1), (126, .iadd, 1), (127, .iaload, 1), (128, .aload_n 0, 1), (129, .iload_n 3, 1), (130, .iconst 4, 1), (131, .iadd, 1), (132, .iaload, 1), (133, .aload_n 0, 1), (134, .iload_n 3, 1), (135, .iconst 5, 1), (136, .iadd, 1), (137, .iaload, 1), (138, .invokevirtual 21, 3), (141, .aload_n 2, 1), (142, .aload_n 0, 1), (143, .iload_n 3, 1), (144, .iconst 1, 1), (145, .iadd, 1), (146, .iaload, 1), (147, .aload_n 0, 1), (148, .iload_n 3, 1), (149, .iconst 2, 1), (150, .iadd, 1), (151, .iaload, 1), (152, .aload_n 0, 1), (153, .iload_n 3, 1), (154, .iconst 3, 1), (155, .iadd, 1), (156, .iaload, 1), (157, .aload_n 0, 1), (158, .iload_n 3, 1), (159, .iconst 4, 1), (160, .iadd, 1), (161, .iaload, 1), (162, .aload_n 0, 1), (163, .iload_n 3, 1), (164, .iconst 5, 1), (165, .iadd, 1), (166, .iaload, 1), (167, .invokevirtual 25, 3), (170, .if_icmp .eq 337, 3), (173, .iconst 0, 1), (174, .ireturn, 1), (175, .aload_n 1, 1), (176, .aload_n 0, 1), (177, .iload_n 3, 1), (178, .iconst 1, 1), (179, .iadd, 1), (180, .iaload, 1), (181, .invokevirtual 26, 3), (184, .aload_n 2, 1), (185, .aload_n 0, 1), (186, .iload_n 3, 1), (187, .iconst 1, 1), (188, .iadd, 1), (189, .iaload, 1), (190, .invokevirtual 30, 3), (193, .if_icmp .eq 314, 3), (196, .iconst 0, 1), (197, .ireturn, 1), (198, .aload_n 1, 1), (199, .invokevirtual 31, 3), (202, .aload_n 2, 1), (203, .invokevirtual 35, 3), (206, .if_icmp .eq 301, 3), (209, .iconst 0, 1), (210, .ireturn, 1), (211, .aload_n 1, 1), (212, .invokevirtual 36, 3), (215, .aload_n 2, 1), (216, .invokevirtual 39, 3), (219, .if_icmp .eq 288, 3), (222, .iconst 0, 1), (223, .ireturn, 1), (224, .aload_n 1, 1), (225, .aload_n 0, 1), (226, .iload_n 3, 1), (227, .iconst 1, 1), (228, .iadd, 1), (229, .iaload, 1), (230, .invokevirtual 40, 3), (233, .aload_n 2, 1), (234, .aload_n 0, 1), (235, .iload_n 3, 1), (236, .iconst 1, 1), (237, .iadd, 1), (238, .iaload, 1), (239, .invokevirtual 43, 3), (242, .if_icmp .eq 265, 3), (245, .iconst 0, 1), (246, .ireturn, 1), (247, .aload_n 1, 1), (248, .aload_n 0, 1), (249, .iload_n 3, 1), (250, .iconst 1, 1), (251, .iadd, 1), (252, .iaload, 1), (253, .aload_n 0, 1), (254, .iload_n 3, 1), (255, .iconst 2, 1), (256, .iadd, 1), (257, .iaload, 1), (258, .invokevirtual 44, 3), (261, .aload_n 2, 1), (262, .aload_n 0, 1), (263, .iload_n 3, 1), (264, .iconst 1, 1), (265, .iadd, 1), (266, .iaload, 1), (267, .aload_n 0, 1), (268, .iload_n 3, 1), (269, .iconst 2, 1), (270, .iadd, 1), (271, .iaload, 1), (272, .invokevirtual 48, 3), (275, .if_icmp .eq 232, 3), (278, .iconst 0, 1), (279, .ireturn, 1), (280, .aload_n 1, 1), (281, .aload_n 0, 1), (282, .iload_n 3, 1), (283, .iconst 1, 1), (284, .iadd, 1), (285, .iaload, 1), (286, .aload_n 0, 1), (287, .iload_n 3, 1), (288, .iconst 2, 1), (289, .iadd, 1), (290, .iaload, 1), (291, .invokevirtual 49, 3), (294, .aload_n 2, 1), (295, .aload_n 0, 1), (296, .iload_n 3, 1), (297, .iconst 1, 1), (298, .iadd, 1), (299, .iaload, 1), (300, .aload_n 0, 1), (301, .iload_n 3, 1), (302, .iconst 2, 1), (303, .iadd, 1), (304, .iaload, 1), (305, .invokevirtual 52, 3), (308, .if_icmp .eq 199, 3), (311, .iconst 0, 1), (312, .ireturn, 1), (313, .aload_n 1, 1), (314, .aload_n 0, 1), (315, .iload_n 3, 1), (316, .iconst 1, 1), (317, .iadd, 1), (318, .iaload, 1), (319, .invokevirtual 53, 3), (322, .aload_n 2, 1), (323, .aload_n 0, 1), (324, .iload_n 3, 1), (325, .iconst 1, 1), (326, .iadd, 1), (327, .iaload, 1), (328, .invokevirtual 57, 3), (331, .lcmp, 1), (332, .ifCond .eq 175, 3), (335, .iconst 0, 1), (336, .ireturn, 1), (337, .aload_n 1, 1), (338, .aload_n 0, 1), (339, .iload_n 3, 1), (340, .iconst 1, 1), (341, .iadd, 1), (342, .iaload, 1), (343, .invokevirtual 58, 3), (346, .aload_n 2, 1), (347, .aload_n 0, 1), (348, .iload_n 3, 1), (349, .iconst 1, 1), (350, .iadd, 1), (351, .iaload, 1), (352, .invokevirtual 61, 3), (355, .lcmp, 1), (356, .ifCond .eq 151, 3), (359, .iconst 0, 1), (360, .ireturn, 1), (361, .aload_n 1, 1), (362, .aload_n 0, 1), (363, .iload_n 3, 1), (364, .iconst 1, 1), (365, .iadd, 1), (366, .iaload, 1), (367, .invokevirtual 62, 3), (370, .aload_n 2, 1), (371, .aload_n 0, 1), (372, .iload_n 3, 1), (373, .iconst 1, 1), (374, .iadd, 1), (375, .iaload, 1), (376, .invokevirtual 65, 3), (379, .if_icmp .eq 128, 3), (382, .iconst 0, 1), (383, .ireturn, 1), (384, .aload_n 1, 1), (385, .aload_n 0, 1), (386, .iload_n 3, 1), (387, .iconst 1, 1), (388, .iadd, 1), (389, .iaload, 1), (390, .aload_n 0, 1), (391, .iload_n 3, 1), (392, .iconst 2, 1), (393, .iadd, 1), (394, .iaload, 1), (395, .invokevirtual 66, 3), (398, .aload_n 2, 1), (399, .aload_n 0, 1), (400, .iload_n 3, 1), (401, .iconst 1, 1), (402, .iadd, 1), (403, .iaload, 1), (404, .aload_n 0, 1), (405, .iload_n 3, 1), (406, .iconst 2, 1), (407, .iadd, 1), (408, .iaload, 1), (409, .invokevirtual 69, 3), (412, .if_icmp .eq 95, 3), (415, .iconst 0, 1), (416, .ireturn, 1), (417, .aload_n 1, 1), (418, .aload_n 0, 1), (419, .iload_n 3, 1), (420, .iconst 1, 1), (421, .iadd, 1), (422, .iaload, 1), (423, .aload_n 0, 1), (424, .iload_n 3, 1), (425, .iconst 2, 1), (426, .iadd, 1), (427, .iaload, 1), (428, .invokevirtual 70, 3), (431, .aload_n 2, 1), (432, .aload_n 0, 1), (433, .iload_n 3, 1), (434, .iconst 1, 1), (435, .iadd, 1), (436, .iaload, 1), (437, .aload_n 0, 1), (438, .iload_n 3, 1), (439, .iconst 2, 1), (440, .iadd, 1), (441, .iaload, 1), (442, .invokevirtual 74, 3), (445, .lcmp, 1), (446, .ifCond .eq 61, 3), (449, .iconst 0, 1), (450, .ireturn, 1), (451, .aload_n 1, 1), (452, .aload_n 0, 1), (453, .iload_n 3, 1), (454, .iconst 1, 1), (455, .iadd, 1), (456, .iaload, 1), (457, .invokevirtual 75, 3), (460, .aload_n 2, 1), (461, .aload_n 0, 1), (462, .iload_n 3, 1), (463, .iconst 1, 1), (464, .iadd, 1), (465, .iaload, 1), (466, .invokevirtual 78, 3), (469, .if_icmp .eq 38, 3), (472, .iconst 0, 1), (473, .ireturn, 1), (474, .aload_n 1, 1), (475, .aload_n 0, 1), (476, .iload_n 3, 1), (477, .iconst 1, 1), (478, .iadd, 1), (479, .iaload, 1), (480, .aload_n 0, 1), (481, .iload_n 3, 1), (482, .iconst 2, 1), (483, .iadd, 1), (484, .iaload, 1), (485, .invokevirtual 79, 3), (488, .aload_n 2, 1), (489, .aload_n 0, 1), (490, .iload_n 3, 1), (491, .iconst 1, 1), (492, .iadd, 1), (493, .iaload, 1), (494, .aload_n 0, 1), (495, .iload_n 3, 1), (496, .iconst 2, 1), (497, .iadd, 1), (498, .iaload, 1), (499, .invokevirtual 82, 3), (502, .if_icmp .eq 5, 3), (505, .iconst 0, 1), (506, .ireturn, 1), (507, .iinc 3 6, 3), (510, .goto (-482), 3), (513, .iconst 1, 1), (514, .ireturn, 1)]
set_option maxRecDepth 20000 in
theorem il_law_ok : ∀ x ∈ il_law, decode code x.1 = .ok x.2 := by decide +kernel
def il_cell : List (Nat × Instr × Nat) := [(0, .iload_n 1, 1), (1, .aload_n 0, 1), (2, .arraylength, 1), (3, .if_icmp .ge 9, 3), (6, .aload_n 0, 1), (7, .iload_n 1, 1), (8, .iaload, 1), (9, .goto 4, 3), (12, .iconst 0, 1), (13, .ireturn, 1)]
theorem il_cell_ok : ∀ x ∈ il_cell, decode cL_cell x.1 = .ok x.2 := by decide +kernel
def zC (g : Gb) (p : Program) (s : State) (m : MethodId) (meth : Method) (c : Code) (b L : Nat) (xs : Nat → Int32) : Prop :=
  p.tables.exec = Jvm.exec ∧ c.code = code ∧ c.maxLocals = 4 ∧ meth.sig.returnType = ret ∧ s.vm.findClass RL = some m.cls ∧ meth.locks = false ∧ (∀ w ∈ xtbl, w.before #[Value.ref b] s = true) ∧ va_K (gD g) xCl (xt g) s ∧ (va_X b L xs s s.heap ∧ b < s.heap.size) ∧ nR g s.heap.size ∧ xCon g s
def zE (g : Gb) (b L : Nat) (xs : Nat → Int32) (pc : Nat) (lv : List (Nat × Value)) (st : List Value) (σ : Mm) : Prop :=
  ∀ (p : Program) (e : Env) (s : State) (m : MethodId) (below : List Frame) (meth : Method) (c : Code) (H : Heap) (locs : List Loc) (ls : Array Slot),
    zC g p s m meth c b L xs → xP g σ H → va_S (nA s.heap.size) s.heap H locs → lv_has ls 4 lv →
    W p (gL g) e room_1 s m #[Value.ref b] below meth c H locs 67 36054 (lw_Z below #[Value.ref b] s) (F0 m pc ls st)
theorem xInj_of {g : Gb} {B : Nat} (h : nR g B) : xInj g := fun i j hi hj he => xoff_inj i hi j hj (by rw [h i hi, h j hj] at he; omega)
theorem xA_nA {g : Gb} {B a : Nat} (h : nR g B) (ha : xA g a) : nA B a := by
  obtain ⟨q, hq, rfl⟩ := ha
  show B ≤ gR g q
  rw [h q hq]; omega
section ZR
variable {g : Gb} {b L pc k : Nat} {xs : Nat → Int32} {lv lv' : List (Nat × Value)} {st : List Value} {σ : Mm}
theorem zdec {p : Program} {s : State} {m : MethodId} {meth : Method} {c : Code} {i : Instr} {n : Nat} (C : zC g p s m meth c b L xs) (hd : il_law[k]? = some (pc, i, n)) : decode c.code pc = .ok (i, n) := by
  rw [C.2.1]; exact il_law_ok (pc, i, n) (List.mem_of_getElem? hd)
theorem z_sub (ks : List Nat) (hl : lv_pick lv ks = lv') (kk : zE g b L xs pc lv' st σ) : zE g b L xs pc lv st σ := by
  intro p e s m below meth c H locs ls C hP hS hl0
  exact kk p e s m below meth c H locs ls C hP hS (lv_sub hl0 ks hl)
theorem z_iconst {n : Int} {v : Int32} (hd : il_law[k]? = some (pc, .iconst n, 1)) (hv : Int32.ofInt n = v) (kk : zE g b L xs (pc + 1) lv (.int v :: st) σ) : zE g b L xs pc lv (st) σ := by
  intro p e s m below meth c H locs ls C hP hS hl
  exact lv_iconst C.1 rfl (zdec C hd) hv (kk p e s m below meth c H locs ls C hP hS hl)
theorem z_bipush {n : Int} {v : Int32} (hd : il_law[k]? = some (pc, .bipush n, 2)) (hv : (Int8.ofInt n).toInt32 = v) (kk : zE g b L xs (pc + 2) lv (.int v :: st) σ) : zE g b L xs pc lv (st) σ := by
  intro p e s m below meth c H locs ls C hP hS hl
  exact lv_bipush C.1 rfl (zdec C hd) hv (kk p e s m below meth c H locs ls C hP hS hl)
theorem z_iload_n {n : Fin 4} {i : Nat} {x : Int32} (hd : il_law[k]? = some (pc, .iload_n n, 1)) (hi : (n : Nat) = i) (j : Nat) (hj : lv[j]? = some (i, .int x)) (kk : zE g b L xs (pc + 1) lv (.int x :: st) σ) : zE g b L xs pc lv (st) σ := by
  intro p e s m below meth c H locs ls C hP hS hl
  exact lv_iload_n C.1 rfl (zdec C hd) hi (lv_at hl j hj) (kk p e s m below meth c H locs ls C hP hS hl)
theorem z_aload_n {n : Fin 4} {i x : Nat} (hd : il_law[k]? = some (pc, .aload_n n, 1)) (hi : (n : Nat) = i) (j : Nat) (hj : lv[j]? = some (i, .ref x)) (kk : zE g b L xs (pc + 1) lv (.ref x :: st) σ) : zE g b L xs pc lv (st) σ := by
  intro p e s m below meth c H locs ls C hP hS hl
  exact lv_aload_n C.1 rfl (zdec C hd) hi (lv_at hl j hj) (kk p e s m below meth c H locs ls C hP hS hl)
theorem z_iadd {x y : Int32} (hd : il_law[k]? = some (pc, .iadd, 1)) (kk : zE g b L xs (pc + 1) lv (.int (x + y) :: st) σ) : zE g b L xs pc lv (.int y :: .int x :: st) σ := by
  intro p e s m below meth c H locs ls C hP hS hl
  exact lv_iadd C.1 rfl (zdec C hd) (kk p e s m below meth c H locs ls C hP hS hl)
theorem z_isub {x y : Int32} (hd : il_law[k]? = some (pc, .isub, 1)) (kk : zE g b L xs (pc + 1) lv (.int (x - y) :: st) σ) : zE g b L xs pc lv (.int y :: .int x :: st) σ := by
  intro p e s m below meth c H locs ls C hP hS hl
  exact lv_isub C.1 rfl (zdec C hd) (kk p e s m below meth c H locs ls C hP hS hl)
theorem z_iand {x y : Int32} (hd : il_law[k]? = some (pc, .iand, 1)) (kk : zE g b L xs (pc + 1) lv (.int (x &&& y) :: st) σ) : zE g b L xs pc lv (.int y :: .int x :: st) σ := by
  intro p e s m below meth c H locs ls C hP hS hl
  exact lv_iand C.1 rfl (zdec C hd) (kk p e s m below meth c H locs ls C hP hS hl)
theorem z_lcmp {x y : Int64} (hd : il_law[k]? = some (pc, .lcmp, 1)) (kk : zE g b L xs (pc + 1) lv (.int (lg_cmp x y) :: st) σ) : zE g b L xs pc lv (.long y :: .long x :: st) σ := by
  intro p e s m below meth c H locs ls C hP hS hl
  exact W.lcmp C.1 rfl (zdec C hd) (kk p e s m below meth c H locs ls C hP hS hl)
theorem z_icmp_eq {x y : Int32} {off : Int} {tgt : Nat} (hd : il_law[k]? = some (pc, .if_icmp .eq off, 3)) (ht : (pc : Int) + off = (tgt : Int)) (kt : x = y → zE g b L xs tgt lv st σ) (kf : ¬ (x = y) → zE g b L xs (pc + 3) lv st σ) : zE g b L xs pc lv (.int y :: .int x :: st) σ := by
  intro p e s m below meth c H locs ls C hP hS hl
  exact lv_icmp_eq C.1 rfl (zdec C hd) ht (fun z => kt z p e s m below meth c H locs ls C hP hS hl) (fun z => kf z p e s m below meth c H locs ls C hP hS hl)
theorem z_icmp_gt {x y : Int32} {off : Int} {tgt : Nat} (hd : il_law[k]? = some (pc, .if_icmp .gt off, 3)) (ht : (pc : Int) + off = (tgt : Int)) (kt : y < x → zE g b L xs tgt lv st σ) (kf : ¬ (y < x) → zE g b L xs (pc + 3) lv st σ) : zE g b L xs pc lv (.int y :: .int x :: st) σ := by
  intro p e s m below meth c H locs ls C hP hS hl
  exact lv_icmp_gt C.1 rfl (zdec C hd) ht (fun z => kt z p e s m below meth c H locs ls C hP hS hl) (fun z => kf z p e s m below meth c H locs ls C hP hS hl)
theorem z_if_eq {x : Int32} {off : Int} {tgt : Nat} (hd : il_law[k]? = some (pc, .ifCond .eq off, 3)) (ht : (pc : Int) + off = (tgt : Int)) (kt : x = 0 → zE g b L xs tgt lv st σ) (kf : ¬ x = 0 → zE g b L xs (pc + 3) lv st σ) : zE g b L xs pc lv (.int x :: st) σ := by
  intro p e s m below meth c H locs ls C hP hS hl
  exact lv_if_eq C.1 rfl (zdec C hd) ht (fun z => kt z p e s m below meth c H locs ls C hP hS hl) (fun z => kf z p e s m below meth c H locs ls C hP hS hl)
theorem z_goto {off : Int} {tgt : Nat} (hd : il_law[k]? = some (pc, .goto off, 3)) (ht : (pc : Int) + off = (tgt : Int)) (kk : zE g b L xs tgt lv st σ) : zE g b L xs pc lv st σ := by
  intro p e s m below meth c H locs ls C hP hS hl
  exact lv_goto C.1 rfl (zdec C hd) ht (kk p e s m below meth c H locs ls C hP hS hl)
theorem z_iinc {i j : Nat} {n : Int} {x v : Int32} (hd : il_law[k]? = some (pc, .iinc i n, 3)) (hj : lv[j]? = some (i, .int x)) (hv : x + Int32.ofInt n = v) (hn : i < 4) (ks : List Nat) (hk : lv_pick ((i, Value.int v) :: lv.filter (fun q => !(q.1 == i) && !(q.1 + 1 == i && q.2.category == 2))) ks = lv') (kk : zE g b L xs (pc + 3) lv' st σ) : zE g b L xs pc lv st σ := by
  intro p e s m below meth c H locs ls C hP hS hl
  exact lv_iinc C.1 rfl (zdec C hd) hl hj hv hn rfl (fun ls' hl' => kk p e s m below meth c H locs ls' C hP hS (lv_sub hl' ks hk))
theorem z_tableIn {dflt lo hi off : Int} {offs : Array Int} {len tgt : Nat} {x v : Int32} (hd : il_law[k]? = some (pc, .tableswitch dflt lo hi offs, len)) (hx : x = v) (h1 : ¬ v.toInt < lo) (h2 : ¬ hi < v.toInt) (ho : offs[(v.toInt - lo).toNat]? = some off) (ht : (pc : Int) + off = (tgt : Int)) (kk : zE g b L xs tgt lv st σ) : zE g b L xs pc lv (.int x :: st) σ := by
  intro p e s m below meth c H locs ls C hP hS hl
  subst hx
  exact lv_tableIn C.1 rfl (zdec C hd) h1 h2 ho ht (kk p e s m below meth c H locs ls C hP hS hl)
theorem z_tableOut {dflt lo hi : Int} {offs : Array Int} {len tgt : Nat} {x : Int32} (hd : il_law[k]? = some (pc, .tableswitch dflt lo hi offs, len)) (h : x.toInt < lo ∨ hi < x.toInt) (ht : (pc : Int) + dflt = (tgt : Int)) (kk : zE g b L xs tgt lv st σ) : zE g b L xs pc lv (.int x :: st) σ := by
  intro p e s m below meth c H locs ls C hP hS hl
  exact lv_tableOut C.1 rfl (zdec C hd) h ht (kk p e s m below meth c H locs ls C hP hS hl)
theorem z_case {a : Prop} (k1 : a → zE g b L xs pc lv st σ) (k2 : ¬ a → zE g b L xs pc lv st σ) : zE g b L xs pc lv st σ := (Classical.em a).elim k1 k2
theorem z_sld {i : Int32} (hd : il_law[k]? = some (pc, .iaload, 1)) (hi : vp_in i L) (kk : zE g b L xs (pc + 1) lv (.int (xs i.toNatClampNeg) :: st) σ) : zE g b L xs pc lv (.int i :: .ref b :: st) σ := by
  intro p e s m below meth c H locs ls C hP hS hl
  obtain ⟨c1, c2, c3, c4, c5, c6, c7, c8, ⟨c9, c10⟩, c11, c12⟩ := id C
  exact va_sld c1 rfl c9 c10 (Nat.not_le.mpr c10 : ¬ nA s.heap.size b) hS hi (zdec C hd) (kk p e s m below meth c H locs ls C hP hS hl)
theorem z_slen (hd : il_law[k]? = some (pc, .arraylength, 1)) (kk : zE g b L xs (pc + 1) lv (.int (nI L) :: st) σ) : zE g b L xs pc lv (.ref b :: st) σ := by
  intro p e s m below meth c H locs ls C hP hS hl
  obtain ⟨c1, c2, c3, c4, c5, c6, c7, c8, ⟨c9, c10⟩, c11, c12⟩ := id C
  exact va_slen c1 rfl c9 c10 (Nat.not_le.mpr c10 : ¬ nA s.heap.size b) hS (zdec C hd) (kk p e s m below meth c H locs ls C hP hS hl)
theorem z_ret (hd : il_law[k]? = some (pc, .ireturn, 1)) : zE g b L xs pc lv [.int 1] σ := by
  intro p e s m below meth c H locs ls C hP hS hl
  obtain ⟨c1, c2, c3, c4, c5, c6, c7, c8, ⟨c9, c10⟩, c11, c12⟩ := id C
  refine va_forget (fun q hq => hS.2.2 q hq) ?_
  refine W.widen (k := 600128) (n := 7301064) (by decide) (by decide) ?_
  exact lw_ret c1 c2 c4 c6 (by rw [← c2]; exact zdec C hd)
/-- a call of one of the two objects -/
theorem z_call {y : MethodName} {n idx q ci : Nat} {As rest st0 : List Value} {Po1 : Outcome → Mm → Prop} (hd : il_law[k]? = some (pc, .invokevirtual idx, 3))
    (hK : ∀ (p : Program) (e : Env) (s : State) (below : List Frame), (∀ w ∈ xtbl, w.before #[Value.ref b] s = true) → xBack (gL g) room_1 p e below s #[Value.ref b] y (xPc g (.ref (gR g q) :: As) σ) (xQ g Po1) (xA g))
    (hsg : ∀ (s : State), (∀ w ∈ xtbl, w.before #[Value.ref b] s = true) → ∀ mk methM, s.methodNamed? y = some mk → s.vm.method? mk = some methM → parseMethodDescriptor y.desc = some methM.sig)
    (hne : y.cls ≠ "java/lang/invoke/MethodHandle" ∧ y.cls ≠ "java/lang/invoke/VarHandle") (hpl : (parseMethodDescriptor y.desc).map (fun d => d.parameters.length) = some n) (hi : xI y) (hl : Cond.methodLink RL idx y ∈ xtbl)
    (hq : xlay q = (0, ci, 0)) (hc : ∃ r, xCl[ci]? = some r ∧ r.1 = y.cls) (hn : As.length = n) (hst : st0 = As.reverse ++ .ref (gR g q) :: rest) (hsum : (rest.map fun v => v.category).sum ≤ 8)
    (kR : ∀ v σ1, Po1 (.returned v) σ1 → zE g b L xs (pc + 3) lv (v.toList ++ rest) σ1) (kT : ∀ x σ1, ¬ Po1 (.threw x) σ1) : zE g b L xs pc lv st0 σ := by
  intro p e s m below meth c H locs ls C hP hS hl0 T hT X
  obtain ⟨c1, c2, c3, c4, c5, c6, c7, c8, ⟨c9, c10⟩, c11, c12⟩ := id C
  have hlt : q < 67 := xlay_lt (by simp [hq])
  obtain ⟨r, hc1, hc2⟩ := hc
  obtain ⟨cell, k1, k2, k3⟩ := va_recv c8 hP.1 (q0 := q) hc1 (by rw [xw_get hlt, xent_o hq])
  rw [hc2] at k3
  have hlen : ∀ sig, parseMethodDescriptor y.desc = some sig → As.length = sig.parameters.length := by
    intro sig h
    rw [h] at hpl
    exact hn.trans (Option.some.inj hpl).symm
  have hr : xRes p (gL g) e room_1 s m #[Value.ref b] below meth c T locs 67 36054 (F0 m pc ls st0) rest (xQ g Po1) (xA g) := by
    refine xcallV (C := y.cls) X c1 (bytes := code) (maxL := 0) (ret := none) c5 (c7 _ hl) (c7 _ hi.1) (c7 _ hi.2) (hsg s c7) hne (hK p e s below c7) (by rw [hT]; exact k1) k2 k3 rfl (hl0.1.trans c3.symm) (argsL := As) (rest := rest) hlen hst (lv_room hsum) (zdec C hd) (by decide) (by decide) (fun vm₁ g' mk hW => ?_)
    have hh : ((T.setVm vm₁).calling g' mk (Value.ref (gR g q) :: As).toArray).heap = H := hT
    have hW1 : s.WarmedH ((T.setVm vm₁).calling g' mk (Value.ref (gR g q) :: As).toArray).vm := hW
    exact ⟨rfl, by rw [hh]; exact hP, va_K.moved hW1.alike c8, c12.to hW1 (fun a ha _ => by rw [hh]; exact hS.2.1 a ha (Nat.not_le.mpr ha))⟩
  obtain ⟨o, st1, t, T', L', h0, X', hL, h1, h2, ⟨⟨σ1, hp, hP1⟩, hz, hk⟩, hr⟩ := hr
  rw [h0, hT] at hz hk
  have hS1 : va_S (nA s.heap.size) s.heap T'.heap (locs ++ L') := by
    rw [h1]
    refine ⟨Nat.le_trans hS.1 hz, fun x a z => ?_, fun x hx => ?_⟩
    · rw [hk x (Nat.lt_of_lt_of_le a hS.1) (fun w => z (xA_nA c11 w))]; exact hS.2.1 x a z
    · rcases List.mem_append.mp hx with h | h
      · exact hS.2.2 x h
      · exact xA_nA c11 (hL x h)
  rcases hr with ⟨v, rfl, hst⟩ | ⟨x, rfl, hst⟩
  · obtain ⟨t2, a1, b1⟩ := kR v σ1 hp p e s m below meth c T'.heap (locs ++ L') ls C (by rw [h1]; exact hP1) hS1 hl0 T' rfl X'
    exact ⟨t2, hst t2 a1, b1⟩
  · exact absurd hp (kT x σ1)
theorem xbkW {p : Program} {e : Env} {s : State} {args : Array Value} {below : List Frame} {Pc : Array Value → State → Prop} {Qc : State → Outcome → State → Prop} {free : Addr → Prop} {R : Room} {l : Launch} {y : MethodName} {cc : ByteArray} {nL : Nat} {ret : Option FieldType} {hs : List (Nat × Nat × Nat × Nat)} {rm : Room} (hts : ∀ w ∈ xtbl, w.before args s = true) (hw0 : Cond.codeWith y cc nL ret hs ∈ xtbl) (hin : Cond.initialized y.cls ∈ xtbl)
    (hM : xMet l y (xwsW y cc nL ret hs) rm Pc Qc free) (hrm : rm.frames + 1 ≤ R.frames ∧ 8 + (nL + 11) + rm.locals ≤ R.locals ∧ rm.cells = 0 ∧ rm.slots = 0) : xBack l R p e below s args y Pc Qc free := by
  have hw : ∀ w ∈ xtbl, ∀ (a' : Array Value) (U : State), s.WarmedH U.vm → w.before a' U = true := fun w h a' U hW => word_at hW (good_of_word (xgood h)) (hts w h)
  refine xBack_of (bytes := cc) (ret := ret) (maxL := nL) hM hrm.1 hrm.2.1 hrm.2.2.1 hrm.2.2.2 (fun U hW => ?_) (fun w h => ?_) (hw _ hin)
  · obtain ⟨mY, methY, cY, h1, h2, h3, h4, h5, -⟩ := Cond.codeWith_spec (hw _ hw0 #[] U hW)
    exact ⟨mY, methY, cY, h1, h2, h3, h5⟩
  · rcases List.mem_cons.mp h with rfl | h
    · exact hw _ hw0
    · exact hw _ h
end ZR
