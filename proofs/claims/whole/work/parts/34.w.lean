/-! methods (by program) -/
def il_X4_readGroup : List (Nat × Instr × Nat) := [(0, .iload_n 1, 1), (1, .ifCond .eq 29, 3), (4, .aload_n 0, 1), (5, .getfield 48, 3), (8, .invokevirtual 252, 3), (11, .ifCond .ne 19, 3), (14, .aload_n 0, 1), (15, .getfield 9, 3), (18, .iconst 2, 1), (19, .aload_n 0, 1), (20, .getfield 9, 3), (23, .getfield 123, 3), (26, .invokevirtual 93, 3), (29, .return_, 1), (30, .aload_n 0, 1), (31, .getfield 9, 3), (34, .dup, 1), (35, .getfield 123, 3), (38, .iconst 1, 1), (39, .iadd, 1), (40, .putfield 123, 3), (43, .aload_n 0, 1), (44, .getfield 29, 3), (47, .getfield 255, 3), (50, .istore_n 2, 1), (51, .iload_n 1, 1), (52, .ifCond .eq 8, 3), (55, .bipush 12, 2), (57, .goto 5, 3), (60, .bipush 8, 2), (62, .istore_n 3, 1), (63, .iload_n 1, 1), (64, .ifCond .eq 8, 3), (67, .bipush 93, 2), (69, .goto 5, 3), (72, .bipush 125, 2), (74, .istore 4, 2), (76, .iconst 0, 1), (77, .istore 5, 2), (79, .iload 5, 2), (81, .iload_n 3, 1), (82, .if_icmp .gt 82, 3), (85, .aload_n 0, 1), (86, .getfield 9, 3), (89, .getfield 78, 3), (92, .ifCond .ne 72, 3), (95, .iload 5, 2), (97, .ifCond .eq 16, 3), (100, .aload_n 0, 1), (101, .getfield 9, 3), (104, .iconst 0, 1), (105, .invokevirtual 126, 3), (108, .iload 4, 2), (110, .if_icmp .eq 54, 3), (113, .iload 5, 2), (115, .iload_n 3, 1), (116, .if_icmp .ne 27, 3), (119, .aload_n 0, 1), (120, .invokevirtual 204, 3), (123, .iconst 1, 1), (124, .if_icmp .ne 19, 3), (127, .aload_n 0, 1), (128, .getfield 9, 3), (131, .iconst 2, 1), (132, .aload_n 0, 1), (133, .getfield 9, 3), (136, .getfield 123, 3), (139, .invokevirtual 93, 3), (142, .return_, 1), (143, .aload_n 0, 1), (144, .iload_n 1, 1), (145, .ifCond .eq 7, 3), (148, .iconst 0, 1), (149, .goto 4, 3), (152, .iconst 5, 1), (153, .iload 5, 2), (155, .invokevirtual 256, 3), (158, .iinc 5 1, 3), (161, .goto (-82), 3), (164, .aload_n 0, 1), (165, .getfield 9, 3), (168, .dup, 1), (169, .getfield 123, 3), (172, .iconst 1, 1), (173, .iadd, 1), (174, .putfield 123, 3), (177, .iload_n 1, 1), (178, .ifCond .eq 32, 3), (181, .aload_n 0, 1), (182, .getfield 9, 3), (185, .getfield 78, 3), (188, .ifCond .ne 22, 3), (191, .aload_n 0, 1), (192, .invokevirtual 262, 3), (195, .aload_n 0, 1), (196, .iload_n 2, 1), (197, .iload 5, 2), (199, .aload_n 0, 1), (200, .getfield 265, 3), (203, .aload_n 0, 1), (204, .getfield 268, 3), (207, .invokevirtual 259, 3), (210, .return_, 1)]
set_option maxRecDepth 20000 in
theorem il_X4_readGroup_ok : ∀ x ∈ il_X4_readGroup, decode cX4_readGroup x.1 = .ok x.2 := by decide +kernel
abbrev me_X4_readGroup : Me := (RX4, il_X4_readGroup, 6, none, xRoom 6, [])
def w_X4_readGroup_210 (n : Nat) (u0 : Mm) (Q : Mm → Prop) : Prop :=
  Q u0
def w_X4_readGroup_164 (n : Nat) (x1 : Int32) (x2 : Int32) (x5 : Int32) (u0 : Mm) (Q : Mm → Prop) : Prop :=
  mlet (setI u0 33 2 ((u0.1 33 2) + (1 : Int32))) fun u1 =>
  (x1 = 0 → w_X4_readGroup_210 n u1 Q) ∧
  (¬ x1 = 0 → (¬ (u1.1 33 6) = 0 → w_X4_readGroup_210 n u1 Q) ∧
  ((u1.1 33 6) = 0 → w_X4_readLength n u1 (fun u2 =>
  w_X4_finishTimed n x2 x5 (u2.1 38 7) (u2.1 38 8) u2 (fun u3 =>
  w_X4_readGroup_210 n u3 Q))))
def w_X4_readGroup_153 (n : Nat) (L79 : Int32 → Int32 → Int32 → Int32 → Int32 → Mm → Prop) (x1 : Int32) (x2 : Int32) (x3 : Int32) (x4 : Int32) (x5 : Int32) (t0 : Int32) (u0 : Mm) (Q : Mm → Prop) : Prop :=
  w_X4_readNote n t0 x5 u0 (fun u1 =>
  L79 x1 x2 x3 x4 (x5 + (1 : Int32)) u1)
def w_X4_readGroup_143 (n : Nat) (L79 : Int32 → Int32 → Int32 → Int32 → Int32 → Mm → Prop) (x1 : Int32) (x2 : Int32) (x3 : Int32) (x4 : Int32) (x5 : Int32) (u0 : Mm) (Q : Mm → Prop) : Prop :=
  (x1 = 0 → w_X4_readGroup_153 n L79 x1 x2 x3 x4 x5 (5 : Int32) u0 Q) ∧
  (¬ x1 = 0 → w_X4_readGroup_153 n L79 x1 x2 x3 x4 x5 (0 : Int32) u0 Q)
def w_X4_readGroup_113 (n : Nat) (L79 : Int32 → Int32 → Int32 → Int32 → Int32 → Mm → Prop) (x1 : Int32) (x2 : Int32) (x3 : Int32) (x4 : Int32) (x5 : Int32) (u0 : Mm) (Q : Mm → Prop) : Prop :=
  (¬ x5 = x3 → w_X4_readGroup_143 n L79 x1 x2 x3 x4 x5 u0 Q) ∧
  (x5 = x3 → w_X4_formHere n u0 (fun r1 u1 =>
  (¬ r1 = (1 : Int32) → w_X4_readGroup_143 n L79 x1 x2 x3 x4 x5 u1 Q) ∧
  (r1 = (1 : Int32) → w_X5_fail n (2 : Int32) (u1.1 33 2) u1 (fun u2 =>
  Q u2))))
def w_X4_readGroup_79 (n : Nat) (Q : Mm → Prop) : Nat → Int32 → Int32 → Int32 → Int32 → Int32 → Mm → Prop
  | 0, _, _, _, _, _, _ => False
  | k + 1, x1, x2, x3, x4, x5, u0 =>
  (x3 < x5 → w_X4_readGroup_164 n x1 x2 x5 u0 Q) ∧
  (¬ x3 < x5 → (¬ (u0.1 33 6) = 0 → w_X4_readGroup_164 n x1 x2 x5 u0 Q) ∧
  ((u0.1 33 6) = 0 → (x5 = 0 → w_X4_readGroup_113 n (w_X4_readGroup_79 n Q k) x1 x2 x3 x4 x5 u0 Q) ∧
  (¬ x5 = 0 → w_X5_peek n (0 : Int32) u0 (fun r1 u1 =>
  (r1 = x4 → w_X4_readGroup_164 n x1 x2 x5 u1 Q) ∧
  (¬ r1 = x4 → w_X4_readGroup_113 n (w_X4_readGroup_79 n Q k) x1 x2 x3 x4 x5 u1 Q)))))
def w_X4_readGroup_74 (n : Nat) (x1 : Int32) (x2 : Int32) (x3 : Int32) (t0 : Int32) (u0 : Mm) (Q : Mm → Prop) : Prop :=
  (w_X4_readGroup_79 n Q n) x1 x2 x3 t0 (0 : Int32) u0
def w_X4_readGroup_62 (n : Nat) (x1 : Int32) (x2 : Int32) (t0 : Int32) (u0 : Mm) (Q : Mm → Prop) : Prop :=
  (x1 = 0 → w_X4_readGroup_74 n x1 x2 t0 (125 : Int32) u0 Q) ∧
  (¬ x1 = 0 → w_X4_readGroup_74 n x1 x2 t0 (93 : Int32) u0 Q)
def w_X4_readGroup_30 (n : Nat) (x1 : Int32) (u0 : Mm) (Q : Mm → Prop) : Prop :=
  mlet (setI u0 33 2 ((u0.1 33 2) + (1 : Int32))) fun u1 =>
  ilet (u1.1 36 3) fun y1 =>
  (x1 = 0 → w_X4_readGroup_62 n x1 y1 (8 : Int32) u1 Q) ∧
  (¬ x1 = 0 → w_X4_readGroup_62 n x1 y1 (12 : Int32) u1 Q)
def w_X4_readGroup (n : Nat) (a0 : Int32) (u0 : Mm) (Q : Mm → Prop) : Prop :=
  (a0 = 0 → w_X4_readGroup_30 n a0 u0 Q) ∧
  (¬ a0 = 0 → w_X8_enterMeasure n (u0.2.2 2) u0 (fun r1 u1 =>
  (¬ r1 = 0 → w_X4_readGroup_30 n a0 u1 Q) ∧
  (r1 = 0 → w_X5_fail n (2 : Int32) (u1.1 33 2) u1 (fun u2 =>
  Q u2))))
set_option maxRecDepth 20000 in
theorem s_X4_readGroup_210 {g : Gb} (hg : xInj g) {n : Nat} {Q : Mm → Prop} {u0 : Mm} (h : w_X4_readGroup_210 n  u0 Q) : xE g me_X4_readGroup (pV g Q noT) 210 [] [] u0 := by
  unfold w_X4_readGroup_210 at h
  exact e_vret (k := 102) rfl rfl (Or.inl ⟨rfl, h⟩)
set_option maxRecDepth 20000 in
theorem s_X4_readGroup_164 {g : Gb} (hg : xInj g) {n : Nat} {Q : Mm → Prop} {x1 : Int32} {x2 : Int32} {x5 : Int32} {u0 : Mm} (h : w_X4_readGroup_164 n x1 x2 x5 u0 Q) : xE g me_X4_readGroup (pV g Q noT) 164 [(0, .ref (gR g 38)), (1, .int x1), (2, .int x2), (5, .int x5)] [] u0 := by
  unfold w_X4_readGroup_164 at h
  refine e_aload_n (k := 79) (i := 0) rfl rfl 0 rfl ?_
  refine e_getC (k := 80) rfl f_X4_9 rfl rfl ?_
  refine e_dup (k := 81) rfl rfl ?_
  refine e_getI (k := 82) rfl f_X4_123 rfl rfl ?_
  refine e_iconst (k := 83) (v := (1 : Int32)) rfl (by decide) ?_
  refine e_iadd (k := 84) rfl ?_
  refine e_putI (k := 85) rfl fg_X4_123 rfl rfl ?_
  refine e_mlet h (fun u1 h => ?_)
  refine e_iload_n (k := 86) (i := 1) rfl rfl 1 rfl ?_
  refine e_if_eq (k := 87) (tgt := 210) rfl (by decide) (fun z => ?_) (fun z => ?_)
  · have h := h.1 z
    refine e_sub (lv' := []) [] rfl ?_
    exact s_X4_readGroup_210 hg h
  · have h := h.2 z
    refine e_aload_n (k := 88) (i := 0) rfl rfl 0 rfl ?_
    refine e_getC (k := 89) rfl f_X4_9 rfl rfl ?_
    refine e_getI (k := 90) rfl f_X4_78 rfl rfl ?_
    refine e_if_ne (k := 91) (tgt := 210) rfl (by decide) (fun z => ?_) (fun z => ?_)
    · have h := h.1 z
      refine e_sub (lv' := []) [] rfl ?_
      exact s_X4_readGroup_210 hg h
    · have h := h.2 z
      refine e_aload_n (k := 92) (i := 0) rfl rfl 0 rfl ?_
      refine e_callVv (k := 93) (q := 38) (As := []) (rest := []) rfl (c_X4_readLength (g := g) hg (n := n) h) m_X4_readLength i_X4_readLength l_X4_262 rfl ⟨_, rfl, rfl⟩ rfl rfl (Nat.le_of_ble_eq_true rfl) ⟨by decide, by decide, rfl, rfl⟩ (fun _ h => h.elim) (fun u2 h => ?_)
      refine e_aload_n (k := 94) (i := 0) rfl rfl 0 rfl ?_
      refine e_iload_n (k := 95) (i := 2) rfl rfl 2 rfl ?_
      refine e_iload (k := 96) (i := 5) rfl 3 rfl ?_
      refine e_aload_n (k := 97) (i := 0) rfl rfl 0 rfl ?_
      refine e_getI (k := 98) rfl f_X4_265 rfl rfl ?_
      refine e_aload_n (k := 99) (i := 0) rfl rfl 0 rfl ?_
      refine e_getI (k := 100) rfl f_X4_268 rfl rfl ?_
      refine e_callVv (k := 101) (q := 38) (As := [.int x2, .int x5, .int (u2.1 38 7), .int (u2.1 38 8)]) (rest := []) rfl (c_X4_finishTimed (g := g) hg (n := n) h) m_X4_finishTimed i_X4_finishTimed l_X4_259 rfl ⟨_, rfl, rfl⟩ rfl rfl (Nat.le_of_ble_eq_true rfl) ⟨by decide, by decide, rfl, rfl⟩ (fun _ h => h.elim) (fun u3 h => ?_)
      refine e_sub (lv' := []) [] rfl ?_
      exact s_X4_readGroup_210 hg h
set_option maxRecDepth 20000 in
theorem s_X4_readGroup_153 {g : Gb} (hg : xInj g) {n : Nat} {Q : Mm → Prop} {L79 : Int32 → Int32 → Int32 → Int32 → Int32 → Mm → Prop} (hL79 : ∀ (x1 : Int32) (x2 : Int32) (x3 : Int32) (x4 : Int32) (x5 : Int32) (u0 : Mm), L79 x1 x2 x3 x4 x5 u0 → xE g me_X4_readGroup (pV g Q noT) 79 [(0, .ref (gR g 38)), (1, .int x1), (2, .int x2), (3, .int x3), (4, .int x4), (5, .int x5)] [] u0) {x1 : Int32} {x2 : Int32} {x3 : Int32} {x4 : Int32} {x5 : Int32} {t0 : Int32} {u0 : Mm} (h : w_X4_readGroup_153 n L79 x1 x2 x3 x4 x5 t0 u0 Q) : xE g me_X4_readGroup (pV g Q noT) 153 [(0, .ref (gR g 38)), (1, .int x1), (2, .int x2), (3, .int x3), (4, .int x4), (5, .int x5)] [.int t0, .ref (gR g 38)] u0 := by
  unfold w_X4_readGroup_153 at h
  refine e_iload (k := 75) (i := 5) rfl 5 rfl ?_
  refine e_callVv (k := 76) (q := 38) (As := [.int t0, .int x5]) (rest := []) rfl (c_X4_readNote (g := g) hg (n := n) h) m_X4_readNote i_X4_readNote l_X4_256 rfl ⟨_, rfl, rfl⟩ rfl rfl (Nat.le_of_ble_eq_true rfl) ⟨by decide, by decide, rfl, rfl⟩ (fun _ h => h.elim) (fun u1 h => ?_)
  refine e_iinc (k := 77) (i := 5) (j := 5) (v := (x5 + (1 : Int32))) (lv' := [(0, .ref (gR g 38)), (1, .int x1), (2, .int x2), (3, .int x3), (4, .int x4), (5, .int (x5 + (1 : Int32)))]) rfl rfl rfl (by decide) [1, 2, 3, 4, 5, 0] rfl ?_
  refine e_goto (k := 78) (tgt := 79) rfl (by decide) ?_
  exact hL79 x1 x2 x3 x4 (x5 + (1 : Int32)) u1 h
set_option maxRecDepth 20000 in
theorem s_X4_readGroup_143 {g : Gb} (hg : xInj g) {n : Nat} {Q : Mm → Prop} {L79 : Int32 → Int32 → Int32 → Int32 → Int32 → Mm → Prop} (hL79 : ∀ (x1 : Int32) (x2 : Int32) (x3 : Int32) (x4 : Int32) (x5 : Int32) (u0 : Mm), L79 x1 x2 x3 x4 x5 u0 → xE g me_X4_readGroup (pV g Q noT) 79 [(0, .ref (gR g 38)), (1, .int x1), (2, .int x2), (3, .int x3), (4, .int x4), (5, .int x5)] [] u0) {x1 : Int32} {x2 : Int32} {x3 : Int32} {x4 : Int32} {x5 : Int32} {u0 : Mm} (h : w_X4_readGroup_143 n L79 x1 x2 x3 x4 x5 u0 Q) : xE g me_X4_readGroup (pV g Q noT) 143 [(0, .ref (gR g 38)), (1, .int x1), (2, .int x2), (3, .int x3), (4, .int x4), (5, .int x5)] [] u0 := by
  unfold w_X4_readGroup_143 at h
  refine e_aload_n (k := 69) (i := 0) rfl rfl 0 rfl ?_
  refine e_iload_n (k := 70) (i := 1) rfl rfl 1 rfl ?_
  refine e_if_eq (k := 71) (tgt := 152) rfl (by decide) (fun z => ?_) (fun z => ?_)
  · have h := h.1 z
    refine e_iconst (k := 74) (v := (5 : Int32)) rfl (by decide) ?_
    exact s_X4_readGroup_153 hg hL79 h
  · have h := h.2 z
    refine e_iconst (k := 72) (v := (0 : Int32)) rfl (by decide) ?_
    refine e_goto (k := 73) (tgt := 153) rfl (by decide) ?_
    exact s_X4_readGroup_153 hg hL79 h
set_option maxRecDepth 20000 in
theorem s_X4_readGroup_113 {g : Gb} (hg : xInj g) {n : Nat} {Q : Mm → Prop} {L79 : Int32 → Int32 → Int32 → Int32 → Int32 → Mm → Prop} (hL79 : ∀ (x1 : Int32) (x2 : Int32) (x3 : Int32) (x4 : Int32) (x5 : Int32) (u0 : Mm), L79 x1 x2 x3 x4 x5 u0 → xE g me_X4_readGroup (pV g Q noT) 79 [(0, .ref (gR g 38)), (1, .int x1), (2, .int x2), (3, .int x3), (4, .int x4), (5, .int x5)] [] u0) {x1 : Int32} {x2 : Int32} {x3 : Int32} {x4 : Int32} {x5 : Int32} {u0 : Mm} (h : w_X4_readGroup_113 n L79 x1 x2 x3 x4 x5 u0 Q) : xE g me_X4_readGroup (pV g Q noT) 113 [(0, .ref (gR g 38)), (1, .int x1), (2, .int x2), (3, .int x3), (4, .int x4), (5, .int x5)] [] u0 := by
  unfold w_X4_readGroup_113 at h
  refine e_iload (k := 54) (i := 5) rfl 5 rfl ?_
  refine e_iload_n (k := 55) (i := 3) rfl rfl 3 rfl ?_
  refine e_icmp_ne (k := 56) (tgt := 143) rfl (by decide) (fun z => ?_) (fun z => ?_)
  · have h := h.1 z
    exact s_X4_readGroup_143 hg hL79 h
  · have h := h.2 z
    refine e_aload_n (k := 57) (i := 0) rfl rfl 0 rfl ?_
    refine e_callVi (k := 58) (q := 38) (As := []) (rest := []) rfl (c_X4_formHere (g := g) hg (n := n) h) m_X4_formHere i_X4_formHere l_X4_204 rfl ⟨_, rfl, rfl⟩ rfl rfl (Nat.le_of_ble_eq_true rfl) ⟨by decide, by decide, rfl, rfl⟩ (fun _ h => h.elim) (fun r1 u1 h => ?_)
    refine e_iconst (k := 59) (v := (1 : Int32)) rfl (by decide) ?_
    refine e_icmp_ne (k := 60) (tgt := 143) rfl (by decide) (fun z => ?_) (fun z => ?_)
    · have h := h.1 z
      exact s_X4_readGroup_143 hg hL79 h
    · have h := h.2 z
      refine e_aload_n (k := 61) (i := 0) rfl rfl 0 rfl ?_
      refine e_getC (k := 62) rfl f_X4_9 rfl rfl ?_
      refine e_iconst (k := 63) (v := (2 : Int32)) rfl (by decide) ?_
      refine e_aload_n (k := 64) (i := 0) rfl rfl 0 rfl ?_
      refine e_getC (k := 65) rfl f_X4_9 rfl rfl ?_
      refine e_getI (k := 66) rfl f_X4_123 rfl rfl ?_
      refine e_callVv (k := 67) (q := 33) (As := [.int (2 : Int32), .int (u1.1 33 2)]) (rest := []) rfl (c_X5_fail (g := g) hg (n := n) h) m_X5_fail i_X5_fail l_X4_93 rfl ⟨_, rfl, rfl⟩ rfl rfl (Nat.le_of_ble_eq_true rfl) ⟨by decide, by decide, rfl, rfl⟩ (fun _ h => h.elim) (fun u2 h => ?_)
      exact e_vret (k := 68) rfl rfl (Or.inl ⟨rfl, h⟩)
set_option maxRecDepth 20000 in
theorem s_X4_readGroup_79 {g : Gb} (hg : xInj g) {n : Nat} {Q : Mm → Prop} : ∀ (k : Nat) (x1 : Int32) (x2 : Int32) (x3 : Int32) (x4 : Int32) (x5 : Int32) (u0 : Mm), w_X4_readGroup_79 n Q k x1 x2 x3 x4 x5 u0 → xE g me_X4_readGroup (pV g Q noT) 79 [(0, .ref (gR g 38)), (1, .int x1), (2, .int x2), (3, .int x3), (4, .int x4), (5, .int x5)] [] u0 := by
  intro k
  induction k with
  | zero => intro x1 x2 x3 x4 x5 u0 h; exact h.elim
  | succ k ih =>
    intro x1 x2 x3 x4 x5 u0 h
    unfold w_X4_readGroup_79 at h
    refine e_iload (k := 39) (i := 5) rfl 5 rfl ?_
    refine e_iload_n (k := 40) (i := 3) rfl rfl 3 rfl ?_
    refine e_icmp_gt (k := 41) (tgt := 164) rfl (by decide) (fun z => ?_) (fun z => ?_)
    · have h := h.1 z
      refine e_sub (lv' := [(0, .ref (gR g 38)), (1, .int x1), (2, .int x2), (5, .int x5)]) [0, 1, 2, 5] rfl ?_
      exact s_X4_readGroup_164 hg h
    · have h := h.2 z
      refine e_aload_n (k := 42) (i := 0) rfl rfl 0 rfl ?_
      refine e_getC (k := 43) rfl f_X4_9 rfl rfl ?_
      refine e_getI (k := 44) rfl f_X4_78 rfl rfl ?_
      refine e_if_ne (k := 45) (tgt := 164) rfl (by decide) (fun z => ?_) (fun z => ?_)
      · have h := h.1 z
        refine e_sub (lv' := [(0, .ref (gR g 38)), (1, .int x1), (2, .int x2), (5, .int x5)]) [0, 1, 2, 5] rfl ?_
        exact s_X4_readGroup_164 hg h
      · have h := h.2 z
        refine e_iload (k := 46) (i := 5) rfl 5 rfl ?_
        refine e_if_eq (k := 47) (tgt := 113) rfl (by decide) (fun z => ?_) (fun z => ?_)
        · have h := h.1 z
          exact s_X4_readGroup_113 hg ih h
        · have h := h.2 z
          refine e_aload_n (k := 48) (i := 0) rfl rfl 0 rfl ?_
          refine e_getC (k := 49) rfl f_X4_9 rfl rfl ?_
          refine e_iconst (k := 50) (v := (0 : Int32)) rfl (by decide) ?_
          refine e_callVi (k := 51) (q := 33) (As := [.int (0 : Int32)]) (rest := []) rfl (c_X5_peek (g := g) hg (n := n) h) m_X5_peek i_X5_peek l_X4_126 rfl ⟨_, rfl, rfl⟩ rfl rfl (Nat.le_of_ble_eq_true rfl) ⟨by decide, by decide, rfl, rfl⟩ (fun _ h => h.elim) (fun r1 u1 h => ?_)
          refine e_iload (k := 52) (i := 4) rfl 4 rfl ?_
          refine e_icmp_eq (k := 53) (tgt := 164) rfl (by decide) (fun z => ?_) (fun z => ?_)
          · have h := h.1 z
            refine e_sub (lv' := [(0, .ref (gR g 38)), (1, .int x1), (2, .int x2), (5, .int x5)]) [0, 1, 2, 5] rfl ?_
            exact s_X4_readGroup_164 hg h
          · have h := h.2 z
            exact s_X4_readGroup_113 hg ih h
set_option maxRecDepth 20000 in
theorem s_X4_readGroup_74 {g : Gb} (hg : xInj g) {n : Nat} {Q : Mm → Prop} {x1 : Int32} {x2 : Int32} {x3 : Int32} {t0 : Int32} {u0 : Mm} (h : w_X4_readGroup_74 n x1 x2 x3 t0 u0 Q) : xE g me_X4_readGroup (pV g Q noT) 74 [(0, .ref (gR g 38)), (1, .int x1), (2, .int x2), (3, .int x3)] [.int t0] u0 := by
  unfold w_X4_readGroup_74 at h
  refine e_istore (k := 36) (i := 4) (lv' := [(0, .ref (gR g 38)), (1, .int x1), (2, .int x2), (3, .int x3), (4, .int t0)]) rfl (by decide) [1, 2, 3, 4, 0] rfl ?_
  refine e_iconst (k := 37) (v := (0 : Int32)) rfl (by decide) ?_
  refine e_istore (k := 38) (i := 5) (lv' := [(0, .ref (gR g 38)), (1, .int x1), (2, .int x2), (3, .int x3), (4, .int t0), (5, .int (0 : Int32))]) rfl (by decide) [1, 2, 3, 4, 5, 0] rfl ?_
  exact s_X4_readGroup_79 hg n x1 x2 x3 t0 (0 : Int32) u0 h
set_option maxRecDepth 20000 in
theorem s_X4_readGroup_62 {g : Gb} (hg : xInj g) {n : Nat} {Q : Mm → Prop} {x1 : Int32} {x2 : Int32} {t0 : Int32} {u0 : Mm} (h : w_X4_readGroup_62 n x1 x2 t0 u0 Q) : xE g me_X4_readGroup (pV g Q noT) 62 [(0, .ref (gR g 38)), (1, .int x1), (2, .int x2)] [.int t0] u0 := by
  unfold w_X4_readGroup_62 at h
  refine e_istore_n (k := 30) (i := 3) (lv' := [(0, .ref (gR g 38)), (1, .int x1), (2, .int x2), (3, .int t0)]) rfl rfl (by decide) [1, 2, 3, 0] rfl ?_
  refine e_iload_n (k := 31) (i := 1) rfl rfl 1 rfl ?_
  refine e_if_eq (k := 32) (tgt := 72) rfl (by decide) (fun z => ?_) (fun z => ?_)
  · have h := h.1 z
    refine e_bipush (k := 35) (v := (125 : Int32)) rfl (by decide) ?_
    exact s_X4_readGroup_74 hg h
  · have h := h.2 z
    refine e_bipush (k := 33) (v := (93 : Int32)) rfl (by decide) ?_
    refine e_goto (k := 34) (tgt := 74) rfl (by decide) ?_
    exact s_X4_readGroup_74 hg h
set_option maxRecDepth 20000 in
theorem s_X4_readGroup_30 {g : Gb} (hg : xInj g) {n : Nat} {Q : Mm → Prop} {x1 : Int32} {u0 : Mm} (h : w_X4_readGroup_30 n x1 u0 Q) : xE g me_X4_readGroup (pV g Q noT) 30 [(0, .ref (gR g 38)), (1, .int x1)] [] u0 := by
  unfold w_X4_readGroup_30 at h
  refine e_aload_n (k := 14) (i := 0) rfl rfl 0 rfl ?_
  refine e_getC (k := 15) rfl f_X4_9 rfl rfl ?_
  refine e_dup (k := 16) rfl rfl ?_
  refine e_getI (k := 17) rfl f_X4_123 rfl rfl ?_
  refine e_iconst (k := 18) (v := (1 : Int32)) rfl (by decide) ?_
  refine e_iadd (k := 19) rfl ?_
  refine e_putI (k := 20) rfl fg_X4_123 rfl rfl ?_
  refine e_mlet h (fun u1 h => ?_)
  refine e_aload_n (k := 21) (i := 0) rfl rfl 0 rfl ?_
  refine e_getC (k := 22) rfl f_X4_29 rfl rfl ?_
  refine e_getI (k := 23) rfl f_X4_255 rfl rfl ?_
  refine e_ilet h (fun y1 h => ?_)
  refine e_istore_n (k := 24) (i := 2) (lv' := [(0, .ref (gR g 38)), (1, .int x1), (2, .int y1)]) rfl rfl (by decide) [1, 2, 0] rfl ?_
  refine e_iload_n (k := 25) (i := 1) rfl rfl 1 rfl ?_
  refine e_if_eq (k := 26) (tgt := 60) rfl (by decide) (fun z => ?_) (fun z => ?_)
  · have h := h.1 z
    refine e_bipush (k := 29) (v := (8 : Int32)) rfl (by decide) ?_
    exact s_X4_readGroup_62 hg h
  · have h := h.2 z
    refine e_bipush (k := 27) (v := (12 : Int32)) rfl (by decide) ?_
    refine e_goto (k := 28) (tgt := 62) rfl (by decide) ?_
    exact s_X4_readGroup_62 hg h
set_option maxRecDepth 20000 in
theorem c_X4_readGroup {g : Gb} (hg : xInj g) {n : Nat} {a0 : Int32} {u0 : Mm} {Q : Mm → Prop} (h : w_X4_readGroup n a0 u0 Q) : xMet (gL g) yX4_readGroup (xws yX4_readGroup cX4_readGroup 6 none) (xRoom 6) (xPc g [.ref (gR g 38), .int a0] u0) (xQ g (pV g Q noT)) (xA g) := by
  refine xbody (il := il_X4_readGroup) hg il_X4_readGroup_ok m_X4_readGroup (Nat.le_of_ble_eq_true rfl) ?_
  show xE g me_X4_readGroup (pV g Q noT) 0 [(0, .ref (gR g 38)), (1, .int a0)] [] u0
  unfold w_X4_readGroup at h
  refine e_iload_n (k := 0) (i := 1) rfl rfl 1 rfl ?_
  refine e_if_eq (k := 1) (tgt := 30) rfl (by decide) (fun z => ?_) (fun z => ?_)
  · have h := h.1 z
    exact s_X4_readGroup_30 hg h
  · have h := h.2 z
    refine e_aload_n (k := 2) (i := 0) rfl rfl 0 rfl ?_
    refine e_getP (k := 3) rfl f_X4_48 rfl rfl (fun ty1 => ?_)
    refine e_callVi (k := 4) (q := (u0.2.2 2)) (As := []) (rest := []) rfl (c_X8_enterMeasure (g := g) hg (n := n) ty1.2.2 h) m_X8_enterMeasure i_X8_enterMeasure l_X4_252 ty1.2.2 ⟨_, rfl, rfl⟩ rfl rfl (Nat.le_of_ble_eq_true rfl) ⟨by decide, by decide, rfl, rfl⟩ (fun _ h => h.elim) (fun r1 u1 h => ?_)
    refine e_if_ne (k := 5) (tgt := 30) rfl (by decide) (fun z => ?_) (fun z => ?_)
    · have h := h.1 z
      exact s_X4_readGroup_30 hg h
    · have h := h.2 z
      refine e_aload_n (k := 6) (i := 0) rfl rfl 0 rfl ?_
      refine e_getC (k := 7) rfl f_X4_9 rfl rfl ?_
      refine e_iconst (k := 8) (v := (2 : Int32)) rfl (by decide) ?_
      refine e_aload_n (k := 9) (i := 0) rfl rfl 0 rfl ?_
      refine e_getC (k := 10) rfl f_X4_9 rfl rfl ?_
      refine e_getI (k := 11) rfl f_X4_123 rfl rfl ?_
      refine e_callVv (k := 12) (q := 33) (As := [.int (2 : Int32), .int (u1.1 33 2)]) (rest := []) rfl (c_X5_fail (g := g) hg (n := n) h) m_X5_fail i_X5_fail l_X4_93 rfl ⟨_, rfl, rfl⟩ rfl rfl (Nat.le_of_ble_eq_true rfl) ⟨by decide, by decide, rfl, rfl⟩ (fun _ h => h.elim) (fun u2 h => ?_)
      exact e_vret (k := 13) rfl rfl (Or.inl ⟨rfl, h⟩)
def il_X4_readSingle : List (Nat × Instr × Nat) := [(0, .aload_n 0, 1), (1, .getfield 48, 3), (4, .invokevirtual 252, 3), (7, .ifCond .ne 19, 3), (10, .aload_n 0, 1), (11, .getfield 9, 3), (14, .iconst 2, 1), (15, .aload_n 0, 1), (16, .getfield 9, 3), (19, .getfield 123, 3), (22, .invokevirtual 93, 3), (25, .return_, 1), (26, .aload_n 0, 1), (27, .getfield 29, 3), (30, .getfield 255, 3), (33, .istore_n 1, 1), (34, .aload_n 0, 1), (35, .iconst 0, 1), (36, .iconst 0, 1), (37, .invokevirtual 256, 3), (40, .aload_n 0, 1), (41, .iload_n 1, 1), (42, .iconst 1, 1), (43, .iconst 1, 1), (44, .iconst 1, 1), (45, .invokevirtual 259, 3), (48, .return_, 1)]
set_option maxRecDepth 20000 in
theorem il_X4_readSingle_ok : ∀ x ∈ il_X4_readSingle, decode cX4_readSingle x.1 = .ok x.2 := by decide +kernel
abbrev me_X4_readSingle : Me := (RX4, il_X4_readSingle, 2, none, xRoom 6, [])
def w_X4_readSingle (n : Nat) (u0 : Mm) (Q : Mm → Prop) : Prop :=
  w_X8_enterMeasure n (u0.2.2 2) u0 (fun r1 u1 =>
  (¬ r1 = 0 → ilet (u1.1 36 3) fun y1 =>
  w_X4_readNote n (0 : Int32) (0 : Int32) u1 (fun u2 =>
  w_X4_finishTimed n y1 (1 : Int32) (1 : Int32) (1 : Int32) u2 (fun u3 =>
  Q u3))) ∧
  (r1 = 0 → w_X5_fail n (2 : Int32) (u1.1 33 2) u1 (fun u4 =>
  Q u4)))
set_option maxRecDepth 20000 in
theorem c_X4_readSingle {g : Gb} (hg : xInj g) {n : Nat} {u0 : Mm} {Q : Mm → Prop} (h : w_X4_readSingle n u0 Q) : xMet (gL g) yX4_readSingle (xws yX4_readSingle cX4_readSingle 2 none) (xRoom 6) (xPc g [.ref (gR g 38)] u0) (xQ g (pV g Q noT)) (xA g) := by
  refine xbody (il := il_X4_readSingle) hg il_X4_readSingle_ok m_X4_readSingle (Nat.le_of_ble_eq_true rfl) ?_
  show xE g me_X4_readSingle (pV g Q noT) 0 [(0, .ref (gR g 38))] [] u0
  unfold w_X4_readSingle at h
  refine e_aload_n (k := 0) (i := 0) rfl rfl 0 rfl ?_
  refine e_getP (k := 1) rfl f_X4_48 rfl rfl (fun ty1 => ?_)
  refine e_callVi (k := 2) (q := (u0.2.2 2)) (As := []) (rest := []) rfl (c_X8_enterMeasure (g := g) hg (n := n) ty1.2.2 h) m_X8_enterMeasure i_X8_enterMeasure l_X4_252 ty1.2.2 ⟨_, rfl, rfl⟩ rfl rfl (Nat.le_of_ble_eq_true rfl) ⟨by decide, by decide, rfl, rfl⟩ (fun _ h => h.elim) (fun r1 u1 h => ?_)
  refine e_if_ne (k := 3) (tgt := 26) rfl (by decide) (fun z => ?_) (fun z => ?_)
  · have h := h.1 z
    refine e_aload_n (k := 12) (i := 0) rfl rfl 0 rfl ?_
    refine e_getC (k := 13) rfl f_X4_29 rfl rfl ?_
    refine e_getI (k := 14) rfl f_X4_255 rfl rfl ?_
    refine e_ilet h (fun y1 h => ?_)
    refine e_istore_n (k := 15) (i := 1) (lv' := [(0, .ref (gR g 38)), (1, .int y1)]) rfl rfl (by decide) [1, 0] rfl ?_
    refine e_aload_n (k := 16) (i := 0) rfl rfl 0 rfl ?_
    refine e_iconst (k := 17) (v := (0 : Int32)) rfl (by decide) ?_
    refine e_iconst (k := 18) (v := (0 : Int32)) rfl (by decide) ?_
    refine e_callVv (k := 19) (q := 38) (As := [.int (0 : Int32), .int (0 : Int32)]) (rest := []) rfl (c_X4_readNote (g := g) hg (n := n) h) m_X4_readNote i_X4_readNote l_X4_256 rfl ⟨_, rfl, rfl⟩ rfl rfl (Nat.le_of_ble_eq_true rfl) ⟨by decide, by decide, rfl, rfl⟩ (fun _ h => h.elim) (fun u2 h => ?_)
    refine e_aload_n (k := 20) (i := 0) rfl rfl 0 rfl ?_
    refine e_iload_n (k := 21) (i := 1) rfl rfl 1 rfl ?_
    refine e_iconst (k := 22) (v := (1 : Int32)) rfl (by decide) ?_
    refine e_iconst (k := 23) (v := (1 : Int32)) rfl (by decide) ?_
    refine e_iconst (k := 24) (v := (1 : Int32)) rfl (by decide) ?_
    refine e_callVv (k := 25) (q := 38) (As := [.int y1, .int (1 : Int32), .int (1 : Int32), .int (1 : Int32)]) (rest := []) rfl (c_X4_finishTimed (g := g) hg (n := n) h) m_X4_finishTimed i_X4_finishTimed l_X4_259 rfl ⟨_, rfl, rfl⟩ rfl rfl (Nat.le_of_ble_eq_true rfl) ⟨by decide, by decide, rfl, rfl⟩ (fun _ h => h.elim) (fun u3 h => ?_)
    exact e_vret (k := 26) rfl rfl (Or.inl ⟨rfl, h⟩)
  · have h := h.2 z
    refine e_aload_n (k := 4) (i := 0) rfl rfl 0 rfl ?_
    refine e_getC (k := 5) rfl f_X4_9 rfl rfl ?_
    refine e_iconst (k := 6) (v := (2 : Int32)) rfl (by decide) ?_
    refine e_aload_n (k := 7) (i := 0) rfl rfl 0 rfl ?_
    refine e_getC (k := 8) rfl f_X4_9 rfl rfl ?_
    refine e_getI (k := 9) rfl f_X4_123 rfl rfl ?_
    refine e_callVv (k := 10) (q := 33) (As := [.int (2 : Int32), .int (u1.1 33 2)]) (rest := []) rfl (c_X5_fail (g := g) hg (n := n) h) m_X5_fail i_X5_fail l_X4_93 rfl ⟨_, rfl, rfl⟩ rfl rfl (Nat.le_of_ble_eq_true rfl) ⟨by decide, by decide, rfl, rfl⟩ (fun _ h => h.elim) (fun u4 h => ?_)
    exact e_vret (k := 11) rfl rfl (Or.inl ⟨rfl, h⟩)
def il_X12_readBroken : List (Nat × Instr × Nat) := [(0, .aload_n 0, 1), (1, .getfield 138, 3), (4, .istore_n 1, 1), (5, .aload_n 0, 1), (6, .invokevirtual 162, 3), (9, .istore_n 2, 1), (10, .aload_n 0, 1), (11, .getfield 423, 3), (14, .ifCond .ge 9, 3), (17, .aload_n 0, 1), (18, .iconst 5, 1), (19, .iload_n 1, 1), (20, .invokevirtual 148, 3), (23, .iconst 0, 1), (24, .istore_n 3, 1), (25, .aload_n 0, 1), (26, .iload_n 2, 1), (27, .invokevirtual 166, 3), (30, .ifCond .eq 24, 3), (33, .iload_n 3, 1), (34, .iconst 3, 1), (35, .if_icmp .ge 19, 3), (38, .iinc 3 1, 3), (41, .aload_n 0, 1), (42, .dup, 1), (43, .getfield 138, 3), (46, .iconst 1, 1), (47, .iadd, 1), (48, .putfield 138, 3), (51, .goto (-26), 3), (54, .aload_n 0, 1), (55, .invokevirtual 241, 3), (58, .aload_n 0, 1), (59, .invokevirtual 426, 3), (62, .ifCond .ne 12, 3), (65, .aload_n 0, 1), (66, .iconst 5, 1), (67, .aload_n 0, 1), (68, .getfield 138, 3), (71, .invokevirtual 148, 3), (74, .iconst 2, 1), (75, .iload_n 3, 1), (76, .ishl, 1), (77, .iconst 1, 1), (78, .isub, 1), (79, .istore 4, 2), (81, .iconst 1, 1), (82, .iload_n 3, 1), (83, .ishl, 1), (84, .istore 5, 2), (86, .iload_n 2, 1), (87, .bipush 62, 2), (89, .if_icmp .ne 8, 3), (92, .iload 4, 2), (94, .goto 4, 3), (97, .iconst 1, 1), (98, .istore 6, 2), (100, .aload_n 0, 1), (101, .getfield 423, 3), (104, .istore 7, 2), (106, .aload_n 0, 1), (107, .getfield 40, 3), (110, .iload 7, 2), (112, .laload, 1), (113, .lstore 8, 2), (115, .aload_n 0, 1), (116, .iload 7, 2), (118, .iconst 0, 1), (119, .invokevirtual 293, 3), (122, .ifCond .ne 14, 3), (125, .aload_n 0, 1), (126, .iload 7, 2), (128, .bipush 9, 2), (130, .invokevirtual 293, 3), (133, .goto 4, 3), (136, .iconst 1, 1), (137, .istore 10, 2), (139, .iload 7, 2), (141, .istore 11, 2), (143, .iload 11, 2), (145, .iload 7, 2), (147, .iload 10, 2), (149, .iadd, 1), (150, .if_icmp .ge 42, 3), (153, .aload_n 0, 1), (154, .getfield 40, 3), (157, .iload 11, 2), (159, .aload_n 0, 1), (160, .aload_n 0, 1), (161, .getfield 40, 3), (164, .iload 11, 2), (166, .laload, 1), (167, .iload 6, 2), (169, .i2l, 1), (170, .lmul, 1), (171, .iload 5, 2), (173, .i2l, 1), (174, .aload_n 0, 1), (175, .iload 11, 2), (177, .bipush 16, 2), (179, .invokevirtual 293, 3), (182, .invokevirtual 365, 3), (185, .lastore, 1), (186, .iinc 11 1, 3), (189, .goto (-46), 3), (192, .aload_n 0, 1), (193, .aload_n 0, 1), (194, .getfield 40, 3), (197, .iload 7, 2), (199, .laload, 1), (200, .lload 8, 2), (202, .lsub, 1), (203, .invokevirtual 419, 3), (206, .aload_n 0, 1), (207, .iload_n 2, 1), (208, .bipush 62, 2), (210, .if_icmp .ne 7, 3), (213, .iconst 1, 1), (214, .goto 5, 3), (217, .iload 4, 2), (219, .putfield 359, 3), (222, .aload_n 0, 1), (223, .iload 5, 2), (225, .putfield 362, 3), (228, .aload_n 0, 1), (229, .invokevirtual 429, 3), (232, .aload_n 0, 1), (233, .aload_n 0, 1), (234, .getfield 423, 3), (237, .putfield 432, 3), (240, .return_, 1)]
set_option maxRecDepth 20000 in
theorem il_X12_readBroken_ok : ∀ x ∈ il_X12_readBroken, decode cX12_readBroken x.1 = .ok x.2 := by decide +kernel
abbrev me_X12_readBroken : Me := (RX12, il_X12_readBroken, 12, none, xRoom 7, [])
def w_X12_readBroken_219 (n : Nat) (x5 : Int32) (t0 : Int32) (u0 : Mm) (Q : Mm → Prop) (T : Mm → Prop) : Prop :=
  mlet (setI u0 0 59 t0) fun u1 =>
  mlet (setI u1 0 60 x5) fun u2 =>
  w_X12_readTimed n u2 (fun u3 =>
  mlet (setI u3 0 63 (u3.1 0 49)) fun u4 =>
  Q u4) T
def w_X12_readBroken_143 (n : Nat) (Q : Mm → Prop) (T : Mm → Prop) : Nat → Int32 → Int32 → Int32 → Int32 → Int32 → Int64 → Int32 → Int32 → Mm → Prop
  | 0, _, _, _, _, _, _, _, _, _ => False
  | k + 1, x2, x4, x5, x6, x7, x8, x10, x11, u0 =>
  ((x7 + x10) ≤ x11 → vp_in x7 400 ∧ (w_X12_addTime n ((u0.2.1 7 (ix x7)) - x8) u0 (fun u1 =>
  (¬ x2 = (62 : Int32) → w_X12_readBroken_219 n x5 x4 u1 Q T) ∧
  (x2 = (62 : Int32) → w_X12_readBroken_219 n x5 (1 : Int32) u1 Q T)) T)) ∧
  (¬ (x7 + x10) ≤ x11 → vp_in x11 400 ∧ (w_X12_get n x11 (16 : Int32) u0 (fun r1 u2 =>
  w_X12_exact n ((u0.2.1 7 (ix x11)) * x6.toInt64) (x5.toInt64) r1 u2 (fun r2 u3 =>
  vp_in x11 400 ∧ (mlet (setJ u3 7 (ix x11) r2) fun u4 =>
  (w_X12_readBroken_143 n Q T k) x2 x4 x5 x6 x7 x8 x10 (x11 + (1 : Int32)) u4)) T) T))
def w_X12_readBroken_137 (n : Nat) (x2 : Int32) (x4 : Int32) (x5 : Int32) (x6 : Int32) (x7 : Int32) (x8 : Int64) (t0 : Int32) (u0 : Mm) (Q : Mm → Prop) (T : Mm → Prop) : Prop :=
  (w_X12_readBroken_143 n Q T n) x2 x4 x5 x6 x7 x8 t0 x7 u0
def w_X12_readBroken_98 (n : Nat) (x2 : Int32) (x4 : Int32) (x5 : Int32) (t0 : Int32) (u0 : Mm) (Q : Mm → Prop) (T : Mm → Prop) : Prop :=
  ilet (u0.1 0 49) fun y1 =>
  vp_in y1 400 ∧ (jlet (u0.2.1 7 (ix y1)) fun y2 =>
  w_X12_get n y1 (0 : Int32) u0 (fun r1 u1 =>
  (¬ r1 = 0 → w_X12_readBroken_137 n x2 x4 x5 t0 y1 y2 (1 : Int32) u1 Q T) ∧
  (r1 = 0 → w_X12_get n y1 (9 : Int32) u1 (fun r2 u2 =>
  w_X12_readBroken_137 n x2 x4 x5 t0 y1 y2 r2 u2 Q T) T)) T)
def w_X12_readBroken_74 (n : Nat) (x2 : Int32) (x3 : Int32) (u0 : Mm) (Q : Mm → Prop) (T : Mm → Prop) : Prop :=
  ilet (((2 : Int32) <<< (x3 &&& 31)) - (1 : Int32)) fun y1 =>
  ilet ((1 : Int32) <<< (x3 &&& 31)) fun y2 =>
  (¬ x2 = (62 : Int32) → w_X12_readBroken_98 n x2 y1 y2 (1 : Int32) u0 Q T) ∧
  (x2 = (62 : Int32) → w_X12_readBroken_98 n x2 y1 y2 y1 u0 Q T)
def w_X12_readBroken_54 (n : Nat) (x2 : Int32) (x3 : Int32) (u0 : Mm) (Q : Mm → Prop) (T : Mm → Prop) : Prop :=
  w_X12_blanks n u0 (fun u1 =>
  w_X12_beginsTimed n u1 (fun r1 u2 =>
  (¬ r1 = 0 → w_X12_readBroken_74 n x2 x3 u2 Q T) ∧
  (r1 = 0 → w_X12_fail n (5 : Int32) (u2.1 0 7) u2 (fun u3 =>
  w_X12_readBroken_74 n x2 x3 u3 Q T) T)) T) T
def w_X12_readBroken_25 (n : Nat) (Q : Mm → Prop) (T : Mm → Prop) : Nat → Int32 → Int32 → Mm → Prop
  | 0, _, _, _ => False
  | k + 1, x2, x3, u0 =>
  w_X12_is n x2 u0 (fun r1 u1 =>
  (r1 = 0 → w_X12_readBroken_54 n x2 x3 u1 Q T) ∧
  (¬ r1 = 0 → ((3 : Int32) ≤ x3 → w_X12_readBroken_54 n x2 x3 u1 Q T) ∧
  (¬ (3 : Int32) ≤ x3 → mlet (setI u1 0 7 ((u1.1 0 7) + (1 : Int32))) fun u2 =>
  (w_X12_readBroken_25 n Q T k) x2 (x3 + (1 : Int32)) u2))) T
def w_X12_readBroken_23 (n : Nat) (x2 : Int32) (u0 : Mm) (Q : Mm → Prop) (T : Mm → Prop) : Prop :=
  (w_X12_readBroken_25 n Q T n) x2 (0 : Int32) u0
def w_X12_readBroken (n : Nat) (u0 : Mm) (Q : Mm → Prop) (T : Mm → Prop) : Prop :=
  ilet (u0.1 0 7) fun y1 =>
  w_X12_here n u0 (fun r1 u1 =>
  (0 ≤ (u1.1 0 49) → w_X12_readBroken_23 n r1 u1 Q T) ∧
  (¬ 0 ≤ (u1.1 0 49) → w_X12_fail n (5 : Int32) y1 u1 (fun u2 =>
  w_X12_readBroken_23 n r1 u2 Q T) T)) T
set_option maxRecDepth 20000 in
theorem s_X12_readBroken_219 {g : Gb} (hg : xInj g) {n : Nat} {Q : Mm → Prop} {T : Mm → Prop} {x5 : Int32} {t0 : Int32} {u0 : Mm} (h : w_X12_readBroken_219 n x5 t0 u0 Q T) : xE g me_X12_readBroken (pV g Q T) 219 [(0, .ref (gR g 0)), (5, .int x5)] [.int t0, .ref (gR g 0)] u0 := by
  unfold w_X12_readBroken_219 at h
  refine e_putI (k := 120) rfl fg_X12_359 rfl rfl ?_
  refine e_mlet h (fun u1 h => ?_)
  refine e_aload_n (k := 121) (i := 0) rfl rfl 0 rfl ?_
  refine e_iload (k := 122) (i := 5) rfl 1 rfl ?_
  refine e_putI (k := 123) rfl fg_X12_362 rfl rfl ?_
  refine e_mlet h (fun u2 h => ?_)
  refine e_aload_n (k := 124) (i := 0) rfl rfl 0 rfl ?_
  refine e_callVv (k := 125) (q := 0) (As := []) (rest := []) rfl (c_X12_readTimed (g := g) hg (n := n) h) m_X12_readTimed i_X12_readTimed l_X12_429 rfl ⟨_, rfl, rfl⟩ rfl rfl (Nat.le_of_ble_eq_true rfl) ⟨by decide, by decide, rfl, rfl⟩ (fun _ h => ⟨fun _ z => (by cases z), Or.inr ⟨rfl, h⟩⟩) (fun u3 h => ?_)
  refine e_aload_n (k := 126) (i := 0) rfl rfl 0 rfl ?_
  refine e_aload_n (k := 127) (i := 0) rfl rfl 0 rfl ?_
  refine e_getI (k := 128) rfl f_X12_423 rfl rfl ?_
  refine e_putI (k := 129) rfl fg_X12_432 rfl rfl ?_
  refine e_mlet h (fun u4 h => ?_)
  exact e_vret (k := 130) rfl rfl (Or.inl ⟨rfl, h⟩)
set_option maxRecDepth 20000 in
theorem s_X12_readBroken_143 {g : Gb} (hg : xInj g) {n : Nat} {Q : Mm → Prop} {T : Mm → Prop} : ∀ (k : Nat) (x2 : Int32) (x4 : Int32) (x5 : Int32) (x6 : Int32) (x7 : Int32) (x8 : Int64) (x10 : Int32) (x11 : Int32) (u0 : Mm), w_X12_readBroken_143 n Q T k x2 x4 x5 x6 x7 x8 x10 x11 u0 → xE g me_X12_readBroken (pV g Q T) 143 [(0, .ref (gR g 0)), (2, .int x2), (4, .int x4), (5, .int x5), (6, .int x6), (7, .int x7), (8, .long x8), (10, .int x10), (11, .int x11)] [] u0 := by
  intro k
  induction k with
  | zero => intro x2 x4 x5 x6 x7 x8 x10 x11 u0 h; exact h.elim
  | succ k ih =>
    intro x2 x4 x5 x6 x7 x8 x10 x11 u0 h
    unfold w_X12_readBroken_143 at h
    refine e_iload (k := 79) (i := 11) rfl 8 rfl ?_
    refine e_iload (k := 80) (i := 7) rfl 5 rfl ?_
    refine e_iload (k := 81) (i := 10) rfl 7 rfl ?_
    refine e_iadd (k := 82) rfl ?_
    refine e_icmp_ge (k := 83) (tgt := 192) rfl (by decide) (fun z => ?_) (fun z => ?_)
    · have h := h.1 z
      refine e_aload_n (k := 105) (i := 0) rfl rfl 0 rfl ?_
      refine e_aload_n (k := 106) (i := 0) rfl rfl 0 rfl ?_
      refine e_getC (k := 107) rfl f_X12_40 rfl rfl ?_
      refine e_iload (k := 108) (i := 7) rfl 5 rfl ?_
      refine e_lald (k := 109) rfl rfl h.1 ?_
      have h := h.2
      refine e_lload (k := 110) (i := 8) rfl 6 rfl ?_
      refine e_lsub (k := 111) rfl ?_
      refine e_callVv (k := 112) (q := 0) (As := [.long ((u0.2.1 7 (ix x7)) - x8)]) (rest := []) rfl (c_X12_addTime (g := g) hg (n := n) h) m_X12_addTime i_X12_addTime l_X12_419 rfl ⟨_, rfl, rfl⟩ rfl rfl (Nat.le_of_ble_eq_true rfl) ⟨by decide, by decide, rfl, rfl⟩ (fun _ h => ⟨fun _ z => (by cases z), Or.inr ⟨rfl, h⟩⟩) (fun u1 h => ?_)
      refine e_aload_n (k := 113) (i := 0) rfl rfl 0 rfl ?_
      refine e_iload_n (k := 114) (i := 2) rfl rfl 1 rfl ?_
      refine e_bipush (k := 115) (v := (62 : Int32)) rfl (by decide) ?_
      refine e_icmp_ne (k := 116) (tgt := 217) rfl (by decide) (fun z => ?_) (fun z => ?_)
      · have h := h.1 z
        refine e_iload (k := 119) (i := 4) rfl 2 rfl ?_
        refine e_sub (lv' := [(0, .ref (gR g 0)), (5, .int x5)]) [0, 3] rfl ?_
        exact s_X12_readBroken_219 hg h
      · have h := h.2 z
        refine e_iconst (k := 117) (v := (1 : Int32)) rfl (by decide) ?_
        refine e_goto (k := 118) (tgt := 219) rfl (by decide) ?_
        refine e_sub (lv' := [(0, .ref (gR g 0)), (5, .int x5)]) [0, 3] rfl ?_
        exact s_X12_readBroken_219 hg h
    · have h := h.2 z
      refine e_aload_n (k := 84) (i := 0) rfl rfl 0 rfl ?_
      refine e_getC (k := 85) rfl f_X12_40 rfl rfl ?_
      refine e_iload (k := 86) (i := 11) rfl 8 rfl ?_
      refine e_aload_n (k := 87) (i := 0) rfl rfl 0 rfl ?_
      refine e_aload_n (k := 88) (i := 0) rfl rfl 0 rfl ?_
      refine e_getC (k := 89) rfl f_X12_40 rfl rfl ?_
      refine e_iload (k := 90) (i := 11) rfl 8 rfl ?_
      refine e_lald (k := 91) rfl rfl h.1 ?_
      have h := h.2
      refine e_iload (k := 92) (i := 6) rfl 4 rfl ?_
      refine e_i2l (k := 93) rfl ?_
      refine e_lmul (k := 94) rfl ?_
      refine e_iload (k := 95) (i := 5) rfl 3 rfl ?_
      refine e_i2l (k := 96) rfl ?_
      refine e_aload_n (k := 97) (i := 0) rfl rfl 0 rfl ?_
      refine e_iload (k := 98) (i := 11) rfl 8 rfl ?_
      refine e_bipush (k := 99) (v := (16 : Int32)) rfl (by decide) ?_
      refine e_callVi (k := 100) (q := 0) (As := [.int x11, .int (16 : Int32)]) (rest := [.long x5.toInt64, .long ((u0.2.1 7 (ix x11)) * x6.toInt64), .ref (gR g 0), .int x11, .ref (gR g 7)]) rfl (c_X12_get (g := g) hg (n := n) h) m_X12_get i_X12_get l_X12_293 rfl ⟨_, rfl, rfl⟩ rfl rfl (Nat.le_of_ble_eq_true rfl) ⟨by decide, by decide, rfl, rfl⟩ (fun _ h => ⟨fun _ z => (by cases z), Or.inr ⟨rfl, h⟩⟩) (fun r1 u2 h => ?_)
      refine e_callVl (k := 101) (q := 0) (As := [.long ((u0.2.1 7 (ix x11)) * x6.toInt64), .long x5.toInt64, .int r1]) (rest := [.int x11, .ref (gR g 7)]) rfl (c_X12_exact (g := g) hg (n := n) h) m_X12_exact i_X12_exact l_X12_365 rfl ⟨_, rfl, rfl⟩ rfl rfl (Nat.le_of_ble_eq_true rfl) ⟨by decide, by decide, rfl, rfl⟩ (fun _ h => ⟨fun _ z => (by cases z), Or.inr ⟨rfl, h⟩⟩) (fun r2 u3 h => ?_)
      refine e_last (k := 102) rfl rfl h.1 ?_
      have h := h.2
      refine e_mlet h (fun u4 h => ?_)
      refine e_iinc (k := 103) (i := 11) (j := 8) (v := (x11 + (1 : Int32))) (lv' := [(0, .ref (gR g 0)), (2, .int x2), (4, .int x4), (5, .int x5), (6, .int x6), (7, .int x7), (8, .long x8), (10, .int x10), (11, .int (x11 + (1 : Int32)))]) rfl rfl rfl (by decide) [1, 2, 3, 4, 5, 6, 7, 8, 0] rfl ?_
      refine e_goto (k := 104) (tgt := 143) rfl (by decide) ?_
      exact ih x2 x4 x5 x6 x7 x8 x10 (x11 + (1 : Int32)) u4 h
set_option maxRecDepth 20000 in
theorem s_X12_readBroken_137 {g : Gb} (hg : xInj g) {n : Nat} {Q : Mm → Prop} {T : Mm → Prop} {x2 : Int32} {x4 : Int32} {x5 : Int32} {x6 : Int32} {x7 : Int32} {x8 : Int64} {t0 : Int32} {u0 : Mm} (h : w_X12_readBroken_137 n x2 x4 x5 x6 x7 x8 t0 u0 Q T) : xE g me_X12_readBroken (pV g Q T) 137 [(0, .ref (gR g 0)), (2, .int x2), (4, .int x4), (5, .int x5), (6, .int x6), (7, .int x7), (8, .long x8)] [.int t0] u0 := by
  unfold w_X12_readBroken_137 at h
  refine e_istore (k := 76) (i := 10) (lv' := [(0, .ref (gR g 0)), (2, .int x2), (4, .int x4), (5, .int x5), (6, .int x6), (7, .int x7), (8, .long x8), (10, .int t0)]) rfl (by decide) [1, 2, 3, 4, 5, 6, 7, 0] rfl ?_
  refine e_iload (k := 77) (i := 7) rfl 5 rfl ?_
  refine e_istore (k := 78) (i := 11) (lv' := [(0, .ref (gR g 0)), (2, .int x2), (4, .int x4), (5, .int x5), (6, .int x6), (7, .int x7), (8, .long x8), (10, .int t0), (11, .int x7)]) rfl (by decide) [1, 2, 3, 4, 5, 6, 7, 8, 0] rfl ?_
  exact s_X12_readBroken_143 hg n x2 x4 x5 x6 x7 x8 t0 x7 u0 h
set_option maxRecDepth 20000 in
theorem s_X12_readBroken_98 {g : Gb} (hg : xInj g) {n : Nat} {Q : Mm → Prop} {T : Mm → Prop} {x2 : Int32} {x4 : Int32} {x5 : Int32} {t0 : Int32} {u0 : Mm} (h : w_X12_readBroken_98 n x2 x4 x5 t0 u0 Q T) : xE g me_X12_readBroken (pV g Q T) 98 [(0, .ref (gR g 0)), (2, .int x2), (4, .int x4), (5, .int x5)] [.int t0] u0 := by
  unfold w_X12_readBroken_98 at h
  refine e_istore (k := 56) (i := 6) (lv' := [(0, .ref (gR g 0)), (2, .int x2), (4, .int x4), (5, .int x5), (6, .int t0)]) rfl (by decide) [1, 2, 3, 4, 0] rfl ?_
  refine e_aload_n (k := 57) (i := 0) rfl rfl 0 rfl ?_
  refine e_getI (k := 58) rfl f_X12_423 rfl rfl ?_
  refine e_ilet h (fun y1 h => ?_)
  refine e_istore (k := 59) (i := 7) (lv' := [(0, .ref (gR g 0)), (2, .int x2), (4, .int x4), (5, .int x5), (6, .int t0), (7, .int y1)]) rfl (by decide) [1, 2, 3, 4, 5, 0] rfl ?_
  refine e_aload_n (k := 60) (i := 0) rfl rfl 0 rfl ?_
  refine e_getC (k := 61) rfl f_X12_40 rfl rfl ?_
  refine e_iload (k := 62) (i := 7) rfl 5 rfl ?_
  refine e_lald (k := 63) rfl rfl h.1 ?_
  have h := h.2
  refine e_jlet h (fun y2 h => ?_)
  refine e_lstore (k := 64) (i := 8) (lv' := [(0, .ref (gR g 0)), (2, .int x2), (4, .int x4), (5, .int x5), (6, .int t0), (7, .int y1), (8, .long y2)]) rfl (by decide) [1, 2, 3, 4, 5, 6, 0] rfl ?_
  refine e_aload_n (k := 65) (i := 0) rfl rfl 0 rfl ?_
  refine e_iload (k := 66) (i := 7) rfl 5 rfl ?_
  refine e_iconst (k := 67) (v := (0 : Int32)) rfl (by decide) ?_
  refine e_callVi (k := 68) (q := 0) (As := [.int y1, .int (0 : Int32)]) (rest := []) rfl (c_X12_get (g := g) hg (n := n) h) m_X12_get i_X12_get l_X12_293 rfl ⟨_, rfl, rfl⟩ rfl rfl (Nat.le_of_ble_eq_true rfl) ⟨by decide, by decide, rfl, rfl⟩ (fun _ h => ⟨fun _ z => (by cases z), Or.inr ⟨rfl, h⟩⟩) (fun r1 u1 h => ?_)
  refine e_if_ne (k := 69) (tgt := 136) rfl (by decide) (fun z => ?_) (fun z => ?_)
  · have h := h.1 z
    refine e_iconst (k := 75) (v := (1 : Int32)) rfl (by decide) ?_
    exact s_X12_readBroken_137 hg h
  · have h := h.2 z
    refine e_aload_n (k := 70) (i := 0) rfl rfl 0 rfl ?_
    refine e_iload (k := 71) (i := 7) rfl 5 rfl ?_
    refine e_bipush (k := 72) (v := (9 : Int32)) rfl (by decide) ?_
    refine e_callVi (k := 73) (q := 0) (As := [.int y1, .int (9 : Int32)]) (rest := []) rfl (c_X12_get (g := g) hg (n := n) h) m_X12_get i_X12_get l_X12_293 rfl ⟨_, rfl, rfl⟩ rfl rfl (Nat.le_of_ble_eq_true rfl) ⟨by decide, by decide, rfl, rfl⟩ (fun _ h => ⟨fun _ z => (by cases z), Or.inr ⟨rfl, h⟩⟩) (fun r2 u2 h => ?_)
    refine e_goto (k := 74) (tgt := 137) rfl (by decide) ?_
    exact s_X12_readBroken_137 hg h
set_option maxRecDepth 20000 in
theorem s_X12_readBroken_74 {g : Gb} (hg : xInj g) {n : Nat} {Q : Mm → Prop} {T : Mm → Prop} {x2 : Int32} {x3 : Int32} {u0 : Mm} (h : w_X12_readBroken_74 n x2 x3 u0 Q T) : xE g me_X12_readBroken (pV g Q T) 74 [(0, .ref (gR g 0)), (2, .int x2), (3, .int x3)] [] u0 := by
  unfold w_X12_readBroken_74 at h
  refine e_iconst (k := 40) (v := (2 : Int32)) rfl (by decide) ?_
  refine e_iload_n (k := 41) (i := 3) rfl rfl 2 rfl ?_
  refine e_ishl (k := 42) rfl ?_
  refine e_iconst (k := 43) (v := (1 : Int32)) rfl (by decide) ?_
  refine e_isub (k := 44) rfl ?_
  refine e_ilet h (fun y1 h => ?_)
  refine e_istore (k := 45) (i := 4) (lv' := [(0, .ref (gR g 0)), (2, .int x2), (3, .int x3), (4, .int y1)]) rfl (by decide) [1, 2, 3, 0] rfl ?_
  refine e_iconst (k := 46) (v := (1 : Int32)) rfl (by decide) ?_
  refine e_iload_n (k := 47) (i := 3) rfl rfl 2 rfl ?_
  refine e_ishl (k := 48) rfl ?_
  refine e_ilet h (fun y2 h => ?_)
  refine e_istore (k := 49) (i := 5) (lv' := [(0, .ref (gR g 0)), (2, .int x2), (3, .int x3), (4, .int y1), (5, .int y2)]) rfl (by decide) [1, 2, 3, 4, 0] rfl ?_
  refine e_iload_n (k := 50) (i := 2) rfl rfl 1 rfl ?_
  refine e_bipush (k := 51) (v := (62 : Int32)) rfl (by decide) ?_
  refine e_icmp_ne (k := 52) (tgt := 97) rfl (by decide) (fun z => ?_) (fun z => ?_)
  · have h := h.1 z
    refine e_iconst (k := 55) (v := (1 : Int32)) rfl (by decide) ?_
    refine e_sub (lv' := [(0, .ref (gR g 0)), (2, .int x2), (4, .int y1), (5, .int y2)]) [0, 1, 3, 4] rfl ?_
    exact s_X12_readBroken_98 hg h
  · have h := h.2 z
    refine e_iload (k := 53) (i := 4) rfl 3 rfl ?_
    refine e_goto (k := 54) (tgt := 98) rfl (by decide) ?_
    refine e_sub (lv' := [(0, .ref (gR g 0)), (2, .int x2), (4, .int y1), (5, .int y2)]) [0, 1, 3, 4] rfl ?_
    exact s_X12_readBroken_98 hg h
set_option maxRecDepth 20000 in
theorem s_X12_readBroken_54 {g : Gb} (hg : xInj g) {n : Nat} {Q : Mm → Prop} {T : Mm → Prop} {x2 : Int32} {x3 : Int32} {u0 : Mm} (h : w_X12_readBroken_54 n x2 x3 u0 Q T) : xE g me_X12_readBroken (pV g Q T) 54 [(0, .ref (gR g 0)), (2, .int x2), (3, .int x3)] [] u0 := by
  unfold w_X12_readBroken_54 at h
  refine e_aload_n (k := 30) (i := 0) rfl rfl 0 rfl ?_
  refine e_callVv (k := 31) (q := 0) (As := []) (rest := []) rfl (c_X12_blanks (g := g) hg (n := n) h) m_X12_blanks i_X12_blanks l_X12_241 rfl ⟨_, rfl, rfl⟩ rfl rfl (Nat.le_of_ble_eq_true rfl) ⟨by decide, by decide, rfl, rfl⟩ (fun _ h => ⟨fun _ z => (by cases z), Or.inr ⟨rfl, h⟩⟩) (fun u1 h => ?_)
  refine e_aload_n (k := 32) (i := 0) rfl rfl 0 rfl ?_
  refine e_callVi (k := 33) (q := 0) (As := []) (rest := []) rfl (c_X12_beginsTimed (g := g) hg (n := n) h) m_X12_beginsTimed i_X12_beginsTimed l_X12_426 rfl ⟨_, rfl, rfl⟩ rfl rfl (Nat.le_of_ble_eq_true rfl) ⟨by decide, by decide, rfl, rfl⟩ (fun _ h => ⟨fun _ z => (by cases z), Or.inr ⟨rfl, h⟩⟩) (fun r1 u2 h => ?_)
  refine e_if_ne (k := 34) (tgt := 74) rfl (by decide) (fun z => ?_) (fun z => ?_)
  · have h := h.1 z
    exact s_X12_readBroken_74 hg h
  · have h := h.2 z
    refine e_aload_n (k := 35) (i := 0) rfl rfl 0 rfl ?_
    refine e_iconst (k := 36) (v := (5 : Int32)) rfl (by decide) ?_
    refine e_aload_n (k := 37) (i := 0) rfl rfl 0 rfl ?_
    refine e_getI (k := 38) rfl f_X12_138 rfl rfl ?_
    refine e_callVv (k := 39) (q := 0) (As := [.int (5 : Int32), .int (u2.1 0 7)]) (rest := []) rfl (c_X12_fail (g := g) hg (n := n) h) m_X12_fail i_X12_fail l_X12_148 rfl ⟨_, rfl, rfl⟩ rfl rfl (Nat.le_of_ble_eq_true rfl) ⟨by decide, by decide, rfl, rfl⟩ (fun _ h => ⟨fun _ z => (by cases z), Or.inr ⟨rfl, h⟩⟩) (fun u3 h => ?_)
    exact s_X12_readBroken_74 hg h
set_option maxRecDepth 20000 in
theorem s_X12_readBroken_25 {g : Gb} (hg : xInj g) {n : Nat} {Q : Mm → Prop} {T : Mm → Prop} : ∀ (k : Nat) (x2 : Int32) (x3 : Int32) (u0 : Mm), w_X12_readBroken_25 n Q T k x2 x3 u0 → xE g me_X12_readBroken (pV g Q T) 25 [(0, .ref (gR g 0)), (2, .int x2), (3, .int x3)] [] u0 := by
  intro k
  induction k with
  | zero => intro x2 x3 u0 h; exact h.elim
  | succ k ih =>
    intro x2 x3 u0 h
    unfold w_X12_readBroken_25 at h
    refine e_aload_n (k := 15) (i := 0) rfl rfl 0 rfl ?_
    refine e_iload_n (k := 16) (i := 2) rfl rfl 1 rfl ?_
    refine e_callVi (k := 17) (q := 0) (As := [.int x2]) (rest := []) rfl (c_X12_is (g := g) hg (n := n) h) m_X12_is i_X12_is l_X12_166 rfl ⟨_, rfl, rfl⟩ rfl rfl (Nat.le_of_ble_eq_true rfl) ⟨by decide, by decide, rfl, rfl⟩ (fun _ h => ⟨fun _ z => (by cases z), Or.inr ⟨rfl, h⟩⟩) (fun r1 u1 h => ?_)
    refine e_if_eq (k := 18) (tgt := 54) rfl (by decide) (fun z => ?_) (fun z => ?_)
    · have h := h.1 z
      exact s_X12_readBroken_54 hg h
    · have h := h.2 z
      refine e_iload_n (k := 19) (i := 3) rfl rfl 2 rfl ?_
      refine e_iconst (k := 20) (v := (3 : Int32)) rfl (by decide) ?_
      refine e_icmp_ge (k := 21) (tgt := 54) rfl (by decide) (fun z => ?_) (fun z => ?_)
      · have h := h.1 z
        exact s_X12_readBroken_54 hg h
      · have h := h.2 z
        refine e_iinc (k := 22) (i := 3) (j := 2) (v := (x3 + (1 : Int32))) (lv' := [(0, .ref (gR g 0)), (2, .int x2), (3, .int (x3 + (1 : Int32)))]) rfl rfl rfl (by decide) [1, 2, 0] rfl ?_
        refine e_aload_n (k := 23) (i := 0) rfl rfl 0 rfl ?_
        refine e_dup (k := 24) rfl rfl ?_
        refine e_getI (k := 25) rfl f_X12_138 rfl rfl ?_
        refine e_iconst (k := 26) (v := (1 : Int32)) rfl (by decide) ?_
        refine e_iadd (k := 27) rfl ?_
        refine e_putI (k := 28) rfl fg_X12_138 rfl rfl ?_
        refine e_mlet h (fun u2 h => ?_)
        refine e_goto (k := 29) (tgt := 25) rfl (by decide) ?_
        exact ih x2 (x3 + (1 : Int32)) u2 h
set_option maxRecDepth 20000 in
theorem s_X12_readBroken_23 {g : Gb} (hg : xInj g) {n : Nat} {Q : Mm → Prop} {T : Mm → Prop} {x2 : Int32} {u0 : Mm} (h : w_X12_readBroken_23 n x2 u0 Q T) : xE g me_X12_readBroken (pV g Q T) 23 [(0, .ref (gR g 0)), (2, .int x2)] [] u0 := by
  unfold w_X12_readBroken_23 at h
  refine e_iconst (k := 13) (v := (0 : Int32)) rfl (by decide) ?_
  refine e_istore_n (k := 14) (i := 3) (lv' := [(0, .ref (gR g 0)), (2, .int x2), (3, .int (0 : Int32))]) rfl rfl (by decide) [1, 2, 0] rfl ?_
  exact s_X12_readBroken_25 hg n x2 (0 : Int32) u0 h
set_option maxRecDepth 20000 in
theorem c_X12_readBroken {g : Gb} (hg : xInj g) {n : Nat} {u0 : Mm} {Q : Mm → Prop} {T : Mm → Prop} (h : w_X12_readBroken n u0 Q T) : xMet (gL g) yX12_readBroken (xws yX12_readBroken cX12_readBroken 12 none) (xRoom 7) (xPc g [.ref (gR g 0)] u0) (xQ g (pV g Q T)) (xA g) := by
  refine xbody (il := il_X12_readBroken) hg il_X12_readBroken_ok m_X12_readBroken (Nat.le_of_ble_eq_true rfl) ?_
  show xE g me_X12_readBroken (pV g Q T) 0 [(0, .ref (gR g 0))] [] u0
  unfold w_X12_readBroken at h
  refine e_aload_n (k := 0) (i := 0) rfl rfl 0 rfl ?_
  refine e_getI (k := 1) rfl f_X12_138 rfl rfl ?_
  refine e_ilet h (fun y1 h => ?_)
  refine e_istore_n (k := 2) (i := 1) (lv' := [(0, .ref (gR g 0)), (1, .int y1)]) rfl rfl (by decide) [1, 0] rfl ?_
  refine e_aload_n (k := 3) (i := 0) rfl rfl 0 rfl ?_
  refine e_callVi (k := 4) (q := 0) (As := []) (rest := []) rfl (c_X12_here (g := g) hg (n := n) h) m_X12_here i_X12_here l_X12_162 rfl ⟨_, rfl, rfl⟩ rfl rfl (Nat.le_of_ble_eq_true rfl) ⟨by decide, by decide, rfl, rfl⟩ (fun _ h => ⟨fun _ z => (by cases z), Or.inr ⟨rfl, h⟩⟩) (fun r1 u1 h => ?_)
  refine e_istore_n (k := 5) (i := 2) (lv' := [(0, .ref (gR g 0)), (1, .int y1), (2, .int r1)]) rfl rfl (by decide) [1, 2, 0] rfl ?_
  refine e_aload_n (k := 6) (i := 0) rfl rfl 0 rfl ?_
  refine e_getI (k := 7) rfl f_X12_423 rfl rfl ?_
  refine e_if_ge (k := 8) (tgt := 23) rfl (by decide) (fun z => ?_) (fun z => ?_)
  · have h := h.1 z
    refine e_sub (lv' := [(0, .ref (gR g 0)), (2, .int r1)]) [0, 2] rfl ?_
    exact s_X12_readBroken_23 hg h
  · have h := h.2 z
    refine e_aload_n (k := 9) (i := 0) rfl rfl 0 rfl ?_
    refine e_iconst (k := 10) (v := (5 : Int32)) rfl (by decide) ?_
    refine e_iload_n (k := 11) (i := 1) rfl rfl 1 rfl ?_
    refine e_callVv (k := 12) (q := 0) (As := [.int (5 : Int32), .int y1]) (rest := []) rfl (c_X12_fail (g := g) hg (n := n) h) m_X12_fail i_X12_fail l_X12_148 rfl ⟨_, rfl, rfl⟩ rfl rfl (Nat.le_of_ble_eq_true rfl) ⟨by decide, by decide, rfl, rfl⟩ (fun _ h => ⟨fun _ z => (by cases z), Or.inr ⟨rfl, h⟩⟩) (fun u2 h => ?_)
    refine e_sub (lv' := [(0, .ref (gR g 0)), (2, .int r1)]) [0, 2] rfl ?_
    exact s_X12_readBroken_23 hg h
def il_X1_readHeads : List (Nat × Instr × Nat) := [(0, .aload_n 0, 1), (1, .iconst 0, 1), (2, .putfield 23, 3), (5, .aload_n 0, 1), (6, .iconst 0, 1), (7, .putfield 27, 3), (10, .aload_n 0, 1), (11, .iconst 0, 1), (12, .putfield 30, 3), (15, .iconst 0, 1), (16, .istore_n 1, 1), (17, .iconst 0, 1), (18, .istore_n 2, 1), (19, .iload_n 2, 1), (20, .sipush 2000, 3), (23, .if_icmp .gt 97, 3), (26, .aload_n 0, 1), (27, .getfield 9, 3), (30, .getfield 33, 3), (33, .ifCond .ne 87, 3), (36, .iload_n 1, 1), (37, .bipush 75, 2), (39, .if_icmp .eq 81, 3), (42, .aload_n 0, 1), (43, .getfield 9, 3), (46, .invokevirtual 39, 3), (49, .pop, 1), (50, .aload_n 0, 1), (51, .getfield 9, 3), (54, .invokevirtual 43, 3), (57, .istore_n 1, 1), (58, .aload_n 0, 1), (59, .iload_n 1, 1), (60, .invokevirtual 47, 3), (63, .ifCond .ne 19, 3), (66, .aload_n 0, 1), (67, .getfield 9, 3), (70, .iconst 1, 1), (71, .aload_n 0, 1), (72, .getfield 9, 3), (75, .getfield 51, 3), (78, .invokevirtual 54, 3), (81, .return_, 1), (82, .aload_n 0, 1), (83, .getfield 9, 3), (86, .dup, 1), (87, .getfield 58, 3), (90, .iconst 2, 1), (91, .iadd, 1), (92, .putfield 58, 3), (95, .aload_n 0, 1), (96, .getfield 9, 3), (99, .invokevirtual 61, 3), (102, .aload_n 0, 1), (103, .iload_n 1, 1), (104, .invokevirtual 64, 3), (107, .aload_n 0, 1), (108, .getfield 9, 3), (111, .invokevirtual 68, 3), (114, .iinc 2 1, 3), (117, .goto (-98), 3), (120, .aload_n 0, 1), (121, .getfield 27, 3), (124, .ifCond .ne 66, 3), (127, .aload_n 0, 1), (128, .getfield 19, 3), (131, .getfield 71, 3), (134, .iconst 2, 1), (135, .iaload, 1), (136, .ifCond .le 32, 3), (139, .iconst 4, 1), (140, .aload_n 0, 1), (141, .getfield 19, 3), (144, .getfield 71, 3), (147, .iconst 2, 1), (148, .iaload, 1), (149, .imul, 1), (150, .iconst 3, 1), (151, .aload_n 0, 1), (152, .getfield 19, 3), (155, .getfield 71, 3), (158, .iconst 3, 1), (159, .iaload, 1), (160, .imul, 1), (161, .if_icmp .ge 7, 3), (164, .iconst 1, 1), (165, .goto 4, 3), (168, .iconst 0, 1), (169, .istore_n 2, 1), (170, .aload_n 0, 1), (171, .getfield 19, 3), (174, .getfield 71, 3), (177, .iconst 4, 1), (178, .iload_n 2, 1), (179, .ifCond .eq 8, 3), (182, .bipush 16, 2), (184, .goto 5, 3), (187, .bipush 8, 2), (189, .iastore, 1), (190, .return_, 1)]
set_option maxRecDepth 20000 in
theorem il_X1_readHeads_ok : ∀ x ∈ il_X1_readHeads, decode cX1_readHeads x.1 = .ok x.2 := by decide +kernel
abbrev me_X1_readHeads : Me := (RX1, il_X1_readHeads, 3, none, xRoom 7, [])
def w_X1_readHeads_190 (n : Nat) (u0 : Mm) (Q : Mm → Prop) : Prop :=
  Q u0
def w_X1_readHeads_189 (n : Nat) (t0 : Int32) (t1 : Int32) (u0 : Mm) (Q : Mm → Prop) : Prop :=
  vp_in t1 10 ∧ (mlet (setI u0 43 (ix t1) t0) fun u1 =>
  w_X1_readHeads_190 n u1 Q)
def w_X1_readHeads_169 (n : Nat) (t0 : Int32) (u0 : Mm) (Q : Mm → Prop) : Prop :=
  (t0 = 0 → w_X1_readHeads_189 n (8 : Int32) (4 : Int32) u0 Q) ∧
  (¬ t0 = 0 → w_X1_readHeads_189 n (16 : Int32) (4 : Int32) u0 Q)
def w_X1_readHeads_168 (n : Nat) (u0 : Mm) (Q : Mm → Prop) : Prop :=
  w_X1_readHeads_169 n (0 : Int32) u0 Q
def w_X1_readHeads_120 (n : Nat) (u0 : Mm) (Q : Mm → Prop) : Prop :=
  (¬ (u0.1 37 4) = 0 → w_X1_readHeads_190 n u0 Q) ∧
  ((u0.1 37 4) = 0 → ((u0.1 43 (ix (2 : Int32))) ≤ 0 → w_X1_readHeads_168 n u0 Q) ∧
  (¬ (u0.1 43 (ix (2 : Int32))) ≤ 0 → (((3 : Int32) * (u0.1 43 (ix (3 : Int32)))) ≤ ((4 : Int32) * (u0.1 43 (ix (2 : Int32)))) → w_X1_readHeads_168 n u0 Q) ∧
  (¬ ((3 : Int32) * (u0.1 43 (ix (3 : Int32)))) ≤ ((4 : Int32) * (u0.1 43 (ix (2 : Int32)))) → w_X1_readHeads_169 n (1 : Int32) u0 Q)))
def w_X1_readHeads_19 (n : Nat) (Q : Mm → Prop) : Nat → Int32 → Int32 → Mm → Prop
  | 0, _, _, _ => False
  | k + 1, x1, x2, u0 =>
  ((2000 : Int32) < x2 → w_X1_readHeads_120 n u0 Q) ∧
  (¬ (2000 : Int32) < x2 → (¬ (u0.1 33 6) = 0 → w_X1_readHeads_120 n u0 Q) ∧
  ((u0.1 33 6) = 0 → (x1 = (75 : Int32) → w_X1_readHeads_120 n u0 Q) ∧
  (¬ x1 = (75 : Int32) → w_X5_openLine n u0 (fun r1 u1 =>
  w_X5_fieldLetter n u1 (fun r2 u2 =>
  w_X1_mayCome n r2 u2 (fun r3 u3 =>
  (¬ r3 = 0 → mlet (setI u3 33 2 ((u3.1 33 2) + (2 : Int32))) fun u4 =>
  w_X5_skipBlanks n u4 (fun u5 =>
  w_X1_readHead n r2 u5 (fun u6 =>
  w_X5_mustStop n u6 (fun u7 =>
  (w_X1_readHeads_19 n Q k) r2 (x2 + (1 : Int32)) u7)))) ∧
  (r3 = 0 → w_X5_fail n (1 : Int32) (u3.1 33 3) u3 (fun u8 =>
  Q u8))))))))
def w_X1_readHeads (n : Nat) (u0 : Mm) (Q : Mm → Prop) : Prop :=
  mlet (setI u0 37 3 (0 : Int32)) fun u1 =>
  mlet (setI u1 37 4 (0 : Int32)) fun u2 =>
  mlet (setI u2 37 5 (0 : Int32)) fun u3 =>
  (w_X1_readHeads_19 n Q n) (0 : Int32) (0 : Int32) u3
set_option maxRecDepth 20000 in
theorem s_X1_readHeads_190 {g : Gb} (hg : xInj g) {n : Nat} {Q : Mm → Prop} {u0 : Mm} (h : w_X1_readHeads_190 n  u0 Q) : xE g me_X1_readHeads (pV g Q noT) 190 [] [] u0 := by
  unfold w_X1_readHeads_190 at h
  exact e_vret (k := 99) rfl rfl (Or.inl ⟨rfl, h⟩)
set_option maxRecDepth 20000 in
theorem s_X1_readHeads_189 {g : Gb} (hg : xInj g) {n : Nat} {Q : Mm → Prop} {t0 : Int32} {t1 : Int32} {u0 : Mm} (h : w_X1_readHeads_189 n t0 t1 u0 Q) : xE g me_X1_readHeads (pV g Q noT) 189 [] [.int t0, .int t1, .ref (gR g 43)] u0 := by
  unfold w_X1_readHeads_189 at h
  refine e_iast (k := 98) rfl rfl h.1 ?_
  have h := h.2
  refine e_mlet h (fun u1 h => ?_)
  exact s_X1_readHeads_190 hg h
set_option maxRecDepth 20000 in
theorem s_X1_readHeads_169 {g : Gb} (hg : xInj g) {n : Nat} {Q : Mm → Prop} {t0 : Int32} {u0 : Mm} (h : w_X1_readHeads_169 n t0 u0 Q) : xE g me_X1_readHeads (pV g Q noT) 169 [(0, .ref (gR g 37))] [.int t0] u0 := by
  unfold w_X1_readHeads_169 at h
  refine e_istore_n (k := 88) (i := 2) (lv' := [(0, .ref (gR g 37)), (2, .int t0)]) rfl rfl (by decide) [1, 0] rfl ?_
  refine e_aload_n (k := 89) (i := 0) rfl rfl 0 rfl ?_
  refine e_getC (k := 90) rfl f_X1_19 rfl rfl ?_
  refine e_getC (k := 91) rfl f_X1_71 rfl rfl ?_
  refine e_iconst (k := 92) (v := (4 : Int32)) rfl (by decide) ?_
  refine e_iload_n (k := 93) (i := 2) rfl rfl 1 rfl ?_
  refine e_if_eq (k := 94) (tgt := 187) rfl (by decide) (fun z => ?_) (fun z => ?_)
  · have h := h.1 z
    refine e_bipush (k := 97) (v := (8 : Int32)) rfl (by decide) ?_
    refine e_sub (lv' := []) [] rfl ?_
    exact s_X1_readHeads_189 hg h
  · have h := h.2 z
    refine e_bipush (k := 95) (v := (16 : Int32)) rfl (by decide) ?_
    refine e_goto (k := 96) (tgt := 189) rfl (by decide) ?_
    refine e_sub (lv' := []) [] rfl ?_
    exact s_X1_readHeads_189 hg h
set_option maxRecDepth 20000 in
theorem s_X1_readHeads_168 {g : Gb} (hg : xInj g) {n : Nat} {Q : Mm → Prop} {u0 : Mm} (h : w_X1_readHeads_168 n  u0 Q) : xE g me_X1_readHeads (pV g Q noT) 168 [(0, .ref (gR g 37))] [] u0 := by
  unfold w_X1_readHeads_168 at h
  refine e_iconst (k := 87) (v := (0 : Int32)) rfl (by decide) ?_
  exact s_X1_readHeads_169 hg h
set_option maxRecDepth 20000 in
theorem s_X1_readHeads_120 {g : Gb} (hg : xInj g) {n : Nat} {Q : Mm → Prop} {u0 : Mm} (h : w_X1_readHeads_120 n  u0 Q) : xE g me_X1_readHeads (pV g Q noT) 120 [(0, .ref (gR g 37))] [] u0 := by
  unfold w_X1_readHeads_120 at h
  refine e_aload_n (k := 61) (i := 0) rfl rfl 0 rfl ?_
  refine e_getI (k := 62) rfl f_X1_27 rfl rfl ?_
  refine e_if_ne (k := 63) (tgt := 190) rfl (by decide) (fun z => ?_) (fun z => ?_)
  · have h := h.1 z
    refine e_sub (lv' := []) [] rfl ?_
    exact s_X1_readHeads_190 hg h
  · have h := h.2 z
    refine e_aload_n (k := 64) (i := 0) rfl rfl 0 rfl ?_
    refine e_getC (k := 65) rfl f_X1_19 rfl rfl ?_
    refine e_getC (k := 66) rfl f_X1_71 rfl rfl ?_
    refine e_iconst (k := 67) (v := (2 : Int32)) rfl (by decide) ?_
    refine e_iald (k := 68) rfl rfl (by unfold vp_in; decide) ?_
    refine e_if_le (k := 69) (tgt := 168) rfl (by decide) (fun z => ?_) (fun z => ?_)
    · have h := h.1 z
      exact s_X1_readHeads_168 hg h
    · have h := h.2 z
      refine e_iconst (k := 70) (v := (4 : Int32)) rfl (by decide) ?_
      refine e_aload_n (k := 71) (i := 0) rfl rfl 0 rfl ?_
      refine e_getC (k := 72) rfl f_X1_19 rfl rfl ?_
      refine e_getC (k := 73) rfl f_X1_71 rfl rfl ?_
      refine e_iconst (k := 74) (v := (2 : Int32)) rfl (by decide) ?_
      refine e_iald (k := 75) rfl rfl (by unfold vp_in; decide) ?_
      refine e_imul (k := 76) rfl ?_
      refine e_iconst (k := 77) (v := (3 : Int32)) rfl (by decide) ?_
      refine e_aload_n (k := 78) (i := 0) rfl rfl 0 rfl ?_
      refine e_getC (k := 79) rfl f_X1_19 rfl rfl ?_
      refine e_getC (k := 80) rfl f_X1_71 rfl rfl ?_
      refine e_iconst (k := 81) (v := (3 : Int32)) rfl (by decide) ?_
      refine e_iald (k := 82) rfl rfl (by unfold vp_in; decide) ?_
      refine e_imul (k := 83) rfl ?_
      refine e_icmp_ge (k := 84) (tgt := 168) rfl (by decide) (fun z => ?_) (fun z => ?_)
      · have h := h.1 z
        exact s_X1_readHeads_168 hg h
      · have h := h.2 z
        refine e_iconst (k := 85) (v := (1 : Int32)) rfl (by decide) ?_
        refine e_goto (k := 86) (tgt := 169) rfl (by decide) ?_
        exact s_X1_readHeads_169 hg h
set_option maxRecDepth 20000 in
theorem s_X1_readHeads_19 {g : Gb} (hg : xInj g) {n : Nat} {Q : Mm → Prop} : ∀ (k : Nat) (x1 : Int32) (x2 : Int32) (u0 : Mm), w_X1_readHeads_19 n Q k x1 x2 u0 → xE g me_X1_readHeads (pV g Q noT) 19 [(0, .ref (gR g 37)), (1, .int x1), (2, .int x2)] [] u0 := by
  intro k
  induction k with
  | zero => intro x1 x2 u0 h; exact h.elim
  | succ k ih =>
    intro x1 x2 u0 h
    unfold w_X1_readHeads_19 at h
    refine e_iload_n (k := 13) (i := 2) rfl rfl 2 rfl ?_
    refine e_sipush (k := 14) (v := (2000 : Int32)) rfl (by decide) ?_
    refine e_icmp_gt (k := 15) (tgt := 120) rfl (by decide) (fun z => ?_) (fun z => ?_)
    · have h := h.1 z
      refine e_sub (lv' := [(0, .ref (gR g 37))]) [0] rfl ?_
      exact s_X1_readHeads_120 hg h
    · have h := h.2 z
      refine e_aload_n (k := 16) (i := 0) rfl rfl 0 rfl ?_
      refine e_getC (k := 17) rfl f_X1_9 rfl rfl ?_
      refine e_getI (k := 18) rfl f_X1_33 rfl rfl ?_
      refine e_if_ne (k := 19) (tgt := 120) rfl (by decide) (fun z => ?_) (fun z => ?_)
      · have h := h.1 z
        refine e_sub (lv' := [(0, .ref (gR g 37))]) [0] rfl ?_
        exact s_X1_readHeads_120 hg h
      · have h := h.2 z
        refine e_iload_n (k := 20) (i := 1) rfl rfl 1 rfl ?_
        refine e_bipush (k := 21) (v := (75 : Int32)) rfl (by decide) ?_
        refine e_icmp_eq (k := 22) (tgt := 120) rfl (by decide) (fun z => ?_) (fun z => ?_)
        · have h := h.1 z
          refine e_sub (lv' := [(0, .ref (gR g 37))]) [0] rfl ?_
          exact s_X1_readHeads_120 hg h
        · have h := h.2 z
          refine e_aload_n (k := 23) (i := 0) rfl rfl 0 rfl ?_
          refine e_getC (k := 24) rfl f_X1_9 rfl rfl ?_
          refine e_callVi (k := 25) (q := 33) (As := []) (rest := []) rfl (c_X5_openLine (g := g) hg (n := n) h) m_X5_openLine i_X5_openLine l_X1_39 rfl ⟨_, rfl, rfl⟩ rfl rfl (Nat.le_of_ble_eq_true rfl) ⟨by decide, by decide, rfl, rfl⟩ (fun _ h => h.elim) (fun r1 u1 h => ?_)
          refine e_pop (k := 26) rfl rfl ?_
          refine e_aload_n (k := 27) (i := 0) rfl rfl 0 rfl ?_
          refine e_getC (k := 28) rfl f_X1_9 rfl rfl ?_
          refine e_callVi (k := 29) (q := 33) (As := []) (rest := []) rfl (c_X5_fieldLetter (g := g) hg (n := n) h) m_X5_fieldLetter i_X5_fieldLetter l_X1_43 rfl ⟨_, rfl, rfl⟩ rfl rfl (Nat.le_of_ble_eq_true rfl) ⟨by decide, by decide, rfl, rfl⟩ (fun _ h => h.elim) (fun r2 u2 h => ?_)
          refine e_istore_n (k := 30) (i := 1) (lv' := [(0, .ref (gR g 37)), (1, .int r2), (2, .int x2)]) rfl rfl (by decide) [1, 0, 2] rfl ?_
          refine e_aload_n (k := 31) (i := 0) rfl rfl 0 rfl ?_
          refine e_iload_n (k := 32) (i := 1) rfl rfl 1 rfl ?_
          refine e_callVi (k := 33) (q := 37) (As := [.int r2]) (rest := []) rfl (c_X1_mayCome (g := g) hg (n := n) h) m_X1_mayCome i_X1_mayCome l_X1_47 rfl ⟨_, rfl, rfl⟩ rfl rfl (Nat.le_of_ble_eq_true rfl) ⟨by decide, by decide, rfl, rfl⟩ (fun _ h => h.elim) (fun r3 u3 h => ?_)
          refine e_if_ne (k := 34) (tgt := 82) rfl (by decide) (fun z => ?_) (fun z => ?_)
          · have h := h.1 z
            refine e_aload_n (k := 43) (i := 0) rfl rfl 0 rfl ?_
            refine e_getC (k := 44) rfl f_X1_9 rfl rfl ?_
            refine e_dup (k := 45) rfl rfl ?_
            refine e_getI (k := 46) rfl f_X1_58 rfl rfl ?_
            refine e_iconst (k := 47) (v := (2 : Int32)) rfl (by decide) ?_
            refine e_iadd (k := 48) rfl ?_
            refine e_putI (k := 49) rfl fg_X1_58 rfl rfl ?_
            refine e_mlet h (fun u4 h => ?_)
            refine e_aload_n (k := 50) (i := 0) rfl rfl 0 rfl ?_
            refine e_getC (k := 51) rfl f_X1_9 rfl rfl ?_
            refine e_callVv (k := 52) (q := 33) (As := []) (rest := []) rfl (c_X5_skipBlanks (g := g) hg (n := n) h) m_X5_skipBlanks i_X5_skipBlanks l_X1_61 rfl ⟨_, rfl, rfl⟩ rfl rfl (Nat.le_of_ble_eq_true rfl) ⟨by decide, by decide, rfl, rfl⟩ (fun _ h => h.elim) (fun u5 h => ?_)
            refine e_aload_n (k := 53) (i := 0) rfl rfl 0 rfl ?_
            refine e_iload_n (k := 54) (i := 1) rfl rfl 1 rfl ?_
            refine e_callVv (k := 55) (q := 37) (As := [.int r2]) (rest := []) rfl (c_X1_readHead (g := g) hg (n := n) h) m_X1_readHead i_X1_readHead l_X1_64 rfl ⟨_, rfl, rfl⟩ rfl rfl (Nat.le_of_ble_eq_true rfl) ⟨by decide, by decide, rfl, rfl⟩ (fun _ h => h.elim) (fun u6 h => ?_)
            refine e_aload_n (k := 56) (i := 0) rfl rfl 0 rfl ?_
            refine e_getC (k := 57) rfl f_X1_9 rfl rfl ?_
            refine e_callVv (k := 58) (q := 33) (As := []) (rest := []) rfl (c_X5_mustStop (g := g) hg (n := n) h) m_X5_mustStop i_X5_mustStop l_X1_68 rfl ⟨_, rfl, rfl⟩ rfl rfl (Nat.le_of_ble_eq_true rfl) ⟨by decide, by decide, rfl, rfl⟩ (fun _ h => h.elim) (fun u7 h => ?_)
            refine e_iinc (k := 59) (i := 2) (j := 2) (v := (x2 + (1 : Int32))) (lv' := [(0, .ref (gR g 37)), (1, .int r2), (2, .int (x2 + (1 : Int32)))]) rfl rfl rfl (by decide) [1, 2, 0] rfl ?_
            refine e_goto (k := 60) (tgt := 19) rfl (by decide) ?_
            exact ih r2 (x2 + (1 : Int32)) u7 h
          · have h := h.2 z
            refine e_aload_n (k := 35) (i := 0) rfl rfl 0 rfl ?_
            refine e_getC (k := 36) rfl f_X1_9 rfl rfl ?_
            refine e_iconst (k := 37) (v := (1 : Int32)) rfl (by decide) ?_
            refine e_aload_n (k := 38) (i := 0) rfl rfl 0 rfl ?_
            refine e_getC (k := 39) rfl f_X1_9 rfl rfl ?_
            refine e_getI (k := 40) rfl f_X1_51 rfl rfl ?_
            refine e_callVv (k := 41) (q := 33) (As := [.int (1 : Int32), .int (u3.1 33 3)]) (rest := []) rfl (c_X5_fail (g := g) hg (n := n) h) m_X5_fail i_X5_fail l_X1_54 rfl ⟨_, rfl, rfl⟩ rfl rfl (Nat.le_of_ble_eq_true rfl) ⟨by decide, by decide, rfl, rfl⟩ (fun _ h => h.elim) (fun u8 h => ?_)
            exact e_vret (k := 42) rfl rfl (Or.inl ⟨rfl, h⟩)
set_option maxRecDepth 20000 in
theorem c_X1_readHeads {g : Gb} (hg : xInj g) {n : Nat} {u0 : Mm} {Q : Mm → Prop} (h : w_X1_readHeads n u0 Q) : xMet (gL g) yX1_readHeads (xws yX1_readHeads cX1_readHeads 3 none) (xRoom 7) (xPc g [.ref (gR g 37)] u0) (xQ g (pV g Q noT)) (xA g) := by
  refine xbody (il := il_X1_readHeads) hg il_X1_readHeads_ok m_X1_readHeads (Nat.le_of_ble_eq_true rfl) ?_
  show xE g me_X1_readHeads (pV g Q noT) 0 [(0, .ref (gR g 37))] [] u0
  unfold w_X1_readHeads at h
  refine e_aload_n (k := 0) (i := 0) rfl rfl 0 rfl ?_
  refine e_iconst (k := 1) (v := (0 : Int32)) rfl (by decide) ?_
  refine e_putZ (k := 2) rfl fg_X1_23 rfl rfl (Or.inl rfl) ?_
  refine e_mlet h (fun u1 h => ?_)
  refine e_aload_n (k := 3) (i := 0) rfl rfl 0 rfl ?_
  refine e_iconst (k := 4) (v := (0 : Int32)) rfl (by decide) ?_
  refine e_putZ (k := 5) rfl fg_X1_27 rfl rfl (Or.inl rfl) ?_
  refine e_mlet h (fun u2 h => ?_)
  refine e_aload_n (k := 6) (i := 0) rfl rfl 0 rfl ?_
  refine e_iconst (k := 7) (v := (0 : Int32)) rfl (by decide) ?_
  refine e_putZ (k := 8) rfl fg_X1_30 rfl rfl (Or.inl rfl) ?_
  refine e_mlet h (fun u3 h => ?_)
  refine e_iconst (k := 9) (v := (0 : Int32)) rfl (by decide) ?_
  refine e_istore_n (k := 10) (i := 1) (lv' := [(0, .ref (gR g 37)), (1, .int (0 : Int32))]) rfl rfl (by decide) [1, 0] rfl ?_
  refine e_iconst (k := 11) (v := (0 : Int32)) rfl (by decide) ?_
  refine e_istore_n (k := 12) (i := 2) (lv' := [(0, .ref (gR g 37)), (1, .int (0 : Int32)), (2, .int (0 : Int32))]) rfl rfl (by decide) [1, 2, 0] rfl ?_
  exact s_X1_readHeads_19 hg n (0 : Int32) (0 : Int32) u3 h
def il_X4_musicLine : List (Nat × Instr × Nat) := [(0, .aload_n 0, 1), (1, .iconst 0, 1), (2, .putfield 200, 3), (5, .aload_n 0, 1), (6, .getfield 9, 3), (9, .invokevirtual 130, 3), (12, .iconst 0, 1), (13, .istore_n 1, 1), (14, .iload_n 1, 1), (15, .sipush 2000, 3), (18, .if_icmp .gt 222, 3), (21, .aload_n 0, 1), (22, .getfield 9, 3), (25, .getfield 78, 3), (28, .ifCond .ne 212, 3), (31, .aload_n 0, 1), (32, .getfield 9, 3), (35, .getfield 123, 3), (38, .aload_n 0, 1), (39, .getfield 9, 3), (42, .getfield 87, 3), (45, .if_icmp .ge 195, 3), (48, .aload_n 0, 1), (49, .getfield 200, 3), (52, .istore_n 2, 1), (53, .aload_n 0, 1), (54, .iconst 0, 1), (55, .putfield 200, 3), (58, .aload_n 0, 1), (59, .invokevirtual 204, 3), (62, .tableswitch 150 1 12 #[62, 69, 77, 84, 91, 98, 106, 114, 121, 128, 136, 143], 62), (124, .aload_n 0, 1), (125, .invokevirtual 207, 3), (128, .goto 99, 3), (131, .aload_n 0, 1), (132, .iconst 1, 1), (133, .invokevirtual 210, 3), (136, .goto 91, 3), (139, .aload_n 0, 1), (140, .invokevirtual 213, 3), (143, .goto 84, 3), (146, .aload_n 0, 1), (147, .invokevirtual 216, 3), (150, .goto 77, 3), (153, .aload_n 0, 1), (154, .invokevirtual 219, 3), (157, .goto 70, 3), (160, .aload_n 0, 1), (161, .iconst 0, 1), (162, .invokevirtual 101, 3), (165, .goto 62, 3), (168, .aload_n 0, 1), (169, .iconst 0, 1), (170, .invokevirtual 210, 3), (173, .goto 54, 3), (176, .aload_n 0, 1), (177, .invokevirtual 222, 3), (180, .goto 47, 3), (183, .aload_n 0, 1), (184, .invokevirtual 225, 3), (187, .goto 40, 3), (190, .aload_n 0, 1), (191, .iload_n 2, 1), (192, .invokevirtual 228, 3), (195, .goto 32, 3), (198, .aload_n 0, 1), (199, .invokevirtual 231, 3), (202, .goto 25, 3), (205, .aload_n 0, 1), (206, .invokevirtual 234, 3), (209, .goto 18, 3), (212, .aload_n 0, 1), (213, .getfield 9, 3), (216, .iconst 1, 1), (217, .aload_n 0, 1), (218, .getfield 9, 3), (221, .getfield 123, 3), (224, .invokevirtual 93, 3), (227, .aload_n 0, 1), (228, .getfield 9, 3), (231, .invokevirtual 130, 3), (234, .iinc 1 1, 3), (237, .goto (-223), 3), (240, .return_, 1)]
set_option maxRecDepth 20000 in
theorem il_X4_musicLine_ok : ∀ x ∈ il_X4_musicLine, decode cX4_musicLine x.1 = .ok x.2 := by decide +kernel
abbrev me_X4_musicLine : Me := (RX4, il_X4_musicLine, 3, none, xRoom 7, [])
def w_X4_musicLine_240 (n : Nat) (u0 : Mm) (Q : Mm → Prop) : Prop :=
  Q u0
def w_X4_musicLine_227 (n : Nat) (L14 : Int32 → Mm → Prop) (x1 : Int32) (u0 : Mm) (Q : Mm → Prop) : Prop :=
  w_X5_skipBlanks n u0 (fun u1 =>
  L14 (x1 + (1 : Int32)) u1)
def w_X4_musicLine_14 (n : Nat) (Q : Mm → Prop) : Nat → Int32 → Mm → Prop
  | 0, _, _ => False
  | k + 1, x1, u0 =>
  ((2000 : Int32) < x1 → w_X4_musicLine_240 n u0 Q) ∧
  (¬ (2000 : Int32) < x1 → (¬ (u0.1 33 6) = 0 → w_X4_musicLine_240 n u0 Q) ∧
  ((u0.1 33 6) = 0 → ((u0.1 33 4) ≤ (u0.1 33 2) → w_X4_musicLine_240 n u0 Q) ∧
  (¬ (u0.1 33 4) ≤ (u0.1 33 2) → ilet (u0.1 38 14) fun y1 =>
  mlet (setI u0 38 14 (0 : Int32)) fun u1 =>
  w_X4_formHere n u1 (fun r1 u2 =>
  (r1 = (1 : Int32) → w_X4_readSingle n u2 (fun u3 =>
  w_X4_musicLine_227 n (w_X4_musicLine_14 n Q k) x1 u3 Q)) ∧
  (¬ r1 = (1 : Int32) → (r1 = (2 : Int32) → w_X4_readGroup n (1 : Int32) u2 (fun u4 =>
  w_X4_musicLine_227 n (w_X4_musicLine_14 n Q k) x1 u4 Q)) ∧
  (¬ r1 = (2 : Int32) → (r1 = (3 : Int32) → w_X4_readRest n u2 (fun u5 =>
  w_X4_musicLine_227 n (w_X4_musicLine_14 n Q k) x1 u5 Q)) ∧
  (¬ r1 = (3 : Int32) → (r1 = (4 : Int32) → w_X4_readBars n u2 (fun u6 =>
  w_X4_musicLine_227 n (w_X4_musicLine_14 n Q k) x1 u6 Q)) ∧
  (¬ r1 = (4 : Int32) → (r1 = (5 : Int32) → w_X4_readBar n u2 (fun u7 =>
  w_X4_musicLine_227 n (w_X4_musicLine_14 n Q k) x1 u7 Q)) ∧
  (¬ r1 = (5 : Int32) → (r1 = (6 : Int32) → w_X4_readChange n (0 : Int32) u2 (fun u8 =>
  w_X4_musicLine_227 n (w_X4_musicLine_14 n Q k) x1 u8 Q)) ∧
  (¬ r1 = (6 : Int32) → (r1 = (7 : Int32) → w_X4_readGroup n (0 : Int32) u2 (fun u9 =>
  w_X4_musicLine_227 n (w_X4_musicLine_14 n Q k) x1 u9 Q)) ∧
  (¬ r1 = (7 : Int32) → (r1 = (8 : Int32) → w_X4_readTuplet n u2 (fun u10 =>
  w_X4_musicLine_227 n (w_X4_musicLine_14 n Q k) x1 u10 Q)) ∧
  (¬ r1 = (8 : Int32) → (r1 = (9 : Int32) → w_X4_readSlur n u2 (fun u11 =>
  w_X4_musicLine_227 n (w_X4_musicLine_14 n Q k) x1 u11 Q)) ∧
  (¬ r1 = (9 : Int32) → (r1 = (10 : Int32) → w_X4_readBroken n y1 u2 (fun u12 =>
  w_X4_musicLine_227 n (w_X4_musicLine_14 n Q k) x1 u12 Q)) ∧
  (¬ r1 = (10 : Int32) → (r1 = (11 : Int32) → w_X4_readOrnament n u2 (fun u13 =>
  w_X4_musicLine_227 n (w_X4_musicLine_14 n Q k) x1 u13 Q)) ∧
  (¬ r1 = (11 : Int32) → (r1 = (12 : Int32) → w_X4_readWord n u2 (fun u14 =>
  w_X4_musicLine_227 n (w_X4_musicLine_14 n Q k) x1 u14 Q)) ∧
  (¬ r1 = (12 : Int32) → w_X5_fail n (1 : Int32) (u2.1 33 2) u2 (fun u15 =>
  w_X4_musicLine_227 n (w_X4_musicLine_14 n Q k) x1 u15 Q)))))))))))))))))
def w_X4_musicLine (n : Nat) (u0 : Mm) (Q : Mm → Prop) : Prop :=
  mlet (setI u0 38 14 (0 : Int32)) fun u1 =>
  w_X5_skipBlanks n u1 (fun u2 =>
  (w_X4_musicLine_14 n Q n) (0 : Int32) u2)
set_option maxRecDepth 20000 in
theorem s_X4_musicLine_240 {g : Gb} (hg : xInj g) {n : Nat} {Q : Mm → Prop} {u0 : Mm} (h : w_X4_musicLine_240 n  u0 Q) : xE g me_X4_musicLine (pV g Q noT) 240 [] [] u0 := by
  unfold w_X4_musicLine_240 at h
  exact e_vret (k := 83) rfl rfl (Or.inl ⟨rfl, h⟩)
set_option maxRecDepth 20000 in
theorem s_X4_musicLine_227 {g : Gb} (hg : xInj g) {n : Nat} {Q : Mm → Prop} {L14 : Int32 → Mm → Prop} (hL14 : ∀ (x1 : Int32) (u0 : Mm), L14 x1 u0 → xE g me_X4_musicLine (pV g Q noT) 14 [(0, .ref (gR g 38)), (1, .int x1)] [] u0) {x1 : Int32} {u0 : Mm} (h : w_X4_musicLine_227 n L14 x1 u0 Q) : xE g me_X4_musicLine (pV g Q noT) 227 [(0, .ref (gR g 38)), (1, .int x1)] [] u0 := by
  unfold w_X4_musicLine_227 at h
  refine e_aload_n (k := 78) (i := 0) rfl rfl 0 rfl ?_
  refine e_getC (k := 79) rfl f_X4_9 rfl rfl ?_
  refine e_callVv (k := 80) (q := 33) (As := []) (rest := []) rfl (c_X5_skipBlanks (g := g) hg (n := n) h) m_X5_skipBlanks i_X5_skipBlanks l_X4_130 rfl ⟨_, rfl, rfl⟩ rfl rfl (Nat.le_of_ble_eq_true rfl) ⟨by decide, by decide, rfl, rfl⟩ (fun _ h => h.elim) (fun u1 h => ?_)
  refine e_iinc (k := 81) (i := 1) (j := 1) (v := (x1 + (1 : Int32))) (lv' := [(0, .ref (gR g 38)), (1, .int (x1 + (1 : Int32)))]) rfl rfl rfl (by decide) [1, 0] rfl ?_
  refine e_goto (k := 82) (tgt := 14) rfl (by decide) ?_
  exact hL14 (x1 + (1 : Int32)) u1 h
set_option maxRecDepth 20000 in
theorem s_X4_musicLine_14 {g : Gb} (hg : xInj g) {n : Nat} {Q : Mm → Prop} : ∀ (k : Nat) (x1 : Int32) (u0 : Mm), w_X4_musicLine_14 n Q k x1 u0 → xE g me_X4_musicLine (pV g Q noT) 14 [(0, .ref (gR g 38)), (1, .int x1)] [] u0 := by
  intro k
  induction k with
  | zero => intro x1 u0 h; exact h.elim
  | succ k ih =>
    intro x1 u0 h
    unfold w_X4_musicLine_14 at h
    refine e_iload_n (k := 8) (i := 1) rfl rfl 1 rfl ?_
    refine e_sipush (k := 9) (v := (2000 : Int32)) rfl (by decide) ?_
    refine e_icmp_gt (k := 10) (tgt := 240) rfl (by decide) (fun z => ?_) (fun z => ?_)
    · have h := h.1 z
      refine e_sub (lv' := []) [] rfl ?_
      exact s_X4_musicLine_240 hg h
    · have h := h.2 z
      refine e_aload_n (k := 11) (i := 0) rfl rfl 0 rfl ?_
      refine e_getC (k := 12) rfl f_X4_9 rfl rfl ?_
      refine e_getI (k := 13) rfl f_X4_78 rfl rfl ?_
      refine e_if_ne (k := 14) (tgt := 240) rfl (by decide) (fun z => ?_) (fun z => ?_)
      · have h := h.1 z
        refine e_sub (lv' := []) [] rfl ?_
        exact s_X4_musicLine_240 hg h
      · have h := h.2 z
        refine e_aload_n (k := 15) (i := 0) rfl rfl 0 rfl ?_
        refine e_getC (k := 16) rfl f_X4_9 rfl rfl ?_
        refine e_getI (k := 17) rfl f_X4_123 rfl rfl ?_
        refine e_aload_n (k := 18) (i := 0) rfl rfl 0 rfl ?_
        refine e_getC (k := 19) rfl f_X4_9 rfl rfl ?_
        refine e_getI (k := 20) rfl f_X4_87 rfl rfl ?_
        refine e_icmp_ge (k := 21) (tgt := 240) rfl (by decide) (fun z => ?_) (fun z => ?_)
        · have h := h.1 z
          refine e_sub (lv' := []) [] rfl ?_
          exact s_X4_musicLine_240 hg h
        · have h := h.2 z
          refine e_aload_n (k := 22) (i := 0) rfl rfl 0 rfl ?_
          refine e_getI (k := 23) rfl f_X4_200 rfl rfl ?_
          refine e_ilet h (fun y1 h => ?_)
          refine e_istore_n (k := 24) (i := 2) (lv' := [(0, .ref (gR g 38)), (1, .int x1), (2, .int y1)]) rfl rfl (by decide) [1, 2, 0] rfl ?_
          refine e_aload_n (k := 25) (i := 0) rfl rfl 0 rfl ?_
          refine e_iconst (k := 26) (v := (0 : Int32)) rfl (by decide) ?_
          refine e_putZ (k := 27) rfl fg_X4_200 rfl rfl (Or.inl rfl) ?_
          refine e_mlet h (fun u1 h => ?_)
          refine e_aload_n (k := 28) (i := 0) rfl rfl 0 rfl ?_
          refine e_callVi (k := 29) (q := 38) (As := []) (rest := []) rfl (c_X4_formHere (g := g) hg (n := n) h) m_X4_formHere i_X4_formHere l_X4_204 rfl ⟨_, rfl, rfl⟩ rfl rfl (Nat.le_of_ble_eq_true rfl) ⟨by decide, by decide, rfl, rfl⟩ (fun _ h => h.elim) (fun r1 u2 h => ?_)
          refine e_case (a := r1 = (1 : Int32)) (fun z1 => ?_) (fun z1 => ?_)
          · have h := h.1 z1
            refine e_tableIn (k := 30) (tgt := 124) (off := 62) rfl z1 (by decide) (by decide) (by decide) (by decide) ?_
            refine e_aload_n (k := 31) (i := 0) rfl rfl 0 rfl ?_
            refine e_callVv (k := 32) (q := 38) (As := []) (rest := []) rfl (c_X4_readSingle (g := g) hg (n := n) h) m_X4_readSingle i_X4_readSingle l_X4_207 rfl ⟨_, rfl, rfl⟩ rfl rfl (Nat.le_of_ble_eq_true rfl) ⟨by decide, by decide, rfl, rfl⟩ (fun _ h => h.elim) (fun u3 h => ?_)
            refine e_goto (k := 33) (tgt := 227) rfl (by decide) ?_
            refine e_sub (lv' := [(0, .ref (gR g 38)), (1, .int x1)]) [0, 1] rfl ?_
            exact s_X4_musicLine_227 hg ih h
          · have h := h.2 z1
            refine e_case (a := r1 = (2 : Int32)) (fun z2 => ?_) (fun z2 => ?_)
            · have h := h.1 z2
              refine e_tableIn (k := 30) (tgt := 131) (off := 69) rfl z2 (by decide) (by decide) (by decide) (by decide) ?_
              refine e_aload_n (k := 34) (i := 0) rfl rfl 0 rfl ?_
              refine e_iconst (k := 35) (v := (1 : Int32)) rfl (by decide) ?_
              refine e_callVv (k := 36) (q := 38) (As := [.int (1 : Int32)]) (rest := []) rfl (c_X4_readGroup (g := g) hg (n := n) h) m_X4_readGroup i_X4_readGroup l_X4_210 rfl ⟨_, rfl, rfl⟩ rfl rfl (Nat.le_of_ble_eq_true rfl) ⟨by decide, by decide, rfl, rfl⟩ (fun _ h => h.elim) (fun u4 h => ?_)
              refine e_goto (k := 37) (tgt := 227) rfl (by decide) ?_
              refine e_sub (lv' := [(0, .ref (gR g 38)), (1, .int x1)]) [0, 1] rfl ?_
              exact s_X4_musicLine_227 hg ih h
            · have h := h.2 z2
              refine e_case (a := r1 = (3 : Int32)) (fun z3 => ?_) (fun z3 => ?_)
              · have h := h.1 z3
                refine e_tableIn (k := 30) (tgt := 139) (off := 77) rfl z3 (by decide) (by decide) (by decide) (by decide) ?_
                refine e_aload_n (k := 38) (i := 0) rfl rfl 0 rfl ?_
                refine e_callVv (k := 39) (q := 38) (As := []) (rest := []) rfl (c_X4_readRest (g := g) hg (n := n) h) m_X4_readRest i_X4_readRest l_X4_213 rfl ⟨_, rfl, rfl⟩ rfl rfl (Nat.le_of_ble_eq_true rfl) ⟨by decide, by decide, rfl, rfl⟩ (fun _ h => h.elim) (fun u5 h => ?_)
                refine e_goto (k := 40) (tgt := 227) rfl (by decide) ?_
                refine e_sub (lv' := [(0, .ref (gR g 38)), (1, .int x1)]) [0, 1] rfl ?_
                exact s_X4_musicLine_227 hg ih h
              · have h := h.2 z3
                refine e_case (a := r1 = (4 : Int32)) (fun z4 => ?_) (fun z4 => ?_)
                · have h := h.1 z4
                  refine e_tableIn (k := 30) (tgt := 146) (off := 84) rfl z4 (by decide) (by decide) (by decide) (by decide) ?_
                  refine e_aload_n (k := 41) (i := 0) rfl rfl 0 rfl ?_
                  refine e_callVv (k := 42) (q := 38) (As := []) (rest := []) rfl (c_X4_readBars (g := g) hg (n := n) h) m_X4_readBars i_X4_readBars l_X4_216 rfl ⟨_, rfl, rfl⟩ rfl rfl (Nat.le_of_ble_eq_true rfl) ⟨by decide, by decide, rfl, rfl⟩ (fun _ h => h.elim) (fun u6 h => ?_)
                  refine e_goto (k := 43) (tgt := 227) rfl (by decide) ?_
                  refine e_sub (lv' := [(0, .ref (gR g 38)), (1, .int x1)]) [0, 1] rfl ?_
                  exact s_X4_musicLine_227 hg ih h
                · have h := h.2 z4
                  refine e_case (a := r1 = (5 : Int32)) (fun z5 => ?_) (fun z5 => ?_)
                  · have h := h.1 z5
                    refine e_tableIn (k := 30) (tgt := 153) (off := 91) rfl z5 (by decide) (by decide) (by decide) (by decide) ?_
                    refine e_aload_n (k := 44) (i := 0) rfl rfl 0 rfl ?_
                    refine e_callVv (k := 45) (q := 38) (As := []) (rest := []) rfl (c_X4_readBar (g := g) hg (n := n) h) m_X4_readBar i_X4_readBar l_X4_219 rfl ⟨_, rfl, rfl⟩ rfl rfl (Nat.le_of_ble_eq_true rfl) ⟨by decide, by decide, rfl, rfl⟩ (fun _ h => h.elim) (fun u7 h => ?_)
                    refine e_goto (k := 46) (tgt := 227) rfl (by decide) ?_
                    refine e_sub (lv' := [(0, .ref (gR g 38)), (1, .int x1)]) [0, 1] rfl ?_
                    exact s_X4_musicLine_227 hg ih h
                  · have h := h.2 z5
                    refine e_case (a := r1 = (6 : Int32)) (fun z6 => ?_) (fun z6 => ?_)
                    · have h := h.1 z6
                      refine e_tableIn (k := 30) (tgt := 160) (off := 98) rfl z6 (by decide) (by decide) (by decide) (by decide) ?_
                      refine e_aload_n (k := 47) (i := 0) rfl rfl 0 rfl ?_
                      refine e_iconst (k := 48) (v := (0 : Int32)) rfl (by decide) ?_
                      refine e_callVv (k := 49) (q := 38) (As := [.int (0 : Int32)]) (rest := []) rfl (c_X4_readChange (g := g) hg (n := n) h) m_X4_readChange i_X4_readChange l_X4_101 rfl ⟨_, rfl, rfl⟩ rfl rfl (Nat.le_of_ble_eq_true rfl) ⟨by decide, by decide, rfl, rfl⟩ (fun _ h => h.elim) (fun u8 h => ?_)
                      refine e_goto (k := 50) (tgt := 227) rfl (by decide) ?_
                      refine e_sub (lv' := [(0, .ref (gR g 38)), (1, .int x1)]) [0, 1] rfl ?_
                      exact s_X4_musicLine_227 hg ih h
                    · have h := h.2 z6
                      refine e_case (a := r1 = (7 : Int32)) (fun z7 => ?_) (fun z7 => ?_)
                      · have h := h.1 z7
                        refine e_tableIn (k := 30) (tgt := 168) (off := 106) rfl z7 (by decide) (by decide) (by decide) (by decide) ?_
                        refine e_aload_n (k := 51) (i := 0) rfl rfl 0 rfl ?_
                        refine e_iconst (k := 52) (v := (0 : Int32)) rfl (by decide) ?_
                        refine e_callVv (k := 53) (q := 38) (As := [.int (0 : Int32)]) (rest := []) rfl (c_X4_readGroup (g := g) hg (n := n) h) m_X4_readGroup i_X4_readGroup l_X4_210 rfl ⟨_, rfl, rfl⟩ rfl rfl (Nat.le_of_ble_eq_true rfl) ⟨by decide, by decide, rfl, rfl⟩ (fun _ h => h.elim) (fun u9 h => ?_)
                        refine e_goto (k := 54) (tgt := 227) rfl (by decide) ?_
                        refine e_sub (lv' := [(0, .ref (gR g 38)), (1, .int x1)]) [0, 1] rfl ?_
                        exact s_X4_musicLine_227 hg ih h
                      · have h := h.2 z7
                        refine e_case (a := r1 = (8 : Int32)) (fun z8 => ?_) (fun z8 => ?_)
                        · have h := h.1 z8
                          refine e_tableIn (k := 30) (tgt := 176) (off := 114) rfl z8 (by decide) (by decide) (by decide) (by decide) ?_
                          refine e_aload_n (k := 55) (i := 0) rfl rfl 0 rfl ?_
                          refine e_callVv (k := 56) (q := 38) (As := []) (rest := []) rfl (c_X4_readTuplet (g := g) hg (n := n) h) m_X4_readTuplet i_X4_readTuplet l_X4_222 rfl ⟨_, rfl, rfl⟩ rfl rfl (Nat.le_of_ble_eq_true rfl) ⟨by decide, by decide, rfl, rfl⟩ (fun _ h => h.elim) (fun u10 h => ?_)
                          refine e_goto (k := 57) (tgt := 227) rfl (by decide) ?_
                          refine e_sub (lv' := [(0, .ref (gR g 38)), (1, .int x1)]) [0, 1] rfl ?_
                          exact s_X4_musicLine_227 hg ih h
                        · have h := h.2 z8
                          refine e_case (a := r1 = (9 : Int32)) (fun z9 => ?_) (fun z9 => ?_)
                          · have h := h.1 z9
                            refine e_tableIn (k := 30) (tgt := 183) (off := 121) rfl z9 (by decide) (by decide) (by decide) (by decide) ?_
                            refine e_aload_n (k := 58) (i := 0) rfl rfl 0 rfl ?_
                            refine e_callVv (k := 59) (q := 38) (As := []) (rest := []) rfl (c_X4_readSlur (g := g) hg (n := n) h) m_X4_readSlur i_X4_readSlur l_X4_225 rfl ⟨_, rfl, rfl⟩ rfl rfl (Nat.le_of_ble_eq_true rfl) ⟨by decide, by decide, rfl, rfl⟩ (fun _ h => h.elim) (fun u11 h => ?_)
                            refine e_goto (k := 60) (tgt := 227) rfl (by decide) ?_
                            refine e_sub (lv' := [(0, .ref (gR g 38)), (1, .int x1)]) [0, 1] rfl ?_
                            exact s_X4_musicLine_227 hg ih h
                          · have h := h.2 z9
                            refine e_case (a := r1 = (10 : Int32)) (fun z10 => ?_) (fun z10 => ?_)
                            · have h := h.1 z10
                              refine e_tableIn (k := 30) (tgt := 190) (off := 128) rfl z10 (by decide) (by decide) (by decide) (by decide) ?_
                              refine e_aload_n (k := 61) (i := 0) rfl rfl 0 rfl ?_
                              refine e_iload_n (k := 62) (i := 2) rfl rfl 2 rfl ?_
                              refine e_callVv (k := 63) (q := 38) (As := [.int y1]) (rest := []) rfl (c_X4_readBroken (g := g) hg (n := n) h) m_X4_readBroken i_X4_readBroken l_X4_228 rfl ⟨_, rfl, rfl⟩ rfl rfl (Nat.le_of_ble_eq_true rfl) ⟨by decide, by decide, rfl, rfl⟩ (fun _ h => h.elim) (fun u12 h => ?_)
                              refine e_goto (k := 64) (tgt := 227) rfl (by decide) ?_
                              refine e_sub (lv' := [(0, .ref (gR g 38)), (1, .int x1)]) [0, 1] rfl ?_
                              exact s_X4_musicLine_227 hg ih h
                            · have h := h.2 z10
                              refine e_case (a := r1 = (11 : Int32)) (fun z11 => ?_) (fun z11 => ?_)
                              · have h := h.1 z11
                                refine e_tableIn (k := 30) (tgt := 198) (off := 136) rfl z11 (by decide) (by decide) (by decide) (by decide) ?_
                                refine e_aload_n (k := 65) (i := 0) rfl rfl 0 rfl ?_
                                refine e_callVv (k := 66) (q := 38) (As := []) (rest := []) rfl (c_X4_readOrnament (g := g) hg (n := n) h) m_X4_readOrnament i_X4_readOrnament l_X4_231 rfl ⟨_, rfl, rfl⟩ rfl rfl (Nat.le_of_ble_eq_true rfl) ⟨by decide, by decide, rfl, rfl⟩ (fun _ h => h.elim) (fun u13 h => ?_)
                                refine e_goto (k := 67) (tgt := 227) rfl (by decide) ?_
                                refine e_sub (lv' := [(0, .ref (gR g 38)), (1, .int x1)]) [0, 1] rfl ?_
                                exact s_X4_musicLine_227 hg ih h
                              · have h := h.2 z11
                                refine e_case (a := r1 = (12 : Int32)) (fun z12 => ?_) (fun z12 => ?_)
                                · have h := h.1 z12
                                  refine e_tableIn (k := 30) (tgt := 205) (off := 143) rfl z12 (by decide) (by decide) (by decide) (by decide) ?_
                                  refine e_aload_n (k := 68) (i := 0) rfl rfl 0 rfl ?_
                                  refine e_callVv (k := 69) (q := 38) (As := []) (rest := []) rfl (c_X4_readWord (g := g) hg (n := n) h) m_X4_readWord i_X4_readWord l_X4_234 rfl ⟨_, rfl, rfl⟩ rfl rfl (Nat.le_of_ble_eq_true rfl) ⟨by decide, by decide, rfl, rfl⟩ (fun _ h => h.elim) (fun u14 h => ?_)
                                  refine e_goto (k := 70) (tgt := 227) rfl (by decide) ?_
                                  refine e_sub (lv' := [(0, .ref (gR g 38)), (1, .int x1)]) [0, 1] rfl ?_
                                  exact s_X4_musicLine_227 hg ih h
                                · have h := h.2 z12
                                  have w1 := xne (i := 1) z1 (by decide)
                                  have w2 := xne (i := 2) z2 (by decide)
                                  have w3 := xne (i := 3) z3 (by decide)
                                  have w4 := xne (i := 4) z4 (by decide)
                                  have w5 := xne (i := 5) z5 (by decide)
                                  have w6 := xne (i := 6) z6 (by decide)
                                  have w7 := xne (i := 7) z7 (by decide)
                                  have w8 := xne (i := 8) z8 (by decide)
                                  have w9 := xne (i := 9) z9 (by decide)
                                  have w10 := xne (i := 10) z10 (by decide)
                                  have w11 := xne (i := 11) z11 (by decide)
                                  have w12 := xne (i := 12) z12 (by decide)
                                  refine e_tableOut (k := 30) (tgt := 212) rfl (by omega) (by decide) ?_
                                  refine e_aload_n (k := 71) (i := 0) rfl rfl 0 rfl ?_
                                  refine e_getC (k := 72) rfl f_X4_9 rfl rfl ?_
                                  refine e_iconst (k := 73) (v := (1 : Int32)) rfl (by decide) ?_
                                  refine e_aload_n (k := 74) (i := 0) rfl rfl 0 rfl ?_
                                  refine e_getC (k := 75) rfl f_X4_9 rfl rfl ?_
                                  refine e_getI (k := 76) rfl f_X4_123 rfl rfl ?_
                                  refine e_callVv (k := 77) (q := 33) (As := [.int (1 : Int32), .int (u2.1 33 2)]) (rest := []) rfl (c_X5_fail (g := g) hg (n := n) h) m_X5_fail i_X5_fail l_X4_93 rfl ⟨_, rfl, rfl⟩ rfl rfl (Nat.le_of_ble_eq_true rfl) ⟨by decide, by decide, rfl, rfl⟩ (fun _ h => h.elim) (fun u15 h => ?_)
                                  refine e_sub (lv' := [(0, .ref (gR g 38)), (1, .int x1)]) [0, 1] rfl ?_
                                  exact s_X4_musicLine_227 hg ih h
set_option maxRecDepth 20000 in
theorem c_X4_musicLine {g : Gb} (hg : xInj g) {n : Nat} {u0 : Mm} {Q : Mm → Prop} (h : w_X4_musicLine n u0 Q) : xMet (gL g) yX4_musicLine (xws yX4_musicLine cX4_musicLine 3 none) (xRoom 7) (xPc g [.ref (gR g 38)] u0) (xQ g (pV g Q noT)) (xA g) := by
  refine xbody (il := il_X4_musicLine) hg il_X4_musicLine_ok m_X4_musicLine (Nat.le_of_ble_eq_true rfl) ?_
  show xE g me_X4_musicLine (pV g Q noT) 0 [(0, .ref (gR g 38))] [] u0
  unfold w_X4_musicLine at h
  refine e_aload_n (k := 0) (i := 0) rfl rfl 0 rfl ?_
  refine e_iconst (k := 1) (v := (0 : Int32)) rfl (by decide) ?_
  refine e_putZ (k := 2) rfl fg_X4_200 rfl rfl (Or.inl rfl) ?_
  refine e_mlet h (fun u1 h => ?_)
  refine e_aload_n (k := 3) (i := 0) rfl rfl 0 rfl ?_
  refine e_getC (k := 4) rfl f_X4_9 rfl rfl ?_
  refine e_callVv (k := 5) (q := 33) (As := []) (rest := []) rfl (c_X5_skipBlanks (g := g) hg (n := n) h) m_X5_skipBlanks i_X5_skipBlanks l_X4_130 rfl ⟨_, rfl, rfl⟩ rfl rfl (Nat.le_of_ble_eq_true rfl) ⟨by decide, by decide, rfl, rfl⟩ (fun _ h => h.elim) (fun u2 h => ?_)
  refine e_iconst (k := 6) (v := (0 : Int32)) rfl (by decide) ?_
  refine e_istore_n (k := 7) (i := 1) (lv' := [(0, .ref (gR g 38)), (1, .int (0 : Int32))]) rfl rfl (by decide) [1, 0] rfl ?_
  exact s_X4_musicLine_14 hg n (0 : Int32) u2 h
def il_X12_readOne : List (Nat × Instr × Nat) := [(0, .aload_n 0, 1), (1, .invokevirtual 162, 3), (4, .istore_n 1, 1), (5, .iload_n 1, 1), (6, .bipush 62, 2), (8, .if_icmp .eq 9, 3), (11, .iload_n 1, 1), (12, .bipush 60, 2), (14, .if_icmp .ne 8, 3), (17, .aload_n 0, 1), (18, .invokevirtual 452, 3), (21, .return_, 1), (22, .aload_n 0, 1), (23, .invokevirtual 426, 3), (26, .ifCond .eq 16, 3), (29, .aload_n 0, 1), (30, .invokevirtual 429, 3), (33, .aload_n 0, 1), (34, .aload_n 0, 1), (35, .getfield 423, 3), (38, .putfield 432, 3), (41, .return_, 1), (42, .aload_n 0, 1), (43, .iconst (-1), 1), (44, .putfield 423, 3), (47, .aload_n 0, 1), (48, .invokevirtual 377, 3), (51, .ifCond .eq 10, 3), (54, .aload_n 0, 1), (55, .invokevirtual 455, 3), (58, .goto 163, 3), (61, .aload_n 0, 1), (62, .invokevirtual 381, 3), (65, .ifCond .eq 36, 3), (68, .aload_n 0, 1), (69, .getfield 138, 3), (72, .istore_n 2, 1), (73, .aload_n 0, 1), (74, .dup, 1), (75, .getfield 138, 3), (78, .iconst 1, 1), (79, .iadd, 1), (80, .putfield 138, 3), (83, .aload_n 0, 1), (84, .iload_n 2, 1), (85, .invokevirtual 458, 3), (88, .aload_n 0, 1), (89, .invokevirtual 241, 3), (92, .aload_n 0, 1), (93, .bipush 93, 2), (95, .invokevirtual 211, 3), (98, .goto 123, 3), (101, .iload_n 1, 1), (102, .bipush 123, 2), (104, .if_icmp .ne 10, 3), (107, .aload_n 0, 1), (108, .invokevirtual 461, 3), (111, .goto 110, 3), (114, .iload_n 1, 1), (115, .bipush 90, 2), (117, .if_icmp .ne 10, 3), (120, .aload_n 0, 1), (121, .invokevirtual 464, 3), (124, .goto 97, 3), (127, .iload_n 1, 1), (128, .bipush 40, 2), (130, .if_icmp .ne 10, 3), (133, .aload_n 0, 1), (134, .invokevirtual 467, 3), (137, .goto 84, 3), (140, .iload_n 1, 1), (141, .bipush 41, 2), (143, .if_icmp .ne 10, 3), (146, .aload_n 0, 1), (147, .invokevirtual 470, 3), (150, .goto 71, 3), (153, .iload_n 1, 1), (154, .bipush 33, 2), (156, .if_icmp .ne 10, 3), (159, .aload_n 0, 1), (160, .invokevirtual 473, 3), (163, .goto 58, 3), (166, .iload_n 1, 1), (167, .bipush 34, 2), (169, .if_icmp .ne 10, 3), (172, .aload_n 0, 1), (173, .invokevirtual 476, 3), (176, .goto 45, 3), (179, .iload_n 1, 1), (180, .invokestatic 479, 3), (183, .ifCond .le 29, 3), (186, .aload_n 0, 1), (187, .aload_n 0, 1), (188, .getfield 410, 3), (191, .iload_n 1, 1), (192, .invokestatic 479, 3), (195, .ior, 1), (196, .putfield 410, 3), (199, .aload_n 0, 1), (200, .dup, 1), (201, .getfield 138, 3), (204, .iconst 1, 1), (205, .iadd, 1), (206, .putfield 138, 3), (209, .goto 12, 3), (212, .aload_n 0, 1), (213, .iconst 1, 1), (214, .aload_n 0, 1), (215, .getfield 138, 3), (218, .invokevirtual 148, 3), (221, .return_, 1)]
set_option maxRecDepth 20000 in
theorem il_X12_readOne_ok : ∀ x ∈ il_X12_readOne, decode cX12_readOne x.1 = .ok x.2 := by decide +kernel
abbrev me_X12_readOne : Me := (RX12, il_X12_readOne, 3, none, xRoom 8, [])
def w_X12_readOne_221 (n : Nat) (u0 : Mm) (Q : Mm → Prop) (T : Mm → Prop) : Prop :=
  Q u0
def w_X12_readOne_17 (n : Nat) (u0 : Mm) (Q : Mm → Prop) (T : Mm → Prop) : Prop :=
  w_X12_readBroken n u0 (fun u1 =>
  Q u1) T
def w_X12_readOne (n : Nat) (u0 : Mm) (Q : Mm → Prop) (T : Mm → Prop) : Prop :=
  w_X12_here n u0 (fun r1 u1 =>
  (r1 = (62 : Int32) → w_X12_readOne_17 n u1 Q T) ∧
  (¬ r1 = (62 : Int32) → (¬ r1 = (60 : Int32) → w_X12_beginsTimed n u1 (fun r2 u2 =>
  (r2 = 0 → mlet (setI u2 0 49 (-1 : Int32)) fun u3 =>
  w_X12_isBarHere n u3 (fun r3 u4 =>
  (r3 = 0 → w_X12_isFieldHere n u4 (fun r4 u5 =>
  (r4 = 0 → (¬ r1 = (123 : Int32) → (¬ r1 = (90 : Int32) → (¬ r1 = (40 : Int32) → (¬ r1 = (41 : Int32) → (¬ r1 = (33 : Int32) → (¬ r1 = (34 : Int32) → w_X12_ornament n r1 u5 (fun r5 u6 =>
  (r5 ≤ 0 → w_X12_fail n (1 : Int32) (u6.1 0 7) u6 (fun u7 =>
  w_X12_readOne_221 n u7 Q T) T) ∧
  (¬ r5 ≤ 0 → w_X12_ornament n r1 u6 (fun r6 u8 =>
  mlet (setI u8 0 42 ((u6.1 0 42) ||| r6)) fun u9 =>
  mlet (setI u9 0 7 ((u9.1 0 7) + (1 : Int32))) fun u10 =>
  w_X12_readOne_221 n u10 Q T) T)) T) ∧
  (r1 = (34 : Int32) → w_X12_readQuote n u5 (fun u11 =>
  w_X12_readOne_221 n u11 Q T) T)) ∧
  (r1 = (33 : Int32) → w_X12_readSay n u5 (fun u12 =>
  w_X12_readOne_221 n u12 Q T) T)) ∧
  (r1 = (41 : Int32) → w_X12_readClose n u5 (fun u13 =>
  w_X12_readOne_221 n u13 Q T) T)) ∧
  (r1 = (40 : Int32) → w_X12_readOpen n u5 (fun u14 =>
  w_X12_readOne_221 n u14 Q T) T)) ∧
  (r1 = (90 : Int32) → w_X12_readBars n u5 (fun u15 =>
  w_X12_readOne_221 n u15 Q T) T)) ∧
  (r1 = (123 : Int32) → w_X12_readGraces n u5 (fun u16 =>
  w_X12_readOne_221 n u16 Q T) T)) ∧
  (¬ r4 = 0 → ilet (u5.1 0 7) fun y1 =>
  mlet (setI u5 0 7 ((u5.1 0 7) + (1 : Int32))) fun u17 =>
  w_X12_readField n y1 u17 (fun u18 =>
  w_X12_blanks n u18 (fun u19 =>
  w_X12_must n (93 : Int32) u19 (fun u20 =>
  w_X12_readOne_221 n u20 Q T) T) T) T)) T) ∧
  (¬ r3 = 0 → w_X12_readBar n u4 (fun u21 =>
  w_X12_readOne_221 n u21 Q T) T)) T) ∧
  (¬ r2 = 0 → w_X12_readTimed n u2 (fun u22 =>
  mlet (setI u22 0 63 (u22.1 0 49)) fun u23 =>
  Q u23) T)) T) ∧
  (r1 = (60 : Int32) → w_X12_readOne_17 n u1 Q T))) T
set_option maxRecDepth 20000 in
theorem s_X12_readOne_221 {g : Gb} (hg : xInj g) {n : Nat} {Q : Mm → Prop} {T : Mm → Prop} {u0 : Mm} (h : w_X12_readOne_221 n  u0 Q T) : xE g me_X12_readOne (pV g Q T) 221 [] [] u0 := by
  unfold w_X12_readOne_221 at h
  exact e_vret (k := 110) rfl rfl (Or.inl ⟨rfl, h⟩)
set_option maxRecDepth 20000 in
theorem s_X12_readOne_17 {g : Gb} (hg : xInj g) {n : Nat} {Q : Mm → Prop} {T : Mm → Prop} {u0 : Mm} (h : w_X12_readOne_17 n  u0 Q T) : xE g me_X12_readOne (pV g Q T) 17 [(0, .ref (gR g 0))] [] u0 := by
  unfold w_X12_readOne_17 at h
  refine e_aload_n (k := 9) (i := 0) rfl rfl 0 rfl ?_
  refine e_callVv (k := 10) (q := 0) (As := []) (rest := []) rfl (c_X12_readBroken (g := g) hg (n := n) h) m_X12_readBroken i_X12_readBroken l_X12_452 rfl ⟨_, rfl, rfl⟩ rfl rfl (Nat.le_of_ble_eq_true rfl) ⟨by decide, by decide, rfl, rfl⟩ (fun _ h => ⟨fun _ z => (by cases z), Or.inr ⟨rfl, h⟩⟩) (fun u1 h => ?_)
  exact e_vret (k := 11) rfl rfl (Or.inl ⟨rfl, h⟩)
set_option maxRecDepth 20000 in
theorem c_X12_readOne {g : Gb} (hg : xInj g) {n : Nat} {u0 : Mm} {Q : Mm → Prop} {T : Mm → Prop} (h : w_X12_readOne n u0 Q T) : xMet (gL g) yX12_readOne (xws yX12_readOne cX12_readOne 3 none) (xRoom 8) (xPc g [.ref (gR g 0)] u0) (xQ g (pV g Q T)) (xA g) := by
  refine xbody (il := il_X12_readOne) hg il_X12_readOne_ok m_X12_readOne (Nat.le_of_ble_eq_true rfl) ?_
  show xE g me_X12_readOne (pV g Q T) 0 [(0, .ref (gR g 0))] [] u0
  unfold w_X12_readOne at h
  refine e_aload_n (k := 0) (i := 0) rfl rfl 0 rfl ?_
  refine e_callVi (k := 1) (q := 0) (As := []) (rest := []) rfl (c_X12_here (g := g) hg (n := n) h) m_X12_here i_X12_here l_X12_162 rfl ⟨_, rfl, rfl⟩ rfl rfl (Nat.le_of_ble_eq_true rfl) ⟨by decide, by decide, rfl, rfl⟩ (fun _ h => ⟨fun _ z => (by cases z), Or.inr ⟨rfl, h⟩⟩) (fun r1 u1 h => ?_)
  refine e_istore_n (k := 2) (i := 1) (lv' := [(0, .ref (gR g 0)), (1, .int r1)]) rfl rfl (by decide) [1, 0] rfl ?_
  refine e_iload_n (k := 3) (i := 1) rfl rfl 1 rfl ?_
  refine e_bipush (k := 4) (v := (62 : Int32)) rfl (by decide) ?_
  refine e_icmp_eq (k := 5) (tgt := 17) rfl (by decide) (fun z => ?_) (fun z => ?_)
  · have h := h.1 z
    refine e_sub (lv' := [(0, .ref (gR g 0))]) [0] rfl ?_
    exact s_X12_readOne_17 hg h
  · have h := h.2 z
    refine e_iload_n (k := 6) (i := 1) rfl rfl 1 rfl ?_
    refine e_bipush (k := 7) (v := (60 : Int32)) rfl (by decide) ?_
    refine e_icmp_ne (k := 8) (tgt := 22) rfl (by decide) (fun z => ?_) (fun z => ?_)
    · have h := h.1 z
      refine e_aload_n (k := 12) (i := 0) rfl rfl 0 rfl ?_
      refine e_callVi (k := 13) (q := 0) (As := []) (rest := []) rfl (c_X12_beginsTimed (g := g) hg (n := n) h) m_X12_beginsTimed i_X12_beginsTimed l_X12_426 rfl ⟨_, rfl, rfl⟩ rfl rfl (Nat.le_of_ble_eq_true rfl) ⟨by decide, by decide, rfl, rfl⟩ (fun _ h => ⟨fun _ z => (by cases z), Or.inr ⟨rfl, h⟩⟩) (fun r2 u2 h => ?_)
      refine e_if_eq (k := 14) (tgt := 42) rfl (by decide) (fun z => ?_) (fun z => ?_)
      · have h := h.1 z
        refine e_aload_n (k := 22) (i := 0) rfl rfl 0 rfl ?_
        refine e_iconst (k := 23) (v := (-1 : Int32)) rfl (by decide) ?_
        refine e_putI (k := 24) rfl fg_X12_423 rfl rfl ?_
        refine e_mlet h (fun u3 h => ?_)
        refine e_aload_n (k := 25) (i := 0) rfl rfl 0 rfl ?_
        refine e_callVi (k := 26) (q := 0) (As := []) (rest := []) rfl (c_X12_isBarHere (g := g) hg (n := n) h) m_X12_isBarHere i_X12_isBarHere l_X12_377 rfl ⟨_, rfl, rfl⟩ rfl rfl (Nat.le_of_ble_eq_true rfl) ⟨by decide, by decide, rfl, rfl⟩ (fun _ h => ⟨fun _ z => (by cases z), Or.inr ⟨rfl, h⟩⟩) (fun r3 u4 h => ?_)
        refine e_if_eq (k := 27) (tgt := 61) rfl (by decide) (fun z => ?_) (fun z => ?_)
        · have h := h.1 z
          refine e_aload_n (k := 31) (i := 0) rfl rfl 0 rfl ?_
          refine e_callVi (k := 32) (q := 0) (As := []) (rest := []) rfl (c_X12_isFieldHere (g := g) hg (n := n) h) m_X12_isFieldHere i_X12_isFieldHere l_X12_381 rfl ⟨_, rfl, rfl⟩ rfl rfl (Nat.le_of_ble_eq_true rfl) ⟨by decide, by decide, rfl, rfl⟩ (fun _ h => ⟨fun _ z => (by cases z), Or.inr ⟨rfl, h⟩⟩) (fun r4 u5 h => ?_)
          refine e_if_eq (k := 33) (tgt := 101) rfl (by decide) (fun z => ?_) (fun z => ?_)
          · have h := h.1 z
            refine e_iload_n (k := 52) (i := 1) rfl rfl 1 rfl ?_
            refine e_bipush (k := 53) (v := (123 : Int32)) rfl (by decide) ?_
            refine e_icmp_ne (k := 54) (tgt := 114) rfl (by decide) (fun z => ?_) (fun z => ?_)
            · have h := h.1 z
              refine e_iload_n (k := 58) (i := 1) rfl rfl 1 rfl ?_
              refine e_bipush (k := 59) (v := (90 : Int32)) rfl (by decide) ?_
              refine e_icmp_ne (k := 60) (tgt := 127) rfl (by decide) (fun z => ?_) (fun z => ?_)
              · have h := h.1 z
                refine e_iload_n (k := 64) (i := 1) rfl rfl 1 rfl ?_
                refine e_bipush (k := 65) (v := (40 : Int32)) rfl (by decide) ?_
                refine e_icmp_ne (k := 66) (tgt := 140) rfl (by decide) (fun z => ?_) (fun z => ?_)
                · have h := h.1 z
                  refine e_iload_n (k := 70) (i := 1) rfl rfl 1 rfl ?_
                  refine e_bipush (k := 71) (v := (41 : Int32)) rfl (by decide) ?_
                  refine e_icmp_ne (k := 72) (tgt := 153) rfl (by decide) (fun z => ?_) (fun z => ?_)
                  · have h := h.1 z
                    refine e_iload_n (k := 76) (i := 1) rfl rfl 1 rfl ?_
                    refine e_bipush (k := 77) (v := (33 : Int32)) rfl (by decide) ?_
                    refine e_icmp_ne (k := 78) (tgt := 166) rfl (by decide) (fun z => ?_) (fun z => ?_)
                    · have h := h.1 z
                      refine e_iload_n (k := 82) (i := 1) rfl rfl 1 rfl ?_
                      refine e_bipush (k := 83) (v := (34 : Int32)) rfl (by decide) ?_
                      refine e_icmp_ne (k := 84) (tgt := 179) rfl (by decide) (fun z => ?_) (fun z => ?_)
                      · have h := h.1 z
                        refine e_iload_n (k := 88) (i := 1) rfl rfl 1 rfl ?_
                        refine e_callSi (k := 89) (As := [.int r1]) (rest := []) rfl (c_X12_ornament (g := g) hg (n := n) h) m_X12_ornament st_X12_ornament l_X12_479 rfl rfl (Nat.le_of_ble_eq_true rfl) ⟨by decide, by decide, rfl, rfl⟩ (fun _ h => ⟨fun _ z => (by cases z), Or.inr ⟨rfl, h⟩⟩) (fun r5 u6 h => ?_)
                        refine e_if_le (k := 90) (tgt := 212) rfl (by decide) (fun z => ?_) (fun z => ?_)
                        · have h := h.1 z
                          refine e_aload_n (k := 105) (i := 0) rfl rfl 0 rfl ?_
                          refine e_iconst (k := 106) (v := (1 : Int32)) rfl (by decide) ?_
                          refine e_aload_n (k := 107) (i := 0) rfl rfl 0 rfl ?_
                          refine e_getI (k := 108) rfl f_X12_138 rfl rfl ?_
                          refine e_callVv (k := 109) (q := 0) (As := [.int (1 : Int32), .int (u6.1 0 7)]) (rest := []) rfl (c_X12_fail (g := g) hg (n := n) h) m_X12_fail i_X12_fail l_X12_148 rfl ⟨_, rfl, rfl⟩ rfl rfl (Nat.le_of_ble_eq_true rfl) ⟨by decide, by decide, rfl, rfl⟩ (fun _ h => ⟨fun _ z => (by cases z), Or.inr ⟨rfl, h⟩⟩) (fun u7 h => ?_)
                          refine e_sub (lv' := []) [] rfl ?_
                          exact s_X12_readOne_221 hg h
                        · have h := h.2 z
                          refine e_aload_n (k := 91) (i := 0) rfl rfl 0 rfl ?_
                          refine e_aload_n (k := 92) (i := 0) rfl rfl 0 rfl ?_
                          refine e_getI (k := 93) rfl f_X12_410 rfl rfl ?_
                          refine e_iload_n (k := 94) (i := 1) rfl rfl 1 rfl ?_
                          refine e_callSi (k := 95) (As := [.int r1]) (rest := [.int (u6.1 0 42), .ref (gR g 0)]) rfl (c_X12_ornament (g := g) hg (n := n) h) m_X12_ornament st_X12_ornament l_X12_479 rfl rfl (Nat.le_of_ble_eq_true rfl) ⟨by decide, by decide, rfl, rfl⟩ (fun _ h => ⟨fun _ z => (by cases z), Or.inr ⟨rfl, h⟩⟩) (fun r6 u8 h => ?_)
                          refine e_ior (k := 96) rfl ?_
                          refine e_putI (k := 97) rfl fg_X12_410 rfl rfl ?_
                          refine e_mlet h (fun u9 h => ?_)
                          refine e_aload_n (k := 98) (i := 0) rfl rfl 0 rfl ?_
                          refine e_dup (k := 99) rfl rfl ?_
                          refine e_getI (k := 100) rfl f_X12_138 rfl rfl ?_
                          refine e_iconst (k := 101) (v := (1 : Int32)) rfl (by decide) ?_
                          refine e_iadd (k := 102) rfl ?_
                          refine e_putI (k := 103) rfl fg_X12_138 rfl rfl ?_
                          refine e_mlet h (fun u10 h => ?_)
                          refine e_goto (k := 104) (tgt := 221) rfl (by decide) ?_
                          refine e_sub (lv' := []) [] rfl ?_
                          exact s_X12_readOne_221 hg h
                      · have h := h.2 z
                        refine e_aload_n (k := 85) (i := 0) rfl rfl 0 rfl ?_
                        refine e_callVv (k := 86) (q := 0) (As := []) (rest := []) rfl (c_X12_readQuote (g := g) hg (n := n) h) m_X12_readQuote i_X12_readQuote l_X12_476 rfl ⟨_, rfl, rfl⟩ rfl rfl (Nat.le_of_ble_eq_true rfl) ⟨by decide, by decide, rfl, rfl⟩ (fun _ h => ⟨fun _ z => (by cases z), Or.inr ⟨rfl, h⟩⟩) (fun u11 h => ?_)
                        refine e_goto (k := 87) (tgt := 221) rfl (by decide) ?_
                        refine e_sub (lv' := []) [] rfl ?_
                        exact s_X12_readOne_221 hg h
                    · have h := h.2 z
                      refine e_aload_n (k := 79) (i := 0) rfl rfl 0 rfl ?_
                      refine e_callVv (k := 80) (q := 0) (As := []) (rest := []) rfl (c_X12_readSay (g := g) hg (n := n) h) m_X12_readSay i_X12_readSay l_X12_473 rfl ⟨_, rfl, rfl⟩ rfl rfl (Nat.le_of_ble_eq_true rfl) ⟨by decide, by decide, rfl, rfl⟩ (fun _ h => ⟨fun _ z => (by cases z), Or.inr ⟨rfl, h⟩⟩) (fun u12 h => ?_)
                      refine e_goto (k := 81) (tgt := 221) rfl (by decide) ?_
                      refine e_sub (lv' := []) [] rfl ?_
                      exact s_X12_readOne_221 hg h
                  · have h := h.2 z
                    refine e_aload_n (k := 73) (i := 0) rfl rfl 0 rfl ?_
                    refine e_callVv (k := 74) (q := 0) (As := []) (rest := []) rfl (c_X12_readClose (g := g) hg (n := n) h) m_X12_readClose i_X12_readClose l_X12_470 rfl ⟨_, rfl, rfl⟩ rfl rfl (Nat.le_of_ble_eq_true rfl) ⟨by decide, by decide, rfl, rfl⟩ (fun _ h => ⟨fun _ z => (by cases z), Or.inr ⟨rfl, h⟩⟩) (fun u13 h => ?_)
                    refine e_goto (k := 75) (tgt := 221) rfl (by decide) ?_
                    refine e_sub (lv' := []) [] rfl ?_
                    exact s_X12_readOne_221 hg h
                · have h := h.2 z
                  refine e_aload_n (k := 67) (i := 0) rfl rfl 0 rfl ?_
                  refine e_callVv (k := 68) (q := 0) (As := []) (rest := []) rfl (c_X12_readOpen (g := g) hg (n := n) h) m_X12_readOpen i_X12_readOpen l_X12_467 rfl ⟨_, rfl, rfl⟩ rfl rfl (Nat.le_of_ble_eq_true rfl) ⟨by decide, by decide, rfl, rfl⟩ (fun _ h => ⟨fun _ z => (by cases z), Or.inr ⟨rfl, h⟩⟩) (fun u14 h => ?_)
                  refine e_goto (k := 69) (tgt := 221) rfl (by decide) ?_
                  refine e_sub (lv' := []) [] rfl ?_
                  exact s_X12_readOne_221 hg h
              · have h := h.2 z
                refine e_aload_n (k := 61) (i := 0) rfl rfl 0 rfl ?_
                refine e_callVv (k := 62) (q := 0) (As := []) (rest := []) rfl (c_X12_readBars (g := g) hg (n := n) h) m_X12_readBars i_X12_readBars l_X12_464 rfl ⟨_, rfl, rfl⟩ rfl rfl (Nat.le_of_ble_eq_true rfl) ⟨by decide, by decide, rfl, rfl⟩ (fun _ h => ⟨fun _ z => (by cases z), Or.inr ⟨rfl, h⟩⟩) (fun u15 h => ?_)
                refine e_goto (k := 63) (tgt := 221) rfl (by decide) ?_
                refine e_sub (lv' := []) [] rfl ?_
                exact s_X12_readOne_221 hg h
            · have h := h.2 z
              refine e_aload_n (k := 55) (i := 0) rfl rfl 0 rfl ?_
              refine e_callVv (k := 56) (q := 0) (As := []) (rest := []) rfl (c_X12_readGraces (g := g) hg (n := n) h) m_X12_readGraces i_X12_readGraces l_X12_461 rfl ⟨_, rfl, rfl⟩ rfl rfl (Nat.le_of_ble_eq_true rfl) ⟨by decide, by decide, rfl, rfl⟩ (fun _ h => ⟨fun _ z => (by cases z), Or.inr ⟨rfl, h⟩⟩) (fun u16 h => ?_)
              refine e_goto (k := 57) (tgt := 221) rfl (by decide) ?_
              refine e_sub (lv' := []) [] rfl ?_
              exact s_X12_readOne_221 hg h
          · have h := h.2 z
            refine e_aload_n (k := 34) (i := 0) rfl rfl 0 rfl ?_
            refine e_getI (k := 35) rfl f_X12_138 rfl rfl ?_
            refine e_ilet h (fun y1 h => ?_)
            refine e_istore_n (k := 36) (i := 2) (lv' := [(0, .ref (gR g 0)), (1, .int r1), (2, .int y1)]) rfl rfl (by decide) [1, 2, 0] rfl ?_
            refine e_aload_n (k := 37) (i := 0) rfl rfl 0 rfl ?_
            refine e_dup (k := 38) rfl rfl ?_
            refine e_getI (k := 39) rfl f_X12_138 rfl rfl ?_
            refine e_iconst (k := 40) (v := (1 : Int32)) rfl (by decide) ?_
            refine e_iadd (k := 41) rfl ?_
            refine e_putI (k := 42) rfl fg_X12_138 rfl rfl ?_
            refine e_mlet h (fun u17 h => ?_)
            refine e_aload_n (k := 43) (i := 0) rfl rfl 0 rfl ?_
            refine e_iload_n (k := 44) (i := 2) rfl rfl 2 rfl ?_
            refine e_callVv (k := 45) (q := 0) (As := [.int y1]) (rest := []) rfl (c_X12_readField (g := g) hg (n := n) h) m_X12_readField i_X12_readField l_X12_458 rfl ⟨_, rfl, rfl⟩ rfl rfl (Nat.le_of_ble_eq_true rfl) ⟨by decide, by decide, rfl, rfl⟩ (fun _ h => ⟨fun _ z => (by cases z), Or.inr ⟨rfl, h⟩⟩) (fun u18 h => ?_)
            refine e_aload_n (k := 46) (i := 0) rfl rfl 0 rfl ?_
            refine e_callVv (k := 47) (q := 0) (As := []) (rest := []) rfl (c_X12_blanks (g := g) hg (n := n) h) m_X12_blanks i_X12_blanks l_X12_241 rfl ⟨_, rfl, rfl⟩ rfl rfl (Nat.le_of_ble_eq_true rfl) ⟨by decide, by decide, rfl, rfl⟩ (fun _ h => ⟨fun _ z => (by cases z), Or.inr ⟨rfl, h⟩⟩) (fun u19 h => ?_)
            refine e_aload_n (k := 48) (i := 0) rfl rfl 0 rfl ?_
            refine e_bipush (k := 49) (v := (93 : Int32)) rfl (by decide) ?_
            refine e_callVv (k := 50) (q := 0) (As := [.int (93 : Int32)]) (rest := []) rfl (c_X12_must (g := g) hg (n := n) h) m_X12_must i_X12_must l_X12_211 rfl ⟨_, rfl, rfl⟩ rfl rfl (Nat.le_of_ble_eq_true rfl) ⟨by decide, by decide, rfl, rfl⟩ (fun _ h => ⟨fun _ z => (by cases z), Or.inr ⟨rfl, h⟩⟩) (fun u20 h => ?_)
            refine e_goto (k := 51) (tgt := 221) rfl (by decide) ?_
            refine e_sub (lv' := []) [] rfl ?_
            exact s_X12_readOne_221 hg h
        · have h := h.2 z
          refine e_aload_n (k := 28) (i := 0) rfl rfl 0 rfl ?_
          refine e_callVv (k := 29) (q := 0) (As := []) (rest := []) rfl (c_X12_readBar (g := g) hg (n := n) h) m_X12_readBar i_X12_readBar l_X12_455 rfl ⟨_, rfl, rfl⟩ rfl rfl (Nat.le_of_ble_eq_true rfl) ⟨by decide, by decide, rfl, rfl⟩ (fun _ h => ⟨fun _ z => (by cases z), Or.inr ⟨rfl, h⟩⟩) (fun u21 h => ?_)
          refine e_goto (k := 30) (tgt := 221) rfl (by decide) ?_
          refine e_sub (lv' := []) [] rfl ?_
          exact s_X12_readOne_221 hg h
      · have h := h.2 z
        refine e_aload_n (k := 15) (i := 0) rfl rfl 0 rfl ?_
        refine e_callVv (k := 16) (q := 0) (As := []) (rest := []) rfl (c_X12_readTimed (g := g) hg (n := n) h) m_X12_readTimed i_X12_readTimed l_X12_429 rfl ⟨_, rfl, rfl⟩ rfl rfl (Nat.le_of_ble_eq_true rfl) ⟨by decide, by decide, rfl, rfl⟩ (fun _ h => ⟨fun _ z => (by cases z), Or.inr ⟨rfl, h⟩⟩) (fun u22 h => ?_)
        refine e_aload_n (k := 17) (i := 0) rfl rfl 0 rfl ?_
        refine e_aload_n (k := 18) (i := 0) rfl rfl 0 rfl ?_
        refine e_getI (k := 19) rfl f_X12_423 rfl rfl ?_
        refine e_putI (k := 20) rfl fg_X12_432 rfl rfl ?_
        refine e_mlet h (fun u23 h => ?_)
        exact e_vret (k := 21) rfl rfl (Or.inl ⟨rfl, h⟩)
    · have h := h.2 z
      refine e_sub (lv' := [(0, .ref (gR g 0))]) [0] rfl ?_
      exact s_X12_readOne_17 hg h
def il_X4_readBody : List (Nat × Instr × Nat) := [(0, .iconst 1, 1), (1, .istore_n 1, 1), (2, .iload_n 1, 1), (3, .iconst 3, 1), (4, .if_icmp .gt 27, 3), (7, .aload_n 0, 1), (8, .getfield 19, 3), (11, .iload_n 1, 1), (12, .invokevirtual 44, 3), (15, .aload_n 0, 1), (16, .getfield 19, 3), (19, .getfield 52, 3), (22, .invokevirtual 55, 3), (25, .iinc 1 1, 3), (28, .goto (-26), 3), (31, .aload_n 0, 1), (32, .iconst 1, 1), (33, .invokevirtual 61, 3), (36, .aload_n 0, 1), (37, .getfield 33, 3), (40, .invokevirtual 65, 3), (43, .aload_n 0, 1), (44, .iconst 0, 1), (45, .putfield 68, 3), (48, .aload_n 0, 1), (49, .iconst (-1), 1), (50, .putfield 72, 3), (53, .aload_n 0, 1), (54, .iconst 0, 1), (55, .putfield 75, 3), (58, .iconst 0, 1), (59, .istore_n 1, 1), (60, .iconst 0, 1), (61, .istore_n 2, 1), (62, .iload_n 2, 1), (63, .sipush 2000, 3), (66, .if_icmp .gt 95, 3), (69, .aload_n 0, 1), (70, .getfield 9, 3), (73, .getfield 78, 3), (76, .ifCond .ne 85, 3), (79, .aload_n 0, 1), (80, .getfield 9, 3), (83, .invokevirtual 83, 3), (86, .ifCond .eq 75, 3), (89, .aload_n 0, 1), (90, .getfield 9, 3), (93, .getfield 87, 3), (96, .aload_n 0, 1), (97, .getfield 9, 3), (100, .getfield 90, 3), (103, .if_icmp .ne 8, 3), (106, .iconst 1, 1), (107, .istore_n 1, 1), (108, .goto 47, 3), (111, .iload_n 1, 1), (112, .ifCond .eq 21, 3), (115, .aload_n 0, 1), (116, .getfield 9, 3), (119, .iconst 1, 1), (120, .aload_n 0, 1), (121, .getfield 9, 3), (124, .getfield 90, 3), (127, .invokevirtual 93, 3), (130, .goto 25, 3), (133, .aload_n 0, 1), (134, .getfield 9, 3), (137, .invokevirtual 97, 3), (140, .ifCond .le 11, 3), (143, .aload_n 0, 1), (144, .iconst 1, 1), (145, .invokevirtual 101, 3), (148, .goto 7, 3), (151, .aload_n 0, 1), (152, .invokevirtual 105, 3), (155, .iinc 2 1, 3), (158, .goto (-96), 3), (161, .aload_n 0, 1), (162, .getfield 33, 3), (165, .getfield 108, 3), (168, .ifCond .gt 10, 3), (171, .aload_n 0, 1), (172, .getfield 68, 3), (175, .ifCond .le 19, 3), (178, .aload_n 0, 1), (179, .getfield 9, 3), (182, .bipush 6, 2), (184, .aload_n 0, 1), (185, .getfield 9, 3), (188, .getfield 111, 3), (191, .invokevirtual 93, 3), (194, .return_, 1)]
set_option maxRecDepth 20000 in
theorem il_X4_readBody_ok : ∀ x ∈ il_X4_readBody, decode cX4_readBody x.1 = .ok x.2 := by decide +kernel
abbrev me_X4_readBody : Me := (RX4, il_X4_readBody, 3, none, xRoom 8, [])
def w_X4_readBody_194 (n : Nat) (u0 : Mm) (Q : Mm → Prop) : Prop :=
  Q u0
def w_X4_readBody_178 (n : Nat) (u0 : Mm) (Q : Mm → Prop) : Prop :=
  w_X5_fail n (6 : Int32) (u0.1 33 1) u0 (fun u1 =>
  w_X4_readBody_194 n u1 Q)
def w_X4_readBody_161 (n : Nat) (u0 : Mm) (Q : Mm → Prop) : Prop :=
  (0 < (u0.1 39 3) → w_X4_readBody_178 n u0 Q) ∧
  (¬ 0 < (u0.1 39 3) → ((u0.1 38 11) ≤ 0 → w_X4_readBody_194 n u0 Q) ∧
  (¬ (u0.1 38 11) ≤ 0 → w_X4_readBody_178 n u0 Q))
def w_X4_readBody_155 (n : Nat) (L62 : Int32 → Int32 → Mm → Prop) (x1 : Int32) (x2 : Int32) (u0 : Mm) (Q : Mm → Prop) : Prop :=
  L62 x1 (x2 + (1 : Int32)) u0
def w_X4_readBody_62 (n : Nat) (Q : Mm → Prop) : Nat → Int32 → Int32 → Mm → Prop
  | 0, _, _, _ => False
  | k + 1, x1, x2, u0 =>
  ((2000 : Int32) < x2 → w_X4_readBody_161 n u0 Q) ∧
  (¬ (2000 : Int32) < x2 → (¬ (u0.1 33 6) = 0 → w_X4_readBody_161 n u0 Q) ∧
  ((u0.1 33 6) = 0 → w_X5_openLine n u0 (fun r1 u1 =>
  (r1 = 0 → w_X4_readBody_161 n u1 Q) ∧
  (¬ r1 = 0 → (¬ (u1.1 33 4) = (u1.1 33 3) → (x1 = 0 → w_X5_fieldLetter n u1 (fun r2 u2 =>
  (r2 ≤ 0 → w_X4_musicLine n u2 (fun u3 =>
  w_X4_readBody_155 n (w_X4_readBody_62 n Q k) x1 x2 u3 Q)) ∧
  (¬ r2 ≤ 0 → w_X4_readChange n (1 : Int32) u2 (fun u4 =>
  w_X4_readBody_155 n (w_X4_readBody_62 n Q k) x1 x2 u4 Q)))) ∧
  (¬ x1 = 0 → w_X5_fail n (1 : Int32) (u1.1 33 3) u1 (fun u5 =>
  w_X4_readBody_155 n (w_X4_readBody_62 n Q k) x1 x2 u5 Q))) ∧
  ((u1.1 33 4) = (u1.1 33 3) → w_X4_readBody_155 n (w_X4_readBody_62 n Q k) (1 : Int32) x2 u1 Q)))))
def w_X4_readBody_2 (n : Nat) (Q : Mm → Prop) : Nat → Int32 → Mm → Prop
  | 0, _, _ => False
  | k + 1, x1, u0 =>
  ((3 : Int32) < x1 → w_X4_takeVoice n (1 : Int32) u0 (fun u1 =>
  w_X2_clear n u1 (fun u2 =>
  mlet (setI u2 38 11 (0 : Int32)) fun u3 =>
  mlet (setI u3 38 12 (-1 : Int32)) fun u4 =>
  mlet (setI u4 38 13 (0 : Int32)) fun u5 =>
  (w_X4_readBody_62 n Q n) (0 : Int32) (0 : Int32) u5))) ∧
  (¬ (3 : Int32) < x1 → w_X7_voiceOf n x1 u0 (fun r1 u6 =>
  w_X8_begin n r1 u6 (fun u7 =>
  (w_X4_readBody_2 n Q k) (x1 + (1 : Int32)) u7)))
def w_X4_readBody (n : Nat) (u0 : Mm) (Q : Mm → Prop) : Prop :=
  (w_X4_readBody_2 n Q n) (1 : Int32) u0
set_option maxRecDepth 20000 in
theorem s_X4_readBody_194 {g : Gb} (hg : xInj g) {n : Nat} {Q : Mm → Prop} {u0 : Mm} (h : w_X4_readBody_194 n  u0 Q) : xE g me_X4_readBody (pV g Q noT) 194 [] [] u0 := by
  unfold w_X4_readBody_194 at h
  exact e_vret (k := 91) rfl rfl (Or.inl ⟨rfl, h⟩)
set_option maxRecDepth 20000 in
theorem s_X4_readBody_178 {g : Gb} (hg : xInj g) {n : Nat} {Q : Mm → Prop} {u0 : Mm} (h : w_X4_readBody_178 n  u0 Q) : xE g me_X4_readBody (pV g Q noT) 178 [(0, .ref (gR g 38))] [] u0 := by
  unfold w_X4_readBody_178 at h
  refine e_aload_n (k := 84) (i := 0) rfl rfl 0 rfl ?_
  refine e_getC (k := 85) rfl f_X4_9 rfl rfl ?_
  refine e_bipush (k := 86) (v := (6 : Int32)) rfl (by decide) ?_
  refine e_aload_n (k := 87) (i := 0) rfl rfl 0 rfl ?_
  refine e_getC (k := 88) rfl f_X4_9 rfl rfl ?_
  refine e_getI (k := 89) rfl f_X4_111 rfl rfl ?_
  refine e_callVv (k := 90) (q := 33) (As := [.int (6 : Int32), .int (u0.1 33 1)]) (rest := []) rfl (c_X5_fail (g := g) hg (n := n) h) m_X5_fail i_X5_fail l_X4_93 rfl ⟨_, rfl, rfl⟩ rfl rfl (Nat.le_of_ble_eq_true rfl) ⟨by decide, by decide, rfl, rfl⟩ (fun _ h => h.elim) (fun u1 h => ?_)
  refine e_sub (lv' := []) [] rfl ?_
  exact s_X4_readBody_194 hg h
set_option maxRecDepth 20000 in
theorem s_X4_readBody_161 {g : Gb} (hg : xInj g) {n : Nat} {Q : Mm → Prop} {u0 : Mm} (h : w_X4_readBody_161 n  u0 Q) : xE g me_X4_readBody (pV g Q noT) 161 [(0, .ref (gR g 38))] [] u0 := by
  unfold w_X4_readBody_161 at h
  refine e_aload_n (k := 77) (i := 0) rfl rfl 0 rfl ?_
  refine e_getC (k := 78) rfl f_X4_33 rfl rfl ?_
  refine e_getI (k := 79) rfl f_X4_108 rfl rfl ?_
  refine e_if_gt (k := 80) (tgt := 178) rfl (by decide) (fun z => ?_) (fun z => ?_)
  · have h := h.1 z
    exact s_X4_readBody_178 hg h
  · have h := h.2 z
    refine e_aload_n (k := 81) (i := 0) rfl rfl 0 rfl ?_
    refine e_getI (k := 82) rfl f_X4_68 rfl rfl ?_
    refine e_if_le (k := 83) (tgt := 194) rfl (by decide) (fun z => ?_) (fun z => ?_)
    · have h := h.1 z
      refine e_sub (lv' := []) [] rfl ?_
      exact s_X4_readBody_194 hg h
    · have h := h.2 z
      exact s_X4_readBody_178 hg h
set_option maxRecDepth 20000 in
theorem s_X4_readBody_155 {g : Gb} (hg : xInj g) {n : Nat} {Q : Mm → Prop} {L62 : Int32 → Int32 → Mm → Prop} (hL62 : ∀ (x1 : Int32) (x2 : Int32) (u0 : Mm), L62 x1 x2 u0 → xE g me_X4_readBody (pV g Q noT) 62 [(0, .ref (gR g 38)), (1, .int x1), (2, .int x2)] [] u0) {x1 : Int32} {x2 : Int32} {u0 : Mm} (h : w_X4_readBody_155 n L62 x1 x2 u0 Q) : xE g me_X4_readBody (pV g Q noT) 155 [(0, .ref (gR g 38)), (1, .int x1), (2, .int x2)] [] u0 := by
  unfold w_X4_readBody_155 at h
  refine e_iinc (k := 75) (i := 2) (j := 2) (v := (x2 + (1 : Int32))) (lv' := [(0, .ref (gR g 38)), (1, .int x1), (2, .int (x2 + (1 : Int32)))]) rfl rfl rfl (by decide) [1, 2, 0] rfl ?_
  refine e_goto (k := 76) (tgt := 62) rfl (by decide) ?_
  exact hL62 x1 (x2 + (1 : Int32)) u0 h
set_option maxRecDepth 20000 in
theorem s_X4_readBody_62 {g : Gb} (hg : xInj g) {n : Nat} {Q : Mm → Prop} : ∀ (k : Nat) (x1 : Int32) (x2 : Int32) (u0 : Mm), w_X4_readBody_62 n Q k x1 x2 u0 → xE g me_X4_readBody (pV g Q noT) 62 [(0, .ref (gR g 38)), (1, .int x1), (2, .int x2)] [] u0 := by
  intro k
  induction k with
  | zero => intro x1 x2 u0 h; exact h.elim
  | succ k ih =>
    intro x1 x2 u0 h
    unfold w_X4_readBody_62 at h
    refine e_iload_n (k := 34) (i := 2) rfl rfl 2 rfl ?_
    refine e_sipush (k := 35) (v := (2000 : Int32)) rfl (by decide) ?_
    refine e_icmp_gt (k := 36) (tgt := 161) rfl (by decide) (fun z => ?_) (fun z => ?_)
    · have h := h.1 z
      refine e_sub (lv' := [(0, .ref (gR g 38))]) [0] rfl ?_
      exact s_X4_readBody_161 hg h
    · have h := h.2 z
      refine e_aload_n (k := 37) (i := 0) rfl rfl 0 rfl ?_
      refine e_getC (k := 38) rfl f_X4_9 rfl rfl ?_
      refine e_getI (k := 39) rfl f_X4_78 rfl rfl ?_
      refine e_if_ne (k := 40) (tgt := 161) rfl (by decide) (fun z => ?_) (fun z => ?_)
      · have h := h.1 z
        refine e_sub (lv' := [(0, .ref (gR g 38))]) [0] rfl ?_
        exact s_X4_readBody_161 hg h
      · have h := h.2 z
        refine e_aload_n (k := 41) (i := 0) rfl rfl 0 rfl ?_
        refine e_getC (k := 42) rfl f_X4_9 rfl rfl ?_
        refine e_callVi (k := 43) (q := 33) (As := []) (rest := []) rfl (c_X5_openLine (g := g) hg (n := n) h) m_X5_openLine i_X5_openLine l_X4_83 rfl ⟨_, rfl, rfl⟩ rfl rfl (Nat.le_of_ble_eq_true rfl) ⟨by decide, by decide, rfl, rfl⟩ (fun _ h => h.elim) (fun r1 u1 h => ?_)
        refine e_if_eq (k := 44) (tgt := 161) rfl (by decide) (fun z => ?_) (fun z => ?_)
        · have h := h.1 z
          refine e_sub (lv' := [(0, .ref (gR g 38))]) [0] rfl ?_
          exact s_X4_readBody_161 hg h
        · have h := h.2 z
          refine e_aload_n (k := 45) (i := 0) rfl rfl 0 rfl ?_
          refine e_getC (k := 46) rfl f_X4_9 rfl rfl ?_
          refine e_getI (k := 47) rfl f_X4_87 rfl rfl ?_
          refine e_aload_n (k := 48) (i := 0) rfl rfl 0 rfl ?_
          refine e_getC (k := 49) rfl f_X4_9 rfl rfl ?_
          refine e_getI (k := 50) rfl f_X4_90 rfl rfl ?_
          refine e_icmp_ne (k := 51) (tgt := 111) rfl (by decide) (fun z => ?_) (fun z => ?_)
          · have h := h.1 z
            refine e_iload_n (k := 55) (i := 1) rfl rfl 1 rfl ?_
            refine e_if_eq (k := 56) (tgt := 133) rfl (by decide) (fun z => ?_) (fun z => ?_)
            · have h := h.1 z
              refine e_aload_n (k := 65) (i := 0) rfl rfl 0 rfl ?_
              refine e_getC (k := 66) rfl f_X4_9 rfl rfl ?_
              refine e_callVi (k := 67) (q := 33) (As := []) (rest := []) rfl (c_X5_fieldLetter (g := g) hg (n := n) h) m_X5_fieldLetter i_X5_fieldLetter l_X4_97 rfl ⟨_, rfl, rfl⟩ rfl rfl (Nat.le_of_ble_eq_true rfl) ⟨by decide, by decide, rfl, rfl⟩ (fun _ h => h.elim) (fun r2 u2 h => ?_)
              refine e_if_le (k := 68) (tgt := 151) rfl (by decide) (fun z => ?_) (fun z => ?_)
              · have h := h.1 z
                refine e_aload_n (k := 73) (i := 0) rfl rfl 0 rfl ?_
                refine e_callVv (k := 74) (q := 38) (As := []) (rest := []) rfl (c_X4_musicLine (g := g) hg (n := n) h) m_X4_musicLine i_X4_musicLine l_X4_105 rfl ⟨_, rfl, rfl⟩ rfl rfl (Nat.le_of_ble_eq_true rfl) ⟨by decide, by decide, rfl, rfl⟩ (fun _ h => h.elim) (fun u3 h => ?_)
                exact s_X4_readBody_155 hg ih h
              · have h := h.2 z
                refine e_aload_n (k := 69) (i := 0) rfl rfl 0 rfl ?_
                refine e_iconst (k := 70) (v := (1 : Int32)) rfl (by decide) ?_
                refine e_callVv (k := 71) (q := 38) (As := [.int (1 : Int32)]) (rest := []) rfl (c_X4_readChange (g := g) hg (n := n) h) m_X4_readChange i_X4_readChange l_X4_101 rfl ⟨_, rfl, rfl⟩ rfl rfl (Nat.le_of_ble_eq_true rfl) ⟨by decide, by decide, rfl, rfl⟩ (fun _ h => h.elim) (fun u4 h => ?_)
                refine e_goto (k := 72) (tgt := 155) rfl (by decide) ?_
                exact s_X4_readBody_155 hg ih h
            · have h := h.2 z
              refine e_aload_n (k := 57) (i := 0) rfl rfl 0 rfl ?_
              refine e_getC (k := 58) rfl f_X4_9 rfl rfl ?_
              refine e_iconst (k := 59) (v := (1 : Int32)) rfl (by decide) ?_
              refine e_aload_n (k := 60) (i := 0) rfl rfl 0 rfl ?_
              refine e_getC (k := 61) rfl f_X4_9 rfl rfl ?_
              refine e_getI (k := 62) rfl f_X4_90 rfl rfl ?_
              refine e_callVv (k := 63) (q := 33) (As := [.int (1 : Int32), .int (u1.1 33 3)]) (rest := []) rfl (c_X5_fail (g := g) hg (n := n) h) m_X5_fail i_X5_fail l_X4_93 rfl ⟨_, rfl, rfl⟩ rfl rfl (Nat.le_of_ble_eq_true rfl) ⟨by decide, by decide, rfl, rfl⟩ (fun _ h => h.elim) (fun u5 h => ?_)
              refine e_goto (k := 64) (tgt := 155) rfl (by decide) ?_
              exact s_X4_readBody_155 hg ih h
          · have h := h.2 z
            refine e_iconst (k := 52) (v := (1 : Int32)) rfl (by decide) ?_
            refine e_istore_n (k := 53) (i := 1) (lv' := [(0, .ref (gR g 38)), (1, .int (1 : Int32)), (2, .int x2)]) rfl rfl (by decide) [1, 0, 2] rfl ?_
            refine e_goto (k := 54) (tgt := 155) rfl (by decide) ?_
            exact s_X4_readBody_155 hg ih h
set_option maxRecDepth 20000 in
theorem s_X4_readBody_2 {g : Gb} (hg : xInj g) {n : Nat} {Q : Mm → Prop} : ∀ (k : Nat) (x1 : Int32) (u0 : Mm), w_X4_readBody_2 n Q k x1 u0 → xE g me_X4_readBody (pV g Q noT) 2 [(0, .ref (gR g 38)), (1, .int x1)] [] u0 := by
  intro k
  induction k with
  | zero => intro x1 u0 h; exact h.elim
  | succ k ih =>
    intro x1 u0 h
    unfold w_X4_readBody_2 at h
    refine e_iload_n (k := 2) (i := 1) rfl rfl 1 rfl ?_
    refine e_iconst (k := 3) (v := (3 : Int32)) rfl (by decide) ?_
    refine e_icmp_gt (k := 4) (tgt := 31) rfl (by decide) (fun z => ?_) (fun z => ?_)
    · have h := h.1 z
      refine e_aload_n (k := 15) (i := 0) rfl rfl 0 rfl ?_
      refine e_iconst (k := 16) (v := (1 : Int32)) rfl (by decide) ?_
      refine e_callVv (k := 17) (q := 38) (As := [.int (1 : Int32)]) (rest := []) rfl (c_X4_takeVoice (g := g) hg (n := n) h) m_X4_takeVoice i_X4_takeVoice l_X4_61 rfl ⟨_, rfl, rfl⟩ rfl rfl (Nat.le_of_ble_eq_true rfl) ⟨by decide, by decide, rfl, rfl⟩ (fun _ h => h.elim) (fun u1 h => ?_)
      refine e_aload_n (k := 18) (i := 0) rfl rfl 0 rfl ?_
      refine e_getC (k := 19) rfl f_X4_33 rfl rfl ?_
      refine e_callVv (k := 20) (q := 39) (As := []) (rest := []) rfl (c_X2_clear (g := g) hg (n := n) h) m_X2_clear i_X2_clear l_X4_65 rfl ⟨_, rfl, rfl⟩ rfl rfl (Nat.le_of_ble_eq_true rfl) ⟨by decide, by decide, rfl, rfl⟩ (fun _ h => h.elim) (fun u2 h => ?_)
      refine e_aload_n (k := 21) (i := 0) rfl rfl 0 rfl ?_
      refine e_iconst (k := 22) (v := (0 : Int32)) rfl (by decide) ?_
      refine e_putI (k := 23) rfl fg_X4_68 rfl rfl ?_
      refine e_mlet h (fun u3 h => ?_)
      refine e_aload_n (k := 24) (i := 0) rfl rfl 0 rfl ?_
      refine e_iconst (k := 25) (v := (-1 : Int32)) rfl (by decide) ?_
      refine e_putI (k := 26) rfl fg_X4_72 rfl rfl ?_
      refine e_mlet h (fun u4 h => ?_)
      refine e_aload_n (k := 27) (i := 0) rfl rfl 0 rfl ?_
      refine e_iconst (k := 28) (v := (0 : Int32)) rfl (by decide) ?_
      refine e_putI (k := 29) rfl fg_X4_75 rfl rfl ?_
      refine e_mlet h (fun u5 h => ?_)
      refine e_iconst (k := 30) (v := (0 : Int32)) rfl (by decide) ?_
      refine e_istore_n (k := 31) (i := 1) (lv' := [(0, .ref (gR g 38)), (1, .int (0 : Int32))]) rfl rfl (by decide) [1, 0] rfl ?_
      refine e_iconst (k := 32) (v := (0 : Int32)) rfl (by decide) ?_
      refine e_istore_n (k := 33) (i := 2) (lv' := [(0, .ref (gR g 38)), (1, .int (0 : Int32)), (2, .int (0 : Int32))]) rfl rfl (by decide) [1, 2, 0] rfl ?_
      exact s_X4_readBody_62 hg n (0 : Int32) (0 : Int32) u5 h
    · have h := h.2 z
      refine e_aload_n (k := 5) (i := 0) rfl rfl 0 rfl ?_
      refine e_getC (k := 6) rfl f_X4_19 rfl rfl ?_
      refine e_iload_n (k := 7) (i := 1) rfl rfl 1 rfl ?_
      refine e_callVr (k := 8) (q := 35) (As := [.int x1]) (rest := []) rfl (c_X7_voiceOf (g := g) hg (n := n) h) m_X7_voiceOf i_X7_voiceOf l_X4_44 rfl ⟨_, rfl, rfl⟩ rfl rfl (Nat.le_of_ble_eq_true rfl) ⟨by decide, by decide, rfl, rfl⟩ (fun _ h => h.elim) (fun r1 u6 hr1 h => ?_)
      refine e_aload_n (k := 9) (i := 0) rfl rfl 0 rfl ?_
      refine e_getC (k := 10) rfl f_X4_19 rfl rfl ?_
      refine e_getC (k := 11) rfl f_X4_52 rfl rfl ?_
      refine e_callVv (k := 12) (q := r1) (As := [.ref (gR g 43)]) (rest := []) rfl (c_X8_begin (g := g) hg (n := n) hr1 h) m_X8_begin i_X8_begin l_X4_55 hr1 ⟨_, rfl, rfl⟩ rfl rfl (Nat.le_of_ble_eq_true rfl) ⟨by decide, by decide, rfl, rfl⟩ (fun _ h => h.elim) (fun u7 h => ?_)
      refine e_iinc (k := 13) (i := 1) (j := 1) (v := (x1 + (1 : Int32))) (lv' := [(0, .ref (gR g 38)), (1, .int (x1 + (1 : Int32)))]) rfl rfl rfl (by decide) [1, 0] rfl ?_
      refine e_goto (k := 14) (tgt := 2) rfl (by decide) ?_
      exact ih (x1 + (1 : Int32)) u7 h
set_option maxRecDepth 20000 in
theorem c_X4_readBody {g : Gb} (hg : xInj g) {n : Nat} {u0 : Mm} {Q : Mm → Prop} (h : w_X4_readBody n u0 Q) : xMet (gL g) yX4_readBody (xws yX4_readBody cX4_readBody 3 none) (xRoom 8) (xPc g [.ref (gR g 38)] u0) (xQ g (pV g Q noT)) (xA g) := by
  refine xbody (il := il_X4_readBody) hg il_X4_readBody_ok m_X4_readBody (Nat.le_of_ble_eq_true rfl) ?_
  show xE g me_X4_readBody (pV g Q noT) 0 [(0, .ref (gR g 38))] [] u0
  unfold w_X4_readBody at h
  refine e_iconst (k := 0) (v := (1 : Int32)) rfl (by decide) ?_
  refine e_istore_n (k := 1) (i := 1) (lv' := [(0, .ref (gR g 38)), (1, .int (1 : Int32))]) rfl rfl (by decide) [1, 0] rfl ?_
  exact s_X4_readBody_2 hg n (1 : Int32) u0 h
