/-! methods (by program) -/
def il_X4_readBar : List (Nat × Instr × Nat) := [(0, .aload_n 0, 1), (1, .getfield 9, 3), (4, .getfield 123, 3), (7, .istore_n 1, 1), (8, .aload_n 0, 1), (9, .getfield 9, 3), (12, .iconst 0, 1), (13, .invokevirtual 126, 3), (16, .aload_n 0, 1), (17, .getfield 9, 3), (20, .iconst 1, 1), (21, .invokevirtual 126, 3), (24, .invokestatic 249, 3), (27, .istore_n 2, 1), (28, .aload_n 0, 1), (29, .iconst 4, 1), (30, .iload_n 1, 1), (31, .invokevirtual 177, 3), (34, .istore_n 3, 1), (35, .iload_n 3, 1), (36, .ifCond .ge 4, 3), (39, .return_, 1), (40, .aload_n 0, 1), (41, .getfield 9, 3), (44, .dup, 1), (45, .getfield 123, 3), (48, .iload_n 2, 1), (49, .ifCond .eq 9, 3), (52, .iload_n 2, 1), (53, .bipush 7, 2), (55, .if_icmp .ne 7, 3), (58, .iconst 1, 1), (59, .goto 4, 3), (62, .iconst 2, 1), (63, .iadd, 1), (64, .putfield 123, 3), (67, .aload_n 0, 1), (68, .getfield 9, 3), (71, .iconst 0, 1), (72, .invokevirtual 126, 3), (75, .istore 4, 2), (77, .iconst 0, 1), (78, .istore 5, 2), (80, .iload_n 2, 1), (81, .ifCond .eq 14, 3), (84, .iload_n 2, 1), (85, .iconst 5, 1), (86, .if_icmp .eq 9, 3), (89, .iload_n 2, 1), (90, .bipush 7, 2), (92, .if_icmp .ne 37, 3), (95, .iload 4, 2), (97, .bipush 49, 2), (99, .if_icmp .lt 30, 3), (102, .iload 4, 2), (104, .bipush 52, 2), (106, .if_icmp .gt 23, 3), (109, .iload 4, 2), (111, .bipush 48, 2), (113, .isub, 1), (114, .istore 5, 2), (116, .aload_n 0, 1), (117, .getfield 9, 3), (120, .dup, 1), (121, .getfield 123, 3), (124, .iconst 1, 1), (125, .iadd, 1), (126, .putfield 123, 3), (129, .aload_n 0, 1), (130, .getfield 29, 3), (133, .iload_n 3, 1), (134, .iconst 3, 1), (135, .iload_n 2, 1), (136, .invokevirtual 180, 3), (139, .aload_n 0, 1), (140, .getfield 29, 3), (143, .iload_n 3, 1), (144, .bipush 15, 2), (146, .iload 5, 2), (148, .invokevirtual 180, 3), (151, .aload_n 0, 1), (152, .getfield 48, 3), (155, .iconst 0, 1), (156, .putfield 349, 3), (159, .aload_n 0, 1), (160, .getfield 48, 3), (163, .invokevirtual 343, 3), (166, .aload_n 0, 1), (167, .getfield 114, 3), (170, .iconst 1, 1), (171, .if_icmp .ne 20, 3), (174, .aload_n 0, 1), (175, .getfield 19, 3), (178, .aload_n 0, 1), (179, .getfield 48, 3), (182, .getfield 352, 3), (185, .iload_n 2, 1), (186, .iload 5, 2), (188, .invokevirtual 355, 3), (191, .return_, 1)]
set_option maxRecDepth 20000 in
theorem il_X4_readBar_ok : ∀ x ∈ il_X4_readBar, decode cX4_readBar x.1 = .ok x.2 := by decide +kernel
abbrev me_X4_readBar : Me := (RX4, il_X4_readBar, 6, none, xRoom 3, [])
def w_X4_readBar_191 (n : Nat) (u0 : Mm) (Q : Mm → Prop) : Prop :=
  Q u0
def w_X4_readBar_129 (n : Nat) (x2 : Int32) (x3 : Int32) (x5 : Int32) (u0 : Mm) (Q : Mm → Prop) : Prop :=
  w_X6_put n x3 (3 : Int32) x2 u0 (fun u1 =>
  w_X6_put n x3 (15 : Int32) x5 u1 (fun u2 =>
  mlet (setI u2 (u2.2.2 2) 5 (0 : Int32)) fun u3 =>
  w_X8_clearMarks n (u3.2.2 2) u3 (fun u4 =>
  (¬ (u4.1 38 9) = (1 : Int32) → w_X4_readBar_191 n u4 Q) ∧
  ((u4.1 38 9) = (1 : Int32) → w_X7_tellGap n (u4.1 (u4.2.2 2) 4) x2 x5 u4 (fun u5 =>
  w_X4_readBar_191 n u5 Q)))))
def w_X4_readBar_95 (n : Nat) (x2 : Int32) (x3 : Int32) (x4 : Int32) (x5 : Int32) (u0 : Mm) (Q : Mm → Prop) : Prop :=
  (x4 < (49 : Int32) → w_X4_readBar_129 n x2 x3 x5 u0 Q) ∧
  (¬ x4 < (49 : Int32) → ((52 : Int32) < x4 → w_X4_readBar_129 n x2 x3 x5 u0 Q) ∧
  (¬ (52 : Int32) < x4 → ilet (x4 - (48 : Int32)) fun y1 =>
  mlet (setI u0 33 2 ((u0.1 33 2) + (1 : Int32))) fun u1 =>
  w_X4_readBar_129 n x2 x3 y1 u1 Q))
def w_X4_readBar_63 (n : Nat) (x2 : Int32) (x3 : Int32) (t0 : Int32) (t1 : Int32) (u0 : Mm) (Q : Mm → Prop) : Prop :=
  mlet (setI u0 33 2 (t1 + t0)) fun u1 =>
  w_X5_peek n (0 : Int32) u1 (fun r1 u2 =>
  (x2 = 0 → w_X4_readBar_95 n x2 x3 r1 (0 : Int32) u2 Q) ∧
  (¬ x2 = 0 → (x2 = (5 : Int32) → w_X4_readBar_95 n x2 x3 r1 (0 : Int32) u2 Q) ∧
  (¬ x2 = (5 : Int32) → (¬ x2 = (7 : Int32) → w_X4_readBar_129 n x2 x3 (0 : Int32) u2 Q) ∧
  (x2 = (7 : Int32) → w_X4_readBar_95 n x2 x3 r1 (0 : Int32) u2 Q))))
def w_X4_readBar_58 (n : Nat) (x2 : Int32) (x3 : Int32) (t0 : Int32) (u0 : Mm) (Q : Mm → Prop) : Prop :=
  w_X4_readBar_63 n x2 x3 (1 : Int32) t0 u0 Q
def w_X4_readBar (n : Nat) (u0 : Mm) (Q : Mm → Prop) : Prop :=
  ilet (u0.1 33 2) fun y1 =>
  w_X5_peek n (0 : Int32) u0 (fun r1 u1 =>
  w_X5_peek n (1 : Int32) u1 (fun r2 u2 =>
  w_X4_barSort n r1 r2 u2 (fun r3 u3 =>
  w_X4_addThing n (4 : Int32) y1 u3 (fun r4 u4 =>
  (0 ≤ r4 → (r3 = 0 → w_X4_readBar_58 n r3 r4 (u4.1 33 2) u4 Q) ∧
  (¬ r3 = 0 → (¬ r3 = (7 : Int32) → w_X4_readBar_63 n r3 r4 (2 : Int32) (u4.1 33 2) u4 Q) ∧
  (r3 = (7 : Int32) → w_X4_readBar_58 n r3 r4 (u4.1 33 2) u4 Q))) ∧
  (¬ 0 ≤ r4 → Q u4)))))
set_option maxRecDepth 20000 in
theorem s_X4_readBar_191 {g : Gb} (hg : xInj g) {n : Nat} {Q : Mm → Prop} {u0 : Mm} (h : w_X4_readBar_191 n  u0 Q) : xE g me_X4_readBar (pV g Q noT) 191 [] [] u0 := by
  unfold w_X4_readBar_191 at h
  exact e_vret (k := 99) rfl rfl (Or.inl ⟨rfl, h⟩)
set_option maxRecDepth 20000 in
theorem s_X4_readBar_129 {g : Gb} (hg : xInj g) {n : Nat} {Q : Mm → Prop} {x2 : Int32} {x3 : Int32} {x5 : Int32} {u0 : Mm} (h : w_X4_readBar_129 n x2 x3 x5 u0 Q) : xE g me_X4_readBar (pV g Q noT) 129 [(0, .ref (gR g 38)), (2, .int x2), (3, .int x3), (5, .int x5)] [] u0 := by
  unfold w_X4_readBar_129 at h
  refine e_aload_n (k := 68) (i := 0) rfl rfl 0 rfl ?_
  refine e_getC (k := 69) rfl f_X4_29 rfl rfl ?_
  refine e_iload_n (k := 70) (i := 3) rfl rfl 2 rfl ?_
  refine e_iconst (k := 71) (v := (3 : Int32)) rfl (by decide) ?_
  refine e_iload_n (k := 72) (i := 2) rfl rfl 1 rfl ?_
  refine e_callVv (k := 73) (q := 36) (As := [.int x3, .int (3 : Int32), .int x2]) (rest := []) rfl (c_X6_put (g := g) hg (n := n) h) m_X6_put i_X6_put l_X4_180 rfl ⟨_, rfl, rfl⟩ rfl rfl (Nat.le_of_ble_eq_true rfl) ⟨by decide, by decide, rfl, rfl⟩ (fun _ h => h.elim) (fun u1 h => ?_)
  refine e_aload_n (k := 74) (i := 0) rfl rfl 0 rfl ?_
  refine e_getC (k := 75) rfl f_X4_29 rfl rfl ?_
  refine e_iload_n (k := 76) (i := 3) rfl rfl 2 rfl ?_
  refine e_bipush (k := 77) (v := (15 : Int32)) rfl (by decide) ?_
  refine e_iload (k := 78) (i := 5) rfl 3 rfl ?_
  refine e_callVv (k := 79) (q := 36) (As := [.int x3, .int (15 : Int32), .int x5]) (rest := []) rfl (c_X6_put (g := g) hg (n := n) h) m_X6_put i_X6_put l_X4_180 rfl ⟨_, rfl, rfl⟩ rfl rfl (Nat.le_of_ble_eq_true rfl) ⟨by decide, by decide, rfl, rfl⟩ (fun _ h => h.elim) (fun u2 h => ?_)
  refine e_aload_n (k := 80) (i := 0) rfl rfl 0 rfl ?_
  refine e_getP (k := 81) rfl f_X4_48 rfl rfl (fun ty1 => ?_)
  refine e_iconst (k := 82) (v := (0 : Int32)) rfl (by decide) ?_
  refine e_putZ (k := 83) rfl fg_X4_349 ty1.2.2 rfl (Or.inl rfl) ?_
  refine e_mlet h (fun u3 h => ?_)
  refine e_aload_n (k := 84) (i := 0) rfl rfl 0 rfl ?_
  refine e_getP (k := 85) rfl f_X4_48 rfl rfl (fun ty2 => ?_)
  refine e_callVv (k := 86) (q := (u3.2.2 2)) (As := []) (rest := []) rfl (c_X8_clearMarks (g := g) hg (n := n) ty2.2.2 h) m_X8_clearMarks i_X8_clearMarks l_X4_343 ty2.2.2 ⟨_, rfl, rfl⟩ rfl rfl (Nat.le_of_ble_eq_true rfl) ⟨by decide, by decide, rfl, rfl⟩ (fun _ h => h.elim) (fun u4 h => ?_)
  refine e_aload_n (k := 87) (i := 0) rfl rfl 0 rfl ?_
  refine e_getI (k := 88) rfl f_X4_114 rfl rfl ?_
  refine e_iconst (k := 89) (v := (1 : Int32)) rfl (by decide) ?_
  refine e_icmp_ne (k := 90) (tgt := 191) rfl (by decide) (fun z => ?_) (fun z => ?_)
  · have h := h.1 z
    refine e_sub (lv' := []) [] rfl ?_
    exact s_X4_readBar_191 hg h
  · have h := h.2 z
    refine e_aload_n (k := 91) (i := 0) rfl rfl 0 rfl ?_
    refine e_getC (k := 92) rfl f_X4_19 rfl rfl ?_
    refine e_aload_n (k := 93) (i := 0) rfl rfl 0 rfl ?_
    refine e_getP (k := 94) rfl f_X4_48 rfl rfl (fun ty3 => ?_)
    refine e_getI (k := 95) rfl f_X4_352 ty3.2.2 rfl ?_
    refine e_iload_n (k := 96) (i := 2) rfl rfl 1 rfl ?_
    refine e_iload (k := 97) (i := 5) rfl 3 rfl ?_
    refine e_callVv (k := 98) (q := 35) (As := [.int (u4.1 (u4.2.2 2) 4), .int x2, .int x5]) (rest := []) rfl (c_X7_tellGap (g := g) hg (n := n) h) m_X7_tellGap i_X7_tellGap l_X4_355 rfl ⟨_, rfl, rfl⟩ rfl rfl (Nat.le_of_ble_eq_true rfl) ⟨by decide, by decide, rfl, rfl⟩ (fun _ h => h.elim) (fun u5 h => ?_)
    refine e_sub (lv' := []) [] rfl ?_
    exact s_X4_readBar_191 hg h
set_option maxRecDepth 20000 in
theorem s_X4_readBar_95 {g : Gb} (hg : xInj g) {n : Nat} {Q : Mm → Prop} {x2 : Int32} {x3 : Int32} {x4 : Int32} {x5 : Int32} {u0 : Mm} (h : w_X4_readBar_95 n x2 x3 x4 x5 u0 Q) : xE g me_X4_readBar (pV g Q noT) 95 [(0, .ref (gR g 38)), (2, .int x2), (3, .int x3), (4, .int x4), (5, .int x5)] [] u0 := by
  unfold w_X4_readBar_95 at h
  refine e_iload (k := 51) (i := 4) rfl 3 rfl ?_
  refine e_bipush (k := 52) (v := (49 : Int32)) rfl (by decide) ?_
  refine e_icmp_lt (k := 53) (tgt := 129) rfl (by decide) (fun z => ?_) (fun z => ?_)
  · have h := h.1 z
    refine e_sub (lv' := [(0, .ref (gR g 38)), (2, .int x2), (3, .int x3), (5, .int x5)]) [0, 1, 2, 4] rfl ?_
    exact s_X4_readBar_129 hg h
  · have h := h.2 z
    refine e_iload (k := 54) (i := 4) rfl 3 rfl ?_
    refine e_bipush (k := 55) (v := (52 : Int32)) rfl (by decide) ?_
    refine e_icmp_gt (k := 56) (tgt := 129) rfl (by decide) (fun z => ?_) (fun z => ?_)
    · have h := h.1 z
      refine e_sub (lv' := [(0, .ref (gR g 38)), (2, .int x2), (3, .int x3), (5, .int x5)]) [0, 1, 2, 4] rfl ?_
      exact s_X4_readBar_129 hg h
    · have h := h.2 z
      refine e_iload (k := 57) (i := 4) rfl 3 rfl ?_
      refine e_bipush (k := 58) (v := (48 : Int32)) rfl (by decide) ?_
      refine e_isub (k := 59) rfl ?_
      refine e_ilet h (fun y1 h => ?_)
      refine e_istore (k := 60) (i := 5) (lv' := [(0, .ref (gR g 38)), (2, .int x2), (3, .int x3), (4, .int x4), (5, .int y1)]) rfl (by decide) [1, 2, 3, 4, 0] rfl ?_
      refine e_aload_n (k := 61) (i := 0) rfl rfl 0 rfl ?_
      refine e_getC (k := 62) rfl f_X4_9 rfl rfl ?_
      refine e_dup (k := 63) rfl rfl ?_
      refine e_getI (k := 64) rfl f_X4_123 rfl rfl ?_
      refine e_iconst (k := 65) (v := (1 : Int32)) rfl (by decide) ?_
      refine e_iadd (k := 66) rfl ?_
      refine e_putI (k := 67) rfl fg_X4_123 rfl rfl ?_
      refine e_mlet h (fun u1 h => ?_)
      refine e_sub (lv' := [(0, .ref (gR g 38)), (2, .int x2), (3, .int x3), (5, .int y1)]) [0, 1, 2, 4] rfl ?_
      exact s_X4_readBar_129 hg h
set_option maxRecDepth 20000 in
theorem s_X4_readBar_63 {g : Gb} (hg : xInj g) {n : Nat} {Q : Mm → Prop} {x2 : Int32} {x3 : Int32} {t0 : Int32} {t1 : Int32} {u0 : Mm} (h : w_X4_readBar_63 n x2 x3 t0 t1 u0 Q) : xE g me_X4_readBar (pV g Q noT) 63 [(0, .ref (gR g 38)), (2, .int x2), (3, .int x3)] [.int t0, .int t1, .ref (gR g 33)] u0 := by
  unfold w_X4_readBar_63 at h
  refine e_iadd (k := 34) rfl ?_
  refine e_putI (k := 35) rfl fg_X4_123 rfl rfl ?_
  refine e_mlet h (fun u1 h => ?_)
  refine e_aload_n (k := 36) (i := 0) rfl rfl 0 rfl ?_
  refine e_getC (k := 37) rfl f_X4_9 rfl rfl ?_
  refine e_iconst (k := 38) (v := (0 : Int32)) rfl (by decide) ?_
  refine e_callVi (k := 39) (q := 33) (As := [.int (0 : Int32)]) (rest := []) rfl (c_X5_peek (g := g) hg (n := n) h) m_X5_peek i_X5_peek l_X4_126 rfl ⟨_, rfl, rfl⟩ rfl rfl (Nat.le_of_ble_eq_true rfl) ⟨by decide, by decide, rfl, rfl⟩ (fun _ h => h.elim) (fun r1 u2 h => ?_)
  refine e_istore (k := 40) (i := 4) (lv' := [(0, .ref (gR g 38)), (2, .int x2), (3, .int x3), (4, .int r1)]) rfl (by decide) [1, 2, 3, 0] rfl ?_
  refine e_iconst (k := 41) (v := (0 : Int32)) rfl (by decide) ?_
  refine e_istore (k := 42) (i := 5) (lv' := [(0, .ref (gR g 38)), (2, .int x2), (3, .int x3), (4, .int r1), (5, .int (0 : Int32))]) rfl (by decide) [1, 2, 3, 4, 0] rfl ?_
  refine e_iload_n (k := 43) (i := 2) rfl rfl 1 rfl ?_
  refine e_if_eq (k := 44) (tgt := 95) rfl (by decide) (fun z => ?_) (fun z => ?_)
  · have h := h.1 z
    exact s_X4_readBar_95 hg h
  · have h := h.2 z
    refine e_iload_n (k := 45) (i := 2) rfl rfl 1 rfl ?_
    refine e_iconst (k := 46) (v := (5 : Int32)) rfl (by decide) ?_
    refine e_icmp_eq (k := 47) (tgt := 95) rfl (by decide) (fun z => ?_) (fun z => ?_)
    · have h := h.1 z
      exact s_X4_readBar_95 hg h
    · have h := h.2 z
      refine e_iload_n (k := 48) (i := 2) rfl rfl 1 rfl ?_
      refine e_bipush (k := 49) (v := (7 : Int32)) rfl (by decide) ?_
      refine e_icmp_ne (k := 50) (tgt := 129) rfl (by decide) (fun z => ?_) (fun z => ?_)
      · have h := h.1 z
        refine e_sub (lv' := [(0, .ref (gR g 38)), (2, .int x2), (3, .int x3), (5, .int (0 : Int32))]) [0, 1, 2, 4] rfl ?_
        exact s_X4_readBar_129 hg h
      · have h := h.2 z
        exact s_X4_readBar_95 hg h
set_option maxRecDepth 20000 in
theorem s_X4_readBar_58 {g : Gb} (hg : xInj g) {n : Nat} {Q : Mm → Prop} {x2 : Int32} {x3 : Int32} {t0 : Int32} {u0 : Mm} (h : w_X4_readBar_58 n x2 x3 t0 u0 Q) : xE g me_X4_readBar (pV g Q noT) 58 [(0, .ref (gR g 38)), (2, .int x2), (3, .int x3)] [.int t0, .ref (gR g 33)] u0 := by
  unfold w_X4_readBar_58 at h
  refine e_iconst (k := 31) (v := (1 : Int32)) rfl (by decide) ?_
  refine e_goto (k := 32) (tgt := 63) rfl (by decide) ?_
  exact s_X4_readBar_63 hg h
set_option maxRecDepth 20000 in
theorem c_X4_readBar {g : Gb} (hg : xInj g) {n : Nat} {u0 : Mm} {Q : Mm → Prop} (h : w_X4_readBar n u0 Q) : xMet (gL g) yX4_readBar (xws yX4_readBar cX4_readBar 6 none) (xRoom 3) (xPc g [.ref (gR g 38)] u0) (xQ g (pV g Q noT)) (xA g) := by
  refine xbody (il := il_X4_readBar) hg il_X4_readBar_ok m_X4_readBar (Nat.le_of_ble_eq_true rfl) ?_
  show xE g me_X4_readBar (pV g Q noT) 0 [(0, .ref (gR g 38))] [] u0
  unfold w_X4_readBar at h
  refine e_aload_n (k := 0) (i := 0) rfl rfl 0 rfl ?_
  refine e_getC (k := 1) rfl f_X4_9 rfl rfl ?_
  refine e_getI (k := 2) rfl f_X4_123 rfl rfl ?_
  refine e_ilet h (fun y1 h => ?_)
  refine e_istore_n (k := 3) (i := 1) (lv' := [(0, .ref (gR g 38)), (1, .int y1)]) rfl rfl (by decide) [1, 0] rfl ?_
  refine e_aload_n (k := 4) (i := 0) rfl rfl 0 rfl ?_
  refine e_getC (k := 5) rfl f_X4_9 rfl rfl ?_
  refine e_iconst (k := 6) (v := (0 : Int32)) rfl (by decide) ?_
  refine e_callVi (k := 7) (q := 33) (As := [.int (0 : Int32)]) (rest := []) rfl (c_X5_peek (g := g) hg (n := n) h) m_X5_peek i_X5_peek l_X4_126 rfl ⟨_, rfl, rfl⟩ rfl rfl (Nat.le_of_ble_eq_true rfl) ⟨by decide, by decide, rfl, rfl⟩ (fun _ h => h.elim) (fun r1 u1 h => ?_)
  refine e_aload_n (k := 8) (i := 0) rfl rfl 0 rfl ?_
  refine e_getC (k := 9) rfl f_X4_9 rfl rfl ?_
  refine e_iconst (k := 10) (v := (1 : Int32)) rfl (by decide) ?_
  refine e_callVi (k := 11) (q := 33) (As := [.int (1 : Int32)]) (rest := [.int r1]) rfl (c_X5_peek (g := g) hg (n := n) h) m_X5_peek i_X5_peek l_X4_126 rfl ⟨_, rfl, rfl⟩ rfl rfl (Nat.le_of_ble_eq_true rfl) ⟨by decide, by decide, rfl, rfl⟩ (fun _ h => h.elim) (fun r2 u2 h => ?_)
  refine e_callSi (k := 12) (As := [.int r1, .int r2]) (rest := []) rfl (c_X4_barSort (g := g) hg (n := n) h) m_X4_barSort st_X4_barSort l_X4_249 rfl rfl (Nat.le_of_ble_eq_true rfl) ⟨by decide, by decide, rfl, rfl⟩ (fun _ h => h.elim) (fun r3 u3 h => ?_)
  refine e_istore_n (k := 13) (i := 2) (lv' := [(0, .ref (gR g 38)), (1, .int y1), (2, .int r3)]) rfl rfl (by decide) [1, 2, 0] rfl ?_
  refine e_aload_n (k := 14) (i := 0) rfl rfl 0 rfl ?_
  refine e_iconst (k := 15) (v := (4 : Int32)) rfl (by decide) ?_
  refine e_iload_n (k := 16) (i := 1) rfl rfl 1 rfl ?_
  refine e_callVi (k := 17) (q := 38) (As := [.int (4 : Int32), .int y1]) (rest := []) rfl (c_X4_addThing (g := g) hg (n := n) h) m_X4_addThing i_X4_addThing l_X4_177 rfl ⟨_, rfl, rfl⟩ rfl rfl (Nat.le_of_ble_eq_true rfl) ⟨by decide, by decide, rfl, rfl⟩ (fun _ h => h.elim) (fun r4 u4 h => ?_)
  refine e_istore_n (k := 18) (i := 3) (lv' := [(0, .ref (gR g 38)), (1, .int y1), (2, .int r3), (3, .int r4)]) rfl rfl (by decide) [1, 2, 3, 0] rfl ?_
  refine e_iload_n (k := 19) (i := 3) rfl rfl 3 rfl ?_
  refine e_if_ge (k := 20) (tgt := 40) rfl (by decide) (fun z => ?_) (fun z => ?_)
  · have h := h.1 z
    refine e_aload_n (k := 22) (i := 0) rfl rfl 0 rfl ?_
    refine e_getC (k := 23) rfl f_X4_9 rfl rfl ?_
    refine e_dup (k := 24) rfl rfl ?_
    refine e_getI (k := 25) rfl f_X4_123 rfl rfl ?_
    refine e_iload_n (k := 26) (i := 2) rfl rfl 2 rfl ?_
    refine e_if_eq (k := 27) (tgt := 58) rfl (by decide) (fun z => ?_) (fun z => ?_)
    · have h := h.1 z
      refine e_sub (lv' := [(0, .ref (gR g 38)), (2, .int r3), (3, .int r4)]) [0, 2, 3] rfl ?_
      exact s_X4_readBar_58 hg h
    · have h := h.2 z
      refine e_iload_n (k := 28) (i := 2) rfl rfl 2 rfl ?_
      refine e_bipush (k := 29) (v := (7 : Int32)) rfl (by decide) ?_
      refine e_icmp_ne (k := 30) (tgt := 62) rfl (by decide) (fun z => ?_) (fun z => ?_)
      · have h := h.1 z
        refine e_iconst (k := 33) (v := (2 : Int32)) rfl (by decide) ?_
        refine e_sub (lv' := [(0, .ref (gR g 38)), (2, .int r3), (3, .int r4)]) [0, 2, 3] rfl ?_
        exact s_X4_readBar_63 hg h
      · have h := h.2 z
        refine e_sub (lv' := [(0, .ref (gR g 38)), (2, .int r3), (3, .int r4)]) [0, 2, 3] rfl ?_
        exact s_X4_readBar_58 hg h
  · have h := h.2 z
    exact e_vret (k := 21) rfl rfl (Or.inl ⟨rfl, h⟩)
def il_X4_readDigit : List (Nat × Instr × Nat) := [(0, .aload_n 0, 1), (1, .getfield 9, 3), (4, .invokevirtual 310, 3), (7, .ifCond .ne 5, 3), (10, .iload_n 1, 1), (11, .ireturn, 1), (12, .aload_n 0, 1), (13, .getfield 9, 3), (16, .iconst 0, 1), (17, .invokevirtual 126, 3), (20, .bipush 48, 2), (22, .isub, 1), (23, .istore_n 2, 1), (24, .iload_n 2, 1), (25, .ifCond .ne 18, 3), (28, .aload_n 0, 1), (29, .getfield 9, 3), (32, .iconst 1, 1), (33, .aload_n 0, 1), (34, .getfield 9, 3), (37, .getfield 123, 3), (40, .invokevirtual 93, 3), (43, .aload_n 0, 1), (44, .getfield 9, 3), (47, .dup, 1), (48, .getfield 123, 3), (51, .iconst 1, 1), (52, .iadd, 1), (53, .putfield 123, 3), (56, .iload_n 2, 1), (57, .ireturn, 1)]
set_option maxRecDepth 20000 in
theorem il_X4_readDigit_ok : ∀ x ∈ il_X4_readDigit, decode cX4_readDigit x.1 = .ok x.2 := by decide +kernel
abbrev me_X4_readDigit : Me := (RX4, il_X4_readDigit, 3, (some .int), xRoom 3, [])
def w_X4_readDigit_43 (n : Nat) (x2 : Int32) (u0 : Mm) (Q : Int32 → Mm → Prop) : Prop :=
  mlet (setI u0 33 2 ((u0.1 33 2) + (1 : Int32))) fun u1 =>
  Q x2 u1
def w_X4_readDigit (n : Nat) (a0 : Int32) (u0 : Mm) (Q : Int32 → Mm → Prop) : Prop :=
  w_X5_digitHere n u0 (fun r1 u1 =>
  (¬ r1 = 0 → w_X5_peek n (0 : Int32) u1 (fun r2 u2 =>
  ilet (r2 - (48 : Int32)) fun y1 =>
  (¬ y1 = 0 → w_X4_readDigit_43 n y1 u2 Q) ∧
  (y1 = 0 → w_X5_fail n (1 : Int32) (u2.1 33 2) u2 (fun u3 =>
  w_X4_readDigit_43 n y1 u3 Q)))) ∧
  (r1 = 0 → Q a0 u1))
set_option maxRecDepth 20000 in
theorem s_X4_readDigit_43 {g : Gb} (hg : xInj g) {n : Nat} {Q : Int32 → Mm → Prop} {x2 : Int32} {u0 : Mm} (h : w_X4_readDigit_43 n x2 u0 Q) : xE g me_X4_readDigit (pI g Q noT) 43 [(0, .ref (gR g 38)), (2, .int x2)] [] u0 := by
  unfold w_X4_readDigit_43 at h
  refine e_aload_n (k := 22) (i := 0) rfl rfl 0 rfl ?_
  refine e_getC (k := 23) rfl f_X4_9 rfl rfl ?_
  refine e_dup (k := 24) rfl rfl ?_
  refine e_getI (k := 25) rfl f_X4_123 rfl rfl ?_
  refine e_iconst (k := 26) (v := (1 : Int32)) rfl (by decide) ?_
  refine e_iadd (k := 27) rfl ?_
  refine e_putI (k := 28) rfl fg_X4_123 rfl rfl ?_
  refine e_mlet h (fun u1 h => ?_)
  refine e_iload_n (k := 29) (i := 2) rfl rfl 1 rfl ?_
  exact e_iret (k := 30) rfl rfl (Or.inl ⟨_, rfl, h⟩)
set_option maxRecDepth 20000 in
theorem c_X4_readDigit {g : Gb} (hg : xInj g) {n : Nat} {a0 : Int32} {u0 : Mm} {Q : Int32 → Mm → Prop} (h : w_X4_readDigit n a0 u0 Q) : xMet (gL g) yX4_readDigit (xws yX4_readDigit cX4_readDigit 3 (some .int)) (xRoom 3) (xPc g [.ref (gR g 38), .int a0] u0) (xQ g (pI g Q noT)) (xA g) := by
  refine xbody (il := il_X4_readDigit) hg il_X4_readDigit_ok m_X4_readDigit (Nat.le_of_ble_eq_true rfl) ?_
  show xE g me_X4_readDigit (pI g Q noT) 0 [(0, .ref (gR g 38)), (1, .int a0)] [] u0
  unfold w_X4_readDigit at h
  refine e_aload_n (k := 0) (i := 0) rfl rfl 0 rfl ?_
  refine e_getC (k := 1) rfl f_X4_9 rfl rfl ?_
  refine e_callVi (k := 2) (q := 33) (As := []) (rest := []) rfl (c_X5_digitHere (g := g) hg (n := n) h) m_X5_digitHere i_X5_digitHere l_X4_310 rfl ⟨_, rfl, rfl⟩ rfl rfl (Nat.le_of_ble_eq_true rfl) ⟨by decide, by decide, rfl, rfl⟩ (fun _ h => h.elim) (fun r1 u1 h => ?_)
  refine e_if_ne (k := 3) (tgt := 12) rfl (by decide) (fun z => ?_) (fun z => ?_)
  · have h := h.1 z
    refine e_aload_n (k := 6) (i := 0) rfl rfl 0 rfl ?_
    refine e_getC (k := 7) rfl f_X4_9 rfl rfl ?_
    refine e_iconst (k := 8) (v := (0 : Int32)) rfl (by decide) ?_
    refine e_callVi (k := 9) (q := 33) (As := [.int (0 : Int32)]) (rest := []) rfl (c_X5_peek (g := g) hg (n := n) h) m_X5_peek i_X5_peek l_X4_126 rfl ⟨_, rfl, rfl⟩ rfl rfl (Nat.le_of_ble_eq_true rfl) ⟨by decide, by decide, rfl, rfl⟩ (fun _ h => h.elim) (fun r2 u2 h => ?_)
    refine e_bipush (k := 10) (v := (48 : Int32)) rfl (by decide) ?_
    refine e_isub (k := 11) rfl ?_
    refine e_ilet h (fun y1 h => ?_)
    refine e_istore_n (k := 12) (i := 2) (lv' := [(0, .ref (gR g 38)), (1, .int a0), (2, .int y1)]) rfl rfl (by decide) [1, 2, 0] rfl ?_
    refine e_iload_n (k := 13) (i := 2) rfl rfl 2 rfl ?_
    refine e_if_ne (k := 14) (tgt := 43) rfl (by decide) (fun z => ?_) (fun z => ?_)
    · have h := h.1 z
      refine e_sub (lv' := [(0, .ref (gR g 38)), (2, .int y1)]) [0, 2] rfl ?_
      exact s_X4_readDigit_43 hg h
    · have h := h.2 z
      refine e_aload_n (k := 15) (i := 0) rfl rfl 0 rfl ?_
      refine e_getC (k := 16) rfl f_X4_9 rfl rfl ?_
      refine e_iconst (k := 17) (v := (1 : Int32)) rfl (by decide) ?_
      refine e_aload_n (k := 18) (i := 0) rfl rfl 0 rfl ?_
      refine e_getC (k := 19) rfl f_X4_9 rfl rfl ?_
      refine e_getI (k := 20) rfl f_X4_123 rfl rfl ?_
      refine e_callVv (k := 21) (q := 33) (As := [.int (1 : Int32), .int (u2.1 33 2)]) (rest := []) rfl (c_X5_fail (g := g) hg (n := n) h) m_X5_fail i_X5_fail l_X4_93 rfl ⟨_, rfl, rfl⟩ rfl rfl (Nat.le_of_ble_eq_true rfl) ⟨by decide, by decide, rfl, rfl⟩ (fun _ h => h.elim) (fun u3 h => ?_)
      refine e_sub (lv' := [(0, .ref (gR g 38)), (2, .int y1)]) [0, 2] rfl ?_
      exact s_X4_readDigit_43 hg h
  · have h := h.2 z
    refine e_iload_n (k := 4) (i := 1) rfl rfl 1 rfl ?_
    exact e_iret (k := 5) rfl rfl (Or.inl ⟨_, rfl, h⟩)
def il_X4_readLength : List (Nat × Instr × Nat) := [(0, .aload_n 0, 1), (1, .iconst 1, 1), (2, .putfield 265, 3), (5, .aload_n 0, 1), (6, .iconst 1, 1), (7, .putfield 268, 3), (10, .aload_n 0, 1), (11, .getfield 9, 3), (14, .invokevirtual 310, 3), (17, .istore_n 1, 1), (18, .iload_n 1, 1), (19, .ifCond .eq 17, 3), (22, .aload_n 0, 1), (23, .aload_n 0, 1), (24, .getfield 9, 3), (27, .bipush 64, 2), (29, .iconst 0, 1), (30, .invokevirtual 133, 3), (33, .putfield 265, 3), (36, .aload_n 0, 1), (37, .getfield 9, 3), (40, .getfield 78, 3), (43, .ifCond .ne 16, 3), (46, .aload_n 0, 1), (47, .getfield 9, 3), (50, .iconst 0, 1), (51, .invokevirtual 126, 3), (54, .bipush 47, 2), (56, .if_icmp .eq 4, 3), (59, .return_, 1), (60, .aload_n 0, 1), (61, .getfield 9, 3), (64, .dup, 1), (65, .getfield 123, 3), (68, .iconst 1, 1), (69, .iadd, 1), (70, .putfield 123, 3), (73, .aload_n 0, 1), (74, .getfield 9, 3), (77, .invokevirtual 310, 3), (80, .ifCond .eq 18, 3), (83, .aload_n 0, 1), (84, .aload_n 0, 1), (85, .getfield 9, 3), (88, .bipush 64, 2), (90, .iconst 1, 1), (91, .invokevirtual 133, 3), (94, .putfield 268, 3), (97, .return_, 1), (98, .aload_n 0, 1), (99, .iconst 2, 1), (100, .putfield 268, 3), (103, .iload_n 1, 1), (104, .ifCond .ne 51, 3), (107, .aload_n 0, 1), (108, .getfield 268, 3), (111, .bipush 64, 2), (113, .if_icmp .ge 42, 3), (116, .aload_n 0, 1), (117, .getfield 9, 3), (120, .iconst 0, 1), (121, .invokevirtual 126, 3), (124, .bipush 47, 2), (126, .if_icmp .ne 29, 3), (129, .aload_n 0, 1), (130, .getfield 9, 3), (133, .dup, 1), (134, .getfield 123, 3), (137, .iconst 1, 1), (138, .iadd, 1), (139, .putfield 123, 3), (142, .aload_n 0, 1), (143, .aload_n 0, 1), (144, .getfield 268, 3), (147, .iconst 2, 1), (148, .imul, 1), (149, .putfield 268, 3), (152, .goto (-49), 3), (155, .iload_n 1, 1), (156, .ifCond .ne 31, 3), (159, .aload_n 0, 1), (160, .getfield 9, 3), (163, .iconst 0, 1), (164, .invokevirtual 126, 3), (167, .bipush 47, 2), (169, .if_icmp .ne 18, 3), (172, .aload_n 0, 1), (173, .getfield 9, 3), (176, .iconst 1, 1), (177, .aload_n 0, 1), (178, .getfield 9, 3), (181, .getfield 123, 3), (184, .invokevirtual 93, 3), (187, .return_, 1)]
set_option maxRecDepth 20000 in
theorem il_X4_readLength_ok : ∀ x ∈ il_X4_readLength, decode cX4_readLength x.1 = .ok x.2 := by decide +kernel
abbrev me_X4_readLength : Me := (RX4, il_X4_readLength, 2, none, xRoom 3, [])
def w_X4_readLength_187 (n : Nat) (u0 : Mm) (Q : Mm → Prop) : Prop :=
  Q u0
def w_X4_readLength_155 (n : Nat) (x1 : Int32) (u0 : Mm) (Q : Mm → Prop) : Prop :=
  (¬ x1 = 0 → w_X4_readLength_187 n u0 Q) ∧
  (x1 = 0 → w_X5_peek n (0 : Int32) u0 (fun r1 u1 =>
  (¬ r1 = (47 : Int32) → w_X4_readLength_187 n u1 Q) ∧
  (r1 = (47 : Int32) → w_X5_fail n (1 : Int32) (u1.1 33 2) u1 (fun u2 =>
  w_X4_readLength_187 n u2 Q))))
def w_X4_readLength_103 (n : Nat) (Q : Mm → Prop) : Nat → Int32 → Mm → Prop
  | 0, _, _ => False
  | k + 1, x1, u0 =>
  (¬ x1 = 0 → w_X4_readLength_155 n x1 u0 Q) ∧
  (x1 = 0 → ((64 : Int32) ≤ (u0.1 38 8) → w_X4_readLength_155 n x1 u0 Q) ∧
  (¬ (64 : Int32) ≤ (u0.1 38 8) → w_X5_peek n (0 : Int32) u0 (fun r1 u1 =>
  (¬ r1 = (47 : Int32) → w_X4_readLength_155 n x1 u1 Q) ∧
  (r1 = (47 : Int32) → mlet (setI u1 33 2 ((u1.1 33 2) + (1 : Int32))) fun u2 =>
  mlet (setI u2 38 8 ((u2.1 38 8) * (2 : Int32))) fun u3 =>
  (w_X4_readLength_103 n Q k) x1 u3))))
def w_X4_readLength_59 (n : Nat) (u0 : Mm) (Q : Mm → Prop) : Prop :=
  Q u0
def w_X4_readLength_36 (n : Nat) (x1 : Int32) (u0 : Mm) (Q : Mm → Prop) : Prop :=
  (¬ (u0.1 33 6) = 0 → w_X4_readLength_59 n u0 Q) ∧
  ((u0.1 33 6) = 0 → w_X5_peek n (0 : Int32) u0 (fun r1 u1 =>
  (r1 = (47 : Int32) → mlet (setI u1 33 2 ((u1.1 33 2) + (1 : Int32))) fun u2 =>
  w_X5_digitHere n u2 (fun r2 u3 =>
  (r2 = 0 → mlet (setI u3 38 8 (2 : Int32)) fun u4 =>
  (w_X4_readLength_103 n Q n) x1 u4) ∧
  (¬ r2 = 0 → w_X5_number n (64 : Int32) (1 : Int32) u3 (fun r3 u5 =>
  mlet (setI u5 38 8 r3) fun u6 =>
  Q u6)))) ∧
  (¬ r1 = (47 : Int32) → w_X4_readLength_59 n u1 Q)))
def w_X4_readLength (n : Nat) (u0 : Mm) (Q : Mm → Prop) : Prop :=
  mlet (setI u0 38 7 (1 : Int32)) fun u1 =>
  mlet (setI u1 38 8 (1 : Int32)) fun u2 =>
  w_X5_digitHere n u2 (fun r1 u3 =>
  (r1 = 0 → w_X4_readLength_36 n r1 u3 Q) ∧
  (¬ r1 = 0 → w_X5_number n (64 : Int32) (0 : Int32) u3 (fun r2 u4 =>
  mlet (setI u4 38 7 r2) fun u5 =>
  w_X4_readLength_36 n r1 u5 Q)))
set_option maxRecDepth 20000 in
theorem s_X4_readLength_187 {g : Gb} (hg : xInj g) {n : Nat} {Q : Mm → Prop} {u0 : Mm} (h : w_X4_readLength_187 n  u0 Q) : xE g me_X4_readLength (pV g Q noT) 187 [] [] u0 := by
  unfold w_X4_readLength_187 at h
  exact e_vret (k := 93) rfl rfl (Or.inl ⟨rfl, h⟩)
set_option maxRecDepth 20000 in
theorem s_X4_readLength_155 {g : Gb} (hg : xInj g) {n : Nat} {Q : Mm → Prop} {x1 : Int32} {u0 : Mm} (h : w_X4_readLength_155 n x1 u0 Q) : xE g me_X4_readLength (pV g Q noT) 155 [(0, .ref (gR g 38)), (1, .int x1)] [] u0 := by
  unfold w_X4_readLength_155 at h
  refine e_iload_n (k := 78) (i := 1) rfl rfl 1 rfl ?_
  refine e_if_ne (k := 79) (tgt := 187) rfl (by decide) (fun z => ?_) (fun z => ?_)
  · have h := h.1 z
    refine e_sub (lv' := []) [] rfl ?_
    exact s_X4_readLength_187 hg h
  · have h := h.2 z
    refine e_aload_n (k := 80) (i := 0) rfl rfl 0 rfl ?_
    refine e_getC (k := 81) rfl f_X4_9 rfl rfl ?_
    refine e_iconst (k := 82) (v := (0 : Int32)) rfl (by decide) ?_
    refine e_callVi (k := 83) (q := 33) (As := [.int (0 : Int32)]) (rest := []) rfl (c_X5_peek (g := g) hg (n := n) h) m_X5_peek i_X5_peek l_X4_126 rfl ⟨_, rfl, rfl⟩ rfl rfl (Nat.le_of_ble_eq_true rfl) ⟨by decide, by decide, rfl, rfl⟩ (fun _ h => h.elim) (fun r1 u1 h => ?_)
    refine e_bipush (k := 84) (v := (47 : Int32)) rfl (by decide) ?_
    refine e_icmp_ne (k := 85) (tgt := 187) rfl (by decide) (fun z => ?_) (fun z => ?_)
    · have h := h.1 z
      refine e_sub (lv' := []) [] rfl ?_
      exact s_X4_readLength_187 hg h
    · have h := h.2 z
      refine e_aload_n (k := 86) (i := 0) rfl rfl 0 rfl ?_
      refine e_getC (k := 87) rfl f_X4_9 rfl rfl ?_
      refine e_iconst (k := 88) (v := (1 : Int32)) rfl (by decide) ?_
      refine e_aload_n (k := 89) (i := 0) rfl rfl 0 rfl ?_
      refine e_getC (k := 90) rfl f_X4_9 rfl rfl ?_
      refine e_getI (k := 91) rfl f_X4_123 rfl rfl ?_
      refine e_callVv (k := 92) (q := 33) (As := [.int (1 : Int32), .int (u1.1 33 2)]) (rest := []) rfl (c_X5_fail (g := g) hg (n := n) h) m_X5_fail i_X5_fail l_X4_93 rfl ⟨_, rfl, rfl⟩ rfl rfl (Nat.le_of_ble_eq_true rfl) ⟨by decide, by decide, rfl, rfl⟩ (fun _ h => h.elim) (fun u2 h => ?_)
      refine e_sub (lv' := []) [] rfl ?_
      exact s_X4_readLength_187 hg h
set_option maxRecDepth 20000 in
theorem s_X4_readLength_103 {g : Gb} (hg : xInj g) {n : Nat} {Q : Mm → Prop} : ∀ (k : Nat) (x1 : Int32) (u0 : Mm), w_X4_readLength_103 n Q k x1 u0 → xE g me_X4_readLength (pV g Q noT) 103 [(0, .ref (gR g 38)), (1, .int x1)] [] u0 := by
  intro k
  induction k with
  | zero => intro x1 u0 h; exact h.elim
  | succ k ih =>
    intro x1 u0 h
    unfold w_X4_readLength_103 at h
    refine e_iload_n (k := 52) (i := 1) rfl rfl 1 rfl ?_
    refine e_if_ne (k := 53) (tgt := 155) rfl (by decide) (fun z => ?_) (fun z => ?_)
    · have h := h.1 z
      exact s_X4_readLength_155 hg h
    · have h := h.2 z
      refine e_aload_n (k := 54) (i := 0) rfl rfl 0 rfl ?_
      refine e_getI (k := 55) rfl f_X4_268 rfl rfl ?_
      refine e_bipush (k := 56) (v := (64 : Int32)) rfl (by decide) ?_
      refine e_icmp_ge (k := 57) (tgt := 155) rfl (by decide) (fun z => ?_) (fun z => ?_)
      · have h := h.1 z
        exact s_X4_readLength_155 hg h
      · have h := h.2 z
        refine e_aload_n (k := 58) (i := 0) rfl rfl 0 rfl ?_
        refine e_getC (k := 59) rfl f_X4_9 rfl rfl ?_
        refine e_iconst (k := 60) (v := (0 : Int32)) rfl (by decide) ?_
        refine e_callVi (k := 61) (q := 33) (As := [.int (0 : Int32)]) (rest := []) rfl (c_X5_peek (g := g) hg (n := n) h) m_X5_peek i_X5_peek l_X4_126 rfl ⟨_, rfl, rfl⟩ rfl rfl (Nat.le_of_ble_eq_true rfl) ⟨by decide, by decide, rfl, rfl⟩ (fun _ h => h.elim) (fun r1 u1 h => ?_)
        refine e_bipush (k := 62) (v := (47 : Int32)) rfl (by decide) ?_
        refine e_icmp_ne (k := 63) (tgt := 155) rfl (by decide) (fun z => ?_) (fun z => ?_)
        · have h := h.1 z
          exact s_X4_readLength_155 hg h
        · have h := h.2 z
          refine e_aload_n (k := 64) (i := 0) rfl rfl 0 rfl ?_
          refine e_getC (k := 65) rfl f_X4_9 rfl rfl ?_
          refine e_dup (k := 66) rfl rfl ?_
          refine e_getI (k := 67) rfl f_X4_123 rfl rfl ?_
          refine e_iconst (k := 68) (v := (1 : Int32)) rfl (by decide) ?_
          refine e_iadd (k := 69) rfl ?_
          refine e_putI (k := 70) rfl fg_X4_123 rfl rfl ?_
          refine e_mlet h (fun u2 h => ?_)
          refine e_aload_n (k := 71) (i := 0) rfl rfl 0 rfl ?_
          refine e_aload_n (k := 72) (i := 0) rfl rfl 0 rfl ?_
          refine e_getI (k := 73) rfl f_X4_268 rfl rfl ?_
          refine e_iconst (k := 74) (v := (2 : Int32)) rfl (by decide) ?_
          refine e_imul (k := 75) rfl ?_
          refine e_putI (k := 76) rfl fg_X4_268 rfl rfl ?_
          refine e_mlet h (fun u3 h => ?_)
          refine e_goto (k := 77) (tgt := 103) rfl (by decide) ?_
          exact ih x1 u3 h
set_option maxRecDepth 20000 in
theorem s_X4_readLength_59 {g : Gb} (hg : xInj g) {n : Nat} {Q : Mm → Prop} {u0 : Mm} (h : w_X4_readLength_59 n  u0 Q) : xE g me_X4_readLength (pV g Q noT) 59 [] [] u0 := by
  unfold w_X4_readLength_59 at h
  exact e_vret (k := 29) rfl rfl (Or.inl ⟨rfl, h⟩)
set_option maxRecDepth 20000 in
theorem s_X4_readLength_36 {g : Gb} (hg : xInj g) {n : Nat} {Q : Mm → Prop} {x1 : Int32} {u0 : Mm} (h : w_X4_readLength_36 n x1 u0 Q) : xE g me_X4_readLength (pV g Q noT) 36 [(0, .ref (gR g 38)), (1, .int x1)] [] u0 := by
  unfold w_X4_readLength_36 at h
  refine e_aload_n (k := 19) (i := 0) rfl rfl 0 rfl ?_
  refine e_getC (k := 20) rfl f_X4_9 rfl rfl ?_
  refine e_getI (k := 21) rfl f_X4_78 rfl rfl ?_
  refine e_if_ne (k := 22) (tgt := 59) rfl (by decide) (fun z => ?_) (fun z => ?_)
  · have h := h.1 z
    refine e_sub (lv' := []) [] rfl ?_
    exact s_X4_readLength_59 hg h
  · have h := h.2 z
    refine e_aload_n (k := 23) (i := 0) rfl rfl 0 rfl ?_
    refine e_getC (k := 24) rfl f_X4_9 rfl rfl ?_
    refine e_iconst (k := 25) (v := (0 : Int32)) rfl (by decide) ?_
    refine e_callVi (k := 26) (q := 33) (As := [.int (0 : Int32)]) (rest := []) rfl (c_X5_peek (g := g) hg (n := n) h) m_X5_peek i_X5_peek l_X4_126 rfl ⟨_, rfl, rfl⟩ rfl rfl (Nat.le_of_ble_eq_true rfl) ⟨by decide, by decide, rfl, rfl⟩ (fun _ h => h.elim) (fun r1 u1 h => ?_)
    refine e_bipush (k := 27) (v := (47 : Int32)) rfl (by decide) ?_
    refine e_icmp_eq (k := 28) (tgt := 60) rfl (by decide) (fun z => ?_) (fun z => ?_)
    · have h := h.1 z
      refine e_aload_n (k := 30) (i := 0) rfl rfl 0 rfl ?_
      refine e_getC (k := 31) rfl f_X4_9 rfl rfl ?_
      refine e_dup (k := 32) rfl rfl ?_
      refine e_getI (k := 33) rfl f_X4_123 rfl rfl ?_
      refine e_iconst (k := 34) (v := (1 : Int32)) rfl (by decide) ?_
      refine e_iadd (k := 35) rfl ?_
      refine e_putI (k := 36) rfl fg_X4_123 rfl rfl ?_
      refine e_mlet h (fun u2 h => ?_)
      refine e_aload_n (k := 37) (i := 0) rfl rfl 0 rfl ?_
      refine e_getC (k := 38) rfl f_X4_9 rfl rfl ?_
      refine e_callVi (k := 39) (q := 33) (As := []) (rest := []) rfl (c_X5_digitHere (g := g) hg (n := n) h) m_X5_digitHere i_X5_digitHere l_X4_310 rfl ⟨_, rfl, rfl⟩ rfl rfl (Nat.le_of_ble_eq_true rfl) ⟨by decide, by decide, rfl, rfl⟩ (fun _ h => h.elim) (fun r2 u3 h => ?_)
      refine e_if_eq (k := 40) (tgt := 98) rfl (by decide) (fun z => ?_) (fun z => ?_)
      · have h := h.1 z
        refine e_aload_n (k := 49) (i := 0) rfl rfl 0 rfl ?_
        refine e_iconst (k := 50) (v := (2 : Int32)) rfl (by decide) ?_
        refine e_putI (k := 51) rfl fg_X4_268 rfl rfl ?_
        refine e_mlet h (fun u4 h => ?_)
        exact s_X4_readLength_103 hg n x1 u4 h
      · have h := h.2 z
        refine e_aload_n (k := 41) (i := 0) rfl rfl 0 rfl ?_
        refine e_aload_n (k := 42) (i := 0) rfl rfl 0 rfl ?_
        refine e_getC (k := 43) rfl f_X4_9 rfl rfl ?_
        refine e_bipush (k := 44) (v := (64 : Int32)) rfl (by decide) ?_
        refine e_iconst (k := 45) (v := (1 : Int32)) rfl (by decide) ?_
        refine e_callVi (k := 46) (q := 33) (As := [.int (64 : Int32), .int (1 : Int32)]) (rest := [.ref (gR g 38)]) rfl (c_X5_number (g := g) hg (n := n) h) m_X5_number i_X5_number l_X4_133 rfl ⟨_, rfl, rfl⟩ rfl rfl (Nat.le_of_ble_eq_true rfl) ⟨by decide, by decide, rfl, rfl⟩ (fun _ h => h.elim) (fun r3 u5 h => ?_)
        refine e_putI (k := 47) rfl fg_X4_268 rfl rfl ?_
        refine e_mlet h (fun u6 h => ?_)
        exact e_vret (k := 48) rfl rfl (Or.inl ⟨rfl, h⟩)
    · have h := h.2 z
      refine e_sub (lv' := []) [] rfl ?_
      exact s_X4_readLength_59 hg h
set_option maxRecDepth 20000 in
theorem c_X4_readLength {g : Gb} (hg : xInj g) {n : Nat} {u0 : Mm} {Q : Mm → Prop} (h : w_X4_readLength n u0 Q) : xMet (gL g) yX4_readLength (xws yX4_readLength cX4_readLength 2 none) (xRoom 3) (xPc g [.ref (gR g 38)] u0) (xQ g (pV g Q noT)) (xA g) := by
  refine xbody (il := il_X4_readLength) hg il_X4_readLength_ok m_X4_readLength (Nat.le_of_ble_eq_true rfl) ?_
  show xE g me_X4_readLength (pV g Q noT) 0 [(0, .ref (gR g 38))] [] u0
  unfold w_X4_readLength at h
  refine e_aload_n (k := 0) (i := 0) rfl rfl 0 rfl ?_
  refine e_iconst (k := 1) (v := (1 : Int32)) rfl (by decide) ?_
  refine e_putI (k := 2) rfl fg_X4_265 rfl rfl ?_
  refine e_mlet h (fun u1 h => ?_)
  refine e_aload_n (k := 3) (i := 0) rfl rfl 0 rfl ?_
  refine e_iconst (k := 4) (v := (1 : Int32)) rfl (by decide) ?_
  refine e_putI (k := 5) rfl fg_X4_268 rfl rfl ?_
  refine e_mlet h (fun u2 h => ?_)
  refine e_aload_n (k := 6) (i := 0) rfl rfl 0 rfl ?_
  refine e_getC (k := 7) rfl f_X4_9 rfl rfl ?_
  refine e_callVi (k := 8) (q := 33) (As := []) (rest := []) rfl (c_X5_digitHere (g := g) hg (n := n) h) m_X5_digitHere i_X5_digitHere l_X4_310 rfl ⟨_, rfl, rfl⟩ rfl rfl (Nat.le_of_ble_eq_true rfl) ⟨by decide, by decide, rfl, rfl⟩ (fun _ h => h.elim) (fun r1 u3 h => ?_)
  refine e_istore_n (k := 9) (i := 1) (lv' := [(0, .ref (gR g 38)), (1, .int r1)]) rfl rfl (by decide) [1, 0] rfl ?_
  refine e_iload_n (k := 10) (i := 1) rfl rfl 1 rfl ?_
  refine e_if_eq (k := 11) (tgt := 36) rfl (by decide) (fun z => ?_) (fun z => ?_)
  · have h := h.1 z
    exact s_X4_readLength_36 hg h
  · have h := h.2 z
    refine e_aload_n (k := 12) (i := 0) rfl rfl 0 rfl ?_
    refine e_aload_n (k := 13) (i := 0) rfl rfl 0 rfl ?_
    refine e_getC (k := 14) rfl f_X4_9 rfl rfl ?_
    refine e_bipush (k := 15) (v := (64 : Int32)) rfl (by decide) ?_
    refine e_iconst (k := 16) (v := (0 : Int32)) rfl (by decide) ?_
    refine e_callVi (k := 17) (q := 33) (As := [.int (64 : Int32), .int (0 : Int32)]) (rest := [.ref (gR g 38)]) rfl (c_X5_number (g := g) hg (n := n) h) m_X5_number i_X5_number l_X4_133 rfl ⟨_, rfl, rfl⟩ rfl rfl (Nat.le_of_ble_eq_true rfl) ⟨by decide, by decide, rfl, rfl⟩ (fun _ h => h.elim) (fun r2 u4 h => ?_)
    refine e_putI (k := 18) rfl fg_X4_265 rfl rfl ?_
    refine e_mlet h (fun u5 h => ?_)
    exact s_X4_readLength_36 hg h
def il_X4_signWithout : List (Nat × Instr × Nat) := [(0, .iload_n 1, 1), (1, .ifCond .ne 88, 3), (4, .aload_n 0, 1), (5, .getfield 48, 3), (8, .getfield 292, 3), (11, .ifCond .eq 78, 3), (14, .aload_n 0, 1), (15, .getfield 48, 3), (18, .getfield 295, 3), (21, .istore 4, 2), (23, .iload 4, 2), (25, .aload_n 0, 1), (26, .getfield 48, 3), (29, .getfield 295, 3), (32, .aload_n 0, 1), (33, .getfield 48, 3), (36, .getfield 298, 3), (39, .iadd, 1), (40, .if_icmp .ge 49, 3), (43, .aload_n 0, 1), (44, .getfield 29, 3), (47, .iload 4, 2), (49, .iconst 4, 1), (50, .invokevirtual 301, 3), (53, .iload_n 2, 1), (54, .if_icmp .ne 29, 3), (57, .aload_n 0, 1), (58, .getfield 29, 3), (61, .iload 4, 2), (63, .iconst 5, 1), (64, .invokevirtual 301, 3), (67, .iload_n 3, 1), (68, .if_icmp .ne 15, 3), (71, .aload_n 0, 1), (72, .getfield 29, 3), (75, .iload 4, 2), (77, .bipush 6, 2), (79, .invokevirtual 301, 3), (82, .ireturn, 1), (83, .iinc 4 1, 3), (86, .goto (-63), 3), (89, .aload_n 0, 1), (90, .getfield 48, 3), (93, .aload_n 0, 1), (94, .getfield 19, 3), (97, .getfield 283, 3), (100, .iload_n 2, 1), (101, .iload_n 3, 1), (102, .invokevirtual 304, 3), (105, .ireturn, 1)]
set_option maxRecDepth 20000 in
theorem il_X4_signWithout_ok : ∀ x ∈ il_X4_signWithout, decode cX4_signWithout x.1 = .ok x.2 := by decide +kernel
abbrev me_X4_signWithout : Me := (RX4, il_X4_signWithout, 5, (some .int), xRoom 3, [])
def w_X4_signWithout_89 (n : Nat) (x2 : Int32) (x3 : Int32) (u0 : Mm) (Q : Int32 → Mm → Prop) : Prop :=
  w_X8_signOf n (u0.2.2 2) (u0.1 35 0) x2 x3 u0 (fun r1 u1 =>
  Q r1 u1)
def w_X4_signWithout_83 (n : Nat) (L23 : Int32 → Int32 → Int32 → Mm → Prop) (x2 : Int32) (x3 : Int32) (x4 : Int32) (u0 : Mm) (Q : Int32 → Mm → Prop) : Prop :=
  L23 x2 x3 (x4 + (1 : Int32)) u0
def w_X4_signWithout_23 (n : Nat) (Q : Int32 → Mm → Prop) : Nat → Int32 → Int32 → Int32 → Mm → Prop
  | 0, _, _, _, _ => False
  | k + 1, x2, x3, x4, u0 =>
  (((u0.1 (u0.2.2 2) 12) + (u0.1 (u0.2.2 2) 13)) ≤ x4 → w_X4_signWithout_89 n x2 x3 u0 Q) ∧
  (¬ ((u0.1 (u0.2.2 2) 12) + (u0.1 (u0.2.2 2) 13)) ≤ x4 → w_X6_cell n x4 (4 : Int32) u0 (fun r1 u1 =>
  (¬ r1 = x2 → w_X4_signWithout_83 n (w_X4_signWithout_23 n Q k) x2 x3 x4 u1 Q) ∧
  (r1 = x2 → w_X6_cell n x4 (5 : Int32) u1 (fun r2 u2 =>
  (¬ r2 = x3 → w_X4_signWithout_83 n (w_X4_signWithout_23 n Q k) x2 x3 x4 u2 Q) ∧
  (r2 = x3 → w_X6_cell n x4 (6 : Int32) u2 (fun r3 u3 =>
  Q r3 u3))))))
def w_X4_signWithout (n : Nat) (a0 : Int32) (a1 : Int32) (a2 : Int32) (u0 : Mm) (Q : Int32 → Mm → Prop) : Prop :=
  (¬ a0 = 0 → w_X4_signWithout_89 n a1 a2 u0 Q) ∧
  (a0 = 0 → ((u0.1 (u0.2.2 2) 11) = 0 → w_X4_signWithout_89 n a1 a2 u0 Q) ∧
  (¬ (u0.1 (u0.2.2 2) 11) = 0 → ilet (u0.1 (u0.2.2 2) 12) fun y1 =>
  (w_X4_signWithout_23 n Q n) a1 a2 y1 u0))
set_option maxRecDepth 20000 in
theorem s_X4_signWithout_89 {g : Gb} (hg : xInj g) {n : Nat} {Q : Int32 → Mm → Prop} {x2 : Int32} {x3 : Int32} {u0 : Mm} (h : w_X4_signWithout_89 n x2 x3 u0 Q) : xE g me_X4_signWithout (pI g Q noT) 89 [(0, .ref (gR g 38)), (2, .int x2), (3, .int x3)] [] u0 := by
  unfold w_X4_signWithout_89 at h
  refine e_aload_n (k := 41) (i := 0) rfl rfl 0 rfl ?_
  refine e_getP (k := 42) rfl f_X4_48 rfl rfl (fun ty1 => ?_)
  refine e_aload_n (k := 43) (i := 0) rfl rfl 0 rfl ?_
  refine e_getC (k := 44) rfl f_X4_19 rfl rfl ?_
  refine e_getI (k := 45) rfl f_X4_283 rfl rfl ?_
  refine e_iload_n (k := 46) (i := 2) rfl rfl 1 rfl ?_
  refine e_iload_n (k := 47) (i := 3) rfl rfl 2 rfl ?_
  refine e_callVi (k := 48) (q := (u0.2.2 2)) (As := [.int (u0.1 35 0), .int x2, .int x3]) (rest := []) rfl (c_X8_signOf (g := g) hg (n := n) ty1.2.2 h) m_X8_signOf i_X8_signOf l_X4_304 ty1.2.2 ⟨_, rfl, rfl⟩ rfl rfl (Nat.le_of_ble_eq_true rfl) ⟨by decide, by decide, rfl, rfl⟩ (fun _ h => h.elim) (fun r1 u1 h => ?_)
  exact e_iret (k := 49) rfl rfl (Or.inl ⟨_, rfl, h⟩)
set_option maxRecDepth 20000 in
theorem s_X4_signWithout_83 {g : Gb} (hg : xInj g) {n : Nat} {Q : Int32 → Mm → Prop} {L23 : Int32 → Int32 → Int32 → Mm → Prop} (hL23 : ∀ (x2 : Int32) (x3 : Int32) (x4 : Int32) (u0 : Mm), L23 x2 x3 x4 u0 → xE g me_X4_signWithout (pI g Q noT) 23 [(0, .ref (gR g 38)), (2, .int x2), (3, .int x3), (4, .int x4)] [] u0) {x2 : Int32} {x3 : Int32} {x4 : Int32} {u0 : Mm} (h : w_X4_signWithout_83 n L23 x2 x3 x4 u0 Q) : xE g me_X4_signWithout (pI g Q noT) 83 [(0, .ref (gR g 38)), (2, .int x2), (3, .int x3), (4, .int x4)] [] u0 := by
  unfold w_X4_signWithout_83 at h
  refine e_iinc (k := 39) (i := 4) (j := 3) (v := (x4 + (1 : Int32))) (lv' := [(0, .ref (gR g 38)), (2, .int x2), (3, .int x3), (4, .int (x4 + (1 : Int32)))]) rfl rfl rfl (by decide) [1, 2, 3, 0] rfl ?_
  refine e_goto (k := 40) (tgt := 23) rfl (by decide) ?_
  exact hL23 x2 x3 (x4 + (1 : Int32)) u0 h
set_option maxRecDepth 20000 in
theorem s_X4_signWithout_23 {g : Gb} (hg : xInj g) {n : Nat} {Q : Int32 → Mm → Prop} : ∀ (k : Nat) (x2 : Int32) (x3 : Int32) (x4 : Int32) (u0 : Mm), w_X4_signWithout_23 n Q k x2 x3 x4 u0 → xE g me_X4_signWithout (pI g Q noT) 23 [(0, .ref (gR g 38)), (2, .int x2), (3, .int x3), (4, .int x4)] [] u0 := by
  intro k
  induction k with
  | zero => intro x2 x3 x4 u0 h; exact h.elim
  | succ k ih =>
    intro x2 x3 x4 u0 h
    unfold w_X4_signWithout_23 at h
    refine e_iload (k := 10) (i := 4) rfl 3 rfl ?_
    refine e_aload_n (k := 11) (i := 0) rfl rfl 0 rfl ?_
    refine e_getP (k := 12) rfl f_X4_48 rfl rfl (fun ty1 => ?_)
    refine e_getI (k := 13) rfl f_X4_295 ty1.2.2 rfl ?_
    refine e_aload_n (k := 14) (i := 0) rfl rfl 0 rfl ?_
    refine e_getP (k := 15) rfl f_X4_48 rfl rfl (fun ty2 => ?_)
    refine e_getI (k := 16) rfl f_X4_298 ty2.2.2 rfl ?_
    refine e_iadd (k := 17) rfl ?_
    refine e_icmp_ge (k := 18) (tgt := 89) rfl (by decide) (fun z => ?_) (fun z => ?_)
    · have h := h.1 z
      refine e_sub (lv' := [(0, .ref (gR g 38)), (2, .int x2), (3, .int x3)]) [0, 1, 2] rfl ?_
      exact s_X4_signWithout_89 hg h
    · have h := h.2 z
      refine e_aload_n (k := 19) (i := 0) rfl rfl 0 rfl ?_
      refine e_getC (k := 20) rfl f_X4_29 rfl rfl ?_
      refine e_iload (k := 21) (i := 4) rfl 3 rfl ?_
      refine e_iconst (k := 22) (v := (4 : Int32)) rfl (by decide) ?_
      refine e_callVi (k := 23) (q := 36) (As := [.int x4, .int (4 : Int32)]) (rest := []) rfl (c_X6_cell (g := g) hg (n := n) h) m_X6_cell i_X6_cell l_X4_301 rfl ⟨_, rfl, rfl⟩ rfl rfl (Nat.le_of_ble_eq_true rfl) ⟨by decide, by decide, rfl, rfl⟩ (fun _ h => h.elim) (fun r1 u1 h => ?_)
      refine e_iload_n (k := 24) (i := 2) rfl rfl 1 rfl ?_
      refine e_icmp_ne (k := 25) (tgt := 83) rfl (by decide) (fun z => ?_) (fun z => ?_)
      · have h := h.1 z
        exact s_X4_signWithout_83 hg ih h
      · have h := h.2 z
        refine e_aload_n (k := 26) (i := 0) rfl rfl 0 rfl ?_
        refine e_getC (k := 27) rfl f_X4_29 rfl rfl ?_
        refine e_iload (k := 28) (i := 4) rfl 3 rfl ?_
        refine e_iconst (k := 29) (v := (5 : Int32)) rfl (by decide) ?_
        refine e_callVi (k := 30) (q := 36) (As := [.int x4, .int (5 : Int32)]) (rest := []) rfl (c_X6_cell (g := g) hg (n := n) h) m_X6_cell i_X6_cell l_X4_301 rfl ⟨_, rfl, rfl⟩ rfl rfl (Nat.le_of_ble_eq_true rfl) ⟨by decide, by decide, rfl, rfl⟩ (fun _ h => h.elim) (fun r2 u2 h => ?_)
        refine e_iload_n (k := 31) (i := 3) rfl rfl 2 rfl ?_
        refine e_icmp_ne (k := 32) (tgt := 83) rfl (by decide) (fun z => ?_) (fun z => ?_)
        · have h := h.1 z
          exact s_X4_signWithout_83 hg ih h
        · have h := h.2 z
          refine e_aload_n (k := 33) (i := 0) rfl rfl 0 rfl ?_
          refine e_getC (k := 34) rfl f_X4_29 rfl rfl ?_
          refine e_iload (k := 35) (i := 4) rfl 3 rfl ?_
          refine e_bipush (k := 36) (v := (6 : Int32)) rfl (by decide) ?_
          refine e_callVi (k := 37) (q := 36) (As := [.int x4, .int (6 : Int32)]) (rest := []) rfl (c_X6_cell (g := g) hg (n := n) h) m_X6_cell i_X6_cell l_X4_301 rfl ⟨_, rfl, rfl⟩ rfl rfl (Nat.le_of_ble_eq_true rfl) ⟨by decide, by decide, rfl, rfl⟩ (fun _ h => h.elim) (fun r3 u3 h => ?_)
          exact e_iret (k := 38) rfl rfl (Or.inl ⟨_, rfl, h⟩)
set_option maxRecDepth 20000 in
theorem c_X4_signWithout {g : Gb} (hg : xInj g) {n : Nat} {a0 : Int32} {a1 : Int32} {a2 : Int32} {u0 : Mm} {Q : Int32 → Mm → Prop} (h : w_X4_signWithout n a0 a1 a2 u0 Q) : xMet (gL g) yX4_signWithout (xws yX4_signWithout cX4_signWithout 5 (some .int)) (xRoom 3) (xPc g [.ref (gR g 38), .int a0, .int a1, .int a2] u0) (xQ g (pI g Q noT)) (xA g) := by
  refine xbody (il := il_X4_signWithout) hg il_X4_signWithout_ok m_X4_signWithout (Nat.le_of_ble_eq_true rfl) ?_
  show xE g me_X4_signWithout (pI g Q noT) 0 [(0, .ref (gR g 38)), (1, .int a0), (2, .int a1), (3, .int a2)] [] u0
  unfold w_X4_signWithout at h
  refine e_iload_n (k := 0) (i := 1) rfl rfl 1 rfl ?_
  refine e_if_ne (k := 1) (tgt := 89) rfl (by decide) (fun z => ?_) (fun z => ?_)
  · have h := h.1 z
    refine e_sub (lv' := [(0, .ref (gR g 38)), (2, .int a1), (3, .int a2)]) [0, 2, 3] rfl ?_
    exact s_X4_signWithout_89 hg h
  · have h := h.2 z
    refine e_aload_n (k := 2) (i := 0) rfl rfl 0 rfl ?_
    refine e_getP (k := 3) rfl f_X4_48 rfl rfl (fun ty1 => ?_)
    refine e_getI (k := 4) rfl f_X4_292 ty1.2.2 rfl ?_
    refine e_if_eq (k := 5) (tgt := 89) rfl (by decide) (fun z => ?_) (fun z => ?_)
    · have h := h.1 z
      refine e_sub (lv' := [(0, .ref (gR g 38)), (2, .int a1), (3, .int a2)]) [0, 2, 3] rfl ?_
      exact s_X4_signWithout_89 hg h
    · have h := h.2 z
      refine e_aload_n (k := 6) (i := 0) rfl rfl 0 rfl ?_
      refine e_getP (k := 7) rfl f_X4_48 rfl rfl (fun ty2 => ?_)
      refine e_getI (k := 8) rfl f_X4_295 ty2.2.2 rfl ?_
      refine e_ilet h (fun y1 h => ?_)
      refine e_istore (k := 9) (i := 4) (lv' := [(0, .ref (gR g 38)), (1, .int a0), (2, .int a1), (3, .int a2), (4, .int y1)]) rfl (by decide) [1, 2, 3, 4, 0] rfl ?_
      refine e_sub (lv' := [(0, .ref (gR g 38)), (2, .int a1), (3, .int a2), (4, .int y1)]) [0, 2, 3, 4] rfl ?_
      exact s_X4_signWithout_23 hg n a1 a2 y1 u0 h
def il_X5_takeWord : List (Nat × Instr × Nat) := [(0, .aload_n 1, 1), (1, .invokevirtual 58, 3), (4, .istore_n 2, 1), (5, .aload_n 0, 1), (6, .getfield 28, 3), (9, .ifCond .lt 28, 3), (12, .iload_n 2, 1), (13, .aload_n 0, 1), (14, .getfield 34, 3), (17, .aload_n 0, 1), (18, .getfield 28, 3), (21, .isub, 1), (22, .if_icmp .gt 15, 3), (25, .aload_n 0, 1), (26, .getfield 34, 3), (29, .aload_n 0, 1), (30, .getfield 9, 3), (33, .arraylength, 1), (34, .if_icmp .le 5, 3), (37, .iconst 0, 1), (38, .ireturn, 1), (39, .iconst 0, 1), (40, .istore_n 3, 1), (41, .iload_n 3, 1), (42, .iload_n 2, 1), (43, .if_icmp .ge 30, 3), (46, .aload_n 0, 1), (47, .getfield 9, 3), (50, .aload_n 0, 1), (51, .getfield 28, 3), (54, .iload_n 3, 1), (55, .iadd, 1), (56, .baload, 1), (57, .aload_n 1, 1), (58, .iload_n 3, 1), (59, .invokevirtual 64, 3), (62, .if_icmp .eq 5, 3), (65, .iconst 0, 1), (66, .ireturn, 1), (67, .iinc 3 1, 3), (70, .goto (-29), 3), (73, .aload_n 0, 1), (74, .dup, 1), (75, .getfield 28, 3), (78, .iload_n 2, 1), (79, .iadd, 1), (80, .putfield 28, 3), (83, .iconst 1, 1), (84, .ireturn, 1)]
set_option maxRecDepth 20000 in
theorem il_X5_takeWord_ok : ∀ x ∈ il_X5_takeWord, decode cX5_takeWord x.1 = .ok x.2 := by decide +kernel
abbrev me_X5_takeWord : Me := (RX5, il_X5_takeWord, 4, (some .boolean), xRoom 3, [])
def w_X5_takeWord_41 (n : Nat) (a0 : Nat) (Q : Int32 → Mm → Prop) : Nat → Int32 → Int32 → Mm → Prop
  | 0, _, _, _ => False
  | k + 1, x2, x3, u0 =>
  (x2 ≤ x3 → mlet (setI u0 33 2 ((u0.1 33 2) + x2)) fun u1 =>
  Q (1 : Int32) u1) ∧
  (¬ x2 ≤ x3 → vp_in ((u0.1 33 2) + x3) 2400 ∧ (w_J0_charAt_5068e n a0 x3 u0 (fun r1 u2 =>
  ((u0.1 (u0.2.2 1) (ix ((u0.1 33 2) + x3))) = r1 → (w_X5_takeWord_41 n a0 Q k) x2 (x3 + (1 : Int32)) u2) ∧
  (¬ (u0.1 (u0.2.2 1) (ix ((u0.1 33 2) + x3))) = r1 → Q (0 : Int32) u2))))
def w_X5_takeWord_37 (n : Nat) (a0 : Nat) (u0 : Mm) (Q : Int32 → Mm → Prop) : Prop :=
  Q (0 : Int32) u0
def w_X5_takeWord (n : Nat) (a0 : Nat) (u0 : Mm) (Q : Int32 → Mm → Prop) : Prop :=
  w_J0_length_8abf5 n a0 u0 (fun r1 u1 =>
  ((u1.1 33 2) < 0 → w_X5_takeWord_37 n a0 u1 Q) ∧
  (¬ (u1.1 33 2) < 0 → (((u1.1 33 4) - (u1.1 33 2)) < r1 → w_X5_takeWord_37 n a0 u1 Q) ∧
  (¬ ((u1.1 33 4) - (u1.1 33 2)) < r1 → ((u1.1 33 4) ≤ (2400 : Int32) → (w_X5_takeWord_41 n a0 Q n) r1 (0 : Int32) u1) ∧
  (¬ (u1.1 33 4) ≤ (2400 : Int32) → w_X5_takeWord_37 n a0 u1 Q))))
set_option maxRecDepth 20000 in
theorem s_X5_takeWord_41 {g : Gb} (hg : xInj g) {n : Nat} {a0 : Nat} (ha0 : a0 < xtx.length) {Q : Int32 → Mm → Prop} : ∀ (k : Nat) (x2 : Int32) (x3 : Int32) (u0 : Mm), w_X5_takeWord_41 n a0 Q k x2 x3 u0 → xE g me_X5_takeWord (pI g Q noT) 41 [(0, .ref (gR g 33)), (1, .ref (gK g a0)), (2, .int x2), (3, .int x3)] [] u0 := by
  intro k
  induction k with
  | zero => intro x2 x3 u0 h; exact h.elim
  | succ k ih =>
    intro x2 x3 u0 h
    unfold w_X5_takeWord_41 at h
    refine e_iload_n (k := 23) (i := 3) rfl rfl 3 rfl ?_
    refine e_iload_n (k := 24) (i := 2) rfl rfl 2 rfl ?_
    refine e_icmp_ge (k := 25) (tgt := 73) rfl (by decide) (fun z => ?_) (fun z => ?_)
    · have h := h.1 z
      refine e_aload_n (k := 41) (i := 0) rfl rfl 0 rfl ?_
      refine e_dup (k := 42) rfl rfl ?_
      refine e_getI (k := 43) rfl f_X5_28 rfl rfl ?_
      refine e_iload_n (k := 44) (i := 2) rfl rfl 2 rfl ?_
      refine e_iadd (k := 45) rfl ?_
      refine e_putI (k := 46) rfl fg_X5_28 rfl rfl ?_
      refine e_mlet h (fun u1 h => ?_)
      refine e_iconst (k := 47) (v := (1 : Int32)) rfl (by decide) ?_
      exact e_zret (k := 48) rfl rfl (by decide) (Or.inl ⟨_, rfl, h⟩)
    · have h := h.2 z
      refine e_aload_n (k := 26) (i := 0) rfl rfl 0 rfl ?_
      refine e_getP (k := 27) rfl f_X5_9 rfl rfl (fun ty1 => ?_)
      refine e_aload_n (k := 28) (i := 0) rfl rfl 0 rfl ?_
      refine e_getI (k := 29) rfl f_X5_28 rfl rfl ?_
      refine e_iload_n (k := 30) (i := 3) rfl rfl 3 rfl ?_
      refine e_iadd (k := 31) rfl ?_
      refine e_bald (k := 32) rfl ty1.2.1 h.1 ?_
      have h := h.2
      refine e_aload_n (k := 33) (i := 1) rfl rfl 1 rfl ?_
      refine e_iload_n (k := 34) (i := 3) rfl rfl 3 rfl ?_
      refine e_callKi (k := 35) (j := a0) (As := [.int x3]) (rest := [.int (u0.1 (u0.2.2 1) (ix ((u0.1 33 2) + x3)))]) rfl (c_J0_charAt_5068e (g := g) hg (n := n) ha0 h) m_J0_charAt_5068e i_J0_charAt_5068e l_X5_64 ha0 rfl rfl rfl (Nat.le_of_ble_eq_true rfl) ⟨by decide, by decide, rfl, rfl⟩ (fun r1 u2 h => ?_)
      refine e_icmp_eq (k := 36) (tgt := 67) rfl (by decide) (fun z => ?_) (fun z => ?_)
      · have h := h.1 z
        refine e_iinc (k := 39) (i := 3) (j := 3) (v := (x3 + (1 : Int32))) (lv' := [(0, .ref (gR g 33)), (1, .ref (gK g a0)), (2, .int x2), (3, .int (x3 + (1 : Int32)))]) rfl rfl rfl (by decide) [1, 2, 3, 0] rfl ?_
        refine e_goto (k := 40) (tgt := 41) rfl (by decide) ?_
        exact ih x2 (x3 + (1 : Int32)) u2 h
      · have h := h.2 z
        refine e_iconst (k := 37) (v := (0 : Int32)) rfl (by decide) ?_
        exact e_zret (k := 38) rfl rfl (by decide) (Or.inl ⟨_, rfl, h⟩)
set_option maxRecDepth 20000 in
theorem s_X5_takeWord_37 {g : Gb} (hg : xInj g) {n : Nat} {a0 : Nat} (ha0 : a0 < xtx.length) {Q : Int32 → Mm → Prop} {u0 : Mm} (h : w_X5_takeWord_37 n a0  u0 Q) : xE g me_X5_takeWord (pI g Q noT) 37 [] [] u0 := by
  unfold w_X5_takeWord_37 at h
  refine e_iconst (k := 19) (v := (0 : Int32)) rfl (by decide) ?_
  exact e_zret (k := 20) rfl rfl (by decide) (Or.inl ⟨_, rfl, h⟩)
set_option maxRecDepth 20000 in
theorem c_X5_takeWord {g : Gb} (hg : xInj g) {n : Nat} {a0 : Nat} (ha0 : a0 < xtx.length) {u0 : Mm} {Q : Int32 → Mm → Prop} (h : w_X5_takeWord n a0 u0 Q) : xMet (gL g) yX5_takeWord (xws yX5_takeWord cX5_takeWord 4 (some .boolean)) (xRoom 3) (xPc g [.ref (gR g 33), .ref (gK g a0)] u0) (xQ g (pI g Q noT)) (xA g) := by
  refine xbody (il := il_X5_takeWord) hg il_X5_takeWord_ok m_X5_takeWord (Nat.le_of_ble_eq_true rfl) ?_
  show xE g me_X5_takeWord (pI g Q noT) 0 [(0, .ref (gR g 33)), (1, .ref (gK g a0))] [] u0
  unfold w_X5_takeWord at h
  refine e_aload_n (k := 0) (i := 1) rfl rfl 1 rfl ?_
  refine e_callKi (k := 1) (j := a0) (As := []) (rest := []) rfl (c_J0_length_8abf5 (g := g) hg (n := n) ha0 h) m_J0_length_8abf5 i_J0_length_8abf5 l_X5_58 ha0 rfl rfl rfl (Nat.le_of_ble_eq_true rfl) ⟨by decide, by decide, rfl, rfl⟩ (fun r1 u1 h => ?_)
  refine e_istore_n (k := 2) (i := 2) (lv' := [(0, .ref (gR g 33)), (1, .ref (gK g a0)), (2, .int r1)]) rfl rfl (by decide) [1, 2, 0] rfl ?_
  refine e_aload_n (k := 3) (i := 0) rfl rfl 0 rfl ?_
  refine e_getI (k := 4) rfl f_X5_28 rfl rfl ?_
  refine e_if_lt (k := 5) (tgt := 37) rfl (by decide) (fun z => ?_) (fun z => ?_)
  · have h := h.1 z
    refine e_sub (lv' := []) [] rfl ?_
    exact s_X5_takeWord_37 hg ha0 h
  · have h := h.2 z
    refine e_iload_n (k := 6) (i := 2) rfl rfl 2 rfl ?_
    refine e_aload_n (k := 7) (i := 0) rfl rfl 0 rfl ?_
    refine e_getI (k := 8) rfl f_X5_34 rfl rfl ?_
    refine e_aload_n (k := 9) (i := 0) rfl rfl 0 rfl ?_
    refine e_getI (k := 10) rfl f_X5_28 rfl rfl ?_
    refine e_isub (k := 11) rfl ?_
    refine e_icmp_gt (k := 12) (tgt := 37) rfl (by decide) (fun z => ?_) (fun z => ?_)
    · have h := h.1 z
      refine e_sub (lv' := []) [] rfl ?_
      exact s_X5_takeWord_37 hg ha0 h
    · have h := h.2 z
      refine e_aload_n (k := 13) (i := 0) rfl rfl 0 rfl ?_
      refine e_getI (k := 14) rfl f_X5_34 rfl rfl ?_
      refine e_aload_n (k := 15) (i := 0) rfl rfl 0 rfl ?_
      refine e_getP (k := 16) rfl f_X5_9 rfl rfl (fun ty1 => ?_)
      refine e_alen (k := 17) (v := (2400 : Int32)) rfl ty1.2.1 (by decide) (by decide) ?_
      refine e_icmp_le (k := 18) (tgt := 39) rfl (by decide) (fun z => ?_) (fun z => ?_)
      · have h := h.1 z
        refine e_iconst (k := 21) (v := (0 : Int32)) rfl (by decide) ?_
        refine e_istore_n (k := 22) (i := 3) (lv' := [(0, .ref (gR g 33)), (1, .ref (gK g a0)), (2, .int r1), (3, .int (0 : Int32))]) rfl rfl (by decide) [1, 2, 3, 0] rfl ?_
        exact s_X5_takeWord_41 hg ha0 n r1 (0 : Int32) u1 h
      · have h := h.2 z
        refine e_sub (lv' := []) [] rfl ?_
        exact s_X5_takeWord_37 hg ha0 h
def il_X7_findPlayed : List (Nat × Instr × Nat) := [(0, .aload_n 0, 1), (1, .aload_n 0, 1), (2, .getfield 39, 3), (5, .aload_n 0, 1), (6, .iconst 1, 1), (7, .invokevirtual 60, 3), (10, .getfield 64, 3), (13, .aload_n 0, 1), (14, .getfield 42, 3), (17, .invokestatic 67, 3), (20, .putfield 48, 3), (23, .return_, 1)]
set_option maxRecDepth 20000 in
theorem il_X7_findPlayed_ok : ∀ x ∈ il_X7_findPlayed, decode cX7_findPlayed x.1 = .ok x.2 := by decide +kernel
abbrev me_X7_findPlayed : Me := (RX7, il_X7_findPlayed, 1, none, xRoom 3, [])
def w_X7_findPlayed (n : Nat) (u0 : Mm) (Q : Mm → Prop) : Prop :=
  w_X7_voiceOf n (1 : Int32) u0 (fun r1 u1 =>
  w_X3_play n (u1.1 r1 4) u1 (fun r2 u2 =>
  mlet (setI u2 35 9 r2) fun u3 =>
  Q u3))
set_option maxRecDepth 20000 in
theorem c_X7_findPlayed {g : Gb} (hg : xInj g) {n : Nat} {u0 : Mm} {Q : Mm → Prop} (h : w_X7_findPlayed n u0 Q) : xMet (gL g) yX7_findPlayed (xws yX7_findPlayed cX7_findPlayed 1 none) (xRoom 3) (xPc g [.ref (gR g 35)] u0) (xQ g (pV g Q noT)) (xA g) := by
  refine xbody (il := il_X7_findPlayed) hg il_X7_findPlayed_ok m_X7_findPlayed (Nat.le_of_ble_eq_true rfl) ?_
  show xE g me_X7_findPlayed (pV g Q noT) 0 [(0, .ref (gR g 35))] [] u0
  unfold w_X7_findPlayed at h
  refine e_aload_n (k := 0) (i := 0) rfl rfl 0 rfl ?_
  refine e_aload_n (k := 1) (i := 0) rfl rfl 0 rfl ?_
  refine e_getC (k := 2) rfl f_X7_39 rfl rfl ?_
  refine e_aload_n (k := 3) (i := 0) rfl rfl 0 rfl ?_
  refine e_iconst (k := 4) (v := (1 : Int32)) rfl (by decide) ?_
  refine e_callVr (k := 5) (q := 35) (As := [.int (1 : Int32)]) (rest := [.ref (gR g 62), .ref (gR g 35)]) rfl (c_X7_voiceOf (g := g) hg (n := n) h) m_X7_voiceOf i_X7_voiceOf l_X7_60 rfl ⟨_, rfl, rfl⟩ rfl rfl (Nat.le_of_ble_eq_true rfl) ⟨by decide, by decide, rfl, rfl⟩ (fun _ h => h.elim) (fun r1 u1 hr1 h => ?_)
  refine e_getI (k := 6) rfl f_X7_64 hr1 rfl ?_
  refine e_aload_n (k := 7) (i := 0) rfl rfl 0 rfl ?_
  refine e_getC (k := 8) rfl f_X7_42 rfl rfl ?_
  refine e_callSi (k := 9) (As := [.ref (gR g 62), .int (u1.1 r1 4), .ref (gR g 63)]) (rest := [.ref (gR g 35)]) rfl (c_X3_play (g := g) hg (n := n) h) m_X3_play st_X3_play l_X7_67 rfl rfl (Nat.le_of_ble_eq_true rfl) ⟨by decide, by decide, rfl, rfl⟩ (fun _ h => h.elim) (fun r2 u2 h => ?_)
  refine e_putI (k := 10) rfl fg_X7_48 rfl rfl ?_
  refine e_mlet h (fun u3 h => ?_)
  exact e_vret (k := 11) rfl rfl (Or.inl ⟨rfl, h⟩)
def il_X8_enterMeasure : List (Nat × Instr × Nat) := [(0, .aload_n 0, 1), (1, .getfield 26, 3), (4, .ifCond .ne 10, 3), (7, .aload_n 0, 1), (8, .invokevirtual 66, 3), (11, .ifCond .eq 7, 3), (14, .iconst 1, 1), (15, .goto 4, 3), (18, .iconst 0, 1), (19, .ireturn, 1)]
set_option maxRecDepth 20000 in
theorem il_X8_enterMeasure_ok : ∀ x ∈ il_X8_enterMeasure, decode cX8_enterMeasure x.1 = .ok x.2 := by decide +kernel
abbrev me_X8_enterMeasure : Me := (RX8, il_X8_enterMeasure, 1, (some .boolean), xRoom 3, [])
def w_X8_enterMeasure_19 (n : Nat) (q : Nat) (t0 : Int32) (u0 : Mm) (Q : Int32 → Mm → Prop) : Prop :=
  narrow .boolean (.int t0) = .int t0 ∧ Q t0 u0
def w_X8_enterMeasure_14 (n : Nat) (q : Nat) (u0 : Mm) (Q : Int32 → Mm → Prop) : Prop :=
  w_X8_enterMeasure_19 n q (1 : Int32) u0 Q
def w_X8_enterMeasure (n : Nat) (q : Nat) (u0 : Mm) (Q : Int32 → Mm → Prop) : Prop :=
  (¬ (u0.1 q 5) = 0 → w_X8_enterMeasure_14 n q u0 Q) ∧
  ((u0.1 q 5) = 0 → w_X8_addMeasure n q u0 (fun r1 u1 =>
  (r1 = 0 → w_X8_enterMeasure_19 n q (0 : Int32) u1 Q) ∧
  (¬ r1 = 0 → w_X8_enterMeasure_14 n q u1 Q)))
set_option maxRecDepth 20000 in
theorem s_X8_enterMeasure_19 {g : Gb} (hg : xInj g) {n : Nat} {q : Nat} (hq : xlay q = (0, 7, 0)) {Q : Int32 → Mm → Prop} {t0 : Int32} {u0 : Mm} (h : w_X8_enterMeasure_19 n q t0 u0 Q) : xE g me_X8_enterMeasure (pI g Q noT) 19 [] [.int t0] u0 := by
  unfold w_X8_enterMeasure_19 at h
  exact e_zret (k := 9) rfl rfl h.1 (Or.inl ⟨_, rfl, h.2⟩)
set_option maxRecDepth 20000 in
theorem s_X8_enterMeasure_14 {g : Gb} (hg : xInj g) {n : Nat} {q : Nat} (hq : xlay q = (0, 7, 0)) {Q : Int32 → Mm → Prop} {u0 : Mm} (h : w_X8_enterMeasure_14 n q  u0 Q) : xE g me_X8_enterMeasure (pI g Q noT) 14 [] [] u0 := by
  unfold w_X8_enterMeasure_14 at h
  refine e_iconst (k := 6) (v := (1 : Int32)) rfl (by decide) ?_
  refine e_goto (k := 7) (tgt := 19) rfl (by decide) ?_
  exact s_X8_enterMeasure_19 hg hq h
set_option maxRecDepth 20000 in
theorem c_X8_enterMeasure {g : Gb} (hg : xInj g) {n : Nat} {q : Nat} (hq : xlay q = (0, 7, 0)) {u0 : Mm} {Q : Int32 → Mm → Prop} (h : w_X8_enterMeasure n q u0 Q) : xMet (gL g) yX8_enterMeasure (xws yX8_enterMeasure cX8_enterMeasure 1 (some .boolean)) (xRoom 3) (xPc g [.ref (gR g q)] u0) (xQ g (pI g Q noT)) (xA g) := by
  refine xbody (il := il_X8_enterMeasure) hg il_X8_enterMeasure_ok m_X8_enterMeasure (Nat.le_of_ble_eq_true rfl) ?_
  show xE g me_X8_enterMeasure (pI g Q noT) 0 [(0, .ref (gR g q))] [] u0
  unfold w_X8_enterMeasure at h
  refine e_aload_n (k := 0) (i := 0) rfl rfl 0 rfl ?_
  refine e_getI (k := 1) rfl f_X8_26 hq rfl ?_
  refine e_if_ne (k := 2) (tgt := 14) rfl (by decide) (fun z => ?_) (fun z => ?_)
  · have h := h.1 z
    refine e_sub (lv' := []) [] rfl ?_
    exact s_X8_enterMeasure_14 hg hq h
  · have h := h.2 z
    refine e_aload_n (k := 3) (i := 0) rfl rfl 0 rfl ?_
    refine e_callVi (k := 4) (q := q) (As := []) (rest := []) rfl (c_X8_addMeasure (g := g) hg (n := n) hq h) m_X8_addMeasure i_X8_addMeasure l_X8_66 hq ⟨_, rfl, rfl⟩ rfl rfl (Nat.le_of_ble_eq_true rfl) ⟨by decide, by decide, rfl, rfl⟩ (fun _ h => h.elim) (fun r1 u1 h => ?_)
    refine e_if_eq (k := 5) (tgt := 18) rfl (by decide) (fun z => ?_) (fun z => ?_)
    · have h := h.1 z
      refine e_iconst (k := 8) (v := (0 : Int32)) rfl (by decide) ?_
      refine e_sub (lv' := []) [] rfl ?_
      exact s_X8_enterMeasure_19 hg hq h
    · have h := h.2 z
      refine e_sub (lv' := []) [] rfl ?_
      exact s_X8_enterMeasure_14 hg hq h
def il_X9_writeLength : List (Nat × Instr × Nat) := [(0, .lload_n 1, 1), (1, .lload_n 3, 1), (2, .invokestatic 64, 3), (5, .lstore 5, 2), (7, .lload 5, 2), (9, .lconst 1, 1), (10, .lcmp, 1), (11, .ifCond .ge 5, 3), (14, .iconst 0, 1), (15, .ireturn, 1), (16, .lload_n 1, 1), (17, .lload 5, 2), (19, .ldiv, 1), (20, .lstore 7, 2), (22, .lload_n 3, 1), (23, .lload 5, 2), (25, .ldiv, 1), (26, .lstore 9, 2), (28, .lload 9, 2), (30, .lload 9, 2), (32, .lconst 1, 1), (33, .lsub, 1), (34, .land, 1), (35, .lconst 0, 1), (36, .lcmp, 1), (37, .ifCond .ne 7, 3), (40, .iconst 1, 1), (41, .goto 4, 3), (44, .iconst 0, 1), (45, .istore 11, 2), (47, .lload 7, 2), (49, .lconst 1, 1), (50, .lcmp, 1), (51, .ifCond .lt 26, 3), (54, .lload 7, 2), (56, .ldc2_w 68, 3), (59, .lcmp, 1), (60, .ifCond .gt 17, 3), (63, .lload 9, 2), (65, .ldc2_w 68, 3), (68, .lcmp, 1), (69, .ifCond .gt 8, 3), (72, .iload 11, 2), (74, .ifCond .ne 5, 3), (77, .iconst 0, 1), (78, .ireturn, 1), (79, .lload 7, 2), (81, .lconst 1, 1), (82, .lcmp, 1), (83, .ifCond .le 10, 3), (86, .aload_n 0, 1), (87, .lload 7, 2), (89, .l2i, 1), (90, .invokevirtual 70, 3), (93, .lload 9, 2), (95, .lconst 1, 1), (96, .lcmp, 1), (97, .ifCond .le 9, 3), (100, .aload_n 0, 1), (101, .bipush 47, 2), (103, .invokevirtual 43, 3), (106, .lload 9, 2), (108, .ldc2_w 73, 3), (111, .lcmp, 1), (112, .ifCond .le 10, 3), (115, .aload_n 0, 1), (116, .lload 9, 2), (118, .l2i, 1), (119, .invokevirtual 70, 3), (122, .iconst 1, 1), (123, .ireturn, 1)]
set_option maxRecDepth 20000 in
theorem il_X9_writeLength_ok : ∀ x ∈ il_X9_writeLength, decode cX9_writeLength x.1 = .ok x.2 := by decide +kernel
abbrev me_X9_writeLength : Me := (RX9, il_X9_writeLength, 12, (some .boolean), xRoom 3, [])
def w_X9_writeLength_122 (n : Nat) (u0 : Mm) (Q : Int32 → Mm → Prop) : Prop :=
  Q (1 : Int32) u0
def w_X9_writeLength_106 (n : Nat) (x9 : Int64) (u0 : Mm) (Q : Int32 → Mm → Prop) : Prop :=
  ((lg_cmp x9 (2 : Int64)) ≤ 0 → w_X9_writeLength_122 n u0 Q) ∧
  (¬ (lg_cmp x9 (2 : Int64)) ≤ 0 → w_X9_putDecimal n (x9.toInt32) u0 (fun u1 =>
  w_X9_writeLength_122 n u1 Q))
def w_X9_writeLength_93 (n : Nat) (x9 : Int64) (u0 : Mm) (Q : Int32 → Mm → Prop) : Prop :=
  ((lg_cmp x9 (1 : Int64)) ≤ 0 → w_X9_writeLength_106 n x9 u0 Q) ∧
  (¬ (lg_cmp x9 (1 : Int64)) ≤ 0 → w_X9_put n (47 : Int32) u0 (fun u1 =>
  w_X9_writeLength_106 n x9 u1 Q))
def w_X9_writeLength_77 (n : Nat) (u0 : Mm) (Q : Int32 → Mm → Prop) : Prop :=
  Q (0 : Int32) u0
def w_X9_writeLength_45 (n : Nat) (x7 : Int64) (x9 : Int64) (t0 : Int32) (u0 : Mm) (Q : Int32 → Mm → Prop) : Prop :=
  ((lg_cmp x7 (1 : Int64)) < 0 → w_X9_writeLength_77 n u0 Q) ∧
  (¬ (lg_cmp x7 (1 : Int64)) < 0 → (0 < (lg_cmp x7 (64 : Int64)) → w_X9_writeLength_77 n u0 Q) ∧
  (¬ 0 < (lg_cmp x7 (64 : Int64)) → (0 < (lg_cmp x9 (64 : Int64)) → w_X9_writeLength_77 n u0 Q) ∧
  (¬ 0 < (lg_cmp x9 (64 : Int64)) → (¬ t0 = 0 → ((lg_cmp x7 (1 : Int64)) ≤ 0 → w_X9_writeLength_93 n x9 u0 Q) ∧
  (¬ (lg_cmp x7 (1 : Int64)) ≤ 0 → w_X9_putDecimal n (x7.toInt32) u0 (fun u1 =>
  w_X9_writeLength_93 n x9 u1 Q))) ∧
  (t0 = 0 → w_X9_writeLength_77 n u0 Q))))
def w_X9_writeLength (n : Nat) (a0 : Int64) (a1 : Int64) (u0 : Mm) (Q : Int32 → Mm → Prop) : Prop :=
  w_X9_greatestCommon n a0 a1 u0 (fun r1 u1 =>
  (0 ≤ (lg_cmp r1 (1 : Int64)) → ¬ r1 = 0 ∧ (jlet (a0 / r1) fun y1 =>
  ¬ r1 = 0 ∧ (jlet (a1 / r1) fun y2 =>
  (¬ (lg_cmp (y2 &&& (y2 - (1 : Int64))) (0 : Int64)) = 0 → w_X9_writeLength_45 n y1 y2 (0 : Int32) u1 Q) ∧
  ((lg_cmp (y2 &&& (y2 - (1 : Int64))) (0 : Int64)) = 0 → w_X9_writeLength_45 n y1 y2 (1 : Int32) u1 Q)))) ∧
  (¬ 0 ≤ (lg_cmp r1 (1 : Int64)) → Q (0 : Int32) u1))
set_option maxRecDepth 20000 in
theorem s_X9_writeLength_122 {g : Gb} (hg : xInj g) {n : Nat} {Q : Int32 → Mm → Prop} {u0 : Mm} (h : w_X9_writeLength_122 n  u0 Q) : xE g me_X9_writeLength (pI g Q noT) 122 [] [] u0 := by
  unfold w_X9_writeLength_122 at h
  refine e_iconst (k := 69) (v := (1 : Int32)) rfl (by decide) ?_
  exact e_zret (k := 70) rfl rfl (by decide) (Or.inl ⟨_, rfl, h⟩)
set_option maxRecDepth 20000 in
theorem s_X9_writeLength_106 {g : Gb} (hg : xInj g) {n : Nat} {Q : Int32 → Mm → Prop} {x9 : Int64} {u0 : Mm} (h : w_X9_writeLength_106 n x9 u0 Q) : xE g me_X9_writeLength (pI g Q noT) 106 [(0, .ref (gR g 40)), (9, .long x9)] [] u0 := by
  unfold w_X9_writeLength_106 at h
  refine e_lload (k := 61) (i := 9) rfl 1 rfl ?_
  refine e_ldc2 (k := 62) rfl k_X9_73 ?_
  refine e_lcmp (k := 63) rfl ?_
  refine e_if_le (k := 64) (tgt := 122) rfl (by decide) (fun z => ?_) (fun z => ?_)
  · have h := h.1 z
    refine e_sub (lv' := []) [] rfl ?_
    exact s_X9_writeLength_122 hg h
  · have h := h.2 z
    refine e_aload_n (k := 65) (i := 0) rfl rfl 0 rfl ?_
    refine e_lload (k := 66) (i := 9) rfl 1 rfl ?_
    refine e_l2i (k := 67) rfl ?_
    refine e_callVv (k := 68) (q := 40) (As := [.int x9.toInt32]) (rest := []) rfl (c_X9_putDecimal (g := g) hg (n := n) h) m_X9_putDecimal i_X9_putDecimal l_X9_70 rfl ⟨_, rfl, rfl⟩ rfl rfl (Nat.le_of_ble_eq_true rfl) ⟨by decide, by decide, rfl, rfl⟩ (fun _ h => h.elim) (fun u1 h => ?_)
    refine e_sub (lv' := []) [] rfl ?_
    exact s_X9_writeLength_122 hg h
set_option maxRecDepth 20000 in
theorem s_X9_writeLength_93 {g : Gb} (hg : xInj g) {n : Nat} {Q : Int32 → Mm → Prop} {x9 : Int64} {u0 : Mm} (h : w_X9_writeLength_93 n x9 u0 Q) : xE g me_X9_writeLength (pI g Q noT) 93 [(0, .ref (gR g 40)), (9, .long x9)] [] u0 := by
  unfold w_X9_writeLength_93 at h
  refine e_lload (k := 54) (i := 9) rfl 1 rfl ?_
  refine e_lconst (k := 55) (v := (1 : Int64)) rfl (by decide) ?_
  refine e_lcmp (k := 56) rfl ?_
  refine e_if_le (k := 57) (tgt := 106) rfl (by decide) (fun z => ?_) (fun z => ?_)
  · have h := h.1 z
    exact s_X9_writeLength_106 hg h
  · have h := h.2 z
    refine e_aload_n (k := 58) (i := 0) rfl rfl 0 rfl ?_
    refine e_bipush (k := 59) (v := (47 : Int32)) rfl (by decide) ?_
    refine e_callVv (k := 60) (q := 40) (As := [.int (47 : Int32)]) (rest := []) rfl (c_X9_put (g := g) hg (n := n) h) m_X9_put i_X9_put l_X9_43 rfl ⟨_, rfl, rfl⟩ rfl rfl (Nat.le_of_ble_eq_true rfl) ⟨by decide, by decide, rfl, rfl⟩ (fun _ h => h.elim) (fun u1 h => ?_)
    exact s_X9_writeLength_106 hg h
set_option maxRecDepth 20000 in
theorem s_X9_writeLength_77 {g : Gb} (hg : xInj g) {n : Nat} {Q : Int32 → Mm → Prop} {u0 : Mm} (h : w_X9_writeLength_77 n  u0 Q) : xE g me_X9_writeLength (pI g Q noT) 77 [] [] u0 := by
  unfold w_X9_writeLength_77 at h
  refine e_iconst (k := 44) (v := (0 : Int32)) rfl (by decide) ?_
  exact e_zret (k := 45) rfl rfl (by decide) (Or.inl ⟨_, rfl, h⟩)
set_option maxRecDepth 20000 in
theorem s_X9_writeLength_45 {g : Gb} (hg : xInj g) {n : Nat} {Q : Int32 → Mm → Prop} {x7 : Int64} {x9 : Int64} {t0 : Int32} {u0 : Mm} (h : w_X9_writeLength_45 n x7 x9 t0 u0 Q) : xE g me_X9_writeLength (pI g Q noT) 45 [(0, .ref (gR g 40)), (7, .long x7), (9, .long x9)] [.int t0] u0 := by
  unfold w_X9_writeLength_45 at h
  refine e_istore (k := 29) (i := 11) (lv' := [(0, .ref (gR g 40)), (7, .long x7), (9, .long x9), (11, .int t0)]) rfl (by decide) [1, 2, 3, 0] rfl ?_
  refine e_lload (k := 30) (i := 7) rfl 1 rfl ?_
  refine e_lconst (k := 31) (v := (1 : Int64)) rfl (by decide) ?_
  refine e_lcmp (k := 32) rfl ?_
  refine e_if_lt (k := 33) (tgt := 77) rfl (by decide) (fun z => ?_) (fun z => ?_)
  · have h := h.1 z
    refine e_sub (lv' := []) [] rfl ?_
    exact s_X9_writeLength_77 hg h
  · have h := h.2 z
    refine e_lload (k := 34) (i := 7) rfl 1 rfl ?_
    refine e_ldc2 (k := 35) rfl k_X9_68 ?_
    refine e_lcmp (k := 36) rfl ?_
    refine e_if_gt (k := 37) (tgt := 77) rfl (by decide) (fun z => ?_) (fun z => ?_)
    · have h := h.1 z
      refine e_sub (lv' := []) [] rfl ?_
      exact s_X9_writeLength_77 hg h
    · have h := h.2 z
      refine e_lload (k := 38) (i := 9) rfl 2 rfl ?_
      refine e_ldc2 (k := 39) rfl k_X9_68 ?_
      refine e_lcmp (k := 40) rfl ?_
      refine e_if_gt (k := 41) (tgt := 77) rfl (by decide) (fun z => ?_) (fun z => ?_)
      · have h := h.1 z
        refine e_sub (lv' := []) [] rfl ?_
        exact s_X9_writeLength_77 hg h
      · have h := h.2 z
        refine e_iload (k := 42) (i := 11) rfl 3 rfl ?_
        refine e_if_ne (k := 43) (tgt := 79) rfl (by decide) (fun z => ?_) (fun z => ?_)
        · have h := h.1 z
          refine e_lload (k := 46) (i := 7) rfl 1 rfl ?_
          refine e_lconst (k := 47) (v := (1 : Int64)) rfl (by decide) ?_
          refine e_lcmp (k := 48) rfl ?_
          refine e_if_le (k := 49) (tgt := 93) rfl (by decide) (fun z => ?_) (fun z => ?_)
          · have h := h.1 z
            refine e_sub (lv' := [(0, .ref (gR g 40)), (9, .long x9)]) [0, 2] rfl ?_
            exact s_X9_writeLength_93 hg h
          · have h := h.2 z
            refine e_aload_n (k := 50) (i := 0) rfl rfl 0 rfl ?_
            refine e_lload (k := 51) (i := 7) rfl 1 rfl ?_
            refine e_l2i (k := 52) rfl ?_
            refine e_callVv (k := 53) (q := 40) (As := [.int x7.toInt32]) (rest := []) rfl (c_X9_putDecimal (g := g) hg (n := n) h) m_X9_putDecimal i_X9_putDecimal l_X9_70 rfl ⟨_, rfl, rfl⟩ rfl rfl (Nat.le_of_ble_eq_true rfl) ⟨by decide, by decide, rfl, rfl⟩ (fun _ h => h.elim) (fun u1 h => ?_)
            refine e_sub (lv' := [(0, .ref (gR g 40)), (9, .long x9)]) [0, 2] rfl ?_
            exact s_X9_writeLength_93 hg h
        · have h := h.2 z
          refine e_sub (lv' := []) [] rfl ?_
          exact s_X9_writeLength_77 hg h
set_option maxRecDepth 20000 in
theorem c_X9_writeLength {g : Gb} (hg : xInj g) {n : Nat} {a0 : Int64} {a1 : Int64} {u0 : Mm} {Q : Int32 → Mm → Prop} (h : w_X9_writeLength n a0 a1 u0 Q) : xMet (gL g) yX9_writeLength (xws yX9_writeLength cX9_writeLength 12 (some .boolean)) (xRoom 3) (xPc g [.ref (gR g 40), .long a0, .long a1] u0) (xQ g (pI g Q noT)) (xA g) := by
  refine xbody (il := il_X9_writeLength) hg il_X9_writeLength_ok m_X9_writeLength (Nat.le_of_ble_eq_true rfl) ?_
  show xE g me_X9_writeLength (pI g Q noT) 0 [(0, .ref (gR g 40)), (1, .long a0), (3, .long a1)] [] u0
  unfold w_X9_writeLength at h
  refine e_lload_n (k := 0) (i := 1) rfl rfl 1 rfl ?_
  refine e_lload_n (k := 1) (i := 3) rfl rfl 2 rfl ?_
  refine e_callSl (k := 2) (As := [.long a0, .long a1]) (rest := []) rfl (c_X9_greatestCommon (g := g) hg (n := n) h) m_X9_greatestCommon st_X9_greatestCommon l_X9_64 rfl rfl (Nat.le_of_ble_eq_true rfl) ⟨by decide, by decide, rfl, rfl⟩ (fun _ h => h.elim) (fun r1 u1 h => ?_)
  refine e_lstore (k := 3) (i := 5) (lv' := [(0, .ref (gR g 40)), (1, .long a0), (3, .long a1), (5, .long r1)]) rfl (by decide) [1, 2, 3, 0] rfl ?_
  refine e_lload (k := 4) (i := 5) rfl 3 rfl ?_
  refine e_lconst (k := 5) (v := (1 : Int64)) rfl (by decide) ?_
  refine e_lcmp (k := 6) rfl ?_
  refine e_if_ge (k := 7) (tgt := 16) rfl (by decide) (fun z => ?_) (fun z => ?_)
  · have h := h.1 z
    refine e_lload_n (k := 10) (i := 1) rfl rfl 1 rfl ?_
    refine e_lload (k := 11) (i := 5) rfl 3 rfl ?_
    refine e_ldiv (k := 12) rfl h.1 ?_
    have h := h.2
    refine e_jlet h (fun y1 h => ?_)
    refine e_lstore (k := 13) (i := 7) (lv' := [(0, .ref (gR g 40)), (1, .long a0), (3, .long a1), (5, .long r1), (7, .long y1)]) rfl (by decide) [1, 2, 3, 4, 0] rfl ?_
    refine e_lload_n (k := 14) (i := 3) rfl rfl 2 rfl ?_
    refine e_lload (k := 15) (i := 5) rfl 3 rfl ?_
    refine e_ldiv (k := 16) rfl h.1 ?_
    have h := h.2
    refine e_jlet h (fun y2 h => ?_)
    refine e_lstore (k := 17) (i := 9) (lv' := [(0, .ref (gR g 40)), (1, .long a0), (3, .long a1), (5, .long r1), (7, .long y1), (9, .long y2)]) rfl (by decide) [1, 2, 3, 4, 5, 0] rfl ?_
    refine e_lload (k := 18) (i := 9) rfl 5 rfl ?_
    refine e_lload (k := 19) (i := 9) rfl 5 rfl ?_
    refine e_lconst (k := 20) (v := (1 : Int64)) rfl (by decide) ?_
    refine e_lsub (k := 21) rfl ?_
    refine e_land (k := 22) rfl ?_
    refine e_lconst (k := 23) (v := (0 : Int64)) rfl (by decide) ?_
    refine e_lcmp (k := 24) rfl ?_
    refine e_if_ne (k := 25) (tgt := 44) rfl (by decide) (fun z => ?_) (fun z => ?_)
    · have h := h.1 z
      refine e_iconst (k := 28) (v := (0 : Int32)) rfl (by decide) ?_
      refine e_sub (lv' := [(0, .ref (gR g 40)), (7, .long y1), (9, .long y2)]) [0, 4, 5] rfl ?_
      exact s_X9_writeLength_45 hg h
    · have h := h.2 z
      refine e_iconst (k := 26) (v := (1 : Int32)) rfl (by decide) ?_
      refine e_goto (k := 27) (tgt := 45) rfl (by decide) ?_
      refine e_sub (lv' := [(0, .ref (gR g 40)), (7, .long y1), (9, .long y2)]) [0, 4, 5] rfl ?_
      exact s_X9_writeLength_45 hg h
  · have h := h.2 z
    refine e_iconst (k := 8) (v := (0 : Int32)) rfl (by decide) ?_
    exact e_zret (k := 9) rfl rfl (by decide) (Or.inl ⟨_, rfl, h⟩)
def il_X9_writeLetter : List (Nat × Instr × Nat) := [(0, .iload_n 2, 1), (1, .iconst 4, 1), (2, .if_icmp .le 10, 3), (5, .iload_n 1, 1), (6, .bipush 7, 2), (8, .iadd, 1), (9, .goto 4, 3), (12, .iload_n 1, 1), (13, .istore_n 3, 1), (14, .iload_n 3, 1), (15, .ifCond .lt 22, 3), (18, .iload_n 3, 1), (19, .ldc 52, 2), (21, .invokevirtual 54, 3), (24, .if_icmp .ge 13, 3), (27, .aload_n 0, 1), (28, .ldc 52, 2), (30, .iload_n 3, 1), (31, .invokevirtual 60, 3), (34, .invokevirtual 43, 3), (37, .iconst 5, 1), (38, .istore 4, 2), (40, .iload 4, 2), (42, .iload_n 2, 1), (43, .if_icmp .ge 15, 3), (46, .aload_n 0, 1), (47, .bipush 39, 2), (49, .invokevirtual 43, 3), (52, .iinc 4 1, 3), (55, .goto (-15), 3), (58, .iconst 4, 1), (59, .istore 4, 2), (61, .iload 4, 2), (63, .iload_n 2, 1), (64, .if_icmp .le 15, 3), (67, .aload_n 0, 1), (68, .bipush 44, 2), (70, .invokevirtual 43, 3), (73, .iinc 4 (-1), 3), (76, .goto (-15), 3), (79, .return_, 1)]
set_option maxRecDepth 20000 in
theorem il_X9_writeLetter_ok : ∀ x ∈ il_X9_writeLetter, decode cX9_writeLetter x.1 = .ok x.2 := by decide +kernel
abbrev me_X9_writeLetter : Me := (RX9, il_X9_writeLetter, 5, none, xRoom 3, [])
def w_X9_writeLetter_61 (n : Nat) (Q : Mm → Prop) : Nat → Int32 → Int32 → Mm → Prop
  | 0, _, _, _ => False
  | k + 1, x2, x4, u0 =>
  (x4 ≤ x2 → Q u0) ∧
  (¬ x4 ≤ x2 → w_X9_put n (44 : Int32) u0 (fun u1 =>
  (w_X9_writeLetter_61 n Q k) x2 (x4 + (-1 : Int32)) u1))
def w_X9_writeLetter_40 (n : Nat) (Q : Mm → Prop) : Nat → Int32 → Int32 → Mm → Prop
  | 0, _, _, _ => False
  | k + 1, x2, x4, u0 =>
  (x2 ≤ x4 → (w_X9_writeLetter_61 n Q n) x2 (4 : Int32) u0) ∧
  (¬ x2 ≤ x4 → w_X9_put n (39 : Int32) u0 (fun u1 =>
  (w_X9_writeLetter_40 n Q k) x2 (x4 + (1 : Int32)) u1))
def w_X9_writeLetter_37 (n : Nat) (x2 : Int32) (u0 : Mm) (Q : Mm → Prop) : Prop :=
  (w_X9_writeLetter_40 n Q n) x2 (5 : Int32) u0
def w_X9_writeLetter_13 (n : Nat) (x2 : Int32) (t0 : Int32) (u0 : Mm) (Q : Mm → Prop) : Prop :=
  (t0 < 0 → w_X9_writeLetter_37 n x2 u0 Q) ∧
  (¬ t0 < 0 → w_J0_length_8abf5 n 19 u0 (fun r1 u1 =>
  (r1 ≤ t0 → w_X9_writeLetter_37 n x2 u1 Q) ∧
  (¬ r1 ≤ t0 → w_J0_charAt_5068e n 19 t0 u1 (fun r2 u2 =>
  w_X9_put n r2 u2 (fun u3 =>
  w_X9_writeLetter_37 n x2 u3 Q)))))
def w_X9_writeLetter (n : Nat) (a0 : Int32) (a1 : Int32) (u0 : Mm) (Q : Mm → Prop) : Prop :=
  (a1 ≤ (4 : Int32) → w_X9_writeLetter_13 n a1 a0 u0 Q) ∧
  (¬ a1 ≤ (4 : Int32) → w_X9_writeLetter_13 n a1 (a0 + (7 : Int32)) u0 Q)
set_option maxRecDepth 20000 in
theorem s_X9_writeLetter_61 {g : Gb} (hg : xInj g) {n : Nat} {Q : Mm → Prop} : ∀ (k : Nat) (x2 : Int32) (x4 : Int32) (u0 : Mm), w_X9_writeLetter_61 n Q k x2 x4 u0 → xE g me_X9_writeLetter (pV g Q noT) 61 [(0, .ref (gR g 40)), (2, .int x2), (4, .int x4)] [] u0 := by
  intro k
  induction k with
  | zero => intro x2 x4 u0 h; exact h.elim
  | succ k ih =>
    intro x2 x4 u0 h
    unfold w_X9_writeLetter_61 at h
    refine e_iload (k := 32) (i := 4) rfl 2 rfl ?_
    refine e_iload_n (k := 33) (i := 2) rfl rfl 1 rfl ?_
    refine e_icmp_le (k := 34) (tgt := 79) rfl (by decide) (fun z => ?_) (fun z => ?_)
    · have h := h.1 z
      exact e_vret (k := 40) rfl rfl (Or.inl ⟨rfl, h⟩)
    · have h := h.2 z
      refine e_aload_n (k := 35) (i := 0) rfl rfl 0 rfl ?_
      refine e_bipush (k := 36) (v := (44 : Int32)) rfl (by decide) ?_
      refine e_callVv (k := 37) (q := 40) (As := [.int (44 : Int32)]) (rest := []) rfl (c_X9_put (g := g) hg (n := n) h) m_X9_put i_X9_put l_X9_43 rfl ⟨_, rfl, rfl⟩ rfl rfl (Nat.le_of_ble_eq_true rfl) ⟨by decide, by decide, rfl, rfl⟩ (fun _ h => h.elim) (fun u1 h => ?_)
      refine e_iinc (k := 38) (i := 4) (j := 2) (v := (x4 + (-1 : Int32))) (lv' := [(0, .ref (gR g 40)), (2, .int x2), (4, .int (x4 + (-1 : Int32)))]) rfl rfl rfl (by decide) [1, 2, 0] rfl ?_
      refine e_goto (k := 39) (tgt := 61) rfl (by decide) ?_
      exact ih x2 (x4 + (-1 : Int32)) u1 h
set_option maxRecDepth 20000 in
theorem s_X9_writeLetter_40 {g : Gb} (hg : xInj g) {n : Nat} {Q : Mm → Prop} : ∀ (k : Nat) (x2 : Int32) (x4 : Int32) (u0 : Mm), w_X9_writeLetter_40 n Q k x2 x4 u0 → xE g me_X9_writeLetter (pV g Q noT) 40 [(0, .ref (gR g 40)), (2, .int x2), (4, .int x4)] [] u0 := by
  intro k
  induction k with
  | zero => intro x2 x4 u0 h; exact h.elim
  | succ k ih =>
    intro x2 x4 u0 h
    unfold w_X9_writeLetter_40 at h
    refine e_iload (k := 22) (i := 4) rfl 2 rfl ?_
    refine e_iload_n (k := 23) (i := 2) rfl rfl 1 rfl ?_
    refine e_icmp_ge (k := 24) (tgt := 58) rfl (by decide) (fun z => ?_) (fun z => ?_)
    · have h := h.1 z
      refine e_iconst (k := 30) (v := (4 : Int32)) rfl (by decide) ?_
      refine e_istore (k := 31) (i := 4) (lv' := [(0, .ref (gR g 40)), (2, .int x2), (4, .int (4 : Int32))]) rfl (by decide) [1, 2, 0] rfl ?_
      exact s_X9_writeLetter_61 hg n x2 (4 : Int32) u0 h
    · have h := h.2 z
      refine e_aload_n (k := 25) (i := 0) rfl rfl 0 rfl ?_
      refine e_bipush (k := 26) (v := (39 : Int32)) rfl (by decide) ?_
      refine e_callVv (k := 27) (q := 40) (As := [.int (39 : Int32)]) (rest := []) rfl (c_X9_put (g := g) hg (n := n) h) m_X9_put i_X9_put l_X9_43 rfl ⟨_, rfl, rfl⟩ rfl rfl (Nat.le_of_ble_eq_true rfl) ⟨by decide, by decide, rfl, rfl⟩ (fun _ h => h.elim) (fun u1 h => ?_)
      refine e_iinc (k := 28) (i := 4) (j := 2) (v := (x4 + (1 : Int32))) (lv' := [(0, .ref (gR g 40)), (2, .int x2), (4, .int (x4 + (1 : Int32)))]) rfl rfl rfl (by decide) [1, 2, 0] rfl ?_
      refine e_goto (k := 29) (tgt := 40) rfl (by decide) ?_
      exact ih x2 (x4 + (1 : Int32)) u1 h
set_option maxRecDepth 20000 in
theorem s_X9_writeLetter_37 {g : Gb} (hg : xInj g) {n : Nat} {Q : Mm → Prop} {x2 : Int32} {u0 : Mm} (h : w_X9_writeLetter_37 n x2 u0 Q) : xE g me_X9_writeLetter (pV g Q noT) 37 [(0, .ref (gR g 40)), (2, .int x2)] [] u0 := by
  unfold w_X9_writeLetter_37 at h
  refine e_iconst (k := 20) (v := (5 : Int32)) rfl (by decide) ?_
  refine e_istore (k := 21) (i := 4) (lv' := [(0, .ref (gR g 40)), (2, .int x2), (4, .int (5 : Int32))]) rfl (by decide) [1, 2, 0] rfl ?_
  exact s_X9_writeLetter_40 hg n x2 (5 : Int32) u0 h
set_option maxRecDepth 20000 in
theorem s_X9_writeLetter_13 {g : Gb} (hg : xInj g) {n : Nat} {Q : Mm → Prop} {x2 : Int32} {t0 : Int32} {u0 : Mm} (h : w_X9_writeLetter_13 n x2 t0 u0 Q) : xE g me_X9_writeLetter (pV g Q noT) 13 [(0, .ref (gR g 40)), (2, .int x2)] [.int t0] u0 := by
  unfold w_X9_writeLetter_13 at h
  refine e_istore_n (k := 8) (i := 3) (lv' := [(0, .ref (gR g 40)), (2, .int x2), (3, .int t0)]) rfl rfl (by decide) [1, 2, 0] rfl ?_
  refine e_iload_n (k := 9) (i := 3) rfl rfl 2 rfl ?_
  refine e_if_lt (k := 10) (tgt := 37) rfl (by decide) (fun z => ?_) (fun z => ?_)
  · have h := h.1 z
    refine e_sub (lv' := [(0, .ref (gR g 40)), (2, .int x2)]) [0, 1] rfl ?_
    exact s_X9_writeLetter_37 hg h
  · have h := h.2 z
    refine e_iload_n (k := 11) (i := 3) rfl rfl 2 rfl ?_
    refine e_ldcS (k := 12) (j := 19) rfl rfl ?_
    refine e_callKi (k := 13) (j := 19) (As := []) (rest := [.int t0]) rfl (c_J0_length_8abf5 (g := g) hg (n := n) (by decide) h) m_J0_length_8abf5 i_J0_length_8abf5 l_X9_54 (by decide) rfl rfl rfl (Nat.le_of_ble_eq_true rfl) ⟨by decide, by decide, rfl, rfl⟩ (fun r1 u1 h => ?_)
    refine e_icmp_ge (k := 14) (tgt := 37) rfl (by decide) (fun z => ?_) (fun z => ?_)
    · have h := h.1 z
      refine e_sub (lv' := [(0, .ref (gR g 40)), (2, .int x2)]) [0, 1] rfl ?_
      exact s_X9_writeLetter_37 hg h
    · have h := h.2 z
      refine e_aload_n (k := 15) (i := 0) rfl rfl 0 rfl ?_
      refine e_ldcS (k := 16) (j := 19) rfl rfl ?_
      refine e_iload_n (k := 17) (i := 3) rfl rfl 2 rfl ?_
      refine e_callKi (k := 18) (j := 19) (As := [.int t0]) (rest := [.ref (gR g 40)]) rfl (c_J0_charAt_5068e (g := g) hg (n := n) (by decide) h) m_J0_charAt_5068e i_J0_charAt_5068e l_X9_60 (by decide) rfl rfl rfl (Nat.le_of_ble_eq_true rfl) ⟨by decide, by decide, rfl, rfl⟩ (fun r2 u2 h => ?_)
      refine e_callVv (k := 19) (q := 40) (As := [.int r2]) (rest := []) rfl (c_X9_put (g := g) hg (n := n) h) m_X9_put i_X9_put l_X9_43 rfl ⟨_, rfl, rfl⟩ rfl rfl (Nat.le_of_ble_eq_true rfl) ⟨by decide, by decide, rfl, rfl⟩ (fun _ h => h.elim) (fun u3 h => ?_)
      refine e_sub (lv' := [(0, .ref (gR g 40)), (2, .int x2)]) [0, 1] rfl ?_
      exact s_X9_writeLetter_37 hg h
set_option maxRecDepth 20000 in
theorem c_X9_writeLetter {g : Gb} (hg : xInj g) {n : Nat} {a0 : Int32} {a1 : Int32} {u0 : Mm} {Q : Mm → Prop} (h : w_X9_writeLetter n a0 a1 u0 Q) : xMet (gL g) yX9_writeLetter (xws yX9_writeLetter cX9_writeLetter 5 none) (xRoom 3) (xPc g [.ref (gR g 40), .int a0, .int a1] u0) (xQ g (pV g Q noT)) (xA g) := by
  refine xbody (il := il_X9_writeLetter) hg il_X9_writeLetter_ok m_X9_writeLetter (Nat.le_of_ble_eq_true rfl) ?_
  show xE g me_X9_writeLetter (pV g Q noT) 0 [(0, .ref (gR g 40)), (1, .int a0), (2, .int a1)] [] u0
  unfold w_X9_writeLetter at h
  refine e_iload_n (k := 0) (i := 2) rfl rfl 2 rfl ?_
  refine e_iconst (k := 1) (v := (4 : Int32)) rfl (by decide) ?_
  refine e_icmp_le (k := 2) (tgt := 12) rfl (by decide) (fun z => ?_) (fun z => ?_)
  · have h := h.1 z
    refine e_iload_n (k := 7) (i := 1) rfl rfl 1 rfl ?_
    refine e_sub (lv' := [(0, .ref (gR g 40)), (2, .int a1)]) [0, 2] rfl ?_
    exact s_X9_writeLetter_13 hg h
  · have h := h.2 z
    refine e_iload_n (k := 3) (i := 1) rfl rfl 1 rfl ?_
    refine e_bipush (k := 4) (v := (7 : Int32)) rfl (by decide) ?_
    refine e_iadd (k := 5) rfl ?_
    refine e_goto (k := 6) (tgt := 13) rfl (by decide) ?_
    refine e_sub (lv' := [(0, .ref (gR g 40)), (2, .int a1)]) [0, 2] rfl ?_
    exact s_X9_writeLetter_13 hg h
def il_J0_indexOf_0f7a4 : List (Nat × Instr × Nat) := [(0, .aload_n 0, 1), (1, .iload_n 1, 1), (2, .iconst 0, 1), (3, .invokevirtual 633, 3), (6, .ireturn, 1)]
set_option maxRecDepth 20000 in
theorem il_J0_indexOf_0f7a4_ok : ∀ x ∈ il_J0_indexOf_0f7a4, decode cJ0_indexOf_0f7a4 x.1 = .ok x.2 := by decide +kernel
abbrev me_J0_indexOf_0f7a4 : Me := (RJ0, il_J0_indexOf_0f7a4, 2, (some .int), xRoom 4, [])
def w_J0_indexOf_0f7a4 (n : Nat) (q : Nat) (a0 : Int32) (u0 : Mm) (Q : Int32 → Mm → Prop) : Prop :=
  w_J0_indexOf_7cf53 n q a0 (0 : Int32) u0 (fun r1 u1 =>
  Q r1 u1)
set_option maxRecDepth 20000 in
theorem c_J0_indexOf_0f7a4 {g : Gb} (hg : xInj g) {n : Nat} {q : Nat} {a0 : Int32} (hq : q < xtx.length) {u0 : Mm} {Q : Int32 → Mm → Prop} (h : w_J0_indexOf_0f7a4 n q a0 u0 Q) : xMet (gL g) yJ0_indexOf_0f7a4 (xws yJ0_indexOf_0f7a4 cJ0_indexOf_0f7a4 2 (some .int)) (xRoom 4) (xPc g [.ref (gK g q), .int a0] u0) (xQ g (pI g Q noT)) (xA g) := by
  refine xbody (il := il_J0_indexOf_0f7a4) hg il_J0_indexOf_0f7a4_ok m_J0_indexOf_0f7a4 (Nat.le_of_ble_eq_true rfl) ?_
  show xE g me_J0_indexOf_0f7a4 (pI g Q noT) 0 [(0, .ref (gK g q)), (1, .int a0)] [] u0
  unfold w_J0_indexOf_0f7a4 at h
  refine e_aload_n (k := 0) (i := 0) rfl rfl 0 rfl ?_
  refine e_iload_n (k := 1) (i := 1) rfl rfl 1 rfl ?_
  refine e_iconst (k := 2) (v := (0 : Int32)) rfl (by decide) ?_
  refine e_callKi (k := 3) (j := q) (As := [.int a0, .int (0 : Int32)]) (rest := []) rfl (c_J0_indexOf_7cf53 (g := g) hg (n := n) hq h) m_J0_indexOf_7cf53 i_J0_indexOf_7cf53 l_J0_633 hq rfl rfl rfl (Nat.le_of_ble_eq_true rfl) ⟨by decide, by decide, rfl, rfl⟩ (fun r1 u1 h => ?_)
  exact e_iret (k := 4) rfl rfl (Or.inl ⟨_, rfl, h⟩)
def il_X0_readMeter : List (Nat × Instr × Nat) := [(0, .aload_n 0, 1), (1, .iconst 0, 1), (2, .iconst 0, 1), (3, .invokevirtual 15, 3), (6, .aload_n 0, 1), (7, .getfield 9, 3), (10, .ldc 19, 2), (12, .invokevirtual 21, 3), (15, .ifCond .eq 4, 3), (18, .return_, 1), (19, .aload_n 0, 1), (20, .getfield 9, 3), (23, .ldc 27, 2), (25, .invokevirtual 21, 3), (28, .ifCond .eq 10, 3), (31, .aload_n 0, 1), (32, .iconst 2, 1), (33, .iconst 2, 1), (34, .invokevirtual 15, 3), (37, .return_, 1), (38, .aload_n 0, 1), (39, .getfield 9, 3), (42, .ldc 29, 2), (44, .invokevirtual 21, 3), (47, .ifCond .eq 10, 3), (50, .aload_n 0, 1), (51, .iconst 4, 1), (52, .iconst 4, 1), (53, .invokevirtual 15, 3), (56, .return_, 1), (57, .aload_n 0, 1), (58, .aload_n 0, 1), (59, .getfield 9, 3), (62, .bipush 32, 2), (64, .iconst 0, 1), (65, .invokevirtual 31, 3), (68, .putfield 35, 3), (71, .aload_n 0, 1), (72, .getfield 9, 3), (75, .getfield 38, 3), (78, .ifCond .eq 4, 3), (81, .return_, 1), (82, .aload_n 0, 1), (83, .getfield 9, 3), (86, .iconst 0, 1), (87, .invokevirtual 41, 3), (90, .bipush 47, 2), (92, .if_icmp .eq 19, 3), (95, .aload_n 0, 1), (96, .getfield 9, 3), (99, .iconst 1, 1), (100, .aload_n 0, 1), (101, .getfield 9, 3), (104, .getfield 45, 3), (107, .invokevirtual 48, 3), (110, .return_, 1), (111, .aload_n 0, 1), (112, .getfield 9, 3), (115, .dup, 1), (116, .getfield 45, 3), (119, .iconst 1, 1), (120, .iadd, 1), (121, .putfield 45, 3), (124, .aload_n 0, 1), (125, .aload_n 0, 1), (126, .getfield 9, 3), (129, .bipush 32, 2), (131, .iconst 1, 1), (132, .invokevirtual 31, 3), (135, .putfield 51, 3), (138, .return_, 1)]
set_option maxRecDepth 20000 in
theorem il_X0_readMeter_ok : ∀ x ∈ il_X0_readMeter, decode cX0_readMeter x.1 = .ok x.2 := by decide +kernel
abbrev me_X0_readMeter : Me := (RX0, il_X0_readMeter, 1, none, xRoom 4, [])
def w_X0_readMeter (n : Nat) (u0 : Mm) (Q : Mm → Prop) : Prop :=
  w_X0_setMeter n (0 : Int32) (0 : Int32) u0 (fun u1 =>
  w_X5_takeWord n 0 u1 (fun r1 u2 =>
  (r1 = 0 → w_X5_takeWord n 1 u2 (fun r2 u3 =>
  (r2 = 0 → w_X5_takeWord n 2 u3 (fun r3 u4 =>
  (r3 = 0 → w_X5_number n (32 : Int32) (0 : Int32) u4 (fun r4 u5 =>
  mlet (setI u5 34 1 r4) fun u6 =>
  ((u6.1 33 6) = 0 → w_X5_peek n (0 : Int32) u6 (fun r5 u7 =>
  (r5 = (47 : Int32) → mlet (setI u7 33 2 ((u7.1 33 2) + (1 : Int32))) fun u8 =>
  w_X5_number n (32 : Int32) (1 : Int32) u8 (fun r6 u9 =>
  mlet (setI u9 34 2 r6) fun u10 =>
  Q u10)) ∧
  (¬ r5 = (47 : Int32) → w_X5_fail n (1 : Int32) (u7.1 33 2) u7 (fun u11 =>
  Q u11)))) ∧
  (¬ (u6.1 33 6) = 0 → Q u6))) ∧
  (¬ r3 = 0 → w_X0_setMeter n (4 : Int32) (4 : Int32) u4 (fun u12 =>
  Q u12)))) ∧
  (¬ r2 = 0 → w_X0_setMeter n (2 : Int32) (2 : Int32) u3 (fun u13 =>
  Q u13)))) ∧
  (¬ r1 = 0 → Q u2)))
set_option maxRecDepth 20000 in
theorem c_X0_readMeter {g : Gb} (hg : xInj g) {n : Nat} {u0 : Mm} {Q : Mm → Prop} (h : w_X0_readMeter n u0 Q) : xMet (gL g) yX0_readMeter (xws yX0_readMeter cX0_readMeter 1 none) (xRoom 4) (xPc g [.ref (gR g 34)] u0) (xQ g (pV g Q noT)) (xA g) := by
  refine xbody (il := il_X0_readMeter) hg il_X0_readMeter_ok m_X0_readMeter (Nat.le_of_ble_eq_true rfl) ?_
  show xE g me_X0_readMeter (pV g Q noT) 0 [(0, .ref (gR g 34))] [] u0
  unfold w_X0_readMeter at h
  refine e_aload_n (k := 0) (i := 0) rfl rfl 0 rfl ?_
  refine e_iconst (k := 1) (v := (0 : Int32)) rfl (by decide) ?_
  refine e_iconst (k := 2) (v := (0 : Int32)) rfl (by decide) ?_
  refine e_callVv (k := 3) (q := 34) (As := [.int (0 : Int32), .int (0 : Int32)]) (rest := []) rfl (c_X0_setMeter (g := g) hg (n := n) h) m_X0_setMeter i_X0_setMeter l_X0_15 rfl ⟨_, rfl, rfl⟩ rfl rfl (Nat.le_of_ble_eq_true rfl) ⟨by decide, by decide, rfl, rfl⟩ (fun _ h => h.elim) (fun u1 h => ?_)
  refine e_aload_n (k := 4) (i := 0) rfl rfl 0 rfl ?_
  refine e_getC (k := 5) rfl f_X0_9 rfl rfl ?_
  refine e_ldcS (k := 6) (j := 0) rfl rfl ?_
  refine e_callVi (k := 7) (q := 33) (As := [.ref (gK g 0)]) (rest := []) rfl (c_X5_takeWord (g := g) hg (n := n) (by decide) h) m_X5_takeWord i_X5_takeWord l_X0_21 rfl ⟨_, rfl, rfl⟩ rfl rfl (Nat.le_of_ble_eq_true rfl) ⟨by decide, by decide, rfl, rfl⟩ (fun _ h => h.elim) (fun r1 u2 h => ?_)
  refine e_if_eq (k := 8) (tgt := 19) rfl (by decide) (fun z => ?_) (fun z => ?_)
  · have h := h.1 z
    refine e_aload_n (k := 10) (i := 0) rfl rfl 0 rfl ?_
    refine e_getC (k := 11) rfl f_X0_9 rfl rfl ?_
    refine e_ldcS (k := 12) (j := 1) rfl rfl ?_
    refine e_callVi (k := 13) (q := 33) (As := [.ref (gK g 1)]) (rest := []) rfl (c_X5_takeWord (g := g) hg (n := n) (by decide) h) m_X5_takeWord i_X5_takeWord l_X0_21 rfl ⟨_, rfl, rfl⟩ rfl rfl (Nat.le_of_ble_eq_true rfl) ⟨by decide, by decide, rfl, rfl⟩ (fun _ h => h.elim) (fun r2 u3 h => ?_)
    refine e_if_eq (k := 14) (tgt := 38) rfl (by decide) (fun z => ?_) (fun z => ?_)
    · have h := h.1 z
      refine e_aload_n (k := 20) (i := 0) rfl rfl 0 rfl ?_
      refine e_getC (k := 21) rfl f_X0_9 rfl rfl ?_
      refine e_ldcS (k := 22) (j := 2) rfl rfl ?_
      refine e_callVi (k := 23) (q := 33) (As := [.ref (gK g 2)]) (rest := []) rfl (c_X5_takeWord (g := g) hg (n := n) (by decide) h) m_X5_takeWord i_X5_takeWord l_X0_21 rfl ⟨_, rfl, rfl⟩ rfl rfl (Nat.le_of_ble_eq_true rfl) ⟨by decide, by decide, rfl, rfl⟩ (fun _ h => h.elim) (fun r3 u4 h => ?_)
      refine e_if_eq (k := 24) (tgt := 57) rfl (by decide) (fun z => ?_) (fun z => ?_)
      · have h := h.1 z
        refine e_aload_n (k := 30) (i := 0) rfl rfl 0 rfl ?_
        refine e_aload_n (k := 31) (i := 0) rfl rfl 0 rfl ?_
        refine e_getC (k := 32) rfl f_X0_9 rfl rfl ?_
        refine e_bipush (k := 33) (v := (32 : Int32)) rfl (by decide) ?_
        refine e_iconst (k := 34) (v := (0 : Int32)) rfl (by decide) ?_
        refine e_callVi (k := 35) (q := 33) (As := [.int (32 : Int32), .int (0 : Int32)]) (rest := [.ref (gR g 34)]) rfl (c_X5_number (g := g) hg (n := n) h) m_X5_number i_X5_number l_X0_31 rfl ⟨_, rfl, rfl⟩ rfl rfl (Nat.le_of_ble_eq_true rfl) ⟨by decide, by decide, rfl, rfl⟩ (fun _ h => h.elim) (fun r4 u5 h => ?_)
        refine e_putI (k := 36) rfl fg_X0_35 rfl rfl ?_
        refine e_mlet h (fun u6 h => ?_)
        refine e_aload_n (k := 37) (i := 0) rfl rfl 0 rfl ?_
        refine e_getC (k := 38) rfl f_X0_9 rfl rfl ?_
        refine e_getI (k := 39) rfl f_X0_38 rfl rfl ?_
        refine e_if_eq (k := 40) (tgt := 82) rfl (by decide) (fun z => ?_) (fun z => ?_)
        · have h := h.1 z
          refine e_aload_n (k := 42) (i := 0) rfl rfl 0 rfl ?_
          refine e_getC (k := 43) rfl f_X0_9 rfl rfl ?_
          refine e_iconst (k := 44) (v := (0 : Int32)) rfl (by decide) ?_
          refine e_callVi (k := 45) (q := 33) (As := [.int (0 : Int32)]) (rest := []) rfl (c_X5_peek (g := g) hg (n := n) h) m_X5_peek i_X5_peek l_X0_41 rfl ⟨_, rfl, rfl⟩ rfl rfl (Nat.le_of_ble_eq_true rfl) ⟨by decide, by decide, rfl, rfl⟩ (fun _ h => h.elim) (fun r5 u7 h => ?_)
          refine e_bipush (k := 46) (v := (47 : Int32)) rfl (by decide) ?_
          refine e_icmp_eq (k := 47) (tgt := 111) rfl (by decide) (fun z => ?_) (fun z => ?_)
          · have h := h.1 z
            refine e_aload_n (k := 56) (i := 0) rfl rfl 0 rfl ?_
            refine e_getC (k := 57) rfl f_X0_9 rfl rfl ?_
            refine e_dup (k := 58) rfl rfl ?_
            refine e_getI (k := 59) rfl f_X0_45 rfl rfl ?_
            refine e_iconst (k := 60) (v := (1 : Int32)) rfl (by decide) ?_
            refine e_iadd (k := 61) rfl ?_
            refine e_putI (k := 62) rfl fg_X0_45 rfl rfl ?_
            refine e_mlet h (fun u8 h => ?_)
            refine e_aload_n (k := 63) (i := 0) rfl rfl 0 rfl ?_
            refine e_aload_n (k := 64) (i := 0) rfl rfl 0 rfl ?_
            refine e_getC (k := 65) rfl f_X0_9 rfl rfl ?_
            refine e_bipush (k := 66) (v := (32 : Int32)) rfl (by decide) ?_
            refine e_iconst (k := 67) (v := (1 : Int32)) rfl (by decide) ?_
            refine e_callVi (k := 68) (q := 33) (As := [.int (32 : Int32), .int (1 : Int32)]) (rest := [.ref (gR g 34)]) rfl (c_X5_number (g := g) hg (n := n) h) m_X5_number i_X5_number l_X0_31 rfl ⟨_, rfl, rfl⟩ rfl rfl (Nat.le_of_ble_eq_true rfl) ⟨by decide, by decide, rfl, rfl⟩ (fun _ h => h.elim) (fun r6 u9 h => ?_)
            refine e_putI (k := 69) rfl fg_X0_51 rfl rfl ?_
            refine e_mlet h (fun u10 h => ?_)
            exact e_vret (k := 70) rfl rfl (Or.inl ⟨rfl, h⟩)
          · have h := h.2 z
            refine e_aload_n (k := 48) (i := 0) rfl rfl 0 rfl ?_
            refine e_getC (k := 49) rfl f_X0_9 rfl rfl ?_
            refine e_iconst (k := 50) (v := (1 : Int32)) rfl (by decide) ?_
            refine e_aload_n (k := 51) (i := 0) rfl rfl 0 rfl ?_
            refine e_getC (k := 52) rfl f_X0_9 rfl rfl ?_
            refine e_getI (k := 53) rfl f_X0_45 rfl rfl ?_
            refine e_callVv (k := 54) (q := 33) (As := [.int (1 : Int32), .int (u7.1 33 2)]) (rest := []) rfl (c_X5_fail (g := g) hg (n := n) h) m_X5_fail i_X5_fail l_X0_48 rfl ⟨_, rfl, rfl⟩ rfl rfl (Nat.le_of_ble_eq_true rfl) ⟨by decide, by decide, rfl, rfl⟩ (fun _ h => h.elim) (fun u11 h => ?_)
            exact e_vret (k := 55) rfl rfl (Or.inl ⟨rfl, h⟩)
        · have h := h.2 z
          exact e_vret (k := 41) rfl rfl (Or.inl ⟨rfl, h⟩)
      · have h := h.2 z
        refine e_aload_n (k := 25) (i := 0) rfl rfl 0 rfl ?_
        refine e_iconst (k := 26) (v := (4 : Int32)) rfl (by decide) ?_
        refine e_iconst (k := 27) (v := (4 : Int32)) rfl (by decide) ?_
        refine e_callVv (k := 28) (q := 34) (As := [.int (4 : Int32), .int (4 : Int32)]) (rest := []) rfl (c_X0_setMeter (g := g) hg (n := n) h) m_X0_setMeter i_X0_setMeter l_X0_15 rfl ⟨_, rfl, rfl⟩ rfl rfl (Nat.le_of_ble_eq_true rfl) ⟨by decide, by decide, rfl, rfl⟩ (fun _ h => h.elim) (fun u12 h => ?_)
        exact e_vret (k := 29) rfl rfl (Or.inl ⟨rfl, h⟩)
    · have h := h.2 z
      refine e_aload_n (k := 15) (i := 0) rfl rfl 0 rfl ?_
      refine e_iconst (k := 16) (v := (2 : Int32)) rfl (by decide) ?_
      refine e_iconst (k := 17) (v := (2 : Int32)) rfl (by decide) ?_
      refine e_callVv (k := 18) (q := 34) (As := [.int (2 : Int32), .int (2 : Int32)]) (rest := []) rfl (c_X0_setMeter (g := g) hg (n := n) h) m_X0_setMeter i_X0_setMeter l_X0_15 rfl ⟨_, rfl, rfl⟩ rfl rfl (Nat.le_of_ble_eq_true rfl) ⟨by decide, by decide, rfl, rfl⟩ (fun _ h => h.elim) (fun u13 h => ?_)
      exact e_vret (k := 19) rfl rfl (Or.inl ⟨rfl, h⟩)
  · have h := h.2 z
    exact e_vret (k := 9) rfl rfl (Or.inl ⟨rfl, h⟩)
def il_X0_readMode : List (Nat × Instr × Nat) := [(0, .aload_n 0, 1), (1, .getfield 9, 3), (4, .ldc 80, 2), (6, .invokevirtual 21, 3), (9, .ifCond .ne 15, 3), (12, .aload_n 0, 1), (13, .getfield 9, 3), (16, .ldc 82, 2), (18, .invokevirtual 21, 3), (21, .ifCond .eq 5, 3), (24, .iconst 0, 1), (25, .ireturn, 1), (26, .aload_n 0, 1), (27, .getfield 9, 3), (30, .ldc 84, 2), (32, .invokevirtual 21, 3), (35, .ifCond .eq 6, 3), (38, .bipush (-2), 2), (40, .ireturn, 1), (41, .aload_n 0, 1), (42, .getfield 9, 3), (45, .ldc 86, 2), (47, .invokevirtual 21, 3), (50, .ifCond .eq 6, 3), (53, .bipush (-4), 2), (55, .ireturn, 1), (56, .aload_n 0, 1), (57, .getfield 9, 3), (60, .ldc 88, 2), (62, .invokevirtual 21, 3), (65, .ifCond .eq 5, 3), (68, .iconst 1, 1), (69, .ireturn, 1), (70, .aload_n 0, 1), (71, .getfield 9, 3), (74, .ldc 90, 2), (76, .invokevirtual 21, 3), (79, .ifCond .eq 5, 3), (82, .iconst (-1), 1), (83, .ireturn, 1), (84, .aload_n 0, 1), (85, .getfield 9, 3), (88, .ldc 92, 2), (90, .invokevirtual 21, 3), (93, .ifCond .eq 6, 3), (96, .bipush (-5), 2), (98, .ireturn, 1), (99, .aload_n 0, 1), (100, .getfield 9, 3), (103, .ldc 94, 2), (105, .invokevirtual 21, 3), (108, .ifCond .ne 27, 3), (111, .aload_n 0, 1), (112, .getfield 9, 3), (115, .ldc 96, 2), (117, .invokevirtual 21, 3), (120, .ifCond .ne 15, 3), (123, .aload_n 0, 1), (124, .getfield 9, 3), (127, .ldc 98, 2), (129, .invokevirtual 21, 3), (132, .ifCond .eq 8, 3), (135, .bipush (-3), 2), (137, .goto 4, 3), (140, .iconst 0, 1), (141, .ireturn, 1)]
set_option maxRecDepth 20000 in
theorem il_X0_readMode_ok : ∀ x ∈ il_X0_readMode, decode cX0_readMode x.1 = .ok x.2 := by decide +kernel
abbrev me_X0_readMode : Me := (RX0, il_X0_readMode, 1, (some .int), xRoom 4, [])
def w_X0_readMode_141 (n : Nat) (t0 : Int32) (u0 : Mm) (Q : Int32 → Mm → Prop) : Prop :=
  Q t0 u0
def w_X0_readMode_135 (n : Nat) (u0 : Mm) (Q : Int32 → Mm → Prop) : Prop :=
  w_X0_readMode_141 n (-3 : Int32) u0 Q
def w_X0_readMode_24 (n : Nat) (u0 : Mm) (Q : Int32 → Mm → Prop) : Prop :=
  Q (0 : Int32) u0
def w_X0_readMode (n : Nat) (u0 : Mm) (Q : Int32 → Mm → Prop) : Prop :=
  w_X5_takeWord n 6 u0 (fun r1 u1 =>
  (¬ r1 = 0 → w_X0_readMode_24 n u1 Q) ∧
  (r1 = 0 → w_X5_takeWord n 7 u1 (fun r2 u2 =>
  (r2 = 0 → w_X5_takeWord n 8 u2 (fun r3 u3 =>
  (r3 = 0 → w_X5_takeWord n 9 u3 (fun r4 u4 =>
  (r4 = 0 → w_X5_takeWord n 10 u4 (fun r5 u5 =>
  (r5 = 0 → w_X5_takeWord n 11 u5 (fun r6 u6 =>
  (r6 = 0 → w_X5_takeWord n 12 u6 (fun r7 u7 =>
  (r7 = 0 → w_X5_takeWord n 13 u7 (fun r8 u8 =>
  (¬ r8 = 0 → w_X0_readMode_135 n u8 Q) ∧
  (r8 = 0 → w_X5_takeWord n 14 u8 (fun r9 u9 =>
  (¬ r9 = 0 → w_X0_readMode_135 n u9 Q) ∧
  (r9 = 0 → w_X5_takeWord n 15 u9 (fun r10 u10 =>
  (r10 = 0 → w_X0_readMode_141 n (0 : Int32) u10 Q) ∧
  (¬ r10 = 0 → w_X0_readMode_135 n u10 Q))))))) ∧
  (¬ r7 = 0 → Q (-5 : Int32) u7))) ∧
  (¬ r6 = 0 → Q (-1 : Int32) u6))) ∧
  (¬ r5 = 0 → Q (1 : Int32) u5))) ∧
  (¬ r4 = 0 → Q (-4 : Int32) u4))) ∧
  (¬ r3 = 0 → Q (-2 : Int32) u3))) ∧
  (¬ r2 = 0 → w_X0_readMode_24 n u2 Q))))
set_option maxRecDepth 20000 in
theorem s_X0_readMode_141 {g : Gb} (hg : xInj g) {n : Nat} {Q : Int32 → Mm → Prop} {t0 : Int32} {u0 : Mm} (h : w_X0_readMode_141 n t0 u0 Q) : xE g me_X0_readMode (pI g Q noT) 141 [] [.int t0] u0 := by
  unfold w_X0_readMode_141 at h
  exact e_iret (k := 65) rfl rfl (Or.inl ⟨_, rfl, h⟩)
set_option maxRecDepth 20000 in
theorem s_X0_readMode_135 {g : Gb} (hg : xInj g) {n : Nat} {Q : Int32 → Mm → Prop} {u0 : Mm} (h : w_X0_readMode_135 n  u0 Q) : xE g me_X0_readMode (pI g Q noT) 135 [] [] u0 := by
  unfold w_X0_readMode_135 at h
  refine e_bipush (k := 62) (v := (-3 : Int32)) rfl (by decide) ?_
  refine e_goto (k := 63) (tgt := 141) rfl (by decide) ?_
  exact s_X0_readMode_141 hg h
set_option maxRecDepth 20000 in
theorem s_X0_readMode_24 {g : Gb} (hg : xInj g) {n : Nat} {Q : Int32 → Mm → Prop} {u0 : Mm} (h : w_X0_readMode_24 n  u0 Q) : xE g me_X0_readMode (pI g Q noT) 24 [] [] u0 := by
  unfold w_X0_readMode_24 at h
  refine e_iconst (k := 10) (v := (0 : Int32)) rfl (by decide) ?_
  exact e_iret (k := 11) rfl rfl (Or.inl ⟨_, rfl, h⟩)
set_option maxRecDepth 20000 in
theorem c_X0_readMode {g : Gb} (hg : xInj g) {n : Nat} {u0 : Mm} {Q : Int32 → Mm → Prop} (h : w_X0_readMode n u0 Q) : xMet (gL g) yX0_readMode (xws yX0_readMode cX0_readMode 1 (some .int)) (xRoom 4) (xPc g [.ref (gR g 34)] u0) (xQ g (pI g Q noT)) (xA g) := by
  refine xbody (il := il_X0_readMode) hg il_X0_readMode_ok m_X0_readMode (Nat.le_of_ble_eq_true rfl) ?_
  show xE g me_X0_readMode (pI g Q noT) 0 [(0, .ref (gR g 34))] [] u0
  unfold w_X0_readMode at h
  refine e_aload_n (k := 0) (i := 0) rfl rfl 0 rfl ?_
  refine e_getC (k := 1) rfl f_X0_9 rfl rfl ?_
  refine e_ldcS (k := 2) (j := 6) rfl rfl ?_
  refine e_callVi (k := 3) (q := 33) (As := [.ref (gK g 6)]) (rest := []) rfl (c_X5_takeWord (g := g) hg (n := n) (by decide) h) m_X5_takeWord i_X5_takeWord l_X0_21 rfl ⟨_, rfl, rfl⟩ rfl rfl (Nat.le_of_ble_eq_true rfl) ⟨by decide, by decide, rfl, rfl⟩ (fun _ h => h.elim) (fun r1 u1 h => ?_)
  refine e_if_ne (k := 4) (tgt := 24) rfl (by decide) (fun z => ?_) (fun z => ?_)
  · have h := h.1 z
    refine e_sub (lv' := []) [] rfl ?_
    exact s_X0_readMode_24 hg h
  · have h := h.2 z
    refine e_aload_n (k := 5) (i := 0) rfl rfl 0 rfl ?_
    refine e_getC (k := 6) rfl f_X0_9 rfl rfl ?_
    refine e_ldcS (k := 7) (j := 7) rfl rfl ?_
    refine e_callVi (k := 8) (q := 33) (As := [.ref (gK g 7)]) (rest := []) rfl (c_X5_takeWord (g := g) hg (n := n) (by decide) h) m_X5_takeWord i_X5_takeWord l_X0_21 rfl ⟨_, rfl, rfl⟩ rfl rfl (Nat.le_of_ble_eq_true rfl) ⟨by decide, by decide, rfl, rfl⟩ (fun _ h => h.elim) (fun r2 u2 h => ?_)
    refine e_if_eq (k := 9) (tgt := 26) rfl (by decide) (fun z => ?_) (fun z => ?_)
    · have h := h.1 z
      refine e_aload_n (k := 12) (i := 0) rfl rfl 0 rfl ?_
      refine e_getC (k := 13) rfl f_X0_9 rfl rfl ?_
      refine e_ldcS (k := 14) (j := 8) rfl rfl ?_
      refine e_callVi (k := 15) (q := 33) (As := [.ref (gK g 8)]) (rest := []) rfl (c_X5_takeWord (g := g) hg (n := n) (by decide) h) m_X5_takeWord i_X5_takeWord l_X0_21 rfl ⟨_, rfl, rfl⟩ rfl rfl (Nat.le_of_ble_eq_true rfl) ⟨by decide, by decide, rfl, rfl⟩ (fun _ h => h.elim) (fun r3 u3 h => ?_)
      refine e_if_eq (k := 16) (tgt := 41) rfl (by decide) (fun z => ?_) (fun z => ?_)
      · have h := h.1 z
        refine e_aload_n (k := 19) (i := 0) rfl rfl 0 rfl ?_
        refine e_getC (k := 20) rfl f_X0_9 rfl rfl ?_
        refine e_ldcS (k := 21) (j := 9) rfl rfl ?_
        refine e_callVi (k := 22) (q := 33) (As := [.ref (gK g 9)]) (rest := []) rfl (c_X5_takeWord (g := g) hg (n := n) (by decide) h) m_X5_takeWord i_X5_takeWord l_X0_21 rfl ⟨_, rfl, rfl⟩ rfl rfl (Nat.le_of_ble_eq_true rfl) ⟨by decide, by decide, rfl, rfl⟩ (fun _ h => h.elim) (fun r4 u4 h => ?_)
        refine e_if_eq (k := 23) (tgt := 56) rfl (by decide) (fun z => ?_) (fun z => ?_)
        · have h := h.1 z
          refine e_aload_n (k := 26) (i := 0) rfl rfl 0 rfl ?_
          refine e_getC (k := 27) rfl f_X0_9 rfl rfl ?_
          refine e_ldcS (k := 28) (j := 10) rfl rfl ?_
          refine e_callVi (k := 29) (q := 33) (As := [.ref (gK g 10)]) (rest := []) rfl (c_X5_takeWord (g := g) hg (n := n) (by decide) h) m_X5_takeWord i_X5_takeWord l_X0_21 rfl ⟨_, rfl, rfl⟩ rfl rfl (Nat.le_of_ble_eq_true rfl) ⟨by decide, by decide, rfl, rfl⟩ (fun _ h => h.elim) (fun r5 u5 h => ?_)
          refine e_if_eq (k := 30) (tgt := 70) rfl (by decide) (fun z => ?_) (fun z => ?_)
          · have h := h.1 z
            refine e_aload_n (k := 33) (i := 0) rfl rfl 0 rfl ?_
            refine e_getC (k := 34) rfl f_X0_9 rfl rfl ?_
            refine e_ldcS (k := 35) (j := 11) rfl rfl ?_
            refine e_callVi (k := 36) (q := 33) (As := [.ref (gK g 11)]) (rest := []) rfl (c_X5_takeWord (g := g) hg (n := n) (by decide) h) m_X5_takeWord i_X5_takeWord l_X0_21 rfl ⟨_, rfl, rfl⟩ rfl rfl (Nat.le_of_ble_eq_true rfl) ⟨by decide, by decide, rfl, rfl⟩ (fun _ h => h.elim) (fun r6 u6 h => ?_)
            refine e_if_eq (k := 37) (tgt := 84) rfl (by decide) (fun z => ?_) (fun z => ?_)
            · have h := h.1 z
              refine e_aload_n (k := 40) (i := 0) rfl rfl 0 rfl ?_
              refine e_getC (k := 41) rfl f_X0_9 rfl rfl ?_
              refine e_ldcS (k := 42) (j := 12) rfl rfl ?_
              refine e_callVi (k := 43) (q := 33) (As := [.ref (gK g 12)]) (rest := []) rfl (c_X5_takeWord (g := g) hg (n := n) (by decide) h) m_X5_takeWord i_X5_takeWord l_X0_21 rfl ⟨_, rfl, rfl⟩ rfl rfl (Nat.le_of_ble_eq_true rfl) ⟨by decide, by decide, rfl, rfl⟩ (fun _ h => h.elim) (fun r7 u7 h => ?_)
              refine e_if_eq (k := 44) (tgt := 99) rfl (by decide) (fun z => ?_) (fun z => ?_)
              · have h := h.1 z
                refine e_aload_n (k := 47) (i := 0) rfl rfl 0 rfl ?_
                refine e_getC (k := 48) rfl f_X0_9 rfl rfl ?_
                refine e_ldcS (k := 49) (j := 13) rfl rfl ?_
                refine e_callVi (k := 50) (q := 33) (As := [.ref (gK g 13)]) (rest := []) rfl (c_X5_takeWord (g := g) hg (n := n) (by decide) h) m_X5_takeWord i_X5_takeWord l_X0_21 rfl ⟨_, rfl, rfl⟩ rfl rfl (Nat.le_of_ble_eq_true rfl) ⟨by decide, by decide, rfl, rfl⟩ (fun _ h => h.elim) (fun r8 u8 h => ?_)
                refine e_if_ne (k := 51) (tgt := 135) rfl (by decide) (fun z => ?_) (fun z => ?_)
                · have h := h.1 z
                  refine e_sub (lv' := []) [] rfl ?_
                  exact s_X0_readMode_135 hg h
                · have h := h.2 z
                  refine e_aload_n (k := 52) (i := 0) rfl rfl 0 rfl ?_
                  refine e_getC (k := 53) rfl f_X0_9 rfl rfl ?_
                  refine e_ldcS (k := 54) (j := 14) rfl rfl ?_
                  refine e_callVi (k := 55) (q := 33) (As := [.ref (gK g 14)]) (rest := []) rfl (c_X5_takeWord (g := g) hg (n := n) (by decide) h) m_X5_takeWord i_X5_takeWord l_X0_21 rfl ⟨_, rfl, rfl⟩ rfl rfl (Nat.le_of_ble_eq_true rfl) ⟨by decide, by decide, rfl, rfl⟩ (fun _ h => h.elim) (fun r9 u9 h => ?_)
                  refine e_if_ne (k := 56) (tgt := 135) rfl (by decide) (fun z => ?_) (fun z => ?_)
                  · have h := h.1 z
                    refine e_sub (lv' := []) [] rfl ?_
                    exact s_X0_readMode_135 hg h
                  · have h := h.2 z
                    refine e_aload_n (k := 57) (i := 0) rfl rfl 0 rfl ?_
                    refine e_getC (k := 58) rfl f_X0_9 rfl rfl ?_
                    refine e_ldcS (k := 59) (j := 15) rfl rfl ?_
                    refine e_callVi (k := 60) (q := 33) (As := [.ref (gK g 15)]) (rest := []) rfl (c_X5_takeWord (g := g) hg (n := n) (by decide) h) m_X5_takeWord i_X5_takeWord l_X0_21 rfl ⟨_, rfl, rfl⟩ rfl rfl (Nat.le_of_ble_eq_true rfl) ⟨by decide, by decide, rfl, rfl⟩ (fun _ h => h.elim) (fun r10 u10 h => ?_)
                    refine e_if_eq (k := 61) (tgt := 140) rfl (by decide) (fun z => ?_) (fun z => ?_)
                    · have h := h.1 z
                      refine e_iconst (k := 64) (v := (0 : Int32)) rfl (by decide) ?_
                      refine e_sub (lv' := []) [] rfl ?_
                      exact s_X0_readMode_141 hg h
                    · have h := h.2 z
                      refine e_sub (lv' := []) [] rfl ?_
                      exact s_X0_readMode_135 hg h
              · have h := h.2 z
                refine e_bipush (k := 45) (v := (-5 : Int32)) rfl (by decide) ?_
                exact e_iret (k := 46) rfl rfl (Or.inl ⟨_, rfl, h⟩)
            · have h := h.2 z
              refine e_iconst (k := 38) (v := (-1 : Int32)) rfl (by decide) ?_
              exact e_iret (k := 39) rfl rfl (Or.inl ⟨_, rfl, h⟩)
          · have h := h.2 z
            refine e_iconst (k := 31) (v := (1 : Int32)) rfl (by decide) ?_
            exact e_iret (k := 32) rfl rfl (Or.inl ⟨_, rfl, h⟩)
        · have h := h.2 z
          refine e_bipush (k := 24) (v := (-4 : Int32)) rfl (by decide) ?_
          exact e_iret (k := 25) rfl rfl (Or.inl ⟨_, rfl, h⟩)
      · have h := h.2 z
        refine e_bipush (k := 17) (v := (-2 : Int32)) rfl (by decide) ?_
        exact e_iret (k := 18) rfl rfl (Or.inl ⟨_, rfl, h⟩)
    · have h := h.2 z
      refine e_sub (lv' := []) [] rfl ?_
      exact s_X0_readMode_24 hg h
def il_X12_beginsTimed : List (Nat × Instr × Nat) := [(0, .aload_n 0, 1), (1, .invokevirtual 162, 3), (4, .istore_n 1, 1), (5, .iload_n 1, 1), (6, .bipush 91, 2), (8, .if_icmp .ne 21, 3), (11, .aload_n 0, 1), (12, .invokevirtual 377, 3), (15, .ifCond .ne 14, 3), (18, .aload_n 0, 1), (19, .invokevirtual 381, 3), (22, .ifCond .ne 7, 3), (25, .iconst 1, 1), (26, .goto 4, 3), (29, .iconst 0, 1), (30, .istore_n 2, 1), (31, .aload_n 0, 1), (32, .invokevirtual 384, 3), (35, .ifCond .ne 19, 3), (38, .iload_n 1, 1), (39, .bipush 122, 2), (41, .if_icmp .eq 13, 3), (44, .iload_n 1, 1), (45, .bipush 120, 2), (47, .if_icmp .eq 7, 3), (50, .iload_n 2, 1), (51, .ifCond .eq 7, 3), (54, .iconst 1, 1), (55, .goto 4, 3), (58, .iconst 0, 1), (59, .ireturn, 1)]
set_option maxRecDepth 20000 in
theorem il_X12_beginsTimed_ok : ∀ x ∈ il_X12_beginsTimed, decode cX12_beginsTimed x.1 = .ok x.2 := by decide +kernel
abbrev me_X12_beginsTimed : Me := (RX12, il_X12_beginsTimed, 3, (some .boolean), xRoom 4, [])
def w_X12_beginsTimed_59 (n : Nat) (t0 : Int32) (u0 : Mm) (Q : Int32 → Mm → Prop) (T : Mm → Prop) : Prop :=
  narrow .boolean (.int t0) = .int t0 ∧ Q t0 u0
def w_X12_beginsTimed_54 (n : Nat) (u0 : Mm) (Q : Int32 → Mm → Prop) (T : Mm → Prop) : Prop :=
  w_X12_beginsTimed_59 n (1 : Int32) u0 Q T
def w_X12_beginsTimed_30 (n : Nat) (x1 : Int32) (t0 : Int32) (u0 : Mm) (Q : Int32 → Mm → Prop) (T : Mm → Prop) : Prop :=
  w_X12_beginsNote n u0 (fun r1 u1 =>
  (¬ r1 = 0 → w_X12_beginsTimed_54 n u1 Q T) ∧
  (r1 = 0 → (x1 = (122 : Int32) → w_X12_beginsTimed_54 n u1 Q T) ∧
  (¬ x1 = (122 : Int32) → (x1 = (120 : Int32) → w_X12_beginsTimed_54 n u1 Q T) ∧
  (¬ x1 = (120 : Int32) → (t0 = 0 → w_X12_beginsTimed_59 n (0 : Int32) u1 Q T) ∧
  (¬ t0 = 0 → w_X12_beginsTimed_54 n u1 Q T))))) T
def w_X12_beginsTimed_29 (n : Nat) (x1 : Int32) (u0 : Mm) (Q : Int32 → Mm → Prop) (T : Mm → Prop) : Prop :=
  w_X12_beginsTimed_30 n x1 (0 : Int32) u0 Q T
def w_X12_beginsTimed (n : Nat) (u0 : Mm) (Q : Int32 → Mm → Prop) (T : Mm → Prop) : Prop :=
  w_X12_here n u0 (fun r1 u1 =>
  (¬ r1 = (91 : Int32) → w_X12_beginsTimed_29 n r1 u1 Q T) ∧
  (r1 = (91 : Int32) → w_X12_isBarHere n u1 (fun r2 u2 =>
  (¬ r2 = 0 → w_X12_beginsTimed_29 n r1 u2 Q T) ∧
  (r2 = 0 → w_X12_isFieldHere n u2 (fun r3 u3 =>
  (¬ r3 = 0 → w_X12_beginsTimed_29 n r1 u3 Q T) ∧
  (r3 = 0 → w_X12_beginsTimed_30 n r1 (1 : Int32) u3 Q T)) T)) T)) T
set_option maxRecDepth 20000 in
theorem s_X12_beginsTimed_59 {g : Gb} (hg : xInj g) {n : Nat} {Q : Int32 → Mm → Prop} {T : Mm → Prop} {t0 : Int32} {u0 : Mm} (h : w_X12_beginsTimed_59 n t0 u0 Q T) : xE g me_X12_beginsTimed (pI g Q T) 59 [] [.int t0] u0 := by
  unfold w_X12_beginsTimed_59 at h
  exact e_zret (k := 30) rfl rfl h.1 (Or.inl ⟨_, rfl, h.2⟩)
set_option maxRecDepth 20000 in
theorem s_X12_beginsTimed_54 {g : Gb} (hg : xInj g) {n : Nat} {Q : Int32 → Mm → Prop} {T : Mm → Prop} {u0 : Mm} (h : w_X12_beginsTimed_54 n  u0 Q T) : xE g me_X12_beginsTimed (pI g Q T) 54 [] [] u0 := by
  unfold w_X12_beginsTimed_54 at h
  refine e_iconst (k := 27) (v := (1 : Int32)) rfl (by decide) ?_
  refine e_goto (k := 28) (tgt := 59) rfl (by decide) ?_
  exact s_X12_beginsTimed_59 hg h
set_option maxRecDepth 20000 in
theorem s_X12_beginsTimed_30 {g : Gb} (hg : xInj g) {n : Nat} {Q : Int32 → Mm → Prop} {T : Mm → Prop} {x1 : Int32} {t0 : Int32} {u0 : Mm} (h : w_X12_beginsTimed_30 n x1 t0 u0 Q T) : xE g me_X12_beginsTimed (pI g Q T) 30 [(0, .ref (gR g 0)), (1, .int x1)] [.int t0] u0 := by
  unfold w_X12_beginsTimed_30 at h
  refine e_istore_n (k := 15) (i := 2) (lv' := [(0, .ref (gR g 0)), (1, .int x1), (2, .int t0)]) rfl rfl (by decide) [1, 2, 0] rfl ?_
  refine e_aload_n (k := 16) (i := 0) rfl rfl 0 rfl ?_
  refine e_callVi (k := 17) (q := 0) (As := []) (rest := []) rfl (c_X12_beginsNote (g := g) hg (n := n) h) m_X12_beginsNote i_X12_beginsNote l_X12_384 rfl ⟨_, rfl, rfl⟩ rfl rfl (Nat.le_of_ble_eq_true rfl) ⟨by decide, by decide, rfl, rfl⟩ (fun _ h => ⟨fun _ z => (by cases z), Or.inr ⟨rfl, h⟩⟩) (fun r1 u1 h => ?_)
  refine e_if_ne (k := 18) (tgt := 54) rfl (by decide) (fun z => ?_) (fun z => ?_)
  · have h := h.1 z
    refine e_sub (lv' := []) [] rfl ?_
    exact s_X12_beginsTimed_54 hg h
  · have h := h.2 z
    refine e_iload_n (k := 19) (i := 1) rfl rfl 1 rfl ?_
    refine e_bipush (k := 20) (v := (122 : Int32)) rfl (by decide) ?_
    refine e_icmp_eq (k := 21) (tgt := 54) rfl (by decide) (fun z => ?_) (fun z => ?_)
    · have h := h.1 z
      refine e_sub (lv' := []) [] rfl ?_
      exact s_X12_beginsTimed_54 hg h
    · have h := h.2 z
      refine e_iload_n (k := 22) (i := 1) rfl rfl 1 rfl ?_
      refine e_bipush (k := 23) (v := (120 : Int32)) rfl (by decide) ?_
      refine e_icmp_eq (k := 24) (tgt := 54) rfl (by decide) (fun z => ?_) (fun z => ?_)
      · have h := h.1 z
        refine e_sub (lv' := []) [] rfl ?_
        exact s_X12_beginsTimed_54 hg h
      · have h := h.2 z
        refine e_iload_n (k := 25) (i := 2) rfl rfl 2 rfl ?_
        refine e_if_eq (k := 26) (tgt := 58) rfl (by decide) (fun z => ?_) (fun z => ?_)
        · have h := h.1 z
          refine e_iconst (k := 29) (v := (0 : Int32)) rfl (by decide) ?_
          refine e_sub (lv' := []) [] rfl ?_
          exact s_X12_beginsTimed_59 hg h
        · have h := h.2 z
          refine e_sub (lv' := []) [] rfl ?_
          exact s_X12_beginsTimed_54 hg h
set_option maxRecDepth 20000 in
theorem s_X12_beginsTimed_29 {g : Gb} (hg : xInj g) {n : Nat} {Q : Int32 → Mm → Prop} {T : Mm → Prop} {x1 : Int32} {u0 : Mm} (h : w_X12_beginsTimed_29 n x1 u0 Q T) : xE g me_X12_beginsTimed (pI g Q T) 29 [(0, .ref (gR g 0)), (1, .int x1)] [] u0 := by
  unfold w_X12_beginsTimed_29 at h
  refine e_iconst (k := 14) (v := (0 : Int32)) rfl (by decide) ?_
  exact s_X12_beginsTimed_30 hg h
set_option maxRecDepth 20000 in
theorem c_X12_beginsTimed {g : Gb} (hg : xInj g) {n : Nat} {u0 : Mm} {Q : Int32 → Mm → Prop} {T : Mm → Prop} (h : w_X12_beginsTimed n u0 Q T) : xMet (gL g) yX12_beginsTimed (xws yX12_beginsTimed cX12_beginsTimed 3 (some .boolean)) (xRoom 4) (xPc g [.ref (gR g 0)] u0) (xQ g (pI g Q T)) (xA g) := by
  refine xbody (il := il_X12_beginsTimed) hg il_X12_beginsTimed_ok m_X12_beginsTimed (Nat.le_of_ble_eq_true rfl) ?_
  show xE g me_X12_beginsTimed (pI g Q T) 0 [(0, .ref (gR g 0))] [] u0
  unfold w_X12_beginsTimed at h
  refine e_aload_n (k := 0) (i := 0) rfl rfl 0 rfl ?_
  refine e_callVi (k := 1) (q := 0) (As := []) (rest := []) rfl (c_X12_here (g := g) hg (n := n) h) m_X12_here i_X12_here l_X12_162 rfl ⟨_, rfl, rfl⟩ rfl rfl (Nat.le_of_ble_eq_true rfl) ⟨by decide, by decide, rfl, rfl⟩ (fun _ h => ⟨fun _ z => (by cases z), Or.inr ⟨rfl, h⟩⟩) (fun r1 u1 h => ?_)
  refine e_istore_n (k := 2) (i := 1) (lv' := [(0, .ref (gR g 0)), (1, .int r1)]) rfl rfl (by decide) [1, 0] rfl ?_
  refine e_iload_n (k := 3) (i := 1) rfl rfl 1 rfl ?_
  refine e_bipush (k := 4) (v := (91 : Int32)) rfl (by decide) ?_
  refine e_icmp_ne (k := 5) (tgt := 29) rfl (by decide) (fun z => ?_) (fun z => ?_)
  · have h := h.1 z
    exact s_X12_beginsTimed_29 hg h
  · have h := h.2 z
    refine e_aload_n (k := 6) (i := 0) rfl rfl 0 rfl ?_
    refine e_callVi (k := 7) (q := 0) (As := []) (rest := []) rfl (c_X12_isBarHere (g := g) hg (n := n) h) m_X12_isBarHere i_X12_isBarHere l_X12_377 rfl ⟨_, rfl, rfl⟩ rfl rfl (Nat.le_of_ble_eq_true rfl) ⟨by decide, by decide, rfl, rfl⟩ (fun _ h => ⟨fun _ z => (by cases z), Or.inr ⟨rfl, h⟩⟩) (fun r2 u2 h => ?_)
    refine e_if_ne (k := 8) (tgt := 29) rfl (by decide) (fun z => ?_) (fun z => ?_)
    · have h := h.1 z
      exact s_X12_beginsTimed_29 hg h
    · have h := h.2 z
      refine e_aload_n (k := 9) (i := 0) rfl rfl 0 rfl ?_
      refine e_callVi (k := 10) (q := 0) (As := []) (rest := []) rfl (c_X12_isFieldHere (g := g) hg (n := n) h) m_X12_isFieldHere i_X12_isFieldHere l_X12_381 rfl ⟨_, rfl, rfl⟩ rfl rfl (Nat.le_of_ble_eq_true rfl) ⟨by decide, by decide, rfl, rfl⟩ (fun _ h => ⟨fun _ z => (by cases z), Or.inr ⟨rfl, h⟩⟩) (fun r3 u3 h => ?_)
      refine e_if_ne (k := 11) (tgt := 29) rfl (by decide) (fun z => ?_) (fun z => ?_)
      · have h := h.1 z
        exact s_X12_beginsTimed_29 hg h
      · have h := h.2 z
        refine e_iconst (k := 12) (v := (1 : Int32)) rfl (by decide) ?_
        refine e_goto (k := 13) (tgt := 30) rfl (by decide) ?_
        exact s_X12_beginsTimed_30 hg h
