/-! methods (by program) -/
def il_X12_readUnit : List (Nat × Instr × Nat) := [(0, .aload_n 0, 1), (1, .bipush 49, 2), (3, .invokevirtual 211, 3), (6, .aload_n 0, 1), (7, .bipush 47, 2), (9, .invokevirtual 211, 3), (12, .aload_n 0, 1), (13, .getfield 138, 3), (16, .istore_n 1, 1), (17, .aload_n 0, 1), (18, .iconst 1, 1), (19, .bipush 64, 2), (21, .iload_n 1, 1), (22, .invokevirtual 207, 3), (25, .istore_n 2, 1), (26, .iload_n 2, 1), (27, .bipush 64, 2), (29, .invokestatic 215, 3), (32, .ifCond .ne 9, 3), (35, .aload_n 0, 1), (36, .iconst 1, 1), (37, .iload_n 1, 1), (38, .invokevirtual 148, 3), (41, .iload_n 2, 1), (42, .ireturn, 1)]
set_option maxRecDepth 20000 in
theorem il_X12_readUnit_ok : ∀ x ∈ il_X12_readUnit, decode cX12_readUnit x.1 = .ok x.2 := by decide +kernel
abbrev me_X12_readUnit : Me := (RX12, il_X12_readUnit, 3, (some .int), xRoom 5, [])
def w_X12_readUnit_41 (n : Nat) (x2 : Int32) (u0 : Mm) (Q : Int32 → Mm → Prop) (T : Mm → Prop) : Prop :=
  Q x2 u0
def w_X12_readUnit (n : Nat) (u0 : Mm) (Q : Int32 → Mm → Prop) (T : Mm → Prop) : Prop :=
  w_X12_must n (49 : Int32) u0 (fun u1 =>
  w_X12_must n (47 : Int32) u1 (fun u2 =>
  ilet (u2.1 0 7) fun y1 =>
  w_X12_numberOf n (1 : Int32) (64 : Int32) y1 u2 (fun r1 u3 =>
  w_X12_isPower n r1 (64 : Int32) u3 (fun r2 u4 =>
  (¬ r2 = 0 → w_X12_readUnit_41 n r1 u4 Q T) ∧
  (r2 = 0 → w_X12_fail n (1 : Int32) y1 u4 (fun u5 =>
  w_X12_readUnit_41 n r1 u5 Q T) T)) T) T) T) T
set_option maxRecDepth 20000 in
theorem s_X12_readUnit_41 {g : Gb} (hg : xInj g) {n : Nat} {Q : Int32 → Mm → Prop} {T : Mm → Prop} {x2 : Int32} {u0 : Mm} (h : w_X12_readUnit_41 n x2 u0 Q T) : xE g me_X12_readUnit (pI g Q T) 41 [(2, .int x2)] [] u0 := by
  unfold w_X12_readUnit_41 at h
  refine e_iload_n (k := 23) (i := 2) rfl rfl 0 rfl ?_
  exact e_iret (k := 24) rfl rfl (Or.inl ⟨_, rfl, h⟩)
set_option maxRecDepth 20000 in
theorem c_X12_readUnit {g : Gb} (hg : xInj g) {n : Nat} {u0 : Mm} {Q : Int32 → Mm → Prop} {T : Mm → Prop} (h : w_X12_readUnit n u0 Q T) : xMet (gL g) yX12_readUnit (xws yX12_readUnit cX12_readUnit 3 (some .int)) (xRoom 5) (xPc g [.ref (gR g 0)] u0) (xQ g (pI g Q T)) (xA g) := by
  refine xbody (il := il_X12_readUnit) hg il_X12_readUnit_ok m_X12_readUnit (Nat.le_of_ble_eq_true rfl) ?_
  show xE g me_X12_readUnit (pI g Q T) 0 [(0, .ref (gR g 0))] [] u0
  unfold w_X12_readUnit at h
  refine e_aload_n (k := 0) (i := 0) rfl rfl 0 rfl ?_
  refine e_bipush (k := 1) (v := (49 : Int32)) rfl (by decide) ?_
  refine e_callVv (k := 2) (q := 0) (As := [.int (49 : Int32)]) (rest := []) rfl (c_X12_must (g := g) hg (n := n) h) m_X12_must i_X12_must l_X12_211 rfl ⟨_, rfl, rfl⟩ rfl rfl (Nat.le_of_ble_eq_true rfl) ⟨by decide, by decide, rfl, rfl⟩ (fun _ h => ⟨fun _ z => (by cases z), Or.inr ⟨rfl, h⟩⟩) (fun u1 h => ?_)
  refine e_aload_n (k := 3) (i := 0) rfl rfl 0 rfl ?_
  refine e_bipush (k := 4) (v := (47 : Int32)) rfl (by decide) ?_
  refine e_callVv (k := 5) (q := 0) (As := [.int (47 : Int32)]) (rest := []) rfl (c_X12_must (g := g) hg (n := n) h) m_X12_must i_X12_must l_X12_211 rfl ⟨_, rfl, rfl⟩ rfl rfl (Nat.le_of_ble_eq_true rfl) ⟨by decide, by decide, rfl, rfl⟩ (fun _ h => ⟨fun _ z => (by cases z), Or.inr ⟨rfl, h⟩⟩) (fun u2 h => ?_)
  refine e_aload_n (k := 6) (i := 0) rfl rfl 0 rfl ?_
  refine e_getI (k := 7) rfl f_X12_138 rfl rfl ?_
  refine e_ilet h (fun y1 h => ?_)
  refine e_istore_n (k := 8) (i := 1) (lv' := [(0, .ref (gR g 0)), (1, .int y1)]) rfl rfl (by decide) [1, 0] rfl ?_
  refine e_aload_n (k := 9) (i := 0) rfl rfl 0 rfl ?_
  refine e_iconst (k := 10) (v := (1 : Int32)) rfl (by decide) ?_
  refine e_bipush (k := 11) (v := (64 : Int32)) rfl (by decide) ?_
  refine e_iload_n (k := 12) (i := 1) rfl rfl 1 rfl ?_
  refine e_callVi (k := 13) (q := 0) (As := [.int (1 : Int32), .int (64 : Int32), .int y1]) (rest := []) rfl (c_X12_numberOf (g := g) hg (n := n) h) m_X12_numberOf i_X12_numberOf l_X12_207 rfl ⟨_, rfl, rfl⟩ rfl rfl (Nat.le_of_ble_eq_true rfl) ⟨by decide, by decide, rfl, rfl⟩ (fun _ h => ⟨fun _ z => (by cases z), Or.inr ⟨rfl, h⟩⟩) (fun r1 u3 h => ?_)
  refine e_istore_n (k := 14) (i := 2) (lv' := [(0, .ref (gR g 0)), (1, .int y1), (2, .int r1)]) rfl rfl (by decide) [1, 2, 0] rfl ?_
  refine e_iload_n (k := 15) (i := 2) rfl rfl 2 rfl ?_
  refine e_bipush (k := 16) (v := (64 : Int32)) rfl (by decide) ?_
  refine e_callSi (k := 17) (As := [.int r1, .int (64 : Int32)]) (rest := []) rfl (c_X12_isPower (g := g) hg (n := n) h) m_X12_isPower st_X12_isPower l_X12_215 rfl rfl (Nat.le_of_ble_eq_true rfl) ⟨by decide, by decide, rfl, rfl⟩ (fun _ h => ⟨fun _ z => (by cases z), Or.inr ⟨rfl, h⟩⟩) (fun r2 u4 h => ?_)
  refine e_if_ne (k := 18) (tgt := 41) rfl (by decide) (fun z => ?_) (fun z => ?_)
  · have h := h.1 z
    refine e_sub (lv' := [(2, .int r1)]) [2] rfl ?_
    exact s_X12_readUnit_41 hg h
  · have h := h.2 z
    refine e_aload_n (k := 19) (i := 0) rfl rfl 0 rfl ?_
    refine e_iconst (k := 20) (v := (1 : Int32)) rfl (by decide) ?_
    refine e_iload_n (k := 21) (i := 1) rfl rfl 1 rfl ?_
    refine e_callVv (k := 22) (q := 0) (As := [.int (1 : Int32), .int y1]) (rest := []) rfl (c_X12_fail (g := g) hg (n := n) h) m_X12_fail i_X12_fail l_X12_148 rfl ⟨_, rfl, rfl⟩ rfl rfl (Nat.le_of_ble_eq_true rfl) ⟨by decide, by decide, rfl, rfl⟩ (fun _ h => ⟨fun _ z => (by cases z), Or.inr ⟨rfl, h⟩⟩) (fun u5 h => ?_)
    refine e_sub (lv' := [(2, .int r1)]) [2] rfl ?_
    exact s_X12_readUnit_41 hg h
def il_X4_formHere : List (Nat × Instr × Nat) := [(0, .aload_n 0, 1), (1, .getfield 9, 3), (4, .iconst 0, 1), (5, .invokevirtual 126, 3), (8, .istore_n 1, 1), (9, .aload_n 0, 1), (10, .getfield 9, 3), (13, .iconst 1, 1), (14, .invokevirtual 126, 3), (17, .istore_n 2, 1), (18, .iload_n 1, 1), (19, .ifCond .ge 5, 3), (22, .iconst 0, 1), (23, .ireturn, 1), (24, .ldc 237, 2), (26, .iload_n 1, 1), (27, .i2c, 1), (28, .invokevirtual 239, 3), (31, .ifCond .lt 5, 3), (34, .iconst 1, 1), (35, .ireturn, 1), (36, .ldc 244, 2), (38, .iload_n 1, 1), (39, .i2c, 1), (40, .invokevirtual 239, 3), (43, .ifCond .lt 6, 3), (46, .bipush 11, 2), (48, .ireturn, 1), (49, .iload_n 1, 1), (50, .lookupswitch 170 #[(33, 167), (34, 167), (40, 138), (41, 158), (58, 120), (60, 161), (62, 161), (90, 136), (91, 114), (120, 134), (122, 134), (123, 164), (124, 120)], 114), (164, .aload_n 0, 1), (165, .iload_n 2, 1), (166, .invokevirtual 246, 3), (169, .ireturn, 1), (170, .iload_n 1, 1), (171, .iload_n 2, 1), (172, .invokestatic 249, 3), (175, .ifCond .lt 7, 3), (178, .iconst 5, 1), (179, .goto 4, 3), (182, .iconst 0, 1), (183, .ireturn, 1), (184, .iconst 3, 1), (185, .ireturn, 1), (186, .iconst 4, 1), (187, .ireturn, 1), (188, .iload_n 2, 1), (189, .bipush 48, 2), (191, .if_icmp .lt 14, 3), (194, .iload_n 2, 1), (195, .bipush 57, 2), (197, .if_icmp .gt 8, 3), (200, .bipush 8, 2), (202, .goto 5, 3), (205, .bipush 9, 2), (207, .ireturn, 1), (208, .bipush 9, 2), (210, .ireturn, 1), (211, .bipush 10, 2), (213, .ireturn, 1), (214, .bipush 7, 2), (216, .ireturn, 1), (217, .bipush 12, 2), (219, .ireturn, 1), (220, .iconst 0, 1), (221, .ireturn, 1)]
set_option maxRecDepth 20000 in
theorem il_X4_formHere_ok : ∀ x ∈ il_X4_formHere, decode cX4_formHere x.1 = .ok x.2 := by decide +kernel
abbrev me_X4_formHere : Me := (RX4, il_X4_formHere, 3, (some .int), xRoom 5, [])
def w_X4_formHere_207 (n : Nat) (t0 : Int32) (u0 : Mm) (Q : Int32 → Mm → Prop) : Prop :=
  Q t0 u0
def w_X4_formHere_205 (n : Nat) (u0 : Mm) (Q : Int32 → Mm → Prop) : Prop :=
  w_X4_formHere_207 n (9 : Int32) u0 Q
def w_X4_formHere_183 (n : Nat) (t0 : Int32) (u0 : Mm) (Q : Int32 → Mm → Prop) : Prop :=
  Q t0 u0
def w_X4_formHere (n : Nat) (u0 : Mm) (Q : Int32 → Mm → Prop) : Prop :=
  w_X5_peek n (0 : Int32) u0 (fun r1 u1 =>
  w_X5_peek n (1 : Int32) u1 (fun r2 u2 =>
  (0 ≤ r1 → w_J0_indexOf_0f7a4 n 16 (r1.toUInt32 % 65536).toInt32 u2 (fun r3 u3 =>
  (r3 < 0 → w_J0_indexOf_0f7a4 n 17 (r1.toUInt32 % 65536).toInt32 u3 (fun r4 u4 =>
  (r4 < 0 → (r1 = (33 : Int32) → Q (12 : Int32) u4) ∧
  (¬ r1 = (33 : Int32) → (r1 = (34 : Int32) → Q (12 : Int32) u4) ∧
  (¬ r1 = (34 : Int32) → (r1 = (40 : Int32) → (r2 < (48 : Int32) → w_X4_formHere_205 n u4 Q) ∧
  (¬ r2 < (48 : Int32) → ((57 : Int32) < r2 → w_X4_formHere_205 n u4 Q) ∧
  (¬ (57 : Int32) < r2 → w_X4_formHere_207 n (8 : Int32) u4 Q))) ∧
  (¬ r1 = (40 : Int32) → (r1 = (41 : Int32) → Q (9 : Int32) u4) ∧
  (¬ r1 = (41 : Int32) → (r1 = (58 : Int32) → w_X4_barSort n r1 r2 u4 (fun r5 u5 =>
  (r5 < 0 → w_X4_formHere_183 n (0 : Int32) u5 Q) ∧
  (¬ r5 < 0 → w_X4_formHere_183 n (5 : Int32) u5 Q))) ∧
  (¬ r1 = (58 : Int32) → (r1 = (60 : Int32) → Q (10 : Int32) u4) ∧
  (¬ r1 = (60 : Int32) → (r1 = (62 : Int32) → Q (10 : Int32) u4) ∧
  (¬ r1 = (62 : Int32) → (r1 = (90 : Int32) → Q (4 : Int32) u4) ∧
  (¬ r1 = (90 : Int32) → (r1 = (91 : Int32) → w_X4_formOfBracket n r2 u4 (fun r6 u6 =>
  Q r6 u6)) ∧
  (¬ r1 = (91 : Int32) → (r1 = (120 : Int32) → Q (3 : Int32) u4) ∧
  (¬ r1 = (120 : Int32) → (r1 = (122 : Int32) → Q (3 : Int32) u4) ∧
  (¬ r1 = (122 : Int32) → (r1 = (123 : Int32) → Q (7 : Int32) u4) ∧
  (¬ r1 = (123 : Int32) → (r1 = (124 : Int32) → w_X4_barSort n r1 r2 u4 (fun r7 u7 =>
  (r7 < 0 → w_X4_formHere_183 n (0 : Int32) u7 Q) ∧
  (¬ r7 < 0 → w_X4_formHere_183 n (5 : Int32) u7 Q))) ∧
  (¬ r1 = (124 : Int32) → Q (0 : Int32) u4)))))))))))))) ∧
  (¬ r4 < 0 → Q (11 : Int32) u4))) ∧
  (¬ r3 < 0 → Q (1 : Int32) u3))) ∧
  (¬ 0 ≤ r1 → Q (0 : Int32) u2)))
set_option maxRecDepth 20000 in
theorem s_X4_formHere_207 {g : Gb} (hg : xInj g) {n : Nat} {Q : Int32 → Mm → Prop} {t0 : Int32} {u0 : Mm} (h : w_X4_formHere_207 n t0 u0 Q) : xE g me_X4_formHere (pI g Q noT) 207 [] [.int t0] u0 := by
  unfold w_X4_formHere_207 at h
  exact e_iret (k := 55) rfl rfl (Or.inl ⟨_, rfl, h⟩)
set_option maxRecDepth 20000 in
theorem s_X4_formHere_205 {g : Gb} (hg : xInj g) {n : Nat} {Q : Int32 → Mm → Prop} {u0 : Mm} (h : w_X4_formHere_205 n  u0 Q) : xE g me_X4_formHere (pI g Q noT) 205 [] [] u0 := by
  unfold w_X4_formHere_205 at h
  refine e_bipush (k := 54) (v := (9 : Int32)) rfl (by decide) ?_
  exact s_X4_formHere_207 hg h
set_option maxRecDepth 20000 in
theorem s_X4_formHere_183 {g : Gb} (hg : xInj g) {n : Nat} {Q : Int32 → Mm → Prop} {t0 : Int32} {u0 : Mm} (h : w_X4_formHere_183 n t0 u0 Q) : xE g me_X4_formHere (pI g Q noT) 183 [] [.int t0] u0 := by
  unfold w_X4_formHere_183 at h
  exact e_iret (k := 41) rfl rfl (Or.inl ⟨_, rfl, h⟩)
set_option maxRecDepth 20000 in
theorem c_X4_formHere {g : Gb} (hg : xInj g) {n : Nat} {u0 : Mm} {Q : Int32 → Mm → Prop} (h : w_X4_formHere n u0 Q) : xMet (gL g) yX4_formHere (xws yX4_formHere cX4_formHere 3 (some .int)) (xRoom 5) (xPc g [.ref (gR g 38)] u0) (xQ g (pI g Q noT)) (xA g) := by
  refine xbody (il := il_X4_formHere) hg il_X4_formHere_ok m_X4_formHere (Nat.le_of_ble_eq_true rfl) ?_
  show xE g me_X4_formHere (pI g Q noT) 0 [(0, .ref (gR g 38))] [] u0
  unfold w_X4_formHere at h
  refine e_aload_n (k := 0) (i := 0) rfl rfl 0 rfl ?_
  refine e_getC (k := 1) rfl f_X4_9 rfl rfl ?_
  refine e_iconst (k := 2) (v := (0 : Int32)) rfl (by decide) ?_
  refine e_callVi (k := 3) (q := 33) (As := [.int (0 : Int32)]) (rest := []) rfl (c_X5_peek (g := g) hg (n := n) h) m_X5_peek i_X5_peek l_X4_126 rfl ⟨_, rfl, rfl⟩ rfl rfl (Nat.le_of_ble_eq_true rfl) ⟨by decide, by decide, rfl, rfl⟩ (fun _ h => h.elim) (fun r1 u1 h => ?_)
  refine e_istore_n (k := 4) (i := 1) (lv' := [(0, .ref (gR g 38)), (1, .int r1)]) rfl rfl (by decide) [1, 0] rfl ?_
  refine e_aload_n (k := 5) (i := 0) rfl rfl 0 rfl ?_
  refine e_getC (k := 6) rfl f_X4_9 rfl rfl ?_
  refine e_iconst (k := 7) (v := (1 : Int32)) rfl (by decide) ?_
  refine e_callVi (k := 8) (q := 33) (As := [.int (1 : Int32)]) (rest := []) rfl (c_X5_peek (g := g) hg (n := n) h) m_X5_peek i_X5_peek l_X4_126 rfl ⟨_, rfl, rfl⟩ rfl rfl (Nat.le_of_ble_eq_true rfl) ⟨by decide, by decide, rfl, rfl⟩ (fun _ h => h.elim) (fun r2 u2 h => ?_)
  refine e_istore_n (k := 9) (i := 2) (lv' := [(0, .ref (gR g 38)), (1, .int r1), (2, .int r2)]) rfl rfl (by decide) [1, 2, 0] rfl ?_
  refine e_iload_n (k := 10) (i := 1) rfl rfl 1 rfl ?_
  refine e_if_ge (k := 11) (tgt := 24) rfl (by decide) (fun z => ?_) (fun z => ?_)
  · have h := h.1 z
    refine e_ldcS (k := 14) (j := 16) rfl rfl ?_
    refine e_iload_n (k := 15) (i := 1) rfl rfl 1 rfl ?_
    refine e_i2c (k := 16) rfl ?_
    refine e_callKi (k := 17) (j := 16) (As := [.int (r1.toUInt32 % 65536).toInt32]) (rest := []) rfl (c_J0_indexOf_0f7a4 (g := g) hg (n := n) (by decide) h) m_J0_indexOf_0f7a4 i_J0_indexOf_0f7a4 l_X4_239 (by decide) rfl rfl rfl (Nat.le_of_ble_eq_true rfl) ⟨by decide, by decide, rfl, rfl⟩ (fun r3 u3 h => ?_)
    refine e_if_lt (k := 18) (tgt := 36) rfl (by decide) (fun z => ?_) (fun z => ?_)
    · have h := h.1 z
      refine e_ldcS (k := 21) (j := 17) rfl rfl ?_
      refine e_iload_n (k := 22) (i := 1) rfl rfl 1 rfl ?_
      refine e_i2c (k := 23) rfl ?_
      refine e_callKi (k := 24) (j := 17) (As := [.int (r1.toUInt32 % 65536).toInt32]) (rest := []) rfl (c_J0_indexOf_0f7a4 (g := g) hg (n := n) (by decide) h) m_J0_indexOf_0f7a4 i_J0_indexOf_0f7a4 l_X4_239 (by decide) rfl rfl rfl (Nat.le_of_ble_eq_true rfl) ⟨by decide, by decide, rfl, rfl⟩ (fun r4 u4 h => ?_)
      refine e_if_lt (k := 25) (tgt := 49) rfl (by decide) (fun z => ?_) (fun z => ?_)
      · have h := h.1 z
        refine e_iload_n (k := 28) (i := 1) rfl rfl 1 rfl ?_
        refine e_case (a := r1 = (33 : Int32)) (fun z33 => ?_) (fun z33 => ?_)
        · have h := h.1 z33
          refine e_lookup (k := 29) (tgt := 217) (off := 167) rfl (by decide) (by rw [z33]; decide) (by decide) ?_
          refine e_bipush (k := 62) (v := (12 : Int32)) rfl (by decide) ?_
          exact e_iret (k := 63) rfl rfl (Or.inl ⟨_, rfl, h⟩)
        · have h := h.2 z33
          refine e_case (a := r1 = (34 : Int32)) (fun z34 => ?_) (fun z34 => ?_)
          · have h := h.1 z34
            refine e_lookup (k := 29) (tgt := 217) (off := 167) rfl (by decide) (by rw [z34]; decide) (by decide) ?_
            refine e_bipush (k := 62) (v := (12 : Int32)) rfl (by decide) ?_
            exact e_iret (k := 63) rfl rfl (Or.inl ⟨_, rfl, h⟩)
          · have h := h.2 z34
            refine e_case (a := r1 = (40 : Int32)) (fun z40 => ?_) (fun z40 => ?_)
            · have h := h.1 z40
              refine e_lookup (k := 29) (tgt := 188) (off := 138) rfl (by decide) (by rw [z40]; decide) (by decide) ?_
              refine e_iload_n (k := 46) (i := 2) rfl rfl 2 rfl ?_
              refine e_bipush (k := 47) (v := (48 : Int32)) rfl (by decide) ?_
              refine e_icmp_lt (k := 48) (tgt := 205) rfl (by decide) (fun z => ?_) (fun z => ?_)
              · have h := h.1 z
                refine e_sub (lv' := []) [] rfl ?_
                exact s_X4_formHere_205 hg h
              · have h := h.2 z
                refine e_iload_n (k := 49) (i := 2) rfl rfl 2 rfl ?_
                refine e_bipush (k := 50) (v := (57 : Int32)) rfl (by decide) ?_
                refine e_icmp_gt (k := 51) (tgt := 205) rfl (by decide) (fun z => ?_) (fun z => ?_)
                · have h := h.1 z
                  refine e_sub (lv' := []) [] rfl ?_
                  exact s_X4_formHere_205 hg h
                · have h := h.2 z
                  refine e_bipush (k := 52) (v := (8 : Int32)) rfl (by decide) ?_
                  refine e_goto (k := 53) (tgt := 207) rfl (by decide) ?_
                  refine e_sub (lv' := []) [] rfl ?_
                  exact s_X4_formHere_207 hg h
            · have h := h.2 z40
              refine e_case (a := r1 = (41 : Int32)) (fun z41 => ?_) (fun z41 => ?_)
              · have h := h.1 z41
                refine e_lookup (k := 29) (tgt := 208) (off := 158) rfl (by decide) (by rw [z41]; decide) (by decide) ?_
                refine e_bipush (k := 56) (v := (9 : Int32)) rfl (by decide) ?_
                exact e_iret (k := 57) rfl rfl (Or.inl ⟨_, rfl, h⟩)
              · have h := h.2 z41
                refine e_case (a := r1 = (58 : Int32)) (fun z58 => ?_) (fun z58 => ?_)
                · have h := h.1 z58
                  refine e_lookup (k := 29) (tgt := 170) (off := 120) rfl (by decide) (by rw [z58]; decide) (by decide) ?_
                  refine e_iload_n (k := 34) (i := 1) rfl rfl 1 rfl ?_
                  refine e_iload_n (k := 35) (i := 2) rfl rfl 2 rfl ?_
                  refine e_callSi (k := 36) (As := [.int r1, .int r2]) (rest := []) rfl (c_X4_barSort (g := g) hg (n := n) h) m_X4_barSort st_X4_barSort l_X4_249 rfl rfl (Nat.le_of_ble_eq_true rfl) ⟨by decide, by decide, rfl, rfl⟩ (fun _ h => h.elim) (fun r5 u5 h => ?_)
                  refine e_if_lt (k := 37) (tgt := 182) rfl (by decide) (fun z => ?_) (fun z => ?_)
                  · have h := h.1 z
                    refine e_iconst (k := 40) (v := (0 : Int32)) rfl (by decide) ?_
                    refine e_sub (lv' := []) [] rfl ?_
                    exact s_X4_formHere_183 hg h
                  · have h := h.2 z
                    refine e_iconst (k := 38) (v := (5 : Int32)) rfl (by decide) ?_
                    refine e_goto (k := 39) (tgt := 183) rfl (by decide) ?_
                    refine e_sub (lv' := []) [] rfl ?_
                    exact s_X4_formHere_183 hg h
                · have h := h.2 z58
                  refine e_case (a := r1 = (60 : Int32)) (fun z60 => ?_) (fun z60 => ?_)
                  · have h := h.1 z60
                    refine e_lookup (k := 29) (tgt := 211) (off := 161) rfl (by decide) (by rw [z60]; decide) (by decide) ?_
                    refine e_bipush (k := 58) (v := (10 : Int32)) rfl (by decide) ?_
                    exact e_iret (k := 59) rfl rfl (Or.inl ⟨_, rfl, h⟩)
                  · have h := h.2 z60
                    refine e_case (a := r1 = (62 : Int32)) (fun z62 => ?_) (fun z62 => ?_)
                    · have h := h.1 z62
                      refine e_lookup (k := 29) (tgt := 211) (off := 161) rfl (by decide) (by rw [z62]; decide) (by decide) ?_
                      refine e_bipush (k := 58) (v := (10 : Int32)) rfl (by decide) ?_
                      exact e_iret (k := 59) rfl rfl (Or.inl ⟨_, rfl, h⟩)
                    · have h := h.2 z62
                      refine e_case (a := r1 = (90 : Int32)) (fun z90 => ?_) (fun z90 => ?_)
                      · have h := h.1 z90
                        refine e_lookup (k := 29) (tgt := 186) (off := 136) rfl (by decide) (by rw [z90]; decide) (by decide) ?_
                        refine e_iconst (k := 44) (v := (4 : Int32)) rfl (by decide) ?_
                        exact e_iret (k := 45) rfl rfl (Or.inl ⟨_, rfl, h⟩)
                      · have h := h.2 z90
                        refine e_case (a := r1 = (91 : Int32)) (fun z91 => ?_) (fun z91 => ?_)
                        · have h := h.1 z91
                          refine e_lookup (k := 29) (tgt := 164) (off := 114) rfl (by decide) (by rw [z91]; decide) (by decide) ?_
                          refine e_aload_n (k := 30) (i := 0) rfl rfl 0 rfl ?_
                          refine e_iload_n (k := 31) (i := 2) rfl rfl 2 rfl ?_
                          refine e_callVi (k := 32) (q := 38) (As := [.int r2]) (rest := []) rfl (c_X4_formOfBracket (g := g) hg (n := n) h) m_X4_formOfBracket i_X4_formOfBracket l_X4_246 rfl ⟨_, rfl, rfl⟩ rfl rfl (Nat.le_of_ble_eq_true rfl) ⟨by decide, by decide, rfl, rfl⟩ (fun _ h => h.elim) (fun r6 u6 h => ?_)
                          exact e_iret (k := 33) rfl rfl (Or.inl ⟨_, rfl, h⟩)
                        · have h := h.2 z91
                          refine e_case (a := r1 = (120 : Int32)) (fun z120 => ?_) (fun z120 => ?_)
                          · have h := h.1 z120
                            refine e_lookup (k := 29) (tgt := 184) (off := 134) rfl (by decide) (by rw [z120]; decide) (by decide) ?_
                            refine e_iconst (k := 42) (v := (3 : Int32)) rfl (by decide) ?_
                            exact e_iret (k := 43) rfl rfl (Or.inl ⟨_, rfl, h⟩)
                          · have h := h.2 z120
                            refine e_case (a := r1 = (122 : Int32)) (fun z122 => ?_) (fun z122 => ?_)
                            · have h := h.1 z122
                              refine e_lookup (k := 29) (tgt := 184) (off := 134) rfl (by decide) (by rw [z122]; decide) (by decide) ?_
                              refine e_iconst (k := 42) (v := (3 : Int32)) rfl (by decide) ?_
                              exact e_iret (k := 43) rfl rfl (Or.inl ⟨_, rfl, h⟩)
                            · have h := h.2 z122
                              refine e_case (a := r1 = (123 : Int32)) (fun z123 => ?_) (fun z123 => ?_)
                              · have h := h.1 z123
                                refine e_lookup (k := 29) (tgt := 214) (off := 164) rfl (by decide) (by rw [z123]; decide) (by decide) ?_
                                refine e_bipush (k := 60) (v := (7 : Int32)) rfl (by decide) ?_
                                exact e_iret (k := 61) rfl rfl (Or.inl ⟨_, rfl, h⟩)
                              · have h := h.2 z123
                                refine e_case (a := r1 = (124 : Int32)) (fun z124 => ?_) (fun z124 => ?_)
                                · have h := h.1 z124
                                  refine e_lookup (k := 29) (tgt := 170) (off := 120) rfl (by decide) (by rw [z124]; decide) (by decide) ?_
                                  refine e_iload_n (k := 34) (i := 1) rfl rfl 1 rfl ?_
                                  refine e_iload_n (k := 35) (i := 2) rfl rfl 2 rfl ?_
                                  refine e_callSi (k := 36) (As := [.int r1, .int r2]) (rest := []) rfl (c_X4_barSort (g := g) hg (n := n) h) m_X4_barSort st_X4_barSort l_X4_249 rfl rfl (Nat.le_of_ble_eq_true rfl) ⟨by decide, by decide, rfl, rfl⟩ (fun _ h => h.elim) (fun r7 u7 h => ?_)
                                  refine e_if_lt (k := 37) (tgt := 182) rfl (by decide) (fun z => ?_) (fun z => ?_)
                                  · have h := h.1 z
                                    refine e_iconst (k := 40) (v := (0 : Int32)) rfl (by decide) ?_
                                    refine e_sub (lv' := []) [] rfl ?_
                                    exact s_X4_formHere_183 hg h
                                  · have h := h.2 z
                                    refine e_iconst (k := 38) (v := (5 : Int32)) rfl (by decide) ?_
                                    refine e_goto (k := 39) (tgt := 183) rfl (by decide) ?_
                                    refine e_sub (lv' := []) [] rfl ?_
                                    exact s_X4_formHere_183 hg h
                                · have h := h.2 z124
                                  have w33 := xne (i := 33) z33 (by decide)
                                  have w34 := xne (i := 34) z34 (by decide)
                                  have w40 := xne (i := 40) z40 (by decide)
                                  have w41 := xne (i := 41) z41 (by decide)
                                  have w58 := xne (i := 58) z58 (by decide)
                                  have w60 := xne (i := 60) z60 (by decide)
                                  have w62 := xne (i := 62) z62 (by decide)
                                  have w90 := xne (i := 90) z90 (by decide)
                                  have w91 := xne (i := 91) z91 (by decide)
                                  have w120 := xne (i := 120) z120 (by decide)
                                  have w122 := xne (i := 122) z122 (by decide)
                                  have w123 := xne (i := 123) z123 (by decide)
                                  have w124 := xne (i := 124) z124 (by decide)
                                  refine e_lookup (k := 29) (tgt := 220) (off := 170) rfl (by decide) (by simp [Op.lookupswitch.offset, w33, w33.symm, w34, w34.symm, w40, w40.symm, w41, w41.symm, w58, w58.symm, w60, w60.symm, w62, w62.symm, w90, w90.symm, w91, w91.symm, w120, w120.symm, w122, w122.symm, w123, w123.symm, w124, w124.symm]) (by decide) ?_
                                  refine e_iconst (k := 64) (v := (0 : Int32)) rfl (by decide) ?_
                                  exact e_iret (k := 65) rfl rfl (Or.inl ⟨_, rfl, h⟩)
      · have h := h.2 z
        refine e_bipush (k := 26) (v := (11 : Int32)) rfl (by decide) ?_
        exact e_iret (k := 27) rfl rfl (Or.inl ⟨_, rfl, h⟩)
    · have h := h.2 z
      refine e_iconst (k := 19) (v := (1 : Int32)) rfl (by decide) ?_
      exact e_iret (k := 20) rfl rfl (Or.inl ⟨_, rfl, h⟩)
  · have h := h.2 z
    refine e_iconst (k := 12) (v := (0 : Int32)) rfl (by decide) ?_
    exact e_iret (k := 13) rfl rfl (Or.inl ⟨_, rfl, h⟩)
def il_X4_readNote : List (Nat × Instr × Nat) := [(0, .aload_n 0, 1), (1, .getfield 9, 3), (4, .getfield 123, 3), (7, .istore_n 3, 1), (8, .aload_n 0, 1), (9, .invokevirtual 271, 3), (12, .istore 4, 2), (14, .aload_n 0, 1), (15, .getfield 9, 3), (18, .getfield 123, 3), (21, .iload_n 3, 1), (22, .if_icmp .le 7, 3), (25, .iconst 1, 1), (26, .goto 4, 3), (29, .iconst 0, 1), (30, .istore 5, 2), (32, .aload_n 0, 1), (33, .getfield 9, 3), (36, .iconst 0, 1), (37, .invokevirtual 126, 3), (40, .istore 6, 2), (42, .iload 6, 2), (44, .ifCond .ge 7, 3), (47, .iconst (-1), 1), (48, .goto 12, 3), (51, .ldc_w 274, 3), (54, .iload 6, 2), (56, .i2c, 1), (57, .invokevirtual 239, 3), (60, .istore 7, 2), (62, .iload 7, 2), (64, .ifCond .ge 19, 3), (67, .aload_n 0, 1), (68, .getfield 9, 3), (71, .iconst 1, 1), (72, .aload_n 0, 1), (73, .getfield 9, 3), (76, .getfield 123, 3), (79, .invokevirtual 93, 3), (82, .return_, 1), (83, .aload_n 0, 1), (84, .getfield 9, 3), (87, .dup, 1), (88, .getfield 123, 3), (91, .iconst 1, 1), (92, .iadd, 1), (93, .putfield 123, 3), (96, .aload_n 0, 1), (97, .iload 7, 2), (99, .bipush 7, 2), (101, .if_icmp .ge 7, 3), (104, .iconst 4, 1), (105, .goto 4, 3), (108, .iconst 5, 1), (109, .invokevirtual 276, 3), (112, .istore 8, 2), (114, .iload 7, 2), (116, .bipush 7, 2), (118, .irem, 1), (119, .istore 7, 2), (121, .aload_n 0, 1), (122, .iload_n 1, 1), (123, .iload_n 3, 1), (124, .invokevirtual 177, 3), (127, .istore 9, 2), (129, .iload 9, 2), (131, .ifCond .ge 4, 3), (134, .return_, 1), (135, .aload_n 0, 1), (136, .iload_n 1, 1), (137, .iload 7, 2), (139, .iload 8, 2), (141, .invokevirtual 279, 3), (144, .istore 10, 2), (146, .iload 5, 2), (148, .ifCond .eq 26, 3), (151, .aload_n 0, 1), (152, .getfield 48, 3), (155, .aload_n 0, 1), (156, .getfield 19, 3), (159, .getfield 283, 3), (162, .iload 7, 2), (164, .iload 8, 2), (166, .iload 4, 2), (168, .invokevirtual 286, 3), (171, .goto 7, 3), (174, .iload 10, 2), (176, .istore 4, 2), (178, .aload_n 0, 1), (179, .getfield 29, 3), (182, .iload 9, 2), (184, .iconst 4, 1), (185, .iload 7, 2), (187, .invokevirtual 180, 3), (190, .aload_n 0, 1), (191, .getfield 29, 3), (194, .iload 9, 2), (196, .iconst 5, 1), (197, .iload 8, 2), (199, .invokevirtual 180, 3), (202, .aload_n 0, 1), (203, .getfield 29, 3), (206, .iload 9, 2), (208, .bipush 6, 2), (210, .iload 4, 2), (212, .invokevirtual 180, 3), (215, .aload_n 0, 1), (216, .getfield 29, 3), (219, .iload 9, 2), (221, .bipush 7, 2), (223, .iload 5, 2), (225, .ifCond .eq 7, 3), (228, .iconst 1, 1), (229, .goto 4, 3), (232, .iconst 0, 1), (233, .invokevirtual 180, 3), (236, .aload_n 0, 1), (237, .getfield 29, 3), (240, .iload 9, 2), (242, .bipush 18, 2), (244, .iload 4, 2), (246, .iload 10, 2), (248, .if_icmp .ne 7, 3), (251, .iconst 0, 1), (252, .goto 4, 3), (255, .iconst 1, 1), (256, .invokevirtual 180, 3), (259, .aload_n 0, 1), (260, .getfield 29, 3), (263, .iload 9, 2), (265, .bipush 9, 2), (267, .iconst 1, 1), (268, .invokevirtual 180, 3), (271, .aload_n 0, 1), (272, .iload 9, 2), (274, .invokevirtual 289, 3), (277, .aload_n 0, 1), (278, .invokevirtual 262, 3), (281, .iload_n 2, 1), (282, .ifCond .lt 29, 3), (285, .iload_n 2, 1), (286, .bipush 12, 2), (288, .if_icmp .ge 23, 3), (291, .aload_n 0, 1), (292, .getfield 37, 3), (295, .iload_n 2, 1), (296, .aload_n 0, 1), (297, .getfield 265, 3), (300, .iastore, 1), (301, .aload_n 0, 1), (302, .getfield 41, 3), (305, .iload_n 2, 1), (306, .aload_n 0, 1), (307, .getfield 268, 3), (310, .iastore, 1), (311, .return_, 1)]
set_option maxRecDepth 20000 in
theorem il_X4_readNote_ok : ∀ x ∈ il_X4_readNote, decode cX4_readNote x.1 = .ok x.2 := by decide +kernel
abbrev me_X4_readNote : Me := (RX4, il_X4_readNote, 11, none, xRoom 5, [])
def w_X4_readNote_311 (n : Nat) (u0 : Mm) (Q : Mm → Prop) : Prop :=
  Q u0
def w_X4_readNote_256 (n : Nat) (x2 : Int32) (x9 : Int32) (t0 : Int32) (t1 : Int32) (t2 : Int32) (u0 : Mm) (Q : Mm → Prop) : Prop :=
  w_X6_put n t2 t1 t0 u0 (fun u1 =>
  w_X6_put n x9 (9 : Int32) (1 : Int32) u1 (fun u2 =>
  w_X4_putPitch n x9 u2 (fun u3 =>
  w_X4_readLength n u3 (fun u4 =>
  (x2 < 0 → w_X4_readNote_311 n u4 Q) ∧
  (¬ x2 < 0 → ((12 : Int32) ≤ x2 → w_X4_readNote_311 n u4 Q) ∧
  (¬ (12 : Int32) ≤ x2 → vp_in x2 12 ∧ (mlet (setI u4 64 (ix x2) (u4.1 38 7)) fun u5 =>
  vp_in x2 12 ∧ (mlet (setI u5 65 (ix x2) (u5.1 38 8)) fun u6 =>
  w_X4_readNote_311 n u6 Q))))))))
def w_X4_readNote_233 (n : Nat) (x2 : Int32) (x4 : Int32) (x9 : Int32) (x10 : Int32) (t0 : Int32) (t1 : Int32) (t2 : Int32) (u0 : Mm) (Q : Mm → Prop) : Prop :=
  w_X6_put n t2 t1 t0 u0 (fun u1 =>
  (¬ x4 = x10 → w_X4_readNote_256 n x2 x9 (1 : Int32) (18 : Int32) x9 u1 Q) ∧
  (x4 = x10 → w_X4_readNote_256 n x2 x9 (0 : Int32) (18 : Int32) x9 u1 Q))
def w_X4_readNote_178 (n : Nat) (x2 : Int32) (x4 : Int32) (x5 : Int32) (x7 : Int32) (x8 : Int32) (x9 : Int32) (x10 : Int32) (u0 : Mm) (Q : Mm → Prop) : Prop :=
  w_X6_put n x9 (4 : Int32) x7 u0 (fun u1 =>
  w_X6_put n x9 (5 : Int32) x8 u1 (fun u2 =>
  w_X6_put n x9 (6 : Int32) x4 u2 (fun u3 =>
  (x5 = 0 → w_X4_readNote_233 n x2 x4 x9 x10 (0 : Int32) (7 : Int32) x9 u3 Q) ∧
  (¬ x5 = 0 → w_X4_readNote_233 n x2 x4 x9 x10 (1 : Int32) (7 : Int32) x9 u3 Q))))
def w_X4_readNote_109 (n : Nat) (x1 : Int32) (x2 : Int32) (x3 : Int32) (x4 : Int32) (x5 : Int32) (x7 : Int32) (t0 : Int32) (u0 : Mm) (Q : Mm → Prop) : Prop :=
  w_X4_readOctave n t0 u0 (fun r1 u1 =>
  ilet (x7 - x7 / (7 : Int32) * (7 : Int32)) fun y1 =>
  w_X4_addThing n x1 x3 u1 (fun r2 u2 =>
  (0 ≤ r2 → w_X4_signWithout n x1 y1 r1 u2 (fun r3 u3 =>
  (x5 = 0 → w_X4_readNote_178 n x2 r3 x5 y1 r1 r2 r3 u3 Q) ∧
  (¬ x5 = 0 → w_X8_mark n (u3.2.2 2) (u3.1 35 0) y1 r1 x4 u3 (fun u4 =>
  w_X4_readNote_178 n x2 x4 x5 y1 r1 r2 r3 u4 Q)))) ∧
  (¬ 0 ≤ r2 → Q u2)))
def w_X4_readNote_60 (n : Nat) (x1 : Int32) (x2 : Int32) (x3 : Int32) (x4 : Int32) (x5 : Int32) (t0 : Int32) (u0 : Mm) (Q : Mm → Prop) : Prop :=
  (0 ≤ t0 → mlet (setI u0 33 2 ((u0.1 33 2) + (1 : Int32))) fun u1 =>
  ((7 : Int32) ≤ t0 → w_X4_readNote_109 n x1 x2 x3 x4 x5 t0 (5 : Int32) u1 Q) ∧
  (¬ (7 : Int32) ≤ t0 → w_X4_readNote_109 n x1 x2 x3 x4 x5 t0 (4 : Int32) u1 Q)) ∧
  (¬ 0 ≤ t0 → w_X5_fail n (1 : Int32) (u0.1 33 2) u0 (fun u2 =>
  Q u2))
def w_X4_readNote_30 (n : Nat) (x1 : Int32) (x2 : Int32) (x3 : Int32) (x4 : Int32) (t0 : Int32) (u0 : Mm) (Q : Mm → Prop) : Prop :=
  w_X5_peek n (0 : Int32) u0 (fun r1 u1 =>
  (0 ≤ r1 → w_J0_indexOf_0f7a4 n 18 (r1.toUInt32 % 65536).toInt32 u1 (fun r2 u2 =>
  w_X4_readNote_60 n x1 x2 x3 x4 t0 r2 u2 Q)) ∧
  (¬ 0 ≤ r1 → w_X4_readNote_60 n x1 x2 x3 x4 t0 (-1 : Int32) u1 Q))
def w_X4_readNote (n : Nat) (a0 : Int32) (a1 : Int32) (u0 : Mm) (Q : Mm → Prop) : Prop :=
  ilet (u0.1 33 2) fun y1 =>
  w_X4_readSign n u0 (fun r1 u1 =>
  ((u1.1 33 2) ≤ y1 → w_X4_readNote_30 n a0 a1 y1 r1 (0 : Int32) u1 Q) ∧
  (¬ (u1.1 33 2) ≤ y1 → w_X4_readNote_30 n a0 a1 y1 r1 (1 : Int32) u1 Q))
set_option maxRecDepth 20000 in
theorem s_X4_readNote_311 {g : Gb} (hg : xInj g) {n : Nat} {Q : Mm → Prop} {u0 : Mm} (h : w_X4_readNote_311 n  u0 Q) : xE g me_X4_readNote (pV g Q noT) 311 [] [] u0 := by
  unfold w_X4_readNote_311 at h
  exact e_vret (k := 155) rfl rfl (Or.inl ⟨rfl, h⟩)
set_option maxRecDepth 20000 in
theorem s_X4_readNote_256 {g : Gb} (hg : xInj g) {n : Nat} {Q : Mm → Prop} {x2 : Int32} {x9 : Int32} {t0 : Int32} {t1 : Int32} {t2 : Int32} {u0 : Mm} (h : w_X4_readNote_256 n x2 x9 t0 t1 t2 u0 Q) : xE g me_X4_readNote (pV g Q noT) 256 [(0, .ref (gR g 38)), (2, .int x2), (9, .int x9)] [.int t0, .int t1, .int t2, .ref (gR g 36)] u0 := by
  unfold w_X4_readNote_256 at h
  refine e_callVv (k := 126) (q := 36) (As := [.int t2, .int t1, .int t0]) (rest := []) rfl (c_X6_put (g := g) hg (n := n) h) m_X6_put i_X6_put l_X4_180 rfl ⟨_, rfl, rfl⟩ rfl rfl (Nat.le_of_ble_eq_true rfl) ⟨by decide, by decide, rfl, rfl⟩ (fun _ h => h.elim) (fun u1 h => ?_)
  refine e_aload_n (k := 127) (i := 0) rfl rfl 0 rfl ?_
  refine e_getC (k := 128) rfl f_X4_29 rfl rfl ?_
  refine e_iload (k := 129) (i := 9) rfl 2 rfl ?_
  refine e_bipush (k := 130) (v := (9 : Int32)) rfl (by decide) ?_
  refine e_iconst (k := 131) (v := (1 : Int32)) rfl (by decide) ?_
  refine e_callVv (k := 132) (q := 36) (As := [.int x9, .int (9 : Int32), .int (1 : Int32)]) (rest := []) rfl (c_X6_put (g := g) hg (n := n) h) m_X6_put i_X6_put l_X4_180 rfl ⟨_, rfl, rfl⟩ rfl rfl (Nat.le_of_ble_eq_true rfl) ⟨by decide, by decide, rfl, rfl⟩ (fun _ h => h.elim) (fun u2 h => ?_)
  refine e_aload_n (k := 133) (i := 0) rfl rfl 0 rfl ?_
  refine e_iload (k := 134) (i := 9) rfl 2 rfl ?_
  refine e_callVv (k := 135) (q := 38) (As := [.int x9]) (rest := []) rfl (c_X4_putPitch (g := g) hg (n := n) h) m_X4_putPitch i_X4_putPitch l_X4_289 rfl ⟨_, rfl, rfl⟩ rfl rfl (Nat.le_of_ble_eq_true rfl) ⟨by decide, by decide, rfl, rfl⟩ (fun _ h => h.elim) (fun u3 h => ?_)
  refine e_aload_n (k := 136) (i := 0) rfl rfl 0 rfl ?_
  refine e_callVv (k := 137) (q := 38) (As := []) (rest := []) rfl (c_X4_readLength (g := g) hg (n := n) h) m_X4_readLength i_X4_readLength l_X4_262 rfl ⟨_, rfl, rfl⟩ rfl rfl (Nat.le_of_ble_eq_true rfl) ⟨by decide, by decide, rfl, rfl⟩ (fun _ h => h.elim) (fun u4 h => ?_)
  refine e_iload_n (k := 138) (i := 2) rfl rfl 1 rfl ?_
  refine e_if_lt (k := 139) (tgt := 311) rfl (by decide) (fun z => ?_) (fun z => ?_)
  · have h := h.1 z
    refine e_sub (lv' := []) [] rfl ?_
    exact s_X4_readNote_311 hg h
  · have h := h.2 z
    refine e_iload_n (k := 140) (i := 2) rfl rfl 1 rfl ?_
    refine e_bipush (k := 141) (v := (12 : Int32)) rfl (by decide) ?_
    refine e_icmp_ge (k := 142) (tgt := 311) rfl (by decide) (fun z => ?_) (fun z => ?_)
    · have h := h.1 z
      refine e_sub (lv' := []) [] rfl ?_
      exact s_X4_readNote_311 hg h
    · have h := h.2 z
      refine e_aload_n (k := 143) (i := 0) rfl rfl 0 rfl ?_
      refine e_getC (k := 144) rfl f_X4_37 rfl rfl ?_
      refine e_iload_n (k := 145) (i := 2) rfl rfl 1 rfl ?_
      refine e_aload_n (k := 146) (i := 0) rfl rfl 0 rfl ?_
      refine e_getI (k := 147) rfl f_X4_265 rfl rfl ?_
      refine e_iast (k := 148) rfl rfl h.1 ?_
      have h := h.2
      refine e_mlet h (fun u5 h => ?_)
      refine e_aload_n (k := 149) (i := 0) rfl rfl 0 rfl ?_
      refine e_getC (k := 150) rfl f_X4_41 rfl rfl ?_
      refine e_iload_n (k := 151) (i := 2) rfl rfl 1 rfl ?_
      refine e_aload_n (k := 152) (i := 0) rfl rfl 0 rfl ?_
      refine e_getI (k := 153) rfl f_X4_268 rfl rfl ?_
      refine e_iast (k := 154) rfl rfl h.1 ?_
      have h := h.2
      refine e_mlet h (fun u6 h => ?_)
      refine e_sub (lv' := []) [] rfl ?_
      exact s_X4_readNote_311 hg h
set_option maxRecDepth 20000 in
theorem s_X4_readNote_233 {g : Gb} (hg : xInj g) {n : Nat} {Q : Mm → Prop} {x2 : Int32} {x4 : Int32} {x9 : Int32} {x10 : Int32} {t0 : Int32} {t1 : Int32} {t2 : Int32} {u0 : Mm} (h : w_X4_readNote_233 n x2 x4 x9 x10 t0 t1 t2 u0 Q) : xE g me_X4_readNote (pV g Q noT) 233 [(0, .ref (gR g 38)), (2, .int x2), (4, .int x4), (9, .int x9), (10, .int x10)] [.int t0, .int t1, .int t2, .ref (gR g 36)] u0 := by
  unfold w_X4_readNote_233 at h
  refine e_callVv (k := 115) (q := 36) (As := [.int t2, .int t1, .int t0]) (rest := []) rfl (c_X6_put (g := g) hg (n := n) h) m_X6_put i_X6_put l_X4_180 rfl ⟨_, rfl, rfl⟩ rfl rfl (Nat.le_of_ble_eq_true rfl) ⟨by decide, by decide, rfl, rfl⟩ (fun _ h => h.elim) (fun u1 h => ?_)
  refine e_aload_n (k := 116) (i := 0) rfl rfl 0 rfl ?_
  refine e_getC (k := 117) rfl f_X4_29 rfl rfl ?_
  refine e_iload (k := 118) (i := 9) rfl 3 rfl ?_
  refine e_bipush (k := 119) (v := (18 : Int32)) rfl (by decide) ?_
  refine e_iload (k := 120) (i := 4) rfl 2 rfl ?_
  refine e_iload (k := 121) (i := 10) rfl 4 rfl ?_
  refine e_icmp_ne (k := 122) (tgt := 255) rfl (by decide) (fun z => ?_) (fun z => ?_)
  · have h := h.1 z
    refine e_iconst (k := 125) (v := (1 : Int32)) rfl (by decide) ?_
    refine e_sub (lv' := [(0, .ref (gR g 38)), (2, .int x2), (9, .int x9)]) [0, 1, 3] rfl ?_
    exact s_X4_readNote_256 hg h
  · have h := h.2 z
    refine e_iconst (k := 123) (v := (0 : Int32)) rfl (by decide) ?_
    refine e_goto (k := 124) (tgt := 256) rfl (by decide) ?_
    refine e_sub (lv' := [(0, .ref (gR g 38)), (2, .int x2), (9, .int x9)]) [0, 1, 3] rfl ?_
    exact s_X4_readNote_256 hg h
set_option maxRecDepth 20000 in
theorem s_X4_readNote_178 {g : Gb} (hg : xInj g) {n : Nat} {Q : Mm → Prop} {x2 : Int32} {x4 : Int32} {x5 : Int32} {x7 : Int32} {x8 : Int32} {x9 : Int32} {x10 : Int32} {u0 : Mm} (h : w_X4_readNote_178 n x2 x4 x5 x7 x8 x9 x10 u0 Q) : xE g me_X4_readNote (pV g Q noT) 178 [(0, .ref (gR g 38)), (2, .int x2), (4, .int x4), (5, .int x5), (7, .int x7), (8, .int x8), (9, .int x9), (10, .int x10)] [] u0 := by
  unfold w_X4_readNote_178 at h
  refine e_aload_n (k := 88) (i := 0) rfl rfl 0 rfl ?_
  refine e_getC (k := 89) rfl f_X4_29 rfl rfl ?_
  refine e_iload (k := 90) (i := 9) rfl 6 rfl ?_
  refine e_iconst (k := 91) (v := (4 : Int32)) rfl (by decide) ?_
  refine e_iload (k := 92) (i := 7) rfl 4 rfl ?_
  refine e_callVv (k := 93) (q := 36) (As := [.int x9, .int (4 : Int32), .int x7]) (rest := []) rfl (c_X6_put (g := g) hg (n := n) h) m_X6_put i_X6_put l_X4_180 rfl ⟨_, rfl, rfl⟩ rfl rfl (Nat.le_of_ble_eq_true rfl) ⟨by decide, by decide, rfl, rfl⟩ (fun _ h => h.elim) (fun u1 h => ?_)
  refine e_aload_n (k := 94) (i := 0) rfl rfl 0 rfl ?_
  refine e_getC (k := 95) rfl f_X4_29 rfl rfl ?_
  refine e_iload (k := 96) (i := 9) rfl 6 rfl ?_
  refine e_iconst (k := 97) (v := (5 : Int32)) rfl (by decide) ?_
  refine e_iload (k := 98) (i := 8) rfl 5 rfl ?_
  refine e_callVv (k := 99) (q := 36) (As := [.int x9, .int (5 : Int32), .int x8]) (rest := []) rfl (c_X6_put (g := g) hg (n := n) h) m_X6_put i_X6_put l_X4_180 rfl ⟨_, rfl, rfl⟩ rfl rfl (Nat.le_of_ble_eq_true rfl) ⟨by decide, by decide, rfl, rfl⟩ (fun _ h => h.elim) (fun u2 h => ?_)
  refine e_aload_n (k := 100) (i := 0) rfl rfl 0 rfl ?_
  refine e_getC (k := 101) rfl f_X4_29 rfl rfl ?_
  refine e_iload (k := 102) (i := 9) rfl 6 rfl ?_
  refine e_bipush (k := 103) (v := (6 : Int32)) rfl (by decide) ?_
  refine e_iload (k := 104) (i := 4) rfl 2 rfl ?_
  refine e_callVv (k := 105) (q := 36) (As := [.int x9, .int (6 : Int32), .int x4]) (rest := []) rfl (c_X6_put (g := g) hg (n := n) h) m_X6_put i_X6_put l_X4_180 rfl ⟨_, rfl, rfl⟩ rfl rfl (Nat.le_of_ble_eq_true rfl) ⟨by decide, by decide, rfl, rfl⟩ (fun _ h => h.elim) (fun u3 h => ?_)
  refine e_aload_n (k := 106) (i := 0) rfl rfl 0 rfl ?_
  refine e_getC (k := 107) rfl f_X4_29 rfl rfl ?_
  refine e_iload (k := 108) (i := 9) rfl 6 rfl ?_
  refine e_bipush (k := 109) (v := (7 : Int32)) rfl (by decide) ?_
  refine e_iload (k := 110) (i := 5) rfl 3 rfl ?_
  refine e_if_eq (k := 111) (tgt := 232) rfl (by decide) (fun z => ?_) (fun z => ?_)
  · have h := h.1 z
    refine e_iconst (k := 114) (v := (0 : Int32)) rfl (by decide) ?_
    refine e_sub (lv' := [(0, .ref (gR g 38)), (2, .int x2), (4, .int x4), (9, .int x9), (10, .int x10)]) [0, 1, 2, 6, 7] rfl ?_
    exact s_X4_readNote_233 hg h
  · have h := h.2 z
    refine e_iconst (k := 112) (v := (1 : Int32)) rfl (by decide) ?_
    refine e_goto (k := 113) (tgt := 233) rfl (by decide) ?_
    refine e_sub (lv' := [(0, .ref (gR g 38)), (2, .int x2), (4, .int x4), (9, .int x9), (10, .int x10)]) [0, 1, 2, 6, 7] rfl ?_
    exact s_X4_readNote_233 hg h
set_option maxRecDepth 20000 in
theorem s_X4_readNote_109 {g : Gb} (hg : xInj g) {n : Nat} {Q : Mm → Prop} {x1 : Int32} {x2 : Int32} {x3 : Int32} {x4 : Int32} {x5 : Int32} {x7 : Int32} {t0 : Int32} {u0 : Mm} (h : w_X4_readNote_109 n x1 x2 x3 x4 x5 x7 t0 u0 Q) : xE g me_X4_readNote (pV g Q noT) 109 [(0, .ref (gR g 38)), (1, .int x1), (2, .int x2), (3, .int x3), (4, .int x4), (5, .int x5), (7, .int x7)] [.int t0, .ref (gR g 38)] u0 := by
  unfold w_X4_readNote_109 at h
  refine e_callVi (k := 54) (q := 38) (As := [.int t0]) (rest := []) rfl (c_X4_readOctave (g := g) hg (n := n) h) m_X4_readOctave i_X4_readOctave l_X4_276 rfl ⟨_, rfl, rfl⟩ rfl rfl (Nat.le_of_ble_eq_true rfl) ⟨by decide, by decide, rfl, rfl⟩ (fun _ h => h.elim) (fun r1 u1 h => ?_)
  refine e_istore (k := 55) (i := 8) (lv' := [(0, .ref (gR g 38)), (1, .int x1), (2, .int x2), (3, .int x3), (4, .int x4), (5, .int x5), (7, .int x7), (8, .int r1)]) rfl (by decide) [1, 2, 3, 4, 5, 6, 7, 0] rfl ?_
  refine e_iload (k := 56) (i := 7) rfl 6 rfl ?_
  refine e_bipush (k := 57) (v := (7 : Int32)) rfl (by decide) ?_
  refine e_irem (k := 58) rfl (by decide) ?_
  refine e_ilet h (fun y1 h => ?_)
  refine e_istore (k := 59) (i := 7) (lv' := [(0, .ref (gR g 38)), (1, .int x1), (2, .int x2), (3, .int x3), (4, .int x4), (5, .int x5), (7, .int y1), (8, .int r1)]) rfl (by decide) [1, 2, 3, 4, 5, 6, 0, 7] rfl ?_
  refine e_aload_n (k := 60) (i := 0) rfl rfl 0 rfl ?_
  refine e_iload_n (k := 61) (i := 1) rfl rfl 1 rfl ?_
  refine e_iload_n (k := 62) (i := 3) rfl rfl 3 rfl ?_
  refine e_callVi (k := 63) (q := 38) (As := [.int x1, .int x3]) (rest := []) rfl (c_X4_addThing (g := g) hg (n := n) h) m_X4_addThing i_X4_addThing l_X4_177 rfl ⟨_, rfl, rfl⟩ rfl rfl (Nat.le_of_ble_eq_true rfl) ⟨by decide, by decide, rfl, rfl⟩ (fun _ h => h.elim) (fun r2 u2 h => ?_)
  refine e_istore (k := 64) (i := 9) (lv' := [(0, .ref (gR g 38)), (1, .int x1), (2, .int x2), (3, .int x3), (4, .int x4), (5, .int x5), (7, .int y1), (8, .int r1), (9, .int r2)]) rfl (by decide) [1, 2, 3, 4, 5, 6, 7, 8, 0] rfl ?_
  refine e_iload (k := 65) (i := 9) rfl 8 rfl ?_
  refine e_if_ge (k := 66) (tgt := 135) rfl (by decide) (fun z => ?_) (fun z => ?_)
  · have h := h.1 z
    refine e_aload_n (k := 68) (i := 0) rfl rfl 0 rfl ?_
    refine e_iload_n (k := 69) (i := 1) rfl rfl 1 rfl ?_
    refine e_iload (k := 70) (i := 7) rfl 6 rfl ?_
    refine e_iload (k := 71) (i := 8) rfl 7 rfl ?_
    refine e_callVi (k := 72) (q := 38) (As := [.int x1, .int y1, .int r1]) (rest := []) rfl (c_X4_signWithout (g := g) hg (n := n) h) m_X4_signWithout i_X4_signWithout l_X4_279 rfl ⟨_, rfl, rfl⟩ rfl rfl (Nat.le_of_ble_eq_true rfl) ⟨by decide, by decide, rfl, rfl⟩ (fun _ h => h.elim) (fun r3 u3 h => ?_)
    refine e_istore (k := 73) (i := 10) (lv' := [(0, .ref (gR g 38)), (1, .int x1), (2, .int x2), (3, .int x3), (4, .int x4), (5, .int x5), (7, .int y1), (8, .int r1), (9, .int r2), (10, .int r3)]) rfl (by decide) [1, 2, 3, 4, 5, 6, 7, 8, 9, 0] rfl ?_
    refine e_iload (k := 74) (i := 5) rfl 5 rfl ?_
    refine e_if_eq (k := 75) (tgt := 174) rfl (by decide) (fun z => ?_) (fun z => ?_)
    · have h := h.1 z
      refine e_iload (k := 86) (i := 10) rfl 9 rfl ?_
      refine e_istore (k := 87) (i := 4) (lv' := [(0, .ref (gR g 38)), (1, .int x1), (2, .int x2), (3, .int x3), (4, .int r3), (5, .int x5), (7, .int y1), (8, .int r1), (9, .int r2), (10, .int r3)]) rfl (by decide) [1, 2, 3, 4, 0, 5, 6, 7, 8, 9] rfl ?_
      refine e_sub (lv' := [(0, .ref (gR g 38)), (2, .int x2), (4, .int r3), (5, .int x5), (7, .int y1), (8, .int r1), (9, .int r2), (10, .int r3)]) [0, 2, 4, 5, 6, 7, 8, 9] rfl ?_
      exact s_X4_readNote_178 hg h
    · have h := h.2 z
      refine e_aload_n (k := 76) (i := 0) rfl rfl 0 rfl ?_
      refine e_getP (k := 77) rfl f_X4_48 rfl rfl (fun ty1 => ?_)
      refine e_aload_n (k := 78) (i := 0) rfl rfl 0 rfl ?_
      refine e_getC (k := 79) rfl f_X4_19 rfl rfl ?_
      refine e_getI (k := 80) rfl f_X4_283 rfl rfl ?_
      refine e_iload (k := 81) (i := 7) rfl 6 rfl ?_
      refine e_iload (k := 82) (i := 8) rfl 7 rfl ?_
      refine e_iload (k := 83) (i := 4) rfl 4 rfl ?_
      refine e_callVv (k := 84) (q := (u3.2.2 2)) (As := [.int (u3.1 35 0), .int y1, .int r1, .int x4]) (rest := []) rfl (c_X8_mark (g := g) hg (n := n) ty1.2.2 h) m_X8_mark i_X8_mark l_X4_286 ty1.2.2 ⟨_, rfl, rfl⟩ rfl rfl (Nat.le_of_ble_eq_true rfl) ⟨by decide, by decide, rfl, rfl⟩ (fun _ h => h.elim) (fun u4 h => ?_)
      refine e_goto (k := 85) (tgt := 178) rfl (by decide) ?_
      refine e_sub (lv' := [(0, .ref (gR g 38)), (2, .int x2), (4, .int x4), (5, .int x5), (7, .int y1), (8, .int r1), (9, .int r2), (10, .int r3)]) [0, 2, 4, 5, 6, 7, 8, 9] rfl ?_
      exact s_X4_readNote_178 hg h
  · have h := h.2 z
    exact e_vret (k := 67) rfl rfl (Or.inl ⟨rfl, h⟩)
set_option maxRecDepth 20000 in
theorem s_X4_readNote_60 {g : Gb} (hg : xInj g) {n : Nat} {Q : Mm → Prop} {x1 : Int32} {x2 : Int32} {x3 : Int32} {x4 : Int32} {x5 : Int32} {t0 : Int32} {u0 : Mm} (h : w_X4_readNote_60 n x1 x2 x3 x4 x5 t0 u0 Q) : xE g me_X4_readNote (pV g Q noT) 60 [(0, .ref (gR g 38)), (1, .int x1), (2, .int x2), (3, .int x3), (4, .int x4), (5, .int x5)] [.int t0] u0 := by
  unfold w_X4_readNote_60 at h
  refine e_istore (k := 29) (i := 7) (lv' := [(0, .ref (gR g 38)), (1, .int x1), (2, .int x2), (3, .int x3), (4, .int x4), (5, .int x5), (7, .int t0)]) rfl (by decide) [1, 2, 3, 4, 5, 6, 0] rfl ?_
  refine e_iload (k := 30) (i := 7) rfl 6 rfl ?_
  refine e_if_ge (k := 31) (tgt := 83) rfl (by decide) (fun z => ?_) (fun z => ?_)
  · have h := h.1 z
    refine e_aload_n (k := 40) (i := 0) rfl rfl 0 rfl ?_
    refine e_getC (k := 41) rfl f_X4_9 rfl rfl ?_
    refine e_dup (k := 42) rfl rfl ?_
    refine e_getI (k := 43) rfl f_X4_123 rfl rfl ?_
    refine e_iconst (k := 44) (v := (1 : Int32)) rfl (by decide) ?_
    refine e_iadd (k := 45) rfl ?_
    refine e_putI (k := 46) rfl fg_X4_123 rfl rfl ?_
    refine e_mlet h (fun u1 h => ?_)
    refine e_aload_n (k := 47) (i := 0) rfl rfl 0 rfl ?_
    refine e_iload (k := 48) (i := 7) rfl 6 rfl ?_
    refine e_bipush (k := 49) (v := (7 : Int32)) rfl (by decide) ?_
    refine e_icmp_ge (k := 50) (tgt := 108) rfl (by decide) (fun z => ?_) (fun z => ?_)
    · have h := h.1 z
      refine e_iconst (k := 53) (v := (5 : Int32)) rfl (by decide) ?_
      exact s_X4_readNote_109 hg h
    · have h := h.2 z
      refine e_iconst (k := 51) (v := (4 : Int32)) rfl (by decide) ?_
      refine e_goto (k := 52) (tgt := 109) rfl (by decide) ?_
      exact s_X4_readNote_109 hg h
  · have h := h.2 z
    refine e_aload_n (k := 32) (i := 0) rfl rfl 0 rfl ?_
    refine e_getC (k := 33) rfl f_X4_9 rfl rfl ?_
    refine e_iconst (k := 34) (v := (1 : Int32)) rfl (by decide) ?_
    refine e_aload_n (k := 35) (i := 0) rfl rfl 0 rfl ?_
    refine e_getC (k := 36) rfl f_X4_9 rfl rfl ?_
    refine e_getI (k := 37) rfl f_X4_123 rfl rfl ?_
    refine e_callVv (k := 38) (q := 33) (As := [.int (1 : Int32), .int (u0.1 33 2)]) (rest := []) rfl (c_X5_fail (g := g) hg (n := n) h) m_X5_fail i_X5_fail l_X4_93 rfl ⟨_, rfl, rfl⟩ rfl rfl (Nat.le_of_ble_eq_true rfl) ⟨by decide, by decide, rfl, rfl⟩ (fun _ h => h.elim) (fun u2 h => ?_)
    exact e_vret (k := 39) rfl rfl (Or.inl ⟨rfl, h⟩)
set_option maxRecDepth 20000 in
theorem s_X4_readNote_30 {g : Gb} (hg : xInj g) {n : Nat} {Q : Mm → Prop} {x1 : Int32} {x2 : Int32} {x3 : Int32} {x4 : Int32} {t0 : Int32} {u0 : Mm} (h : w_X4_readNote_30 n x1 x2 x3 x4 t0 u0 Q) : xE g me_X4_readNote (pV g Q noT) 30 [(0, .ref (gR g 38)), (1, .int x1), (2, .int x2), (3, .int x3), (4, .int x4)] [.int t0] u0 := by
  unfold w_X4_readNote_30 at h
  refine e_istore (k := 15) (i := 5) (lv' := [(0, .ref (gR g 38)), (1, .int x1), (2, .int x2), (3, .int x3), (4, .int x4), (5, .int t0)]) rfl (by decide) [1, 2, 3, 4, 5, 0] rfl ?_
  refine e_aload_n (k := 16) (i := 0) rfl rfl 0 rfl ?_
  refine e_getC (k := 17) rfl f_X4_9 rfl rfl ?_
  refine e_iconst (k := 18) (v := (0 : Int32)) rfl (by decide) ?_
  refine e_callVi (k := 19) (q := 33) (As := [.int (0 : Int32)]) (rest := []) rfl (c_X5_peek (g := g) hg (n := n) h) m_X5_peek i_X5_peek l_X4_126 rfl ⟨_, rfl, rfl⟩ rfl rfl (Nat.le_of_ble_eq_true rfl) ⟨by decide, by decide, rfl, rfl⟩ (fun _ h => h.elim) (fun r1 u1 h => ?_)
  refine e_istore (k := 20) (i := 6) (lv' := [(0, .ref (gR g 38)), (1, .int x1), (2, .int x2), (3, .int x3), (4, .int x4), (5, .int t0), (6, .int r1)]) rfl (by decide) [1, 2, 3, 4, 5, 6, 0] rfl ?_
  refine e_iload (k := 21) (i := 6) rfl 6 rfl ?_
  refine e_if_ge (k := 22) (tgt := 51) rfl (by decide) (fun z => ?_) (fun z => ?_)
  · have h := h.1 z
    refine e_ldcwS (k := 25) (j := 18) rfl rfl ?_
    refine e_iload (k := 26) (i := 6) rfl 6 rfl ?_
    refine e_i2c (k := 27) rfl ?_
    refine e_callKi (k := 28) (j := 18) (As := [.int (r1.toUInt32 % 65536).toInt32]) (rest := []) rfl (c_J0_indexOf_0f7a4 (g := g) hg (n := n) (by decide) h) m_J0_indexOf_0f7a4 i_J0_indexOf_0f7a4 l_X4_239 (by decide) rfl rfl rfl (Nat.le_of_ble_eq_true rfl) ⟨by decide, by decide, rfl, rfl⟩ (fun r2 u2 h => ?_)
    refine e_sub (lv' := [(0, .ref (gR g 38)), (1, .int x1), (2, .int x2), (3, .int x3), (4, .int x4), (5, .int t0)]) [0, 1, 2, 3, 4, 5] rfl ?_
    exact s_X4_readNote_60 hg h
  · have h := h.2 z
    refine e_iconst (k := 23) (v := (-1 : Int32)) rfl (by decide) ?_
    refine e_goto (k := 24) (tgt := 60) rfl (by decide) ?_
    refine e_sub (lv' := [(0, .ref (gR g 38)), (1, .int x1), (2, .int x2), (3, .int x3), (4, .int x4), (5, .int t0)]) [0, 1, 2, 3, 4, 5] rfl ?_
    exact s_X4_readNote_60 hg h
set_option maxRecDepth 20000 in
theorem c_X4_readNote {g : Gb} (hg : xInj g) {n : Nat} {a0 : Int32} {a1 : Int32} {u0 : Mm} {Q : Mm → Prop} (h : w_X4_readNote n a0 a1 u0 Q) : xMet (gL g) yX4_readNote (xws yX4_readNote cX4_readNote 11 none) (xRoom 5) (xPc g [.ref (gR g 38), .int a0, .int a1] u0) (xQ g (pV g Q noT)) (xA g) := by
  refine xbody (il := il_X4_readNote) hg il_X4_readNote_ok m_X4_readNote (Nat.le_of_ble_eq_true rfl) ?_
  show xE g me_X4_readNote (pV g Q noT) 0 [(0, .ref (gR g 38)), (1, .int a0), (2, .int a1)] [] u0
  unfold w_X4_readNote at h
  refine e_aload_n (k := 0) (i := 0) rfl rfl 0 rfl ?_
  refine e_getC (k := 1) rfl f_X4_9 rfl rfl ?_
  refine e_getI (k := 2) rfl f_X4_123 rfl rfl ?_
  refine e_ilet h (fun y1 h => ?_)
  refine e_istore_n (k := 3) (i := 3) (lv' := [(0, .ref (gR g 38)), (1, .int a0), (2, .int a1), (3, .int y1)]) rfl rfl (by decide) [1, 2, 3, 0] rfl ?_
  refine e_aload_n (k := 4) (i := 0) rfl rfl 0 rfl ?_
  refine e_callVi (k := 5) (q := 38) (As := []) (rest := []) rfl (c_X4_readSign (g := g) hg (n := n) h) m_X4_readSign i_X4_readSign l_X4_271 rfl ⟨_, rfl, rfl⟩ rfl rfl (Nat.le_of_ble_eq_true rfl) ⟨by decide, by decide, rfl, rfl⟩ (fun _ h => h.elim) (fun r1 u1 h => ?_)
  refine e_istore (k := 6) (i := 4) (lv' := [(0, .ref (gR g 38)), (1, .int a0), (2, .int a1), (3, .int y1), (4, .int r1)]) rfl (by decide) [1, 2, 3, 4, 0] rfl ?_
  refine e_aload_n (k := 7) (i := 0) rfl rfl 0 rfl ?_
  refine e_getC (k := 8) rfl f_X4_9 rfl rfl ?_
  refine e_getI (k := 9) rfl f_X4_123 rfl rfl ?_
  refine e_iload_n (k := 10) (i := 3) rfl rfl 3 rfl ?_
  refine e_icmp_le (k := 11) (tgt := 29) rfl (by decide) (fun z => ?_) (fun z => ?_)
  · have h := h.1 z
    refine e_iconst (k := 14) (v := (0 : Int32)) rfl (by decide) ?_
    exact s_X4_readNote_30 hg h
  · have h := h.2 z
    refine e_iconst (k := 12) (v := (1 : Int32)) rfl (by decide) ?_
    refine e_goto (k := 13) (tgt := 30) rfl (by decide) ?_
    exact s_X4_readNote_30 hg h
def il_X4_readOrnament : List (Nat × Instr × Nat) := [(0, .ldc 244, 2), (2, .aload_n 0, 1), (3, .getfield 9, 3), (6, .iconst 0, 1), (7, .invokevirtual 126, 3), (10, .i2c, 1), (11, .invokevirtual 239, 3), (14, .istore_n 1, 1), (15, .iload_n 1, 1), (16, .ifCond .lt 21, 3), (19, .aload_n 0, 1), (20, .getfield 33, 3), (23, .aload_n 0, 1), (24, .getfield 33, 3), (27, .getfield 381, 3), (30, .iconst 1, 1), (31, .iload_n 1, 1), (32, .ishl, 1), (33, .ior, 1), (34, .putfield 381, 3), (37, .aload_n 0, 1), (38, .getfield 9, 3), (41, .dup, 1), (42, .getfield 123, 3), (45, .iconst 1, 1), (46, .iadd, 1), (47, .putfield 123, 3), (50, .return_, 1)]
set_option maxRecDepth 20000 in
theorem il_X4_readOrnament_ok : ∀ x ∈ il_X4_readOrnament, decode cX4_readOrnament x.1 = .ok x.2 := by decide +kernel
abbrev me_X4_readOrnament : Me := (RX4, il_X4_readOrnament, 2, none, xRoom 5, [])
def w_X4_readOrnament_37 (n : Nat) (u0 : Mm) (Q : Mm → Prop) : Prop :=
  mlet (setI u0 33 2 ((u0.1 33 2) + (1 : Int32))) fun u1 =>
  Q u1
def w_X4_readOrnament (n : Nat) (u0 : Mm) (Q : Mm → Prop) : Prop :=
  w_X5_peek n (0 : Int32) u0 (fun r1 u1 =>
  w_J0_indexOf_0f7a4 n 17 (r1.toUInt32 % 65536).toInt32 u1 (fun r2 u2 =>
  (r2 < 0 → w_X4_readOrnament_37 n u2 Q) ∧
  (¬ r2 < 0 → mlet (setI u2 39 0 ((u2.1 39 0) ||| ((1 : Int32) <<< (r2 &&& 31)))) fun u3 =>
  w_X4_readOrnament_37 n u3 Q)))
set_option maxRecDepth 20000 in
theorem s_X4_readOrnament_37 {g : Gb} (hg : xInj g) {n : Nat} {Q : Mm → Prop} {u0 : Mm} (h : w_X4_readOrnament_37 n  u0 Q) : xE g me_X4_readOrnament (pV g Q noT) 37 [(0, .ref (gR g 38))] [] u0 := by
  unfold w_X4_readOrnament_37 at h
  refine e_aload_n (k := 20) (i := 0) rfl rfl 0 rfl ?_
  refine e_getC (k := 21) rfl f_X4_9 rfl rfl ?_
  refine e_dup (k := 22) rfl rfl ?_
  refine e_getI (k := 23) rfl f_X4_123 rfl rfl ?_
  refine e_iconst (k := 24) (v := (1 : Int32)) rfl (by decide) ?_
  refine e_iadd (k := 25) rfl ?_
  refine e_putI (k := 26) rfl fg_X4_123 rfl rfl ?_
  refine e_mlet h (fun u1 h => ?_)
  exact e_vret (k := 27) rfl rfl (Or.inl ⟨rfl, h⟩)
set_option maxRecDepth 20000 in
theorem c_X4_readOrnament {g : Gb} (hg : xInj g) {n : Nat} {u0 : Mm} {Q : Mm → Prop} (h : w_X4_readOrnament n u0 Q) : xMet (gL g) yX4_readOrnament (xws yX4_readOrnament cX4_readOrnament 2 none) (xRoom 5) (xPc g [.ref (gR g 38)] u0) (xQ g (pV g Q noT)) (xA g) := by
  refine xbody (il := il_X4_readOrnament) hg il_X4_readOrnament_ok m_X4_readOrnament (Nat.le_of_ble_eq_true rfl) ?_
  show xE g me_X4_readOrnament (pV g Q noT) 0 [(0, .ref (gR g 38))] [] u0
  unfold w_X4_readOrnament at h
  refine e_ldcS (k := 0) (j := 17) rfl rfl ?_
  refine e_aload_n (k := 1) (i := 0) rfl rfl 0 rfl ?_
  refine e_getC (k := 2) rfl f_X4_9 rfl rfl ?_
  refine e_iconst (k := 3) (v := (0 : Int32)) rfl (by decide) ?_
  refine e_callVi (k := 4) (q := 33) (As := [.int (0 : Int32)]) (rest := [.ref (gK g 17)]) rfl (c_X5_peek (g := g) hg (n := n) h) m_X5_peek i_X5_peek l_X4_126 rfl ⟨_, rfl, rfl⟩ rfl rfl (Nat.le_of_ble_eq_true rfl) ⟨by decide, by decide, rfl, rfl⟩ (fun _ h => h.elim) (fun r1 u1 h => ?_)
  refine e_i2c (k := 5) rfl ?_
  refine e_callKi (k := 6) (j := 17) (As := [.int (r1.toUInt32 % 65536).toInt32]) (rest := []) rfl (c_J0_indexOf_0f7a4 (g := g) hg (n := n) (by decide) h) m_J0_indexOf_0f7a4 i_J0_indexOf_0f7a4 l_X4_239 (by decide) rfl rfl rfl (Nat.le_of_ble_eq_true rfl) ⟨by decide, by decide, rfl, rfl⟩ (fun r2 u2 h => ?_)
  refine e_istore_n (k := 7) (i := 1) (lv' := [(0, .ref (gR g 38)), (1, .int r2)]) rfl rfl (by decide) [1, 0] rfl ?_
  refine e_iload_n (k := 8) (i := 1) rfl rfl 1 rfl ?_
  refine e_if_lt (k := 9) (tgt := 37) rfl (by decide) (fun z => ?_) (fun z => ?_)
  · have h := h.1 z
    refine e_sub (lv' := [(0, .ref (gR g 38))]) [0] rfl ?_
    exact s_X4_readOrnament_37 hg h
  · have h := h.2 z
    refine e_aload_n (k := 10) (i := 0) rfl rfl 0 rfl ?_
    refine e_getC (k := 11) rfl f_X4_33 rfl rfl ?_
    refine e_aload_n (k := 12) (i := 0) rfl rfl 0 rfl ?_
    refine e_getC (k := 13) rfl f_X4_33 rfl rfl ?_
    refine e_getI (k := 14) rfl f_X4_381 rfl rfl ?_
    refine e_iconst (k := 15) (v := (1 : Int32)) rfl (by decide) ?_
    refine e_iload_n (k := 16) (i := 1) rfl rfl 1 rfl ?_
    refine e_ishl (k := 17) rfl ?_
    refine e_ior (k := 18) rfl ?_
    refine e_putI (k := 19) rfl fg_X4_381 rfl rfl ?_
    refine e_mlet h (fun u3 h => ?_)
    refine e_sub (lv' := [(0, .ref (gR g 38))]) [0] rfl ?_
    exact s_X4_readOrnament_37 hg h
def il_X5_takeWord : List (Nat × Instr × Nat) := [(0, .aload_n 1, 1), (1, .invokevirtual 58, 3), (4, .istore_n 2, 1), (5, .aload_n 0, 1), (6, .getfield 28, 3), (9, .ifCond .lt 28, 3), (12, .iload_n 2, 1), (13, .aload_n 0, 1), (14, .getfield 34, 3), (17, .aload_n 0, 1), (18, .getfield 28, 3), (21, .isub, 1), (22, .if_icmp .gt 15, 3), (25, .aload_n 0, 1), (26, .getfield 34, 3), (29, .aload_n 0, 1), (30, .getfield 9, 3), (33, .arraylength, 1), (34, .if_icmp .le 5, 3), (37, .iconst 0, 1), (38, .ireturn, 1), (39, .iconst 0, 1), (40, .istore_n 3, 1), (41, .iload_n 3, 1), (42, .iload_n 2, 1), (43, .if_icmp .ge 30, 3), (46, .aload_n 0, 1), (47, .getfield 9, 3), (50, .aload_n 0, 1), (51, .getfield 28, 3), (54, .iload_n 3, 1), (55, .iadd, 1), (56, .baload, 1), (57, .aload_n 1, 1), (58, .iload_n 3, 1), (59, .invokevirtual 64, 3), (62, .if_icmp .eq 5, 3), (65, .iconst 0, 1), (66, .ireturn, 1), (67, .iinc 3 1, 3), (70, .goto (-29), 3), (73, .aload_n 0, 1), (74, .dup, 1), (75, .getfield 28, 3), (78, .iload_n 2, 1), (79, .iadd, 1), (80, .putfield 28, 3), (83, .iconst 1, 1), (84, .ireturn, 1)]
set_option maxRecDepth 20000 in
theorem il_X5_takeWord_ok : ∀ x ∈ il_X5_takeWord, decode cX5_takeWord x.1 = .ok x.2 := by decide +kernel
abbrev me_X5_takeWord : Me := (RX5, il_X5_takeWord, 4, (some .boolean), xRoom 5, [])
def w_X5_takeWord_41 (n : Nat) (a0 : Nat) (Q : Int32 → Mm → Prop) : Nat → Int32 → Int32 → Mm → Prop
  | 0, _, _, _ => False
  | k + 1, x2, x3, u0 =>
  (x2 ≤ x3 → mlet (setI u0 33 2 ((u0.1 33 2) + x2)) fun u1 =>
  Q (1 : Int32) u1) ∧
  (¬ x2 ≤ x3 → vp_in ((u0.1 33 2) + x3) 2400 ∧ (w_J0_charAt_5068e n a0 x3 u0 (fun r1 u2 =>
  ((u0.1 (u0.2.2 1) (ix ((u0.1 33 2) + x3))) = r1 → (w_X5_takeWord_41 n a0 Q k) x2 (x3 + (1 : Int32)) u2) ∧
  (¬ (u0.1 (u0.2.2 1) (ix ((u0.1 33 2) + x3))) = r1 → Q (0 : Int32) u2))))
def w_X5_takeWord_37 (n : Nat) (a0 : Nat) (u0 : Mm) (Q : Int32 → Mm → Prop) : Prop :=
  Q (0 : Int32) u0
def w_X5_takeWord (n : Nat) (a0 : Nat) (u0 : Mm) (Q : Int32 → Mm → Prop) : Prop :=
  w_J0_length_8abf5 n a0 u0 (fun r1 u1 =>
  ((u1.1 33 2) < 0 → w_X5_takeWord_37 n a0 u1 Q) ∧
  (¬ (u1.1 33 2) < 0 → (((u1.1 33 4) - (u1.1 33 2)) < r1 → w_X5_takeWord_37 n a0 u1 Q) ∧
  (¬ ((u1.1 33 4) - (u1.1 33 2)) < r1 → ((u1.1 33 4) ≤ (2400 : Int32) → (w_X5_takeWord_41 n a0 Q n) r1 (0 : Int32) u1) ∧
  (¬ (u1.1 33 4) ≤ (2400 : Int32) → w_X5_takeWord_37 n a0 u1 Q))))
set_option maxRecDepth 20000 in
theorem s_X5_takeWord_41 {g : Gb} (hg : xInj g) {n : Nat} {a0 : Nat} (ha0 : a0 < xtx.length) {Q : Int32 → Mm → Prop} : ∀ (k : Nat) (x2 : Int32) (x3 : Int32) (u0 : Mm), w_X5_takeWord_41 n a0 Q k x2 x3 u0 → xE g me_X5_takeWord (pI g Q noT) 41 [(0, .ref (gR g 33)), (1, .ref (gK g a0)), (2, .int x2), (3, .int x3)] [] u0 := by
  intro k
  induction k with
  | zero => intro x2 x3 u0 h; exact h.elim
  | succ k ih =>
    intro x2 x3 u0 h
    unfold w_X5_takeWord_41 at h
    refine e_iload_n (k := 23) (i := 3) rfl rfl 3 rfl ?_
    refine e_iload_n (k := 24) (i := 2) rfl rfl 2 rfl ?_
    refine e_icmp_ge (k := 25) (tgt := 73) rfl (by decide) (fun z => ?_) (fun z => ?_)
    · have h := h.1 z
      refine e_aload_n (k := 41) (i := 0) rfl rfl 0 rfl ?_
      refine e_dup (k := 42) rfl rfl ?_
      refine e_getI (k := 43) rfl f_X5_28 rfl rfl ?_
      refine e_iload_n (k := 44) (i := 2) rfl rfl 2 rfl ?_
      refine e_iadd (k := 45) rfl ?_
      refine e_putI (k := 46) rfl fg_X5_28 rfl rfl ?_
      refine e_mlet h (fun u1 h => ?_)
      refine e_iconst (k := 47) (v := (1 : Int32)) rfl (by decide) ?_
      exact e_zret (k := 48) rfl rfl (by decide) (Or.inl ⟨_, rfl, h⟩)
    · have h := h.2 z
      refine e_aload_n (k := 26) (i := 0) rfl rfl 0 rfl ?_
      refine e_getP (k := 27) rfl f_X5_9 rfl rfl (fun ty1 => ?_)
      refine e_aload_n (k := 28) (i := 0) rfl rfl 0 rfl ?_
      refine e_getI (k := 29) rfl f_X5_28 rfl rfl ?_
      refine e_iload_n (k := 30) (i := 3) rfl rfl 3 rfl ?_
      refine e_iadd (k := 31) rfl ?_
      refine e_bald (k := 32) rfl ty1.2.1 h.1 ?_
      have h := h.2
      refine e_aload_n (k := 33) (i := 1) rfl rfl 1 rfl ?_
      refine e_iload_n (k := 34) (i := 3) rfl rfl 3 rfl ?_
      refine e_callKi (k := 35) (j := a0) (As := [.int x3]) (rest := [.int (u0.1 (u0.2.2 1) (ix ((u0.1 33 2) + x3)))]) rfl (c_J0_charAt_5068e (g := g) hg (n := n) ha0 h) m_J0_charAt_5068e i_J0_charAt_5068e l_X5_64 ha0 rfl rfl rfl (Nat.le_of_ble_eq_true rfl) ⟨by decide, by decide, rfl, rfl⟩ (fun r1 u2 h => ?_)
      refine e_icmp_eq (k := 36) (tgt := 67) rfl (by decide) (fun z => ?_) (fun z => ?_)
      · have h := h.1 z
        refine e_iinc (k := 39) (i := 3) (j := 3) (v := (x3 + (1 : Int32))) (lv' := [(0, .ref (gR g 33)), (1, .ref (gK g a0)), (2, .int x2), (3, .int (x3 + (1 : Int32)))]) rfl rfl rfl (by decide) [1, 2, 3, 0] rfl ?_
        refine e_goto (k := 40) (tgt := 41) rfl (by decide) ?_
        exact ih x2 (x3 + (1 : Int32)) u2 h
      · have h := h.2 z
        refine e_iconst (k := 37) (v := (0 : Int32)) rfl (by decide) ?_
        exact e_zret (k := 38) rfl rfl (by decide) (Or.inl ⟨_, rfl, h⟩)
set_option maxRecDepth 20000 in
theorem s_X5_takeWord_37 {g : Gb} (hg : xInj g) {n : Nat} {a0 : Nat} (ha0 : a0 < xtx.length) {Q : Int32 → Mm → Prop} {u0 : Mm} (h : w_X5_takeWord_37 n a0  u0 Q) : xE g me_X5_takeWord (pI g Q noT) 37 [] [] u0 := by
  unfold w_X5_takeWord_37 at h
  refine e_iconst (k := 19) (v := (0 : Int32)) rfl (by decide) ?_
  exact e_zret (k := 20) rfl rfl (by decide) (Or.inl ⟨_, rfl, h⟩)
set_option maxRecDepth 20000 in
theorem c_X5_takeWord {g : Gb} (hg : xInj g) {n : Nat} {a0 : Nat} (ha0 : a0 < xtx.length) {u0 : Mm} {Q : Int32 → Mm → Prop} (h : w_X5_takeWord n a0 u0 Q) : xMet (gL g) yX5_takeWord (xws yX5_takeWord cX5_takeWord 4 (some .boolean)) (xRoom 5) (xPc g [.ref (gR g 33), .ref (gK g a0)] u0) (xQ g (pI g Q noT)) (xA g) := by
  refine xbody (il := il_X5_takeWord) hg il_X5_takeWord_ok m_X5_takeWord (Nat.le_of_ble_eq_true rfl) ?_
  show xE g me_X5_takeWord (pI g Q noT) 0 [(0, .ref (gR g 33)), (1, .ref (gK g a0))] [] u0
  unfold w_X5_takeWord at h
  refine e_aload_n (k := 0) (i := 1) rfl rfl 1 rfl ?_
  refine e_callKi (k := 1) (j := a0) (As := []) (rest := []) rfl (c_J0_length_8abf5 (g := g) hg (n := n) ha0 h) m_J0_length_8abf5 i_J0_length_8abf5 l_X5_58 ha0 rfl rfl rfl (Nat.le_of_ble_eq_true rfl) ⟨by decide, by decide, rfl, rfl⟩ (fun r1 u1 h => ?_)
  refine e_istore_n (k := 2) (i := 2) (lv' := [(0, .ref (gR g 33)), (1, .ref (gK g a0)), (2, .int r1)]) rfl rfl (by decide) [1, 2, 0] rfl ?_
  refine e_aload_n (k := 3) (i := 0) rfl rfl 0 rfl ?_
  refine e_getI (k := 4) rfl f_X5_28 rfl rfl ?_
  refine e_if_lt (k := 5) (tgt := 37) rfl (by decide) (fun z => ?_) (fun z => ?_)
  · have h := h.1 z
    refine e_sub (lv' := []) [] rfl ?_
    exact s_X5_takeWord_37 hg ha0 h
  · have h := h.2 z
    refine e_iload_n (k := 6) (i := 2) rfl rfl 2 rfl ?_
    refine e_aload_n (k := 7) (i := 0) rfl rfl 0 rfl ?_
    refine e_getI (k := 8) rfl f_X5_34 rfl rfl ?_
    refine e_aload_n (k := 9) (i := 0) rfl rfl 0 rfl ?_
    refine e_getI (k := 10) rfl f_X5_28 rfl rfl ?_
    refine e_isub (k := 11) rfl ?_
    refine e_icmp_gt (k := 12) (tgt := 37) rfl (by decide) (fun z => ?_) (fun z => ?_)
    · have h := h.1 z
      refine e_sub (lv' := []) [] rfl ?_
      exact s_X5_takeWord_37 hg ha0 h
    · have h := h.2 z
      refine e_aload_n (k := 13) (i := 0) rfl rfl 0 rfl ?_
      refine e_getI (k := 14) rfl f_X5_34 rfl rfl ?_
      refine e_aload_n (k := 15) (i := 0) rfl rfl 0 rfl ?_
      refine e_getP (k := 16) rfl f_X5_9 rfl rfl (fun ty1 => ?_)
      refine e_alen (k := 17) (v := (2400 : Int32)) rfl ty1.2.1 (by decide) (by decide) ?_
      refine e_icmp_le (k := 18) (tgt := 39) rfl (by decide) (fun z => ?_) (fun z => ?_)
      · have h := h.1 z
        refine e_iconst (k := 21) (v := (0 : Int32)) rfl (by decide) ?_
        refine e_istore_n (k := 22) (i := 3) (lv' := [(0, .ref (gR g 33)), (1, .ref (gK g a0)), (2, .int r1), (3, .int (0 : Int32))]) rfl rfl (by decide) [1, 2, 3, 0] rfl ?_
        exact s_X5_takeWord_41 hg ha0 n r1 (0 : Int32) u1 h
      · have h := h.2 z
        refine e_sub (lv' := []) [] rfl ?_
        exact s_X5_takeWord_37 hg ha0 h
def il_X9_writeLetter : List (Nat × Instr × Nat) := [(0, .iload_n 2, 1), (1, .iconst 4, 1), (2, .if_icmp .le 10, 3), (5, .iload_n 1, 1), (6, .bipush 7, 2), (8, .iadd, 1), (9, .goto 4, 3), (12, .iload_n 1, 1), (13, .istore_n 3, 1), (14, .iload_n 3, 1), (15, .ifCond .lt 22, 3), (18, .iload_n 3, 1), (19, .ldc 52, 2), (21, .invokevirtual 54, 3), (24, .if_icmp .ge 13, 3), (27, .aload_n 0, 1), (28, .ldc 52, 2), (30, .iload_n 3, 1), (31, .invokevirtual 60, 3), (34, .invokevirtual 43, 3), (37, .iconst 5, 1), (38, .istore 4, 2), (40, .iload 4, 2), (42, .iload_n 2, 1), (43, .if_icmp .ge 15, 3), (46, .aload_n 0, 1), (47, .bipush 39, 2), (49, .invokevirtual 43, 3), (52, .iinc 4 1, 3), (55, .goto (-15), 3), (58, .iconst 4, 1), (59, .istore 4, 2), (61, .iload 4, 2), (63, .iload_n 2, 1), (64, .if_icmp .le 15, 3), (67, .aload_n 0, 1), (68, .bipush 44, 2), (70, .invokevirtual 43, 3), (73, .iinc 4 (-1), 3), (76, .goto (-15), 3), (79, .return_, 1)]
set_option maxRecDepth 20000 in
theorem il_X9_writeLetter_ok : ∀ x ∈ il_X9_writeLetter, decode cX9_writeLetter x.1 = .ok x.2 := by decide +kernel
abbrev me_X9_writeLetter : Me := (RX9, il_X9_writeLetter, 5, none, xRoom 5, [])
def w_X9_writeLetter_61 (n : Nat) (Q : Mm → Prop) : Nat → Int32 → Int32 → Mm → Prop
  | 0, _, _, _ => False
  | k + 1, x2, x4, u0 =>
  (x4 ≤ x2 → Q u0) ∧
  (¬ x4 ≤ x2 → w_X9_put n (44 : Int32) u0 (fun u1 =>
  (w_X9_writeLetter_61 n Q k) x2 (x4 + (-1 : Int32)) u1))
def w_X9_writeLetter_40 (n : Nat) (Q : Mm → Prop) : Nat → Int32 → Int32 → Mm → Prop
  | 0, _, _, _ => False
  | k + 1, x2, x4, u0 =>
  (x2 ≤ x4 → (w_X9_writeLetter_61 n Q n) x2 (4 : Int32) u0) ∧
  (¬ x2 ≤ x4 → w_X9_put n (39 : Int32) u0 (fun u1 =>
  (w_X9_writeLetter_40 n Q k) x2 (x4 + (1 : Int32)) u1))
def w_X9_writeLetter_37 (n : Nat) (x2 : Int32) (u0 : Mm) (Q : Mm → Prop) : Prop :=
  (w_X9_writeLetter_40 n Q n) x2 (5 : Int32) u0
def w_X9_writeLetter_13 (n : Nat) (x2 : Int32) (t0 : Int32) (u0 : Mm) (Q : Mm → Prop) : Prop :=
  (t0 < 0 → w_X9_writeLetter_37 n x2 u0 Q) ∧
  (¬ t0 < 0 → w_J0_length_8abf5 n 19 u0 (fun r1 u1 =>
  (r1 ≤ t0 → w_X9_writeLetter_37 n x2 u1 Q) ∧
  (¬ r1 ≤ t0 → w_J0_charAt_5068e n 19 t0 u1 (fun r2 u2 =>
  w_X9_put n r2 u2 (fun u3 =>
  w_X9_writeLetter_37 n x2 u3 Q)))))
def w_X9_writeLetter (n : Nat) (a0 : Int32) (a1 : Int32) (u0 : Mm) (Q : Mm → Prop) : Prop :=
  (a1 ≤ (4 : Int32) → w_X9_writeLetter_13 n a1 a0 u0 Q) ∧
  (¬ a1 ≤ (4 : Int32) → w_X9_writeLetter_13 n a1 (a0 + (7 : Int32)) u0 Q)
set_option maxRecDepth 20000 in
theorem s_X9_writeLetter_61 {g : Gb} (hg : xInj g) {n : Nat} {Q : Mm → Prop} : ∀ (k : Nat) (x2 : Int32) (x4 : Int32) (u0 : Mm), w_X9_writeLetter_61 n Q k x2 x4 u0 → xE g me_X9_writeLetter (pV g Q noT) 61 [(0, .ref (gR g 40)), (2, .int x2), (4, .int x4)] [] u0 := by
  intro k
  induction k with
  | zero => intro x2 x4 u0 h; exact h.elim
  | succ k ih =>
    intro x2 x4 u0 h
    unfold w_X9_writeLetter_61 at h
    refine e_iload (k := 32) (i := 4) rfl 2 rfl ?_
    refine e_iload_n (k := 33) (i := 2) rfl rfl 1 rfl ?_
    refine e_icmp_le (k := 34) (tgt := 79) rfl (by decide) (fun z => ?_) (fun z => ?_)
    · have h := h.1 z
      exact e_vret (k := 40) rfl rfl (Or.inl ⟨rfl, h⟩)
    · have h := h.2 z
      refine e_aload_n (k := 35) (i := 0) rfl rfl 0 rfl ?_
      refine e_bipush (k := 36) (v := (44 : Int32)) rfl (by decide) ?_
      refine e_callVv (k := 37) (q := 40) (As := [.int (44 : Int32)]) (rest := []) rfl (c_X9_put (g := g) hg (n := n) h) m_X9_put i_X9_put l_X9_43 rfl ⟨_, rfl, rfl⟩ rfl rfl (Nat.le_of_ble_eq_true rfl) ⟨by decide, by decide, rfl, rfl⟩ (fun _ h => h.elim) (fun u1 h => ?_)
      refine e_iinc (k := 38) (i := 4) (j := 2) (v := (x4 + (-1 : Int32))) (lv' := [(0, .ref (gR g 40)), (2, .int x2), (4, .int (x4 + (-1 : Int32)))]) rfl rfl rfl (by decide) [1, 2, 0] rfl ?_
      refine e_goto (k := 39) (tgt := 61) rfl (by decide) ?_
      exact ih x2 (x4 + (-1 : Int32)) u1 h
set_option maxRecDepth 20000 in
theorem s_X9_writeLetter_40 {g : Gb} (hg : xInj g) {n : Nat} {Q : Mm → Prop} : ∀ (k : Nat) (x2 : Int32) (x4 : Int32) (u0 : Mm), w_X9_writeLetter_40 n Q k x2 x4 u0 → xE g me_X9_writeLetter (pV g Q noT) 40 [(0, .ref (gR g 40)), (2, .int x2), (4, .int x4)] [] u0 := by
  intro k
  induction k with
  | zero => intro x2 x4 u0 h; exact h.elim
  | succ k ih =>
    intro x2 x4 u0 h
    unfold w_X9_writeLetter_40 at h
    refine e_iload (k := 22) (i := 4) rfl 2 rfl ?_
    refine e_iload_n (k := 23) (i := 2) rfl rfl 1 rfl ?_
    refine e_icmp_ge (k := 24) (tgt := 58) rfl (by decide) (fun z => ?_) (fun z => ?_)
    · have h := h.1 z
      refine e_iconst (k := 30) (v := (4 : Int32)) rfl (by decide) ?_
      refine e_istore (k := 31) (i := 4) (lv' := [(0, .ref (gR g 40)), (2, .int x2), (4, .int (4 : Int32))]) rfl (by decide) [1, 2, 0] rfl ?_
      exact s_X9_writeLetter_61 hg n x2 (4 : Int32) u0 h
    · have h := h.2 z
      refine e_aload_n (k := 25) (i := 0) rfl rfl 0 rfl ?_
      refine e_bipush (k := 26) (v := (39 : Int32)) rfl (by decide) ?_
      refine e_callVv (k := 27) (q := 40) (As := [.int (39 : Int32)]) (rest := []) rfl (c_X9_put (g := g) hg (n := n) h) m_X9_put i_X9_put l_X9_43 rfl ⟨_, rfl, rfl⟩ rfl rfl (Nat.le_of_ble_eq_true rfl) ⟨by decide, by decide, rfl, rfl⟩ (fun _ h => h.elim) (fun u1 h => ?_)
      refine e_iinc (k := 28) (i := 4) (j := 2) (v := (x4 + (1 : Int32))) (lv' := [(0, .ref (gR g 40)), (2, .int x2), (4, .int (x4 + (1 : Int32)))]) rfl rfl rfl (by decide) [1, 2, 0] rfl ?_
      refine e_goto (k := 29) (tgt := 40) rfl (by decide) ?_
      exact ih x2 (x4 + (1 : Int32)) u1 h
set_option maxRecDepth 20000 in
theorem s_X9_writeLetter_37 {g : Gb} (hg : xInj g) {n : Nat} {Q : Mm → Prop} {x2 : Int32} {u0 : Mm} (h : w_X9_writeLetter_37 n x2 u0 Q) : xE g me_X9_writeLetter (pV g Q noT) 37 [(0, .ref (gR g 40)), (2, .int x2)] [] u0 := by
  unfold w_X9_writeLetter_37 at h
  refine e_iconst (k := 20) (v := (5 : Int32)) rfl (by decide) ?_
  refine e_istore (k := 21) (i := 4) (lv' := [(0, .ref (gR g 40)), (2, .int x2), (4, .int (5 : Int32))]) rfl (by decide) [1, 2, 0] rfl ?_
  exact s_X9_writeLetter_40 hg n x2 (5 : Int32) u0 h
set_option maxRecDepth 20000 in
theorem s_X9_writeLetter_13 {g : Gb} (hg : xInj g) {n : Nat} {Q : Mm → Prop} {x2 : Int32} {t0 : Int32} {u0 : Mm} (h : w_X9_writeLetter_13 n x2 t0 u0 Q) : xE g me_X9_writeLetter (pV g Q noT) 13 [(0, .ref (gR g 40)), (2, .int x2)] [.int t0] u0 := by
  unfold w_X9_writeLetter_13 at h
  refine e_istore_n (k := 8) (i := 3) (lv' := [(0, .ref (gR g 40)), (2, .int x2), (3, .int t0)]) rfl rfl (by decide) [1, 2, 0] rfl ?_
  refine e_iload_n (k := 9) (i := 3) rfl rfl 2 rfl ?_
  refine e_if_lt (k := 10) (tgt := 37) rfl (by decide) (fun z => ?_) (fun z => ?_)
  · have h := h.1 z
    refine e_sub (lv' := [(0, .ref (gR g 40)), (2, .int x2)]) [0, 1] rfl ?_
    exact s_X9_writeLetter_37 hg h
  · have h := h.2 z
    refine e_iload_n (k := 11) (i := 3) rfl rfl 2 rfl ?_
    refine e_ldcS (k := 12) (j := 19) rfl rfl ?_
    refine e_callKi (k := 13) (j := 19) (As := []) (rest := [.int t0]) rfl (c_J0_length_8abf5 (g := g) hg (n := n) (by decide) h) m_J0_length_8abf5 i_J0_length_8abf5 l_X9_54 (by decide) rfl rfl rfl (Nat.le_of_ble_eq_true rfl) ⟨by decide, by decide, rfl, rfl⟩ (fun r1 u1 h => ?_)
    refine e_icmp_ge (k := 14) (tgt := 37) rfl (by decide) (fun z => ?_) (fun z => ?_)
    · have h := h.1 z
      refine e_sub (lv' := [(0, .ref (gR g 40)), (2, .int x2)]) [0, 1] rfl ?_
      exact s_X9_writeLetter_37 hg h
    · have h := h.2 z
      refine e_aload_n (k := 15) (i := 0) rfl rfl 0 rfl ?_
      refine e_ldcS (k := 16) (j := 19) rfl rfl ?_
      refine e_iload_n (k := 17) (i := 3) rfl rfl 2 rfl ?_
      refine e_callKi (k := 18) (j := 19) (As := [.int t0]) (rest := [.ref (gR g 40)]) rfl (c_J0_charAt_5068e (g := g) hg (n := n) (by decide) h) m_J0_charAt_5068e i_J0_charAt_5068e l_X9_60 (by decide) rfl rfl rfl (Nat.le_of_ble_eq_true rfl) ⟨by decide, by decide, rfl, rfl⟩ (fun r2 u2 h => ?_)
      refine e_callVv (k := 19) (q := 40) (As := [.int r2]) (rest := []) rfl (c_X9_put (g := g) hg (n := n) h) m_X9_put i_X9_put l_X9_43 rfl ⟨_, rfl, rfl⟩ rfl rfl (Nat.le_of_ble_eq_true rfl) ⟨by decide, by decide, rfl, rfl⟩ (fun _ h => h.elim) (fun u3 h => ?_)
      refine e_sub (lv' := [(0, .ref (gR g 40)), (2, .int x2)]) [0, 1] rfl ?_
      exact s_X9_writeLetter_37 hg h
set_option maxRecDepth 20000 in
theorem c_X9_writeLetter {g : Gb} (hg : xInj g) {n : Nat} {a0 : Int32} {a1 : Int32} {u0 : Mm} {Q : Mm → Prop} (h : w_X9_writeLetter n a0 a1 u0 Q) : xMet (gL g) yX9_writeLetter (xws yX9_writeLetter cX9_writeLetter 5 none) (xRoom 5) (xPc g [.ref (gR g 40), .int a0, .int a1] u0) (xQ g (pV g Q noT)) (xA g) := by
  refine xbody (il := il_X9_writeLetter) hg il_X9_writeLetter_ok m_X9_writeLetter (Nat.le_of_ble_eq_true rfl) ?_
  show xE g me_X9_writeLetter (pV g Q noT) 0 [(0, .ref (gR g 40)), (1, .int a0), (2, .int a1)] [] u0
  unfold w_X9_writeLetter at h
  refine e_iload_n (k := 0) (i := 2) rfl rfl 2 rfl ?_
  refine e_iconst (k := 1) (v := (4 : Int32)) rfl (by decide) ?_
  refine e_icmp_le (k := 2) (tgt := 12) rfl (by decide) (fun z => ?_) (fun z => ?_)
  · have h := h.1 z
    refine e_iload_n (k := 7) (i := 1) rfl rfl 1 rfl ?_
    refine e_sub (lv' := [(0, .ref (gR g 40)), (2, .int a1)]) [0, 2] rfl ?_
    exact s_X9_writeLetter_13 hg h
  · have h := h.2 z
    refine e_iload_n (k := 3) (i := 1) rfl rfl 1 rfl ?_
    refine e_bipush (k := 4) (v := (7 : Int32)) rfl (by decide) ?_
    refine e_iadd (k := 5) rfl ?_
    refine e_goto (k := 6) (tgt := 13) rfl (by decide) ?_
    refine e_sub (lv' := [(0, .ref (gR g 40)), (2, .int a1)]) [0, 2] rfl ?_
    exact s_X9_writeLetter_13 hg h
def il_X0_readMeter : List (Nat × Instr × Nat) := [(0, .aload_n 0, 1), (1, .iconst 0, 1), (2, .iconst 0, 1), (3, .invokevirtual 15, 3), (6, .aload_n 0, 1), (7, .getfield 9, 3), (10, .ldc 19, 2), (12, .invokevirtual 21, 3), (15, .ifCond .eq 4, 3), (18, .return_, 1), (19, .aload_n 0, 1), (20, .getfield 9, 3), (23, .ldc 27, 2), (25, .invokevirtual 21, 3), (28, .ifCond .eq 10, 3), (31, .aload_n 0, 1), (32, .iconst 2, 1), (33, .iconst 2, 1), (34, .invokevirtual 15, 3), (37, .return_, 1), (38, .aload_n 0, 1), (39, .getfield 9, 3), (42, .ldc 29, 2), (44, .invokevirtual 21, 3), (47, .ifCond .eq 10, 3), (50, .aload_n 0, 1), (51, .iconst 4, 1), (52, .iconst 4, 1), (53, .invokevirtual 15, 3), (56, .return_, 1), (57, .aload_n 0, 1), (58, .aload_n 0, 1), (59, .getfield 9, 3), (62, .bipush 32, 2), (64, .iconst 0, 1), (65, .invokevirtual 31, 3), (68, .putfield 35, 3), (71, .aload_n 0, 1), (72, .getfield 9, 3), (75, .getfield 38, 3), (78, .ifCond .eq 4, 3), (81, .return_, 1), (82, .aload_n 0, 1), (83, .getfield 9, 3), (86, .iconst 0, 1), (87, .invokevirtual 41, 3), (90, .bipush 47, 2), (92, .if_icmp .eq 19, 3), (95, .aload_n 0, 1), (96, .getfield 9, 3), (99, .iconst 1, 1), (100, .aload_n 0, 1), (101, .getfield 9, 3), (104, .getfield 45, 3), (107, .invokevirtual 48, 3), (110, .return_, 1), (111, .aload_n 0, 1), (112, .getfield 9, 3), (115, .dup, 1), (116, .getfield 45, 3), (119, .iconst 1, 1), (120, .iadd, 1), (121, .putfield 45, 3), (124, .aload_n 0, 1), (125, .aload_n 0, 1), (126, .getfield 9, 3), (129, .bipush 32, 2), (131, .iconst 1, 1), (132, .invokevirtual 31, 3), (135, .putfield 51, 3), (138, .return_, 1)]
set_option maxRecDepth 20000 in
theorem il_X0_readMeter_ok : ∀ x ∈ il_X0_readMeter, decode cX0_readMeter x.1 = .ok x.2 := by decide +kernel
abbrev me_X0_readMeter : Me := (RX0, il_X0_readMeter, 1, none, xRoom 6, [])
def w_X0_readMeter (n : Nat) (u0 : Mm) (Q : Mm → Prop) : Prop :=
  w_X0_setMeter n (0 : Int32) (0 : Int32) u0 (fun u1 =>
  w_X5_takeWord n 0 u1 (fun r1 u2 =>
  (r1 = 0 → w_X5_takeWord n 1 u2 (fun r2 u3 =>
  (r2 = 0 → w_X5_takeWord n 2 u3 (fun r3 u4 =>
  (r3 = 0 → w_X5_number n (32 : Int32) (0 : Int32) u4 (fun r4 u5 =>
  mlet (setI u5 34 1 r4) fun u6 =>
  ((u6.1 33 6) = 0 → w_X5_peek n (0 : Int32) u6 (fun r5 u7 =>
  (r5 = (47 : Int32) → mlet (setI u7 33 2 ((u7.1 33 2) + (1 : Int32))) fun u8 =>
  w_X5_number n (32 : Int32) (1 : Int32) u8 (fun r6 u9 =>
  mlet (setI u9 34 2 r6) fun u10 =>
  Q u10)) ∧
  (¬ r5 = (47 : Int32) → w_X5_fail n (1 : Int32) (u7.1 33 2) u7 (fun u11 =>
  Q u11)))) ∧
  (¬ (u6.1 33 6) = 0 → Q u6))) ∧
  (¬ r3 = 0 → w_X0_setMeter n (4 : Int32) (4 : Int32) u4 (fun u12 =>
  Q u12)))) ∧
  (¬ r2 = 0 → w_X0_setMeter n (2 : Int32) (2 : Int32) u3 (fun u13 =>
  Q u13)))) ∧
  (¬ r1 = 0 → Q u2)))
set_option maxRecDepth 20000 in
theorem c_X0_readMeter {g : Gb} (hg : xInj g) {n : Nat} {u0 : Mm} {Q : Mm → Prop} (h : w_X0_readMeter n u0 Q) : xMet (gL g) yX0_readMeter (xws yX0_readMeter cX0_readMeter 1 none) (xRoom 6) (xPc g [.ref (gR g 34)] u0) (xQ g (pV g Q noT)) (xA g) := by
  refine xbody (il := il_X0_readMeter) hg il_X0_readMeter_ok m_X0_readMeter (Nat.le_of_ble_eq_true rfl) ?_
  show xE g me_X0_readMeter (pV g Q noT) 0 [(0, .ref (gR g 34))] [] u0
  unfold w_X0_readMeter at h
  refine e_aload_n (k := 0) (i := 0) rfl rfl 0 rfl ?_
  refine e_iconst (k := 1) (v := (0 : Int32)) rfl (by decide) ?_
  refine e_iconst (k := 2) (v := (0 : Int32)) rfl (by decide) ?_
  refine e_callVv (k := 3) (q := 34) (As := [.int (0 : Int32), .int (0 : Int32)]) (rest := []) rfl (c_X0_setMeter (g := g) hg (n := n) h) m_X0_setMeter i_X0_setMeter l_X0_15 rfl ⟨_, rfl, rfl⟩ rfl rfl (Nat.le_of_ble_eq_true rfl) ⟨by decide, by decide, rfl, rfl⟩ (fun _ h => h.elim) (fun u1 h => ?_)
  refine e_aload_n (k := 4) (i := 0) rfl rfl 0 rfl ?_
  refine e_getC (k := 5) rfl f_X0_9 rfl rfl ?_
  refine e_ldcS (k := 6) (j := 0) rfl rfl ?_
  refine e_callVi (k := 7) (q := 33) (As := [.ref (gK g 0)]) (rest := []) rfl (c_X5_takeWord (g := g) hg (n := n) (by decide) h) m_X5_takeWord i_X5_takeWord l_X0_21 rfl ⟨_, rfl, rfl⟩ rfl rfl (Nat.le_of_ble_eq_true rfl) ⟨by decide, by decide, rfl, rfl⟩ (fun _ h => h.elim) (fun r1 u2 h => ?_)
  refine e_if_eq (k := 8) (tgt := 19) rfl (by decide) (fun z => ?_) (fun z => ?_)
  · have h := h.1 z
    refine e_aload_n (k := 10) (i := 0) rfl rfl 0 rfl ?_
    refine e_getC (k := 11) rfl f_X0_9 rfl rfl ?_
    refine e_ldcS (k := 12) (j := 1) rfl rfl ?_
    refine e_callVi (k := 13) (q := 33) (As := [.ref (gK g 1)]) (rest := []) rfl (c_X5_takeWord (g := g) hg (n := n) (by decide) h) m_X5_takeWord i_X5_takeWord l_X0_21 rfl ⟨_, rfl, rfl⟩ rfl rfl (Nat.le_of_ble_eq_true rfl) ⟨by decide, by decide, rfl, rfl⟩ (fun _ h => h.elim) (fun r2 u3 h => ?_)
    refine e_if_eq (k := 14) (tgt := 38) rfl (by decide) (fun z => ?_) (fun z => ?_)
    · have h := h.1 z
      refine e_aload_n (k := 20) (i := 0) rfl rfl 0 rfl ?_
      refine e_getC (k := 21) rfl f_X0_9 rfl rfl ?_
      refine e_ldcS (k := 22) (j := 2) rfl rfl ?_
      refine e_callVi (k := 23) (q := 33) (As := [.ref (gK g 2)]) (rest := []) rfl (c_X5_takeWord (g := g) hg (n := n) (by decide) h) m_X5_takeWord i_X5_takeWord l_X0_21 rfl ⟨_, rfl, rfl⟩ rfl rfl (Nat.le_of_ble_eq_true rfl) ⟨by decide, by decide, rfl, rfl⟩ (fun _ h => h.elim) (fun r3 u4 h => ?_)
      refine e_if_eq (k := 24) (tgt := 57) rfl (by decide) (fun z => ?_) (fun z => ?_)
      · have h := h.1 z
        refine e_aload_n (k := 30) (i := 0) rfl rfl 0 rfl ?_
        refine e_aload_n (k := 31) (i := 0) rfl rfl 0 rfl ?_
        refine e_getC (k := 32) rfl f_X0_9 rfl rfl ?_
        refine e_bipush (k := 33) (v := (32 : Int32)) rfl (by decide) ?_
        refine e_iconst (k := 34) (v := (0 : Int32)) rfl (by decide) ?_
        refine e_callVi (k := 35) (q := 33) (As := [.int (32 : Int32), .int (0 : Int32)]) (rest := [.ref (gR g 34)]) rfl (c_X5_number (g := g) hg (n := n) h) m_X5_number i_X5_number l_X0_31 rfl ⟨_, rfl, rfl⟩ rfl rfl (Nat.le_of_ble_eq_true rfl) ⟨by decide, by decide, rfl, rfl⟩ (fun _ h => h.elim) (fun r4 u5 h => ?_)
        refine e_putI (k := 36) rfl fg_X0_35 rfl rfl ?_
        refine e_mlet h (fun u6 h => ?_)
        refine e_aload_n (k := 37) (i := 0) rfl rfl 0 rfl ?_
        refine e_getC (k := 38) rfl f_X0_9 rfl rfl ?_
        refine e_getI (k := 39) rfl f_X0_38 rfl rfl ?_
        refine e_if_eq (k := 40) (tgt := 82) rfl (by decide) (fun z => ?_) (fun z => ?_)
        · have h := h.1 z
          refine e_aload_n (k := 42) (i := 0) rfl rfl 0 rfl ?_
          refine e_getC (k := 43) rfl f_X0_9 rfl rfl ?_
          refine e_iconst (k := 44) (v := (0 : Int32)) rfl (by decide) ?_
          refine e_callVi (k := 45) (q := 33) (As := [.int (0 : Int32)]) (rest := []) rfl (c_X5_peek (g := g) hg (n := n) h) m_X5_peek i_X5_peek l_X0_41 rfl ⟨_, rfl, rfl⟩ rfl rfl (Nat.le_of_ble_eq_true rfl) ⟨by decide, by decide, rfl, rfl⟩ (fun _ h => h.elim) (fun r5 u7 h => ?_)
          refine e_bipush (k := 46) (v := (47 : Int32)) rfl (by decide) ?_
          refine e_icmp_eq (k := 47) (tgt := 111) rfl (by decide) (fun z => ?_) (fun z => ?_)
          · have h := h.1 z
            refine e_aload_n (k := 56) (i := 0) rfl rfl 0 rfl ?_
            refine e_getC (k := 57) rfl f_X0_9 rfl rfl ?_
            refine e_dup (k := 58) rfl rfl ?_
            refine e_getI (k := 59) rfl f_X0_45 rfl rfl ?_
            refine e_iconst (k := 60) (v := (1 : Int32)) rfl (by decide) ?_
            refine e_iadd (k := 61) rfl ?_
            refine e_putI (k := 62) rfl fg_X0_45 rfl rfl ?_
            refine e_mlet h (fun u8 h => ?_)
            refine e_aload_n (k := 63) (i := 0) rfl rfl 0 rfl ?_
            refine e_aload_n (k := 64) (i := 0) rfl rfl 0 rfl ?_
            refine e_getC (k := 65) rfl f_X0_9 rfl rfl ?_
            refine e_bipush (k := 66) (v := (32 : Int32)) rfl (by decide) ?_
            refine e_iconst (k := 67) (v := (1 : Int32)) rfl (by decide) ?_
            refine e_callVi (k := 68) (q := 33) (As := [.int (32 : Int32), .int (1 : Int32)]) (rest := [.ref (gR g 34)]) rfl (c_X5_number (g := g) hg (n := n) h) m_X5_number i_X5_number l_X0_31 rfl ⟨_, rfl, rfl⟩ rfl rfl (Nat.le_of_ble_eq_true rfl) ⟨by decide, by decide, rfl, rfl⟩ (fun _ h => h.elim) (fun r6 u9 h => ?_)
            refine e_putI (k := 69) rfl fg_X0_51 rfl rfl ?_
            refine e_mlet h (fun u10 h => ?_)
            exact e_vret (k := 70) rfl rfl (Or.inl ⟨rfl, h⟩)
          · have h := h.2 z
            refine e_aload_n (k := 48) (i := 0) rfl rfl 0 rfl ?_
            refine e_getC (k := 49) rfl f_X0_9 rfl rfl ?_
            refine e_iconst (k := 50) (v := (1 : Int32)) rfl (by decide) ?_
            refine e_aload_n (k := 51) (i := 0) rfl rfl 0 rfl ?_
            refine e_getC (k := 52) rfl f_X0_9 rfl rfl ?_
            refine e_getI (k := 53) rfl f_X0_45 rfl rfl ?_
            refine e_callVv (k := 54) (q := 33) (As := [.int (1 : Int32), .int (u7.1 33 2)]) (rest := []) rfl (c_X5_fail (g := g) hg (n := n) h) m_X5_fail i_X5_fail l_X0_48 rfl ⟨_, rfl, rfl⟩ rfl rfl (Nat.le_of_ble_eq_true rfl) ⟨by decide, by decide, rfl, rfl⟩ (fun _ h => h.elim) (fun u11 h => ?_)
            exact e_vret (k := 55) rfl rfl (Or.inl ⟨rfl, h⟩)
        · have h := h.2 z
          exact e_vret (k := 41) rfl rfl (Or.inl ⟨rfl, h⟩)
      · have h := h.2 z
        refine e_aload_n (k := 25) (i := 0) rfl rfl 0 rfl ?_
        refine e_iconst (k := 26) (v := (4 : Int32)) rfl (by decide) ?_
        refine e_iconst (k := 27) (v := (4 : Int32)) rfl (by decide) ?_
        refine e_callVv (k := 28) (q := 34) (As := [.int (4 : Int32), .int (4 : Int32)]) (rest := []) rfl (c_X0_setMeter (g := g) hg (n := n) h) m_X0_setMeter i_X0_setMeter l_X0_15 rfl ⟨_, rfl, rfl⟩ rfl rfl (Nat.le_of_ble_eq_true rfl) ⟨by decide, by decide, rfl, rfl⟩ (fun _ h => h.elim) (fun u12 h => ?_)
        exact e_vret (k := 29) rfl rfl (Or.inl ⟨rfl, h⟩)
    · have h := h.2 z
      refine e_aload_n (k := 15) (i := 0) rfl rfl 0 rfl ?_
      refine e_iconst (k := 16) (v := (2 : Int32)) rfl (by decide) ?_
      refine e_iconst (k := 17) (v := (2 : Int32)) rfl (by decide) ?_
      refine e_callVv (k := 18) (q := 34) (As := [.int (2 : Int32), .int (2 : Int32)]) (rest := []) rfl (c_X0_setMeter (g := g) hg (n := n) h) m_X0_setMeter i_X0_setMeter l_X0_15 rfl ⟨_, rfl, rfl⟩ rfl rfl (Nat.le_of_ble_eq_true rfl) ⟨by decide, by decide, rfl, rfl⟩ (fun _ h => h.elim) (fun u13 h => ?_)
      exact e_vret (k := 19) rfl rfl (Or.inl ⟨rfl, h⟩)
  · have h := h.2 z
    exact e_vret (k := 9) rfl rfl (Or.inl ⟨rfl, h⟩)
def il_X0_readMode : List (Nat × Instr × Nat) := [(0, .aload_n 0, 1), (1, .getfield 9, 3), (4, .ldc 80, 2), (6, .invokevirtual 21, 3), (9, .ifCond .ne 15, 3), (12, .aload_n 0, 1), (13, .getfield 9, 3), (16, .ldc 82, 2), (18, .invokevirtual 21, 3), (21, .ifCond .eq 5, 3), (24, .iconst 0, 1), (25, .ireturn, 1), (26, .aload_n 0, 1), (27, .getfield 9, 3), (30, .ldc 84, 2), (32, .invokevirtual 21, 3), (35, .ifCond .eq 6, 3), (38, .bipush (-2), 2), (40, .ireturn, 1), (41, .aload_n 0, 1), (42, .getfield 9, 3), (45, .ldc 86, 2), (47, .invokevirtual 21, 3), (50, .ifCond .eq 6, 3), (53, .bipush (-4), 2), (55, .ireturn, 1), (56, .aload_n 0, 1), (57, .getfield 9, 3), (60, .ldc 88, 2), (62, .invokevirtual 21, 3), (65, .ifCond .eq 5, 3), (68, .iconst 1, 1), (69, .ireturn, 1), (70, .aload_n 0, 1), (71, .getfield 9, 3), (74, .ldc 90, 2), (76, .invokevirtual 21, 3), (79, .ifCond .eq 5, 3), (82, .iconst (-1), 1), (83, .ireturn, 1), (84, .aload_n 0, 1), (85, .getfield 9, 3), (88, .ldc 92, 2), (90, .invokevirtual 21, 3), (93, .ifCond .eq 6, 3), (96, .bipush (-5), 2), (98, .ireturn, 1), (99, .aload_n 0, 1), (100, .getfield 9, 3), (103, .ldc 94, 2), (105, .invokevirtual 21, 3), (108, .ifCond .ne 27, 3), (111, .aload_n 0, 1), (112, .getfield 9, 3), (115, .ldc 96, 2), (117, .invokevirtual 21, 3), (120, .ifCond .ne 15, 3), (123, .aload_n 0, 1), (124, .getfield 9, 3), (127, .ldc 98, 2), (129, .invokevirtual 21, 3), (132, .ifCond .eq 8, 3), (135, .bipush (-3), 2), (137, .goto 4, 3), (140, .iconst 0, 1), (141, .ireturn, 1)]
set_option maxRecDepth 20000 in
theorem il_X0_readMode_ok : ∀ x ∈ il_X0_readMode, decode cX0_readMode x.1 = .ok x.2 := by decide +kernel
abbrev me_X0_readMode : Me := (RX0, il_X0_readMode, 1, (some .int), xRoom 6, [])
def w_X0_readMode_141 (n : Nat) (t0 : Int32) (u0 : Mm) (Q : Int32 → Mm → Prop) : Prop :=
  Q t0 u0
def w_X0_readMode_135 (n : Nat) (u0 : Mm) (Q : Int32 → Mm → Prop) : Prop :=
  w_X0_readMode_141 n (-3 : Int32) u0 Q
def w_X0_readMode_24 (n : Nat) (u0 : Mm) (Q : Int32 → Mm → Prop) : Prop :=
  Q (0 : Int32) u0
def w_X0_readMode (n : Nat) (u0 : Mm) (Q : Int32 → Mm → Prop) : Prop :=
  w_X5_takeWord n 6 u0 (fun r1 u1 =>
  (¬ r1 = 0 → w_X0_readMode_24 n u1 Q) ∧
  (r1 = 0 → w_X5_takeWord n 7 u1 (fun r2 u2 =>
  (r2 = 0 → w_X5_takeWord n 8 u2 (fun r3 u3 =>
  (r3 = 0 → w_X5_takeWord n 9 u3 (fun r4 u4 =>
  (r4 = 0 → w_X5_takeWord n 10 u4 (fun r5 u5 =>
  (r5 = 0 → w_X5_takeWord n 11 u5 (fun r6 u6 =>
  (r6 = 0 → w_X5_takeWord n 12 u6 (fun r7 u7 =>
  (r7 = 0 → w_X5_takeWord n 13 u7 (fun r8 u8 =>
  (¬ r8 = 0 → w_X0_readMode_135 n u8 Q) ∧
  (r8 = 0 → w_X5_takeWord n 14 u8 (fun r9 u9 =>
  (¬ r9 = 0 → w_X0_readMode_135 n u9 Q) ∧
  (r9 = 0 → w_X5_takeWord n 15 u9 (fun r10 u10 =>
  (r10 = 0 → w_X0_readMode_141 n (0 : Int32) u10 Q) ∧
  (¬ r10 = 0 → w_X0_readMode_135 n u10 Q))))))) ∧
  (¬ r7 = 0 → Q (-5 : Int32) u7))) ∧
  (¬ r6 = 0 → Q (-1 : Int32) u6))) ∧
  (¬ r5 = 0 → Q (1 : Int32) u5))) ∧
  (¬ r4 = 0 → Q (-4 : Int32) u4))) ∧
  (¬ r3 = 0 → Q (-2 : Int32) u3))) ∧
  (¬ r2 = 0 → w_X0_readMode_24 n u2 Q))))
set_option maxRecDepth 20000 in
theorem s_X0_readMode_141 {g : Gb} (hg : xInj g) {n : Nat} {Q : Int32 → Mm → Prop} {t0 : Int32} {u0 : Mm} (h : w_X0_readMode_141 n t0 u0 Q) : xE g me_X0_readMode (pI g Q noT) 141 [] [.int t0] u0 := by
  unfold w_X0_readMode_141 at h
  exact e_iret (k := 65) rfl rfl (Or.inl ⟨_, rfl, h⟩)
set_option maxRecDepth 20000 in
theorem s_X0_readMode_135 {g : Gb} (hg : xInj g) {n : Nat} {Q : Int32 → Mm → Prop} {u0 : Mm} (h : w_X0_readMode_135 n  u0 Q) : xE g me_X0_readMode (pI g Q noT) 135 [] [] u0 := by
  unfold w_X0_readMode_135 at h
  refine e_bipush (k := 62) (v := (-3 : Int32)) rfl (by decide) ?_
  refine e_goto (k := 63) (tgt := 141) rfl (by decide) ?_
  exact s_X0_readMode_141 hg h
set_option maxRecDepth 20000 in
theorem s_X0_readMode_24 {g : Gb} (hg : xInj g) {n : Nat} {Q : Int32 → Mm → Prop} {u0 : Mm} (h : w_X0_readMode_24 n  u0 Q) : xE g me_X0_readMode (pI g Q noT) 24 [] [] u0 := by
  unfold w_X0_readMode_24 at h
  refine e_iconst (k := 10) (v := (0 : Int32)) rfl (by decide) ?_
  exact e_iret (k := 11) rfl rfl (Or.inl ⟨_, rfl, h⟩)
set_option maxRecDepth 20000 in
theorem c_X0_readMode {g : Gb} (hg : xInj g) {n : Nat} {u0 : Mm} {Q : Int32 → Mm → Prop} (h : w_X0_readMode n u0 Q) : xMet (gL g) yX0_readMode (xws yX0_readMode cX0_readMode 1 (some .int)) (xRoom 6) (xPc g [.ref (gR g 34)] u0) (xQ g (pI g Q noT)) (xA g) := by
  refine xbody (il := il_X0_readMode) hg il_X0_readMode_ok m_X0_readMode (Nat.le_of_ble_eq_true rfl) ?_
  show xE g me_X0_readMode (pI g Q noT) 0 [(0, .ref (gR g 34))] [] u0
  unfold w_X0_readMode at h
  refine e_aload_n (k := 0) (i := 0) rfl rfl 0 rfl ?_
  refine e_getC (k := 1) rfl f_X0_9 rfl rfl ?_
  refine e_ldcS (k := 2) (j := 6) rfl rfl ?_
  refine e_callVi (k := 3) (q := 33) (As := [.ref (gK g 6)]) (rest := []) rfl (c_X5_takeWord (g := g) hg (n := n) (by decide) h) m_X5_takeWord i_X5_takeWord l_X0_21 rfl ⟨_, rfl, rfl⟩ rfl rfl (Nat.le_of_ble_eq_true rfl) ⟨by decide, by decide, rfl, rfl⟩ (fun _ h => h.elim) (fun r1 u1 h => ?_)
  refine e_if_ne (k := 4) (tgt := 24) rfl (by decide) (fun z => ?_) (fun z => ?_)
  · have h := h.1 z
    refine e_sub (lv' := []) [] rfl ?_
    exact s_X0_readMode_24 hg h
  · have h := h.2 z
    refine e_aload_n (k := 5) (i := 0) rfl rfl 0 rfl ?_
    refine e_getC (k := 6) rfl f_X0_9 rfl rfl ?_
    refine e_ldcS (k := 7) (j := 7) rfl rfl ?_
    refine e_callVi (k := 8) (q := 33) (As := [.ref (gK g 7)]) (rest := []) rfl (c_X5_takeWord (g := g) hg (n := n) (by decide) h) m_X5_takeWord i_X5_takeWord l_X0_21 rfl ⟨_, rfl, rfl⟩ rfl rfl (Nat.le_of_ble_eq_true rfl) ⟨by decide, by decide, rfl, rfl⟩ (fun _ h => h.elim) (fun r2 u2 h => ?_)
    refine e_if_eq (k := 9) (tgt := 26) rfl (by decide) (fun z => ?_) (fun z => ?_)
    · have h := h.1 z
      refine e_aload_n (k := 12) (i := 0) rfl rfl 0 rfl ?_
      refine e_getC (k := 13) rfl f_X0_9 rfl rfl ?_
      refine e_ldcS (k := 14) (j := 8) rfl rfl ?_
      refine e_callVi (k := 15) (q := 33) (As := [.ref (gK g 8)]) (rest := []) rfl (c_X5_takeWord (g := g) hg (n := n) (by decide) h) m_X5_takeWord i_X5_takeWord l_X0_21 rfl ⟨_, rfl, rfl⟩ rfl rfl (Nat.le_of_ble_eq_true rfl) ⟨by decide, by decide, rfl, rfl⟩ (fun _ h => h.elim) (fun r3 u3 h => ?_)
      refine e_if_eq (k := 16) (tgt := 41) rfl (by decide) (fun z => ?_) (fun z => ?_)
      · have h := h.1 z
        refine e_aload_n (k := 19) (i := 0) rfl rfl 0 rfl ?_
        refine e_getC (k := 20) rfl f_X0_9 rfl rfl ?_
        refine e_ldcS (k := 21) (j := 9) rfl rfl ?_
        refine e_callVi (k := 22) (q := 33) (As := [.ref (gK g 9)]) (rest := []) rfl (c_X5_takeWord (g := g) hg (n := n) (by decide) h) m_X5_takeWord i_X5_takeWord l_X0_21 rfl ⟨_, rfl, rfl⟩ rfl rfl (Nat.le_of_ble_eq_true rfl) ⟨by decide, by decide, rfl, rfl⟩ (fun _ h => h.elim) (fun r4 u4 h => ?_)
        refine e_if_eq (k := 23) (tgt := 56) rfl (by decide) (fun z => ?_) (fun z => ?_)
        · have h := h.1 z
          refine e_aload_n (k := 26) (i := 0) rfl rfl 0 rfl ?_
          refine e_getC (k := 27) rfl f_X0_9 rfl rfl ?_
          refine e_ldcS (k := 28) (j := 10) rfl rfl ?_
          refine e_callVi (k := 29) (q := 33) (As := [.ref (gK g 10)]) (rest := []) rfl (c_X5_takeWord (g := g) hg (n := n) (by decide) h) m_X5_takeWord i_X5_takeWord l_X0_21 rfl ⟨_, rfl, rfl⟩ rfl rfl (Nat.le_of_ble_eq_true rfl) ⟨by decide, by decide, rfl, rfl⟩ (fun _ h => h.elim) (fun r5 u5 h => ?_)
          refine e_if_eq (k := 30) (tgt := 70) rfl (by decide) (fun z => ?_) (fun z => ?_)
          · have h := h.1 z
            refine e_aload_n (k := 33) (i := 0) rfl rfl 0 rfl ?_
            refine e_getC (k := 34) rfl f_X0_9 rfl rfl ?_
            refine e_ldcS (k := 35) (j := 11) rfl rfl ?_
            refine e_callVi (k := 36) (q := 33) (As := [.ref (gK g 11)]) (rest := []) rfl (c_X5_takeWord (g := g) hg (n := n) (by decide) h) m_X5_takeWord i_X5_takeWord l_X0_21 rfl ⟨_, rfl, rfl⟩ rfl rfl (Nat.le_of_ble_eq_true rfl) ⟨by decide, by decide, rfl, rfl⟩ (fun _ h => h.elim) (fun r6 u6 h => ?_)
            refine e_if_eq (k := 37) (tgt := 84) rfl (by decide) (fun z => ?_) (fun z => ?_)
            · have h := h.1 z
              refine e_aload_n (k := 40) (i := 0) rfl rfl 0 rfl ?_
              refine e_getC (k := 41) rfl f_X0_9 rfl rfl ?_
              refine e_ldcS (k := 42) (j := 12) rfl rfl ?_
              refine e_callVi (k := 43) (q := 33) (As := [.ref (gK g 12)]) (rest := []) rfl (c_X5_takeWord (g := g) hg (n := n) (by decide) h) m_X5_takeWord i_X5_takeWord l_X0_21 rfl ⟨_, rfl, rfl⟩ rfl rfl (Nat.le_of_ble_eq_true rfl) ⟨by decide, by decide, rfl, rfl⟩ (fun _ h => h.elim) (fun r7 u7 h => ?_)
              refine e_if_eq (k := 44) (tgt := 99) rfl (by decide) (fun z => ?_) (fun z => ?_)
              · have h := h.1 z
                refine e_aload_n (k := 47) (i := 0) rfl rfl 0 rfl ?_
                refine e_getC (k := 48) rfl f_X0_9 rfl rfl ?_
                refine e_ldcS (k := 49) (j := 13) rfl rfl ?_
                refine e_callVi (k := 50) (q := 33) (As := [.ref (gK g 13)]) (rest := []) rfl (c_X5_takeWord (g := g) hg (n := n) (by decide) h) m_X5_takeWord i_X5_takeWord l_X0_21 rfl ⟨_, rfl, rfl⟩ rfl rfl (Nat.le_of_ble_eq_true rfl) ⟨by decide, by decide, rfl, rfl⟩ (fun _ h => h.elim) (fun r8 u8 h => ?_)
                refine e_if_ne (k := 51) (tgt := 135) rfl (by decide) (fun z => ?_) (fun z => ?_)
                · have h := h.1 z
                  refine e_sub (lv' := []) [] rfl ?_
                  exact s_X0_readMode_135 hg h
                · have h := h.2 z
                  refine e_aload_n (k := 52) (i := 0) rfl rfl 0 rfl ?_
                  refine e_getC (k := 53) rfl f_X0_9 rfl rfl ?_
                  refine e_ldcS (k := 54) (j := 14) rfl rfl ?_
                  refine e_callVi (k := 55) (q := 33) (As := [.ref (gK g 14)]) (rest := []) rfl (c_X5_takeWord (g := g) hg (n := n) (by decide) h) m_X5_takeWord i_X5_takeWord l_X0_21 rfl ⟨_, rfl, rfl⟩ rfl rfl (Nat.le_of_ble_eq_true rfl) ⟨by decide, by decide, rfl, rfl⟩ (fun _ h => h.elim) (fun r9 u9 h => ?_)
                  refine e_if_ne (k := 56) (tgt := 135) rfl (by decide) (fun z => ?_) (fun z => ?_)
                  · have h := h.1 z
                    refine e_sub (lv' := []) [] rfl ?_
                    exact s_X0_readMode_135 hg h
                  · have h := h.2 z
                    refine e_aload_n (k := 57) (i := 0) rfl rfl 0 rfl ?_
                    refine e_getC (k := 58) rfl f_X0_9 rfl rfl ?_
                    refine e_ldcS (k := 59) (j := 15) rfl rfl ?_
                    refine e_callVi (k := 60) (q := 33) (As := [.ref (gK g 15)]) (rest := []) rfl (c_X5_takeWord (g := g) hg (n := n) (by decide) h) m_X5_takeWord i_X5_takeWord l_X0_21 rfl ⟨_, rfl, rfl⟩ rfl rfl (Nat.le_of_ble_eq_true rfl) ⟨by decide, by decide, rfl, rfl⟩ (fun _ h => h.elim) (fun r10 u10 h => ?_)
                    refine e_if_eq (k := 61) (tgt := 140) rfl (by decide) (fun z => ?_) (fun z => ?_)
                    · have h := h.1 z
                      refine e_iconst (k := 64) (v := (0 : Int32)) rfl (by decide) ?_
                      refine e_sub (lv' := []) [] rfl ?_
                      exact s_X0_readMode_141 hg h
                    · have h := h.2 z
                      refine e_sub (lv' := []) [] rfl ?_
                      exact s_X0_readMode_135 hg h
              · have h := h.2 z
                refine e_bipush (k := 45) (v := (-5 : Int32)) rfl (by decide) ?_
                exact e_iret (k := 46) rfl rfl (Or.inl ⟨_, rfl, h⟩)
            · have h := h.2 z
              refine e_iconst (k := 38) (v := (-1 : Int32)) rfl (by decide) ?_
              exact e_iret (k := 39) rfl rfl (Or.inl ⟨_, rfl, h⟩)
          · have h := h.2 z
            refine e_iconst (k := 31) (v := (1 : Int32)) rfl (by decide) ?_
            exact e_iret (k := 32) rfl rfl (Or.inl ⟨_, rfl, h⟩)
        · have h := h.2 z
          refine e_bipush (k := 24) (v := (-4 : Int32)) rfl (by decide) ?_
          exact e_iret (k := 25) rfl rfl (Or.inl ⟨_, rfl, h⟩)
      · have h := h.2 z
        refine e_bipush (k := 17) (v := (-2 : Int32)) rfl (by decide) ?_
        exact e_iret (k := 18) rfl rfl (Or.inl ⟨_, rfl, h⟩)
    · have h := h.2 z
      refine e_sub (lv' := []) [] rfl ?_
      exact s_X0_readMode_24 hg h
def il_X12_readGraces : List (Nat × Instr × Nat) := [(0, .aload_n 0, 1), (1, .getfield 138, 3), (4, .istore_n 1, 1), (5, .aload_n 0, 1), (6, .dup, 1), (7, .getfield 138, 3), (10, .iconst 1, 1), (11, .iadd, 1), (12, .putfield 138, 3), (15, .iconst 0, 1), (16, .istore_n 2, 1), (17, .aload_n 0, 1), (18, .bipush 125, 2), (20, .invokevirtual 166, 3), (23, .ifCond .eq 7, 3), (26, .iload_n 2, 1), (27, .ifCond .ne 49, 3), (30, .iload_n 2, 1), (31, .bipush 8, 2), (33, .if_icmp .ne 19, 3), (36, .aload_n 0, 1), (37, .invokevirtual 384, 3), (40, .ifCond .eq 12, 3), (43, .aload_n 0, 1), (44, .iconst 2, 1), (45, .aload_n 0, 1), (46, .getfield 138, 3), (49, .invokevirtual 148, 3), (52, .aload_n 0, 1), (53, .invokevirtual 394, 3), (56, .aload_n 0, 1), (57, .iconst 5, 1), (58, .invokevirtual 397, 3), (61, .istore_n 3, 1), (62, .aload_n 0, 1), (63, .invokevirtual 400, 3), (66, .aload_n 0, 1), (67, .invokevirtual 403, 3), (70, .iinc 2 1, 3), (73, .goto (-56), 3), (76, .aload_n 0, 1), (77, .dup, 1), (78, .getfield 138, 3), (81, .iconst 1, 1), (82, .iadd, 1), (83, .putfield 138, 3), (86, .return_, 1)]
set_option maxRecDepth 20000 in
theorem il_X12_readGraces_ok : ∀ x ∈ il_X12_readGraces, decode cX12_readGraces x.1 = .ok x.2 := by decide +kernel
abbrev me_X12_readGraces : Me := (RX12, il_X12_readGraces, 4, none, xRoom 6, [])
def w_X12_readGraces_52 (n : Nat) (L17 : Int32 → Mm → Prop) (x2 : Int32) (u0 : Mm) (Q : Mm → Prop) (T : Mm → Prop) : Prop :=
  w_X12_readNote n u0 (fun u1 =>
  w_X12_addNote n (5 : Int32) u1 (fun r1 u2 =>
  w_X12_rememberSign n u2 (fun u3 =>
  w_X12_readLength n u3 (fun u4 =>
  L17 (x2 + (1 : Int32)) u4) T) T) T) T
def w_X12_readGraces_30 (n : Nat) (L17 : Int32 → Mm → Prop) (x2 : Int32) (u0 : Mm) (Q : Mm → Prop) (T : Mm → Prop) : Prop :=
  (¬ x2 = (8 : Int32) → w_X12_readGraces_52 n L17 x2 u0 Q T) ∧
  (x2 = (8 : Int32) → w_X12_beginsNote n u0 (fun r1 u1 =>
  (r1 = 0 → w_X12_readGraces_52 n L17 x2 u1 Q T) ∧
  (¬ r1 = 0 → w_X12_fail n (2 : Int32) (u1.1 0 7) u1 (fun u2 =>
  w_X12_readGraces_52 n L17 x2 u2 Q T) T)) T)
def w_X12_readGraces_17 (n : Nat) (Q : Mm → Prop) (T : Mm → Prop) : Nat → Int32 → Mm → Prop
  | 0, _, _ => False
  | k + 1, x2, u0 =>
  w_X12_is n (125 : Int32) u0 (fun r1 u1 =>
  (r1 = 0 → w_X12_readGraces_30 n (w_X12_readGraces_17 n Q T k) x2 u1 Q T) ∧
  (¬ r1 = 0 → (¬ x2 = 0 → mlet (setI u1 0 7 ((u1.1 0 7) + (1 : Int32))) fun u2 =>
  Q u2) ∧
  (x2 = 0 → w_X12_readGraces_30 n (w_X12_readGraces_17 n Q T k) x2 u1 Q T))) T
def w_X12_readGraces (n : Nat) (u0 : Mm) (Q : Mm → Prop) (T : Mm → Prop) : Prop :=
  ilet (u0.1 0 7) fun y1 =>
  mlet (setI u0 0 7 ((u0.1 0 7) + (1 : Int32))) fun u1 =>
  (w_X12_readGraces_17 n Q T n) (0 : Int32) u1
set_option maxRecDepth 20000 in
theorem s_X12_readGraces_52 {g : Gb} (hg : xInj g) {n : Nat} {Q : Mm → Prop} {T : Mm → Prop} {L17 : Int32 → Mm → Prop} (hL17 : ∀ (x2 : Int32) (u0 : Mm), L17 x2 u0 → xE g me_X12_readGraces (pV g Q T) 17 [(0, .ref (gR g 0)), (2, .int x2)] [] u0) {x2 : Int32} {u0 : Mm} (h : w_X12_readGraces_52 n L17 x2 u0 Q T) : xE g me_X12_readGraces (pV g Q T) 52 [(0, .ref (gR g 0)), (2, .int x2)] [] u0 := by
  unfold w_X12_readGraces_52 at h
  refine e_aload_n (k := 28) (i := 0) rfl rfl 0 rfl ?_
  refine e_callVv (k := 29) (q := 0) (As := []) (rest := []) rfl (c_X12_readNote (g := g) hg (n := n) h) m_X12_readNote i_X12_readNote l_X12_394 rfl ⟨_, rfl, rfl⟩ rfl rfl (Nat.le_of_ble_eq_true rfl) ⟨by decide, by decide, rfl, rfl⟩ (fun _ h => ⟨fun _ z => (by cases z), Or.inr ⟨rfl, h⟩⟩) (fun u1 h => ?_)
  refine e_aload_n (k := 30) (i := 0) rfl rfl 0 rfl ?_
  refine e_iconst (k := 31) (v := (5 : Int32)) rfl (by decide) ?_
  refine e_callVi (k := 32) (q := 0) (As := [.int (5 : Int32)]) (rest := []) rfl (c_X12_addNote (g := g) hg (n := n) h) m_X12_addNote i_X12_addNote l_X12_397 rfl ⟨_, rfl, rfl⟩ rfl rfl (Nat.le_of_ble_eq_true rfl) ⟨by decide, by decide, rfl, rfl⟩ (fun _ h => ⟨fun _ z => (by cases z), Or.inr ⟨rfl, h⟩⟩) (fun r1 u2 h => ?_)
  refine e_istore_n (k := 33) (i := 3) (lv' := [(0, .ref (gR g 0)), (2, .int x2), (3, .int r1)]) rfl rfl (by decide) [1, 2, 0] rfl ?_
  refine e_aload_n (k := 34) (i := 0) rfl rfl 0 rfl ?_
  refine e_callVv (k := 35) (q := 0) (As := []) (rest := []) rfl (c_X12_rememberSign (g := g) hg (n := n) h) m_X12_rememberSign i_X12_rememberSign l_X12_400 rfl ⟨_, rfl, rfl⟩ rfl rfl (Nat.le_of_ble_eq_true rfl) ⟨by decide, by decide, rfl, rfl⟩ (fun _ h => ⟨fun _ z => (by cases z), Or.inr ⟨rfl, h⟩⟩) (fun u3 h => ?_)
  refine e_aload_n (k := 36) (i := 0) rfl rfl 0 rfl ?_
  refine e_callVv (k := 37) (q := 0) (As := []) (rest := []) rfl (c_X12_readLength (g := g) hg (n := n) h) m_X12_readLength i_X12_readLength l_X12_403 rfl ⟨_, rfl, rfl⟩ rfl rfl (Nat.le_of_ble_eq_true rfl) ⟨by decide, by decide, rfl, rfl⟩ (fun _ h => ⟨fun _ z => (by cases z), Or.inr ⟨rfl, h⟩⟩) (fun u4 h => ?_)
  refine e_iinc (k := 38) (i := 2) (j := 1) (v := (x2 + (1 : Int32))) (lv' := [(0, .ref (gR g 0)), (2, .int (x2 + (1 : Int32))), (3, .int r1)]) rfl rfl rfl (by decide) [1, 0, 2] rfl ?_
  refine e_goto (k := 39) (tgt := 17) rfl (by decide) ?_
  refine e_sub (lv' := [(0, .ref (gR g 0)), (2, .int (x2 + (1 : Int32)))]) [0, 1] rfl ?_
  exact hL17 (x2 + (1 : Int32)) u4 h
set_option maxRecDepth 20000 in
theorem s_X12_readGraces_30 {g : Gb} (hg : xInj g) {n : Nat} {Q : Mm → Prop} {T : Mm → Prop} {L17 : Int32 → Mm → Prop} (hL17 : ∀ (x2 : Int32) (u0 : Mm), L17 x2 u0 → xE g me_X12_readGraces (pV g Q T) 17 [(0, .ref (gR g 0)), (2, .int x2)] [] u0) {x2 : Int32} {u0 : Mm} (h : w_X12_readGraces_30 n L17 x2 u0 Q T) : xE g me_X12_readGraces (pV g Q T) 30 [(0, .ref (gR g 0)), (2, .int x2)] [] u0 := by
  unfold w_X12_readGraces_30 at h
  refine e_iload_n (k := 17) (i := 2) rfl rfl 1 rfl ?_
  refine e_bipush (k := 18) (v := (8 : Int32)) rfl (by decide) ?_
  refine e_icmp_ne (k := 19) (tgt := 52) rfl (by decide) (fun z => ?_) (fun z => ?_)
  · have h := h.1 z
    exact s_X12_readGraces_52 hg hL17 h
  · have h := h.2 z
    refine e_aload_n (k := 20) (i := 0) rfl rfl 0 rfl ?_
    refine e_callVi (k := 21) (q := 0) (As := []) (rest := []) rfl (c_X12_beginsNote (g := g) hg (n := n) h) m_X12_beginsNote i_X12_beginsNote l_X12_384 rfl ⟨_, rfl, rfl⟩ rfl rfl (Nat.le_of_ble_eq_true rfl) ⟨by decide, by decide, rfl, rfl⟩ (fun _ h => ⟨fun _ z => (by cases z), Or.inr ⟨rfl, h⟩⟩) (fun r1 u1 h => ?_)
    refine e_if_eq (k := 22) (tgt := 52) rfl (by decide) (fun z => ?_) (fun z => ?_)
    · have h := h.1 z
      exact s_X12_readGraces_52 hg hL17 h
    · have h := h.2 z
      refine e_aload_n (k := 23) (i := 0) rfl rfl 0 rfl ?_
      refine e_iconst (k := 24) (v := (2 : Int32)) rfl (by decide) ?_
      refine e_aload_n (k := 25) (i := 0) rfl rfl 0 rfl ?_
      refine e_getI (k := 26) rfl f_X12_138 rfl rfl ?_
      refine e_callVv (k := 27) (q := 0) (As := [.int (2 : Int32), .int (u1.1 0 7)]) (rest := []) rfl (c_X12_fail (g := g) hg (n := n) h) m_X12_fail i_X12_fail l_X12_148 rfl ⟨_, rfl, rfl⟩ rfl rfl (Nat.le_of_ble_eq_true rfl) ⟨by decide, by decide, rfl, rfl⟩ (fun _ h => ⟨fun _ z => (by cases z), Or.inr ⟨rfl, h⟩⟩) (fun u2 h => ?_)
      exact s_X12_readGraces_52 hg hL17 h
set_option maxRecDepth 20000 in
theorem s_X12_readGraces_17 {g : Gb} (hg : xInj g) {n : Nat} {Q : Mm → Prop} {T : Mm → Prop} : ∀ (k : Nat) (x2 : Int32) (u0 : Mm), w_X12_readGraces_17 n Q T k x2 u0 → xE g me_X12_readGraces (pV g Q T) 17 [(0, .ref (gR g 0)), (2, .int x2)] [] u0 := by
  intro k
  induction k with
  | zero => intro x2 u0 h; exact h.elim
  | succ k ih =>
    intro x2 u0 h
    unfold w_X12_readGraces_17 at h
    refine e_aload_n (k := 11) (i := 0) rfl rfl 0 rfl ?_
    refine e_bipush (k := 12) (v := (125 : Int32)) rfl (by decide) ?_
    refine e_callVi (k := 13) (q := 0) (As := [.int (125 : Int32)]) (rest := []) rfl (c_X12_is (g := g) hg (n := n) h) m_X12_is i_X12_is l_X12_166 rfl ⟨_, rfl, rfl⟩ rfl rfl (Nat.le_of_ble_eq_true rfl) ⟨by decide, by decide, rfl, rfl⟩ (fun _ h => ⟨fun _ z => (by cases z), Or.inr ⟨rfl, h⟩⟩) (fun r1 u1 h => ?_)
    refine e_if_eq (k := 14) (tgt := 30) rfl (by decide) (fun z => ?_) (fun z => ?_)
    · have h := h.1 z
      exact s_X12_readGraces_30 hg ih h
    · have h := h.2 z
      refine e_iload_n (k := 15) (i := 2) rfl rfl 1 rfl ?_
      refine e_if_ne (k := 16) (tgt := 76) rfl (by decide) (fun z => ?_) (fun z => ?_)
      · have h := h.1 z
        refine e_aload_n (k := 40) (i := 0) rfl rfl 0 rfl ?_
        refine e_dup (k := 41) rfl rfl ?_
        refine e_getI (k := 42) rfl f_X12_138 rfl rfl ?_
        refine e_iconst (k := 43) (v := (1 : Int32)) rfl (by decide) ?_
        refine e_iadd (k := 44) rfl ?_
        refine e_putI (k := 45) rfl fg_X12_138 rfl rfl ?_
        refine e_mlet h (fun u2 h => ?_)
        exact e_vret (k := 46) rfl rfl (Or.inl ⟨rfl, h⟩)
      · have h := h.2 z
        exact s_X12_readGraces_30 hg ih h
set_option maxRecDepth 20000 in
theorem c_X12_readGraces {g : Gb} (hg : xInj g) {n : Nat} {u0 : Mm} {Q : Mm → Prop} {T : Mm → Prop} (h : w_X12_readGraces n u0 Q T) : xMet (gL g) yX12_readGraces (xws yX12_readGraces cX12_readGraces 4 none) (xRoom 6) (xPc g [.ref (gR g 0)] u0) (xQ g (pV g Q T)) (xA g) := by
  refine xbody (il := il_X12_readGraces) hg il_X12_readGraces_ok m_X12_readGraces (Nat.le_of_ble_eq_true rfl) ?_
  show xE g me_X12_readGraces (pV g Q T) 0 [(0, .ref (gR g 0))] [] u0
  unfold w_X12_readGraces at h
  refine e_aload_n (k := 0) (i := 0) rfl rfl 0 rfl ?_
  refine e_getI (k := 1) rfl f_X12_138 rfl rfl ?_
  refine e_ilet h (fun y1 h => ?_)
  refine e_istore_n (k := 2) (i := 1) (lv' := [(0, .ref (gR g 0)), (1, .int y1)]) rfl rfl (by decide) [1, 0] rfl ?_
  refine e_aload_n (k := 3) (i := 0) rfl rfl 0 rfl ?_
  refine e_dup (k := 4) rfl rfl ?_
  refine e_getI (k := 5) rfl f_X12_138 rfl rfl ?_
  refine e_iconst (k := 6) (v := (1 : Int32)) rfl (by decide) ?_
  refine e_iadd (k := 7) rfl ?_
  refine e_putI (k := 8) rfl fg_X12_138 rfl rfl ?_
  refine e_mlet h (fun u1 h => ?_)
  refine e_iconst (k := 9) (v := (0 : Int32)) rfl (by decide) ?_
  refine e_istore_n (k := 10) (i := 2) (lv' := [(0, .ref (gR g 0)), (1, .int y1), (2, .int (0 : Int32))]) rfl rfl (by decide) [1, 2, 0] rfl ?_
  refine e_sub (lv' := [(0, .ref (gR g 0)), (2, .int (0 : Int32))]) [0, 2] rfl ?_
  exact s_X12_readGraces_17 hg n (0 : Int32) u1 h
def il_X12_readKey : List (Nat × Instr × Nat) := [(0, .aload_n 0, 1), (1, .getfield 138, 3), (4, .istore_n 1, 1), (5, .aload_n 0, 1), (6, .ldc 201, 2), (8, .invokevirtual 203, 3), (11, .ifCond .eq 15, 3), (14, .aload_n 0, 1), (15, .aload_n 0, 1), (16, .getfield 138, 3), (19, .iconst 4, 1), (20, .iadd, 1), (21, .putfield 138, 3), (24, .iconst 0, 1), (25, .ireturn, 1), (26, .aload_n 0, 1), (27, .invokevirtual 162, 3), (30, .istore_n 2, 1), (31, .iload_n 2, 1), (32, .i2l, 1), (33, .ldc2_w 174, 3), (36, .ldc2_w 219, 3), (39, .invokestatic 125, 3), (42, .ifCond .ne 9, 3), (45, .aload_n 0, 1), (46, .iconst 1, 1), (47, .iload_n 1, 1), (48, .invokevirtual 148, 3), (51, .iload_n 2, 1), (52, .bipush 70, 2), (54, .if_icmp .ne 7, 3), (57, .iconst (-1), 1), (58, .goto 54, 3), (61, .iload_n 2, 1), (62, .bipush 67, 2), (64, .if_icmp .ne 7, 3), (67, .iconst 0, 1), (68, .goto 44, 3), (71, .iload_n 2, 1), (72, .bipush 71, 2), (74, .if_icmp .ne 7, 3), (77, .iconst 1, 1), (78, .goto 34, 3), (81, .iload_n 2, 1), (82, .bipush 68, 2), (84, .if_icmp .ne 7, 3), (87, .iconst 2, 1), (88, .goto 24, 3), (91, .iload_n 2, 1), (92, .bipush 65, 2), (94, .if_icmp .ne 7, 3), (97, .iconst 3, 1), (98, .goto 14, 3), (101, .iload_n 2, 1), (102, .bipush 69, 2), (104, .if_icmp .ne 7, 3), (107, .iconst 4, 1), (108, .goto 4, 3), (111, .iconst 5, 1), (112, .istore_n 3, 1), (113, .aload_n 0, 1), (114, .dup, 1), (115, .getfield 138, 3), (118, .iconst 1, 1), (119, .iadd, 1), (120, .putfield 138, 3), (123, .aload_n 0, 1), (124, .bipush 35, 2), (126, .invokevirtual 166, 3), (129, .ifCond .ne 12, 3), (132, .aload_n 0, 1), (133, .bipush 98, 2), (135, .invokevirtual 166, 3), (138, .ifCond .eq 34, 3), (141, .aload_n 0, 1), (142, .bipush 35, 2), (144, .invokevirtual 166, 3), (147, .ifCond .eq 10, 3), (150, .iload_n 3, 1), (151, .bipush 7, 2), (153, .iadd, 1), (154, .goto 7, 3), (157, .iload_n 3, 1), (158, .bipush 7, 2), (160, .isub, 1), (161, .istore_n 3, 1), (162, .aload_n 0, 1), (163, .dup, 1), (164, .getfield 138, 3), (167, .iconst 1, 1), (168, .iadd, 1), (169, .putfield 138, 3), (172, .iconst 3, 1), (173, .istore 4, 2), (175, .aload_n 0, 1), (176, .ldc 221, 2), (178, .invokevirtual 203, 3), (181, .ifCond .ne 12, 3), (184, .aload_n 0, 1), (185, .ldc 223, 2), (187, .invokevirtual 203, 3), (190, .ifCond .eq 10, 3), (193, .iload_n 3, 1), (194, .iconst 0, 1), (195, .iadd, 1), (196, .istore_n 3, 1), (197, .goto 131, 3), (200, .aload_n 0, 1), (201, .ldc 225, 2), (203, .invokevirtual 203, 3), (206, .ifCond .ne 12, 3), (209, .aload_n 0, 1), (210, .ldc 227, 2), (212, .invokevirtual 203, 3), (215, .ifCond .eq 10, 3), (218, .iload_n 3, 1), (219, .iconst 3, 1), (220, .isub, 1), (221, .istore_n 3, 1), (222, .goto 106, 3), (225, .aload_n 0, 1), (226, .ldc 229, 2), (228, .invokevirtual 203, 3), (231, .ifCond .eq 10, 3), (234, .iload_n 3, 1), (235, .iconst 2, 1), (236, .isub, 1), (237, .istore_n 3, 1), (238, .goto 90, 3), (241, .aload_n 0, 1), (242, .ldc 231, 2), (244, .invokevirtual 203, 3), (247, .ifCond .eq 10, 3), (250, .iload_n 3, 1), (251, .iconst 4, 1), (252, .isub, 1), (253, .istore_n 3, 1), (254, .goto 74, 3), (257, .aload_n 0, 1), (258, .ldc 233, 2), (260, .invokevirtual 203, 3), (263, .ifCond .eq 10, 3), (266, .iload_n 3, 1), (267, .iconst 1, 1), (268, .iadd, 1), (269, .istore_n 3, 1), (270, .goto 58, 3), (273, .aload_n 0, 1), (274, .ldc 235, 2), (276, .invokevirtual 203, 3), (279, .ifCond .eq 10, 3), (282, .iload_n 3, 1), (283, .iconst 1, 1), (284, .isub, 1), (285, .istore_n 3, 1), (286, .goto 42, 3), (289, .aload_n 0, 1), (290, .ldc 237, 2), (292, .invokevirtual 203, 3), (295, .ifCond .eq 10, 3), (298, .iload_n 3, 1), (299, .iconst 5, 1), (300, .isub, 1), (301, .istore_n 3, 1), (302, .goto 26, 3), (305, .aload_n 0, 1), (306, .ldc 239, 2), (308, .invokevirtual 203, 3), (311, .ifCond .eq 7, 3), (314, .iconst 1, 1), (315, .goto 4, 3), (318, .iconst 0, 1), (319, .istore 4, 2), (321, .iload_n 3, 1), (322, .iconst 3, 1), (323, .iload 4, 2), (325, .imul, 1), (326, .isub, 1), (327, .istore_n 3, 1), (328, .aload_n 0, 1), (329, .aload_n 0, 1), (330, .getfield 138, 3), (333, .iload 4, 2), (335, .iadd, 1), (336, .putfield 138, 3), (339, .iload_n 3, 1), (340, .bipush 7, 2), (342, .if_icmp .gt 9, 3), (345, .iload_n 3, 1), (346, .bipush (-7), 2), (348, .if_icmp .ge 9, 3), (351, .aload_n 0, 1), (352, .iconst 3, 1), (353, .iload_n 1, 1), (354, .invokevirtual 148, 3), (357, .iload_n 3, 1), (358, .ireturn, 1)]
set_option maxRecDepth 20000 in
theorem il_X12_readKey_ok : ∀ x ∈ il_X12_readKey, decode cX12_readKey x.1 = .ok x.2 := by decide +kernel
abbrev me_X12_readKey : Me := (RX12, il_X12_readKey, 5, (some .int), xRoom 6, [])
def w_X12_readKey_357 (n : Nat) (x3 : Int32) (u0 : Mm) (Q : Int32 → Mm → Prop) (T : Mm → Prop) : Prop :=
  Q x3 u0
def w_X12_readKey_351 (n : Nat) (x1 : Int32) (x3 : Int32) (u0 : Mm) (Q : Int32 → Mm → Prop) (T : Mm → Prop) : Prop :=
  w_X12_fail n (3 : Int32) x1 u0 (fun u1 =>
  w_X12_readKey_357 n x3 u1 Q T) T
def w_X12_readKey_328 (n : Nat) (x1 : Int32) (x3 : Int32) (x4 : Int32) (u0 : Mm) (Q : Int32 → Mm → Prop) (T : Mm → Prop) : Prop :=
  mlet (setI u0 0 7 ((u0.1 0 7) + x4)) fun u1 =>
  ((7 : Int32) < x3 → w_X12_readKey_351 n x1 x3 u1 Q T) ∧
  (¬ (7 : Int32) < x3 → ((-7 : Int32) ≤ x3 → w_X12_readKey_357 n x3 u1 Q T) ∧
  (¬ (-7 : Int32) ≤ x3 → w_X12_readKey_351 n x1 x3 u1 Q T))
def w_X12_readKey_319 (n : Nat) (x1 : Int32) (x3 : Int32) (t0 : Int32) (u0 : Mm) (Q : Int32 → Mm → Prop) (T : Mm → Prop) : Prop :=
  ilet (x3 - ((3 : Int32) * t0)) fun y1 =>
  w_X12_readKey_328 n x1 y1 t0 u0 Q T
def w_X12_readKey_218 (n : Nat) (x1 : Int32) (x3 : Int32) (x4 : Int32) (u0 : Mm) (Q : Int32 → Mm → Prop) (T : Mm → Prop) : Prop :=
  ilet (x3 - (3 : Int32)) fun y1 =>
  w_X12_readKey_328 n x1 y1 x4 u0 Q T
def w_X12_readKey_193 (n : Nat) (x1 : Int32) (x3 : Int32) (x4 : Int32) (u0 : Mm) (Q : Int32 → Mm → Prop) (T : Mm → Prop) : Prop :=
  ilet (x3 + (0 : Int32)) fun y1 =>
  w_X12_readKey_328 n x1 y1 x4 u0 Q T
def w_X12_readKey_172 (n : Nat) (x1 : Int32) (x3 : Int32) (u0 : Mm) (Q : Int32 → Mm → Prop) (T : Mm → Prop) : Prop :=
  w_X12_isWord n 21 u0 (fun r1 u1 =>
  (¬ r1 = 0 → w_X12_readKey_193 n x1 x3 (3 : Int32) u1 Q T) ∧
  (r1 = 0 → w_X12_isWord n 22 u1 (fun r2 u2 =>
  (r2 = 0 → w_X12_isWord n 23 u2 (fun r3 u3 =>
  (¬ r3 = 0 → w_X12_readKey_218 n x1 x3 (3 : Int32) u3 Q T) ∧
  (r3 = 0 → w_X12_isWord n 24 u3 (fun r4 u4 =>
  (r4 = 0 → w_X12_isWord n 25 u4 (fun r5 u5 =>
  (r5 = 0 → w_X12_isWord n 26 u5 (fun r6 u6 =>
  (r6 = 0 → w_X12_isWord n 27 u6 (fun r7 u7 =>
  (r7 = 0 → w_X12_isWord n 28 u7 (fun r8 u8 =>
  (r8 = 0 → w_X12_isWord n 29 u8 (fun r9 u9 =>
  (r9 = 0 → w_X12_isWord n 30 u9 (fun r10 u10 =>
  (r10 = 0 → w_X12_readKey_319 n x1 x3 (0 : Int32) u10 Q T) ∧
  (¬ r10 = 0 → w_X12_readKey_319 n x1 x3 (1 : Int32) u10 Q T)) T) ∧
  (¬ r9 = 0 → ilet (x3 - (5 : Int32)) fun y1 =>
  w_X12_readKey_328 n x1 y1 (3 : Int32) u9 Q T)) T) ∧
  (¬ r8 = 0 → ilet (x3 - (1 : Int32)) fun y2 =>
  w_X12_readKey_328 n x1 y2 (3 : Int32) u8 Q T)) T) ∧
  (¬ r7 = 0 → ilet (x3 + (1 : Int32)) fun y3 =>
  w_X12_readKey_328 n x1 y3 (3 : Int32) u7 Q T)) T) ∧
  (¬ r6 = 0 → ilet (x3 - (4 : Int32)) fun y4 =>
  w_X12_readKey_328 n x1 y4 (3 : Int32) u6 Q T)) T) ∧
  (¬ r5 = 0 → ilet (x3 - (2 : Int32)) fun y5 =>
  w_X12_readKey_328 n x1 y5 (3 : Int32) u5 Q T)) T) ∧
  (¬ r4 = 0 → w_X12_readKey_218 n x1 x3 (3 : Int32) u4 Q T)) T)) T) ∧
  (¬ r2 = 0 → w_X12_readKey_193 n x1 x3 (3 : Int32) u2 Q T)) T)) T
def w_X12_readKey_161 (n : Nat) (x1 : Int32) (t0 : Int32) (u0 : Mm) (Q : Int32 → Mm → Prop) (T : Mm → Prop) : Prop :=
  mlet (setI u0 0 7 ((u0.1 0 7) + (1 : Int32))) fun u1 =>
  w_X12_readKey_172 n x1 t0 u1 Q T
def w_X12_readKey_141 (n : Nat) (x1 : Int32) (x3 : Int32) (u0 : Mm) (Q : Int32 → Mm → Prop) (T : Mm → Prop) : Prop :=
  w_X12_is n (35 : Int32) u0 (fun r1 u1 =>
  (r1 = 0 → w_X12_readKey_161 n x1 (x3 - (7 : Int32)) u1 Q T) ∧
  (¬ r1 = 0 → w_X12_readKey_161 n x1 (x3 + (7 : Int32)) u1 Q T)) T
def w_X12_readKey_112 (n : Nat) (x1 : Int32) (t0 : Int32) (u0 : Mm) (Q : Int32 → Mm → Prop) (T : Mm → Prop) : Prop :=
  mlet (setI u0 0 7 ((u0.1 0 7) + (1 : Int32))) fun u1 =>
  w_X12_is n (35 : Int32) u1 (fun r1 u2 =>
  (¬ r1 = 0 → w_X12_readKey_141 n x1 t0 u2 Q T) ∧
  (r1 = 0 → w_X12_is n (98 : Int32) u2 (fun r2 u3 =>
  (r2 = 0 → w_X12_readKey_172 n x1 t0 u3 Q T) ∧
  (¬ r2 = 0 → w_X12_readKey_141 n x1 t0 u3 Q T)) T)) T
def w_X12_readKey_51 (n : Nat) (x1 : Int32) (x2 : Int32) (u0 : Mm) (Q : Int32 → Mm → Prop) (T : Mm → Prop) : Prop :=
  (¬ x2 = (70 : Int32) → (¬ x2 = (67 : Int32) → (¬ x2 = (71 : Int32) → (¬ x2 = (68 : Int32) → (¬ x2 = (65 : Int32) → (¬ x2 = (69 : Int32) → w_X12_readKey_112 n x1 (5 : Int32) u0 Q T) ∧
  (x2 = (69 : Int32) → w_X12_readKey_112 n x1 (4 : Int32) u0 Q T)) ∧
  (x2 = (65 : Int32) → w_X12_readKey_112 n x1 (3 : Int32) u0 Q T)) ∧
  (x2 = (68 : Int32) → w_X12_readKey_112 n x1 (2 : Int32) u0 Q T)) ∧
  (x2 = (71 : Int32) → w_X12_readKey_112 n x1 (1 : Int32) u0 Q T)) ∧
  (x2 = (67 : Int32) → w_X12_readKey_112 n x1 (0 : Int32) u0 Q T)) ∧
  (x2 = (70 : Int32) → w_X12_readKey_112 n x1 (-1 : Int32) u0 Q T)
def w_X12_readKey (n : Nat) (u0 : Mm) (Q : Int32 → Mm → Prop) (T : Mm → Prop) : Prop :=
  ilet (u0.1 0 7) fun y1 =>
  w_X12_isWord n 20 u0 (fun r1 u1 =>
  (r1 = 0 → w_X12_here n u1 (fun r2 u2 =>
  w_X12_in n (r2.toInt64) (65 : Int64) (71 : Int64) u2 (fun r3 u3 =>
  (¬ r3 = 0 → w_X12_readKey_51 n y1 r2 u3 Q T) ∧
  (r3 = 0 → w_X12_fail n (1 : Int32) y1 u3 (fun u4 =>
  w_X12_readKey_51 n y1 r2 u4 Q T) T)) T) T) ∧
  (¬ r1 = 0 → mlet (setI u1 0 7 ((u1.1 0 7) + (4 : Int32))) fun u5 =>
  Q (0 : Int32) u5)) T
set_option maxRecDepth 20000 in
theorem s_X12_readKey_357 {g : Gb} (hg : xInj g) {n : Nat} {Q : Int32 → Mm → Prop} {T : Mm → Prop} {x3 : Int32} {u0 : Mm} (h : w_X12_readKey_357 n x3 u0 Q T) : xE g me_X12_readKey (pI g Q T) 357 [(3, .int x3)] [] u0 := by
  unfold w_X12_readKey_357 at h
  refine e_iload_n (k := 195) (i := 3) rfl rfl 0 rfl ?_
  exact e_iret (k := 196) rfl rfl (Or.inl ⟨_, rfl, h⟩)
set_option maxRecDepth 20000 in
theorem s_X12_readKey_351 {g : Gb} (hg : xInj g) {n : Nat} {Q : Int32 → Mm → Prop} {T : Mm → Prop} {x1 : Int32} {x3 : Int32} {u0 : Mm} (h : w_X12_readKey_351 n x1 x3 u0 Q T) : xE g me_X12_readKey (pI g Q T) 351 [(0, .ref (gR g 0)), (1, .int x1), (3, .int x3)] [] u0 := by
  unfold w_X12_readKey_351 at h
  refine e_aload_n (k := 191) (i := 0) rfl rfl 0 rfl ?_
  refine e_iconst (k := 192) (v := (3 : Int32)) rfl (by decide) ?_
  refine e_iload_n (k := 193) (i := 1) rfl rfl 1 rfl ?_
  refine e_callVv (k := 194) (q := 0) (As := [.int (3 : Int32), .int x1]) (rest := []) rfl (c_X12_fail (g := g) hg (n := n) h) m_X12_fail i_X12_fail l_X12_148 rfl ⟨_, rfl, rfl⟩ rfl rfl (Nat.le_of_ble_eq_true rfl) ⟨by decide, by decide, rfl, rfl⟩ (fun _ h => ⟨fun _ z => (by cases z), Or.inr ⟨rfl, h⟩⟩) (fun u1 h => ?_)
  refine e_sub (lv' := [(3, .int x3)]) [2] rfl ?_
  exact s_X12_readKey_357 hg h
set_option maxRecDepth 20000 in
theorem s_X12_readKey_328 {g : Gb} (hg : xInj g) {n : Nat} {Q : Int32 → Mm → Prop} {T : Mm → Prop} {x1 : Int32} {x3 : Int32} {x4 : Int32} {u0 : Mm} (h : w_X12_readKey_328 n x1 x3 x4 u0 Q T) : xE g me_X12_readKey (pI g Q T) 328 [(0, .ref (gR g 0)), (1, .int x1), (3, .int x3), (4, .int x4)] [] u0 := by
  unfold w_X12_readKey_328 at h
  refine e_aload_n (k := 179) (i := 0) rfl rfl 0 rfl ?_
  refine e_aload_n (k := 180) (i := 0) rfl rfl 0 rfl ?_
  refine e_getI (k := 181) rfl f_X12_138 rfl rfl ?_
  refine e_iload (k := 182) (i := 4) rfl 3 rfl ?_
  refine e_iadd (k := 183) rfl ?_
  refine e_putI (k := 184) rfl fg_X12_138 rfl rfl ?_
  refine e_mlet h (fun u1 h => ?_)
  refine e_iload_n (k := 185) (i := 3) rfl rfl 2 rfl ?_
  refine e_bipush (k := 186) (v := (7 : Int32)) rfl (by decide) ?_
  refine e_icmp_gt (k := 187) (tgt := 351) rfl (by decide) (fun z => ?_) (fun z => ?_)
  · have h := h.1 z
    refine e_sub (lv' := [(0, .ref (gR g 0)), (1, .int x1), (3, .int x3)]) [0, 1, 2] rfl ?_
    exact s_X12_readKey_351 hg h
  · have h := h.2 z
    refine e_iload_n (k := 188) (i := 3) rfl rfl 2 rfl ?_
    refine e_bipush (k := 189) (v := (-7 : Int32)) rfl (by decide) ?_
    refine e_icmp_ge (k := 190) (tgt := 357) rfl (by decide) (fun z => ?_) (fun z => ?_)
    · have h := h.1 z
      refine e_sub (lv' := [(3, .int x3)]) [2] rfl ?_
      exact s_X12_readKey_357 hg h
    · have h := h.2 z
      refine e_sub (lv' := [(0, .ref (gR g 0)), (1, .int x1), (3, .int x3)]) [0, 1, 2] rfl ?_
      exact s_X12_readKey_351 hg h
set_option maxRecDepth 20000 in
theorem s_X12_readKey_319 {g : Gb} (hg : xInj g) {n : Nat} {Q : Int32 → Mm → Prop} {T : Mm → Prop} {x1 : Int32} {x3 : Int32} {t0 : Int32} {u0 : Mm} (h : w_X12_readKey_319 n x1 x3 t0 u0 Q T) : xE g me_X12_readKey (pI g Q T) 319 [(0, .ref (gR g 0)), (1, .int x1), (3, .int x3)] [.int t0] u0 := by
  unfold w_X12_readKey_319 at h
  refine e_istore (k := 172) (i := 4) (lv' := [(0, .ref (gR g 0)), (1, .int x1), (3, .int x3), (4, .int t0)]) rfl (by decide) [1, 2, 3, 0] rfl ?_
  refine e_iload_n (k := 173) (i := 3) rfl rfl 2 rfl ?_
  refine e_iconst (k := 174) (v := (3 : Int32)) rfl (by decide) ?_
  refine e_iload (k := 175) (i := 4) rfl 3 rfl ?_
  refine e_imul (k := 176) rfl ?_
  refine e_isub (k := 177) rfl ?_
  refine e_ilet h (fun y1 h => ?_)
  refine e_istore_n (k := 178) (i := 3) (lv' := [(0, .ref (gR g 0)), (1, .int x1), (3, .int y1), (4, .int t0)]) rfl rfl (by decide) [1, 2, 0, 3] rfl ?_
  exact s_X12_readKey_328 hg h
set_option maxRecDepth 20000 in
theorem s_X12_readKey_218 {g : Gb} (hg : xInj g) {n : Nat} {Q : Int32 → Mm → Prop} {T : Mm → Prop} {x1 : Int32} {x3 : Int32} {x4 : Int32} {u0 : Mm} (h : w_X12_readKey_218 n x1 x3 x4 u0 Q T) : xE g me_X12_readKey (pI g Q T) 218 [(0, .ref (gR g 0)), (1, .int x1), (3, .int x3), (4, .int x4)] [] u0 := by
  unfold w_X12_readKey_218 at h
  refine e_iload_n (k := 115) (i := 3) rfl rfl 2 rfl ?_
  refine e_iconst (k := 116) (v := (3 : Int32)) rfl (by decide) ?_
  refine e_isub (k := 117) rfl ?_
  refine e_ilet h (fun y1 h => ?_)
  refine e_istore_n (k := 118) (i := 3) (lv' := [(0, .ref (gR g 0)), (1, .int x1), (3, .int y1), (4, .int x4)]) rfl rfl (by decide) [1, 2, 0, 3] rfl ?_
  refine e_goto (k := 119) (tgt := 328) rfl (by decide) ?_
  exact s_X12_readKey_328 hg h
set_option maxRecDepth 20000 in
theorem s_X12_readKey_193 {g : Gb} (hg : xInj g) {n : Nat} {Q : Int32 → Mm → Prop} {T : Mm → Prop} {x1 : Int32} {x3 : Int32} {x4 : Int32} {u0 : Mm} (h : w_X12_readKey_193 n x1 x3 x4 u0 Q T) : xE g me_X12_readKey (pI g Q T) 193 [(0, .ref (gR g 0)), (1, .int x1), (3, .int x3), (4, .int x4)] [] u0 := by
  unfold w_X12_readKey_193 at h
  refine e_iload_n (k := 102) (i := 3) rfl rfl 2 rfl ?_
  refine e_iconst (k := 103) (v := (0 : Int32)) rfl (by decide) ?_
  refine e_iadd (k := 104) rfl ?_
  refine e_ilet h (fun y1 h => ?_)
  refine e_istore_n (k := 105) (i := 3) (lv' := [(0, .ref (gR g 0)), (1, .int x1), (3, .int y1), (4, .int x4)]) rfl rfl (by decide) [1, 2, 0, 3] rfl ?_
  refine e_goto (k := 106) (tgt := 328) rfl (by decide) ?_
  exact s_X12_readKey_328 hg h
set_option maxRecDepth 20000 in
theorem s_X12_readKey_172 {g : Gb} (hg : xInj g) {n : Nat} {Q : Int32 → Mm → Prop} {T : Mm → Prop} {x1 : Int32} {x3 : Int32} {u0 : Mm} (h : w_X12_readKey_172 n x1 x3 u0 Q T) : xE g me_X12_readKey (pI g Q T) 172 [(0, .ref (gR g 0)), (1, .int x1), (3, .int x3)] [] u0 := by
  unfold w_X12_readKey_172 at h
  refine e_iconst (k := 92) (v := (3 : Int32)) rfl (by decide) ?_
  refine e_istore (k := 93) (i := 4) (lv' := [(0, .ref (gR g 0)), (1, .int x1), (3, .int x3), (4, .int (3 : Int32))]) rfl (by decide) [1, 2, 3, 0] rfl ?_
  refine e_aload_n (k := 94) (i := 0) rfl rfl 0 rfl ?_
  refine e_ldcS (k := 95) (j := 21) rfl rfl ?_
  refine e_callVi (k := 96) (q := 0) (As := [.ref (gK g 21)]) (rest := []) rfl (c_X12_isWord (g := g) hg (n := n) (by decide) h) m_X12_isWord i_X12_isWord l_X12_203 rfl ⟨_, rfl, rfl⟩ rfl rfl (Nat.le_of_ble_eq_true rfl) ⟨by decide, by decide, rfl, rfl⟩ (fun _ h => ⟨fun _ z => (by cases z), Or.inr ⟨rfl, h⟩⟩) (fun r1 u1 h => ?_)
  refine e_if_ne (k := 97) (tgt := 193) rfl (by decide) (fun z => ?_) (fun z => ?_)
  · have h := h.1 z
    exact s_X12_readKey_193 hg h
  · have h := h.2 z
    refine e_aload_n (k := 98) (i := 0) rfl rfl 0 rfl ?_
    refine e_ldcS (k := 99) (j := 22) rfl rfl ?_
    refine e_callVi (k := 100) (q := 0) (As := [.ref (gK g 22)]) (rest := []) rfl (c_X12_isWord (g := g) hg (n := n) (by decide) h) m_X12_isWord i_X12_isWord l_X12_203 rfl ⟨_, rfl, rfl⟩ rfl rfl (Nat.le_of_ble_eq_true rfl) ⟨by decide, by decide, rfl, rfl⟩ (fun _ h => ⟨fun _ z => (by cases z), Or.inr ⟨rfl, h⟩⟩) (fun r2 u2 h => ?_)
    refine e_if_eq (k := 101) (tgt := 200) rfl (by decide) (fun z => ?_) (fun z => ?_)
    · have h := h.1 z
      refine e_aload_n (k := 107) (i := 0) rfl rfl 0 rfl ?_
      refine e_ldcS (k := 108) (j := 23) rfl rfl ?_
      refine e_callVi (k := 109) (q := 0) (As := [.ref (gK g 23)]) (rest := []) rfl (c_X12_isWord (g := g) hg (n := n) (by decide) h) m_X12_isWord i_X12_isWord l_X12_203 rfl ⟨_, rfl, rfl⟩ rfl rfl (Nat.le_of_ble_eq_true rfl) ⟨by decide, by decide, rfl, rfl⟩ (fun _ h => ⟨fun _ z => (by cases z), Or.inr ⟨rfl, h⟩⟩) (fun r3 u3 h => ?_)
      refine e_if_ne (k := 110) (tgt := 218) rfl (by decide) (fun z => ?_) (fun z => ?_)
      · have h := h.1 z
        exact s_X12_readKey_218 hg h
      · have h := h.2 z
        refine e_aload_n (k := 111) (i := 0) rfl rfl 0 rfl ?_
        refine e_ldcS (k := 112) (j := 24) rfl rfl ?_
        refine e_callVi (k := 113) (q := 0) (As := [.ref (gK g 24)]) (rest := []) rfl (c_X12_isWord (g := g) hg (n := n) (by decide) h) m_X12_isWord i_X12_isWord l_X12_203 rfl ⟨_, rfl, rfl⟩ rfl rfl (Nat.le_of_ble_eq_true rfl) ⟨by decide, by decide, rfl, rfl⟩ (fun _ h => ⟨fun _ z => (by cases z), Or.inr ⟨rfl, h⟩⟩) (fun r4 u4 h => ?_)
        refine e_if_eq (k := 114) (tgt := 225) rfl (by decide) (fun z => ?_) (fun z => ?_)
        · have h := h.1 z
          refine e_aload_n (k := 120) (i := 0) rfl rfl 0 rfl ?_
          refine e_ldcS (k := 121) (j := 25) rfl rfl ?_
          refine e_callVi (k := 122) (q := 0) (As := [.ref (gK g 25)]) (rest := []) rfl (c_X12_isWord (g := g) hg (n := n) (by decide) h) m_X12_isWord i_X12_isWord l_X12_203 rfl ⟨_, rfl, rfl⟩ rfl rfl (Nat.le_of_ble_eq_true rfl) ⟨by decide, by decide, rfl, rfl⟩ (fun _ h => ⟨fun _ z => (by cases z), Or.inr ⟨rfl, h⟩⟩) (fun r5 u5 h => ?_)
          refine e_if_eq (k := 123) (tgt := 241) rfl (by decide) (fun z => ?_) (fun z => ?_)
          · have h := h.1 z
            refine e_aload_n (k := 129) (i := 0) rfl rfl 0 rfl ?_
            refine e_ldcS (k := 130) (j := 26) rfl rfl ?_
            refine e_callVi (k := 131) (q := 0) (As := [.ref (gK g 26)]) (rest := []) rfl (c_X12_isWord (g := g) hg (n := n) (by decide) h) m_X12_isWord i_X12_isWord l_X12_203 rfl ⟨_, rfl, rfl⟩ rfl rfl (Nat.le_of_ble_eq_true rfl) ⟨by decide, by decide, rfl, rfl⟩ (fun _ h => ⟨fun _ z => (by cases z), Or.inr ⟨rfl, h⟩⟩) (fun r6 u6 h => ?_)
            refine e_if_eq (k := 132) (tgt := 257) rfl (by decide) (fun z => ?_) (fun z => ?_)
            · have h := h.1 z
              refine e_aload_n (k := 138) (i := 0) rfl rfl 0 rfl ?_
              refine e_ldcS (k := 139) (j := 27) rfl rfl ?_
              refine e_callVi (k := 140) (q := 0) (As := [.ref (gK g 27)]) (rest := []) rfl (c_X12_isWord (g := g) hg (n := n) (by decide) h) m_X12_isWord i_X12_isWord l_X12_203 rfl ⟨_, rfl, rfl⟩ rfl rfl (Nat.le_of_ble_eq_true rfl) ⟨by decide, by decide, rfl, rfl⟩ (fun _ h => ⟨fun _ z => (by cases z), Or.inr ⟨rfl, h⟩⟩) (fun r7 u7 h => ?_)
              refine e_if_eq (k := 141) (tgt := 273) rfl (by decide) (fun z => ?_) (fun z => ?_)
              · have h := h.1 z
                refine e_aload_n (k := 147) (i := 0) rfl rfl 0 rfl ?_
                refine e_ldcS (k := 148) (j := 28) rfl rfl ?_
                refine e_callVi (k := 149) (q := 0) (As := [.ref (gK g 28)]) (rest := []) rfl (c_X12_isWord (g := g) hg (n := n) (by decide) h) m_X12_isWord i_X12_isWord l_X12_203 rfl ⟨_, rfl, rfl⟩ rfl rfl (Nat.le_of_ble_eq_true rfl) ⟨by decide, by decide, rfl, rfl⟩ (fun _ h => ⟨fun _ z => (by cases z), Or.inr ⟨rfl, h⟩⟩) (fun r8 u8 h => ?_)
                refine e_if_eq (k := 150) (tgt := 289) rfl (by decide) (fun z => ?_) (fun z => ?_)
                · have h := h.1 z
                  refine e_aload_n (k := 156) (i := 0) rfl rfl 0 rfl ?_
                  refine e_ldcS (k := 157) (j := 29) rfl rfl ?_
                  refine e_callVi (k := 158) (q := 0) (As := [.ref (gK g 29)]) (rest := []) rfl (c_X12_isWord (g := g) hg (n := n) (by decide) h) m_X12_isWord i_X12_isWord l_X12_203 rfl ⟨_, rfl, rfl⟩ rfl rfl (Nat.le_of_ble_eq_true rfl) ⟨by decide, by decide, rfl, rfl⟩ (fun _ h => ⟨fun _ z => (by cases z), Or.inr ⟨rfl, h⟩⟩) (fun r9 u9 h => ?_)
                  refine e_if_eq (k := 159) (tgt := 305) rfl (by decide) (fun z => ?_) (fun z => ?_)
                  · have h := h.1 z
                    refine e_aload_n (k := 165) (i := 0) rfl rfl 0 rfl ?_
                    refine e_ldcS (k := 166) (j := 30) rfl rfl ?_
                    refine e_callVi (k := 167) (q := 0) (As := [.ref (gK g 30)]) (rest := []) rfl (c_X12_isWord (g := g) hg (n := n) (by decide) h) m_X12_isWord i_X12_isWord l_X12_203 rfl ⟨_, rfl, rfl⟩ rfl rfl (Nat.le_of_ble_eq_true rfl) ⟨by decide, by decide, rfl, rfl⟩ (fun _ h => ⟨fun _ z => (by cases z), Or.inr ⟨rfl, h⟩⟩) (fun r10 u10 h => ?_)
                    refine e_if_eq (k := 168) (tgt := 318) rfl (by decide) (fun z => ?_) (fun z => ?_)
                    · have h := h.1 z
                      refine e_iconst (k := 171) (v := (0 : Int32)) rfl (by decide) ?_
                      refine e_sub (lv' := [(0, .ref (gR g 0)), (1, .int x1), (3, .int x3)]) [0, 1, 2] rfl ?_
                      exact s_X12_readKey_319 hg h
                    · have h := h.2 z
                      refine e_iconst (k := 169) (v := (1 : Int32)) rfl (by decide) ?_
                      refine e_goto (k := 170) (tgt := 319) rfl (by decide) ?_
                      refine e_sub (lv' := [(0, .ref (gR g 0)), (1, .int x1), (3, .int x3)]) [0, 1, 2] rfl ?_
                      exact s_X12_readKey_319 hg h
                  · have h := h.2 z
                    refine e_iload_n (k := 160) (i := 3) rfl rfl 2 rfl ?_
                    refine e_iconst (k := 161) (v := (5 : Int32)) rfl (by decide) ?_
                    refine e_isub (k := 162) rfl ?_
                    refine e_ilet h (fun y1 h => ?_)
                    refine e_istore_n (k := 163) (i := 3) (lv' := [(0, .ref (gR g 0)), (1, .int x1), (3, .int y1), (4, .int (3 : Int32))]) rfl rfl (by decide) [1, 2, 0, 3] rfl ?_
                    refine e_goto (k := 164) (tgt := 328) rfl (by decide) ?_
                    exact s_X12_readKey_328 hg h
                · have h := h.2 z
                  refine e_iload_n (k := 151) (i := 3) rfl rfl 2 rfl ?_
                  refine e_iconst (k := 152) (v := (1 : Int32)) rfl (by decide) ?_
                  refine e_isub (k := 153) rfl ?_
                  refine e_ilet h (fun y2 h => ?_)
                  refine e_istore_n (k := 154) (i := 3) (lv' := [(0, .ref (gR g 0)), (1, .int x1), (3, .int y2), (4, .int (3 : Int32))]) rfl rfl (by decide) [1, 2, 0, 3] rfl ?_
                  refine e_goto (k := 155) (tgt := 328) rfl (by decide) ?_
                  exact s_X12_readKey_328 hg h
              · have h := h.2 z
                refine e_iload_n (k := 142) (i := 3) rfl rfl 2 rfl ?_
                refine e_iconst (k := 143) (v := (1 : Int32)) rfl (by decide) ?_
                refine e_iadd (k := 144) rfl ?_
                refine e_ilet h (fun y3 h => ?_)
                refine e_istore_n (k := 145) (i := 3) (lv' := [(0, .ref (gR g 0)), (1, .int x1), (3, .int y3), (4, .int (3 : Int32))]) rfl rfl (by decide) [1, 2, 0, 3] rfl ?_
                refine e_goto (k := 146) (tgt := 328) rfl (by decide) ?_
                exact s_X12_readKey_328 hg h
            · have h := h.2 z
              refine e_iload_n (k := 133) (i := 3) rfl rfl 2 rfl ?_
              refine e_iconst (k := 134) (v := (4 : Int32)) rfl (by decide) ?_
              refine e_isub (k := 135) rfl ?_
              refine e_ilet h (fun y4 h => ?_)
              refine e_istore_n (k := 136) (i := 3) (lv' := [(0, .ref (gR g 0)), (1, .int x1), (3, .int y4), (4, .int (3 : Int32))]) rfl rfl (by decide) [1, 2, 0, 3] rfl ?_
              refine e_goto (k := 137) (tgt := 328) rfl (by decide) ?_
              exact s_X12_readKey_328 hg h
          · have h := h.2 z
            refine e_iload_n (k := 124) (i := 3) rfl rfl 2 rfl ?_
            refine e_iconst (k := 125) (v := (2 : Int32)) rfl (by decide) ?_
            refine e_isub (k := 126) rfl ?_
            refine e_ilet h (fun y5 h => ?_)
            refine e_istore_n (k := 127) (i := 3) (lv' := [(0, .ref (gR g 0)), (1, .int x1), (3, .int y5), (4, .int (3 : Int32))]) rfl rfl (by decide) [1, 2, 0, 3] rfl ?_
            refine e_goto (k := 128) (tgt := 328) rfl (by decide) ?_
            exact s_X12_readKey_328 hg h
        · have h := h.2 z
          exact s_X12_readKey_218 hg h
    · have h := h.2 z
      exact s_X12_readKey_193 hg h
set_option maxRecDepth 20000 in
theorem s_X12_readKey_161 {g : Gb} (hg : xInj g) {n : Nat} {Q : Int32 → Mm → Prop} {T : Mm → Prop} {x1 : Int32} {t0 : Int32} {u0 : Mm} (h : w_X12_readKey_161 n x1 t0 u0 Q T) : xE g me_X12_readKey (pI g Q T) 161 [(0, .ref (gR g 0)), (1, .int x1)] [.int t0] u0 := by
  unfold w_X12_readKey_161 at h
  refine e_istore_n (k := 85) (i := 3) (lv' := [(0, .ref (gR g 0)), (1, .int x1), (3, .int t0)]) rfl rfl (by decide) [1, 2, 0] rfl ?_
  refine e_aload_n (k := 86) (i := 0) rfl rfl 0 rfl ?_
  refine e_dup (k := 87) rfl rfl ?_
  refine e_getI (k := 88) rfl f_X12_138 rfl rfl ?_
  refine e_iconst (k := 89) (v := (1 : Int32)) rfl (by decide) ?_
  refine e_iadd (k := 90) rfl ?_
  refine e_putI (k := 91) rfl fg_X12_138 rfl rfl ?_
  refine e_mlet h (fun u1 h => ?_)
  exact s_X12_readKey_172 hg h
set_option maxRecDepth 20000 in
theorem s_X12_readKey_141 {g : Gb} (hg : xInj g) {n : Nat} {Q : Int32 → Mm → Prop} {T : Mm → Prop} {x1 : Int32} {x3 : Int32} {u0 : Mm} (h : w_X12_readKey_141 n x1 x3 u0 Q T) : xE g me_X12_readKey (pI g Q T) 141 [(0, .ref (gR g 0)), (1, .int x1), (3, .int x3)] [] u0 := by
  unfold w_X12_readKey_141 at h
  refine e_aload_n (k := 74) (i := 0) rfl rfl 0 rfl ?_
  refine e_bipush (k := 75) (v := (35 : Int32)) rfl (by decide) ?_
  refine e_callVi (k := 76) (q := 0) (As := [.int (35 : Int32)]) (rest := []) rfl (c_X12_is (g := g) hg (n := n) h) m_X12_is i_X12_is l_X12_166 rfl ⟨_, rfl, rfl⟩ rfl rfl (Nat.le_of_ble_eq_true rfl) ⟨by decide, by decide, rfl, rfl⟩ (fun _ h => ⟨fun _ z => (by cases z), Or.inr ⟨rfl, h⟩⟩) (fun r1 u1 h => ?_)
  refine e_if_eq (k := 77) (tgt := 157) rfl (by decide) (fun z => ?_) (fun z => ?_)
  · have h := h.1 z
    refine e_iload_n (k := 82) (i := 3) rfl rfl 2 rfl ?_
    refine e_bipush (k := 83) (v := (7 : Int32)) rfl (by decide) ?_
    refine e_isub (k := 84) rfl ?_
    refine e_sub (lv' := [(0, .ref (gR g 0)), (1, .int x1)]) [0, 1] rfl ?_
    exact s_X12_readKey_161 hg h
  · have h := h.2 z
    refine e_iload_n (k := 78) (i := 3) rfl rfl 2 rfl ?_
    refine e_bipush (k := 79) (v := (7 : Int32)) rfl (by decide) ?_
    refine e_iadd (k := 80) rfl ?_
    refine e_goto (k := 81) (tgt := 161) rfl (by decide) ?_
    refine e_sub (lv' := [(0, .ref (gR g 0)), (1, .int x1)]) [0, 1] rfl ?_
    exact s_X12_readKey_161 hg h
set_option maxRecDepth 20000 in
theorem s_X12_readKey_112 {g : Gb} (hg : xInj g) {n : Nat} {Q : Int32 → Mm → Prop} {T : Mm → Prop} {x1 : Int32} {t0 : Int32} {u0 : Mm} (h : w_X12_readKey_112 n x1 t0 u0 Q T) : xE g me_X12_readKey (pI g Q T) 112 [(0, .ref (gR g 0)), (1, .int x1)] [.int t0] u0 := by
  unfold w_X12_readKey_112 at h
  refine e_istore_n (k := 59) (i := 3) (lv' := [(0, .ref (gR g 0)), (1, .int x1), (3, .int t0)]) rfl rfl (by decide) [1, 2, 0] rfl ?_
  refine e_aload_n (k := 60) (i := 0) rfl rfl 0 rfl ?_
  refine e_dup (k := 61) rfl rfl ?_
  refine e_getI (k := 62) rfl f_X12_138 rfl rfl ?_
  refine e_iconst (k := 63) (v := (1 : Int32)) rfl (by decide) ?_
  refine e_iadd (k := 64) rfl ?_
  refine e_putI (k := 65) rfl fg_X12_138 rfl rfl ?_
  refine e_mlet h (fun u1 h => ?_)
  refine e_aload_n (k := 66) (i := 0) rfl rfl 0 rfl ?_
  refine e_bipush (k := 67) (v := (35 : Int32)) rfl (by decide) ?_
  refine e_callVi (k := 68) (q := 0) (As := [.int (35 : Int32)]) (rest := []) rfl (c_X12_is (g := g) hg (n := n) h) m_X12_is i_X12_is l_X12_166 rfl ⟨_, rfl, rfl⟩ rfl rfl (Nat.le_of_ble_eq_true rfl) ⟨by decide, by decide, rfl, rfl⟩ (fun _ h => ⟨fun _ z => (by cases z), Or.inr ⟨rfl, h⟩⟩) (fun r1 u2 h => ?_)
  refine e_if_ne (k := 69) (tgt := 141) rfl (by decide) (fun z => ?_) (fun z => ?_)
  · have h := h.1 z
    exact s_X12_readKey_141 hg h
  · have h := h.2 z
    refine e_aload_n (k := 70) (i := 0) rfl rfl 0 rfl ?_
    refine e_bipush (k := 71) (v := (98 : Int32)) rfl (by decide) ?_
    refine e_callVi (k := 72) (q := 0) (As := [.int (98 : Int32)]) (rest := []) rfl (c_X12_is (g := g) hg (n := n) h) m_X12_is i_X12_is l_X12_166 rfl ⟨_, rfl, rfl⟩ rfl rfl (Nat.le_of_ble_eq_true rfl) ⟨by decide, by decide, rfl, rfl⟩ (fun _ h => ⟨fun _ z => (by cases z), Or.inr ⟨rfl, h⟩⟩) (fun r2 u3 h => ?_)
    refine e_if_eq (k := 73) (tgt := 172) rfl (by decide) (fun z => ?_) (fun z => ?_)
    · have h := h.1 z
      exact s_X12_readKey_172 hg h
    · have h := h.2 z
      exact s_X12_readKey_141 hg h
set_option maxRecDepth 20000 in
theorem s_X12_readKey_51 {g : Gb} (hg : xInj g) {n : Nat} {Q : Int32 → Mm → Prop} {T : Mm → Prop} {x1 : Int32} {x2 : Int32} {u0 : Mm} (h : w_X12_readKey_51 n x1 x2 u0 Q T) : xE g me_X12_readKey (pI g Q T) 51 [(0, .ref (gR g 0)), (1, .int x1), (2, .int x2)] [] u0 := by
  unfold w_X12_readKey_51 at h
  refine e_iload_n (k := 28) (i := 2) rfl rfl 2 rfl ?_
  refine e_bipush (k := 29) (v := (70 : Int32)) rfl (by decide) ?_
  refine e_icmp_ne (k := 30) (tgt := 61) rfl (by decide) (fun z => ?_) (fun z => ?_)
  · have h := h.1 z
    refine e_iload_n (k := 33) (i := 2) rfl rfl 2 rfl ?_
    refine e_bipush (k := 34) (v := (67 : Int32)) rfl (by decide) ?_
    refine e_icmp_ne (k := 35) (tgt := 71) rfl (by decide) (fun z => ?_) (fun z => ?_)
    · have h := h.1 z
      refine e_iload_n (k := 38) (i := 2) rfl rfl 2 rfl ?_
      refine e_bipush (k := 39) (v := (71 : Int32)) rfl (by decide) ?_
      refine e_icmp_ne (k := 40) (tgt := 81) rfl (by decide) (fun z => ?_) (fun z => ?_)
      · have h := h.1 z
        refine e_iload_n (k := 43) (i := 2) rfl rfl 2 rfl ?_
        refine e_bipush (k := 44) (v := (68 : Int32)) rfl (by decide) ?_
        refine e_icmp_ne (k := 45) (tgt := 91) rfl (by decide) (fun z => ?_) (fun z => ?_)
        · have h := h.1 z
          refine e_iload_n (k := 48) (i := 2) rfl rfl 2 rfl ?_
          refine e_bipush (k := 49) (v := (65 : Int32)) rfl (by decide) ?_
          refine e_icmp_ne (k := 50) (tgt := 101) rfl (by decide) (fun z => ?_) (fun z => ?_)
          · have h := h.1 z
            refine e_iload_n (k := 53) (i := 2) rfl rfl 2 rfl ?_
            refine e_bipush (k := 54) (v := (69 : Int32)) rfl (by decide) ?_
            refine e_icmp_ne (k := 55) (tgt := 111) rfl (by decide) (fun z => ?_) (fun z => ?_)
            · have h := h.1 z
              refine e_iconst (k := 58) (v := (5 : Int32)) rfl (by decide) ?_
              refine e_sub (lv' := [(0, .ref (gR g 0)), (1, .int x1)]) [0, 1] rfl ?_
              exact s_X12_readKey_112 hg h
            · have h := h.2 z
              refine e_iconst (k := 56) (v := (4 : Int32)) rfl (by decide) ?_
              refine e_goto (k := 57) (tgt := 112) rfl (by decide) ?_
              refine e_sub (lv' := [(0, .ref (gR g 0)), (1, .int x1)]) [0, 1] rfl ?_
              exact s_X12_readKey_112 hg h
          · have h := h.2 z
            refine e_iconst (k := 51) (v := (3 : Int32)) rfl (by decide) ?_
            refine e_goto (k := 52) (tgt := 112) rfl (by decide) ?_
            refine e_sub (lv' := [(0, .ref (gR g 0)), (1, .int x1)]) [0, 1] rfl ?_
            exact s_X12_readKey_112 hg h
        · have h := h.2 z
          refine e_iconst (k := 46) (v := (2 : Int32)) rfl (by decide) ?_
          refine e_goto (k := 47) (tgt := 112) rfl (by decide) ?_
          refine e_sub (lv' := [(0, .ref (gR g 0)), (1, .int x1)]) [0, 1] rfl ?_
          exact s_X12_readKey_112 hg h
      · have h := h.2 z
        refine e_iconst (k := 41) (v := (1 : Int32)) rfl (by decide) ?_
        refine e_goto (k := 42) (tgt := 112) rfl (by decide) ?_
        refine e_sub (lv' := [(0, .ref (gR g 0)), (1, .int x1)]) [0, 1] rfl ?_
        exact s_X12_readKey_112 hg h
    · have h := h.2 z
      refine e_iconst (k := 36) (v := (0 : Int32)) rfl (by decide) ?_
      refine e_goto (k := 37) (tgt := 112) rfl (by decide) ?_
      refine e_sub (lv' := [(0, .ref (gR g 0)), (1, .int x1)]) [0, 1] rfl ?_
      exact s_X12_readKey_112 hg h
  · have h := h.2 z
    refine e_iconst (k := 31) (v := (-1 : Int32)) rfl (by decide) ?_
    refine e_goto (k := 32) (tgt := 112) rfl (by decide) ?_
    refine e_sub (lv' := [(0, .ref (gR g 0)), (1, .int x1)]) [0, 1] rfl ?_
    exact s_X12_readKey_112 hg h
set_option maxRecDepth 20000 in
theorem c_X12_readKey {g : Gb} (hg : xInj g) {n : Nat} {u0 : Mm} {Q : Int32 → Mm → Prop} {T : Mm → Prop} (h : w_X12_readKey n u0 Q T) : xMet (gL g) yX12_readKey (xws yX12_readKey cX12_readKey 5 (some .int)) (xRoom 6) (xPc g [.ref (gR g 0)] u0) (xQ g (pI g Q T)) (xA g) := by
  refine xbody (il := il_X12_readKey) hg il_X12_readKey_ok m_X12_readKey (Nat.le_of_ble_eq_true rfl) ?_
  show xE g me_X12_readKey (pI g Q T) 0 [(0, .ref (gR g 0))] [] u0
  unfold w_X12_readKey at h
  refine e_aload_n (k := 0) (i := 0) rfl rfl 0 rfl ?_
  refine e_getI (k := 1) rfl f_X12_138 rfl rfl ?_
  refine e_ilet h (fun y1 h => ?_)
  refine e_istore_n (k := 2) (i := 1) (lv' := [(0, .ref (gR g 0)), (1, .int y1)]) rfl rfl (by decide) [1, 0] rfl ?_
  refine e_aload_n (k := 3) (i := 0) rfl rfl 0 rfl ?_
  refine e_ldcS (k := 4) (j := 20) rfl rfl ?_
  refine e_callVi (k := 5) (q := 0) (As := [.ref (gK g 20)]) (rest := []) rfl (c_X12_isWord (g := g) hg (n := n) (by decide) h) m_X12_isWord i_X12_isWord l_X12_203 rfl ⟨_, rfl, rfl⟩ rfl rfl (Nat.le_of_ble_eq_true rfl) ⟨by decide, by decide, rfl, rfl⟩ (fun _ h => ⟨fun _ z => (by cases z), Or.inr ⟨rfl, h⟩⟩) (fun r1 u1 h => ?_)
  refine e_if_eq (k := 6) (tgt := 26) rfl (by decide) (fun z => ?_) (fun z => ?_)
  · have h := h.1 z
    refine e_aload_n (k := 15) (i := 0) rfl rfl 0 rfl ?_
    refine e_callVi (k := 16) (q := 0) (As := []) (rest := []) rfl (c_X12_here (g := g) hg (n := n) h) m_X12_here i_X12_here l_X12_162 rfl ⟨_, rfl, rfl⟩ rfl rfl (Nat.le_of_ble_eq_true rfl) ⟨by decide, by decide, rfl, rfl⟩ (fun _ h => ⟨fun _ z => (by cases z), Or.inr ⟨rfl, h⟩⟩) (fun r2 u2 h => ?_)
    refine e_istore_n (k := 17) (i := 2) (lv' := [(0, .ref (gR g 0)), (1, .int y1), (2, .int r2)]) rfl rfl (by decide) [1, 2, 0] rfl ?_
    refine e_iload_n (k := 18) (i := 2) rfl rfl 2 rfl ?_
    refine e_i2l (k := 19) rfl ?_
    refine e_ldc2 (k := 20) rfl k_X12_174 ?_
    refine e_ldc2 (k := 21) rfl k_X12_219 ?_
    refine e_callSi (k := 22) (As := [.long r2.toInt64, .long (65 : Int64), .long (71 : Int64)]) (rest := []) rfl (c_X12_in (g := g) hg (n := n) h) m_X12_in st_X12_in l_X12_125 rfl rfl (Nat.le_of_ble_eq_true rfl) ⟨by decide, by decide, rfl, rfl⟩ (fun _ h => ⟨fun _ z => (by cases z), Or.inr ⟨rfl, h⟩⟩) (fun r3 u3 h => ?_)
    refine e_if_ne (k := 23) (tgt := 51) rfl (by decide) (fun z => ?_) (fun z => ?_)
    · have h := h.1 z
      exact s_X12_readKey_51 hg h
    · have h := h.2 z
      refine e_aload_n (k := 24) (i := 0) rfl rfl 0 rfl ?_
      refine e_iconst (k := 25) (v := (1 : Int32)) rfl (by decide) ?_
      refine e_iload_n (k := 26) (i := 1) rfl rfl 1 rfl ?_
      refine e_callVv (k := 27) (q := 0) (As := [.int (1 : Int32), .int y1]) (rest := []) rfl (c_X12_fail (g := g) hg (n := n) h) m_X12_fail i_X12_fail l_X12_148 rfl ⟨_, rfl, rfl⟩ rfl rfl (Nat.le_of_ble_eq_true rfl) ⟨by decide, by decide, rfl, rfl⟩ (fun _ h => ⟨fun _ z => (by cases z), Or.inr ⟨rfl, h⟩⟩) (fun u4 h => ?_)
      exact s_X12_readKey_51 hg h
  · have h := h.2 z
    refine e_aload_n (k := 7) (i := 0) rfl rfl 0 rfl ?_
    refine e_aload_n (k := 8) (i := 0) rfl rfl 0 rfl ?_
    refine e_getI (k := 9) rfl f_X12_138 rfl rfl ?_
    refine e_iconst (k := 10) (v := (4 : Int32)) rfl (by decide) ?_
    refine e_iadd (k := 11) rfl ?_
    refine e_putI (k := 12) rfl fg_X12_138 rfl rfl ?_
    refine e_mlet h (fun u5 h => ?_)
    refine e_iconst (k := 13) (v := (0 : Int32)) rfl (by decide) ?_
    exact e_iret (k := 14) rfl rfl (Or.inl ⟨_, rfl, h⟩)
