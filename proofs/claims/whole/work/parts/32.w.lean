/-! methods (by program) -/
def il_X12_readMeter : List (Nat × Instr × Nat) := [(0, .aload_n 0, 1), (1, .getfield 138, 3), (4, .istore_n 1, 1), (5, .aload_n 0, 1), (6, .invokevirtual 162, 3), (9, .istore_n 2, 1), (10, .iload_n 2, 1), (11, .bipush 67, 2), (13, .if_icmp .ne 70, 3), (16, .aload_n 0, 1), (17, .dup, 1), (18, .getfield 138, 3), (21, .iconst 1, 1), (22, .iadd, 1), (23, .putfield 138, 3), (26, .aload_n 0, 1), (27, .bipush 124, 2), (29, .invokevirtual 166, 3), (32, .istore_n 3, 1), (33, .aload_n 0, 1), (34, .iload_n 3, 1), (35, .ifCond .eq 12, 3), (38, .aload_n 0, 1), (39, .getfield 138, 3), (42, .iconst 1, 1), (43, .iadd, 1), (44, .goto 7, 3), (47, .aload_n 0, 1), (48, .getfield 138, 3), (51, .putfield 138, 3), (54, .aload_n 0, 1), (55, .iload_n 3, 1), (56, .ifCond .eq 7, 3), (59, .iconst 2, 1), (60, .goto 4, 3), (63, .iconst 4, 1), (64, .putfield 195, 3), (67, .aload_n 0, 1), (68, .iload_n 3, 1), (69, .ifCond .eq 7, 3), (72, .iconst 2, 1), (73, .goto 4, 3), (76, .iconst 4, 1), (77, .putfield 198, 3), (80, .goto 88, 3), (83, .aload_n 0, 1), (84, .ldc 201, 2), (86, .invokevirtual 203, 3), (89, .ifCond .eq 26, 3), (92, .aload_n 0, 1), (93, .aload_n 0, 1), (94, .getfield 138, 3), (97, .iconst 4, 1), (98, .iadd, 1), (99, .putfield 138, 3), (102, .aload_n 0, 1), (103, .iconst 0, 1), (104, .putfield 195, 3), (107, .aload_n 0, 1), (108, .iconst 0, 1), (109, .putfield 198, 3), (112, .goto 56, 3), (115, .aload_n 0, 1), (116, .aload_n 0, 1), (117, .iconst 1, 1), (118, .bipush 32, 2), (120, .iload_n 1, 1), (121, .invokevirtual 207, 3), (124, .putfield 195, 3), (127, .aload_n 0, 1), (128, .bipush 47, 2), (130, .invokevirtual 211, 3), (133, .aload_n 0, 1), (134, .getfield 138, 3), (137, .istore_n 3, 1), (138, .aload_n 0, 1), (139, .aload_n 0, 1), (140, .iconst 1, 1), (141, .bipush 32, 2), (143, .iload_n 3, 1), (144, .invokevirtual 207, 3), (147, .putfield 198, 3), (150, .aload_n 0, 1), (151, .getfield 198, 3), (154, .bipush 32, 2), (156, .invokestatic 215, 3), (159, .ifCond .ne 9, 3), (162, .aload_n 0, 1), (163, .iconst 1, 1), (164, .iload_n 3, 1), (165, .invokevirtual 148, 3), (168, .return_, 1)]
set_option maxRecDepth 20000 in
theorem il_X12_readMeter_ok : ∀ x ∈ il_X12_readMeter, decode cX12_readMeter x.1 = .ok x.2 := by decide +kernel
abbrev me_X12_readMeter : Me := (RX12, il_X12_readMeter, 4, none, xRoom 6, [])
def w_X12_readMeter_168 (n : Nat) (u0 : Mm) (Q : Mm → Prop) (T : Mm → Prop) : Prop :=
  Q u0
def w_X12_readMeter_77 (n : Nat) (t0 : Int32) (u0 : Mm) (Q : Mm → Prop) (T : Mm → Prop) : Prop :=
  mlet (setI u0 0 51 t0) fun u1 =>
  w_X12_readMeter_168 n u1 Q T
def w_X12_readMeter_64 (n : Nat) (x3 : Int32) (t0 : Int32) (u0 : Mm) (Q : Mm → Prop) (T : Mm → Prop) : Prop :=
  mlet (setI u0 0 50 t0) fun u1 =>
  (x3 = 0 → w_X12_readMeter_77 n (4 : Int32) u1 Q T) ∧
  (¬ x3 = 0 → w_X12_readMeter_77 n (2 : Int32) u1 Q T)
def w_X12_readMeter_51 (n : Nat) (x3 : Int32) (t0 : Int32) (u0 : Mm) (Q : Mm → Prop) (T : Mm → Prop) : Prop :=
  mlet (setI u0 0 7 t0) fun u1 =>
  (x3 = 0 → w_X12_readMeter_64 n x3 (4 : Int32) u1 Q T) ∧
  (¬ x3 = 0 → w_X12_readMeter_64 n x3 (2 : Int32) u1 Q T)
def w_X12_readMeter (n : Nat) (u0 : Mm) (Q : Mm → Prop) (T : Mm → Prop) : Prop :=
  ilet (u0.1 0 7) fun y1 =>
  w_X12_here n u0 (fun r1 u1 =>
  (¬ r1 = (67 : Int32) → w_X12_isWord n 20 u1 (fun r2 u2 =>
  (r2 = 0 → w_X12_numberOf n (1 : Int32) (32 : Int32) y1 u2 (fun r3 u3 =>
  mlet (setI u3 0 50 r3) fun u4 =>
  w_X12_must n (47 : Int32) u4 (fun u5 =>
  ilet (u5.1 0 7) fun y2 =>
  w_X12_numberOf n (1 : Int32) (32 : Int32) y2 u5 (fun r4 u6 =>
  mlet (setI u6 0 51 r4) fun u7 =>
  w_X12_isPower n (u7.1 0 51) (32 : Int32) u7 (fun r5 u8 =>
  (¬ r5 = 0 → w_X12_readMeter_168 n u8 Q T) ∧
  (r5 = 0 → w_X12_fail n (1 : Int32) y2 u8 (fun u9 =>
  w_X12_readMeter_168 n u9 Q T) T)) T) T) T) T) ∧
  (¬ r2 = 0 → mlet (setI u2 0 7 ((u2.1 0 7) + (4 : Int32))) fun u10 =>
  mlet (setI u10 0 50 (0 : Int32)) fun u11 =>
  mlet (setI u11 0 51 (0 : Int32)) fun u12 =>
  w_X12_readMeter_168 n u12 Q T)) T) ∧
  (r1 = (67 : Int32) → mlet (setI u1 0 7 ((u1.1 0 7) + (1 : Int32))) fun u13 =>
  w_X12_is n (124 : Int32) u13 (fun r6 u14 =>
  (r6 = 0 → w_X12_readMeter_51 n r6 (u14.1 0 7) u14 Q T) ∧
  (¬ r6 = 0 → w_X12_readMeter_51 n r6 ((u14.1 0 7) + (1 : Int32)) u14 Q T)) T)) T
set_option maxRecDepth 20000 in
theorem s_X12_readMeter_168 {g : Gb} (hg : xInj g) {n : Nat} {Q : Mm → Prop} {T : Mm → Prop} {u0 : Mm} (h : w_X12_readMeter_168 n  u0 Q T) : xE g me_X12_readMeter (pV g Q T) 168 [] [] u0 := by
  unfold w_X12_readMeter_168 at h
  exact e_vret (k := 91) rfl rfl (Or.inl ⟨rfl, h⟩)
set_option maxRecDepth 20000 in
theorem s_X12_readMeter_77 {g : Gb} (hg : xInj g) {n : Nat} {Q : Mm → Prop} {T : Mm → Prop} {t0 : Int32} {u0 : Mm} (h : w_X12_readMeter_77 n t0 u0 Q T) : xE g me_X12_readMeter (pV g Q T) 77 [] [.int t0, .ref (gR g 0)] u0 := by
  unfold w_X12_readMeter_77 at h
  refine e_putI (k := 43) rfl fg_X12_198 rfl rfl ?_
  refine e_mlet h (fun u1 h => ?_)
  refine e_goto (k := 44) (tgt := 168) rfl (by decide) ?_
  exact s_X12_readMeter_168 hg h
set_option maxRecDepth 20000 in
theorem s_X12_readMeter_64 {g : Gb} (hg : xInj g) {n : Nat} {Q : Mm → Prop} {T : Mm → Prop} {x3 : Int32} {t0 : Int32} {u0 : Mm} (h : w_X12_readMeter_64 n x3 t0 u0 Q T) : xE g me_X12_readMeter (pV g Q T) 64 [(0, .ref (gR g 0)), (3, .int x3)] [.int t0, .ref (gR g 0)] u0 := by
  unfold w_X12_readMeter_64 at h
  refine e_putI (k := 36) rfl fg_X12_195 rfl rfl ?_
  refine e_mlet h (fun u1 h => ?_)
  refine e_aload_n (k := 37) (i := 0) rfl rfl 0 rfl ?_
  refine e_iload_n (k := 38) (i := 3) rfl rfl 1 rfl ?_
  refine e_if_eq (k := 39) (tgt := 76) rfl (by decide) (fun z => ?_) (fun z => ?_)
  · have h := h.1 z
    refine e_iconst (k := 42) (v := (4 : Int32)) rfl (by decide) ?_
    refine e_sub (lv' := []) [] rfl ?_
    exact s_X12_readMeter_77 hg h
  · have h := h.2 z
    refine e_iconst (k := 40) (v := (2 : Int32)) rfl (by decide) ?_
    refine e_goto (k := 41) (tgt := 77) rfl (by decide) ?_
    refine e_sub (lv' := []) [] rfl ?_
    exact s_X12_readMeter_77 hg h
set_option maxRecDepth 20000 in
theorem s_X12_readMeter_51 {g : Gb} (hg : xInj g) {n : Nat} {Q : Mm → Prop} {T : Mm → Prop} {x3 : Int32} {t0 : Int32} {u0 : Mm} (h : w_X12_readMeter_51 n x3 t0 u0 Q T) : xE g me_X12_readMeter (pV g Q T) 51 [(0, .ref (gR g 0)), (3, .int x3)] [.int t0, .ref (gR g 0)] u0 := by
  unfold w_X12_readMeter_51 at h
  refine e_putI (k := 29) rfl fg_X12_138 rfl rfl ?_
  refine e_mlet h (fun u1 h => ?_)
  refine e_aload_n (k := 30) (i := 0) rfl rfl 0 rfl ?_
  refine e_iload_n (k := 31) (i := 3) rfl rfl 1 rfl ?_
  refine e_if_eq (k := 32) (tgt := 63) rfl (by decide) (fun z => ?_) (fun z => ?_)
  · have h := h.1 z
    refine e_iconst (k := 35) (v := (4 : Int32)) rfl (by decide) ?_
    exact s_X12_readMeter_64 hg h
  · have h := h.2 z
    refine e_iconst (k := 33) (v := (2 : Int32)) rfl (by decide) ?_
    refine e_goto (k := 34) (tgt := 64) rfl (by decide) ?_
    exact s_X12_readMeter_64 hg h
set_option maxRecDepth 20000 in
theorem c_X12_readMeter {g : Gb} (hg : xInj g) {n : Nat} {u0 : Mm} {Q : Mm → Prop} {T : Mm → Prop} (h : w_X12_readMeter n u0 Q T) : xMet (gL g) yX12_readMeter (xws yX12_readMeter cX12_readMeter 4 none) (xRoom 6) (xPc g [.ref (gR g 0)] u0) (xQ g (pV g Q T)) (xA g) := by
  refine xbody (il := il_X12_readMeter) hg il_X12_readMeter_ok m_X12_readMeter (Nat.le_of_ble_eq_true rfl) ?_
  show xE g me_X12_readMeter (pV g Q T) 0 [(0, .ref (gR g 0))] [] u0
  unfold w_X12_readMeter at h
  refine e_aload_n (k := 0) (i := 0) rfl rfl 0 rfl ?_
  refine e_getI (k := 1) rfl f_X12_138 rfl rfl ?_
  refine e_ilet h (fun y1 h => ?_)
  refine e_istore_n (k := 2) (i := 1) (lv' := [(0, .ref (gR g 0)), (1, .int y1)]) rfl rfl (by decide) [1, 0] rfl ?_
  refine e_aload_n (k := 3) (i := 0) rfl rfl 0 rfl ?_
  refine e_callVi (k := 4) (q := 0) (As := []) (rest := []) rfl (c_X12_here (g := g) hg (n := n) h) m_X12_here i_X12_here l_X12_162 rfl ⟨_, rfl, rfl⟩ rfl rfl (Nat.le_of_ble_eq_true rfl) ⟨by decide, by decide, rfl, rfl⟩ (fun _ h => ⟨fun _ z => (by cases z), Or.inr ⟨rfl, h⟩⟩) (fun r1 u1 h => ?_)
  refine e_istore_n (k := 5) (i := 2) (lv' := [(0, .ref (gR g 0)), (1, .int y1), (2, .int r1)]) rfl rfl (by decide) [1, 2, 0] rfl ?_
  refine e_iload_n (k := 6) (i := 2) rfl rfl 2 rfl ?_
  refine e_bipush (k := 7) (v := (67 : Int32)) rfl (by decide) ?_
  refine e_icmp_ne (k := 8) (tgt := 83) rfl (by decide) (fun z => ?_) (fun z => ?_)
  · have h := h.1 z
    refine e_aload_n (k := 45) (i := 0) rfl rfl 0 rfl ?_
    refine e_ldcS (k := 46) (j := 20) rfl rfl ?_
    refine e_callVi (k := 47) (q := 0) (As := [.ref (gK g 20)]) (rest := []) rfl (c_X12_isWord (g := g) hg (n := n) (by decide) h) m_X12_isWord i_X12_isWord l_X12_203 rfl ⟨_, rfl, rfl⟩ rfl rfl (Nat.le_of_ble_eq_true rfl) ⟨by decide, by decide, rfl, rfl⟩ (fun _ h => ⟨fun _ z => (by cases z), Or.inr ⟨rfl, h⟩⟩) (fun r2 u2 h => ?_)
    refine e_if_eq (k := 48) (tgt := 115) rfl (by decide) (fun z => ?_) (fun z => ?_)
    · have h := h.1 z
      refine e_aload_n (k := 62) (i := 0) rfl rfl 0 rfl ?_
      refine e_aload_n (k := 63) (i := 0) rfl rfl 0 rfl ?_
      refine e_iconst (k := 64) (v := (1 : Int32)) rfl (by decide) ?_
      refine e_bipush (k := 65) (v := (32 : Int32)) rfl (by decide) ?_
      refine e_iload_n (k := 66) (i := 1) rfl rfl 1 rfl ?_
      refine e_callVi (k := 67) (q := 0) (As := [.int (1 : Int32), .int (32 : Int32), .int y1]) (rest := [.ref (gR g 0)]) rfl (c_X12_numberOf (g := g) hg (n := n) h) m_X12_numberOf i_X12_numberOf l_X12_207 rfl ⟨_, rfl, rfl⟩ rfl rfl (Nat.le_of_ble_eq_true rfl) ⟨by decide, by decide, rfl, rfl⟩ (fun _ h => ⟨fun _ z => (by cases z), Or.inr ⟨rfl, h⟩⟩) (fun r3 u3 h => ?_)
      refine e_putI (k := 68) rfl fg_X12_195 rfl rfl ?_
      refine e_mlet h (fun u4 h => ?_)
      refine e_aload_n (k := 69) (i := 0) rfl rfl 0 rfl ?_
      refine e_bipush (k := 70) (v := (47 : Int32)) rfl (by decide) ?_
      refine e_callVv (k := 71) (q := 0) (As := [.int (47 : Int32)]) (rest := []) rfl (c_X12_must (g := g) hg (n := n) h) m_X12_must i_X12_must l_X12_211 rfl ⟨_, rfl, rfl⟩ rfl rfl (Nat.le_of_ble_eq_true rfl) ⟨by decide, by decide, rfl, rfl⟩ (fun _ h => ⟨fun _ z => (by cases z), Or.inr ⟨rfl, h⟩⟩) (fun u5 h => ?_)
      refine e_aload_n (k := 72) (i := 0) rfl rfl 0 rfl ?_
      refine e_getI (k := 73) rfl f_X12_138 rfl rfl ?_
      refine e_ilet h (fun y2 h => ?_)
      refine e_istore_n (k := 74) (i := 3) (lv' := [(0, .ref (gR g 0)), (1, .int y1), (2, .int r1), (3, .int y2)]) rfl rfl (by decide) [1, 2, 3, 0] rfl ?_
      refine e_aload_n (k := 75) (i := 0) rfl rfl 0 rfl ?_
      refine e_aload_n (k := 76) (i := 0) rfl rfl 0 rfl ?_
      refine e_iconst (k := 77) (v := (1 : Int32)) rfl (by decide) ?_
      refine e_bipush (k := 78) (v := (32 : Int32)) rfl (by decide) ?_
      refine e_iload_n (k := 79) (i := 3) rfl rfl 3 rfl ?_
      refine e_callVi (k := 80) (q := 0) (As := [.int (1 : Int32), .int (32 : Int32), .int y2]) (rest := [.ref (gR g 0)]) rfl (c_X12_numberOf (g := g) hg (n := n) h) m_X12_numberOf i_X12_numberOf l_X12_207 rfl ⟨_, rfl, rfl⟩ rfl rfl (Nat.le_of_ble_eq_true rfl) ⟨by decide, by decide, rfl, rfl⟩ (fun _ h => ⟨fun _ z => (by cases z), Or.inr ⟨rfl, h⟩⟩) (fun r4 u6 h => ?_)
      refine e_putI (k := 81) rfl fg_X12_198 rfl rfl ?_
      refine e_mlet h (fun u7 h => ?_)
      refine e_aload_n (k := 82) (i := 0) rfl rfl 0 rfl ?_
      refine e_getI (k := 83) rfl f_X12_198 rfl rfl ?_
      refine e_bipush (k := 84) (v := (32 : Int32)) rfl (by decide) ?_
      refine e_callSi (k := 85) (As := [.int (u7.1 0 51), .int (32 : Int32)]) (rest := []) rfl (c_X12_isPower (g := g) hg (n := n) h) m_X12_isPower st_X12_isPower l_X12_215 rfl rfl (Nat.le_of_ble_eq_true rfl) ⟨by decide, by decide, rfl, rfl⟩ (fun _ h => ⟨fun _ z => (by cases z), Or.inr ⟨rfl, h⟩⟩) (fun r5 u8 h => ?_)
      refine e_if_ne (k := 86) (tgt := 168) rfl (by decide) (fun z => ?_) (fun z => ?_)
      · have h := h.1 z
        refine e_sub (lv' := []) [] rfl ?_
        exact s_X12_readMeter_168 hg h
      · have h := h.2 z
        refine e_aload_n (k := 87) (i := 0) rfl rfl 0 rfl ?_
        refine e_iconst (k := 88) (v := (1 : Int32)) rfl (by decide) ?_
        refine e_iload_n (k := 89) (i := 3) rfl rfl 3 rfl ?_
        refine e_callVv (k := 90) (q := 0) (As := [.int (1 : Int32), .int y2]) (rest := []) rfl (c_X12_fail (g := g) hg (n := n) h) m_X12_fail i_X12_fail l_X12_148 rfl ⟨_, rfl, rfl⟩ rfl rfl (Nat.le_of_ble_eq_true rfl) ⟨by decide, by decide, rfl, rfl⟩ (fun _ h => ⟨fun _ z => (by cases z), Or.inr ⟨rfl, h⟩⟩) (fun u9 h => ?_)
        refine e_sub (lv' := []) [] rfl ?_
        exact s_X12_readMeter_168 hg h
    · have h := h.2 z
      refine e_aload_n (k := 49) (i := 0) rfl rfl 0 rfl ?_
      refine e_aload_n (k := 50) (i := 0) rfl rfl 0 rfl ?_
      refine e_getI (k := 51) rfl f_X12_138 rfl rfl ?_
      refine e_iconst (k := 52) (v := (4 : Int32)) rfl (by decide) ?_
      refine e_iadd (k := 53) rfl ?_
      refine e_putI (k := 54) rfl fg_X12_138 rfl rfl ?_
      refine e_mlet h (fun u10 h => ?_)
      refine e_aload_n (k := 55) (i := 0) rfl rfl 0 rfl ?_
      refine e_iconst (k := 56) (v := (0 : Int32)) rfl (by decide) ?_
      refine e_putI (k := 57) rfl fg_X12_195 rfl rfl ?_
      refine e_mlet h (fun u11 h => ?_)
      refine e_aload_n (k := 58) (i := 0) rfl rfl 0 rfl ?_
      refine e_iconst (k := 59) (v := (0 : Int32)) rfl (by decide) ?_
      refine e_putI (k := 60) rfl fg_X12_198 rfl rfl ?_
      refine e_mlet h (fun u12 h => ?_)
      refine e_goto (k := 61) (tgt := 168) rfl (by decide) ?_
      refine e_sub (lv' := []) [] rfl ?_
      exact s_X12_readMeter_168 hg h
  · have h := h.2 z
    refine e_aload_n (k := 9) (i := 0) rfl rfl 0 rfl ?_
    refine e_dup (k := 10) rfl rfl ?_
    refine e_getI (k := 11) rfl f_X12_138 rfl rfl ?_
    refine e_iconst (k := 12) (v := (1 : Int32)) rfl (by decide) ?_
    refine e_iadd (k := 13) rfl ?_
    refine e_putI (k := 14) rfl fg_X12_138 rfl rfl ?_
    refine e_mlet h (fun u13 h => ?_)
    refine e_aload_n (k := 15) (i := 0) rfl rfl 0 rfl ?_
    refine e_bipush (k := 16) (v := (124 : Int32)) rfl (by decide) ?_
    refine e_callVi (k := 17) (q := 0) (As := [.int (124 : Int32)]) (rest := []) rfl (c_X12_is (g := g) hg (n := n) h) m_X12_is i_X12_is l_X12_166 rfl ⟨_, rfl, rfl⟩ rfl rfl (Nat.le_of_ble_eq_true rfl) ⟨by decide, by decide, rfl, rfl⟩ (fun _ h => ⟨fun _ z => (by cases z), Or.inr ⟨rfl, h⟩⟩) (fun r6 u14 h => ?_)
    refine e_istore_n (k := 18) (i := 3) (lv' := [(0, .ref (gR g 0)), (1, .int y1), (2, .int r1), (3, .int r6)]) rfl rfl (by decide) [1, 2, 3, 0] rfl ?_
    refine e_aload_n (k := 19) (i := 0) rfl rfl 0 rfl ?_
    refine e_iload_n (k := 20) (i := 3) rfl rfl 3 rfl ?_
    refine e_if_eq (k := 21) (tgt := 47) rfl (by decide) (fun z => ?_) (fun z => ?_)
    · have h := h.1 z
      refine e_aload_n (k := 27) (i := 0) rfl rfl 0 rfl ?_
      refine e_getI (k := 28) rfl f_X12_138 rfl rfl ?_
      refine e_sub (lv' := [(0, .ref (gR g 0)), (3, .int r6)]) [0, 3] rfl ?_
      exact s_X12_readMeter_51 hg h
    · have h := h.2 z
      refine e_aload_n (k := 22) (i := 0) rfl rfl 0 rfl ?_
      refine e_getI (k := 23) rfl f_X12_138 rfl rfl ?_
      refine e_iconst (k := 24) (v := (1 : Int32)) rfl (by decide) ?_
      refine e_iadd (k := 25) rfl ?_
      refine e_goto (k := 26) (tgt := 51) rfl (by decide) ?_
      refine e_sub (lv' := [(0, .ref (gR g 0)), (3, .int r6)]) [0, 3] rfl ?_
      exact s_X12_readMeter_51 hg h
def il_X12_readTimed : List (Nat × Instr × Nat) := [(0, .aload_n 0, 1), (1, .getfield 138, 3), (4, .istore_n 1, 1), (5, .aload_n 0, 1), (6, .getfield 283, 3), (9, .istore_n 2, 1), (10, .iconst 1, 1), (11, .istore_n 3, 1), (12, .aload_n 0, 1), (13, .iload_n 1, 1), (14, .invokevirtual 391, 3), (17, .aload_n 0, 1), (18, .bipush 91, 2), (20, .invokevirtual 166, 3), (23, .ifCond .eq 173, 3), (26, .aload_n 0, 1), (27, .dup, 1), (28, .getfield 138, 3), (31, .iconst 1, 1), (32, .iadd, 1), (33, .putfield 138, 3), (36, .iconst 0, 1), (37, .istore_n 3, 1), (38, .aload_n 0, 1), (39, .bipush 93, 2), (41, .invokevirtual 166, 3), (44, .ifCond .eq 7, 3), (47, .iload_n 3, 1), (48, .ifCond .ne 70, 3), (51, .iload_n 3, 1), (52, .bipush 12, 2), (54, .if_icmp .ne 19, 3), (57, .aload_n 0, 1), (58, .invokevirtual 384, 3), (61, .ifCond .eq 12, 3), (64, .aload_n 0, 1), (65, .iconst 2, 1), (66, .aload_n 0, 1), (67, .getfield 138, 3), (70, .invokevirtual 148, 3), (73, .aload_n 0, 1), (74, .invokevirtual 394, 3), (77, .aload_n 0, 1), (78, .iconst 0, 1), (79, .invokevirtual 397, 3), (82, .istore 4, 2), (84, .aload_n 0, 1), (85, .invokevirtual 400, 3), (88, .aload_n 0, 1), (89, .invokevirtual 403, 3), (92, .aload_n 0, 1), (93, .getfield 93, 3), (96, .iload_n 3, 1), (97, .aload_n 0, 1), (98, .getfield 303, 3), (101, .iastore, 1), (102, .aload_n 0, 1), (103, .getfield 96, 3), (106, .iload_n 3, 1), (107, .aload_n 0, 1), (108, .getfield 306, 3), (111, .iastore, 1), (112, .iinc 3 1, 3), (115, .goto (-77), 3), (118, .aload_n 0, 1), (119, .dup, 1), (120, .getfield 138, 3), (123, .iconst 1, 1), (124, .iadd, 1), (125, .putfield 138, 3), (128, .aload_n 0, 1), (129, .invokevirtual 403, 3), (132, .aload_n 0, 1), (133, .getfield 303, 3), (136, .istore 4, 2), (138, .aload_n 0, 1), (139, .getfield 306, 3), (142, .istore 5, 2), (144, .iconst 0, 1), (145, .istore 6, 2), (147, .iload 6, 2), (149, .iload_n 3, 1), (150, .if_icmp .ge 43, 3), (153, .aload_n 0, 1), (154, .getfield 93, 3), (157, .iload 6, 2), (159, .aload_n 0, 1), (160, .getfield 93, 3), (163, .iload 6, 2), (165, .iaload, 1), (166, .iload 4, 2), (168, .imul, 1), (169, .iastore, 1), (170, .aload_n 0, 1), (171, .getfield 96, 3), (174, .iload 6, 2), (176, .aload_n 0, 1), (177, .getfield 96, 3), (180, .iload 6, 2), (182, .iaload, 1), (183, .iload 5, 2), (185, .imul, 1), (186, .iastore, 1), (187, .iinc 6 1, 3), (190, .goto (-43), 3), (193, .goto 118, 3), (196, .aload_n 0, 1), (197, .bipush 122, 2), (199, .invokevirtual 166, 3), (202, .ifCond .ne 12, 3), (205, .aload_n 0, 1), (206, .bipush 120, 2), (208, .invokevirtual 166, 3), (211, .ifCond .eq 61, 3), (214, .aload_n 0, 1), (215, .aload_n 0, 1), (216, .bipush 122, 2), (218, .invokevirtual 166, 3), (221, .ifCond .eq 7, 3), (224, .iconst 1, 1), (225, .goto 4, 3), (228, .iconst 2, 1), (229, .iload_n 1, 1), (230, .invokevirtual 333, 3), (233, .istore 4, 2), (235, .aload_n 0, 1), (236, .dup, 1), (237, .getfield 138, 3), (240, .iconst 1, 1), (241, .iadd, 1), (242, .putfield 138, 3), (245, .aload_n 0, 1), (246, .invokevirtual 403, 3), (249, .aload_n 0, 1), (250, .getfield 93, 3), (253, .iconst 0, 1), (254, .aload_n 0, 1), (255, .getfield 303, 3), (258, .iastore, 1), (259, .aload_n 0, 1), (260, .getfield 96, 3), (263, .iconst 0, 1), (264, .aload_n 0, 1), (265, .getfield 306, 3), (268, .iastore, 1), (269, .goto 42, 3), (272, .aload_n 0, 1), (273, .invokevirtual 394, 3), (276, .aload_n 0, 1), (277, .iconst 0, 1), (278, .invokevirtual 397, 3), (281, .istore 4, 2), (283, .aload_n 0, 1), (284, .invokevirtual 400, 3), (287, .aload_n 0, 1), (288, .invokevirtual 403, 3), (291, .aload_n 0, 1), (292, .getfield 93, 3), (295, .iconst 0, 1), (296, .aload_n 0, 1), (297, .getfield 303, 3), (300, .iastore, 1), (301, .aload_n 0, 1), (302, .getfield 96, 3), (305, .iconst 0, 1), (306, .aload_n 0, 1), (307, .getfield 306, 3), (310, .iastore, 1), (311, .aload_n 0, 1), (312, .iload_n 2, 1), (313, .iconst 0, 1), (314, .invokevirtual 293, 3), (317, .ifCond .ne 7, 3), (320, .iconst 1, 1), (321, .goto 4, 3), (324, .iconst 0, 1), (325, .istore 4, 2), (327, .iload 4, 2), (329, .ifCond .eq 16, 3), (332, .aload_n 0, 1), (333, .bipush 45, 2), (335, .invokevirtual 166, 3), (338, .ifCond .eq 7, 3), (341, .iconst 1, 1), (342, .goto 4, 3), (345, .iconst 0, 1), (346, .istore 5, 2), (348, .aload_n 0, 1), (349, .aload_n 0, 1), (350, .getfield 138, 3), (353, .iload 5, 2), (355, .iadd, 1), (356, .putfield 138, 3), (359, .iconst 0, 1), (360, .istore 6, 2), (362, .iload 6, 2), (364, .iload_n 3, 1), (365, .if_icmp .ge 86, 3), (368, .iload_n 2, 1), (369, .iload 6, 2), (371, .iadd, 1), (372, .istore 7, 2), (374, .aload_n 0, 1), (375, .getfield 40, 3), (378, .iload 7, 2), (380, .aload_n 0, 1), (381, .aload_n 0, 1), (382, .getfield 93, 3), (385, .iload 6, 2), (387, .iaload, 1), (388, .aload_n 0, 1), (389, .getfield 96, 3), (392, .iload 6, 2), (394, .iaload, 1), (395, .aload_n 0, 1), (396, .iload 7, 2), (398, .bipush 16, 2), (400, .invokevirtual 293, 3), (403, .invokevirtual 406, 3), (406, .lastore, 1), (407, .aload_n 0, 1), (408, .iload 7, 2), (410, .bipush 8, 2), (412, .iload 5, 2), (414, .invokevirtual 286, 3), (417, .aload_n 0, 1), (418, .iload 7, 2), (420, .bipush 9, 2), (422, .iload 4, 2), (424, .ifCond .eq 7, 3), (427, .iload_n 3, 1), (428, .goto 4, 3), (431, .iconst 0, 1), (432, .invokevirtual 286, 3), (435, .aload_n 0, 1), (436, .iload 7, 2), (438, .bipush 10, 2), (440, .iload 6, 2), (442, .invokevirtual 286, 3), (445, .iinc 6 1, 3), (448, .goto (-86), 3), (451, .aload_n 0, 1), (452, .iload_n 2, 1), (453, .bipush 11, 2), (455, .aload_n 0, 1), (456, .getfield 410, 3), (459, .invokevirtual 286, 3), (462, .aload_n 0, 1), (463, .iload_n 2, 1), (464, .bipush 12, 2), (466, .aload_n 0, 1), (467, .getfield 413, 3), (470, .invokevirtual 286, 3), (473, .aload_n 0, 1), (474, .iload_n 2, 1), (475, .bipush 13, 2), (477, .aload_n 0, 1), (478, .getfield 416, 3), (481, .invokevirtual 286, 3), (484, .aload_n 0, 1), (485, .iconst 0, 1), (486, .putfield 410, 3), (489, .aload_n 0, 1), (490, .iconst 0, 1), (491, .putfield 413, 3), (494, .aload_n 0, 1), (495, .iconst 0, 1), (496, .putfield 416, 3), (499, .aload_n 0, 1), (500, .aload_n 0, 1), (501, .getfield 40, 3), (504, .iload_n 2, 1), (505, .laload, 1), (506, .invokevirtual 419, 3), (509, .aload_n 0, 1), (510, .getfield 90, 3), (513, .aload_n 0, 1), (514, .getfield 290, 3), (517, .iload_n 2, 1), (518, .iastore, 1), (519, .aload_n 0, 1), (520, .iload_n 2, 1), (521, .putfield 423, 3), (524, .aload_n 0, 1), (525, .aload_n 0, 1), (526, .getfield 350, 3), (529, .ifCond .le 12, 3), (532, .aload_n 0, 1), (533, .getfield 350, 3), (536, .iconst 1, 1), (537, .isub, 1), (538, .goto 4, 3), (541, .iconst 0, 1), (542, .putfield 350, 3), (545, .aload_n 0, 1), (546, .iconst 1, 1), (547, .putfield 359, 3), (550, .aload_n 0, 1), (551, .iconst 1, 1), (552, .putfield 362, 3), (555, .return_, 1)]
set_option maxRecDepth 20000 in
theorem il_X12_readTimed_ok : ∀ x ∈ il_X12_readTimed, decode cX12_readTimed x.1 = .ok x.2 := by decide +kernel
abbrev me_X12_readTimed : Me := (RX12, il_X12_readTimed, 8, none, xRoom 6, [])
def w_X12_readTimed_542 (n : Nat) (t0 : Int32) (u0 : Mm) (Q : Mm → Prop) (T : Mm → Prop) : Prop :=
  mlet (setI u0 0 46 t0) fun u1 =>
  mlet (setI u1 0 59 (1 : Int32)) fun u2 =>
  mlet (setI u2 0 60 (1 : Int32)) fun u3 =>
  Q u3
def w_X12_readTimed_432 (n : Nat) (L362 : Int32 → Int32 → Int32 → Int32 → Int32 → Mm → Prop) (x2 : Int32) (x3 : Int32) (x4 : Int32) (x5 : Int32) (x6 : Int32) (x7 : Int32) (t0 : Int32) (t1 : Int32) (t2 : Int32) (u0 : Mm) (Q : Mm → Prop) (T : Mm → Prop) : Prop :=
  w_X12_set n t2 t1 t0 u0 (fun u1 =>
  w_X12_set n x7 (10 : Int32) x6 u1 (fun u2 =>
  L362 x2 x3 x4 x5 (x6 + (1 : Int32)) u2) T) T
def w_X12_readTimed_362 (n : Nat) (Q : Mm → Prop) (T : Mm → Prop) : Nat → Int32 → Int32 → Int32 → Int32 → Int32 → Mm → Prop
  | 0, _, _, _, _, _, _ => False
  | k + 1, x2, x3, x4, x5, x6, u0 =>
  (x3 ≤ x6 → w_X12_set n x2 (11 : Int32) (u0.1 0 42) u0 (fun u1 =>
  w_X12_set n x2 (12 : Int32) (u1.1 0 43) u1 (fun u2 =>
  w_X12_set n x2 (13 : Int32) (u2.1 0 44) u2 (fun u3 =>
  mlet (setI u3 0 42 (0 : Int32)) fun u4 =>
  mlet (setI u4 0 43 (0 : Int32)) fun u5 =>
  mlet (setI u5 0 44 (0 : Int32)) fun u6 =>
  vp_in x2 400 ∧ (w_X12_addTime n (u6.2.1 7 (ix x2)) u6 (fun u7 =>
  vp_in (u7.1 0 28) 3 ∧ (mlet (setI u7 23 (ix (u7.1 0 28)) x2) fun u8 =>
  mlet (setI u8 0 49 x2) fun u9 =>
  ((u9.1 0 46) ≤ 0 → w_X12_readTimed_542 n (0 : Int32) u9 Q T) ∧
  (¬ (u9.1 0 46) ≤ 0 → w_X12_readTimed_542 n ((u9.1 0 46) - (1 : Int32)) u9 Q T))) T)) T) T) T) ∧
  (¬ x3 ≤ x6 → ilet (x2 + x6) fun y1 =>
  vp_in x6 12 ∧ (vp_in x6 12 ∧ (w_X12_get n y1 (16 : Int32) u0 (fun r1 u10 =>
  w_X12_timeOf n (u0.1 24 (ix x6)) (u0.1 25 (ix x6)) r1 u10 (fun r2 u11 =>
  vp_in y1 400 ∧ (mlet (setJ u11 7 (ix y1) r2) fun u12 =>
  w_X12_set n y1 (8 : Int32) x5 u12 (fun u13 =>
  (x4 = 0 → w_X12_readTimed_432 n (w_X12_readTimed_362 n Q T k) x2 x3 x4 x5 x6 y1 (0 : Int32) (9 : Int32) y1 u13 Q T) ∧
  (¬ x4 = 0 → w_X12_readTimed_432 n (w_X12_readTimed_362 n Q T k) x2 x3 x4 x5 x6 y1 x3 (9 : Int32) y1 u13 Q T)) T)) T) T)))
def w_X12_readTimed_346 (n : Nat) (x2 : Int32) (x3 : Int32) (x4 : Int32) (t0 : Int32) (u0 : Mm) (Q : Mm → Prop) (T : Mm → Prop) : Prop :=
  mlet (setI u0 0 7 ((u0.1 0 7) + t0)) fun u1 =>
  (w_X12_readTimed_362 n Q T n) x2 x3 x4 t0 (0 : Int32) u1
def w_X12_readTimed_345 (n : Nat) (x2 : Int32) (x3 : Int32) (x4 : Int32) (u0 : Mm) (Q : Mm → Prop) (T : Mm → Prop) : Prop :=
  w_X12_readTimed_346 n x2 x3 x4 (0 : Int32) u0 Q T
def w_X12_readTimed_325 (n : Nat) (x2 : Int32) (x3 : Int32) (t0 : Int32) (u0 : Mm) (Q : Mm → Prop) (T : Mm → Prop) : Prop :=
  (t0 = 0 → w_X12_readTimed_345 n x2 x3 t0 u0 Q T) ∧
  (¬ t0 = 0 → w_X12_is n (45 : Int32) u0 (fun r1 u1 =>
  (r1 = 0 → w_X12_readTimed_345 n x2 x3 t0 u1 Q T) ∧
  (¬ r1 = 0 → w_X12_readTimed_346 n x2 x3 t0 (1 : Int32) u1 Q T)) T)
def w_X12_readTimed_311 (n : Nat) (x2 : Int32) (x3 : Int32) (u0 : Mm) (Q : Mm → Prop) (T : Mm → Prop) : Prop :=
  w_X12_get n x2 (0 : Int32) u0 (fun r1 u1 =>
  (¬ r1 = 0 → w_X12_readTimed_325 n x2 x3 (0 : Int32) u1 Q T) ∧
  (r1 = 0 → w_X12_readTimed_325 n x2 x3 (1 : Int32) u1 Q T)) T
def w_X12_readTimed_229 (n : Nat) (x1 : Int32) (x2 : Int32) (x3 : Int32) (t0 : Int32) (u0 : Mm) (Q : Mm → Prop) (T : Mm → Prop) : Prop :=
  w_X12_newThing n t0 x1 u0 (fun r1 u1 =>
  mlet (setI u1 0 7 ((u1.1 0 7) + (1 : Int32))) fun u2 =>
  w_X12_readLength n u2 (fun u3 =>
  mlet (setI u3 24 (ix (0 : Int32)) (u3.1 0 52)) fun u4 =>
  mlet (setI u4 25 (ix (0 : Int32)) (u4.1 0 53)) fun u5 =>
  w_X12_readTimed_311 n x2 x3 u5 Q T) T) T
def w_X12_readTimed_214 (n : Nat) (x1 : Int32) (x2 : Int32) (x3 : Int32) (u0 : Mm) (Q : Mm → Prop) (T : Mm → Prop) : Prop :=
  w_X12_is n (122 : Int32) u0 (fun r1 u1 =>
  (r1 = 0 → w_X12_readTimed_229 n x1 x2 x3 (2 : Int32) u1 Q T) ∧
  (¬ r1 = 0 → w_X12_readTimed_229 n x1 x2 x3 (1 : Int32) u1 Q T)) T
def w_X12_readTimed_147 (n : Nat) (Q : Mm → Prop) (T : Mm → Prop) : Nat → Int32 → Int32 → Int32 → Int32 → Int32 → Mm → Prop
  | 0, _, _, _, _, _, _ => False
  | k + 1, x2, x3, x4, x5, x6, u0 =>
  (x3 ≤ x6 → w_X12_readTimed_311 n x2 x3 u0 Q T) ∧
  (¬ x3 ≤ x6 → vp_in x6 12 ∧ (vp_in x6 12 ∧ (mlet (setI u0 24 (ix x6) ((u0.1 24 (ix x6)) * x4)) fun u1 =>
  vp_in x6 12 ∧ (vp_in x6 12 ∧ (mlet (setI u1 25 (ix x6) ((u1.1 25 (ix x6)) * x5)) fun u2 =>
  (w_X12_readTimed_147 n Q T k) x2 x3 x4 x5 (x6 + (1 : Int32)) u2)))))
def w_X12_readTimed_73 (n : Nat) (L38 : Int32 → Int32 → Mm → Prop) (x2 : Int32) (x3 : Int32) (u0 : Mm) (Q : Mm → Prop) (T : Mm → Prop) : Prop :=
  w_X12_readNote n u0 (fun u1 =>
  w_X12_addNote n (0 : Int32) u1 (fun r1 u2 =>
  w_X12_rememberSign n u2 (fun u3 =>
  w_X12_readLength n u3 (fun u4 =>
  vp_in x3 12 ∧ (mlet (setI u4 24 (ix x3) (u4.1 0 52)) fun u5 =>
  vp_in x3 12 ∧ (mlet (setI u5 25 (ix x3) (u5.1 0 53)) fun u6 =>
  L38 x2 (x3 + (1 : Int32)) u6))) T) T) T) T
def w_X12_readTimed_51 (n : Nat) (L38 : Int32 → Int32 → Mm → Prop) (x2 : Int32) (x3 : Int32) (u0 : Mm) (Q : Mm → Prop) (T : Mm → Prop) : Prop :=
  (¬ x3 = (12 : Int32) → w_X12_readTimed_73 n L38 x2 x3 u0 Q T) ∧
  (x3 = (12 : Int32) → w_X12_beginsNote n u0 (fun r1 u1 =>
  (r1 = 0 → w_X12_readTimed_73 n L38 x2 x3 u1 Q T) ∧
  (¬ r1 = 0 → w_X12_fail n (2 : Int32) (u1.1 0 7) u1 (fun u2 =>
  w_X12_readTimed_73 n L38 x2 x3 u2 Q T) T)) T)
def w_X12_readTimed_38 (n : Nat) (Q : Mm → Prop) (T : Mm → Prop) : Nat → Int32 → Int32 → Mm → Prop
  | 0, _, _, _ => False
  | k + 1, x2, x3, u0 =>
  w_X12_is n (93 : Int32) u0 (fun r1 u1 =>
  (r1 = 0 → w_X12_readTimed_51 n (w_X12_readTimed_38 n Q T k) x2 x3 u1 Q T) ∧
  (¬ r1 = 0 → (¬ x3 = 0 → mlet (setI u1 0 7 ((u1.1 0 7) + (1 : Int32))) fun u2 =>
  w_X12_readLength n u2 (fun u3 =>
  ilet (u3.1 0 52) fun y1 =>
  ilet (u3.1 0 53) fun y2 =>
  (w_X12_readTimed_147 n Q T n) x2 x3 y1 y2 (0 : Int32) u3) T) ∧
  (x3 = 0 → w_X12_readTimed_51 n (w_X12_readTimed_38 n Q T k) x2 x3 u1 Q T))) T
def w_X12_readTimed (n : Nat) (u0 : Mm) (Q : Mm → Prop) (T : Mm → Prop) : Prop :=
  ilet (u0.1 0 7) fun y1 =>
  ilet (u0.1 0 27) fun y2 =>
  w_X12_beginMeasure n y1 u0 (fun u1 =>
  w_X12_is n (91 : Int32) u1 (fun r1 u2 =>
  (r1 = 0 → w_X12_is n (122 : Int32) u2 (fun r2 u3 =>
  (¬ r2 = 0 → w_X12_readTimed_214 n y1 y2 (1 : Int32) u3 Q T) ∧
  (r2 = 0 → w_X12_is n (120 : Int32) u3 (fun r3 u4 =>
  (r3 = 0 → w_X12_readNote n u4 (fun u5 =>
  w_X12_addNote n (0 : Int32) u5 (fun r4 u6 =>
  w_X12_rememberSign n u6 (fun u7 =>
  w_X12_readLength n u7 (fun u8 =>
  mlet (setI u8 24 (ix (0 : Int32)) (u8.1 0 52)) fun u9 =>
  mlet (setI u9 25 (ix (0 : Int32)) (u9.1 0 53)) fun u10 =>
  w_X12_readTimed_311 n y2 (1 : Int32) u10 Q T) T) T) T) T) ∧
  (¬ r3 = 0 → w_X12_readTimed_214 n y1 y2 (1 : Int32) u4 Q T)) T)) T) ∧
  (¬ r1 = 0 → mlet (setI u2 0 7 ((u2.1 0 7) + (1 : Int32))) fun u11 =>
  (w_X12_readTimed_38 n Q T n) y2 (0 : Int32) u11)) T) T
set_option maxRecDepth 20000 in
theorem s_X12_readTimed_542 {g : Gb} (hg : xInj g) {n : Nat} {Q : Mm → Prop} {T : Mm → Prop} {t0 : Int32} {u0 : Mm} (h : w_X12_readTimed_542 n t0 u0 Q T) : xE g me_X12_readTimed (pV g Q T) 542 [(0, .ref (gR g 0))] [.int t0, .ref (gR g 0)] u0 := by
  unfold w_X12_readTimed_542 at h
  refine e_putI (k := 293) rfl fg_X12_350 rfl rfl ?_
  refine e_mlet h (fun u1 h => ?_)
  refine e_aload_n (k := 294) (i := 0) rfl rfl 0 rfl ?_
  refine e_iconst (k := 295) (v := (1 : Int32)) rfl (by decide) ?_
  refine e_putI (k := 296) rfl fg_X12_359 rfl rfl ?_
  refine e_mlet h (fun u2 h => ?_)
  refine e_aload_n (k := 297) (i := 0) rfl rfl 0 rfl ?_
  refine e_iconst (k := 298) (v := (1 : Int32)) rfl (by decide) ?_
  refine e_putI (k := 299) rfl fg_X12_362 rfl rfl ?_
  refine e_mlet h (fun u3 h => ?_)
  exact e_vret (k := 300) rfl rfl (Or.inl ⟨rfl, h⟩)
set_option maxRecDepth 20000 in
theorem s_X12_readTimed_432 {g : Gb} (hg : xInj g) {n : Nat} {Q : Mm → Prop} {T : Mm → Prop} {L362 : Int32 → Int32 → Int32 → Int32 → Int32 → Mm → Prop} (hL362 : ∀ (x2 : Int32) (x3 : Int32) (x4 : Int32) (x5 : Int32) (x6 : Int32) (u0 : Mm), L362 x2 x3 x4 x5 x6 u0 → xE g me_X12_readTimed (pV g Q T) 362 [(0, .ref (gR g 0)), (2, .int x2), (3, .int x3), (4, .int x4), (5, .int x5), (6, .int x6)] [] u0) {x2 : Int32} {x3 : Int32} {x4 : Int32} {x5 : Int32} {x6 : Int32} {x7 : Int32} {t0 : Int32} {t1 : Int32} {t2 : Int32} {u0 : Mm} (h : w_X12_readTimed_432 n L362 x2 x3 x4 x5 x6 x7 t0 t1 t2 u0 Q T) : xE g me_X12_readTimed (pV g Q T) 432 [(0, .ref (gR g 0)), (2, .int x2), (3, .int x3), (4, .int x4), (5, .int x5), (6, .int x6), (7, .int x7)] [.int t0, .int t1, .int t2, .ref (gR g 0)] u0 := by
  unfold w_X12_readTimed_432 at h
  refine e_callVv (k := 233) (q := 0) (As := [.int t2, .int t1, .int t0]) (rest := []) rfl (c_X12_set (g := g) hg (n := n) h) m_X12_set i_X12_set l_X12_286 rfl ⟨_, rfl, rfl⟩ rfl rfl (Nat.le_of_ble_eq_true rfl) ⟨by decide, by decide, rfl, rfl⟩ (fun _ h => ⟨fun _ z => (by cases z), Or.inr ⟨rfl, h⟩⟩) (fun u1 h => ?_)
  refine e_aload_n (k := 234) (i := 0) rfl rfl 0 rfl ?_
  refine e_iload (k := 235) (i := 7) rfl 6 rfl ?_
  refine e_bipush (k := 236) (v := (10 : Int32)) rfl (by decide) ?_
  refine e_iload (k := 237) (i := 6) rfl 5 rfl ?_
  refine e_callVv (k := 238) (q := 0) (As := [.int x7, .int (10 : Int32), .int x6]) (rest := []) rfl (c_X12_set (g := g) hg (n := n) h) m_X12_set i_X12_set l_X12_286 rfl ⟨_, rfl, rfl⟩ rfl rfl (Nat.le_of_ble_eq_true rfl) ⟨by decide, by decide, rfl, rfl⟩ (fun _ h => ⟨fun _ z => (by cases z), Or.inr ⟨rfl, h⟩⟩) (fun u2 h => ?_)
  refine e_iinc (k := 239) (i := 6) (j := 5) (v := (x6 + (1 : Int32))) (lv' := [(0, .ref (gR g 0)), (2, .int x2), (3, .int x3), (4, .int x4), (5, .int x5), (6, .int (x6 + (1 : Int32))), (7, .int x7)]) rfl rfl rfl (by decide) [1, 2, 3, 4, 5, 0, 6] rfl ?_
  refine e_goto (k := 240) (tgt := 362) rfl (by decide) ?_
  refine e_sub (lv' := [(0, .ref (gR g 0)), (2, .int x2), (3, .int x3), (4, .int x4), (5, .int x5), (6, .int (x6 + (1 : Int32)))]) [0, 1, 2, 3, 4, 5] rfl ?_
  exact hL362 x2 x3 x4 x5 (x6 + (1 : Int32)) u2 h
set_option maxRecDepth 20000 in
theorem s_X12_readTimed_362 {g : Gb} (hg : xInj g) {n : Nat} {Q : Mm → Prop} {T : Mm → Prop} : ∀ (k : Nat) (x2 : Int32) (x3 : Int32) (x4 : Int32) (x5 : Int32) (x6 : Int32) (u0 : Mm), w_X12_readTimed_362 n Q T k x2 x3 x4 x5 x6 u0 → xE g me_X12_readTimed (pV g Q T) 362 [(0, .ref (gR g 0)), (2, .int x2), (3, .int x3), (4, .int x4), (5, .int x5), (6, .int x6)] [] u0 := by
  intro k
  induction k with
  | zero => intro x2 x3 x4 x5 x6 u0 h; exact h.elim
  | succ k ih =>
    intro x2 x3 x4 x5 x6 u0 h
    unfold w_X12_readTimed_362 at h
    refine e_iload (k := 195) (i := 6) rfl 5 rfl ?_
    refine e_iload_n (k := 196) (i := 3) rfl rfl 2 rfl ?_
    refine e_icmp_ge (k := 197) (tgt := 451) rfl (by decide) (fun z => ?_) (fun z => ?_)
    · have h := h.1 z
      refine e_aload_n (k := 241) (i := 0) rfl rfl 0 rfl ?_
      refine e_iload_n (k := 242) (i := 2) rfl rfl 1 rfl ?_
      refine e_bipush (k := 243) (v := (11 : Int32)) rfl (by decide) ?_
      refine e_aload_n (k := 244) (i := 0) rfl rfl 0 rfl ?_
      refine e_getI (k := 245) rfl f_X12_410 rfl rfl ?_
      refine e_callVv (k := 246) (q := 0) (As := [.int x2, .int (11 : Int32), .int (u0.1 0 42)]) (rest := []) rfl (c_X12_set (g := g) hg (n := n) h) m_X12_set i_X12_set l_X12_286 rfl ⟨_, rfl, rfl⟩ rfl rfl (Nat.le_of_ble_eq_true rfl) ⟨by decide, by decide, rfl, rfl⟩ (fun _ h => ⟨fun _ z => (by cases z), Or.inr ⟨rfl, h⟩⟩) (fun u1 h => ?_)
      refine e_aload_n (k := 247) (i := 0) rfl rfl 0 rfl ?_
      refine e_iload_n (k := 248) (i := 2) rfl rfl 1 rfl ?_
      refine e_bipush (k := 249) (v := (12 : Int32)) rfl (by decide) ?_
      refine e_aload_n (k := 250) (i := 0) rfl rfl 0 rfl ?_
      refine e_getI (k := 251) rfl f_X12_413 rfl rfl ?_
      refine e_callVv (k := 252) (q := 0) (As := [.int x2, .int (12 : Int32), .int (u1.1 0 43)]) (rest := []) rfl (c_X12_set (g := g) hg (n := n) h) m_X12_set i_X12_set l_X12_286 rfl ⟨_, rfl, rfl⟩ rfl rfl (Nat.le_of_ble_eq_true rfl) ⟨by decide, by decide, rfl, rfl⟩ (fun _ h => ⟨fun _ z => (by cases z), Or.inr ⟨rfl, h⟩⟩) (fun u2 h => ?_)
      refine e_aload_n (k := 253) (i := 0) rfl rfl 0 rfl ?_
      refine e_iload_n (k := 254) (i := 2) rfl rfl 1 rfl ?_
      refine e_bipush (k := 255) (v := (13 : Int32)) rfl (by decide) ?_
      refine e_aload_n (k := 256) (i := 0) rfl rfl 0 rfl ?_
      refine e_getI (k := 257) rfl f_X12_416 rfl rfl ?_
      refine e_callVv (k := 258) (q := 0) (As := [.int x2, .int (13 : Int32), .int (u2.1 0 44)]) (rest := []) rfl (c_X12_set (g := g) hg (n := n) h) m_X12_set i_X12_set l_X12_286 rfl ⟨_, rfl, rfl⟩ rfl rfl (Nat.le_of_ble_eq_true rfl) ⟨by decide, by decide, rfl, rfl⟩ (fun _ h => ⟨fun _ z => (by cases z), Or.inr ⟨rfl, h⟩⟩) (fun u3 h => ?_)
      refine e_aload_n (k := 259) (i := 0) rfl rfl 0 rfl ?_
      refine e_iconst (k := 260) (v := (0 : Int32)) rfl (by decide) ?_
      refine e_putI (k := 261) rfl fg_X12_410 rfl rfl ?_
      refine e_mlet h (fun u4 h => ?_)
      refine e_aload_n (k := 262) (i := 0) rfl rfl 0 rfl ?_
      refine e_iconst (k := 263) (v := (0 : Int32)) rfl (by decide) ?_
      refine e_putI (k := 264) rfl fg_X12_413 rfl rfl ?_
      refine e_mlet h (fun u5 h => ?_)
      refine e_aload_n (k := 265) (i := 0) rfl rfl 0 rfl ?_
      refine e_iconst (k := 266) (v := (0 : Int32)) rfl (by decide) ?_
      refine e_putI (k := 267) rfl fg_X12_416 rfl rfl ?_
      refine e_mlet h (fun u6 h => ?_)
      refine e_aload_n (k := 268) (i := 0) rfl rfl 0 rfl ?_
      refine e_aload_n (k := 269) (i := 0) rfl rfl 0 rfl ?_
      refine e_getC (k := 270) rfl f_X12_40 rfl rfl ?_
      refine e_iload_n (k := 271) (i := 2) rfl rfl 1 rfl ?_
      refine e_lald (k := 272) rfl rfl h.1 ?_
      have h := h.2
      refine e_callVv (k := 273) (q := 0) (As := [.long (u6.2.1 7 (ix x2))]) (rest := []) rfl (c_X12_addTime (g := g) hg (n := n) h) m_X12_addTime i_X12_addTime l_X12_419 rfl ⟨_, rfl, rfl⟩ rfl rfl (Nat.le_of_ble_eq_true rfl) ⟨by decide, by decide, rfl, rfl⟩ (fun _ h => ⟨fun _ z => (by cases z), Or.inr ⟨rfl, h⟩⟩) (fun u7 h => ?_)
      refine e_aload_n (k := 274) (i := 0) rfl rfl 0 rfl ?_
      refine e_getC (k := 275) rfl f_X12_90 rfl rfl ?_
      refine e_aload_n (k := 276) (i := 0) rfl rfl 0 rfl ?_
      refine e_getI (k := 277) rfl f_X12_290 rfl rfl ?_
      refine e_iload_n (k := 278) (i := 2) rfl rfl 1 rfl ?_
      refine e_iast (k := 279) rfl rfl h.1 ?_
      have h := h.2
      refine e_mlet h (fun u8 h => ?_)
      refine e_aload_n (k := 280) (i := 0) rfl rfl 0 rfl ?_
      refine e_iload_n (k := 281) (i := 2) rfl rfl 1 rfl ?_
      refine e_putI (k := 282) rfl fg_X12_423 rfl rfl ?_
      refine e_mlet h (fun u9 h => ?_)
      refine e_aload_n (k := 283) (i := 0) rfl rfl 0 rfl ?_
      refine e_aload_n (k := 284) (i := 0) rfl rfl 0 rfl ?_
      refine e_getI (k := 285) rfl f_X12_350 rfl rfl ?_
      refine e_if_le (k := 286) (tgt := 541) rfl (by decide) (fun z => ?_) (fun z => ?_)
      · have h := h.1 z
        refine e_iconst (k := 292) (v := (0 : Int32)) rfl (by decide) ?_
        refine e_sub (lv' := [(0, .ref (gR g 0))]) [0] rfl ?_
        exact s_X12_readTimed_542 hg h
      · have h := h.2 z
        refine e_aload_n (k := 287) (i := 0) rfl rfl 0 rfl ?_
        refine e_getI (k := 288) rfl f_X12_350 rfl rfl ?_
        refine e_iconst (k := 289) (v := (1 : Int32)) rfl (by decide) ?_
        refine e_isub (k := 290) rfl ?_
        refine e_goto (k := 291) (tgt := 542) rfl (by decide) ?_
        refine e_sub (lv' := [(0, .ref (gR g 0))]) [0] rfl ?_
        exact s_X12_readTimed_542 hg h
    · have h := h.2 z
      refine e_iload_n (k := 198) (i := 2) rfl rfl 1 rfl ?_
      refine e_iload (k := 199) (i := 6) rfl 5 rfl ?_
      refine e_iadd (k := 200) rfl ?_
      refine e_ilet h (fun y1 h => ?_)
      refine e_istore (k := 201) (i := 7) (lv' := [(0, .ref (gR g 0)), (2, .int x2), (3, .int x3), (4, .int x4), (5, .int x5), (6, .int x6), (7, .int y1)]) rfl (by decide) [1, 2, 3, 4, 5, 6, 0] rfl ?_
      refine e_aload_n (k := 202) (i := 0) rfl rfl 0 rfl ?_
      refine e_getC (k := 203) rfl f_X12_40 rfl rfl ?_
      refine e_iload (k := 204) (i := 7) rfl 6 rfl ?_
      refine e_aload_n (k := 205) (i := 0) rfl rfl 0 rfl ?_
      refine e_aload_n (k := 206) (i := 0) rfl rfl 0 rfl ?_
      refine e_getC (k := 207) rfl f_X12_93 rfl rfl ?_
      refine e_iload (k := 208) (i := 6) rfl 5 rfl ?_
      refine e_iald (k := 209) rfl rfl h.1 ?_
      have h := h.2
      refine e_aload_n (k := 210) (i := 0) rfl rfl 0 rfl ?_
      refine e_getC (k := 211) rfl f_X12_96 rfl rfl ?_
      refine e_iload (k := 212) (i := 6) rfl 5 rfl ?_
      refine e_iald (k := 213) rfl rfl h.1 ?_
      have h := h.2
      refine e_aload_n (k := 214) (i := 0) rfl rfl 0 rfl ?_
      refine e_iload (k := 215) (i := 7) rfl 6 rfl ?_
      refine e_bipush (k := 216) (v := (16 : Int32)) rfl (by decide) ?_
      refine e_callVi (k := 217) (q := 0) (As := [.int y1, .int (16 : Int32)]) (rest := [.int (u0.1 25 (ix x6)), .int (u0.1 24 (ix x6)), .ref (gR g 0), .int y1, .ref (gR g 7)]) rfl (c_X12_get (g := g) hg (n := n) h) m_X12_get i_X12_get l_X12_293 rfl ⟨_, rfl, rfl⟩ rfl rfl (Nat.le_of_ble_eq_true rfl) ⟨by decide, by decide, rfl, rfl⟩ (fun _ h => ⟨fun _ z => (by cases z), Or.inr ⟨rfl, h⟩⟩) (fun r1 u10 h => ?_)
      refine e_callVl (k := 218) (q := 0) (As := [.int (u0.1 24 (ix x6)), .int (u0.1 25 (ix x6)), .int r1]) (rest := [.int y1, .ref (gR g 7)]) rfl (c_X12_timeOf (g := g) hg (n := n) h) m_X12_timeOf i_X12_timeOf l_X12_406 rfl ⟨_, rfl, rfl⟩ rfl rfl (Nat.le_of_ble_eq_true rfl) ⟨by decide, by decide, rfl, rfl⟩ (fun _ h => ⟨fun _ z => (by cases z), Or.inr ⟨rfl, h⟩⟩) (fun r2 u11 h => ?_)
      refine e_last (k := 219) rfl rfl h.1 ?_
      have h := h.2
      refine e_mlet h (fun u12 h => ?_)
      refine e_aload_n (k := 220) (i := 0) rfl rfl 0 rfl ?_
      refine e_iload (k := 221) (i := 7) rfl 6 rfl ?_
      refine e_bipush (k := 222) (v := (8 : Int32)) rfl (by decide) ?_
      refine e_iload (k := 223) (i := 5) rfl 4 rfl ?_
      refine e_callVv (k := 224) (q := 0) (As := [.int y1, .int (8 : Int32), .int x5]) (rest := []) rfl (c_X12_set (g := g) hg (n := n) h) m_X12_set i_X12_set l_X12_286 rfl ⟨_, rfl, rfl⟩ rfl rfl (Nat.le_of_ble_eq_true rfl) ⟨by decide, by decide, rfl, rfl⟩ (fun _ h => ⟨fun _ z => (by cases z), Or.inr ⟨rfl, h⟩⟩) (fun u13 h => ?_)
      refine e_aload_n (k := 225) (i := 0) rfl rfl 0 rfl ?_
      refine e_iload (k := 226) (i := 7) rfl 6 rfl ?_
      refine e_bipush (k := 227) (v := (9 : Int32)) rfl (by decide) ?_
      refine e_iload (k := 228) (i := 4) rfl 3 rfl ?_
      refine e_if_eq (k := 229) (tgt := 431) rfl (by decide) (fun z => ?_) (fun z => ?_)
      · have h := h.1 z
        refine e_iconst (k := 232) (v := (0 : Int32)) rfl (by decide) ?_
        exact s_X12_readTimed_432 hg ih h
      · have h := h.2 z
        refine e_iload_n (k := 230) (i := 3) rfl rfl 2 rfl ?_
        refine e_goto (k := 231) (tgt := 432) rfl (by decide) ?_
        exact s_X12_readTimed_432 hg ih h
set_option maxRecDepth 20000 in
theorem s_X12_readTimed_346 {g : Gb} (hg : xInj g) {n : Nat} {Q : Mm → Prop} {T : Mm → Prop} {x2 : Int32} {x3 : Int32} {x4 : Int32} {t0 : Int32} {u0 : Mm} (h : w_X12_readTimed_346 n x2 x3 x4 t0 u0 Q T) : xE g me_X12_readTimed (pV g Q T) 346 [(0, .ref (gR g 0)), (2, .int x2), (3, .int x3), (4, .int x4)] [.int t0] u0 := by
  unfold w_X12_readTimed_346 at h
  refine e_istore (k := 186) (i := 5) (lv' := [(0, .ref (gR g 0)), (2, .int x2), (3, .int x3), (4, .int x4), (5, .int t0)]) rfl (by decide) [1, 2, 3, 4, 0] rfl ?_
  refine e_aload_n (k := 187) (i := 0) rfl rfl 0 rfl ?_
  refine e_aload_n (k := 188) (i := 0) rfl rfl 0 rfl ?_
  refine e_getI (k := 189) rfl f_X12_138 rfl rfl ?_
  refine e_iload (k := 190) (i := 5) rfl 4 rfl ?_
  refine e_iadd (k := 191) rfl ?_
  refine e_putI (k := 192) rfl fg_X12_138 rfl rfl ?_
  refine e_mlet h (fun u1 h => ?_)
  refine e_iconst (k := 193) (v := (0 : Int32)) rfl (by decide) ?_
  refine e_istore (k := 194) (i := 6) (lv' := [(0, .ref (gR g 0)), (2, .int x2), (3, .int x3), (4, .int x4), (5, .int t0), (6, .int (0 : Int32))]) rfl (by decide) [1, 2, 3, 4, 5, 0] rfl ?_
  exact s_X12_readTimed_362 hg n x2 x3 x4 t0 (0 : Int32) u1 h
set_option maxRecDepth 20000 in
theorem s_X12_readTimed_345 {g : Gb} (hg : xInj g) {n : Nat} {Q : Mm → Prop} {T : Mm → Prop} {x2 : Int32} {x3 : Int32} {x4 : Int32} {u0 : Mm} (h : w_X12_readTimed_345 n x2 x3 x4 u0 Q T) : xE g me_X12_readTimed (pV g Q T) 345 [(0, .ref (gR g 0)), (2, .int x2), (3, .int x3), (4, .int x4)] [] u0 := by
  unfold w_X12_readTimed_345 at h
  refine e_iconst (k := 185) (v := (0 : Int32)) rfl (by decide) ?_
  exact s_X12_readTimed_346 hg h
set_option maxRecDepth 20000 in
theorem s_X12_readTimed_325 {g : Gb} (hg : xInj g) {n : Nat} {Q : Mm → Prop} {T : Mm → Prop} {x2 : Int32} {x3 : Int32} {t0 : Int32} {u0 : Mm} (h : w_X12_readTimed_325 n x2 x3 t0 u0 Q T) : xE g me_X12_readTimed (pV g Q T) 325 [(0, .ref (gR g 0)), (2, .int x2), (3, .int x3)] [.int t0] u0 := by
  unfold w_X12_readTimed_325 at h
  refine e_istore (k := 176) (i := 4) (lv' := [(0, .ref (gR g 0)), (2, .int x2), (3, .int x3), (4, .int t0)]) rfl (by decide) [1, 2, 3, 0] rfl ?_
  refine e_iload (k := 177) (i := 4) rfl 3 rfl ?_
  refine e_if_eq (k := 178) (tgt := 345) rfl (by decide) (fun z => ?_) (fun z => ?_)
  · have h := h.1 z
    exact s_X12_readTimed_345 hg h
  · have h := h.2 z
    refine e_aload_n (k := 179) (i := 0) rfl rfl 0 rfl ?_
    refine e_bipush (k := 180) (v := (45 : Int32)) rfl (by decide) ?_
    refine e_callVi (k := 181) (q := 0) (As := [.int (45 : Int32)]) (rest := []) rfl (c_X12_is (g := g) hg (n := n) h) m_X12_is i_X12_is l_X12_166 rfl ⟨_, rfl, rfl⟩ rfl rfl (Nat.le_of_ble_eq_true rfl) ⟨by decide, by decide, rfl, rfl⟩ (fun _ h => ⟨fun _ z => (by cases z), Or.inr ⟨rfl, h⟩⟩) (fun r1 u1 h => ?_)
    refine e_if_eq (k := 182) (tgt := 345) rfl (by decide) (fun z => ?_) (fun z => ?_)
    · have h := h.1 z
      exact s_X12_readTimed_345 hg h
    · have h := h.2 z
      refine e_iconst (k := 183) (v := (1 : Int32)) rfl (by decide) ?_
      refine e_goto (k := 184) (tgt := 346) rfl (by decide) ?_
      exact s_X12_readTimed_346 hg h
set_option maxRecDepth 20000 in
theorem s_X12_readTimed_311 {g : Gb} (hg : xInj g) {n : Nat} {Q : Mm → Prop} {T : Mm → Prop} {x2 : Int32} {x3 : Int32} {u0 : Mm} (h : w_X12_readTimed_311 n x2 x3 u0 Q T) : xE g me_X12_readTimed (pV g Q T) 311 [(0, .ref (gR g 0)), (2, .int x2), (3, .int x3)] [] u0 := by
  unfold w_X12_readTimed_311 at h
  refine e_aload_n (k := 168) (i := 0) rfl rfl 0 rfl ?_
  refine e_iload_n (k := 169) (i := 2) rfl rfl 1 rfl ?_
  refine e_iconst (k := 170) (v := (0 : Int32)) rfl (by decide) ?_
  refine e_callVi (k := 171) (q := 0) (As := [.int x2, .int (0 : Int32)]) (rest := []) rfl (c_X12_get (g := g) hg (n := n) h) m_X12_get i_X12_get l_X12_293 rfl ⟨_, rfl, rfl⟩ rfl rfl (Nat.le_of_ble_eq_true rfl) ⟨by decide, by decide, rfl, rfl⟩ (fun _ h => ⟨fun _ z => (by cases z), Or.inr ⟨rfl, h⟩⟩) (fun r1 u1 h => ?_)
  refine e_if_ne (k := 172) (tgt := 324) rfl (by decide) (fun z => ?_) (fun z => ?_)
  · have h := h.1 z
    refine e_iconst (k := 175) (v := (0 : Int32)) rfl (by decide) ?_
    exact s_X12_readTimed_325 hg h
  · have h := h.2 z
    refine e_iconst (k := 173) (v := (1 : Int32)) rfl (by decide) ?_
    refine e_goto (k := 174) (tgt := 325) rfl (by decide) ?_
    exact s_X12_readTimed_325 hg h
set_option maxRecDepth 20000 in
theorem s_X12_readTimed_229 {g : Gb} (hg : xInj g) {n : Nat} {Q : Mm → Prop} {T : Mm → Prop} {x1 : Int32} {x2 : Int32} {x3 : Int32} {t0 : Int32} {u0 : Mm} (h : w_X12_readTimed_229 n x1 x2 x3 t0 u0 Q T) : xE g me_X12_readTimed (pV g Q T) 229 [(0, .ref (gR g 0)), (1, .int x1), (2, .int x2), (3, .int x3)] [.int t0, .ref (gR g 0)] u0 := by
  unfold w_X12_readTimed_229 at h
  refine e_iload_n (k := 122) (i := 1) rfl rfl 1 rfl ?_
  refine e_callVi (k := 123) (q := 0) (As := [.int t0, .int x1]) (rest := []) rfl (c_X12_newThing (g := g) hg (n := n) h) m_X12_newThing i_X12_newThing l_X12_333 rfl ⟨_, rfl, rfl⟩ rfl rfl (Nat.le_of_ble_eq_true rfl) ⟨by decide, by decide, rfl, rfl⟩ (fun _ h => ⟨fun _ z => (by cases z), Or.inr ⟨rfl, h⟩⟩) (fun r1 u1 h => ?_)
  refine e_istore (k := 124) (i := 4) (lv' := [(0, .ref (gR g 0)), (1, .int x1), (2, .int x2), (3, .int x3), (4, .int r1)]) rfl (by decide) [1, 2, 3, 4, 0] rfl ?_
  refine e_aload_n (k := 125) (i := 0) rfl rfl 0 rfl ?_
  refine e_dup (k := 126) rfl rfl ?_
  refine e_getI (k := 127) rfl f_X12_138 rfl rfl ?_
  refine e_iconst (k := 128) (v := (1 : Int32)) rfl (by decide) ?_
  refine e_iadd (k := 129) rfl ?_
  refine e_putI (k := 130) rfl fg_X12_138 rfl rfl ?_
  refine e_mlet h (fun u2 h => ?_)
  refine e_aload_n (k := 131) (i := 0) rfl rfl 0 rfl ?_
  refine e_callVv (k := 132) (q := 0) (As := []) (rest := []) rfl (c_X12_readLength (g := g) hg (n := n) h) m_X12_readLength i_X12_readLength l_X12_403 rfl ⟨_, rfl, rfl⟩ rfl rfl (Nat.le_of_ble_eq_true rfl) ⟨by decide, by decide, rfl, rfl⟩ (fun _ h => ⟨fun _ z => (by cases z), Or.inr ⟨rfl, h⟩⟩) (fun u3 h => ?_)
  refine e_aload_n (k := 133) (i := 0) rfl rfl 0 rfl ?_
  refine e_getC (k := 134) rfl f_X12_93 rfl rfl ?_
  refine e_iconst (k := 135) (v := (0 : Int32)) rfl (by decide) ?_
  refine e_aload_n (k := 136) (i := 0) rfl rfl 0 rfl ?_
  refine e_getI (k := 137) rfl f_X12_303 rfl rfl ?_
  refine e_iast (k := 138) rfl rfl (by unfold vp_in; decide) ?_
  refine e_mlet h (fun u4 h => ?_)
  refine e_aload_n (k := 139) (i := 0) rfl rfl 0 rfl ?_
  refine e_getC (k := 140) rfl f_X12_96 rfl rfl ?_
  refine e_iconst (k := 141) (v := (0 : Int32)) rfl (by decide) ?_
  refine e_aload_n (k := 142) (i := 0) rfl rfl 0 rfl ?_
  refine e_getI (k := 143) rfl f_X12_306 rfl rfl ?_
  refine e_iast (k := 144) rfl rfl (by unfold vp_in; decide) ?_
  refine e_mlet h (fun u5 h => ?_)
  refine e_goto (k := 145) (tgt := 311) rfl (by decide) ?_
  refine e_sub (lv' := [(0, .ref (gR g 0)), (2, .int x2), (3, .int x3)]) [0, 2, 3] rfl ?_
  exact s_X12_readTimed_311 hg h
set_option maxRecDepth 20000 in
theorem s_X12_readTimed_214 {g : Gb} (hg : xInj g) {n : Nat} {Q : Mm → Prop} {T : Mm → Prop} {x1 : Int32} {x2 : Int32} {x3 : Int32} {u0 : Mm} (h : w_X12_readTimed_214 n x1 x2 x3 u0 Q T) : xE g me_X12_readTimed (pV g Q T) 214 [(0, .ref (gR g 0)), (1, .int x1), (2, .int x2), (3, .int x3)] [] u0 := by
  unfold w_X12_readTimed_214 at h
  refine e_aload_n (k := 114) (i := 0) rfl rfl 0 rfl ?_
  refine e_aload_n (k := 115) (i := 0) rfl rfl 0 rfl ?_
  refine e_bipush (k := 116) (v := (122 : Int32)) rfl (by decide) ?_
  refine e_callVi (k := 117) (q := 0) (As := [.int (122 : Int32)]) (rest := [.ref (gR g 0)]) rfl (c_X12_is (g := g) hg (n := n) h) m_X12_is i_X12_is l_X12_166 rfl ⟨_, rfl, rfl⟩ rfl rfl (Nat.le_of_ble_eq_true rfl) ⟨by decide, by decide, rfl, rfl⟩ (fun _ h => ⟨fun _ z => (by cases z), Or.inr ⟨rfl, h⟩⟩) (fun r1 u1 h => ?_)
  refine e_if_eq (k := 118) (tgt := 228) rfl (by decide) (fun z => ?_) (fun z => ?_)
  · have h := h.1 z
    refine e_iconst (k := 121) (v := (2 : Int32)) rfl (by decide) ?_
    exact s_X12_readTimed_229 hg h
  · have h := h.2 z
    refine e_iconst (k := 119) (v := (1 : Int32)) rfl (by decide) ?_
    refine e_goto (k := 120) (tgt := 229) rfl (by decide) ?_
    exact s_X12_readTimed_229 hg h
set_option maxRecDepth 20000 in
theorem s_X12_readTimed_147 {g : Gb} (hg : xInj g) {n : Nat} {Q : Mm → Prop} {T : Mm → Prop} : ∀ (k : Nat) (x2 : Int32) (x3 : Int32) (x4 : Int32) (x5 : Int32) (x6 : Int32) (u0 : Mm), w_X12_readTimed_147 n Q T k x2 x3 x4 x5 x6 u0 → xE g me_X12_readTimed (pV g Q T) 147 [(0, .ref (gR g 0)), (2, .int x2), (3, .int x3), (4, .int x4), (5, .int x5), (6, .int x6)] [] u0 := by
  intro k
  induction k with
  | zero => intro x2 x3 x4 x5 x6 u0 h; exact h.elim
  | succ k ih =>
    intro x2 x3 x4 x5 x6 u0 h
    unfold w_X12_readTimed_147 at h
    refine e_iload (k := 80) (i := 6) rfl 5 rfl ?_
    refine e_iload_n (k := 81) (i := 3) rfl rfl 2 rfl ?_
    refine e_icmp_ge (k := 82) (tgt := 193) rfl (by decide) (fun z => ?_) (fun z => ?_)
    · have h := h.1 z
      refine e_goto (k := 105) (tgt := 311) rfl (by decide) ?_
      refine e_sub (lv' := [(0, .ref (gR g 0)), (2, .int x2), (3, .int x3)]) [0, 1, 2] rfl ?_
      exact s_X12_readTimed_311 hg h
    · have h := h.2 z
      refine e_aload_n (k := 83) (i := 0) rfl rfl 0 rfl ?_
      refine e_getC (k := 84) rfl f_X12_93 rfl rfl ?_
      refine e_iload (k := 85) (i := 6) rfl 5 rfl ?_
      refine e_aload_n (k := 86) (i := 0) rfl rfl 0 rfl ?_
      refine e_getC (k := 87) rfl f_X12_93 rfl rfl ?_
      refine e_iload (k := 88) (i := 6) rfl 5 rfl ?_
      refine e_iald (k := 89) rfl rfl h.1 ?_
      have h := h.2
      refine e_iload (k := 90) (i := 4) rfl 3 rfl ?_
      refine e_imul (k := 91) rfl ?_
      refine e_iast (k := 92) rfl rfl h.1 ?_
      have h := h.2
      refine e_mlet h (fun u1 h => ?_)
      refine e_aload_n (k := 93) (i := 0) rfl rfl 0 rfl ?_
      refine e_getC (k := 94) rfl f_X12_96 rfl rfl ?_
      refine e_iload (k := 95) (i := 6) rfl 5 rfl ?_
      refine e_aload_n (k := 96) (i := 0) rfl rfl 0 rfl ?_
      refine e_getC (k := 97) rfl f_X12_96 rfl rfl ?_
      refine e_iload (k := 98) (i := 6) rfl 5 rfl ?_
      refine e_iald (k := 99) rfl rfl h.1 ?_
      have h := h.2
      refine e_iload (k := 100) (i := 5) rfl 4 rfl ?_
      refine e_imul (k := 101) rfl ?_
      refine e_iast (k := 102) rfl rfl h.1 ?_
      have h := h.2
      refine e_mlet h (fun u2 h => ?_)
      refine e_iinc (k := 103) (i := 6) (j := 5) (v := (x6 + (1 : Int32))) (lv' := [(0, .ref (gR g 0)), (2, .int x2), (3, .int x3), (4, .int x4), (5, .int x5), (6, .int (x6 + (1 : Int32)))]) rfl rfl rfl (by decide) [1, 2, 3, 4, 5, 0] rfl ?_
      refine e_goto (k := 104) (tgt := 147) rfl (by decide) ?_
      exact ih x2 x3 x4 x5 (x6 + (1 : Int32)) u2 h
set_option maxRecDepth 20000 in
theorem s_X12_readTimed_73 {g : Gb} (hg : xInj g) {n : Nat} {Q : Mm → Prop} {T : Mm → Prop} {L38 : Int32 → Int32 → Mm → Prop} (hL38 : ∀ (x2 : Int32) (x3 : Int32) (u0 : Mm), L38 x2 x3 u0 → xE g me_X12_readTimed (pV g Q T) 38 [(0, .ref (gR g 0)), (2, .int x2), (3, .int x3)] [] u0) {x2 : Int32} {x3 : Int32} {u0 : Mm} (h : w_X12_readTimed_73 n L38 x2 x3 u0 Q T) : xE g me_X12_readTimed (pV g Q T) 73 [(0, .ref (gR g 0)), (2, .int x2), (3, .int x3)] [] u0 := by
  unfold w_X12_readTimed_73 at h
  refine e_aload_n (k := 40) (i := 0) rfl rfl 0 rfl ?_
  refine e_callVv (k := 41) (q := 0) (As := []) (rest := []) rfl (c_X12_readNote (g := g) hg (n := n) h) m_X12_readNote i_X12_readNote l_X12_394 rfl ⟨_, rfl, rfl⟩ rfl rfl (Nat.le_of_ble_eq_true rfl) ⟨by decide, by decide, rfl, rfl⟩ (fun _ h => ⟨fun _ z => (by cases z), Or.inr ⟨rfl, h⟩⟩) (fun u1 h => ?_)
  refine e_aload_n (k := 42) (i := 0) rfl rfl 0 rfl ?_
  refine e_iconst (k := 43) (v := (0 : Int32)) rfl (by decide) ?_
  refine e_callVi (k := 44) (q := 0) (As := [.int (0 : Int32)]) (rest := []) rfl (c_X12_addNote (g := g) hg (n := n) h) m_X12_addNote i_X12_addNote l_X12_397 rfl ⟨_, rfl, rfl⟩ rfl rfl (Nat.le_of_ble_eq_true rfl) ⟨by decide, by decide, rfl, rfl⟩ (fun _ h => ⟨fun _ z => (by cases z), Or.inr ⟨rfl, h⟩⟩) (fun r1 u2 h => ?_)
  refine e_istore (k := 45) (i := 4) (lv' := [(0, .ref (gR g 0)), (2, .int x2), (3, .int x3), (4, .int r1)]) rfl (by decide) [1, 2, 3, 0] rfl ?_
  refine e_aload_n (k := 46) (i := 0) rfl rfl 0 rfl ?_
  refine e_callVv (k := 47) (q := 0) (As := []) (rest := []) rfl (c_X12_rememberSign (g := g) hg (n := n) h) m_X12_rememberSign i_X12_rememberSign l_X12_400 rfl ⟨_, rfl, rfl⟩ rfl rfl (Nat.le_of_ble_eq_true rfl) ⟨by decide, by decide, rfl, rfl⟩ (fun _ h => ⟨fun _ z => (by cases z), Or.inr ⟨rfl, h⟩⟩) (fun u3 h => ?_)
  refine e_aload_n (k := 48) (i := 0) rfl rfl 0 rfl ?_
  refine e_callVv (k := 49) (q := 0) (As := []) (rest := []) rfl (c_X12_readLength (g := g) hg (n := n) h) m_X12_readLength i_X12_readLength l_X12_403 rfl ⟨_, rfl, rfl⟩ rfl rfl (Nat.le_of_ble_eq_true rfl) ⟨by decide, by decide, rfl, rfl⟩ (fun _ h => ⟨fun _ z => (by cases z), Or.inr ⟨rfl, h⟩⟩) (fun u4 h => ?_)
  refine e_aload_n (k := 50) (i := 0) rfl rfl 0 rfl ?_
  refine e_getC (k := 51) rfl f_X12_93 rfl rfl ?_
  refine e_iload_n (k := 52) (i := 3) rfl rfl 2 rfl ?_
  refine e_aload_n (k := 53) (i := 0) rfl rfl 0 rfl ?_
  refine e_getI (k := 54) rfl f_X12_303 rfl rfl ?_
  refine e_iast (k := 55) rfl rfl h.1 ?_
  have h := h.2
  refine e_mlet h (fun u5 h => ?_)
  refine e_aload_n (k := 56) (i := 0) rfl rfl 0 rfl ?_
  refine e_getC (k := 57) rfl f_X12_96 rfl rfl ?_
  refine e_iload_n (k := 58) (i := 3) rfl rfl 2 rfl ?_
  refine e_aload_n (k := 59) (i := 0) rfl rfl 0 rfl ?_
  refine e_getI (k := 60) rfl f_X12_306 rfl rfl ?_
  refine e_iast (k := 61) rfl rfl h.1 ?_
  have h := h.2
  refine e_mlet h (fun u6 h => ?_)
  refine e_iinc (k := 62) (i := 3) (j := 2) (v := (x3 + (1 : Int32))) (lv' := [(0, .ref (gR g 0)), (2, .int x2), (3, .int (x3 + (1 : Int32))), (4, .int r1)]) rfl rfl rfl (by decide) [1, 2, 0, 3] rfl ?_
  refine e_goto (k := 63) (tgt := 38) rfl (by decide) ?_
  refine e_sub (lv' := [(0, .ref (gR g 0)), (2, .int x2), (3, .int (x3 + (1 : Int32)))]) [0, 1, 2] rfl ?_
  exact hL38 x2 (x3 + (1 : Int32)) u6 h
set_option maxRecDepth 20000 in
theorem s_X12_readTimed_51 {g : Gb} (hg : xInj g) {n : Nat} {Q : Mm → Prop} {T : Mm → Prop} {L38 : Int32 → Int32 → Mm → Prop} (hL38 : ∀ (x2 : Int32) (x3 : Int32) (u0 : Mm), L38 x2 x3 u0 → xE g me_X12_readTimed (pV g Q T) 38 [(0, .ref (gR g 0)), (2, .int x2), (3, .int x3)] [] u0) {x2 : Int32} {x3 : Int32} {u0 : Mm} (h : w_X12_readTimed_51 n L38 x2 x3 u0 Q T) : xE g me_X12_readTimed (pV g Q T) 51 [(0, .ref (gR g 0)), (2, .int x2), (3, .int x3)] [] u0 := by
  unfold w_X12_readTimed_51 at h
  refine e_iload_n (k := 29) (i := 3) rfl rfl 2 rfl ?_
  refine e_bipush (k := 30) (v := (12 : Int32)) rfl (by decide) ?_
  refine e_icmp_ne (k := 31) (tgt := 73) rfl (by decide) (fun z => ?_) (fun z => ?_)
  · have h := h.1 z
    exact s_X12_readTimed_73 hg hL38 h
  · have h := h.2 z
    refine e_aload_n (k := 32) (i := 0) rfl rfl 0 rfl ?_
    refine e_callVi (k := 33) (q := 0) (As := []) (rest := []) rfl (c_X12_beginsNote (g := g) hg (n := n) h) m_X12_beginsNote i_X12_beginsNote l_X12_384 rfl ⟨_, rfl, rfl⟩ rfl rfl (Nat.le_of_ble_eq_true rfl) ⟨by decide, by decide, rfl, rfl⟩ (fun _ h => ⟨fun _ z => (by cases z), Or.inr ⟨rfl, h⟩⟩) (fun r1 u1 h => ?_)
    refine e_if_eq (k := 34) (tgt := 73) rfl (by decide) (fun z => ?_) (fun z => ?_)
    · have h := h.1 z
      exact s_X12_readTimed_73 hg hL38 h
    · have h := h.2 z
      refine e_aload_n (k := 35) (i := 0) rfl rfl 0 rfl ?_
      refine e_iconst (k := 36) (v := (2 : Int32)) rfl (by decide) ?_
      refine e_aload_n (k := 37) (i := 0) rfl rfl 0 rfl ?_
      refine e_getI (k := 38) rfl f_X12_138 rfl rfl ?_
      refine e_callVv (k := 39) (q := 0) (As := [.int (2 : Int32), .int (u1.1 0 7)]) (rest := []) rfl (c_X12_fail (g := g) hg (n := n) h) m_X12_fail i_X12_fail l_X12_148 rfl ⟨_, rfl, rfl⟩ rfl rfl (Nat.le_of_ble_eq_true rfl) ⟨by decide, by decide, rfl, rfl⟩ (fun _ h => ⟨fun _ z => (by cases z), Or.inr ⟨rfl, h⟩⟩) (fun u2 h => ?_)
      exact s_X12_readTimed_73 hg hL38 h
set_option maxRecDepth 20000 in
theorem s_X12_readTimed_38 {g : Gb} (hg : xInj g) {n : Nat} {Q : Mm → Prop} {T : Mm → Prop} : ∀ (k : Nat) (x2 : Int32) (x3 : Int32) (u0 : Mm), w_X12_readTimed_38 n Q T k x2 x3 u0 → xE g me_X12_readTimed (pV g Q T) 38 [(0, .ref (gR g 0)), (2, .int x2), (3, .int x3)] [] u0 := by
  intro k
  induction k with
  | zero => intro x2 x3 u0 h; exact h.elim
  | succ k ih =>
    intro x2 x3 u0 h
    unfold w_X12_readTimed_38 at h
    refine e_aload_n (k := 23) (i := 0) rfl rfl 0 rfl ?_
    refine e_bipush (k := 24) (v := (93 : Int32)) rfl (by decide) ?_
    refine e_callVi (k := 25) (q := 0) (As := [.int (93 : Int32)]) (rest := []) rfl (c_X12_is (g := g) hg (n := n) h) m_X12_is i_X12_is l_X12_166 rfl ⟨_, rfl, rfl⟩ rfl rfl (Nat.le_of_ble_eq_true rfl) ⟨by decide, by decide, rfl, rfl⟩ (fun _ h => ⟨fun _ z => (by cases z), Or.inr ⟨rfl, h⟩⟩) (fun r1 u1 h => ?_)
    refine e_if_eq (k := 26) (tgt := 51) rfl (by decide) (fun z => ?_) (fun z => ?_)
    · have h := h.1 z
      exact s_X12_readTimed_51 hg ih h
    · have h := h.2 z
      refine e_iload_n (k := 27) (i := 3) rfl rfl 2 rfl ?_
      refine e_if_ne (k := 28) (tgt := 118) rfl (by decide) (fun z => ?_) (fun z => ?_)
      · have h := h.1 z
        refine e_aload_n (k := 64) (i := 0) rfl rfl 0 rfl ?_
        refine e_dup (k := 65) rfl rfl ?_
        refine e_getI (k := 66) rfl f_X12_138 rfl rfl ?_
        refine e_iconst (k := 67) (v := (1 : Int32)) rfl (by decide) ?_
        refine e_iadd (k := 68) rfl ?_
        refine e_putI (k := 69) rfl fg_X12_138 rfl rfl ?_
        refine e_mlet h (fun u2 h => ?_)
        refine e_aload_n (k := 70) (i := 0) rfl rfl 0 rfl ?_
        refine e_callVv (k := 71) (q := 0) (As := []) (rest := []) rfl (c_X12_readLength (g := g) hg (n := n) h) m_X12_readLength i_X12_readLength l_X12_403 rfl ⟨_, rfl, rfl⟩ rfl rfl (Nat.le_of_ble_eq_true rfl) ⟨by decide, by decide, rfl, rfl⟩ (fun _ h => ⟨fun _ z => (by cases z), Or.inr ⟨rfl, h⟩⟩) (fun u3 h => ?_)
        refine e_aload_n (k := 72) (i := 0) rfl rfl 0 rfl ?_
        refine e_getI (k := 73) rfl f_X12_303 rfl rfl ?_
        refine e_ilet h (fun y1 h => ?_)
        refine e_istore (k := 74) (i := 4) (lv' := [(0, .ref (gR g 0)), (2, .int x2), (3, .int x3), (4, .int y1)]) rfl (by decide) [1, 2, 3, 0] rfl ?_
        refine e_aload_n (k := 75) (i := 0) rfl rfl 0 rfl ?_
        refine e_getI (k := 76) rfl f_X12_306 rfl rfl ?_
        refine e_ilet h (fun y2 h => ?_)
        refine e_istore (k := 77) (i := 5) (lv' := [(0, .ref (gR g 0)), (2, .int x2), (3, .int x3), (4, .int y1), (5, .int y2)]) rfl (by decide) [1, 2, 3, 4, 0] rfl ?_
        refine e_iconst (k := 78) (v := (0 : Int32)) rfl (by decide) ?_
        refine e_istore (k := 79) (i := 6) (lv' := [(0, .ref (gR g 0)), (2, .int x2), (3, .int x3), (4, .int y1), (5, .int y2), (6, .int (0 : Int32))]) rfl (by decide) [1, 2, 3, 4, 5, 0] rfl ?_
        exact s_X12_readTimed_147 hg n x2 x3 y1 y2 (0 : Int32) u3 h
      · have h := h.2 z
        exact s_X12_readTimed_51 hg ih h
set_option maxRecDepth 20000 in
theorem c_X12_readTimed {g : Gb} (hg : xInj g) {n : Nat} {u0 : Mm} {Q : Mm → Prop} {T : Mm → Prop} (h : w_X12_readTimed n u0 Q T) : xMet (gL g) yX12_readTimed (xws yX12_readTimed cX12_readTimed 8 none) (xRoom 6) (xPc g [.ref (gR g 0)] u0) (xQ g (pV g Q T)) (xA g) := by
  refine xbody (il := il_X12_readTimed) hg il_X12_readTimed_ok m_X12_readTimed (Nat.le_of_ble_eq_true rfl) ?_
  show xE g me_X12_readTimed (pV g Q T) 0 [(0, .ref (gR g 0))] [] u0
  unfold w_X12_readTimed at h
  refine e_aload_n (k := 0) (i := 0) rfl rfl 0 rfl ?_
  refine e_getI (k := 1) rfl f_X12_138 rfl rfl ?_
  refine e_ilet h (fun y1 h => ?_)
  refine e_istore_n (k := 2) (i := 1) (lv' := [(0, .ref (gR g 0)), (1, .int y1)]) rfl rfl (by decide) [1, 0] rfl ?_
  refine e_aload_n (k := 3) (i := 0) rfl rfl 0 rfl ?_
  refine e_getI (k := 4) rfl f_X12_283 rfl rfl ?_
  refine e_ilet h (fun y2 h => ?_)
  refine e_istore_n (k := 5) (i := 2) (lv' := [(0, .ref (gR g 0)), (1, .int y1), (2, .int y2)]) rfl rfl (by decide) [1, 2, 0] rfl ?_
  refine e_iconst (k := 6) (v := (1 : Int32)) rfl (by decide) ?_
  refine e_istore_n (k := 7) (i := 3) (lv' := [(0, .ref (gR g 0)), (1, .int y1), (2, .int y2), (3, .int (1 : Int32))]) rfl rfl (by decide) [1, 2, 3, 0] rfl ?_
  refine e_aload_n (k := 8) (i := 0) rfl rfl 0 rfl ?_
  refine e_iload_n (k := 9) (i := 1) rfl rfl 1 rfl ?_
  refine e_callVv (k := 10) (q := 0) (As := [.int y1]) (rest := []) rfl (c_X12_beginMeasure (g := g) hg (n := n) h) m_X12_beginMeasure i_X12_beginMeasure l_X12_391 rfl ⟨_, rfl, rfl⟩ rfl rfl (Nat.le_of_ble_eq_true rfl) ⟨by decide, by decide, rfl, rfl⟩ (fun _ h => ⟨fun _ z => (by cases z), Or.inr ⟨rfl, h⟩⟩) (fun u1 h => ?_)
  refine e_aload_n (k := 11) (i := 0) rfl rfl 0 rfl ?_
  refine e_bipush (k := 12) (v := (91 : Int32)) rfl (by decide) ?_
  refine e_callVi (k := 13) (q := 0) (As := [.int (91 : Int32)]) (rest := []) rfl (c_X12_is (g := g) hg (n := n) h) m_X12_is i_X12_is l_X12_166 rfl ⟨_, rfl, rfl⟩ rfl rfl (Nat.le_of_ble_eq_true rfl) ⟨by decide, by decide, rfl, rfl⟩ (fun _ h => ⟨fun _ z => (by cases z), Or.inr ⟨rfl, h⟩⟩) (fun r1 u2 h => ?_)
  refine e_if_eq (k := 14) (tgt := 196) rfl (by decide) (fun z => ?_) (fun z => ?_)
  · have h := h.1 z
    refine e_aload_n (k := 106) (i := 0) rfl rfl 0 rfl ?_
    refine e_bipush (k := 107) (v := (122 : Int32)) rfl (by decide) ?_
    refine e_callVi (k := 108) (q := 0) (As := [.int (122 : Int32)]) (rest := []) rfl (c_X12_is (g := g) hg (n := n) h) m_X12_is i_X12_is l_X12_166 rfl ⟨_, rfl, rfl⟩ rfl rfl (Nat.le_of_ble_eq_true rfl) ⟨by decide, by decide, rfl, rfl⟩ (fun _ h => ⟨fun _ z => (by cases z), Or.inr ⟨rfl, h⟩⟩) (fun r2 u3 h => ?_)
    refine e_if_ne (k := 109) (tgt := 214) rfl (by decide) (fun z => ?_) (fun z => ?_)
    · have h := h.1 z
      exact s_X12_readTimed_214 hg h
    · have h := h.2 z
      refine e_aload_n (k := 110) (i := 0) rfl rfl 0 rfl ?_
      refine e_bipush (k := 111) (v := (120 : Int32)) rfl (by decide) ?_
      refine e_callVi (k := 112) (q := 0) (As := [.int (120 : Int32)]) (rest := []) rfl (c_X12_is (g := g) hg (n := n) h) m_X12_is i_X12_is l_X12_166 rfl ⟨_, rfl, rfl⟩ rfl rfl (Nat.le_of_ble_eq_true rfl) ⟨by decide, by decide, rfl, rfl⟩ (fun _ h => ⟨fun _ z => (by cases z), Or.inr ⟨rfl, h⟩⟩) (fun r3 u4 h => ?_)
      refine e_if_eq (k := 113) (tgt := 272) rfl (by decide) (fun z => ?_) (fun z => ?_)
      · have h := h.1 z
        refine e_aload_n (k := 146) (i := 0) rfl rfl 0 rfl ?_
        refine e_callVv (k := 147) (q := 0) (As := []) (rest := []) rfl (c_X12_readNote (g := g) hg (n := n) h) m_X12_readNote i_X12_readNote l_X12_394 rfl ⟨_, rfl, rfl⟩ rfl rfl (Nat.le_of_ble_eq_true rfl) ⟨by decide, by decide, rfl, rfl⟩ (fun _ h => ⟨fun _ z => (by cases z), Or.inr ⟨rfl, h⟩⟩) (fun u5 h => ?_)
        refine e_aload_n (k := 148) (i := 0) rfl rfl 0 rfl ?_
        refine e_iconst (k := 149) (v := (0 : Int32)) rfl (by decide) ?_
        refine e_callVi (k := 150) (q := 0) (As := [.int (0 : Int32)]) (rest := []) rfl (c_X12_addNote (g := g) hg (n := n) h) m_X12_addNote i_X12_addNote l_X12_397 rfl ⟨_, rfl, rfl⟩ rfl rfl (Nat.le_of_ble_eq_true rfl) ⟨by decide, by decide, rfl, rfl⟩ (fun _ h => ⟨fun _ z => (by cases z), Or.inr ⟨rfl, h⟩⟩) (fun r4 u6 h => ?_)
        refine e_istore (k := 151) (i := 4) (lv' := [(0, .ref (gR g 0)), (1, .int y1), (2, .int y2), (3, .int (1 : Int32)), (4, .int r4)]) rfl (by decide) [1, 2, 3, 4, 0] rfl ?_
        refine e_aload_n (k := 152) (i := 0) rfl rfl 0 rfl ?_
        refine e_callVv (k := 153) (q := 0) (As := []) (rest := []) rfl (c_X12_rememberSign (g := g) hg (n := n) h) m_X12_rememberSign i_X12_rememberSign l_X12_400 rfl ⟨_, rfl, rfl⟩ rfl rfl (Nat.le_of_ble_eq_true rfl) ⟨by decide, by decide, rfl, rfl⟩ (fun _ h => ⟨fun _ z => (by cases z), Or.inr ⟨rfl, h⟩⟩) (fun u7 h => ?_)
        refine e_aload_n (k := 154) (i := 0) rfl rfl 0 rfl ?_
        refine e_callVv (k := 155) (q := 0) (As := []) (rest := []) rfl (c_X12_readLength (g := g) hg (n := n) h) m_X12_readLength i_X12_readLength l_X12_403 rfl ⟨_, rfl, rfl⟩ rfl rfl (Nat.le_of_ble_eq_true rfl) ⟨by decide, by decide, rfl, rfl⟩ (fun _ h => ⟨fun _ z => (by cases z), Or.inr ⟨rfl, h⟩⟩) (fun u8 h => ?_)
        refine e_aload_n (k := 156) (i := 0) rfl rfl 0 rfl ?_
        refine e_getC (k := 157) rfl f_X12_93 rfl rfl ?_
        refine e_iconst (k := 158) (v := (0 : Int32)) rfl (by decide) ?_
        refine e_aload_n (k := 159) (i := 0) rfl rfl 0 rfl ?_
        refine e_getI (k := 160) rfl f_X12_303 rfl rfl ?_
        refine e_iast (k := 161) rfl rfl (by unfold vp_in; decide) ?_
        refine e_mlet h (fun u9 h => ?_)
        refine e_aload_n (k := 162) (i := 0) rfl rfl 0 rfl ?_
        refine e_getC (k := 163) rfl f_X12_96 rfl rfl ?_
        refine e_iconst (k := 164) (v := (0 : Int32)) rfl (by decide) ?_
        refine e_aload_n (k := 165) (i := 0) rfl rfl 0 rfl ?_
        refine e_getI (k := 166) rfl f_X12_306 rfl rfl ?_
        refine e_iast (k := 167) rfl rfl (by unfold vp_in; decide) ?_
        refine e_mlet h (fun u10 h => ?_)
        refine e_sub (lv' := [(0, .ref (gR g 0)), (2, .int y2), (3, .int (1 : Int32))]) [0, 2, 3] rfl ?_
        exact s_X12_readTimed_311 hg h
      · have h := h.2 z
        exact s_X12_readTimed_214 hg h
  · have h := h.2 z
    refine e_aload_n (k := 15) (i := 0) rfl rfl 0 rfl ?_
    refine e_dup (k := 16) rfl rfl ?_
    refine e_getI (k := 17) rfl f_X12_138 rfl rfl ?_
    refine e_iconst (k := 18) (v := (1 : Int32)) rfl (by decide) ?_
    refine e_iadd (k := 19) rfl ?_
    refine e_putI (k := 20) rfl fg_X12_138 rfl rfl ?_
    refine e_mlet h (fun u11 h => ?_)
    refine e_iconst (k := 21) (v := (0 : Int32)) rfl (by decide) ?_
    refine e_istore_n (k := 22) (i := 3) (lv' := [(0, .ref (gR g 0)), (1, .int y1), (2, .int y2), (3, .int (0 : Int32))]) rfl rfl (by decide) [1, 2, 3, 0] rfl ?_
    refine e_sub (lv' := [(0, .ref (gR g 0)), (2, .int y2), (3, .int (0 : Int32))]) [0, 2, 3] rfl ?_
    exact s_X12_readTimed_38 hg n y2 (0 : Int32) u11 h
def il_X4_readBroken : List (Nat × Instr × Nat) := [(0, .aload_n 0, 1), (1, .getfield 9, 3), (4, .getfield 123, 3), (7, .istore_n 2, 1), (8, .iload_n 1, 1), (9, .ifCond .ne 13, 3), (12, .aload_n 0, 1), (13, .getfield 9, 3), (16, .iconst 5, 1), (17, .iload_n 2, 1), (18, .invokevirtual 93, 3), (21, .return_, 1), (22, .aload_n 0, 1), (23, .getfield 9, 3), (26, .iconst 0, 1), (27, .invokevirtual 126, 3), (30, .istore_n 3, 1), (31, .iconst 1, 1), (32, .istore 4, 2), (34, .iload 4, 2), (36, .bipush 8, 2), (38, .if_icmp .ge 37, 3), (41, .aload_n 0, 1), (42, .getfield 9, 3), (45, .iconst 0, 1), (46, .invokevirtual 126, 3), (49, .iload_n 3, 1), (50, .if_icmp .ne 25, 3), (53, .iload 4, 2), (55, .iconst 2, 1), (56, .imul, 1), (57, .istore 4, 2), (59, .aload_n 0, 1), (60, .getfield 9, 3), (63, .dup, 1), (64, .getfield 123, 3), (67, .iconst 1, 1), (68, .iadd, 1), (69, .putfield 123, 3), (72, .goto (-38), 3), (75, .aload_n 0, 1), (76, .getfield 9, 3), (79, .invokevirtual 130, 3), (82, .aload_n 0, 1), (83, .invokevirtual 204, 3), (86, .istore 5, 2), (88, .iload 5, 2), (90, .iconst 1, 1), (91, .if_icmp .eq 31, 3), (94, .iload 5, 2), (96, .iconst 3, 1), (97, .if_icmp .eq 25, 3), (100, .iload 5, 2), (102, .iconst 2, 1), (103, .if_icmp .eq 19, 3), (106, .aload_n 0, 1), (107, .getfield 9, 3), (110, .iconst 5, 1), (111, .aload_n 0, 1), (112, .getfield 9, 3), (115, .getfield 123, 3), (118, .invokevirtual 93, 3), (121, .return_, 1), (122, .iconst 2, 1), (123, .iload 4, 2), (125, .imul, 1), (126, .iconst 1, 1), (127, .isub, 1), (128, .istore 6, 2), (130, .aload_n 0, 1), (131, .iload_n 3, 1), (132, .bipush 62, 2), (134, .if_icmp .ne 8, 3), (137, .iload 6, 2), (139, .goto 4, 3), (142, .iconst 1, 1), (143, .iload 4, 2), (145, .invokevirtual 370, 3), (148, .aload_n 0, 1), (149, .getfield 33, 3), (152, .iload_n 3, 1), (153, .bipush 62, 2), (155, .if_icmp .ne 7, 3), (158, .iconst 1, 1), (159, .goto 5, 3), (162, .iload 6, 2), (164, .putfield 373, 3), (167, .aload_n 0, 1), (168, .getfield 33, 3), (171, .iload 4, 2), (173, .putfield 376, 3), (176, .return_, 1)]
set_option maxRecDepth 20000 in
theorem il_X4_readBroken_ok : ∀ x ∈ il_X4_readBroken, decode cX4_readBroken x.1 = .ok x.2 := by decide +kernel
abbrev me_X4_readBroken : Me := (RX4, il_X4_readBroken, 7, none, xRoom 6, [])
def w_X4_readBroken_164 (n : Nat) (x4 : Int32) (t0 : Int32) (u0 : Mm) (Q : Mm → Prop) : Prop :=
  mlet (setI u0 39 6 t0) fun u1 =>
  mlet (setI u1 39 7 x4) fun u2 =>
  Q u2
def w_X4_readBroken_143 (n : Nat) (x3 : Int32) (x4 : Int32) (x6 : Int32) (t0 : Int32) (u0 : Mm) (Q : Mm → Prop) : Prop :=
  w_X4_changeLatest n t0 x4 u0 (fun u1 =>
  (¬ x3 = (62 : Int32) → w_X4_readBroken_164 n x4 x6 u1 Q) ∧
  (x3 = (62 : Int32) → w_X4_readBroken_164 n x4 (1 : Int32) u1 Q))
def w_X4_readBroken_122 (n : Nat) (x3 : Int32) (x4 : Int32) (u0 : Mm) (Q : Mm → Prop) : Prop :=
  ilet (((2 : Int32) * x4) - (1 : Int32)) fun y1 =>
  (¬ x3 = (62 : Int32) → w_X4_readBroken_143 n x3 x4 y1 (1 : Int32) u0 Q) ∧
  (x3 = (62 : Int32) → w_X4_readBroken_143 n x3 x4 y1 y1 u0 Q)
def w_X4_readBroken_75 (n : Nat) (x3 : Int32) (x4 : Int32) (u0 : Mm) (Q : Mm → Prop) : Prop :=
  w_X5_skipBlanks n u0 (fun u1 =>
  w_X4_formHere n u1 (fun r1 u2 =>
  (r1 = (1 : Int32) → w_X4_readBroken_122 n x3 x4 u2 Q) ∧
  (¬ r1 = (1 : Int32) → (r1 = (3 : Int32) → w_X4_readBroken_122 n x3 x4 u2 Q) ∧
  (¬ r1 = (3 : Int32) → (r1 = (2 : Int32) → w_X4_readBroken_122 n x3 x4 u2 Q) ∧
  (¬ r1 = (2 : Int32) → w_X5_fail n (5 : Int32) (u2.1 33 2) u2 (fun u3 =>
  Q u3))))))
def w_X4_readBroken_34 (n : Nat) (Q : Mm → Prop) : Nat → Int32 → Int32 → Mm → Prop
  | 0, _, _, _ => False
  | k + 1, x3, x4, u0 =>
  ((8 : Int32) ≤ x4 → w_X4_readBroken_75 n x3 x4 u0 Q) ∧
  (¬ (8 : Int32) ≤ x4 → w_X5_peek n (0 : Int32) u0 (fun r1 u1 =>
  (¬ r1 = x3 → w_X4_readBroken_75 n x3 x4 u1 Q) ∧
  (r1 = x3 → ilet (x4 * (2 : Int32)) fun y1 =>
  mlet (setI u1 33 2 ((u1.1 33 2) + (1 : Int32))) fun u2 =>
  (w_X4_readBroken_34 n Q k) x3 y1 u2)))
def w_X4_readBroken (n : Nat) (a0 : Int32) (u0 : Mm) (Q : Mm → Prop) : Prop :=
  ilet (u0.1 33 2) fun y1 =>
  (¬ a0 = 0 → w_X5_peek n (0 : Int32) u0 (fun r1 u1 =>
  (w_X4_readBroken_34 n Q n) r1 (1 : Int32) u1)) ∧
  (a0 = 0 → w_X5_fail n (5 : Int32) y1 u0 (fun u2 =>
  Q u2))
set_option maxRecDepth 20000 in
theorem s_X4_readBroken_164 {g : Gb} (hg : xInj g) {n : Nat} {Q : Mm → Prop} {x4 : Int32} {t0 : Int32} {u0 : Mm} (h : w_X4_readBroken_164 n x4 t0 u0 Q) : xE g me_X4_readBroken (pV g Q noT) 164 [(0, .ref (gR g 38)), (4, .int x4)] [.int t0, .ref (gR g 39)] u0 := by
  unfold w_X4_readBroken_164 at h
  refine e_putI (k := 86) rfl fg_X4_373 rfl rfl ?_
  refine e_mlet h (fun u1 h => ?_)
  refine e_aload_n (k := 87) (i := 0) rfl rfl 0 rfl ?_
  refine e_getC (k := 88) rfl f_X4_33 rfl rfl ?_
  refine e_iload (k := 89) (i := 4) rfl 1 rfl ?_
  refine e_putI (k := 90) rfl fg_X4_376 rfl rfl ?_
  refine e_mlet h (fun u2 h => ?_)
  exact e_vret (k := 91) rfl rfl (Or.inl ⟨rfl, h⟩)
set_option maxRecDepth 20000 in
theorem s_X4_readBroken_143 {g : Gb} (hg : xInj g) {n : Nat} {Q : Mm → Prop} {x3 : Int32} {x4 : Int32} {x6 : Int32} {t0 : Int32} {u0 : Mm} (h : w_X4_readBroken_143 n x3 x4 x6 t0 u0 Q) : xE g me_X4_readBroken (pV g Q noT) 143 [(0, .ref (gR g 38)), (3, .int x3), (4, .int x4), (6, .int x6)] [.int t0, .ref (gR g 38)] u0 := by
  unfold w_X4_readBroken_143 at h
  refine e_iload (k := 76) (i := 4) rfl 2 rfl ?_
  refine e_callVv (k := 77) (q := 38) (As := [.int t0, .int x4]) (rest := []) rfl (c_X4_changeLatest (g := g) hg (n := n) h) m_X4_changeLatest i_X4_changeLatest l_X4_370 rfl ⟨_, rfl, rfl⟩ rfl rfl (Nat.le_of_ble_eq_true rfl) ⟨by decide, by decide, rfl, rfl⟩ (fun _ h => h.elim) (fun u1 h => ?_)
  refine e_aload_n (k := 78) (i := 0) rfl rfl 0 rfl ?_
  refine e_getC (k := 79) rfl f_X4_33 rfl rfl ?_
  refine e_iload_n (k := 80) (i := 3) rfl rfl 1 rfl ?_
  refine e_bipush (k := 81) (v := (62 : Int32)) rfl (by decide) ?_
  refine e_icmp_ne (k := 82) (tgt := 162) rfl (by decide) (fun z => ?_) (fun z => ?_)
  · have h := h.1 z
    refine e_iload (k := 85) (i := 6) rfl 3 rfl ?_
    refine e_sub (lv' := [(0, .ref (gR g 38)), (4, .int x4)]) [0, 2] rfl ?_
    exact s_X4_readBroken_164 hg h
  · have h := h.2 z
    refine e_iconst (k := 83) (v := (1 : Int32)) rfl (by decide) ?_
    refine e_goto (k := 84) (tgt := 164) rfl (by decide) ?_
    refine e_sub (lv' := [(0, .ref (gR g 38)), (4, .int x4)]) [0, 2] rfl ?_
    exact s_X4_readBroken_164 hg h
set_option maxRecDepth 20000 in
theorem s_X4_readBroken_122 {g : Gb} (hg : xInj g) {n : Nat} {Q : Mm → Prop} {x3 : Int32} {x4 : Int32} {u0 : Mm} (h : w_X4_readBroken_122 n x3 x4 u0 Q) : xE g me_X4_readBroken (pV g Q noT) 122 [(0, .ref (gR g 38)), (3, .int x3), (4, .int x4)] [] u0 := by
  unfold w_X4_readBroken_122 at h
  refine e_iconst (k := 63) (v := (2 : Int32)) rfl (by decide) ?_
  refine e_iload (k := 64) (i := 4) rfl 2 rfl ?_
  refine e_imul (k := 65) rfl ?_
  refine e_iconst (k := 66) (v := (1 : Int32)) rfl (by decide) ?_
  refine e_isub (k := 67) rfl ?_
  refine e_ilet h (fun y1 h => ?_)
  refine e_istore (k := 68) (i := 6) (lv' := [(0, .ref (gR g 38)), (3, .int x3), (4, .int x4), (6, .int y1)]) rfl (by decide) [1, 2, 3, 0] rfl ?_
  refine e_aload_n (k := 69) (i := 0) rfl rfl 0 rfl ?_
  refine e_iload_n (k := 70) (i := 3) rfl rfl 1 rfl ?_
  refine e_bipush (k := 71) (v := (62 : Int32)) rfl (by decide) ?_
  refine e_icmp_ne (k := 72) (tgt := 142) rfl (by decide) (fun z => ?_) (fun z => ?_)
  · have h := h.1 z
    refine e_iconst (k := 75) (v := (1 : Int32)) rfl (by decide) ?_
    exact s_X4_readBroken_143 hg h
  · have h := h.2 z
    refine e_iload (k := 73) (i := 6) rfl 3 rfl ?_
    refine e_goto (k := 74) (tgt := 143) rfl (by decide) ?_
    exact s_X4_readBroken_143 hg h
set_option maxRecDepth 20000 in
theorem s_X4_readBroken_75 {g : Gb} (hg : xInj g) {n : Nat} {Q : Mm → Prop} {x3 : Int32} {x4 : Int32} {u0 : Mm} (h : w_X4_readBroken_75 n x3 x4 u0 Q) : xE g me_X4_readBroken (pV g Q noT) 75 [(0, .ref (gR g 38)), (3, .int x3), (4, .int x4)] [] u0 := by
  unfold w_X4_readBroken_75 at h
  refine e_aload_n (k := 40) (i := 0) rfl rfl 0 rfl ?_
  refine e_getC (k := 41) rfl f_X4_9 rfl rfl ?_
  refine e_callVv (k := 42) (q := 33) (As := []) (rest := []) rfl (c_X5_skipBlanks (g := g) hg (n := n) h) m_X5_skipBlanks i_X5_skipBlanks l_X4_130 rfl ⟨_, rfl, rfl⟩ rfl rfl (Nat.le_of_ble_eq_true rfl) ⟨by decide, by decide, rfl, rfl⟩ (fun _ h => h.elim) (fun u1 h => ?_)
  refine e_aload_n (k := 43) (i := 0) rfl rfl 0 rfl ?_
  refine e_callVi (k := 44) (q := 38) (As := []) (rest := []) rfl (c_X4_formHere (g := g) hg (n := n) h) m_X4_formHere i_X4_formHere l_X4_204 rfl ⟨_, rfl, rfl⟩ rfl rfl (Nat.le_of_ble_eq_true rfl) ⟨by decide, by decide, rfl, rfl⟩ (fun _ h => h.elim) (fun r1 u2 h => ?_)
  refine e_istore (k := 45) (i := 5) (lv' := [(0, .ref (gR g 38)), (3, .int x3), (4, .int x4), (5, .int r1)]) rfl (by decide) [1, 2, 3, 0] rfl ?_
  refine e_iload (k := 46) (i := 5) rfl 3 rfl ?_
  refine e_iconst (k := 47) (v := (1 : Int32)) rfl (by decide) ?_
  refine e_icmp_eq (k := 48) (tgt := 122) rfl (by decide) (fun z => ?_) (fun z => ?_)
  · have h := h.1 z
    refine e_sub (lv' := [(0, .ref (gR g 38)), (3, .int x3), (4, .int x4)]) [0, 1, 2] rfl ?_
    exact s_X4_readBroken_122 hg h
  · have h := h.2 z
    refine e_iload (k := 49) (i := 5) rfl 3 rfl ?_
    refine e_iconst (k := 50) (v := (3 : Int32)) rfl (by decide) ?_
    refine e_icmp_eq (k := 51) (tgt := 122) rfl (by decide) (fun z => ?_) (fun z => ?_)
    · have h := h.1 z
      refine e_sub (lv' := [(0, .ref (gR g 38)), (3, .int x3), (4, .int x4)]) [0, 1, 2] rfl ?_
      exact s_X4_readBroken_122 hg h
    · have h := h.2 z
      refine e_iload (k := 52) (i := 5) rfl 3 rfl ?_
      refine e_iconst (k := 53) (v := (2 : Int32)) rfl (by decide) ?_
      refine e_icmp_eq (k := 54) (tgt := 122) rfl (by decide) (fun z => ?_) (fun z => ?_)
      · have h := h.1 z
        refine e_sub (lv' := [(0, .ref (gR g 38)), (3, .int x3), (4, .int x4)]) [0, 1, 2] rfl ?_
        exact s_X4_readBroken_122 hg h
      · have h := h.2 z
        refine e_aload_n (k := 55) (i := 0) rfl rfl 0 rfl ?_
        refine e_getC (k := 56) rfl f_X4_9 rfl rfl ?_
        refine e_iconst (k := 57) (v := (5 : Int32)) rfl (by decide) ?_
        refine e_aload_n (k := 58) (i := 0) rfl rfl 0 rfl ?_
        refine e_getC (k := 59) rfl f_X4_9 rfl rfl ?_
        refine e_getI (k := 60) rfl f_X4_123 rfl rfl ?_
        refine e_callVv (k := 61) (q := 33) (As := [.int (5 : Int32), .int (u2.1 33 2)]) (rest := []) rfl (c_X5_fail (g := g) hg (n := n) h) m_X5_fail i_X5_fail l_X4_93 rfl ⟨_, rfl, rfl⟩ rfl rfl (Nat.le_of_ble_eq_true rfl) ⟨by decide, by decide, rfl, rfl⟩ (fun _ h => h.elim) (fun u3 h => ?_)
        exact e_vret (k := 62) rfl rfl (Or.inl ⟨rfl, h⟩)
set_option maxRecDepth 20000 in
theorem s_X4_readBroken_34 {g : Gb} (hg : xInj g) {n : Nat} {Q : Mm → Prop} : ∀ (k : Nat) (x3 : Int32) (x4 : Int32) (u0 : Mm), w_X4_readBroken_34 n Q k x3 x4 u0 → xE g me_X4_readBroken (pV g Q noT) 34 [(0, .ref (gR g 38)), (3, .int x3), (4, .int x4)] [] u0 := by
  intro k
  induction k with
  | zero => intro x3 x4 u0 h; exact h.elim
  | succ k ih =>
    intro x3 x4 u0 h
    unfold w_X4_readBroken_34 at h
    refine e_iload (k := 19) (i := 4) rfl 2 rfl ?_
    refine e_bipush (k := 20) (v := (8 : Int32)) rfl (by decide) ?_
    refine e_icmp_ge (k := 21) (tgt := 75) rfl (by decide) (fun z => ?_) (fun z => ?_)
    · have h := h.1 z
      exact s_X4_readBroken_75 hg h
    · have h := h.2 z
      refine e_aload_n (k := 22) (i := 0) rfl rfl 0 rfl ?_
      refine e_getC (k := 23) rfl f_X4_9 rfl rfl ?_
      refine e_iconst (k := 24) (v := (0 : Int32)) rfl (by decide) ?_
      refine e_callVi (k := 25) (q := 33) (As := [.int (0 : Int32)]) (rest := []) rfl (c_X5_peek (g := g) hg (n := n) h) m_X5_peek i_X5_peek l_X4_126 rfl ⟨_, rfl, rfl⟩ rfl rfl (Nat.le_of_ble_eq_true rfl) ⟨by decide, by decide, rfl, rfl⟩ (fun _ h => h.elim) (fun r1 u1 h => ?_)
      refine e_iload_n (k := 26) (i := 3) rfl rfl 1 rfl ?_
      refine e_icmp_ne (k := 27) (tgt := 75) rfl (by decide) (fun z => ?_) (fun z => ?_)
      · have h := h.1 z
        exact s_X4_readBroken_75 hg h
      · have h := h.2 z
        refine e_iload (k := 28) (i := 4) rfl 2 rfl ?_
        refine e_iconst (k := 29) (v := (2 : Int32)) rfl (by decide) ?_
        refine e_imul (k := 30) rfl ?_
        refine e_ilet h (fun y1 h => ?_)
        refine e_istore (k := 31) (i := 4) (lv' := [(0, .ref (gR g 38)), (3, .int x3), (4, .int y1)]) rfl (by decide) [1, 2, 0] rfl ?_
        refine e_aload_n (k := 32) (i := 0) rfl rfl 0 rfl ?_
        refine e_getC (k := 33) rfl f_X4_9 rfl rfl ?_
        refine e_dup (k := 34) rfl rfl ?_
        refine e_getI (k := 35) rfl f_X4_123 rfl rfl ?_
        refine e_iconst (k := 36) (v := (1 : Int32)) rfl (by decide) ?_
        refine e_iadd (k := 37) rfl ?_
        refine e_putI (k := 38) rfl fg_X4_123 rfl rfl ?_
        refine e_mlet h (fun u2 h => ?_)
        refine e_goto (k := 39) (tgt := 34) rfl (by decide) ?_
        exact ih x3 y1 u2 h
set_option maxRecDepth 20000 in
theorem c_X4_readBroken {g : Gb} (hg : xInj g) {n : Nat} {a0 : Int32} {u0 : Mm} {Q : Mm → Prop} (h : w_X4_readBroken n a0 u0 Q) : xMet (gL g) yX4_readBroken (xws yX4_readBroken cX4_readBroken 7 none) (xRoom 6) (xPc g [.ref (gR g 38), .int a0] u0) (xQ g (pV g Q noT)) (xA g) := by
  refine xbody (il := il_X4_readBroken) hg il_X4_readBroken_ok m_X4_readBroken (Nat.le_of_ble_eq_true rfl) ?_
  show xE g me_X4_readBroken (pV g Q noT) 0 [(0, .ref (gR g 38)), (1, .int a0)] [] u0
  unfold w_X4_readBroken at h
  refine e_aload_n (k := 0) (i := 0) rfl rfl 0 rfl ?_
  refine e_getC (k := 1) rfl f_X4_9 rfl rfl ?_
  refine e_getI (k := 2) rfl f_X4_123 rfl rfl ?_
  refine e_ilet h (fun y1 h => ?_)
  refine e_istore_n (k := 3) (i := 2) (lv' := [(0, .ref (gR g 38)), (1, .int a0), (2, .int y1)]) rfl rfl (by decide) [1, 2, 0] rfl ?_
  refine e_iload_n (k := 4) (i := 1) rfl rfl 1 rfl ?_
  refine e_if_ne (k := 5) (tgt := 22) rfl (by decide) (fun z => ?_) (fun z => ?_)
  · have h := h.1 z
    refine e_aload_n (k := 12) (i := 0) rfl rfl 0 rfl ?_
    refine e_getC (k := 13) rfl f_X4_9 rfl rfl ?_
    refine e_iconst (k := 14) (v := (0 : Int32)) rfl (by decide) ?_
    refine e_callVi (k := 15) (q := 33) (As := [.int (0 : Int32)]) (rest := []) rfl (c_X5_peek (g := g) hg (n := n) h) m_X5_peek i_X5_peek l_X4_126 rfl ⟨_, rfl, rfl⟩ rfl rfl (Nat.le_of_ble_eq_true rfl) ⟨by decide, by decide, rfl, rfl⟩ (fun _ h => h.elim) (fun r1 u1 h => ?_)
    refine e_istore_n (k := 16) (i := 3) (lv' := [(0, .ref (gR g 38)), (1, .int a0), (2, .int y1), (3, .int r1)]) rfl rfl (by decide) [1, 2, 3, 0] rfl ?_
    refine e_iconst (k := 17) (v := (1 : Int32)) rfl (by decide) ?_
    refine e_istore (k := 18) (i := 4) (lv' := [(0, .ref (gR g 38)), (1, .int a0), (2, .int y1), (3, .int r1), (4, .int (1 : Int32))]) rfl (by decide) [1, 2, 3, 4, 0] rfl ?_
    refine e_sub (lv' := [(0, .ref (gR g 38)), (3, .int r1), (4, .int (1 : Int32))]) [0, 3, 4] rfl ?_
    exact s_X4_readBroken_34 hg n r1 (1 : Int32) u1 h
  · have h := h.2 z
    refine e_aload_n (k := 6) (i := 0) rfl rfl 0 rfl ?_
    refine e_getC (k := 7) rfl f_X4_9 rfl rfl ?_
    refine e_iconst (k := 8) (v := (5 : Int32)) rfl (by decide) ?_
    refine e_iload_n (k := 9) (i := 2) rfl rfl 2 rfl ?_
    refine e_callVv (k := 10) (q := 33) (As := [.int (5 : Int32), .int y1]) (rest := []) rfl (c_X5_fail (g := g) hg (n := n) h) m_X5_fail i_X5_fail l_X4_93 rfl ⟨_, rfl, rfl⟩ rfl rfl (Nat.le_of_ble_eq_true rfl) ⟨by decide, by decide, rfl, rfl⟩ (fun _ h => h.elim) (fun u2 h => ?_)
    exact e_vret (k := 11) rfl rfl (Or.inl ⟨rfl, h⟩)
def il_X4_readGroup : List (Nat × Instr × Nat) := [(0, .iload_n 1, 1), (1, .ifCond .eq 29, 3), (4, .aload_n 0, 1), (5, .getfield 48, 3), (8, .invokevirtual 252, 3), (11, .ifCond .ne 19, 3), (14, .aload_n 0, 1), (15, .getfield 9, 3), (18, .iconst 2, 1), (19, .aload_n 0, 1), (20, .getfield 9, 3), (23, .getfield 123, 3), (26, .invokevirtual 93, 3), (29, .return_, 1), (30, .aload_n 0, 1), (31, .getfield 9, 3), (34, .dup, 1), (35, .getfield 123, 3), (38, .iconst 1, 1), (39, .iadd, 1), (40, .putfield 123, 3), (43, .aload_n 0, 1), (44, .getfield 29, 3), (47, .getfield 255, 3), (50, .istore_n 2, 1), (51, .iload_n 1, 1), (52, .ifCond .eq 8, 3), (55, .bipush 12, 2), (57, .goto 5, 3), (60, .bipush 8, 2), (62, .istore_n 3, 1), (63, .iload_n 1, 1), (64, .ifCond .eq 8, 3), (67, .bipush 93, 2), (69, .goto 5, 3), (72, .bipush 125, 2), (74, .istore 4, 2), (76, .iconst 0, 1), (77, .istore 5, 2), (79, .iload 5, 2), (81, .iload_n 3, 1), (82, .if_icmp .gt 82, 3), (85, .aload_n 0, 1), (86, .getfield 9, 3), (89, .getfield 78, 3), (92, .ifCond .ne 72, 3), (95, .iload 5, 2), (97, .ifCond .eq 16, 3), (100, .aload_n 0, 1), (101, .getfield 9, 3), (104, .iconst 0, 1), (105, .invokevirtual 126, 3), (108, .iload 4, 2), (110, .if_icmp .eq 54, 3), (113, .iload 5, 2), (115, .iload_n 3, 1), (116, .if_icmp .ne 27, 3), (119, .aload_n 0, 1), (120, .invokevirtual 204, 3), (123, .iconst 1, 1), (124, .if_icmp .ne 19, 3), (127, .aload_n 0, 1), (128, .getfield 9, 3), (131, .iconst 2, 1), (132, .aload_n 0, 1), (133, .getfield 9, 3), (136, .getfield 123, 3), (139, .invokevirtual 93, 3), (142, .return_, 1), (143, .aload_n 0, 1), (144, .iload_n 1, 1), (145, .ifCond .eq 7, 3), (148, .iconst 0, 1), (149, .goto 4, 3), (152, .iconst 5, 1), (153, .iload 5, 2), (155, .invokevirtual 256, 3), (158, .iinc 5 1, 3), (161, .goto (-82), 3), (164, .aload_n 0, 1), (165, .getfield 9, 3), (168, .dup, 1), (169, .getfield 123, 3), (172, .iconst 1, 1), (173, .iadd, 1), (174, .putfield 123, 3), (177, .iload_n 1, 1), (178, .ifCond .eq 32, 3), (181, .aload_n 0, 1), (182, .getfield 9, 3), (185, .getfield 78, 3), (188, .ifCond .ne 22, 3), (191, .aload_n 0, 1), (192, .invokevirtual 262, 3), (195, .aload_n 0, 1), (196, .iload_n 2, 1), (197, .iload 5, 2), (199, .aload_n 0, 1), (200, .getfield 265, 3), (203, .aload_n 0, 1), (204, .getfield 268, 3), (207, .invokevirtual 259, 3), (210, .return_, 1)]
set_option maxRecDepth 20000 in
theorem il_X4_readGroup_ok : ∀ x ∈ il_X4_readGroup, decode cX4_readGroup x.1 = .ok x.2 := by decide +kernel
abbrev me_X4_readGroup : Me := (RX4, il_X4_readGroup, 6, none, xRoom 6, [])
def w_X4_readGroup_210 (n : Nat) (u0 : Mm) (Q : Mm → Prop) : Prop :=
  Q u0
def w_X4_readGroup_164 (n : Nat) (x1 : Int32) (x2 : Int32) (x5 : Int32) (u0 : Mm) (Q : Mm → Prop) : Prop :=
  mlet (setI u0 33 2 ((u0.1 33 2) + (1 : Int32))) fun u1 =>
  (x1 = 0 → w_X4_readGroup_210 n u1 Q) ∧
  (¬ x1 = 0 → (¬ (u1.1 33 6) = 0 → w_X4_readGroup_210 n u1 Q) ∧
  ((u1.1 33 6) = 0 → w_X4_readLength n u1 (fun u2 =>
  w_X4_finishTimed n x2 x5 (u2.1 38 7) (u2.1 38 8) u2 (fun u3 =>
  w_X4_readGroup_210 n u3 Q))))
def w_X4_readGroup_153 (n : Nat) (L79 : Int32 → Int32 → Int32 → Int32 → Int32 → Mm → Prop) (x1 : Int32) (x2 : Int32) (x3 : Int32) (x4 : Int32) (x5 : Int32) (t0 : Int32) (u0 : Mm) (Q : Mm → Prop) : Prop :=
  w_X4_readNote n t0 x5 u0 (fun u1 =>
  L79 x1 x2 x3 x4 (x5 + (1 : Int32)) u1)
def w_X4_readGroup_143 (n : Nat) (L79 : Int32 → Int32 → Int32 → Int32 → Int32 → Mm → Prop) (x1 : Int32) (x2 : Int32) (x3 : Int32) (x4 : Int32) (x5 : Int32) (u0 : Mm) (Q : Mm → Prop) : Prop :=
  (x1 = 0 → w_X4_readGroup_153 n L79 x1 x2 x3 x4 x5 (5 : Int32) u0 Q) ∧
  (¬ x1 = 0 → w_X4_readGroup_153 n L79 x1 x2 x3 x4 x5 (0 : Int32) u0 Q)
def w_X4_readGroup_113 (n : Nat) (L79 : Int32 → Int32 → Int32 → Int32 → Int32 → Mm → Prop) (x1 : Int32) (x2 : Int32) (x3 : Int32) (x4 : Int32) (x5 : Int32) (u0 : Mm) (Q : Mm → Prop) : Prop :=
  (¬ x5 = x3 → w_X4_readGroup_143 n L79 x1 x2 x3 x4 x5 u0 Q) ∧
  (x5 = x3 → w_X4_formHere n u0 (fun r1 u1 =>
  (¬ r1 = (1 : Int32) → w_X4_readGroup_143 n L79 x1 x2 x3 x4 x5 u1 Q) ∧
  (r1 = (1 : Int32) → w_X5_fail n (2 : Int32) (u1.1 33 2) u1 (fun u2 =>
  Q u2))))
def w_X4_readGroup_79 (n : Nat) (Q : Mm → Prop) : Nat → Int32 → Int32 → Int32 → Int32 → Int32 → Mm → Prop
  | 0, _, _, _, _, _, _ => False
  | k + 1, x1, x2, x3, x4, x5, u0 =>
  (x3 < x5 → w_X4_readGroup_164 n x1 x2 x5 u0 Q) ∧
  (¬ x3 < x5 → (¬ (u0.1 33 6) = 0 → w_X4_readGroup_164 n x1 x2 x5 u0 Q) ∧
  ((u0.1 33 6) = 0 → (x5 = 0 → w_X4_readGroup_113 n (w_X4_readGroup_79 n Q k) x1 x2 x3 x4 x5 u0 Q) ∧
  (¬ x5 = 0 → w_X5_peek n (0 : Int32) u0 (fun r1 u1 =>
  (r1 = x4 → w_X4_readGroup_164 n x1 x2 x5 u1 Q) ∧
  (¬ r1 = x4 → w_X4_readGroup_113 n (w_X4_readGroup_79 n Q k) x1 x2 x3 x4 x5 u1 Q)))))
def w_X4_readGroup_74 (n : Nat) (x1 : Int32) (x2 : Int32) (x3 : Int32) (t0 : Int32) (u0 : Mm) (Q : Mm → Prop) : Prop :=
  (w_X4_readGroup_79 n Q n) x1 x2 x3 t0 (0 : Int32) u0
def w_X4_readGroup_62 (n : Nat) (x1 : Int32) (x2 : Int32) (t0 : Int32) (u0 : Mm) (Q : Mm → Prop) : Prop :=
  (x1 = 0 → w_X4_readGroup_74 n x1 x2 t0 (125 : Int32) u0 Q) ∧
  (¬ x1 = 0 → w_X4_readGroup_74 n x1 x2 t0 (93 : Int32) u0 Q)
def w_X4_readGroup_30 (n : Nat) (x1 : Int32) (u0 : Mm) (Q : Mm → Prop) : Prop :=
  mlet (setI u0 33 2 ((u0.1 33 2) + (1 : Int32))) fun u1 =>
  ilet (u1.1 36 3) fun y1 =>
  (x1 = 0 → w_X4_readGroup_62 n x1 y1 (8 : Int32) u1 Q) ∧
  (¬ x1 = 0 → w_X4_readGroup_62 n x1 y1 (12 : Int32) u1 Q)
def w_X4_readGroup (n : Nat) (a0 : Int32) (u0 : Mm) (Q : Mm → Prop) : Prop :=
  (a0 = 0 → w_X4_readGroup_30 n a0 u0 Q) ∧
  (¬ a0 = 0 → w_X8_enterMeasure n (u0.2.2 2) u0 (fun r1 u1 =>
  (¬ r1 = 0 → w_X4_readGroup_30 n a0 u1 Q) ∧
  (r1 = 0 → w_X5_fail n (2 : Int32) (u1.1 33 2) u1 (fun u2 =>
  Q u2))))
set_option maxRecDepth 20000 in
theorem s_X4_readGroup_210 {g : Gb} (hg : xInj g) {n : Nat} {Q : Mm → Prop} {u0 : Mm} (h : w_X4_readGroup_210 n  u0 Q) : xE g me_X4_readGroup (pV g Q noT) 210 [] [] u0 := by
  unfold w_X4_readGroup_210 at h
  exact e_vret (k := 102) rfl rfl (Or.inl ⟨rfl, h⟩)
set_option maxRecDepth 20000 in
theorem s_X4_readGroup_164 {g : Gb} (hg : xInj g) {n : Nat} {Q : Mm → Prop} {x1 : Int32} {x2 : Int32} {x5 : Int32} {u0 : Mm} (h : w_X4_readGroup_164 n x1 x2 x5 u0 Q) : xE g me_X4_readGroup (pV g Q noT) 164 [(0, .ref (gR g 38)), (1, .int x1), (2, .int x2), (5, .int x5)] [] u0 := by
  unfold w_X4_readGroup_164 at h
  refine e_aload_n (k := 79) (i := 0) rfl rfl 0 rfl ?_
  refine e_getC (k := 80) rfl f_X4_9 rfl rfl ?_
  refine e_dup (k := 81) rfl rfl ?_
  refine e_getI (k := 82) rfl f_X4_123 rfl rfl ?_
  refine e_iconst (k := 83) (v := (1 : Int32)) rfl (by decide) ?_
  refine e_iadd (k := 84) rfl ?_
  refine e_putI (k := 85) rfl fg_X4_123 rfl rfl ?_
  refine e_mlet h (fun u1 h => ?_)
  refine e_iload_n (k := 86) (i := 1) rfl rfl 1 rfl ?_
  refine e_if_eq (k := 87) (tgt := 210) rfl (by decide) (fun z => ?_) (fun z => ?_)
  · have h := h.1 z
    refine e_sub (lv' := []) [] rfl ?_
    exact s_X4_readGroup_210 hg h
  · have h := h.2 z
    refine e_aload_n (k := 88) (i := 0) rfl rfl 0 rfl ?_
    refine e_getC (k := 89) rfl f_X4_9 rfl rfl ?_
    refine e_getI (k := 90) rfl f_X4_78 rfl rfl ?_
    refine e_if_ne (k := 91) (tgt := 210) rfl (by decide) (fun z => ?_) (fun z => ?_)
    · have h := h.1 z
      refine e_sub (lv' := []) [] rfl ?_
      exact s_X4_readGroup_210 hg h
    · have h := h.2 z
      refine e_aload_n (k := 92) (i := 0) rfl rfl 0 rfl ?_
      refine e_callVv (k := 93) (q := 38) (As := []) (rest := []) rfl (c_X4_readLength (g := g) hg (n := n) h) m_X4_readLength i_X4_readLength l_X4_262 rfl ⟨_, rfl, rfl⟩ rfl rfl (Nat.le_of_ble_eq_true rfl) ⟨by decide, by decide, rfl, rfl⟩ (fun _ h => h.elim) (fun u2 h => ?_)
      refine e_aload_n (k := 94) (i := 0) rfl rfl 0 rfl ?_
      refine e_iload_n (k := 95) (i := 2) rfl rfl 2 rfl ?_
      refine e_iload (k := 96) (i := 5) rfl 3 rfl ?_
      refine e_aload_n (k := 97) (i := 0) rfl rfl 0 rfl ?_
      refine e_getI (k := 98) rfl f_X4_265 rfl rfl ?_
      refine e_aload_n (k := 99) (i := 0) rfl rfl 0 rfl ?_
      refine e_getI (k := 100) rfl f_X4_268 rfl rfl ?_
      refine e_callVv (k := 101) (q := 38) (As := [.int x2, .int x5, .int (u2.1 38 7), .int (u2.1 38 8)]) (rest := []) rfl (c_X4_finishTimed (g := g) hg (n := n) h) m_X4_finishTimed i_X4_finishTimed l_X4_259 rfl ⟨_, rfl, rfl⟩ rfl rfl (Nat.le_of_ble_eq_true rfl) ⟨by decide, by decide, rfl, rfl⟩ (fun _ h => h.elim) (fun u3 h => ?_)
      refine e_sub (lv' := []) [] rfl ?_
      exact s_X4_readGroup_210 hg h
set_option maxRecDepth 20000 in
theorem s_X4_readGroup_153 {g : Gb} (hg : xInj g) {n : Nat} {Q : Mm → Prop} {L79 : Int32 → Int32 → Int32 → Int32 → Int32 → Mm → Prop} (hL79 : ∀ (x1 : Int32) (x2 : Int32) (x3 : Int32) (x4 : Int32) (x5 : Int32) (u0 : Mm), L79 x1 x2 x3 x4 x5 u0 → xE g me_X4_readGroup (pV g Q noT) 79 [(0, .ref (gR g 38)), (1, .int x1), (2, .int x2), (3, .int x3), (4, .int x4), (5, .int x5)] [] u0) {x1 : Int32} {x2 : Int32} {x3 : Int32} {x4 : Int32} {x5 : Int32} {t0 : Int32} {u0 : Mm} (h : w_X4_readGroup_153 n L79 x1 x2 x3 x4 x5 t0 u0 Q) : xE g me_X4_readGroup (pV g Q noT) 153 [(0, .ref (gR g 38)), (1, .int x1), (2, .int x2), (3, .int x3), (4, .int x4), (5, .int x5)] [.int t0, .ref (gR g 38)] u0 := by
  unfold w_X4_readGroup_153 at h
  refine e_iload (k := 75) (i := 5) rfl 5 rfl ?_
  refine e_callVv (k := 76) (q := 38) (As := [.int t0, .int x5]) (rest := []) rfl (c_X4_readNote (g := g) hg (n := n) h) m_X4_readNote i_X4_readNote l_X4_256 rfl ⟨_, rfl, rfl⟩ rfl rfl (Nat.le_of_ble_eq_true rfl) ⟨by decide, by decide, rfl, rfl⟩ (fun _ h => h.elim) (fun u1 h => ?_)
  refine e_iinc (k := 77) (i := 5) (j := 5) (v := (x5 + (1 : Int32))) (lv' := [(0, .ref (gR g 38)), (1, .int x1), (2, .int x2), (3, .int x3), (4, .int x4), (5, .int (x5 + (1 : Int32)))]) rfl rfl rfl (by decide) [1, 2, 3, 4, 5, 0] rfl ?_
  refine e_goto (k := 78) (tgt := 79) rfl (by decide) ?_
  exact hL79 x1 x2 x3 x4 (x5 + (1 : Int32)) u1 h
set_option maxRecDepth 20000 in
theorem s_X4_readGroup_143 {g : Gb} (hg : xInj g) {n : Nat} {Q : Mm → Prop} {L79 : Int32 → Int32 → Int32 → Int32 → Int32 → Mm → Prop} (hL79 : ∀ (x1 : Int32) (x2 : Int32) (x3 : Int32) (x4 : Int32) (x5 : Int32) (u0 : Mm), L79 x1 x2 x3 x4 x5 u0 → xE g me_X4_readGroup (pV g Q noT) 79 [(0, .ref (gR g 38)), (1, .int x1), (2, .int x2), (3, .int x3), (4, .int x4), (5, .int x5)] [] u0) {x1 : Int32} {x2 : Int32} {x3 : Int32} {x4 : Int32} {x5 : Int32} {u0 : Mm} (h : w_X4_readGroup_143 n L79 x1 x2 x3 x4 x5 u0 Q) : xE g me_X4_readGroup (pV g Q noT) 143 [(0, .ref (gR g 38)), (1, .int x1), (2, .int x2), (3, .int x3), (4, .int x4), (5, .int x5)] [] u0 := by
  unfold w_X4_readGroup_143 at h
  refine e_aload_n (k := 69) (i := 0) rfl rfl 0 rfl ?_
  refine e_iload_n (k := 70) (i := 1) rfl rfl 1 rfl ?_
  refine e_if_eq (k := 71) (tgt := 152) rfl (by decide) (fun z => ?_) (fun z => ?_)
  · have h := h.1 z
    refine e_iconst (k := 74) (v := (5 : Int32)) rfl (by decide) ?_
    exact s_X4_readGroup_153 hg hL79 h
  · have h := h.2 z
    refine e_iconst (k := 72) (v := (0 : Int32)) rfl (by decide) ?_
    refine e_goto (k := 73) (tgt := 153) rfl (by decide) ?_
    exact s_X4_readGroup_153 hg hL79 h
set_option maxRecDepth 20000 in
theorem s_X4_readGroup_113 {g : Gb} (hg : xInj g) {n : Nat} {Q : Mm → Prop} {L79 : Int32 → Int32 → Int32 → Int32 → Int32 → Mm → Prop} (hL79 : ∀ (x1 : Int32) (x2 : Int32) (x3 : Int32) (x4 : Int32) (x5 : Int32) (u0 : Mm), L79 x1 x2 x3 x4 x5 u0 → xE g me_X4_readGroup (pV g Q noT) 79 [(0, .ref (gR g 38)), (1, .int x1), (2, .int x2), (3, .int x3), (4, .int x4), (5, .int x5)] [] u0) {x1 : Int32} {x2 : Int32} {x3 : Int32} {x4 : Int32} {x5 : Int32} {u0 : Mm} (h : w_X4_readGroup_113 n L79 x1 x2 x3 x4 x5 u0 Q) : xE g me_X4_readGroup (pV g Q noT) 113 [(0, .ref (gR g 38)), (1, .int x1), (2, .int x2), (3, .int x3), (4, .int x4), (5, .int x5)] [] u0 := by
  unfold w_X4_readGroup_113 at h
  refine e_iload (k := 54) (i := 5) rfl 5 rfl ?_
  refine e_iload_n (k := 55) (i := 3) rfl rfl 3 rfl ?_
  refine e_icmp_ne (k := 56) (tgt := 143) rfl (by decide) (fun z => ?_) (fun z => ?_)
  · have h := h.1 z
    exact s_X4_readGroup_143 hg hL79 h
  · have h := h.2 z
    refine e_aload_n (k := 57) (i := 0) rfl rfl 0 rfl ?_
    refine e_callVi (k := 58) (q := 38) (As := []) (rest := []) rfl (c_X4_formHere (g := g) hg (n := n) h) m_X4_formHere i_X4_formHere l_X4_204 rfl ⟨_, rfl, rfl⟩ rfl rfl (Nat.le_of_ble_eq_true rfl) ⟨by decide, by decide, rfl, rfl⟩ (fun _ h => h.elim) (fun r1 u1 h => ?_)
    refine e_iconst (k := 59) (v := (1 : Int32)) rfl (by decide) ?_
    refine e_icmp_ne (k := 60) (tgt := 143) rfl (by decide) (fun z => ?_) (fun z => ?_)
    · have h := h.1 z
      exact s_X4_readGroup_143 hg hL79 h
    · have h := h.2 z
      refine e_aload_n (k := 61) (i := 0) rfl rfl 0 rfl ?_
      refine e_getC (k := 62) rfl f_X4_9 rfl rfl ?_
      refine e_iconst (k := 63) (v := (2 : Int32)) rfl (by decide) ?_
      refine e_aload_n (k := 64) (i := 0) rfl rfl 0 rfl ?_
      refine e_getC (k := 65) rfl f_X4_9 rfl rfl ?_
      refine e_getI (k := 66) rfl f_X4_123 rfl rfl ?_
      refine e_callVv (k := 67) (q := 33) (As := [.int (2 : Int32), .int (u1.1 33 2)]) (rest := []) rfl (c_X5_fail (g := g) hg (n := n) h) m_X5_fail i_X5_fail l_X4_93 rfl ⟨_, rfl, rfl⟩ rfl rfl (Nat.le_of_ble_eq_true rfl) ⟨by decide, by decide, rfl, rfl⟩ (fun _ h => h.elim) (fun u2 h => ?_)
      exact e_vret (k := 68) rfl rfl (Or.inl ⟨rfl, h⟩)
set_option maxRecDepth 20000 in
theorem s_X4_readGroup_79 {g : Gb} (hg : xInj g) {n : Nat} {Q : Mm → Prop} : ∀ (k : Nat) (x1 : Int32) (x2 : Int32) (x3 : Int32) (x4 : Int32) (x5 : Int32) (u0 : Mm), w_X4_readGroup_79 n Q k x1 x2 x3 x4 x5 u0 → xE g me_X4_readGroup (pV g Q noT) 79 [(0, .ref (gR g 38)), (1, .int x1), (2, .int x2), (3, .int x3), (4, .int x4), (5, .int x5)] [] u0 := by
  intro k
  induction k with
  | zero => intro x1 x2 x3 x4 x5 u0 h; exact h.elim
  | succ k ih =>
    intro x1 x2 x3 x4 x5 u0 h
    unfold w_X4_readGroup_79 at h
    refine e_iload (k := 39) (i := 5) rfl 5 rfl ?_
    refine e_iload_n (k := 40) (i := 3) rfl rfl 3 rfl ?_
    refine e_icmp_gt (k := 41) (tgt := 164) rfl (by decide) (fun z => ?_) (fun z => ?_)
    · have h := h.1 z
      refine e_sub (lv' := [(0, .ref (gR g 38)), (1, .int x1), (2, .int x2), (5, .int x5)]) [0, 1, 2, 5] rfl ?_
      exact s_X4_readGroup_164 hg h
    · have h := h.2 z
      refine e_aload_n (k := 42) (i := 0) rfl rfl 0 rfl ?_
      refine e_getC (k := 43) rfl f_X4_9 rfl rfl ?_
      refine e_getI (k := 44) rfl f_X4_78 rfl rfl ?_
      refine e_if_ne (k := 45) (tgt := 164) rfl (by decide) (fun z => ?_) (fun z => ?_)
      · have h := h.1 z
        refine e_sub (lv' := [(0, .ref (gR g 38)), (1, .int x1), (2, .int x2), (5, .int x5)]) [0, 1, 2, 5] rfl ?_
        exact s_X4_readGroup_164 hg h
      · have h := h.2 z
        refine e_iload (k := 46) (i := 5) rfl 5 rfl ?_
        refine e_if_eq (k := 47) (tgt := 113) rfl (by decide) (fun z => ?_) (fun z => ?_)
        · have h := h.1 z
          exact s_X4_readGroup_113 hg ih h
        · have h := h.2 z
          refine e_aload_n (k := 48) (i := 0) rfl rfl 0 rfl ?_
          refine e_getC (k := 49) rfl f_X4_9 rfl rfl ?_
          refine e_iconst (k := 50) (v := (0 : Int32)) rfl (by decide) ?_
          refine e_callVi (k := 51) (q := 33) (As := [.int (0 : Int32)]) (rest := []) rfl (c_X5_peek (g := g) hg (n := n) h) m_X5_peek i_X5_peek l_X4_126 rfl ⟨_, rfl, rfl⟩ rfl rfl (Nat.le_of_ble_eq_true rfl) ⟨by decide, by decide, rfl, rfl⟩ (fun _ h => h.elim) (fun r1 u1 h => ?_)
          refine e_iload (k := 52) (i := 4) rfl 4 rfl ?_
          refine e_icmp_eq (k := 53) (tgt := 164) rfl (by decide) (fun z => ?_) (fun z => ?_)
          · have h := h.1 z
            refine e_sub (lv' := [(0, .ref (gR g 38)), (1, .int x1), (2, .int x2), (5, .int x5)]) [0, 1, 2, 5] rfl ?_
            exact s_X4_readGroup_164 hg h
          · have h := h.2 z
            exact s_X4_readGroup_113 hg ih h
set_option maxRecDepth 20000 in
theorem s_X4_readGroup_74 {g : Gb} (hg : xInj g) {n : Nat} {Q : Mm → Prop} {x1 : Int32} {x2 : Int32} {x3 : Int32} {t0 : Int32} {u0 : Mm} (h : w_X4_readGroup_74 n x1 x2 x3 t0 u0 Q) : xE g me_X4_readGroup (pV g Q noT) 74 [(0, .ref (gR g 38)), (1, .int x1), (2, .int x2), (3, .int x3)] [.int t0] u0 := by
  unfold w_X4_readGroup_74 at h
  refine e_istore (k := 36) (i := 4) (lv' := [(0, .ref (gR g 38)), (1, .int x1), (2, .int x2), (3, .int x3), (4, .int t0)]) rfl (by decide) [1, 2, 3, 4, 0] rfl ?_
  refine e_iconst (k := 37) (v := (0 : Int32)) rfl (by decide) ?_
  refine e_istore (k := 38) (i := 5) (lv' := [(0, .ref (gR g 38)), (1, .int x1), (2, .int x2), (3, .int x3), (4, .int t0), (5, .int (0 : Int32))]) rfl (by decide) [1, 2, 3, 4, 5, 0] rfl ?_
  exact s_X4_readGroup_79 hg n x1 x2 x3 t0 (0 : Int32) u0 h
set_option maxRecDepth 20000 in
theorem s_X4_readGroup_62 {g : Gb} (hg : xInj g) {n : Nat} {Q : Mm → Prop} {x1 : Int32} {x2 : Int32} {t0 : Int32} {u0 : Mm} (h : w_X4_readGroup_62 n x1 x2 t0 u0 Q) : xE g me_X4_readGroup (pV g Q noT) 62 [(0, .ref (gR g 38)), (1, .int x1), (2, .int x2)] [.int t0] u0 := by
  unfold w_X4_readGroup_62 at h
  refine e_istore_n (k := 30) (i := 3) (lv' := [(0, .ref (gR g 38)), (1, .int x1), (2, .int x2), (3, .int t0)]) rfl rfl (by decide) [1, 2, 3, 0] rfl ?_
  refine e_iload_n (k := 31) (i := 1) rfl rfl 1 rfl ?_
  refine e_if_eq (k := 32) (tgt := 72) rfl (by decide) (fun z => ?_) (fun z => ?_)
  · have h := h.1 z
    refine e_bipush (k := 35) (v := (125 : Int32)) rfl (by decide) ?_
    exact s_X4_readGroup_74 hg h
  · have h := h.2 z
    refine e_bipush (k := 33) (v := (93 : Int32)) rfl (by decide) ?_
    refine e_goto (k := 34) (tgt := 74) rfl (by decide) ?_
    exact s_X4_readGroup_74 hg h
set_option maxRecDepth 20000 in
theorem s_X4_readGroup_30 {g : Gb} (hg : xInj g) {n : Nat} {Q : Mm → Prop} {x1 : Int32} {u0 : Mm} (h : w_X4_readGroup_30 n x1 u0 Q) : xE g me_X4_readGroup (pV g Q noT) 30 [(0, .ref (gR g 38)), (1, .int x1)] [] u0 := by
  unfold w_X4_readGroup_30 at h
  refine e_aload_n (k := 14) (i := 0) rfl rfl 0 rfl ?_
  refine e_getC (k := 15) rfl f_X4_9 rfl rfl ?_
  refine e_dup (k := 16) rfl rfl ?_
  refine e_getI (k := 17) rfl f_X4_123 rfl rfl ?_
  refine e_iconst (k := 18) (v := (1 : Int32)) rfl (by decide) ?_
  refine e_iadd (k := 19) rfl ?_
  refine e_putI (k := 20) rfl fg_X4_123 rfl rfl ?_
  refine e_mlet h (fun u1 h => ?_)
  refine e_aload_n (k := 21) (i := 0) rfl rfl 0 rfl ?_
  refine e_getC (k := 22) rfl f_X4_29 rfl rfl ?_
  refine e_getI (k := 23) rfl f_X4_255 rfl rfl ?_
  refine e_ilet h (fun y1 h => ?_)
  refine e_istore_n (k := 24) (i := 2) (lv' := [(0, .ref (gR g 38)), (1, .int x1), (2, .int y1)]) rfl rfl (by decide) [1, 2, 0] rfl ?_
  refine e_iload_n (k := 25) (i := 1) rfl rfl 1 rfl ?_
  refine e_if_eq (k := 26) (tgt := 60) rfl (by decide) (fun z => ?_) (fun z => ?_)
  · have h := h.1 z
    refine e_bipush (k := 29) (v := (8 : Int32)) rfl (by decide) ?_
    exact s_X4_readGroup_62 hg h
  · have h := h.2 z
    refine e_bipush (k := 27) (v := (12 : Int32)) rfl (by decide) ?_
    refine e_goto (k := 28) (tgt := 62) rfl (by decide) ?_
    exact s_X4_readGroup_62 hg h
set_option maxRecDepth 20000 in
theorem c_X4_readGroup {g : Gb} (hg : xInj g) {n : Nat} {a0 : Int32} {u0 : Mm} {Q : Mm → Prop} (h : w_X4_readGroup n a0 u0 Q) : xMet (gL g) yX4_readGroup (xws yX4_readGroup cX4_readGroup 6 none) (xRoom 6) (xPc g [.ref (gR g 38), .int a0] u0) (xQ g (pV g Q noT)) (xA g) := by
  refine xbody (il := il_X4_readGroup) hg il_X4_readGroup_ok m_X4_readGroup (Nat.le_of_ble_eq_true rfl) ?_
  show xE g me_X4_readGroup (pV g Q noT) 0 [(0, .ref (gR g 38)), (1, .int a0)] [] u0
  unfold w_X4_readGroup at h
  refine e_iload_n (k := 0) (i := 1) rfl rfl 1 rfl ?_
  refine e_if_eq (k := 1) (tgt := 30) rfl (by decide) (fun z => ?_) (fun z => ?_)
  · have h := h.1 z
    exact s_X4_readGroup_30 hg h
  · have h := h.2 z
    refine e_aload_n (k := 2) (i := 0) rfl rfl 0 rfl ?_
    refine e_getP (k := 3) rfl f_X4_48 rfl rfl (fun ty1 => ?_)
    refine e_callVi (k := 4) (q := (u0.2.2 2)) (As := []) (rest := []) rfl (c_X8_enterMeasure (g := g) hg (n := n) ty1.2.2 h) m_X8_enterMeasure i_X8_enterMeasure l_X4_252 ty1.2.2 ⟨_, rfl, rfl⟩ rfl rfl (Nat.le_of_ble_eq_true rfl) ⟨by decide, by decide, rfl, rfl⟩ (fun _ h => h.elim) (fun r1 u1 h => ?_)
    refine e_if_ne (k := 5) (tgt := 30) rfl (by decide) (fun z => ?_) (fun z => ?_)
    · have h := h.1 z
      exact s_X4_readGroup_30 hg h
    · have h := h.2 z
      refine e_aload_n (k := 6) (i := 0) rfl rfl 0 rfl ?_
      refine e_getC (k := 7) rfl f_X4_9 rfl rfl ?_
      refine e_iconst (k := 8) (v := (2 : Int32)) rfl (by decide) ?_
      refine e_aload_n (k := 9) (i := 0) rfl rfl 0 rfl ?_
      refine e_getC (k := 10) rfl f_X4_9 rfl rfl ?_
      refine e_getI (k := 11) rfl f_X4_123 rfl rfl ?_
      refine e_callVv (k := 12) (q := 33) (As := [.int (2 : Int32), .int (u1.1 33 2)]) (rest := []) rfl (c_X5_fail (g := g) hg (n := n) h) m_X5_fail i_X5_fail l_X4_93 rfl ⟨_, rfl, rfl⟩ rfl rfl (Nat.le_of_ble_eq_true rfl) ⟨by decide, by decide, rfl, rfl⟩ (fun _ h => h.elim) (fun u2 h => ?_)
      exact e_vret (k := 13) rfl rfl (Or.inl ⟨rfl, h⟩)
def il_X4_readSingle : List (Nat × Instr × Nat) := [(0, .aload_n 0, 1), (1, .getfield 48, 3), (4, .invokevirtual 252, 3), (7, .ifCond .ne 19, 3), (10, .aload_n 0, 1), (11, .getfield 9, 3), (14, .iconst 2, 1), (15, .aload_n 0, 1), (16, .getfield 9, 3), (19, .getfield 123, 3), (22, .invokevirtual 93, 3), (25, .return_, 1), (26, .aload_n 0, 1), (27, .getfield 29, 3), (30, .getfield 255, 3), (33, .istore_n 1, 1), (34, .aload_n 0, 1), (35, .iconst 0, 1), (36, .iconst 0, 1), (37, .invokevirtual 256, 3), (40, .aload_n 0, 1), (41, .iload_n 1, 1), (42, .iconst 1, 1), (43, .iconst 1, 1), (44, .iconst 1, 1), (45, .invokevirtual 259, 3), (48, .return_, 1)]
set_option maxRecDepth 20000 in
theorem il_X4_readSingle_ok : ∀ x ∈ il_X4_readSingle, decode cX4_readSingle x.1 = .ok x.2 := by decide +kernel
abbrev me_X4_readSingle : Me := (RX4, il_X4_readSingle, 2, none, xRoom 6, [])
def w_X4_readSingle (n : Nat) (u0 : Mm) (Q : Mm → Prop) : Prop :=
  w_X8_enterMeasure n (u0.2.2 2) u0 (fun r1 u1 =>
  (¬ r1 = 0 → ilet (u1.1 36 3) fun y1 =>
  w_X4_readNote n (0 : Int32) (0 : Int32) u1 (fun u2 =>
  w_X4_finishTimed n y1 (1 : Int32) (1 : Int32) (1 : Int32) u2 (fun u3 =>
  Q u3))) ∧
  (r1 = 0 → w_X5_fail n (2 : Int32) (u1.1 33 2) u1 (fun u4 =>
  Q u4)))
set_option maxRecDepth 20000 in
theorem c_X4_readSingle {g : Gb} (hg : xInj g) {n : Nat} {u0 : Mm} {Q : Mm → Prop} (h : w_X4_readSingle n u0 Q) : xMet (gL g) yX4_readSingle (xws yX4_readSingle cX4_readSingle 2 none) (xRoom 6) (xPc g [.ref (gR g 38)] u0) (xQ g (pV g Q noT)) (xA g) := by
  refine xbody (il := il_X4_readSingle) hg il_X4_readSingle_ok m_X4_readSingle (Nat.le_of_ble_eq_true rfl) ?_
  show xE g me_X4_readSingle (pV g Q noT) 0 [(0, .ref (gR g 38))] [] u0
  unfold w_X4_readSingle at h
  refine e_aload_n (k := 0) (i := 0) rfl rfl 0 rfl ?_
  refine e_getP (k := 1) rfl f_X4_48 rfl rfl (fun ty1 => ?_)
  refine e_callVi (k := 2) (q := (u0.2.2 2)) (As := []) (rest := []) rfl (c_X8_enterMeasure (g := g) hg (n := n) ty1.2.2 h) m_X8_enterMeasure i_X8_enterMeasure l_X4_252 ty1.2.2 ⟨_, rfl, rfl⟩ rfl rfl (Nat.le_of_ble_eq_true rfl) ⟨by decide, by decide, rfl, rfl⟩ (fun _ h => h.elim) (fun r1 u1 h => ?_)
  refine e_if_ne (k := 3) (tgt := 26) rfl (by decide) (fun z => ?_) (fun z => ?_)
  · have h := h.1 z
    refine e_aload_n (k := 12) (i := 0) rfl rfl 0 rfl ?_
    refine e_getC (k := 13) rfl f_X4_29 rfl rfl ?_
    refine e_getI (k := 14) rfl f_X4_255 rfl rfl ?_
    refine e_ilet h (fun y1 h => ?_)
    refine e_istore_n (k := 15) (i := 1) (lv' := [(0, .ref (gR g 38)), (1, .int y1)]) rfl rfl (by decide) [1, 0] rfl ?_
    refine e_aload_n (k := 16) (i := 0) rfl rfl 0 rfl ?_
    refine e_iconst (k := 17) (v := (0 : Int32)) rfl (by decide) ?_
    refine e_iconst (k := 18) (v := (0 : Int32)) rfl (by decide) ?_
    refine e_callVv (k := 19) (q := 38) (As := [.int (0 : Int32), .int (0 : Int32)]) (rest := []) rfl (c_X4_readNote (g := g) hg (n := n) h) m_X4_readNote i_X4_readNote l_X4_256 rfl ⟨_, rfl, rfl⟩ rfl rfl (Nat.le_of_ble_eq_true rfl) ⟨by decide, by decide, rfl, rfl⟩ (fun _ h => h.elim) (fun u2 h => ?_)
    refine e_aload_n (k := 20) (i := 0) rfl rfl 0 rfl ?_
    refine e_iload_n (k := 21) (i := 1) rfl rfl 1 rfl ?_
    refine e_iconst (k := 22) (v := (1 : Int32)) rfl (by decide) ?_
    refine e_iconst (k := 23) (v := (1 : Int32)) rfl (by decide) ?_
    refine e_iconst (k := 24) (v := (1 : Int32)) rfl (by decide) ?_
    refine e_callVv (k := 25) (q := 38) (As := [.int y1, .int (1 : Int32), .int (1 : Int32), .int (1 : Int32)]) (rest := []) rfl (c_X4_finishTimed (g := g) hg (n := n) h) m_X4_finishTimed i_X4_finishTimed l_X4_259 rfl ⟨_, rfl, rfl⟩ rfl rfl (Nat.le_of_ble_eq_true rfl) ⟨by decide, by decide, rfl, rfl⟩ (fun _ h => h.elim) (fun u3 h => ?_)
    exact e_vret (k := 26) rfl rfl (Or.inl ⟨rfl, h⟩)
  · have h := h.2 z
    refine e_aload_n (k := 4) (i := 0) rfl rfl 0 rfl ?_
    refine e_getC (k := 5) rfl f_X4_9 rfl rfl ?_
    refine e_iconst (k := 6) (v := (2 : Int32)) rfl (by decide) ?_
    refine e_aload_n (k := 7) (i := 0) rfl rfl 0 rfl ?_
    refine e_getC (k := 8) rfl f_X4_9 rfl rfl ?_
    refine e_getI (k := 9) rfl f_X4_123 rfl rfl ?_
    refine e_callVv (k := 10) (q := 33) (As := [.int (2 : Int32), .int (u1.1 33 2)]) (rest := []) rfl (c_X5_fail (g := g) hg (n := n) h) m_X5_fail i_X5_fail l_X4_93 rfl ⟨_, rfl, rfl⟩ rfl rfl (Nat.le_of_ble_eq_true rfl) ⟨by decide, by decide, rfl, rfl⟩ (fun _ h => h.elim) (fun u4 h => ?_)
    exact e_vret (k := 11) rfl rfl (Or.inl ⟨rfl, h⟩)
