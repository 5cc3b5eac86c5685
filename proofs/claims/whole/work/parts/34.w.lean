/-! methods (by program) -/
def il_X12_readOne : List (Nat × Instr × Nat) := [(0, .aload_n 0, 1), (1, .invokevirtual 162, 3), (4, .istore_n 1, 1), (5, .iload_n 1, 1), (6, .bipush 62, 2), (8, .if_icmp .eq 9, 3), (11, .iload_n 1, 1), (12, .bipush 60, 2), (14, .if_icmp .ne 8, 3), (17, .aload_n 0, 1), (18, .invokevirtual 452, 3), (21, .return_, 1), (22, .aload_n 0, 1), (23, .invokevirtual 426, 3), (26, .ifCond .eq 16, 3), (29, .aload_n 0, 1), (30, .invokevirtual 429, 3), (33, .aload_n 0, 1), (34, .aload_n 0, 1), (35, .getfield 423, 3), (38, .putfield 432, 3), (41, .return_, 1), (42, .aload_n 0, 1), (43, .iconst (-1), 1), (44, .putfield 423, 3), (47, .aload_n 0, 1), (48, .invokevirtual 377, 3), (51, .ifCond .eq 10, 3), (54, .aload_n 0, 1), (55, .invokevirtual 455, 3), (58, .goto 163, 3), (61, .aload_n 0, 1), (62, .invokevirtual 381, 3), (65, .ifCond .eq 36, 3), (68, .aload_n 0, 1), (69, .getfield 138, 3), (72, .istore_n 2, 1), (73, .aload_n 0, 1), (74, .dup, 1), (75, .getfield 138, 3), (78, .iconst 1, 1), (79, .iadd, 1), (80, .putfield 138, 3), (83, .aload_n 0, 1), (84, .iload_n 2, 1), (85, .invokevirtual 458, 3), (88, .aload_n 0, 1), (89, .invokevirtual 241, 3), (92, .aload_n 0, 1), (93, .bipush 93, 2), (95, .invokevirtual 211, 3), (98, .goto 123, 3), (101, .iload_n 1, 1), (102, .bipush 123, 2), (104, .if_icmp .ne 10, 3), (107, .aload_n 0, 1), (108, .invokevirtual 461, 3), (111, .goto 110, 3), (114, .iload_n 1, 1), (115, .bipush 90, 2), (117, .if_icmp .ne 10, 3), (120, .aload_n 0, 1), (121, .invokevirtual 464, 3), (124, .goto 97, 3), (127, .iload_n 1, 1), (128, .bipush 40, 2), (130, .if_icmp .ne 10, 3), (133, .aload_n 0, 1), (134, .invokevirtual 467, 3), (137, .goto 84, 3), (140, .iload_n 1, 1), (141, .bipush 41, 2), (143, .if_icmp .ne 10, 3), (146, .aload_n 0, 1), (147, .invokevirtual 470, 3), (150, .goto 71, 3), (153, .iload_n 1, 1), (154, .bipush 33, 2), (156, .if_icmp .ne 10, 3), (159, .aload_n 0, 1), (160, .invokevirtual 473, 3), (163, .goto 58, 3), (166, .iload_n 1, 1), (167, .bipush 34, 2), (169, .if_icmp .ne 10, 3), (172, .aload_n 0, 1), (173, .invokevirtual 476, 3), (176, .goto 45, 3), (179, .iload_n 1, 1), (180, .invokestatic 479, 3), (183, .ifCond .le 29, 3), (186, .aload_n 0, 1), (187, .aload_n 0, 1), (188, .getfield 410, 3), (191, .iload_n 1, 1), (192, .invokestatic 479, 3), (195, .ior, 1), (196, .putfield 410, 3), (199, .aload_n 0, 1), (200, .dup, 1), (201, .getfield 138, 3), (204, .iconst 1, 1), (205, .iadd, 1), (206, .putfield 138, 3), (209, .goto 12, 3), (212, .aload_n 0, 1), (213, .iconst 1, 1), (214, .aload_n 0, 1), (215, .getfield 138, 3), (218, .invokevirtual 148, 3), (221, .return_, 1)]
set_option maxRecDepth 20000 in
theorem il_X12_readOne_ok : ∀ x ∈ il_X12_readOne, decode cX12_readOne x.1 = .ok x.2 := by decide +kernel
abbrev me_X12_readOne : Me := (RX12, il_X12_readOne, 3, none, xRoom 8, [])
def w_X12_readOne_221 (n : Nat) (u0 : Mm) (Q : Mm → Prop) (T : Mm → Prop) : Prop :=
  Q u0
def w_X12_readOne_17 (n : Nat) (u0 : Mm) (Q : Mm → Prop) (T : Mm → Prop) : Prop :=
  w_X12_readBroken n u0 (fun u1 =>
  Q u1) T
def w_X12_readOne (n : Nat) (u0 : Mm) (Q : Mm → Prop) (T : Mm → Prop) : Prop :=
  w_X12_here n u0 (fun r1 u1 =>
  (r1 = (62 : Int32) → w_X12_readOne_17 n u1 Q T) ∧
  (¬ r1 = (62 : Int32) → (¬ r1 = (60 : Int32) → w_X12_beginsTimed n u1 (fun r2 u2 =>
  (r2 = 0 → mlet (setI u2 0 49 (-1 : Int32)) fun u3 =>
  w_X12_isBarHere n u3 (fun r3 u4 =>
  (r3 = 0 → w_X12_isFieldHere n u4 (fun r4 u5 =>
  (r4 = 0 → (¬ r1 = (123 : Int32) → (¬ r1 = (90 : Int32) → (¬ r1 = (40 : Int32) → (¬ r1 = (41 : Int32) → (¬ r1 = (33 : Int32) → (¬ r1 = (34 : Int32) → w_X12_ornament n r1 u5 (fun r5 u6 =>
  (r5 ≤ 0 → w_X12_fail n (1 : Int32) (u6.1 0 7) u6 (fun u7 =>
  w_X12_readOne_221 n u7 Q T) T) ∧
  (¬ r5 ≤ 0 → w_X12_ornament n r1 u6 (fun r6 u8 =>
  mlet (setI u8 0 42 ((u6.1 0 42) ||| r6)) fun u9 =>
  mlet (setI u9 0 7 ((u9.1 0 7) + (1 : Int32))) fun u10 =>
  w_X12_readOne_221 n u10 Q T) T)) T) ∧
  (r1 = (34 : Int32) → w_X12_readQuote n u5 (fun u11 =>
  w_X12_readOne_221 n u11 Q T) T)) ∧
  (r1 = (33 : Int32) → w_X12_readSay n u5 (fun u12 =>
  w_X12_readOne_221 n u12 Q T) T)) ∧
  (r1 = (41 : Int32) → w_X12_readClose n u5 (fun u13 =>
  w_X12_readOne_221 n u13 Q T) T)) ∧
  (r1 = (40 : Int32) → w_X12_readOpen n u5 (fun u14 =>
  w_X12_readOne_221 n u14 Q T) T)) ∧
  (r1 = (90 : Int32) → w_X12_readBars n u5 (fun u15 =>
  w_X12_readOne_221 n u15 Q T) T)) ∧
  (r1 = (123 : Int32) → w_X12_readGraces n u5 (fun u16 =>
  w_X12_readOne_221 n u16 Q T) T)) ∧
  (¬ r4 = 0 → ilet (u5.1 0 7) fun y1 =>
  mlet (setI u5 0 7 ((u5.1 0 7) + (1 : Int32))) fun u17 =>
  w_X12_readField n y1 u17 (fun u18 =>
  w_X12_blanks n u18 (fun u19 =>
  w_X12_must n (93 : Int32) u19 (fun u20 =>
  w_X12_readOne_221 n u20 Q T) T) T) T)) T) ∧
  (¬ r3 = 0 → w_X12_readBar n u4 (fun u21 =>
  w_X12_readOne_221 n u21 Q T) T)) T) ∧
  (¬ r2 = 0 → w_X12_readTimed n u2 (fun u22 =>
  mlet (setI u22 0 63 (u22.1 0 49)) fun u23 =>
  Q u23) T)) T) ∧
  (r1 = (60 : Int32) → w_X12_readOne_17 n u1 Q T))) T
set_option maxRecDepth 20000 in
theorem s_X12_readOne_221 {g : Gb} (hg : xInj g) {n : Nat} {Q : Mm → Prop} {T : Mm → Prop} {u0 : Mm} (h : w_X12_readOne_221 n  u0 Q T) : xE g me_X12_readOne (pV g Q T) 221 [] [] u0 := by
  unfold w_X12_readOne_221 at h
  exact e_vret (k := 110) rfl rfl (Or.inl ⟨rfl, h⟩)
set_option maxRecDepth 20000 in
theorem s_X12_readOne_17 {g : Gb} (hg : xInj g) {n : Nat} {Q : Mm → Prop} {T : Mm → Prop} {u0 : Mm} (h : w_X12_readOne_17 n  u0 Q T) : xE g me_X12_readOne (pV g Q T) 17 [(0, .ref (gR g 0))] [] u0 := by
  unfold w_X12_readOne_17 at h
  refine e_aload_n (k := 9) (i := 0) rfl rfl 0 rfl ?_
  refine e_callVv (k := 10) (q := 0) (As := []) (rest := []) rfl (c_X12_readBroken (g := g) hg (n := n) h) m_X12_readBroken i_X12_readBroken l_X12_452 rfl ⟨_, rfl, rfl⟩ rfl rfl (Nat.le_of_ble_eq_true rfl) ⟨by decide, by decide, rfl, rfl⟩ (fun _ h => ⟨fun _ z => (by cases z), Or.inr ⟨rfl, h⟩⟩) (fun u1 h => ?_)
  exact e_vret (k := 11) rfl rfl (Or.inl ⟨rfl, h⟩)
set_option maxRecDepth 20000 in
theorem c_X12_readOne {g : Gb} (hg : xInj g) {n : Nat} {u0 : Mm} {Q : Mm → Prop} {T : Mm → Prop} (h : w_X12_readOne n u0 Q T) : xMet (gL g) yX12_readOne (xws yX12_readOne cX12_readOne 3 none) (xRoom 8) (xPc g [.ref (gR g 0)] u0) (xQ g (pV g Q T)) (xA g) := by
  refine xbody (il := il_X12_readOne) hg il_X12_readOne_ok m_X12_readOne (Nat.le_of_ble_eq_true rfl) ?_
  show xE g me_X12_readOne (pV g Q T) 0 [(0, .ref (gR g 0))] [] u0
  unfold w_X12_readOne at h
  refine e_aload_n (k := 0) (i := 0) rfl rfl 0 rfl ?_
  refine e_callVi (k := 1) (q := 0) (As := []) (rest := []) rfl (c_X12_here (g := g) hg (n := n) h) m_X12_here i_X12_here l_X12_162 rfl ⟨_, rfl, rfl⟩ rfl rfl (Nat.le_of_ble_eq_true rfl) ⟨by decide, by decide, rfl, rfl⟩ (fun _ h => ⟨fun _ z => (by cases z), Or.inr ⟨rfl, h⟩⟩) (fun r1 u1 h => ?_)
  refine e_istore_n (k := 2) (i := 1) (lv' := [(0, .ref (gR g 0)), (1, .int r1)]) rfl rfl (by decide) [1, 0] rfl ?_
  refine e_iload_n (k := 3) (i := 1) rfl rfl 1 rfl ?_
  refine e_bipush (k := 4) (v := (62 : Int32)) rfl (by decide) ?_
  refine e_icmp_eq (k := 5) (tgt := 17) rfl (by decide) (fun z => ?_) (fun z => ?_)
  · have h := h.1 z
    refine e_sub (lv' := [(0, .ref (gR g 0))]) [0] rfl ?_
    exact s_X12_readOne_17 hg h
  · have h := h.2 z
    refine e_iload_n (k := 6) (i := 1) rfl rfl 1 rfl ?_
    refine e_bipush (k := 7) (v := (60 : Int32)) rfl (by decide) ?_
    refine e_icmp_ne (k := 8) (tgt := 22) rfl (by decide) (fun z => ?_) (fun z => ?_)
    · have h := h.1 z
      refine e_aload_n (k := 12) (i := 0) rfl rfl 0 rfl ?_
      refine e_callVi (k := 13) (q := 0) (As := []) (rest := []) rfl (c_X12_beginsTimed (g := g) hg (n := n) h) m_X12_beginsTimed i_X12_beginsTimed l_X12_426 rfl ⟨_, rfl, rfl⟩ rfl rfl (Nat.le_of_ble_eq_true rfl) ⟨by decide, by decide, rfl, rfl⟩ (fun _ h => ⟨fun _ z => (by cases z), Or.inr ⟨rfl, h⟩⟩) (fun r2 u2 h => ?_)
      refine e_if_eq (k := 14) (tgt := 42) rfl (by decide) (fun z => ?_) (fun z => ?_)
      · have h := h.1 z
        refine e_aload_n (k := 22) (i := 0) rfl rfl 0 rfl ?_
        refine e_iconst (k := 23) (v := (-1 : Int32)) rfl (by decide) ?_
        refine e_putI (k := 24) rfl fg_X12_423 rfl rfl ?_
        refine e_mlet h (fun u3 h => ?_)
        refine e_aload_n (k := 25) (i := 0) rfl rfl 0 rfl ?_
        refine e_callVi (k := 26) (q := 0) (As := []) (rest := []) rfl (c_X12_isBarHere (g := g) hg (n := n) h) m_X12_isBarHere i_X12_isBarHere l_X12_377 rfl ⟨_, rfl, rfl⟩ rfl rfl (Nat.le_of_ble_eq_true rfl) ⟨by decide, by decide, rfl, rfl⟩ (fun _ h => ⟨fun _ z => (by cases z), Or.inr ⟨rfl, h⟩⟩) (fun r3 u4 h => ?_)
        refine e_if_eq (k := 27) (tgt := 61) rfl (by decide) (fun z => ?_) (fun z => ?_)
        · have h := h.1 z
          refine e_aload_n (k := 31) (i := 0) rfl rfl 0 rfl ?_
          refine e_callVi (k := 32) (q := 0) (As := []) (rest := []) rfl (c_X12_isFieldHere (g := g) hg (n := n) h) m_X12_isFieldHere i_X12_isFieldHere l_X12_381 rfl ⟨_, rfl, rfl⟩ rfl rfl (Nat.le_of_ble_eq_true rfl) ⟨by decide, by decide, rfl, rfl⟩ (fun _ h => ⟨fun _ z => (by cases z), Or.inr ⟨rfl, h⟩⟩) (fun r4 u5 h => ?_)
          refine e_if_eq (k := 33) (tgt := 101) rfl (by decide) (fun z => ?_) (fun z => ?_)
          · have h := h.1 z
            refine e_iload_n (k := 52) (i := 1) rfl rfl 1 rfl ?_
            refine e_bipush (k := 53) (v := (123 : Int32)) rfl (by decide) ?_
            refine e_icmp_ne (k := 54) (tgt := 114) rfl (by decide) (fun z => ?_) (fun z => ?_)
            · have h := h.1 z
              refine e_iload_n (k := 58) (i := 1) rfl rfl 1 rfl ?_
              refine e_bipush (k := 59) (v := (90 : Int32)) rfl (by decide) ?_
              refine e_icmp_ne (k := 60) (tgt := 127) rfl (by decide) (fun z => ?_) (fun z => ?_)
              · have h := h.1 z
                refine e_iload_n (k := 64) (i := 1) rfl rfl 1 rfl ?_
                refine e_bipush (k := 65) (v := (40 : Int32)) rfl (by decide) ?_
                refine e_icmp_ne (k := 66) (tgt := 140) rfl (by decide) (fun z => ?_) (fun z => ?_)
                · have h := h.1 z
                  refine e_iload_n (k := 70) (i := 1) rfl rfl 1 rfl ?_
                  refine e_bipush (k := 71) (v := (41 : Int32)) rfl (by decide) ?_
                  refine e_icmp_ne (k := 72) (tgt := 153) rfl (by decide) (fun z => ?_) (fun z => ?_)
                  · have h := h.1 z
                    refine e_iload_n (k := 76) (i := 1) rfl rfl 1 rfl ?_
                    refine e_bipush (k := 77) (v := (33 : Int32)) rfl (by decide) ?_
                    refine e_icmp_ne (k := 78) (tgt := 166) rfl (by decide) (fun z => ?_) (fun z => ?_)
                    · have h := h.1 z
                      refine e_iload_n (k := 82) (i := 1) rfl rfl 1 rfl ?_
                      refine e_bipush (k := 83) (v := (34 : Int32)) rfl (by decide) ?_
                      refine e_icmp_ne (k := 84) (tgt := 179) rfl (by decide) (fun z => ?_) (fun z => ?_)
                      · have h := h.1 z
                        refine e_iload_n (k := 88) (i := 1) rfl rfl 1 rfl ?_
                        refine e_callSi (k := 89) (As := [.int r1]) (rest := []) rfl (c_X12_ornament (g := g) hg (n := n) h) m_X12_ornament st_X12_ornament l_X12_479 rfl rfl (Nat.le_of_ble_eq_true rfl) ⟨by decide, by decide, rfl, rfl⟩ (fun _ h => ⟨fun _ z => (by cases z), Or.inr ⟨rfl, h⟩⟩) (fun r5 u6 h => ?_)
                        refine e_if_le (k := 90) (tgt := 212) rfl (by decide) (fun z => ?_) (fun z => ?_)
                        · have h := h.1 z
                          refine e_aload_n (k := 105) (i := 0) rfl rfl 0 rfl ?_
                          refine e_iconst (k := 106) (v := (1 : Int32)) rfl (by decide) ?_
                          refine e_aload_n (k := 107) (i := 0) rfl rfl 0 rfl ?_
                          refine e_getI (k := 108) rfl f_X12_138 rfl rfl ?_
                          refine e_callVv (k := 109) (q := 0) (As := [.int (1 : Int32), .int (u6.1 0 7)]) (rest := []) rfl (c_X12_fail (g := g) hg (n := n) h) m_X12_fail i_X12_fail l_X12_148 rfl ⟨_, rfl, rfl⟩ rfl rfl (Nat.le_of_ble_eq_true rfl) ⟨by decide, by decide, rfl, rfl⟩ (fun _ h => ⟨fun _ z => (by cases z), Or.inr ⟨rfl, h⟩⟩) (fun u7 h => ?_)
                          refine e_sub (lv' := []) [] rfl ?_
                          exact s_X12_readOne_221 hg h
                        · have h := h.2 z
                          refine e_aload_n (k := 91) (i := 0) rfl rfl 0 rfl ?_
                          refine e_aload_n (k := 92) (i := 0) rfl rfl 0 rfl ?_
                          refine e_getI (k := 93) rfl f_X12_410 rfl rfl ?_
                          refine e_iload_n (k := 94) (i := 1) rfl rfl 1 rfl ?_
                          refine e_callSi (k := 95) (As := [.int r1]) (rest := [.int (u6.1 0 42), .ref (gR g 0)]) rfl (c_X12_ornament (g := g) hg (n := n) h) m_X12_ornament st_X12_ornament l_X12_479 rfl rfl (Nat.le_of_ble_eq_true rfl) ⟨by decide, by decide, rfl, rfl⟩ (fun _ h => ⟨fun _ z => (by cases z), Or.inr ⟨rfl, h⟩⟩) (fun r6 u8 h => ?_)
                          refine e_ior (k := 96) rfl ?_
                          refine e_putI (k := 97) rfl fg_X12_410 rfl rfl ?_
                          refine e_mlet h (fun u9 h => ?_)
                          refine e_aload_n (k := 98) (i := 0) rfl rfl 0 rfl ?_
                          refine e_dup (k := 99) rfl rfl ?_
                          refine e_getI (k := 100) rfl f_X12_138 rfl rfl ?_
                          refine e_iconst (k := 101) (v := (1 : Int32)) rfl (by decide) ?_
                          refine e_iadd (k := 102) rfl ?_
                          refine e_putI (k := 103) rfl fg_X12_138 rfl rfl ?_
                          refine e_mlet h (fun u10 h => ?_)
                          refine e_goto (k := 104) (tgt := 221) rfl (by decide) ?_
                          refine e_sub (lv' := []) [] rfl ?_
                          exact s_X12_readOne_221 hg h
                      · have h := h.2 z
                        refine e_aload_n (k := 85) (i := 0) rfl rfl 0 rfl ?_
                        refine e_callVv (k := 86) (q := 0) (As := []) (rest := []) rfl (c_X12_readQuote (g := g) hg (n := n) h) m_X12_readQuote i_X12_readQuote l_X12_476 rfl ⟨_, rfl, rfl⟩ rfl rfl (Nat.le_of_ble_eq_true rfl) ⟨by decide, by decide, rfl, rfl⟩ (fun _ h => ⟨fun _ z => (by cases z), Or.inr ⟨rfl, h⟩⟩) (fun u11 h => ?_)
                        refine e_goto (k := 87) (tgt := 221) rfl (by decide) ?_
                        refine e_sub (lv' := []) [] rfl ?_
                        exact s_X12_readOne_221 hg h
                    · have h := h.2 z
                      refine e_aload_n (k := 79) (i := 0) rfl rfl 0 rfl ?_
                      refine e_callVv (k := 80) (q := 0) (As := []) (rest := []) rfl (c_X12_readSay (g := g) hg (n := n) h) m_X12_readSay i_X12_readSay l_X12_473 rfl ⟨_, rfl, rfl⟩ rfl rfl (Nat.le_of_ble_eq_true rfl) ⟨by decide, by decide, rfl, rfl⟩ (fun _ h => ⟨fun _ z => (by cases z), Or.inr ⟨rfl, h⟩⟩) (fun u12 h => ?_)
                      refine e_goto (k := 81) (tgt := 221) rfl (by decide) ?_
                      refine e_sub (lv' := []) [] rfl ?_
                      exact s_X12_readOne_221 hg h
                  · have h := h.2 z
                    refine e_aload_n (k := 73) (i := 0) rfl rfl 0 rfl ?_
                    refine e_callVv (k := 74) (q := 0) (As := []) (rest := []) rfl (c_X12_readClose (g := g) hg (n := n) h) m_X12_readClose i_X12_readClose l_X12_470 rfl ⟨_, rfl, rfl⟩ rfl rfl (Nat.le_of_ble_eq_true rfl) ⟨by decide, by decide, rfl, rfl⟩ (fun _ h => ⟨fun _ z => (by cases z), Or.inr ⟨rfl, h⟩⟩) (fun u13 h => ?_)
                    refine e_goto (k := 75) (tgt := 221) rfl (by decide) ?_
                    refine e_sub (lv' := []) [] rfl ?_
                    exact s_X12_readOne_221 hg h
                · have h := h.2 z
                  refine e_aload_n (k := 67) (i := 0) rfl rfl 0 rfl ?_
                  refine e_callVv (k := 68) (q := 0) (As := []) (rest := []) rfl (c_X12_readOpen (g := g) hg (n := n) h) m_X12_readOpen i_X12_readOpen l_X12_467 rfl ⟨_, rfl, rfl⟩ rfl rfl (Nat.le_of_ble_eq_true rfl) ⟨by decide, by decide, rfl, rfl⟩ (fun _ h => ⟨fun _ z => (by cases z), Or.inr ⟨rfl, h⟩⟩) (fun u14 h => ?_)
                  refine e_goto (k := 69) (tgt := 221) rfl (by decide) ?_
                  refine e_sub (lv' := []) [] rfl ?_
                  exact s_X12_readOne_221 hg h
              · have h := h.2 z
                refine e_aload_n (k := 61) (i := 0) rfl rfl 0 rfl ?_
                refine e_callVv (k := 62) (q := 0) (As := []) (rest := []) rfl (c_X12_readBars (g := g) hg (n := n) h) m_X12_readBars i_X12_readBars l_X12_464 rfl ⟨_, rfl, rfl⟩ rfl rfl (Nat.le_of_ble_eq_true rfl) ⟨by decide, by decide, rfl, rfl⟩ (fun _ h => ⟨fun _ z => (by cases z), Or.inr ⟨rfl, h⟩⟩) (fun u15 h => ?_)
                refine e_goto (k := 63) (tgt := 221) rfl (by decide) ?_
                refine e_sub (lv' := []) [] rfl ?_
                exact s_X12_readOne_221 hg h
            · have h := h.2 z
              refine e_aload_n (k := 55) (i := 0) rfl rfl 0 rfl ?_
              refine e_callVv (k := 56) (q := 0) (As := []) (rest := []) rfl (c_X12_readGraces (g := g) hg (n := n) h) m_X12_readGraces i_X12_readGraces l_X12_461 rfl ⟨_, rfl, rfl⟩ rfl rfl (Nat.le_of_ble_eq_true rfl) ⟨by decide, by decide, rfl, rfl⟩ (fun _ h => ⟨fun _ z => (by cases z), Or.inr ⟨rfl, h⟩⟩) (fun u16 h => ?_)
              refine e_goto (k := 57) (tgt := 221) rfl (by decide) ?_
              refine e_sub (lv' := []) [] rfl ?_
              exact s_X12_readOne_221 hg h
          · have h := h.2 z
            refine e_aload_n (k := 34) (i := 0) rfl rfl 0 rfl ?_
            refine e_getI (k := 35) rfl f_X12_138 rfl rfl ?_
            refine e_ilet h (fun y1 h => ?_)
            refine e_istore_n (k := 36) (i := 2) (lv' := [(0, .ref (gR g 0)), (1, .int r1), (2, .int y1)]) rfl rfl (by decide) [1, 2, 0] rfl ?_
            refine e_aload_n (k := 37) (i := 0) rfl rfl 0 rfl ?_
            refine e_dup (k := 38) rfl rfl ?_
            refine e_getI (k := 39) rfl f_X12_138 rfl rfl ?_
            refine e_iconst (k := 40) (v := (1 : Int32)) rfl (by decide) ?_
            refine e_iadd (k := 41) rfl ?_
            refine e_putI (k := 42) rfl fg_X12_138 rfl rfl ?_
            refine e_mlet h (fun u17 h => ?_)
            refine e_aload_n (k := 43) (i := 0) rfl rfl 0 rfl ?_
            refine e_iload_n (k := 44) (i := 2) rfl rfl 2 rfl ?_
            refine e_callVv (k := 45) (q := 0) (As := [.int y1]) (rest := []) rfl (c_X12_readField (g := g) hg (n := n) h) m_X12_readField i_X12_readField l_X12_458 rfl ⟨_, rfl, rfl⟩ rfl rfl (Nat.le_of_ble_eq_true rfl) ⟨by decide, by decide, rfl, rfl⟩ (fun _ h => ⟨fun _ z => (by cases z), Or.inr ⟨rfl, h⟩⟩) (fun u18 h => ?_)
            refine e_aload_n (k := 46) (i := 0) rfl rfl 0 rfl ?_
            refine e_callVv (k := 47) (q := 0) (As := []) (rest := []) rfl (c_X12_blanks (g := g) hg (n := n) h) m_X12_blanks i_X12_blanks l_X12_241 rfl ⟨_, rfl, rfl⟩ rfl rfl (Nat.le_of_ble_eq_true rfl) ⟨by decide, by decide, rfl, rfl⟩ (fun _ h => ⟨fun _ z => (by cases z), Or.inr ⟨rfl, h⟩⟩) (fun u19 h => ?_)
            refine e_aload_n (k := 48) (i := 0) rfl rfl 0 rfl ?_
            refine e_bipush (k := 49) (v := (93 : Int32)) rfl (by decide) ?_
            refine e_callVv (k := 50) (q := 0) (As := [.int (93 : Int32)]) (rest := []) rfl (c_X12_must (g := g) hg (n := n) h) m_X12_must i_X12_must l_X12_211 rfl ⟨_, rfl, rfl⟩ rfl rfl (Nat.le_of_ble_eq_true rfl) ⟨by decide, by decide, rfl, rfl⟩ (fun _ h => ⟨fun _ z => (by cases z), Or.inr ⟨rfl, h⟩⟩) (fun u20 h => ?_)
            refine e_goto (k := 51) (tgt := 221) rfl (by decide) ?_
            refine e_sub (lv' := []) [] rfl ?_
            exact s_X12_readOne_221 hg h
        · have h := h.2 z
          refine e_aload_n (k := 28) (i := 0) rfl rfl 0 rfl ?_
          refine e_callVv (k := 29) (q := 0) (As := []) (rest := []) rfl (c_X12_readBar (g := g) hg (n := n) h) m_X12_readBar i_X12_readBar l_X12_455 rfl ⟨_, rfl, rfl⟩ rfl rfl (Nat.le_of_ble_eq_true rfl) ⟨by decide, by decide, rfl, rfl⟩ (fun _ h => ⟨fun _ z => (by cases z), Or.inr ⟨rfl, h⟩⟩) (fun u21 h => ?_)
          refine e_goto (k := 30) (tgt := 221) rfl (by decide) ?_
          refine e_sub (lv' := []) [] rfl ?_
          exact s_X12_readOne_221 hg h
      · have h := h.2 z
        refine e_aload_n (k := 15) (i := 0) rfl rfl 0 rfl ?_
        refine e_callVv (k := 16) (q := 0) (As := []) (rest := []) rfl (c_X12_readTimed (g := g) hg (n := n) h) m_X12_readTimed i_X12_readTimed l_X12_429 rfl ⟨_, rfl, rfl⟩ rfl rfl (Nat.le_of_ble_eq_true rfl) ⟨by decide, by decide, rfl, rfl⟩ (fun _ h => ⟨fun _ z => (by cases z), Or.inr ⟨rfl, h⟩⟩) (fun u22 h => ?_)
        refine e_aload_n (k := 17) (i := 0) rfl rfl 0 rfl ?_
        refine e_aload_n (k := 18) (i := 0) rfl rfl 0 rfl ?_
        refine e_getI (k := 19) rfl f_X12_423 rfl rfl ?_
        refine e_putI (k := 20) rfl fg_X12_432 rfl rfl ?_
        refine e_mlet h (fun u23 h => ?_)
        exact e_vret (k := 21) rfl rfl (Or.inl ⟨rfl, h⟩)
    · have h := h.2 z
      refine e_sub (lv' := [(0, .ref (gR g 0))]) [0] rfl ?_
      exact s_X12_readOne_17 hg h
def il_X1_readHead : List (Nat × Instr × Nat) := [(0, .iload_n 1, 1), (1, .bipush 88, 2), (3, .if_icmp .ne 26, 3), (6, .aload_n 0, 1), (7, .getfield 19, 3), (10, .getfield 71, 3), (13, .iconst 0, 1), (14, .aload_n 0, 1), (15, .getfield 9, 3), (18, .sipush 9999, 3), (21, .iconst 0, 1), (22, .invokevirtual 80, 3), (25, .iastore, 1), (26, .goto 209, 3), (29, .iload_n 1, 1), (30, .bipush 84, 2), (32, .if_icmp .ne 49, 3), (35, .aload_n 0, 1), (36, .getfield 19, 3), (39, .aload_n 0, 1), (40, .getfield 9, 3), (43, .getfield 58, 3), (46, .aload_n 0, 1), (47, .getfield 9, 3), (50, .getfield 84, 3), (53, .aload_n 0, 1), (54, .getfield 9, 3), (57, .getfield 58, 3), (60, .isub, 1), (61, .invokevirtual 87, 3), (64, .aload_n 0, 1), (65, .getfield 9, 3), (68, .aload_n 0, 1), (69, .getfield 9, 3), (72, .getfield 84, 3), (75, .putfield 58, 3), (78, .goto 157, 3), (81, .iload_n 1, 1), (82, .bipush 77, 2), (84, .if_icmp .ne 50, 3), (87, .aload_n 0, 1), (88, .getfield 15, 3), (91, .invokevirtual 90, 3), (94, .aload_n 0, 1), (95, .getfield 19, 3), (98, .getfield 71, 3), (101, .iconst 2, 1), (102, .aload_n 0, 1), (103, .getfield 15, 3), (106, .getfield 95, 3), (109, .iastore, 1), (110, .aload_n 0, 1), (111, .getfield 19, 3), (114, .getfield 71, 3), (117, .iconst 3, 1), (118, .aload_n 0, 1), (119, .getfield 15, 3), (122, .getfield 97, 3), (125, .iastore, 1), (126, .aload_n 0, 1), (127, .iconst 1, 1), (128, .putfield 23, 3), (131, .goto 104, 3), (134, .iload_n 1, 1), (135, .bipush 76, 2), (137, .if_icmp .ne 34, 3), (140, .aload_n 0, 1), (141, .getfield 15, 3), (144, .invokevirtual 100, 3), (147, .aload_n 0, 1), (148, .getfield 19, 3), (151, .getfield 71, 3), (154, .iconst 4, 1), (155, .aload_n 0, 1), (156, .getfield 15, 3), (159, .getfield 103, 3), (162, .iastore, 1), (163, .aload_n 0, 1), (164, .iconst 1, 1), (165, .putfield 27, 3), (168, .goto 67, 3), (171, .iload_n 1, 1), (172, .bipush 81, 2), (174, .if_icmp .ne 31, 3), (177, .aload_n 0, 1), (178, .getfield 19, 3), (181, .getfield 71, 3), (184, .iconst 5, 1), (185, .aload_n 0, 1), (186, .getfield 9, 3), (189, .sipush 999, 3), (192, .iconst 0, 1), (193, .invokevirtual 80, 3), (196, .iastore, 1), (197, .aload_n 0, 1), (198, .iconst 1, 1), (199, .putfield 30, 3), (202, .goto 33, 3), (205, .iload_n 1, 1), (206, .bipush 75, 2), (208, .if_icmp .ne 27, 3), (211, .aload_n 0, 1), (212, .getfield 15, 3), (215, .invokevirtual 106, 3), (218, .aload_n 0, 1), (219, .getfield 19, 3), (222, .getfield 71, 3), (225, .bipush 6, 2), (227, .aload_n 0, 1), (228, .getfield 15, 3), (231, .getfield 109, 3), (234, .iastore, 1), (235, .return_, 1)]
set_option maxRecDepth 20000 in
theorem il_X1_readHead_ok : ∀ x ∈ il_X1_readHead, decode cX1_readHead x.1 = .ok x.2 := by decide +kernel
abbrev me_X1_readHead : Me := (RX1, il_X1_readHead, 2, none, xRoom 8, [])
def w_X1_readHead_235 (n : Nat) (u0 : Mm) (Q : Mm → Prop) : Prop :=
  Q u0
def w_X1_readHead (n : Nat) (a0 : Int32) (u0 : Mm) (Q : Mm → Prop) : Prop :=
  (¬ a0 = (88 : Int32) → (¬ a0 = (84 : Int32) → (¬ a0 = (77 : Int32) → (¬ a0 = (76 : Int32) → (¬ a0 = (81 : Int32) → (¬ a0 = (75 : Int32) → w_X1_readHead_235 n u0 Q) ∧
  (a0 = (75 : Int32) → w_X0_readKey n u0 (fun u1 =>
  mlet (setI u1 43 (ix (6 : Int32)) (u1.1 34 4)) fun u2 =>
  w_X1_readHead_235 n u2 Q))) ∧
  (a0 = (81 : Int32) → w_X5_number n (999 : Int32) (0 : Int32) u0 (fun r1 u3 =>
  mlet (setI u3 43 (ix (5 : Int32)) r1) fun u4 =>
  mlet (setI u4 37 5 (1 : Int32)) fun u5 =>
  w_X1_readHead_235 n u5 Q))) ∧
  (a0 = (76 : Int32) → w_X0_readUnit n u0 (fun u6 =>
  mlet (setI u6 43 (ix (4 : Int32)) (u6.1 34 3)) fun u7 =>
  mlet (setI u7 37 4 (1 : Int32)) fun u8 =>
  w_X1_readHead_235 n u8 Q))) ∧
  (a0 = (77 : Int32) → w_X0_readMeter n u0 (fun u9 =>
  mlet (setI u9 43 (ix (2 : Int32)) (u9.1 34 1)) fun u10 =>
  mlet (setI u10 43 (ix (3 : Int32)) (u10.1 34 2)) fun u11 =>
  mlet (setI u11 37 3 (1 : Int32)) fun u12 =>
  w_X1_readHead_235 n u12 Q))) ∧
  (a0 = (84 : Int32) → w_X7_addTitle n (u0.1 33 2) ((u0.1 33 4) - (u0.1 33 2)) u0 (fun u13 =>
  mlet (setI u13 33 2 (u13.1 33 4)) fun u14 =>
  w_X1_readHead_235 n u14 Q))) ∧
  (a0 = (88 : Int32) → w_X5_number n (9999 : Int32) (0 : Int32) u0 (fun r2 u15 =>
  mlet (setI u15 43 (ix (0 : Int32)) r2) fun u16 =>
  w_X1_readHead_235 n u16 Q))
set_option maxRecDepth 20000 in
theorem s_X1_readHead_235 {g : Gb} (hg : xInj g) {n : Nat} {Q : Mm → Prop} {u0 : Mm} (h : w_X1_readHead_235 n  u0 Q) : xE g me_X1_readHead (pV g Q noT) 235 [] [] u0 := by
  unfold w_X1_readHead_235 at h
  exact e_vret (k := 112) rfl rfl (Or.inl ⟨rfl, h⟩)
set_option maxRecDepth 20000 in
theorem c_X1_readHead {g : Gb} (hg : xInj g) {n : Nat} {a0 : Int32} {u0 : Mm} {Q : Mm → Prop} (h : w_X1_readHead n a0 u0 Q) : xMet (gL g) yX1_readHead (xws yX1_readHead cX1_readHead 2 none) (xRoom 8) (xPc g [.ref (gR g 37), .int a0] u0) (xQ g (pV g Q noT)) (xA g) := by
  refine xbody (il := il_X1_readHead) hg il_X1_readHead_ok m_X1_readHead (Nat.le_of_ble_eq_true rfl) ?_
  show xE g me_X1_readHead (pV g Q noT) 0 [(0, .ref (gR g 37)), (1, .int a0)] [] u0
  unfold w_X1_readHead at h
  refine e_iload_n (k := 0) (i := 1) rfl rfl 1 rfl ?_
  refine e_bipush (k := 1) (v := (88 : Int32)) rfl (by decide) ?_
  refine e_icmp_ne (k := 2) (tgt := 29) rfl (by decide) (fun z => ?_) (fun z => ?_)
  · have h := h.1 z
    refine e_iload_n (k := 14) (i := 1) rfl rfl 1 rfl ?_
    refine e_bipush (k := 15) (v := (84 : Int32)) rfl (by decide) ?_
    refine e_icmp_ne (k := 16) (tgt := 81) rfl (by decide) (fun z => ?_) (fun z => ?_)
    · have h := h.1 z
      refine e_iload_n (k := 37) (i := 1) rfl rfl 1 rfl ?_
      refine e_bipush (k := 38) (v := (77 : Int32)) rfl (by decide) ?_
      refine e_icmp_ne (k := 39) (tgt := 134) rfl (by decide) (fun z => ?_) (fun z => ?_)
      · have h := h.1 z
        refine e_iload_n (k := 63) (i := 1) rfl rfl 1 rfl ?_
        refine e_bipush (k := 64) (v := (76 : Int32)) rfl (by decide) ?_
        refine e_icmp_ne (k := 65) (tgt := 171) rfl (by decide) (fun z => ?_) (fun z => ?_)
        · have h := h.1 z
          refine e_iload_n (k := 81) (i := 1) rfl rfl 1 rfl ?_
          refine e_bipush (k := 82) (v := (81 : Int32)) rfl (by decide) ?_
          refine e_icmp_ne (k := 83) (tgt := 205) rfl (by decide) (fun z => ?_) (fun z => ?_)
          · have h := h.1 z
            refine e_iload_n (k := 98) (i := 1) rfl rfl 1 rfl ?_
            refine e_bipush (k := 99) (v := (75 : Int32)) rfl (by decide) ?_
            refine e_icmp_ne (k := 100) (tgt := 235) rfl (by decide) (fun z => ?_) (fun z => ?_)
            · have h := h.1 z
              refine e_sub (lv' := []) [] rfl ?_
              exact s_X1_readHead_235 hg h
            · have h := h.2 z
              refine e_aload_n (k := 101) (i := 0) rfl rfl 0 rfl ?_
              refine e_getC (k := 102) rfl f_X1_15 rfl rfl ?_
              refine e_callVv (k := 103) (q := 34) (As := []) (rest := []) rfl (c_X0_readKey (g := g) hg (n := n) h) m_X0_readKey i_X0_readKey l_X1_106 rfl ⟨_, rfl, rfl⟩ rfl rfl (Nat.le_of_ble_eq_true rfl) ⟨by decide, by decide, rfl, rfl⟩ (fun _ h => h.elim) (fun u1 h => ?_)
              refine e_aload_n (k := 104) (i := 0) rfl rfl 0 rfl ?_
              refine e_getC (k := 105) rfl f_X1_19 rfl rfl ?_
              refine e_getC (k := 106) rfl f_X1_71 rfl rfl ?_
              refine e_bipush (k := 107) (v := (6 : Int32)) rfl (by decide) ?_
              refine e_aload_n (k := 108) (i := 0) rfl rfl 0 rfl ?_
              refine e_getC (k := 109) rfl f_X1_15 rfl rfl ?_
              refine e_getI (k := 110) rfl f_X1_109 rfl rfl ?_
              refine e_iast (k := 111) rfl rfl (by unfold vp_in; decide) ?_
              refine e_mlet h (fun u2 h => ?_)
              refine e_sub (lv' := []) [] rfl ?_
              exact s_X1_readHead_235 hg h
          · have h := h.2 z
            refine e_aload_n (k := 84) (i := 0) rfl rfl 0 rfl ?_
            refine e_getC (k := 85) rfl f_X1_19 rfl rfl ?_
            refine e_getC (k := 86) rfl f_X1_71 rfl rfl ?_
            refine e_iconst (k := 87) (v := (5 : Int32)) rfl (by decide) ?_
            refine e_aload_n (k := 88) (i := 0) rfl rfl 0 rfl ?_
            refine e_getC (k := 89) rfl f_X1_9 rfl rfl ?_
            refine e_sipush (k := 90) (v := (999 : Int32)) rfl (by decide) ?_
            refine e_iconst (k := 91) (v := (0 : Int32)) rfl (by decide) ?_
            refine e_callVi (k := 92) (q := 33) (As := [.int (999 : Int32), .int (0 : Int32)]) (rest := [.int (5 : Int32), .ref (gR g 43)]) rfl (c_X5_number (g := g) hg (n := n) h) m_X5_number i_X5_number l_X1_80 rfl ⟨_, rfl, rfl⟩ rfl rfl (Nat.le_of_ble_eq_true rfl) ⟨by decide, by decide, rfl, rfl⟩ (fun _ h => h.elim) (fun r1 u3 h => ?_)
            refine e_iast (k := 93) rfl rfl (by unfold vp_in; decide) ?_
            refine e_mlet h (fun u4 h => ?_)
            refine e_aload_n (k := 94) (i := 0) rfl rfl 0 rfl ?_
            refine e_iconst (k := 95) (v := (1 : Int32)) rfl (by decide) ?_
            refine e_putZ (k := 96) rfl fg_X1_30 rfl rfl (Or.inr rfl) ?_
            refine e_mlet h (fun u5 h => ?_)
            refine e_goto (k := 97) (tgt := 235) rfl (by decide) ?_
            refine e_sub (lv' := []) [] rfl ?_
            exact s_X1_readHead_235 hg h
        · have h := h.2 z
          refine e_aload_n (k := 66) (i := 0) rfl rfl 0 rfl ?_
          refine e_getC (k := 67) rfl f_X1_15 rfl rfl ?_
          refine e_callVv (k := 68) (q := 34) (As := []) (rest := []) rfl (c_X0_readUnit (g := g) hg (n := n) h) m_X0_readUnit i_X0_readUnit l_X1_100 rfl ⟨_, rfl, rfl⟩ rfl rfl (Nat.le_of_ble_eq_true rfl) ⟨by decide, by decide, rfl, rfl⟩ (fun _ h => h.elim) (fun u6 h => ?_)
          refine e_aload_n (k := 69) (i := 0) rfl rfl 0 rfl ?_
          refine e_getC (k := 70) rfl f_X1_19 rfl rfl ?_
          refine e_getC (k := 71) rfl f_X1_71 rfl rfl ?_
          refine e_iconst (k := 72) (v := (4 : Int32)) rfl (by decide) ?_
          refine e_aload_n (k := 73) (i := 0) rfl rfl 0 rfl ?_
          refine e_getC (k := 74) rfl f_X1_15 rfl rfl ?_
          refine e_getI (k := 75) rfl f_X1_103 rfl rfl ?_
          refine e_iast (k := 76) rfl rfl (by unfold vp_in; decide) ?_
          refine e_mlet h (fun u7 h => ?_)
          refine e_aload_n (k := 77) (i := 0) rfl rfl 0 rfl ?_
          refine e_iconst (k := 78) (v := (1 : Int32)) rfl (by decide) ?_
          refine e_putZ (k := 79) rfl fg_X1_27 rfl rfl (Or.inr rfl) ?_
          refine e_mlet h (fun u8 h => ?_)
          refine e_goto (k := 80) (tgt := 235) rfl (by decide) ?_
          refine e_sub (lv' := []) [] rfl ?_
          exact s_X1_readHead_235 hg h
      · have h := h.2 z
        refine e_aload_n (k := 40) (i := 0) rfl rfl 0 rfl ?_
        refine e_getC (k := 41) rfl f_X1_15 rfl rfl ?_
        refine e_callVv (k := 42) (q := 34) (As := []) (rest := []) rfl (c_X0_readMeter (g := g) hg (n := n) h) m_X0_readMeter i_X0_readMeter l_X1_90 rfl ⟨_, rfl, rfl⟩ rfl rfl (Nat.le_of_ble_eq_true rfl) ⟨by decide, by decide, rfl, rfl⟩ (fun _ h => h.elim) (fun u9 h => ?_)
        refine e_aload_n (k := 43) (i := 0) rfl rfl 0 rfl ?_
        refine e_getC (k := 44) rfl f_X1_19 rfl rfl ?_
        refine e_getC (k := 45) rfl f_X1_71 rfl rfl ?_
        refine e_iconst (k := 46) (v := (2 : Int32)) rfl (by decide) ?_
        refine e_aload_n (k := 47) (i := 0) rfl rfl 0 rfl ?_
        refine e_getC (k := 48) rfl f_X1_15 rfl rfl ?_
        refine e_getI (k := 49) rfl f_X1_95 rfl rfl ?_
        refine e_iast (k := 50) rfl rfl (by unfold vp_in; decide) ?_
        refine e_mlet h (fun u10 h => ?_)
        refine e_aload_n (k := 51) (i := 0) rfl rfl 0 rfl ?_
        refine e_getC (k := 52) rfl f_X1_19 rfl rfl ?_
        refine e_getC (k := 53) rfl f_X1_71 rfl rfl ?_
        refine e_iconst (k := 54) (v := (3 : Int32)) rfl (by decide) ?_
        refine e_aload_n (k := 55) (i := 0) rfl rfl 0 rfl ?_
        refine e_getC (k := 56) rfl f_X1_15 rfl rfl ?_
        refine e_getI (k := 57) rfl f_X1_97 rfl rfl ?_
        refine e_iast (k := 58) rfl rfl (by unfold vp_in; decide) ?_
        refine e_mlet h (fun u11 h => ?_)
        refine e_aload_n (k := 59) (i := 0) rfl rfl 0 rfl ?_
        refine e_iconst (k := 60) (v := (1 : Int32)) rfl (by decide) ?_
        refine e_putZ (k := 61) rfl fg_X1_23 rfl rfl (Or.inr rfl) ?_
        refine e_mlet h (fun u12 h => ?_)
        refine e_goto (k := 62) (tgt := 235) rfl (by decide) ?_
        refine e_sub (lv' := []) [] rfl ?_
        exact s_X1_readHead_235 hg h
    · have h := h.2 z
      refine e_aload_n (k := 17) (i := 0) rfl rfl 0 rfl ?_
      refine e_getC (k := 18) rfl f_X1_19 rfl rfl ?_
      refine e_aload_n (k := 19) (i := 0) rfl rfl 0 rfl ?_
      refine e_getC (k := 20) rfl f_X1_9 rfl rfl ?_
      refine e_getI (k := 21) rfl f_X1_58 rfl rfl ?_
      refine e_aload_n (k := 22) (i := 0) rfl rfl 0 rfl ?_
      refine e_getC (k := 23) rfl f_X1_9 rfl rfl ?_
      refine e_getI (k := 24) rfl f_X1_84 rfl rfl ?_
      refine e_aload_n (k := 25) (i := 0) rfl rfl 0 rfl ?_
      refine e_getC (k := 26) rfl f_X1_9 rfl rfl ?_
      refine e_getI (k := 27) rfl f_X1_58 rfl rfl ?_
      refine e_isub (k := 28) rfl ?_
      refine e_callVv (k := 29) (q := 35) (As := [.int (u0.1 33 2), .int ((u0.1 33 4) - (u0.1 33 2))]) (rest := []) rfl (c_X7_addTitle (g := g) hg (n := n) h) m_X7_addTitle i_X7_addTitle l_X1_87 rfl ⟨_, rfl, rfl⟩ rfl rfl (Nat.le_of_ble_eq_true rfl) ⟨by decide, by decide, rfl, rfl⟩ (fun _ h => h.elim) (fun u13 h => ?_)
      refine e_aload_n (k := 30) (i := 0) rfl rfl 0 rfl ?_
      refine e_getC (k := 31) rfl f_X1_9 rfl rfl ?_
      refine e_aload_n (k := 32) (i := 0) rfl rfl 0 rfl ?_
      refine e_getC (k := 33) rfl f_X1_9 rfl rfl ?_
      refine e_getI (k := 34) rfl f_X1_84 rfl rfl ?_
      refine e_putI (k := 35) rfl fg_X1_58 rfl rfl ?_
      refine e_mlet h (fun u14 h => ?_)
      refine e_goto (k := 36) (tgt := 235) rfl (by decide) ?_
      refine e_sub (lv' := []) [] rfl ?_
      exact s_X1_readHead_235 hg h
  · have h := h.2 z
    refine e_aload_n (k := 3) (i := 0) rfl rfl 0 rfl ?_
    refine e_getC (k := 4) rfl f_X1_19 rfl rfl ?_
    refine e_getC (k := 5) rfl f_X1_71 rfl rfl ?_
    refine e_iconst (k := 6) (v := (0 : Int32)) rfl (by decide) ?_
    refine e_aload_n (k := 7) (i := 0) rfl rfl 0 rfl ?_
    refine e_getC (k := 8) rfl f_X1_9 rfl rfl ?_
    refine e_sipush (k := 9) (v := (9999 : Int32)) rfl (by decide) ?_
    refine e_iconst (k := 10) (v := (0 : Int32)) rfl (by decide) ?_
    refine e_callVi (k := 11) (q := 33) (As := [.int (9999 : Int32), .int (0 : Int32)]) (rest := [.int (0 : Int32), .ref (gR g 43)]) rfl (c_X5_number (g := g) hg (n := n) h) m_X5_number i_X5_number l_X1_80 rfl ⟨_, rfl, rfl⟩ rfl rfl (Nat.le_of_ble_eq_true rfl) ⟨by decide, by decide, rfl, rfl⟩ (fun _ h => h.elim) (fun r2 u15 h => ?_)
    refine e_iast (k := 12) rfl rfl (by unfold vp_in; decide) ?_
    refine e_mlet h (fun u16 h => ?_)
    refine e_goto (k := 13) (tgt := 235) rfl (by decide) ?_
    refine e_sub (lv' := []) [] rfl ?_
    exact s_X1_readHead_235 hg h
def il_X4_readChange : List (Nat × Instr × Nat) := [(0, .aload_n 0, 1), (1, .getfield 9, 3), (4, .getfield 123, 3), (7, .istore_n 2, 1), (8, .aload_n 0, 1), (9, .getfield 9, 3), (12, .iload_n 1, 1), (13, .ifCond .eq 7, 3), (16, .iconst 0, 1), (17, .goto 4, 3), (20, .iconst 1, 1), (21, .invokevirtual 126, 3), (24, .istore_n 3, 1), (25, .aload_n 0, 1), (26, .getfield 9, 3), (29, .dup, 1), (30, .getfield 123, 3), (33, .iload_n 1, 1), (34, .ifCond .eq 7, 3), (37, .iconst 2, 1), (38, .goto 4, 3), (41, .iconst 3, 1), (42, .iadd, 1), (43, .putfield 123, 3), (46, .aload_n 0, 1), (47, .getfield 9, 3), (50, .invokevirtual 130, 3), (53, .iload_n 3, 1), (54, .lookupswitch 195 #[(75, 156), (76, 117), (77, 58), (86, 42)], 42), (96, .aload_n 0, 1), (97, .aload_n 0, 1), (98, .getfield 9, 3), (101, .iconst 3, 1), (102, .iconst 0, 1), (103, .invokevirtual 133, 3), (106, .invokevirtual 61, 3), (109, .goto 149, 3), (112, .aload_n 0, 1), (113, .getfield 15, 3), (116, .invokevirtual 137, 3), (119, .aload_n 0, 1), (120, .getfield 48, 3), (123, .aload_n 0, 1), (124, .getfield 15, 3), (127, .getfield 142, 3), (130, .putfield 144, 3), (133, .aload_n 0, 1), (134, .getfield 48, 3), (137, .aload_n 0, 1), (138, .getfield 15, 3), (141, .getfield 147, 3), (144, .putfield 150, 3), (147, .aload_n 0, 1), (148, .bipush 7, 2), (150, .iload_n 2, 1), (151, .aload_n 0, 1), (152, .getfield 15, 3), (155, .getfield 142, 3), (158, .aload_n 0, 1), (159, .getfield 15, 3), (162, .getfield 147, 3), (165, .invokevirtual 153, 3), (168, .goto 90, 3), (171, .aload_n 0, 1), (172, .getfield 15, 3), (175, .invokevirtual 157, 3), (178, .aload_n 0, 1), (179, .getfield 48, 3), (182, .aload_n 0, 1), (183, .getfield 15, 3), (186, .getfield 160, 3), (189, .putfield 163, 3), (192, .aload_n 0, 1), (193, .bipush 8, 2), (195, .iload_n 2, 1), (196, .aload_n 0, 1), (197, .getfield 15, 3), (200, .getfield 160, 3), (203, .iconst 0, 1), (204, .invokevirtual 153, 3), (207, .goto 51, 3), (210, .aload_n 0, 1), (211, .getfield 15, 3), (214, .invokevirtual 164, 3), (217, .aload_n 0, 1), (218, .getfield 48, 3), (221, .aload_n 0, 1), (222, .getfield 15, 3), (225, .getfield 167, 3), (228, .putfield 170, 3), (231, .aload_n 0, 1), (232, .bipush 6, 2), (234, .iload_n 2, 1), (235, .aload_n 0, 1), (236, .getfield 15, 3), (239, .getfield 167, 3), (242, .iconst 0, 1), (243, .invokevirtual 153, 3), (246, .goto 12, 3), (249, .aload_n 0, 1), (250, .getfield 9, 3), (253, .iconst 1, 1), (254, .iload_n 2, 1), (255, .invokevirtual 93, 3), (258, .iload_n 1, 1), (259, .ifCond .eq 13, 3), (262, .aload_n 0, 1), (263, .getfield 9, 3), (266, .invokevirtual 171, 3), (269, .goto 7, 3), (272, .aload_n 0, 1), (273, .invokevirtual 174, 3), (276, .return_, 1)]
set_option maxRecDepth 20000 in
theorem il_X4_readChange_ok : ∀ x ∈ il_X4_readChange, decode cX4_readChange x.1 = .ok x.2 := by decide +kernel
abbrev me_X4_readChange : Me := (RX4, il_X4_readChange, 4, none, xRoom 8, [])
def w_X4_readChange_276 (n : Nat) (u0 : Mm) (Q : Mm → Prop) : Prop :=
  Q u0
def w_X4_readChange_258 (n : Nat) (x1 : Int32) (u0 : Mm) (Q : Mm → Prop) : Prop :=
  (x1 = 0 → w_X4_closeChange n u0 (fun u1 =>
  w_X4_readChange_276 n u1 Q)) ∧
  (¬ x1 = 0 → w_X5_mustStop n u0 (fun u2 =>
  w_X4_readChange_276 n u2 Q))
def w_X4_readChange_42 (n : Nat) (x1 : Int32) (x2 : Int32) (x3 : Int32) (t0 : Int32) (t1 : Int32) (u0 : Mm) (Q : Mm → Prop) : Prop :=
  mlet (setI u0 33 2 (t1 + t0)) fun u1 =>
  w_X5_skipBlanks n u1 (fun u2 =>
  (x3 = (75 : Int32) → w_X0_readKey n u2 (fun u3 =>
  mlet (setI u3 (u3.2.2 2) 7 (u3.1 34 4)) fun u4 =>
  w_X4_addChange n (6 : Int32) x2 (u4.1 34 4) (0 : Int32) u4 (fun u5 =>
  w_X4_readChange_258 n x1 u5 Q))) ∧
  (¬ x3 = (75 : Int32) → (x3 = (76 : Int32) → w_X0_readUnit n u2 (fun u6 =>
  mlet (setI u6 (u6.2.2 2) 10 (u6.1 34 3)) fun u7 =>
  w_X4_addChange n (8 : Int32) x2 (u7.1 34 3) (0 : Int32) u7 (fun u8 =>
  w_X4_readChange_258 n x1 u8 Q))) ∧
  (¬ x3 = (76 : Int32) → (x3 = (77 : Int32) → w_X0_readMeter n u2 (fun u9 =>
  mlet (setI u9 (u9.2.2 2) 8 (u9.1 34 1)) fun u10 =>
  mlet (setI u10 (u10.2.2 2) 9 (u10.1 34 2)) fun u11 =>
  w_X4_addChange n (7 : Int32) x2 (u11.1 34 1) (u11.1 34 2) u11 (fun u12 =>
  w_X4_readChange_258 n x1 u12 Q))) ∧
  (¬ x3 = (77 : Int32) → (x3 = (86 : Int32) → w_X5_number n (3 : Int32) (0 : Int32) u2 (fun r1 u13 =>
  w_X4_takeVoice n r1 u13 (fun u14 =>
  w_X4_readChange_258 n x1 u14 Q))) ∧
  (¬ x3 = (86 : Int32) → w_X5_fail n (1 : Int32) x2 u2 (fun u15 =>
  w_X4_readChange_258 n x1 u15 Q))))))
def w_X4_readChange_21 (n : Nat) (x1 : Int32) (x2 : Int32) (t0 : Int32) (u0 : Mm) (Q : Mm → Prop) : Prop :=
  w_X5_peek n t0 u0 (fun r1 u1 =>
  (x1 = 0 → w_X4_readChange_42 n x1 x2 r1 (3 : Int32) (u1.1 33 2) u1 Q) ∧
  (¬ x1 = 0 → w_X4_readChange_42 n x1 x2 r1 (2 : Int32) (u1.1 33 2) u1 Q))
def w_X4_readChange (n : Nat) (a0 : Int32) (u0 : Mm) (Q : Mm → Prop) : Prop :=
  ilet (u0.1 33 2) fun y1 =>
  (a0 = 0 → w_X4_readChange_21 n a0 y1 (1 : Int32) u0 Q) ∧
  (¬ a0 = 0 → w_X4_readChange_21 n a0 y1 (0 : Int32) u0 Q)
set_option maxRecDepth 20000 in
theorem s_X4_readChange_276 {g : Gb} (hg : xInj g) {n : Nat} {Q : Mm → Prop} {u0 : Mm} (h : w_X4_readChange_276 n  u0 Q) : xE g me_X4_readChange (pV g Q noT) 276 [] [] u0 := by
  unfold w_X4_readChange_276 at h
  exact e_vret (k := 112) rfl rfl (Or.inl ⟨rfl, h⟩)
set_option maxRecDepth 20000 in
theorem s_X4_readChange_258 {g : Gb} (hg : xInj g) {n : Nat} {Q : Mm → Prop} {x1 : Int32} {u0 : Mm} (h : w_X4_readChange_258 n x1 u0 Q) : xE g me_X4_readChange (pV g Q noT) 258 [(0, .ref (gR g 38)), (1, .int x1)] [] u0 := by
  unfold w_X4_readChange_258 at h
  refine e_iload_n (k := 104) (i := 1) rfl rfl 1 rfl ?_
  refine e_if_eq (k := 105) (tgt := 272) rfl (by decide) (fun z => ?_) (fun z => ?_)
  · have h := h.1 z
    refine e_aload_n (k := 110) (i := 0) rfl rfl 0 rfl ?_
    refine e_callVv (k := 111) (q := 38) (As := []) (rest := []) rfl (c_X4_closeChange (g := g) hg (n := n) h) m_X4_closeChange i_X4_closeChange l_X4_174 rfl ⟨_, rfl, rfl⟩ rfl rfl (Nat.le_of_ble_eq_true rfl) ⟨by decide, by decide, rfl, rfl⟩ (fun _ h => h.elim) (fun u1 h => ?_)
    refine e_sub (lv' := []) [] rfl ?_
    exact s_X4_readChange_276 hg h
  · have h := h.2 z
    refine e_aload_n (k := 106) (i := 0) rfl rfl 0 rfl ?_
    refine e_getC (k := 107) rfl f_X4_9 rfl rfl ?_
    refine e_callVv (k := 108) (q := 33) (As := []) (rest := []) rfl (c_X5_mustStop (g := g) hg (n := n) h) m_X5_mustStop i_X5_mustStop l_X4_171 rfl ⟨_, rfl, rfl⟩ rfl rfl (Nat.le_of_ble_eq_true rfl) ⟨by decide, by decide, rfl, rfl⟩ (fun _ h => h.elim) (fun u2 h => ?_)
    refine e_goto (k := 109) (tgt := 276) rfl (by decide) ?_
    refine e_sub (lv' := []) [] rfl ?_
    exact s_X4_readChange_276 hg h
set_option maxRecDepth 20000 in
theorem s_X4_readChange_42 {g : Gb} (hg : xInj g) {n : Nat} {Q : Mm → Prop} {x1 : Int32} {x2 : Int32} {x3 : Int32} {t0 : Int32} {t1 : Int32} {u0 : Mm} (h : w_X4_readChange_42 n x1 x2 x3 t0 t1 u0 Q) : xE g me_X4_readChange (pV g Q noT) 42 [(0, .ref (gR g 38)), (1, .int x1), (2, .int x2), (3, .int x3)] [.int t0, .int t1, .ref (gR g 33)] u0 := by
  unfold w_X4_readChange_42 at h
  refine e_iadd (k := 22) rfl ?_
  refine e_putI (k := 23) rfl fg_X4_123 rfl rfl ?_
  refine e_mlet h (fun u1 h => ?_)
  refine e_aload_n (k := 24) (i := 0) rfl rfl 0 rfl ?_
  refine e_getC (k := 25) rfl f_X4_9 rfl rfl ?_
  refine e_callVv (k := 26) (q := 33) (As := []) (rest := []) rfl (c_X5_skipBlanks (g := g) hg (n := n) h) m_X5_skipBlanks i_X5_skipBlanks l_X4_130 rfl ⟨_, rfl, rfl⟩ rfl rfl (Nat.le_of_ble_eq_true rfl) ⟨by decide, by decide, rfl, rfl⟩ (fun _ h => h.elim) (fun u2 h => ?_)
  refine e_iload_n (k := 27) (i := 3) rfl rfl 3 rfl ?_
  refine e_case (a := x3 = (75 : Int32)) (fun z75 => ?_) (fun z75 => ?_)
  · have h := h.1 z75
    refine e_lookup (k := 28) (tgt := 210) (off := 156) rfl (by decide) (by rw [z75]; decide) (by decide) ?_
    refine e_aload_n (k := 81) (i := 0) rfl rfl 0 rfl ?_
    refine e_getC (k := 82) rfl f_X4_15 rfl rfl ?_
    refine e_callVv (k := 83) (q := 34) (As := []) (rest := []) rfl (c_X0_readKey (g := g) hg (n := n) h) m_X0_readKey i_X0_readKey l_X4_164 rfl ⟨_, rfl, rfl⟩ rfl rfl (Nat.le_of_ble_eq_true rfl) ⟨by decide, by decide, rfl, rfl⟩ (fun _ h => h.elim) (fun u3 h => ?_)
    refine e_aload_n (k := 84) (i := 0) rfl rfl 0 rfl ?_
    refine e_getP (k := 85) rfl f_X4_48 rfl rfl (fun ty1 => ?_)
    refine e_aload_n (k := 86) (i := 0) rfl rfl 0 rfl ?_
    refine e_getC (k := 87) rfl f_X4_15 rfl rfl ?_
    refine e_getI (k := 88) rfl f_X4_167 rfl rfl ?_
    refine e_putI (k := 89) rfl fg_X4_170 ty1.2.2 rfl ?_
    refine e_mlet h (fun u4 h => ?_)
    refine e_aload_n (k := 90) (i := 0) rfl rfl 0 rfl ?_
    refine e_bipush (k := 91) (v := (6 : Int32)) rfl (by decide) ?_
    refine e_iload_n (k := 92) (i := 2) rfl rfl 2 rfl ?_
    refine e_aload_n (k := 93) (i := 0) rfl rfl 0 rfl ?_
    refine e_getC (k := 94) rfl f_X4_15 rfl rfl ?_
    refine e_getI (k := 95) rfl f_X4_167 rfl rfl ?_
    refine e_iconst (k := 96) (v := (0 : Int32)) rfl (by decide) ?_
    refine e_callVv (k := 97) (q := 38) (As := [.int (6 : Int32), .int x2, .int (u4.1 34 4), .int (0 : Int32)]) (rest := []) rfl (c_X4_addChange (g := g) hg (n := n) h) m_X4_addChange i_X4_addChange l_X4_153 rfl ⟨_, rfl, rfl⟩ rfl rfl (Nat.le_of_ble_eq_true rfl) ⟨by decide, by decide, rfl, rfl⟩ (fun _ h => h.elim) (fun u5 h => ?_)
    refine e_goto (k := 98) (tgt := 258) rfl (by decide) ?_
    refine e_sub (lv' := [(0, .ref (gR g 38)), (1, .int x1)]) [0, 1] rfl ?_
    exact s_X4_readChange_258 hg h
  · have h := h.2 z75
    refine e_case (a := x3 = (76 : Int32)) (fun z76 => ?_) (fun z76 => ?_)
    · have h := h.1 z76
      refine e_lookup (k := 28) (tgt := 171) (off := 117) rfl (by decide) (by rw [z76]; decide) (by decide) ?_
      refine e_aload_n (k := 63) (i := 0) rfl rfl 0 rfl ?_
      refine e_getC (k := 64) rfl f_X4_15 rfl rfl ?_
      refine e_callVv (k := 65) (q := 34) (As := []) (rest := []) rfl (c_X0_readUnit (g := g) hg (n := n) h) m_X0_readUnit i_X0_readUnit l_X4_157 rfl ⟨_, rfl, rfl⟩ rfl rfl (Nat.le_of_ble_eq_true rfl) ⟨by decide, by decide, rfl, rfl⟩ (fun _ h => h.elim) (fun u6 h => ?_)
      refine e_aload_n (k := 66) (i := 0) rfl rfl 0 rfl ?_
      refine e_getP (k := 67) rfl f_X4_48 rfl rfl (fun ty2 => ?_)
      refine e_aload_n (k := 68) (i := 0) rfl rfl 0 rfl ?_
      refine e_getC (k := 69) rfl f_X4_15 rfl rfl ?_
      refine e_getI (k := 70) rfl f_X4_160 rfl rfl ?_
      refine e_putI (k := 71) rfl fg_X4_163 ty2.2.2 rfl ?_
      refine e_mlet h (fun u7 h => ?_)
      refine e_aload_n (k := 72) (i := 0) rfl rfl 0 rfl ?_
      refine e_bipush (k := 73) (v := (8 : Int32)) rfl (by decide) ?_
      refine e_iload_n (k := 74) (i := 2) rfl rfl 2 rfl ?_
      refine e_aload_n (k := 75) (i := 0) rfl rfl 0 rfl ?_
      refine e_getC (k := 76) rfl f_X4_15 rfl rfl ?_
      refine e_getI (k := 77) rfl f_X4_160 rfl rfl ?_
      refine e_iconst (k := 78) (v := (0 : Int32)) rfl (by decide) ?_
      refine e_callVv (k := 79) (q := 38) (As := [.int (8 : Int32), .int x2, .int (u7.1 34 3), .int (0 : Int32)]) (rest := []) rfl (c_X4_addChange (g := g) hg (n := n) h) m_X4_addChange i_X4_addChange l_X4_153 rfl ⟨_, rfl, rfl⟩ rfl rfl (Nat.le_of_ble_eq_true rfl) ⟨by decide, by decide, rfl, rfl⟩ (fun _ h => h.elim) (fun u8 h => ?_)
      refine e_goto (k := 80) (tgt := 258) rfl (by decide) ?_
      refine e_sub (lv' := [(0, .ref (gR g 38)), (1, .int x1)]) [0, 1] rfl ?_
      exact s_X4_readChange_258 hg h
    · have h := h.2 z76
      refine e_case (a := x3 = (77 : Int32)) (fun z77 => ?_) (fun z77 => ?_)
      · have h := h.1 z77
        refine e_lookup (k := 28) (tgt := 112) (off := 58) rfl (by decide) (by rw [z77]; decide) (by decide) ?_
        refine e_aload_n (k := 37) (i := 0) rfl rfl 0 rfl ?_
        refine e_getC (k := 38) rfl f_X4_15 rfl rfl ?_
        refine e_callVv (k := 39) (q := 34) (As := []) (rest := []) rfl (c_X0_readMeter (g := g) hg (n := n) h) m_X0_readMeter i_X0_readMeter l_X4_137 rfl ⟨_, rfl, rfl⟩ rfl rfl (Nat.le_of_ble_eq_true rfl) ⟨by decide, by decide, rfl, rfl⟩ (fun _ h => h.elim) (fun u9 h => ?_)
        refine e_aload_n (k := 40) (i := 0) rfl rfl 0 rfl ?_
        refine e_getP (k := 41) rfl f_X4_48 rfl rfl (fun ty3 => ?_)
        refine e_aload_n (k := 42) (i := 0) rfl rfl 0 rfl ?_
        refine e_getC (k := 43) rfl f_X4_15 rfl rfl ?_
        refine e_getI (k := 44) rfl f_X4_142 rfl rfl ?_
        refine e_putI (k := 45) rfl fg_X4_144 ty3.2.2 rfl ?_
        refine e_mlet h (fun u10 h => ?_)
        refine e_aload_n (k := 46) (i := 0) rfl rfl 0 rfl ?_
        refine e_getP (k := 47) rfl f_X4_48 rfl rfl (fun ty4 => ?_)
        refine e_aload_n (k := 48) (i := 0) rfl rfl 0 rfl ?_
        refine e_getC (k := 49) rfl f_X4_15 rfl rfl ?_
        refine e_getI (k := 50) rfl f_X4_147 rfl rfl ?_
        refine e_putI (k := 51) rfl fg_X4_150 ty4.2.2 rfl ?_
        refine e_mlet h (fun u11 h => ?_)
        refine e_aload_n (k := 52) (i := 0) rfl rfl 0 rfl ?_
        refine e_bipush (k := 53) (v := (7 : Int32)) rfl (by decide) ?_
        refine e_iload_n (k := 54) (i := 2) rfl rfl 2 rfl ?_
        refine e_aload_n (k := 55) (i := 0) rfl rfl 0 rfl ?_
        refine e_getC (k := 56) rfl f_X4_15 rfl rfl ?_
        refine e_getI (k := 57) rfl f_X4_142 rfl rfl ?_
        refine e_aload_n (k := 58) (i := 0) rfl rfl 0 rfl ?_
        refine e_getC (k := 59) rfl f_X4_15 rfl rfl ?_
        refine e_getI (k := 60) rfl f_X4_147 rfl rfl ?_
        refine e_callVv (k := 61) (q := 38) (As := [.int (7 : Int32), .int x2, .int (u11.1 34 1), .int (u11.1 34 2)]) (rest := []) rfl (c_X4_addChange (g := g) hg (n := n) h) m_X4_addChange i_X4_addChange l_X4_153 rfl ⟨_, rfl, rfl⟩ rfl rfl (Nat.le_of_ble_eq_true rfl) ⟨by decide, by decide, rfl, rfl⟩ (fun _ h => h.elim) (fun u12 h => ?_)
        refine e_goto (k := 62) (tgt := 258) rfl (by decide) ?_
        refine e_sub (lv' := [(0, .ref (gR g 38)), (1, .int x1)]) [0, 1] rfl ?_
        exact s_X4_readChange_258 hg h
      · have h := h.2 z77
        refine e_case (a := x3 = (86 : Int32)) (fun z86 => ?_) (fun z86 => ?_)
        · have h := h.1 z86
          refine e_lookup (k := 28) (tgt := 96) (off := 42) rfl (by decide) (by rw [z86]; decide) (by decide) ?_
          refine e_aload_n (k := 29) (i := 0) rfl rfl 0 rfl ?_
          refine e_aload_n (k := 30) (i := 0) rfl rfl 0 rfl ?_
          refine e_getC (k := 31) rfl f_X4_9 rfl rfl ?_
          refine e_iconst (k := 32) (v := (3 : Int32)) rfl (by decide) ?_
          refine e_iconst (k := 33) (v := (0 : Int32)) rfl (by decide) ?_
          refine e_callVi (k := 34) (q := 33) (As := [.int (3 : Int32), .int (0 : Int32)]) (rest := [.ref (gR g 38)]) rfl (c_X5_number (g := g) hg (n := n) h) m_X5_number i_X5_number l_X4_133 rfl ⟨_, rfl, rfl⟩ rfl rfl (Nat.le_of_ble_eq_true rfl) ⟨by decide, by decide, rfl, rfl⟩ (fun _ h => h.elim) (fun r1 u13 h => ?_)
          refine e_callVv (k := 35) (q := 38) (As := [.int r1]) (rest := []) rfl (c_X4_takeVoice (g := g) hg (n := n) h) m_X4_takeVoice i_X4_takeVoice l_X4_61 rfl ⟨_, rfl, rfl⟩ rfl rfl (Nat.le_of_ble_eq_true rfl) ⟨by decide, by decide, rfl, rfl⟩ (fun _ h => h.elim) (fun u14 h => ?_)
          refine e_goto (k := 36) (tgt := 258) rfl (by decide) ?_
          refine e_sub (lv' := [(0, .ref (gR g 38)), (1, .int x1)]) [0, 1] rfl ?_
          exact s_X4_readChange_258 hg h
        · have h := h.2 z86
          have w75 := xne (i := 75) z75 (by decide)
          have w76 := xne (i := 76) z76 (by decide)
          have w77 := xne (i := 77) z77 (by decide)
          have w86 := xne (i := 86) z86 (by decide)
          refine e_lookup (k := 28) (tgt := 249) (off := 195) rfl (by decide) (by simp [Op.lookupswitch.offset, w75, w75.symm, w76, w76.symm, w77, w77.symm, w86, w86.symm]) (by decide) ?_
          refine e_aload_n (k := 99) (i := 0) rfl rfl 0 rfl ?_
          refine e_getC (k := 100) rfl f_X4_9 rfl rfl ?_
          refine e_iconst (k := 101) (v := (1 : Int32)) rfl (by decide) ?_
          refine e_iload_n (k := 102) (i := 2) rfl rfl 2 rfl ?_
          refine e_callVv (k := 103) (q := 33) (As := [.int (1 : Int32), .int x2]) (rest := []) rfl (c_X5_fail (g := g) hg (n := n) h) m_X5_fail i_X5_fail l_X4_93 rfl ⟨_, rfl, rfl⟩ rfl rfl (Nat.le_of_ble_eq_true rfl) ⟨by decide, by decide, rfl, rfl⟩ (fun _ h => h.elim) (fun u15 h => ?_)
          refine e_sub (lv' := [(0, .ref (gR g 38)), (1, .int x1)]) [0, 1] rfl ?_
          exact s_X4_readChange_258 hg h
set_option maxRecDepth 20000 in
theorem s_X4_readChange_21 {g : Gb} (hg : xInj g) {n : Nat} {Q : Mm → Prop} {x1 : Int32} {x2 : Int32} {t0 : Int32} {u0 : Mm} (h : w_X4_readChange_21 n x1 x2 t0 u0 Q) : xE g me_X4_readChange (pV g Q noT) 21 [(0, .ref (gR g 38)), (1, .int x1), (2, .int x2)] [.int t0, .ref (gR g 33)] u0 := by
  unfold w_X4_readChange_21 at h
  refine e_callVi (k := 11) (q := 33) (As := [.int t0]) (rest := []) rfl (c_X5_peek (g := g) hg (n := n) h) m_X5_peek i_X5_peek l_X4_126 rfl ⟨_, rfl, rfl⟩ rfl rfl (Nat.le_of_ble_eq_true rfl) ⟨by decide, by decide, rfl, rfl⟩ (fun _ h => h.elim) (fun r1 u1 h => ?_)
  refine e_istore_n (k := 12) (i := 3) (lv' := [(0, .ref (gR g 38)), (1, .int x1), (2, .int x2), (3, .int r1)]) rfl rfl (by decide) [1, 2, 3, 0] rfl ?_
  refine e_aload_n (k := 13) (i := 0) rfl rfl 0 rfl ?_
  refine e_getC (k := 14) rfl f_X4_9 rfl rfl ?_
  refine e_dup (k := 15) rfl rfl ?_
  refine e_getI (k := 16) rfl f_X4_123 rfl rfl ?_
  refine e_iload_n (k := 17) (i := 1) rfl rfl 1 rfl ?_
  refine e_if_eq (k := 18) (tgt := 41) rfl (by decide) (fun z => ?_) (fun z => ?_)
  · have h := h.1 z
    refine e_iconst (k := 21) (v := (3 : Int32)) rfl (by decide) ?_
    exact s_X4_readChange_42 hg h
  · have h := h.2 z
    refine e_iconst (k := 19) (v := (2 : Int32)) rfl (by decide) ?_
    refine e_goto (k := 20) (tgt := 42) rfl (by decide) ?_
    exact s_X4_readChange_42 hg h
set_option maxRecDepth 20000 in
theorem c_X4_readChange {g : Gb} (hg : xInj g) {n : Nat} {a0 : Int32} {u0 : Mm} {Q : Mm → Prop} (h : w_X4_readChange n a0 u0 Q) : xMet (gL g) yX4_readChange (xws yX4_readChange cX4_readChange 4 none) (xRoom 8) (xPc g [.ref (gR g 38), .int a0] u0) (xQ g (pV g Q noT)) (xA g) := by
  refine xbody (il := il_X4_readChange) hg il_X4_readChange_ok m_X4_readChange (Nat.le_of_ble_eq_true rfl) ?_
  show xE g me_X4_readChange (pV g Q noT) 0 [(0, .ref (gR g 38)), (1, .int a0)] [] u0
  unfold w_X4_readChange at h
  refine e_aload_n (k := 0) (i := 0) rfl rfl 0 rfl ?_
  refine e_getC (k := 1) rfl f_X4_9 rfl rfl ?_
  refine e_getI (k := 2) rfl f_X4_123 rfl rfl ?_
  refine e_ilet h (fun y1 h => ?_)
  refine e_istore_n (k := 3) (i := 2) (lv' := [(0, .ref (gR g 38)), (1, .int a0), (2, .int y1)]) rfl rfl (by decide) [1, 2, 0] rfl ?_
  refine e_aload_n (k := 4) (i := 0) rfl rfl 0 rfl ?_
  refine e_getC (k := 5) rfl f_X4_9 rfl rfl ?_
  refine e_iload_n (k := 6) (i := 1) rfl rfl 1 rfl ?_
  refine e_if_eq (k := 7) (tgt := 20) rfl (by decide) (fun z => ?_) (fun z => ?_)
  · have h := h.1 z
    refine e_iconst (k := 10) (v := (1 : Int32)) rfl (by decide) ?_
    exact s_X4_readChange_21 hg h
  · have h := h.2 z
    refine e_iconst (k := 8) (v := (0 : Int32)) rfl (by decide) ?_
    refine e_goto (k := 9) (tgt := 21) rfl (by decide) ?_
    exact s_X4_readChange_21 hg h
def il_X12_readMusic : List (Nat × Instr × Nat) := [(0, .iconst 0, 1), (1, .istore_n 1, 1), (2, .aload_n 0, 1), (3, .getfield 138, 3), (6, .aload_n 0, 1), (7, .getfield 145, 3), (10, .if_icmp .ge 121, 3), (13, .aload_n 0, 1), (14, .invokevirtual 152, 3), (17, .aload_n 0, 1), (18, .iconst (-1), 1), (19, .putfield 423, 3), (22, .aload_n 0, 1), (23, .getfield 135, 3), (26, .aload_n 0, 1), (27, .getfield 138, 3), (30, .if_icmp .ne 12, 3), (33, .iconst 1, 1), (34, .istore_n 1, 1), (35, .aload_n 0, 1), (36, .invokevirtual 253, 3), (39, .goto (-37), 3), (42, .iload_n 1, 1), (43, .ifCond .eq 15, 3), (46, .aload_n 0, 1), (47, .iconst 1, 1), (48, .aload_n 0, 1), (49, .getfield 138, 3), (52, .invokevirtual 148, 3), (55, .goto (-53), 3), (58, .aload_n 0, 1), (59, .invokevirtual 162, 3), (62, .invokestatic 446, 3), (65, .ifCond .eq 33, 3), (68, .aload_n 0, 1), (69, .aload_n 0, 1), (70, .getfield 138, 3), (73, .iconst 1, 1), (74, .iadd, 1), (75, .invokevirtual 141, 3), (78, .bipush 58, 2), (80, .if_icmp .ne 18, 3), (83, .aload_n 0, 1), (84, .aload_n 0, 1), (85, .getfield 138, 3), (88, .invokevirtual 458, 3), (91, .aload_n 0, 1), (92, .invokevirtual 253, 3), (95, .goto (-93), 3), (98, .aload_n 0, 1), (99, .invokevirtual 241, 3), (102, .aload_n 0, 1), (103, .getfield 138, 3), (106, .aload_n 0, 1), (107, .getfield 135, 3), (110, .if_icmp .ge 14, 3), (113, .aload_n 0, 1), (114, .invokevirtual 482, 3), (117, .aload_n 0, 1), (118, .invokevirtual 241, 3), (121, .goto (-19), 3), (124, .aload_n 0, 1), (125, .invokevirtual 253, 3), (128, .goto (-126), 3), (131, .aload_n 0, 1), (132, .getfield 350, 3), (135, .ifCond .gt 10, 3), (138, .aload_n 0, 1), (139, .getfield 438, 3), (142, .ifCond .le 13, 3), (145, .aload_n 0, 1), (146, .bipush 6, 2), (148, .aload_n 0, 1), (149, .getfield 145, 3), (152, .invokevirtual 148, 3), (155, .return_, 1)]
set_option maxRecDepth 20000 in
theorem il_X12_readMusic_ok : ∀ x ∈ il_X12_readMusic, decode cX12_readMusic x.1 = .ok x.2 := by decide +kernel
abbrev me_X12_readMusic : Me := (RX12, il_X12_readMusic, 2, none, xRoom 9, [])
def w_X12_readMusic_155 (n : Nat) (u0 : Mm) (Q : Mm → Prop) (T : Mm → Prop) : Prop :=
  Q u0
def w_X12_readMusic_145 (n : Nat) (u0 : Mm) (Q : Mm → Prop) (T : Mm → Prop) : Prop :=
  w_X12_fail n (6 : Int32) (u0.1 0 6) u0 (fun u1 =>
  w_X12_readMusic_155 n u1 Q T) T
def w_X12_readMusic_102 (n : Nat) (L2 : Int32 → Mm → Prop) (Q : Mm → Prop) (T : Mm → Prop) : Nat → Int32 → Mm → Prop
  | 0, _, _ => False
  | k + 1, x1, u0 =>
  ((u0.1 0 9) ≤ (u0.1 0 7) → w_X12_endLine n u0 (fun u1 =>
  L2 x1 u1) T) ∧
  (¬ (u0.1 0 9) ≤ (u0.1 0 7) → w_X12_readOne n u0 (fun u2 =>
  w_X12_blanks n u2 (fun u3 =>
  (w_X12_readMusic_102 n L2 Q T k) x1 u3) T) T)
def w_X12_readMusic_98 (n : Nat) (L2 : Int32 → Mm → Prop) (x1 : Int32) (u0 : Mm) (Q : Mm → Prop) (T : Mm → Prop) : Prop :=
  w_X12_blanks n u0 (fun u1 =>
  (w_X12_readMusic_102 n L2 Q T n) x1 u1) T
def w_X12_readMusic_2 (n : Nat) (Q : Mm → Prop) (T : Mm → Prop) : Nat → Int32 → Mm → Prop
  | 0, _, _ => False
  | k + 1, x1, u0 =>
  ((u0.1 0 6) ≤ (u0.1 0 7) → (0 < (u0.1 0 46) → w_X12_readMusic_145 n u0 Q T) ∧
  (¬ 0 < (u0.1 0 46) → ((u0.1 0 45) ≤ 0 → w_X12_readMusic_155 n u0 Q T) ∧
  (¬ (u0.1 0 45) ≤ 0 → w_X12_readMusic_145 n u0 Q T))) ∧
  (¬ (u0.1 0 6) ≤ (u0.1 0 7) → w_X12_beginLine n u0 (fun u1 =>
  mlet (setI u1 0 49 (-1 : Int32)) fun u2 =>
  (¬ (u2.1 0 9) = (u2.1 0 7) → (x1 = 0 → w_X12_here n u2 (fun r1 u3 =>
  w_X12_isLetter n r1 u3 (fun r2 u4 =>
  (r2 = 0 → w_X12_readMusic_98 n (w_X12_readMusic_2 n Q T k) x1 u4 Q T) ∧
  (¬ r2 = 0 → w_X12_peek n ((u4.1 0 7) + (1 : Int32)) u4 (fun r3 u5 =>
  (¬ r3 = (58 : Int32) → w_X12_readMusic_98 n (w_X12_readMusic_2 n Q T k) x1 u5 Q T) ∧
  (r3 = (58 : Int32) → w_X12_readField n (u5.1 0 7) u5 (fun u6 =>
  w_X12_endLine n u6 (fun u7 =>
  (w_X12_readMusic_2 n Q T k) x1 u7) T) T)) T)) T) T) ∧
  (¬ x1 = 0 → w_X12_fail n (1 : Int32) (u2.1 0 7) u2 (fun u8 =>
  (w_X12_readMusic_2 n Q T k) x1 u8) T)) ∧
  ((u2.1 0 9) = (u2.1 0 7) → w_X12_endLine n u2 (fun u9 =>
  (w_X12_readMusic_2 n Q T k) (1 : Int32) u9) T)) T)
def w_X12_readMusic (n : Nat) (u0 : Mm) (Q : Mm → Prop) (T : Mm → Prop) : Prop :=
  (w_X12_readMusic_2 n Q T n) (0 : Int32) u0
set_option maxRecDepth 20000 in
theorem s_X12_readMusic_155 {g : Gb} (hg : xInj g) {n : Nat} {Q : Mm → Prop} {T : Mm → Prop} {u0 : Mm} (h : w_X12_readMusic_155 n  u0 Q T) : xE g me_X12_readMusic (pV g Q T) 155 [] [] u0 := by
  unfold w_X12_readMusic_155 at h
  exact e_vret (k := 75) rfl rfl (Or.inl ⟨rfl, h⟩)
set_option maxRecDepth 20000 in
theorem s_X12_readMusic_145 {g : Gb} (hg : xInj g) {n : Nat} {Q : Mm → Prop} {T : Mm → Prop} {u0 : Mm} (h : w_X12_readMusic_145 n  u0 Q T) : xE g me_X12_readMusic (pV g Q T) 145 [(0, .ref (gR g 0))] [] u0 := by
  unfold w_X12_readMusic_145 at h
  refine e_aload_n (k := 70) (i := 0) rfl rfl 0 rfl ?_
  refine e_bipush (k := 71) (v := (6 : Int32)) rfl (by decide) ?_
  refine e_aload_n (k := 72) (i := 0) rfl rfl 0 rfl ?_
  refine e_getI (k := 73) rfl f_X12_145 rfl rfl ?_
  refine e_callVv (k := 74) (q := 0) (As := [.int (6 : Int32), .int (u0.1 0 6)]) (rest := []) rfl (c_X12_fail (g := g) hg (n := n) h) m_X12_fail i_X12_fail l_X12_148 rfl ⟨_, rfl, rfl⟩ rfl rfl (Nat.le_of_ble_eq_true rfl) ⟨by decide, by decide, rfl, rfl⟩ (fun _ h => ⟨fun _ z => (by cases z), Or.inr ⟨rfl, h⟩⟩) (fun u1 h => ?_)
  refine e_sub (lv' := []) [] rfl ?_
  exact s_X12_readMusic_155 hg h
set_option maxRecDepth 20000 in
theorem s_X12_readMusic_102 {g : Gb} (hg : xInj g) {n : Nat} {Q : Mm → Prop} {T : Mm → Prop} {L2 : Int32 → Mm → Prop} (hL2 : ∀ (x1 : Int32) (u0 : Mm), L2 x1 u0 → xE g me_X12_readMusic (pV g Q T) 2 [(0, .ref (gR g 0)), (1, .int x1)] [] u0) : ∀ (k : Nat) (x1 : Int32) (u0 : Mm), w_X12_readMusic_102 n L2 Q T k x1 u0 → xE g me_X12_readMusic (pV g Q T) 102 [(0, .ref (gR g 0)), (1, .int x1)] [] u0 := by
  intro k
  induction k with
  | zero => intro x1 u0 h; exact h.elim
  | succ k ih =>
    intro x1 u0 h
    unfold w_X12_readMusic_102 at h
    refine e_aload_n (k := 51) (i := 0) rfl rfl 0 rfl ?_
    refine e_getI (k := 52) rfl f_X12_138 rfl rfl ?_
    refine e_aload_n (k := 53) (i := 0) rfl rfl 0 rfl ?_
    refine e_getI (k := 54) rfl f_X12_135 rfl rfl ?_
    refine e_icmp_ge (k := 55) (tgt := 124) rfl (by decide) (fun z => ?_) (fun z => ?_)
    · have h := h.1 z
      refine e_aload_n (k := 61) (i := 0) rfl rfl 0 rfl ?_
      refine e_callVv (k := 62) (q := 0) (As := []) (rest := []) rfl (c_X12_endLine (g := g) hg (n := n) h) m_X12_endLine i_X12_endLine l_X12_253 rfl ⟨_, rfl, rfl⟩ rfl rfl (Nat.le_of_ble_eq_true rfl) ⟨by decide, by decide, rfl, rfl⟩ (fun _ h => ⟨fun _ z => (by cases z), Or.inr ⟨rfl, h⟩⟩) (fun u1 h => ?_)
      refine e_goto (k := 63) (tgt := 2) rfl (by decide) ?_
      exact hL2 x1 u1 h
    · have h := h.2 z
      refine e_aload_n (k := 56) (i := 0) rfl rfl 0 rfl ?_
      refine e_callVv (k := 57) (q := 0) (As := []) (rest := []) rfl (c_X12_readOne (g := g) hg (n := n) h) m_X12_readOne i_X12_readOne l_X12_482 rfl ⟨_, rfl, rfl⟩ rfl rfl (Nat.le_of_ble_eq_true rfl) ⟨by decide, by decide, rfl, rfl⟩ (fun _ h => ⟨fun _ z => (by cases z), Or.inr ⟨rfl, h⟩⟩) (fun u2 h => ?_)
      refine e_aload_n (k := 58) (i := 0) rfl rfl 0 rfl ?_
      refine e_callVv (k := 59) (q := 0) (As := []) (rest := []) rfl (c_X12_blanks (g := g) hg (n := n) h) m_X12_blanks i_X12_blanks l_X12_241 rfl ⟨_, rfl, rfl⟩ rfl rfl (Nat.le_of_ble_eq_true rfl) ⟨by decide, by decide, rfl, rfl⟩ (fun _ h => ⟨fun _ z => (by cases z), Or.inr ⟨rfl, h⟩⟩) (fun u3 h => ?_)
      refine e_goto (k := 60) (tgt := 102) rfl (by decide) ?_
      exact ih x1 u3 h
set_option maxRecDepth 20000 in
theorem s_X12_readMusic_98 {g : Gb} (hg : xInj g) {n : Nat} {Q : Mm → Prop} {T : Mm → Prop} {L2 : Int32 → Mm → Prop} (hL2 : ∀ (x1 : Int32) (u0 : Mm), L2 x1 u0 → xE g me_X12_readMusic (pV g Q T) 2 [(0, .ref (gR g 0)), (1, .int x1)] [] u0) {x1 : Int32} {u0 : Mm} (h : w_X12_readMusic_98 n L2 x1 u0 Q T) : xE g me_X12_readMusic (pV g Q T) 98 [(0, .ref (gR g 0)), (1, .int x1)] [] u0 := by
  unfold w_X12_readMusic_98 at h
  refine e_aload_n (k := 49) (i := 0) rfl rfl 0 rfl ?_
  refine e_callVv (k := 50) (q := 0) (As := []) (rest := []) rfl (c_X12_blanks (g := g) hg (n := n) h) m_X12_blanks i_X12_blanks l_X12_241 rfl ⟨_, rfl, rfl⟩ rfl rfl (Nat.le_of_ble_eq_true rfl) ⟨by decide, by decide, rfl, rfl⟩ (fun _ h => ⟨fun _ z => (by cases z), Or.inr ⟨rfl, h⟩⟩) (fun u1 h => ?_)
  exact s_X12_readMusic_102 hg hL2 n x1 u1 h
set_option maxRecDepth 20000 in
theorem s_X12_readMusic_2 {g : Gb} (hg : xInj g) {n : Nat} {Q : Mm → Prop} {T : Mm → Prop} : ∀ (k : Nat) (x1 : Int32) (u0 : Mm), w_X12_readMusic_2 n Q T k x1 u0 → xE g me_X12_readMusic (pV g Q T) 2 [(0, .ref (gR g 0)), (1, .int x1)] [] u0 := by
  intro k
  induction k with
  | zero => intro x1 u0 h; exact h.elim
  | succ k ih =>
    intro x1 u0 h
    unfold w_X12_readMusic_2 at h
    refine e_aload_n (k := 2) (i := 0) rfl rfl 0 rfl ?_
    refine e_getI (k := 3) rfl f_X12_138 rfl rfl ?_
    refine e_aload_n (k := 4) (i := 0) rfl rfl 0 rfl ?_
    refine e_getI (k := 5) rfl f_X12_145 rfl rfl ?_
    refine e_icmp_ge (k := 6) (tgt := 131) rfl (by decide) (fun z => ?_) (fun z => ?_)
    · have h := h.1 z
      refine e_aload_n (k := 64) (i := 0) rfl rfl 0 rfl ?_
      refine e_getI (k := 65) rfl f_X12_350 rfl rfl ?_
      refine e_if_gt (k := 66) (tgt := 145) rfl (by decide) (fun z => ?_) (fun z => ?_)
      · have h := h.1 z
        refine e_sub (lv' := [(0, .ref (gR g 0))]) [0] rfl ?_
        exact s_X12_readMusic_145 hg h
      · have h := h.2 z
        refine e_aload_n (k := 67) (i := 0) rfl rfl 0 rfl ?_
        refine e_getI (k := 68) rfl f_X12_438 rfl rfl ?_
        refine e_if_le (k := 69) (tgt := 155) rfl (by decide) (fun z => ?_) (fun z => ?_)
        · have h := h.1 z
          refine e_sub (lv' := []) [] rfl ?_
          exact s_X12_readMusic_155 hg h
        · have h := h.2 z
          refine e_sub (lv' := [(0, .ref (gR g 0))]) [0] rfl ?_
          exact s_X12_readMusic_145 hg h
    · have h := h.2 z
      refine e_aload_n (k := 7) (i := 0) rfl rfl 0 rfl ?_
      refine e_callVv (k := 8) (q := 0) (As := []) (rest := []) rfl (c_X12_beginLine (g := g) hg (n := n) h) m_X12_beginLine i_X12_beginLine l_X12_152 rfl ⟨_, rfl, rfl⟩ rfl rfl (Nat.le_of_ble_eq_true rfl) ⟨by decide, by decide, rfl, rfl⟩ (fun _ h => ⟨fun _ z => (by cases z), Or.inr ⟨rfl, h⟩⟩) (fun u1 h => ?_)
      refine e_aload_n (k := 9) (i := 0) rfl rfl 0 rfl ?_
      refine e_iconst (k := 10) (v := (-1 : Int32)) rfl (by decide) ?_
      refine e_putI (k := 11) rfl fg_X12_423 rfl rfl ?_
      refine e_mlet h (fun u2 h => ?_)
      refine e_aload_n (k := 12) (i := 0) rfl rfl 0 rfl ?_
      refine e_getI (k := 13) rfl f_X12_135 rfl rfl ?_
      refine e_aload_n (k := 14) (i := 0) rfl rfl 0 rfl ?_
      refine e_getI (k := 15) rfl f_X12_138 rfl rfl ?_
      refine e_icmp_ne (k := 16) (tgt := 42) rfl (by decide) (fun z => ?_) (fun z => ?_)
      · have h := h.1 z
        refine e_iload_n (k := 22) (i := 1) rfl rfl 1 rfl ?_
        refine e_if_eq (k := 23) (tgt := 58) rfl (by decide) (fun z => ?_) (fun z => ?_)
        · have h := h.1 z
          refine e_aload_n (k := 30) (i := 0) rfl rfl 0 rfl ?_
          refine e_callVi (k := 31) (q := 0) (As := []) (rest := []) rfl (c_X12_here (g := g) hg (n := n) h) m_X12_here i_X12_here l_X12_162 rfl ⟨_, rfl, rfl⟩ rfl rfl (Nat.le_of_ble_eq_true rfl) ⟨by decide, by decide, rfl, rfl⟩ (fun _ h => ⟨fun _ z => (by cases z), Or.inr ⟨rfl, h⟩⟩) (fun r1 u3 h => ?_)
          refine e_callSi (k := 32) (As := [.int r1]) (rest := []) rfl (c_X12_isLetter (g := g) hg (n := n) h) m_X12_isLetter st_X12_isLetter l_X12_446 rfl rfl (Nat.le_of_ble_eq_true rfl) ⟨by decide, by decide, rfl, rfl⟩ (fun _ h => ⟨fun _ z => (by cases z), Or.inr ⟨rfl, h⟩⟩) (fun r2 u4 h => ?_)
          refine e_if_eq (k := 33) (tgt := 98) rfl (by decide) (fun z => ?_) (fun z => ?_)
          · have h := h.1 z
            exact s_X12_readMusic_98 hg ih h
          · have h := h.2 z
            refine e_aload_n (k := 34) (i := 0) rfl rfl 0 rfl ?_
            refine e_aload_n (k := 35) (i := 0) rfl rfl 0 rfl ?_
            refine e_getI (k := 36) rfl f_X12_138 rfl rfl ?_
            refine e_iconst (k := 37) (v := (1 : Int32)) rfl (by decide) ?_
            refine e_iadd (k := 38) rfl ?_
            refine e_callVi (k := 39) (q := 0) (As := [.int ((u4.1 0 7) + (1 : Int32))]) (rest := []) rfl (c_X12_peek (g := g) hg (n := n) h) m_X12_peek i_X12_peek l_X12_141 rfl ⟨_, rfl, rfl⟩ rfl rfl (Nat.le_of_ble_eq_true rfl) ⟨by decide, by decide, rfl, rfl⟩ (fun _ h => ⟨fun _ z => (by cases z), Or.inr ⟨rfl, h⟩⟩) (fun r3 u5 h => ?_)
            refine e_bipush (k := 40) (v := (58 : Int32)) rfl (by decide) ?_
            refine e_icmp_ne (k := 41) (tgt := 98) rfl (by decide) (fun z => ?_) (fun z => ?_)
            · have h := h.1 z
              exact s_X12_readMusic_98 hg ih h
            · have h := h.2 z
              refine e_aload_n (k := 42) (i := 0) rfl rfl 0 rfl ?_
              refine e_aload_n (k := 43) (i := 0) rfl rfl 0 rfl ?_
              refine e_getI (k := 44) rfl f_X12_138 rfl rfl ?_
              refine e_callVv (k := 45) (q := 0) (As := [.int (u5.1 0 7)]) (rest := []) rfl (c_X12_readField (g := g) hg (n := n) h) m_X12_readField i_X12_readField l_X12_458 rfl ⟨_, rfl, rfl⟩ rfl rfl (Nat.le_of_ble_eq_true rfl) ⟨by decide, by decide, rfl, rfl⟩ (fun _ h => ⟨fun _ z => (by cases z), Or.inr ⟨rfl, h⟩⟩) (fun u6 h => ?_)
              refine e_aload_n (k := 46) (i := 0) rfl rfl 0 rfl ?_
              refine e_callVv (k := 47) (q := 0) (As := []) (rest := []) rfl (c_X12_endLine (g := g) hg (n := n) h) m_X12_endLine i_X12_endLine l_X12_253 rfl ⟨_, rfl, rfl⟩ rfl rfl (Nat.le_of_ble_eq_true rfl) ⟨by decide, by decide, rfl, rfl⟩ (fun _ h => ⟨fun _ z => (by cases z), Or.inr ⟨rfl, h⟩⟩) (fun u7 h => ?_)
              refine e_goto (k := 48) (tgt := 2) rfl (by decide) ?_
              exact ih x1 u7 h
        · have h := h.2 z
          refine e_aload_n (k := 24) (i := 0) rfl rfl 0 rfl ?_
          refine e_iconst (k := 25) (v := (1 : Int32)) rfl (by decide) ?_
          refine e_aload_n (k := 26) (i := 0) rfl rfl 0 rfl ?_
          refine e_getI (k := 27) rfl f_X12_138 rfl rfl ?_
          refine e_callVv (k := 28) (q := 0) (As := [.int (1 : Int32), .int (u2.1 0 7)]) (rest := []) rfl (c_X12_fail (g := g) hg (n := n) h) m_X12_fail i_X12_fail l_X12_148 rfl ⟨_, rfl, rfl⟩ rfl rfl (Nat.le_of_ble_eq_true rfl) ⟨by decide, by decide, rfl, rfl⟩ (fun _ h => ⟨fun _ z => (by cases z), Or.inr ⟨rfl, h⟩⟩) (fun u8 h => ?_)
          refine e_goto (k := 29) (tgt := 2) rfl (by decide) ?_
          exact ih x1 u8 h
      · have h := h.2 z
        refine e_iconst (k := 17) (v := (1 : Int32)) rfl (by decide) ?_
        refine e_istore_n (k := 18) (i := 1) (lv' := [(0, .ref (gR g 0)), (1, .int (1 : Int32))]) rfl rfl (by decide) [1, 0] rfl ?_
        refine e_aload_n (k := 19) (i := 0) rfl rfl 0 rfl ?_
        refine e_callVv (k := 20) (q := 0) (As := []) (rest := []) rfl (c_X12_endLine (g := g) hg (n := n) h) m_X12_endLine i_X12_endLine l_X12_253 rfl ⟨_, rfl, rfl⟩ rfl rfl (Nat.le_of_ble_eq_true rfl) ⟨by decide, by decide, rfl, rfl⟩ (fun _ h => ⟨fun _ z => (by cases z), Or.inr ⟨rfl, h⟩⟩) (fun u9 h => ?_)
        refine e_goto (k := 21) (tgt := 2) rfl (by decide) ?_
        exact ih (1 : Int32) u9 h
set_option maxRecDepth 20000 in
theorem c_X12_readMusic {g : Gb} (hg : xInj g) {n : Nat} {u0 : Mm} {Q : Mm → Prop} {T : Mm → Prop} (h : w_X12_readMusic n u0 Q T) : xMet (gL g) yX12_readMusic (xws yX12_readMusic cX12_readMusic 2 none) (xRoom 9) (xPc g [.ref (gR g 0)] u0) (xQ g (pV g Q T)) (xA g) := by
  refine xbody (il := il_X12_readMusic) hg il_X12_readMusic_ok m_X12_readMusic (Nat.le_of_ble_eq_true rfl) ?_
  show xE g me_X12_readMusic (pV g Q T) 0 [(0, .ref (gR g 0))] [] u0
  unfold w_X12_readMusic at h
  refine e_iconst (k := 0) (v := (0 : Int32)) rfl (by decide) ?_
  refine e_istore_n (k := 1) (i := 1) (lv' := [(0, .ref (gR g 0)), (1, .int (0 : Int32))]) rfl rfl (by decide) [1, 0] rfl ?_
  exact s_X12_readMusic_2 hg n (0 : Int32) u0 h
def il_X1_readHeads : List (Nat × Instr × Nat) := [(0, .aload_n 0, 1), (1, .iconst 0, 1), (2, .putfield 23, 3), (5, .aload_n 0, 1), (6, .iconst 0, 1), (7, .putfield 27, 3), (10, .aload_n 0, 1), (11, .iconst 0, 1), (12, .putfield 30, 3), (15, .iconst 0, 1), (16, .istore_n 1, 1), (17, .iconst 0, 1), (18, .istore_n 2, 1), (19, .iload_n 2, 1), (20, .sipush 2000, 3), (23, .if_icmp .gt 97, 3), (26, .aload_n 0, 1), (27, .getfield 9, 3), (30, .getfield 33, 3), (33, .ifCond .ne 87, 3), (36, .iload_n 1, 1), (37, .bipush 75, 2), (39, .if_icmp .eq 81, 3), (42, .aload_n 0, 1), (43, .getfield 9, 3), (46, .invokevirtual 39, 3), (49, .pop, 1), (50, .aload_n 0, 1), (51, .getfield 9, 3), (54, .invokevirtual 43, 3), (57, .istore_n 1, 1), (58, .aload_n 0, 1), (59, .iload_n 1, 1), (60, .invokevirtual 47, 3), (63, .ifCond .ne 19, 3), (66, .aload_n 0, 1), (67, .getfield 9, 3), (70, .iconst 1, 1), (71, .aload_n 0, 1), (72, .getfield 9, 3), (75, .getfield 51, 3), (78, .invokevirtual 54, 3), (81, .return_, 1), (82, .aload_n 0, 1), (83, .getfield 9, 3), (86, .dup, 1), (87, .getfield 58, 3), (90, .iconst 2, 1), (91, .iadd, 1), (92, .putfield 58, 3), (95, .aload_n 0, 1), (96, .getfield 9, 3), (99, .invokevirtual 61, 3), (102, .aload_n 0, 1), (103, .iload_n 1, 1), (104, .invokevirtual 64, 3), (107, .aload_n 0, 1), (108, .getfield 9, 3), (111, .invokevirtual 68, 3), (114, .iinc 2 1, 3), (117, .goto (-98), 3), (120, .aload_n 0, 1), (121, .getfield 27, 3), (124, .ifCond .ne 66, 3), (127, .aload_n 0, 1), (128, .getfield 19, 3), (131, .getfield 71, 3), (134, .iconst 2, 1), (135, .iaload, 1), (136, .ifCond .le 32, 3), (139, .iconst 4, 1), (140, .aload_n 0, 1), (141, .getfield 19, 3), (144, .getfield 71, 3), (147, .iconst 2, 1), (148, .iaload, 1), (149, .imul, 1), (150, .iconst 3, 1), (151, .aload_n 0, 1), (152, .getfield 19, 3), (155, .getfield 71, 3), (158, .iconst 3, 1), (159, .iaload, 1), (160, .imul, 1), (161, .if_icmp .ge 7, 3), (164, .iconst 1, 1), (165, .goto 4, 3), (168, .iconst 0, 1), (169, .istore_n 2, 1), (170, .aload_n 0, 1), (171, .getfield 19, 3), (174, .getfield 71, 3), (177, .iconst 4, 1), (178, .iload_n 2, 1), (179, .ifCond .eq 8, 3), (182, .bipush 16, 2), (184, .goto 5, 3), (187, .bipush 8, 2), (189, .iastore, 1), (190, .return_, 1)]
set_option maxRecDepth 20000 in
theorem il_X1_readHeads_ok : ∀ x ∈ il_X1_readHeads, decode cX1_readHeads x.1 = .ok x.2 := by decide +kernel
abbrev me_X1_readHeads : Me := (RX1, il_X1_readHeads, 3, none, xRoom 9, [])
def w_X1_readHeads_190 (n : Nat) (u0 : Mm) (Q : Mm → Prop) : Prop :=
  Q u0
def w_X1_readHeads_189 (n : Nat) (t0 : Int32) (t1 : Int32) (u0 : Mm) (Q : Mm → Prop) : Prop :=
  vp_in t1 10 ∧ (mlet (setI u0 43 (ix t1) t0) fun u1 =>
  w_X1_readHeads_190 n u1 Q)
def w_X1_readHeads_169 (n : Nat) (t0 : Int32) (u0 : Mm) (Q : Mm → Prop) : Prop :=
  (t0 = 0 → w_X1_readHeads_189 n (8 : Int32) (4 : Int32) u0 Q) ∧
  (¬ t0 = 0 → w_X1_readHeads_189 n (16 : Int32) (4 : Int32) u0 Q)
def w_X1_readHeads_168 (n : Nat) (u0 : Mm) (Q : Mm → Prop) : Prop :=
  w_X1_readHeads_169 n (0 : Int32) u0 Q
def w_X1_readHeads_120 (n : Nat) (u0 : Mm) (Q : Mm → Prop) : Prop :=
  (¬ (u0.1 37 4) = 0 → w_X1_readHeads_190 n u0 Q) ∧
  ((u0.1 37 4) = 0 → ((u0.1 43 (ix (2 : Int32))) ≤ 0 → w_X1_readHeads_168 n u0 Q) ∧
  (¬ (u0.1 43 (ix (2 : Int32))) ≤ 0 → (((3 : Int32) * (u0.1 43 (ix (3 : Int32)))) ≤ ((4 : Int32) * (u0.1 43 (ix (2 : Int32)))) → w_X1_readHeads_168 n u0 Q) ∧
  (¬ ((3 : Int32) * (u0.1 43 (ix (3 : Int32)))) ≤ ((4 : Int32) * (u0.1 43 (ix (2 : Int32)))) → w_X1_readHeads_169 n (1 : Int32) u0 Q)))
def w_X1_readHeads_19 (n : Nat) (Q : Mm → Prop) : Nat → Int32 → Int32 → Mm → Prop
  | 0, _, _, _ => False
  | k + 1, x1, x2, u0 =>
  ((2000 : Int32) < x2 → w_X1_readHeads_120 n u0 Q) ∧
  (¬ (2000 : Int32) < x2 → (¬ (u0.1 33 6) = 0 → w_X1_readHeads_120 n u0 Q) ∧
  ((u0.1 33 6) = 0 → (x1 = (75 : Int32) → w_X1_readHeads_120 n u0 Q) ∧
  (¬ x1 = (75 : Int32) → w_X5_openLine n u0 (fun r1 u1 =>
  w_X5_fieldLetter n u1 (fun r2 u2 =>
  w_X1_mayCome n r2 u2 (fun r3 u3 =>
  (¬ r3 = 0 → mlet (setI u3 33 2 ((u3.1 33 2) + (2 : Int32))) fun u4 =>
  w_X5_skipBlanks n u4 (fun u5 =>
  w_X1_readHead n r2 u5 (fun u6 =>
  w_X5_mustStop n u6 (fun u7 =>
  (w_X1_readHeads_19 n Q k) r2 (x2 + (1 : Int32)) u7)))) ∧
  (r3 = 0 → w_X5_fail n (1 : Int32) (u3.1 33 3) u3 (fun u8 =>
  Q u8))))))))
def w_X1_readHeads (n : Nat) (u0 : Mm) (Q : Mm → Prop) : Prop :=
  mlet (setI u0 37 3 (0 : Int32)) fun u1 =>
  mlet (setI u1 37 4 (0 : Int32)) fun u2 =>
  mlet (setI u2 37 5 (0 : Int32)) fun u3 =>
  (w_X1_readHeads_19 n Q n) (0 : Int32) (0 : Int32) u3
set_option maxRecDepth 20000 in
theorem s_X1_readHeads_190 {g : Gb} (hg : xInj g) {n : Nat} {Q : Mm → Prop} {u0 : Mm} (h : w_X1_readHeads_190 n  u0 Q) : xE g me_X1_readHeads (pV g Q noT) 190 [] [] u0 := by
  unfold w_X1_readHeads_190 at h
  exact e_vret (k := 99) rfl rfl (Or.inl ⟨rfl, h⟩)
set_option maxRecDepth 20000 in
theorem s_X1_readHeads_189 {g : Gb} (hg : xInj g) {n : Nat} {Q : Mm → Prop} {t0 : Int32} {t1 : Int32} {u0 : Mm} (h : w_X1_readHeads_189 n t0 t1 u0 Q) : xE g me_X1_readHeads (pV g Q noT) 189 [] [.int t0, .int t1, .ref (gR g 43)] u0 := by
  unfold w_X1_readHeads_189 at h
  refine e_iast (k := 98) rfl rfl h.1 ?_
  have h := h.2
  refine e_mlet h (fun u1 h => ?_)
  exact s_X1_readHeads_190 hg h
set_option maxRecDepth 20000 in
theorem s_X1_readHeads_169 {g : Gb} (hg : xInj g) {n : Nat} {Q : Mm → Prop} {t0 : Int32} {u0 : Mm} (h : w_X1_readHeads_169 n t0 u0 Q) : xE g me_X1_readHeads (pV g Q noT) 169 [(0, .ref (gR g 37))] [.int t0] u0 := by
  unfold w_X1_readHeads_169 at h
  refine e_istore_n (k := 88) (i := 2) (lv' := [(0, .ref (gR g 37)), (2, .int t0)]) rfl rfl (by decide) [1, 0] rfl ?_
  refine e_aload_n (k := 89) (i := 0) rfl rfl 0 rfl ?_
  refine e_getC (k := 90) rfl f_X1_19 rfl rfl ?_
  refine e_getC (k := 91) rfl f_X1_71 rfl rfl ?_
  refine e_iconst (k := 92) (v := (4 : Int32)) rfl (by decide) ?_
  refine e_iload_n (k := 93) (i := 2) rfl rfl 1 rfl ?_
  refine e_if_eq (k := 94) (tgt := 187) rfl (by decide) (fun z => ?_) (fun z => ?_)
  · have h := h.1 z
    refine e_bipush (k := 97) (v := (8 : Int32)) rfl (by decide) ?_
    refine e_sub (lv' := []) [] rfl ?_
    exact s_X1_readHeads_189 hg h
  · have h := h.2 z
    refine e_bipush (k := 95) (v := (16 : Int32)) rfl (by decide) ?_
    refine e_goto (k := 96) (tgt := 189) rfl (by decide) ?_
    refine e_sub (lv' := []) [] rfl ?_
    exact s_X1_readHeads_189 hg h
set_option maxRecDepth 20000 in
theorem s_X1_readHeads_168 {g : Gb} (hg : xInj g) {n : Nat} {Q : Mm → Prop} {u0 : Mm} (h : w_X1_readHeads_168 n  u0 Q) : xE g me_X1_readHeads (pV g Q noT) 168 [(0, .ref (gR g 37))] [] u0 := by
  unfold w_X1_readHeads_168 at h
  refine e_iconst (k := 87) (v := (0 : Int32)) rfl (by decide) ?_
  exact s_X1_readHeads_169 hg h
set_option maxRecDepth 20000 in
theorem s_X1_readHeads_120 {g : Gb} (hg : xInj g) {n : Nat} {Q : Mm → Prop} {u0 : Mm} (h : w_X1_readHeads_120 n  u0 Q) : xE g me_X1_readHeads (pV g Q noT) 120 [(0, .ref (gR g 37))] [] u0 := by
  unfold w_X1_readHeads_120 at h
  refine e_aload_n (k := 61) (i := 0) rfl rfl 0 rfl ?_
  refine e_getI (k := 62) rfl f_X1_27 rfl rfl ?_
  refine e_if_ne (k := 63) (tgt := 190) rfl (by decide) (fun z => ?_) (fun z => ?_)
  · have h := h.1 z
    refine e_sub (lv' := []) [] rfl ?_
    exact s_X1_readHeads_190 hg h
  · have h := h.2 z
    refine e_aload_n (k := 64) (i := 0) rfl rfl 0 rfl ?_
    refine e_getC (k := 65) rfl f_X1_19 rfl rfl ?_
    refine e_getC (k := 66) rfl f_X1_71 rfl rfl ?_
    refine e_iconst (k := 67) (v := (2 : Int32)) rfl (by decide) ?_
    refine e_iald (k := 68) rfl rfl (by unfold vp_in; decide) ?_
    refine e_if_le (k := 69) (tgt := 168) rfl (by decide) (fun z => ?_) (fun z => ?_)
    · have h := h.1 z
      exact s_X1_readHeads_168 hg h
    · have h := h.2 z
      refine e_iconst (k := 70) (v := (4 : Int32)) rfl (by decide) ?_
      refine e_aload_n (k := 71) (i := 0) rfl rfl 0 rfl ?_
      refine e_getC (k := 72) rfl f_X1_19 rfl rfl ?_
      refine e_getC (k := 73) rfl f_X1_71 rfl rfl ?_
      refine e_iconst (k := 74) (v := (2 : Int32)) rfl (by decide) ?_
      refine e_iald (k := 75) rfl rfl (by unfold vp_in; decide) ?_
      refine e_imul (k := 76) rfl ?_
      refine e_iconst (k := 77) (v := (3 : Int32)) rfl (by decide) ?_
      refine e_aload_n (k := 78) (i := 0) rfl rfl 0 rfl ?_
      refine e_getC (k := 79) rfl f_X1_19 rfl rfl ?_
      refine e_getC (k := 80) rfl f_X1_71 rfl rfl ?_
      refine e_iconst (k := 81) (v := (3 : Int32)) rfl (by decide) ?_
      refine e_iald (k := 82) rfl rfl (by unfold vp_in; decide) ?_
      refine e_imul (k := 83) rfl ?_
      refine e_icmp_ge (k := 84) (tgt := 168) rfl (by decide) (fun z => ?_) (fun z => ?_)
      · have h := h.1 z
        exact s_X1_readHeads_168 hg h
      · have h := h.2 z
        refine e_iconst (k := 85) (v := (1 : Int32)) rfl (by decide) ?_
        refine e_goto (k := 86) (tgt := 169) rfl (by decide) ?_
        exact s_X1_readHeads_169 hg h
set_option maxRecDepth 20000 in
theorem s_X1_readHeads_19 {g : Gb} (hg : xInj g) {n : Nat} {Q : Mm → Prop} : ∀ (k : Nat) (x1 : Int32) (x2 : Int32) (u0 : Mm), w_X1_readHeads_19 n Q k x1 x2 u0 → xE g me_X1_readHeads (pV g Q noT) 19 [(0, .ref (gR g 37)), (1, .int x1), (2, .int x2)] [] u0 := by
  intro k
  induction k with
  | zero => intro x1 x2 u0 h; exact h.elim
  | succ k ih =>
    intro x1 x2 u0 h
    unfold w_X1_readHeads_19 at h
    refine e_iload_n (k := 13) (i := 2) rfl rfl 2 rfl ?_
    refine e_sipush (k := 14) (v := (2000 : Int32)) rfl (by decide) ?_
    refine e_icmp_gt (k := 15) (tgt := 120) rfl (by decide) (fun z => ?_) (fun z => ?_)
    · have h := h.1 z
      refine e_sub (lv' := [(0, .ref (gR g 37))]) [0] rfl ?_
      exact s_X1_readHeads_120 hg h
    · have h := h.2 z
      refine e_aload_n (k := 16) (i := 0) rfl rfl 0 rfl ?_
      refine e_getC (k := 17) rfl f_X1_9 rfl rfl ?_
      refine e_getI (k := 18) rfl f_X1_33 rfl rfl ?_
      refine e_if_ne (k := 19) (tgt := 120) rfl (by decide) (fun z => ?_) (fun z => ?_)
      · have h := h.1 z
        refine e_sub (lv' := [(0, .ref (gR g 37))]) [0] rfl ?_
        exact s_X1_readHeads_120 hg h
      · have h := h.2 z
        refine e_iload_n (k := 20) (i := 1) rfl rfl 1 rfl ?_
        refine e_bipush (k := 21) (v := (75 : Int32)) rfl (by decide) ?_
        refine e_icmp_eq (k := 22) (tgt := 120) rfl (by decide) (fun z => ?_) (fun z => ?_)
        · have h := h.1 z
          refine e_sub (lv' := [(0, .ref (gR g 37))]) [0] rfl ?_
          exact s_X1_readHeads_120 hg h
        · have h := h.2 z
          refine e_aload_n (k := 23) (i := 0) rfl rfl 0 rfl ?_
          refine e_getC (k := 24) rfl f_X1_9 rfl rfl ?_
          refine e_callVi (k := 25) (q := 33) (As := []) (rest := []) rfl (c_X5_openLine (g := g) hg (n := n) h) m_X5_openLine i_X5_openLine l_X1_39 rfl ⟨_, rfl, rfl⟩ rfl rfl (Nat.le_of_ble_eq_true rfl) ⟨by decide, by decide, rfl, rfl⟩ (fun _ h => h.elim) (fun r1 u1 h => ?_)
          refine e_pop (k := 26) rfl rfl ?_
          refine e_aload_n (k := 27) (i := 0) rfl rfl 0 rfl ?_
          refine e_getC (k := 28) rfl f_X1_9 rfl rfl ?_
          refine e_callVi (k := 29) (q := 33) (As := []) (rest := []) rfl (c_X5_fieldLetter (g := g) hg (n := n) h) m_X5_fieldLetter i_X5_fieldLetter l_X1_43 rfl ⟨_, rfl, rfl⟩ rfl rfl (Nat.le_of_ble_eq_true rfl) ⟨by decide, by decide, rfl, rfl⟩ (fun _ h => h.elim) (fun r2 u2 h => ?_)
          refine e_istore_n (k := 30) (i := 1) (lv' := [(0, .ref (gR g 37)), (1, .int r2), (2, .int x2)]) rfl rfl (by decide) [1, 0, 2] rfl ?_
          refine e_aload_n (k := 31) (i := 0) rfl rfl 0 rfl ?_
          refine e_iload_n (k := 32) (i := 1) rfl rfl 1 rfl ?_
          refine e_callVi (k := 33) (q := 37) (As := [.int r2]) (rest := []) rfl (c_X1_mayCome (g := g) hg (n := n) h) m_X1_mayCome i_X1_mayCome l_X1_47 rfl ⟨_, rfl, rfl⟩ rfl rfl (Nat.le_of_ble_eq_true rfl) ⟨by decide, by decide, rfl, rfl⟩ (fun _ h => h.elim) (fun r3 u3 h => ?_)
          refine e_if_ne (k := 34) (tgt := 82) rfl (by decide) (fun z => ?_) (fun z => ?_)
          · have h := h.1 z
            refine e_aload_n (k := 43) (i := 0) rfl rfl 0 rfl ?_
            refine e_getC (k := 44) rfl f_X1_9 rfl rfl ?_
            refine e_dup (k := 45) rfl rfl ?_
            refine e_getI (k := 46) rfl f_X1_58 rfl rfl ?_
            refine e_iconst (k := 47) (v := (2 : Int32)) rfl (by decide) ?_
            refine e_iadd (k := 48) rfl ?_
            refine e_putI (k := 49) rfl fg_X1_58 rfl rfl ?_
            refine e_mlet h (fun u4 h => ?_)
            refine e_aload_n (k := 50) (i := 0) rfl rfl 0 rfl ?_
            refine e_getC (k := 51) rfl f_X1_9 rfl rfl ?_
            refine e_callVv (k := 52) (q := 33) (As := []) (rest := []) rfl (c_X5_skipBlanks (g := g) hg (n := n) h) m_X5_skipBlanks i_X5_skipBlanks l_X1_61 rfl ⟨_, rfl, rfl⟩ rfl rfl (Nat.le_of_ble_eq_true rfl) ⟨by decide, by decide, rfl, rfl⟩ (fun _ h => h.elim) (fun u5 h => ?_)
            refine e_aload_n (k := 53) (i := 0) rfl rfl 0 rfl ?_
            refine e_iload_n (k := 54) (i := 1) rfl rfl 1 rfl ?_
            refine e_callVv (k := 55) (q := 37) (As := [.int r2]) (rest := []) rfl (c_X1_readHead (g := g) hg (n := n) h) m_X1_readHead i_X1_readHead l_X1_64 rfl ⟨_, rfl, rfl⟩ rfl rfl (Nat.le_of_ble_eq_true rfl) ⟨by decide, by decide, rfl, rfl⟩ (fun _ h => h.elim) (fun u6 h => ?_)
            refine e_aload_n (k := 56) (i := 0) rfl rfl 0 rfl ?_
            refine e_getC (k := 57) rfl f_X1_9 rfl rfl ?_
            refine e_callVv (k := 58) (q := 33) (As := []) (rest := []) rfl (c_X5_mustStop (g := g) hg (n := n) h) m_X5_mustStop i_X5_mustStop l_X1_68 rfl ⟨_, rfl, rfl⟩ rfl rfl (Nat.le_of_ble_eq_true rfl) ⟨by decide, by decide, rfl, rfl⟩ (fun _ h => h.elim) (fun u7 h => ?_)
            refine e_iinc (k := 59) (i := 2) (j := 2) (v := (x2 + (1 : Int32))) (lv' := [(0, .ref (gR g 37)), (1, .int r2), (2, .int (x2 + (1 : Int32)))]) rfl rfl rfl (by decide) [1, 2, 0] rfl ?_
            refine e_goto (k := 60) (tgt := 19) rfl (by decide) ?_
            exact ih r2 (x2 + (1 : Int32)) u7 h
          · have h := h.2 z
            refine e_aload_n (k := 35) (i := 0) rfl rfl 0 rfl ?_
            refine e_getC (k := 36) rfl f_X1_9 rfl rfl ?_
            refine e_iconst (k := 37) (v := (1 : Int32)) rfl (by decide) ?_
            refine e_aload_n (k := 38) (i := 0) rfl rfl 0 rfl ?_
            refine e_getC (k := 39) rfl f_X1_9 rfl rfl ?_
            refine e_getI (k := 40) rfl f_X1_51 rfl rfl ?_
            refine e_callVv (k := 41) (q := 33) (As := [.int (1 : Int32), .int (u3.1 33 3)]) (rest := []) rfl (c_X5_fail (g := g) hg (n := n) h) m_X5_fail i_X5_fail l_X1_54 rfl ⟨_, rfl, rfl⟩ rfl rfl (Nat.le_of_ble_eq_true rfl) ⟨by decide, by decide, rfl, rfl⟩ (fun _ h => h.elim) (fun u8 h => ?_)
            exact e_vret (k := 42) rfl rfl (Or.inl ⟨rfl, h⟩)
set_option maxRecDepth 20000 in
theorem c_X1_readHeads {g : Gb} (hg : xInj g) {n : Nat} {u0 : Mm} {Q : Mm → Prop} (h : w_X1_readHeads n u0 Q) : xMet (gL g) yX1_readHeads (xws yX1_readHeads cX1_readHeads 3 none) (xRoom 9) (xPc g [.ref (gR g 37)] u0) (xQ g (pV g Q noT)) (xA g) := by
  refine xbody (il := il_X1_readHeads) hg il_X1_readHeads_ok m_X1_readHeads (Nat.le_of_ble_eq_true rfl) ?_
  show xE g me_X1_readHeads (pV g Q noT) 0 [(0, .ref (gR g 37))] [] u0
  unfold w_X1_readHeads at h
  refine e_aload_n (k := 0) (i := 0) rfl rfl 0 rfl ?_
  refine e_iconst (k := 1) (v := (0 : Int32)) rfl (by decide) ?_
  refine e_putZ (k := 2) rfl fg_X1_23 rfl rfl (Or.inl rfl) ?_
  refine e_mlet h (fun u1 h => ?_)
  refine e_aload_n (k := 3) (i := 0) rfl rfl 0 rfl ?_
  refine e_iconst (k := 4) (v := (0 : Int32)) rfl (by decide) ?_
  refine e_putZ (k := 5) rfl fg_X1_27 rfl rfl (Or.inl rfl) ?_
  refine e_mlet h (fun u2 h => ?_)
  refine e_aload_n (k := 6) (i := 0) rfl rfl 0 rfl ?_
  refine e_iconst (k := 7) (v := (0 : Int32)) rfl (by decide) ?_
  refine e_putZ (k := 8) rfl fg_X1_30 rfl rfl (Or.inl rfl) ?_
  refine e_mlet h (fun u3 h => ?_)
  refine e_iconst (k := 9) (v := (0 : Int32)) rfl (by decide) ?_
  refine e_istore_n (k := 10) (i := 1) (lv' := [(0, .ref (gR g 37)), (1, .int (0 : Int32))]) rfl rfl (by decide) [1, 0] rfl ?_
  refine e_iconst (k := 11) (v := (0 : Int32)) rfl (by decide) ?_
  refine e_istore_n (k := 12) (i := 2) (lv' := [(0, .ref (gR g 37)), (1, .int (0 : Int32)), (2, .int (0 : Int32))]) rfl rfl (by decide) [1, 2, 0] rfl ?_
  exact s_X1_readHeads_19 hg n (0 : Int32) (0 : Int32) u3 h
def il_X4_musicLine : List (Nat × Instr × Nat) := [(0, .aload_n 0, 1), (1, .iconst 0, 1), (2, .putfield 200, 3), (5, .aload_n 0, 1), (6, .getfield 9, 3), (9, .invokevirtual 130, 3), (12, .iconst 0, 1), (13, .istore_n 1, 1), (14, .iload_n 1, 1), (15, .sipush 2000, 3), (18, .if_icmp .gt 222, 3), (21, .aload_n 0, 1), (22, .getfield 9, 3), (25, .getfield 78, 3), (28, .ifCond .ne 212, 3), (31, .aload_n 0, 1), (32, .getfield 9, 3), (35, .getfield 123, 3), (38, .aload_n 0, 1), (39, .getfield 9, 3), (42, .getfield 87, 3), (45, .if_icmp .ge 195, 3), (48, .aload_n 0, 1), (49, .getfield 200, 3), (52, .istore_n 2, 1), (53, .aload_n 0, 1), (54, .iconst 0, 1), (55, .putfield 200, 3), (58, .aload_n 0, 1), (59, .invokevirtual 204, 3), (62, .tableswitch 150 1 12 #[62, 69, 77, 84, 91, 98, 106, 114, 121, 128, 136, 143], 62), (124, .aload_n 0, 1), (125, .invokevirtual 207, 3), (128, .goto 99, 3), (131, .aload_n 0, 1), (132, .iconst 1, 1), (133, .invokevirtual 210, 3), (136, .goto 91, 3), (139, .aload_n 0, 1), (140, .invokevirtual 213, 3), (143, .goto 84, 3), (146, .aload_n 0, 1), (147, .invokevirtual 216, 3), (150, .goto 77, 3), (153, .aload_n 0, 1), (154, .invokevirtual 219, 3), (157, .goto 70, 3), (160, .aload_n 0, 1), (161, .iconst 0, 1), (162, .invokevirtual 101, 3), (165, .goto 62, 3), (168, .aload_n 0, 1), (169, .iconst 0, 1), (170, .invokevirtual 210, 3), (173, .goto 54, 3), (176, .aload_n 0, 1), (177, .invokevirtual 222, 3), (180, .goto 47, 3), (183, .aload_n 0, 1), (184, .invokevirtual 225, 3), (187, .goto 40, 3), (190, .aload_n 0, 1), (191, .iload_n 2, 1), (192, .invokevirtual 228, 3), (195, .goto 32, 3), (198, .aload_n 0, 1), (199, .invokevirtual 231, 3), (202, .goto 25, 3), (205, .aload_n 0, 1), (206, .invokevirtual 234, 3), (209, .goto 18, 3), (212, .aload_n 0, 1), (213, .getfield 9, 3), (216, .iconst 1, 1), (217, .aload_n 0, 1), (218, .getfield 9, 3), (221, .getfield 123, 3), (224, .invokevirtual 93, 3), (227, .aload_n 0, 1), (228, .getfield 9, 3), (231, .invokevirtual 130, 3), (234, .iinc 1 1, 3), (237, .goto (-223), 3), (240, .return_, 1)]
set_option maxRecDepth 20000 in
theorem il_X4_musicLine_ok : ∀ x ∈ il_X4_musicLine, decode cX4_musicLine x.1 = .ok x.2 := by decide +kernel
abbrev me_X4_musicLine : Me := (RX4, il_X4_musicLine, 3, none, xRoom 9, [])
def w_X4_musicLine_240 (n : Nat) (u0 : Mm) (Q : Mm → Prop) : Prop :=
  Q u0
def w_X4_musicLine_227 (n : Nat) (L14 : Int32 → Mm → Prop) (x1 : Int32) (u0 : Mm) (Q : Mm → Prop) : Prop :=
  w_X5_skipBlanks n u0 (fun u1 =>
  L14 (x1 + (1 : Int32)) u1)
def w_X4_musicLine_14 (n : Nat) (Q : Mm → Prop) : Nat → Int32 → Mm → Prop
  | 0, _, _ => False
  | k + 1, x1, u0 =>
  ((2000 : Int32) < x1 → w_X4_musicLine_240 n u0 Q) ∧
  (¬ (2000 : Int32) < x1 → (¬ (u0.1 33 6) = 0 → w_X4_musicLine_240 n u0 Q) ∧
  ((u0.1 33 6) = 0 → ((u0.1 33 4) ≤ (u0.1 33 2) → w_X4_musicLine_240 n u0 Q) ∧
  (¬ (u0.1 33 4) ≤ (u0.1 33 2) → ilet (u0.1 38 14) fun y1 =>
  mlet (setI u0 38 14 (0 : Int32)) fun u1 =>
  w_X4_formHere n u1 (fun r1 u2 =>
  (r1 = (1 : Int32) → w_X4_readSingle n u2 (fun u3 =>
  w_X4_musicLine_227 n (w_X4_musicLine_14 n Q k) x1 u3 Q)) ∧
  (¬ r1 = (1 : Int32) → (r1 = (2 : Int32) → w_X4_readGroup n (1 : Int32) u2 (fun u4 =>
  w_X4_musicLine_227 n (w_X4_musicLine_14 n Q k) x1 u4 Q)) ∧
  (¬ r1 = (2 : Int32) → (r1 = (3 : Int32) → w_X4_readRest n u2 (fun u5 =>
  w_X4_musicLine_227 n (w_X4_musicLine_14 n Q k) x1 u5 Q)) ∧
  (¬ r1 = (3 : Int32) → (r1 = (4 : Int32) → w_X4_readBars n u2 (fun u6 =>
  w_X4_musicLine_227 n (w_X4_musicLine_14 n Q k) x1 u6 Q)) ∧
  (¬ r1 = (4 : Int32) → (r1 = (5 : Int32) → w_X4_readBar n u2 (fun u7 =>
  w_X4_musicLine_227 n (w_X4_musicLine_14 n Q k) x1 u7 Q)) ∧
  (¬ r1 = (5 : Int32) → (r1 = (6 : Int32) → w_X4_readChange n (0 : Int32) u2 (fun u8 =>
  w_X4_musicLine_227 n (w_X4_musicLine_14 n Q k) x1 u8 Q)) ∧
  (¬ r1 = (6 : Int32) → (r1 = (7 : Int32) → w_X4_readGroup n (0 : Int32) u2 (fun u9 =>
  w_X4_musicLine_227 n (w_X4_musicLine_14 n Q k) x1 u9 Q)) ∧
  (¬ r1 = (7 : Int32) → (r1 = (8 : Int32) → w_X4_readTuplet n u2 (fun u10 =>
  w_X4_musicLine_227 n (w_X4_musicLine_14 n Q k) x1 u10 Q)) ∧
  (¬ r1 = (8 : Int32) → (r1 = (9 : Int32) → w_X4_readSlur n u2 (fun u11 =>
  w_X4_musicLine_227 n (w_X4_musicLine_14 n Q k) x1 u11 Q)) ∧
  (¬ r1 = (9 : Int32) → (r1 = (10 : Int32) → w_X4_readBroken n y1 u2 (fun u12 =>
  w_X4_musicLine_227 n (w_X4_musicLine_14 n Q k) x1 u12 Q)) ∧
  (¬ r1 = (10 : Int32) → (r1 = (11 : Int32) → w_X4_readOrnament n u2 (fun u13 =>
  w_X4_musicLine_227 n (w_X4_musicLine_14 n Q k) x1 u13 Q)) ∧
  (¬ r1 = (11 : Int32) → (r1 = (12 : Int32) → w_X4_readWord n u2 (fun u14 =>
  w_X4_musicLine_227 n (w_X4_musicLine_14 n Q k) x1 u14 Q)) ∧
  (¬ r1 = (12 : Int32) → w_X5_fail n (1 : Int32) (u2.1 33 2) u2 (fun u15 =>
  w_X4_musicLine_227 n (w_X4_musicLine_14 n Q k) x1 u15 Q)))))))))))))))))
def w_X4_musicLine (n : Nat) (u0 : Mm) (Q : Mm → Prop) : Prop :=
  mlet (setI u0 38 14 (0 : Int32)) fun u1 =>
  w_X5_skipBlanks n u1 (fun u2 =>
  (w_X4_musicLine_14 n Q n) (0 : Int32) u2)
set_option maxRecDepth 20000 in
theorem s_X4_musicLine_240 {g : Gb} (hg : xInj g) {n : Nat} {Q : Mm → Prop} {u0 : Mm} (h : w_X4_musicLine_240 n  u0 Q) : xE g me_X4_musicLine (pV g Q noT) 240 [] [] u0 := by
  unfold w_X4_musicLine_240 at h
  exact e_vret (k := 83) rfl rfl (Or.inl ⟨rfl, h⟩)
set_option maxRecDepth 20000 in
theorem s_X4_musicLine_227 {g : Gb} (hg : xInj g) {n : Nat} {Q : Mm → Prop} {L14 : Int32 → Mm → Prop} (hL14 : ∀ (x1 : Int32) (u0 : Mm), L14 x1 u0 → xE g me_X4_musicLine (pV g Q noT) 14 [(0, .ref (gR g 38)), (1, .int x1)] [] u0) {x1 : Int32} {u0 : Mm} (h : w_X4_musicLine_227 n L14 x1 u0 Q) : xE g me_X4_musicLine (pV g Q noT) 227 [(0, .ref (gR g 38)), (1, .int x1)] [] u0 := by
  unfold w_X4_musicLine_227 at h
  refine e_aload_n (k := 78) (i := 0) rfl rfl 0 rfl ?_
  refine e_getC (k := 79) rfl f_X4_9 rfl rfl ?_
  refine e_callVv (k := 80) (q := 33) (As := []) (rest := []) rfl (c_X5_skipBlanks (g := g) hg (n := n) h) m_X5_skipBlanks i_X5_skipBlanks l_X4_130 rfl ⟨_, rfl, rfl⟩ rfl rfl (Nat.le_of_ble_eq_true rfl) ⟨by decide, by decide, rfl, rfl⟩ (fun _ h => h.elim) (fun u1 h => ?_)
  refine e_iinc (k := 81) (i := 1) (j := 1) (v := (x1 + (1 : Int32))) (lv' := [(0, .ref (gR g 38)), (1, .int (x1 + (1 : Int32)))]) rfl rfl rfl (by decide) [1, 0] rfl ?_
  refine e_goto (k := 82) (tgt := 14) rfl (by decide) ?_
  exact hL14 (x1 + (1 : Int32)) u1 h
set_option maxRecDepth 20000 in
theorem s_X4_musicLine_14 {g : Gb} (hg : xInj g) {n : Nat} {Q : Mm → Prop} : ∀ (k : Nat) (x1 : Int32) (u0 : Mm), w_X4_musicLine_14 n Q k x1 u0 → xE g me_X4_musicLine (pV g Q noT) 14 [(0, .ref (gR g 38)), (1, .int x1)] [] u0 := by
  intro k
  induction k with
  | zero => intro x1 u0 h; exact h.elim
  | succ k ih =>
    intro x1 u0 h
    unfold w_X4_musicLine_14 at h
    refine e_iload_n (k := 8) (i := 1) rfl rfl 1 rfl ?_
    refine e_sipush (k := 9) (v := (2000 : Int32)) rfl (by decide) ?_
    refine e_icmp_gt (k := 10) (tgt := 240) rfl (by decide) (fun z => ?_) (fun z => ?_)
    · have h := h.1 z
      refine e_sub (lv' := []) [] rfl ?_
      exact s_X4_musicLine_240 hg h
    · have h := h.2 z
      refine e_aload_n (k := 11) (i := 0) rfl rfl 0 rfl ?_
      refine e_getC (k := 12) rfl f_X4_9 rfl rfl ?_
      refine e_getI (k := 13) rfl f_X4_78 rfl rfl ?_
      refine e_if_ne (k := 14) (tgt := 240) rfl (by decide) (fun z => ?_) (fun z => ?_)
      · have h := h.1 z
        refine e_sub (lv' := []) [] rfl ?_
        exact s_X4_musicLine_240 hg h
      · have h := h.2 z
        refine e_aload_n (k := 15) (i := 0) rfl rfl 0 rfl ?_
        refine e_getC (k := 16) rfl f_X4_9 rfl rfl ?_
        refine e_getI (k := 17) rfl f_X4_123 rfl rfl ?_
        refine e_aload_n (k := 18) (i := 0) rfl rfl 0 rfl ?_
        refine e_getC (k := 19) rfl f_X4_9 rfl rfl ?_
        refine e_getI (k := 20) rfl f_X4_87 rfl rfl ?_
        refine e_icmp_ge (k := 21) (tgt := 240) rfl (by decide) (fun z => ?_) (fun z => ?_)
        · have h := h.1 z
          refine e_sub (lv' := []) [] rfl ?_
          exact s_X4_musicLine_240 hg h
        · have h := h.2 z
          refine e_aload_n (k := 22) (i := 0) rfl rfl 0 rfl ?_
          refine e_getI (k := 23) rfl f_X4_200 rfl rfl ?_
          refine e_ilet h (fun y1 h => ?_)
          refine e_istore_n (k := 24) (i := 2) (lv' := [(0, .ref (gR g 38)), (1, .int x1), (2, .int y1)]) rfl rfl (by decide) [1, 2, 0] rfl ?_
          refine e_aload_n (k := 25) (i := 0) rfl rfl 0 rfl ?_
          refine e_iconst (k := 26) (v := (0 : Int32)) rfl (by decide) ?_
          refine e_putZ (k := 27) rfl fg_X4_200 rfl rfl (Or.inl rfl) ?_
          refine e_mlet h (fun u1 h => ?_)
          refine e_aload_n (k := 28) (i := 0) rfl rfl 0 rfl ?_
          refine e_callVi (k := 29) (q := 38) (As := []) (rest := []) rfl (c_X4_formHere (g := g) hg (n := n) h) m_X4_formHere i_X4_formHere l_X4_204 rfl ⟨_, rfl, rfl⟩ rfl rfl (Nat.le_of_ble_eq_true rfl) ⟨by decide, by decide, rfl, rfl⟩ (fun _ h => h.elim) (fun r1 u2 h => ?_)
          refine e_case (a := r1 = (1 : Int32)) (fun z1 => ?_) (fun z1 => ?_)
          · have h := h.1 z1
            refine e_tableIn (k := 30) (tgt := 124) (off := 62) rfl z1 (by decide) (by decide) (by decide) (by decide) ?_
            refine e_aload_n (k := 31) (i := 0) rfl rfl 0 rfl ?_
            refine e_callVv (k := 32) (q := 38) (As := []) (rest := []) rfl (c_X4_readSingle (g := g) hg (n := n) h) m_X4_readSingle i_X4_readSingle l_X4_207 rfl ⟨_, rfl, rfl⟩ rfl rfl (Nat.le_of_ble_eq_true rfl) ⟨by decide, by decide, rfl, rfl⟩ (fun _ h => h.elim) (fun u3 h => ?_)
            refine e_goto (k := 33) (tgt := 227) rfl (by decide) ?_
            refine e_sub (lv' := [(0, .ref (gR g 38)), (1, .int x1)]) [0, 1] rfl ?_
            exact s_X4_musicLine_227 hg ih h
          · have h := h.2 z1
            refine e_case (a := r1 = (2 : Int32)) (fun z2 => ?_) (fun z2 => ?_)
            · have h := h.1 z2
              refine e_tableIn (k := 30) (tgt := 131) (off := 69) rfl z2 (by decide) (by decide) (by decide) (by decide) ?_
              refine e_aload_n (k := 34) (i := 0) rfl rfl 0 rfl ?_
              refine e_iconst (k := 35) (v := (1 : Int32)) rfl (by decide) ?_
              refine e_callVv (k := 36) (q := 38) (As := [.int (1 : Int32)]) (rest := []) rfl (c_X4_readGroup (g := g) hg (n := n) h) m_X4_readGroup i_X4_readGroup l_X4_210 rfl ⟨_, rfl, rfl⟩ rfl rfl (Nat.le_of_ble_eq_true rfl) ⟨by decide, by decide, rfl, rfl⟩ (fun _ h => h.elim) (fun u4 h => ?_)
              refine e_goto (k := 37) (tgt := 227) rfl (by decide) ?_
              refine e_sub (lv' := [(0, .ref (gR g 38)), (1, .int x1)]) [0, 1] rfl ?_
              exact s_X4_musicLine_227 hg ih h
            · have h := h.2 z2
              refine e_case (a := r1 = (3 : Int32)) (fun z3 => ?_) (fun z3 => ?_)
              · have h := h.1 z3
                refine e_tableIn (k := 30) (tgt := 139) (off := 77) rfl z3 (by decide) (by decide) (by decide) (by decide) ?_
                refine e_aload_n (k := 38) (i := 0) rfl rfl 0 rfl ?_
                refine e_callVv (k := 39) (q := 38) (As := []) (rest := []) rfl (c_X4_readRest (g := g) hg (n := n) h) m_X4_readRest i_X4_readRest l_X4_213 rfl ⟨_, rfl, rfl⟩ rfl rfl (Nat.le_of_ble_eq_true rfl) ⟨by decide, by decide, rfl, rfl⟩ (fun _ h => h.elim) (fun u5 h => ?_)
                refine e_goto (k := 40) (tgt := 227) rfl (by decide) ?_
                refine e_sub (lv' := [(0, .ref (gR g 38)), (1, .int x1)]) [0, 1] rfl ?_
                exact s_X4_musicLine_227 hg ih h
              · have h := h.2 z3
                refine e_case (a := r1 = (4 : Int32)) (fun z4 => ?_) (fun z4 => ?_)
                · have h := h.1 z4
                  refine e_tableIn (k := 30) (tgt := 146) (off := 84) rfl z4 (by decide) (by decide) (by decide) (by decide) ?_
                  refine e_aload_n (k := 41) (i := 0) rfl rfl 0 rfl ?_
                  refine e_callVv (k := 42) (q := 38) (As := []) (rest := []) rfl (c_X4_readBars (g := g) hg (n := n) h) m_X4_readBars i_X4_readBars l_X4_216 rfl ⟨_, rfl, rfl⟩ rfl rfl (Nat.le_of_ble_eq_true rfl) ⟨by decide, by decide, rfl, rfl⟩ (fun _ h => h.elim) (fun u6 h => ?_)
                  refine e_goto (k := 43) (tgt := 227) rfl (by decide) ?_
                  refine e_sub (lv' := [(0, .ref (gR g 38)), (1, .int x1)]) [0, 1] rfl ?_
                  exact s_X4_musicLine_227 hg ih h
                · have h := h.2 z4
                  refine e_case (a := r1 = (5 : Int32)) (fun z5 => ?_) (fun z5 => ?_)
                  · have h := h.1 z5
                    refine e_tableIn (k := 30) (tgt := 153) (off := 91) rfl z5 (by decide) (by decide) (by decide) (by decide) ?_
                    refine e_aload_n (k := 44) (i := 0) rfl rfl 0 rfl ?_
                    refine e_callVv (k := 45) (q := 38) (As := []) (rest := []) rfl (c_X4_readBar (g := g) hg (n := n) h) m_X4_readBar i_X4_readBar l_X4_219 rfl ⟨_, rfl, rfl⟩ rfl rfl (Nat.le_of_ble_eq_true rfl) ⟨by decide, by decide, rfl, rfl⟩ (fun _ h => h.elim) (fun u7 h => ?_)
                    refine e_goto (k := 46) (tgt := 227) rfl (by decide) ?_
                    refine e_sub (lv' := [(0, .ref (gR g 38)), (1, .int x1)]) [0, 1] rfl ?_
                    exact s_X4_musicLine_227 hg ih h
                  · have h := h.2 z5
                    refine e_case (a := r1 = (6 : Int32)) (fun z6 => ?_) (fun z6 => ?_)
                    · have h := h.1 z6
                      refine e_tableIn (k := 30) (tgt := 160) (off := 98) rfl z6 (by decide) (by decide) (by decide) (by decide) ?_
                      refine e_aload_n (k := 47) (i := 0) rfl rfl 0 rfl ?_
                      refine e_iconst (k := 48) (v := (0 : Int32)) rfl (by decide) ?_
                      refine e_callVv (k := 49) (q := 38) (As := [.int (0 : Int32)]) (rest := []) rfl (c_X4_readChange (g := g) hg (n := n) h) m_X4_readChange i_X4_readChange l_X4_101 rfl ⟨_, rfl, rfl⟩ rfl rfl (Nat.le_of_ble_eq_true rfl) ⟨by decide, by decide, rfl, rfl⟩ (fun _ h => h.elim) (fun u8 h => ?_)
                      refine e_goto (k := 50) (tgt := 227) rfl (by decide) ?_
                      refine e_sub (lv' := [(0, .ref (gR g 38)), (1, .int x1)]) [0, 1] rfl ?_
                      exact s_X4_musicLine_227 hg ih h
                    · have h := h.2 z6
                      refine e_case (a := r1 = (7 : Int32)) (fun z7 => ?_) (fun z7 => ?_)
                      · have h := h.1 z7
                        refine e_tableIn (k := 30) (tgt := 168) (off := 106) rfl z7 (by decide) (by decide) (by decide) (by decide) ?_
                        refine e_aload_n (k := 51) (i := 0) rfl rfl 0 rfl ?_
                        refine e_iconst (k := 52) (v := (0 : Int32)) rfl (by decide) ?_
                        refine e_callVv (k := 53) (q := 38) (As := [.int (0 : Int32)]) (rest := []) rfl (c_X4_readGroup (g := g) hg (n := n) h) m_X4_readGroup i_X4_readGroup l_X4_210 rfl ⟨_, rfl, rfl⟩ rfl rfl (Nat.le_of_ble_eq_true rfl) ⟨by decide, by decide, rfl, rfl⟩ (fun _ h => h.elim) (fun u9 h => ?_)
                        refine e_goto (k := 54) (tgt := 227) rfl (by decide) ?_
                        refine e_sub (lv' := [(0, .ref (gR g 38)), (1, .int x1)]) [0, 1] rfl ?_
                        exact s_X4_musicLine_227 hg ih h
                      · have h := h.2 z7
                        refine e_case (a := r1 = (8 : Int32)) (fun z8 => ?_) (fun z8 => ?_)
                        · have h := h.1 z8
                          refine e_tableIn (k := 30) (tgt := 176) (off := 114) rfl z8 (by decide) (by decide) (by decide) (by decide) ?_
                          refine e_aload_n (k := 55) (i := 0) rfl rfl 0 rfl ?_
                          refine e_callVv (k := 56) (q := 38) (As := []) (rest := []) rfl (c_X4_readTuplet (g := g) hg (n := n) h) m_X4_readTuplet i_X4_readTuplet l_X4_222 rfl ⟨_, rfl, rfl⟩ rfl rfl (Nat.le_of_ble_eq_true rfl) ⟨by decide, by decide, rfl, rfl⟩ (fun _ h => h.elim) (fun u10 h => ?_)
                          refine e_goto (k := 57) (tgt := 227) rfl (by decide) ?_
                          refine e_sub (lv' := [(0, .ref (gR g 38)), (1, .int x1)]) [0, 1] rfl ?_
                          exact s_X4_musicLine_227 hg ih h
                        · have h := h.2 z8
                          refine e_case (a := r1 = (9 : Int32)) (fun z9 => ?_) (fun z9 => ?_)
                          · have h := h.1 z9
                            refine e_tableIn (k := 30) (tgt := 183) (off := 121) rfl z9 (by decide) (by decide) (by decide) (by decide) ?_
                            refine e_aload_n (k := 58) (i := 0) rfl rfl 0 rfl ?_
                            refine e_callVv (k := 59) (q := 38) (As := []) (rest := []) rfl (c_X4_readSlur (g := g) hg (n := n) h) m_X4_readSlur i_X4_readSlur l_X4_225 rfl ⟨_, rfl, rfl⟩ rfl rfl (Nat.le_of_ble_eq_true rfl) ⟨by decide, by decide, rfl, rfl⟩ (fun _ h => h.elim) (fun u11 h => ?_)
                            refine e_goto (k := 60) (tgt := 227) rfl (by decide) ?_
                            refine e_sub (lv' := [(0, .ref (gR g 38)), (1, .int x1)]) [0, 1] rfl ?_
                            exact s_X4_musicLine_227 hg ih h
                          · have h := h.2 z9
                            refine e_case (a := r1 = (10 : Int32)) (fun z10 => ?_) (fun z10 => ?_)
                            · have h := h.1 z10
                              refine e_tableIn (k := 30) (tgt := 190) (off := 128) rfl z10 (by decide) (by decide) (by decide) (by decide) ?_
                              refine e_aload_n (k := 61) (i := 0) rfl rfl 0 rfl ?_
                              refine e_iload_n (k := 62) (i := 2) rfl rfl 2 rfl ?_
                              refine e_callVv (k := 63) (q := 38) (As := [.int y1]) (rest := []) rfl (c_X4_readBroken (g := g) hg (n := n) h) m_X4_readBroken i_X4_readBroken l_X4_228 rfl ⟨_, rfl, rfl⟩ rfl rfl (Nat.le_of_ble_eq_true rfl) ⟨by decide, by decide, rfl, rfl⟩ (fun _ h => h.elim) (fun u12 h => ?_)
                              refine e_goto (k := 64) (tgt := 227) rfl (by decide) ?_
                              refine e_sub (lv' := [(0, .ref (gR g 38)), (1, .int x1)]) [0, 1] rfl ?_
                              exact s_X4_musicLine_227 hg ih h
                            · have h := h.2 z10
                              refine e_case (a := r1 = (11 : Int32)) (fun z11 => ?_) (fun z11 => ?_)
                              · have h := h.1 z11
                                refine e_tableIn (k := 30) (tgt := 198) (off := 136) rfl z11 (by decide) (by decide) (by decide) (by decide) ?_
                                refine e_aload_n (k := 65) (i := 0) rfl rfl 0 rfl ?_
                                refine e_callVv (k := 66) (q := 38) (As := []) (rest := []) rfl (c_X4_readOrnament (g := g) hg (n := n) h) m_X4_readOrnament i_X4_readOrnament l_X4_231 rfl ⟨_, rfl, rfl⟩ rfl rfl (Nat.le_of_ble_eq_true rfl) ⟨by decide, by decide, rfl, rfl⟩ (fun _ h => h.elim) (fun u13 h => ?_)
                                refine e_goto (k := 67) (tgt := 227) rfl (by decide) ?_
                                refine e_sub (lv' := [(0, .ref (gR g 38)), (1, .int x1)]) [0, 1] rfl ?_
                                exact s_X4_musicLine_227 hg ih h
                              · have h := h.2 z11
                                refine e_case (a := r1 = (12 : Int32)) (fun z12 => ?_) (fun z12 => ?_)
                                · have h := h.1 z12
                                  refine e_tableIn (k := 30) (tgt := 205) (off := 143) rfl z12 (by decide) (by decide) (by decide) (by decide) ?_
                                  refine e_aload_n (k := 68) (i := 0) rfl rfl 0 rfl ?_
                                  refine e_callVv (k := 69) (q := 38) (As := []) (rest := []) rfl (c_X4_readWord (g := g) hg (n := n) h) m_X4_readWord i_X4_readWord l_X4_234 rfl ⟨_, rfl, rfl⟩ rfl rfl (Nat.le_of_ble_eq_true rfl) ⟨by decide, by decide, rfl, rfl⟩ (fun _ h => h.elim) (fun u14 h => ?_)
                                  refine e_goto (k := 70) (tgt := 227) rfl (by decide) ?_
                                  refine e_sub (lv' := [(0, .ref (gR g 38)), (1, .int x1)]) [0, 1] rfl ?_
                                  exact s_X4_musicLine_227 hg ih h
                                · have h := h.2 z12
                                  have w1 := xne (i := 1) z1 (by decide)
                                  have w2 := xne (i := 2) z2 (by decide)
                                  have w3 := xne (i := 3) z3 (by decide)
                                  have w4 := xne (i := 4) z4 (by decide)
                                  have w5 := xne (i := 5) z5 (by decide)
                                  have w6 := xne (i := 6) z6 (by decide)
                                  have w7 := xne (i := 7) z7 (by decide)
                                  have w8 := xne (i := 8) z8 (by decide)
                                  have w9 := xne (i := 9) z9 (by decide)
                                  have w10 := xne (i := 10) z10 (by decide)
                                  have w11 := xne (i := 11) z11 (by decide)
                                  have w12 := xne (i := 12) z12 (by decide)
                                  refine e_tableOut (k := 30) (tgt := 212) rfl (by omega) (by decide) ?_
                                  refine e_aload_n (k := 71) (i := 0) rfl rfl 0 rfl ?_
                                  refine e_getC (k := 72) rfl f_X4_9 rfl rfl ?_
                                  refine e_iconst (k := 73) (v := (1 : Int32)) rfl (by decide) ?_
                                  refine e_aload_n (k := 74) (i := 0) rfl rfl 0 rfl ?_
                                  refine e_getC (k := 75) rfl f_X4_9 rfl rfl ?_
                                  refine e_getI (k := 76) rfl f_X4_123 rfl rfl ?_
                                  refine e_callVv (k := 77) (q := 33) (As := [.int (1 : Int32), .int (u2.1 33 2)]) (rest := []) rfl (c_X5_fail (g := g) hg (n := n) h) m_X5_fail i_X5_fail l_X4_93 rfl ⟨_, rfl, rfl⟩ rfl rfl (Nat.le_of_ble_eq_true rfl) ⟨by decide, by decide, rfl, rfl⟩ (fun _ h => h.elim) (fun u15 h => ?_)
                                  refine e_sub (lv' := [(0, .ref (gR g 38)), (1, .int x1)]) [0, 1] rfl ?_
                                  exact s_X4_musicLine_227 hg ih h
set_option maxRecDepth 20000 in
theorem c_X4_musicLine {g : Gb} (hg : xInj g) {n : Nat} {u0 : Mm} {Q : Mm → Prop} (h : w_X4_musicLine n u0 Q) : xMet (gL g) yX4_musicLine (xws yX4_musicLine cX4_musicLine 3 none) (xRoom 9) (xPc g [.ref (gR g 38)] u0) (xQ g (pV g Q noT)) (xA g) := by
  refine xbody (il := il_X4_musicLine) hg il_X4_musicLine_ok m_X4_musicLine (Nat.le_of_ble_eq_true rfl) ?_
  show xE g me_X4_musicLine (pV g Q noT) 0 [(0, .ref (gR g 38))] [] u0
  unfold w_X4_musicLine at h
  refine e_aload_n (k := 0) (i := 0) rfl rfl 0 rfl ?_
  refine e_iconst (k := 1) (v := (0 : Int32)) rfl (by decide) ?_
  refine e_putZ (k := 2) rfl fg_X4_200 rfl rfl (Or.inl rfl) ?_
  refine e_mlet h (fun u1 h => ?_)
  refine e_aload_n (k := 3) (i := 0) rfl rfl 0 rfl ?_
  refine e_getC (k := 4) rfl f_X4_9 rfl rfl ?_
  refine e_callVv (k := 5) (q := 33) (As := []) (rest := []) rfl (c_X5_skipBlanks (g := g) hg (n := n) h) m_X5_skipBlanks i_X5_skipBlanks l_X4_130 rfl ⟨_, rfl, rfl⟩ rfl rfl (Nat.le_of_ble_eq_true rfl) ⟨by decide, by decide, rfl, rfl⟩ (fun _ h => h.elim) (fun u2 h => ?_)
  refine e_iconst (k := 6) (v := (0 : Int32)) rfl (by decide) ?_
  refine e_istore_n (k := 7) (i := 1) (lv' := [(0, .ref (gR g 38)), (1, .int (0 : Int32))]) rfl rfl (by decide) [1, 0] rfl ?_
  exact s_X4_musicLine_14 hg n (0 : Int32) u2 h
def il_X12_readTune : List (Nat × Instr × Nat) := [(0, .aload_n 0, 1), (1, .iconst 0, 1), (2, .putfield 283, 3), (5, .aload_n 0, 1), (6, .invokevirtual 485, 3), (9, .aload_n 0, 1), (10, .invokevirtual 488, 3), (13, .aload_n 0, 1), (14, .iconst 0, 1), (15, .putfield 290, 3), (18, .aload_n 0, 1), (19, .iconst 1, 1), (20, .putfield 449, 3), (23, .iconst 0, 1), (24, .istore_n 1, 1), (25, .iload_n 1, 1), (26, .iconst 3, 1), (27, .if_icmp .ge 93, 3), (30, .aload_n 0, 1), (31, .getfield 57, 3), (34, .iload_n 1, 1), (35, .aload_n 0, 1), (36, .getfield 280, 3), (39, .iastore, 1), (40, .aload_n 0, 1), (41, .getfield 60, 3), (44, .iload_n 1, 1), (45, .aload_n 0, 1), (46, .getfield 259, 3), (49, .iastore, 1), (50, .aload_n 0, 1), (51, .getfield 63, 3), (54, .iload_n 1, 1), (55, .aload_n 0, 1), (56, .getfield 262, 3), (59, .iastore, 1), (60, .aload_n 0, 1), (61, .getfield 66, 3), (64, .iload_n 1, 1), (65, .aload_n 0, 1), (66, .getfield 268, 3), (69, .iastore, 1), (70, .aload_n 0, 1), (71, .getfield 69, 3), (74, .iload_n 1, 1), (75, .lconst 0, 1), (76, .lastore, 1), (77, .aload_n 0, 1), (78, .getfield 72, 3), (81, .iload_n 1, 1), (82, .iconst 0, 1), (83, .iastore, 1), (84, .aload_n 0, 1), (85, .getfield 75, 3), (88, .iload_n 1, 1), (89, .iconst 0, 1), (90, .bastore, 1), (91, .aload_n 0, 1), (92, .getfield 78, 3), (95, .iload_n 1, 1), (96, .iconst 0, 1), (97, .iastore, 1), (98, .aload_n 0, 1), (99, .getfield 90, 3), (102, .iload_n 1, 1), (103, .iconst (-1), 1), (104, .iastore, 1), (105, .aload_n 0, 1), (106, .iload_n 1, 1), (107, .putfield 290, 3), (110, .aload_n 0, 1), (111, .invokevirtual 435, 3), (114, .iinc 1 1, 3), (117, .goto (-92), 3), (120, .aload_n 0, 1), (121, .iconst 0, 1), (122, .putfield 290, 3), (125, .aload_n 0, 1), (126, .iconst 0, 1), (127, .putfield 410, 3), (130, .aload_n 0, 1), (131, .iconst 0, 1), (132, .putfield 413, 3), (135, .aload_n 0, 1), (136, .iconst 0, 1), (137, .putfield 416, 3), (140, .aload_n 0, 1), (141, .iconst 0, 1), (142, .putfield 438, 3), (145, .aload_n 0, 1), (146, .iconst 0, 1), (147, .putfield 350, 3), (150, .aload_n 0, 1), (151, .iconst (-1), 1), (152, .putfield 423, 3), (155, .aload_n 0, 1), (156, .iconst (-1), 1), (157, .putfield 432, 3), (160, .aload_n 0, 1), (161, .iconst 1, 1), (162, .putfield 359, 3), (165, .aload_n 0, 1), (166, .iconst 1, 1), (167, .putfield 362, 3), (170, .aload_n 0, 1), (171, .invokevirtual 491, 3), (174, .return_, 1)]
set_option maxRecDepth 20000 in
theorem il_X12_readTune_ok : ∀ x ∈ il_X12_readTune, decode cX12_readTune x.1 = .ok x.2 := by decide +kernel
abbrev me_X12_readTune : Me := (RX12, il_X12_readTune, 2, none, xRoom 10, [])
def w_X12_readTune_25 (n : Nat) (Q : Mm → Prop) (T : Mm → Prop) : Nat → Int32 → Mm → Prop
  | 0, _, _ => False
  | k + 1, x1, u0 =>
  ((3 : Int32) ≤ x1 → mlet (setI u0 0 28 (0 : Int32)) fun u1 =>
  mlet (setI u1 0 42 (0 : Int32)) fun u2 =>
  mlet (setI u2 0 43 (0 : Int32)) fun u3 =>
  mlet (setI u3 0 44 (0 : Int32)) fun u4 =>
  mlet (setI u4 0 45 (0 : Int32)) fun u5 =>
  mlet (setI u5 0 46 (0 : Int32)) fun u6 =>
  mlet (setI u6 0 49 (-1 : Int32)) fun u7 =>
  mlet (setI u7 0 63 (-1 : Int32)) fun u8 =>
  mlet (setI u8 0 59 (1 : Int32)) fun u9 =>
  mlet (setI u9 0 60 (1 : Int32)) fun u10 =>
  w_X12_readMusic n u10 (fun u11 =>
  Q u11) T) ∧
  (¬ (3 : Int32) ≤ x1 → vp_in x1 3 ∧ (mlet (setI u0 12 (ix x1) (u0.1 0 20)) fun u12 =>
  vp_in x1 3 ∧ (mlet (setI u12 13 (ix x1) (u12.1 0 16)) fun u13 =>
  vp_in x1 3 ∧ (mlet (setI u13 14 (ix x1) (u13.1 0 17)) fun u14 =>
  vp_in x1 3 ∧ (mlet (setI u14 15 (ix x1) (u14.1 0 18)) fun u15 =>
  vp_in x1 3 ∧ (mlet (setJ u15 16 (ix x1) (0 : Int64)) fun u16 =>
  vp_in x1 3 ∧ (mlet (setI u16 17 (ix x1) (0 : Int32)) fun u17 =>
  vp_in x1 3 ∧ (mlet (setI u17 18 (ix x1) (vp_nar .boolean (0 : Int32))) fun u18 =>
  vp_in x1 3 ∧ (mlet (setI u18 19 (ix x1) (0 : Int32)) fun u19 =>
  vp_in x1 3 ∧ (mlet (setI u19 23 (ix x1) (-1 : Int32)) fun u20 =>
  mlet (setI u20 0 28 x1) fun u21 =>
  w_X12_clearBar n u21 (fun u22 =>
  (w_X12_readTune_25 n Q T k) (x1 + (1 : Int32)) u22) T))))))))))
def w_X12_readTune (n : Nat) (u0 : Mm) (Q : Mm → Prop) (T : Mm → Prop) : Prop :=
  mlet (setI u0 0 27 (0 : Int32)) fun u1 =>
  w_X12_lookAtBytes n u1 (fun u2 =>
  w_X12_readHeads n u2 (fun u3 =>
  mlet (setI u3 0 28 (0 : Int32)) fun u4 =>
  mlet (setI u4 0 29 (1 : Int32)) fun u5 =>
  (w_X12_readTune_25 n Q T n) (0 : Int32) u5) T) T
set_option maxRecDepth 20000 in
theorem s_X12_readTune_25 {g : Gb} (hg : xInj g) {n : Nat} {Q : Mm → Prop} {T : Mm → Prop} : ∀ (k : Nat) (x1 : Int32) (u0 : Mm), w_X12_readTune_25 n Q T k x1 u0 → xE g me_X12_readTune (pV g Q T) 25 [(0, .ref (gR g 0)), (1, .int x1)] [] u0 := by
  intro k
  induction k with
  | zero => intro x1 u0 h; exact h.elim
  | succ k ih =>
    intro x1 u0 h
    unfold w_X12_readTune_25 at h
    refine e_iload_n (k := 15) (i := 1) rfl rfl 1 rfl ?_
    refine e_iconst (k := 16) (v := (3 : Int32)) rfl (by decide) ?_
    refine e_icmp_ge (k := 17) (tgt := 120) rfl (by decide) (fun z => ?_) (fun z => ?_)
    · have h := h.1 z
      refine e_aload_n (k := 74) (i := 0) rfl rfl 0 rfl ?_
      refine e_iconst (k := 75) (v := (0 : Int32)) rfl (by decide) ?_
      refine e_putI (k := 76) rfl fg_X12_290 rfl rfl ?_
      refine e_mlet h (fun u1 h => ?_)
      refine e_aload_n (k := 77) (i := 0) rfl rfl 0 rfl ?_
      refine e_iconst (k := 78) (v := (0 : Int32)) rfl (by decide) ?_
      refine e_putI (k := 79) rfl fg_X12_410 rfl rfl ?_
      refine e_mlet h (fun u2 h => ?_)
      refine e_aload_n (k := 80) (i := 0) rfl rfl 0 rfl ?_
      refine e_iconst (k := 81) (v := (0 : Int32)) rfl (by decide) ?_
      refine e_putI (k := 82) rfl fg_X12_413 rfl rfl ?_
      refine e_mlet h (fun u3 h => ?_)
      refine e_aload_n (k := 83) (i := 0) rfl rfl 0 rfl ?_
      refine e_iconst (k := 84) (v := (0 : Int32)) rfl (by decide) ?_
      refine e_putI (k := 85) rfl fg_X12_416 rfl rfl ?_
      refine e_mlet h (fun u4 h => ?_)
      refine e_aload_n (k := 86) (i := 0) rfl rfl 0 rfl ?_
      refine e_iconst (k := 87) (v := (0 : Int32)) rfl (by decide) ?_
      refine e_putI (k := 88) rfl fg_X12_438 rfl rfl ?_
      refine e_mlet h (fun u5 h => ?_)
      refine e_aload_n (k := 89) (i := 0) rfl rfl 0 rfl ?_
      refine e_iconst (k := 90) (v := (0 : Int32)) rfl (by decide) ?_
      refine e_putI (k := 91) rfl fg_X12_350 rfl rfl ?_
      refine e_mlet h (fun u6 h => ?_)
      refine e_aload_n (k := 92) (i := 0) rfl rfl 0 rfl ?_
      refine e_iconst (k := 93) (v := (-1 : Int32)) rfl (by decide) ?_
      refine e_putI (k := 94) rfl fg_X12_423 rfl rfl ?_
      refine e_mlet h (fun u7 h => ?_)
      refine e_aload_n (k := 95) (i := 0) rfl rfl 0 rfl ?_
      refine e_iconst (k := 96) (v := (-1 : Int32)) rfl (by decide) ?_
      refine e_putI (k := 97) rfl fg_X12_432 rfl rfl ?_
      refine e_mlet h (fun u8 h => ?_)
      refine e_aload_n (k := 98) (i := 0) rfl rfl 0 rfl ?_
      refine e_iconst (k := 99) (v := (1 : Int32)) rfl (by decide) ?_
      refine e_putI (k := 100) rfl fg_X12_359 rfl rfl ?_
      refine e_mlet h (fun u9 h => ?_)
      refine e_aload_n (k := 101) (i := 0) rfl rfl 0 rfl ?_
      refine e_iconst (k := 102) (v := (1 : Int32)) rfl (by decide) ?_
      refine e_putI (k := 103) rfl fg_X12_362 rfl rfl ?_
      refine e_mlet h (fun u10 h => ?_)
      refine e_aload_n (k := 104) (i := 0) rfl rfl 0 rfl ?_
      refine e_callVv (k := 105) (q := 0) (As := []) (rest := []) rfl (c_X12_readMusic (g := g) hg (n := n) h) m_X12_readMusic i_X12_readMusic l_X12_491 rfl ⟨_, rfl, rfl⟩ rfl rfl (Nat.le_of_ble_eq_true rfl) ⟨by decide, by decide, rfl, rfl⟩ (fun _ h => ⟨fun _ z => (by cases z), Or.inr ⟨rfl, h⟩⟩) (fun u11 h => ?_)
      exact e_vret (k := 106) rfl rfl (Or.inl ⟨rfl, h⟩)
    · have h := h.2 z
      refine e_aload_n (k := 18) (i := 0) rfl rfl 0 rfl ?_
      refine e_getC (k := 19) rfl f_X12_57 rfl rfl ?_
      refine e_iload_n (k := 20) (i := 1) rfl rfl 1 rfl ?_
      refine e_aload_n (k := 21) (i := 0) rfl rfl 0 rfl ?_
      refine e_getI (k := 22) rfl f_X12_280 rfl rfl ?_
      refine e_iast (k := 23) rfl rfl h.1 ?_
      have h := h.2
      refine e_mlet h (fun u12 h => ?_)
      refine e_aload_n (k := 24) (i := 0) rfl rfl 0 rfl ?_
      refine e_getC (k := 25) rfl f_X12_60 rfl rfl ?_
      refine e_iload_n (k := 26) (i := 1) rfl rfl 1 rfl ?_
      refine e_aload_n (k := 27) (i := 0) rfl rfl 0 rfl ?_
      refine e_getI (k := 28) rfl f_X12_259 rfl rfl ?_
      refine e_iast (k := 29) rfl rfl h.1 ?_
      have h := h.2
      refine e_mlet h (fun u13 h => ?_)
      refine e_aload_n (k := 30) (i := 0) rfl rfl 0 rfl ?_
      refine e_getC (k := 31) rfl f_X12_63 rfl rfl ?_
      refine e_iload_n (k := 32) (i := 1) rfl rfl 1 rfl ?_
      refine e_aload_n (k := 33) (i := 0) rfl rfl 0 rfl ?_
      refine e_getI (k := 34) rfl f_X12_262 rfl rfl ?_
      refine e_iast (k := 35) rfl rfl h.1 ?_
      have h := h.2
      refine e_mlet h (fun u14 h => ?_)
      refine e_aload_n (k := 36) (i := 0) rfl rfl 0 rfl ?_
      refine e_getC (k := 37) rfl f_X12_66 rfl rfl ?_
      refine e_iload_n (k := 38) (i := 1) rfl rfl 1 rfl ?_
      refine e_aload_n (k := 39) (i := 0) rfl rfl 0 rfl ?_
      refine e_getI (k := 40) rfl f_X12_268 rfl rfl ?_
      refine e_iast (k := 41) rfl rfl h.1 ?_
      have h := h.2
      refine e_mlet h (fun u15 h => ?_)
      refine e_aload_n (k := 42) (i := 0) rfl rfl 0 rfl ?_
      refine e_getC (k := 43) rfl f_X12_69 rfl rfl ?_
      refine e_iload_n (k := 44) (i := 1) rfl rfl 1 rfl ?_
      refine e_lconst (k := 45) (v := (0 : Int64)) rfl (by decide) ?_
      refine e_last (k := 46) rfl rfl h.1 ?_
      have h := h.2
      refine e_mlet h (fun u16 h => ?_)
      refine e_aload_n (k := 47) (i := 0) rfl rfl 0 rfl ?_
      refine e_getC (k := 48) rfl f_X12_72 rfl rfl ?_
      refine e_iload_n (k := 49) (i := 1) rfl rfl 1 rfl ?_
      refine e_iconst (k := 50) (v := (0 : Int32)) rfl (by decide) ?_
      refine e_iast (k := 51) rfl rfl h.1 ?_
      have h := h.2
      refine e_mlet h (fun u17 h => ?_)
      refine e_aload_n (k := 52) (i := 0) rfl rfl 0 rfl ?_
      refine e_getC (k := 53) rfl f_X12_75 rfl rfl ?_
      refine e_iload_n (k := 54) (i := 1) rfl rfl 1 rfl ?_
      refine e_iconst (k := 55) (v := (0 : Int32)) rfl (by decide) ?_
      refine e_zast (k := 56) rfl rfl h.1 ?_
      have h := h.2
      refine e_mlet h (fun u18 h => ?_)
      refine e_aload_n (k := 57) (i := 0) rfl rfl 0 rfl ?_
      refine e_getC (k := 58) rfl f_X12_78 rfl rfl ?_
      refine e_iload_n (k := 59) (i := 1) rfl rfl 1 rfl ?_
      refine e_iconst (k := 60) (v := (0 : Int32)) rfl (by decide) ?_
      refine e_iast (k := 61) rfl rfl h.1 ?_
      have h := h.2
      refine e_mlet h (fun u19 h => ?_)
      refine e_aload_n (k := 62) (i := 0) rfl rfl 0 rfl ?_
      refine e_getC (k := 63) rfl f_X12_90 rfl rfl ?_
      refine e_iload_n (k := 64) (i := 1) rfl rfl 1 rfl ?_
      refine e_iconst (k := 65) (v := (-1 : Int32)) rfl (by decide) ?_
      refine e_iast (k := 66) rfl rfl h.1 ?_
      have h := h.2
      refine e_mlet h (fun u20 h => ?_)
      refine e_aload_n (k := 67) (i := 0) rfl rfl 0 rfl ?_
      refine e_iload_n (k := 68) (i := 1) rfl rfl 1 rfl ?_
      refine e_putI (k := 69) rfl fg_X12_290 rfl rfl ?_
      refine e_mlet h (fun u21 h => ?_)
      refine e_aload_n (k := 70) (i := 0) rfl rfl 0 rfl ?_
      refine e_callVv (k := 71) (q := 0) (As := []) (rest := []) rfl (c_X12_clearBar (g := g) hg (n := n) h) m_X12_clearBar i_X12_clearBar l_X12_435 rfl ⟨_, rfl, rfl⟩ rfl rfl (Nat.le_of_ble_eq_true rfl) ⟨by decide, by decide, rfl, rfl⟩ (fun _ h => ⟨fun _ z => (by cases z), Or.inr ⟨rfl, h⟩⟩) (fun u22 h => ?_)
      refine e_iinc (k := 72) (i := 1) (j := 1) (v := (x1 + (1 : Int32))) (lv' := [(0, .ref (gR g 0)), (1, .int (x1 + (1 : Int32)))]) rfl rfl rfl (by decide) [1, 0] rfl ?_
      refine e_goto (k := 73) (tgt := 25) rfl (by decide) ?_
      exact ih (x1 + (1 : Int32)) u22 h
set_option maxRecDepth 20000 in
theorem c_X12_readTune {g : Gb} (hg : xInj g) {n : Nat} {u0 : Mm} {Q : Mm → Prop} {T : Mm → Prop} (h : w_X12_readTune n u0 Q T) : xMet (gL g) yX12_readTune (xws yX12_readTune cX12_readTune 2 none) (xRoom 10) (xPc g [.ref (gR g 0)] u0) (xQ g (pV g Q T)) (xA g) := by
  refine xbody (il := il_X12_readTune) hg il_X12_readTune_ok m_X12_readTune (Nat.le_of_ble_eq_true rfl) ?_
  show xE g me_X12_readTune (pV g Q T) 0 [(0, .ref (gR g 0))] [] u0
  unfold w_X12_readTune at h
  refine e_aload_n (k := 0) (i := 0) rfl rfl 0 rfl ?_
  refine e_iconst (k := 1) (v := (0 : Int32)) rfl (by decide) ?_
  refine e_putI (k := 2) rfl fg_X12_283 rfl rfl ?_
  refine e_mlet h (fun u1 h => ?_)
  refine e_aload_n (k := 3) (i := 0) rfl rfl 0 rfl ?_
  refine e_callVv (k := 4) (q := 0) (As := []) (rest := []) rfl (c_X12_lookAtBytes (g := g) hg (n := n) h) m_X12_lookAtBytes i_X12_lookAtBytes l_X12_485 rfl ⟨_, rfl, rfl⟩ rfl rfl (Nat.le_of_ble_eq_true rfl) ⟨by decide, by decide, rfl, rfl⟩ (fun _ h => ⟨fun _ z => (by cases z), Or.inr ⟨rfl, h⟩⟩) (fun u2 h => ?_)
  refine e_aload_n (k := 5) (i := 0) rfl rfl 0 rfl ?_
  refine e_callVv (k := 6) (q := 0) (As := []) (rest := []) rfl (c_X12_readHeads (g := g) hg (n := n) h) m_X12_readHeads i_X12_readHeads l_X12_488 rfl ⟨_, rfl, rfl⟩ rfl rfl (Nat.le_of_ble_eq_true rfl) ⟨by decide, by decide, rfl, rfl⟩ (fun _ h => ⟨fun _ z => (by cases z), Or.inr ⟨rfl, h⟩⟩) (fun u3 h => ?_)
  refine e_aload_n (k := 7) (i := 0) rfl rfl 0 rfl ?_
  refine e_iconst (k := 8) (v := (0 : Int32)) rfl (by decide) ?_
  refine e_putI (k := 9) rfl fg_X12_290 rfl rfl ?_
  refine e_mlet h (fun u4 h => ?_)
  refine e_aload_n (k := 10) (i := 0) rfl rfl 0 rfl ?_
  refine e_iconst (k := 11) (v := (1 : Int32)) rfl (by decide) ?_
  refine e_putI (k := 12) rfl fg_X12_449 rfl rfl ?_
  refine e_mlet h (fun u5 h => ?_)
  refine e_iconst (k := 13) (v := (0 : Int32)) rfl (by decide) ?_
  refine e_istore_n (k := 14) (i := 1) (lv' := [(0, .ref (gR g 0)), (1, .int (0 : Int32))]) rfl rfl (by decide) [1, 0] rfl ?_
  exact s_X12_readTune_25 hg n (0 : Int32) u5 h
