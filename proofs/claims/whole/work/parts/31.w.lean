/-! methods (by program) -/
def il_X4_readBars : List (Nat × Instr × Nat) := [(0, .aload_n 0, 1), (1, .getfield 9, 3), (4, .getfield 123, 3), (7, .istore_n 1, 1), (8, .aload_n 0, 1), (9, .getfield 48, 3), (12, .invokevirtual 252, 3), (15, .ifCond .ne 13, 3), (18, .aload_n 0, 1), (19, .getfield 9, 3), (22, .iconst 2, 1), (23, .iload_n 1, 1), (24, .invokevirtual 93, 3), (27, .return_, 1), (28, .aload_n 0, 1), (29, .getfield 48, 3), (32, .invokevirtual 336, 3), (35, .lstore_n 2, 1), (36, .lload_n 2, 1), (37, .lconst 1, 1), (38, .lcmp, 1), (39, .ifCond .ge 13, 3), (42, .aload_n 0, 1), (43, .getfield 9, 3), (46, .iconst 1, 1), (47, .iload_n 1, 1), (48, .invokevirtual 93, 3), (51, .return_, 1), (52, .aload_n 0, 1), (53, .iconst 3, 1), (54, .iload_n 1, 1), (55, .invokevirtual 177, 3), (58, .istore 4, 2), (60, .aload_n 0, 1), (61, .getfield 9, 3), (64, .dup, 1), (65, .getfield 123, 3), (68, .iconst 1, 1), (69, .iadd, 1), (70, .putfield 123, 3), (73, .aload_n 0, 1), (74, .getfield 9, 3), (77, .getfield 78, 3), (80, .ifCond .ne 26, 3), (83, .aload_n 0, 1), (84, .getfield 9, 3), (87, .invokevirtual 310, 3), (90, .ifCond .eq 16, 3), (93, .aload_n 0, 1), (94, .getfield 9, 3), (97, .bipush 16, 2), (99, .iconst 0, 1), (100, .invokevirtual 133, 3), (103, .goto 4, 3), (106, .iconst 1, 1), (107, .istore 5, 2), (109, .aload_n 0, 1), (110, .getfield 29, 3), (113, .iload 4, 2), (115, .iconst 3, 1), (116, .iload 5, 2), (118, .invokevirtual 180, 3), (121, .aload_n 0, 1), (122, .getfield 29, 3), (125, .iload 4, 2), (127, .iload 5, 2), (129, .i2l, 1), (130, .lload_n 2, 1), (131, .lmul, 1), (132, .invokevirtual 317, 3), (135, .aload_n 0, 1), (136, .getfield 48, 3), (139, .lload_n 2, 1), (140, .invokevirtual 328, 3), (143, .iconst 1, 1), (144, .istore 6, 2), (146, .iload 6, 2), (148, .iload 5, 2), (150, .if_icmp .ge 47, 3), (153, .aload_n 0, 1), (154, .getfield 9, 3), (157, .getfield 78, 3), (160, .ifCond .ne 37, 3), (163, .aload_n 0, 1), (164, .getfield 48, 3), (167, .invokevirtual 340, 3), (170, .ifCond .ne 13, 3), (173, .aload_n 0, 1), (174, .getfield 9, 3), (177, .iconst 2, 1), (178, .iload_n 1, 1), (179, .invokevirtual 93, 3), (182, .return_, 1), (183, .aload_n 0, 1), (184, .getfield 48, 3), (187, .lload_n 2, 1), (188, .invokevirtual 328, 3), (191, .iinc 6 1, 3), (194, .goto (-48), 3), (197, .aload_n 0, 1), (198, .getfield 48, 3), (201, .invokevirtual 343, 3), (204, .aload_n 0, 1), (205, .getfield 48, 3), (208, .invokevirtual 346, 3), (211, .return_, 1)]
set_option maxRecDepth 20000 in
theorem il_X4_readBars_ok : ∀ x ∈ il_X4_readBars, decode cX4_readBars x.1 = .ok x.2 := by decide +kernel
abbrev me_X4_readBars : Me := (RX4, il_X4_readBars, 7, none, xRoom 4, [])
def w_X4_readBars_197 (n : Nat) (u0 : Mm) (Q : Mm → Prop) : Prop :=
  w_X8_clearMarks n (u0.2.2 2) u0 (fun u1 =>
  w_X8_forgetLast n (u1.2.2 2) u1 (fun u2 =>
  Q u2))
def w_X4_readBars_146 (n : Nat) (Q : Mm → Prop) : Nat → Int32 → Int64 → Int32 → Int32 → Mm → Prop
  | 0, _, _, _, _, _ => False
  | k + 1, x1, x2, x5, x6, u0 =>
  (x5 ≤ x6 → w_X4_readBars_197 n u0 Q) ∧
  (¬ x5 ≤ x6 → (¬ (u0.1 33 6) = 0 → w_X4_readBars_197 n u0 Q) ∧
  ((u0.1 33 6) = 0 → w_X8_addMeasure n (u0.2.2 2) u0 (fun r1 u1 =>
  (¬ r1 = 0 → w_X8_spend n (u1.2.2 2) x2 u1 (fun u2 =>
  (w_X4_readBars_146 n Q k) x1 x2 x5 (x6 + (1 : Int32)) u2)) ∧
  (r1 = 0 → w_X5_fail n (2 : Int32) x1 u1 (fun u3 =>
  Q u3)))))
def w_X4_readBars_107 (n : Nat) (x1 : Int32) (x2 : Int64) (x4 : Int32) (t0 : Int32) (u0 : Mm) (Q : Mm → Prop) : Prop :=
  w_X6_put n x4 (3 : Int32) t0 u0 (fun u1 =>
  w_X6_setTicks n x4 (t0.toInt64 * x2) u1 (fun u2 =>
  w_X8_spend n (u2.2.2 2) x2 u2 (fun u3 =>
  (w_X4_readBars_146 n Q n) x1 x2 t0 (1 : Int32) u3)))
def w_X4_readBars_106 (n : Nat) (x1 : Int32) (x2 : Int64) (x4 : Int32) (u0 : Mm) (Q : Mm → Prop) : Prop :=
  w_X4_readBars_107 n x1 x2 x4 (1 : Int32) u0 Q
def w_X4_readBars (n : Nat) (u0 : Mm) (Q : Mm → Prop) : Prop :=
  ilet (u0.1 33 2) fun y1 =>
  w_X8_enterMeasure n (u0.2.2 2) u0 (fun r1 u1 =>
  (¬ r1 = 0 → w_X8_meterTicks n (u1.2.2 2) u1 (fun r2 u2 =>
  (0 ≤ (lg_cmp r2 (1 : Int64)) → w_X4_addThing n (3 : Int32) y1 u2 (fun r3 u3 =>
  mlet (setI u3 33 2 ((u3.1 33 2) + (1 : Int32))) fun u4 =>
  (¬ (u4.1 33 6) = 0 → w_X4_readBars_106 n y1 r2 r3 u4 Q) ∧
  ((u4.1 33 6) = 0 → w_X5_digitHere n u4 (fun r4 u5 =>
  (r4 = 0 → w_X4_readBars_106 n y1 r2 r3 u5 Q) ∧
  (¬ r4 = 0 → w_X5_number n (16 : Int32) (0 : Int32) u5 (fun r5 u6 =>
  w_X4_readBars_107 n y1 r2 r3 r5 u6 Q)))))) ∧
  (¬ 0 ≤ (lg_cmp r2 (1 : Int64)) → w_X5_fail n (1 : Int32) y1 u2 (fun u7 =>
  Q u7)))) ∧
  (r1 = 0 → w_X5_fail n (2 : Int32) y1 u1 (fun u8 =>
  Q u8)))
set_option maxRecDepth 20000 in
theorem s_X4_readBars_197 {g : Gb} (hg : xInj g) {n : Nat} {Q : Mm → Prop} {u0 : Mm} (h : w_X4_readBars_197 n  u0 Q) : xE g me_X4_readBars (pV g Q noT) 197 [(0, .ref (gR g 38))] [] u0 := by
  unfold w_X4_readBars_197 at h
  refine e_aload_n (k := 99) (i := 0) rfl rfl 0 rfl ?_
  refine e_getP (k := 100) rfl f_X4_48 rfl rfl (fun ty1 => ?_)
  refine e_callVv (k := 101) (q := (u0.2.2 2)) (As := []) (rest := []) rfl (c_X8_clearMarks (g := g) hg (n := n) ty1.2.2 h) m_X8_clearMarks i_X8_clearMarks l_X4_343 ty1.2.2 ⟨_, rfl, rfl⟩ rfl rfl (Nat.le_of_ble_eq_true rfl) ⟨by decide, by decide, rfl, rfl⟩ (fun _ h => h.elim) (fun u1 h => ?_)
  refine e_aload_n (k := 102) (i := 0) rfl rfl 0 rfl ?_
  refine e_getP (k := 103) rfl f_X4_48 rfl rfl (fun ty2 => ?_)
  refine e_callVv (k := 104) (q := (u1.2.2 2)) (As := []) (rest := []) rfl (c_X8_forgetLast (g := g) hg (n := n) ty2.2.2 h) m_X8_forgetLast i_X8_forgetLast l_X4_346 ty2.2.2 ⟨_, rfl, rfl⟩ rfl rfl (Nat.le_of_ble_eq_true rfl) ⟨by decide, by decide, rfl, rfl⟩ (fun _ h => h.elim) (fun u2 h => ?_)
  exact e_vret (k := 105) rfl rfl (Or.inl ⟨rfl, h⟩)
set_option maxRecDepth 20000 in
theorem s_X4_readBars_146 {g : Gb} (hg : xInj g) {n : Nat} {Q : Mm → Prop} : ∀ (k : Nat) (x1 : Int32) (x2 : Int64) (x5 : Int32) (x6 : Int32) (u0 : Mm), w_X4_readBars_146 n Q k x1 x2 x5 x6 u0 → xE g me_X4_readBars (pV g Q noT) 146 [(0, .ref (gR g 38)), (1, .int x1), (2, .long x2), (5, .int x5), (6, .int x6)] [] u0 := by
  intro k
  induction k with
  | zero => intro x1 x2 x5 x6 u0 h; exact h.elim
  | succ k ih =>
    intro x1 x2 x5 x6 u0 h
    unfold w_X4_readBars_146 at h
    refine e_iload (k := 76) (i := 6) rfl 4 rfl ?_
    refine e_iload (k := 77) (i := 5) rfl 3 rfl ?_
    refine e_icmp_ge (k := 78) (tgt := 197) rfl (by decide) (fun z => ?_) (fun z => ?_)
    · have h := h.1 z
      refine e_sub (lv' := [(0, .ref (gR g 38))]) [0] rfl ?_
      exact s_X4_readBars_197 hg h
    · have h := h.2 z
      refine e_aload_n (k := 79) (i := 0) rfl rfl 0 rfl ?_
      refine e_getC (k := 80) rfl f_X4_9 rfl rfl ?_
      refine e_getI (k := 81) rfl f_X4_78 rfl rfl ?_
      refine e_if_ne (k := 82) (tgt := 197) rfl (by decide) (fun z => ?_) (fun z => ?_)
      · have h := h.1 z
        refine e_sub (lv' := [(0, .ref (gR g 38))]) [0] rfl ?_
        exact s_X4_readBars_197 hg h
      · have h := h.2 z
        refine e_aload_n (k := 83) (i := 0) rfl rfl 0 rfl ?_
        refine e_getP (k := 84) rfl f_X4_48 rfl rfl (fun ty1 => ?_)
        refine e_callVi (k := 85) (q := (u0.2.2 2)) (As := []) (rest := []) rfl (c_X8_addMeasure (g := g) hg (n := n) ty1.2.2 h) m_X8_addMeasure i_X8_addMeasure l_X4_340 ty1.2.2 ⟨_, rfl, rfl⟩ rfl rfl (Nat.le_of_ble_eq_true rfl) ⟨by decide, by decide, rfl, rfl⟩ (fun _ h => h.elim) (fun r1 u1 h => ?_)
        refine e_if_ne (k := 86) (tgt := 183) rfl (by decide) (fun z => ?_) (fun z => ?_)
        · have h := h.1 z
          refine e_aload_n (k := 93) (i := 0) rfl rfl 0 rfl ?_
          refine e_getP (k := 94) rfl f_X4_48 rfl rfl (fun ty2 => ?_)
          refine e_lload_n (k := 95) (i := 2) rfl rfl 2 rfl ?_
          refine e_callVv (k := 96) (q := (u1.2.2 2)) (As := [.long x2]) (rest := []) rfl (c_X8_spend (g := g) hg (n := n) ty2.2.2 h) m_X8_spend i_X8_spend l_X4_328 ty2.2.2 ⟨_, rfl, rfl⟩ rfl rfl (Nat.le_of_ble_eq_true rfl) ⟨by decide, by decide, rfl, rfl⟩ (fun _ h => h.elim) (fun u2 h => ?_)
          refine e_iinc (k := 97) (i := 6) (j := 4) (v := (x6 + (1 : Int32))) (lv' := [(0, .ref (gR g 38)), (1, .int x1), (2, .long x2), (5, .int x5), (6, .int (x6 + (1 : Int32)))]) rfl rfl rfl (by decide) [1, 2, 3, 4, 0] rfl ?_
          refine e_goto (k := 98) (tgt := 146) rfl (by decide) ?_
          exact ih x1 x2 x5 (x6 + (1 : Int32)) u2 h
        · have h := h.2 z
          refine e_aload_n (k := 87) (i := 0) rfl rfl 0 rfl ?_
          refine e_getC (k := 88) rfl f_X4_9 rfl rfl ?_
          refine e_iconst (k := 89) (v := (2 : Int32)) rfl (by decide) ?_
          refine e_iload_n (k := 90) (i := 1) rfl rfl 1 rfl ?_
          refine e_callVv (k := 91) (q := 33) (As := [.int (2 : Int32), .int x1]) (rest := []) rfl (c_X5_fail (g := g) hg (n := n) h) m_X5_fail i_X5_fail l_X4_93 rfl ⟨_, rfl, rfl⟩ rfl rfl (Nat.le_of_ble_eq_true rfl) ⟨by decide, by decide, rfl, rfl⟩ (fun _ h => h.elim) (fun u3 h => ?_)
          exact e_vret (k := 92) rfl rfl (Or.inl ⟨rfl, h⟩)
set_option maxRecDepth 20000 in
theorem s_X4_readBars_107 {g : Gb} (hg : xInj g) {n : Nat} {Q : Mm → Prop} {x1 : Int32} {x2 : Int64} {x4 : Int32} {t0 : Int32} {u0 : Mm} (h : w_X4_readBars_107 n x1 x2 x4 t0 u0 Q) : xE g me_X4_readBars (pV g Q noT) 107 [(0, .ref (gR g 38)), (1, .int x1), (2, .long x2), (4, .int x4)] [.int t0] u0 := by
  unfold w_X4_readBars_107 at h
  refine e_istore (k := 55) (i := 5) (lv' := [(0, .ref (gR g 38)), (1, .int x1), (2, .long x2), (4, .int x4), (5, .int t0)]) rfl (by decide) [1, 2, 3, 4, 0] rfl ?_
  refine e_aload_n (k := 56) (i := 0) rfl rfl 0 rfl ?_
  refine e_getC (k := 57) rfl f_X4_29 rfl rfl ?_
  refine e_iload (k := 58) (i := 4) rfl 3 rfl ?_
  refine e_iconst (k := 59) (v := (3 : Int32)) rfl (by decide) ?_
  refine e_iload (k := 60) (i := 5) rfl 4 rfl ?_
  refine e_callVv (k := 61) (q := 36) (As := [.int x4, .int (3 : Int32), .int t0]) (rest := []) rfl (c_X6_put (g := g) hg (n := n) h) m_X6_put i_X6_put l_X4_180 rfl ⟨_, rfl, rfl⟩ rfl rfl (Nat.le_of_ble_eq_true rfl) ⟨by decide, by decide, rfl, rfl⟩ (fun _ h => h.elim) (fun u1 h => ?_)
  refine e_aload_n (k := 62) (i := 0) rfl rfl 0 rfl ?_
  refine e_getC (k := 63) rfl f_X4_29 rfl rfl ?_
  refine e_iload (k := 64) (i := 4) rfl 3 rfl ?_
  refine e_iload (k := 65) (i := 5) rfl 4 rfl ?_
  refine e_i2l (k := 66) rfl ?_
  refine e_lload_n (k := 67) (i := 2) rfl rfl 2 rfl ?_
  refine e_lmul (k := 68) rfl ?_
  refine e_callVv (k := 69) (q := 36) (As := [.int x4, .long (t0.toInt64 * x2)]) (rest := []) rfl (c_X6_setTicks (g := g) hg (n := n) h) m_X6_setTicks i_X6_setTicks l_X4_317 rfl ⟨_, rfl, rfl⟩ rfl rfl (Nat.le_of_ble_eq_true rfl) ⟨by decide, by decide, rfl, rfl⟩ (fun _ h => h.elim) (fun u2 h => ?_)
  refine e_aload_n (k := 70) (i := 0) rfl rfl 0 rfl ?_
  refine e_getP (k := 71) rfl f_X4_48 rfl rfl (fun ty1 => ?_)
  refine e_lload_n (k := 72) (i := 2) rfl rfl 2 rfl ?_
  refine e_callVv (k := 73) (q := (u2.2.2 2)) (As := [.long x2]) (rest := []) rfl (c_X8_spend (g := g) hg (n := n) ty1.2.2 h) m_X8_spend i_X8_spend l_X4_328 ty1.2.2 ⟨_, rfl, rfl⟩ rfl rfl (Nat.le_of_ble_eq_true rfl) ⟨by decide, by decide, rfl, rfl⟩ (fun _ h => h.elim) (fun u3 h => ?_)
  refine e_iconst (k := 74) (v := (1 : Int32)) rfl (by decide) ?_
  refine e_istore (k := 75) (i := 6) (lv' := [(0, .ref (gR g 38)), (1, .int x1), (2, .long x2), (4, .int x4), (5, .int t0), (6, .int (1 : Int32))]) rfl (by decide) [1, 2, 3, 4, 5, 0] rfl ?_
  refine e_sub (lv' := [(0, .ref (gR g 38)), (1, .int x1), (2, .long x2), (5, .int t0), (6, .int (1 : Int32))]) [0, 1, 2, 4, 5] rfl ?_
  exact s_X4_readBars_146 hg n x1 x2 t0 (1 : Int32) u3 h
set_option maxRecDepth 20000 in
theorem s_X4_readBars_106 {g : Gb} (hg : xInj g) {n : Nat} {Q : Mm → Prop} {x1 : Int32} {x2 : Int64} {x4 : Int32} {u0 : Mm} (h : w_X4_readBars_106 n x1 x2 x4 u0 Q) : xE g me_X4_readBars (pV g Q noT) 106 [(0, .ref (gR g 38)), (1, .int x1), (2, .long x2), (4, .int x4)] [] u0 := by
  unfold w_X4_readBars_106 at h
  refine e_iconst (k := 54) (v := (1 : Int32)) rfl (by decide) ?_
  exact s_X4_readBars_107 hg h
set_option maxRecDepth 20000 in
theorem c_X4_readBars {g : Gb} (hg : xInj g) {n : Nat} {u0 : Mm} {Q : Mm → Prop} (h : w_X4_readBars n u0 Q) : xMet (gL g) yX4_readBars (xws yX4_readBars cX4_readBars 7 none) (xRoom 4) (xPc g [.ref (gR g 38)] u0) (xQ g (pV g Q noT)) (xA g) := by
  refine xbody (il := il_X4_readBars) hg il_X4_readBars_ok m_X4_readBars (Nat.le_of_ble_eq_true rfl) ?_
  show xE g me_X4_readBars (pV g Q noT) 0 [(0, .ref (gR g 38))] [] u0
  unfold w_X4_readBars at h
  refine e_aload_n (k := 0) (i := 0) rfl rfl 0 rfl ?_
  refine e_getC (k := 1) rfl f_X4_9 rfl rfl ?_
  refine e_getI (k := 2) rfl f_X4_123 rfl rfl ?_
  refine e_ilet h (fun y1 h => ?_)
  refine e_istore_n (k := 3) (i := 1) (lv' := [(0, .ref (gR g 38)), (1, .int y1)]) rfl rfl (by decide) [1, 0] rfl ?_
  refine e_aload_n (k := 4) (i := 0) rfl rfl 0 rfl ?_
  refine e_getP (k := 5) rfl f_X4_48 rfl rfl (fun ty1 => ?_)
  refine e_callVi (k := 6) (q := (u0.2.2 2)) (As := []) (rest := []) rfl (c_X8_enterMeasure (g := g) hg (n := n) ty1.2.2 h) m_X8_enterMeasure i_X8_enterMeasure l_X4_252 ty1.2.2 ⟨_, rfl, rfl⟩ rfl rfl (Nat.le_of_ble_eq_true rfl) ⟨by decide, by decide, rfl, rfl⟩ (fun _ h => h.elim) (fun r1 u1 h => ?_)
  refine e_if_ne (k := 7) (tgt := 28) rfl (by decide) (fun z => ?_) (fun z => ?_)
  · have h := h.1 z
    refine e_aload_n (k := 14) (i := 0) rfl rfl 0 rfl ?_
    refine e_getP (k := 15) rfl f_X4_48 rfl rfl (fun ty2 => ?_)
    refine e_callVl (k := 16) (q := (u1.2.2 2)) (As := []) (rest := []) rfl (c_X8_meterTicks (g := g) hg (n := n) ty2.2.2 h) m_X8_meterTicks i_X8_meterTicks l_X4_336 ty2.2.2 ⟨_, rfl, rfl⟩ rfl rfl (Nat.le_of_ble_eq_true rfl) ⟨by decide, by decide, rfl, rfl⟩ (fun _ h => h.elim) (fun r2 u2 h => ?_)
    refine e_lstore_n (k := 17) (i := 2) (lv' := [(0, .ref (gR g 38)), (1, .int y1), (2, .long r2)]) rfl rfl (by decide) [1, 2, 0] rfl ?_
    refine e_lload_n (k := 18) (i := 2) rfl rfl 2 rfl ?_
    refine e_lconst (k := 19) (v := (1 : Int64)) rfl (by decide) ?_
    refine e_lcmp (k := 20) rfl ?_
    refine e_if_ge (k := 21) (tgt := 52) rfl (by decide) (fun z => ?_) (fun z => ?_)
    · have h := h.1 z
      refine e_aload_n (k := 28) (i := 0) rfl rfl 0 rfl ?_
      refine e_iconst (k := 29) (v := (3 : Int32)) rfl (by decide) ?_
      refine e_iload_n (k := 30) (i := 1) rfl rfl 1 rfl ?_
      refine e_callVi (k := 31) (q := 38) (As := [.int (3 : Int32), .int y1]) (rest := []) rfl (c_X4_addThing (g := g) hg (n := n) h) m_X4_addThing i_X4_addThing l_X4_177 rfl ⟨_, rfl, rfl⟩ rfl rfl (Nat.le_of_ble_eq_true rfl) ⟨by decide, by decide, rfl, rfl⟩ (fun _ h => h.elim) (fun r3 u3 h => ?_)
      refine e_istore (k := 32) (i := 4) (lv' := [(0, .ref (gR g 38)), (1, .int y1), (2, .long r2), (4, .int r3)]) rfl (by decide) [1, 2, 3, 0] rfl ?_
      refine e_aload_n (k := 33) (i := 0) rfl rfl 0 rfl ?_
      refine e_getC (k := 34) rfl f_X4_9 rfl rfl ?_
      refine e_dup (k := 35) rfl rfl ?_
      refine e_getI (k := 36) rfl f_X4_123 rfl rfl ?_
      refine e_iconst (k := 37) (v := (1 : Int32)) rfl (by decide) ?_
      refine e_iadd (k := 38) rfl ?_
      refine e_putI (k := 39) rfl fg_X4_123 rfl rfl ?_
      refine e_mlet h (fun u4 h => ?_)
      refine e_aload_n (k := 40) (i := 0) rfl rfl 0 rfl ?_
      refine e_getC (k := 41) rfl f_X4_9 rfl rfl ?_
      refine e_getI (k := 42) rfl f_X4_78 rfl rfl ?_
      refine e_if_ne (k := 43) (tgt := 106) rfl (by decide) (fun z => ?_) (fun z => ?_)
      · have h := h.1 z
        exact s_X4_readBars_106 hg h
      · have h := h.2 z
        refine e_aload_n (k := 44) (i := 0) rfl rfl 0 rfl ?_
        refine e_getC (k := 45) rfl f_X4_9 rfl rfl ?_
        refine e_callVi (k := 46) (q := 33) (As := []) (rest := []) rfl (c_X5_digitHere (g := g) hg (n := n) h) m_X5_digitHere i_X5_digitHere l_X4_310 rfl ⟨_, rfl, rfl⟩ rfl rfl (Nat.le_of_ble_eq_true rfl) ⟨by decide, by decide, rfl, rfl⟩ (fun _ h => h.elim) (fun r4 u5 h => ?_)
        refine e_if_eq (k := 47) (tgt := 106) rfl (by decide) (fun z => ?_) (fun z => ?_)
        · have h := h.1 z
          exact s_X4_readBars_106 hg h
        · have h := h.2 z
          refine e_aload_n (k := 48) (i := 0) rfl rfl 0 rfl ?_
          refine e_getC (k := 49) rfl f_X4_9 rfl rfl ?_
          refine e_bipush (k := 50) (v := (16 : Int32)) rfl (by decide) ?_
          refine e_iconst (k := 51) (v := (0 : Int32)) rfl (by decide) ?_
          refine e_callVi (k := 52) (q := 33) (As := [.int (16 : Int32), .int (0 : Int32)]) (rest := []) rfl (c_X5_number (g := g) hg (n := n) h) m_X5_number i_X5_number l_X4_133 rfl ⟨_, rfl, rfl⟩ rfl rfl (Nat.le_of_ble_eq_true rfl) ⟨by decide, by decide, rfl, rfl⟩ (fun _ h => h.elim) (fun r5 u6 h => ?_)
          refine e_goto (k := 53) (tgt := 107) rfl (by decide) ?_
          exact s_X4_readBars_107 hg h
    · have h := h.2 z
      refine e_aload_n (k := 22) (i := 0) rfl rfl 0 rfl ?_
      refine e_getC (k := 23) rfl f_X4_9 rfl rfl ?_
      refine e_iconst (k := 24) (v := (1 : Int32)) rfl (by decide) ?_
      refine e_iload_n (k := 25) (i := 1) rfl rfl 1 rfl ?_
      refine e_callVv (k := 26) (q := 33) (As := [.int (1 : Int32), .int y1]) (rest := []) rfl (c_X5_fail (g := g) hg (n := n) h) m_X5_fail i_X5_fail l_X4_93 rfl ⟨_, rfl, rfl⟩ rfl rfl (Nat.le_of_ble_eq_true rfl) ⟨by decide, by decide, rfl, rfl⟩ (fun _ h => h.elim) (fun u7 h => ?_)
      exact e_vret (k := 27) rfl rfl (Or.inl ⟨rfl, h⟩)
  · have h := h.2 z
    refine e_aload_n (k := 8) (i := 0) rfl rfl 0 rfl ?_
    refine e_getC (k := 9) rfl f_X4_9 rfl rfl ?_
    refine e_iconst (k := 10) (v := (2 : Int32)) rfl (by decide) ?_
    refine e_iload_n (k := 11) (i := 1) rfl rfl 1 rfl ?_
    refine e_callVv (k := 12) (q := 33) (As := [.int (2 : Int32), .int y1]) (rest := []) rfl (c_X5_fail (g := g) hg (n := n) h) m_X5_fail i_X5_fail l_X4_93 rfl ⟨_, rfl, rfl⟩ rfl rfl (Nat.le_of_ble_eq_true rfl) ⟨by decide, by decide, rfl, rfl⟩ (fun _ h => h.elim) (fun u8 h => ?_)
    exact e_vret (k := 13) rfl rfl (Or.inl ⟨rfl, h⟩)
def il_X4_readRest : List (Nat × Instr × Nat) := [(0, .aload_n 0, 1), (1, .getfield 48, 3), (4, .invokevirtual 252, 3), (7, .ifCond .ne 19, 3), (10, .aload_n 0, 1), (11, .getfield 9, 3), (14, .iconst 2, 1), (15, .aload_n 0, 1), (16, .getfield 9, 3), (19, .getfield 123, 3), (22, .invokevirtual 93, 3), (25, .return_, 1), (26, .aload_n 0, 1), (27, .aload_n 0, 1), (28, .getfield 9, 3), (31, .iconst 0, 1), (32, .invokevirtual 126, 3), (35, .bipush 122, 2), (37, .if_icmp .ne 7, 3), (40, .iconst 1, 1), (41, .goto 4, 3), (44, .iconst 2, 1), (45, .aload_n 0, 1), (46, .getfield 9, 3), (49, .getfield 123, 3), (52, .invokevirtual 177, 3), (55, .istore_n 1, 1), (56, .iload_n 1, 1), (57, .ifCond .ge 4, 3), (60, .return_, 1), (61, .aload_n 0, 1), (62, .getfield 9, 3), (65, .dup, 1), (66, .getfield 123, 3), (69, .iconst 1, 1), (70, .iadd, 1), (71, .putfield 123, 3), (74, .aload_n 0, 1), (75, .invokevirtual 262, 3), (78, .aload_n 0, 1), (79, .getfield 37, 3), (82, .iconst 0, 1), (83, .aload_n 0, 1), (84, .getfield 265, 3), (87, .iastore, 1), (88, .aload_n 0, 1), (89, .getfield 41, 3), (92, .iconst 0, 1), (93, .aload_n 0, 1), (94, .getfield 268, 3), (97, .iastore, 1), (98, .aload_n 0, 1), (99, .iload_n 1, 1), (100, .iconst 1, 1), (101, .iconst 1, 1), (102, .iconst 1, 1), (103, .invokevirtual 259, 3), (106, .return_, 1)]
set_option maxRecDepth 20000 in
theorem il_X4_readRest_ok : ∀ x ∈ il_X4_readRest, decode cX4_readRest x.1 = .ok x.2 := by decide +kernel
abbrev me_X4_readRest : Me := (RX4, il_X4_readRest, 2, none, xRoom 4, [])
def w_X4_readRest_45 (n : Nat) (t0 : Int32) (u0 : Mm) (Q : Mm → Prop) : Prop :=
  w_X4_addThing n t0 (u0.1 33 2) u0 (fun r1 u1 =>
  (0 ≤ r1 → mlet (setI u1 33 2 ((u1.1 33 2) + (1 : Int32))) fun u2 =>
  w_X4_readLength n u2 (fun u3 =>
  mlet (setI u3 64 (ix (0 : Int32)) (u3.1 38 7)) fun u4 =>
  mlet (setI u4 65 (ix (0 : Int32)) (u4.1 38 8)) fun u5 =>
  w_X4_finishTimed n r1 (1 : Int32) (1 : Int32) (1 : Int32) u5 (fun u6 =>
  Q u6))) ∧
  (¬ 0 ≤ r1 → Q u1))
def w_X4_readRest (n : Nat) (u0 : Mm) (Q : Mm → Prop) : Prop :=
  w_X8_enterMeasure n (u0.2.2 2) u0 (fun r1 u1 =>
  (¬ r1 = 0 → w_X5_peek n (0 : Int32) u1 (fun r2 u2 =>
  (¬ r2 = (122 : Int32) → w_X4_readRest_45 n (2 : Int32) u2 Q) ∧
  (r2 = (122 : Int32) → w_X4_readRest_45 n (1 : Int32) u2 Q))) ∧
  (r1 = 0 → w_X5_fail n (2 : Int32) (u1.1 33 2) u1 (fun u3 =>
  Q u3)))
set_option maxRecDepth 20000 in
theorem s_X4_readRest_45 {g : Gb} (hg : xInj g) {n : Nat} {Q : Mm → Prop} {t0 : Int32} {u0 : Mm} (h : w_X4_readRest_45 n t0 u0 Q) : xE g me_X4_readRest (pV g Q noT) 45 [(0, .ref (gR g 38))] [.int t0, .ref (gR g 38)] u0 := by
  unfold w_X4_readRest_45 at h
  refine e_aload_n (k := 22) (i := 0) rfl rfl 0 rfl ?_
  refine e_getC (k := 23) rfl f_X4_9 rfl rfl ?_
  refine e_getI (k := 24) rfl f_X4_123 rfl rfl ?_
  refine e_callVi (k := 25) (q := 38) (As := [.int t0, .int (u0.1 33 2)]) (rest := []) rfl (c_X4_addThing (g := g) hg (n := n) h) m_X4_addThing i_X4_addThing l_X4_177 rfl ⟨_, rfl, rfl⟩ rfl rfl (Nat.le_of_ble_eq_true rfl) ⟨by decide, by decide, rfl, rfl⟩ (fun _ h => h.elim) (fun r1 u1 h => ?_)
  refine e_istore_n (k := 26) (i := 1) (lv' := [(0, .ref (gR g 38)), (1, .int r1)]) rfl rfl (by decide) [1, 0] rfl ?_
  refine e_iload_n (k := 27) (i := 1) rfl rfl 1 rfl ?_
  refine e_if_ge (k := 28) (tgt := 61) rfl (by decide) (fun z => ?_) (fun z => ?_)
  · have h := h.1 z
    refine e_aload_n (k := 30) (i := 0) rfl rfl 0 rfl ?_
    refine e_getC (k := 31) rfl f_X4_9 rfl rfl ?_
    refine e_dup (k := 32) rfl rfl ?_
    refine e_getI (k := 33) rfl f_X4_123 rfl rfl ?_
    refine e_iconst (k := 34) (v := (1 : Int32)) rfl (by decide) ?_
    refine e_iadd (k := 35) rfl ?_
    refine e_putI (k := 36) rfl fg_X4_123 rfl rfl ?_
    refine e_mlet h (fun u2 h => ?_)
    refine e_aload_n (k := 37) (i := 0) rfl rfl 0 rfl ?_
    refine e_callVv (k := 38) (q := 38) (As := []) (rest := []) rfl (c_X4_readLength (g := g) hg (n := n) h) m_X4_readLength i_X4_readLength l_X4_262 rfl ⟨_, rfl, rfl⟩ rfl rfl (Nat.le_of_ble_eq_true rfl) ⟨by decide, by decide, rfl, rfl⟩ (fun _ h => h.elim) (fun u3 h => ?_)
    refine e_aload_n (k := 39) (i := 0) rfl rfl 0 rfl ?_
    refine e_getC (k := 40) rfl f_X4_37 rfl rfl ?_
    refine e_iconst (k := 41) (v := (0 : Int32)) rfl (by decide) ?_
    refine e_aload_n (k := 42) (i := 0) rfl rfl 0 rfl ?_
    refine e_getI (k := 43) rfl f_X4_265 rfl rfl ?_
    refine e_iast (k := 44) rfl rfl (by unfold vp_in; decide) ?_
    refine e_mlet h (fun u4 h => ?_)
    refine e_aload_n (k := 45) (i := 0) rfl rfl 0 rfl ?_
    refine e_getC (k := 46) rfl f_X4_41 rfl rfl ?_
    refine e_iconst (k := 47) (v := (0 : Int32)) rfl (by decide) ?_
    refine e_aload_n (k := 48) (i := 0) rfl rfl 0 rfl ?_
    refine e_getI (k := 49) rfl f_X4_268 rfl rfl ?_
    refine e_iast (k := 50) rfl rfl (by unfold vp_in; decide) ?_
    refine e_mlet h (fun u5 h => ?_)
    refine e_aload_n (k := 51) (i := 0) rfl rfl 0 rfl ?_
    refine e_iload_n (k := 52) (i := 1) rfl rfl 1 rfl ?_
    refine e_iconst (k := 53) (v := (1 : Int32)) rfl (by decide) ?_
    refine e_iconst (k := 54) (v := (1 : Int32)) rfl (by decide) ?_
    refine e_iconst (k := 55) (v := (1 : Int32)) rfl (by decide) ?_
    refine e_callVv (k := 56) (q := 38) (As := [.int r1, .int (1 : Int32), .int (1 : Int32), .int (1 : Int32)]) (rest := []) rfl (c_X4_finishTimed (g := g) hg (n := n) h) m_X4_finishTimed i_X4_finishTimed l_X4_259 rfl ⟨_, rfl, rfl⟩ rfl rfl (Nat.le_of_ble_eq_true rfl) ⟨by decide, by decide, rfl, rfl⟩ (fun _ h => h.elim) (fun u6 h => ?_)
    exact e_vret (k := 57) rfl rfl (Or.inl ⟨rfl, h⟩)
  · have h := h.2 z
    exact e_vret (k := 29) rfl rfl (Or.inl ⟨rfl, h⟩)
set_option maxRecDepth 20000 in
theorem c_X4_readRest {g : Gb} (hg : xInj g) {n : Nat} {u0 : Mm} {Q : Mm → Prop} (h : w_X4_readRest n u0 Q) : xMet (gL g) yX4_readRest (xws yX4_readRest cX4_readRest 2 none) (xRoom 4) (xPc g [.ref (gR g 38)] u0) (xQ g (pV g Q noT)) (xA g) := by
  refine xbody (il := il_X4_readRest) hg il_X4_readRest_ok m_X4_readRest (Nat.le_of_ble_eq_true rfl) ?_
  show xE g me_X4_readRest (pV g Q noT) 0 [(0, .ref (gR g 38))] [] u0
  unfold w_X4_readRest at h
  refine e_aload_n (k := 0) (i := 0) rfl rfl 0 rfl ?_
  refine e_getP (k := 1) rfl f_X4_48 rfl rfl (fun ty1 => ?_)
  refine e_callVi (k := 2) (q := (u0.2.2 2)) (As := []) (rest := []) rfl (c_X8_enterMeasure (g := g) hg (n := n) ty1.2.2 h) m_X8_enterMeasure i_X8_enterMeasure l_X4_252 ty1.2.2 ⟨_, rfl, rfl⟩ rfl rfl (Nat.le_of_ble_eq_true rfl) ⟨by decide, by decide, rfl, rfl⟩ (fun _ h => h.elim) (fun r1 u1 h => ?_)
  refine e_if_ne (k := 3) (tgt := 26) rfl (by decide) (fun z => ?_) (fun z => ?_)
  · have h := h.1 z
    refine e_aload_n (k := 12) (i := 0) rfl rfl 0 rfl ?_
    refine e_aload_n (k := 13) (i := 0) rfl rfl 0 rfl ?_
    refine e_getC (k := 14) rfl f_X4_9 rfl rfl ?_
    refine e_iconst (k := 15) (v := (0 : Int32)) rfl (by decide) ?_
    refine e_callVi (k := 16) (q := 33) (As := [.int (0 : Int32)]) (rest := [.ref (gR g 38)]) rfl (c_X5_peek (g := g) hg (n := n) h) m_X5_peek i_X5_peek l_X4_126 rfl ⟨_, rfl, rfl⟩ rfl rfl (Nat.le_of_ble_eq_true rfl) ⟨by decide, by decide, rfl, rfl⟩ (fun _ h => h.elim) (fun r2 u2 h => ?_)
    refine e_bipush (k := 17) (v := (122 : Int32)) rfl (by decide) ?_
    refine e_icmp_ne (k := 18) (tgt := 44) rfl (by decide) (fun z => ?_) (fun z => ?_)
    · have h := h.1 z
      refine e_iconst (k := 21) (v := (2 : Int32)) rfl (by decide) ?_
      exact s_X4_readRest_45 hg h
    · have h := h.2 z
      refine e_iconst (k := 19) (v := (1 : Int32)) rfl (by decide) ?_
      refine e_goto (k := 20) (tgt := 45) rfl (by decide) ?_
      exact s_X4_readRest_45 hg h
  · have h := h.2 z
    refine e_aload_n (k := 4) (i := 0) rfl rfl 0 rfl ?_
    refine e_getC (k := 5) rfl f_X4_9 rfl rfl ?_
    refine e_iconst (k := 6) (v := (2 : Int32)) rfl (by decide) ?_
    refine e_aload_n (k := 7) (i := 0) rfl rfl 0 rfl ?_
    refine e_getC (k := 8) rfl f_X4_9 rfl rfl ?_
    refine e_getI (k := 9) rfl f_X4_123 rfl rfl ?_
    refine e_callVv (k := 10) (q := 33) (As := [.int (2 : Int32), .int (u1.1 33 2)]) (rest := []) rfl (c_X5_fail (g := g) hg (n := n) h) m_X5_fail i_X5_fail l_X4_93 rfl ⟨_, rfl, rfl⟩ rfl rfl (Nat.le_of_ble_eq_true rfl) ⟨by decide, by decide, rfl, rfl⟩ (fun _ h => h.elim) (fun u3 h => ?_)
    exact e_vret (k := 11) rfl rfl (Or.inl ⟨rfl, h⟩)
def il_X4_readTuplet : List (Nat × Instr × Nat) := [(0, .aload_n 0, 1), (1, .getfield 9, 3), (4, .getfield 123, 3), (7, .istore_n 1, 1), (8, .aload_n 0, 1), (9, .getfield 9, 3), (12, .dup, 1), (13, .getfield 123, 3), (16, .iconst 1, 1), (17, .iadd, 1), (18, .putfield 123, 3), (21, .aload_n 0, 1), (22, .getfield 9, 3), (25, .iconst 0, 1), (26, .invokevirtual 126, 3), (29, .bipush 48, 2), (31, .isub, 1), (32, .istore_n 2, 1), (33, .iload_n 2, 1), (34, .iconst 2, 1), (35, .if_icmp .lt 9, 3), (38, .iload_n 2, 1), (39, .bipush 9, 2), (41, .if_icmp .le 19, 3), (44, .aload_n 0, 1), (45, .getfield 9, 3), (48, .iconst 1, 1), (49, .aload_n 0, 1), (50, .getfield 9, 3), (53, .getfield 123, 3), (56, .invokevirtual 93, 3), (59, .return_, 1), (60, .aload_n 0, 1), (61, .getfield 33, 3), (64, .getfield 108, 3), (67, .ifCond .le 13, 3), (70, .aload_n 0, 1), (71, .getfield 9, 3), (74, .iconst 5, 1), (75, .iload_n 1, 1), (76, .invokevirtual 93, 3), (79, .return_, 1), (80, .aload_n 0, 1), (81, .getfield 9, 3), (84, .dup, 1), (85, .getfield 123, 3), (88, .iconst 1, 1), (89, .iadd, 1), (90, .putfield 123, 3), (93, .aload_n 0, 1), (94, .iload_n 2, 1), (95, .invokevirtual 358, 3), (98, .istore_n 3, 1), (99, .iload_n 2, 1), (100, .istore 4, 2), (102, .aload_n 0, 1), (103, .getfield 9, 3), (106, .iconst 0, 1), (107, .invokevirtual 126, 3), (110, .bipush 58, 2), (112, .if_icmp .ne 66, 3), (115, .aload_n 0, 1), (116, .getfield 9, 3), (119, .dup, 1), (120, .getfield 123, 3), (123, .iconst 1, 1), (124, .iadd, 1), (125, .putfield 123, 3), (128, .aload_n 0, 1), (129, .iload_n 3, 1), (130, .invokevirtual 361, 3), (133, .istore_n 3, 1), (134, .aload_n 0, 1), (135, .getfield 9, 3), (138, .getfield 78, 3), (141, .ifCond .ne 37, 3), (144, .aload_n 0, 1), (145, .getfield 9, 3), (148, .iconst 0, 1), (149, .invokevirtual 126, 3), (152, .bipush 58, 2), (154, .if_icmp .ne 24, 3), (157, .aload_n 0, 1), (158, .getfield 9, 3), (161, .dup, 1), (162, .getfield 123, 3), (165, .iconst 1, 1), (166, .iadd, 1), (167, .putfield 123, 3), (170, .aload_n 0, 1), (171, .iload 4, 2), (173, .invokevirtual 361, 3), (176, .istore 4, 2), (178, .aload_n 0, 1), (179, .getfield 33, 3), (182, .iload_n 3, 1), (183, .iload_n 2, 1), (184, .iload 4, 2), (186, .invokevirtual 364, 3), (189, .return_, 1)]
set_option maxRecDepth 20000 in
theorem il_X4_readTuplet_ok : ∀ x ∈ il_X4_readTuplet, decode cX4_readTuplet x.1 = .ok x.2 := by decide +kernel
abbrev me_X4_readTuplet : Me := (RX4, il_X4_readTuplet, 5, none, xRoom 4, [])
def w_X4_readTuplet_178 (n : Nat) (x2 : Int32) (x3 : Int32) (x4 : Int32) (u0 : Mm) (Q : Mm → Prop) : Prop :=
  w_X2_beginTuplet n x3 x2 x4 u0 (fun u1 =>
  Q u1)
def w_X4_readTuplet_44 (n : Nat) (u0 : Mm) (Q : Mm → Prop) : Prop :=
  w_X5_fail n (1 : Int32) (u0.1 33 2) u0 (fun u1 =>
  Q u1)
def w_X4_readTuplet (n : Nat) (u0 : Mm) (Q : Mm → Prop) : Prop :=
  ilet (u0.1 33 2) fun y1 =>
  mlet (setI u0 33 2 ((u0.1 33 2) + (1 : Int32))) fun u1 =>
  w_X5_peek n (0 : Int32) u1 (fun r1 u2 =>
  ilet (r1 - (48 : Int32)) fun y2 =>
  (y2 < (2 : Int32) → w_X4_readTuplet_44 n u2 Q) ∧
  (¬ y2 < (2 : Int32) → (y2 ≤ (9 : Int32) → ((u2.1 39 3) ≤ 0 → mlet (setI u2 33 2 ((u2.1 33 2) + (1 : Int32))) fun u3 =>
  w_X4_usualNumber n y2 u3 (fun r2 u4 =>
  w_X5_peek n (0 : Int32) u4 (fun r3 u5 =>
  (¬ r3 = (58 : Int32) → w_X4_readTuplet_178 n y2 r2 y2 u5 Q) ∧
  (r3 = (58 : Int32) → mlet (setI u5 33 2 ((u5.1 33 2) + (1 : Int32))) fun u6 =>
  w_X4_readDigit n r2 u6 (fun r4 u7 =>
  (¬ (u7.1 33 6) = 0 → w_X4_readTuplet_178 n y2 r4 y2 u7 Q) ∧
  ((u7.1 33 6) = 0 → w_X5_peek n (0 : Int32) u7 (fun r5 u8 =>
  (¬ r5 = (58 : Int32) → w_X4_readTuplet_178 n y2 r4 y2 u8 Q) ∧
  (r5 = (58 : Int32) → mlet (setI u8 33 2 ((u8.1 33 2) + (1 : Int32))) fun u9 =>
  w_X4_readDigit n y2 u9 (fun r6 u10 =>
  w_X4_readTuplet_178 n y2 r4 r6 u10 Q))))))))) ∧
  (¬ (u2.1 39 3) ≤ 0 → w_X5_fail n (5 : Int32) y1 u2 (fun u11 =>
  Q u11))) ∧
  (¬ y2 ≤ (9 : Int32) → w_X4_readTuplet_44 n u2 Q)))
set_option maxRecDepth 20000 in
theorem s_X4_readTuplet_178 {g : Gb} (hg : xInj g) {n : Nat} {Q : Mm → Prop} {x2 : Int32} {x3 : Int32} {x4 : Int32} {u0 : Mm} (h : w_X4_readTuplet_178 n x2 x3 x4 u0 Q) : xE g me_X4_readTuplet (pV g Q noT) 178 [(0, .ref (gR g 38)), (2, .int x2), (3, .int x3), (4, .int x4)] [] u0 := by
  unfold w_X4_readTuplet_178 at h
  refine e_aload_n (k := 93) (i := 0) rfl rfl 0 rfl ?_
  refine e_getC (k := 94) rfl f_X4_33 rfl rfl ?_
  refine e_iload_n (k := 95) (i := 3) rfl rfl 2 rfl ?_
  refine e_iload_n (k := 96) (i := 2) rfl rfl 1 rfl ?_
  refine e_iload (k := 97) (i := 4) rfl 3 rfl ?_
  refine e_callVv (k := 98) (q := 39) (As := [.int x3, .int x2, .int x4]) (rest := []) rfl (c_X2_beginTuplet (g := g) hg (n := n) h) m_X2_beginTuplet i_X2_beginTuplet l_X4_364 rfl ⟨_, rfl, rfl⟩ rfl rfl (Nat.le_of_ble_eq_true rfl) ⟨by decide, by decide, rfl, rfl⟩ (fun _ h => h.elim) (fun u1 h => ?_)
  exact e_vret (k := 99) rfl rfl (Or.inl ⟨rfl, h⟩)
set_option maxRecDepth 20000 in
theorem s_X4_readTuplet_44 {g : Gb} (hg : xInj g) {n : Nat} {Q : Mm → Prop} {u0 : Mm} (h : w_X4_readTuplet_44 n  u0 Q) : xE g me_X4_readTuplet (pV g Q noT) 44 [(0, .ref (gR g 38))] [] u0 := by
  unfold w_X4_readTuplet_44 at h
  refine e_aload_n (k := 24) (i := 0) rfl rfl 0 rfl ?_
  refine e_getC (k := 25) rfl f_X4_9 rfl rfl ?_
  refine e_iconst (k := 26) (v := (1 : Int32)) rfl (by decide) ?_
  refine e_aload_n (k := 27) (i := 0) rfl rfl 0 rfl ?_
  refine e_getC (k := 28) rfl f_X4_9 rfl rfl ?_
  refine e_getI (k := 29) rfl f_X4_123 rfl rfl ?_
  refine e_callVv (k := 30) (q := 33) (As := [.int (1 : Int32), .int (u0.1 33 2)]) (rest := []) rfl (c_X5_fail (g := g) hg (n := n) h) m_X5_fail i_X5_fail l_X4_93 rfl ⟨_, rfl, rfl⟩ rfl rfl (Nat.le_of_ble_eq_true rfl) ⟨by decide, by decide, rfl, rfl⟩ (fun _ h => h.elim) (fun u1 h => ?_)
  exact e_vret (k := 31) rfl rfl (Or.inl ⟨rfl, h⟩)
set_option maxRecDepth 20000 in
theorem c_X4_readTuplet {g : Gb} (hg : xInj g) {n : Nat} {u0 : Mm} {Q : Mm → Prop} (h : w_X4_readTuplet n u0 Q) : xMet (gL g) yX4_readTuplet (xws yX4_readTuplet cX4_readTuplet 5 none) (xRoom 4) (xPc g [.ref (gR g 38)] u0) (xQ g (pV g Q noT)) (xA g) := by
  refine xbody (il := il_X4_readTuplet) hg il_X4_readTuplet_ok m_X4_readTuplet (Nat.le_of_ble_eq_true rfl) ?_
  show xE g me_X4_readTuplet (pV g Q noT) 0 [(0, .ref (gR g 38))] [] u0
  unfold w_X4_readTuplet at h
  refine e_aload_n (k := 0) (i := 0) rfl rfl 0 rfl ?_
  refine e_getC (k := 1) rfl f_X4_9 rfl rfl ?_
  refine e_getI (k := 2) rfl f_X4_123 rfl rfl ?_
  refine e_ilet h (fun y1 h => ?_)
  refine e_istore_n (k := 3) (i := 1) (lv' := [(0, .ref (gR g 38)), (1, .int y1)]) rfl rfl (by decide) [1, 0] rfl ?_
  refine e_aload_n (k := 4) (i := 0) rfl rfl 0 rfl ?_
  refine e_getC (k := 5) rfl f_X4_9 rfl rfl ?_
  refine e_dup (k := 6) rfl rfl ?_
  refine e_getI (k := 7) rfl f_X4_123 rfl rfl ?_
  refine e_iconst (k := 8) (v := (1 : Int32)) rfl (by decide) ?_
  refine e_iadd (k := 9) rfl ?_
  refine e_putI (k := 10) rfl fg_X4_123 rfl rfl ?_
  refine e_mlet h (fun u1 h => ?_)
  refine e_aload_n (k := 11) (i := 0) rfl rfl 0 rfl ?_
  refine e_getC (k := 12) rfl f_X4_9 rfl rfl ?_
  refine e_iconst (k := 13) (v := (0 : Int32)) rfl (by decide) ?_
  refine e_callVi (k := 14) (q := 33) (As := [.int (0 : Int32)]) (rest := []) rfl (c_X5_peek (g := g) hg (n := n) h) m_X5_peek i_X5_peek l_X4_126 rfl ⟨_, rfl, rfl⟩ rfl rfl (Nat.le_of_ble_eq_true rfl) ⟨by decide, by decide, rfl, rfl⟩ (fun _ h => h.elim) (fun r1 u2 h => ?_)
  refine e_bipush (k := 15) (v := (48 : Int32)) rfl (by decide) ?_
  refine e_isub (k := 16) rfl ?_
  refine e_ilet h (fun y2 h => ?_)
  refine e_istore_n (k := 17) (i := 2) (lv' := [(0, .ref (gR g 38)), (1, .int y1), (2, .int y2)]) rfl rfl (by decide) [1, 2, 0] rfl ?_
  refine e_iload_n (k := 18) (i := 2) rfl rfl 2 rfl ?_
  refine e_iconst (k := 19) (v := (2 : Int32)) rfl (by decide) ?_
  refine e_icmp_lt (k := 20) (tgt := 44) rfl (by decide) (fun z => ?_) (fun z => ?_)
  · have h := h.1 z
    refine e_sub (lv' := [(0, .ref (gR g 38))]) [0] rfl ?_
    exact s_X4_readTuplet_44 hg h
  · have h := h.2 z
    refine e_iload_n (k := 21) (i := 2) rfl rfl 2 rfl ?_
    refine e_bipush (k := 22) (v := (9 : Int32)) rfl (by decide) ?_
    refine e_icmp_le (k := 23) (tgt := 60) rfl (by decide) (fun z => ?_) (fun z => ?_)
    · have h := h.1 z
      refine e_aload_n (k := 32) (i := 0) rfl rfl 0 rfl ?_
      refine e_getC (k := 33) rfl f_X4_33 rfl rfl ?_
      refine e_getI (k := 34) rfl f_X4_108 rfl rfl ?_
      refine e_if_le (k := 35) (tgt := 80) rfl (by decide) (fun z => ?_) (fun z => ?_)
      · have h := h.1 z
        refine e_aload_n (k := 42) (i := 0) rfl rfl 0 rfl ?_
        refine e_getC (k := 43) rfl f_X4_9 rfl rfl ?_
        refine e_dup (k := 44) rfl rfl ?_
        refine e_getI (k := 45) rfl f_X4_123 rfl rfl ?_
        refine e_iconst (k := 46) (v := (1 : Int32)) rfl (by decide) ?_
        refine e_iadd (k := 47) rfl ?_
        refine e_putI (k := 48) rfl fg_X4_123 rfl rfl ?_
        refine e_mlet h (fun u3 h => ?_)
        refine e_aload_n (k := 49) (i := 0) rfl rfl 0 rfl ?_
        refine e_iload_n (k := 50) (i := 2) rfl rfl 2 rfl ?_
        refine e_callVi (k := 51) (q := 38) (As := [.int y2]) (rest := []) rfl (c_X4_usualNumber (g := g) hg (n := n) h) m_X4_usualNumber i_X4_usualNumber l_X4_358 rfl ⟨_, rfl, rfl⟩ rfl rfl (Nat.le_of_ble_eq_true rfl) ⟨by decide, by decide, rfl, rfl⟩ (fun _ h => h.elim) (fun r2 u4 h => ?_)
        refine e_istore_n (k := 52) (i := 3) (lv' := [(0, .ref (gR g 38)), (1, .int y1), (2, .int y2), (3, .int r2)]) rfl rfl (by decide) [1, 2, 3, 0] rfl ?_
        refine e_iload_n (k := 53) (i := 2) rfl rfl 2 rfl ?_
        refine e_istore (k := 54) (i := 4) (lv' := [(0, .ref (gR g 38)), (1, .int y1), (2, .int y2), (3, .int r2), (4, .int y2)]) rfl (by decide) [1, 2, 3, 4, 0] rfl ?_
        refine e_aload_n (k := 55) (i := 0) rfl rfl 0 rfl ?_
        refine e_getC (k := 56) rfl f_X4_9 rfl rfl ?_
        refine e_iconst (k := 57) (v := (0 : Int32)) rfl (by decide) ?_
        refine e_callVi (k := 58) (q := 33) (As := [.int (0 : Int32)]) (rest := []) rfl (c_X5_peek (g := g) hg (n := n) h) m_X5_peek i_X5_peek l_X4_126 rfl ⟨_, rfl, rfl⟩ rfl rfl (Nat.le_of_ble_eq_true rfl) ⟨by decide, by decide, rfl, rfl⟩ (fun _ h => h.elim) (fun r3 u5 h => ?_)
        refine e_bipush (k := 59) (v := (58 : Int32)) rfl (by decide) ?_
        refine e_icmp_ne (k := 60) (tgt := 178) rfl (by decide) (fun z => ?_) (fun z => ?_)
        · have h := h.1 z
          refine e_sub (lv' := [(0, .ref (gR g 38)), (2, .int y2), (3, .int r2), (4, .int y2)]) [0, 2, 3, 4] rfl ?_
          exact s_X4_readTuplet_178 hg h
        · have h := h.2 z
          refine e_aload_n (k := 61) (i := 0) rfl rfl 0 rfl ?_
          refine e_getC (k := 62) rfl f_X4_9 rfl rfl ?_
          refine e_dup (k := 63) rfl rfl ?_
          refine e_getI (k := 64) rfl f_X4_123 rfl rfl ?_
          refine e_iconst (k := 65) (v := (1 : Int32)) rfl (by decide) ?_
          refine e_iadd (k := 66) rfl ?_
          refine e_putI (k := 67) rfl fg_X4_123 rfl rfl ?_
          refine e_mlet h (fun u6 h => ?_)
          refine e_aload_n (k := 68) (i := 0) rfl rfl 0 rfl ?_
          refine e_iload_n (k := 69) (i := 3) rfl rfl 3 rfl ?_
          refine e_callVi (k := 70) (q := 38) (As := [.int r2]) (rest := []) rfl (c_X4_readDigit (g := g) hg (n := n) h) m_X4_readDigit i_X4_readDigit l_X4_361 rfl ⟨_, rfl, rfl⟩ rfl rfl (Nat.le_of_ble_eq_true rfl) ⟨by decide, by decide, rfl, rfl⟩ (fun _ h => h.elim) (fun r4 u7 h => ?_)
          refine e_istore_n (k := 71) (i := 3) (lv' := [(0, .ref (gR g 38)), (1, .int y1), (2, .int y2), (3, .int r4), (4, .int y2)]) rfl rfl (by decide) [1, 2, 3, 0, 4] rfl ?_
          refine e_aload_n (k := 72) (i := 0) rfl rfl 0 rfl ?_
          refine e_getC (k := 73) rfl f_X4_9 rfl rfl ?_
          refine e_getI (k := 74) rfl f_X4_78 rfl rfl ?_
          refine e_if_ne (k := 75) (tgt := 178) rfl (by decide) (fun z => ?_) (fun z => ?_)
          · have h := h.1 z
            refine e_sub (lv' := [(0, .ref (gR g 38)), (2, .int y2), (3, .int r4), (4, .int y2)]) [0, 2, 3, 4] rfl ?_
            exact s_X4_readTuplet_178 hg h
          · have h := h.2 z
            refine e_aload_n (k := 76) (i := 0) rfl rfl 0 rfl ?_
            refine e_getC (k := 77) rfl f_X4_9 rfl rfl ?_
            refine e_iconst (k := 78) (v := (0 : Int32)) rfl (by decide) ?_
            refine e_callVi (k := 79) (q := 33) (As := [.int (0 : Int32)]) (rest := []) rfl (c_X5_peek (g := g) hg (n := n) h) m_X5_peek i_X5_peek l_X4_126 rfl ⟨_, rfl, rfl⟩ rfl rfl (Nat.le_of_ble_eq_true rfl) ⟨by decide, by decide, rfl, rfl⟩ (fun _ h => h.elim) (fun r5 u8 h => ?_)
            refine e_bipush (k := 80) (v := (58 : Int32)) rfl (by decide) ?_
            refine e_icmp_ne (k := 81) (tgt := 178) rfl (by decide) (fun z => ?_) (fun z => ?_)
            · have h := h.1 z
              refine e_sub (lv' := [(0, .ref (gR g 38)), (2, .int y2), (3, .int r4), (4, .int y2)]) [0, 2, 3, 4] rfl ?_
              exact s_X4_readTuplet_178 hg h
            · have h := h.2 z
              refine e_aload_n (k := 82) (i := 0) rfl rfl 0 rfl ?_
              refine e_getC (k := 83) rfl f_X4_9 rfl rfl ?_
              refine e_dup (k := 84) rfl rfl ?_
              refine e_getI (k := 85) rfl f_X4_123 rfl rfl ?_
              refine e_iconst (k := 86) (v := (1 : Int32)) rfl (by decide) ?_
              refine e_iadd (k := 87) rfl ?_
              refine e_putI (k := 88) rfl fg_X4_123 rfl rfl ?_
              refine e_mlet h (fun u9 h => ?_)
              refine e_aload_n (k := 89) (i := 0) rfl rfl 0 rfl ?_
              refine e_iload (k := 90) (i := 4) rfl 4 rfl ?_
              refine e_callVi (k := 91) (q := 38) (As := [.int y2]) (rest := []) rfl (c_X4_readDigit (g := g) hg (n := n) h) m_X4_readDigit i_X4_readDigit l_X4_361 rfl ⟨_, rfl, rfl⟩ rfl rfl (Nat.le_of_ble_eq_true rfl) ⟨by decide, by decide, rfl, rfl⟩ (fun _ h => h.elim) (fun r6 u10 h => ?_)
              refine e_istore (k := 92) (i := 4) (lv' := [(0, .ref (gR g 38)), (1, .int y1), (2, .int y2), (3, .int r4), (4, .int r6)]) rfl (by decide) [1, 2, 3, 4, 0] rfl ?_
              refine e_sub (lv' := [(0, .ref (gR g 38)), (2, .int y2), (3, .int r4), (4, .int r6)]) [0, 2, 3, 4] rfl ?_
              exact s_X4_readTuplet_178 hg h
      · have h := h.2 z
        refine e_aload_n (k := 36) (i := 0) rfl rfl 0 rfl ?_
        refine e_getC (k := 37) rfl f_X4_9 rfl rfl ?_
        refine e_iconst (k := 38) (v := (5 : Int32)) rfl (by decide) ?_
        refine e_iload_n (k := 39) (i := 1) rfl rfl 1 rfl ?_
        refine e_callVv (k := 40) (q := 33) (As := [.int (5 : Int32), .int y1]) (rest := []) rfl (c_X5_fail (g := g) hg (n := n) h) m_X5_fail i_X5_fail l_X4_93 rfl ⟨_, rfl, rfl⟩ rfl rfl (Nat.le_of_ble_eq_true rfl) ⟨by decide, by decide, rfl, rfl⟩ (fun _ h => h.elim) (fun u11 h => ?_)
        exact e_vret (k := 41) rfl rfl (Or.inl ⟨rfl, h⟩)
    · have h := h.2 z
      refine e_sub (lv' := [(0, .ref (gR g 38))]) [0] rfl ?_
      exact s_X4_readTuplet_44 hg h
def il_X9_write : List (Nat × Instr × Nat) := [(0, .aload_n 0, 1), (1, .iconst 0, 1), (2, .putfield 15, 3), (5, .aload_n 1, 1), (6, .iload_n 2, 1), (7, .bipush 18, 2), (9, .invokevirtual 19, 3), (12, .ifCond .eq 14, 3), (15, .aload_n 0, 1), (16, .aload_n 1, 1), (17, .iload_n 2, 1), (18, .bipush 6, 2), (20, .invokevirtual 19, 3), (23, .invokevirtual 25, 3), (26, .aload_n 0, 1), (27, .aload_n 1, 1), (28, .iload_n 2, 1), (29, .iconst 4, 1), (30, .invokevirtual 19, 3), (33, .aload_n 1, 1), (34, .iload_n 2, 1), (35, .iconst 5, 1), (36, .invokevirtual 19, 3), (39, .invokevirtual 29, 3), (42, .aload_n 1, 1), (43, .iload_n 2, 1), (44, .bipush 17, 2), (46, .invokevirtual 19, 3), (49, .istore_n 3, 1), (50, .iload_n 3, 1), (51, .ifCond .le 25, 3), (54, .aload_n 0, 1), (55, .aload_n 1, 1), (56, .iload_n 2, 1), (57, .invokevirtual 33, 3), (60, .ldc2_w 37, 3), (63, .iload_n 3, 1), (64, .i2l, 1), (65, .ldiv, 1), (66, .invokevirtual 39, 3), (69, .ifCond .eq 7, 3), (72, .iconst 1, 1), (73, .goto 4, 3), (76, .iconst 0, 1), (77, .ireturn, 1)]
set_option maxRecDepth 20000 in
theorem il_X9_write_ok : ∀ x ∈ il_X9_write, decode cX9_write x.1 = .ok x.2 := by decide +kernel
abbrev me_X9_write : Me := (RX9, il_X9_write, 4, (some .boolean), xRoom 4, [])
def w_X9_write_77 (n : Nat) (t0 : Int32) (u0 : Mm) (Q : Int32 → Mm → Prop) : Prop :=
  narrow .boolean (.int t0) = .int t0 ∧ Q t0 u0
def w_X9_write_76 (n : Nat) (u0 : Mm) (Q : Int32 → Mm → Prop) : Prop :=
  w_X9_write_77 n (0 : Int32) u0 Q
def w_X9_write_26 (n : Nat) (x2 : Int32) (u0 : Mm) (Q : Int32 → Mm → Prop) : Prop :=
  w_X6_cell n x2 (4 : Int32) u0 (fun r1 u1 =>
  w_X6_cell n x2 (5 : Int32) u1 (fun r2 u2 =>
  w_X9_writeLetter n r1 r2 u2 (fun u3 =>
  w_X6_cell n x2 (17 : Int32) u3 (fun r3 u4 =>
  (r3 ≤ 0 → w_X9_write_76 n u4 Q) ∧
  (¬ r3 ≤ 0 → w_X6_ticksOf n x2 u4 (fun r4 u5 =>
  ¬ r3.toInt64 = 0 ∧ (w_X9_writeLength n r4 ((1290240 : Int64) / r3.toInt64) u5 (fun r5 u6 =>
  (r5 = 0 → w_X9_write_76 n u6 Q) ∧
  (¬ r5 = 0 → w_X9_write_77 n (1 : Int32) u6 Q)))))))))
def w_X9_write (n : Nat) (a1 : Int32) (u0 : Mm) (Q : Int32 → Mm → Prop) : Prop :=
  mlet (setI u0 40 1 (0 : Int32)) fun u1 =>
  w_X6_cell n a1 (18 : Int32) u1 (fun r1 u2 =>
  (r1 = 0 → w_X9_write_26 n a1 u2 Q) ∧
  (¬ r1 = 0 → w_X6_cell n a1 (6 : Int32) u2 (fun r2 u3 =>
  w_X9_writeSign n r2 u3 (fun u4 =>
  w_X9_write_26 n a1 u4 Q))))
set_option maxRecDepth 20000 in
theorem s_X9_write_77 {g : Gb} (hg : xInj g) {n : Nat} {Q : Int32 → Mm → Prop} {t0 : Int32} {u0 : Mm} (h : w_X9_write_77 n t0 u0 Q) : xE g me_X9_write (pI g Q noT) 77 [] [.int t0] u0 := by
  unfold w_X9_write_77 at h
  exact e_zret (k := 44) rfl rfl h.1 (Or.inl ⟨_, rfl, h.2⟩)
set_option maxRecDepth 20000 in
theorem s_X9_write_76 {g : Gb} (hg : xInj g) {n : Nat} {Q : Int32 → Mm → Prop} {u0 : Mm} (h : w_X9_write_76 n  u0 Q) : xE g me_X9_write (pI g Q noT) 76 [] [] u0 := by
  unfold w_X9_write_76 at h
  refine e_iconst (k := 43) (v := (0 : Int32)) rfl (by decide) ?_
  exact s_X9_write_77 hg h
set_option maxRecDepth 20000 in
theorem s_X9_write_26 {g : Gb} (hg : xInj g) {n : Nat} {Q : Int32 → Mm → Prop} {x2 : Int32} {u0 : Mm} (h : w_X9_write_26 n x2 u0 Q) : xE g me_X9_write (pI g Q noT) 26 [(0, .ref (gR g 40)), (1, .ref (gR g 36)), (2, .int x2)] [] u0 := by
  unfold w_X9_write_26 at h
  refine e_aload_n (k := 14) (i := 0) rfl rfl 0 rfl ?_
  refine e_aload_n (k := 15) (i := 1) rfl rfl 1 rfl ?_
  refine e_iload_n (k := 16) (i := 2) rfl rfl 2 rfl ?_
  refine e_iconst (k := 17) (v := (4 : Int32)) rfl (by decide) ?_
  refine e_callVi (k := 18) (q := 36) (As := [.int x2, .int (4 : Int32)]) (rest := [.ref (gR g 40)]) rfl (c_X6_cell (g := g) hg (n := n) h) m_X6_cell i_X6_cell l_X9_19 rfl ⟨_, rfl, rfl⟩ rfl rfl (Nat.le_of_ble_eq_true rfl) ⟨by decide, by decide, rfl, rfl⟩ (fun _ h => h.elim) (fun r1 u1 h => ?_)
  refine e_aload_n (k := 19) (i := 1) rfl rfl 1 rfl ?_
  refine e_iload_n (k := 20) (i := 2) rfl rfl 2 rfl ?_
  refine e_iconst (k := 21) (v := (5 : Int32)) rfl (by decide) ?_
  refine e_callVi (k := 22) (q := 36) (As := [.int x2, .int (5 : Int32)]) (rest := [.int r1, .ref (gR g 40)]) rfl (c_X6_cell (g := g) hg (n := n) h) m_X6_cell i_X6_cell l_X9_19 rfl ⟨_, rfl, rfl⟩ rfl rfl (Nat.le_of_ble_eq_true rfl) ⟨by decide, by decide, rfl, rfl⟩ (fun _ h => h.elim) (fun r2 u2 h => ?_)
  refine e_callVv (k := 23) (q := 40) (As := [.int r1, .int r2]) (rest := []) rfl (c_X9_writeLetter (g := g) hg (n := n) h) m_X9_writeLetter i_X9_writeLetter l_X9_29 rfl ⟨_, rfl, rfl⟩ rfl rfl (Nat.le_of_ble_eq_true rfl) ⟨by decide, by decide, rfl, rfl⟩ (fun _ h => h.elim) (fun u3 h => ?_)
  refine e_aload_n (k := 24) (i := 1) rfl rfl 1 rfl ?_
  refine e_iload_n (k := 25) (i := 2) rfl rfl 2 rfl ?_
  refine e_bipush (k := 26) (v := (17 : Int32)) rfl (by decide) ?_
  refine e_callVi (k := 27) (q := 36) (As := [.int x2, .int (17 : Int32)]) (rest := []) rfl (c_X6_cell (g := g) hg (n := n) h) m_X6_cell i_X6_cell l_X9_19 rfl ⟨_, rfl, rfl⟩ rfl rfl (Nat.le_of_ble_eq_true rfl) ⟨by decide, by decide, rfl, rfl⟩ (fun _ h => h.elim) (fun r3 u4 h => ?_)
  refine e_istore_n (k := 28) (i := 3) (lv' := [(0, .ref (gR g 40)), (1, .ref (gR g 36)), (2, .int x2), (3, .int r3)]) rfl rfl (by decide) [1, 2, 3, 0] rfl ?_
  refine e_iload_n (k := 29) (i := 3) rfl rfl 3 rfl ?_
  refine e_if_le (k := 30) (tgt := 76) rfl (by decide) (fun z => ?_) (fun z => ?_)
  · have h := h.1 z
    refine e_sub (lv' := []) [] rfl ?_
    exact s_X9_write_76 hg h
  · have h := h.2 z
    refine e_aload_n (k := 31) (i := 0) rfl rfl 0 rfl ?_
    refine e_aload_n (k := 32) (i := 1) rfl rfl 1 rfl ?_
    refine e_iload_n (k := 33) (i := 2) rfl rfl 2 rfl ?_
    refine e_callVl (k := 34) (q := 36) (As := [.int x2]) (rest := [.ref (gR g 40)]) rfl (c_X6_ticksOf (g := g) hg (n := n) h) m_X6_ticksOf i_X6_ticksOf l_X9_33 rfl ⟨_, rfl, rfl⟩ rfl rfl (Nat.le_of_ble_eq_true rfl) ⟨by decide, by decide, rfl, rfl⟩ (fun _ h => h.elim) (fun r4 u5 h => ?_)
    refine e_ldc2 (k := 35) rfl k_X9_37 ?_
    refine e_iload_n (k := 36) (i := 3) rfl rfl 3 rfl ?_
    refine e_i2l (k := 37) rfl ?_
    refine e_ldiv (k := 38) rfl h.1 ?_
    have h := h.2
    refine e_callVi (k := 39) (q := 40) (As := [.long r4, .long ((1290240 : Int64) / r3.toInt64)]) (rest := []) rfl (c_X9_writeLength (g := g) hg (n := n) h) m_X9_writeLength i_X9_writeLength l_X9_39 rfl ⟨_, rfl, rfl⟩ rfl rfl (Nat.le_of_ble_eq_true rfl) ⟨by decide, by decide, rfl, rfl⟩ (fun _ h => h.elim) (fun r5 u6 h => ?_)
    refine e_if_eq (k := 40) (tgt := 76) rfl (by decide) (fun z => ?_) (fun z => ?_)
    · have h := h.1 z
      refine e_sub (lv' := []) [] rfl ?_
      exact s_X9_write_76 hg h
    · have h := h.2 z
      refine e_iconst (k := 41) (v := (1 : Int32)) rfl (by decide) ?_
      refine e_goto (k := 42) (tgt := 77) rfl (by decide) ?_
      refine e_sub (lv' := []) [] rfl ?_
      exact s_X9_write_77 hg h
set_option maxRecDepth 20000 in
theorem c_X9_write {g : Gb} (hg : xInj g) {n : Nat} {a1 : Int32} {u0 : Mm} {Q : Int32 → Mm → Prop} (h : w_X9_write n a1 u0 Q) : xMet (gL g) yX9_write (xws yX9_write cX9_write 4 (some .boolean)) (xRoom 4) (xPc g [.ref (gR g 40), .ref (gR g 36), .int a1] u0) (xQ g (pI g Q noT)) (xA g) := by
  refine xbody (il := il_X9_write) hg il_X9_write_ok m_X9_write (Nat.le_of_ble_eq_true rfl) ?_
  show xE g me_X9_write (pI g Q noT) 0 [(0, .ref (gR g 40)), (1, .ref (gR g 36)), (2, .int a1)] [] u0
  unfold w_X9_write at h
  refine e_aload_n (k := 0) (i := 0) rfl rfl 0 rfl ?_
  refine e_iconst (k := 1) (v := (0 : Int32)) rfl (by decide) ?_
  refine e_putI (k := 2) rfl fg_X9_15 rfl rfl ?_
  refine e_mlet h (fun u1 h => ?_)
  refine e_aload_n (k := 3) (i := 1) rfl rfl 1 rfl ?_
  refine e_iload_n (k := 4) (i := 2) rfl rfl 2 rfl ?_
  refine e_bipush (k := 5) (v := (18 : Int32)) rfl (by decide) ?_
  refine e_callVi (k := 6) (q := 36) (As := [.int a1, .int (18 : Int32)]) (rest := []) rfl (c_X6_cell (g := g) hg (n := n) h) m_X6_cell i_X6_cell l_X9_19 rfl ⟨_, rfl, rfl⟩ rfl rfl (Nat.le_of_ble_eq_true rfl) ⟨by decide, by decide, rfl, rfl⟩ (fun _ h => h.elim) (fun r1 u2 h => ?_)
  refine e_if_eq (k := 7) (tgt := 26) rfl (by decide) (fun z => ?_) (fun z => ?_)
  · have h := h.1 z
    exact s_X9_write_26 hg h
  · have h := h.2 z
    refine e_aload_n (k := 8) (i := 0) rfl rfl 0 rfl ?_
    refine e_aload_n (k := 9) (i := 1) rfl rfl 1 rfl ?_
    refine e_iload_n (k := 10) (i := 2) rfl rfl 2 rfl ?_
    refine e_bipush (k := 11) (v := (6 : Int32)) rfl (by decide) ?_
    refine e_callVi (k := 12) (q := 36) (As := [.int a1, .int (6 : Int32)]) (rest := [.ref (gR g 40)]) rfl (c_X6_cell (g := g) hg (n := n) h) m_X6_cell i_X6_cell l_X9_19 rfl ⟨_, rfl, rfl⟩ rfl rfl (Nat.le_of_ble_eq_true rfl) ⟨by decide, by decide, rfl, rfl⟩ (fun _ h => h.elim) (fun r2 u3 h => ?_)
    refine e_callVv (k := 13) (q := 40) (As := [.int r2]) (rest := []) rfl (c_X9_writeSign (g := g) hg (n := n) h) m_X9_writeSign i_X9_writeSign l_X9_25 rfl ⟨_, rfl, rfl⟩ rfl rfl (Nat.le_of_ble_eq_true rfl) ⟨by decide, by decide, rfl, rfl⟩ (fun _ h => h.elim) (fun u4 h => ?_)
    exact s_X9_write_26 hg h
def il_X0_readKey : List (Nat × Instr × Nat) := [(0, .aload_n 0, 1), (1, .getfield 9, 3), (4, .getfield 45, 3), (7, .istore_n 1, 1), (8, .aload_n 0, 1), (9, .iconst 0, 1), (10, .putfield 57, 3), (13, .aload_n 0, 1), (14, .getfield 9, 3), (17, .ldc 19, 2), (19, .invokevirtual 21, 3), (22, .ifCond .eq 4, 3), (25, .return_, 1), (26, .aload_n 0, 1), (27, .getfield 9, 3), (30, .iconst 0, 1), (31, .invokevirtual 41, 3), (34, .istore_n 2, 1), (35, .iload_n 2, 1), (36, .bipush 65, 2), (38, .if_icmp .lt 9, 3), (41, .iload_n 2, 1), (42, .bipush 71, 2), (44, .if_icmp .le 13, 3), (47, .aload_n 0, 1), (48, .getfield 9, 3), (51, .iconst 1, 1), (52, .iload_n 1, 1), (53, .invokevirtual 48, 3), (56, .return_, 1), (57, .aload_n 0, 1), (58, .ldc 60, 2), (60, .iload_n 2, 1), (61, .i2c, 1), (62, .invokevirtual 62, 3), (65, .iconst 1, 1), (66, .isub, 1), (67, .putfield 57, 3), (70, .aload_n 0, 1), (71, .getfield 9, 3), (74, .dup, 1), (75, .getfield 45, 3), (78, .iconst 1, 1), (79, .iadd, 1), (80, .putfield 45, 3), (83, .aload_n 0, 1), (84, .getfield 9, 3), (87, .ldc 67, 2), (89, .invokevirtual 21, 3), (92, .ifCond .eq 17, 3), (95, .aload_n 0, 1), (96, .dup, 1), (97, .getfield 57, 3), (100, .bipush 7, 2), (102, .iadd, 1), (103, .putfield 57, 3), (106, .goto 26, 3), (109, .aload_n 0, 1), (110, .getfield 9, 3), (113, .ldc 69, 2), (115, .invokevirtual 21, 3), (118, .ifCond .eq 14, 3), (121, .aload_n 0, 1), (122, .dup, 1), (123, .getfield 57, 3), (126, .bipush 7, 2), (128, .isub, 1), (129, .putfield 57, 3), (132, .aload_n 0, 1), (133, .dup, 1), (134, .getfield 57, 3), (137, .aload_n 0, 1), (138, .invokevirtual 71, 3), (141, .iadd, 1), (142, .putfield 57, 3), (145, .aload_n 0, 1), (146, .getfield 57, 3), (149, .invokestatic 75, 3), (152, .bipush 7, 2), (154, .if_icmp .le 12, 3), (157, .aload_n 0, 1), (158, .getfield 9, 3), (161, .iconst 3, 1), (162, .iload_n 1, 1), (163, .invokevirtual 48, 3), (166, .return_, 1)]
set_option maxRecDepth 20000 in
theorem il_X0_readKey_ok : ∀ x ∈ il_X0_readKey, decode cX0_readKey x.1 = .ok x.2 := by decide +kernel
abbrev me_X0_readKey : Me := (RX0, il_X0_readKey, 3, none, xRoom 5, [])
def w_X0_readKey_166 (n : Nat) (u0 : Mm) (Q : Mm → Prop) : Prop :=
  Q u0
def w_X0_readKey_132 (n : Nat) (x1 : Int32) (u0 : Mm) (Q : Mm → Prop) : Prop :=
  w_X0_readMode n u0 (fun r1 u1 =>
  mlet (setI u1 34 4 ((u0.1 34 4) + r1)) fun u2 =>
  ((if 0 ≤ (u2.1 34 4) then (u2.1 34 4) else 0 - (u2.1 34 4)) ≤ (7 : Int32) → w_X0_readKey_166 n u2 Q) ∧
  (¬ (if 0 ≤ (u2.1 34 4) then (u2.1 34 4) else 0 - (u2.1 34 4)) ≤ (7 : Int32) → w_X5_fail n (3 : Int32) x1 u2 (fun u3 =>
  w_X0_readKey_166 n u3 Q)))
def w_X0_readKey_47 (n : Nat) (x1 : Int32) (u0 : Mm) (Q : Mm → Prop) : Prop :=
  w_X5_fail n (1 : Int32) x1 u0 (fun u1 =>
  Q u1)
def w_X0_readKey (n : Nat) (u0 : Mm) (Q : Mm → Prop) : Prop :=
  ilet (u0.1 33 2) fun y1 =>
  mlet (setI u0 34 4 (0 : Int32)) fun u1 =>
  w_X5_takeWord n 0 u1 (fun r1 u2 =>
  (r1 = 0 → w_X5_peek n (0 : Int32) u2 (fun r2 u3 =>
  (r2 < (65 : Int32) → w_X0_readKey_47 n y1 u3 Q) ∧
  (¬ r2 < (65 : Int32) → (r2 ≤ (71 : Int32) → w_J0_indexOf_0f7a4 n 3 (r2.toUInt32 % 65536).toInt32 u3 (fun r3 u4 =>
  mlet (setI u4 34 4 (r3 - (1 : Int32))) fun u5 =>
  mlet (setI u5 33 2 ((u5.1 33 2) + (1 : Int32))) fun u6 =>
  w_X5_takeWord n 4 u6 (fun r4 u7 =>
  (r4 = 0 → w_X5_takeWord n 5 u7 (fun r5 u8 =>
  (r5 = 0 → w_X0_readKey_132 n y1 u8 Q) ∧
  (¬ r5 = 0 → mlet (setI u8 34 4 ((u8.1 34 4) - (7 : Int32))) fun u9 =>
  w_X0_readKey_132 n y1 u9 Q))) ∧
  (¬ r4 = 0 → mlet (setI u7 34 4 ((u7.1 34 4) + (7 : Int32))) fun u10 =>
  w_X0_readKey_132 n y1 u10 Q)))) ∧
  (¬ r2 ≤ (71 : Int32) → w_X0_readKey_47 n y1 u3 Q)))) ∧
  (¬ r1 = 0 → Q u2))
set_option maxRecDepth 20000 in
theorem s_X0_readKey_166 {g : Gb} (hg : xInj g) {n : Nat} {Q : Mm → Prop} {u0 : Mm} (h : w_X0_readKey_166 n  u0 Q) : xE g me_X0_readKey (pV g Q noT) 166 [] [] u0 := by
  unfold w_X0_readKey_166 at h
  exact e_vret (k := 85) rfl rfl (Or.inl ⟨rfl, h⟩)
set_option maxRecDepth 20000 in
theorem s_X0_readKey_132 {g : Gb} (hg : xInj g) {n : Nat} {Q : Mm → Prop} {x1 : Int32} {u0 : Mm} (h : w_X0_readKey_132 n x1 u0 Q) : xE g me_X0_readKey (pV g Q noT) 132 [(0, .ref (gR g 34)), (1, .int x1)] [] u0 := by
  unfold w_X0_readKey_132 at h
  refine e_aload_n (k := 68) (i := 0) rfl rfl 0 rfl ?_
  refine e_dup (k := 69) rfl rfl ?_
  refine e_getI (k := 70) rfl f_X0_57 rfl rfl ?_
  refine e_aload_n (k := 71) (i := 0) rfl rfl 0 rfl ?_
  refine e_callVi (k := 72) (q := 34) (As := []) (rest := [.int (u0.1 34 4), .ref (gR g 34)]) rfl (c_X0_readMode (g := g) hg (n := n) h) m_X0_readMode i_X0_readMode l_X0_71 rfl ⟨_, rfl, rfl⟩ rfl rfl (Nat.le_of_ble_eq_true rfl) ⟨by decide, by decide, rfl, rfl⟩ (fun _ h => h.elim) (fun r1 u1 h => ?_)
  refine e_iadd (k := 73) rfl ?_
  refine e_putI (k := 74) rfl fg_X0_57 rfl rfl ?_
  refine e_mlet h (fun u2 h => ?_)
  refine e_aload_n (k := 75) (i := 0) rfl rfl 0 rfl ?_
  refine e_getI (k := 76) rfl f_X0_57 rfl rfl ?_
  refine e_mabs (k := 77) rfl l_X0_75 st_J9_abs_0f7a4 h9_ini h9_abs (by decide) (Nat.le_of_ble_eq_true rfl) ?_
  refine e_bipush (k := 78) (v := (7 : Int32)) rfl (by decide) ?_
  refine e_icmp_le (k := 79) (tgt := 166) rfl (by decide) (fun z => ?_) (fun z => ?_)
  · have h := h.1 z
    refine e_sub (lv' := []) [] rfl ?_
    exact s_X0_readKey_166 hg h
  · have h := h.2 z
    refine e_aload_n (k := 80) (i := 0) rfl rfl 0 rfl ?_
    refine e_getC (k := 81) rfl f_X0_9 rfl rfl ?_
    refine e_iconst (k := 82) (v := (3 : Int32)) rfl (by decide) ?_
    refine e_iload_n (k := 83) (i := 1) rfl rfl 1 rfl ?_
    refine e_callVv (k := 84) (q := 33) (As := [.int (3 : Int32), .int x1]) (rest := []) rfl (c_X5_fail (g := g) hg (n := n) h) m_X5_fail i_X5_fail l_X0_48 rfl ⟨_, rfl, rfl⟩ rfl rfl (Nat.le_of_ble_eq_true rfl) ⟨by decide, by decide, rfl, rfl⟩ (fun _ h => h.elim) (fun u3 h => ?_)
    refine e_sub (lv' := []) [] rfl ?_
    exact s_X0_readKey_166 hg h
set_option maxRecDepth 20000 in
theorem s_X0_readKey_47 {g : Gb} (hg : xInj g) {n : Nat} {Q : Mm → Prop} {x1 : Int32} {u0 : Mm} (h : w_X0_readKey_47 n x1 u0 Q) : xE g me_X0_readKey (pV g Q noT) 47 [(0, .ref (gR g 34)), (1, .int x1)] [] u0 := by
  unfold w_X0_readKey_47 at h
  refine e_aload_n (k := 24) (i := 0) rfl rfl 0 rfl ?_
  refine e_getC (k := 25) rfl f_X0_9 rfl rfl ?_
  refine e_iconst (k := 26) (v := (1 : Int32)) rfl (by decide) ?_
  refine e_iload_n (k := 27) (i := 1) rfl rfl 1 rfl ?_
  refine e_callVv (k := 28) (q := 33) (As := [.int (1 : Int32), .int x1]) (rest := []) rfl (c_X5_fail (g := g) hg (n := n) h) m_X5_fail i_X5_fail l_X0_48 rfl ⟨_, rfl, rfl⟩ rfl rfl (Nat.le_of_ble_eq_true rfl) ⟨by decide, by decide, rfl, rfl⟩ (fun _ h => h.elim) (fun u1 h => ?_)
  exact e_vret (k := 29) rfl rfl (Or.inl ⟨rfl, h⟩)
set_option maxRecDepth 20000 in
theorem c_X0_readKey {g : Gb} (hg : xInj g) {n : Nat} {u0 : Mm} {Q : Mm → Prop} (h : w_X0_readKey n u0 Q) : xMet (gL g) yX0_readKey (xws yX0_readKey cX0_readKey 3 none) (xRoom 5) (xPc g [.ref (gR g 34)] u0) (xQ g (pV g Q noT)) (xA g) := by
  refine xbody (il := il_X0_readKey) hg il_X0_readKey_ok m_X0_readKey (Nat.le_of_ble_eq_true rfl) ?_
  show xE g me_X0_readKey (pV g Q noT) 0 [(0, .ref (gR g 34))] [] u0
  unfold w_X0_readKey at h
  refine e_aload_n (k := 0) (i := 0) rfl rfl 0 rfl ?_
  refine e_getC (k := 1) rfl f_X0_9 rfl rfl ?_
  refine e_getI (k := 2) rfl f_X0_45 rfl rfl ?_
  refine e_ilet h (fun y1 h => ?_)
  refine e_istore_n (k := 3) (i := 1) (lv' := [(0, .ref (gR g 34)), (1, .int y1)]) rfl rfl (by decide) [1, 0] rfl ?_
  refine e_aload_n (k := 4) (i := 0) rfl rfl 0 rfl ?_
  refine e_iconst (k := 5) (v := (0 : Int32)) rfl (by decide) ?_
  refine e_putI (k := 6) rfl fg_X0_57 rfl rfl ?_
  refine e_mlet h (fun u1 h => ?_)
  refine e_aload_n (k := 7) (i := 0) rfl rfl 0 rfl ?_
  refine e_getC (k := 8) rfl f_X0_9 rfl rfl ?_
  refine e_ldcS (k := 9) (j := 0) rfl rfl ?_
  refine e_callVi (k := 10) (q := 33) (As := [.ref (gK g 0)]) (rest := []) rfl (c_X5_takeWord (g := g) hg (n := n) (by decide) h) m_X5_takeWord i_X5_takeWord l_X0_21 rfl ⟨_, rfl, rfl⟩ rfl rfl (Nat.le_of_ble_eq_true rfl) ⟨by decide, by decide, rfl, rfl⟩ (fun _ h => h.elim) (fun r1 u2 h => ?_)
  refine e_if_eq (k := 11) (tgt := 26) rfl (by decide) (fun z => ?_) (fun z => ?_)
  · have h := h.1 z
    refine e_aload_n (k := 13) (i := 0) rfl rfl 0 rfl ?_
    refine e_getC (k := 14) rfl f_X0_9 rfl rfl ?_
    refine e_iconst (k := 15) (v := (0 : Int32)) rfl (by decide) ?_
    refine e_callVi (k := 16) (q := 33) (As := [.int (0 : Int32)]) (rest := []) rfl (c_X5_peek (g := g) hg (n := n) h) m_X5_peek i_X5_peek l_X0_41 rfl ⟨_, rfl, rfl⟩ rfl rfl (Nat.le_of_ble_eq_true rfl) ⟨by decide, by decide, rfl, rfl⟩ (fun _ h => h.elim) (fun r2 u3 h => ?_)
    refine e_istore_n (k := 17) (i := 2) (lv' := [(0, .ref (gR g 34)), (1, .int y1), (2, .int r2)]) rfl rfl (by decide) [1, 2, 0] rfl ?_
    refine e_iload_n (k := 18) (i := 2) rfl rfl 2 rfl ?_
    refine e_bipush (k := 19) (v := (65 : Int32)) rfl (by decide) ?_
    refine e_icmp_lt (k := 20) (tgt := 47) rfl (by decide) (fun z => ?_) (fun z => ?_)
    · have h := h.1 z
      refine e_sub (lv' := [(0, .ref (gR g 34)), (1, .int y1)]) [0, 1] rfl ?_
      exact s_X0_readKey_47 hg h
    · have h := h.2 z
      refine e_iload_n (k := 21) (i := 2) rfl rfl 2 rfl ?_
      refine e_bipush (k := 22) (v := (71 : Int32)) rfl (by decide) ?_
      refine e_icmp_le (k := 23) (tgt := 57) rfl (by decide) (fun z => ?_) (fun z => ?_)
      · have h := h.1 z
        refine e_aload_n (k := 30) (i := 0) rfl rfl 0 rfl ?_
        refine e_ldcS (k := 31) (j := 3) rfl rfl ?_
        refine e_iload_n (k := 32) (i := 2) rfl rfl 2 rfl ?_
        refine e_i2c (k := 33) rfl ?_
        refine e_callKi (k := 34) (j := 3) (As := [.int (r2.toUInt32 % 65536).toInt32]) (rest := [.ref (gR g 34)]) rfl (c_J0_indexOf_0f7a4 (g := g) hg (n := n) (by decide) h) m_J0_indexOf_0f7a4 i_J0_indexOf_0f7a4 l_X0_62 (by decide) rfl rfl rfl (Nat.le_of_ble_eq_true rfl) ⟨by decide, by decide, rfl, rfl⟩ (fun r3 u4 h => ?_)
        refine e_iconst (k := 35) (v := (1 : Int32)) rfl (by decide) ?_
        refine e_isub (k := 36) rfl ?_
        refine e_putI (k := 37) rfl fg_X0_57 rfl rfl ?_
        refine e_mlet h (fun u5 h => ?_)
        refine e_aload_n (k := 38) (i := 0) rfl rfl 0 rfl ?_
        refine e_getC (k := 39) rfl f_X0_9 rfl rfl ?_
        refine e_dup (k := 40) rfl rfl ?_
        refine e_getI (k := 41) rfl f_X0_45 rfl rfl ?_
        refine e_iconst (k := 42) (v := (1 : Int32)) rfl (by decide) ?_
        refine e_iadd (k := 43) rfl ?_
        refine e_putI (k := 44) rfl fg_X0_45 rfl rfl ?_
        refine e_mlet h (fun u6 h => ?_)
        refine e_aload_n (k := 45) (i := 0) rfl rfl 0 rfl ?_
        refine e_getC (k := 46) rfl f_X0_9 rfl rfl ?_
        refine e_ldcS (k := 47) (j := 4) rfl rfl ?_
        refine e_callVi (k := 48) (q := 33) (As := [.ref (gK g 4)]) (rest := []) rfl (c_X5_takeWord (g := g) hg (n := n) (by decide) h) m_X5_takeWord i_X5_takeWord l_X0_21 rfl ⟨_, rfl, rfl⟩ rfl rfl (Nat.le_of_ble_eq_true rfl) ⟨by decide, by decide, rfl, rfl⟩ (fun _ h => h.elim) (fun r4 u7 h => ?_)
        refine e_if_eq (k := 49) (tgt := 109) rfl (by decide) (fun z => ?_) (fun z => ?_)
        · have h := h.1 z
          refine e_aload_n (k := 57) (i := 0) rfl rfl 0 rfl ?_
          refine e_getC (k := 58) rfl f_X0_9 rfl rfl ?_
          refine e_ldcS (k := 59) (j := 5) rfl rfl ?_
          refine e_callVi (k := 60) (q := 33) (As := [.ref (gK g 5)]) (rest := []) rfl (c_X5_takeWord (g := g) hg (n := n) (by decide) h) m_X5_takeWord i_X5_takeWord l_X0_21 rfl ⟨_, rfl, rfl⟩ rfl rfl (Nat.le_of_ble_eq_true rfl) ⟨by decide, by decide, rfl, rfl⟩ (fun _ h => h.elim) (fun r5 u8 h => ?_)
          refine e_if_eq (k := 61) (tgt := 132) rfl (by decide) (fun z => ?_) (fun z => ?_)
          · have h := h.1 z
            refine e_sub (lv' := [(0, .ref (gR g 34)), (1, .int y1)]) [0, 1] rfl ?_
            exact s_X0_readKey_132 hg h
          · have h := h.2 z
            refine e_aload_n (k := 62) (i := 0) rfl rfl 0 rfl ?_
            refine e_dup (k := 63) rfl rfl ?_
            refine e_getI (k := 64) rfl f_X0_57 rfl rfl ?_
            refine e_bipush (k := 65) (v := (7 : Int32)) rfl (by decide) ?_
            refine e_isub (k := 66) rfl ?_
            refine e_putI (k := 67) rfl fg_X0_57 rfl rfl ?_
            refine e_mlet h (fun u9 h => ?_)
            refine e_sub (lv' := [(0, .ref (gR g 34)), (1, .int y1)]) [0, 1] rfl ?_
            exact s_X0_readKey_132 hg h
        · have h := h.2 z
          refine e_aload_n (k := 50) (i := 0) rfl rfl 0 rfl ?_
          refine e_dup (k := 51) rfl rfl ?_
          refine e_getI (k := 52) rfl f_X0_57 rfl rfl ?_
          refine e_bipush (k := 53) (v := (7 : Int32)) rfl (by decide) ?_
          refine e_iadd (k := 54) rfl ?_
          refine e_putI (k := 55) rfl fg_X0_57 rfl rfl ?_
          refine e_mlet h (fun u10 h => ?_)
          refine e_goto (k := 56) (tgt := 132) rfl (by decide) ?_
          refine e_sub (lv' := [(0, .ref (gR g 34)), (1, .int y1)]) [0, 1] rfl ?_
          exact s_X0_readKey_132 hg h
      · have h := h.2 z
        refine e_sub (lv' := [(0, .ref (gR g 34)), (1, .int y1)]) [0, 1] rfl ?_
        exact s_X0_readKey_47 hg h
  · have h := h.2 z
    exact e_vret (k := 12) rfl rfl (Or.inl ⟨rfl, h⟩)
def il_X10_written : List (Nat × Instr × Nat) := [(0, .aload_n 0, 1), (1, .iload_n 1, 1), (2, .invokevirtual 134, 3), (5, .ifCond .eq 23, 3), (8, .aload_n 0, 1), (9, .getfield 36, 3), (12, .getfield 108, 3), (15, .iload_n 1, 1), (16, .iconst 0, 1), (17, .invokevirtual 138, 3), (20, .ifCond .ne 8, 3), (23, .iload_n 2, 1), (24, .iconst (-1), 1), (25, .if_icmp .ge 5, 3), (28, .iconst (-1), 1), (29, .ireturn, 1), (30, .aload_n 0, 1), (31, .getfield 64, 3), (34, .aload_n 0, 1), (35, .getfield 36, 3), (38, .getfield 108, 3), (41, .iload_n 1, 1), (42, .invokevirtual 178, 3), (45, .ifCond .ne 5, 3), (48, .iconst (-1), 1), (49, .ireturn, 1), (50, .iload_n 2, 1), (51, .iconst (-1), 1), (52, .if_icmp .ne 13, 3), (55, .aload_n 0, 1), (56, .getfield 64, 3), (59, .getfield 182, 3), (62, .goto 11, 3), (65, .aload_n 0, 1), (66, .getfield 64, 3), (69, .iload_n 2, 1), (70, .invokevirtual 183, 3), (73, .ireturn, 1)]
set_option maxRecDepth 20000 in
theorem il_X10_written_ok : ∀ x ∈ il_X10_written, decode cX10_written x.1 = .ok x.2 := by decide +kernel
abbrev me_X10_written : Me := (RX10, il_X10_written, 3, (some .int), xRoom 5, [])
def w_X10_written_73 (n : Nat) (t0 : Int32) (u0 : Mm) (Q : Int32 → Mm → Prop) : Prop :=
  Q t0 u0
def w_X10_written_28 (n : Nat) (u0 : Mm) (Q : Int32 → Mm → Prop) : Prop :=
  Q (-1 : Int32) u0
def w_X10_written (n : Nat) (a0 : Int32) (a1 : Int32) (u0 : Mm) (Q : Int32 → Mm → Prop) : Prop :=
  w_X10_hasThing n a0 u0 (fun r1 u1 =>
  (r1 = 0 → w_X10_written_28 n u1 Q) ∧
  (¬ r1 = 0 → w_X6_cell n a0 (0 : Int32) u1 (fun r2 u2 =>
  (¬ r2 = 0 → w_X10_written_28 n u2 Q) ∧
  (r2 = 0 → ((-1 : Int32) ≤ a1 → w_X9_write n a0 u2 (fun r3 u3 =>
  (¬ r3 = 0 → (¬ a1 = (-1 : Int32) → w_X9_byteAt n a1 u3 (fun r4 u4 =>
  w_X10_written_73 n r4 u4 Q)) ∧
  (a1 = (-1 : Int32) → w_X10_written_73 n (u3.1 40 1) u3 Q)) ∧
  (r3 = 0 → Q (-1 : Int32) u3))) ∧
  (¬ (-1 : Int32) ≤ a1 → w_X10_written_28 n u2 Q)))))
set_option maxRecDepth 20000 in
theorem s_X10_written_73 {g : Gb} (hg : xInj g) {n : Nat} {Q : Int32 → Mm → Prop} {t0 : Int32} {u0 : Mm} (h : w_X10_written_73 n t0 u0 Q) : xE g me_X10_written (pI g Q noT) 73 [] [.int t0] u0 := by
  unfold w_X10_written_73 at h
  exact e_iret (k := 37) rfl rfl (Or.inl ⟨_, rfl, h⟩)
set_option maxRecDepth 20000 in
theorem s_X10_written_28 {g : Gb} (hg : xInj g) {n : Nat} {Q : Int32 → Mm → Prop} {u0 : Mm} (h : w_X10_written_28 n  u0 Q) : xE g me_X10_written (pI g Q noT) 28 [] [] u0 := by
  unfold w_X10_written_28 at h
  refine e_iconst (k := 14) (v := (-1 : Int32)) rfl (by decide) ?_
  exact e_iret (k := 15) rfl rfl (Or.inl ⟨_, rfl, h⟩)
set_option maxRecDepth 20000 in
theorem c_X10_written {g : Gb} (hg : xInj g) {n : Nat} {a0 : Int32} {a1 : Int32} {u0 : Mm} {Q : Int32 → Mm → Prop} (h : w_X10_written n a0 a1 u0 Q) : xMet (gL g) yX10_written (xws yX10_written cX10_written 3 (some .int)) (xRoom 5) (xPc g [.ref (gR g 32), .int a0, .int a1] u0) (xQ g (pI g Q noT)) (xA g) := by
  refine xbody (il := il_X10_written) hg il_X10_written_ok m_X10_written (Nat.le_of_ble_eq_true rfl) ?_
  show xE g me_X10_written (pI g Q noT) 0 [(0, .ref (gR g 32)), (1, .int a0), (2, .int a1)] [] u0
  unfold w_X10_written at h
  refine e_aload_n (k := 0) (i := 0) rfl rfl 0 rfl ?_
  refine e_iload_n (k := 1) (i := 1) rfl rfl 1 rfl ?_
  refine e_callVi (k := 2) (q := 32) (As := [.int a0]) (rest := []) rfl (c_X10_hasThing (g := g) hg (n := n) h) m_X10_hasThing i_X10_hasThing l_X10_134 rfl ⟨_, rfl, rfl⟩ rfl rfl (Nat.le_of_ble_eq_true rfl) ⟨by decide, by decide, rfl, rfl⟩ (fun _ h => h.elim) (fun r1 u1 h => ?_)
  refine e_if_eq (k := 3) (tgt := 28) rfl (by decide) (fun z => ?_) (fun z => ?_)
  · have h := h.1 z
    refine e_sub (lv' := []) [] rfl ?_
    exact s_X10_written_28 hg h
  · have h := h.2 z
    refine e_aload_n (k := 4) (i := 0) rfl rfl 0 rfl ?_
    refine e_getC (k := 5) rfl f_X10_36 rfl rfl ?_
    refine e_getC (k := 6) rfl f_X10_108 rfl rfl ?_
    refine e_iload_n (k := 7) (i := 1) rfl rfl 1 rfl ?_
    refine e_iconst (k := 8) (v := (0 : Int32)) rfl (by decide) ?_
    refine e_callVi (k := 9) (q := 36) (As := [.int a0, .int (0 : Int32)]) (rest := []) rfl (c_X6_cell (g := g) hg (n := n) h) m_X6_cell i_X6_cell l_X10_138 rfl ⟨_, rfl, rfl⟩ rfl rfl (Nat.le_of_ble_eq_true rfl) ⟨by decide, by decide, rfl, rfl⟩ (fun _ h => h.elim) (fun r2 u2 h => ?_)
    refine e_if_ne (k := 10) (tgt := 28) rfl (by decide) (fun z => ?_) (fun z => ?_)
    · have h := h.1 z
      refine e_sub (lv' := []) [] rfl ?_
      exact s_X10_written_28 hg h
    · have h := h.2 z
      refine e_iload_n (k := 11) (i := 2) rfl rfl 2 rfl ?_
      refine e_iconst (k := 12) (v := (-1 : Int32)) rfl (by decide) ?_
      refine e_icmp_ge (k := 13) (tgt := 30) rfl (by decide) (fun z => ?_) (fun z => ?_)
      · have h := h.1 z
        refine e_aload_n (k := 16) (i := 0) rfl rfl 0 rfl ?_
        refine e_getC (k := 17) rfl f_X10_64 rfl rfl ?_
        refine e_aload_n (k := 18) (i := 0) rfl rfl 0 rfl ?_
        refine e_getC (k := 19) rfl f_X10_36 rfl rfl ?_
        refine e_getC (k := 20) rfl f_X10_108 rfl rfl ?_
        refine e_iload_n (k := 21) (i := 1) rfl rfl 1 rfl ?_
        refine e_callVi (k := 22) (q := 40) (As := [.ref (gR g 36), .int a0]) (rest := []) rfl (c_X9_write (g := g) hg (n := n) h) m_X9_write i_X9_write l_X10_178 rfl ⟨_, rfl, rfl⟩ rfl rfl (Nat.le_of_ble_eq_true rfl) ⟨by decide, by decide, rfl, rfl⟩ (fun _ h => h.elim) (fun r3 u3 h => ?_)
        refine e_if_ne (k := 23) (tgt := 50) rfl (by decide) (fun z => ?_) (fun z => ?_)
        · have h := h.1 z
          refine e_iload_n (k := 26) (i := 2) rfl rfl 2 rfl ?_
          refine e_iconst (k := 27) (v := (-1 : Int32)) rfl (by decide) ?_
          refine e_icmp_ne (k := 28) (tgt := 65) rfl (by decide) (fun z => ?_) (fun z => ?_)
          · have h := h.1 z
            refine e_aload_n (k := 33) (i := 0) rfl rfl 0 rfl ?_
            refine e_getC (k := 34) rfl f_X10_64 rfl rfl ?_
            refine e_iload_n (k := 35) (i := 2) rfl rfl 2 rfl ?_
            refine e_callVi (k := 36) (q := 40) (As := [.int a1]) (rest := []) rfl (c_X9_byteAt (g := g) hg (n := n) h) m_X9_byteAt i_X9_byteAt l_X10_183 rfl ⟨_, rfl, rfl⟩ rfl rfl (Nat.le_of_ble_eq_true rfl) ⟨by decide, by decide, rfl, rfl⟩ (fun _ h => h.elim) (fun r4 u4 h => ?_)
            refine e_sub (lv' := []) [] rfl ?_
            exact s_X10_written_73 hg h
          · have h := h.2 z
            refine e_aload_n (k := 29) (i := 0) rfl rfl 0 rfl ?_
            refine e_getC (k := 30) rfl f_X10_64 rfl rfl ?_
            refine e_getI (k := 31) rfl f_X10_182 rfl rfl ?_
            refine e_goto (k := 32) (tgt := 73) rfl (by decide) ?_
            refine e_sub (lv' := []) [] rfl ?_
            exact s_X10_written_73 hg h
        · have h := h.2 z
          refine e_iconst (k := 24) (v := (-1 : Int32)) rfl (by decide) ?_
          exact e_iret (k := 25) rfl rfl (Or.inl ⟨_, rfl, h⟩)
      · have h := h.2 z
        refine e_sub (lv' := []) [] rfl ?_
        exact s_X10_written_28 hg h
def il_X12_passHead : List (Nat × Instr × Nat) := [(0, .aload_n 0, 1), (1, .aload_n 0, 1), (2, .getfield 138, 3), (5, .iconst 2, 1), (6, .iadd, 1), (7, .putfield 138, 3), (10, .aload_n 0, 1), (11, .invokevirtual 241, 3), (14, .return_, 1)]
set_option maxRecDepth 20000 in
theorem il_X12_passHead_ok : ∀ x ∈ il_X12_passHead, decode cX12_passHead x.1 = .ok x.2 := by decide +kernel
abbrev me_X12_passHead : Me := (RX12, il_X12_passHead, 1, none, xRoom 5, [])
def w_X12_passHead (n : Nat) (u0 : Mm) (Q : Mm → Prop) (T : Mm → Prop) : Prop :=
  mlet (setI u0 0 7 ((u0.1 0 7) + (2 : Int32))) fun u1 =>
  w_X12_blanks n u1 (fun u2 =>
  Q u2) T
set_option maxRecDepth 20000 in
theorem c_X12_passHead {g : Gb} (hg : xInj g) {n : Nat} {u0 : Mm} {Q : Mm → Prop} {T : Mm → Prop} (h : w_X12_passHead n u0 Q T) : xMet (gL g) yX12_passHead (xws yX12_passHead cX12_passHead 1 none) (xRoom 5) (xPc g [.ref (gR g 0)] u0) (xQ g (pV g Q T)) (xA g) := by
  refine xbody (il := il_X12_passHead) hg il_X12_passHead_ok m_X12_passHead (Nat.le_of_ble_eq_true rfl) ?_
  show xE g me_X12_passHead (pV g Q T) 0 [(0, .ref (gR g 0))] [] u0
  unfold w_X12_passHead at h
  refine e_aload_n (k := 0) (i := 0) rfl rfl 0 rfl ?_
  refine e_aload_n (k := 1) (i := 0) rfl rfl 0 rfl ?_
  refine e_getI (k := 2) rfl f_X12_138 rfl rfl ?_
  refine e_iconst (k := 3) (v := (2 : Int32)) rfl (by decide) ?_
  refine e_iadd (k := 4) rfl ?_
  refine e_putI (k := 5) rfl fg_X12_138 rfl rfl ?_
  refine e_mlet h (fun u1 h => ?_)
  refine e_aload_n (k := 6) (i := 0) rfl rfl 0 rfl ?_
  refine e_callVv (k := 7) (q := 0) (As := []) (rest := []) rfl (c_X12_blanks (g := g) hg (n := n) h) m_X12_blanks i_X12_blanks l_X12_241 rfl ⟨_, rfl, rfl⟩ rfl rfl (Nat.le_of_ble_eq_true rfl) ⟨by decide, by decide, rfl, rfl⟩ (fun _ h => ⟨fun _ z => (by cases z), Or.inr ⟨rfl, h⟩⟩) (fun u2 h => ?_)
  exact e_vret (k := 8) rfl rfl (Or.inl ⟨rfl, h⟩)
def il_X12_readLength : List (Nat × Instr × Nat) := [(0, .aload_n 0, 1), (1, .iconst 1, 1), (2, .putfield 303, 3), (5, .aload_n 0, 1), (6, .iconst 1, 1), (7, .putfield 306, 3), (10, .aload_n 0, 1), (11, .invokevirtual 162, 3), (14, .invokestatic 182, 3), (17, .ifCond .eq 62, 3), (20, .aload_n 0, 1), (21, .aload_n 0, 1), (22, .iconst 1, 1), (23, .bipush 64, 2), (25, .aload_n 0, 1), (26, .getfield 138, 3), (29, .invokevirtual 207, 3), (32, .putfield 303, 3), (35, .aload_n 0, 1), (36, .bipush 47, 2), (38, .invokevirtual 166, 3), (41, .ifCond .eq 133, 3), (44, .aload_n 0, 1), (45, .dup, 1), (46, .getfield 138, 3), (49, .iconst 1, 1), (50, .iadd, 1), (51, .putfield 138, 3), (54, .aload_n 0, 1), (55, .aload_n 0, 1), (56, .invokevirtual 162, 3), (59, .invokestatic 182, 3), (62, .ifCond .eq 10, 3), (65, .aload_n 0, 1), (66, .invokevirtual 309, 3), (69, .goto 4, 3), (72, .iconst 2, 1), (73, .putfield 306, 3), (76, .goto 98, 3), (79, .aload_n 0, 1), (80, .bipush 47, 2), (82, .invokevirtual 166, 3), (85, .ifCond .eq 89, 3), (88, .aload_n 0, 1), (89, .dup, 1), (90, .getfield 138, 3), (93, .iconst 1, 1), (94, .iadd, 1), (95, .putfield 138, 3), (98, .aload_n 0, 1), (99, .invokevirtual 162, 3), (102, .invokestatic 182, 3), (105, .ifCond .eq 14, 3), (108, .aload_n 0, 1), (109, .aload_n 0, 1), (110, .invokevirtual 309, 3), (113, .putfield 306, 3), (116, .goto 58, 3), (119, .aload_n 0, 1), (120, .iconst 2, 1), (121, .putfield 306, 3), (124, .aload_n 0, 1), (125, .bipush 47, 2), (127, .invokevirtual 166, 3), (130, .ifCond .eq 44, 3), (133, .aload_n 0, 1), (134, .getfield 306, 3), (137, .bipush 64, 2), (139, .if_icmp .ne 12, 3), (142, .aload_n 0, 1), (143, .iconst 1, 1), (144, .aload_n 0, 1), (145, .getfield 138, 3), (148, .invokevirtual 148, 3), (151, .aload_n 0, 1), (152, .iconst 2, 1), (153, .aload_n 0, 1), (154, .getfield 306, 3), (157, .imul, 1), (158, .putfield 306, 3), (161, .aload_n 0, 1), (162, .dup, 1), (163, .getfield 138, 3), (166, .iconst 1, 1), (167, .iadd, 1), (168, .putfield 138, 3), (171, .goto (-47), 3), (174, .return_, 1)]
set_option maxRecDepth 20000 in
theorem il_X12_readLength_ok : ∀ x ∈ il_X12_readLength, decode cX12_readLength x.1 = .ok x.2 := by decide +kernel
abbrev me_X12_readLength : Me := (RX12, il_X12_readLength, 1, none, xRoom 5, [])
def w_X12_readLength_174 (n : Nat) (u0 : Mm) (Q : Mm → Prop) (T : Mm → Prop) : Prop :=
  Q u0
def w_X12_readLength_151 (n : Nat) (L124 : Mm → Prop) (u0 : Mm) (Q : Mm → Prop) (T : Mm → Prop) : Prop :=
  mlet (setI u0 0 53 ((2 : Int32) * (u0.1 0 53))) fun u1 =>
  mlet (setI u1 0 7 ((u1.1 0 7) + (1 : Int32))) fun u2 =>
  L124 u2
def w_X12_readLength_124 (n : Nat) (Q : Mm → Prop) (T : Mm → Prop) : Nat → Mm → Prop
  | 0, _ => False
  | k + 1, u0 =>
  w_X12_is n (47 : Int32) u0 (fun r1 u1 =>
  (r1 = 0 → w_X12_readLength_174 n u1 Q T) ∧
  (¬ r1 = 0 → (¬ (u1.1 0 53) = (64 : Int32) → w_X12_readLength_151 n (w_X12_readLength_124 n Q T k) u1 Q T) ∧
  ((u1.1 0 53) = (64 : Int32) → w_X12_fail n (1 : Int32) (u1.1 0 7) u1 (fun u2 =>
  w_X12_readLength_151 n (w_X12_readLength_124 n Q T k) u2 Q T) T))) T
def w_X12_readLength_73 (n : Nat) (t0 : Int32) (u0 : Mm) (Q : Mm → Prop) (T : Mm → Prop) : Prop :=
  mlet (setI u0 0 53 t0) fun u1 =>
  w_X12_readLength_174 n u1 Q T
def w_X12_readLength (n : Nat) (u0 : Mm) (Q : Mm → Prop) (T : Mm → Prop) : Prop :=
  mlet (setI u0 0 52 (1 : Int32)) fun u1 =>
  mlet (setI u1 0 53 (1 : Int32)) fun u2 =>
  w_X12_here n u2 (fun r1 u3 =>
  w_X12_isDigit n r1 u3 (fun r2 u4 =>
  (r2 = 0 → w_X12_is n (47 : Int32) u4 (fun r3 u5 =>
  (r3 = 0 → w_X12_readLength_174 n u5 Q T) ∧
  (¬ r3 = 0 → mlet (setI u5 0 7 ((u5.1 0 7) + (1 : Int32))) fun u6 =>
  w_X12_here n u6 (fun r4 u7 =>
  w_X12_isDigit n r4 u7 (fun r5 u8 =>
  (r5 = 0 → mlet (setI u8 0 53 (2 : Int32)) fun u9 =>
  (w_X12_readLength_124 n Q T n) u9) ∧
  (¬ r5 = 0 → w_X12_lowerLength n u8 (fun r6 u10 =>
  mlet (setI u10 0 53 r6) fun u11 =>
  w_X12_readLength_174 n u11 Q T) T)) T) T)) T) ∧
  (¬ r2 = 0 → w_X12_numberOf n (1 : Int32) (64 : Int32) (u4.1 0 7) u4 (fun r7 u12 =>
  mlet (setI u12 0 52 r7) fun u13 =>
  w_X12_is n (47 : Int32) u13 (fun r8 u14 =>
  (r8 = 0 → w_X12_readLength_174 n u14 Q T) ∧
  (¬ r8 = 0 → mlet (setI u14 0 7 ((u14.1 0 7) + (1 : Int32))) fun u15 =>
  w_X12_here n u15 (fun r9 u16 =>
  w_X12_isDigit n r9 u16 (fun r10 u17 =>
  (r10 = 0 → w_X12_readLength_73 n (2 : Int32) u17 Q T) ∧
  (¬ r10 = 0 → w_X12_lowerLength n u17 (fun r11 u18 =>
  w_X12_readLength_73 n r11 u18 Q T) T)) T) T)) T) T)) T) T
set_option maxRecDepth 20000 in
theorem s_X12_readLength_174 {g : Gb} (hg : xInj g) {n : Nat} {Q : Mm → Prop} {T : Mm → Prop} {u0 : Mm} (h : w_X12_readLength_174 n  u0 Q T) : xE g me_X12_readLength (pV g Q T) 174 [] [] u0 := by
  unfold w_X12_readLength_174 at h
  exact e_vret (k := 87) rfl rfl (Or.inl ⟨rfl, h⟩)
set_option maxRecDepth 20000 in
theorem s_X12_readLength_151 {g : Gb} (hg : xInj g) {n : Nat} {Q : Mm → Prop} {T : Mm → Prop} {L124 : Mm → Prop} (hL124 : ∀ (u0 : Mm), L124  u0 → xE g me_X12_readLength (pV g Q T) 124 [(0, .ref (gR g 0))] [] u0) {u0 : Mm} (h : w_X12_readLength_151 n L124  u0 Q T) : xE g me_X12_readLength (pV g Q T) 151 [(0, .ref (gR g 0))] [] u0 := by
  unfold w_X12_readLength_151 at h
  refine e_aload_n (k := 74) (i := 0) rfl rfl 0 rfl ?_
  refine e_iconst (k := 75) (v := (2 : Int32)) rfl (by decide) ?_
  refine e_aload_n (k := 76) (i := 0) rfl rfl 0 rfl ?_
  refine e_getI (k := 77) rfl f_X12_306 rfl rfl ?_
  refine e_imul (k := 78) rfl ?_
  refine e_putI (k := 79) rfl fg_X12_306 rfl rfl ?_
  refine e_mlet h (fun u1 h => ?_)
  refine e_aload_n (k := 80) (i := 0) rfl rfl 0 rfl ?_
  refine e_dup (k := 81) rfl rfl ?_
  refine e_getI (k := 82) rfl f_X12_138 rfl rfl ?_
  refine e_iconst (k := 83) (v := (1 : Int32)) rfl (by decide) ?_
  refine e_iadd (k := 84) rfl ?_
  refine e_putI (k := 85) rfl fg_X12_138 rfl rfl ?_
  refine e_mlet h (fun u2 h => ?_)
  refine e_goto (k := 86) (tgt := 124) rfl (by decide) ?_
  exact hL124 u2 h
set_option maxRecDepth 20000 in
theorem s_X12_readLength_124 {g : Gb} (hg : xInj g) {n : Nat} {Q : Mm → Prop} {T : Mm → Prop} : ∀ (k : Nat) (u0 : Mm), w_X12_readLength_124 n Q T k  u0 → xE g me_X12_readLength (pV g Q T) 124 [(0, .ref (gR g 0))] [] u0 := by
  intro k
  induction k with
  | zero => intro  u0 h; exact h.elim
  | succ k ih =>
    intro  u0 h
    unfold w_X12_readLength_124 at h
    refine e_aload_n (k := 61) (i := 0) rfl rfl 0 rfl ?_
    refine e_bipush (k := 62) (v := (47 : Int32)) rfl (by decide) ?_
    refine e_callVi (k := 63) (q := 0) (As := [.int (47 : Int32)]) (rest := []) rfl (c_X12_is (g := g) hg (n := n) h) m_X12_is i_X12_is l_X12_166 rfl ⟨_, rfl, rfl⟩ rfl rfl (Nat.le_of_ble_eq_true rfl) ⟨by decide, by decide, rfl, rfl⟩ (fun _ h => ⟨fun _ z => (by cases z), Or.inr ⟨rfl, h⟩⟩) (fun r1 u1 h => ?_)
    refine e_if_eq (k := 64) (tgt := 174) rfl (by decide) (fun z => ?_) (fun z => ?_)
    · have h := h.1 z
      refine e_sub (lv' := []) [] rfl ?_
      exact s_X12_readLength_174 hg h
    · have h := h.2 z
      refine e_aload_n (k := 65) (i := 0) rfl rfl 0 rfl ?_
      refine e_getI (k := 66) rfl f_X12_306 rfl rfl ?_
      refine e_bipush (k := 67) (v := (64 : Int32)) rfl (by decide) ?_
      refine e_icmp_ne (k := 68) (tgt := 151) rfl (by decide) (fun z => ?_) (fun z => ?_)
      · have h := h.1 z
        exact s_X12_readLength_151 hg ih h
      · have h := h.2 z
        refine e_aload_n (k := 69) (i := 0) rfl rfl 0 rfl ?_
        refine e_iconst (k := 70) (v := (1 : Int32)) rfl (by decide) ?_
        refine e_aload_n (k := 71) (i := 0) rfl rfl 0 rfl ?_
        refine e_getI (k := 72) rfl f_X12_138 rfl rfl ?_
        refine e_callVv (k := 73) (q := 0) (As := [.int (1 : Int32), .int (u1.1 0 7)]) (rest := []) rfl (c_X12_fail (g := g) hg (n := n) h) m_X12_fail i_X12_fail l_X12_148 rfl ⟨_, rfl, rfl⟩ rfl rfl (Nat.le_of_ble_eq_true rfl) ⟨by decide, by decide, rfl, rfl⟩ (fun _ h => ⟨fun _ z => (by cases z), Or.inr ⟨rfl, h⟩⟩) (fun u2 h => ?_)
        exact s_X12_readLength_151 hg ih h
set_option maxRecDepth 20000 in
theorem s_X12_readLength_73 {g : Gb} (hg : xInj g) {n : Nat} {Q : Mm → Prop} {T : Mm → Prop} {t0 : Int32} {u0 : Mm} (h : w_X12_readLength_73 n t0 u0 Q T) : xE g me_X12_readLength (pV g Q T) 73 [] [.int t0, .ref (gR g 0)] u0 := by
  unfold w_X12_readLength_73 at h
  refine e_putI (k := 37) rfl fg_X12_306 rfl rfl ?_
  refine e_mlet h (fun u1 h => ?_)
  refine e_goto (k := 38) (tgt := 174) rfl (by decide) ?_
  exact s_X12_readLength_174 hg h
set_option maxRecDepth 20000 in
theorem c_X12_readLength {g : Gb} (hg : xInj g) {n : Nat} {u0 : Mm} {Q : Mm → Prop} {T : Mm → Prop} (h : w_X12_readLength n u0 Q T) : xMet (gL g) yX12_readLength (xws yX12_readLength cX12_readLength 1 none) (xRoom 5) (xPc g [.ref (gR g 0)] u0) (xQ g (pV g Q T)) (xA g) := by
  refine xbody (il := il_X12_readLength) hg il_X12_readLength_ok m_X12_readLength (Nat.le_of_ble_eq_true rfl) ?_
  show xE g me_X12_readLength (pV g Q T) 0 [(0, .ref (gR g 0))] [] u0
  unfold w_X12_readLength at h
  refine e_aload_n (k := 0) (i := 0) rfl rfl 0 rfl ?_
  refine e_iconst (k := 1) (v := (1 : Int32)) rfl (by decide) ?_
  refine e_putI (k := 2) rfl fg_X12_303 rfl rfl ?_
  refine e_mlet h (fun u1 h => ?_)
  refine e_aload_n (k := 3) (i := 0) rfl rfl 0 rfl ?_
  refine e_iconst (k := 4) (v := (1 : Int32)) rfl (by decide) ?_
  refine e_putI (k := 5) rfl fg_X12_306 rfl rfl ?_
  refine e_mlet h (fun u2 h => ?_)
  refine e_aload_n (k := 6) (i := 0) rfl rfl 0 rfl ?_
  refine e_callVi (k := 7) (q := 0) (As := []) (rest := []) rfl (c_X12_here (g := g) hg (n := n) h) m_X12_here i_X12_here l_X12_162 rfl ⟨_, rfl, rfl⟩ rfl rfl (Nat.le_of_ble_eq_true rfl) ⟨by decide, by decide, rfl, rfl⟩ (fun _ h => ⟨fun _ z => (by cases z), Or.inr ⟨rfl, h⟩⟩) (fun r1 u3 h => ?_)
  refine e_callSi (k := 8) (As := [.int r1]) (rest := []) rfl (c_X12_isDigit (g := g) hg (n := n) h) m_X12_isDigit st_X12_isDigit l_X12_182 rfl rfl (Nat.le_of_ble_eq_true rfl) ⟨by decide, by decide, rfl, rfl⟩ (fun _ h => ⟨fun _ z => (by cases z), Or.inr ⟨rfl, h⟩⟩) (fun r2 u4 h => ?_)
  refine e_if_eq (k := 9) (tgt := 79) rfl (by decide) (fun z => ?_) (fun z => ?_)
  · have h := h.1 z
    refine e_aload_n (k := 39) (i := 0) rfl rfl 0 rfl ?_
    refine e_bipush (k := 40) (v := (47 : Int32)) rfl (by decide) ?_
    refine e_callVi (k := 41) (q := 0) (As := [.int (47 : Int32)]) (rest := []) rfl (c_X12_is (g := g) hg (n := n) h) m_X12_is i_X12_is l_X12_166 rfl ⟨_, rfl, rfl⟩ rfl rfl (Nat.le_of_ble_eq_true rfl) ⟨by decide, by decide, rfl, rfl⟩ (fun _ h => ⟨fun _ z => (by cases z), Or.inr ⟨rfl, h⟩⟩) (fun r3 u5 h => ?_)
    refine e_if_eq (k := 42) (tgt := 174) rfl (by decide) (fun z => ?_) (fun z => ?_)
    · have h := h.1 z
      refine e_sub (lv' := []) [] rfl ?_
      exact s_X12_readLength_174 hg h
    · have h := h.2 z
      refine e_aload_n (k := 43) (i := 0) rfl rfl 0 rfl ?_
      refine e_dup (k := 44) rfl rfl ?_
      refine e_getI (k := 45) rfl f_X12_138 rfl rfl ?_
      refine e_iconst (k := 46) (v := (1 : Int32)) rfl (by decide) ?_
      refine e_iadd (k := 47) rfl ?_
      refine e_putI (k := 48) rfl fg_X12_138 rfl rfl ?_
      refine e_mlet h (fun u6 h => ?_)
      refine e_aload_n (k := 49) (i := 0) rfl rfl 0 rfl ?_
      refine e_callVi (k := 50) (q := 0) (As := []) (rest := []) rfl (c_X12_here (g := g) hg (n := n) h) m_X12_here i_X12_here l_X12_162 rfl ⟨_, rfl, rfl⟩ rfl rfl (Nat.le_of_ble_eq_true rfl) ⟨by decide, by decide, rfl, rfl⟩ (fun _ h => ⟨fun _ z => (by cases z), Or.inr ⟨rfl, h⟩⟩) (fun r4 u7 h => ?_)
      refine e_callSi (k := 51) (As := [.int r4]) (rest := []) rfl (c_X12_isDigit (g := g) hg (n := n) h) m_X12_isDigit st_X12_isDigit l_X12_182 rfl rfl (Nat.le_of_ble_eq_true rfl) ⟨by decide, by decide, rfl, rfl⟩ (fun _ h => ⟨fun _ z => (by cases z), Or.inr ⟨rfl, h⟩⟩) (fun r5 u8 h => ?_)
      refine e_if_eq (k := 52) (tgt := 119) rfl (by decide) (fun z => ?_) (fun z => ?_)
      · have h := h.1 z
        refine e_aload_n (k := 58) (i := 0) rfl rfl 0 rfl ?_
        refine e_iconst (k := 59) (v := (2 : Int32)) rfl (by decide) ?_
        refine e_putI (k := 60) rfl fg_X12_306 rfl rfl ?_
        refine e_mlet h (fun u9 h => ?_)
        exact s_X12_readLength_124 hg n u9 h
      · have h := h.2 z
        refine e_aload_n (k := 53) (i := 0) rfl rfl 0 rfl ?_
        refine e_aload_n (k := 54) (i := 0) rfl rfl 0 rfl ?_
        refine e_callVi (k := 55) (q := 0) (As := []) (rest := [.ref (gR g 0)]) rfl (c_X12_lowerLength (g := g) hg (n := n) h) m_X12_lowerLength i_X12_lowerLength l_X12_309 rfl ⟨_, rfl, rfl⟩ rfl rfl (Nat.le_of_ble_eq_true rfl) ⟨by decide, by decide, rfl, rfl⟩ (fun _ h => ⟨fun _ z => (by cases z), Or.inr ⟨rfl, h⟩⟩) (fun r6 u10 h => ?_)
        refine e_putI (k := 56) rfl fg_X12_306 rfl rfl ?_
        refine e_mlet h (fun u11 h => ?_)
        refine e_goto (k := 57) (tgt := 174) rfl (by decide) ?_
        refine e_sub (lv' := []) [] rfl ?_
        exact s_X12_readLength_174 hg h
  · have h := h.2 z
    refine e_aload_n (k := 10) (i := 0) rfl rfl 0 rfl ?_
    refine e_aload_n (k := 11) (i := 0) rfl rfl 0 rfl ?_
    refine e_iconst (k := 12) (v := (1 : Int32)) rfl (by decide) ?_
    refine e_bipush (k := 13) (v := (64 : Int32)) rfl (by decide) ?_
    refine e_aload_n (k := 14) (i := 0) rfl rfl 0 rfl ?_
    refine e_getI (k := 15) rfl f_X12_138 rfl rfl ?_
    refine e_callVi (k := 16) (q := 0) (As := [.int (1 : Int32), .int (64 : Int32), .int (u4.1 0 7)]) (rest := [.ref (gR g 0)]) rfl (c_X12_numberOf (g := g) hg (n := n) h) m_X12_numberOf i_X12_numberOf l_X12_207 rfl ⟨_, rfl, rfl⟩ rfl rfl (Nat.le_of_ble_eq_true rfl) ⟨by decide, by decide, rfl, rfl⟩ (fun _ h => ⟨fun _ z => (by cases z), Or.inr ⟨rfl, h⟩⟩) (fun r7 u12 h => ?_)
    refine e_putI (k := 17) rfl fg_X12_303 rfl rfl ?_
    refine e_mlet h (fun u13 h => ?_)
    refine e_aload_n (k := 18) (i := 0) rfl rfl 0 rfl ?_
    refine e_bipush (k := 19) (v := (47 : Int32)) rfl (by decide) ?_
    refine e_callVi (k := 20) (q := 0) (As := [.int (47 : Int32)]) (rest := []) rfl (c_X12_is (g := g) hg (n := n) h) m_X12_is i_X12_is l_X12_166 rfl ⟨_, rfl, rfl⟩ rfl rfl (Nat.le_of_ble_eq_true rfl) ⟨by decide, by decide, rfl, rfl⟩ (fun _ h => ⟨fun _ z => (by cases z), Or.inr ⟨rfl, h⟩⟩) (fun r8 u14 h => ?_)
    refine e_if_eq (k := 21) (tgt := 174) rfl (by decide) (fun z => ?_) (fun z => ?_)
    · have h := h.1 z
      refine e_sub (lv' := []) [] rfl ?_
      exact s_X12_readLength_174 hg h
    · have h := h.2 z
      refine e_aload_n (k := 22) (i := 0) rfl rfl 0 rfl ?_
      refine e_dup (k := 23) rfl rfl ?_
      refine e_getI (k := 24) rfl f_X12_138 rfl rfl ?_
      refine e_iconst (k := 25) (v := (1 : Int32)) rfl (by decide) ?_
      refine e_iadd (k := 26) rfl ?_
      refine e_putI (k := 27) rfl fg_X12_138 rfl rfl ?_
      refine e_mlet h (fun u15 h => ?_)
      refine e_aload_n (k := 28) (i := 0) rfl rfl 0 rfl ?_
      refine e_aload_n (k := 29) (i := 0) rfl rfl 0 rfl ?_
      refine e_callVi (k := 30) (q := 0) (As := []) (rest := [.ref (gR g 0)]) rfl (c_X12_here (g := g) hg (n := n) h) m_X12_here i_X12_here l_X12_162 rfl ⟨_, rfl, rfl⟩ rfl rfl (Nat.le_of_ble_eq_true rfl) ⟨by decide, by decide, rfl, rfl⟩ (fun _ h => ⟨fun _ z => (by cases z), Or.inr ⟨rfl, h⟩⟩) (fun r9 u16 h => ?_)
      refine e_callSi (k := 31) (As := [.int r9]) (rest := [.ref (gR g 0)]) rfl (c_X12_isDigit (g := g) hg (n := n) h) m_X12_isDigit st_X12_isDigit l_X12_182 rfl rfl (Nat.le_of_ble_eq_true rfl) ⟨by decide, by decide, rfl, rfl⟩ (fun _ h => ⟨fun _ z => (by cases z), Or.inr ⟨rfl, h⟩⟩) (fun r10 u17 h => ?_)
      refine e_if_eq (k := 32) (tgt := 72) rfl (by decide) (fun z => ?_) (fun z => ?_)
      · have h := h.1 z
        refine e_iconst (k := 36) (v := (2 : Int32)) rfl (by decide) ?_
        refine e_sub (lv' := []) [] rfl ?_
        exact s_X12_readLength_73 hg h
      · have h := h.2 z
        refine e_aload_n (k := 33) (i := 0) rfl rfl 0 rfl ?_
        refine e_callVi (k := 34) (q := 0) (As := []) (rest := [.ref (gR g 0)]) rfl (c_X12_lowerLength (g := g) hg (n := n) h) m_X12_lowerLength i_X12_lowerLength l_X12_309 rfl ⟨_, rfl, rfl⟩ rfl rfl (Nat.le_of_ble_eq_true rfl) ⟨by decide, by decide, rfl, rfl⟩ (fun _ h => ⟨fun _ z => (by cases z), Or.inr ⟨rfl, h⟩⟩) (fun r11 u18 h => ?_)
        refine e_goto (k := 35) (tgt := 73) rfl (by decide) ?_
        refine e_sub (lv' := []) [] rfl ?_
        exact s_X12_readLength_73 hg h
def il_X12_readMeter : List (Nat × Instr × Nat) := [(0, .aload_n 0, 1), (1, .getfield 138, 3), (4, .istore_n 1, 1), (5, .aload_n 0, 1), (6, .invokevirtual 162, 3), (9, .istore_n 2, 1), (10, .iload_n 2, 1), (11, .bipush 67, 2), (13, .if_icmp .ne 70, 3), (16, .aload_n 0, 1), (17, .dup, 1), (18, .getfield 138, 3), (21, .iconst 1, 1), (22, .iadd, 1), (23, .putfield 138, 3), (26, .aload_n 0, 1), (27, .bipush 124, 2), (29, .invokevirtual 166, 3), (32, .istore_n 3, 1), (33, .aload_n 0, 1), (34, .iload_n 3, 1), (35, .ifCond .eq 12, 3), (38, .aload_n 0, 1), (39, .getfield 138, 3), (42, .iconst 1, 1), (43, .iadd, 1), (44, .goto 7, 3), (47, .aload_n 0, 1), (48, .getfield 138, 3), (51, .putfield 138, 3), (54, .aload_n 0, 1), (55, .iload_n 3, 1), (56, .ifCond .eq 7, 3), (59, .iconst 2, 1), (60, .goto 4, 3), (63, .iconst 4, 1), (64, .putfield 195, 3), (67, .aload_n 0, 1), (68, .iload_n 3, 1), (69, .ifCond .eq 7, 3), (72, .iconst 2, 1), (73, .goto 4, 3), (76, .iconst 4, 1), (77, .putfield 198, 3), (80, .goto 88, 3), (83, .aload_n 0, 1), (84, .ldc 201, 2), (86, .invokevirtual 203, 3), (89, .ifCond .eq 26, 3), (92, .aload_n 0, 1), (93, .aload_n 0, 1), (94, .getfield 138, 3), (97, .iconst 4, 1), (98, .iadd, 1), (99, .putfield 138, 3), (102, .aload_n 0, 1), (103, .iconst 0, 1), (104, .putfield 195, 3), (107, .aload_n 0, 1), (108, .iconst 0, 1), (109, .putfield 198, 3), (112, .goto 56, 3), (115, .aload_n 0, 1), (116, .aload_n 0, 1), (117, .iconst 1, 1), (118, .bipush 32, 2), (120, .iload_n 1, 1), (121, .invokevirtual 207, 3), (124, .putfield 195, 3), (127, .aload_n 0, 1), (128, .bipush 47, 2), (130, .invokevirtual 211, 3), (133, .aload_n 0, 1), (134, .getfield 138, 3), (137, .istore_n 3, 1), (138, .aload_n 0, 1), (139, .aload_n 0, 1), (140, .iconst 1, 1), (141, .bipush 32, 2), (143, .iload_n 3, 1), (144, .invokevirtual 207, 3), (147, .putfield 198, 3), (150, .aload_n 0, 1), (151, .getfield 198, 3), (154, .bipush 32, 2), (156, .invokestatic 215, 3), (159, .ifCond .ne 9, 3), (162, .aload_n 0, 1), (163, .iconst 1, 1), (164, .iload_n 3, 1), (165, .invokevirtual 148, 3), (168, .return_, 1)]
set_option maxRecDepth 20000 in
theorem il_X12_readMeter_ok : ∀ x ∈ il_X12_readMeter, decode cX12_readMeter x.1 = .ok x.2 := by decide +kernel
abbrev me_X12_readMeter : Me := (RX12, il_X12_readMeter, 4, none, xRoom 5, [])
def w_X12_readMeter_168 (n : Nat) (u0 : Mm) (Q : Mm → Prop) (T : Mm → Prop) : Prop :=
  Q u0
def w_X12_readMeter_77 (n : Nat) (t0 : Int32) (u0 : Mm) (Q : Mm → Prop) (T : Mm → Prop) : Prop :=
  mlet (setI u0 0 51 t0) fun u1 =>
  w_X12_readMeter_168 n u1 Q T
def w_X12_readMeter_64 (n : Nat) (x3 : Int32) (t0 : Int32) (u0 : Mm) (Q : Mm → Prop) (T : Mm → Prop) : Prop :=
  mlet (setI u0 0 50 t0) fun u1 =>
  (x3 = 0 → w_X12_readMeter_77 n (4 : Int32) u1 Q T) ∧
  (¬ x3 = 0 → w_X12_readMeter_77 n (2 : Int32) u1 Q T)
def w_X12_readMeter_51 (n : Nat) (x3 : Int32) (t0 : Int32) (u0 : Mm) (Q : Mm → Prop) (T : Mm → Prop) : Prop :=
  mlet (setI u0 0 7 t0) fun u1 =>
  (x3 = 0 → w_X12_readMeter_64 n x3 (4 : Int32) u1 Q T) ∧
  (¬ x3 = 0 → w_X12_readMeter_64 n x3 (2 : Int32) u1 Q T)
def w_X12_readMeter (n : Nat) (u0 : Mm) (Q : Mm → Prop) (T : Mm → Prop) : Prop :=
  ilet (u0.1 0 7) fun y1 =>
  w_X12_here n u0 (fun r1 u1 =>
  (¬ r1 = (67 : Int32) → w_X12_isWord n 20 u1 (fun r2 u2 =>
  (r2 = 0 → w_X12_numberOf n (1 : Int32) (32 : Int32) y1 u2 (fun r3 u3 =>
  mlet (setI u3 0 50 r3) fun u4 =>
  w_X12_must n (47 : Int32) u4 (fun u5 =>
  ilet (u5.1 0 7) fun y2 =>
  w_X12_numberOf n (1 : Int32) (32 : Int32) y2 u5 (fun r4 u6 =>
  mlet (setI u6 0 51 r4) fun u7 =>
  w_X12_isPower n (u7.1 0 51) (32 : Int32) u7 (fun r5 u8 =>
  (¬ r5 = 0 → w_X12_readMeter_168 n u8 Q T) ∧
  (r5 = 0 → w_X12_fail n (1 : Int32) y2 u8 (fun u9 =>
  w_X12_readMeter_168 n u9 Q T) T)) T) T) T) T) ∧
  (¬ r2 = 0 → mlet (setI u2 0 7 ((u2.1 0 7) + (4 : Int32))) fun u10 =>
  mlet (setI u10 0 50 (0 : Int32)) fun u11 =>
  mlet (setI u11 0 51 (0 : Int32)) fun u12 =>
  w_X12_readMeter_168 n u12 Q T)) T) ∧
  (r1 = (67 : Int32) → mlet (setI u1 0 7 ((u1.1 0 7) + (1 : Int32))) fun u13 =>
  w_X12_is n (124 : Int32) u13 (fun r6 u14 =>
  (r6 = 0 → w_X12_readMeter_51 n r6 (u14.1 0 7) u14 Q T) ∧
  (¬ r6 = 0 → w_X12_readMeter_51 n r6 ((u14.1 0 7) + (1 : Int32)) u14 Q T)) T)) T
set_option maxRecDepth 20000 in
theorem s_X12_readMeter_168 {g : Gb} (hg : xInj g) {n : Nat} {Q : Mm → Prop} {T : Mm → Prop} {u0 : Mm} (h : w_X12_readMeter_168 n  u0 Q T) : xE g me_X12_readMeter (pV g Q T) 168 [] [] u0 := by
  unfold w_X12_readMeter_168 at h
  exact e_vret (k := 91) rfl rfl (Or.inl ⟨rfl, h⟩)
set_option maxRecDepth 20000 in
theorem s_X12_readMeter_77 {g : Gb} (hg : xInj g) {n : Nat} {Q : Mm → Prop} {T : Mm → Prop} {t0 : Int32} {u0 : Mm} (h : w_X12_readMeter_77 n t0 u0 Q T) : xE g me_X12_readMeter (pV g Q T) 77 [] [.int t0, .ref (gR g 0)] u0 := by
  unfold w_X12_readMeter_77 at h
  refine e_putI (k := 43) rfl fg_X12_198 rfl rfl ?_
  refine e_mlet h (fun u1 h => ?_)
  refine e_goto (k := 44) (tgt := 168) rfl (by decide) ?_
  exact s_X12_readMeter_168 hg h
set_option maxRecDepth 20000 in
theorem s_X12_readMeter_64 {g : Gb} (hg : xInj g) {n : Nat} {Q : Mm → Prop} {T : Mm → Prop} {x3 : Int32} {t0 : Int32} {u0 : Mm} (h : w_X12_readMeter_64 n x3 t0 u0 Q T) : xE g me_X12_readMeter (pV g Q T) 64 [(0, .ref (gR g 0)), (3, .int x3)] [.int t0, .ref (gR g 0)] u0 := by
  unfold w_X12_readMeter_64 at h
  refine e_putI (k := 36) rfl fg_X12_195 rfl rfl ?_
  refine e_mlet h (fun u1 h => ?_)
  refine e_aload_n (k := 37) (i := 0) rfl rfl 0 rfl ?_
  refine e_iload_n (k := 38) (i := 3) rfl rfl 1 rfl ?_
  refine e_if_eq (k := 39) (tgt := 76) rfl (by decide) (fun z => ?_) (fun z => ?_)
  · have h := h.1 z
    refine e_iconst (k := 42) (v := (4 : Int32)) rfl (by decide) ?_
    refine e_sub (lv' := []) [] rfl ?_
    exact s_X12_readMeter_77 hg h
  · have h := h.2 z
    refine e_iconst (k := 40) (v := (2 : Int32)) rfl (by decide) ?_
    refine e_goto (k := 41) (tgt := 77) rfl (by decide) ?_
    refine e_sub (lv' := []) [] rfl ?_
    exact s_X12_readMeter_77 hg h
set_option maxRecDepth 20000 in
theorem s_X12_readMeter_51 {g : Gb} (hg : xInj g) {n : Nat} {Q : Mm → Prop} {T : Mm → Prop} {x3 : Int32} {t0 : Int32} {u0 : Mm} (h : w_X12_readMeter_51 n x3 t0 u0 Q T) : xE g me_X12_readMeter (pV g Q T) 51 [(0, .ref (gR g 0)), (3, .int x3)] [.int t0, .ref (gR g 0)] u0 := by
  unfold w_X12_readMeter_51 at h
  refine e_putI (k := 29) rfl fg_X12_138 rfl rfl ?_
  refine e_mlet h (fun u1 h => ?_)
  refine e_aload_n (k := 30) (i := 0) rfl rfl 0 rfl ?_
  refine e_iload_n (k := 31) (i := 3) rfl rfl 1 rfl ?_
  refine e_if_eq (k := 32) (tgt := 63) rfl (by decide) (fun z => ?_) (fun z => ?_)
  · have h := h.1 z
    refine e_iconst (k := 35) (v := (4 : Int32)) rfl (by decide) ?_
    exact s_X12_readMeter_64 hg h
  · have h := h.2 z
    refine e_iconst (k := 33) (v := (2 : Int32)) rfl (by decide) ?_
    refine e_goto (k := 34) (tgt := 64) rfl (by decide) ?_
    exact s_X12_readMeter_64 hg h
set_option maxRecDepth 20000 in
theorem c_X12_readMeter {g : Gb} (hg : xInj g) {n : Nat} {u0 : Mm} {Q : Mm → Prop} {T : Mm → Prop} (h : w_X12_readMeter n u0 Q T) : xMet (gL g) yX12_readMeter (xws yX12_readMeter cX12_readMeter 4 none) (xRoom 5) (xPc g [.ref (gR g 0)] u0) (xQ g (pV g Q T)) (xA g) := by
  refine xbody (il := il_X12_readMeter) hg il_X12_readMeter_ok m_X12_readMeter (Nat.le_of_ble_eq_true rfl) ?_
  show xE g me_X12_readMeter (pV g Q T) 0 [(0, .ref (gR g 0))] [] u0
  unfold w_X12_readMeter at h
  refine e_aload_n (k := 0) (i := 0) rfl rfl 0 rfl ?_
  refine e_getI (k := 1) rfl f_X12_138 rfl rfl ?_
  refine e_ilet h (fun y1 h => ?_)
  refine e_istore_n (k := 2) (i := 1) (lv' := [(0, .ref (gR g 0)), (1, .int y1)]) rfl rfl (by decide) [1, 0] rfl ?_
  refine e_aload_n (k := 3) (i := 0) rfl rfl 0 rfl ?_
  refine e_callVi (k := 4) (q := 0) (As := []) (rest := []) rfl (c_X12_here (g := g) hg (n := n) h) m_X12_here i_X12_here l_X12_162 rfl ⟨_, rfl, rfl⟩ rfl rfl (Nat.le_of_ble_eq_true rfl) ⟨by decide, by decide, rfl, rfl⟩ (fun _ h => ⟨fun _ z => (by cases z), Or.inr ⟨rfl, h⟩⟩) (fun r1 u1 h => ?_)
  refine e_istore_n (k := 5) (i := 2) (lv' := [(0, .ref (gR g 0)), (1, .int y1), (2, .int r1)]) rfl rfl (by decide) [1, 2, 0] rfl ?_
  refine e_iload_n (k := 6) (i := 2) rfl rfl 2 rfl ?_
  refine e_bipush (k := 7) (v := (67 : Int32)) rfl (by decide) ?_
  refine e_icmp_ne (k := 8) (tgt := 83) rfl (by decide) (fun z => ?_) (fun z => ?_)
  · have h := h.1 z
    refine e_aload_n (k := 45) (i := 0) rfl rfl 0 rfl ?_
    refine e_ldcS (k := 46) (j := 20) rfl rfl ?_
    refine e_callVi (k := 47) (q := 0) (As := [.ref (gK g 20)]) (rest := []) rfl (c_X12_isWord (g := g) hg (n := n) (by decide) h) m_X12_isWord i_X12_isWord l_X12_203 rfl ⟨_, rfl, rfl⟩ rfl rfl (Nat.le_of_ble_eq_true rfl) ⟨by decide, by decide, rfl, rfl⟩ (fun _ h => ⟨fun _ z => (by cases z), Or.inr ⟨rfl, h⟩⟩) (fun r2 u2 h => ?_)
    refine e_if_eq (k := 48) (tgt := 115) rfl (by decide) (fun z => ?_) (fun z => ?_)
    · have h := h.1 z
      refine e_aload_n (k := 62) (i := 0) rfl rfl 0 rfl ?_
      refine e_aload_n (k := 63) (i := 0) rfl rfl 0 rfl ?_
      refine e_iconst (k := 64) (v := (1 : Int32)) rfl (by decide) ?_
      refine e_bipush (k := 65) (v := (32 : Int32)) rfl (by decide) ?_
      refine e_iload_n (k := 66) (i := 1) rfl rfl 1 rfl ?_
      refine e_callVi (k := 67) (q := 0) (As := [.int (1 : Int32), .int (32 : Int32), .int y1]) (rest := [.ref (gR g 0)]) rfl (c_X12_numberOf (g := g) hg (n := n) h) m_X12_numberOf i_X12_numberOf l_X12_207 rfl ⟨_, rfl, rfl⟩ rfl rfl (Nat.le_of_ble_eq_true rfl) ⟨by decide, by decide, rfl, rfl⟩ (fun _ h => ⟨fun _ z => (by cases z), Or.inr ⟨rfl, h⟩⟩) (fun r3 u3 h => ?_)
      refine e_putI (k := 68) rfl fg_X12_195 rfl rfl ?_
      refine e_mlet h (fun u4 h => ?_)
      refine e_aload_n (k := 69) (i := 0) rfl rfl 0 rfl ?_
      refine e_bipush (k := 70) (v := (47 : Int32)) rfl (by decide) ?_
      refine e_callVv (k := 71) (q := 0) (As := [.int (47 : Int32)]) (rest := []) rfl (c_X12_must (g := g) hg (n := n) h) m_X12_must i_X12_must l_X12_211 rfl ⟨_, rfl, rfl⟩ rfl rfl (Nat.le_of_ble_eq_true rfl) ⟨by decide, by decide, rfl, rfl⟩ (fun _ h => ⟨fun _ z => (by cases z), Or.inr ⟨rfl, h⟩⟩) (fun u5 h => ?_)
      refine e_aload_n (k := 72) (i := 0) rfl rfl 0 rfl ?_
      refine e_getI (k := 73) rfl f_X12_138 rfl rfl ?_
      refine e_ilet h (fun y2 h => ?_)
      refine e_istore_n (k := 74) (i := 3) (lv' := [(0, .ref (gR g 0)), (1, .int y1), (2, .int r1), (3, .int y2)]) rfl rfl (by decide) [1, 2, 3, 0] rfl ?_
      refine e_aload_n (k := 75) (i := 0) rfl rfl 0 rfl ?_
      refine e_aload_n (k := 76) (i := 0) rfl rfl 0 rfl ?_
      refine e_iconst (k := 77) (v := (1 : Int32)) rfl (by decide) ?_
      refine e_bipush (k := 78) (v := (32 : Int32)) rfl (by decide) ?_
      refine e_iload_n (k := 79) (i := 3) rfl rfl 3 rfl ?_
      refine e_callVi (k := 80) (q := 0) (As := [.int (1 : Int32), .int (32 : Int32), .int y2]) (rest := [.ref (gR g 0)]) rfl (c_X12_numberOf (g := g) hg (n := n) h) m_X12_numberOf i_X12_numberOf l_X12_207 rfl ⟨_, rfl, rfl⟩ rfl rfl (Nat.le_of_ble_eq_true rfl) ⟨by decide, by decide, rfl, rfl⟩ (fun _ h => ⟨fun _ z => (by cases z), Or.inr ⟨rfl, h⟩⟩) (fun r4 u6 h => ?_)
      refine e_putI (k := 81) rfl fg_X12_198 rfl rfl ?_
      refine e_mlet h (fun u7 h => ?_)
      refine e_aload_n (k := 82) (i := 0) rfl rfl 0 rfl ?_
      refine e_getI (k := 83) rfl f_X12_198 rfl rfl ?_
      refine e_bipush (k := 84) (v := (32 : Int32)) rfl (by decide) ?_
      refine e_callSi (k := 85) (As := [.int (u7.1 0 51), .int (32 : Int32)]) (rest := []) rfl (c_X12_isPower (g := g) hg (n := n) h) m_X12_isPower st_X12_isPower l_X12_215 rfl rfl (Nat.le_of_ble_eq_true rfl) ⟨by decide, by decide, rfl, rfl⟩ (fun _ h => ⟨fun _ z => (by cases z), Or.inr ⟨rfl, h⟩⟩) (fun r5 u8 h => ?_)
      refine e_if_ne (k := 86) (tgt := 168) rfl (by decide) (fun z => ?_) (fun z => ?_)
      · have h := h.1 z
        refine e_sub (lv' := []) [] rfl ?_
        exact s_X12_readMeter_168 hg h
      · have h := h.2 z
        refine e_aload_n (k := 87) (i := 0) rfl rfl 0 rfl ?_
        refine e_iconst (k := 88) (v := (1 : Int32)) rfl (by decide) ?_
        refine e_iload_n (k := 89) (i := 3) rfl rfl 3 rfl ?_
        refine e_callVv (k := 90) (q := 0) (As := [.int (1 : Int32), .int y2]) (rest := []) rfl (c_X12_fail (g := g) hg (n := n) h) m_X12_fail i_X12_fail l_X12_148 rfl ⟨_, rfl, rfl⟩ rfl rfl (Nat.le_of_ble_eq_true rfl) ⟨by decide, by decide, rfl, rfl⟩ (fun _ h => ⟨fun _ z => (by cases z), Or.inr ⟨rfl, h⟩⟩) (fun u9 h => ?_)
        refine e_sub (lv' := []) [] rfl ?_
        exact s_X12_readMeter_168 hg h
    · have h := h.2 z
      refine e_aload_n (k := 49) (i := 0) rfl rfl 0 rfl ?_
      refine e_aload_n (k := 50) (i := 0) rfl rfl 0 rfl ?_
      refine e_getI (k := 51) rfl f_X12_138 rfl rfl ?_
      refine e_iconst (k := 52) (v := (4 : Int32)) rfl (by decide) ?_
      refine e_iadd (k := 53) rfl ?_
      refine e_putI (k := 54) rfl fg_X12_138 rfl rfl ?_
      refine e_mlet h (fun u10 h => ?_)
      refine e_aload_n (k := 55) (i := 0) rfl rfl 0 rfl ?_
      refine e_iconst (k := 56) (v := (0 : Int32)) rfl (by decide) ?_
      refine e_putI (k := 57) rfl fg_X12_195 rfl rfl ?_
      refine e_mlet h (fun u11 h => ?_)
      refine e_aload_n (k := 58) (i := 0) rfl rfl 0 rfl ?_
      refine e_iconst (k := 59) (v := (0 : Int32)) rfl (by decide) ?_
      refine e_putI (k := 60) rfl fg_X12_198 rfl rfl ?_
      refine e_mlet h (fun u12 h => ?_)
      refine e_goto (k := 61) (tgt := 168) rfl (by decide) ?_
      refine e_sub (lv' := []) [] rfl ?_
      exact s_X12_readMeter_168 hg h
  · have h := h.2 z
    refine e_aload_n (k := 9) (i := 0) rfl rfl 0 rfl ?_
    refine e_dup (k := 10) rfl rfl ?_
    refine e_getI (k := 11) rfl f_X12_138 rfl rfl ?_
    refine e_iconst (k := 12) (v := (1 : Int32)) rfl (by decide) ?_
    refine e_iadd (k := 13) rfl ?_
    refine e_putI (k := 14) rfl fg_X12_138 rfl rfl ?_
    refine e_mlet h (fun u13 h => ?_)
    refine e_aload_n (k := 15) (i := 0) rfl rfl 0 rfl ?_
    refine e_bipush (k := 16) (v := (124 : Int32)) rfl (by decide) ?_
    refine e_callVi (k := 17) (q := 0) (As := [.int (124 : Int32)]) (rest := []) rfl (c_X12_is (g := g) hg (n := n) h) m_X12_is i_X12_is l_X12_166 rfl ⟨_, rfl, rfl⟩ rfl rfl (Nat.le_of_ble_eq_true rfl) ⟨by decide, by decide, rfl, rfl⟩ (fun _ h => ⟨fun _ z => (by cases z), Or.inr ⟨rfl, h⟩⟩) (fun r6 u14 h => ?_)
    refine e_istore_n (k := 18) (i := 3) (lv' := [(0, .ref (gR g 0)), (1, .int y1), (2, .int r1), (3, .int r6)]) rfl rfl (by decide) [1, 2, 3, 0] rfl ?_
    refine e_aload_n (k := 19) (i := 0) rfl rfl 0 rfl ?_
    refine e_iload_n (k := 20) (i := 3) rfl rfl 3 rfl ?_
    refine e_if_eq (k := 21) (tgt := 47) rfl (by decide) (fun z => ?_) (fun z => ?_)
    · have h := h.1 z
      refine e_aload_n (k := 27) (i := 0) rfl rfl 0 rfl ?_
      refine e_getI (k := 28) rfl f_X12_138 rfl rfl ?_
      refine e_sub (lv' := [(0, .ref (gR g 0)), (3, .int r6)]) [0, 3] rfl ?_
      exact s_X12_readMeter_51 hg h
    · have h := h.2 z
      refine e_aload_n (k := 22) (i := 0) rfl rfl 0 rfl ?_
      refine e_getI (k := 23) rfl f_X12_138 rfl rfl ?_
      refine e_iconst (k := 24) (v := (1 : Int32)) rfl (by decide) ?_
      refine e_iadd (k := 25) rfl ?_
      refine e_goto (k := 26) (tgt := 51) rfl (by decide) ?_
      refine e_sub (lv' := [(0, .ref (gR g 0)), (3, .int r6)]) [0, 3] rfl ?_
      exact s_X12_readMeter_51 hg h
