/-! methods (by program) -/
def il_X4_readLength : List (Nat × Instr × Nat) := [(0, .aload_n 0, 1), (1, .iconst 1, 1), (2, .putfield 265, 3), (5, .aload_n 0, 1), (6, .iconst 1, 1), (7, .putfield 268, 3), (10, .aload_n 0, 1), (11, .getfield 9, 3), (14, .invokevirtual 310, 3), (17, .istore_n 1, 1), (18, .iload_n 1, 1), (19, .ifCond .eq 17, 3), (22, .aload_n 0, 1), (23, .aload_n 0, 1), (24, .getfield 9, 3), (27, .bipush 64, 2), (29, .iconst 0, 1), (30, .invokevirtual 133, 3), (33, .putfield 265, 3), (36, .aload_n 0, 1), (37, .getfield 9, 3), (40, .getfield 78, 3), (43, .ifCond .ne 16, 3), (46, .aload_n 0, 1), (47, .getfield 9, 3), (50, .iconst 0, 1), (51, .invokevirtual 126, 3), (54, .bipush 47, 2), (56, .if_icmp .eq 4, 3), (59, .return_, 1), (60, .aload_n 0, 1), (61, .getfield 9, 3), (64, .dup, 1), (65, .getfield 123, 3), (68, .iconst 1, 1), (69, .iadd, 1), (70, .putfield 123, 3), (73, .aload_n 0, 1), (74, .getfield 9, 3), (77, .invokevirtual 310, 3), (80, .ifCond .eq 18, 3), (83, .aload_n 0, 1), (84, .aload_n 0, 1), (85, .getfield 9, 3), (88, .bipush 64, 2), (90, .iconst 1, 1), (91, .invokevirtual 133, 3), (94, .putfield 268, 3), (97, .return_, 1), (98, .aload_n 0, 1), (99, .iconst 2, 1), (100, .putfield 268, 3), (103, .iload_n 1, 1), (104, .ifCond .ne 51, 3), (107, .aload_n 0, 1), (108, .getfield 268, 3), (111, .bipush 64, 2), (113, .if_icmp .ge 42, 3), (116, .aload_n 0, 1), (117, .getfield 9, 3), (120, .iconst 0, 1), (121, .invokevirtual 126, 3), (124, .bipush 47, 2), (126, .if_icmp .ne 29, 3), (129, .aload_n 0, 1), (130, .getfield 9, 3), (133, .dup, 1), (134, .getfield 123, 3), (137, .iconst 1, 1), (138, .iadd, 1), (139, .putfield 123, 3), (142, .aload_n 0, 1), (143, .aload_n 0, 1), (144, .getfield 268, 3), (147, .iconst 2, 1), (148, .imul, 1), (149, .putfield 268, 3), (152, .goto (-49), 3), (155, .iload_n 1, 1), (156, .ifCond .ne 31, 3), (159, .aload_n 0, 1), (160, .getfield 9, 3), (163, .iconst 0, 1), (164, .invokevirtual 126, 3), (167, .bipush 47, 2), (169, .if_icmp .ne 18, 3), (172, .aload_n 0, 1), (173, .getfield 9, 3), (176, .iconst 1, 1), (177, .aload_n 0, 1), (178, .getfield 9, 3), (181, .getfield 123, 3), (184, .invokevirtual 93, 3), (187, .return_, 1)]
set_option maxRecDepth 20000 in
theorem il_X4_readLength_ok : ∀ x ∈ il_X4_readLength, decode cX4_readLength x.1 = .ok x.2 := by decide +kernel
abbrev me_X4_readLength : Me := (RX4, il_X4_readLength, 2, none, xRoom 3, [])
def w_X4_readLength_187 (n : Nat) (u0 : Mm) (Q : Mm → Prop) : Prop :=
  Q u0
def w_X4_readLength_155 (n : Nat) (x1 : Int32) (u0 : Mm) (Q : Mm → Prop) : Prop :=
  (¬ x1 = 0 → w_X4_readLength_187 n u0 Q) ∧
  (x1 = 0 → w_X5_peek n (0 : Int32) u0 (fun r1 u1 =>
  (¬ r1 = (47 : Int32) → w_X4_readLength_187 n u1 Q) ∧
  (r1 = (47 : Int32) → w_X5_fail n (1 : Int32) (u1.1 33 2) u1 (fun u2 =>
  w_X4_readLength_187 n u2 Q))))
def w_X4_readLength_103 (n : Nat) (Q : Mm → Prop) : Nat → Int32 → Mm → Prop
  | 0, _, _ => False
  | k + 1, x1, u0 =>
  (¬ x1 = 0 → w_X4_readLength_155 n x1 u0 Q) ∧
  (x1 = 0 → ((64 : Int32) ≤ (u0.1 38 8) → w_X4_readLength_155 n x1 u0 Q) ∧
  (¬ (64 : Int32) ≤ (u0.1 38 8) → w_X5_peek n (0 : Int32) u0 (fun r1 u1 =>
  (¬ r1 = (47 : Int32) → w_X4_readLength_155 n x1 u1 Q) ∧
  (r1 = (47 : Int32) → mlet (setI u1 33 2 ((u1.1 33 2) + (1 : Int32))) fun u2 =>
  mlet (setI u2 38 8 ((u2.1 38 8) * (2 : Int32))) fun u3 =>
  (w_X4_readLength_103 n Q k) x1 u3))))
def w_X4_readLength_59 (n : Nat) (u0 : Mm) (Q : Mm → Prop) : Prop :=
  Q u0
def w_X4_readLength_36 (n : Nat) (x1 : Int32) (u0 : Mm) (Q : Mm → Prop) : Prop :=
  (¬ (u0.1 33 6) = 0 → w_X4_readLength_59 n u0 Q) ∧
  ((u0.1 33 6) = 0 → w_X5_peek n (0 : Int32) u0 (fun r1 u1 =>
  (r1 = (47 : Int32) → mlet (setI u1 33 2 ((u1.1 33 2) + (1 : Int32))) fun u2 =>
  w_X5_digitHere n u2 (fun r2 u3 =>
  (r2 = 0 → mlet (setI u3 38 8 (2 : Int32)) fun u4 =>
  (w_X4_readLength_103 n Q n) x1 u4) ∧
  (¬ r2 = 0 → w_X5_number n (64 : Int32) (1 : Int32) u3 (fun r3 u5 =>
  mlet (setI u5 38 8 r3) fun u6 =>
  Q u6)))) ∧
  (¬ r1 = (47 : Int32) → w_X4_readLength_59 n u1 Q)))
def w_X4_readLength (n : Nat) (u0 : Mm) (Q : Mm → Prop) : Prop :=
  mlet (setI u0 38 7 (1 : Int32)) fun u1 =>
  mlet (setI u1 38 8 (1 : Int32)) fun u2 =>
  w_X5_digitHere n u2 (fun r1 u3 =>
  (r1 = 0 → w_X4_readLength_36 n r1 u3 Q) ∧
  (¬ r1 = 0 → w_X5_number n (64 : Int32) (0 : Int32) u3 (fun r2 u4 =>
  mlet (setI u4 38 7 r2) fun u5 =>
  w_X4_readLength_36 n r1 u5 Q)))
set_option maxRecDepth 20000 in
theorem s_X4_readLength_187 {g : Gb} (hg : xInj g) {n : Nat} {Q : Mm → Prop} {u0 : Mm} (h : w_X4_readLength_187 n  u0 Q) : xE g me_X4_readLength (pV g Q noT) 187 [] [] u0 := by
  unfold w_X4_readLength_187 at h
  exact e_vret (k := 93) rfl rfl (Or.inl ⟨rfl, h⟩)
set_option maxRecDepth 20000 in
theorem s_X4_readLength_155 {g : Gb} (hg : xInj g) {n : Nat} {Q : Mm → Prop} {x1 : Int32} {u0 : Mm} (h : w_X4_readLength_155 n x1 u0 Q) : xE g me_X4_readLength (pV g Q noT) 155 [(0, .ref (gR g 38)), (1, .int x1)] [] u0 := by
  unfold w_X4_readLength_155 at h
  refine e_iload_n (k := 78) (i := 1) rfl rfl 1 rfl ?_
  refine e_if_ne (k := 79) (tgt := 187) rfl (by decide) (fun z => ?_) (fun z => ?_)
  · have h := h.1 z
    refine e_sub (lv' := []) [] rfl ?_
    exact s_X4_readLength_187 hg h
  · have h := h.2 z
    refine e_aload_n (k := 80) (i := 0) rfl rfl 0 rfl ?_
    refine e_getC (k := 81) rfl f_X4_9 rfl rfl ?_
    refine e_iconst (k := 82) (v := (0 : Int32)) rfl (by decide) ?_
    refine e_callVi (k := 83) (q := 33) (As := [.int (0 : Int32)]) (rest := []) rfl (c_X5_peek (g := g) hg (n := n) h) m_X5_peek i_X5_peek l_X4_126 rfl ⟨_, rfl, rfl⟩ rfl rfl (Nat.le_of_ble_eq_true rfl) ⟨by decide, by decide, rfl, rfl⟩ (fun _ h => h.elim) (fun r1 u1 h => ?_)
    refine e_bipush (k := 84) (v := (47 : Int32)) rfl (by decide) ?_
    refine e_icmp_ne (k := 85) (tgt := 187) rfl (by decide) (fun z => ?_) (fun z => ?_)
    · have h := h.1 z
      refine e_sub (lv' := []) [] rfl ?_
      exact s_X4_readLength_187 hg h
    · have h := h.2 z
      refine e_aload_n (k := 86) (i := 0) rfl rfl 0 rfl ?_
      refine e_getC (k := 87) rfl f_X4_9 rfl rfl ?_
      refine e_iconst (k := 88) (v := (1 : Int32)) rfl (by decide) ?_
      refine e_aload_n (k := 89) (i := 0) rfl rfl 0 rfl ?_
      refine e_getC (k := 90) rfl f_X4_9 rfl rfl ?_
      refine e_getI (k := 91) rfl f_X4_123 rfl rfl ?_
      refine e_callVv (k := 92) (q := 33) (As := [.int (1 : Int32), .int (u1.1 33 2)]) (rest := []) rfl (c_X5_fail (g := g) hg (n := n) h) m_X5_fail i_X5_fail l_X4_93 rfl ⟨_, rfl, rfl⟩ rfl rfl (Nat.le_of_ble_eq_true rfl) ⟨by decide, by decide, rfl, rfl⟩ (fun _ h => h.elim) (fun u2 h => ?_)
      refine e_sub (lv' := []) [] rfl ?_
      exact s_X4_readLength_187 hg h
set_option maxRecDepth 20000 in
theorem s_X4_readLength_103 {g : Gb} (hg : xInj g) {n : Nat} {Q : Mm → Prop} : ∀ (k : Nat) (x1 : Int32) (u0 : Mm), w_X4_readLength_103 n Q k x1 u0 → xE g me_X4_readLength (pV g Q noT) 103 [(0, .ref (gR g 38)), (1, .int x1)] [] u0 := by
  intro k
  induction k with
  | zero => intro x1 u0 h; exact h.elim
  | succ k ih =>
    intro x1 u0 h
    unfold w_X4_readLength_103 at h
    refine e_iload_n (k := 52) (i := 1) rfl rfl 1 rfl ?_
    refine e_if_ne (k := 53) (tgt := 155) rfl (by decide) (fun z => ?_) (fun z => ?_)
    · have h := h.1 z
      exact s_X4_readLength_155 hg h
    · have h := h.2 z
      refine e_aload_n (k := 54) (i := 0) rfl rfl 0 rfl ?_
      refine e_getI (k := 55) rfl f_X4_268 rfl rfl ?_
      refine e_bipush (k := 56) (v := (64 : Int32)) rfl (by decide) ?_
      refine e_icmp_ge (k := 57) (tgt := 155) rfl (by decide) (fun z => ?_) (fun z => ?_)
      · have h := h.1 z
        exact s_X4_readLength_155 hg h
      · have h := h.2 z
        refine e_aload_n (k := 58) (i := 0) rfl rfl 0 rfl ?_
        refine e_getC (k := 59) rfl f_X4_9 rfl rfl ?_
        refine e_iconst (k := 60) (v := (0 : Int32)) rfl (by decide) ?_
        refine e_callVi (k := 61) (q := 33) (As := [.int (0 : Int32)]) (rest := []) rfl (c_X5_peek (g := g) hg (n := n) h) m_X5_peek i_X5_peek l_X4_126 rfl ⟨_, rfl, rfl⟩ rfl rfl (Nat.le_of_ble_eq_true rfl) ⟨by decide, by decide, rfl, rfl⟩ (fun _ h => h.elim) (fun r1 u1 h => ?_)
        refine e_bipush (k := 62) (v := (47 : Int32)) rfl (by decide) ?_
        refine e_icmp_ne (k := 63) (tgt := 155) rfl (by decide) (fun z => ?_) (fun z => ?_)
        · have h := h.1 z
          exact s_X4_readLength_155 hg h
        · have h := h.2 z
          refine e_aload_n (k := 64) (i := 0) rfl rfl 0 rfl ?_
          refine e_getC (k := 65) rfl f_X4_9 rfl rfl ?_
          refine e_dup (k := 66) rfl rfl ?_
          refine e_getI (k := 67) rfl f_X4_123 rfl rfl ?_
          refine e_iconst (k := 68) (v := (1 : Int32)) rfl (by decide) ?_
          refine e_iadd (k := 69) rfl ?_
          refine e_putI (k := 70) rfl fg_X4_123 rfl rfl ?_
          refine e_mlet h (fun u2 h => ?_)
          refine e_aload_n (k := 71) (i := 0) rfl rfl 0 rfl ?_
          refine e_aload_n (k := 72) (i := 0) rfl rfl 0 rfl ?_
          refine e_getI (k := 73) rfl f_X4_268 rfl rfl ?_
          refine e_iconst (k := 74) (v := (2 : Int32)) rfl (by decide) ?_
          refine e_imul (k := 75) rfl ?_
          refine e_putI (k := 76) rfl fg_X4_268 rfl rfl ?_
          refine e_mlet h (fun u3 h => ?_)
          refine e_goto (k := 77) (tgt := 103) rfl (by decide) ?_
          exact ih x1 u3 h
set_option maxRecDepth 20000 in
theorem s_X4_readLength_59 {g : Gb} (hg : xInj g) {n : Nat} {Q : Mm → Prop} {u0 : Mm} (h : w_X4_readLength_59 n  u0 Q) : xE g me_X4_readLength (pV g Q noT) 59 [] [] u0 := by
  unfold w_X4_readLength_59 at h
  exact e_vret (k := 29) rfl rfl (Or.inl ⟨rfl, h⟩)
set_option maxRecDepth 20000 in
theorem s_X4_readLength_36 {g : Gb} (hg : xInj g) {n : Nat} {Q : Mm → Prop} {x1 : Int32} {u0 : Mm} (h : w_X4_readLength_36 n x1 u0 Q) : xE g me_X4_readLength (pV g Q noT) 36 [(0, .ref (gR g 38)), (1, .int x1)] [] u0 := by
  unfold w_X4_readLength_36 at h
  refine e_aload_n (k := 19) (i := 0) rfl rfl 0 rfl ?_
  refine e_getC (k := 20) rfl f_X4_9 rfl rfl ?_
  refine e_getI (k := 21) rfl f_X4_78 rfl rfl ?_
  refine e_if_ne (k := 22) (tgt := 59) rfl (by decide) (fun z => ?_) (fun z => ?_)
  · have h := h.1 z
    refine e_sub (lv' := []) [] rfl ?_
    exact s_X4_readLength_59 hg h
  · have h := h.2 z
    refine e_aload_n (k := 23) (i := 0) rfl rfl 0 rfl ?_
    refine e_getC (k := 24) rfl f_X4_9 rfl rfl ?_
    refine e_iconst (k := 25) (v := (0 : Int32)) rfl (by decide) ?_
    refine e_callVi (k := 26) (q := 33) (As := [.int (0 : Int32)]) (rest := []) rfl (c_X5_peek (g := g) hg (n := n) h) m_X5_peek i_X5_peek l_X4_126 rfl ⟨_, rfl, rfl⟩ rfl rfl (Nat.le_of_ble_eq_true rfl) ⟨by decide, by decide, rfl, rfl⟩ (fun _ h => h.elim) (fun r1 u1 h => ?_)
    refine e_bipush (k := 27) (v := (47 : Int32)) rfl (by decide) ?_
    refine e_icmp_eq (k := 28) (tgt := 60) rfl (by decide) (fun z => ?_) (fun z => ?_)
    · have h := h.1 z
      refine e_aload_n (k := 30) (i := 0) rfl rfl 0 rfl ?_
      refine e_getC (k := 31) rfl f_X4_9 rfl rfl ?_
      refine e_dup (k := 32) rfl rfl ?_
      refine e_getI (k := 33) rfl f_X4_123 rfl rfl ?_
      refine e_iconst (k := 34) (v := (1 : Int32)) rfl (by decide) ?_
      refine e_iadd (k := 35) rfl ?_
      refine e_putI (k := 36) rfl fg_X4_123 rfl rfl ?_
      refine e_mlet h (fun u2 h => ?_)
      refine e_aload_n (k := 37) (i := 0) rfl rfl 0 rfl ?_
      refine e_getC (k := 38) rfl f_X4_9 rfl rfl ?_
      refine e_callVi (k := 39) (q := 33) (As := []) (rest := []) rfl (c_X5_digitHere (g := g) hg (n := n) h) m_X5_digitHere i_X5_digitHere l_X4_310 rfl ⟨_, rfl, rfl⟩ rfl rfl (Nat.le_of_ble_eq_true rfl) ⟨by decide, by decide, rfl, rfl⟩ (fun _ h => h.elim) (fun r2 u3 h => ?_)
      refine e_if_eq (k := 40) (tgt := 98) rfl (by decide) (fun z => ?_) (fun z => ?_)
      · have h := h.1 z
        refine e_aload_n (k := 49) (i := 0) rfl rfl 0 rfl ?_
        refine e_iconst (k := 50) (v := (2 : Int32)) rfl (by decide) ?_
        refine e_putI (k := 51) rfl fg_X4_268 rfl rfl ?_
        refine e_mlet h (fun u4 h => ?_)
        exact s_X4_readLength_103 hg n x1 u4 h
      · have h := h.2 z
        refine e_aload_n (k := 41) (i := 0) rfl rfl 0 rfl ?_
        refine e_aload_n (k := 42) (i := 0) rfl rfl 0 rfl ?_
        refine e_getC (k := 43) rfl f_X4_9 rfl rfl ?_
        refine e_bipush (k := 44) (v := (64 : Int32)) rfl (by decide) ?_
        refine e_iconst (k := 45) (v := (1 : Int32)) rfl (by decide) ?_
        refine e_callVi (k := 46) (q := 33) (As := [.int (64 : Int32), .int (1 : Int32)]) (rest := [.ref (gR g 38)]) rfl (c_X5_number (g := g) hg (n := n) h) m_X5_number i_X5_number l_X4_133 rfl ⟨_, rfl, rfl⟩ rfl rfl (Nat.le_of_ble_eq_true rfl) ⟨by decide, by decide, rfl, rfl⟩ (fun _ h => h.elim) (fun r3 u5 h => ?_)
        refine e_putI (k := 47) rfl fg_X4_268 rfl rfl ?_
        refine e_mlet h (fun u6 h => ?_)
        exact e_vret (k := 48) rfl rfl (Or.inl ⟨rfl, h⟩)
    · have h := h.2 z
      refine e_sub (lv' := []) [] rfl ?_
      exact s_X4_readLength_59 hg h
set_option maxRecDepth 20000 in
theorem c_X4_readLength {g : Gb} (hg : xInj g) {n : Nat} {u0 : Mm} {Q : Mm → Prop} (h : w_X4_readLength n u0 Q) : xMet (gL g) yX4_readLength (xws yX4_readLength cX4_readLength 2 none) (xRoom 3) (xPc g [.ref (gR g 38)] u0) (xQ g (pV g Q noT)) (xA g) := by
  refine xbody (il := il_X4_readLength) hg il_X4_readLength_ok m_X4_readLength (Nat.le_of_ble_eq_true rfl) ?_
  show xE g me_X4_readLength (pV g Q noT) 0 [(0, .ref (gR g 38))] [] u0
  unfold w_X4_readLength at h
  refine e_aload_n (k := 0) (i := 0) rfl rfl 0 rfl ?_
  refine e_iconst (k := 1) (v := (1 : Int32)) rfl (by decide) ?_
  refine e_putI (k := 2) rfl fg_X4_265 rfl rfl ?_
  refine e_mlet h (fun u1 h => ?_)
  refine e_aload_n (k := 3) (i := 0) rfl rfl 0 rfl ?_
  refine e_iconst (k := 4) (v := (1 : Int32)) rfl (by decide) ?_
  refine e_putI (k := 5) rfl fg_X4_268 rfl rfl ?_
  refine e_mlet h (fun u2 h => ?_)
  refine e_aload_n (k := 6) (i := 0) rfl rfl 0 rfl ?_
  refine e_getC (k := 7) rfl f_X4_9 rfl rfl ?_
  refine e_callVi (k := 8) (q := 33) (As := []) (rest := []) rfl (c_X5_digitHere (g := g) hg (n := n) h) m_X5_digitHere i_X5_digitHere l_X4_310 rfl ⟨_, rfl, rfl⟩ rfl rfl (Nat.le_of_ble_eq_true rfl) ⟨by decide, by decide, rfl, rfl⟩ (fun _ h => h.elim) (fun r1 u3 h => ?_)
  refine e_istore_n (k := 9) (i := 1) (lv' := [(0, .ref (gR g 38)), (1, .int r1)]) rfl rfl (by decide) [1, 0] rfl ?_
  refine e_iload_n (k := 10) (i := 1) rfl rfl 1 rfl ?_
  refine e_if_eq (k := 11) (tgt := 36) rfl (by decide) (fun z => ?_) (fun z => ?_)
  · have h := h.1 z
    exact s_X4_readLength_36 hg h
  · have h := h.2 z
    refine e_aload_n (k := 12) (i := 0) rfl rfl 0 rfl ?_
    refine e_aload_n (k := 13) (i := 0) rfl rfl 0 rfl ?_
    refine e_getC (k := 14) rfl f_X4_9 rfl rfl ?_
    refine e_bipush (k := 15) (v := (64 : Int32)) rfl (by decide) ?_
    refine e_iconst (k := 16) (v := (0 : Int32)) rfl (by decide) ?_
    refine e_callVi (k := 17) (q := 33) (As := [.int (64 : Int32), .int (0 : Int32)]) (rest := [.ref (gR g 38)]) rfl (c_X5_number (g := g) hg (n := n) h) m_X5_number i_X5_number l_X4_133 rfl ⟨_, rfl, rfl⟩ rfl rfl (Nat.le_of_ble_eq_true rfl) ⟨by decide, by decide, rfl, rfl⟩ (fun _ h => h.elim) (fun r2 u4 h => ?_)
    refine e_putI (k := 18) rfl fg_X4_265 rfl rfl ?_
    refine e_mlet h (fun u5 h => ?_)
    exact s_X4_readLength_36 hg h
def il_X4_signWithout : List (Nat × Instr × Nat) := [(0, .iload_n 1, 1), (1, .ifCond .ne 88, 3), (4, .aload_n 0, 1), (5, .getfield 48, 3), (8, .getfield 292, 3), (11, .ifCond .eq 78, 3), (14, .aload_n 0, 1), (15, .getfield 48, 3), (18, .getfield 295, 3), (21, .istore 4, 2), (23, .iload 4, 2), (25, .aload_n 0, 1), (26, .getfield 48, 3), (29, .getfield 295, 3), (32, .aload_n 0, 1), (33, .getfield 48, 3), (36, .getfield 298, 3), (39, .iadd, 1), (40, .if_icmp .ge 49, 3), (43, .aload_n 0, 1), (44, .getfield 29, 3), (47, .iload 4, 2), (49, .iconst 4, 1), (50, .invokevirtual 301, 3), (53, .iload_n 2, 1), (54, .if_icmp .ne 29, 3), (57, .aload_n 0, 1), (58, .getfield 29, 3), (61, .iload 4, 2), (63, .iconst 5, 1), (64, .invokevirtual 301, 3), (67, .iload_n 3, 1), (68, .if_icmp .ne 15, 3), (71, .aload_n 0, 1), (72, .getfield 29, 3), (75, .iload 4, 2), (77, .bipush 6, 2), (79, .invokevirtual 301, 3), (82, .ireturn, 1), (83, .iinc 4 1, 3), (86, .goto (-63), 3), (89, .aload_n 0, 1), (90, .getfield 48, 3), (93, .aload_n 0, 1), (94, .getfield 19, 3), (97, .getfield 283, 3), (100, .iload_n 2, 1), (101, .iload_n 3, 1), (102, .invokevirtual 304, 3), (105, .ireturn, 1)]
set_option maxRecDepth 20000 in
theorem il_X4_signWithout_ok : ∀ x ∈ il_X4_signWithout, decode cX4_signWithout x.1 = .ok x.2 := by decide +kernel
abbrev me_X4_signWithout : Me := (RX4, il_X4_signWithout, 5, (some .int), xRoom 3, [])
def w_X4_signWithout_89 (n : Nat) (x2 : Int32) (x3 : Int32) (u0 : Mm) (Q : Int32 → Mm → Prop) : Prop :=
  w_X8_signOf n (u0.2.2 2) (u0.1 35 0) x2 x3 u0 (fun r1 u1 =>
  Q r1 u1)
def w_X4_signWithout_83 (n : Nat) (L23 : Int32 → Int32 → Int32 → Mm → Prop) (x2 : Int32) (x3 : Int32) (x4 : Int32) (u0 : Mm) (Q : Int32 → Mm → Prop) : Prop :=
  L23 x2 x3 (x4 + (1 : Int32)) u0
def w_X4_signWithout_23 (n : Nat) (Q : Int32 → Mm → Prop) : Nat → Int32 → Int32 → Int32 → Mm → Prop
  | 0, _, _, _, _ => False
  | k + 1, x2, x3, x4, u0 =>
  (((u0.1 (u0.2.2 2) 12) + (u0.1 (u0.2.2 2) 13)) ≤ x4 → w_X4_signWithout_89 n x2 x3 u0 Q) ∧
  (¬ ((u0.1 (u0.2.2 2) 12) + (u0.1 (u0.2.2 2) 13)) ≤ x4 → w_X6_cell n x4 (4 : Int32) u0 (fun r1 u1 =>
  (¬ r1 = x2 → w_X4_signWithout_83 n (w_X4_signWithout_23 n Q k) x2 x3 x4 u1 Q) ∧
  (r1 = x2 → w_X6_cell n x4 (5 : Int32) u1 (fun r2 u2 =>
  (¬ r2 = x3 → w_X4_signWithout_83 n (w_X4_signWithout_23 n Q k) x2 x3 x4 u2 Q) ∧
  (r2 = x3 → w_X6_cell n x4 (6 : Int32) u2 (fun r3 u3 =>
  Q r3 u3))))))
def w_X4_signWithout (n : Nat) (a0 : Int32) (a1 : Int32) (a2 : Int32) (u0 : Mm) (Q : Int32 → Mm → Prop) : Prop :=
  (¬ a0 = 0 → w_X4_signWithout_89 n a1 a2 u0 Q) ∧
  (a0 = 0 → ((u0.1 (u0.2.2 2) 11) = 0 → w_X4_signWithout_89 n a1 a2 u0 Q) ∧
  (¬ (u0.1 (u0.2.2 2) 11) = 0 → ilet (u0.1 (u0.2.2 2) 12) fun y1 =>
  (w_X4_signWithout_23 n Q n) a1 a2 y1 u0))
set_option maxRecDepth 20000 in
theorem s_X4_signWithout_89 {g : Gb} (hg : xInj g) {n : Nat} {Q : Int32 → Mm → Prop} {x2 : Int32} {x3 : Int32} {u0 : Mm} (h : w_X4_signWithout_89 n x2 x3 u0 Q) : xE g me_X4_signWithout (pI g Q noT) 89 [(0, .ref (gR g 38)), (2, .int x2), (3, .int x3)] [] u0 := by
  unfold w_X4_signWithout_89 at h
  refine e_aload_n (k := 41) (i := 0) rfl rfl 0 rfl ?_
  refine e_getP (k := 42) rfl f_X4_48 rfl rfl (fun ty1 => ?_)
  refine e_aload_n (k := 43) (i := 0) rfl rfl 0 rfl ?_
  refine e_getC (k := 44) rfl f_X4_19 rfl rfl ?_
  refine e_getI (k := 45) rfl f_X4_283 rfl rfl ?_
  refine e_iload_n (k := 46) (i := 2) rfl rfl 1 rfl ?_
  refine e_iload_n (k := 47) (i := 3) rfl rfl 2 rfl ?_
  refine e_callVi (k := 48) (q := (u0.2.2 2)) (As := [.int (u0.1 35 0), .int x2, .int x3]) (rest := []) rfl (c_X8_signOf (g := g) hg (n := n) ty1.2.2 h) m_X8_signOf i_X8_signOf l_X4_304 ty1.2.2 ⟨_, rfl, rfl⟩ rfl rfl (Nat.le_of_ble_eq_true rfl) ⟨by decide, by decide, rfl, rfl⟩ (fun _ h => h.elim) (fun r1 u1 h => ?_)
  exact e_iret (k := 49) rfl rfl (Or.inl ⟨_, rfl, h⟩)
set_option maxRecDepth 20000 in
theorem s_X4_signWithout_83 {g : Gb} (hg : xInj g) {n : Nat} {Q : Int32 → Mm → Prop} {L23 : Int32 → Int32 → Int32 → Mm → Prop} (hL23 : ∀ (x2 : Int32) (x3 : Int32) (x4 : Int32) (u0 : Mm), L23 x2 x3 x4 u0 → xE g me_X4_signWithout (pI g Q noT) 23 [(0, .ref (gR g 38)), (2, .int x2), (3, .int x3), (4, .int x4)] [] u0) {x2 : Int32} {x3 : Int32} {x4 : Int32} {u0 : Mm} (h : w_X4_signWithout_83 n L23 x2 x3 x4 u0 Q) : xE g me_X4_signWithout (pI g Q noT) 83 [(0, .ref (gR g 38)), (2, .int x2), (3, .int x3), (4, .int x4)] [] u0 := by
  unfold w_X4_signWithout_83 at h
  refine e_iinc (k := 39) (i := 4) (j := 3) (v := (x4 + (1 : Int32))) (lv' := [(0, .ref (gR g 38)), (2, .int x2), (3, .int x3), (4, .int (x4 + (1 : Int32)))]) rfl rfl rfl (by decide) [1, 2, 3, 0] rfl ?_
  refine e_goto (k := 40) (tgt := 23) rfl (by decide) ?_
  exact hL23 x2 x3 (x4 + (1 : Int32)) u0 h
set_option maxRecDepth 20000 in
theorem s_X4_signWithout_23 {g : Gb} (hg : xInj g) {n : Nat} {Q : Int32 → Mm → Prop} : ∀ (k : Nat) (x2 : Int32) (x3 : Int32) (x4 : Int32) (u0 : Mm), w_X4_signWithout_23 n Q k x2 x3 x4 u0 → xE g me_X4_signWithout (pI g Q noT) 23 [(0, .ref (gR g 38)), (2, .int x2), (3, .int x3), (4, .int x4)] [] u0 := by
  intro k
  induction k with
  | zero => intro x2 x3 x4 u0 h; exact h.elim
  | succ k ih =>
    intro x2 x3 x4 u0 h
    unfold w_X4_signWithout_23 at h
    refine e_iload (k := 10) (i := 4) rfl 3 rfl ?_
    refine e_aload_n (k := 11) (i := 0) rfl rfl 0 rfl ?_
    refine e_getP (k := 12) rfl f_X4_48 rfl rfl (fun ty1 => ?_)
    refine e_getI (k := 13) rfl f_X4_295 ty1.2.2 rfl ?_
    refine e_aload_n (k := 14) (i := 0) rfl rfl 0 rfl ?_
    refine e_getP (k := 15) rfl f_X4_48 rfl rfl (fun ty2 => ?_)
    refine e_getI (k := 16) rfl f_X4_298 ty2.2.2 rfl ?_
    refine e_iadd (k := 17) rfl ?_
    refine e_icmp_ge (k := 18) (tgt := 89) rfl (by decide) (fun z => ?_) (fun z => ?_)
    · have h := h.1 z
      refine e_sub (lv' := [(0, .ref (gR g 38)), (2, .int x2), (3, .int x3)]) [0, 1, 2] rfl ?_
      exact s_X4_signWithout_89 hg h
    · have h := h.2 z
      refine e_aload_n (k := 19) (i := 0) rfl rfl 0 rfl ?_
      refine e_getC (k := 20) rfl f_X4_29 rfl rfl ?_
      refine e_iload (k := 21) (i := 4) rfl 3 rfl ?_
      refine e_iconst (k := 22) (v := (4 : Int32)) rfl (by decide) ?_
      refine e_callVi (k := 23) (q := 36) (As := [.int x4, .int (4 : Int32)]) (rest := []) rfl (c_X6_cell (g := g) hg (n := n) h) m_X6_cell i_X6_cell l_X4_301 rfl ⟨_, rfl, rfl⟩ rfl rfl (Nat.le_of_ble_eq_true rfl) ⟨by decide, by decide, rfl, rfl⟩ (fun _ h => h.elim) (fun r1 u1 h => ?_)
      refine e_iload_n (k := 24) (i := 2) rfl rfl 1 rfl ?_
      refine e_icmp_ne (k := 25) (tgt := 83) rfl (by decide) (fun z => ?_) (fun z => ?_)
      · have h := h.1 z
        exact s_X4_signWithout_83 hg ih h
      · have h := h.2 z
        refine e_aload_n (k := 26) (i := 0) rfl rfl 0 rfl ?_
        refine e_getC (k := 27) rfl f_X4_29 rfl rfl ?_
        refine e_iload (k := 28) (i := 4) rfl 3 rfl ?_
        refine e_iconst (k := 29) (v := (5 : Int32)) rfl (by decide) ?_
        refine e_callVi (k := 30) (q := 36) (As := [.int x4, .int (5 : Int32)]) (rest := []) rfl (c_X6_cell (g := g) hg (n := n) h) m_X6_cell i_X6_cell l_X4_301 rfl ⟨_, rfl, rfl⟩ rfl rfl (Nat.le_of_ble_eq_true rfl) ⟨by decide, by decide, rfl, rfl⟩ (fun _ h => h.elim) (fun r2 u2 h => ?_)
        refine e_iload_n (k := 31) (i := 3) rfl rfl 2 rfl ?_
        refine e_icmp_ne (k := 32) (tgt := 83) rfl (by decide) (fun z => ?_) (fun z => ?_)
        · have h := h.1 z
          exact s_X4_signWithout_83 hg ih h
        · have h := h.2 z
          refine e_aload_n (k := 33) (i := 0) rfl rfl 0 rfl ?_
          refine e_getC (k := 34) rfl f_X4_29 rfl rfl ?_
          refine e_iload (k := 35) (i := 4) rfl 3 rfl ?_
          refine e_bipush (k := 36) (v := (6 : Int32)) rfl (by decide) ?_
          refine e_callVi (k := 37) (q := 36) (As := [.int x4, .int (6 : Int32)]) (rest := []) rfl (c_X6_cell (g := g) hg (n := n) h) m_X6_cell i_X6_cell l_X4_301 rfl ⟨_, rfl, rfl⟩ rfl rfl (Nat.le_of_ble_eq_true rfl) ⟨by decide, by decide, rfl, rfl⟩ (fun _ h => h.elim) (fun r3 u3 h => ?_)
          exact e_iret (k := 38) rfl rfl (Or.inl ⟨_, rfl, h⟩)
set_option maxRecDepth 20000 in
theorem c_X4_signWithout {g : Gb} (hg : xInj g) {n : Nat} {a0 : Int32} {a1 : Int32} {a2 : Int32} {u0 : Mm} {Q : Int32 → Mm → Prop} (h : w_X4_signWithout n a0 a1 a2 u0 Q) : xMet (gL g) yX4_signWithout (xws yX4_signWithout cX4_signWithout 5 (some .int)) (xRoom 3) (xPc g [.ref (gR g 38), .int a0, .int a1, .int a2] u0) (xQ g (pI g Q noT)) (xA g) := by
  refine xbody (il := il_X4_signWithout) hg il_X4_signWithout_ok m_X4_signWithout (Nat.le_of_ble_eq_true rfl) ?_
  show xE g me_X4_signWithout (pI g Q noT) 0 [(0, .ref (gR g 38)), (1, .int a0), (2, .int a1), (3, .int a2)] [] u0
  unfold w_X4_signWithout at h
  refine e_iload_n (k := 0) (i := 1) rfl rfl 1 rfl ?_
  refine e_if_ne (k := 1) (tgt := 89) rfl (by decide) (fun z => ?_) (fun z => ?_)
  · have h := h.1 z
    refine e_sub (lv' := [(0, .ref (gR g 38)), (2, .int a1), (3, .int a2)]) [0, 2, 3] rfl ?_
    exact s_X4_signWithout_89 hg h
  · have h := h.2 z
    refine e_aload_n (k := 2) (i := 0) rfl rfl 0 rfl ?_
    refine e_getP (k := 3) rfl f_X4_48 rfl rfl (fun ty1 => ?_)
    refine e_getI (k := 4) rfl f_X4_292 ty1.2.2 rfl ?_
    refine e_if_eq (k := 5) (tgt := 89) rfl (by decide) (fun z => ?_) (fun z => ?_)
    · have h := h.1 z
      refine e_sub (lv' := [(0, .ref (gR g 38)), (2, .int a1), (3, .int a2)]) [0, 2, 3] rfl ?_
      exact s_X4_signWithout_89 hg h
    · have h := h.2 z
      refine e_aload_n (k := 6) (i := 0) rfl rfl 0 rfl ?_
      refine e_getP (k := 7) rfl f_X4_48 rfl rfl (fun ty2 => ?_)
      refine e_getI (k := 8) rfl f_X4_295 ty2.2.2 rfl ?_
      refine e_ilet h (fun y1 h => ?_)
      refine e_istore (k := 9) (i := 4) (lv' := [(0, .ref (gR g 38)), (1, .int a0), (2, .int a1), (3, .int a2), (4, .int y1)]) rfl (by decide) [1, 2, 3, 4, 0] rfl ?_
      refine e_sub (lv' := [(0, .ref (gR g 38)), (2, .int a1), (3, .int a2), (4, .int y1)]) [0, 2, 3, 4] rfl ?_
      exact s_X4_signWithout_23 hg n a1 a2 y1 u0 h
def il_X7_findPlayed : List (Nat × Instr × Nat) := [(0, .aload_n 0, 1), (1, .aload_n 0, 1), (2, .getfield 39, 3), (5, .aload_n 0, 1), (6, .iconst 1, 1), (7, .invokevirtual 60, 3), (10, .getfield 64, 3), (13, .aload_n 0, 1), (14, .getfield 42, 3), (17, .invokestatic 67, 3), (20, .putfield 48, 3), (23, .return_, 1)]
set_option maxRecDepth 20000 in
theorem il_X7_findPlayed_ok : ∀ x ∈ il_X7_findPlayed, decode cX7_findPlayed x.1 = .ok x.2 := by decide +kernel
abbrev me_X7_findPlayed : Me := (RX7, il_X7_findPlayed, 1, none, xRoom 3, [])
def w_X7_findPlayed (n : Nat) (u0 : Mm) (Q : Mm → Prop) : Prop :=
  w_X7_voiceOf n (1 : Int32) u0 (fun r1 u1 =>
  w_X3_play n (u1.1 r1 4) u1 (fun r2 u2 =>
  mlet (setI u2 35 9 r2) fun u3 =>
  Q u3))
set_option maxRecDepth 20000 in
theorem c_X7_findPlayed {g : Gb} (hg : xInj g) {n : Nat} {u0 : Mm} {Q : Mm → Prop} (h : w_X7_findPlayed n u0 Q) : xMet (gL g) yX7_findPlayed (xws yX7_findPlayed cX7_findPlayed 1 none) (xRoom 3) (xPc g [.ref (gR g 35)] u0) (xQ g (pV g Q noT)) (xA g) := by
  refine xbody (il := il_X7_findPlayed) hg il_X7_findPlayed_ok m_X7_findPlayed (Nat.le_of_ble_eq_true rfl) ?_
  show xE g me_X7_findPlayed (pV g Q noT) 0 [(0, .ref (gR g 35))] [] u0
  unfold w_X7_findPlayed at h
  refine e_aload_n (k := 0) (i := 0) rfl rfl 0 rfl ?_
  refine e_aload_n (k := 1) (i := 0) rfl rfl 0 rfl ?_
  refine e_getC (k := 2) rfl f_X7_39 rfl rfl ?_
  refine e_aload_n (k := 3) (i := 0) rfl rfl 0 rfl ?_
  refine e_iconst (k := 4) (v := (1 : Int32)) rfl (by decide) ?_
  refine e_callVr (k := 5) (q := 35) (As := [.int (1 : Int32)]) (rest := [.ref (gR g 62), .ref (gR g 35)]) rfl (c_X7_voiceOf (g := g) hg (n := n) h) m_X7_voiceOf i_X7_voiceOf l_X7_60 rfl ⟨_, rfl, rfl⟩ rfl rfl (Nat.le_of_ble_eq_true rfl) ⟨by decide, by decide, rfl, rfl⟩ (fun _ h => h.elim) (fun r1 u1 hr1 h => ?_)
  refine e_getI (k := 6) rfl f_X7_64 hr1 rfl ?_
  refine e_aload_n (k := 7) (i := 0) rfl rfl 0 rfl ?_
  refine e_getC (k := 8) rfl f_X7_42 rfl rfl ?_
  refine e_callSi (k := 9) (As := [.ref (gR g 62), .int (u1.1 r1 4), .ref (gR g 63)]) (rest := [.ref (gR g 35)]) rfl (c_X3_play (g := g) hg (n := n) h) m_X3_play st_X3_play l_X7_67 rfl rfl (Nat.le_of_ble_eq_true rfl) ⟨by decide, by decide, rfl, rfl⟩ (fun _ h => h.elim) (fun r2 u2 h => ?_)
  refine e_putI (k := 10) rfl fg_X7_48 rfl rfl ?_
  refine e_mlet h (fun u3 h => ?_)
  exact e_vret (k := 11) rfl rfl (Or.inl ⟨rfl, h⟩)
def il_X8_enterMeasure : List (Nat × Instr × Nat) := [(0, .aload_n 0, 1), (1, .getfield 26, 3), (4, .ifCond .ne 10, 3), (7, .aload_n 0, 1), (8, .invokevirtual 66, 3), (11, .ifCond .eq 7, 3), (14, .iconst 1, 1), (15, .goto 4, 3), (18, .iconst 0, 1), (19, .ireturn, 1)]
set_option maxRecDepth 20000 in
theorem il_X8_enterMeasure_ok : ∀ x ∈ il_X8_enterMeasure, decode cX8_enterMeasure x.1 = .ok x.2 := by decide +kernel
abbrev me_X8_enterMeasure : Me := (RX8, il_X8_enterMeasure, 1, (some .boolean), xRoom 3, [])
def w_X8_enterMeasure_19 (n : Nat) (q : Nat) (t0 : Int32) (u0 : Mm) (Q : Int32 → Mm → Prop) : Prop :=
  narrow .boolean (.int t0) = .int t0 ∧ Q t0 u0
def w_X8_enterMeasure_14 (n : Nat) (q : Nat) (u0 : Mm) (Q : Int32 → Mm → Prop) : Prop :=
  w_X8_enterMeasure_19 n q (1 : Int32) u0 Q
def w_X8_enterMeasure (n : Nat) (q : Nat) (u0 : Mm) (Q : Int32 → Mm → Prop) : Prop :=
  (¬ (u0.1 q 5) = 0 → w_X8_enterMeasure_14 n q u0 Q) ∧
  ((u0.1 q 5) = 0 → w_X8_addMeasure n q u0 (fun r1 u1 =>
  (r1 = 0 → w_X8_enterMeasure_19 n q (0 : Int32) u1 Q) ∧
  (¬ r1 = 0 → w_X8_enterMeasure_14 n q u1 Q)))
set_option maxRecDepth 20000 in
theorem s_X8_enterMeasure_19 {g : Gb} (hg : xInj g) {n : Nat} {q : Nat} (hq : xlay q = (0, 7, 0)) {Q : Int32 → Mm → Prop} {t0 : Int32} {u0 : Mm} (h : w_X8_enterMeasure_19 n q t0 u0 Q) : xE g me_X8_enterMeasure (pI g Q noT) 19 [] [.int t0] u0 := by
  unfold w_X8_enterMeasure_19 at h
  exact e_zret (k := 9) rfl rfl h.1 (Or.inl ⟨_, rfl, h.2⟩)
set_option maxRecDepth 20000 in
theorem s_X8_enterMeasure_14 {g : Gb} (hg : xInj g) {n : Nat} {q : Nat} (hq : xlay q = (0, 7, 0)) {Q : Int32 → Mm → Prop} {u0 : Mm} (h : w_X8_enterMeasure_14 n q  u0 Q) : xE g me_X8_enterMeasure (pI g Q noT) 14 [] [] u0 := by
  unfold w_X8_enterMeasure_14 at h
  refine e_iconst (k := 6) (v := (1 : Int32)) rfl (by decide) ?_
  refine e_goto (k := 7) (tgt := 19) rfl (by decide) ?_
  exact s_X8_enterMeasure_19 hg hq h
set_option maxRecDepth 20000 in
theorem c_X8_enterMeasure {g : Gb} (hg : xInj g) {n : Nat} {q : Nat} (hq : xlay q = (0, 7, 0)) {u0 : Mm} {Q : Int32 → Mm → Prop} (h : w_X8_enterMeasure n q u0 Q) : xMet (gL g) yX8_enterMeasure (xws yX8_enterMeasure cX8_enterMeasure 1 (some .boolean)) (xRoom 3) (xPc g [.ref (gR g q)] u0) (xQ g (pI g Q noT)) (xA g) := by
  refine xbody (il := il_X8_enterMeasure) hg il_X8_enterMeasure_ok m_X8_enterMeasure (Nat.le_of_ble_eq_true rfl) ?_
  show xE g me_X8_enterMeasure (pI g Q noT) 0 [(0, .ref (gR g q))] [] u0
  unfold w_X8_enterMeasure at h
  refine e_aload_n (k := 0) (i := 0) rfl rfl 0 rfl ?_
  refine e_getI (k := 1) rfl f_X8_26 hq rfl ?_
  refine e_if_ne (k := 2) (tgt := 14) rfl (by decide) (fun z => ?_) (fun z => ?_)
  · have h := h.1 z
    refine e_sub (lv' := []) [] rfl ?_
    exact s_X8_enterMeasure_14 hg hq h
  · have h := h.2 z
    refine e_aload_n (k := 3) (i := 0) rfl rfl 0 rfl ?_
    refine e_callVi (k := 4) (q := q) (As := []) (rest := []) rfl (c_X8_addMeasure (g := g) hg (n := n) hq h) m_X8_addMeasure i_X8_addMeasure l_X8_66 hq ⟨_, rfl, rfl⟩ rfl rfl (Nat.le_of_ble_eq_true rfl) ⟨by decide, by decide, rfl, rfl⟩ (fun _ h => h.elim) (fun r1 u1 h => ?_)
    refine e_if_eq (k := 5) (tgt := 18) rfl (by decide) (fun z => ?_) (fun z => ?_)
    · have h := h.1 z
      refine e_iconst (k := 8) (v := (0 : Int32)) rfl (by decide) ?_
      refine e_sub (lv' := []) [] rfl ?_
      exact s_X8_enterMeasure_19 hg hq h
    · have h := h.2 z
      refine e_sub (lv' := []) [] rfl ?_
      exact s_X8_enterMeasure_14 hg hq h
def il_X9_writeLength : List (Nat × Instr × Nat) := [(0, .lload_n 1, 1), (1, .lload_n 3, 1), (2, .invokestatic 64, 3), (5, .lstore 5, 2), (7, .lload 5, 2), (9, .lconst 1, 1), (10, .lcmp, 1), (11, .ifCond .ge 5, 3), (14, .iconst 0, 1), (15, .ireturn, 1), (16, .lload_n 1, 1), (17, .lload 5, 2), (19, .ldiv, 1), (20, .lstore 7, 2), (22, .lload_n 3, 1), (23, .lload 5, 2), (25, .ldiv, 1), (26, .lstore 9, 2), (28, .lload 9, 2), (30, .lload 9, 2), (32, .lconst 1, 1), (33, .lsub, 1), (34, .land, 1), (35, .lconst 0, 1), (36, .lcmp, 1), (37, .ifCond .ne 7, 3), (40, .iconst 1, 1), (41, .goto 4, 3), (44, .iconst 0, 1), (45, .istore 11, 2), (47, .lload 7, 2), (49, .lconst 1, 1), (50, .lcmp, 1), (51, .ifCond .lt 26, 3), (54, .lload 7, 2), (56, .ldc2_w 68, 3), (59, .lcmp, 1), (60, .ifCond .gt 17, 3), (63, .lload 9, 2), (65, .ldc2_w 68, 3), (68, .lcmp, 1), (69, .ifCond .gt 8, 3), (72, .iload 11, 2), (74, .ifCond .ne 5, 3), (77, .iconst 0, 1), (78, .ireturn, 1), (79, .lload 7, 2), (81, .lconst 1, 1), (82, .lcmp, 1), (83, .ifCond .le 10, 3), (86, .aload_n 0, 1), (87, .lload 7, 2), (89, .l2i, 1), (90, .invokevirtual 70, 3), (93, .lload 9, 2), (95, .lconst 1, 1), (96, .lcmp, 1), (97, .ifCond .le 9, 3), (100, .aload_n 0, 1), (101, .bipush 47, 2), (103, .invokevirtual 43, 3), (106, .lload 9, 2), (108, .ldc2_w 73, 3), (111, .lcmp, 1), (112, .ifCond .le 10, 3), (115, .aload_n 0, 1), (116, .lload 9, 2), (118, .l2i, 1), (119, .invokevirtual 70, 3), (122, .iconst 1, 1), (123, .ireturn, 1)]
set_option maxRecDepth 20000 in
theorem il_X9_writeLength_ok : ∀ x ∈ il_X9_writeLength, decode cX9_writeLength x.1 = .ok x.2 := by decide +kernel
abbrev me_X9_writeLength : Me := (RX9, il_X9_writeLength, 12, (some .boolean), xRoom 3, [])
def w_X9_writeLength_122 (n : Nat) (u0 : Mm) (Q : Int32 → Mm → Prop) : Prop :=
  Q (1 : Int32) u0
def w_X9_writeLength_106 (n : Nat) (x9 : Int64) (u0 : Mm) (Q : Int32 → Mm → Prop) : Prop :=
  ((lg_cmp x9 (2 : Int64)) ≤ 0 → w_X9_writeLength_122 n u0 Q) ∧
  (¬ (lg_cmp x9 (2 : Int64)) ≤ 0 → w_X9_putDecimal n (x9.toInt32) u0 (fun u1 =>
  w_X9_writeLength_122 n u1 Q))
def w_X9_writeLength_93 (n : Nat) (x9 : Int64) (u0 : Mm) (Q : Int32 → Mm → Prop) : Prop :=
  ((lg_cmp x9 (1 : Int64)) ≤ 0 → w_X9_writeLength_106 n x9 u0 Q) ∧
  (¬ (lg_cmp x9 (1 : Int64)) ≤ 0 → w_X9_put n (47 : Int32) u0 (fun u1 =>
  w_X9_writeLength_106 n x9 u1 Q))
def w_X9_writeLength_77 (n : Nat) (u0 : Mm) (Q : Int32 → Mm → Prop) : Prop :=
  Q (0 : Int32) u0
def w_X9_writeLength_45 (n : Nat) (x7 : Int64) (x9 : Int64) (t0 : Int32) (u0 : Mm) (Q : Int32 → Mm → Prop) : Prop :=
  ((lg_cmp x7 (1 : Int64)) < 0 → w_X9_writeLength_77 n u0 Q) ∧
  (¬ (lg_cmp x7 (1 : Int64)) < 0 → (0 < (lg_cmp x7 (64 : Int64)) → w_X9_writeLength_77 n u0 Q) ∧
  (¬ 0 < (lg_cmp x7 (64 : Int64)) → (0 < (lg_cmp x9 (64 : Int64)) → w_X9_writeLength_77 n u0 Q) ∧
  (¬ 0 < (lg_cmp x9 (64 : Int64)) → (¬ t0 = 0 → ((lg_cmp x7 (1 : Int64)) ≤ 0 → w_X9_writeLength_93 n x9 u0 Q) ∧
  (¬ (lg_cmp x7 (1 : Int64)) ≤ 0 → w_X9_putDecimal n (x7.toInt32) u0 (fun u1 =>
  w_X9_writeLength_93 n x9 u1 Q))) ∧
  (t0 = 0 → w_X9_writeLength_77 n u0 Q))))
def w_X9_writeLength (n : Nat) (a0 : Int64) (a1 : Int64) (u0 : Mm) (Q : Int32 → Mm → Prop) : Prop :=
  w_X9_greatestCommon n a0 a1 u0 (fun r1 u1 =>
  (0 ≤ (lg_cmp r1 (1 : Int64)) → ¬ r1 = 0 ∧ (jlet (a0 / r1) fun y1 =>
  ¬ r1 = 0 ∧ (jlet (a1 / r1) fun y2 =>
  (¬ (lg_cmp (y2 &&& (y2 - (1 : Int64))) (0 : Int64)) = 0 → w_X9_writeLength_45 n y1 y2 (0 : Int32) u1 Q) ∧
  ((lg_cmp (y2 &&& (y2 - (1 : Int64))) (0 : Int64)) = 0 → w_X9_writeLength_45 n y1 y2 (1 : Int32) u1 Q)))) ∧
  (¬ 0 ≤ (lg_cmp r1 (1 : Int64)) → Q (0 : Int32) u1))
set_option maxRecDepth 20000 in
theorem s_X9_writeLength_122 {g : Gb} (hg : xInj g) {n : Nat} {Q : Int32 → Mm → Prop} {u0 : Mm} (h : w_X9_writeLength_122 n  u0 Q) : xE g me_X9_writeLength (pI g Q noT) 122 [] [] u0 := by
  unfold w_X9_writeLength_122 at h
  refine e_iconst (k := 69) (v := (1 : Int32)) rfl (by decide) ?_
  exact e_zret (k := 70) rfl rfl (by decide) (Or.inl ⟨_, rfl, h⟩)
set_option maxRecDepth 20000 in
theorem s_X9_writeLength_106 {g : Gb} (hg : xInj g) {n : Nat} {Q : Int32 → Mm → Prop} {x9 : Int64} {u0 : Mm} (h : w_X9_writeLength_106 n x9 u0 Q) : xE g me_X9_writeLength (pI g Q noT) 106 [(0, .ref (gR g 40)), (9, .long x9)] [] u0 := by
  unfold w_X9_writeLength_106 at h
  refine e_lload (k := 61) (i := 9) rfl 1 rfl ?_
  refine e_ldc2 (k := 62) rfl k_X9_73 ?_
  refine e_lcmp (k := 63) rfl ?_
  refine e_if_le (k := 64) (tgt := 122) rfl (by decide) (fun z => ?_) (fun z => ?_)
  · have h := h.1 z
    refine e_sub (lv' := []) [] rfl ?_
    exact s_X9_writeLength_122 hg h
  · have h := h.2 z
    refine e_aload_n (k := 65) (i := 0) rfl rfl 0 rfl ?_
    refine e_lload (k := 66) (i := 9) rfl 1 rfl ?_
    refine e_l2i (k := 67) rfl ?_
    refine e_callVv (k := 68) (q := 40) (As := [.int x9.toInt32]) (rest := []) rfl (c_X9_putDecimal (g := g) hg (n := n) h) m_X9_putDecimal i_X9_putDecimal l_X9_70 rfl ⟨_, rfl, rfl⟩ rfl rfl (Nat.le_of_ble_eq_true rfl) ⟨by decide, by decide, rfl, rfl⟩ (fun _ h => h.elim) (fun u1 h => ?_)
    refine e_sub (lv' := []) [] rfl ?_
    exact s_X9_writeLength_122 hg h
set_option maxRecDepth 20000 in
theorem s_X9_writeLength_93 {g : Gb} (hg : xInj g) {n : Nat} {Q : Int32 → Mm → Prop} {x9 : Int64} {u0 : Mm} (h : w_X9_writeLength_93 n x9 u0 Q) : xE g me_X9_writeLength (pI g Q noT) 93 [(0, .ref (gR g 40)), (9, .long x9)] [] u0 := by
  unfold w_X9_writeLength_93 at h
  refine e_lload (k := 54) (i := 9) rfl 1 rfl ?_
  refine e_lconst (k := 55) (v := (1 : Int64)) rfl (by decide) ?_
  refine e_lcmp (k := 56) rfl ?_
  refine e_if_le (k := 57) (tgt := 106) rfl (by decide) (fun z => ?_) (fun z => ?_)
  · have h := h.1 z
    exact s_X9_writeLength_106 hg h
  · have h := h.2 z
    refine e_aload_n (k := 58) (i := 0) rfl rfl 0 rfl ?_
    refine e_bipush (k := 59) (v := (47 : Int32)) rfl (by decide) ?_
    refine e_callVv (k := 60) (q := 40) (As := [.int (47 : Int32)]) (rest := []) rfl (c_X9_put (g := g) hg (n := n) h) m_X9_put i_X9_put l_X9_43 rfl ⟨_, rfl, rfl⟩ rfl rfl (Nat.le_of_ble_eq_true rfl) ⟨by decide, by decide, rfl, rfl⟩ (fun _ h => h.elim) (fun u1 h => ?_)
    exact s_X9_writeLength_106 hg h
set_option maxRecDepth 20000 in
theorem s_X9_writeLength_77 {g : Gb} (hg : xInj g) {n : Nat} {Q : Int32 → Mm → Prop} {u0 : Mm} (h : w_X9_writeLength_77 n  u0 Q) : xE g me_X9_writeLength (pI g Q noT) 77 [] [] u0 := by
  unfold w_X9_writeLength_77 at h
  refine e_iconst (k := 44) (v := (0 : Int32)) rfl (by decide) ?_
  exact e_zret (k := 45) rfl rfl (by decide) (Or.inl ⟨_, rfl, h⟩)
set_option maxRecDepth 20000 in
theorem s_X9_writeLength_45 {g : Gb} (hg : xInj g) {n : Nat} {Q : Int32 → Mm → Prop} {x7 : Int64} {x9 : Int64} {t0 : Int32} {u0 : Mm} (h : w_X9_writeLength_45 n x7 x9 t0 u0 Q) : xE g me_X9_writeLength (pI g Q noT) 45 [(0, .ref (gR g 40)), (7, .long x7), (9, .long x9)] [.int t0] u0 := by
  unfold w_X9_writeLength_45 at h
  refine e_istore (k := 29) (i := 11) (lv' := [(0, .ref (gR g 40)), (7, .long x7), (9, .long x9), (11, .int t0)]) rfl (by decide) [1, 2, 3, 0] rfl ?_
  refine e_lload (k := 30) (i := 7) rfl 1 rfl ?_
  refine e_lconst (k := 31) (v := (1 : Int64)) rfl (by decide) ?_
  refine e_lcmp (k := 32) rfl ?_
  refine e_if_lt (k := 33) (tgt := 77) rfl (by decide) (fun z => ?_) (fun z => ?_)
  · have h := h.1 z
    refine e_sub (lv' := []) [] rfl ?_
    exact s_X9_writeLength_77 hg h
  · have h := h.2 z
    refine e_lload (k := 34) (i := 7) rfl 1 rfl ?_
    refine e_ldc2 (k := 35) rfl k_X9_68 ?_
    refine e_lcmp (k := 36) rfl ?_
    refine e_if_gt (k := 37) (tgt := 77) rfl (by decide) (fun z => ?_) (fun z => ?_)
    · have h := h.1 z
      refine e_sub (lv' := []) [] rfl ?_
      exact s_X9_writeLength_77 hg h
    · have h := h.2 z
      refine e_lload (k := 38) (i := 9) rfl 2 rfl ?_
      refine e_ldc2 (k := 39) rfl k_X9_68 ?_
      refine e_lcmp (k := 40) rfl ?_
      refine e_if_gt (k := 41) (tgt := 77) rfl (by decide) (fun z => ?_) (fun z => ?_)
      · have h := h.1 z
        refine e_sub (lv' := []) [] rfl ?_
        exact s_X9_writeLength_77 hg h
      · have h := h.2 z
        refine e_iload (k := 42) (i := 11) rfl 3 rfl ?_
        refine e_if_ne (k := 43) (tgt := 79) rfl (by decide) (fun z => ?_) (fun z => ?_)
        · have h := h.1 z
          refine e_lload (k := 46) (i := 7) rfl 1 rfl ?_
          refine e_lconst (k := 47) (v := (1 : Int64)) rfl (by decide) ?_
          refine e_lcmp (k := 48) rfl ?_
          refine e_if_le (k := 49) (tgt := 93) rfl (by decide) (fun z => ?_) (fun z => ?_)
          · have h := h.1 z
            refine e_sub (lv' := [(0, .ref (gR g 40)), (9, .long x9)]) [0, 2] rfl ?_
            exact s_X9_writeLength_93 hg h
          · have h := h.2 z
            refine e_aload_n (k := 50) (i := 0) rfl rfl 0 rfl ?_
            refine e_lload (k := 51) (i := 7) rfl 1 rfl ?_
            refine e_l2i (k := 52) rfl ?_
            refine e_callVv (k := 53) (q := 40) (As := [.int x7.toInt32]) (rest := []) rfl (c_X9_putDecimal (g := g) hg (n := n) h) m_X9_putDecimal i_X9_putDecimal l_X9_70 rfl ⟨_, rfl, rfl⟩ rfl rfl (Nat.le_of_ble_eq_true rfl) ⟨by decide, by decide, rfl, rfl⟩ (fun _ h => h.elim) (fun u1 h => ?_)
            refine e_sub (lv' := [(0, .ref (gR g 40)), (9, .long x9)]) [0, 2] rfl ?_
            exact s_X9_writeLength_93 hg h
        · have h := h.2 z
          refine e_sub (lv' := []) [] rfl ?_
          exact s_X9_writeLength_77 hg h
set_option maxRecDepth 20000 in
theorem c_X9_writeLength {g : Gb} (hg : xInj g) {n : Nat} {a0 : Int64} {a1 : Int64} {u0 : Mm} {Q : Int32 → Mm → Prop} (h : w_X9_writeLength n a0 a1 u0 Q) : xMet (gL g) yX9_writeLength (xws yX9_writeLength cX9_writeLength 12 (some .boolean)) (xRoom 3) (xPc g [.ref (gR g 40), .long a0, .long a1] u0) (xQ g (pI g Q noT)) (xA g) := by
  refine xbody (il := il_X9_writeLength) hg il_X9_writeLength_ok m_X9_writeLength (Nat.le_of_ble_eq_true rfl) ?_
  show xE g me_X9_writeLength (pI g Q noT) 0 [(0, .ref (gR g 40)), (1, .long a0), (3, .long a1)] [] u0
  unfold w_X9_writeLength at h
  refine e_lload_n (k := 0) (i := 1) rfl rfl 1 rfl ?_
  refine e_lload_n (k := 1) (i := 3) rfl rfl 2 rfl ?_
  refine e_callSl (k := 2) (As := [.long a0, .long a1]) (rest := []) rfl (c_X9_greatestCommon (g := g) hg (n := n) h) m_X9_greatestCommon st_X9_greatestCommon l_X9_64 rfl rfl (Nat.le_of_ble_eq_true rfl) ⟨by decide, by decide, rfl, rfl⟩ (fun _ h => h.elim) (fun r1 u1 h => ?_)
  refine e_lstore (k := 3) (i := 5) (lv' := [(0, .ref (gR g 40)), (1, .long a0), (3, .long a1), (5, .long r1)]) rfl (by decide) [1, 2, 3, 0] rfl ?_
  refine e_lload (k := 4) (i := 5) rfl 3 rfl ?_
  refine e_lconst (k := 5) (v := (1 : Int64)) rfl (by decide) ?_
  refine e_lcmp (k := 6) rfl ?_
  refine e_if_ge (k := 7) (tgt := 16) rfl (by decide) (fun z => ?_) (fun z => ?_)
  · have h := h.1 z
    refine e_lload_n (k := 10) (i := 1) rfl rfl 1 rfl ?_
    refine e_lload (k := 11) (i := 5) rfl 3 rfl ?_
    refine e_ldiv (k := 12) rfl h.1 ?_
    have h := h.2
    refine e_jlet h (fun y1 h => ?_)
    refine e_lstore (k := 13) (i := 7) (lv' := [(0, .ref (gR g 40)), (1, .long a0), (3, .long a1), (5, .long r1), (7, .long y1)]) rfl (by decide) [1, 2, 3, 4, 0] rfl ?_
    refine e_lload_n (k := 14) (i := 3) rfl rfl 2 rfl ?_
    refine e_lload (k := 15) (i := 5) rfl 3 rfl ?_
    refine e_ldiv (k := 16) rfl h.1 ?_
    have h := h.2
    refine e_jlet h (fun y2 h => ?_)
    refine e_lstore (k := 17) (i := 9) (lv' := [(0, .ref (gR g 40)), (1, .long a0), (3, .long a1), (5, .long r1), (7, .long y1), (9, .long y2)]) rfl (by decide) [1, 2, 3, 4, 5, 0] rfl ?_
    refine e_lload (k := 18) (i := 9) rfl 5 rfl ?_
    refine e_lload (k := 19) (i := 9) rfl 5 rfl ?_
    refine e_lconst (k := 20) (v := (1 : Int64)) rfl (by decide) ?_
    refine e_lsub (k := 21) rfl ?_
    refine e_land (k := 22) rfl ?_
    refine e_lconst (k := 23) (v := (0 : Int64)) rfl (by decide) ?_
    refine e_lcmp (k := 24) rfl ?_
    refine e_if_ne (k := 25) (tgt := 44) rfl (by decide) (fun z => ?_) (fun z => ?_)
    · have h := h.1 z
      refine e_iconst (k := 28) (v := (0 : Int32)) rfl (by decide) ?_
      refine e_sub (lv' := [(0, .ref (gR g 40)), (7, .long y1), (9, .long y2)]) [0, 4, 5] rfl ?_
      exact s_X9_writeLength_45 hg h
    · have h := h.2 z
      refine e_iconst (k := 26) (v := (1 : Int32)) rfl (by decide) ?_
      refine e_goto (k := 27) (tgt := 45) rfl (by decide) ?_
      refine e_sub (lv' := [(0, .ref (gR g 40)), (7, .long y1), (9, .long y2)]) [0, 4, 5] rfl ?_
      exact s_X9_writeLength_45 hg h
  · have h := h.2 z
    refine e_iconst (k := 8) (v := (0 : Int32)) rfl (by decide) ?_
    exact e_zret (k := 9) rfl rfl (by decide) (Or.inl ⟨_, rfl, h⟩)
def il_J0_charAt_5068e : List (Nat × Instr × Nat) := [(0, .aload_n 0, 1), (1, .invokevirtual 492, 3), (4, .ifCond .eq 12, 3), (7, .aload_n 0, 1), (8, .getfield 9, 3), (11, .iload_n 1, 1), (12, .invokestatic 495, 3), (15, .ireturn, 1), (16, .aload_n 0, 1), (17, .getfield 9, 3), (20, .iload_n 1, 1), (21, .invokestatic 498, 3), (24, .ireturn, 1)]
set_option maxRecDepth 20000 in
theorem il_J0_charAt_5068e_ok : ∀ x ∈ il_J0_charAt_5068e, decode cJ0_charAt_5068e x.1 = .ok x.2 := by decide +kernel
abbrev me_J0_charAt_5068e : Me := (RJ0, il_J0_charAt_5068e, 2, (some .char), xRoom 4, [])
def w_J0_charAt_5068e (n : Nat) (q : Nat) (a0 : Int32) (u0 : Mm) (Q : Int32 → Mm → Prop) : Prop :=
  w_J0_isLatin1_aae02 n q u0 (fun r1 u1 =>
  (r1 = 0 → False) ∧
  (¬ r1 = 0 → w_J1_charAt_3b067 n q a0 u1 (fun r2 u2 =>
  narrow .char (.int r2) = .int r2 ∧ Q r2 u2)))
set_option maxRecDepth 20000 in
theorem c_J0_charAt_5068e {g : Gb} (hg : xInj g) {n : Nat} {q : Nat} {a0 : Int32} (hq : q < xtx.length) {u0 : Mm} {Q : Int32 → Mm → Prop} (h : w_J0_charAt_5068e n q a0 u0 Q) : xMet (gL g) yJ0_charAt_5068e (xws yJ0_charAt_5068e cJ0_charAt_5068e 2 (some .char)) (xRoom 4) (xPc g [.ref (gK g q), .int a0] u0) (xQ g (pI g Q noT)) (xA g) := by
  refine xbody (il := il_J0_charAt_5068e) hg il_J0_charAt_5068e_ok m_J0_charAt_5068e (Nat.le_of_ble_eq_true rfl) ?_
  show xE g me_J0_charAt_5068e (pI g Q noT) 0 [(0, .ref (gK g q)), (1, .int a0)] [] u0
  unfold w_J0_charAt_5068e at h
  refine e_aload_n (k := 0) (i := 0) rfl rfl 0 rfl ?_
  refine e_callKi (k := 1) (j := q) (As := []) (rest := []) rfl (c_J0_isLatin1_aae02 (g := g) hg (n := n) hq h) m_J0_isLatin1_aae02 i_J0_isLatin1_aae02 l_J0_492 hq rfl rfl rfl (Nat.le_of_ble_eq_true rfl) ⟨by decide, by decide, rfl, rfl⟩ (fun r1 u1 h => ?_)
  refine e_if_eq (k := 2) (tgt := 16) rfl (by decide) (fun z => ?_) (fun z => ?_)
  · have h := h.1 z
    refine e_aload_n (k := 8) (i := 0) rfl rfl 0 rfl ?_
    refine e_strV (k := 9) rfl fs_J0_9 hq ?_
    refine e_iload_n (k := 10) (i := 1) rfl rfl 1 rfl ?_
    exact h.elim
  · have h := h.2 z
    refine e_aload_n (k := 3) (i := 0) rfl rfl 0 rfl ?_
    refine e_strV (k := 4) rfl fs_J0_9 hq ?_
    refine e_iload_n (k := 5) (i := 1) rfl rfl 1 rfl ?_
    refine e_callSi (k := 6) (As := [.ref (gV g q), .int a0]) (rest := []) rfl (c_J1_charAt_3b067 (g := g) hg (n := n) hq h) m_J1_charAt_3b067 st_J1_charAt_3b067 l_J0_495 rfl rfl (Nat.le_of_ble_eq_true rfl) ⟨by decide, by decide, rfl, rfl⟩ (fun _ h => h.elim) (fun r2 u2 h => ?_)
    exact e_zret (k := 7) rfl rfl h.1 (Or.inl ⟨_, rfl, h.2⟩)
def il_J0_indexOf_0f7a4 : List (Nat × Instr × Nat) := [(0, .aload_n 0, 1), (1, .iload_n 1, 1), (2, .iconst 0, 1), (3, .invokevirtual 633, 3), (6, .ireturn, 1)]
set_option maxRecDepth 20000 in
theorem il_J0_indexOf_0f7a4_ok : ∀ x ∈ il_J0_indexOf_0f7a4, decode cJ0_indexOf_0f7a4 x.1 = .ok x.2 := by decide +kernel
abbrev me_J0_indexOf_0f7a4 : Me := (RJ0, il_J0_indexOf_0f7a4, 2, (some .int), xRoom 4, [])
def w_J0_indexOf_0f7a4 (n : Nat) (q : Nat) (a0 : Int32) (u0 : Mm) (Q : Int32 → Mm → Prop) : Prop :=
  w_J0_indexOf_7cf53 n q a0 (0 : Int32) u0 (fun r1 u1 =>
  Q r1 u1)
set_option maxRecDepth 20000 in
theorem c_J0_indexOf_0f7a4 {g : Gb} (hg : xInj g) {n : Nat} {q : Nat} {a0 : Int32} (hq : q < xtx.length) {u0 : Mm} {Q : Int32 → Mm → Prop} (h : w_J0_indexOf_0f7a4 n q a0 u0 Q) : xMet (gL g) yJ0_indexOf_0f7a4 (xws yJ0_indexOf_0f7a4 cJ0_indexOf_0f7a4 2 (some .int)) (xRoom 4) (xPc g [.ref (gK g q), .int a0] u0) (xQ g (pI g Q noT)) (xA g) := by
  refine xbody (il := il_J0_indexOf_0f7a4) hg il_J0_indexOf_0f7a4_ok m_J0_indexOf_0f7a4 (Nat.le_of_ble_eq_true rfl) ?_
  show xE g me_J0_indexOf_0f7a4 (pI g Q noT) 0 [(0, .ref (gK g q)), (1, .int a0)] [] u0
  unfold w_J0_indexOf_0f7a4 at h
  refine e_aload_n (k := 0) (i := 0) rfl rfl 0 rfl ?_
  refine e_iload_n (k := 1) (i := 1) rfl rfl 1 rfl ?_
  refine e_iconst (k := 2) (v := (0 : Int32)) rfl (by decide) ?_
  refine e_callKi (k := 3) (j := q) (As := [.int a0, .int (0 : Int32)]) (rest := []) rfl (c_J0_indexOf_7cf53 (g := g) hg (n := n) hq h) m_J0_indexOf_7cf53 i_J0_indexOf_7cf53 l_J0_633 hq rfl rfl rfl (Nat.le_of_ble_eq_true rfl) ⟨by decide, by decide, rfl, rfl⟩ (fun r1 u1 h => ?_)
  exact e_iret (k := 4) rfl rfl (Or.inl ⟨_, rfl, h⟩)
def il_X12_beginsTimed : List (Nat × Instr × Nat) := [(0, .aload_n 0, 1), (1, .invokevirtual 162, 3), (4, .istore_n 1, 1), (5, .iload_n 1, 1), (6, .bipush 91, 2), (8, .if_icmp .ne 21, 3), (11, .aload_n 0, 1), (12, .invokevirtual 377, 3), (15, .ifCond .ne 14, 3), (18, .aload_n 0, 1), (19, .invokevirtual 381, 3), (22, .ifCond .ne 7, 3), (25, .iconst 1, 1), (26, .goto 4, 3), (29, .iconst 0, 1), (30, .istore_n 2, 1), (31, .aload_n 0, 1), (32, .invokevirtual 384, 3), (35, .ifCond .ne 19, 3), (38, .iload_n 1, 1), (39, .bipush 122, 2), (41, .if_icmp .eq 13, 3), (44, .iload_n 1, 1), (45, .bipush 120, 2), (47, .if_icmp .eq 7, 3), (50, .iload_n 2, 1), (51, .ifCond .eq 7, 3), (54, .iconst 1, 1), (55, .goto 4, 3), (58, .iconst 0, 1), (59, .ireturn, 1)]
set_option maxRecDepth 20000 in
theorem il_X12_beginsTimed_ok : ∀ x ∈ il_X12_beginsTimed, decode cX12_beginsTimed x.1 = .ok x.2 := by decide +kernel
abbrev me_X12_beginsTimed : Me := (RX12, il_X12_beginsTimed, 3, (some .boolean), xRoom 4, [])
def w_X12_beginsTimed_59 (n : Nat) (t0 : Int32) (u0 : Mm) (Q : Int32 → Mm → Prop) (T : Mm → Prop) : Prop :=
  narrow .boolean (.int t0) = .int t0 ∧ Q t0 u0
def w_X12_beginsTimed_54 (n : Nat) (u0 : Mm) (Q : Int32 → Mm → Prop) (T : Mm → Prop) : Prop :=
  w_X12_beginsTimed_59 n (1 : Int32) u0 Q T
def w_X12_beginsTimed_30 (n : Nat) (x1 : Int32) (t0 : Int32) (u0 : Mm) (Q : Int32 → Mm → Prop) (T : Mm → Prop) : Prop :=
  w_X12_beginsNote n u0 (fun r1 u1 =>
  (¬ r1 = 0 → w_X12_beginsTimed_54 n u1 Q T) ∧
  (r1 = 0 → (x1 = (122 : Int32) → w_X12_beginsTimed_54 n u1 Q T) ∧
  (¬ x1 = (122 : Int32) → (x1 = (120 : Int32) → w_X12_beginsTimed_54 n u1 Q T) ∧
  (¬ x1 = (120 : Int32) → (t0 = 0 → w_X12_beginsTimed_59 n (0 : Int32) u1 Q T) ∧
  (¬ t0 = 0 → w_X12_beginsTimed_54 n u1 Q T))))) T
def w_X12_beginsTimed_29 (n : Nat) (x1 : Int32) (u0 : Mm) (Q : Int32 → Mm → Prop) (T : Mm → Prop) : Prop :=
  w_X12_beginsTimed_30 n x1 (0 : Int32) u0 Q T
def w_X12_beginsTimed (n : Nat) (u0 : Mm) (Q : Int32 → Mm → Prop) (T : Mm → Prop) : Prop :=
  w_X12_here n u0 (fun r1 u1 =>
  (¬ r1 = (91 : Int32) → w_X12_beginsTimed_29 n r1 u1 Q T) ∧
  (r1 = (91 : Int32) → w_X12_isBarHere n u1 (fun r2 u2 =>
  (¬ r2 = 0 → w_X12_beginsTimed_29 n r1 u2 Q T) ∧
  (r2 = 0 → w_X12_isFieldHere n u2 (fun r3 u3 =>
  (¬ r3 = 0 → w_X12_beginsTimed_29 n r1 u3 Q T) ∧
  (r3 = 0 → w_X12_beginsTimed_30 n r1 (1 : Int32) u3 Q T)) T)) T)) T
set_option maxRecDepth 20000 in
theorem s_X12_beginsTimed_59 {g : Gb} (hg : xInj g) {n : Nat} {Q : Int32 → Mm → Prop} {T : Mm → Prop} {t0 : Int32} {u0 : Mm} (h : w_X12_beginsTimed_59 n t0 u0 Q T) : xE g me_X12_beginsTimed (pI g Q T) 59 [] [.int t0] u0 := by
  unfold w_X12_beginsTimed_59 at h
  exact e_zret (k := 30) rfl rfl h.1 (Or.inl ⟨_, rfl, h.2⟩)
set_option maxRecDepth 20000 in
theorem s_X12_beginsTimed_54 {g : Gb} (hg : xInj g) {n : Nat} {Q : Int32 → Mm → Prop} {T : Mm → Prop} {u0 : Mm} (h : w_X12_beginsTimed_54 n  u0 Q T) : xE g me_X12_beginsTimed (pI g Q T) 54 [] [] u0 := by
  unfold w_X12_beginsTimed_54 at h
  refine e_iconst (k := 27) (v := (1 : Int32)) rfl (by decide) ?_
  refine e_goto (k := 28) (tgt := 59) rfl (by decide) ?_
  exact s_X12_beginsTimed_59 hg h
set_option maxRecDepth 20000 in
theorem s_X12_beginsTimed_30 {g : Gb} (hg : xInj g) {n : Nat} {Q : Int32 → Mm → Prop} {T : Mm → Prop} {x1 : Int32} {t0 : Int32} {u0 : Mm} (h : w_X12_beginsTimed_30 n x1 t0 u0 Q T) : xE g me_X12_beginsTimed (pI g Q T) 30 [(0, .ref (gR g 0)), (1, .int x1)] [.int t0] u0 := by
  unfold w_X12_beginsTimed_30 at h
  refine e_istore_n (k := 15) (i := 2) (lv' := [(0, .ref (gR g 0)), (1, .int x1), (2, .int t0)]) rfl rfl (by decide) [1, 2, 0] rfl ?_
  refine e_aload_n (k := 16) (i := 0) rfl rfl 0 rfl ?_
  refine e_callVi (k := 17) (q := 0) (As := []) (rest := []) rfl (c_X12_beginsNote (g := g) hg (n := n) h) m_X12_beginsNote i_X12_beginsNote l_X12_384 rfl ⟨_, rfl, rfl⟩ rfl rfl (Nat.le_of_ble_eq_true rfl) ⟨by decide, by decide, rfl, rfl⟩ (fun _ h => ⟨fun _ z => (by cases z), Or.inr ⟨rfl, h⟩⟩) (fun r1 u1 h => ?_)
  refine e_if_ne (k := 18) (tgt := 54) rfl (by decide) (fun z => ?_) (fun z => ?_)
  · have h := h.1 z
    refine e_sub (lv' := []) [] rfl ?_
    exact s_X12_beginsTimed_54 hg h
  · have h := h.2 z
    refine e_iload_n (k := 19) (i := 1) rfl rfl 1 rfl ?_
    refine e_bipush (k := 20) (v := (122 : Int32)) rfl (by decide) ?_
    refine e_icmp_eq (k := 21) (tgt := 54) rfl (by decide) (fun z => ?_) (fun z => ?_)
    · have h := h.1 z
      refine e_sub (lv' := []) [] rfl ?_
      exact s_X12_beginsTimed_54 hg h
    · have h := h.2 z
      refine e_iload_n (k := 22) (i := 1) rfl rfl 1 rfl ?_
      refine e_bipush (k := 23) (v := (120 : Int32)) rfl (by decide) ?_
      refine e_icmp_eq (k := 24) (tgt := 54) rfl (by decide) (fun z => ?_) (fun z => ?_)
      · have h := h.1 z
        refine e_sub (lv' := []) [] rfl ?_
        exact s_X12_beginsTimed_54 hg h
      · have h := h.2 z
        refine e_iload_n (k := 25) (i := 2) rfl rfl 2 rfl ?_
        refine e_if_eq (k := 26) (tgt := 58) rfl (by decide) (fun z => ?_) (fun z => ?_)
        · have h := h.1 z
          refine e_iconst (k := 29) (v := (0 : Int32)) rfl (by decide) ?_
          refine e_sub (lv' := []) [] rfl ?_
          exact s_X12_beginsTimed_59 hg h
        · have h := h.2 z
          refine e_sub (lv' := []) [] rfl ?_
          exact s_X12_beginsTimed_54 hg h
set_option maxRecDepth 20000 in
theorem s_X12_beginsTimed_29 {g : Gb} (hg : xInj g) {n : Nat} {Q : Int32 → Mm → Prop} {T : Mm → Prop} {x1 : Int32} {u0 : Mm} (h : w_X12_beginsTimed_29 n x1 u0 Q T) : xE g me_X12_beginsTimed (pI g Q T) 29 [(0, .ref (gR g 0)), (1, .int x1)] [] u0 := by
  unfold w_X12_beginsTimed_29 at h
  refine e_iconst (k := 14) (v := (0 : Int32)) rfl (by decide) ?_
  exact s_X12_beginsTimed_30 hg h
set_option maxRecDepth 20000 in
theorem c_X12_beginsTimed {g : Gb} (hg : xInj g) {n : Nat} {u0 : Mm} {Q : Int32 → Mm → Prop} {T : Mm → Prop} (h : w_X12_beginsTimed n u0 Q T) : xMet (gL g) yX12_beginsTimed (xws yX12_beginsTimed cX12_beginsTimed 3 (some .boolean)) (xRoom 4) (xPc g [.ref (gR g 0)] u0) (xQ g (pI g Q T)) (xA g) := by
  refine xbody (il := il_X12_beginsTimed) hg il_X12_beginsTimed_ok m_X12_beginsTimed (Nat.le_of_ble_eq_true rfl) ?_
  show xE g me_X12_beginsTimed (pI g Q T) 0 [(0, .ref (gR g 0))] [] u0
  unfold w_X12_beginsTimed at h
  refine e_aload_n (k := 0) (i := 0) rfl rfl 0 rfl ?_
  refine e_callVi (k := 1) (q := 0) (As := []) (rest := []) rfl (c_X12_here (g := g) hg (n := n) h) m_X12_here i_X12_here l_X12_162 rfl ⟨_, rfl, rfl⟩ rfl rfl (Nat.le_of_ble_eq_true rfl) ⟨by decide, by decide, rfl, rfl⟩ (fun _ h => ⟨fun _ z => (by cases z), Or.inr ⟨rfl, h⟩⟩) (fun r1 u1 h => ?_)
  refine e_istore_n (k := 2) (i := 1) (lv' := [(0, .ref (gR g 0)), (1, .int r1)]) rfl rfl (by decide) [1, 0] rfl ?_
  refine e_iload_n (k := 3) (i := 1) rfl rfl 1 rfl ?_
  refine e_bipush (k := 4) (v := (91 : Int32)) rfl (by decide) ?_
  refine e_icmp_ne (k := 5) (tgt := 29) rfl (by decide) (fun z => ?_) (fun z => ?_)
  · have h := h.1 z
    exact s_X12_beginsTimed_29 hg h
  · have h := h.2 z
    refine e_aload_n (k := 6) (i := 0) rfl rfl 0 rfl ?_
    refine e_callVi (k := 7) (q := 0) (As := []) (rest := []) rfl (c_X12_isBarHere (g := g) hg (n := n) h) m_X12_isBarHere i_X12_isBarHere l_X12_377 rfl ⟨_, rfl, rfl⟩ rfl rfl (Nat.le_of_ble_eq_true rfl) ⟨by decide, by decide, rfl, rfl⟩ (fun _ h => ⟨fun _ z => (by cases z), Or.inr ⟨rfl, h⟩⟩) (fun r2 u2 h => ?_)
    refine e_if_ne (k := 8) (tgt := 29) rfl (by decide) (fun z => ?_) (fun z => ?_)
    · have h := h.1 z
      exact s_X12_beginsTimed_29 hg h
    · have h := h.2 z
      refine e_aload_n (k := 9) (i := 0) rfl rfl 0 rfl ?_
      refine e_callVi (k := 10) (q := 0) (As := []) (rest := []) rfl (c_X12_isFieldHere (g := g) hg (n := n) h) m_X12_isFieldHere i_X12_isFieldHere l_X12_381 rfl ⟨_, rfl, rfl⟩ rfl rfl (Nat.le_of_ble_eq_true rfl) ⟨by decide, by decide, rfl, rfl⟩ (fun _ h => ⟨fun _ z => (by cases z), Or.inr ⟨rfl, h⟩⟩) (fun r3 u3 h => ?_)
      refine e_if_ne (k := 11) (tgt := 29) rfl (by decide) (fun z => ?_) (fun z => ?_)
      · have h := h.1 z
        exact s_X12_beginsTimed_29 hg h
      · have h := h.2 z
        refine e_iconst (k := 12) (v := (1 : Int32)) rfl (by decide) ?_
        refine e_goto (k := 13) (tgt := 30) rfl (by decide) ?_
        exact s_X12_beginsTimed_30 hg h
def il_X12_blanks : List (Nat × Instr × Nat) := [(0, .aload_n 0, 1), (1, .bipush 32, 2), (3, .invokevirtual 166, 3), (6, .ifCond .eq 16, 3), (9, .aload_n 0, 1), (10, .dup, 1), (11, .getfield 138, 3), (14, .iconst 1, 1), (15, .iadd, 1), (16, .putfield 138, 3), (19, .goto (-19), 3), (22, .return_, 1)]
set_option maxRecDepth 20000 in
theorem il_X12_blanks_ok : ∀ x ∈ il_X12_blanks, decode cX12_blanks x.1 = .ok x.2 := by decide +kernel
abbrev me_X12_blanks : Me := (RX12, il_X12_blanks, 1, none, xRoom 4, [])
def w_X12_blanks_0 (n : Nat) (Q : Mm → Prop) (T : Mm → Prop) : Nat → Mm → Prop
  | 0, _ => False
  | k + 1, u0 =>
  w_X12_is n (32 : Int32) u0 (fun r1 u1 =>
  (r1 = 0 → Q u1) ∧
  (¬ r1 = 0 → mlet (setI u1 0 7 ((u1.1 0 7) + (1 : Int32))) fun u2 =>
  (w_X12_blanks_0 n Q T k) u2)) T
def w_X12_blanks (n : Nat) (u0 : Mm) (Q : Mm → Prop) (T : Mm → Prop) : Prop :=
  (w_X12_blanks_0 n Q T n) u0
set_option maxRecDepth 20000 in
theorem s_X12_blanks_0 {g : Gb} (hg : xInj g) {n : Nat} {Q : Mm → Prop} {T : Mm → Prop} : ∀ (k : Nat) (u0 : Mm), w_X12_blanks_0 n Q T k  u0 → xE g me_X12_blanks (pV g Q T) 0 [(0, .ref (gR g 0))] [] u0 := by
  intro k
  induction k with
  | zero => intro  u0 h; exact h.elim
  | succ k ih =>
    intro  u0 h
    unfold w_X12_blanks_0 at h
    refine e_aload_n (k := 0) (i := 0) rfl rfl 0 rfl ?_
    refine e_bipush (k := 1) (v := (32 : Int32)) rfl (by decide) ?_
    refine e_callVi (k := 2) (q := 0) (As := [.int (32 : Int32)]) (rest := []) rfl (c_X12_is (g := g) hg (n := n) h) m_X12_is i_X12_is l_X12_166 rfl ⟨_, rfl, rfl⟩ rfl rfl (Nat.le_of_ble_eq_true rfl) ⟨by decide, by decide, rfl, rfl⟩ (fun _ h => ⟨fun _ z => (by cases z), Or.inr ⟨rfl, h⟩⟩) (fun r1 u1 h => ?_)
    refine e_if_eq (k := 3) (tgt := 22) rfl (by decide) (fun z => ?_) (fun z => ?_)
    · have h := h.1 z
      exact e_vret (k := 11) rfl rfl (Or.inl ⟨rfl, h⟩)
    · have h := h.2 z
      refine e_aload_n (k := 4) (i := 0) rfl rfl 0 rfl ?_
      refine e_dup (k := 5) rfl rfl ?_
      refine e_getI (k := 6) rfl f_X12_138 rfl rfl ?_
      refine e_iconst (k := 7) (v := (1 : Int32)) rfl (by decide) ?_
      refine e_iadd (k := 8) rfl ?_
      refine e_putI (k := 9) rfl fg_X12_138 rfl rfl ?_
      refine e_mlet h (fun u2 h => ?_)
      refine e_goto (k := 10) (tgt := 0) rfl (by decide) ?_
      exact ih u2 h
set_option maxRecDepth 20000 in
theorem c_X12_blanks {g : Gb} (hg : xInj g) {n : Nat} {u0 : Mm} {Q : Mm → Prop} {T : Mm → Prop} (h : w_X12_blanks n u0 Q T) : xMet (gL g) yX12_blanks (xws yX12_blanks cX12_blanks 1 none) (xRoom 4) (xPc g [.ref (gR g 0)] u0) (xQ g (pV g Q T)) (xA g) := by
  refine xbody (il := il_X12_blanks) hg il_X12_blanks_ok m_X12_blanks (Nat.le_of_ble_eq_true rfl) ?_
  show xE g me_X12_blanks (pV g Q T) 0 [(0, .ref (gR g 0))] [] u0
  unfold w_X12_blanks at h
  exact s_X12_blanks_0 hg n u0 h
def il_X12_isHead : List (Nat × Instr × Nat) := [(0, .aload_n 0, 1), (1, .iload_n 1, 1), (2, .invokevirtual 166, 3), (5, .ifCond .eq 22, 3), (8, .aload_n 0, 1), (9, .aload_n 0, 1), (10, .getfield 138, 3), (13, .iconst 1, 1), (14, .iadd, 1), (15, .invokevirtual 141, 3), (18, .bipush 58, 2), (20, .if_icmp .ne 7, 3), (23, .iconst 1, 1), (24, .goto 4, 3), (27, .iconst 0, 1), (28, .ireturn, 1)]
set_option maxRecDepth 20000 in
theorem il_X12_isHead_ok : ∀ x ∈ il_X12_isHead, decode cX12_isHead x.1 = .ok x.2 := by decide +kernel
abbrev me_X12_isHead : Me := (RX12, il_X12_isHead, 2, (some .boolean), xRoom 4, [])
def w_X12_isHead_28 (n : Nat) (t0 : Int32) (u0 : Mm) (Q : Int32 → Mm → Prop) (T : Mm → Prop) : Prop :=
  narrow .boolean (.int t0) = .int t0 ∧ Q t0 u0
def w_X12_isHead_27 (n : Nat) (u0 : Mm) (Q : Int32 → Mm → Prop) (T : Mm → Prop) : Prop :=
  w_X12_isHead_28 n (0 : Int32) u0 Q T
def w_X12_isHead (n : Nat) (a0 : Int32) (u0 : Mm) (Q : Int32 → Mm → Prop) (T : Mm → Prop) : Prop :=
  w_X12_is n a0 u0 (fun r1 u1 =>
  (r1 = 0 → w_X12_isHead_27 n u1 Q T) ∧
  (¬ r1 = 0 → w_X12_peek n ((u1.1 0 7) + (1 : Int32)) u1 (fun r2 u2 =>
  (¬ r2 = (58 : Int32) → w_X12_isHead_27 n u2 Q T) ∧
  (r2 = (58 : Int32) → w_X12_isHead_28 n (1 : Int32) u2 Q T)) T)) T
set_option maxRecDepth 20000 in
theorem s_X12_isHead_28 {g : Gb} (hg : xInj g) {n : Nat} {Q : Int32 → Mm → Prop} {T : Mm → Prop} {t0 : Int32} {u0 : Mm} (h : w_X12_isHead_28 n t0 u0 Q T) : xE g me_X12_isHead (pI g Q T) 28 [] [.int t0] u0 := by
  unfold w_X12_isHead_28 at h
  exact e_zret (k := 15) rfl rfl h.1 (Or.inl ⟨_, rfl, h.2⟩)
set_option maxRecDepth 20000 in
theorem s_X12_isHead_27 {g : Gb} (hg : xInj g) {n : Nat} {Q : Int32 → Mm → Prop} {T : Mm → Prop} {u0 : Mm} (h : w_X12_isHead_27 n  u0 Q T) : xE g me_X12_isHead (pI g Q T) 27 [] [] u0 := by
  unfold w_X12_isHead_27 at h
  refine e_iconst (k := 14) (v := (0 : Int32)) rfl (by decide) ?_
  exact s_X12_isHead_28 hg h
set_option maxRecDepth 20000 in
theorem c_X12_isHead {g : Gb} (hg : xInj g) {n : Nat} {a0 : Int32} {u0 : Mm} {Q : Int32 → Mm → Prop} {T : Mm → Prop} (h : w_X12_isHead n a0 u0 Q T) : xMet (gL g) yX12_isHead (xws yX12_isHead cX12_isHead 2 (some .boolean)) (xRoom 4) (xPc g [.ref (gR g 0), .int a0] u0) (xQ g (pI g Q T)) (xA g) := by
  refine xbody (il := il_X12_isHead) hg il_X12_isHead_ok m_X12_isHead (Nat.le_of_ble_eq_true rfl) ?_
  show xE g me_X12_isHead (pI g Q T) 0 [(0, .ref (gR g 0)), (1, .int a0)] [] u0
  unfold w_X12_isHead at h
  refine e_aload_n (k := 0) (i := 0) rfl rfl 0 rfl ?_
  refine e_iload_n (k := 1) (i := 1) rfl rfl 1 rfl ?_
  refine e_callVi (k := 2) (q := 0) (As := [.int a0]) (rest := []) rfl (c_X12_is (g := g) hg (n := n) h) m_X12_is i_X12_is l_X12_166 rfl ⟨_, rfl, rfl⟩ rfl rfl (Nat.le_of_ble_eq_true rfl) ⟨by decide, by decide, rfl, rfl⟩ (fun _ h => ⟨fun _ z => (by cases z), Or.inr ⟨rfl, h⟩⟩) (fun r1 u1 h => ?_)
  refine e_if_eq (k := 3) (tgt := 27) rfl (by decide) (fun z => ?_) (fun z => ?_)
  · have h := h.1 z
    refine e_sub (lv' := []) [] rfl ?_
    exact s_X12_isHead_27 hg h
  · have h := h.2 z
    refine e_aload_n (k := 4) (i := 0) rfl rfl 0 rfl ?_
    refine e_aload_n (k := 5) (i := 0) rfl rfl 0 rfl ?_
    refine e_getI (k := 6) rfl f_X12_138 rfl rfl ?_
    refine e_iconst (k := 7) (v := (1 : Int32)) rfl (by decide) ?_
    refine e_iadd (k := 8) rfl ?_
    refine e_callVi (k := 9) (q := 0) (As := [.int ((u1.1 0 7) + (1 : Int32))]) (rest := []) rfl (c_X12_peek (g := g) hg (n := n) h) m_X12_peek i_X12_peek l_X12_141 rfl ⟨_, rfl, rfl⟩ rfl rfl (Nat.le_of_ble_eq_true rfl) ⟨by decide, by decide, rfl, rfl⟩ (fun _ h => ⟨fun _ z => (by cases z), Or.inr ⟨rfl, h⟩⟩) (fun r2 u2 h => ?_)
    refine e_bipush (k := 10) (v := (58 : Int32)) rfl (by decide) ?_
    refine e_icmp_ne (k := 11) (tgt := 27) rfl (by decide) (fun z => ?_) (fun z => ?_)
    · have h := h.1 z
      refine e_sub (lv' := []) [] rfl ?_
      exact s_X12_isHead_27 hg h
    · have h := h.2 z
      refine e_iconst (k := 12) (v := (1 : Int32)) rfl (by decide) ?_
      refine e_goto (k := 13) (tgt := 28) rfl (by decide) ?_
      refine e_sub (lv' := []) [] rfl ?_
      exact s_X12_isHead_28 hg h
def il_X12_lowerLength : List (Nat × Instr × Nat) := [(0, .aload_n 0, 1), (1, .getfield 138, 3), (4, .istore_n 1, 1), (5, .aload_n 0, 1), (6, .iconst 1, 1), (7, .bipush 64, 2), (9, .iload_n 1, 1), (10, .invokevirtual 207, 3), (13, .istore_n 2, 1), (14, .iload_n 2, 1), (15, .bipush 64, 2), (17, .invokestatic 215, 3), (20, .ifCond .ne 9, 3), (23, .aload_n 0, 1), (24, .iconst 1, 1), (25, .iload_n 1, 1), (26, .invokevirtual 148, 3), (29, .iload_n 2, 1), (30, .ireturn, 1)]
set_option maxRecDepth 20000 in
theorem il_X12_lowerLength_ok : ∀ x ∈ il_X12_lowerLength, decode cX12_lowerLength x.1 = .ok x.2 := by decide +kernel
abbrev me_X12_lowerLength : Me := (RX12, il_X12_lowerLength, 3, (some .int), xRoom 4, [])
def w_X12_lowerLength_29 (n : Nat) (x2 : Int32) (u0 : Mm) (Q : Int32 → Mm → Prop) (T : Mm → Prop) : Prop :=
  Q x2 u0
def w_X12_lowerLength (n : Nat) (u0 : Mm) (Q : Int32 → Mm → Prop) (T : Mm → Prop) : Prop :=
  ilet (u0.1 0 7) fun y1 =>
  w_X12_numberOf n (1 : Int32) (64 : Int32) y1 u0 (fun r1 u1 =>
  w_X12_isPower n r1 (64 : Int32) u1 (fun r2 u2 =>
  (¬ r2 = 0 → w_X12_lowerLength_29 n r1 u2 Q T) ∧
  (r2 = 0 → w_X12_fail n (1 : Int32) y1 u2 (fun u3 =>
  w_X12_lowerLength_29 n r1 u3 Q T) T)) T) T
set_option maxRecDepth 20000 in
theorem s_X12_lowerLength_29 {g : Gb} (hg : xInj g) {n : Nat} {Q : Int32 → Mm → Prop} {T : Mm → Prop} {x2 : Int32} {u0 : Mm} (h : w_X12_lowerLength_29 n x2 u0 Q T) : xE g me_X12_lowerLength (pI g Q T) 29 [(2, .int x2)] [] u0 := by
  unfold w_X12_lowerLength_29 at h
  refine e_iload_n (k := 17) (i := 2) rfl rfl 0 rfl ?_
  exact e_iret (k := 18) rfl rfl (Or.inl ⟨_, rfl, h⟩)
set_option maxRecDepth 20000 in
theorem c_X12_lowerLength {g : Gb} (hg : xInj g) {n : Nat} {u0 : Mm} {Q : Int32 → Mm → Prop} {T : Mm → Prop} (h : w_X12_lowerLength n u0 Q T) : xMet (gL g) yX12_lowerLength (xws yX12_lowerLength cX12_lowerLength 3 (some .int)) (xRoom 4) (xPc g [.ref (gR g 0)] u0) (xQ g (pI g Q T)) (xA g) := by
  refine xbody (il := il_X12_lowerLength) hg il_X12_lowerLength_ok m_X12_lowerLength (Nat.le_of_ble_eq_true rfl) ?_
  show xE g me_X12_lowerLength (pI g Q T) 0 [(0, .ref (gR g 0))] [] u0
  unfold w_X12_lowerLength at h
  refine e_aload_n (k := 0) (i := 0) rfl rfl 0 rfl ?_
  refine e_getI (k := 1) rfl f_X12_138 rfl rfl ?_
  refine e_ilet h (fun y1 h => ?_)
  refine e_istore_n (k := 2) (i := 1) (lv' := [(0, .ref (gR g 0)), (1, .int y1)]) rfl rfl (by decide) [1, 0] rfl ?_
  refine e_aload_n (k := 3) (i := 0) rfl rfl 0 rfl ?_
  refine e_iconst (k := 4) (v := (1 : Int32)) rfl (by decide) ?_
  refine e_bipush (k := 5) (v := (64 : Int32)) rfl (by decide) ?_
  refine e_iload_n (k := 6) (i := 1) rfl rfl 1 rfl ?_
  refine e_callVi (k := 7) (q := 0) (As := [.int (1 : Int32), .int (64 : Int32), .int y1]) (rest := []) rfl (c_X12_numberOf (g := g) hg (n := n) h) m_X12_numberOf i_X12_numberOf l_X12_207 rfl ⟨_, rfl, rfl⟩ rfl rfl (Nat.le_of_ble_eq_true rfl) ⟨by decide, by decide, rfl, rfl⟩ (fun _ h => ⟨fun _ z => (by cases z), Or.inr ⟨rfl, h⟩⟩) (fun r1 u1 h => ?_)
  refine e_istore_n (k := 8) (i := 2) (lv' := [(0, .ref (gR g 0)), (1, .int y1), (2, .int r1)]) rfl rfl (by decide) [1, 2, 0] rfl ?_
  refine e_iload_n (k := 9) (i := 2) rfl rfl 2 rfl ?_
  refine e_bipush (k := 10) (v := (64 : Int32)) rfl (by decide) ?_
  refine e_callSi (k := 11) (As := [.int r1, .int (64 : Int32)]) (rest := []) rfl (c_X12_isPower (g := g) hg (n := n) h) m_X12_isPower st_X12_isPower l_X12_215 rfl rfl (Nat.le_of_ble_eq_true rfl) ⟨by decide, by decide, rfl, rfl⟩ (fun _ h => ⟨fun _ z => (by cases z), Or.inr ⟨rfl, h⟩⟩) (fun r2 u2 h => ?_)
  refine e_if_ne (k := 12) (tgt := 29) rfl (by decide) (fun z => ?_) (fun z => ?_)
  · have h := h.1 z
    refine e_sub (lv' := [(2, .int r1)]) [2] rfl ?_
    exact s_X12_lowerLength_29 hg h
  · have h := h.2 z
    refine e_aload_n (k := 13) (i := 0) rfl rfl 0 rfl ?_
    refine e_iconst (k := 14) (v := (1 : Int32)) rfl (by decide) ?_
    refine e_iload_n (k := 15) (i := 1) rfl rfl 1 rfl ?_
    refine e_callVv (k := 16) (q := 0) (As := [.int (1 : Int32), .int y1]) (rest := []) rfl (c_X12_fail (g := g) hg (n := n) h) m_X12_fail i_X12_fail l_X12_148 rfl ⟨_, rfl, rfl⟩ rfl rfl (Nat.le_of_ble_eq_true rfl) ⟨by decide, by decide, rfl, rfl⟩ (fun _ h => ⟨fun _ z => (by cases z), Or.inr ⟨rfl, h⟩⟩) (fun u3 h => ?_)
    refine e_sub (lv' := [(2, .int r1)]) [2] rfl ?_
    exact s_X12_lowerLength_29 hg h
def il_X12_must : List (Nat × Instr × Nat) := [(0, .aload_n 0, 1), (1, .iload_n 1, 1), (2, .invokevirtual 166, 3), (5, .ifCond .ne 12, 3), (8, .aload_n 0, 1), (9, .iconst 1, 1), (10, .aload_n 0, 1), (11, .getfield 138, 3), (14, .invokevirtual 148, 3), (17, .aload_n 0, 1), (18, .dup, 1), (19, .getfield 138, 3), (22, .iconst 1, 1), (23, .iadd, 1), (24, .putfield 138, 3), (27, .return_, 1)]
set_option maxRecDepth 20000 in
theorem il_X12_must_ok : ∀ x ∈ il_X12_must, decode cX12_must x.1 = .ok x.2 := by decide +kernel
abbrev me_X12_must : Me := (RX12, il_X12_must, 2, none, xRoom 4, [])
def w_X12_must_17 (n : Nat) (u0 : Mm) (Q : Mm → Prop) (T : Mm → Prop) : Prop :=
  mlet (setI u0 0 7 ((u0.1 0 7) + (1 : Int32))) fun u1 =>
  Q u1
def w_X12_must (n : Nat) (a0 : Int32) (u0 : Mm) (Q : Mm → Prop) (T : Mm → Prop) : Prop :=
  w_X12_is n a0 u0 (fun r1 u1 =>
  (¬ r1 = 0 → w_X12_must_17 n u1 Q T) ∧
  (r1 = 0 → w_X12_fail n (1 : Int32) (u1.1 0 7) u1 (fun u2 =>
  w_X12_must_17 n u2 Q T) T)) T
set_option maxRecDepth 20000 in
theorem s_X12_must_17 {g : Gb} (hg : xInj g) {n : Nat} {Q : Mm → Prop} {T : Mm → Prop} {u0 : Mm} (h : w_X12_must_17 n  u0 Q T) : xE g me_X12_must (pV g Q T) 17 [(0, .ref (gR g 0))] [] u0 := by
  unfold w_X12_must_17 at h
  refine e_aload_n (k := 9) (i := 0) rfl rfl 0 rfl ?_
  refine e_dup (k := 10) rfl rfl ?_
  refine e_getI (k := 11) rfl f_X12_138 rfl rfl ?_
  refine e_iconst (k := 12) (v := (1 : Int32)) rfl (by decide) ?_
  refine e_iadd (k := 13) rfl ?_
  refine e_putI (k := 14) rfl fg_X12_138 rfl rfl ?_
  refine e_mlet h (fun u1 h => ?_)
  exact e_vret (k := 15) rfl rfl (Or.inl ⟨rfl, h⟩)
set_option maxRecDepth 20000 in
theorem c_X12_must {g : Gb} (hg : xInj g) {n : Nat} {a0 : Int32} {u0 : Mm} {Q : Mm → Prop} {T : Mm → Prop} (h : w_X12_must n a0 u0 Q T) : xMet (gL g) yX12_must (xws yX12_must cX12_must 2 none) (xRoom 4) (xPc g [.ref (gR g 0), .int a0] u0) (xQ g (pV g Q T)) (xA g) := by
  refine xbody (il := il_X12_must) hg il_X12_must_ok m_X12_must (Nat.le_of_ble_eq_true rfl) ?_
  show xE g me_X12_must (pV g Q T) 0 [(0, .ref (gR g 0)), (1, .int a0)] [] u0
  unfold w_X12_must at h
  refine e_aload_n (k := 0) (i := 0) rfl rfl 0 rfl ?_
  refine e_iload_n (k := 1) (i := 1) rfl rfl 1 rfl ?_
  refine e_callVi (k := 2) (q := 0) (As := [.int a0]) (rest := []) rfl (c_X12_is (g := g) hg (n := n) h) m_X12_is i_X12_is l_X12_166 rfl ⟨_, rfl, rfl⟩ rfl rfl (Nat.le_of_ble_eq_true rfl) ⟨by decide, by decide, rfl, rfl⟩ (fun _ h => ⟨fun _ z => (by cases z), Or.inr ⟨rfl, h⟩⟩) (fun r1 u1 h => ?_)
  refine e_if_ne (k := 3) (tgt := 17) rfl (by decide) (fun z => ?_) (fun z => ?_)
  · have h := h.1 z
    refine e_sub (lv' := [(0, .ref (gR g 0))]) [0] rfl ?_
    exact s_X12_must_17 hg h
  · have h := h.2 z
    refine e_aload_n (k := 4) (i := 0) rfl rfl 0 rfl ?_
    refine e_iconst (k := 5) (v := (1 : Int32)) rfl (by decide) ?_
    refine e_aload_n (k := 6) (i := 0) rfl rfl 0 rfl ?_
    refine e_getI (k := 7) rfl f_X12_138 rfl rfl ?_
    refine e_callVv (k := 8) (q := 0) (As := [.int (1 : Int32), .int (u1.1 0 7)]) (rest := []) rfl (c_X12_fail (g := g) hg (n := n) h) m_X12_fail i_X12_fail l_X12_148 rfl ⟨_, rfl, rfl⟩ rfl rfl (Nat.le_of_ble_eq_true rfl) ⟨by decide, by decide, rfl, rfl⟩ (fun _ h => ⟨fun _ z => (by cases z), Or.inr ⟨rfl, h⟩⟩) (fun u2 h => ?_)
    refine e_sub (lv' := [(0, .ref (gR g 0))]) [0] rfl ?_
    exact s_X12_must_17 hg h
def il_X12_readBars : List (Nat × Instr × Nat) := [(0, .aload_n 0, 1), (1, .getfield 138, 3), (4, .istore_n 1, 1), (5, .aload_n 0, 1), (6, .iload_n 1, 1), (7, .invokevirtual 391, 3), (10, .aload_n 0, 1), (11, .getfield 60, 3), (14, .aload_n 0, 1), (15, .getfield 290, 3), (18, .iaload, 1), (19, .ifCond .ne 9, 3), (22, .aload_n 0, 1), (23, .iconst 1, 1), (24, .iload_n 1, 1), (25, .invokevirtual 148, 3), (28, .aload_n 0, 1), (29, .iconst 3, 1), (30, .iload_n 1, 1), (31, .invokevirtual 333, 3), (34, .istore_n 2, 1), (35, .aload_n 0, 1), (36, .dup, 1), (37, .getfield 138, 3), (40, .iconst 1, 1), (41, .iadd, 1), (42, .putfield 138, 3), (45, .aload_n 0, 1), (46, .invokevirtual 162, 3), (49, .invokestatic 182, 3), (52, .ifCond .eq 17, 3), (55, .aload_n 0, 1), (56, .iconst 1, 1), (57, .bipush 16, 2), (59, .aload_n 0, 1), (60, .getfield 138, 3), (63, .invokevirtual 207, 3), (66, .goto 4, 3), (69, .iconst 1, 1), (70, .istore_n 3, 1), (71, .aload_n 0, 1), (72, .iload_n 2, 1), (73, .iconst 3, 1), (74, .iload_n 3, 1), (75, .invokevirtual 286, 3), (78, .aload_n 0, 1), (79, .invokevirtual 369, 3), (82, .lstore 4, 2), (84, .aload_n 0, 1), (85, .getfield 40, 3), (88, .iload_n 2, 1), (89, .lload 4, 2), (91, .iload_n 3, 1), (92, .i2l, 1), (93, .lmul, 1), (94, .lastore, 1), (95, .iconst 0, 1), (96, .istore 6, 2), (98, .iload 6, 2), (100, .iload_n 3, 1), (101, .if_icmp .ge 48, 3), (104, .iload 6, 2), (106, .ifCond .le 26, 3), (109, .aload_n 0, 1), (110, .getfield 75, 3), (113, .aload_n 0, 1), (114, .getfield 290, 3), (117, .iconst 0, 1), (118, .bastore, 1), (119, .aload_n 0, 1), (120, .getfield 72, 3), (123, .aload_n 0, 1), (124, .getfield 290, 3), (127, .dup2, 1), (128, .iaload, 1), (129, .iconst 1, 1), (130, .iadd, 1), (131, .iastore, 1), (132, .aload_n 0, 1), (133, .iload_n 1, 1), (134, .invokevirtual 391, 3), (137, .aload_n 0, 1), (138, .lload 4, 2), (140, .invokevirtual 419, 3), (143, .iinc 6 1, 3), (146, .goto (-48), 3), (149, .aload_n 0, 1), (150, .invokevirtual 435, 3), (153, .aload_n 0, 1), (154, .getfield 90, 3), (157, .aload_n 0, 1), (158, .getfield 290, 3), (161, .iload_n 2, 1), (162, .iastore, 1), (163, .return_, 1)]
set_option maxRecDepth 20000 in
theorem il_X12_readBars_ok : ∀ x ∈ il_X12_readBars, decode cX12_readBars x.1 = .ok x.2 := by decide +kernel
abbrev me_X12_readBars : Me := (RX12, il_X12_readBars, 7, none, xRoom 4, [])
def w_X12_readBars_132 (n : Nat) (L98 : Int32 → Int32 → Int32 → Int64 → Int32 → Mm → Prop) (x1 : Int32) (x2 : Int32) (x3 : Int32) (x4 : Int64) (x6 : Int32) (u0 : Mm) (Q : Mm → Prop) (T : Mm → Prop) : Prop :=
  w_X12_beginMeasure n x1 u0 (fun u1 =>
  w_X12_addTime n x4 u1 (fun u2 =>
  L98 x1 x2 x3 x4 (x6 + (1 : Int32)) u2) T) T
def w_X12_readBars_98 (n : Nat) (Q : Mm → Prop) (T : Mm → Prop) : Nat → Int32 → Int32 → Int32 → Int64 → Int32 → Mm → Prop
  | 0, _, _, _, _, _, _ => False
  | k + 1, x1, x2, x3, x4, x6, u0 =>
  (x3 ≤ x6 → w_X12_clearBar n u0 (fun u1 =>
  vp_in (u1.1 0 28) 3 ∧ (mlet (setI u1 23 (ix (u1.1 0 28)) x2) fun u2 =>
  Q u2)) T) ∧
  (¬ x3 ≤ x6 → (x6 ≤ 0 → w_X12_readBars_132 n (w_X12_readBars_98 n Q T k) x1 x2 x3 x4 x6 u0 Q T) ∧
  (¬ x6 ≤ 0 → vp_in (u0.1 0 28) 3 ∧ (mlet (setI u0 18 (ix (u0.1 0 28)) (vp_nar .boolean (0 : Int32))) fun u3 =>
  vp_in (u3.1 0 28) 3 ∧ (vp_in (u3.1 0 28) 3 ∧ (mlet (setI u3 17 (ix (u3.1 0 28)) ((u3.1 17 (ix (u3.1 0 28))) + (1 : Int32))) fun u4 =>
  w_X12_readBars_132 n (w_X12_readBars_98 n Q T k) x1 x2 x3 x4 x6 u4 Q T)))))
def w_X12_readBars_70 (n : Nat) (x1 : Int32) (x2 : Int32) (t0 : Int32) (u0 : Mm) (Q : Mm → Prop) (T : Mm → Prop) : Prop :=
  w_X12_set n x2 (3 : Int32) t0 u0 (fun u1 =>
  w_X12_meterTime n u1 (fun r1 u2 =>
  vp_in x2 400 ∧ (mlet (setJ u2 7 (ix x2) (r1 * t0.toInt64)) fun u3 =>
  (w_X12_readBars_98 n Q T n) x1 x2 t0 r1 (0 : Int32) u3)) T) T
def w_X12_readBars_28 (n : Nat) (x1 : Int32) (u0 : Mm) (Q : Mm → Prop) (T : Mm → Prop) : Prop :=
  w_X12_newThing n (3 : Int32) x1 u0 (fun r1 u1 =>
  mlet (setI u1 0 7 ((u1.1 0 7) + (1 : Int32))) fun u2 =>
  w_X12_here n u2 (fun r2 u3 =>
  w_X12_isDigit n r2 u3 (fun r3 u4 =>
  (r3 = 0 → w_X12_readBars_70 n x1 r1 (1 : Int32) u4 Q T) ∧
  (¬ r3 = 0 → w_X12_numberOf n (1 : Int32) (16 : Int32) (u4.1 0 7) u4 (fun r4 u5 =>
  w_X12_readBars_70 n x1 r1 r4 u5 Q T) T)) T) T) T
def w_X12_readBars (n : Nat) (u0 : Mm) (Q : Mm → Prop) (T : Mm → Prop) : Prop :=
  ilet (u0.1 0 7) fun y1 =>
  w_X12_beginMeasure n y1 u0 (fun u1 =>
  vp_in (u1.1 0 28) 3 ∧ ((¬ (u1.1 13 (ix (u1.1 0 28))) = 0 → w_X12_readBars_28 n y1 u1 Q T) ∧
  ((u1.1 13 (ix (u1.1 0 28))) = 0 → w_X12_fail n (1 : Int32) y1 u1 (fun u2 =>
  w_X12_readBars_28 n y1 u2 Q T) T))) T
set_option maxRecDepth 20000 in
theorem s_X12_readBars_132 {g : Gb} (hg : xInj g) {n : Nat} {Q : Mm → Prop} {T : Mm → Prop} {L98 : Int32 → Int32 → Int32 → Int64 → Int32 → Mm → Prop} (hL98 : ∀ (x1 : Int32) (x2 : Int32) (x3 : Int32) (x4 : Int64) (x6 : Int32) (u0 : Mm), L98 x1 x2 x3 x4 x6 u0 → xE g me_X12_readBars (pV g Q T) 98 [(0, .ref (gR g 0)), (1, .int x1), (2, .int x2), (3, .int x3), (4, .long x4), (6, .int x6)] [] u0) {x1 : Int32} {x2 : Int32} {x3 : Int32} {x4 : Int64} {x6 : Int32} {u0 : Mm} (h : w_X12_readBars_132 n L98 x1 x2 x3 x4 x6 u0 Q T) : xE g me_X12_readBars (pV g Q T) 132 [(0, .ref (gR g 0)), (1, .int x1), (2, .int x2), (3, .int x3), (4, .long x4), (6, .int x6)] [] u0 := by
  unfold w_X12_readBars_132 at h
  refine e_aload_n (k := 78) (i := 0) rfl rfl 0 rfl ?_
  refine e_iload_n (k := 79) (i := 1) rfl rfl 1 rfl ?_
  refine e_callVv (k := 80) (q := 0) (As := [.int x1]) (rest := []) rfl (c_X12_beginMeasure (g := g) hg (n := n) h) m_X12_beginMeasure i_X12_beginMeasure l_X12_391 rfl ⟨_, rfl, rfl⟩ rfl rfl (Nat.le_of_ble_eq_true rfl) ⟨by decide, by decide, rfl, rfl⟩ (fun _ h => ⟨fun _ z => (by cases z), Or.inr ⟨rfl, h⟩⟩) (fun u1 h => ?_)
  refine e_aload_n (k := 81) (i := 0) rfl rfl 0 rfl ?_
  refine e_lload (k := 82) (i := 4) rfl 4 rfl ?_
  refine e_callVv (k := 83) (q := 0) (As := [.long x4]) (rest := []) rfl (c_X12_addTime (g := g) hg (n := n) h) m_X12_addTime i_X12_addTime l_X12_419 rfl ⟨_, rfl, rfl⟩ rfl rfl (Nat.le_of_ble_eq_true rfl) ⟨by decide, by decide, rfl, rfl⟩ (fun _ h => ⟨fun _ z => (by cases z), Or.inr ⟨rfl, h⟩⟩) (fun u2 h => ?_)
  refine e_iinc (k := 84) (i := 6) (j := 5) (v := (x6 + (1 : Int32))) (lv' := [(0, .ref (gR g 0)), (1, .int x1), (2, .int x2), (3, .int x3), (4, .long x4), (6, .int (x6 + (1 : Int32)))]) rfl rfl rfl (by decide) [1, 2, 3, 4, 5, 0] rfl ?_
  refine e_goto (k := 85) (tgt := 98) rfl (by decide) ?_
  exact hL98 x1 x2 x3 x4 (x6 + (1 : Int32)) u2 h
set_option maxRecDepth 20000 in
theorem s_X12_readBars_98 {g : Gb} (hg : xInj g) {n : Nat} {Q : Mm → Prop} {T : Mm → Prop} : ∀ (k : Nat) (x1 : Int32) (x2 : Int32) (x3 : Int32) (x4 : Int64) (x6 : Int32) (u0 : Mm), w_X12_readBars_98 n Q T k x1 x2 x3 x4 x6 u0 → xE g me_X12_readBars (pV g Q T) 98 [(0, .ref (gR g 0)), (1, .int x1), (2, .int x2), (3, .int x3), (4, .long x4), (6, .int x6)] [] u0 := by
  intro k
  induction k with
  | zero => intro x1 x2 x3 x4 x6 u0 h; exact h.elim
  | succ k ih =>
    intro x1 x2 x3 x4 x6 u0 h
    unfold w_X12_readBars_98 at h
    refine e_iload (k := 58) (i := 6) rfl 5 rfl ?_
    refine e_iload_n (k := 59) (i := 3) rfl rfl 3 rfl ?_
    refine e_icmp_ge (k := 60) (tgt := 149) rfl (by decide) (fun z => ?_) (fun z => ?_)
    · have h := h.1 z
      refine e_aload_n (k := 86) (i := 0) rfl rfl 0 rfl ?_
      refine e_callVv (k := 87) (q := 0) (As := []) (rest := []) rfl (c_X12_clearBar (g := g) hg (n := n) h) m_X12_clearBar i_X12_clearBar l_X12_435 rfl ⟨_, rfl, rfl⟩ rfl rfl (Nat.le_of_ble_eq_true rfl) ⟨by decide, by decide, rfl, rfl⟩ (fun _ h => ⟨fun _ z => (by cases z), Or.inr ⟨rfl, h⟩⟩) (fun u1 h => ?_)
      refine e_aload_n (k := 88) (i := 0) rfl rfl 0 rfl ?_
      refine e_getC (k := 89) rfl f_X12_90 rfl rfl ?_
      refine e_aload_n (k := 90) (i := 0) rfl rfl 0 rfl ?_
      refine e_getI (k := 91) rfl f_X12_290 rfl rfl ?_
      refine e_iload_n (k := 92) (i := 2) rfl rfl 2 rfl ?_
      refine e_iast (k := 93) rfl rfl h.1 ?_
      have h := h.2
      refine e_mlet h (fun u2 h => ?_)
      exact e_vret (k := 94) rfl rfl (Or.inl ⟨rfl, h⟩)
    · have h := h.2 z
      refine e_iload (k := 61) (i := 6) rfl 5 rfl ?_
      refine e_if_le (k := 62) (tgt := 132) rfl (by decide) (fun z => ?_) (fun z => ?_)
      · have h := h.1 z
        exact s_X12_readBars_132 hg ih h
      · have h := h.2 z
        refine e_aload_n (k := 63) (i := 0) rfl rfl 0 rfl ?_
        refine e_getC (k := 64) rfl f_X12_75 rfl rfl ?_
        refine e_aload_n (k := 65) (i := 0) rfl rfl 0 rfl ?_
        refine e_getI (k := 66) rfl f_X12_290 rfl rfl ?_
        refine e_iconst (k := 67) (v := (0 : Int32)) rfl (by decide) ?_
        refine e_zast (k := 68) rfl rfl h.1 ?_
        have h := h.2
        refine e_mlet h (fun u3 h => ?_)
        refine e_aload_n (k := 69) (i := 0) rfl rfl 0 rfl ?_
        refine e_getC (k := 70) rfl f_X12_72 rfl rfl ?_
        refine e_aload_n (k := 71) (i := 0) rfl rfl 0 rfl ?_
        refine e_getI (k := 72) rfl f_X12_290 rfl rfl ?_
        refine e_dup2 (k := 73) rfl rfl rfl ?_
        refine e_iald (k := 74) rfl rfl h.1 ?_
        have h := h.2
        refine e_iconst (k := 75) (v := (1 : Int32)) rfl (by decide) ?_
        refine e_iadd (k := 76) rfl ?_
        refine e_iast (k := 77) rfl rfl h.1 ?_
        have h := h.2
        refine e_mlet h (fun u4 h => ?_)
        exact s_X12_readBars_132 hg ih h
set_option maxRecDepth 20000 in
theorem s_X12_readBars_70 {g : Gb} (hg : xInj g) {n : Nat} {Q : Mm → Prop} {T : Mm → Prop} {x1 : Int32} {x2 : Int32} {t0 : Int32} {u0 : Mm} (h : w_X12_readBars_70 n x1 x2 t0 u0 Q T) : xE g me_X12_readBars (pV g Q T) 70 [(0, .ref (gR g 0)), (1, .int x1), (2, .int x2)] [.int t0] u0 := by
  unfold w_X12_readBars_70 at h
  refine e_istore_n (k := 39) (i := 3) (lv' := [(0, .ref (gR g 0)), (1, .int x1), (2, .int x2), (3, .int t0)]) rfl rfl (by decide) [1, 2, 3, 0] rfl ?_
  refine e_aload_n (k := 40) (i := 0) rfl rfl 0 rfl ?_
  refine e_iload_n (k := 41) (i := 2) rfl rfl 2 rfl ?_
  refine e_iconst (k := 42) (v := (3 : Int32)) rfl (by decide) ?_
  refine e_iload_n (k := 43) (i := 3) rfl rfl 3 rfl ?_
  refine e_callVv (k := 44) (q := 0) (As := [.int x2, .int (3 : Int32), .int t0]) (rest := []) rfl (c_X12_set (g := g) hg (n := n) h) m_X12_set i_X12_set l_X12_286 rfl ⟨_, rfl, rfl⟩ rfl rfl (Nat.le_of_ble_eq_true rfl) ⟨by decide, by decide, rfl, rfl⟩ (fun _ h => ⟨fun _ z => (by cases z), Or.inr ⟨rfl, h⟩⟩) (fun u1 h => ?_)
  refine e_aload_n (k := 45) (i := 0) rfl rfl 0 rfl ?_
  refine e_callVl (k := 46) (q := 0) (As := []) (rest := []) rfl (c_X12_meterTime (g := g) hg (n := n) h) m_X12_meterTime i_X12_meterTime l_X12_369 rfl ⟨_, rfl, rfl⟩ rfl rfl (Nat.le_of_ble_eq_true rfl) ⟨by decide, by decide, rfl, rfl⟩ (fun _ h => ⟨fun _ z => (by cases z), Or.inr ⟨rfl, h⟩⟩) (fun r1 u2 h => ?_)
  refine e_lstore (k := 47) (i := 4) (lv' := [(0, .ref (gR g 0)), (1, .int x1), (2, .int x2), (3, .int t0), (4, .long r1)]) rfl (by decide) [1, 2, 3, 4, 0] rfl ?_
  refine e_aload_n (k := 48) (i := 0) rfl rfl 0 rfl ?_
  refine e_getC (k := 49) rfl f_X12_40 rfl rfl ?_
  refine e_iload_n (k := 50) (i := 2) rfl rfl 2 rfl ?_
  refine e_lload (k := 51) (i := 4) rfl 4 rfl ?_
  refine e_iload_n (k := 52) (i := 3) rfl rfl 3 rfl ?_
  refine e_i2l (k := 53) rfl ?_
  refine e_lmul (k := 54) rfl ?_
  refine e_last (k := 55) rfl rfl h.1 ?_
  have h := h.2
  refine e_mlet h (fun u3 h => ?_)
  refine e_iconst (k := 56) (v := (0 : Int32)) rfl (by decide) ?_
  refine e_istore (k := 57) (i := 6) (lv' := [(0, .ref (gR g 0)), (1, .int x1), (2, .int x2), (3, .int t0), (4, .long r1), (6, .int (0 : Int32))]) rfl (by decide) [1, 2, 3, 4, 5, 0] rfl ?_
  exact s_X12_readBars_98 hg n x1 x2 t0 r1 (0 : Int32) u3 h
set_option maxRecDepth 20000 in
theorem s_X12_readBars_28 {g : Gb} (hg : xInj g) {n : Nat} {Q : Mm → Prop} {T : Mm → Prop} {x1 : Int32} {u0 : Mm} (h : w_X12_readBars_28 n x1 u0 Q T) : xE g me_X12_readBars (pV g Q T) 28 [(0, .ref (gR g 0)), (1, .int x1)] [] u0 := by
  unfold w_X12_readBars_28 at h
  refine e_aload_n (k := 16) (i := 0) rfl rfl 0 rfl ?_
  refine e_iconst (k := 17) (v := (3 : Int32)) rfl (by decide) ?_
  refine e_iload_n (k := 18) (i := 1) rfl rfl 1 rfl ?_
  refine e_callVi (k := 19) (q := 0) (As := [.int (3 : Int32), .int x1]) (rest := []) rfl (c_X12_newThing (g := g) hg (n := n) h) m_X12_newThing i_X12_newThing l_X12_333 rfl ⟨_, rfl, rfl⟩ rfl rfl (Nat.le_of_ble_eq_true rfl) ⟨by decide, by decide, rfl, rfl⟩ (fun _ h => ⟨fun _ z => (by cases z), Or.inr ⟨rfl, h⟩⟩) (fun r1 u1 h => ?_)
  refine e_istore_n (k := 20) (i := 2) (lv' := [(0, .ref (gR g 0)), (1, .int x1), (2, .int r1)]) rfl rfl (by decide) [1, 2, 0] rfl ?_
  refine e_aload_n (k := 21) (i := 0) rfl rfl 0 rfl ?_
  refine e_dup (k := 22) rfl rfl ?_
  refine e_getI (k := 23) rfl f_X12_138 rfl rfl ?_
  refine e_iconst (k := 24) (v := (1 : Int32)) rfl (by decide) ?_
  refine e_iadd (k := 25) rfl ?_
  refine e_putI (k := 26) rfl fg_X12_138 rfl rfl ?_
  refine e_mlet h (fun u2 h => ?_)
  refine e_aload_n (k := 27) (i := 0) rfl rfl 0 rfl ?_
  refine e_callVi (k := 28) (q := 0) (As := []) (rest := []) rfl (c_X12_here (g := g) hg (n := n) h) m_X12_here i_X12_here l_X12_162 rfl ⟨_, rfl, rfl⟩ rfl rfl (Nat.le_of_ble_eq_true rfl) ⟨by decide, by decide, rfl, rfl⟩ (fun _ h => ⟨fun _ z => (by cases z), Or.inr ⟨rfl, h⟩⟩) (fun r2 u3 h => ?_)
  refine e_callSi (k := 29) (As := [.int r2]) (rest := []) rfl (c_X12_isDigit (g := g) hg (n := n) h) m_X12_isDigit st_X12_isDigit l_X12_182 rfl rfl (Nat.le_of_ble_eq_true rfl) ⟨by decide, by decide, rfl, rfl⟩ (fun _ h => ⟨fun _ z => (by cases z), Or.inr ⟨rfl, h⟩⟩) (fun r3 u4 h => ?_)
  refine e_if_eq (k := 30) (tgt := 69) rfl (by decide) (fun z => ?_) (fun z => ?_)
  · have h := h.1 z
    refine e_iconst (k := 38) (v := (1 : Int32)) rfl (by decide) ?_
    exact s_X12_readBars_70 hg h
  · have h := h.2 z
    refine e_aload_n (k := 31) (i := 0) rfl rfl 0 rfl ?_
    refine e_iconst (k := 32) (v := (1 : Int32)) rfl (by decide) ?_
    refine e_bipush (k := 33) (v := (16 : Int32)) rfl (by decide) ?_
    refine e_aload_n (k := 34) (i := 0) rfl rfl 0 rfl ?_
    refine e_getI (k := 35) rfl f_X12_138 rfl rfl ?_
    refine e_callVi (k := 36) (q := 0) (As := [.int (1 : Int32), .int (16 : Int32), .int (u4.1 0 7)]) (rest := []) rfl (c_X12_numberOf (g := g) hg (n := n) h) m_X12_numberOf i_X12_numberOf l_X12_207 rfl ⟨_, rfl, rfl⟩ rfl rfl (Nat.le_of_ble_eq_true rfl) ⟨by decide, by decide, rfl, rfl⟩ (fun _ h => ⟨fun _ z => (by cases z), Or.inr ⟨rfl, h⟩⟩) (fun r4 u5 h => ?_)
    refine e_goto (k := 37) (tgt := 70) rfl (by decide) ?_
    exact s_X12_readBars_70 hg h
set_option maxRecDepth 20000 in
theorem c_X12_readBars {g : Gb} (hg : xInj g) {n : Nat} {u0 : Mm} {Q : Mm → Prop} {T : Mm → Prop} (h : w_X12_readBars n u0 Q T) : xMet (gL g) yX12_readBars (xws yX12_readBars cX12_readBars 7 none) (xRoom 4) (xPc g [.ref (gR g 0)] u0) (xQ g (pV g Q T)) (xA g) := by
  refine xbody (il := il_X12_readBars) hg il_X12_readBars_ok m_X12_readBars (Nat.le_of_ble_eq_true rfl) ?_
  show xE g me_X12_readBars (pV g Q T) 0 [(0, .ref (gR g 0))] [] u0
  unfold w_X12_readBars at h
  refine e_aload_n (k := 0) (i := 0) rfl rfl 0 rfl ?_
  refine e_getI (k := 1) rfl f_X12_138 rfl rfl ?_
  refine e_ilet h (fun y1 h => ?_)
  refine e_istore_n (k := 2) (i := 1) (lv' := [(0, .ref (gR g 0)), (1, .int y1)]) rfl rfl (by decide) [1, 0] rfl ?_
  refine e_aload_n (k := 3) (i := 0) rfl rfl 0 rfl ?_
  refine e_iload_n (k := 4) (i := 1) rfl rfl 1 rfl ?_
  refine e_callVv (k := 5) (q := 0) (As := [.int y1]) (rest := []) rfl (c_X12_beginMeasure (g := g) hg (n := n) h) m_X12_beginMeasure i_X12_beginMeasure l_X12_391 rfl ⟨_, rfl, rfl⟩ rfl rfl (Nat.le_of_ble_eq_true rfl) ⟨by decide, by decide, rfl, rfl⟩ (fun _ h => ⟨fun _ z => (by cases z), Or.inr ⟨rfl, h⟩⟩) (fun u1 h => ?_)
  refine e_aload_n (k := 6) (i := 0) rfl rfl 0 rfl ?_
  refine e_getC (k := 7) rfl f_X12_60 rfl rfl ?_
  refine e_aload_n (k := 8) (i := 0) rfl rfl 0 rfl ?_
  refine e_getI (k := 9) rfl f_X12_290 rfl rfl ?_
  refine e_iald (k := 10) rfl rfl h.1 ?_
  have h := h.2
  refine e_if_ne (k := 11) (tgt := 28) rfl (by decide) (fun z => ?_) (fun z => ?_)
  · have h := h.1 z
    exact s_X12_readBars_28 hg h
  · have h := h.2 z
    refine e_aload_n (k := 12) (i := 0) rfl rfl 0 rfl ?_
    refine e_iconst (k := 13) (v := (1 : Int32)) rfl (by decide) ?_
    refine e_iload_n (k := 14) (i := 1) rfl rfl 1 rfl ?_
    refine e_callVv (k := 15) (q := 0) (As := [.int (1 : Int32), .int y1]) (rest := []) rfl (c_X12_fail (g := g) hg (n := n) h) m_X12_fail i_X12_fail l_X12_148 rfl ⟨_, rfl, rfl⟩ rfl rfl (Nat.le_of_ble_eq_true rfl) ⟨by decide, by decide, rfl, rfl⟩ (fun _ h => ⟨fun _ z => (by cases z), Or.inr ⟨rfl, h⟩⟩) (fun u2 h => ?_)
    exact s_X12_readBars_28 hg h
def il_X12_readNote : List (Nat × Instr × Nat) := [(0, .aload_n 0, 1), (1, .aload_n 0, 1), (2, .getfield 138, 3), (5, .putfield 317, 3), (8, .aload_n 0, 1), (9, .iconst 1, 1), (10, .putfield 320, 3), (13, .aload_n 0, 1), (14, .iconst 0, 1), (15, .putfield 324, 3), (18, .aload_n 0, 1), (19, .bipush 94, 2), (21, .invokevirtual 166, 3), (24, .ifCond .eq 59, 3), (27, .aload_n 0, 1), (28, .dup, 1), (29, .getfield 138, 3), (32, .iconst 1, 1), (33, .iadd, 1), (34, .putfield 138, 3), (37, .aload_n 0, 1), (38, .aload_n 0, 1), (39, .bipush 94, 2), (41, .invokevirtual 166, 3), (44, .ifCond .eq 7, 3), (47, .iconst 2, 1), (48, .goto 4, 3), (51, .iconst 1, 1), (52, .putfield 324, 3), (55, .aload_n 0, 1), (56, .aload_n 0, 1), (57, .getfield 324, 3), (60, .iconst 2, 1), (61, .if_icmp .ne 12, 3), (64, .aload_n 0, 1), (65, .getfield 138, 3), (68, .iconst 1, 1), (69, .iadd, 1), (70, .goto 7, 3), (73, .aload_n 0, 1), (74, .getfield 138, 3), (77, .putfield 138, 3), (80, .goto 97, 3), (83, .aload_n 0, 1), (84, .bipush 95, 2), (86, .invokevirtual 166, 3), (89, .ifCond .eq 61, 3), (92, .aload_n 0, 1), (93, .dup, 1), (94, .getfield 138, 3), (97, .iconst 1, 1), (98, .iadd, 1), (99, .putfield 138, 3), (102, .aload_n 0, 1), (103, .aload_n 0, 1), (104, .bipush 95, 2), (106, .invokevirtual 166, 3), (109, .ifCond .eq 8, 3), (112, .bipush (-2), 2), (114, .goto 4, 3), (117, .iconst (-1), 1), (118, .putfield 324, 3), (121, .aload_n 0, 1), (122, .aload_n 0, 1), (123, .getfield 324, 3), (126, .bipush (-2), 2), (128, .if_icmp .ne 12, 3), (131, .aload_n 0, 1), (132, .getfield 138, 3), (135, .iconst 1, 1), (136, .iadd, 1), (137, .goto 7, 3), (140, .aload_n 0, 1), (141, .getfield 138, 3), (144, .putfield 138, 3), (147, .goto 30, 3), (150, .aload_n 0, 1), (151, .bipush 61, 2), (153, .invokevirtual 166, 3), (156, .ifCond .eq 16, 3), (159, .aload_n 0, 1), (160, .dup, 1), (161, .getfield 138, 3), (164, .iconst 1, 1), (165, .iadd, 1), (166, .putfield 138, 3), (169, .goto 8, 3), (172, .aload_n 0, 1), (173, .iconst 0, 1), (174, .putfield 320, 3), (177, .aload_n 0, 1), (178, .invokevirtual 162, 3), (181, .istore_n 1, 1), (182, .iload_n 1, 1), (183, .invokestatic 314, 3), (186, .ifCond .ne 12, 3), (189, .aload_n 0, 1), (190, .iconst 1, 1), (191, .aload_n 0, 1), (192, .getfield 138, 3), (195, .invokevirtual 148, 3), (198, .iload_n 1, 1), (199, .i2l, 1), (200, .ldc2_w 178, 3), (203, .ldc2_w 312, 3), (206, .invokestatic 125, 3), (209, .ifCond .eq 10, 3), (212, .iload_n 1, 1), (213, .bipush 32, 2), (215, .isub, 1), (216, .goto 4, 3), (219, .iload_n 1, 1), (220, .istore_n 2, 1), (221, .aload_n 0, 1), (222, .iload_n 2, 1), (223, .bipush 67, 2), (225, .if_icmp .lt 10, 3), (228, .iload_n 2, 1), (229, .bipush 67, 2), (231, .isub, 1), (232, .goto 9, 3), (235, .iload_n 2, 1), (236, .bipush 65, 2), (238, .isub, 1), (239, .iconst 5, 1), (240, .iadd, 1), (241, .putfield 327, 3), (244, .aload_n 0, 1), (245, .iload_n 1, 1), (246, .iload_n 2, 1), (247, .if_icmp .ne 7, 3), (250, .iconst 4, 1), (251, .goto 4, 3), (254, .iconst 5, 1), (255, .putfield 330, 3), (258, .aload_n 0, 1), (259, .dup, 1), (260, .getfield 138, 3), (263, .iconst 1, 1), (264, .iadd, 1), (265, .putfield 138, 3), (268, .aload_n 0, 1), (269, .bipush 39, 2), (271, .invokevirtual 166, 3), (274, .ifCond .ne 12, 3), (277, .aload_n 0, 1), (278, .bipush 44, 2), (280, .invokevirtual 166, 3), (283, .ifCond .eq 44, 3), (286, .aload_n 0, 1), (287, .aload_n 0, 1), (288, .bipush 44, 2), (290, .invokevirtual 166, 3), (293, .ifCond .eq 12, 3), (296, .aload_n 0, 1), (297, .getfield 330, 3), (300, .iconst 1, 1), (301, .isub, 1), (302, .goto 9, 3), (305, .aload_n 0, 1), (306, .getfield 330, 3), (309, .iconst 1, 1), (310, .iadd, 1), (311, .putfield 330, 3), (314, .aload_n 0, 1), (315, .dup, 1), (316, .getfield 138, 3), (319, .iconst 1, 1), (320, .iadd, 1), (321, .putfield 138, 3), (324, .goto (-56), 3), (327, .return_, 1)]
set_option maxRecDepth 20000 in
theorem il_X12_readNote_ok : ∀ x ∈ il_X12_readNote, decode cX12_readNote x.1 = .ok x.2 := by decide +kernel
abbrev me_X12_readNote : Me := (RX12, il_X12_readNote, 3, none, xRoom 4, [])
def w_X12_readNote_311 (n : Nat) (L268 : Mm → Prop) (t0 : Int32) (u0 : Mm) (Q : Mm → Prop) (T : Mm → Prop) : Prop :=
  mlet (setI u0 0 57 t0) fun u1 =>
  mlet (setI u1 0 7 ((u1.1 0 7) + (1 : Int32))) fun u2 =>
  L268 u2
def w_X12_readNote_286 (n : Nat) (L268 : Mm → Prop) (u0 : Mm) (Q : Mm → Prop) (T : Mm → Prop) : Prop :=
  w_X12_is n (44 : Int32) u0 (fun r1 u1 =>
  (r1 = 0 → w_X12_readNote_311 n L268 ((u1.1 0 57) + (1 : Int32)) u1 Q T) ∧
  (¬ r1 = 0 → w_X12_readNote_311 n L268 ((u1.1 0 57) - (1 : Int32)) u1 Q T)) T
def w_X12_readNote_268 (n : Nat) (Q : Mm → Prop) (T : Mm → Prop) : Nat → Mm → Prop
  | 0, _ => False
  | k + 1, u0 =>
  w_X12_is n (39 : Int32) u0 (fun r1 u1 =>
  (¬ r1 = 0 → w_X12_readNote_286 n (w_X12_readNote_268 n Q T k) u1 Q T) ∧
  (r1 = 0 → w_X12_is n (44 : Int32) u1 (fun r2 u2 =>
  (r2 = 0 → Q u2) ∧
  (¬ r2 = 0 → w_X12_readNote_286 n (w_X12_readNote_268 n Q T k) u2 Q T)) T)) T
def w_X12_readNote_255 (n : Nat) (t0 : Int32) (u0 : Mm) (Q : Mm → Prop) (T : Mm → Prop) : Prop :=
  mlet (setI u0 0 57 t0) fun u1 =>
  mlet (setI u1 0 7 ((u1.1 0 7) + (1 : Int32))) fun u2 =>
  (w_X12_readNote_268 n Q T n) u2
def w_X12_readNote_241 (n : Nat) (x1 : Int32) (x2 : Int32) (t0 : Int32) (u0 : Mm) (Q : Mm → Prop) (T : Mm → Prop) : Prop :=
  mlet (setI u0 0 56 t0) fun u1 =>
  (¬ x1 = x2 → w_X12_readNote_255 n (5 : Int32) u1 Q T) ∧
  (x1 = x2 → w_X12_readNote_255 n (4 : Int32) u1 Q T)
def w_X12_readNote_220 (n : Nat) (x1 : Int32) (t0 : Int32) (u0 : Mm) (Q : Mm → Prop) (T : Mm → Prop) : Prop :=
  (t0 < (67 : Int32) → w_X12_readNote_241 n x1 t0 ((t0 - (65 : Int32)) + (5 : Int32)) u0 Q T) ∧
  (¬ t0 < (67 : Int32) → w_X12_readNote_241 n x1 t0 (t0 - (67 : Int32)) u0 Q T)
def w_X12_readNote_198 (n : Nat) (x1 : Int32) (u0 : Mm) (Q : Mm → Prop) (T : Mm → Prop) : Prop :=
  w_X12_in n (x1.toInt64) (97 : Int64) (103 : Int64) u0 (fun r1 u1 =>
  (r1 = 0 → w_X12_readNote_220 n x1 x1 u1 Q T) ∧
  (¬ r1 = 0 → w_X12_readNote_220 n x1 (x1 - (32 : Int32)) u1 Q T)) T
def w_X12_readNote_177 (n : Nat) (u0 : Mm) (Q : Mm → Prop) (T : Mm → Prop) : Prop :=
  w_X12_here n u0 (fun r1 u1 =>
  w_X12_isNoteLetter n r1 u1 (fun r2 u2 =>
  (¬ r2 = 0 → w_X12_readNote_198 n r1 u2 Q T) ∧
  (r2 = 0 → w_X12_fail n (1 : Int32) (u2.1 0 7) u2 (fun u3 =>
  w_X12_readNote_198 n r1 u3 Q T) T)) T) T
def w_X12_readNote_144 (n : Nat) (t0 : Int32) (u0 : Mm) (Q : Mm → Prop) (T : Mm → Prop) : Prop :=
  mlet (setI u0 0 7 t0) fun u1 =>
  w_X12_readNote_177 n u1 Q T
def w_X12_readNote_118 (n : Nat) (t0 : Int32) (u0 : Mm) (Q : Mm → Prop) (T : Mm → Prop) : Prop :=
  mlet (setI u0 0 54 t0) fun u1 =>
  (¬ (u1.1 0 54) = (-2 : Int32) → w_X12_readNote_144 n (u1.1 0 7) u1 Q T) ∧
  ((u1.1 0 54) = (-2 : Int32) → w_X12_readNote_144 n ((u1.1 0 7) + (1 : Int32)) u1 Q T)
def w_X12_readNote_77 (n : Nat) (t0 : Int32) (u0 : Mm) (Q : Mm → Prop) (T : Mm → Prop) : Prop :=
  mlet (setI u0 0 7 t0) fun u1 =>
  w_X12_readNote_177 n u1 Q T
def w_X12_readNote_52 (n : Nat) (t0 : Int32) (u0 : Mm) (Q : Mm → Prop) (T : Mm → Prop) : Prop :=
  mlet (setI u0 0 54 t0) fun u1 =>
  (¬ (u1.1 0 54) = (2 : Int32) → w_X12_readNote_77 n (u1.1 0 7) u1 Q T) ∧
  ((u1.1 0 54) = (2 : Int32) → w_X12_readNote_77 n ((u1.1 0 7) + (1 : Int32)) u1 Q T)
def w_X12_readNote (n : Nat) (u0 : Mm) (Q : Mm → Prop) (T : Mm → Prop) : Prop :=
  mlet (setI u0 0 58 (u0.1 0 7)) fun u1 =>
  mlet (setI u1 0 55 (1 : Int32)) fun u2 =>
  mlet (setI u2 0 54 (0 : Int32)) fun u3 =>
  w_X12_is n (94 : Int32) u3 (fun r1 u4 =>
  (r1 = 0 → w_X12_is n (95 : Int32) u4 (fun r2 u5 =>
  (r2 = 0 → w_X12_is n (61 : Int32) u5 (fun r3 u6 =>
  (r3 = 0 → mlet (setI u6 0 55 (0 : Int32)) fun u7 =>
  w_X12_readNote_177 n u7 Q T) ∧
  (¬ r3 = 0 → mlet (setI u6 0 7 ((u6.1 0 7) + (1 : Int32))) fun u8 =>
  w_X12_readNote_177 n u8 Q T)) T) ∧
  (¬ r2 = 0 → mlet (setI u5 0 7 ((u5.1 0 7) + (1 : Int32))) fun u9 =>
  w_X12_is n (95 : Int32) u9 (fun r4 u10 =>
  (r4 = 0 → w_X12_readNote_118 n (-1 : Int32) u10 Q T) ∧
  (¬ r4 = 0 → w_X12_readNote_118 n (-2 : Int32) u10 Q T)) T)) T) ∧
  (¬ r1 = 0 → mlet (setI u4 0 7 ((u4.1 0 7) + (1 : Int32))) fun u11 =>
  w_X12_is n (94 : Int32) u11 (fun r5 u12 =>
  (r5 = 0 → w_X12_readNote_52 n (1 : Int32) u12 Q T) ∧
  (¬ r5 = 0 → w_X12_readNote_52 n (2 : Int32) u12 Q T)) T)) T
set_option maxRecDepth 20000 in
theorem s_X12_readNote_311 {g : Gb} (hg : xInj g) {n : Nat} {Q : Mm → Prop} {T : Mm → Prop} {L268 : Mm → Prop} (hL268 : ∀ (u0 : Mm), L268  u0 → xE g me_X12_readNote (pV g Q T) 268 [(0, .ref (gR g 0))] [] u0) {t0 : Int32} {u0 : Mm} (h : w_X12_readNote_311 n L268 t0 u0 Q T) : xE g me_X12_readNote (pV g Q T) 311 [(0, .ref (gR g 0))] [.int t0, .ref (gR g 0)] u0 := by
  unfold w_X12_readNote_311 at h
  refine e_putI (k := 163) rfl fg_X12_330 rfl rfl ?_
  refine e_mlet h (fun u1 h => ?_)
  refine e_aload_n (k := 164) (i := 0) rfl rfl 0 rfl ?_
  refine e_dup (k := 165) rfl rfl ?_
  refine e_getI (k := 166) rfl f_X12_138 rfl rfl ?_
  refine e_iconst (k := 167) (v := (1 : Int32)) rfl (by decide) ?_
  refine e_iadd (k := 168) rfl ?_
  refine e_putI (k := 169) rfl fg_X12_138 rfl rfl ?_
  refine e_mlet h (fun u2 h => ?_)
  refine e_goto (k := 170) (tgt := 268) rfl (by decide) ?_
  exact hL268 u2 h
set_option maxRecDepth 20000 in
theorem s_X12_readNote_286 {g : Gb} (hg : xInj g) {n : Nat} {Q : Mm → Prop} {T : Mm → Prop} {L268 : Mm → Prop} (hL268 : ∀ (u0 : Mm), L268  u0 → xE g me_X12_readNote (pV g Q T) 268 [(0, .ref (gR g 0))] [] u0) {u0 : Mm} (h : w_X12_readNote_286 n L268  u0 Q T) : xE g me_X12_readNote (pV g Q T) 286 [(0, .ref (gR g 0))] [] u0 := by
  unfold w_X12_readNote_286 at h
  refine e_aload_n (k := 149) (i := 0) rfl rfl 0 rfl ?_
  refine e_aload_n (k := 150) (i := 0) rfl rfl 0 rfl ?_
  refine e_bipush (k := 151) (v := (44 : Int32)) rfl (by decide) ?_
  refine e_callVi (k := 152) (q := 0) (As := [.int (44 : Int32)]) (rest := [.ref (gR g 0)]) rfl (c_X12_is (g := g) hg (n := n) h) m_X12_is i_X12_is l_X12_166 rfl ⟨_, rfl, rfl⟩ rfl rfl (Nat.le_of_ble_eq_true rfl) ⟨by decide, by decide, rfl, rfl⟩ (fun _ h => ⟨fun _ z => (by cases z), Or.inr ⟨rfl, h⟩⟩) (fun r1 u1 h => ?_)
  refine e_if_eq (k := 153) (tgt := 305) rfl (by decide) (fun z => ?_) (fun z => ?_)
  · have h := h.1 z
    refine e_aload_n (k := 159) (i := 0) rfl rfl 0 rfl ?_
    refine e_getI (k := 160) rfl f_X12_330 rfl rfl ?_
    refine e_iconst (k := 161) (v := (1 : Int32)) rfl (by decide) ?_
    refine e_iadd (k := 162) rfl ?_
    exact s_X12_readNote_311 hg hL268 h
  · have h := h.2 z
    refine e_aload_n (k := 154) (i := 0) rfl rfl 0 rfl ?_
    refine e_getI (k := 155) rfl f_X12_330 rfl rfl ?_
    refine e_iconst (k := 156) (v := (1 : Int32)) rfl (by decide) ?_
    refine e_isub (k := 157) rfl ?_
    refine e_goto (k := 158) (tgt := 311) rfl (by decide) ?_
    exact s_X12_readNote_311 hg hL268 h
set_option maxRecDepth 20000 in
theorem s_X12_readNote_268 {g : Gb} (hg : xInj g) {n : Nat} {Q : Mm → Prop} {T : Mm → Prop} : ∀ (k : Nat) (u0 : Mm), w_X12_readNote_268 n Q T k  u0 → xE g me_X12_readNote (pV g Q T) 268 [(0, .ref (gR g 0))] [] u0 := by
  intro k
  induction k with
  | zero => intro  u0 h; exact h.elim
  | succ k ih =>
    intro  u0 h
    unfold w_X12_readNote_268 at h
    refine e_aload_n (k := 141) (i := 0) rfl rfl 0 rfl ?_
    refine e_bipush (k := 142) (v := (39 : Int32)) rfl (by decide) ?_
    refine e_callVi (k := 143) (q := 0) (As := [.int (39 : Int32)]) (rest := []) rfl (c_X12_is (g := g) hg (n := n) h) m_X12_is i_X12_is l_X12_166 rfl ⟨_, rfl, rfl⟩ rfl rfl (Nat.le_of_ble_eq_true rfl) ⟨by decide, by decide, rfl, rfl⟩ (fun _ h => ⟨fun _ z => (by cases z), Or.inr ⟨rfl, h⟩⟩) (fun r1 u1 h => ?_)
    refine e_if_ne (k := 144) (tgt := 286) rfl (by decide) (fun z => ?_) (fun z => ?_)
    · have h := h.1 z
      exact s_X12_readNote_286 hg ih h
    · have h := h.2 z
      refine e_aload_n (k := 145) (i := 0) rfl rfl 0 rfl ?_
      refine e_bipush (k := 146) (v := (44 : Int32)) rfl (by decide) ?_
      refine e_callVi (k := 147) (q := 0) (As := [.int (44 : Int32)]) (rest := []) rfl (c_X12_is (g := g) hg (n := n) h) m_X12_is i_X12_is l_X12_166 rfl ⟨_, rfl, rfl⟩ rfl rfl (Nat.le_of_ble_eq_true rfl) ⟨by decide, by decide, rfl, rfl⟩ (fun _ h => ⟨fun _ z => (by cases z), Or.inr ⟨rfl, h⟩⟩) (fun r2 u2 h => ?_)
      refine e_if_eq (k := 148) (tgt := 327) rfl (by decide) (fun z => ?_) (fun z => ?_)
      · have h := h.1 z
        exact e_vret (k := 171) rfl rfl (Or.inl ⟨rfl, h⟩)
      · have h := h.2 z
        exact s_X12_readNote_286 hg ih h
set_option maxRecDepth 20000 in
theorem s_X12_readNote_255 {g : Gb} (hg : xInj g) {n : Nat} {Q : Mm → Prop} {T : Mm → Prop} {t0 : Int32} {u0 : Mm} (h : w_X12_readNote_255 n t0 u0 Q T) : xE g me_X12_readNote (pV g Q T) 255 [(0, .ref (gR g 0))] [.int t0, .ref (gR g 0)] u0 := by
  unfold w_X12_readNote_255 at h
  refine e_putI (k := 134) rfl fg_X12_330 rfl rfl ?_
  refine e_mlet h (fun u1 h => ?_)
  refine e_aload_n (k := 135) (i := 0) rfl rfl 0 rfl ?_
  refine e_dup (k := 136) rfl rfl ?_
  refine e_getI (k := 137) rfl f_X12_138 rfl rfl ?_
  refine e_iconst (k := 138) (v := (1 : Int32)) rfl (by decide) ?_
  refine e_iadd (k := 139) rfl ?_
  refine e_putI (k := 140) rfl fg_X12_138 rfl rfl ?_
  refine e_mlet h (fun u2 h => ?_)
  exact s_X12_readNote_268 hg n u2 h
set_option maxRecDepth 20000 in
theorem s_X12_readNote_241 {g : Gb} (hg : xInj g) {n : Nat} {Q : Mm → Prop} {T : Mm → Prop} {x1 : Int32} {x2 : Int32} {t0 : Int32} {u0 : Mm} (h : w_X12_readNote_241 n x1 x2 t0 u0 Q T) : xE g me_X12_readNote (pV g Q T) 241 [(0, .ref (gR g 0)), (1, .int x1), (2, .int x2)] [.int t0, .ref (gR g 0)] u0 := by
  unfold w_X12_readNote_241 at h
  refine e_putI (k := 126) rfl fg_X12_327 rfl rfl ?_
  refine e_mlet h (fun u1 h => ?_)
  refine e_aload_n (k := 127) (i := 0) rfl rfl 0 rfl ?_
  refine e_iload_n (k := 128) (i := 1) rfl rfl 1 rfl ?_
  refine e_iload_n (k := 129) (i := 2) rfl rfl 2 rfl ?_
  refine e_icmp_ne (k := 130) (tgt := 254) rfl (by decide) (fun z => ?_) (fun z => ?_)
  · have h := h.1 z
    refine e_iconst (k := 133) (v := (5 : Int32)) rfl (by decide) ?_
    refine e_sub (lv' := [(0, .ref (gR g 0))]) [0] rfl ?_
    exact s_X12_readNote_255 hg h
  · have h := h.2 z
    refine e_iconst (k := 131) (v := (4 : Int32)) rfl (by decide) ?_
    refine e_goto (k := 132) (tgt := 255) rfl (by decide) ?_
    refine e_sub (lv' := [(0, .ref (gR g 0))]) [0] rfl ?_
    exact s_X12_readNote_255 hg h
set_option maxRecDepth 20000 in
theorem s_X12_readNote_220 {g : Gb} (hg : xInj g) {n : Nat} {Q : Mm → Prop} {T : Mm → Prop} {x1 : Int32} {t0 : Int32} {u0 : Mm} (h : w_X12_readNote_220 n x1 t0 u0 Q T) : xE g me_X12_readNote (pV g Q T) 220 [(0, .ref (gR g 0)), (1, .int x1)] [.int t0] u0 := by
  unfold w_X12_readNote_220 at h
  refine e_istore_n (k := 112) (i := 2) (lv' := [(0, .ref (gR g 0)), (1, .int x1), (2, .int t0)]) rfl rfl (by decide) [1, 2, 0] rfl ?_
  refine e_aload_n (k := 113) (i := 0) rfl rfl 0 rfl ?_
  refine e_iload_n (k := 114) (i := 2) rfl rfl 2 rfl ?_
  refine e_bipush (k := 115) (v := (67 : Int32)) rfl (by decide) ?_
  refine e_icmp_lt (k := 116) (tgt := 235) rfl (by decide) (fun z => ?_) (fun z => ?_)
  · have h := h.1 z
    refine e_iload_n (k := 121) (i := 2) rfl rfl 2 rfl ?_
    refine e_bipush (k := 122) (v := (65 : Int32)) rfl (by decide) ?_
    refine e_isub (k := 123) rfl ?_
    refine e_iconst (k := 124) (v := (5 : Int32)) rfl (by decide) ?_
    refine e_iadd (k := 125) rfl ?_
    exact s_X12_readNote_241 hg h
  · have h := h.2 z
    refine e_iload_n (k := 117) (i := 2) rfl rfl 2 rfl ?_
    refine e_bipush (k := 118) (v := (67 : Int32)) rfl (by decide) ?_
    refine e_isub (k := 119) rfl ?_
    refine e_goto (k := 120) (tgt := 241) rfl (by decide) ?_
    exact s_X12_readNote_241 hg h
set_option maxRecDepth 20000 in
theorem s_X12_readNote_198 {g : Gb} (hg : xInj g) {n : Nat} {Q : Mm → Prop} {T : Mm → Prop} {x1 : Int32} {u0 : Mm} (h : w_X12_readNote_198 n x1 u0 Q T) : xE g me_X12_readNote (pV g Q T) 198 [(0, .ref (gR g 0)), (1, .int x1)] [] u0 := by
  unfold w_X12_readNote_198 at h
  refine e_iload_n (k := 101) (i := 1) rfl rfl 1 rfl ?_
  refine e_i2l (k := 102) rfl ?_
  refine e_ldc2 (k := 103) rfl k_X12_178 ?_
  refine e_ldc2 (k := 104) rfl k_X12_312 ?_
  refine e_callSi (k := 105) (As := [.long x1.toInt64, .long (97 : Int64), .long (103 : Int64)]) (rest := []) rfl (c_X12_in (g := g) hg (n := n) h) m_X12_in st_X12_in l_X12_125 rfl rfl (Nat.le_of_ble_eq_true rfl) ⟨by decide, by decide, rfl, rfl⟩ (fun _ h => ⟨fun _ z => (by cases z), Or.inr ⟨rfl, h⟩⟩) (fun r1 u1 h => ?_)
  refine e_if_eq (k := 106) (tgt := 219) rfl (by decide) (fun z => ?_) (fun z => ?_)
  · have h := h.1 z
    refine e_iload_n (k := 111) (i := 1) rfl rfl 1 rfl ?_
    exact s_X12_readNote_220 hg h
  · have h := h.2 z
    refine e_iload_n (k := 107) (i := 1) rfl rfl 1 rfl ?_
    refine e_bipush (k := 108) (v := (32 : Int32)) rfl (by decide) ?_
    refine e_isub (k := 109) rfl ?_
    refine e_goto (k := 110) (tgt := 220) rfl (by decide) ?_
    exact s_X12_readNote_220 hg h
set_option maxRecDepth 20000 in
theorem s_X12_readNote_177 {g : Gb} (hg : xInj g) {n : Nat} {Q : Mm → Prop} {T : Mm → Prop} {u0 : Mm} (h : w_X12_readNote_177 n  u0 Q T) : xE g me_X12_readNote (pV g Q T) 177 [(0, .ref (gR g 0))] [] u0 := by
  unfold w_X12_readNote_177 at h
  refine e_aload_n (k := 90) (i := 0) rfl rfl 0 rfl ?_
  refine e_callVi (k := 91) (q := 0) (As := []) (rest := []) rfl (c_X12_here (g := g) hg (n := n) h) m_X12_here i_X12_here l_X12_162 rfl ⟨_, rfl, rfl⟩ rfl rfl (Nat.le_of_ble_eq_true rfl) ⟨by decide, by decide, rfl, rfl⟩ (fun _ h => ⟨fun _ z => (by cases z), Or.inr ⟨rfl, h⟩⟩) (fun r1 u1 h => ?_)
  refine e_istore_n (k := 92) (i := 1) (lv' := [(0, .ref (gR g 0)), (1, .int r1)]) rfl rfl (by decide) [1, 0] rfl ?_
  refine e_iload_n (k := 93) (i := 1) rfl rfl 1 rfl ?_
  refine e_callSi (k := 94) (As := [.int r1]) (rest := []) rfl (c_X12_isNoteLetter (g := g) hg (n := n) h) m_X12_isNoteLetter st_X12_isNoteLetter l_X12_314 rfl rfl (Nat.le_of_ble_eq_true rfl) ⟨by decide, by decide, rfl, rfl⟩ (fun _ h => ⟨fun _ z => (by cases z), Or.inr ⟨rfl, h⟩⟩) (fun r2 u2 h => ?_)
  refine e_if_ne (k := 95) (tgt := 198) rfl (by decide) (fun z => ?_) (fun z => ?_)
  · have h := h.1 z
    exact s_X12_readNote_198 hg h
  · have h := h.2 z
    refine e_aload_n (k := 96) (i := 0) rfl rfl 0 rfl ?_
    refine e_iconst (k := 97) (v := (1 : Int32)) rfl (by decide) ?_
    refine e_aload_n (k := 98) (i := 0) rfl rfl 0 rfl ?_
    refine e_getI (k := 99) rfl f_X12_138 rfl rfl ?_
    refine e_callVv (k := 100) (q := 0) (As := [.int (1 : Int32), .int (u2.1 0 7)]) (rest := []) rfl (c_X12_fail (g := g) hg (n := n) h) m_X12_fail i_X12_fail l_X12_148 rfl ⟨_, rfl, rfl⟩ rfl rfl (Nat.le_of_ble_eq_true rfl) ⟨by decide, by decide, rfl, rfl⟩ (fun _ h => ⟨fun _ z => (by cases z), Or.inr ⟨rfl, h⟩⟩) (fun u3 h => ?_)
    exact s_X12_readNote_198 hg h
set_option maxRecDepth 20000 in
theorem s_X12_readNote_144 {g : Gb} (hg : xInj g) {n : Nat} {Q : Mm → Prop} {T : Mm → Prop} {t0 : Int32} {u0 : Mm} (h : w_X12_readNote_144 n t0 u0 Q T) : xE g me_X12_readNote (pV g Q T) 144 [(0, .ref (gR g 0))] [.int t0, .ref (gR g 0)] u0 := by
  unfold w_X12_readNote_144 at h
  refine e_putI (k := 74) rfl fg_X12_138 rfl rfl ?_
  refine e_mlet h (fun u1 h => ?_)
  refine e_goto (k := 75) (tgt := 177) rfl (by decide) ?_
  exact s_X12_readNote_177 hg h
set_option maxRecDepth 20000 in
theorem s_X12_readNote_118 {g : Gb} (hg : xInj g) {n : Nat} {Q : Mm → Prop} {T : Mm → Prop} {t0 : Int32} {u0 : Mm} (h : w_X12_readNote_118 n t0 u0 Q T) : xE g me_X12_readNote (pV g Q T) 118 [(0, .ref (gR g 0))] [.int t0, .ref (gR g 0)] u0 := by
  unfold w_X12_readNote_118 at h
  refine e_putI (k := 61) rfl fg_X12_324 rfl rfl ?_
  refine e_mlet h (fun u1 h => ?_)
  refine e_aload_n (k := 62) (i := 0) rfl rfl 0 rfl ?_
  refine e_aload_n (k := 63) (i := 0) rfl rfl 0 rfl ?_
  refine e_getI (k := 64) rfl f_X12_324 rfl rfl ?_
  refine e_bipush (k := 65) (v := (-2 : Int32)) rfl (by decide) ?_
  refine e_icmp_ne (k := 66) (tgt := 140) rfl (by decide) (fun z => ?_) (fun z => ?_)
  · have h := h.1 z
    refine e_aload_n (k := 72) (i := 0) rfl rfl 0 rfl ?_
    refine e_getI (k := 73) rfl f_X12_138 rfl rfl ?_
    exact s_X12_readNote_144 hg h
  · have h := h.2 z
    refine e_aload_n (k := 67) (i := 0) rfl rfl 0 rfl ?_
    refine e_getI (k := 68) rfl f_X12_138 rfl rfl ?_
    refine e_iconst (k := 69) (v := (1 : Int32)) rfl (by decide) ?_
    refine e_iadd (k := 70) rfl ?_
    refine e_goto (k := 71) (tgt := 144) rfl (by decide) ?_
    exact s_X12_readNote_144 hg h
set_option maxRecDepth 20000 in
theorem s_X12_readNote_77 {g : Gb} (hg : xInj g) {n : Nat} {Q : Mm → Prop} {T : Mm → Prop} {t0 : Int32} {u0 : Mm} (h : w_X12_readNote_77 n t0 u0 Q T) : xE g me_X12_readNote (pV g Q T) 77 [(0, .ref (gR g 0))] [.int t0, .ref (gR g 0)] u0 := by
  unfold w_X12_readNote_77 at h
  refine e_putI (k := 41) rfl fg_X12_138 rfl rfl ?_
  refine e_mlet h (fun u1 h => ?_)
  refine e_goto (k := 42) (tgt := 177) rfl (by decide) ?_
  exact s_X12_readNote_177 hg h
set_option maxRecDepth 20000 in
theorem s_X12_readNote_52 {g : Gb} (hg : xInj g) {n : Nat} {Q : Mm → Prop} {T : Mm → Prop} {t0 : Int32} {u0 : Mm} (h : w_X12_readNote_52 n t0 u0 Q T) : xE g me_X12_readNote (pV g Q T) 52 [(0, .ref (gR g 0))] [.int t0, .ref (gR g 0)] u0 := by
  unfold w_X12_readNote_52 at h
  refine e_putI (k := 28) rfl fg_X12_324 rfl rfl ?_
  refine e_mlet h (fun u1 h => ?_)
  refine e_aload_n (k := 29) (i := 0) rfl rfl 0 rfl ?_
  refine e_aload_n (k := 30) (i := 0) rfl rfl 0 rfl ?_
  refine e_getI (k := 31) rfl f_X12_324 rfl rfl ?_
  refine e_iconst (k := 32) (v := (2 : Int32)) rfl (by decide) ?_
  refine e_icmp_ne (k := 33) (tgt := 73) rfl (by decide) (fun z => ?_) (fun z => ?_)
  · have h := h.1 z
    refine e_aload_n (k := 39) (i := 0) rfl rfl 0 rfl ?_
    refine e_getI (k := 40) rfl f_X12_138 rfl rfl ?_
    exact s_X12_readNote_77 hg h
  · have h := h.2 z
    refine e_aload_n (k := 34) (i := 0) rfl rfl 0 rfl ?_
    refine e_getI (k := 35) rfl f_X12_138 rfl rfl ?_
    refine e_iconst (k := 36) (v := (1 : Int32)) rfl (by decide) ?_
    refine e_iadd (k := 37) rfl ?_
    refine e_goto (k := 38) (tgt := 77) rfl (by decide) ?_
    exact s_X12_readNote_77 hg h
set_option maxRecDepth 20000 in
theorem c_X12_readNote {g : Gb} (hg : xInj g) {n : Nat} {u0 : Mm} {Q : Mm → Prop} {T : Mm → Prop} (h : w_X12_readNote n u0 Q T) : xMet (gL g) yX12_readNote (xws yX12_readNote cX12_readNote 3 none) (xRoom 4) (xPc g [.ref (gR g 0)] u0) (xQ g (pV g Q T)) (xA g) := by
  refine xbody (il := il_X12_readNote) hg il_X12_readNote_ok m_X12_readNote (Nat.le_of_ble_eq_true rfl) ?_
  show xE g me_X12_readNote (pV g Q T) 0 [(0, .ref (gR g 0))] [] u0
  unfold w_X12_readNote at h
  refine e_aload_n (k := 0) (i := 0) rfl rfl 0 rfl ?_
  refine e_aload_n (k := 1) (i := 0) rfl rfl 0 rfl ?_
  refine e_getI (k := 2) rfl f_X12_138 rfl rfl ?_
  refine e_putI (k := 3) rfl fg_X12_317 rfl rfl ?_
  refine e_mlet h (fun u1 h => ?_)
  refine e_aload_n (k := 4) (i := 0) rfl rfl 0 rfl ?_
  refine e_iconst (k := 5) (v := (1 : Int32)) rfl (by decide) ?_
  refine e_putZ (k := 6) rfl fg_X12_320 rfl rfl (Or.inr rfl) ?_
  refine e_mlet h (fun u2 h => ?_)
  refine e_aload_n (k := 7) (i := 0) rfl rfl 0 rfl ?_
  refine e_iconst (k := 8) (v := (0 : Int32)) rfl (by decide) ?_
  refine e_putI (k := 9) rfl fg_X12_324 rfl rfl ?_
  refine e_mlet h (fun u3 h => ?_)
  refine e_aload_n (k := 10) (i := 0) rfl rfl 0 rfl ?_
  refine e_bipush (k := 11) (v := (94 : Int32)) rfl (by decide) ?_
  refine e_callVi (k := 12) (q := 0) (As := [.int (94 : Int32)]) (rest := []) rfl (c_X12_is (g := g) hg (n := n) h) m_X12_is i_X12_is l_X12_166 rfl ⟨_, rfl, rfl⟩ rfl rfl (Nat.le_of_ble_eq_true rfl) ⟨by decide, by decide, rfl, rfl⟩ (fun _ h => ⟨fun _ z => (by cases z), Or.inr ⟨rfl, h⟩⟩) (fun r1 u4 h => ?_)
  refine e_if_eq (k := 13) (tgt := 83) rfl (by decide) (fun z => ?_) (fun z => ?_)
  · have h := h.1 z
    refine e_aload_n (k := 43) (i := 0) rfl rfl 0 rfl ?_
    refine e_bipush (k := 44) (v := (95 : Int32)) rfl (by decide) ?_
    refine e_callVi (k := 45) (q := 0) (As := [.int (95 : Int32)]) (rest := []) rfl (c_X12_is (g := g) hg (n := n) h) m_X12_is i_X12_is l_X12_166 rfl ⟨_, rfl, rfl⟩ rfl rfl (Nat.le_of_ble_eq_true rfl) ⟨by decide, by decide, rfl, rfl⟩ (fun _ h => ⟨fun _ z => (by cases z), Or.inr ⟨rfl, h⟩⟩) (fun r2 u5 h => ?_)
    refine e_if_eq (k := 46) (tgt := 150) rfl (by decide) (fun z => ?_) (fun z => ?_)
    · have h := h.1 z
      refine e_aload_n (k := 76) (i := 0) rfl rfl 0 rfl ?_
      refine e_bipush (k := 77) (v := (61 : Int32)) rfl (by decide) ?_
      refine e_callVi (k := 78) (q := 0) (As := [.int (61 : Int32)]) (rest := []) rfl (c_X12_is (g := g) hg (n := n) h) m_X12_is i_X12_is l_X12_166 rfl ⟨_, rfl, rfl⟩ rfl rfl (Nat.le_of_ble_eq_true rfl) ⟨by decide, by decide, rfl, rfl⟩ (fun _ h => ⟨fun _ z => (by cases z), Or.inr ⟨rfl, h⟩⟩) (fun r3 u6 h => ?_)
      refine e_if_eq (k := 79) (tgt := 172) rfl (by decide) (fun z => ?_) (fun z => ?_)
      · have h := h.1 z
        refine e_aload_n (k := 87) (i := 0) rfl rfl 0 rfl ?_
        refine e_iconst (k := 88) (v := (0 : Int32)) rfl (by decide) ?_
        refine e_putZ (k := 89) rfl fg_X12_320 rfl rfl (Or.inl rfl) ?_
        refine e_mlet h (fun u7 h => ?_)
        exact s_X12_readNote_177 hg h
      · have h := h.2 z
        refine e_aload_n (k := 80) (i := 0) rfl rfl 0 rfl ?_
        refine e_dup (k := 81) rfl rfl ?_
        refine e_getI (k := 82) rfl f_X12_138 rfl rfl ?_
        refine e_iconst (k := 83) (v := (1 : Int32)) rfl (by decide) ?_
        refine e_iadd (k := 84) rfl ?_
        refine e_putI (k := 85) rfl fg_X12_138 rfl rfl ?_
        refine e_mlet h (fun u8 h => ?_)
        refine e_goto (k := 86) (tgt := 177) rfl (by decide) ?_
        exact s_X12_readNote_177 hg h
    · have h := h.2 z
      refine e_aload_n (k := 47) (i := 0) rfl rfl 0 rfl ?_
      refine e_dup (k := 48) rfl rfl ?_
      refine e_getI (k := 49) rfl f_X12_138 rfl rfl ?_
      refine e_iconst (k := 50) (v := (1 : Int32)) rfl (by decide) ?_
      refine e_iadd (k := 51) rfl ?_
      refine e_putI (k := 52) rfl fg_X12_138 rfl rfl ?_
      refine e_mlet h (fun u9 h => ?_)
      refine e_aload_n (k := 53) (i := 0) rfl rfl 0 rfl ?_
      refine e_aload_n (k := 54) (i := 0) rfl rfl 0 rfl ?_
      refine e_bipush (k := 55) (v := (95 : Int32)) rfl (by decide) ?_
      refine e_callVi (k := 56) (q := 0) (As := [.int (95 : Int32)]) (rest := [.ref (gR g 0)]) rfl (c_X12_is (g := g) hg (n := n) h) m_X12_is i_X12_is l_X12_166 rfl ⟨_, rfl, rfl⟩ rfl rfl (Nat.le_of_ble_eq_true rfl) ⟨by decide, by decide, rfl, rfl⟩ (fun _ h => ⟨fun _ z => (by cases z), Or.inr ⟨rfl, h⟩⟩) (fun r4 u10 h => ?_)
      refine e_if_eq (k := 57) (tgt := 117) rfl (by decide) (fun z => ?_) (fun z => ?_)
      · have h := h.1 z
        refine e_iconst (k := 60) (v := (-1 : Int32)) rfl (by decide) ?_
        exact s_X12_readNote_118 hg h
      · have h := h.2 z
        refine e_bipush (k := 58) (v := (-2 : Int32)) rfl (by decide) ?_
        refine e_goto (k := 59) (tgt := 118) rfl (by decide) ?_
        exact s_X12_readNote_118 hg h
  · have h := h.2 z
    refine e_aload_n (k := 14) (i := 0) rfl rfl 0 rfl ?_
    refine e_dup (k := 15) rfl rfl ?_
    refine e_getI (k := 16) rfl f_X12_138 rfl rfl ?_
    refine e_iconst (k := 17) (v := (1 : Int32)) rfl (by decide) ?_
    refine e_iadd (k := 18) rfl ?_
    refine e_putI (k := 19) rfl fg_X12_138 rfl rfl ?_
    refine e_mlet h (fun u11 h => ?_)
    refine e_aload_n (k := 20) (i := 0) rfl rfl 0 rfl ?_
    refine e_aload_n (k := 21) (i := 0) rfl rfl 0 rfl ?_
    refine e_bipush (k := 22) (v := (94 : Int32)) rfl (by decide) ?_
    refine e_callVi (k := 23) (q := 0) (As := [.int (94 : Int32)]) (rest := [.ref (gR g 0)]) rfl (c_X12_is (g := g) hg (n := n) h) m_X12_is i_X12_is l_X12_166 rfl ⟨_, rfl, rfl⟩ rfl rfl (Nat.le_of_ble_eq_true rfl) ⟨by decide, by decide, rfl, rfl⟩ (fun _ h => ⟨fun _ z => (by cases z), Or.inr ⟨rfl, h⟩⟩) (fun r5 u12 h => ?_)
    refine e_if_eq (k := 24) (tgt := 51) rfl (by decide) (fun z => ?_) (fun z => ?_)
    · have h := h.1 z
      refine e_iconst (k := 27) (v := (1 : Int32)) rfl (by decide) ?_
      exact s_X12_readNote_52 hg h
    · have h := h.2 z
      refine e_iconst (k := 25) (v := (2 : Int32)) rfl (by decide) ?_
      refine e_goto (k := 26) (tgt := 52) rfl (by decide) ?_
      exact s_X12_readNote_52 hg h
