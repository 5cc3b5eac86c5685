/-! methods (by program) -/
def il_X4_readBody : List (Nat × Instr × Nat) := [(0, .iconst 1, 1), (1, .istore_n 1, 1), (2, .iload_n 1, 1), (3, .iconst 3, 1), (4, .if_icmp .gt 27, 3), (7, .aload_n 0, 1), (8, .getfield 19, 3), (11, .iload_n 1, 1), (12, .invokevirtual 44, 3), (15, .aload_n 0, 1), (16, .getfield 19, 3), (19, .getfield 52, 3), (22, .invokevirtual 55, 3), (25, .iinc 1 1, 3), (28, .goto (-26), 3), (31, .aload_n 0, 1), (32, .iconst 1, 1), (33, .invokevirtual 61, 3), (36, .aload_n 0, 1), (37, .getfield 33, 3), (40, .invokevirtual 65, 3), (43, .aload_n 0, 1), (44, .iconst 0, 1), (45, .putfield 68, 3), (48, .aload_n 0, 1), (49, .iconst (-1), 1), (50, .putfield 72, 3), (53, .aload_n 0, 1), (54, .iconst 0, 1), (55, .putfield 75, 3), (58, .iconst 0, 1), (59, .istore_n 1, 1), (60, .iconst 0, 1), (61, .istore_n 2, 1), (62, .iload_n 2, 1), (63, .sipush 2000, 3), (66, .if_icmp .gt 95, 3), (69, .aload_n 0, 1), (70, .getfield 9, 3), (73, .getfield 78, 3), (76, .ifCond .ne 85, 3), (79, .aload_n 0, 1), (80, .getfield 9, 3), (83, .invokevirtual 83, 3), (86, .ifCond .eq 75, 3), (89, .aload_n 0, 1), (90, .getfield 9, 3), (93, .getfield 87, 3), (96, .aload_n 0, 1), (97, .getfield 9, 3), (100, .getfield 90, 3), (103, .if_icmp .ne 8, 3), (106, .iconst 1, 1), (107, .istore_n 1, 1), (108, .goto 47, 3), (111, .iload_n 1, 1), (112, .ifCond .eq 21, 3), (115, .aload_n 0, 1), (116, .getfield 9, 3), (119, .iconst 1, 1), (120, .aload_n 0, 1), (121, .getfield 9, 3), (124, .getfield 90, 3), (127, .invokevirtual 93, 3), (130, .goto 25, 3), (133, .aload_n 0, 1), (134, .getfield 9, 3), (137, .invokevirtual 97, 3), (140, .ifCond .le 11, 3), (143, .aload_n 0, 1), (144, .iconst 1, 1), (145, .invokevirtual 101, 3), (148, .goto 7, 3), (151, .aload_n 0, 1), (152, .invokevirtual 105, 3), (155, .iinc 2 1, 3), (158, .goto (-96), 3), (161, .aload_n 0, 1), (162, .getfield 33, 3), (165, .getfield 108, 3), (168, .ifCond .gt 10, 3), (171, .aload_n 0, 1), (172, .getfield 68, 3), (175, .ifCond .le 19, 3), (178, .aload_n 0, 1), (179, .getfield 9, 3), (182, .bipush 6, 2), (184, .aload_n 0, 1), (185, .getfield 9, 3), (188, .getfield 111, 3), (191, .invokevirtual 93, 3), (194, .return_, 1)]
set_option maxRecDepth 20000 in
theorem il_X4_readBody_ok : ∀ x ∈ il_X4_readBody, decode cX4_readBody x.1 = .ok x.2 := by decide +kernel
abbrev me_X4_readBody : Me := (RX4, il_X4_readBody, 3, none, xRoom 10, [])
def w_X4_readBody_194 (n : Nat) (u0 : Mm) (Q : Mm → Prop) : Prop :=
  Q u0
def w_X4_readBody_178 (n : Nat) (u0 : Mm) (Q : Mm → Prop) : Prop :=
  w_X5_fail n (6 : Int32) (u0.1 33 1) u0 (fun u1 =>
  w_X4_readBody_194 n u1 Q)
def w_X4_readBody_161 (n : Nat) (u0 : Mm) (Q : Mm → Prop) : Prop :=
  (0 < (u0.1 39 3) → w_X4_readBody_178 n u0 Q) ∧
  (¬ 0 < (u0.1 39 3) → ((u0.1 38 11) ≤ 0 → w_X4_readBody_194 n u0 Q) ∧
  (¬ (u0.1 38 11) ≤ 0 → w_X4_readBody_178 n u0 Q))
def w_X4_readBody_155 (n : Nat) (L62 : Int32 → Int32 → Mm → Prop) (x1 : Int32) (x2 : Int32) (u0 : Mm) (Q : Mm → Prop) : Prop :=
  L62 x1 (x2 + (1 : Int32)) u0
def w_X4_readBody_62 (n : Nat) (Q : Mm → Prop) : Nat → Int32 → Int32 → Mm → Prop
  | 0, _, _, _ => False
  | k + 1, x1, x2, u0 =>
  ((2000 : Int32) < x2 → w_X4_readBody_161 n u0 Q) ∧
  (¬ (2000 : Int32) < x2 → (¬ (u0.1 33 6) = 0 → w_X4_readBody_161 n u0 Q) ∧
  ((u0.1 33 6) = 0 → w_X5_openLine n u0 (fun r1 u1 =>
  (r1 = 0 → w_X4_readBody_161 n u1 Q) ∧
  (¬ r1 = 0 → (¬ (u1.1 33 4) = (u1.1 33 3) → (x1 = 0 → w_X5_fieldLetter n u1 (fun r2 u2 =>
  (r2 ≤ 0 → w_X4_musicLine n u2 (fun u3 =>
  w_X4_readBody_155 n (w_X4_readBody_62 n Q k) x1 x2 u3 Q)) ∧
  (¬ r2 ≤ 0 → w_X4_readChange n (1 : Int32) u2 (fun u4 =>
  w_X4_readBody_155 n (w_X4_readBody_62 n Q k) x1 x2 u4 Q)))) ∧
  (¬ x1 = 0 → w_X5_fail n (1 : Int32) (u1.1 33 3) u1 (fun u5 =>
  w_X4_readBody_155 n (w_X4_readBody_62 n Q k) x1 x2 u5 Q))) ∧
  ((u1.1 33 4) = (u1.1 33 3) → w_X4_readBody_155 n (w_X4_readBody_62 n Q k) (1 : Int32) x2 u1 Q)))))
def w_X4_readBody_2 (n : Nat) (Q : Mm → Prop) : Nat → Int32 → Mm → Prop
  | 0, _, _ => False
  | k + 1, x1, u0 =>
  ((3 : Int32) < x1 → w_X4_takeVoice n (1 : Int32) u0 (fun u1 =>
  w_X2_clear n u1 (fun u2 =>
  mlet (setI u2 38 11 (0 : Int32)) fun u3 =>
  mlet (setI u3 38 12 (-1 : Int32)) fun u4 =>
  mlet (setI u4 38 13 (0 : Int32)) fun u5 =>
  (w_X4_readBody_62 n Q n) (0 : Int32) (0 : Int32) u5))) ∧
  (¬ (3 : Int32) < x1 → w_X7_voiceOf n x1 u0 (fun r1 u6 =>
  w_X8_begin n r1 u6 (fun u7 =>
  (w_X4_readBody_2 n Q k) (x1 + (1 : Int32)) u7)))
def w_X4_readBody (n : Nat) (u0 : Mm) (Q : Mm → Prop) : Prop :=
  (w_X4_readBody_2 n Q n) (1 : Int32) u0
set_option maxRecDepth 20000 in
theorem s_X4_readBody_194 {g : Gb} (hg : xInj g) {n : Nat} {Q : Mm → Prop} {u0 : Mm} (h : w_X4_readBody_194 n  u0 Q) : xE g me_X4_readBody (pV g Q noT) 194 [] [] u0 := by
  unfold w_X4_readBody_194 at h
  exact e_vret (k := 91) rfl rfl (Or.inl ⟨rfl, h⟩)
set_option maxRecDepth 20000 in
theorem s_X4_readBody_178 {g : Gb} (hg : xInj g) {n : Nat} {Q : Mm → Prop} {u0 : Mm} (h : w_X4_readBody_178 n  u0 Q) : xE g me_X4_readBody (pV g Q noT) 178 [(0, .ref (gR g 38))] [] u0 := by
  unfold w_X4_readBody_178 at h
  refine e_aload_n (k := 84) (i := 0) rfl rfl 0 rfl ?_
  refine e_getC (k := 85) rfl f_X4_9 rfl rfl ?_
  refine e_bipush (k := 86) (v := (6 : Int32)) rfl (by decide) ?_
  refine e_aload_n (k := 87) (i := 0) rfl rfl 0 rfl ?_
  refine e_getC (k := 88) rfl f_X4_9 rfl rfl ?_
  refine e_getI (k := 89) rfl f_X4_111 rfl rfl ?_
  refine e_callVv (k := 90) (q := 33) (As := [.int (6 : Int32), .int (u0.1 33 1)]) (rest := []) rfl (c_X5_fail (g := g) hg (n := n) h) m_X5_fail i_X5_fail l_X4_93 rfl ⟨_, rfl, rfl⟩ rfl rfl (Nat.le_of_ble_eq_true rfl) ⟨by decide, by decide, rfl, rfl⟩ (fun _ h => h.elim) (fun u1 h => ?_)
  refine e_sub (lv' := []) [] rfl ?_
  exact s_X4_readBody_194 hg h
set_option maxRecDepth 20000 in
theorem s_X4_readBody_161 {g : Gb} (hg : xInj g) {n : Nat} {Q : Mm → Prop} {u0 : Mm} (h : w_X4_readBody_161 n  u0 Q) : xE g me_X4_readBody (pV g Q noT) 161 [(0, .ref (gR g 38))] [] u0 := by
  unfold w_X4_readBody_161 at h
  refine e_aload_n (k := 77) (i := 0) rfl rfl 0 rfl ?_
  refine e_getC (k := 78) rfl f_X4_33 rfl rfl ?_
  refine e_getI (k := 79) rfl f_X4_108 rfl rfl ?_
  refine e_if_gt (k := 80) (tgt := 178) rfl (by decide) (fun z => ?_) (fun z => ?_)
  · have h := h.1 z
    exact s_X4_readBody_178 hg h
  · have h := h.2 z
    refine e_aload_n (k := 81) (i := 0) rfl rfl 0 rfl ?_
    refine e_getI (k := 82) rfl f_X4_68 rfl rfl ?_
    refine e_if_le (k := 83) (tgt := 194) rfl (by decide) (fun z => ?_) (fun z => ?_)
    · have h := h.1 z
      refine e_sub (lv' := []) [] rfl ?_
      exact s_X4_readBody_194 hg h
    · have h := h.2 z
      exact s_X4_readBody_178 hg h
set_option maxRecDepth 20000 in
theorem s_X4_readBody_155 {g : Gb} (hg : xInj g) {n : Nat} {Q : Mm → Prop} {L62 : Int32 → Int32 → Mm → Prop} (hL62 : ∀ (x1 : Int32) (x2 : Int32) (u0 : Mm), L62 x1 x2 u0 → xE g me_X4_readBody (pV g Q noT) 62 [(0, .ref (gR g 38)), (1, .int x1), (2, .int x2)] [] u0) {x1 : Int32} {x2 : Int32} {u0 : Mm} (h : w_X4_readBody_155 n L62 x1 x2 u0 Q) : xE g me_X4_readBody (pV g Q noT) 155 [(0, .ref (gR g 38)), (1, .int x1), (2, .int x2)] [] u0 := by
  unfold w_X4_readBody_155 at h
  refine e_iinc (k := 75) (i := 2) (j := 2) (v := (x2 + (1 : Int32))) (lv' := [(0, .ref (gR g 38)), (1, .int x1), (2, .int (x2 + (1 : Int32)))]) rfl rfl rfl (by decide) [1, 2, 0] rfl ?_
  refine e_goto (k := 76) (tgt := 62) rfl (by decide) ?_
  exact hL62 x1 (x2 + (1 : Int32)) u0 h
set_option maxRecDepth 20000 in
theorem s_X4_readBody_62 {g : Gb} (hg : xInj g) {n : Nat} {Q : Mm → Prop} : ∀ (k : Nat) (x1 : Int32) (x2 : Int32) (u0 : Mm), w_X4_readBody_62 n Q k x1 x2 u0 → xE g me_X4_readBody (pV g Q noT) 62 [(0, .ref (gR g 38)), (1, .int x1), (2, .int x2)] [] u0 := by
  intro k
  induction k with
  | zero => intro x1 x2 u0 h; exact h.elim
  | succ k ih =>
    intro x1 x2 u0 h
    unfold w_X4_readBody_62 at h
    refine e_iload_n (k := 34) (i := 2) rfl rfl 2 rfl ?_
    refine e_sipush (k := 35) (v := (2000 : Int32)) rfl (by decide) ?_
    refine e_icmp_gt (k := 36) (tgt := 161) rfl (by decide) (fun z => ?_) (fun z => ?_)
    · have h := h.1 z
      refine e_sub (lv' := [(0, .ref (gR g 38))]) [0] rfl ?_
      exact s_X4_readBody_161 hg h
    · have h := h.2 z
      refine e_aload_n (k := 37) (i := 0) rfl rfl 0 rfl ?_
      refine e_getC (k := 38) rfl f_X4_9 rfl rfl ?_
      refine e_getI (k := 39) rfl f_X4_78 rfl rfl ?_
      refine e_if_ne (k := 40) (tgt := 161) rfl (by decide) (fun z => ?_) (fun z => ?_)
      · have h := h.1 z
        refine e_sub (lv' := [(0, .ref (gR g 38))]) [0] rfl ?_
        exact s_X4_readBody_161 hg h
      · have h := h.2 z
        refine e_aload_n (k := 41) (i := 0) rfl rfl 0 rfl ?_
        refine e_getC (k := 42) rfl f_X4_9 rfl rfl ?_
        refine e_callVi (k := 43) (q := 33) (As := []) (rest := []) rfl (c_X5_openLine (g := g) hg (n := n) h) m_X5_openLine i_X5_openLine l_X4_83 rfl ⟨_, rfl, rfl⟩ rfl rfl (Nat.le_of_ble_eq_true rfl) ⟨by decide, by decide, rfl, rfl⟩ (fun _ h => h.elim) (fun r1 u1 h => ?_)
        refine e_if_eq (k := 44) (tgt := 161) rfl (by decide) (fun z => ?_) (fun z => ?_)
        · have h := h.1 z
          refine e_sub (lv' := [(0, .ref (gR g 38))]) [0] rfl ?_
          exact s_X4_readBody_161 hg h
        · have h := h.2 z
          refine e_aload_n (k := 45) (i := 0) rfl rfl 0 rfl ?_
          refine e_getC (k := 46) rfl f_X4_9 rfl rfl ?_
          refine e_getI (k := 47) rfl f_X4_87 rfl rfl ?_
          refine e_aload_n (k := 48) (i := 0) rfl rfl 0 rfl ?_
          refine e_getC (k := 49) rfl f_X4_9 rfl rfl ?_
          refine e_getI (k := 50) rfl f_X4_90 rfl rfl ?_
          refine e_icmp_ne (k := 51) (tgt := 111) rfl (by decide) (fun z => ?_) (fun z => ?_)
          · have h := h.1 z
            refine e_iload_n (k := 55) (i := 1) rfl rfl 1 rfl ?_
            refine e_if_eq (k := 56) (tgt := 133) rfl (by decide) (fun z => ?_) (fun z => ?_)
            · have h := h.1 z
              refine e_aload_n (k := 65) (i := 0) rfl rfl 0 rfl ?_
              refine e_getC (k := 66) rfl f_X4_9 rfl rfl ?_
              refine e_callVi (k := 67) (q := 33) (As := []) (rest := []) rfl (c_X5_fieldLetter (g := g) hg (n := n) h) m_X5_fieldLetter i_X5_fieldLetter l_X4_97 rfl ⟨_, rfl, rfl⟩ rfl rfl (Nat.le_of_ble_eq_true rfl) ⟨by decide, by decide, rfl, rfl⟩ (fun _ h => h.elim) (fun r2 u2 h => ?_)
              refine e_if_le (k := 68) (tgt := 151) rfl (by decide) (fun z => ?_) (fun z => ?_)
              · have h := h.1 z
                refine e_aload_n (k := 73) (i := 0) rfl rfl 0 rfl ?_
                refine e_callVv (k := 74) (q := 38) (As := []) (rest := []) rfl (c_X4_musicLine (g := g) hg (n := n) h) m_X4_musicLine i_X4_musicLine l_X4_105 rfl ⟨_, rfl, rfl⟩ rfl rfl (Nat.le_of_ble_eq_true rfl) ⟨by decide, by decide, rfl, rfl⟩ (fun _ h => h.elim) (fun u3 h => ?_)
                exact s_X4_readBody_155 hg ih h
              · have h := h.2 z
                refine e_aload_n (k := 69) (i := 0) rfl rfl 0 rfl ?_
                refine e_iconst (k := 70) (v := (1 : Int32)) rfl (by decide) ?_
                refine e_callVv (k := 71) (q := 38) (As := [.int (1 : Int32)]) (rest := []) rfl (c_X4_readChange (g := g) hg (n := n) h) m_X4_readChange i_X4_readChange l_X4_101 rfl ⟨_, rfl, rfl⟩ rfl rfl (Nat.le_of_ble_eq_true rfl) ⟨by decide, by decide, rfl, rfl⟩ (fun _ h => h.elim) (fun u4 h => ?_)
                refine e_goto (k := 72) (tgt := 155) rfl (by decide) ?_
                exact s_X4_readBody_155 hg ih h
            · have h := h.2 z
              refine e_aload_n (k := 57) (i := 0) rfl rfl 0 rfl ?_
              refine e_getC (k := 58) rfl f_X4_9 rfl rfl ?_
              refine e_iconst (k := 59) (v := (1 : Int32)) rfl (by decide) ?_
              refine e_aload_n (k := 60) (i := 0) rfl rfl 0 rfl ?_
              refine e_getC (k := 61) rfl f_X4_9 rfl rfl ?_
              refine e_getI (k := 62) rfl f_X4_90 rfl rfl ?_
              refine e_callVv (k := 63) (q := 33) (As := [.int (1 : Int32), .int (u1.1 33 3)]) (rest := []) rfl (c_X5_fail (g := g) hg (n := n) h) m_X5_fail i_X5_fail l_X4_93 rfl ⟨_, rfl, rfl⟩ rfl rfl (Nat.le_of_ble_eq_true rfl) ⟨by decide, by decide, rfl, rfl⟩ (fun _ h => h.elim) (fun u5 h => ?_)
              refine e_goto (k := 64) (tgt := 155) rfl (by decide) ?_
              exact s_X4_readBody_155 hg ih h
          · have h := h.2 z
            refine e_iconst (k := 52) (v := (1 : Int32)) rfl (by decide) ?_
            refine e_istore_n (k := 53) (i := 1) (lv' := [(0, .ref (gR g 38)), (1, .int (1 : Int32)), (2, .int x2)]) rfl rfl (by decide) [1, 0, 2] rfl ?_
            refine e_goto (k := 54) (tgt := 155) rfl (by decide) ?_
            exact s_X4_readBody_155 hg ih h
set_option maxRecDepth 20000 in
theorem s_X4_readBody_2 {g : Gb} (hg : xInj g) {n : Nat} {Q : Mm → Prop} : ∀ (k : Nat) (x1 : Int32) (u0 : Mm), w_X4_readBody_2 n Q k x1 u0 → xE g me_X4_readBody (pV g Q noT) 2 [(0, .ref (gR g 38)), (1, .int x1)] [] u0 := by
  intro k
  induction k with
  | zero => intro x1 u0 h; exact h.elim
  | succ k ih =>
    intro x1 u0 h
    unfold w_X4_readBody_2 at h
    refine e_iload_n (k := 2) (i := 1) rfl rfl 1 rfl ?_
    refine e_iconst (k := 3) (v := (3 : Int32)) rfl (by decide) ?_
    refine e_icmp_gt (k := 4) (tgt := 31) rfl (by decide) (fun z => ?_) (fun z => ?_)
    · have h := h.1 z
      refine e_aload_n (k := 15) (i := 0) rfl rfl 0 rfl ?_
      refine e_iconst (k := 16) (v := (1 : Int32)) rfl (by decide) ?_
      refine e_callVv (k := 17) (q := 38) (As := [.int (1 : Int32)]) (rest := []) rfl (c_X4_takeVoice (g := g) hg (n := n) h) m_X4_takeVoice i_X4_takeVoice l_X4_61 rfl ⟨_, rfl, rfl⟩ rfl rfl (Nat.le_of_ble_eq_true rfl) ⟨by decide, by decide, rfl, rfl⟩ (fun _ h => h.elim) (fun u1 h => ?_)
      refine e_aload_n (k := 18) (i := 0) rfl rfl 0 rfl ?_
      refine e_getC (k := 19) rfl f_X4_33 rfl rfl ?_
      refine e_callVv (k := 20) (q := 39) (As := []) (rest := []) rfl (c_X2_clear (g := g) hg (n := n) h) m_X2_clear i_X2_clear l_X4_65 rfl ⟨_, rfl, rfl⟩ rfl rfl (Nat.le_of_ble_eq_true rfl) ⟨by decide, by decide, rfl, rfl⟩ (fun _ h => h.elim) (fun u2 h => ?_)
      refine e_aload_n (k := 21) (i := 0) rfl rfl 0 rfl ?_
      refine e_iconst (k := 22) (v := (0 : Int32)) rfl (by decide) ?_
      refine e_putI (k := 23) rfl fg_X4_68 rfl rfl ?_
      refine e_mlet h (fun u3 h => ?_)
      refine e_aload_n (k := 24) (i := 0) rfl rfl 0 rfl ?_
      refine e_iconst (k := 25) (v := (-1 : Int32)) rfl (by decide) ?_
      refine e_putI (k := 26) rfl fg_X4_72 rfl rfl ?_
      refine e_mlet h (fun u4 h => ?_)
      refine e_aload_n (k := 27) (i := 0) rfl rfl 0 rfl ?_
      refine e_iconst (k := 28) (v := (0 : Int32)) rfl (by decide) ?_
      refine e_putI (k := 29) rfl fg_X4_75 rfl rfl ?_
      refine e_mlet h (fun u5 h => ?_)
      refine e_iconst (k := 30) (v := (0 : Int32)) rfl (by decide) ?_
      refine e_istore_n (k := 31) (i := 1) (lv' := [(0, .ref (gR g 38)), (1, .int (0 : Int32))]) rfl rfl (by decide) [1, 0] rfl ?_
      refine e_iconst (k := 32) (v := (0 : Int32)) rfl (by decide) ?_
      refine e_istore_n (k := 33) (i := 2) (lv' := [(0, .ref (gR g 38)), (1, .int (0 : Int32)), (2, .int (0 : Int32))]) rfl rfl (by decide) [1, 2, 0] rfl ?_
      exact s_X4_readBody_62 hg n (0 : Int32) (0 : Int32) u5 h
    · have h := h.2 z
      refine e_aload_n (k := 5) (i := 0) rfl rfl 0 rfl ?_
      refine e_getC (k := 6) rfl f_X4_19 rfl rfl ?_
      refine e_iload_n (k := 7) (i := 1) rfl rfl 1 rfl ?_
      refine e_callVr (k := 8) (q := 35) (As := [.int x1]) (rest := []) rfl (c_X7_voiceOf (g := g) hg (n := n) h) m_X7_voiceOf i_X7_voiceOf l_X4_44 rfl ⟨_, rfl, rfl⟩ rfl rfl (Nat.le_of_ble_eq_true rfl) ⟨by decide, by decide, rfl, rfl⟩ (fun _ h => h.elim) (fun r1 u6 hr1 h => ?_)
      refine e_aload_n (k := 9) (i := 0) rfl rfl 0 rfl ?_
      refine e_getC (k := 10) rfl f_X4_19 rfl rfl ?_
      refine e_getC (k := 11) rfl f_X4_52 rfl rfl ?_
      refine e_callVv (k := 12) (q := r1) (As := [.ref (gR g 43)]) (rest := []) rfl (c_X8_begin (g := g) hg (n := n) hr1 h) m_X8_begin i_X8_begin l_X4_55 hr1 ⟨_, rfl, rfl⟩ rfl rfl (Nat.le_of_ble_eq_true rfl) ⟨by decide, by decide, rfl, rfl⟩ (fun _ h => h.elim) (fun u7 h => ?_)
      refine e_iinc (k := 13) (i := 1) (j := 1) (v := (x1 + (1 : Int32))) (lv' := [(0, .ref (gR g 38)), (1, .int (x1 + (1 : Int32)))]) rfl rfl rfl (by decide) [1, 0] rfl ?_
      refine e_goto (k := 14) (tgt := 2) rfl (by decide) ?_
      exact ih (x1 + (1 : Int32)) u7 h
set_option maxRecDepth 20000 in
theorem c_X4_readBody {g : Gb} (hg : xInj g) {n : Nat} {u0 : Mm} {Q : Mm → Prop} (h : w_X4_readBody n u0 Q) : xMet (gL g) yX4_readBody (xws yX4_readBody cX4_readBody 3 none) (xRoom 10) (xPc g [.ref (gR g 38)] u0) (xQ g (pV g Q noT)) (xA g) := by
  refine xbody (il := il_X4_readBody) hg il_X4_readBody_ok m_X4_readBody (Nat.le_of_ble_eq_true rfl) ?_
  show xE g me_X4_readBody (pV g Q noT) 0 [(0, .ref (gR g 38))] [] u0
  unfold w_X4_readBody at h
  refine e_iconst (k := 0) (v := (1 : Int32)) rfl (by decide) ?_
  refine e_istore_n (k := 1) (i := 1) (lv' := [(0, .ref (gR g 38)), (1, .int (1 : Int32))]) rfl rfl (by decide) [1, 0] rfl ?_
  exact s_X4_readBody_2 hg n (1 : Int32) u0 h
def il_X10_read : List (Nat × Instr × Nat) := [(0, .aload_n 0, 1), (1, .getfield 27, 3), (4, .getfield 82, 3), (7, .astore_n 1, 1), (8, .aload_n 0, 1), (9, .getfield 27, 3), (12, .aload_n 0, 1), (13, .getfield 18, 3), (16, .aload_n 0, 1), (17, .getfield 68, 3), (20, .invokevirtual 85, 3), (23, .aload_n 0, 1), (24, .aload_n 1, 1), (25, .putfield 18, 3), (28, .aload_n 0, 1), (29, .iconst 0, 1), (30, .putfield 68, 3), (33, .aload_n 0, 1), (34, .getfield 36, 3), (37, .invokevirtual 89, 3), (40, .aload_n 0, 1), (41, .getfield 27, 3), (44, .invokevirtual 92, 3), (47, .aload_n 0, 1), (48, .getfield 50, 3), (51, .invokevirtual 95, 3), (54, .aload_n 0, 1), (55, .getfield 57, 3), (58, .invokevirtual 98, 3), (61, .aload_n 0, 1), (62, .aload_n 0, 1), (63, .getfield 27, 3), (66, .getfield 101, 3), (69, .ifCond .ne 7, 3), (72, .iconst 1, 1), (73, .goto 4, 3), (76, .iconst 0, 1), (77, .putfield 72, 3), (80, .aload_n 0, 1), (81, .getfield 72, 3), (84, .ifCond .ne 25, 3), (87, .aload_n 0, 1), (88, .aload_n 0, 1), (89, .getfield 27, 3), (92, .getfield 104, 3), (95, .putfield 76, 3), (98, .bipush (-10), 2), (100, .aload_n 0, 1), (101, .getfield 27, 3), (104, .getfield 101, 3), (107, .isub, 1), (108, .ireturn, 1), (109, .aload_n 0, 1), (110, .bipush (-2), 2), (112, .putfield 76, 3), (115, .aload_n 0, 1), (116, .getfield 36, 3), (119, .invokevirtual 105, 3), (122, .aload_n 0, 1), (123, .getfield 36, 3), (126, .getfield 108, 3), (129, .getfield 112, 3), (132, .ireturn, 1)]
set_option maxRecDepth 20000 in
theorem il_X10_read_ok : ∀ x ∈ il_X10_read, decode cX10_read x.1 = .ok x.2 := by decide +kernel
abbrev me_X10_read : Me := (RX10, il_X10_read, 2, (some .int), xRoom 11, [])
def w_X10_read_77 (n : Nat) (t0 : Int32) (u0 : Mm) (Q : Int32 → Mm → Prop) : Prop :=
  xbz t0 ∧ (mlet (setI u0 32 7 t0) fun u1 =>
  (¬ (u1.1 32 7) = 0 → mlet (setI u1 32 8 (-2 : Int32)) fun u2 =>
  w_X7_findPlayed n u2 (fun u3 =>
  Q (u3.1 36 3) u3)) ∧
  ((u1.1 32 7) = 0 → mlet (setI u1 32 8 (u1.1 33 7)) fun u4 =>
  Q ((-10 : Int32) - (u4.1 33 6)) u4))
def w_X10_read (n : Nat) (u0 : Mm) (Q : Int32 → Mm → Prop) : Prop :=
  w_X5_take n (u0.2.2 0) (u0.1 32 6) u0 (fun u1 =>
  mlet (setP u1 0 (u0.2.2 1)) fun u2 =>
  mlet (setI u2 32 6 (0 : Int32)) fun u3 =>
  w_X7_clear n u3 (fun u4 =>
  w_X5_checkBytes n u4 (fun u5 =>
  w_X1_readHeads n u5 (fun u6 =>
  w_X4_readBody n u6 (fun u7 =>
  (¬ (u7.1 33 6) = 0 → w_X10_read_77 n (0 : Int32) u7 Q) ∧
  ((u7.1 33 6) = 0 → w_X10_read_77 n (1 : Int32) u7 Q))))))
set_option maxRecDepth 20000 in
theorem s_X10_read_77 {g : Gb} (hg : xInj g) {n : Nat} {Q : Int32 → Mm → Prop} {t0 : Int32} {u0 : Mm} (h : w_X10_read_77 n t0 u0 Q) : xE g me_X10_read (pI g Q noT) 77 [(0, .ref (gR g 32))] [.int t0, .ref (gR g 32)] u0 := by
  unfold w_X10_read_77 at h
  refine e_putZ (k := 37) rfl fg_X10_72 rfl rfl h.1 ?_
  have h := h.2
  refine e_mlet h (fun u1 h => ?_)
  refine e_aload_n (k := 38) (i := 0) rfl rfl 0 rfl ?_
  refine e_getI (k := 39) rfl f_X10_72 rfl rfl ?_
  refine e_if_ne (k := 40) (tgt := 109) rfl (by decide) (fun z => ?_) (fun z => ?_)
  · have h := h.1 z
    refine e_aload_n (k := 52) (i := 0) rfl rfl 0 rfl ?_
    refine e_bipush (k := 53) (v := (-2 : Int32)) rfl (by decide) ?_
    refine e_putI (k := 54) rfl fg_X10_76 rfl rfl ?_
    refine e_mlet h (fun u2 h => ?_)
    refine e_aload_n (k := 55) (i := 0) rfl rfl 0 rfl ?_
    refine e_getC (k := 56) rfl f_X10_36 rfl rfl ?_
    refine e_callVv (k := 57) (q := 35) (As := []) (rest := []) rfl (c_X7_findPlayed (g := g) hg (n := n) h) m_X7_findPlayed i_X7_findPlayed l_X10_105 rfl ⟨_, rfl, rfl⟩ rfl rfl (Nat.le_of_ble_eq_true rfl) ⟨by decide, by decide, rfl, rfl⟩ (fun _ h => h.elim) (fun u3 h => ?_)
    refine e_aload_n (k := 58) (i := 0) rfl rfl 0 rfl ?_
    refine e_getC (k := 59) rfl f_X10_36 rfl rfl ?_
    refine e_getC (k := 60) rfl f_X10_108 rfl rfl ?_
    refine e_getI (k := 61) rfl f_X10_112 rfl rfl ?_
    exact e_iret (k := 62) rfl rfl (Or.inl ⟨_, rfl, h⟩)
  · have h := h.2 z
    refine e_aload_n (k := 41) (i := 0) rfl rfl 0 rfl ?_
    refine e_aload_n (k := 42) (i := 0) rfl rfl 0 rfl ?_
    refine e_getC (k := 43) rfl f_X10_27 rfl rfl ?_
    refine e_getI (k := 44) rfl f_X10_104 rfl rfl ?_
    refine e_putI (k := 45) rfl fg_X10_76 rfl rfl ?_
    refine e_mlet h (fun u4 h => ?_)
    refine e_bipush (k := 46) (v := (-10 : Int32)) rfl (by decide) ?_
    refine e_aload_n (k := 47) (i := 0) rfl rfl 0 rfl ?_
    refine e_getC (k := 48) rfl f_X10_27 rfl rfl ?_
    refine e_getI (k := 49) rfl f_X10_101 rfl rfl ?_
    refine e_isub (k := 50) rfl ?_
    exact e_iret (k := 51) rfl rfl (Or.inl ⟨_, rfl, h⟩)
set_option maxRecDepth 20000 in
theorem c_X10_read {g : Gb} (hg : xInj g) {n : Nat} {u0 : Mm} {Q : Int32 → Mm → Prop} (h : w_X10_read n u0 Q) : xMet (gL g) yX10_read (xws yX10_read cX10_read 2 (some .int)) (xRoom 11) (xPc g [.ref (gR g 32)] u0) (xQ g (pI g Q noT)) (xA g) := by
  refine xbody (il := il_X10_read) hg il_X10_read_ok m_X10_read (Nat.le_of_ble_eq_true rfl) ?_
  show xE g me_X10_read (pI g Q noT) 0 [(0, .ref (gR g 32))] [] u0
  unfold w_X10_read at h
  refine e_aload_n (k := 0) (i := 0) rfl rfl 0 rfl ?_
  refine e_getC (k := 1) rfl f_X10_27 rfl rfl ?_
  refine e_getP (k := 2) rfl f_X10_82 rfl rfl (fun ty1 => ?_)
  refine e_astore_n (k := 3) (i := 1) (lv' := [(0, .ref (gR g 32)), (1, .ref (gR g (u0.2.2 1)))]) rfl rfl (by decide) [1, 0] rfl ?_
  refine e_aload_n (k := 4) (i := 0) rfl rfl 0 rfl ?_
  refine e_getC (k := 5) rfl f_X10_27 rfl rfl ?_
  refine e_aload_n (k := 6) (i := 0) rfl rfl 0 rfl ?_
  refine e_getP (k := 7) rfl f_X10_18 rfl rfl (fun ty2 => ?_)
  refine e_aload_n (k := 8) (i := 0) rfl rfl 0 rfl ?_
  refine e_getI (k := 9) rfl f_X10_68 rfl rfl ?_
  refine e_callVv (k := 10) (q := 33) (As := [.ref (gR g (u0.2.2 0)), .int (u0.1 32 6)]) (rest := []) rfl (c_X5_take (g := g) hg (n := n) ty2.1 h) m_X5_take i_X5_take l_X10_85 rfl ⟨_, rfl, rfl⟩ rfl rfl (Nat.le_of_ble_eq_true rfl) ⟨by decide, by decide, rfl, rfl⟩ (fun _ h => h.elim) (fun u1 h => ?_)
  refine e_aload_n (k := 11) (i := 0) rfl rfl 0 rfl ?_
  refine e_aload_n (k := 12) (i := 1) rfl rfl 1 rfl ?_
  refine e_putP (k := 13) rfl fg_X10_18 rfl rfl xu_0 xonly_0 rfl rfl (fun ty => ⟨ty1.2.1, ty.2.1, ty.2.2⟩) ?_
  refine e_mlet h (fun u2 h => ?_)
  refine e_aload_n (k := 14) (i := 0) rfl rfl 0 rfl ?_
  refine e_iconst (k := 15) (v := (0 : Int32)) rfl (by decide) ?_
  refine e_putI (k := 16) rfl fg_X10_68 rfl rfl ?_
  refine e_mlet h (fun u3 h => ?_)
  refine e_aload_n (k := 17) (i := 0) rfl rfl 0 rfl ?_
  refine e_getC (k := 18) rfl f_X10_36 rfl rfl ?_
  refine e_callVv (k := 19) (q := 35) (As := []) (rest := []) rfl (c_X7_clear (g := g) hg (n := n) h) m_X7_clear i_X7_clear l_X10_89 rfl ⟨_, rfl, rfl⟩ rfl rfl (Nat.le_of_ble_eq_true rfl) ⟨by decide, by decide, rfl, rfl⟩ (fun _ h => h.elim) (fun u4 h => ?_)
  refine e_aload_n (k := 20) (i := 0) rfl rfl 0 rfl ?_
  refine e_getC (k := 21) rfl f_X10_27 rfl rfl ?_
  refine e_callVv (k := 22) (q := 33) (As := []) (rest := []) rfl (c_X5_checkBytes (g := g) hg (n := n) h) m_X5_checkBytes i_X5_checkBytes l_X10_92 rfl ⟨_, rfl, rfl⟩ rfl rfl (Nat.le_of_ble_eq_true rfl) ⟨by decide, by decide, rfl, rfl⟩ (fun _ h => h.elim) (fun u5 h => ?_)
  refine e_aload_n (k := 23) (i := 0) rfl rfl 0 rfl ?_
  refine e_getC (k := 24) rfl f_X10_50 rfl rfl ?_
  refine e_callVv (k := 25) (q := 37) (As := []) (rest := []) rfl (c_X1_readHeads (g := g) hg (n := n) h) m_X1_readHeads i_X1_readHeads l_X10_95 rfl ⟨_, rfl, rfl⟩ rfl rfl (Nat.le_of_ble_eq_true rfl) ⟨by decide, by decide, rfl, rfl⟩ (fun _ h => h.elim) (fun u6 h => ?_)
  refine e_aload_n (k := 26) (i := 0) rfl rfl 0 rfl ?_
  refine e_getC (k := 27) rfl f_X10_57 rfl rfl ?_
  refine e_callVv (k := 28) (q := 38) (As := []) (rest := []) rfl (c_X4_readBody (g := g) hg (n := n) h) m_X4_readBody i_X4_readBody l_X10_98 rfl ⟨_, rfl, rfl⟩ rfl rfl (Nat.le_of_ble_eq_true rfl) ⟨by decide, by decide, rfl, rfl⟩ (fun _ h => h.elim) (fun u7 h => ?_)
  refine e_aload_n (k := 29) (i := 0) rfl rfl 0 rfl ?_
  refine e_aload_n (k := 30) (i := 0) rfl rfl 0 rfl ?_
  refine e_getC (k := 31) rfl f_X10_27 rfl rfl ?_
  refine e_getI (k := 32) rfl f_X10_101 rfl rfl ?_
  refine e_if_ne (k := 33) (tgt := 76) rfl (by decide) (fun z => ?_) (fun z => ?_)
  · have h := h.1 z
    refine e_iconst (k := 36) (v := (0 : Int32)) rfl (by decide) ?_
    refine e_sub (lv' := [(0, .ref (gR g 32))]) [0] rfl ?_
    exact s_X10_read_77 hg h
  · have h := h.2 z
    refine e_iconst (k := 34) (v := (1 : Int32)) rfl (by decide) ?_
    refine e_goto (k := 35) (tgt := 77) rfl (by decide) ?_
    refine e_sub (lv' := [(0, .ref (gR g 32))]) [0] rfl ?_
    exact s_X10_read_77 hg h
