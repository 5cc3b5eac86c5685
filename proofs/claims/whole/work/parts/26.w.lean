/-! methods (by program) -/
def il_X4_readOctave : List (Nat × Instr × Nat) := [(0, .iload_n 1, 1), (1, .istore_n 2, 1), (2, .aload_n 0, 1), (3, .getfield 9, 3), (6, .getfield 123, 3), (9, .aload_n 0, 1), (10, .getfield 9, 3), (13, .getfield 87, 3), (16, .if_icmp .ge 66, 3), (19, .aload_n 0, 1), (20, .getfield 9, 3), (23, .iconst 0, 1), (24, .invokevirtual 126, 3), (27, .bipush 39, 2), (29, .if_icmp .eq 16, 3), (32, .aload_n 0, 1), (33, .getfield 9, 3), (36, .iconst 0, 1), (37, .invokevirtual 126, 3), (40, .bipush 44, 2), (42, .if_icmp .ne 40, 3), (45, .iload_n 2, 1), (46, .aload_n 0, 1), (47, .getfield 9, 3), (50, .iconst 0, 1), (51, .invokevirtual 126, 3), (54, .bipush 39, 2), (56, .if_icmp .ne 7, 3), (59, .iconst 1, 1), (60, .goto 4, 3), (63, .iconst (-1), 1), (64, .iadd, 1), (65, .istore_n 2, 1), (66, .aload_n 0, 1), (67, .getfield 9, 3), (70, .dup, 1), (71, .getfield 123, 3), (74, .iconst 1, 1), (75, .iadd, 1), (76, .putfield 123, 3), (79, .goto (-77), 3), (82, .iload_n 2, 1), (83, .ireturn, 1)]
set_option maxRecDepth 20000 in
theorem il_X4_readOctave_ok : ∀ x ∈ il_X4_readOctave, decode cX4_readOctave x.1 = .ok x.2 := by decide +kernel
abbrev me_X4_readOctave : Me := (RX4, il_X4_readOctave, 3, (some .int), xRoom 2, [])
def w_X4_readOctave_82 (n : Nat) (x2 : Int32) (u0 : Mm) (Q : Int32 → Mm → Prop) : Prop :=
  Q x2 u0
def w_X4_readOctave_64 (n : Nat) (L2 : Int32 → Mm → Prop) (t0 : Int32) (t1 : Int32) (u0 : Mm) (Q : Int32 → Mm → Prop) : Prop :=
  ilet (t1 + t0) fun y1 =>
  mlet (setI u0 33 2 ((u0.1 33 2) + (1 : Int32))) fun u1 =>
  L2 y1 u1
def w_X4_readOctave_45 (n : Nat) (L2 : Int32 → Mm → Prop) (x2 : Int32) (u0 : Mm) (Q : Int32 → Mm → Prop) : Prop :=
  w_X5_peek n (0 : Int32) u0 (fun r1 u1 =>
  (¬ r1 = (39 : Int32) → w_X4_readOctave_64 n L2 (-1 : Int32) x2 u1 Q) ∧
  (r1 = (39 : Int32) → w_X4_readOctave_64 n L2 (1 : Int32) x2 u1 Q))
def w_X4_readOctave_2 (n : Nat) (Q : Int32 → Mm → Prop) : Nat → Int32 → Mm → Prop
  | 0, _, _ => False
  | k + 1, x2, u0 =>
  ((u0.1 33 4) ≤ (u0.1 33 2) → w_X4_readOctave_82 n x2 u0 Q) ∧
  (¬ (u0.1 33 4) ≤ (u0.1 33 2) → w_X5_peek n (0 : Int32) u0 (fun r1 u1 =>
  (r1 = (39 : Int32) → w_X4_readOctave_45 n (w_X4_readOctave_2 n Q k) x2 u1 Q) ∧
  (¬ r1 = (39 : Int32) → w_X5_peek n (0 : Int32) u1 (fun r2 u2 =>
  (¬ r2 = (44 : Int32) → w_X4_readOctave_82 n x2 u2 Q) ∧
  (r2 = (44 : Int32) → w_X4_readOctave_45 n (w_X4_readOctave_2 n Q k) x2 u2 Q)))))
def w_X4_readOctave (n : Nat) (a0 : Int32) (u0 : Mm) (Q : Int32 → Mm → Prop) : Prop :=
  (w_X4_readOctave_2 n Q n) a0 u0
set_option maxRecDepth 20000 in
theorem s_X4_readOctave_82 {g : Gb} (hg : xInj g) {n : Nat} {Q : Int32 → Mm → Prop} {x2 : Int32} {u0 : Mm} (h : w_X4_readOctave_82 n x2 u0 Q) : xE g me_X4_readOctave (pI g Q noT) 82 [(2, .int x2)] [] u0 := by
  unfold w_X4_readOctave_82 at h
  refine e_iload_n (k := 41) (i := 2) rfl rfl 0 rfl ?_
  exact e_iret (k := 42) rfl rfl (Or.inl ⟨_, rfl, h⟩)
set_option maxRecDepth 20000 in
theorem s_X4_readOctave_64 {g : Gb} (hg : xInj g) {n : Nat} {Q : Int32 → Mm → Prop} {L2 : Int32 → Mm → Prop} (hL2 : ∀ (x2 : Int32) (u0 : Mm), L2 x2 u0 → xE g me_X4_readOctave (pI g Q noT) 2 [(0, .ref (gR g 38)), (2, .int x2)] [] u0) {t0 : Int32} {t1 : Int32} {u0 : Mm} (h : w_X4_readOctave_64 n L2 t0 t1 u0 Q) : xE g me_X4_readOctave (pI g Q noT) 64 [(0, .ref (gR g 38))] [.int t0, .int t1] u0 := by
  unfold w_X4_readOctave_64 at h
  refine e_iadd (k := 31) rfl ?_
  refine e_ilet h (fun y1 h => ?_)
  refine e_istore_n (k := 32) (i := 2) (lv' := [(0, .ref (gR g 38)), (2, .int y1)]) rfl rfl (by decide) [1, 0] rfl ?_
  refine e_aload_n (k := 33) (i := 0) rfl rfl 0 rfl ?_
  refine e_getC (k := 34) rfl f_X4_9 rfl rfl ?_
  refine e_dup (k := 35) rfl rfl ?_
  refine e_getI (k := 36) rfl f_X4_123 rfl rfl ?_
  refine e_iconst (k := 37) (v := (1 : Int32)) rfl (by decide) ?_
  refine e_iadd (k := 38) rfl ?_
  refine e_putI (k := 39) rfl fg_X4_123 rfl rfl ?_
  refine e_mlet h (fun u1 h => ?_)
  refine e_goto (k := 40) (tgt := 2) rfl (by decide) ?_
  exact hL2 y1 u1 h
set_option maxRecDepth 20000 in
theorem s_X4_readOctave_45 {g : Gb} (hg : xInj g) {n : Nat} {Q : Int32 → Mm → Prop} {L2 : Int32 → Mm → Prop} (hL2 : ∀ (x2 : Int32) (u0 : Mm), L2 x2 u0 → xE g me_X4_readOctave (pI g Q noT) 2 [(0, .ref (gR g 38)), (2, .int x2)] [] u0) {x2 : Int32} {u0 : Mm} (h : w_X4_readOctave_45 n L2 x2 u0 Q) : xE g me_X4_readOctave (pI g Q noT) 45 [(0, .ref (gR g 38)), (2, .int x2)] [] u0 := by
  unfold w_X4_readOctave_45 at h
  refine e_iload_n (k := 21) (i := 2) rfl rfl 1 rfl ?_
  refine e_aload_n (k := 22) (i := 0) rfl rfl 0 rfl ?_
  refine e_getC (k := 23) rfl f_X4_9 rfl rfl ?_
  refine e_iconst (k := 24) (v := (0 : Int32)) rfl (by decide) ?_
  refine e_callVi (k := 25) (q := 33) (As := [.int (0 : Int32)]) (rest := [.int x2]) rfl (c_X5_peek (g := g) hg (n := n) h) m_X5_peek i_X5_peek l_X4_126 rfl ⟨_, rfl, rfl⟩ rfl rfl (Nat.le_of_ble_eq_true rfl) ⟨by decide, by decide, rfl, rfl⟩ (fun _ h => h.elim) (fun r1 u1 h => ?_)
  refine e_bipush (k := 26) (v := (39 : Int32)) rfl (by decide) ?_
  refine e_icmp_ne (k := 27) (tgt := 63) rfl (by decide) (fun z => ?_) (fun z => ?_)
  · have h := h.1 z
    refine e_iconst (k := 30) (v := (-1 : Int32)) rfl (by decide) ?_
    refine e_sub (lv' := [(0, .ref (gR g 38))]) [0] rfl ?_
    exact s_X4_readOctave_64 hg hL2 h
  · have h := h.2 z
    refine e_iconst (k := 28) (v := (1 : Int32)) rfl (by decide) ?_
    refine e_goto (k := 29) (tgt := 64) rfl (by decide) ?_
    refine e_sub (lv' := [(0, .ref (gR g 38))]) [0] rfl ?_
    exact s_X4_readOctave_64 hg hL2 h
set_option maxRecDepth 20000 in
theorem s_X4_readOctave_2 {g : Gb} (hg : xInj g) {n : Nat} {Q : Int32 → Mm → Prop} : ∀ (k : Nat) (x2 : Int32) (u0 : Mm), w_X4_readOctave_2 n Q k x2 u0 → xE g me_X4_readOctave (pI g Q noT) 2 [(0, .ref (gR g 38)), (2, .int x2)] [] u0 := by
  intro k
  induction k with
  | zero => intro x2 u0 h; exact h.elim
  | succ k ih =>
    intro x2 u0 h
    unfold w_X4_readOctave_2 at h
    refine e_aload_n (k := 2) (i := 0) rfl rfl 0 rfl ?_
    refine e_getC (k := 3) rfl f_X4_9 rfl rfl ?_
    refine e_getI (k := 4) rfl f_X4_123 rfl rfl ?_
    refine e_aload_n (k := 5) (i := 0) rfl rfl 0 rfl ?_
    refine e_getC (k := 6) rfl f_X4_9 rfl rfl ?_
    refine e_getI (k := 7) rfl f_X4_87 rfl rfl ?_
    refine e_icmp_ge (k := 8) (tgt := 82) rfl (by decide) (fun z => ?_) (fun z => ?_)
    · have h := h.1 z
      refine e_sub (lv' := [(2, .int x2)]) [1] rfl ?_
      exact s_X4_readOctave_82 hg h
    · have h := h.2 z
      refine e_aload_n (k := 9) (i := 0) rfl rfl 0 rfl ?_
      refine e_getC (k := 10) rfl f_X4_9 rfl rfl ?_
      refine e_iconst (k := 11) (v := (0 : Int32)) rfl (by decide) ?_
      refine e_callVi (k := 12) (q := 33) (As := [.int (0 : Int32)]) (rest := []) rfl (c_X5_peek (g := g) hg (n := n) h) m_X5_peek i_X5_peek l_X4_126 rfl ⟨_, rfl, rfl⟩ rfl rfl (Nat.le_of_ble_eq_true rfl) ⟨by decide, by decide, rfl, rfl⟩ (fun _ h => h.elim) (fun r1 u1 h => ?_)
      refine e_bipush (k := 13) (v := (39 : Int32)) rfl (by decide) ?_
      refine e_icmp_eq (k := 14) (tgt := 45) rfl (by decide) (fun z => ?_) (fun z => ?_)
      · have h := h.1 z
        exact s_X4_readOctave_45 hg ih h
      · have h := h.2 z
        refine e_aload_n (k := 15) (i := 0) rfl rfl 0 rfl ?_
        refine e_getC (k := 16) rfl f_X4_9 rfl rfl ?_
        refine e_iconst (k := 17) (v := (0 : Int32)) rfl (by decide) ?_
        refine e_callVi (k := 18) (q := 33) (As := [.int (0 : Int32)]) (rest := []) rfl (c_X5_peek (g := g) hg (n := n) h) m_X5_peek i_X5_peek l_X4_126 rfl ⟨_, rfl, rfl⟩ rfl rfl (Nat.le_of_ble_eq_true rfl) ⟨by decide, by decide, rfl, rfl⟩ (fun _ h => h.elim) (fun r2 u2 h => ?_)
        refine e_bipush (k := 19) (v := (44 : Int32)) rfl (by decide) ?_
        refine e_icmp_ne (k := 20) (tgt := 82) rfl (by decide) (fun z => ?_) (fun z => ?_)
        · have h := h.1 z
          refine e_sub (lv' := [(2, .int x2)]) [1] rfl ?_
          exact s_X4_readOctave_82 hg h
        · have h := h.2 z
          exact s_X4_readOctave_45 hg ih h
set_option maxRecDepth 20000 in
theorem c_X4_readOctave {g : Gb} (hg : xInj g) {n : Nat} {a0 : Int32} {u0 : Mm} {Q : Int32 → Mm → Prop} (h : w_X4_readOctave n a0 u0 Q) : xMet (gL g) yX4_readOctave (xws yX4_readOctave cX4_readOctave 3 (some .int)) (xRoom 2) (xPc g [.ref (gR g 38), .int a0] u0) (xQ g (pI g Q noT)) (xA g) := by
  refine xbody (il := il_X4_readOctave) hg il_X4_readOctave_ok m_X4_readOctave (Nat.le_of_ble_eq_true rfl) ?_
  show xE g me_X4_readOctave (pI g Q noT) 0 [(0, .ref (gR g 38)), (1, .int a0)] [] u0
  unfold w_X4_readOctave at h
  refine e_iload_n (k := 0) (i := 1) rfl rfl 1 rfl ?_
  refine e_istore_n (k := 1) (i := 2) (lv' := [(0, .ref (gR g 38)), (1, .int a0), (2, .int a0)]) rfl rfl (by decide) [1, 2, 0] rfl ?_
  refine e_sub (lv' := [(0, .ref (gR g 38)), (2, .int a0)]) [0, 2] rfl ?_
  exact s_X4_readOctave_2 hg n a0 u0 h
def il_X4_readSign : List (Nat × Instr × Nat) := [(0, .aload_n 0, 1), (1, .getfield 9, 3), (4, .iconst 0, 1), (5, .invokevirtual 126, 3), (8, .istore_n 1, 1), (9, .iload_n 1, 1), (10, .bipush 94, 2), (12, .if_icmp .ne 7, 3), (15, .iconst 1, 1), (16, .goto 14, 3), (19, .iload_n 1, 1), (20, .bipush 95, 2), (22, .if_icmp .ne 7, 3), (25, .iconst (-1), 1), (26, .goto 4, 3), (29, .iconst 0, 1), (30, .istore_n 2, 1), (31, .iload_n 1, 1), (32, .bipush 94, 2), (34, .if_icmp .eq 15, 3), (37, .iload_n 1, 1), (38, .bipush 95, 2), (40, .if_icmp .eq 9, 3), (43, .iload_n 1, 1), (44, .bipush 61, 2), (46, .if_icmp .ne 16, 3), (49, .aload_n 0, 1), (50, .getfield 9, 3), (53, .dup, 1), (54, .getfield 123, 3), (57, .iconst 1, 1), (58, .iadd, 1), (59, .putfield 123, 3), (62, .iload_n 2, 1), (63, .ifCond .eq 32, 3), (66, .aload_n 0, 1), (67, .getfield 9, 3), (70, .iconst 0, 1), (71, .invokevirtual 126, 3), (74, .iload_n 1, 1), (75, .if_icmp .ne 20, 3), (78, .aload_n 0, 1), (79, .getfield 9, 3), (82, .dup, 1), (83, .getfield 123, 3), (86, .iconst 1, 1), (87, .iadd, 1), (88, .putfield 123, 3), (91, .iconst 2, 1), (92, .iload_n 2, 1), (93, .imul, 1), (94, .ireturn, 1), (95, .iload_n 2, 1), (96, .ireturn, 1)]
set_option maxRecDepth 20000 in
theorem il_X4_readSign_ok : ∀ x ∈ il_X4_readSign, decode cX4_readSign x.1 = .ok x.2 := by decide +kernel
abbrev me_X4_readSign : Me := (RX4, il_X4_readSign, 3, (some .int), xRoom 2, [])
def w_X4_readSign_95 (n : Nat) (x2 : Int32) (u0 : Mm) (Q : Int32 → Mm → Prop) : Prop :=
  Q x2 u0
def w_X4_readSign_62 (n : Nat) (x1 : Int32) (x2 : Int32) (u0 : Mm) (Q : Int32 → Mm → Prop) : Prop :=
  (x2 = 0 → w_X4_readSign_95 n x2 u0 Q) ∧
  (¬ x2 = 0 → w_X5_peek n (0 : Int32) u0 (fun r1 u1 =>
  (¬ r1 = x1 → w_X4_readSign_95 n x2 u1 Q) ∧
  (r1 = x1 → mlet (setI u1 33 2 ((u1.1 33 2) + (1 : Int32))) fun u2 =>
  Q ((2 : Int32) * x2) u2)))
def w_X4_readSign_49 (n : Nat) (x1 : Int32) (x2 : Int32) (u0 : Mm) (Q : Int32 → Mm → Prop) : Prop :=
  mlet (setI u0 33 2 ((u0.1 33 2) + (1 : Int32))) fun u1 =>
  w_X4_readSign_62 n x1 x2 u1 Q
def w_X4_readSign_30 (n : Nat) (x1 : Int32) (t0 : Int32) (u0 : Mm) (Q : Int32 → Mm → Prop) : Prop :=
  (x1 = (94 : Int32) → w_X4_readSign_49 n x1 t0 u0 Q) ∧
  (¬ x1 = (94 : Int32) → (x1 = (95 : Int32) → w_X4_readSign_49 n x1 t0 u0 Q) ∧
  (¬ x1 = (95 : Int32) → (¬ x1 = (61 : Int32) → w_X4_readSign_62 n x1 t0 u0 Q) ∧
  (x1 = (61 : Int32) → w_X4_readSign_49 n x1 t0 u0 Q)))
def w_X4_readSign (n : Nat) (u0 : Mm) (Q : Int32 → Mm → Prop) : Prop :=
  w_X5_peek n (0 : Int32) u0 (fun r1 u1 =>
  (¬ r1 = (94 : Int32) → (¬ r1 = (95 : Int32) → w_X4_readSign_30 n r1 (0 : Int32) u1 Q) ∧
  (r1 = (95 : Int32) → w_X4_readSign_30 n r1 (-1 : Int32) u1 Q)) ∧
  (r1 = (94 : Int32) → w_X4_readSign_30 n r1 (1 : Int32) u1 Q))
set_option maxRecDepth 20000 in
theorem s_X4_readSign_95 {g : Gb} (hg : xInj g) {n : Nat} {Q : Int32 → Mm → Prop} {x2 : Int32} {u0 : Mm} (h : w_X4_readSign_95 n x2 u0 Q) : xE g me_X4_readSign (pI g Q noT) 95 [(2, .int x2)] [] u0 := by
  unfold w_X4_readSign_95 at h
  refine e_iload_n (k := 52) (i := 2) rfl rfl 0 rfl ?_
  exact e_iret (k := 53) rfl rfl (Or.inl ⟨_, rfl, h⟩)
set_option maxRecDepth 20000 in
theorem s_X4_readSign_62 {g : Gb} (hg : xInj g) {n : Nat} {Q : Int32 → Mm → Prop} {x1 : Int32} {x2 : Int32} {u0 : Mm} (h : w_X4_readSign_62 n x1 x2 u0 Q) : xE g me_X4_readSign (pI g Q noT) 62 [(0, .ref (gR g 38)), (1, .int x1), (2, .int x2)] [] u0 := by
  unfold w_X4_readSign_62 at h
  refine e_iload_n (k := 33) (i := 2) rfl rfl 2 rfl ?_
  refine e_if_eq (k := 34) (tgt := 95) rfl (by decide) (fun z => ?_) (fun z => ?_)
  · have h := h.1 z
    refine e_sub (lv' := [(2, .int x2)]) [2] rfl ?_
    exact s_X4_readSign_95 hg h
  · have h := h.2 z
    refine e_aload_n (k := 35) (i := 0) rfl rfl 0 rfl ?_
    refine e_getC (k := 36) rfl f_X4_9 rfl rfl ?_
    refine e_iconst (k := 37) (v := (0 : Int32)) rfl (by decide) ?_
    refine e_callVi (k := 38) (q := 33) (As := [.int (0 : Int32)]) (rest := []) rfl (c_X5_peek (g := g) hg (n := n) h) m_X5_peek i_X5_peek l_X4_126 rfl ⟨_, rfl, rfl⟩ rfl rfl (Nat.le_of_ble_eq_true rfl) ⟨by decide, by decide, rfl, rfl⟩ (fun _ h => h.elim) (fun r1 u1 h => ?_)
    refine e_iload_n (k := 39) (i := 1) rfl rfl 1 rfl ?_
    refine e_icmp_ne (k := 40) (tgt := 95) rfl (by decide) (fun z => ?_) (fun z => ?_)
    · have h := h.1 z
      refine e_sub (lv' := [(2, .int x2)]) [2] rfl ?_
      exact s_X4_readSign_95 hg h
    · have h := h.2 z
      refine e_aload_n (k := 41) (i := 0) rfl rfl 0 rfl ?_
      refine e_getC (k := 42) rfl f_X4_9 rfl rfl ?_
      refine e_dup (k := 43) rfl rfl ?_
      refine e_getI (k := 44) rfl f_X4_123 rfl rfl ?_
      refine e_iconst (k := 45) (v := (1 : Int32)) rfl (by decide) ?_
      refine e_iadd (k := 46) rfl ?_
      refine e_putI (k := 47) rfl fg_X4_123 rfl rfl ?_
      refine e_mlet h (fun u2 h => ?_)
      refine e_iconst (k := 48) (v := (2 : Int32)) rfl (by decide) ?_
      refine e_iload_n (k := 49) (i := 2) rfl rfl 2 rfl ?_
      refine e_imul (k := 50) rfl ?_
      exact e_iret (k := 51) rfl rfl (Or.inl ⟨_, rfl, h⟩)
set_option maxRecDepth 20000 in
theorem s_X4_readSign_49 {g : Gb} (hg : xInj g) {n : Nat} {Q : Int32 → Mm → Prop} {x1 : Int32} {x2 : Int32} {u0 : Mm} (h : w_X4_readSign_49 n x1 x2 u0 Q) : xE g me_X4_readSign (pI g Q noT) 49 [(0, .ref (gR g 38)), (1, .int x1), (2, .int x2)] [] u0 := by
  unfold w_X4_readSign_49 at h
  refine e_aload_n (k := 26) (i := 0) rfl rfl 0 rfl ?_
  refine e_getC (k := 27) rfl f_X4_9 rfl rfl ?_
  refine e_dup (k := 28) rfl rfl ?_
  refine e_getI (k := 29) rfl f_X4_123 rfl rfl ?_
  refine e_iconst (k := 30) (v := (1 : Int32)) rfl (by decide) ?_
  refine e_iadd (k := 31) rfl ?_
  refine e_putI (k := 32) rfl fg_X4_123 rfl rfl ?_
  refine e_mlet h (fun u1 h => ?_)
  exact s_X4_readSign_62 hg h
set_option maxRecDepth 20000 in
theorem s_X4_readSign_30 {g : Gb} (hg : xInj g) {n : Nat} {Q : Int32 → Mm → Prop} {x1 : Int32} {t0 : Int32} {u0 : Mm} (h : w_X4_readSign_30 n x1 t0 u0 Q) : xE g me_X4_readSign (pI g Q noT) 30 [(0, .ref (gR g 38)), (1, .int x1)] [.int t0] u0 := by
  unfold w_X4_readSign_30 at h
  refine e_istore_n (k := 16) (i := 2) (lv' := [(0, .ref (gR g 38)), (1, .int x1), (2, .int t0)]) rfl rfl (by decide) [1, 2, 0] rfl ?_
  refine e_iload_n (k := 17) (i := 1) rfl rfl 1 rfl ?_
  refine e_bipush (k := 18) (v := (94 : Int32)) rfl (by decide) ?_
  refine e_icmp_eq (k := 19) (tgt := 49) rfl (by decide) (fun z => ?_) (fun z => ?_)
  · have h := h.1 z
    exact s_X4_readSign_49 hg h
  · have h := h.2 z
    refine e_iload_n (k := 20) (i := 1) rfl rfl 1 rfl ?_
    refine e_bipush (k := 21) (v := (95 : Int32)) rfl (by decide) ?_
    refine e_icmp_eq (k := 22) (tgt := 49) rfl (by decide) (fun z => ?_) (fun z => ?_)
    · have h := h.1 z
      exact s_X4_readSign_49 hg h
    · have h := h.2 z
      refine e_iload_n (k := 23) (i := 1) rfl rfl 1 rfl ?_
      refine e_bipush (k := 24) (v := (61 : Int32)) rfl (by decide) ?_
      refine e_icmp_ne (k := 25) (tgt := 62) rfl (by decide) (fun z => ?_) (fun z => ?_)
      · have h := h.1 z
        exact s_X4_readSign_62 hg h
      · have h := h.2 z
        exact s_X4_readSign_49 hg h
set_option maxRecDepth 20000 in
theorem c_X4_readSign {g : Gb} (hg : xInj g) {n : Nat} {u0 : Mm} {Q : Int32 → Mm → Prop} (h : w_X4_readSign n u0 Q) : xMet (gL g) yX4_readSign (xws yX4_readSign cX4_readSign 3 (some .int)) (xRoom 2) (xPc g [.ref (gR g 38)] u0) (xQ g (pI g Q noT)) (xA g) := by
  refine xbody (il := il_X4_readSign) hg il_X4_readSign_ok m_X4_readSign (Nat.le_of_ble_eq_true rfl) ?_
  show xE g me_X4_readSign (pI g Q noT) 0 [(0, .ref (gR g 38))] [] u0
  unfold w_X4_readSign at h
  refine e_aload_n (k := 0) (i := 0) rfl rfl 0 rfl ?_
  refine e_getC (k := 1) rfl f_X4_9 rfl rfl ?_
  refine e_iconst (k := 2) (v := (0 : Int32)) rfl (by decide) ?_
  refine e_callVi (k := 3) (q := 33) (As := [.int (0 : Int32)]) (rest := []) rfl (c_X5_peek (g := g) hg (n := n) h) m_X5_peek i_X5_peek l_X4_126 rfl ⟨_, rfl, rfl⟩ rfl rfl (Nat.le_of_ble_eq_true rfl) ⟨by decide, by decide, rfl, rfl⟩ (fun _ h => h.elim) (fun r1 u1 h => ?_)
  refine e_istore_n (k := 4) (i := 1) (lv' := [(0, .ref (gR g 38)), (1, .int r1)]) rfl rfl (by decide) [1, 0] rfl ?_
  refine e_iload_n (k := 5) (i := 1) rfl rfl 1 rfl ?_
  refine e_bipush (k := 6) (v := (94 : Int32)) rfl (by decide) ?_
  refine e_icmp_ne (k := 7) (tgt := 19) rfl (by decide) (fun z => ?_) (fun z => ?_)
  · have h := h.1 z
    refine e_iload_n (k := 10) (i := 1) rfl rfl 1 rfl ?_
    refine e_bipush (k := 11) (v := (95 : Int32)) rfl (by decide) ?_
    refine e_icmp_ne (k := 12) (tgt := 29) rfl (by decide) (fun z => ?_) (fun z => ?_)
    · have h := h.1 z
      refine e_iconst (k := 15) (v := (0 : Int32)) rfl (by decide) ?_
      exact s_X4_readSign_30 hg h
    · have h := h.2 z
      refine e_iconst (k := 13) (v := (-1 : Int32)) rfl (by decide) ?_
      refine e_goto (k := 14) (tgt := 30) rfl (by decide) ?_
      exact s_X4_readSign_30 hg h
  · have h := h.2 z
    refine e_iconst (k := 8) (v := (1 : Int32)) rfl (by decide) ?_
    refine e_goto (k := 9) (tgt := 30) rfl (by decide) ?_
    exact s_X4_readSign_30 hg h
def il_X4_readSlur : List (Nat × Instr × Nat) := [(0, .aload_n 0, 1), (1, .getfield 9, 3), (4, .iconst 0, 1), (5, .invokevirtual 126, 3), (8, .bipush 40, 2), (10, .if_icmp .ne 7, 3), (13, .iconst 1, 1), (14, .goto 4, 3), (17, .iconst 0, 1), (18, .istore_n 1, 1), (19, .aload_n 0, 1), (20, .getfield 68, 3), (23, .iload_n 1, 1), (24, .ifCond .eq 7, 3), (27, .iconst 4, 1), (28, .goto 4, 3), (31, .iconst 0, 1), (32, .if_icmp .ne 19, 3), (35, .aload_n 0, 1), (36, .getfield 9, 3), (39, .iconst 5, 1), (40, .aload_n 0, 1), (41, .getfield 9, 3), (44, .getfield 123, 3), (47, .invokevirtual 93, 3), (50, .return_, 1), (51, .aload_n 0, 1), (52, .getfield 9, 3), (55, .dup, 1), (56, .getfield 123, 3), (59, .iconst 1, 1), (60, .iadd, 1), (61, .putfield 123, 3), (64, .iload_n 1, 1), (65, .ifCond .eq 29, 3), (68, .aload_n 0, 1), (69, .dup, 1), (70, .getfield 68, 3), (73, .iconst 1, 1), (74, .iadd, 1), (75, .putfield 68, 3), (78, .aload_n 0, 1), (79, .getfield 33, 3), (82, .dup, 1), (83, .getfield 367, 3), (86, .iconst 1, 1), (87, .iadd, 1), (88, .putfield 367, 3), (91, .goto 41, 3), (94, .aload_n 0, 1), (95, .dup, 1), (96, .getfield 68, 3), (99, .iconst 1, 1), (100, .isub, 1), (101, .putfield 68, 3), (104, .aload_n 0, 1), (105, .getfield 29, 3), (108, .aload_n 0, 1), (109, .getfield 72, 3), (112, .bipush 14, 2), (114, .aload_n 0, 1), (115, .getfield 29, 3), (118, .aload_n 0, 1), (119, .getfield 72, 3), (122, .bipush 14, 2), (124, .invokevirtual 301, 3), (127, .iconst 1, 1), (128, .iadd, 1), (129, .invokevirtual 180, 3), (132, .return_, 1)]
set_option maxRecDepth 20000 in
theorem il_X4_readSlur_ok : ∀ x ∈ il_X4_readSlur, decode cX4_readSlur x.1 = .ok x.2 := by decide +kernel
abbrev me_X4_readSlur : Me := (RX4, il_X4_readSlur, 2, none, xRoom 2, [])
def w_X4_readSlur_132 (n : Nat) (u0 : Mm) (Q : Mm → Prop) : Prop :=
  Q u0
def w_X4_readSlur_32 (n : Nat) (x1 : Int32) (t0 : Int32) (t1 : Int32) (u0 : Mm) (Q : Mm → Prop) : Prop :=
  (¬ t1 = t0 → mlet (setI u0 33 2 ((u0.1 33 2) + (1 : Int32))) fun u1 =>
  (x1 = 0 → mlet (setI u1 38 11 ((u1.1 38 11) - (1 : Int32))) fun u2 =>
  w_X6_cell n (u2.1 38 12) (14 : Int32) u2 (fun r1 u3 =>
  w_X6_put n (u2.1 38 12) (14 : Int32) (r1 + (1 : Int32)) u3 (fun u4 =>
  w_X4_readSlur_132 n u4 Q))) ∧
  (¬ x1 = 0 → mlet (setI u1 38 11 ((u1.1 38 11) + (1 : Int32))) fun u5 =>
  mlet (setI u5 39 2 ((u5.1 39 2) + (1 : Int32))) fun u6 =>
  w_X4_readSlur_132 n u6 Q)) ∧
  (t1 = t0 → w_X5_fail n (5 : Int32) (u0.1 33 2) u0 (fun u7 =>
  Q u7))
def w_X4_readSlur_18 (n : Nat) (t0 : Int32) (u0 : Mm) (Q : Mm → Prop) : Prop :=
  (t0 = 0 → w_X4_readSlur_32 n t0 (0 : Int32) (u0.1 38 11) u0 Q) ∧
  (¬ t0 = 0 → w_X4_readSlur_32 n t0 (4 : Int32) (u0.1 38 11) u0 Q)
def w_X4_readSlur (n : Nat) (u0 : Mm) (Q : Mm → Prop) : Prop :=
  w_X5_peek n (0 : Int32) u0 (fun r1 u1 =>
  (¬ r1 = (40 : Int32) → w_X4_readSlur_18 n (0 : Int32) u1 Q) ∧
  (r1 = (40 : Int32) → w_X4_readSlur_18 n (1 : Int32) u1 Q))
set_option maxRecDepth 20000 in
theorem s_X4_readSlur_132 {g : Gb} (hg : xInj g) {n : Nat} {Q : Mm → Prop} {u0 : Mm} (h : w_X4_readSlur_132 n  u0 Q) : xE g me_X4_readSlur (pV g Q noT) 132 [] [] u0 := by
  unfold w_X4_readSlur_132 at h
  exact e_vret (k := 69) rfl rfl (Or.inl ⟨rfl, h⟩)
set_option maxRecDepth 20000 in
theorem s_X4_readSlur_32 {g : Gb} (hg : xInj g) {n : Nat} {Q : Mm → Prop} {x1 : Int32} {t0 : Int32} {t1 : Int32} {u0 : Mm} (h : w_X4_readSlur_32 n x1 t0 t1 u0 Q) : xE g me_X4_readSlur (pV g Q noT) 32 [(0, .ref (gR g 38)), (1, .int x1)] [.int t0, .int t1] u0 := by
  unfold w_X4_readSlur_32 at h
  refine e_icmp_ne (k := 17) (tgt := 51) rfl (by decide) (fun z => ?_) (fun z => ?_)
  · have h := h.1 z
    refine e_aload_n (k := 26) (i := 0) rfl rfl 0 rfl ?_
    refine e_getC (k := 27) rfl f_X4_9 rfl rfl ?_
    refine e_dup (k := 28) rfl rfl ?_
    refine e_getI (k := 29) rfl f_X4_123 rfl rfl ?_
    refine e_iconst (k := 30) (v := (1 : Int32)) rfl (by decide) ?_
    refine e_iadd (k := 31) rfl ?_
    refine e_putI (k := 32) rfl fg_X4_123 rfl rfl ?_
    refine e_mlet h (fun u1 h => ?_)
    refine e_iload_n (k := 33) (i := 1) rfl rfl 1 rfl ?_
    refine e_if_eq (k := 34) (tgt := 94) rfl (by decide) (fun z => ?_) (fun z => ?_)
    · have h := h.1 z
      refine e_aload_n (k := 49) (i := 0) rfl rfl 0 rfl ?_
      refine e_dup (k := 50) rfl rfl ?_
      refine e_getI (k := 51) rfl f_X4_68 rfl rfl ?_
      refine e_iconst (k := 52) (v := (1 : Int32)) rfl (by decide) ?_
      refine e_isub (k := 53) rfl ?_
      refine e_putI (k := 54) rfl fg_X4_68 rfl rfl ?_
      refine e_mlet h (fun u2 h => ?_)
      refine e_aload_n (k := 55) (i := 0) rfl rfl 0 rfl ?_
      refine e_getC (k := 56) rfl f_X4_29 rfl rfl ?_
      refine e_aload_n (k := 57) (i := 0) rfl rfl 0 rfl ?_
      refine e_getI (k := 58) rfl f_X4_72 rfl rfl ?_
      refine e_bipush (k := 59) (v := (14 : Int32)) rfl (by decide) ?_
      refine e_aload_n (k := 60) (i := 0) rfl rfl 0 rfl ?_
      refine e_getC (k := 61) rfl f_X4_29 rfl rfl ?_
      refine e_aload_n (k := 62) (i := 0) rfl rfl 0 rfl ?_
      refine e_getI (k := 63) rfl f_X4_72 rfl rfl ?_
      refine e_bipush (k := 64) (v := (14 : Int32)) rfl (by decide) ?_
      refine e_callVi (k := 65) (q := 36) (As := [.int (u2.1 38 12), .int (14 : Int32)]) (rest := [.int (14 : Int32), .int (u2.1 38 12), .ref (gR g 36)]) rfl (c_X6_cell (g := g) hg (n := n) h) m_X6_cell i_X6_cell l_X4_301 rfl ⟨_, rfl, rfl⟩ rfl rfl (Nat.le_of_ble_eq_true rfl) ⟨by decide, by decide, rfl, rfl⟩ (fun _ h => h.elim) (fun r1 u3 h => ?_)
      refine e_iconst (k := 66) (v := (1 : Int32)) rfl (by decide) ?_
      refine e_iadd (k := 67) rfl ?_
      refine e_callVv (k := 68) (q := 36) (As := [.int (u2.1 38 12), .int (14 : Int32), .int (r1 + (1 : Int32))]) (rest := []) rfl (c_X6_put (g := g) hg (n := n) h) m_X6_put i_X6_put l_X4_180 rfl ⟨_, rfl, rfl⟩ rfl rfl (Nat.le_of_ble_eq_true rfl) ⟨by decide, by decide, rfl, rfl⟩ (fun _ h => h.elim) (fun u4 h => ?_)
      refine e_sub (lv' := []) [] rfl ?_
      exact s_X4_readSlur_132 hg h
    · have h := h.2 z
      refine e_aload_n (k := 35) (i := 0) rfl rfl 0 rfl ?_
      refine e_dup (k := 36) rfl rfl ?_
      refine e_getI (k := 37) rfl f_X4_68 rfl rfl ?_
      refine e_iconst (k := 38) (v := (1 : Int32)) rfl (by decide) ?_
      refine e_iadd (k := 39) rfl ?_
      refine e_putI (k := 40) rfl fg_X4_68 rfl rfl ?_
      refine e_mlet h (fun u5 h => ?_)
      refine e_aload_n (k := 41) (i := 0) rfl rfl 0 rfl ?_
      refine e_getC (k := 42) rfl f_X4_33 rfl rfl ?_
      refine e_dup (k := 43) rfl rfl ?_
      refine e_getI (k := 44) rfl f_X4_367 rfl rfl ?_
      refine e_iconst (k := 45) (v := (1 : Int32)) rfl (by decide) ?_
      refine e_iadd (k := 46) rfl ?_
      refine e_putI (k := 47) rfl fg_X4_367 rfl rfl ?_
      refine e_mlet h (fun u6 h => ?_)
      refine e_goto (k := 48) (tgt := 132) rfl (by decide) ?_
      refine e_sub (lv' := []) [] rfl ?_
      exact s_X4_readSlur_132 hg h
  · have h := h.2 z
    refine e_aload_n (k := 18) (i := 0) rfl rfl 0 rfl ?_
    refine e_getC (k := 19) rfl f_X4_9 rfl rfl ?_
    refine e_iconst (k := 20) (v := (5 : Int32)) rfl (by decide) ?_
    refine e_aload_n (k := 21) (i := 0) rfl rfl 0 rfl ?_
    refine e_getC (k := 22) rfl f_X4_9 rfl rfl ?_
    refine e_getI (k := 23) rfl f_X4_123 rfl rfl ?_
    refine e_callVv (k := 24) (q := 33) (As := [.int (5 : Int32), .int (u0.1 33 2)]) (rest := []) rfl (c_X5_fail (g := g) hg (n := n) h) m_X5_fail i_X5_fail l_X4_93 rfl ⟨_, rfl, rfl⟩ rfl rfl (Nat.le_of_ble_eq_true rfl) ⟨by decide, by decide, rfl, rfl⟩ (fun _ h => h.elim) (fun u7 h => ?_)
    exact e_vret (k := 25) rfl rfl (Or.inl ⟨rfl, h⟩)
set_option maxRecDepth 20000 in
theorem s_X4_readSlur_18 {g : Gb} (hg : xInj g) {n : Nat} {Q : Mm → Prop} {t0 : Int32} {u0 : Mm} (h : w_X4_readSlur_18 n t0 u0 Q) : xE g me_X4_readSlur (pV g Q noT) 18 [(0, .ref (gR g 38))] [.int t0] u0 := by
  unfold w_X4_readSlur_18 at h
  refine e_istore_n (k := 9) (i := 1) (lv' := [(0, .ref (gR g 38)), (1, .int t0)]) rfl rfl (by decide) [1, 0] rfl ?_
  refine e_aload_n (k := 10) (i := 0) rfl rfl 0 rfl ?_
  refine e_getI (k := 11) rfl f_X4_68 rfl rfl ?_
  refine e_iload_n (k := 12) (i := 1) rfl rfl 1 rfl ?_
  refine e_if_eq (k := 13) (tgt := 31) rfl (by decide) (fun z => ?_) (fun z => ?_)
  · have h := h.1 z
    refine e_iconst (k := 16) (v := (0 : Int32)) rfl (by decide) ?_
    exact s_X4_readSlur_32 hg h
  · have h := h.2 z
    refine e_iconst (k := 14) (v := (4 : Int32)) rfl (by decide) ?_
    refine e_goto (k := 15) (tgt := 32) rfl (by decide) ?_
    exact s_X4_readSlur_32 hg h
set_option maxRecDepth 20000 in
theorem c_X4_readSlur {g : Gb} (hg : xInj g) {n : Nat} {u0 : Mm} {Q : Mm → Prop} (h : w_X4_readSlur n u0 Q) : xMet (gL g) yX4_readSlur (xws yX4_readSlur cX4_readSlur 2 none) (xRoom 2) (xPc g [.ref (gR g 38)] u0) (xQ g (pV g Q noT)) (xA g) := by
  refine xbody (il := il_X4_readSlur) hg il_X4_readSlur_ok m_X4_readSlur (Nat.le_of_ble_eq_true rfl) ?_
  show xE g me_X4_readSlur (pV g Q noT) 0 [(0, .ref (gR g 38))] [] u0
  unfold w_X4_readSlur at h
  refine e_aload_n (k := 0) (i := 0) rfl rfl 0 rfl ?_
  refine e_getC (k := 1) rfl f_X4_9 rfl rfl ?_
  refine e_iconst (k := 2) (v := (0 : Int32)) rfl (by decide) ?_
  refine e_callVi (k := 3) (q := 33) (As := [.int (0 : Int32)]) (rest := []) rfl (c_X5_peek (g := g) hg (n := n) h) m_X5_peek i_X5_peek l_X4_126 rfl ⟨_, rfl, rfl⟩ rfl rfl (Nat.le_of_ble_eq_true rfl) ⟨by decide, by decide, rfl, rfl⟩ (fun _ h => h.elim) (fun r1 u1 h => ?_)
  refine e_bipush (k := 4) (v := (40 : Int32)) rfl (by decide) ?_
  refine e_icmp_ne (k := 5) (tgt := 17) rfl (by decide) (fun z => ?_) (fun z => ?_)
  · have h := h.1 z
    refine e_iconst (k := 8) (v := (0 : Int32)) rfl (by decide) ?_
    exact s_X4_readSlur_18 hg h
  · have h := h.2 z
    refine e_iconst (k := 6) (v := (1 : Int32)) rfl (by decide) ?_
    refine e_goto (k := 7) (tgt := 18) rfl (by decide) ?_
    exact s_X4_readSlur_18 hg h
def il_X4_readWord : List (Nat × Instr × Nat) := [(0, .aload_n 0, 1), (1, .getfield 9, 3), (4, .iconst 0, 1), (5, .invokevirtual 126, 3), (8, .istore_n 1, 1), (9, .iload_n 1, 1), (10, .bipush 34, 2), (12, .if_icmp .ne 7, 3), (15, .iconst 1, 1), (16, .goto 4, 3), (19, .iconst 0, 1), (20, .istore_n 2, 1), (21, .aload_n 0, 1), (22, .getfield 9, 3), (25, .dup, 1), (26, .getfield 123, 3), (29, .iconst 1, 1), (30, .iadd, 1), (31, .putfield 123, 3), (34, .iconst 0, 1), (35, .istore_n 3, 1), (36, .iload_n 3, 1), (37, .iload_n 2, 1), (38, .ifCond .eq 8, 3), (41, .bipush 20, 2), (43, .goto 5, 3), (46, .bipush 12, 2), (48, .if_icmp .ge 37, 3), (51, .iload_n 2, 1), (52, .aload_n 0, 1), (53, .getfield 9, 3), (56, .iconst 0, 1), (57, .invokevirtual 126, 3), (60, .invokestatic 384, 3), (63, .ifCond .eq 22, 3), (66, .iinc 3 1, 3), (69, .aload_n 0, 1), (70, .getfield 9, 3), (73, .dup, 1), (74, .getfield 123, 3), (77, .iconst 1, 1), (78, .iadd, 1), (79, .putfield 123, 3), (82, .goto (-46), 3), (85, .aload_n 0, 1), (86, .getfield 9, 3), (89, .iconst 0, 1), (90, .invokevirtual 126, 3), (93, .iload_n 1, 1), (94, .if_icmp .ne 11, 3), (97, .iload_n 2, 1), (98, .ifCond .ne 23, 3), (101, .iload_n 3, 1), (102, .ifCond .ne 19, 3), (105, .aload_n 0, 1), (106, .getfield 9, 3), (109, .iconst 1, 1), (110, .aload_n 0, 1), (111, .getfield 9, 3), (114, .getfield 123, 3), (117, .invokevirtual 93, 3), (120, .return_, 1), (121, .aload_n 0, 1), (122, .getfield 9, 3), (125, .dup, 1), (126, .getfield 123, 3), (129, .iconst 1, 1), (130, .iadd, 1), (131, .putfield 123, 3), (134, .aload_n 0, 1), (135, .getfield 33, 3), (138, .dup, 1), (139, .getfield 388, 3), (142, .iconst 1, 1), (143, .iadd, 1), (144, .putfield 388, 3), (147, .return_, 1)]
set_option maxRecDepth 20000 in
theorem il_X4_readWord_ok : ∀ x ∈ il_X4_readWord, decode cX4_readWord x.1 = .ok x.2 := by decide +kernel
abbrev me_X4_readWord : Me := (RX4, il_X4_readWord, 4, none, xRoom 2, [])
def w_X4_readWord_121 (n : Nat) (u0 : Mm) (Q : Mm → Prop) : Prop :=
  mlet (setI u0 33 2 ((u0.1 33 2) + (1 : Int32))) fun u1 =>
  mlet (setI u1 39 1 ((u1.1 39 1) + (1 : Int32))) fun u2 =>
  Q u2
def w_X4_readWord_105 (n : Nat) (u0 : Mm) (Q : Mm → Prop) : Prop :=
  w_X5_fail n (1 : Int32) (u0.1 33 2) u0 (fun u1 =>
  Q u1)
def w_X4_readWord_85 (n : Nat) (x1 : Int32) (x2 : Int32) (x3 : Int32) (u0 : Mm) (Q : Mm → Prop) : Prop :=
  w_X5_peek n (0 : Int32) u0 (fun r1 u1 =>
  (¬ r1 = x1 → w_X4_readWord_105 n u1 Q) ∧
  (r1 = x1 → (¬ x2 = 0 → w_X4_readWord_121 n u1 Q) ∧
  (x2 = 0 → (¬ x3 = 0 → w_X4_readWord_121 n u1 Q) ∧
  (x3 = 0 → w_X4_readWord_105 n u1 Q))))
def w_X4_readWord_48 (n : Nat) (L36 : Int32 → Int32 → Int32 → Mm → Prop) (x1 : Int32) (x2 : Int32) (x3 : Int32) (t0 : Int32) (t1 : Int32) (u0 : Mm) (Q : Mm → Prop) : Prop :=
  (t0 ≤ t1 → w_X4_readWord_85 n x1 x2 x3 u0 Q) ∧
  (¬ t0 ≤ t1 → w_X5_peek n (0 : Int32) u0 (fun r1 u1 =>
  w_X4_mayBeInWord n x2 r1 u1 (fun r2 u2 =>
  (r2 = 0 → w_X4_readWord_85 n x1 x2 x3 u2 Q) ∧
  (¬ r2 = 0 → mlet (setI u2 33 2 ((u2.1 33 2) + (1 : Int32))) fun u3 =>
  L36 x1 x2 (x3 + (1 : Int32)) u3))))
def w_X4_readWord_36 (n : Nat) (Q : Mm → Prop) : Nat → Int32 → Int32 → Int32 → Mm → Prop
  | 0, _, _, _, _ => False
  | k + 1, x1, x2, x3, u0 =>
  (x2 = 0 → w_X4_readWord_48 n (w_X4_readWord_36 n Q k) x1 x2 x3 (12 : Int32) x3 u0 Q) ∧
  (¬ x2 = 0 → w_X4_readWord_48 n (w_X4_readWord_36 n Q k) x1 x2 x3 (20 : Int32) x3 u0 Q)
def w_X4_readWord_20 (n : Nat) (x1 : Int32) (t0 : Int32) (u0 : Mm) (Q : Mm → Prop) : Prop :=
  mlet (setI u0 33 2 ((u0.1 33 2) + (1 : Int32))) fun u1 =>
  (w_X4_readWord_36 n Q n) x1 t0 (0 : Int32) u1
def w_X4_readWord (n : Nat) (u0 : Mm) (Q : Mm → Prop) : Prop :=
  w_X5_peek n (0 : Int32) u0 (fun r1 u1 =>
  (¬ r1 = (34 : Int32) → w_X4_readWord_20 n r1 (0 : Int32) u1 Q) ∧
  (r1 = (34 : Int32) → w_X4_readWord_20 n r1 (1 : Int32) u1 Q))
set_option maxRecDepth 20000 in
theorem s_X4_readWord_121 {g : Gb} (hg : xInj g) {n : Nat} {Q : Mm → Prop} {u0 : Mm} (h : w_X4_readWord_121 n  u0 Q) : xE g me_X4_readWord (pV g Q noT) 121 [(0, .ref (gR g 38))] [] u0 := by
  unfold w_X4_readWord_121 at h
  refine e_aload_n (k := 62) (i := 0) rfl rfl 0 rfl ?_
  refine e_getC (k := 63) rfl f_X4_9 rfl rfl ?_
  refine e_dup (k := 64) rfl rfl ?_
  refine e_getI (k := 65) rfl f_X4_123 rfl rfl ?_
  refine e_iconst (k := 66) (v := (1 : Int32)) rfl (by decide) ?_
  refine e_iadd (k := 67) rfl ?_
  refine e_putI (k := 68) rfl fg_X4_123 rfl rfl ?_
  refine e_mlet h (fun u1 h => ?_)
  refine e_aload_n (k := 69) (i := 0) rfl rfl 0 rfl ?_
  refine e_getC (k := 70) rfl f_X4_33 rfl rfl ?_
  refine e_dup (k := 71) rfl rfl ?_
  refine e_getI (k := 72) rfl f_X4_388 rfl rfl ?_
  refine e_iconst (k := 73) (v := (1 : Int32)) rfl (by decide) ?_
  refine e_iadd (k := 74) rfl ?_
  refine e_putI (k := 75) rfl fg_X4_388 rfl rfl ?_
  refine e_mlet h (fun u2 h => ?_)
  exact e_vret (k := 76) rfl rfl (Or.inl ⟨rfl, h⟩)
set_option maxRecDepth 20000 in
theorem s_X4_readWord_105 {g : Gb} (hg : xInj g) {n : Nat} {Q : Mm → Prop} {u0 : Mm} (h : w_X4_readWord_105 n  u0 Q) : xE g me_X4_readWord (pV g Q noT) 105 [(0, .ref (gR g 38))] [] u0 := by
  unfold w_X4_readWord_105 at h
  refine e_aload_n (k := 54) (i := 0) rfl rfl 0 rfl ?_
  refine e_getC (k := 55) rfl f_X4_9 rfl rfl ?_
  refine e_iconst (k := 56) (v := (1 : Int32)) rfl (by decide) ?_
  refine e_aload_n (k := 57) (i := 0) rfl rfl 0 rfl ?_
  refine e_getC (k := 58) rfl f_X4_9 rfl rfl ?_
  refine e_getI (k := 59) rfl f_X4_123 rfl rfl ?_
  refine e_callVv (k := 60) (q := 33) (As := [.int (1 : Int32), .int (u0.1 33 2)]) (rest := []) rfl (c_X5_fail (g := g) hg (n := n) h) m_X5_fail i_X5_fail l_X4_93 rfl ⟨_, rfl, rfl⟩ rfl rfl (Nat.le_of_ble_eq_true rfl) ⟨by decide, by decide, rfl, rfl⟩ (fun _ h => h.elim) (fun u1 h => ?_)
  exact e_vret (k := 61) rfl rfl (Or.inl ⟨rfl, h⟩)
set_option maxRecDepth 20000 in
theorem s_X4_readWord_85 {g : Gb} (hg : xInj g) {n : Nat} {Q : Mm → Prop} {x1 : Int32} {x2 : Int32} {x3 : Int32} {u0 : Mm} (h : w_X4_readWord_85 n x1 x2 x3 u0 Q) : xE g me_X4_readWord (pV g Q noT) 85 [(0, .ref (gR g 38)), (1, .int x1), (2, .int x2), (3, .int x3)] [] u0 := by
  unfold w_X4_readWord_85 at h
  refine e_aload_n (k := 44) (i := 0) rfl rfl 0 rfl ?_
  refine e_getC (k := 45) rfl f_X4_9 rfl rfl ?_
  refine e_iconst (k := 46) (v := (0 : Int32)) rfl (by decide) ?_
  refine e_callVi (k := 47) (q := 33) (As := [.int (0 : Int32)]) (rest := []) rfl (c_X5_peek (g := g) hg (n := n) h) m_X5_peek i_X5_peek l_X4_126 rfl ⟨_, rfl, rfl⟩ rfl rfl (Nat.le_of_ble_eq_true rfl) ⟨by decide, by decide, rfl, rfl⟩ (fun _ h => h.elim) (fun r1 u1 h => ?_)
  refine e_iload_n (k := 48) (i := 1) rfl rfl 1 rfl ?_
  refine e_icmp_ne (k := 49) (tgt := 105) rfl (by decide) (fun z => ?_) (fun z => ?_)
  · have h := h.1 z
    refine e_sub (lv' := [(0, .ref (gR g 38))]) [0] rfl ?_
    exact s_X4_readWord_105 hg h
  · have h := h.2 z
    refine e_iload_n (k := 50) (i := 2) rfl rfl 2 rfl ?_
    refine e_if_ne (k := 51) (tgt := 121) rfl (by decide) (fun z => ?_) (fun z => ?_)
    · have h := h.1 z
      refine e_sub (lv' := [(0, .ref (gR g 38))]) [0] rfl ?_
      exact s_X4_readWord_121 hg h
    · have h := h.2 z
      refine e_iload_n (k := 52) (i := 3) rfl rfl 3 rfl ?_
      refine e_if_ne (k := 53) (tgt := 121) rfl (by decide) (fun z => ?_) (fun z => ?_)
      · have h := h.1 z
        refine e_sub (lv' := [(0, .ref (gR g 38))]) [0] rfl ?_
        exact s_X4_readWord_121 hg h
      · have h := h.2 z
        refine e_sub (lv' := [(0, .ref (gR g 38))]) [0] rfl ?_
        exact s_X4_readWord_105 hg h
set_option maxRecDepth 20000 in
theorem s_X4_readWord_48 {g : Gb} (hg : xInj g) {n : Nat} {Q : Mm → Prop} {L36 : Int32 → Int32 → Int32 → Mm → Prop} (hL36 : ∀ (x1 : Int32) (x2 : Int32) (x3 : Int32) (u0 : Mm), L36 x1 x2 x3 u0 → xE g me_X4_readWord (pV g Q noT) 36 [(0, .ref (gR g 38)), (1, .int x1), (2, .int x2), (3, .int x3)] [] u0) {x1 : Int32} {x2 : Int32} {x3 : Int32} {t0 : Int32} {t1 : Int32} {u0 : Mm} (h : w_X4_readWord_48 n L36 x1 x2 x3 t0 t1 u0 Q) : xE g me_X4_readWord (pV g Q noT) 48 [(0, .ref (gR g 38)), (1, .int x1), (2, .int x2), (3, .int x3)] [.int t0, .int t1] u0 := by
  unfold w_X4_readWord_48 at h
  refine e_icmp_ge (k := 27) (tgt := 85) rfl (by decide) (fun z => ?_) (fun z => ?_)
  · have h := h.1 z
    exact s_X4_readWord_85 hg h
  · have h := h.2 z
    refine e_iload_n (k := 28) (i := 2) rfl rfl 2 rfl ?_
    refine e_aload_n (k := 29) (i := 0) rfl rfl 0 rfl ?_
    refine e_getC (k := 30) rfl f_X4_9 rfl rfl ?_
    refine e_iconst (k := 31) (v := (0 : Int32)) rfl (by decide) ?_
    refine e_callVi (k := 32) (q := 33) (As := [.int (0 : Int32)]) (rest := [.int x2]) rfl (c_X5_peek (g := g) hg (n := n) h) m_X5_peek i_X5_peek l_X4_126 rfl ⟨_, rfl, rfl⟩ rfl rfl (Nat.le_of_ble_eq_true rfl) ⟨by decide, by decide, rfl, rfl⟩ (fun _ h => h.elim) (fun r1 u1 h => ?_)
    refine e_callSi (k := 33) (As := [.int x2, .int r1]) (rest := []) rfl (c_X4_mayBeInWord (g := g) hg (n := n) h) m_X4_mayBeInWord st_X4_mayBeInWord l_X4_384 rfl rfl (Nat.le_of_ble_eq_true rfl) ⟨by decide, by decide, rfl, rfl⟩ (fun _ h => h.elim) (fun r2 u2 h => ?_)
    refine e_if_eq (k := 34) (tgt := 85) rfl (by decide) (fun z => ?_) (fun z => ?_)
    · have h := h.1 z
      exact s_X4_readWord_85 hg h
    · have h := h.2 z
      refine e_iinc (k := 35) (i := 3) (j := 3) (v := (x3 + (1 : Int32))) (lv' := [(0, .ref (gR g 38)), (1, .int x1), (2, .int x2), (3, .int (x3 + (1 : Int32)))]) rfl rfl rfl (by decide) [1, 2, 3, 0] rfl ?_
      refine e_aload_n (k := 36) (i := 0) rfl rfl 0 rfl ?_
      refine e_getC (k := 37) rfl f_X4_9 rfl rfl ?_
      refine e_dup (k := 38) rfl rfl ?_
      refine e_getI (k := 39) rfl f_X4_123 rfl rfl ?_
      refine e_iconst (k := 40) (v := (1 : Int32)) rfl (by decide) ?_
      refine e_iadd (k := 41) rfl ?_
      refine e_putI (k := 42) rfl fg_X4_123 rfl rfl ?_
      refine e_mlet h (fun u3 h => ?_)
      refine e_goto (k := 43) (tgt := 36) rfl (by decide) ?_
      exact hL36 x1 x2 (x3 + (1 : Int32)) u3 h
set_option maxRecDepth 20000 in
theorem s_X4_readWord_36 {g : Gb} (hg : xInj g) {n : Nat} {Q : Mm → Prop} : ∀ (k : Nat) (x1 : Int32) (x2 : Int32) (x3 : Int32) (u0 : Mm), w_X4_readWord_36 n Q k x1 x2 x3 u0 → xE g me_X4_readWord (pV g Q noT) 36 [(0, .ref (gR g 38)), (1, .int x1), (2, .int x2), (3, .int x3)] [] u0 := by
  intro k
  induction k with
  | zero => intro x1 x2 x3 u0 h; exact h.elim
  | succ k ih =>
    intro x1 x2 x3 u0 h
    unfold w_X4_readWord_36 at h
    refine e_iload_n (k := 21) (i := 3) rfl rfl 3 rfl ?_
    refine e_iload_n (k := 22) (i := 2) rfl rfl 2 rfl ?_
    refine e_if_eq (k := 23) (tgt := 46) rfl (by decide) (fun z => ?_) (fun z => ?_)
    · have h := h.1 z
      refine e_bipush (k := 26) (v := (12 : Int32)) rfl (by decide) ?_
      exact s_X4_readWord_48 hg ih h
    · have h := h.2 z
      refine e_bipush (k := 24) (v := (20 : Int32)) rfl (by decide) ?_
      refine e_goto (k := 25) (tgt := 48) rfl (by decide) ?_
      exact s_X4_readWord_48 hg ih h
set_option maxRecDepth 20000 in
theorem s_X4_readWord_20 {g : Gb} (hg : xInj g) {n : Nat} {Q : Mm → Prop} {x1 : Int32} {t0 : Int32} {u0 : Mm} (h : w_X4_readWord_20 n x1 t0 u0 Q) : xE g me_X4_readWord (pV g Q noT) 20 [(0, .ref (gR g 38)), (1, .int x1)] [.int t0] u0 := by
  unfold w_X4_readWord_20 at h
  refine e_istore_n (k := 11) (i := 2) (lv' := [(0, .ref (gR g 38)), (1, .int x1), (2, .int t0)]) rfl rfl (by decide) [1, 2, 0] rfl ?_
  refine e_aload_n (k := 12) (i := 0) rfl rfl 0 rfl ?_
  refine e_getC (k := 13) rfl f_X4_9 rfl rfl ?_
  refine e_dup (k := 14) rfl rfl ?_
  refine e_getI (k := 15) rfl f_X4_123 rfl rfl ?_
  refine e_iconst (k := 16) (v := (1 : Int32)) rfl (by decide) ?_
  refine e_iadd (k := 17) rfl ?_
  refine e_putI (k := 18) rfl fg_X4_123 rfl rfl ?_
  refine e_mlet h (fun u1 h => ?_)
  refine e_iconst (k := 19) (v := (0 : Int32)) rfl (by decide) ?_
  refine e_istore_n (k := 20) (i := 3) (lv' := [(0, .ref (gR g 38)), (1, .int x1), (2, .int t0), (3, .int (0 : Int32))]) rfl rfl (by decide) [1, 2, 3, 0] rfl ?_
  exact s_X4_readWord_36 hg n x1 t0 (0 : Int32) u1 h
set_option maxRecDepth 20000 in
theorem c_X4_readWord {g : Gb} (hg : xInj g) {n : Nat} {u0 : Mm} {Q : Mm → Prop} (h : w_X4_readWord n u0 Q) : xMet (gL g) yX4_readWord (xws yX4_readWord cX4_readWord 4 none) (xRoom 2) (xPc g [.ref (gR g 38)] u0) (xQ g (pV g Q noT)) (xA g) := by
  refine xbody (il := il_X4_readWord) hg il_X4_readWord_ok m_X4_readWord (Nat.le_of_ble_eq_true rfl) ?_
  show xE g me_X4_readWord (pV g Q noT) 0 [(0, .ref (gR g 38))] [] u0
  unfold w_X4_readWord at h
  refine e_aload_n (k := 0) (i := 0) rfl rfl 0 rfl ?_
  refine e_getC (k := 1) rfl f_X4_9 rfl rfl ?_
  refine e_iconst (k := 2) (v := (0 : Int32)) rfl (by decide) ?_
  refine e_callVi (k := 3) (q := 33) (As := [.int (0 : Int32)]) (rest := []) rfl (c_X5_peek (g := g) hg (n := n) h) m_X5_peek i_X5_peek l_X4_126 rfl ⟨_, rfl, rfl⟩ rfl rfl (Nat.le_of_ble_eq_true rfl) ⟨by decide, by decide, rfl, rfl⟩ (fun _ h => h.elim) (fun r1 u1 h => ?_)
  refine e_istore_n (k := 4) (i := 1) (lv' := [(0, .ref (gR g 38)), (1, .int r1)]) rfl rfl (by decide) [1, 0] rfl ?_
  refine e_iload_n (k := 5) (i := 1) rfl rfl 1 rfl ?_
  refine e_bipush (k := 6) (v := (34 : Int32)) rfl (by decide) ?_
  refine e_icmp_ne (k := 7) (tgt := 19) rfl (by decide) (fun z => ?_) (fun z => ?_)
  · have h := h.1 z
    refine e_iconst (k := 10) (v := (0 : Int32)) rfl (by decide) ?_
    exact s_X4_readWord_20 hg h
  · have h := h.2 z
    refine e_iconst (k := 8) (v := (1 : Int32)) rfl (by decide) ?_
    refine e_goto (k := 9) (tgt := 20) rfl (by decide) ?_
    exact s_X4_readWord_20 hg h
def il_X4_takeVoice : List (Nat × Instr × Nat) := [(0, .aload_n 0, 1), (1, .iload_n 1, 1), (2, .putfield 114, 3), (5, .aload_n 0, 1), (6, .aload_n 0, 1), (7, .getfield 19, 3), (10, .iload_n 1, 1), (11, .invokevirtual 44, 3), (14, .putfield 48, 3), (17, .aload_n 0, 1), (18, .getfield 19, 3), (21, .getfield 52, 3), (24, .bipush 8, 2), (26, .aload_n 0, 1), (27, .getfield 19, 3), (30, .getfield 52, 3), (33, .bipush 8, 2), (35, .iaload, 1), (36, .iload_n 1, 1), (37, .invokestatic 117, 3), (40, .iastore, 1), (41, .return_, 1)]
set_option maxRecDepth 20000 in
theorem il_X4_takeVoice_ok : ∀ x ∈ il_X4_takeVoice, decode cX4_takeVoice x.1 = .ok x.2 := by decide +kernel
abbrev me_X4_takeVoice : Me := (RX4, il_X4_takeVoice, 2, none, xRoom 2, [])
def w_X4_takeVoice (n : Nat) (a0 : Int32) (u0 : Mm) (Q : Mm → Prop) : Prop :=
  mlet (setI u0 38 9 a0) fun u1 =>
  w_X7_voiceOf n a0 u1 (fun r1 u2 =>
  mlet (setP u2 2 r1) fun u3 =>
  mlet (setI u3 43 (ix (8 : Int32)) (if (u3.1 43 (ix (8 : Int32))) < a0 then a0 else (u3.1 43 (ix (8 : Int32))))) fun u4 =>
  Q u4)
set_option maxRecDepth 20000 in
theorem c_X4_takeVoice {g : Gb} (hg : xInj g) {n : Nat} {a0 : Int32} {u0 : Mm} {Q : Mm → Prop} (h : w_X4_takeVoice n a0 u0 Q) : xMet (gL g) yX4_takeVoice (xws yX4_takeVoice cX4_takeVoice 2 none) (xRoom 2) (xPc g [.ref (gR g 38), .int a0] u0) (xQ g (pV g Q noT)) (xA g) := by
  refine xbody (il := il_X4_takeVoice) hg il_X4_takeVoice_ok m_X4_takeVoice (Nat.le_of_ble_eq_true rfl) ?_
  show xE g me_X4_takeVoice (pV g Q noT) 0 [(0, .ref (gR g 38)), (1, .int a0)] [] u0
  unfold w_X4_takeVoice at h
  refine e_aload_n (k := 0) (i := 0) rfl rfl 0 rfl ?_
  refine e_iload_n (k := 1) (i := 1) rfl rfl 1 rfl ?_
  refine e_putI (k := 2) rfl fg_X4_114 rfl rfl ?_
  refine e_mlet h (fun u1 h => ?_)
  refine e_aload_n (k := 3) (i := 0) rfl rfl 0 rfl ?_
  refine e_aload_n (k := 4) (i := 0) rfl rfl 0 rfl ?_
  refine e_getC (k := 5) rfl f_X4_19 rfl rfl ?_
  refine e_iload_n (k := 6) (i := 1) rfl rfl 1 rfl ?_
  refine e_callVr (k := 7) (q := 35) (As := [.int a0]) (rest := [.ref (gR g 38)]) rfl (c_X7_voiceOf (g := g) hg (n := n) h) m_X7_voiceOf i_X7_voiceOf l_X4_44 rfl ⟨_, rfl, rfl⟩ rfl rfl (Nat.le_of_ble_eq_true rfl) ⟨by decide, by decide, rfl, rfl⟩ (fun _ h => h.elim) (fun r1 u2 hr1 h => ?_)
  refine e_putP (k := 8) rfl fg_X4_48 rfl rfl xu_2 xonly_2 rfl rfl (fun ty => ⟨ty.1, ty.2.1, hr1⟩) ?_
  refine e_mlet h (fun u3 h => ?_)
  refine e_aload_n (k := 9) (i := 0) rfl rfl 0 rfl ?_
  refine e_getC (k := 10) rfl f_X4_19 rfl rfl ?_
  refine e_getC (k := 11) rfl f_X4_52 rfl rfl ?_
  refine e_bipush (k := 12) (v := (8 : Int32)) rfl (by decide) ?_
  refine e_aload_n (k := 13) (i := 0) rfl rfl 0 rfl ?_
  refine e_getC (k := 14) rfl f_X4_19 rfl rfl ?_
  refine e_getC (k := 15) rfl f_X4_52 rfl rfl ?_
  refine e_bipush (k := 16) (v := (8 : Int32)) rfl (by decide) ?_
  refine e_iald (k := 17) rfl rfl (by unfold vp_in; decide) ?_
  refine e_iload_n (k := 18) (i := 1) rfl rfl 1 rfl ?_
  refine e_mmax (k := 19) rfl l_X4_117 st_J9_max_7cf53 h9_ini h9_max (by decide) (Nat.le_of_ble_eq_true rfl) ?_
  refine e_iast (k := 20) rfl rfl (by unfold vp_in; decide) ?_
  refine e_mlet h (fun u4 h => ?_)
  exact e_vret (k := 21) rfl rfl (Or.inl ⟨rfl, h⟩)
def il_X5_checkBytes : List (Nat × Instr × Nat) := [(0, .aload_n 0, 1), (1, .getfield 24, 3), (4, .sipush 2000, 3), (7, .if_icmp .le 12, 3), (10, .aload_n 0, 1), (11, .iconst 2, 1), (12, .sipush 2000, 3), (15, .invokevirtual 46, 3), (18, .return_, 1), (19, .iconst 0, 1), (20, .istore_n 1, 1), (21, .iconst 0, 1), (22, .istore_n 2, 1), (23, .iload_n 2, 1), (24, .aload_n 0, 1), (25, .getfield 24, 3), (28, .if_icmp .ge 60, 3), (31, .aload_n 0, 1), (32, .iload_n 2, 1), (33, .invokevirtual 50, 3), (36, .istore_n 3, 1), (37, .iload_n 3, 1), (38, .bipush 10, 2), (40, .if_icmp .ne 8, 3), (43, .iconst 0, 1), (44, .istore_n 1, 1), (45, .goto 37, 3), (48, .iload_n 3, 1), (49, .bipush 37, 2), (51, .if_icmp .ne 8, 3), (54, .iconst 1, 1), (55, .istore_n 1, 1), (56, .goto 26, 3), (59, .iload_n 1, 1), (60, .ifCond .ne 22, 3), (63, .iload_n 3, 1), (64, .bipush 32, 2), (66, .if_icmp .lt 9, 3), (69, .iload_n 3, 1), (70, .bipush 126, 2), (72, .if_icmp .le 10, 3), (75, .aload_n 0, 1), (76, .iconst 1, 1), (77, .iload_n 2, 1), (78, .invokevirtual 46, 3), (81, .return_, 1), (82, .iinc 2 1, 3), (85, .goto (-62), 3), (88, .return_, 1)]
set_option maxRecDepth 20000 in
theorem il_X5_checkBytes_ok : ∀ x ∈ il_X5_checkBytes, decode cX5_checkBytes x.1 = .ok x.2 := by decide +kernel
abbrev me_X5_checkBytes : Me := (RX5, il_X5_checkBytes, 4, none, xRoom 2, [])
def w_X5_checkBytes_82 (n : Nat) (L23 : Int32 → Int32 → Mm → Prop) (x1 : Int32) (x2 : Int32) (u0 : Mm) (Q : Mm → Prop) : Prop :=
  L23 x1 (x2 + (1 : Int32)) u0
def w_X5_checkBytes_75 (n : Nat) (L23 : Int32 → Int32 → Mm → Prop) (x2 : Int32) (u0 : Mm) (Q : Mm → Prop) : Prop :=
  w_X5_fail n (1 : Int32) x2 u0 (fun u1 =>
  Q u1)
def w_X5_checkBytes_23 (n : Nat) (Q : Mm → Prop) : Nat → Int32 → Int32 → Mm → Prop
  | 0, _, _, _ => False
  | k + 1, x1, x2, u0 =>
  ((u0.1 33 1) ≤ x2 → Q u0) ∧
  (¬ (u0.1 33 1) ≤ x2 → w_X5_byteAt n x2 u0 (fun r1 u1 =>
  (¬ r1 = (10 : Int32) → (¬ r1 = (37 : Int32) → (¬ x1 = 0 → w_X5_checkBytes_82 n (w_X5_checkBytes_23 n Q k) x1 x2 u1 Q) ∧
  (x1 = 0 → (r1 < (32 : Int32) → w_X5_checkBytes_75 n (w_X5_checkBytes_23 n Q k) x2 u1 Q) ∧
  (¬ r1 < (32 : Int32) → (r1 ≤ (126 : Int32) → w_X5_checkBytes_82 n (w_X5_checkBytes_23 n Q k) x1 x2 u1 Q) ∧
  (¬ r1 ≤ (126 : Int32) → w_X5_checkBytes_75 n (w_X5_checkBytes_23 n Q k) x2 u1 Q)))) ∧
  (r1 = (37 : Int32) → w_X5_checkBytes_82 n (w_X5_checkBytes_23 n Q k) (1 : Int32) x2 u1 Q)) ∧
  (r1 = (10 : Int32) → w_X5_checkBytes_82 n (w_X5_checkBytes_23 n Q k) (0 : Int32) x2 u1 Q)))
def w_X5_checkBytes (n : Nat) (u0 : Mm) (Q : Mm → Prop) : Prop :=
  ((u0.1 33 1) ≤ (2000 : Int32) → (w_X5_checkBytes_23 n Q n) (0 : Int32) (0 : Int32) u0) ∧
  (¬ (u0.1 33 1) ≤ (2000 : Int32) → w_X5_fail n (2 : Int32) (2000 : Int32) u0 (fun u1 =>
  Q u1))
set_option maxRecDepth 20000 in
theorem s_X5_checkBytes_82 {g : Gb} (hg : xInj g) {n : Nat} {Q : Mm → Prop} {L23 : Int32 → Int32 → Mm → Prop} (hL23 : ∀ (x1 : Int32) (x2 : Int32) (u0 : Mm), L23 x1 x2 u0 → xE g me_X5_checkBytes (pV g Q noT) 23 [(0, .ref (gR g 33)), (1, .int x1), (2, .int x2)] [] u0) {x1 : Int32} {x2 : Int32} {u0 : Mm} (h : w_X5_checkBytes_82 n L23 x1 x2 u0 Q) : xE g me_X5_checkBytes (pV g Q noT) 82 [(0, .ref (gR g 33)), (1, .int x1), (2, .int x2)] [] u0 := by
  unfold w_X5_checkBytes_82 at h
  refine e_iinc (k := 46) (i := 2) (j := 2) (v := (x2 + (1 : Int32))) (lv' := [(0, .ref (gR g 33)), (1, .int x1), (2, .int (x2 + (1 : Int32)))]) rfl rfl rfl (by decide) [1, 2, 0] rfl ?_
  refine e_goto (k := 47) (tgt := 23) rfl (by decide) ?_
  exact hL23 x1 (x2 + (1 : Int32)) u0 h
set_option maxRecDepth 20000 in
theorem s_X5_checkBytes_75 {g : Gb} (hg : xInj g) {n : Nat} {Q : Mm → Prop} {L23 : Int32 → Int32 → Mm → Prop} (hL23 : ∀ (x1 : Int32) (x2 : Int32) (u0 : Mm), L23 x1 x2 u0 → xE g me_X5_checkBytes (pV g Q noT) 23 [(0, .ref (gR g 33)), (1, .int x1), (2, .int x2)] [] u0) {x2 : Int32} {u0 : Mm} (h : w_X5_checkBytes_75 n L23 x2 u0 Q) : xE g me_X5_checkBytes (pV g Q noT) 75 [(0, .ref (gR g 33)), (2, .int x2)] [] u0 := by
  unfold w_X5_checkBytes_75 at h
  refine e_aload_n (k := 41) (i := 0) rfl rfl 0 rfl ?_
  refine e_iconst (k := 42) (v := (1 : Int32)) rfl (by decide) ?_
  refine e_iload_n (k := 43) (i := 2) rfl rfl 1 rfl ?_
  refine e_callVv (k := 44) (q := 33) (As := [.int (1 : Int32), .int x2]) (rest := []) rfl (c_X5_fail (g := g) hg (n := n) h) m_X5_fail i_X5_fail l_X5_46 rfl ⟨_, rfl, rfl⟩ rfl rfl (Nat.le_of_ble_eq_true rfl) ⟨by decide, by decide, rfl, rfl⟩ (fun _ h => h.elim) (fun u1 h => ?_)
  exact e_vret (k := 45) rfl rfl (Or.inl ⟨rfl, h⟩)
set_option maxRecDepth 20000 in
theorem s_X5_checkBytes_23 {g : Gb} (hg : xInj g) {n : Nat} {Q : Mm → Prop} : ∀ (k : Nat) (x1 : Int32) (x2 : Int32) (u0 : Mm), w_X5_checkBytes_23 n Q k x1 x2 u0 → xE g me_X5_checkBytes (pV g Q noT) 23 [(0, .ref (gR g 33)), (1, .int x1), (2, .int x2)] [] u0 := by
  intro k
  induction k with
  | zero => intro x1 x2 u0 h; exact h.elim
  | succ k ih =>
    intro x1 x2 u0 h
    unfold w_X5_checkBytes_23 at h
    refine e_iload_n (k := 13) (i := 2) rfl rfl 2 rfl ?_
    refine e_aload_n (k := 14) (i := 0) rfl rfl 0 rfl ?_
    refine e_getI (k := 15) rfl f_X5_24 rfl rfl ?_
    refine e_icmp_ge (k := 16) (tgt := 88) rfl (by decide) (fun z => ?_) (fun z => ?_)
    · have h := h.1 z
      exact e_vret (k := 48) rfl rfl (Or.inl ⟨rfl, h⟩)
    · have h := h.2 z
      refine e_aload_n (k := 17) (i := 0) rfl rfl 0 rfl ?_
      refine e_iload_n (k := 18) (i := 2) rfl rfl 2 rfl ?_
      refine e_callVi (k := 19) (q := 33) (As := [.int x2]) (rest := []) rfl (c_X5_byteAt (g := g) hg (n := n) h) m_X5_byteAt i_X5_byteAt l_X5_50 rfl ⟨_, rfl, rfl⟩ rfl rfl (Nat.le_of_ble_eq_true rfl) ⟨by decide, by decide, rfl, rfl⟩ (fun _ h => h.elim) (fun r1 u1 h => ?_)
      refine e_istore_n (k := 20) (i := 3) (lv' := [(0, .ref (gR g 33)), (1, .int x1), (2, .int x2), (3, .int r1)]) rfl rfl (by decide) [1, 2, 3, 0] rfl ?_
      refine e_iload_n (k := 21) (i := 3) rfl rfl 3 rfl ?_
      refine e_bipush (k := 22) (v := (10 : Int32)) rfl (by decide) ?_
      refine e_icmp_ne (k := 23) (tgt := 48) rfl (by decide) (fun z => ?_) (fun z => ?_)
      · have h := h.1 z
        refine e_iload_n (k := 27) (i := 3) rfl rfl 3 rfl ?_
        refine e_bipush (k := 28) (v := (37 : Int32)) rfl (by decide) ?_
        refine e_icmp_ne (k := 29) (tgt := 59) rfl (by decide) (fun z => ?_) (fun z => ?_)
        · have h := h.1 z
          refine e_iload_n (k := 33) (i := 1) rfl rfl 1 rfl ?_
          refine e_if_ne (k := 34) (tgt := 82) rfl (by decide) (fun z => ?_) (fun z => ?_)
          · have h := h.1 z
            refine e_sub (lv' := [(0, .ref (gR g 33)), (1, .int x1), (2, .int x2)]) [0, 1, 2] rfl ?_
            exact s_X5_checkBytes_82 hg ih h
          · have h := h.2 z
            refine e_iload_n (k := 35) (i := 3) rfl rfl 3 rfl ?_
            refine e_bipush (k := 36) (v := (32 : Int32)) rfl (by decide) ?_
            refine e_icmp_lt (k := 37) (tgt := 75) rfl (by decide) (fun z => ?_) (fun z => ?_)
            · have h := h.1 z
              refine e_sub (lv' := [(0, .ref (gR g 33)), (2, .int x2)]) [0, 2] rfl ?_
              exact s_X5_checkBytes_75 hg ih h
            · have h := h.2 z
              refine e_iload_n (k := 38) (i := 3) rfl rfl 3 rfl ?_
              refine e_bipush (k := 39) (v := (126 : Int32)) rfl (by decide) ?_
              refine e_icmp_le (k := 40) (tgt := 82) rfl (by decide) (fun z => ?_) (fun z => ?_)
              · have h := h.1 z
                refine e_sub (lv' := [(0, .ref (gR g 33)), (1, .int x1), (2, .int x2)]) [0, 1, 2] rfl ?_
                exact s_X5_checkBytes_82 hg ih h
              · have h := h.2 z
                refine e_sub (lv' := [(0, .ref (gR g 33)), (2, .int x2)]) [0, 2] rfl ?_
                exact s_X5_checkBytes_75 hg ih h
        · have h := h.2 z
          refine e_iconst (k := 30) (v := (1 : Int32)) rfl (by decide) ?_
          refine e_istore_n (k := 31) (i := 1) (lv' := [(0, .ref (gR g 33)), (1, .int (1 : Int32)), (2, .int x2), (3, .int r1)]) rfl rfl (by decide) [1, 0, 2, 3] rfl ?_
          refine e_goto (k := 32) (tgt := 82) rfl (by decide) ?_
          refine e_sub (lv' := [(0, .ref (gR g 33)), (1, .int (1 : Int32)), (2, .int x2)]) [0, 1, 2] rfl ?_
          exact s_X5_checkBytes_82 hg ih h
      · have h := h.2 z
        refine e_iconst (k := 24) (v := (0 : Int32)) rfl (by decide) ?_
        refine e_istore_n (k := 25) (i := 1) (lv' := [(0, .ref (gR g 33)), (1, .int (0 : Int32)), (2, .int x2), (3, .int r1)]) rfl rfl (by decide) [1, 0, 2, 3] rfl ?_
        refine e_goto (k := 26) (tgt := 82) rfl (by decide) ?_
        refine e_sub (lv' := [(0, .ref (gR g 33)), (1, .int (0 : Int32)), (2, .int x2)]) [0, 1, 2] rfl ?_
        exact s_X5_checkBytes_82 hg ih h
set_option maxRecDepth 20000 in
theorem c_X5_checkBytes {g : Gb} (hg : xInj g) {n : Nat} {u0 : Mm} {Q : Mm → Prop} (h : w_X5_checkBytes n u0 Q) : xMet (gL g) yX5_checkBytes (xws yX5_checkBytes cX5_checkBytes 4 none) (xRoom 2) (xPc g [.ref (gR g 33)] u0) (xQ g (pV g Q noT)) (xA g) := by
  refine xbody (il := il_X5_checkBytes) hg il_X5_checkBytes_ok m_X5_checkBytes (Nat.le_of_ble_eq_true rfl) ?_
  show xE g me_X5_checkBytes (pV g Q noT) 0 [(0, .ref (gR g 33))] [] u0
  unfold w_X5_checkBytes at h
  refine e_aload_n (k := 0) (i := 0) rfl rfl 0 rfl ?_
  refine e_getI (k := 1) rfl f_X5_24 rfl rfl ?_
  refine e_sipush (k := 2) (v := (2000 : Int32)) rfl (by decide) ?_
  refine e_icmp_le (k := 3) (tgt := 19) rfl (by decide) (fun z => ?_) (fun z => ?_)
  · have h := h.1 z
    refine e_iconst (k := 9) (v := (0 : Int32)) rfl (by decide) ?_
    refine e_istore_n (k := 10) (i := 1) (lv' := [(0, .ref (gR g 33)), (1, .int (0 : Int32))]) rfl rfl (by decide) [1, 0] rfl ?_
    refine e_iconst (k := 11) (v := (0 : Int32)) rfl (by decide) ?_
    refine e_istore_n (k := 12) (i := 2) (lv' := [(0, .ref (gR g 33)), (1, .int (0 : Int32)), (2, .int (0 : Int32))]) rfl rfl (by decide) [1, 2, 0] rfl ?_
    exact s_X5_checkBytes_23 hg n (0 : Int32) (0 : Int32) u0 h
  · have h := h.2 z
    refine e_aload_n (k := 4) (i := 0) rfl rfl 0 rfl ?_
    refine e_iconst (k := 5) (v := (2 : Int32)) rfl (by decide) ?_
    refine e_sipush (k := 6) (v := (2000 : Int32)) rfl (by decide) ?_
    refine e_callVv (k := 7) (q := 33) (As := [.int (2 : Int32), .int (2000 : Int32)]) (rest := []) rfl (c_X5_fail (g := g) hg (n := n) h) m_X5_fail i_X5_fail l_X5_46 rfl ⟨_, rfl, rfl⟩ rfl rfl (Nat.le_of_ble_eq_true rfl) ⟨by decide, by decide, rfl, rfl⟩ (fun _ h => h.elim) (fun u1 h => ?_)
    exact e_vret (k := 8) rfl rfl (Or.inl ⟨rfl, h⟩)
def il_X5_digitHere : List (Nat × Instr × Nat) := [(0, .aload_n 0, 1), (1, .iconst 0, 1), (2, .invokevirtual 54, 3), (5, .istore_n 1, 1), (6, .iload_n 1, 1), (7, .bipush 48, 2), (9, .if_icmp .lt 13, 3), (12, .iload_n 1, 1), (13, .bipush 57, 2), (15, .if_icmp .gt 7, 3), (18, .iconst 1, 1), (19, .goto 4, 3), (22, .iconst 0, 1), (23, .ireturn, 1)]
set_option maxRecDepth 20000 in
theorem il_X5_digitHere_ok : ∀ x ∈ il_X5_digitHere, decode cX5_digitHere x.1 = .ok x.2 := by decide +kernel
abbrev me_X5_digitHere : Me := (RX5, il_X5_digitHere, 2, (some .boolean), xRoom 2, [])
def w_X5_digitHere_23 (n : Nat) (t0 : Int32) (u0 : Mm) (Q : Int32 → Mm → Prop) : Prop :=
  narrow .boolean (.int t0) = .int t0 ∧ Q t0 u0
def w_X5_digitHere_22 (n : Nat) (u0 : Mm) (Q : Int32 → Mm → Prop) : Prop :=
  w_X5_digitHere_23 n (0 : Int32) u0 Q
def w_X5_digitHere (n : Nat) (u0 : Mm) (Q : Int32 → Mm → Prop) : Prop :=
  w_X5_peek n (0 : Int32) u0 (fun r1 u1 =>
  (r1 < (48 : Int32) → w_X5_digitHere_22 n u1 Q) ∧
  (¬ r1 < (48 : Int32) → ((57 : Int32) < r1 → w_X5_digitHere_22 n u1 Q) ∧
  (¬ (57 : Int32) < r1 → w_X5_digitHere_23 n (1 : Int32) u1 Q)))
set_option maxRecDepth 20000 in
theorem s_X5_digitHere_23 {g : Gb} (hg : xInj g) {n : Nat} {Q : Int32 → Mm → Prop} {t0 : Int32} {u0 : Mm} (h : w_X5_digitHere_23 n t0 u0 Q) : xE g me_X5_digitHere (pI g Q noT) 23 [] [.int t0] u0 := by
  unfold w_X5_digitHere_23 at h
  exact e_zret (k := 13) rfl rfl h.1 (Or.inl ⟨_, rfl, h.2⟩)
set_option maxRecDepth 20000 in
theorem s_X5_digitHere_22 {g : Gb} (hg : xInj g) {n : Nat} {Q : Int32 → Mm → Prop} {u0 : Mm} (h : w_X5_digitHere_22 n  u0 Q) : xE g me_X5_digitHere (pI g Q noT) 22 [] [] u0 := by
  unfold w_X5_digitHere_22 at h
  refine e_iconst (k := 12) (v := (0 : Int32)) rfl (by decide) ?_
  exact s_X5_digitHere_23 hg h
set_option maxRecDepth 20000 in
theorem c_X5_digitHere {g : Gb} (hg : xInj g) {n : Nat} {u0 : Mm} {Q : Int32 → Mm → Prop} (h : w_X5_digitHere n u0 Q) : xMet (gL g) yX5_digitHere (xws yX5_digitHere cX5_digitHere 2 (some .boolean)) (xRoom 2) (xPc g [.ref (gR g 33)] u0) (xQ g (pI g Q noT)) (xA g) := by
  refine xbody (il := il_X5_digitHere) hg il_X5_digitHere_ok m_X5_digitHere (Nat.le_of_ble_eq_true rfl) ?_
  show xE g me_X5_digitHere (pI g Q noT) 0 [(0, .ref (gR g 33))] [] u0
  unfold w_X5_digitHere at h
  refine e_aload_n (k := 0) (i := 0) rfl rfl 0 rfl ?_
  refine e_iconst (k := 1) (v := (0 : Int32)) rfl (by decide) ?_
  refine e_callVi (k := 2) (q := 33) (As := [.int (0 : Int32)]) (rest := []) rfl (c_X5_peek (g := g) hg (n := n) h) m_X5_peek i_X5_peek l_X5_54 rfl ⟨_, rfl, rfl⟩ rfl rfl (Nat.le_of_ble_eq_true rfl) ⟨by decide, by decide, rfl, rfl⟩ (fun _ h => h.elim) (fun r1 u1 h => ?_)
  refine e_istore_n (k := 3) (i := 1) (lv' := [(0, .ref (gR g 33)), (1, .int r1)]) rfl rfl (by decide) [1, 0] rfl ?_
  refine e_iload_n (k := 4) (i := 1) rfl rfl 1 rfl ?_
  refine e_bipush (k := 5) (v := (48 : Int32)) rfl (by decide) ?_
  refine e_icmp_lt (k := 6) (tgt := 22) rfl (by decide) (fun z => ?_) (fun z => ?_)
  · have h := h.1 z
    refine e_sub (lv' := []) [] rfl ?_
    exact s_X5_digitHere_22 hg h
  · have h := h.2 z
    refine e_iload_n (k := 7) (i := 1) rfl rfl 1 rfl ?_
    refine e_bipush (k := 8) (v := (57 : Int32)) rfl (by decide) ?_
    refine e_icmp_gt (k := 9) (tgt := 22) rfl (by decide) (fun z => ?_) (fun z => ?_)
    · have h := h.1 z
      refine e_sub (lv' := []) [] rfl ?_
      exact s_X5_digitHere_22 hg h
    · have h := h.2 z
      refine e_iconst (k := 10) (v := (1 : Int32)) rfl (by decide) ?_
      refine e_goto (k := 11) (tgt := 23) rfl (by decide) ?_
      refine e_sub (lv' := []) [] rfl ?_
      exact s_X5_digitHere_23 hg h
def il_X5_fieldLetter : List (Nat × Instr × Nat) := [(0, .aload_n 0, 1), (1, .iconst 0, 1), (2, .invokevirtual 54, 3), (5, .istore_n 1, 1), (6, .iload_n 1, 1), (7, .bipush 65, 2), (9, .if_icmp .lt 9, 3), (12, .iload_n 1, 1), (13, .bipush 90, 2), (15, .if_icmp .le 15, 3), (18, .iload_n 1, 1), (19, .bipush 97, 2), (21, .if_icmp .lt 13, 3), (24, .iload_n 1, 1), (25, .bipush 122, 2), (27, .if_icmp .gt 7, 3), (30, .iconst 1, 1), (31, .goto 4, 3), (34, .iconst 0, 1), (35, .istore_n 2, 1), (36, .iload_n 2, 1), (37, .ifCond .eq 17, 3), (40, .aload_n 0, 1), (41, .iconst 1, 1), (42, .invokevirtual 54, 3), (45, .bipush 58, 2), (47, .if_icmp .ne 7, 3), (50, .iload_n 1, 1), (51, .goto 4, 3), (54, .iconst (-1), 1), (55, .ireturn, 1)]
set_option maxRecDepth 20000 in
theorem il_X5_fieldLetter_ok : ∀ x ∈ il_X5_fieldLetter, decode cX5_fieldLetter x.1 = .ok x.2 := by decide +kernel
abbrev me_X5_fieldLetter : Me := (RX5, il_X5_fieldLetter, 3, (some .int), xRoom 2, [])
def w_X5_fieldLetter_55 (n : Nat) (t0 : Int32) (u0 : Mm) (Q : Int32 → Mm → Prop) : Prop :=
  Q t0 u0
def w_X5_fieldLetter_54 (n : Nat) (u0 : Mm) (Q : Int32 → Mm → Prop) : Prop :=
  w_X5_fieldLetter_55 n (-1 : Int32) u0 Q
def w_X5_fieldLetter_35 (n : Nat) (x1 : Int32) (t0 : Int32) (u0 : Mm) (Q : Int32 → Mm → Prop) : Prop :=
  (t0 = 0 → w_X5_fieldLetter_54 n u0 Q) ∧
  (¬ t0 = 0 → w_X5_peek n (1 : Int32) u0 (fun r1 u1 =>
  (¬ r1 = (58 : Int32) → w_X5_fieldLetter_54 n u1 Q) ∧
  (r1 = (58 : Int32) → w_X5_fieldLetter_55 n x1 u1 Q)))
def w_X5_fieldLetter_34 (n : Nat) (x1 : Int32) (u0 : Mm) (Q : Int32 → Mm → Prop) : Prop :=
  w_X5_fieldLetter_35 n x1 (0 : Int32) u0 Q
def w_X5_fieldLetter_30 (n : Nat) (x1 : Int32) (u0 : Mm) (Q : Int32 → Mm → Prop) : Prop :=
  w_X5_fieldLetter_35 n x1 (1 : Int32) u0 Q
def w_X5_fieldLetter_18 (n : Nat) (x1 : Int32) (u0 : Mm) (Q : Int32 → Mm → Prop) : Prop :=
  (x1 < (97 : Int32) → w_X5_fieldLetter_34 n x1 u0 Q) ∧
  (¬ x1 < (97 : Int32) → ((122 : Int32) < x1 → w_X5_fieldLetter_34 n x1 u0 Q) ∧
  (¬ (122 : Int32) < x1 → w_X5_fieldLetter_30 n x1 u0 Q))
def w_X5_fieldLetter (n : Nat) (u0 : Mm) (Q : Int32 → Mm → Prop) : Prop :=
  w_X5_peek n (0 : Int32) u0 (fun r1 u1 =>
  (r1 < (65 : Int32) → w_X5_fieldLetter_18 n r1 u1 Q) ∧
  (¬ r1 < (65 : Int32) → (r1 ≤ (90 : Int32) → w_X5_fieldLetter_30 n r1 u1 Q) ∧
  (¬ r1 ≤ (90 : Int32) → w_X5_fieldLetter_18 n r1 u1 Q)))
set_option maxRecDepth 20000 in
theorem s_X5_fieldLetter_55 {g : Gb} (hg : xInj g) {n : Nat} {Q : Int32 → Mm → Prop} {t0 : Int32} {u0 : Mm} (h : w_X5_fieldLetter_55 n t0 u0 Q) : xE g me_X5_fieldLetter (pI g Q noT) 55 [] [.int t0] u0 := by
  unfold w_X5_fieldLetter_55 at h
  exact e_iret (k := 30) rfl rfl (Or.inl ⟨_, rfl, h⟩)
set_option maxRecDepth 20000 in
theorem s_X5_fieldLetter_54 {g : Gb} (hg : xInj g) {n : Nat} {Q : Int32 → Mm → Prop} {u0 : Mm} (h : w_X5_fieldLetter_54 n  u0 Q) : xE g me_X5_fieldLetter (pI g Q noT) 54 [] [] u0 := by
  unfold w_X5_fieldLetter_54 at h
  refine e_iconst (k := 29) (v := (-1 : Int32)) rfl (by decide) ?_
  exact s_X5_fieldLetter_55 hg h
set_option maxRecDepth 20000 in
theorem s_X5_fieldLetter_35 {g : Gb} (hg : xInj g) {n : Nat} {Q : Int32 → Mm → Prop} {x1 : Int32} {t0 : Int32} {u0 : Mm} (h : w_X5_fieldLetter_35 n x1 t0 u0 Q) : xE g me_X5_fieldLetter (pI g Q noT) 35 [(0, .ref (gR g 33)), (1, .int x1)] [.int t0] u0 := by
  unfold w_X5_fieldLetter_35 at h
  refine e_istore_n (k := 19) (i := 2) (lv' := [(0, .ref (gR g 33)), (1, .int x1), (2, .int t0)]) rfl rfl (by decide) [1, 2, 0] rfl ?_
  refine e_iload_n (k := 20) (i := 2) rfl rfl 2 rfl ?_
  refine e_if_eq (k := 21) (tgt := 54) rfl (by decide) (fun z => ?_) (fun z => ?_)
  · have h := h.1 z
    refine e_sub (lv' := []) [] rfl ?_
    exact s_X5_fieldLetter_54 hg h
  · have h := h.2 z
    refine e_aload_n (k := 22) (i := 0) rfl rfl 0 rfl ?_
    refine e_iconst (k := 23) (v := (1 : Int32)) rfl (by decide) ?_
    refine e_callVi (k := 24) (q := 33) (As := [.int (1 : Int32)]) (rest := []) rfl (c_X5_peek (g := g) hg (n := n) h) m_X5_peek i_X5_peek l_X5_54 rfl ⟨_, rfl, rfl⟩ rfl rfl (Nat.le_of_ble_eq_true rfl) ⟨by decide, by decide, rfl, rfl⟩ (fun _ h => h.elim) (fun r1 u1 h => ?_)
    refine e_bipush (k := 25) (v := (58 : Int32)) rfl (by decide) ?_
    refine e_icmp_ne (k := 26) (tgt := 54) rfl (by decide) (fun z => ?_) (fun z => ?_)
    · have h := h.1 z
      refine e_sub (lv' := []) [] rfl ?_
      exact s_X5_fieldLetter_54 hg h
    · have h := h.2 z
      refine e_iload_n (k := 27) (i := 1) rfl rfl 1 rfl ?_
      refine e_goto (k := 28) (tgt := 55) rfl (by decide) ?_
      refine e_sub (lv' := []) [] rfl ?_
      exact s_X5_fieldLetter_55 hg h
set_option maxRecDepth 20000 in
theorem s_X5_fieldLetter_34 {g : Gb} (hg : xInj g) {n : Nat} {Q : Int32 → Mm → Prop} {x1 : Int32} {u0 : Mm} (h : w_X5_fieldLetter_34 n x1 u0 Q) : xE g me_X5_fieldLetter (pI g Q noT) 34 [(0, .ref (gR g 33)), (1, .int x1)] [] u0 := by
  unfold w_X5_fieldLetter_34 at h
  refine e_iconst (k := 18) (v := (0 : Int32)) rfl (by decide) ?_
  exact s_X5_fieldLetter_35 hg h
set_option maxRecDepth 20000 in
theorem s_X5_fieldLetter_30 {g : Gb} (hg : xInj g) {n : Nat} {Q : Int32 → Mm → Prop} {x1 : Int32} {u0 : Mm} (h : w_X5_fieldLetter_30 n x1 u0 Q) : xE g me_X5_fieldLetter (pI g Q noT) 30 [(0, .ref (gR g 33)), (1, .int x1)] [] u0 := by
  unfold w_X5_fieldLetter_30 at h
  refine e_iconst (k := 16) (v := (1 : Int32)) rfl (by decide) ?_
  refine e_goto (k := 17) (tgt := 35) rfl (by decide) ?_
  exact s_X5_fieldLetter_35 hg h
set_option maxRecDepth 20000 in
theorem s_X5_fieldLetter_18 {g : Gb} (hg : xInj g) {n : Nat} {Q : Int32 → Mm → Prop} {x1 : Int32} {u0 : Mm} (h : w_X5_fieldLetter_18 n x1 u0 Q) : xE g me_X5_fieldLetter (pI g Q noT) 18 [(0, .ref (gR g 33)), (1, .int x1)] [] u0 := by
  unfold w_X5_fieldLetter_18 at h
  refine e_iload_n (k := 10) (i := 1) rfl rfl 1 rfl ?_
  refine e_bipush (k := 11) (v := (97 : Int32)) rfl (by decide) ?_
  refine e_icmp_lt (k := 12) (tgt := 34) rfl (by decide) (fun z => ?_) (fun z => ?_)
  · have h := h.1 z
    exact s_X5_fieldLetter_34 hg h
  · have h := h.2 z
    refine e_iload_n (k := 13) (i := 1) rfl rfl 1 rfl ?_
    refine e_bipush (k := 14) (v := (122 : Int32)) rfl (by decide) ?_
    refine e_icmp_gt (k := 15) (tgt := 34) rfl (by decide) (fun z => ?_) (fun z => ?_)
    · have h := h.1 z
      exact s_X5_fieldLetter_34 hg h
    · have h := h.2 z
      exact s_X5_fieldLetter_30 hg h
set_option maxRecDepth 20000 in
theorem c_X5_fieldLetter {g : Gb} (hg : xInj g) {n : Nat} {u0 : Mm} {Q : Int32 → Mm → Prop} (h : w_X5_fieldLetter n u0 Q) : xMet (gL g) yX5_fieldLetter (xws yX5_fieldLetter cX5_fieldLetter 3 (some .int)) (xRoom 2) (xPc g [.ref (gR g 33)] u0) (xQ g (pI g Q noT)) (xA g) := by
  refine xbody (il := il_X5_fieldLetter) hg il_X5_fieldLetter_ok m_X5_fieldLetter (Nat.le_of_ble_eq_true rfl) ?_
  show xE g me_X5_fieldLetter (pI g Q noT) 0 [(0, .ref (gR g 33))] [] u0
  unfold w_X5_fieldLetter at h
  refine e_aload_n (k := 0) (i := 0) rfl rfl 0 rfl ?_
  refine e_iconst (k := 1) (v := (0 : Int32)) rfl (by decide) ?_
  refine e_callVi (k := 2) (q := 33) (As := [.int (0 : Int32)]) (rest := []) rfl (c_X5_peek (g := g) hg (n := n) h) m_X5_peek i_X5_peek l_X5_54 rfl ⟨_, rfl, rfl⟩ rfl rfl (Nat.le_of_ble_eq_true rfl) ⟨by decide, by decide, rfl, rfl⟩ (fun _ h => h.elim) (fun r1 u1 h => ?_)
  refine e_istore_n (k := 3) (i := 1) (lv' := [(0, .ref (gR g 33)), (1, .int r1)]) rfl rfl (by decide) [1, 0] rfl ?_
  refine e_iload_n (k := 4) (i := 1) rfl rfl 1 rfl ?_
  refine e_bipush (k := 5) (v := (65 : Int32)) rfl (by decide) ?_
  refine e_icmp_lt (k := 6) (tgt := 18) rfl (by decide) (fun z => ?_) (fun z => ?_)
  · have h := h.1 z
    exact s_X5_fieldLetter_18 hg h
  · have h := h.2 z
    refine e_iload_n (k := 7) (i := 1) rfl rfl 1 rfl ?_
    refine e_bipush (k := 8) (v := (90 : Int32)) rfl (by decide) ?_
    refine e_icmp_le (k := 9) (tgt := 30) rfl (by decide) (fun z => ?_) (fun z => ?_)
    · have h := h.1 z
      exact s_X5_fieldLetter_30 hg h
    · have h := h.2 z
      exact s_X5_fieldLetter_18 hg h
def il_X5_mustStop : List (Nat × Instr × Nat) := [(0, .aload_n 0, 1), (1, .getfield 28, 3), (4, .aload_n 0, 1), (5, .getfield 34, 3), (8, .if_icmp .ge 12, 3), (11, .aload_n 0, 1), (12, .iconst 1, 1), (13, .aload_n 0, 1), (14, .getfield 28, 3), (17, .invokevirtual 46, 3), (20, .return_, 1)]
set_option maxRecDepth 20000 in
theorem il_X5_mustStop_ok : ∀ x ∈ il_X5_mustStop, decode cX5_mustStop x.1 = .ok x.2 := by decide +kernel
abbrev me_X5_mustStop : Me := (RX5, il_X5_mustStop, 1, none, xRoom 2, [])
def w_X5_mustStop_20 (n : Nat) (u0 : Mm) (Q : Mm → Prop) : Prop :=
  Q u0
def w_X5_mustStop (n : Nat) (u0 : Mm) (Q : Mm → Prop) : Prop :=
  ((u0.1 33 4) ≤ (u0.1 33 2) → w_X5_mustStop_20 n u0 Q) ∧
  (¬ (u0.1 33 4) ≤ (u0.1 33 2) → w_X5_fail n (1 : Int32) (u0.1 33 2) u0 (fun u1 =>
  w_X5_mustStop_20 n u1 Q))
set_option maxRecDepth 20000 in
theorem s_X5_mustStop_20 {g : Gb} (hg : xInj g) {n : Nat} {Q : Mm → Prop} {u0 : Mm} (h : w_X5_mustStop_20 n  u0 Q) : xE g me_X5_mustStop (pV g Q noT) 20 [] [] u0 := by
  unfold w_X5_mustStop_20 at h
  exact e_vret (k := 10) rfl rfl (Or.inl ⟨rfl, h⟩)
set_option maxRecDepth 20000 in
theorem c_X5_mustStop {g : Gb} (hg : xInj g) {n : Nat} {u0 : Mm} {Q : Mm → Prop} (h : w_X5_mustStop n u0 Q) : xMet (gL g) yX5_mustStop (xws yX5_mustStop cX5_mustStop 1 none) (xRoom 2) (xPc g [.ref (gR g 33)] u0) (xQ g (pV g Q noT)) (xA g) := by
  refine xbody (il := il_X5_mustStop) hg il_X5_mustStop_ok m_X5_mustStop (Nat.le_of_ble_eq_true rfl) ?_
  show xE g me_X5_mustStop (pV g Q noT) 0 [(0, .ref (gR g 33))] [] u0
  unfold w_X5_mustStop at h
  refine e_aload_n (k := 0) (i := 0) rfl rfl 0 rfl ?_
  refine e_getI (k := 1) rfl f_X5_28 rfl rfl ?_
  refine e_aload_n (k := 2) (i := 0) rfl rfl 0 rfl ?_
  refine e_getI (k := 3) rfl f_X5_34 rfl rfl ?_
  refine e_icmp_ge (k := 4) (tgt := 20) rfl (by decide) (fun z => ?_) (fun z => ?_)
  · have h := h.1 z
    refine e_sub (lv' := []) [] rfl ?_
    exact s_X5_mustStop_20 hg h
  · have h := h.2 z
    refine e_aload_n (k := 5) (i := 0) rfl rfl 0 rfl ?_
    refine e_iconst (k := 6) (v := (1 : Int32)) rfl (by decide) ?_
    refine e_aload_n (k := 7) (i := 0) rfl rfl 0 rfl ?_
    refine e_getI (k := 8) rfl f_X5_28 rfl rfl ?_
    refine e_callVv (k := 9) (q := 33) (As := [.int (1 : Int32), .int (u0.1 33 2)]) (rest := []) rfl (c_X5_fail (g := g) hg (n := n) h) m_X5_fail i_X5_fail l_X5_46 rfl ⟨_, rfl, rfl⟩ rfl rfl (Nat.le_of_ble_eq_true rfl) ⟨by decide, by decide, rfl, rfl⟩ (fun _ h => h.elim) (fun u1 h => ?_)
    refine e_sub (lv' := []) [] rfl ?_
    exact s_X5_mustStop_20 hg h
def il_X5_number : List (Nat × Instr × Nat) := [(0, .aload_n 0, 1), (1, .getfield 28, 3), (4, .istore_n 3, 1), (5, .iconst 0, 1), (6, .istore 4, 2), (8, .aload_n 0, 1), (9, .getfield 28, 3), (12, .aload_n 0, 1), (13, .getfield 34, 3), (16, .if_icmp .ge 81, 3), (19, .aload_n 0, 1), (20, .getfield 28, 3), (23, .aload_n 0, 1), (24, .getfield 9, 3), (27, .arraylength, 1), (28, .if_icmp .ge 69, 3), (31, .aload_n 0, 1), (32, .getfield 9, 3), (35, .aload_n 0, 1), (36, .getfield 28, 3), (39, .baload, 1), (40, .bipush 48, 2), (42, .if_icmp .lt 55, 3), (45, .aload_n 0, 1), (46, .getfield 9, 3), (49, .aload_n 0, 1), (50, .getfield 28, 3), (53, .baload, 1), (54, .bipush 57, 2), (56, .if_icmp .gt 41, 3), (59, .ldc 57, 2), (61, .iload 4, 2), (63, .bipush 10, 2), (65, .imul, 1), (66, .aload_n 0, 1), (67, .getfield 9, 3), (70, .aload_n 0, 1), (71, .getfield 28, 3), (74, .baload, 1), (75, .iadd, 1), (76, .bipush 48, 2), (78, .isub, 1), (79, .invokestatic 15, 3), (82, .istore 4, 2), (84, .aload_n 0, 1), (85, .dup, 1), (86, .getfield 28, 3), (89, .iconst 1, 1), (90, .iadd, 1), (91, .putfield 28, 3), (94, .goto (-86), 3), (97, .iload 4, 2), (99, .iconst 1, 1), (100, .if_icmp .lt 23, 3), (103, .iload 4, 2), (105, .iload_n 1, 1), (106, .if_icmp .gt 17, 3), (109, .iload_n 2, 1), (110, .ifCond .eq 21, 3), (113, .iload 4, 2), (115, .iload 4, 2), (117, .iconst 1, 1), (118, .isub, 1), (119, .iand, 1), (120, .ifCond .eq 11, 3), (123, .aload_n 0, 1), (124, .iconst 1, 1), (125, .iload_n 3, 1), (126, .invokevirtual 46, 3), (129, .iconst 0, 1), (130, .ireturn, 1), (131, .iload 4, 2), (133, .ireturn, 1)]
set_option maxRecDepth 20000 in
theorem il_X5_number_ok : ∀ x ∈ il_X5_number, decode cX5_number x.1 = .ok x.2 := by decide +kernel
abbrev me_X5_number : Me := (RX5, il_X5_number, 5, (some .int), xRoom 2, [])
def w_X5_number_131 (n : Nat) (x4 : Int32) (u0 : Mm) (Q : Int32 → Mm → Prop) : Prop :=
  Q x4 u0
def w_X5_number_123 (n : Nat) (x3 : Int32) (u0 : Mm) (Q : Int32 → Mm → Prop) : Prop :=
  w_X5_fail n (1 : Int32) x3 u0 (fun u1 =>
  Q (0 : Int32) u1)
def w_X5_number_97 (n : Nat) (x1 : Int32) (x2 : Int32) (x3 : Int32) (x4 : Int32) (u0 : Mm) (Q : Int32 → Mm → Prop) : Prop :=
  (x4 < (1 : Int32) → w_X5_number_123 n x3 u0 Q) ∧
  (¬ x4 < (1 : Int32) → (x1 < x4 → w_X5_number_123 n x3 u0 Q) ∧
  (¬ x1 < x4 → (x2 = 0 → w_X5_number_131 n x4 u0 Q) ∧
  (¬ x2 = 0 → ((x4 &&& (x4 - (1 : Int32))) = 0 → w_X5_number_131 n x4 u0 Q) ∧
  (¬ (x4 &&& (x4 - (1 : Int32))) = 0 → w_X5_number_123 n x3 u0 Q))))
def w_X5_number_8 (n : Nat) (Q : Int32 → Mm → Prop) : Nat → Int32 → Int32 → Int32 → Int32 → Mm → Prop
  | 0, _, _, _, _, _ => False
  | k + 1, x1, x2, x3, x4, u0 =>
  ((u0.1 33 4) ≤ (u0.1 33 2) → w_X5_number_97 n x1 x2 x3 x4 u0 Q) ∧
  (¬ (u0.1 33 4) ≤ (u0.1 33 2) → ((2400 : Int32) ≤ (u0.1 33 2) → w_X5_number_97 n x1 x2 x3 x4 u0 Q) ∧
  (¬ (2400 : Int32) ≤ (u0.1 33 2) → vp_in (u0.1 33 2) 2400 ∧ (((u0.1 (u0.2.2 1) (ix (u0.1 33 2))) < (48 : Int32) → w_X5_number_97 n x1 x2 x3 x4 u0 Q) ∧
  (¬ (u0.1 (u0.2.2 1) (ix (u0.1 33 2))) < (48 : Int32) → vp_in (u0.1 33 2) 2400 ∧ (((57 : Int32) < (u0.1 (u0.2.2 1) (ix (u0.1 33 2))) → w_X5_number_97 n x1 x2 x3 x4 u0 Q) ∧
  (¬ (57 : Int32) < (u0.1 (u0.2.2 1) (ix (u0.1 33 2))) → vp_in (u0.1 33 2) 2400 ∧ (ilet (if (((x4 * (10 : Int32)) + (u0.1 (u0.2.2 1) (ix (u0.1 33 2)))) - (48 : Int32)) < (1000000 : Int32) then (((x4 * (10 : Int32)) + (u0.1 (u0.2.2 1) (ix (u0.1 33 2)))) - (48 : Int32)) else (1000000 : Int32)) fun y1 =>
  mlet (setI u0 33 2 ((u0.1 33 2) + (1 : Int32))) fun u1 =>
  (w_X5_number_8 n Q k) x1 x2 x3 y1 u1)))))))
def w_X5_number (n : Nat) (a0 : Int32) (a1 : Int32) (u0 : Mm) (Q : Int32 → Mm → Prop) : Prop :=
  ilet (u0.1 33 2) fun y1 =>
  (w_X5_number_8 n Q n) a0 a1 y1 (0 : Int32) u0
set_option maxRecDepth 20000 in
theorem s_X5_number_131 {g : Gb} (hg : xInj g) {n : Nat} {Q : Int32 → Mm → Prop} {x4 : Int32} {u0 : Mm} (h : w_X5_number_131 n x4 u0 Q) : xE g me_X5_number (pI g Q noT) 131 [(4, .int x4)] [] u0 := by
  unfold w_X5_number_131 at h
  refine e_iload (k := 71) (i := 4) rfl 0 rfl ?_
  exact e_iret (k := 72) rfl rfl (Or.inl ⟨_, rfl, h⟩)
set_option maxRecDepth 20000 in
theorem s_X5_number_123 {g : Gb} (hg : xInj g) {n : Nat} {Q : Int32 → Mm → Prop} {x3 : Int32} {u0 : Mm} (h : w_X5_number_123 n x3 u0 Q) : xE g me_X5_number (pI g Q noT) 123 [(0, .ref (gR g 33)), (3, .int x3)] [] u0 := by
  unfold w_X5_number_123 at h
  refine e_aload_n (k := 65) (i := 0) rfl rfl 0 rfl ?_
  refine e_iconst (k := 66) (v := (1 : Int32)) rfl (by decide) ?_
  refine e_iload_n (k := 67) (i := 3) rfl rfl 1 rfl ?_
  refine e_callVv (k := 68) (q := 33) (As := [.int (1 : Int32), .int x3]) (rest := []) rfl (c_X5_fail (g := g) hg (n := n) h) m_X5_fail i_X5_fail l_X5_46 rfl ⟨_, rfl, rfl⟩ rfl rfl (Nat.le_of_ble_eq_true rfl) ⟨by decide, by decide, rfl, rfl⟩ (fun _ h => h.elim) (fun u1 h => ?_)
  refine e_iconst (k := 69) (v := (0 : Int32)) rfl (by decide) ?_
  exact e_iret (k := 70) rfl rfl (Or.inl ⟨_, rfl, h⟩)
set_option maxRecDepth 20000 in
theorem s_X5_number_97 {g : Gb} (hg : xInj g) {n : Nat} {Q : Int32 → Mm → Prop} {x1 : Int32} {x2 : Int32} {x3 : Int32} {x4 : Int32} {u0 : Mm} (h : w_X5_number_97 n x1 x2 x3 x4 u0 Q) : xE g me_X5_number (pI g Q noT) 97 [(0, .ref (gR g 33)), (1, .int x1), (2, .int x2), (3, .int x3), (4, .int x4)] [] u0 := by
  unfold w_X5_number_97 at h
  refine e_iload (k := 51) (i := 4) rfl 4 rfl ?_
  refine e_iconst (k := 52) (v := (1 : Int32)) rfl (by decide) ?_
  refine e_icmp_lt (k := 53) (tgt := 123) rfl (by decide) (fun z => ?_) (fun z => ?_)
  · have h := h.1 z
    refine e_sub (lv' := [(0, .ref (gR g 33)), (3, .int x3)]) [0, 3] rfl ?_
    exact s_X5_number_123 hg h
  · have h := h.2 z
    refine e_iload (k := 54) (i := 4) rfl 4 rfl ?_
    refine e_iload_n (k := 55) (i := 1) rfl rfl 1 rfl ?_
    refine e_icmp_gt (k := 56) (tgt := 123) rfl (by decide) (fun z => ?_) (fun z => ?_)
    · have h := h.1 z
      refine e_sub (lv' := [(0, .ref (gR g 33)), (3, .int x3)]) [0, 3] rfl ?_
      exact s_X5_number_123 hg h
    · have h := h.2 z
      refine e_iload_n (k := 57) (i := 2) rfl rfl 2 rfl ?_
      refine e_if_eq (k := 58) (tgt := 131) rfl (by decide) (fun z => ?_) (fun z => ?_)
      · have h := h.1 z
        refine e_sub (lv' := [(4, .int x4)]) [4] rfl ?_
        exact s_X5_number_131 hg h
      · have h := h.2 z
        refine e_iload (k := 59) (i := 4) rfl 4 rfl ?_
        refine e_iload (k := 60) (i := 4) rfl 4 rfl ?_
        refine e_iconst (k := 61) (v := (1 : Int32)) rfl (by decide) ?_
        refine e_isub (k := 62) rfl ?_
        refine e_iand (k := 63) rfl ?_
        refine e_if_eq (k := 64) (tgt := 131) rfl (by decide) (fun z => ?_) (fun z => ?_)
        · have h := h.1 z
          refine e_sub (lv' := [(4, .int x4)]) [4] rfl ?_
          exact s_X5_number_131 hg h
        · have h := h.2 z
          refine e_sub (lv' := [(0, .ref (gR g 33)), (3, .int x3)]) [0, 3] rfl ?_
          exact s_X5_number_123 hg h
set_option maxRecDepth 20000 in
theorem s_X5_number_8 {g : Gb} (hg : xInj g) {n : Nat} {Q : Int32 → Mm → Prop} : ∀ (k : Nat) (x1 : Int32) (x2 : Int32) (x3 : Int32) (x4 : Int32) (u0 : Mm), w_X5_number_8 n Q k x1 x2 x3 x4 u0 → xE g me_X5_number (pI g Q noT) 8 [(0, .ref (gR g 33)), (1, .int x1), (2, .int x2), (3, .int x3), (4, .int x4)] [] u0 := by
  intro k
  induction k with
  | zero => intro x1 x2 x3 x4 u0 h; exact h.elim
  | succ k ih =>
    intro x1 x2 x3 x4 u0 h
    unfold w_X5_number_8 at h
    refine e_aload_n (k := 5) (i := 0) rfl rfl 0 rfl ?_
    refine e_getI (k := 6) rfl f_X5_28 rfl rfl ?_
    refine e_aload_n (k := 7) (i := 0) rfl rfl 0 rfl ?_
    refine e_getI (k := 8) rfl f_X5_34 rfl rfl ?_
    refine e_icmp_ge (k := 9) (tgt := 97) rfl (by decide) (fun z => ?_) (fun z => ?_)
    · have h := h.1 z
      exact s_X5_number_97 hg h
    · have h := h.2 z
      refine e_aload_n (k := 10) (i := 0) rfl rfl 0 rfl ?_
      refine e_getI (k := 11) rfl f_X5_28 rfl rfl ?_
      refine e_aload_n (k := 12) (i := 0) rfl rfl 0 rfl ?_
      refine e_getP (k := 13) rfl f_X5_9 rfl rfl (fun ty1 => ?_)
      refine e_alen (k := 14) (v := (2400 : Int32)) rfl ty1.2.1 (by decide) (by decide) ?_
      refine e_icmp_ge (k := 15) (tgt := 97) rfl (by decide) (fun z => ?_) (fun z => ?_)
      · have h := h.1 z
        exact s_X5_number_97 hg h
      · have h := h.2 z
        refine e_aload_n (k := 16) (i := 0) rfl rfl 0 rfl ?_
        refine e_getP (k := 17) rfl f_X5_9 rfl rfl (fun ty2 => ?_)
        refine e_aload_n (k := 18) (i := 0) rfl rfl 0 rfl ?_
        refine e_getI (k := 19) rfl f_X5_28 rfl rfl ?_
        refine e_bald (k := 20) rfl ty2.2.1 h.1 ?_
        have h := h.2
        refine e_bipush (k := 21) (v := (48 : Int32)) rfl (by decide) ?_
        refine e_icmp_lt (k := 22) (tgt := 97) rfl (by decide) (fun z => ?_) (fun z => ?_)
        · have h := h.1 z
          exact s_X5_number_97 hg h
        · have h := h.2 z
          refine e_aload_n (k := 23) (i := 0) rfl rfl 0 rfl ?_
          refine e_getP (k := 24) rfl f_X5_9 rfl rfl (fun ty3 => ?_)
          refine e_aload_n (k := 25) (i := 0) rfl rfl 0 rfl ?_
          refine e_getI (k := 26) rfl f_X5_28 rfl rfl ?_
          refine e_bald (k := 27) rfl ty3.2.1 h.1 ?_
          have h := h.2
          refine e_bipush (k := 28) (v := (57 : Int32)) rfl (by decide) ?_
          refine e_icmp_gt (k := 29) (tgt := 97) rfl (by decide) (fun z => ?_) (fun z => ?_)
          · have h := h.1 z
            exact s_X5_number_97 hg h
          · have h := h.2 z
            refine e_ldc (k := 30) rfl k_X5_57 ?_
            refine e_iload (k := 31) (i := 4) rfl 4 rfl ?_
            refine e_bipush (k := 32) (v := (10 : Int32)) rfl (by decide) ?_
            refine e_imul (k := 33) rfl ?_
            refine e_aload_n (k := 34) (i := 0) rfl rfl 0 rfl ?_
            refine e_getP (k := 35) rfl f_X5_9 rfl rfl (fun ty4 => ?_)
            refine e_aload_n (k := 36) (i := 0) rfl rfl 0 rfl ?_
            refine e_getI (k := 37) rfl f_X5_28 rfl rfl ?_
            refine e_bald (k := 38) rfl ty4.2.1 h.1 ?_
            have h := h.2
            refine e_iadd (k := 39) rfl ?_
            refine e_bipush (k := 40) (v := (48 : Int32)) rfl (by decide) ?_
            refine e_isub (k := 41) rfl ?_
            refine e_mmin (k := 42) rfl l_X5_15 st_J9_min_7cf53 h9_ini h9_min (by decide) (Nat.le_of_ble_eq_true rfl) ?_
            refine e_ilet h (fun y1 h => ?_)
            refine e_istore (k := 43) (i := 4) (lv' := [(0, .ref (gR g 33)), (1, .int x1), (2, .int x2), (3, .int x3), (4, .int y1)]) rfl (by decide) [1, 2, 3, 4, 0] rfl ?_
            refine e_aload_n (k := 44) (i := 0) rfl rfl 0 rfl ?_
            refine e_dup (k := 45) rfl rfl ?_
            refine e_getI (k := 46) rfl f_X5_28 rfl rfl ?_
            refine e_iconst (k := 47) (v := (1 : Int32)) rfl (by decide) ?_
            refine e_iadd (k := 48) rfl ?_
            refine e_putI (k := 49) rfl fg_X5_28 rfl rfl ?_
            refine e_mlet h (fun u1 h => ?_)
            refine e_goto (k := 50) (tgt := 8) rfl (by decide) ?_
            exact ih x1 x2 x3 y1 u1 h
set_option maxRecDepth 20000 in
theorem c_X5_number {g : Gb} (hg : xInj g) {n : Nat} {a0 : Int32} {a1 : Int32} {u0 : Mm} {Q : Int32 → Mm → Prop} (h : w_X5_number n a0 a1 u0 Q) : xMet (gL g) yX5_number (xws yX5_number cX5_number 5 (some .int)) (xRoom 2) (xPc g [.ref (gR g 33), .int a0, .int a1] u0) (xQ g (pI g Q noT)) (xA g) := by
  refine xbody (il := il_X5_number) hg il_X5_number_ok m_X5_number (Nat.le_of_ble_eq_true rfl) ?_
  show xE g me_X5_number (pI g Q noT) 0 [(0, .ref (gR g 33)), (1, .int a0), (2, .int a1)] [] u0
  unfold w_X5_number at h
  refine e_aload_n (k := 0) (i := 0) rfl rfl 0 rfl ?_
  refine e_getI (k := 1) rfl f_X5_28 rfl rfl ?_
  refine e_ilet h (fun y1 h => ?_)
  refine e_istore_n (k := 2) (i := 3) (lv' := [(0, .ref (gR g 33)), (1, .int a0), (2, .int a1), (3, .int y1)]) rfl rfl (by decide) [1, 2, 3, 0] rfl ?_
  refine e_iconst (k := 3) (v := (0 : Int32)) rfl (by decide) ?_
  refine e_istore (k := 4) (i := 4) (lv' := [(0, .ref (gR g 33)), (1, .int a0), (2, .int a1), (3, .int y1), (4, .int (0 : Int32))]) rfl (by decide) [1, 2, 3, 4, 0] rfl ?_
  exact s_X5_number_8 hg n a0 a1 y1 (0 : Int32) u0 h
def il_X5_openLine : List (Nat × Instr × Nat) := [(0, .aload_n 0, 1), (1, .aload_n 0, 1), (2, .getfield 37, 3), (5, .aload_n 0, 1), (6, .getfield 24, 3), (9, .invokestatic 15, 3), (12, .putfield 31, 3), (15, .aload_n 0, 1), (16, .aload_n 0, 1), (17, .getfield 31, 3), (20, .putfield 28, 3), (23, .aload_n 0, 1), (24, .getfield 31, 3), (27, .istore_n 1, 1), (28, .iload_n 1, 1), (29, .aload_n 0, 1), (30, .getfield 24, 3), (33, .if_icmp .ge 19, 3), (36, .aload_n 0, 1), (37, .iload_n 1, 1), (38, .invokevirtual 50, 3), (41, .bipush 10, 2), (43, .if_icmp .eq 9, 3), (46, .iinc 1 1, 3), (49, .goto (-21), 3), (52, .aload_n 0, 1), (53, .getfield 31, 3), (56, .aload_n 0, 1), (57, .getfield 24, 3), (60, .if_icmp .ge 7, 3), (63, .iconst 1, 1), (64, .goto 4, 3), (67, .iconst 0, 1), (68, .istore_n 2, 1), (69, .aload_n 0, 1), (70, .iload_n 1, 1), (71, .iconst 1, 1), (72, .iadd, 1), (73, .putfield 37, 3), (76, .aload_n 0, 1), (77, .getfield 31, 3), (80, .istore_n 3, 1), (81, .iload_n 3, 1), (82, .iload_n 1, 1), (83, .if_icmp .ge 19, 3), (86, .aload_n 0, 1), (87, .iload_n 3, 1), (88, .invokevirtual 50, 3), (91, .bipush 37, 2), (93, .if_icmp .eq 9, 3), (96, .iinc 3 1, 3), (99, .goto (-18), 3), (102, .iload_n 3, 1), (103, .aload_n 0, 1), (104, .getfield 31, 3), (107, .if_icmp .le 21, 3), (110, .aload_n 0, 1), (111, .iload_n 3, 1), (112, .iconst 1, 1), (113, .isub, 1), (114, .invokevirtual 50, 3), (117, .bipush 32, 2), (119, .if_icmp .ne 9, 3), (122, .iinc 3 (-1), 3), (125, .goto (-23), 3), (128, .iload_n 3, 1), (129, .aload_n 0, 1), (130, .getfield 31, 3), (133, .if_icmp .le 18, 3), (136, .aload_n 0, 1), (137, .iload_n 3, 1), (138, .iconst 1, 1), (139, .isub, 1), (140, .invokevirtual 50, 3), (143, .bipush 92, 2), (145, .if_icmp .ne 6, 3), (148, .iinc 3 (-1), 3), (151, .aload_n 0, 1), (152, .iload_n 3, 1), (153, .putfield 34, 3), (156, .iload_n 2, 1), (157, .ireturn, 1)]
set_option maxRecDepth 20000 in
theorem il_X5_openLine_ok : ∀ x ∈ il_X5_openLine, decode cX5_openLine x.1 = .ok x.2 := by decide +kernel
abbrev me_X5_openLine : Me := (RX5, il_X5_openLine, 4, (some .boolean), xRoom 2, [])
def w_X5_openLine_151 (n : Nat) (x2 : Int32) (x3 : Int32) (u0 : Mm) (Q : Int32 → Mm → Prop) : Prop :=
  mlet (setI u0 33 4 x3) fun u1 =>
  narrow .boolean (.int x2) = .int x2 ∧ Q x2 u1
def w_X5_openLine_128 (n : Nat) (x2 : Int32) (x3 : Int32) (u0 : Mm) (Q : Int32 → Mm → Prop) : Prop :=
  (x3 ≤ (u0.1 33 3) → w_X5_openLine_151 n x2 x3 u0 Q) ∧
  (¬ x3 ≤ (u0.1 33 3) → w_X5_byteAt n (x3 - (1 : Int32)) u0 (fun r1 u1 =>
  (¬ r1 = (92 : Int32) → w_X5_openLine_151 n x2 x3 u1 Q) ∧
  (r1 = (92 : Int32) → w_X5_openLine_151 n x2 (x3 + (-1 : Int32)) u1 Q)))
def w_X5_openLine_102 (n : Nat) (Q : Int32 → Mm → Prop) : Nat → Int32 → Int32 → Mm → Prop
  | 0, _, _, _ => False
  | k + 1, x2, x3, u0 =>
  (x3 ≤ (u0.1 33 3) → w_X5_openLine_128 n x2 x3 u0 Q) ∧
  (¬ x3 ≤ (u0.1 33 3) → w_X5_byteAt n (x3 - (1 : Int32)) u0 (fun r1 u1 =>
  (¬ r1 = (32 : Int32) → w_X5_openLine_128 n x2 x3 u1 Q) ∧
  (r1 = (32 : Int32) → (w_X5_openLine_102 n Q k) x2 (x3 + (-1 : Int32)) u1)))
def w_X5_openLine_81 (n : Nat) (Q : Int32 → Mm → Prop) : Nat → Int32 → Int32 → Int32 → Mm → Prop
  | 0, _, _, _, _ => False
  | k + 1, x1, x2, x3, u0 =>
  (x1 ≤ x3 → (w_X5_openLine_102 n Q n) x2 x3 u0) ∧
  (¬ x1 ≤ x3 → w_X5_byteAt n x3 u0 (fun r1 u1 =>
  (r1 = (37 : Int32) → (w_X5_openLine_102 n Q n) x2 x3 u1) ∧
  (¬ r1 = (37 : Int32) → (w_X5_openLine_81 n Q k) x1 x2 (x3 + (1 : Int32)) u1)))
def w_X5_openLine_68 (n : Nat) (x1 : Int32) (t0 : Int32) (u0 : Mm) (Q : Int32 → Mm → Prop) : Prop :=
  mlet (setI u0 33 5 (x1 + (1 : Int32))) fun u1 =>
  ilet (u1.1 33 3) fun y1 =>
  (w_X5_openLine_81 n Q n) x1 t0 y1 u1
def w_X5_openLine_52 (n : Nat) (x1 : Int32) (u0 : Mm) (Q : Int32 → Mm → Prop) : Prop :=
  ((u0.1 33 1) ≤ (u0.1 33 3) → w_X5_openLine_68 n x1 (0 : Int32) u0 Q) ∧
  (¬ (u0.1 33 1) ≤ (u0.1 33 3) → w_X5_openLine_68 n x1 (1 : Int32) u0 Q)
def w_X5_openLine_28 (n : Nat) (Q : Int32 → Mm → Prop) : Nat → Int32 → Mm → Prop
  | 0, _, _ => False
  | k + 1, x1, u0 =>
  ((u0.1 33 1) ≤ x1 → w_X5_openLine_52 n x1 u0 Q) ∧
  (¬ (u0.1 33 1) ≤ x1 → w_X5_byteAt n x1 u0 (fun r1 u1 =>
  (r1 = (10 : Int32) → w_X5_openLine_52 n x1 u1 Q) ∧
  (¬ r1 = (10 : Int32) → (w_X5_openLine_28 n Q k) (x1 + (1 : Int32)) u1)))
def w_X5_openLine (n : Nat) (u0 : Mm) (Q : Int32 → Mm → Prop) : Prop :=
  mlet (setI u0 33 3 (if (u0.1 33 1) < (u0.1 33 5) then (u0.1 33 1) else (u0.1 33 5))) fun u1 =>
  mlet (setI u1 33 2 (u1.1 33 3)) fun u2 =>
  ilet (u2.1 33 3) fun y1 =>
  (w_X5_openLine_28 n Q n) y1 u2
set_option maxRecDepth 20000 in
theorem s_X5_openLine_151 {g : Gb} (hg : xInj g) {n : Nat} {Q : Int32 → Mm → Prop} {x2 : Int32} {x3 : Int32} {u0 : Mm} (h : w_X5_openLine_151 n x2 x3 u0 Q) : xE g me_X5_openLine (pI g Q noT) 151 [(0, .ref (gR g 33)), (2, .int x2), (3, .int x3)] [] u0 := by
  unfold w_X5_openLine_151 at h
  refine e_aload_n (k := 77) (i := 0) rfl rfl 0 rfl ?_
  refine e_iload_n (k := 78) (i := 3) rfl rfl 2 rfl ?_
  refine e_putI (k := 79) rfl fg_X5_34 rfl rfl ?_
  refine e_mlet h (fun u1 h => ?_)
  refine e_iload_n (k := 80) (i := 2) rfl rfl 1 rfl ?_
  exact e_zret (k := 81) rfl rfl h.1 (Or.inl ⟨_, rfl, h.2⟩)
set_option maxRecDepth 20000 in
theorem s_X5_openLine_128 {g : Gb} (hg : xInj g) {n : Nat} {Q : Int32 → Mm → Prop} {x2 : Int32} {x3 : Int32} {u0 : Mm} (h : w_X5_openLine_128 n x2 x3 u0 Q) : xE g me_X5_openLine (pI g Q noT) 128 [(0, .ref (gR g 33)), (2, .int x2), (3, .int x3)] [] u0 := by
  unfold w_X5_openLine_128 at h
  refine e_iload_n (k := 65) (i := 3) rfl rfl 2 rfl ?_
  refine e_aload_n (k := 66) (i := 0) rfl rfl 0 rfl ?_
  refine e_getI (k := 67) rfl f_X5_31 rfl rfl ?_
  refine e_icmp_le (k := 68) (tgt := 151) rfl (by decide) (fun z => ?_) (fun z => ?_)
  · have h := h.1 z
    exact s_X5_openLine_151 hg h
  · have h := h.2 z
    refine e_aload_n (k := 69) (i := 0) rfl rfl 0 rfl ?_
    refine e_iload_n (k := 70) (i := 3) rfl rfl 2 rfl ?_
    refine e_iconst (k := 71) (v := (1 : Int32)) rfl (by decide) ?_
    refine e_isub (k := 72) rfl ?_
    refine e_callVi (k := 73) (q := 33) (As := [.int (x3 - (1 : Int32))]) (rest := []) rfl (c_X5_byteAt (g := g) hg (n := n) h) m_X5_byteAt i_X5_byteAt l_X5_50 rfl ⟨_, rfl, rfl⟩ rfl rfl (Nat.le_of_ble_eq_true rfl) ⟨by decide, by decide, rfl, rfl⟩ (fun _ h => h.elim) (fun r1 u1 h => ?_)
    refine e_bipush (k := 74) (v := (92 : Int32)) rfl (by decide) ?_
    refine e_icmp_ne (k := 75) (tgt := 151) rfl (by decide) (fun z => ?_) (fun z => ?_)
    · have h := h.1 z
      exact s_X5_openLine_151 hg h
    · have h := h.2 z
      refine e_iinc (k := 76) (i := 3) (j := 2) (v := (x3 + (-1 : Int32))) (lv' := [(0, .ref (gR g 33)), (2, .int x2), (3, .int (x3 + (-1 : Int32)))]) rfl rfl rfl (by decide) [1, 2, 0] rfl ?_
      exact s_X5_openLine_151 hg h
set_option maxRecDepth 20000 in
theorem s_X5_openLine_102 {g : Gb} (hg : xInj g) {n : Nat} {Q : Int32 → Mm → Prop} : ∀ (k : Nat) (x2 : Int32) (x3 : Int32) (u0 : Mm), w_X5_openLine_102 n Q k x2 x3 u0 → xE g me_X5_openLine (pI g Q noT) 102 [(0, .ref (gR g 33)), (2, .int x2), (3, .int x3)] [] u0 := by
  intro k
  induction k with
  | zero => intro x2 x3 u0 h; exact h.elim
  | succ k ih =>
    intro x2 x3 u0 h
    unfold w_X5_openLine_102 at h
    refine e_iload_n (k := 52) (i := 3) rfl rfl 2 rfl ?_
    refine e_aload_n (k := 53) (i := 0) rfl rfl 0 rfl ?_
    refine e_getI (k := 54) rfl f_X5_31 rfl rfl ?_
    refine e_icmp_le (k := 55) (tgt := 128) rfl (by decide) (fun z => ?_) (fun z => ?_)
    · have h := h.1 z
      exact s_X5_openLine_128 hg h
    · have h := h.2 z
      refine e_aload_n (k := 56) (i := 0) rfl rfl 0 rfl ?_
      refine e_iload_n (k := 57) (i := 3) rfl rfl 2 rfl ?_
      refine e_iconst (k := 58) (v := (1 : Int32)) rfl (by decide) ?_
      refine e_isub (k := 59) rfl ?_
      refine e_callVi (k := 60) (q := 33) (As := [.int (x3 - (1 : Int32))]) (rest := []) rfl (c_X5_byteAt (g := g) hg (n := n) h) m_X5_byteAt i_X5_byteAt l_X5_50 rfl ⟨_, rfl, rfl⟩ rfl rfl (Nat.le_of_ble_eq_true rfl) ⟨by decide, by decide, rfl, rfl⟩ (fun _ h => h.elim) (fun r1 u1 h => ?_)
      refine e_bipush (k := 61) (v := (32 : Int32)) rfl (by decide) ?_
      refine e_icmp_ne (k := 62) (tgt := 128) rfl (by decide) (fun z => ?_) (fun z => ?_)
      · have h := h.1 z
        exact s_X5_openLine_128 hg h
      · have h := h.2 z
        refine e_iinc (k := 63) (i := 3) (j := 2) (v := (x3 + (-1 : Int32))) (lv' := [(0, .ref (gR g 33)), (2, .int x2), (3, .int (x3 + (-1 : Int32)))]) rfl rfl rfl (by decide) [1, 2, 0] rfl ?_
        refine e_goto (k := 64) (tgt := 102) rfl (by decide) ?_
        exact ih x2 (x3 + (-1 : Int32)) u1 h
set_option maxRecDepth 20000 in
theorem s_X5_openLine_81 {g : Gb} (hg : xInj g) {n : Nat} {Q : Int32 → Mm → Prop} : ∀ (k : Nat) (x1 : Int32) (x2 : Int32) (x3 : Int32) (u0 : Mm), w_X5_openLine_81 n Q k x1 x2 x3 u0 → xE g me_X5_openLine (pI g Q noT) 81 [(0, .ref (gR g 33)), (1, .int x1), (2, .int x2), (3, .int x3)] [] u0 := by
  intro k
  induction k with
  | zero => intro x1 x2 x3 u0 h; exact h.elim
  | succ k ih =>
    intro x1 x2 x3 u0 h
    unfold w_X5_openLine_81 at h
    refine e_iload_n (k := 42) (i := 3) rfl rfl 3 rfl ?_
    refine e_iload_n (k := 43) (i := 1) rfl rfl 1 rfl ?_
    refine e_icmp_ge (k := 44) (tgt := 102) rfl (by decide) (fun z => ?_) (fun z => ?_)
    · have h := h.1 z
      refine e_sub (lv' := [(0, .ref (gR g 33)), (2, .int x2), (3, .int x3)]) [0, 2, 3] rfl ?_
      exact s_X5_openLine_102 hg n x2 x3 u0 h
    · have h := h.2 z
      refine e_aload_n (k := 45) (i := 0) rfl rfl 0 rfl ?_
      refine e_iload_n (k := 46) (i := 3) rfl rfl 3 rfl ?_
      refine e_callVi (k := 47) (q := 33) (As := [.int x3]) (rest := []) rfl (c_X5_byteAt (g := g) hg (n := n) h) m_X5_byteAt i_X5_byteAt l_X5_50 rfl ⟨_, rfl, rfl⟩ rfl rfl (Nat.le_of_ble_eq_true rfl) ⟨by decide, by decide, rfl, rfl⟩ (fun _ h => h.elim) (fun r1 u1 h => ?_)
      refine e_bipush (k := 48) (v := (37 : Int32)) rfl (by decide) ?_
      refine e_icmp_eq (k := 49) (tgt := 102) rfl (by decide) (fun z => ?_) (fun z => ?_)
      · have h := h.1 z
        refine e_sub (lv' := [(0, .ref (gR g 33)), (2, .int x2), (3, .int x3)]) [0, 2, 3] rfl ?_
        exact s_X5_openLine_102 hg n x2 x3 u1 h
      · have h := h.2 z
        refine e_iinc (k := 50) (i := 3) (j := 3) (v := (x3 + (1 : Int32))) (lv' := [(0, .ref (gR g 33)), (1, .int x1), (2, .int x2), (3, .int (x3 + (1 : Int32)))]) rfl rfl rfl (by decide) [1, 2, 3, 0] rfl ?_
        refine e_goto (k := 51) (tgt := 81) rfl (by decide) ?_
        exact ih x1 x2 (x3 + (1 : Int32)) u1 h
set_option maxRecDepth 20000 in
theorem s_X5_openLine_68 {g : Gb} (hg : xInj g) {n : Nat} {Q : Int32 → Mm → Prop} {x1 : Int32} {t0 : Int32} {u0 : Mm} (h : w_X5_openLine_68 n x1 t0 u0 Q) : xE g me_X5_openLine (pI g Q noT) 68 [(0, .ref (gR g 33)), (1, .int x1)] [.int t0] u0 := by
  unfold w_X5_openLine_68 at h
  refine e_istore_n (k := 33) (i := 2) (lv' := [(0, .ref (gR g 33)), (1, .int x1), (2, .int t0)]) rfl rfl (by decide) [1, 2, 0] rfl ?_
  refine e_aload_n (k := 34) (i := 0) rfl rfl 0 rfl ?_
  refine e_iload_n (k := 35) (i := 1) rfl rfl 1 rfl ?_
  refine e_iconst (k := 36) (v := (1 : Int32)) rfl (by decide) ?_
  refine e_iadd (k := 37) rfl ?_
  refine e_putI (k := 38) rfl fg_X5_37 rfl rfl ?_
  refine e_mlet h (fun u1 h => ?_)
  refine e_aload_n (k := 39) (i := 0) rfl rfl 0 rfl ?_
  refine e_getI (k := 40) rfl f_X5_31 rfl rfl ?_
  refine e_ilet h (fun y1 h => ?_)
  refine e_istore_n (k := 41) (i := 3) (lv' := [(0, .ref (gR g 33)), (1, .int x1), (2, .int t0), (3, .int y1)]) rfl rfl (by decide) [1, 2, 3, 0] rfl ?_
  exact s_X5_openLine_81 hg n x1 t0 y1 u1 h
set_option maxRecDepth 20000 in
theorem s_X5_openLine_52 {g : Gb} (hg : xInj g) {n : Nat} {Q : Int32 → Mm → Prop} {x1 : Int32} {u0 : Mm} (h : w_X5_openLine_52 n x1 u0 Q) : xE g me_X5_openLine (pI g Q noT) 52 [(0, .ref (gR g 33)), (1, .int x1)] [] u0 := by
  unfold w_X5_openLine_52 at h
  refine e_aload_n (k := 25) (i := 0) rfl rfl 0 rfl ?_
  refine e_getI (k := 26) rfl f_X5_31 rfl rfl ?_
  refine e_aload_n (k := 27) (i := 0) rfl rfl 0 rfl ?_
  refine e_getI (k := 28) rfl f_X5_24 rfl rfl ?_
  refine e_icmp_ge (k := 29) (tgt := 67) rfl (by decide) (fun z => ?_) (fun z => ?_)
  · have h := h.1 z
    refine e_iconst (k := 32) (v := (0 : Int32)) rfl (by decide) ?_
    exact s_X5_openLine_68 hg h
  · have h := h.2 z
    refine e_iconst (k := 30) (v := (1 : Int32)) rfl (by decide) ?_
    refine e_goto (k := 31) (tgt := 68) rfl (by decide) ?_
    exact s_X5_openLine_68 hg h
set_option maxRecDepth 20000 in
theorem s_X5_openLine_28 {g : Gb} (hg : xInj g) {n : Nat} {Q : Int32 → Mm → Prop} : ∀ (k : Nat) (x1 : Int32) (u0 : Mm), w_X5_openLine_28 n Q k x1 u0 → xE g me_X5_openLine (pI g Q noT) 28 [(0, .ref (gR g 33)), (1, .int x1)] [] u0 := by
  intro k
  induction k with
  | zero => intro x1 u0 h; exact h.elim
  | succ k ih =>
    intro x1 u0 h
    unfold w_X5_openLine_28 at h
    refine e_iload_n (k := 14) (i := 1) rfl rfl 1 rfl ?_
    refine e_aload_n (k := 15) (i := 0) rfl rfl 0 rfl ?_
    refine e_getI (k := 16) rfl f_X5_24 rfl rfl ?_
    refine e_icmp_ge (k := 17) (tgt := 52) rfl (by decide) (fun z => ?_) (fun z => ?_)
    · have h := h.1 z
      exact s_X5_openLine_52 hg h
    · have h := h.2 z
      refine e_aload_n (k := 18) (i := 0) rfl rfl 0 rfl ?_
      refine e_iload_n (k := 19) (i := 1) rfl rfl 1 rfl ?_
      refine e_callVi (k := 20) (q := 33) (As := [.int x1]) (rest := []) rfl (c_X5_byteAt (g := g) hg (n := n) h) m_X5_byteAt i_X5_byteAt l_X5_50 rfl ⟨_, rfl, rfl⟩ rfl rfl (Nat.le_of_ble_eq_true rfl) ⟨by decide, by decide, rfl, rfl⟩ (fun _ h => h.elim) (fun r1 u1 h => ?_)
      refine e_bipush (k := 21) (v := (10 : Int32)) rfl (by decide) ?_
      refine e_icmp_eq (k := 22) (tgt := 52) rfl (by decide) (fun z => ?_) (fun z => ?_)
      · have h := h.1 z
        exact s_X5_openLine_52 hg h
      · have h := h.2 z
        refine e_iinc (k := 23) (i := 1) (j := 1) (v := (x1 + (1 : Int32))) (lv' := [(0, .ref (gR g 33)), (1, .int (x1 + (1 : Int32)))]) rfl rfl rfl (by decide) [1, 0] rfl ?_
        refine e_goto (k := 24) (tgt := 28) rfl (by decide) ?_
        exact ih (x1 + (1 : Int32)) u1 h
set_option maxRecDepth 20000 in
theorem c_X5_openLine {g : Gb} (hg : xInj g) {n : Nat} {u0 : Mm} {Q : Int32 → Mm → Prop} (h : w_X5_openLine n u0 Q) : xMet (gL g) yX5_openLine (xws yX5_openLine cX5_openLine 4 (some .boolean)) (xRoom 2) (xPc g [.ref (gR g 33)] u0) (xQ g (pI g Q noT)) (xA g) := by
  refine xbody (il := il_X5_openLine) hg il_X5_openLine_ok m_X5_openLine (Nat.le_of_ble_eq_true rfl) ?_
  show xE g me_X5_openLine (pI g Q noT) 0 [(0, .ref (gR g 33))] [] u0
  unfold w_X5_openLine at h
  refine e_aload_n (k := 0) (i := 0) rfl rfl 0 rfl ?_
  refine e_aload_n (k := 1) (i := 0) rfl rfl 0 rfl ?_
  refine e_getI (k := 2) rfl f_X5_37 rfl rfl ?_
  refine e_aload_n (k := 3) (i := 0) rfl rfl 0 rfl ?_
  refine e_getI (k := 4) rfl f_X5_24 rfl rfl ?_
  refine e_mmin (k := 5) rfl l_X5_15 st_J9_min_7cf53 h9_ini h9_min (by decide) (Nat.le_of_ble_eq_true rfl) ?_
  refine e_putI (k := 6) rfl fg_X5_31 rfl rfl ?_
  refine e_mlet h (fun u1 h => ?_)
  refine e_aload_n (k := 7) (i := 0) rfl rfl 0 rfl ?_
  refine e_aload_n (k := 8) (i := 0) rfl rfl 0 rfl ?_
  refine e_getI (k := 9) rfl f_X5_31 rfl rfl ?_
  refine e_putI (k := 10) rfl fg_X5_28 rfl rfl ?_
  refine e_mlet h (fun u2 h => ?_)
  refine e_aload_n (k := 11) (i := 0) rfl rfl 0 rfl ?_
  refine e_getI (k := 12) rfl f_X5_31 rfl rfl ?_
  refine e_ilet h (fun y1 h => ?_)
  refine e_istore_n (k := 13) (i := 1) (lv' := [(0, .ref (gR g 33)), (1, .int y1)]) rfl rfl (by decide) [1, 0] rfl ?_
  exact s_X5_openLine_28 hg n y1 u2 h
def il_X5_skipBlanks : List (Nat × Instr × Nat) := [(0, .aload_n 0, 1), (1, .getfield 28, 3), (4, .aload_n 0, 1), (5, .getfield 34, 3), (8, .if_icmp .ge 26, 3), (11, .aload_n 0, 1), (12, .iconst 0, 1), (13, .invokevirtual 54, 3), (16, .bipush 32, 2), (18, .if_icmp .ne 16, 3), (21, .aload_n 0, 1), (22, .dup, 1), (23, .getfield 28, 3), (26, .iconst 1, 1), (27, .iadd, 1), (28, .putfield 28, 3), (31, .goto (-31), 3), (34, .return_, 1)]
set_option maxRecDepth 20000 in
theorem il_X5_skipBlanks_ok : ∀ x ∈ il_X5_skipBlanks, decode cX5_skipBlanks x.1 = .ok x.2 := by decide +kernel
abbrev me_X5_skipBlanks : Me := (RX5, il_X5_skipBlanks, 1, none, xRoom 2, [])
def w_X5_skipBlanks_34 (n : Nat) (u0 : Mm) (Q : Mm → Prop) : Prop :=
  Q u0
def w_X5_skipBlanks_0 (n : Nat) (Q : Mm → Prop) : Nat → Mm → Prop
  | 0, _ => False
  | k + 1, u0 =>
  ((u0.1 33 4) ≤ (u0.1 33 2) → w_X5_skipBlanks_34 n u0 Q) ∧
  (¬ (u0.1 33 4) ≤ (u0.1 33 2) → w_X5_peek n (0 : Int32) u0 (fun r1 u1 =>
  (¬ r1 = (32 : Int32) → w_X5_skipBlanks_34 n u1 Q) ∧
  (r1 = (32 : Int32) → mlet (setI u1 33 2 ((u1.1 33 2) + (1 : Int32))) fun u2 =>
  (w_X5_skipBlanks_0 n Q k) u2)))
def w_X5_skipBlanks (n : Nat) (u0 : Mm) (Q : Mm → Prop) : Prop :=
  (w_X5_skipBlanks_0 n Q n) u0
set_option maxRecDepth 20000 in
theorem s_X5_skipBlanks_34 {g : Gb} (hg : xInj g) {n : Nat} {Q : Mm → Prop} {u0 : Mm} (h : w_X5_skipBlanks_34 n  u0 Q) : xE g me_X5_skipBlanks (pV g Q noT) 34 [] [] u0 := by
  unfold w_X5_skipBlanks_34 at h
  exact e_vret (k := 17) rfl rfl (Or.inl ⟨rfl, h⟩)
set_option maxRecDepth 20000 in
theorem s_X5_skipBlanks_0 {g : Gb} (hg : xInj g) {n : Nat} {Q : Mm → Prop} : ∀ (k : Nat) (u0 : Mm), w_X5_skipBlanks_0 n Q k  u0 → xE g me_X5_skipBlanks (pV g Q noT) 0 [(0, .ref (gR g 33))] [] u0 := by
  intro k
  induction k with
  | zero => intro  u0 h; exact h.elim
  | succ k ih =>
    intro  u0 h
    unfold w_X5_skipBlanks_0 at h
    refine e_aload_n (k := 0) (i := 0) rfl rfl 0 rfl ?_
    refine e_getI (k := 1) rfl f_X5_28 rfl rfl ?_
    refine e_aload_n (k := 2) (i := 0) rfl rfl 0 rfl ?_
    refine e_getI (k := 3) rfl f_X5_34 rfl rfl ?_
    refine e_icmp_ge (k := 4) (tgt := 34) rfl (by decide) (fun z => ?_) (fun z => ?_)
    · have h := h.1 z
      refine e_sub (lv' := []) [] rfl ?_
      exact s_X5_skipBlanks_34 hg h
    · have h := h.2 z
      refine e_aload_n (k := 5) (i := 0) rfl rfl 0 rfl ?_
      refine e_iconst (k := 6) (v := (0 : Int32)) rfl (by decide) ?_
      refine e_callVi (k := 7) (q := 33) (As := [.int (0 : Int32)]) (rest := []) rfl (c_X5_peek (g := g) hg (n := n) h) m_X5_peek i_X5_peek l_X5_54 rfl ⟨_, rfl, rfl⟩ rfl rfl (Nat.le_of_ble_eq_true rfl) ⟨by decide, by decide, rfl, rfl⟩ (fun _ h => h.elim) (fun r1 u1 h => ?_)
      refine e_bipush (k := 8) (v := (32 : Int32)) rfl (by decide) ?_
      refine e_icmp_ne (k := 9) (tgt := 34) rfl (by decide) (fun z => ?_) (fun z => ?_)
      · have h := h.1 z
        refine e_sub (lv' := []) [] rfl ?_
        exact s_X5_skipBlanks_34 hg h
      · have h := h.2 z
        refine e_aload_n (k := 10) (i := 0) rfl rfl 0 rfl ?_
        refine e_dup (k := 11) rfl rfl ?_
        refine e_getI (k := 12) rfl f_X5_28 rfl rfl ?_
        refine e_iconst (k := 13) (v := (1 : Int32)) rfl (by decide) ?_
        refine e_iadd (k := 14) rfl ?_
        refine e_putI (k := 15) rfl fg_X5_28 rfl rfl ?_
        refine e_mlet h (fun u2 h => ?_)
        refine e_goto (k := 16) (tgt := 0) rfl (by decide) ?_
        exact ih u2 h
set_option maxRecDepth 20000 in
theorem c_X5_skipBlanks {g : Gb} (hg : xInj g) {n : Nat} {u0 : Mm} {Q : Mm → Prop} (h : w_X5_skipBlanks n u0 Q) : xMet (gL g) yX5_skipBlanks (xws yX5_skipBlanks cX5_skipBlanks 1 none) (xRoom 2) (xPc g [.ref (gR g 33)] u0) (xQ g (pV g Q noT)) (xA g) := by
  refine xbody (il := il_X5_skipBlanks) hg il_X5_skipBlanks_ok m_X5_skipBlanks (Nat.le_of_ble_eq_true rfl) ?_
  show xE g me_X5_skipBlanks (pV g Q noT) 0 [(0, .ref (gR g 33))] [] u0
  unfold w_X5_skipBlanks at h
  exact s_X5_skipBlanks_0 hg n u0 h
def il_X7_tellGap : List (Nat × Instr × Nat) := [(0, .iload_n 1, 1), (1, .ifCond .lt 29, 3), (4, .iload_n 1, 1), (5, .aload_n 0, 1), (6, .getfield 39, 3), (9, .arraylength, 1), (10, .if_icmp .ge 20, 3), (13, .aload_n 0, 1), (14, .getfield 39, 3), (17, .iload_n 1, 1), (18, .aload_n 0, 1), (19, .getfield 39, 3), (22, .iload_n 1, 1), (23, .iaload, 1), (24, .iload_n 2, 1), (25, .iload_n 3, 1), (26, .invokestatic 54, 3), (29, .iastore, 1), (30, .return_, 1)]
set_option maxRecDepth 20000 in
theorem il_X7_tellGap_ok : ∀ x ∈ il_X7_tellGap, decode cX7_tellGap x.1 = .ok x.2 := by decide +kernel
abbrev me_X7_tellGap : Me := (RX7, il_X7_tellGap, 4, none, xRoom 2, [])
def w_X7_tellGap_30 (n : Nat) (u0 : Mm) (Q : Mm → Prop) : Prop :=
  Q u0
def w_X7_tellGap (n : Nat) (a0 : Int32) (a1 : Int32) (a2 : Int32) (u0 : Mm) (Q : Mm → Prop) : Prop :=
  (a0 < 0 → w_X7_tellGap_30 n u0 Q) ∧
  (¬ a0 < 0 → ((301 : Int32) ≤ a0 → w_X7_tellGap_30 n u0 Q) ∧
  (¬ (301 : Int32) ≤ a0 → vp_in a0 301 ∧ (w_X3_withBar n (u0.1 62 (ix a0)) a1 a2 u0 (fun r1 u1 =>
  vp_in a0 301 ∧ (mlet (setI u1 62 (ix a0) r1) fun u2 =>
  w_X7_tellGap_30 n u2 Q)))))
set_option maxRecDepth 20000 in
theorem s_X7_tellGap_30 {g : Gb} (hg : xInj g) {n : Nat} {Q : Mm → Prop} {u0 : Mm} (h : w_X7_tellGap_30 n  u0 Q) : xE g me_X7_tellGap (pV g Q noT) 30 [] [] u0 := by
  unfold w_X7_tellGap_30 at h
  exact e_vret (k := 18) rfl rfl (Or.inl ⟨rfl, h⟩)
set_option maxRecDepth 20000 in
theorem c_X7_tellGap {g : Gb} (hg : xInj g) {n : Nat} {a0 : Int32} {a1 : Int32} {a2 : Int32} {u0 : Mm} {Q : Mm → Prop} (h : w_X7_tellGap n a0 a1 a2 u0 Q) : xMet (gL g) yX7_tellGap (xws yX7_tellGap cX7_tellGap 4 none) (xRoom 2) (xPc g [.ref (gR g 35), .int a0, .int a1, .int a2] u0) (xQ g (pV g Q noT)) (xA g) := by
  refine xbody (il := il_X7_tellGap) hg il_X7_tellGap_ok m_X7_tellGap (Nat.le_of_ble_eq_true rfl) ?_
  show xE g me_X7_tellGap (pV g Q noT) 0 [(0, .ref (gR g 35)), (1, .int a0), (2, .int a1), (3, .int a2)] [] u0
  unfold w_X7_tellGap at h
  refine e_iload_n (k := 0) (i := 1) rfl rfl 1 rfl ?_
  refine e_if_lt (k := 1) (tgt := 30) rfl (by decide) (fun z => ?_) (fun z => ?_)
  · have h := h.1 z
    refine e_sub (lv' := []) [] rfl ?_
    exact s_X7_tellGap_30 hg h
  · have h := h.2 z
    refine e_iload_n (k := 2) (i := 1) rfl rfl 1 rfl ?_
    refine e_aload_n (k := 3) (i := 0) rfl rfl 0 rfl ?_
    refine e_getC (k := 4) rfl f_X7_39 rfl rfl ?_
    refine e_alen (k := 5) (v := (301 : Int32)) rfl rfl (by decide) (by decide) ?_
    refine e_icmp_ge (k := 6) (tgt := 30) rfl (by decide) (fun z => ?_) (fun z => ?_)
    · have h := h.1 z
      refine e_sub (lv' := []) [] rfl ?_
      exact s_X7_tellGap_30 hg h
    · have h := h.2 z
      refine e_aload_n (k := 7) (i := 0) rfl rfl 0 rfl ?_
      refine e_getC (k := 8) rfl f_X7_39 rfl rfl ?_
      refine e_iload_n (k := 9) (i := 1) rfl rfl 1 rfl ?_
      refine e_aload_n (k := 10) (i := 0) rfl rfl 0 rfl ?_
      refine e_getC (k := 11) rfl f_X7_39 rfl rfl ?_
      refine e_iload_n (k := 12) (i := 1) rfl rfl 1 rfl ?_
      refine e_iald (k := 13) rfl rfl h.1 ?_
      have h := h.2
      refine e_iload_n (k := 14) (i := 2) rfl rfl 2 rfl ?_
      refine e_iload_n (k := 15) (i := 3) rfl rfl 3 rfl ?_
      refine e_callSi (k := 16) (As := [.int (u0.1 62 (ix a0)), .int a1, .int a2]) (rest := [.int a0, .ref (gR g 62)]) rfl (c_X3_withBar (g := g) hg (n := n) h) m_X3_withBar st_X3_withBar l_X7_54 rfl rfl (Nat.le_of_ble_eq_true rfl) ⟨by decide, by decide, rfl, rfl⟩ (fun _ h => h.elim) (fun r1 u1 h => ?_)
      refine e_iast (k := 17) rfl rfl h.1 ?_
      have h := h.2
      refine e_mlet h (fun u2 h => ?_)
      refine e_sub (lv' := []) [] rfl ?_
      exact s_X7_tellGap_30 hg h
def il_X8_addMeasure : List (Nat × Instr × Nat) := [(0, .aload_n 0, 1), (1, .getfield 22, 3), (4, .ifCond .lt 13, 3), (7, .aload_n 0, 1), (8, .getfield 22, 3), (11, .sipush 300, 3), (14, .if_icmp .lt 5, 3), (17, .iconst 0, 1), (18, .ireturn, 1), (19, .aload_n 0, 1), (20, .getfield 9, 3), (23, .aload_n 0, 1), (24, .getfield 22, 3), (27, .lconst 0, 1), (28, .lastore, 1), (29, .aload_n 0, 1), (30, .getfield 15, 3), (33, .aload_n 0, 1), (34, .getfield 22, 3), (37, .aload_n 0, 1), (38, .invokevirtual 70, 3), (41, .lastore, 1), (42, .aload_n 0, 1), (43, .dup, 1), (44, .getfield 22, 3), (47, .iconst 1, 1), (48, .iadd, 1), (49, .putfield 22, 3), (52, .aload_n 0, 1), (53, .iconst 1, 1), (54, .putfield 26, 3), (57, .iconst 1, 1), (58, .ireturn, 1)]
set_option maxRecDepth 20000 in
theorem il_X8_addMeasure_ok : ∀ x ∈ il_X8_addMeasure, decode cX8_addMeasure x.1 = .ok x.2 := by decide +kernel
abbrev me_X8_addMeasure : Me := (RX8, il_X8_addMeasure, 1, (some .boolean), xRoom 2, [])
def w_X8_addMeasure_17 (n : Nat) (q : Nat) (u0 : Mm) (Q : Int32 → Mm → Prop) : Prop :=
  Q (0 : Int32) u0
def w_X8_addMeasure (n : Nat) (q : Nat) (u0 : Mm) (Q : Int32 → Mm → Prop) : Prop :=
  ((u0.1 q 4) < 0 → w_X8_addMeasure_17 n q u0 Q) ∧
  (¬ (u0.1 q 4) < 0 → ((u0.1 q 4) < (300 : Int32) → vp_in (u0.1 q 4) 300 ∧ (mlet (setJ u0 (q + 3) (ix (u0.1 q 4)) (0 : Int64)) fun u1 =>
  w_X8_meterTicks n q u1 (fun r1 u2 =>
  vp_in (u1.1 q 4) 300 ∧ (mlet (setJ u2 (q + 6) (ix (u1.1 q 4)) r1) fun u3 =>
  mlet (setI u3 q 4 ((u3.1 q 4) + (1 : Int32))) fun u4 =>
  mlet (setI u4 q 5 (1 : Int32)) fun u5 =>
  Q (1 : Int32) u5)))) ∧
  (¬ (u0.1 q 4) < (300 : Int32) → w_X8_addMeasure_17 n q u0 Q))
set_option maxRecDepth 20000 in
theorem s_X8_addMeasure_17 {g : Gb} (hg : xInj g) {n : Nat} {q : Nat} (hq : xlay q = (0, 7, 0)) {Q : Int32 → Mm → Prop} {u0 : Mm} (h : w_X8_addMeasure_17 n q  u0 Q) : xE g me_X8_addMeasure (pI g Q noT) 17 [] [] u0 := by
  unfold w_X8_addMeasure_17 at h
  refine e_iconst (k := 7) (v := (0 : Int32)) rfl (by decide) ?_
  exact e_zret (k := 8) rfl rfl (by decide) (Or.inl ⟨_, rfl, h⟩)
set_option maxRecDepth 20000 in
theorem c_X8_addMeasure {g : Gb} (hg : xInj g) {n : Nat} {q : Nat} (hq : xlay q = (0, 7, 0)) {u0 : Mm} {Q : Int32 → Mm → Prop} (h : w_X8_addMeasure n q u0 Q) : xMet (gL g) yX8_addMeasure (xws yX8_addMeasure cX8_addMeasure 1 (some .boolean)) (xRoom 2) (xPc g [.ref (gR g q)] u0) (xQ g (pI g Q noT)) (xA g) := by
  refine xbody (il := il_X8_addMeasure) hg il_X8_addMeasure_ok m_X8_addMeasure (Nat.le_of_ble_eq_true rfl) ?_
  show xE g me_X8_addMeasure (pI g Q noT) 0 [(0, .ref (gR g q))] [] u0
  unfold w_X8_addMeasure at h
  refine e_aload_n (k := 0) (i := 0) rfl rfl 0 rfl ?_
  refine e_getI (k := 1) rfl f_X8_22 hq rfl ?_
  refine e_if_lt (k := 2) (tgt := 17) rfl (by decide) (fun z => ?_) (fun z => ?_)
  · have h := h.1 z
    refine e_sub (lv' := []) [] rfl ?_
    exact s_X8_addMeasure_17 hg hq h
  · have h := h.2 z
    refine e_aload_n (k := 3) (i := 0) rfl rfl 0 rfl ?_
    refine e_getI (k := 4) rfl f_X8_22 hq rfl ?_
    refine e_sipush (k := 5) (v := (300 : Int32)) rfl (by decide) ?_
    refine e_icmp_lt (k := 6) (tgt := 19) rfl (by decide) (fun z => ?_) (fun z => ?_)
    · have h := h.1 z
      refine e_aload_n (k := 9) (i := 0) rfl rfl 0 rfl ?_
      refine e_getR (k := 10) rfl f_X8_9 hq rfl ?_
      refine e_aload_n (k := 11) (i := 0) rfl rfl 0 rfl ?_
      refine e_getI (k := 12) rfl f_X8_22 hq rfl ?_
      refine e_lconst (k := 13) (v := (0 : Int64)) rfl (by decide) ?_
      refine e_last (k := 14) rfl (xlayV hq).1 h.1 ?_
      have h := h.2
      refine e_mlet h (fun u1 h => ?_)
      refine e_aload_n (k := 15) (i := 0) rfl rfl 0 rfl ?_
      refine e_getR (k := 16) rfl f_X8_15 hq rfl ?_
      refine e_aload_n (k := 17) (i := 0) rfl rfl 0 rfl ?_
      refine e_getI (k := 18) rfl f_X8_22 hq rfl ?_
      refine e_aload_n (k := 19) (i := 0) rfl rfl 0 rfl ?_
      refine e_callVl (k := 20) (q := q) (As := []) (rest := [.int (u1.1 q 4), .ref (gR g (q + 6))]) rfl (c_X8_meterTicks (g := g) hg (n := n) hq h) m_X8_meterTicks i_X8_meterTicks l_X8_70 hq ⟨_, rfl, rfl⟩ rfl rfl (Nat.le_of_ble_eq_true rfl) ⟨by decide, by decide, rfl, rfl⟩ (fun _ h => h.elim) (fun r1 u2 h => ?_)
      refine e_last (k := 21) rfl (xlayV hq).2.1 h.1 ?_
      have h := h.2
      refine e_mlet h (fun u3 h => ?_)
      refine e_aload_n (k := 22) (i := 0) rfl rfl 0 rfl ?_
      refine e_dup (k := 23) rfl rfl ?_
      refine e_getI (k := 24) rfl f_X8_22 hq rfl ?_
      refine e_iconst (k := 25) (v := (1 : Int32)) rfl (by decide) ?_
      refine e_iadd (k := 26) rfl ?_
      refine e_putI (k := 27) rfl fg_X8_22 hq rfl ?_
      refine e_mlet h (fun u4 h => ?_)
      refine e_aload_n (k := 28) (i := 0) rfl rfl 0 rfl ?_
      refine e_iconst (k := 29) (v := (1 : Int32)) rfl (by decide) ?_
      refine e_putZ (k := 30) rfl fg_X8_26 hq rfl (Or.inr rfl) ?_
      refine e_mlet h (fun u5 h => ?_)
      refine e_iconst (k := 31) (v := (1 : Int32)) rfl (by decide) ?_
      exact e_zret (k := 32) rfl rfl (by decide) (Or.inl ⟨_, rfl, h⟩)
    · have h := h.2 z
      refine e_sub (lv' := []) [] rfl ?_
      exact s_X8_addMeasure_17 hg hq h
def il_X8_begin : List (Nat × Instr × Nat) := [(0, .aload_n 0, 1), (1, .iconst 0, 1), (2, .putfield 22, 3), (5, .aload_n 0, 1), (6, .iconst 0, 1), (7, .putfield 26, 3), (10, .aload_n 0, 1), (11, .lconst 0, 1), (12, .putfield 30, 3), (15, .aload_n 0, 1), (16, .aload_n 1, 1), (17, .arraylength, 1), (18, .bipush 6, 2), (20, .if_icmp .le 10, 3), (23, .aload_n 1, 1), (24, .bipush 6, 2), (26, .iaload, 1), (27, .goto 4, 3), (30, .iconst 0, 1), (31, .putfield 34, 3), (34, .aload_n 0, 1), (35, .aload_n 1, 1), (36, .arraylength, 1), (37, .iconst 2, 1), (38, .if_icmp .le 9, 3), (41, .aload_n 1, 1), (42, .iconst 2, 1), (43, .iaload, 1), (44, .goto 4, 3), (47, .iconst 0, 1), (48, .putfield 37, 3), (51, .aload_n 0, 1), (52, .aload_n 1, 1), (53, .arraylength, 1), (54, .iconst 3, 1), (55, .if_icmp .le 9, 3), (58, .aload_n 1, 1), (59, .iconst 3, 1), (60, .iaload, 1), (61, .goto 4, 3), (64, .iconst 0, 1), (65, .putfield 40, 3), (68, .aload_n 0, 1), (69, .aload_n 1, 1), (70, .arraylength, 1), (71, .iconst 4, 1), (72, .if_icmp .le 9, 3), (75, .aload_n 1, 1), (76, .iconst 4, 1), (77, .iaload, 1), (78, .goto 4, 3), (81, .iconst 0, 1), (82, .putfield 43, 3), (85, .aload_n 0, 1), (86, .iconst 1, 1), (87, .putfield 46, 3), (90, .aload_n 0, 1), (91, .invokevirtual 49, 3), (94, .aload_n 0, 1), (95, .invokevirtual 52, 3), (98, .return_, 1)]
set_option maxRecDepth 20000 in
theorem il_X8_begin_ok : ∀ x ∈ il_X8_begin, decode cX8_begin x.1 = .ok x.2 := by decide +kernel
abbrev me_X8_begin : Me := (RX8, il_X8_begin, 2, none, xRoom 2, [])
def w_X8_begin_82 (n : Nat) (q : Nat) (t0 : Int32) (u0 : Mm) (Q : Mm → Prop) : Prop :=
  mlet (setI u0 q 10 t0) fun u1 =>
  mlet (setI u1 q 3 (1 : Int32)) fun u2 =>
  w_X8_clearMarks n q u2 (fun u3 =>
  w_X8_forgetLast n q u3 (fun u4 =>
  Q u4))
def w_X8_begin_65 (n : Nat) (q : Nat) (t0 : Int32) (u0 : Mm) (Q : Mm → Prop) : Prop :=
  mlet (setI u0 q 9 t0) fun u1 =>
  ((10 : Int32) ≤ (4 : Int32) → w_X8_begin_82 n q (0 : Int32) u1 Q) ∧
  (¬ (10 : Int32) ≤ (4 : Int32) → w_X8_begin_82 n q (u1.1 43 (ix (4 : Int32))) u1 Q)
def w_X8_begin_48 (n : Nat) (q : Nat) (t0 : Int32) (u0 : Mm) (Q : Mm → Prop) : Prop :=
  mlet (setI u0 q 8 t0) fun u1 =>
  ((10 : Int32) ≤ (3 : Int32) → w_X8_begin_65 n q (0 : Int32) u1 Q) ∧
  (¬ (10 : Int32) ≤ (3 : Int32) → w_X8_begin_65 n q (u1.1 43 (ix (3 : Int32))) u1 Q)
def w_X8_begin_31 (n : Nat) (q : Nat) (t0 : Int32) (u0 : Mm) (Q : Mm → Prop) : Prop :=
  mlet (setI u0 q 7 t0) fun u1 =>
  ((10 : Int32) ≤ (2 : Int32) → w_X8_begin_48 n q (0 : Int32) u1 Q) ∧
  (¬ (10 : Int32) ≤ (2 : Int32) → w_X8_begin_48 n q (u1.1 43 (ix (2 : Int32))) u1 Q)
def w_X8_begin (n : Nat) (q : Nat) (u0 : Mm) (Q : Mm → Prop) : Prop :=
  mlet (setI u0 q 4 (0 : Int32)) fun u1 =>
  mlet (setI u1 q 5 (0 : Int32)) fun u2 =>
  mlet (setJ u2 q 6 (0 : Int64)) fun u3 =>
  ((10 : Int32) ≤ (6 : Int32) → w_X8_begin_31 n q (0 : Int32) u3 Q) ∧
  (¬ (10 : Int32) ≤ (6 : Int32) → w_X8_begin_31 n q (u3.1 43 (ix (6 : Int32))) u3 Q)
set_option maxRecDepth 20000 in
theorem s_X8_begin_82 {g : Gb} (hg : xInj g) {n : Nat} {q : Nat} (hq : xlay q = (0, 7, 0)) {Q : Mm → Prop} {t0 : Int32} {u0 : Mm} (h : w_X8_begin_82 n q t0 u0 Q) : xE g me_X8_begin (pV g Q noT) 82 [(0, .ref (gR g q))] [.int t0, .ref (gR g q)] u0 := by
  unfold w_X8_begin_82 at h
  refine e_putI (k := 52) rfl fg_X8_43 hq rfl ?_
  refine e_mlet h (fun u1 h => ?_)
  refine e_aload_n (k := 53) (i := 0) rfl rfl 0 rfl ?_
  refine e_iconst (k := 54) (v := (1 : Int32)) rfl (by decide) ?_
  refine e_putZ (k := 55) rfl fg_X8_46 hq rfl (Or.inr rfl) ?_
  refine e_mlet h (fun u2 h => ?_)
  refine e_aload_n (k := 56) (i := 0) rfl rfl 0 rfl ?_
  refine e_callVv (k := 57) (q := q) (As := []) (rest := []) rfl (c_X8_clearMarks (g := g) hg (n := n) hq h) m_X8_clearMarks i_X8_clearMarks l_X8_49 hq ⟨_, rfl, rfl⟩ rfl rfl (Nat.le_of_ble_eq_true rfl) ⟨by decide, by decide, rfl, rfl⟩ (fun _ h => h.elim) (fun u3 h => ?_)
  refine e_aload_n (k := 58) (i := 0) rfl rfl 0 rfl ?_
  refine e_callVv (k := 59) (q := q) (As := []) (rest := []) rfl (c_X8_forgetLast (g := g) hg (n := n) hq h) m_X8_forgetLast i_X8_forgetLast l_X8_52 hq ⟨_, rfl, rfl⟩ rfl rfl (Nat.le_of_ble_eq_true rfl) ⟨by decide, by decide, rfl, rfl⟩ (fun _ h => h.elim) (fun u4 h => ?_)
  exact e_vret (k := 60) rfl rfl (Or.inl ⟨rfl, h⟩)
set_option maxRecDepth 20000 in
theorem s_X8_begin_65 {g : Gb} (hg : xInj g) {n : Nat} {q : Nat} (hq : xlay q = (0, 7, 0)) {Q : Mm → Prop} {t0 : Int32} {u0 : Mm} (h : w_X8_begin_65 n q t0 u0 Q) : xE g me_X8_begin (pV g Q noT) 65 [(0, .ref (gR g q)), (1, .ref (gR g 43))] [.int t0, .ref (gR g q)] u0 := by
  unfold w_X8_begin_65 at h
  refine e_putI (k := 41) rfl fg_X8_40 hq rfl ?_
  refine e_mlet h (fun u1 h => ?_)
  refine e_aload_n (k := 42) (i := 0) rfl rfl 0 rfl ?_
  refine e_aload_n (k := 43) (i := 1) rfl rfl 1 rfl ?_
  refine e_alen (k := 44) (v := (10 : Int32)) rfl rfl (by decide) (by decide) ?_
  refine e_iconst (k := 45) (v := (4 : Int32)) rfl (by decide) ?_
  refine e_icmp_le (k := 46) (tgt := 81) rfl (by decide) (fun z => ?_) (fun z => ?_)
  · have h := h.1 z
    refine e_iconst (k := 51) (v := (0 : Int32)) rfl (by decide) ?_
    refine e_sub (lv' := [(0, .ref (gR g q))]) [0] rfl ?_
    exact s_X8_begin_82 hg hq h
  · have h := h.2 z
    refine e_aload_n (k := 47) (i := 1) rfl rfl 1 rfl ?_
    refine e_iconst (k := 48) (v := (4 : Int32)) rfl (by decide) ?_
    refine e_iald (k := 49) rfl rfl (by unfold vp_in; decide) ?_
    refine e_goto (k := 50) (tgt := 82) rfl (by decide) ?_
    refine e_sub (lv' := [(0, .ref (gR g q))]) [0] rfl ?_
    exact s_X8_begin_82 hg hq h
set_option maxRecDepth 20000 in
theorem s_X8_begin_48 {g : Gb} (hg : xInj g) {n : Nat} {q : Nat} (hq : xlay q = (0, 7, 0)) {Q : Mm → Prop} {t0 : Int32} {u0 : Mm} (h : w_X8_begin_48 n q t0 u0 Q) : xE g me_X8_begin (pV g Q noT) 48 [(0, .ref (gR g q)), (1, .ref (gR g 43))] [.int t0, .ref (gR g q)] u0 := by
  unfold w_X8_begin_48 at h
  refine e_putI (k := 30) rfl fg_X8_37 hq rfl ?_
  refine e_mlet h (fun u1 h => ?_)
  refine e_aload_n (k := 31) (i := 0) rfl rfl 0 rfl ?_
  refine e_aload_n (k := 32) (i := 1) rfl rfl 1 rfl ?_
  refine e_alen (k := 33) (v := (10 : Int32)) rfl rfl (by decide) (by decide) ?_
  refine e_iconst (k := 34) (v := (3 : Int32)) rfl (by decide) ?_
  refine e_icmp_le (k := 35) (tgt := 64) rfl (by decide) (fun z => ?_) (fun z => ?_)
  · have h := h.1 z
    refine e_iconst (k := 40) (v := (0 : Int32)) rfl (by decide) ?_
    exact s_X8_begin_65 hg hq h
  · have h := h.2 z
    refine e_aload_n (k := 36) (i := 1) rfl rfl 1 rfl ?_
    refine e_iconst (k := 37) (v := (3 : Int32)) rfl (by decide) ?_
    refine e_iald (k := 38) rfl rfl (by unfold vp_in; decide) ?_
    refine e_goto (k := 39) (tgt := 65) rfl (by decide) ?_
    exact s_X8_begin_65 hg hq h
set_option maxRecDepth 20000 in
theorem s_X8_begin_31 {g : Gb} (hg : xInj g) {n : Nat} {q : Nat} (hq : xlay q = (0, 7, 0)) {Q : Mm → Prop} {t0 : Int32} {u0 : Mm} (h : w_X8_begin_31 n q t0 u0 Q) : xE g me_X8_begin (pV g Q noT) 31 [(0, .ref (gR g q)), (1, .ref (gR g 43))] [.int t0, .ref (gR g q)] u0 := by
  unfold w_X8_begin_31 at h
  refine e_putI (k := 19) rfl fg_X8_34 hq rfl ?_
  refine e_mlet h (fun u1 h => ?_)
  refine e_aload_n (k := 20) (i := 0) rfl rfl 0 rfl ?_
  refine e_aload_n (k := 21) (i := 1) rfl rfl 1 rfl ?_
  refine e_alen (k := 22) (v := (10 : Int32)) rfl rfl (by decide) (by decide) ?_
  refine e_iconst (k := 23) (v := (2 : Int32)) rfl (by decide) ?_
  refine e_icmp_le (k := 24) (tgt := 47) rfl (by decide) (fun z => ?_) (fun z => ?_)
  · have h := h.1 z
    refine e_iconst (k := 29) (v := (0 : Int32)) rfl (by decide) ?_
    exact s_X8_begin_48 hg hq h
  · have h := h.2 z
    refine e_aload_n (k := 25) (i := 1) rfl rfl 1 rfl ?_
    refine e_iconst (k := 26) (v := (2 : Int32)) rfl (by decide) ?_
    refine e_iald (k := 27) rfl rfl (by unfold vp_in; decide) ?_
    refine e_goto (k := 28) (tgt := 48) rfl (by decide) ?_
    exact s_X8_begin_48 hg hq h
set_option maxRecDepth 20000 in
theorem c_X8_begin {g : Gb} (hg : xInj g) {n : Nat} {q : Nat} (hq : xlay q = (0, 7, 0)) {u0 : Mm} {Q : Mm → Prop} (h : w_X8_begin n q u0 Q) : xMet (gL g) yX8_begin (xws yX8_begin cX8_begin 2 none) (xRoom 2) (xPc g [.ref (gR g q), .ref (gR g 43)] u0) (xQ g (pV g Q noT)) (xA g) := by
  refine xbody (il := il_X8_begin) hg il_X8_begin_ok m_X8_begin (Nat.le_of_ble_eq_true rfl) ?_
  show xE g me_X8_begin (pV g Q noT) 0 [(0, .ref (gR g q)), (1, .ref (gR g 43))] [] u0
  unfold w_X8_begin at h
  refine e_aload_n (k := 0) (i := 0) rfl rfl 0 rfl ?_
  refine e_iconst (k := 1) (v := (0 : Int32)) rfl (by decide) ?_
  refine e_putI (k := 2) rfl fg_X8_22 hq rfl ?_
  refine e_mlet h (fun u1 h => ?_)
  refine e_aload_n (k := 3) (i := 0) rfl rfl 0 rfl ?_
  refine e_iconst (k := 4) (v := (0 : Int32)) rfl (by decide) ?_
  refine e_putZ (k := 5) rfl fg_X8_26 hq rfl (Or.inl rfl) ?_
  refine e_mlet h (fun u2 h => ?_)
  refine e_aload_n (k := 6) (i := 0) rfl rfl 0 rfl ?_
  refine e_lconst (k := 7) (v := (0 : Int64)) rfl (by decide) ?_
  refine e_putJ (k := 8) rfl fg_X8_30 hq rfl ?_
  refine e_mlet h (fun u3 h => ?_)
  refine e_aload_n (k := 9) (i := 0) rfl rfl 0 rfl ?_
  refine e_aload_n (k := 10) (i := 1) rfl rfl 1 rfl ?_
  refine e_alen (k := 11) (v := (10 : Int32)) rfl rfl (by decide) (by decide) ?_
  refine e_bipush (k := 12) (v := (6 : Int32)) rfl (by decide) ?_
  refine e_icmp_le (k := 13) (tgt := 30) rfl (by decide) (fun z => ?_) (fun z => ?_)
  · have h := h.1 z
    refine e_iconst (k := 18) (v := (0 : Int32)) rfl (by decide) ?_
    exact s_X8_begin_31 hg hq h
  · have h := h.2 z
    refine e_aload_n (k := 14) (i := 1) rfl rfl 1 rfl ?_
    refine e_bipush (k := 15) (v := (6 : Int32)) rfl (by decide) ?_
    refine e_iald (k := 16) rfl rfl (by unfold vp_in; decide) ?_
    refine e_goto (k := 17) (tgt := 31) rfl (by decide) ?_
    exact s_X8_begin_31 hg hq h
