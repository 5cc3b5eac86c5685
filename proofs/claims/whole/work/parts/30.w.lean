/-! methods (by program) -/
def il_X12_blanks : List (Nat × Instr × Nat) := [(0, .aload_n 0, 1), (1, .bipush 32, 2), (3, .invokevirtual 166, 3), (6, .ifCond .eq 16, 3), (9, .aload_n 0, 1), (10, .dup, 1), (11, .getfield 138, 3), (14, .iconst 1, 1), (15, .iadd, 1), (16, .putfield 138, 3), (19, .goto (-19), 3), (22, .return_, 1)]
set_option maxRecDepth 20000 in
theorem il_X12_blanks_ok : ∀ x ∈ il_X12_blanks, decode cX12_blanks x.1 = .ok x.2 := by decide +kernel
abbrev me_X12_blanks : Me := (RX12, il_X12_blanks, 1, none, xRoom 4, [])
def w_X12_blanks_0 (n : Nat) (Q : Mm → Prop) (T : Mm → Prop) : Nat → Mm → Prop
  | 0, _ => False
  | k + 1, u0 =>
  w_X12_is n (32 : Int32) u0 (fun r1 u1 =>
  (r1 = 0 → Q u1) ∧
  (¬ r1 = 0 → mlet (setI u1 0 7 ((u1.1 0 7) + (1 : Int32))) fun u2 =>
  (w_X12_blanks_0 n Q T k) u2)) T
def w_X12_blanks (n : Nat) (u0 : Mm) (Q : Mm → Prop) (T : Mm → Prop) : Prop :=
  (w_X12_blanks_0 n Q T n) u0
set_option maxRecDepth 20000 in
theorem s_X12_blanks_0 {g : Gb} (hg : xInj g) {n : Nat} {Q : Mm → Prop} {T : Mm → Prop} : ∀ (k : Nat) (u0 : Mm), w_X12_blanks_0 n Q T k  u0 → xE g me_X12_blanks (pV g Q T) 0 [(0, .ref (gR g 0))] [] u0 := by
  intro k
  induction k with
  | zero => intro  u0 h; exact h.elim
  | succ k ih =>
    intro  u0 h
    unfold w_X12_blanks_0 at h
    refine e_aload_n (k := 0) (i := 0) rfl rfl 0 rfl ?_
    refine e_bipush (k := 1) (v := (32 : Int32)) rfl (by decide) ?_
    refine e_callVi (k := 2) (q := 0) (As := [.int (32 : Int32)]) (rest := []) rfl (c_X12_is (g := g) hg (n := n) h) m_X12_is i_X12_is l_X12_166 rfl ⟨_, rfl, rfl⟩ rfl rfl (Nat.le_of_ble_eq_true rfl) ⟨by decide, by decide, rfl, rfl⟩ (fun _ h => ⟨fun _ z => (by cases z), Or.inr ⟨rfl, h⟩⟩) (fun r1 u1 h => ?_)
    refine e_if_eq (k := 3) (tgt := 22) rfl (by decide) (fun z => ?_) (fun z => ?_)
    · have h := h.1 z
      exact e_vret (k := 11) rfl rfl (Or.inl ⟨rfl, h⟩)
    · have h := h.2 z
      refine e_aload_n (k := 4) (i := 0) rfl rfl 0 rfl ?_
      refine e_dup (k := 5) rfl rfl ?_
      refine e_getI (k := 6) rfl f_X12_138 rfl rfl ?_
      refine e_iconst (k := 7) (v := (1 : Int32)) rfl (by decide) ?_
      refine e_iadd (k := 8) rfl ?_
      refine e_putI (k := 9) rfl fg_X12_138 rfl rfl ?_
      refine e_mlet h (fun u2 h => ?_)
      refine e_goto (k := 10) (tgt := 0) rfl (by decide) ?_
      exact ih u2 h
set_option maxRecDepth 20000 in
theorem c_X12_blanks {g : Gb} (hg : xInj g) {n : Nat} {u0 : Mm} {Q : Mm → Prop} {T : Mm → Prop} (h : w_X12_blanks n u0 Q T) : xMet (gL g) yX12_blanks (xws yX12_blanks cX12_blanks 1 none) (xRoom 4) (xPc g [.ref (gR g 0)] u0) (xQ g (pV g Q T)) (xA g) := by
  refine xbody (il := il_X12_blanks) hg il_X12_blanks_ok m_X12_blanks (Nat.le_of_ble_eq_true rfl) ?_
  show xE g me_X12_blanks (pV g Q T) 0 [(0, .ref (gR g 0))] [] u0
  unfold w_X12_blanks at h
  exact s_X12_blanks_0 hg n u0 h
def il_X12_isHead : List (Nat × Instr × Nat) := [(0, .aload_n 0, 1), (1, .iload_n 1, 1), (2, .invokevirtual 166, 3), (5, .ifCond .eq 22, 3), (8, .aload_n 0, 1), (9, .aload_n 0, 1), (10, .getfield 138, 3), (13, .iconst 1, 1), (14, .iadd, 1), (15, .invokevirtual 141, 3), (18, .bipush 58, 2), (20, .if_icmp .ne 7, 3), (23, .iconst 1, 1), (24, .goto 4, 3), (27, .iconst 0, 1), (28, .ireturn, 1)]
set_option maxRecDepth 20000 in
theorem il_X12_isHead_ok : ∀ x ∈ il_X12_isHead, decode cX12_isHead x.1 = .ok x.2 := by decide +kernel
abbrev me_X12_isHead : Me := (RX12, il_X12_isHead, 2, (some .boolean), xRoom 4, [])
def w_X12_isHead_28 (n : Nat) (t0 : Int32) (u0 : Mm) (Q : Int32 → Mm → Prop) (T : Mm → Prop) : Prop :=
  narrow .boolean (.int t0) = .int t0 ∧ Q t0 u0
def w_X12_isHead_27 (n : Nat) (u0 : Mm) (Q : Int32 → Mm → Prop) (T : Mm → Prop) : Prop :=
  w_X12_isHead_28 n (0 : Int32) u0 Q T
def w_X12_isHead (n : Nat) (a0 : Int32) (u0 : Mm) (Q : Int32 → Mm → Prop) (T : Mm → Prop) : Prop :=
  w_X12_is n a0 u0 (fun r1 u1 =>
  (r1 = 0 → w_X12_isHead_27 n u1 Q T) ∧
  (¬ r1 = 0 → w_X12_peek n ((u1.1 0 7) + (1 : Int32)) u1 (fun r2 u2 =>
  (¬ r2 = (58 : Int32) → w_X12_isHead_27 n u2 Q T) ∧
  (r2 = (58 : Int32) → w_X12_isHead_28 n (1 : Int32) u2 Q T)) T)) T
set_option maxRecDepth 20000 in
theorem s_X12_isHead_28 {g : Gb} (hg : xInj g) {n : Nat} {Q : Int32 → Mm → Prop} {T : Mm → Prop} {t0 : Int32} {u0 : Mm} (h : w_X12_isHead_28 n t0 u0 Q T) : xE g me_X12_isHead (pI g Q T) 28 [] [.int t0] u0 := by
  unfold w_X12_isHead_28 at h
  exact e_zret (k := 15) rfl rfl h.1 (Or.inl ⟨_, rfl, h.2⟩)
set_option maxRecDepth 20000 in
theorem s_X12_isHead_27 {g : Gb} (hg : xInj g) {n : Nat} {Q : Int32 → Mm → Prop} {T : Mm → Prop} {u0 : Mm} (h : w_X12_isHead_27 n  u0 Q T) : xE g me_X12_isHead (pI g Q T) 27 [] [] u0 := by
  unfold w_X12_isHead_27 at h
  refine e_iconst (k := 14) (v := (0 : Int32)) rfl (by decide) ?_
  exact s_X12_isHead_28 hg h
set_option maxRecDepth 20000 in
theorem c_X12_isHead {g : Gb} (hg : xInj g) {n : Nat} {a0 : Int32} {u0 : Mm} {Q : Int32 → Mm → Prop} {T : Mm → Prop} (h : w_X12_isHead n a0 u0 Q T) : xMet (gL g) yX12_isHead (xws yX12_isHead cX12_isHead 2 (some .boolean)) (xRoom 4) (xPc g [.ref (gR g 0), .int a0] u0) (xQ g (pI g Q T)) (xA g) := by
  refine xbody (il := il_X12_isHead) hg il_X12_isHead_ok m_X12_isHead (Nat.le_of_ble_eq_true rfl) ?_
  show xE g me_X12_isHead (pI g Q T) 0 [(0, .ref (gR g 0)), (1, .int a0)] [] u0
  unfold w_X12_isHead at h
  refine e_aload_n (k := 0) (i := 0) rfl rfl 0 rfl ?_
  refine e_iload_n (k := 1) (i := 1) rfl rfl 1 rfl ?_
  refine e_callVi (k := 2) (q := 0) (As := [.int a0]) (rest := []) rfl (c_X12_is (g := g) hg (n := n) h) m_X12_is i_X12_is l_X12_166 rfl ⟨_, rfl, rfl⟩ rfl rfl (Nat.le_of_ble_eq_true rfl) ⟨by decide, by decide, rfl, rfl⟩ (fun _ h => ⟨fun _ z => (by cases z), Or.inr ⟨rfl, h⟩⟩) (fun r1 u1 h => ?_)
  refine e_if_eq (k := 3) (tgt := 27) rfl (by decide) (fun z => ?_) (fun z => ?_)
  · have h := h.1 z
    refine e_sub (lv' := []) [] rfl ?_
    exact s_X12_isHead_27 hg h
  · have h := h.2 z
    refine e_aload_n (k := 4) (i := 0) rfl rfl 0 rfl ?_
    refine e_aload_n (k := 5) (i := 0) rfl rfl 0 rfl ?_
    refine e_getI (k := 6) rfl f_X12_138 rfl rfl ?_
    refine e_iconst (k := 7) (v := (1 : Int32)) rfl (by decide) ?_
    refine e_iadd (k := 8) rfl ?_
    refine e_callVi (k := 9) (q := 0) (As := [.int ((u1.1 0 7) + (1 : Int32))]) (rest := []) rfl (c_X12_peek (g := g) hg (n := n) h) m_X12_peek i_X12_peek l_X12_141 rfl ⟨_, rfl, rfl⟩ rfl rfl (Nat.le_of_ble_eq_true rfl) ⟨by decide, by decide, rfl, rfl⟩ (fun _ h => ⟨fun _ z => (by cases z), Or.inr ⟨rfl, h⟩⟩) (fun r2 u2 h => ?_)
    refine e_bipush (k := 10) (v := (58 : Int32)) rfl (by decide) ?_
    refine e_icmp_ne (k := 11) (tgt := 27) rfl (by decide) (fun z => ?_) (fun z => ?_)
    · have h := h.1 z
      refine e_sub (lv' := []) [] rfl ?_
      exact s_X12_isHead_27 hg h
    · have h := h.2 z
      refine e_iconst (k := 12) (v := (1 : Int32)) rfl (by decide) ?_
      refine e_goto (k := 13) (tgt := 28) rfl (by decide) ?_
      refine e_sub (lv' := []) [] rfl ?_
      exact s_X12_isHead_28 hg h
def il_X12_lowerLength : List (Nat × Instr × Nat) := [(0, .aload_n 0, 1), (1, .getfield 138, 3), (4, .istore_n 1, 1), (5, .aload_n 0, 1), (6, .iconst 1, 1), (7, .bipush 64, 2), (9, .iload_n 1, 1), (10, .invokevirtual 207, 3), (13, .istore_n 2, 1), (14, .iload_n 2, 1), (15, .bipush 64, 2), (17, .invokestatic 215, 3), (20, .ifCond .ne 9, 3), (23, .aload_n 0, 1), (24, .iconst 1, 1), (25, .iload_n 1, 1), (26, .invokevirtual 148, 3), (29, .iload_n 2, 1), (30, .ireturn, 1)]
set_option maxRecDepth 20000 in
theorem il_X12_lowerLength_ok : ∀ x ∈ il_X12_lowerLength, decode cX12_lowerLength x.1 = .ok x.2 := by decide +kernel
abbrev me_X12_lowerLength : Me := (RX12, il_X12_lowerLength, 3, (some .int), xRoom 4, [])
def w_X12_lowerLength_29 (n : Nat) (x2 : Int32) (u0 : Mm) (Q : Int32 → Mm → Prop) (T : Mm → Prop) : Prop :=
  Q x2 u0
def w_X12_lowerLength (n : Nat) (u0 : Mm) (Q : Int32 → Mm → Prop) (T : Mm → Prop) : Prop :=
  ilet (u0.1 0 7) fun y1 =>
  w_X12_numberOf n (1 : Int32) (64 : Int32) y1 u0 (fun r1 u1 =>
  w_X12_isPower n r1 (64 : Int32) u1 (fun r2 u2 =>
  (¬ r2 = 0 → w_X12_lowerLength_29 n r1 u2 Q T) ∧
  (r2 = 0 → w_X12_fail n (1 : Int32) y1 u2 (fun u3 =>
  w_X12_lowerLength_29 n r1 u3 Q T) T)) T) T
set_option maxRecDepth 20000 in
theorem s_X12_lowerLength_29 {g : Gb} (hg : xInj g) {n : Nat} {Q : Int32 → Mm → Prop} {T : Mm → Prop} {x2 : Int32} {u0 : Mm} (h : w_X12_lowerLength_29 n x2 u0 Q T) : xE g me_X12_lowerLength (pI g Q T) 29 [(2, .int x2)] [] u0 := by
  unfold w_X12_lowerLength_29 at h
  refine e_iload_n (k := 17) (i := 2) rfl rfl 0 rfl ?_
  exact e_iret (k := 18) rfl rfl (Or.inl ⟨_, rfl, h⟩)
set_option maxRecDepth 20000 in
theorem c_X12_lowerLength {g : Gb} (hg : xInj g) {n : Nat} {u0 : Mm} {Q : Int32 → Mm → Prop} {T : Mm → Prop} (h : w_X12_lowerLength n u0 Q T) : xMet (gL g) yX12_lowerLength (xws yX12_lowerLength cX12_lowerLength 3 (some .int)) (xRoom 4) (xPc g [.ref (gR g 0)] u0) (xQ g (pI g Q T)) (xA g) := by
  refine xbody (il := il_X12_lowerLength) hg il_X12_lowerLength_ok m_X12_lowerLength (Nat.le_of_ble_eq_true rfl) ?_
  show xE g me_X12_lowerLength (pI g Q T) 0 [(0, .ref (gR g 0))] [] u0
  unfold w_X12_lowerLength at h
  refine e_aload_n (k := 0) (i := 0) rfl rfl 0 rfl ?_
  refine e_getI (k := 1) rfl f_X12_138 rfl rfl ?_
  refine e_ilet h (fun y1 h => ?_)
  refine e_istore_n (k := 2) (i := 1) (lv' := [(0, .ref (gR g 0)), (1, .int y1)]) rfl rfl (by decide) [1, 0] rfl ?_
  refine e_aload_n (k := 3) (i := 0) rfl rfl 0 rfl ?_
  refine e_iconst (k := 4) (v := (1 : Int32)) rfl (by decide) ?_
  refine e_bipush (k := 5) (v := (64 : Int32)) rfl (by decide) ?_
  refine e_iload_n (k := 6) (i := 1) rfl rfl 1 rfl ?_
  refine e_callVi (k := 7) (q := 0) (As := [.int (1 : Int32), .int (64 : Int32), .int y1]) (rest := []) rfl (c_X12_numberOf (g := g) hg (n := n) h) m_X12_numberOf i_X12_numberOf l_X12_207 rfl ⟨_, rfl, rfl⟩ rfl rfl (Nat.le_of_ble_eq_true rfl) ⟨by decide, by decide, rfl, rfl⟩ (fun _ h => ⟨fun _ z => (by cases z), Or.inr ⟨rfl, h⟩⟩) (fun r1 u1 h => ?_)
  refine e_istore_n (k := 8) (i := 2) (lv' := [(0, .ref (gR g 0)), (1, .int y1), (2, .int r1)]) rfl rfl (by decide) [1, 2, 0] rfl ?_
  refine e_iload_n (k := 9) (i := 2) rfl rfl 2 rfl ?_
  refine e_bipush (k := 10) (v := (64 : Int32)) rfl (by decide) ?_
  refine e_callSi (k := 11) (As := [.int r1, .int (64 : Int32)]) (rest := []) rfl (c_X12_isPower (g := g) hg (n := n) h) m_X12_isPower st_X12_isPower l_X12_215 rfl rfl (Nat.le_of_ble_eq_true rfl) ⟨by decide, by decide, rfl, rfl⟩ (fun _ h => ⟨fun _ z => (by cases z), Or.inr ⟨rfl, h⟩⟩) (fun r2 u2 h => ?_)
  refine e_if_ne (k := 12) (tgt := 29) rfl (by decide) (fun z => ?_) (fun z => ?_)
  · have h := h.1 z
    refine e_sub (lv' := [(2, .int r1)]) [2] rfl ?_
    exact s_X12_lowerLength_29 hg h
  · have h := h.2 z
    refine e_aload_n (k := 13) (i := 0) rfl rfl 0 rfl ?_
    refine e_iconst (k := 14) (v := (1 : Int32)) rfl (by decide) ?_
    refine e_iload_n (k := 15) (i := 1) rfl rfl 1 rfl ?_
    refine e_callVv (k := 16) (q := 0) (As := [.int (1 : Int32), .int y1]) (rest := []) rfl (c_X12_fail (g := g) hg (n := n) h) m_X12_fail i_X12_fail l_X12_148 rfl ⟨_, rfl, rfl⟩ rfl rfl (Nat.le_of_ble_eq_true rfl) ⟨by decide, by decide, rfl, rfl⟩ (fun _ h => ⟨fun _ z => (by cases z), Or.inr ⟨rfl, h⟩⟩) (fun u3 h => ?_)
    refine e_sub (lv' := [(2, .int r1)]) [2] rfl ?_
    exact s_X12_lowerLength_29 hg h
def il_X12_must : List (Nat × Instr × Nat) := [(0, .aload_n 0, 1), (1, .iload_n 1, 1), (2, .invokevirtual 166, 3), (5, .ifCond .ne 12, 3), (8, .aload_n 0, 1), (9, .iconst 1, 1), (10, .aload_n 0, 1), (11, .getfield 138, 3), (14, .invokevirtual 148, 3), (17, .aload_n 0, 1), (18, .dup, 1), (19, .getfield 138, 3), (22, .iconst 1, 1), (23, .iadd, 1), (24, .putfield 138, 3), (27, .return_, 1)]
set_option maxRecDepth 20000 in
theorem il_X12_must_ok : ∀ x ∈ il_X12_must, decode cX12_must x.1 = .ok x.2 := by decide +kernel
abbrev me_X12_must : Me := (RX12, il_X12_must, 2, none, xRoom 4, [])
def w_X12_must_17 (n : Nat) (u0 : Mm) (Q : Mm → Prop) (T : Mm → Prop) : Prop :=
  mlet (setI u0 0 7 ((u0.1 0 7) + (1 : Int32))) fun u1 =>
  Q u1
def w_X12_must (n : Nat) (a0 : Int32) (u0 : Mm) (Q : Mm → Prop) (T : Mm → Prop) : Prop :=
  w_X12_is n a0 u0 (fun r1 u1 =>
  (¬ r1 = 0 → w_X12_must_17 n u1 Q T) ∧
  (r1 = 0 → w_X12_fail n (1 : Int32) (u1.1 0 7) u1 (fun u2 =>
  w_X12_must_17 n u2 Q T) T)) T
set_option maxRecDepth 20000 in
theorem s_X12_must_17 {g : Gb} (hg : xInj g) {n : Nat} {Q : Mm → Prop} {T : Mm → Prop} {u0 : Mm} (h : w_X12_must_17 n  u0 Q T) : xE g me_X12_must (pV g Q T) 17 [(0, .ref (gR g 0))] [] u0 := by
  unfold w_X12_must_17 at h
  refine e_aload_n (k := 9) (i := 0) rfl rfl 0 rfl ?_
  refine e_dup (k := 10) rfl rfl ?_
  refine e_getI (k := 11) rfl f_X12_138 rfl rfl ?_
  refine e_iconst (k := 12) (v := (1 : Int32)) rfl (by decide) ?_
  refine e_iadd (k := 13) rfl ?_
  refine e_putI (k := 14) rfl fg_X12_138 rfl rfl ?_
  refine e_mlet h (fun u1 h => ?_)
  exact e_vret (k := 15) rfl rfl (Or.inl ⟨rfl, h⟩)
set_option maxRecDepth 20000 in
theorem c_X12_must {g : Gb} (hg : xInj g) {n : Nat} {a0 : Int32} {u0 : Mm} {Q : Mm → Prop} {T : Mm → Prop} (h : w_X12_must n a0 u0 Q T) : xMet (gL g) yX12_must (xws yX12_must cX12_must 2 none) (xRoom 4) (xPc g [.ref (gR g 0), .int a0] u0) (xQ g (pV g Q T)) (xA g) := by
  refine xbody (il := il_X12_must) hg il_X12_must_ok m_X12_must (Nat.le_of_ble_eq_true rfl) ?_
  show xE g me_X12_must (pV g Q T) 0 [(0, .ref (gR g 0)), (1, .int a0)] [] u0
  unfold w_X12_must at h
  refine e_aload_n (k := 0) (i := 0) rfl rfl 0 rfl ?_
  refine e_iload_n (k := 1) (i := 1) rfl rfl 1 rfl ?_
  refine e_callVi (k := 2) (q := 0) (As := [.int a0]) (rest := []) rfl (c_X12_is (g := g) hg (n := n) h) m_X12_is i_X12_is l_X12_166 rfl ⟨_, rfl, rfl⟩ rfl rfl (Nat.le_of_ble_eq_true rfl) ⟨by decide, by decide, rfl, rfl⟩ (fun _ h => ⟨fun _ z => (by cases z), Or.inr ⟨rfl, h⟩⟩) (fun r1 u1 h => ?_)
  refine e_if_ne (k := 3) (tgt := 17) rfl (by decide) (fun z => ?_) (fun z => ?_)
  · have h := h.1 z
    refine e_sub (lv' := [(0, .ref (gR g 0))]) [0] rfl ?_
    exact s_X12_must_17 hg h
  · have h := h.2 z
    refine e_aload_n (k := 4) (i := 0) rfl rfl 0 rfl ?_
    refine e_iconst (k := 5) (v := (1 : Int32)) rfl (by decide) ?_
    refine e_aload_n (k := 6) (i := 0) rfl rfl 0 rfl ?_
    refine e_getI (k := 7) rfl f_X12_138 rfl rfl ?_
    refine e_callVv (k := 8) (q := 0) (As := [.int (1 : Int32), .int (u1.1 0 7)]) (rest := []) rfl (c_X12_fail (g := g) hg (n := n) h) m_X12_fail i_X12_fail l_X12_148 rfl ⟨_, rfl, rfl⟩ rfl rfl (Nat.le_of_ble_eq_true rfl) ⟨by decide, by decide, rfl, rfl⟩ (fun _ h => ⟨fun _ z => (by cases z), Or.inr ⟨rfl, h⟩⟩) (fun u2 h => ?_)
    refine e_sub (lv' := [(0, .ref (gR g 0))]) [0] rfl ?_
    exact s_X12_must_17 hg h
def il_X12_readBars : List (Nat × Instr × Nat) := [(0, .aload_n 0, 1), (1, .getfield 138, 3), (4, .istore_n 1, 1), (5, .aload_n 0, 1), (6, .iload_n 1, 1), (7, .invokevirtual 391, 3), (10, .aload_n 0, 1), (11, .getfield 60, 3), (14, .aload_n 0, 1), (15, .getfield 290, 3), (18, .iaload, 1), (19, .ifCond .ne 9, 3), (22, .aload_n 0, 1), (23, .iconst 1, 1), (24, .iload_n 1, 1), (25, .invokevirtual 148, 3), (28, .aload_n 0, 1), (29, .iconst 3, 1), (30, .iload_n 1, 1), (31, .invokevirtual 333, 3), (34, .istore_n 2, 1), (35, .aload_n 0, 1), (36, .dup, 1), (37, .getfield 138, 3), (40, .iconst 1, 1), (41, .iadd, 1), (42, .putfield 138, 3), (45, .aload_n 0, 1), (46, .invokevirtual 162, 3), (49, .invokestatic 182, 3), (52, .ifCond .eq 17, 3), (55, .aload_n 0, 1), (56, .iconst 1, 1), (57, .bipush 16, 2), (59, .aload_n 0, 1), (60, .getfield 138, 3), (63, .invokevirtual 207, 3), (66, .goto 4, 3), (69, .iconst 1, 1), (70, .istore_n 3, 1), (71, .aload_n 0, 1), (72, .iload_n 2, 1), (73, .iconst 3, 1), (74, .iload_n 3, 1), (75, .invokevirtual 286, 3), (78, .aload_n 0, 1), (79, .invokevirtual 369, 3), (82, .lstore 4, 2), (84, .aload_n 0, 1), (85, .getfield 40, 3), (88, .iload_n 2, 1), (89, .lload 4, 2), (91, .iload_n 3, 1), (92, .i2l, 1), (93, .lmul, 1), (94, .lastore, 1), (95, .iconst 0, 1), (96, .istore 6, 2), (98, .iload 6, 2), (100, .iload_n 3, 1), (101, .if_icmp .ge 48, 3), (104, .iload 6, 2), (106, .ifCond .le 26, 3), (109, .aload_n 0, 1), (110, .getfield 75, 3), (113, .aload_n 0, 1), (114, .getfield 290, 3), (117, .iconst 0, 1), (118, .bastore, 1), (119, .aload_n 0, 1), (120, .getfield 72, 3), (123, .aload_n 0, 1), (124, .getfield 290, 3), (127, .dup2, 1), (128, .iaload, 1), (129, .iconst 1, 1), (130, .iadd, 1), (131, .iastore, 1), (132, .aload_n 0, 1), (133, .iload_n 1, 1), (134, .invokevirtual 391, 3), (137, .aload_n 0, 1), (138, .lload 4, 2), (140, .invokevirtual 419, 3), (143, .iinc 6 1, 3), (146, .goto (-48), 3), (149, .aload_n 0, 1), (150, .invokevirtual 435, 3), (153, .aload_n 0, 1), (154, .getfield 90, 3), (157, .aload_n 0, 1), (158, .getfield 290, 3), (161, .iload_n 2, 1), (162, .iastore, 1), (163, .return_, 1)]
set_option maxRecDepth 20000 in
theorem il_X12_readBars_ok : ∀ x ∈ il_X12_readBars, decode cX12_readBars x.1 = .ok x.2 := by decide +kernel
abbrev me_X12_readBars : Me := (RX12, il_X12_readBars, 7, none, xRoom 4, [])
def w_X12_readBars_132 (n : Nat) (L98 : Int32 → Int32 → Int32 → Int64 → Int32 → Mm → Prop) (x1 : Int32) (x2 : Int32) (x3 : Int32) (x4 : Int64) (x6 : Int32) (u0 : Mm) (Q : Mm → Prop) (T : Mm → Prop) : Prop :=
  w_X12_beginMeasure n x1 u0 (fun u1 =>
  w_X12_addTime n x4 u1 (fun u2 =>
  L98 x1 x2 x3 x4 (x6 + (1 : Int32)) u2) T) T
def w_X12_readBars_98 (n : Nat) (Q : Mm → Prop) (T : Mm → Prop) : Nat → Int32 → Int32 → Int32 → Int64 → Int32 → Mm → Prop
  | 0, _, _, _, _, _, _ => False
  | k + 1, x1, x2, x3, x4, x6, u0 =>
  (x3 ≤ x6 → w_X12_clearBar n u0 (fun u1 =>
  vp_in (u1.1 0 28) 3 ∧ (mlet (setI u1 23 (ix (u1.1 0 28)) x2) fun u2 =>
  Q u2)) T) ∧
  (¬ x3 ≤ x6 → (x6 ≤ 0 → w_X12_readBars_132 n (w_X12_readBars_98 n Q T k) x1 x2 x3 x4 x6 u0 Q T) ∧
  (¬ x6 ≤ 0 → vp_in (u0.1 0 28) 3 ∧ (mlet (setI u0 18 (ix (u0.1 0 28)) (vp_nar .boolean (0 : Int32))) fun u3 =>
  vp_in (u3.1 0 28) 3 ∧ (vp_in (u3.1 0 28) 3 ∧ (mlet (setI u3 17 (ix (u3.1 0 28)) ((u3.1 17 (ix (u3.1 0 28))) + (1 : Int32))) fun u4 =>
  w_X12_readBars_132 n (w_X12_readBars_98 n Q T k) x1 x2 x3 x4 x6 u4 Q T)))))
def w_X12_readBars_70 (n : Nat) (x1 : Int32) (x2 : Int32) (t0 : Int32) (u0 : Mm) (Q : Mm → Prop) (T : Mm → Prop) : Prop :=
  w_X12_set n x2 (3 : Int32) t0 u0 (fun u1 =>
  w_X12_meterTime n u1 (fun r1 u2 =>
  vp_in x2 400 ∧ (mlet (setJ u2 7 (ix x2) (r1 * t0.toInt64)) fun u3 =>
  (w_X12_readBars_98 n Q T n) x1 x2 t0 r1 (0 : Int32) u3)) T) T
def w_X12_readBars_28 (n : Nat) (x1 : Int32) (u0 : Mm) (Q : Mm → Prop) (T : Mm → Prop) : Prop :=
  w_X12_newThing n (3 : Int32) x1 u0 (fun r1 u1 =>
  mlet (setI u1 0 7 ((u1.1 0 7) + (1 : Int32))) fun u2 =>
  w_X12_here n u2 (fun r2 u3 =>
  w_X12_isDigit n r2 u3 (fun r3 u4 =>
  (r3 = 0 → w_X12_readBars_70 n x1 r1 (1 : Int32) u4 Q T) ∧
  (¬ r3 = 0 → w_X12_numberOf n (1 : Int32) (16 : Int32) (u4.1 0 7) u4 (fun r4 u5 =>
  w_X12_readBars_70 n x1 r1 r4 u5 Q T) T)) T) T) T
def w_X12_readBars (n : Nat) (u0 : Mm) (Q : Mm → Prop) (T : Mm → Prop) : Prop :=
  ilet (u0.1 0 7) fun y1 =>
  w_X12_beginMeasure n y1 u0 (fun u1 =>
  vp_in (u1.1 0 28) 3 ∧ ((¬ (u1.1 13 (ix (u1.1 0 28))) = 0 → w_X12_readBars_28 n y1 u1 Q T) ∧
  ((u1.1 13 (ix (u1.1 0 28))) = 0 → w_X12_fail n (1 : Int32) y1 u1 (fun u2 =>
  w_X12_readBars_28 n y1 u2 Q T) T))) T
set_option maxRecDepth 20000 in
theorem s_X12_readBars_132 {g : Gb} (hg : xInj g) {n : Nat} {Q : Mm → Prop} {T : Mm → Prop} {L98 : Int32 → Int32 → Int32 → Int64 → Int32 → Mm → Prop} (hL98 : ∀ (x1 : Int32) (x2 : Int32) (x3 : Int32) (x4 : Int64) (x6 : Int32) (u0 : Mm), L98 x1 x2 x3 x4 x6 u0 → xE g me_X12_readBars (pV g Q T) 98 [(0, .ref (gR g 0)), (1, .int x1), (2, .int x2), (3, .int x3), (4, .long x4), (6, .int x6)] [] u0) {x1 : Int32} {x2 : Int32} {x3 : Int32} {x4 : Int64} {x6 : Int32} {u0 : Mm} (h : w_X12_readBars_132 n L98 x1 x2 x3 x4 x6 u0 Q T) : xE g me_X12_readBars (pV g Q T) 132 [(0, .ref (gR g 0)), (1, .int x1), (2, .int x2), (3, .int x3), (4, .long x4), (6, .int x6)] [] u0 := by
  unfold w_X12_readBars_132 at h
  refine e_aload_n (k := 78) (i := 0) rfl rfl 0 rfl ?_
  refine e_iload_n (k := 79) (i := 1) rfl rfl 1 rfl ?_
  refine e_callVv (k := 80) (q := 0) (As := [.int x1]) (rest := []) rfl (c_X12_beginMeasure (g := g) hg (n := n) h) m_X12_beginMeasure i_X12_beginMeasure l_X12_391 rfl ⟨_, rfl, rfl⟩ rfl rfl (Nat.le_of_ble_eq_true rfl) ⟨by decide, by decide, rfl, rfl⟩ (fun _ h => ⟨fun _ z => (by cases z), Or.inr ⟨rfl, h⟩⟩) (fun u1 h => ?_)
  refine e_aload_n (k := 81) (i := 0) rfl rfl 0 rfl ?_
  refine e_lload (k := 82) (i := 4) rfl 4 rfl ?_
  refine e_callVv (k := 83) (q := 0) (As := [.long x4]) (rest := []) rfl (c_X12_addTime (g := g) hg (n := n) h) m_X12_addTime i_X12_addTime l_X12_419 rfl ⟨_, rfl, rfl⟩ rfl rfl (Nat.le_of_ble_eq_true rfl) ⟨by decide, by decide, rfl, rfl⟩ (fun _ h => ⟨fun _ z => (by cases z), Or.inr ⟨rfl, h⟩⟩) (fun u2 h => ?_)
  refine e_iinc (k := 84) (i := 6) (j := 5) (v := (x6 + (1 : Int32))) (lv' := [(0, .ref (gR g 0)), (1, .int x1), (2, .int x2), (3, .int x3), (4, .long x4), (6, .int (x6 + (1 : Int32)))]) rfl rfl rfl (by decide) [1, 2, 3, 4, 5, 0] rfl ?_
  refine e_goto (k := 85) (tgt := 98) rfl (by decide) ?_
  exact hL98 x1 x2 x3 x4 (x6 + (1 : Int32)) u2 h
set_option maxRecDepth 20000 in
theorem s_X12_readBars_98 {g : Gb} (hg : xInj g) {n : Nat} {Q : Mm → Prop} {T : Mm → Prop} : ∀ (k : Nat) (x1 : Int32) (x2 : Int32) (x3 : Int32) (x4 : Int64) (x6 : Int32) (u0 : Mm), w_X12_readBars_98 n Q T k x1 x2 x3 x4 x6 u0 → xE g me_X12_readBars (pV g Q T) 98 [(0, .ref (gR g 0)), (1, .int x1), (2, .int x2), (3, .int x3), (4, .long x4), (6, .int x6)] [] u0 := by
  intro k
  induction k with
  | zero => intro x1 x2 x3 x4 x6 u0 h; exact h.elim
  | succ k ih =>
    intro x1 x2 x3 x4 x6 u0 h
    unfold w_X12_readBars_98 at h
    refine e_iload (k := 58) (i := 6) rfl 5 rfl ?_
    refine e_iload_n (k := 59) (i := 3) rfl rfl 3 rfl ?_
    refine e_icmp_ge (k := 60) (tgt := 149) rfl (by decide) (fun z => ?_) (fun z => ?_)
    · have h := h.1 z
      refine e_aload_n (k := 86) (i := 0) rfl rfl 0 rfl ?_
      refine e_callVv (k := 87) (q := 0) (As := []) (rest := []) rfl (c_X12_clearBar (g := g) hg (n := n) h) m_X12_clearBar i_X12_clearBar l_X12_435 rfl ⟨_, rfl, rfl⟩ rfl rfl (Nat.le_of_ble_eq_true rfl) ⟨by decide, by decide, rfl, rfl⟩ (fun _ h => ⟨fun _ z => (by cases z), Or.inr ⟨rfl, h⟩⟩) (fun u1 h => ?_)
      refine e_aload_n (k := 88) (i := 0) rfl rfl 0 rfl ?_
      refine e_getC (k := 89) rfl f_X12_90 rfl rfl ?_
      refine e_aload_n (k := 90) (i := 0) rfl rfl 0 rfl ?_
      refine e_getI (k := 91) rfl f_X12_290 rfl rfl ?_
      refine e_iload_n (k := 92) (i := 2) rfl rfl 2 rfl ?_
      refine e_iast (k := 93) rfl rfl h.1 ?_
      have h := h.2
      refine e_mlet h (fun u2 h => ?_)
      exact e_vret (k := 94) rfl rfl (Or.inl ⟨rfl, h⟩)
    · have h := h.2 z
      refine e_iload (k := 61) (i := 6) rfl 5 rfl ?_
      refine e_if_le (k := 62) (tgt := 132) rfl (by decide) (fun z => ?_) (fun z => ?_)
      · have h := h.1 z
        exact s_X12_readBars_132 hg ih h
      · have h := h.2 z
        refine e_aload_n (k := 63) (i := 0) rfl rfl 0 rfl ?_
        refine e_getC (k := 64) rfl f_X12_75 rfl rfl ?_
        refine e_aload_n (k := 65) (i := 0) rfl rfl 0 rfl ?_
        refine e_getI (k := 66) rfl f_X12_290 rfl rfl ?_
        refine e_iconst (k := 67) (v := (0 : Int32)) rfl (by decide) ?_
        refine e_zast (k := 68) rfl rfl h.1 ?_
        have h := h.2
        refine e_mlet h (fun u3 h => ?_)
        refine e_aload_n (k := 69) (i := 0) rfl rfl 0 rfl ?_
        refine e_getC (k := 70) rfl f_X12_72 rfl rfl ?_
        refine e_aload_n (k := 71) (i := 0) rfl rfl 0 rfl ?_
        refine e_getI (k := 72) rfl f_X12_290 rfl rfl ?_
        refine e_dup2 (k := 73) rfl rfl rfl ?_
        refine e_iald (k := 74) rfl rfl h.1 ?_
        have h := h.2
        refine e_iconst (k := 75) (v := (1 : Int32)) rfl (by decide) ?_
        refine e_iadd (k := 76) rfl ?_
        refine e_iast (k := 77) rfl rfl h.1 ?_
        have h := h.2
        refine e_mlet h (fun u4 h => ?_)
        exact s_X12_readBars_132 hg ih h
set_option maxRecDepth 20000 in
theorem s_X12_readBars_70 {g : Gb} (hg : xInj g) {n : Nat} {Q : Mm → Prop} {T : Mm → Prop} {x1 : Int32} {x2 : Int32} {t0 : Int32} {u0 : Mm} (h : w_X12_readBars_70 n x1 x2 t0 u0 Q T) : xE g me_X12_readBars (pV g Q T) 70 [(0, .ref (gR g 0)), (1, .int x1), (2, .int x2)] [.int t0] u0 := by
  unfold w_X12_readBars_70 at h
  refine e_istore_n (k := 39) (i := 3) (lv' := [(0, .ref (gR g 0)), (1, .int x1), (2, .int x2), (3, .int t0)]) rfl rfl (by decide) [1, 2, 3, 0] rfl ?_
  refine e_aload_n (k := 40) (i := 0) rfl rfl 0 rfl ?_
  refine e_iload_n (k := 41) (i := 2) rfl rfl 2 rfl ?_
  refine e_iconst (k := 42) (v := (3 : Int32)) rfl (by decide) ?_
  refine e_iload_n (k := 43) (i := 3) rfl rfl 3 rfl ?_
  refine e_callVv (k := 44) (q := 0) (As := [.int x2, .int (3 : Int32), .int t0]) (rest := []) rfl (c_X12_set (g := g) hg (n := n) h) m_X12_set i_X12_set l_X12_286 rfl ⟨_, rfl, rfl⟩ rfl rfl (Nat.le_of_ble_eq_true rfl) ⟨by decide, by decide, rfl, rfl⟩ (fun _ h => ⟨fun _ z => (by cases z), Or.inr ⟨rfl, h⟩⟩) (fun u1 h => ?_)
  refine e_aload_n (k := 45) (i := 0) rfl rfl 0 rfl ?_
  refine e_callVl (k := 46) (q := 0) (As := []) (rest := []) rfl (c_X12_meterTime (g := g) hg (n := n) h) m_X12_meterTime i_X12_meterTime l_X12_369 rfl ⟨_, rfl, rfl⟩ rfl rfl (Nat.le_of_ble_eq_true rfl) ⟨by decide, by decide, rfl, rfl⟩ (fun _ h => ⟨fun _ z => (by cases z), Or.inr ⟨rfl, h⟩⟩) (fun r1 u2 h => ?_)
  refine e_lstore (k := 47) (i := 4) (lv' := [(0, .ref (gR g 0)), (1, .int x1), (2, .int x2), (3, .int t0), (4, .long r1)]) rfl (by decide) [1, 2, 3, 4, 0] rfl ?_
  refine e_aload_n (k := 48) (i := 0) rfl rfl 0 rfl ?_
  refine e_getC (k := 49) rfl f_X12_40 rfl rfl ?_
  refine e_iload_n (k := 50) (i := 2) rfl rfl 2 rfl ?_
  refine e_lload (k := 51) (i := 4) rfl 4 rfl ?_
  refine e_iload_n (k := 52) (i := 3) rfl rfl 3 rfl ?_
  refine e_i2l (k := 53) rfl ?_
  refine e_lmul (k := 54) rfl ?_
  refine e_last (k := 55) rfl rfl h.1 ?_
  have h := h.2
  refine e_mlet h (fun u3 h => ?_)
  refine e_iconst (k := 56) (v := (0 : Int32)) rfl (by decide) ?_
  refine e_istore (k := 57) (i := 6) (lv' := [(0, .ref (gR g 0)), (1, .int x1), (2, .int x2), (3, .int t0), (4, .long r1), (6, .int (0 : Int32))]) rfl (by decide) [1, 2, 3, 4, 5, 0] rfl ?_
  exact s_X12_readBars_98 hg n x1 x2 t0 r1 (0 : Int32) u3 h
set_option maxRecDepth 20000 in
theorem s_X12_readBars_28 {g : Gb} (hg : xInj g) {n : Nat} {Q : Mm → Prop} {T : Mm → Prop} {x1 : Int32} {u0 : Mm} (h : w_X12_readBars_28 n x1 u0 Q T) : xE g me_X12_readBars (pV g Q T) 28 [(0, .ref (gR g 0)), (1, .int x1)] [] u0 := by
  unfold w_X12_readBars_28 at h
  refine e_aload_n (k := 16) (i := 0) rfl rfl 0 rfl ?_
  refine e_iconst (k := 17) (v := (3 : Int32)) rfl (by decide) ?_
  refine e_iload_n (k := 18) (i := 1) rfl rfl 1 rfl ?_
  refine e_callVi (k := 19) (q := 0) (As := [.int (3 : Int32), .int x1]) (rest := []) rfl (c_X12_newThing (g := g) hg (n := n) h) m_X12_newThing i_X12_newThing l_X12_333 rfl ⟨_, rfl, rfl⟩ rfl rfl (Nat.le_of_ble_eq_true rfl) ⟨by decide, by decide, rfl, rfl⟩ (fun _ h => ⟨fun _ z => (by cases z), Or.inr ⟨rfl, h⟩⟩) (fun r1 u1 h => ?_)
  refine e_istore_n (k := 20) (i := 2) (lv' := [(0, .ref (gR g 0)), (1, .int x1), (2, .int r1)]) rfl rfl (by decide) [1, 2, 0] rfl ?_
  refine e_aload_n (k := 21) (i := 0) rfl rfl 0 rfl ?_
  refine e_dup (k := 22) rfl rfl ?_
  refine e_getI (k := 23) rfl f_X12_138 rfl rfl ?_
  refine e_iconst (k := 24) (v := (1 : Int32)) rfl (by decide) ?_
  refine e_iadd (k := 25) rfl ?_
  refine e_putI (k := 26) rfl fg_X12_138 rfl rfl ?_
  refine e_mlet h (fun u2 h => ?_)
  refine e_aload_n (k := 27) (i := 0) rfl rfl 0 rfl ?_
  refine e_callVi (k := 28) (q := 0) (As := []) (rest := []) rfl (c_X12_here (g := g) hg (n := n) h) m_X12_here i_X12_here l_X12_162 rfl ⟨_, rfl, rfl⟩ rfl rfl (Nat.le_of_ble_eq_true rfl) ⟨by decide, by decide, rfl, rfl⟩ (fun _ h => ⟨fun _ z => (by cases z), Or.inr ⟨rfl, h⟩⟩) (fun r2 u3 h => ?_)
  refine e_callSi (k := 29) (As := [.int r2]) (rest := []) rfl (c_X12_isDigit (g := g) hg (n := n) h) m_X12_isDigit st_X12_isDigit l_X12_182 rfl rfl (Nat.le_of_ble_eq_true rfl) ⟨by decide, by decide, rfl, rfl⟩ (fun _ h => ⟨fun _ z => (by cases z), Or.inr ⟨rfl, h⟩⟩) (fun r3 u4 h => ?_)
  refine e_if_eq (k := 30) (tgt := 69) rfl (by decide) (fun z => ?_) (fun z => ?_)
  · have h := h.1 z
    refine e_iconst (k := 38) (v := (1 : Int32)) rfl (by decide) ?_
    exact s_X12_readBars_70 hg h
  · have h := h.2 z
    refine e_aload_n (k := 31) (i := 0) rfl rfl 0 rfl ?_
    refine e_iconst (k := 32) (v := (1 : Int32)) rfl (by decide) ?_
    refine e_bipush (k := 33) (v := (16 : Int32)) rfl (by decide) ?_
    refine e_aload_n (k := 34) (i := 0) rfl rfl 0 rfl ?_
    refine e_getI (k := 35) rfl f_X12_138 rfl rfl ?_
    refine e_callVi (k := 36) (q := 0) (As := [.int (1 : Int32), .int (16 : Int32), .int (u4.1 0 7)]) (rest := []) rfl (c_X12_numberOf (g := g) hg (n := n) h) m_X12_numberOf i_X12_numberOf l_X12_207 rfl ⟨_, rfl, rfl⟩ rfl rfl (Nat.le_of_ble_eq_true rfl) ⟨by decide, by decide, rfl, rfl⟩ (fun _ h => ⟨fun _ z => (by cases z), Or.inr ⟨rfl, h⟩⟩) (fun r4 u5 h => ?_)
    refine e_goto (k := 37) (tgt := 70) rfl (by decide) ?_
    exact s_X12_readBars_70 hg h
set_option maxRecDepth 20000 in
theorem c_X12_readBars {g : Gb} (hg : xInj g) {n : Nat} {u0 : Mm} {Q : Mm → Prop} {T : Mm → Prop} (h : w_X12_readBars n u0 Q T) : xMet (gL g) yX12_readBars (xws yX12_readBars cX12_readBars 7 none) (xRoom 4) (xPc g [.ref (gR g 0)] u0) (xQ g (pV g Q T)) (xA g) := by
  refine xbody (il := il_X12_readBars) hg il_X12_readBars_ok m_X12_readBars (Nat.le_of_ble_eq_true rfl) ?_
  show xE g me_X12_readBars (pV g Q T) 0 [(0, .ref (gR g 0))] [] u0
  unfold w_X12_readBars at h
  refine e_aload_n (k := 0) (i := 0) rfl rfl 0 rfl ?_
  refine e_getI (k := 1) rfl f_X12_138 rfl rfl ?_
  refine e_ilet h (fun y1 h => ?_)
  refine e_istore_n (k := 2) (i := 1) (lv' := [(0, .ref (gR g 0)), (1, .int y1)]) rfl rfl (by decide) [1, 0] rfl ?_
  refine e_aload_n (k := 3) (i := 0) rfl rfl 0 rfl ?_
  refine e_iload_n (k := 4) (i := 1) rfl rfl 1 rfl ?_
  refine e_callVv (k := 5) (q := 0) (As := [.int y1]) (rest := []) rfl (c_X12_beginMeasure (g := g) hg (n := n) h) m_X12_beginMeasure i_X12_beginMeasure l_X12_391 rfl ⟨_, rfl, rfl⟩ rfl rfl (Nat.le_of_ble_eq_true rfl) ⟨by decide, by decide, rfl, rfl⟩ (fun _ h => ⟨fun _ z => (by cases z), Or.inr ⟨rfl, h⟩⟩) (fun u1 h => ?_)
  refine e_aload_n (k := 6) (i := 0) rfl rfl 0 rfl ?_
  refine e_getC (k := 7) rfl f_X12_60 rfl rfl ?_
  refine e_aload_n (k := 8) (i := 0) rfl rfl 0 rfl ?_
  refine e_getI (k := 9) rfl f_X12_290 rfl rfl ?_
  refine e_iald (k := 10) rfl rfl h.1 ?_
  have h := h.2
  refine e_if_ne (k := 11) (tgt := 28) rfl (by decide) (fun z => ?_) (fun z => ?_)
  · have h := h.1 z
    exact s_X12_readBars_28 hg h
  · have h := h.2 z
    refine e_aload_n (k := 12) (i := 0) rfl rfl 0 rfl ?_
    refine e_iconst (k := 13) (v := (1 : Int32)) rfl (by decide) ?_
    refine e_iload_n (k := 14) (i := 1) rfl rfl 1 rfl ?_
    refine e_callVv (k := 15) (q := 0) (As := [.int (1 : Int32), .int y1]) (rest := []) rfl (c_X12_fail (g := g) hg (n := n) h) m_X12_fail i_X12_fail l_X12_148 rfl ⟨_, rfl, rfl⟩ rfl rfl (Nat.le_of_ble_eq_true rfl) ⟨by decide, by decide, rfl, rfl⟩ (fun _ h => ⟨fun _ z => (by cases z), Or.inr ⟨rfl, h⟩⟩) (fun u2 h => ?_)
    exact s_X12_readBars_28 hg h
def il_X12_readKey : List (Nat × Instr × Nat) := [(0, .aload_n 0, 1), (1, .getfield 138, 3), (4, .istore_n 1, 1), (5, .aload_n 0, 1), (6, .ldc 201, 2), (8, .invokevirtual 203, 3), (11, .ifCond .eq 15, 3), (14, .aload_n 0, 1), (15, .aload_n 0, 1), (16, .getfield 138, 3), (19, .iconst 4, 1), (20, .iadd, 1), (21, .putfield 138, 3), (24, .iconst 0, 1), (25, .ireturn, 1), (26, .aload_n 0, 1), (27, .invokevirtual 162, 3), (30, .istore_n 2, 1), (31, .iload_n 2, 1), (32, .i2l, 1), (33, .ldc2_w 174, 3), (36, .ldc2_w 219, 3), (39, .invokestatic 125, 3), (42, .ifCond .ne 9, 3), (45, .aload_n 0, 1), (46, .iconst 1, 1), (47, .iload_n 1, 1), (48, .invokevirtual 148, 3), (51, .iload_n 2, 1), (52, .bipush 70, 2), (54, .if_icmp .ne 7, 3), (57, .iconst (-1), 1), (58, .goto 54, 3), (61, .iload_n 2, 1), (62, .bipush 67, 2), (64, .if_icmp .ne 7, 3), (67, .iconst 0, 1), (68, .goto 44, 3), (71, .iload_n 2, 1), (72, .bipush 71, 2), (74, .if_icmp .ne 7, 3), (77, .iconst 1, 1), (78, .goto 34, 3), (81, .iload_n 2, 1), (82, .bipush 68, 2), (84, .if_icmp .ne 7, 3), (87, .iconst 2, 1), (88, .goto 24, 3), (91, .iload_n 2, 1), (92, .bipush 65, 2), (94, .if_icmp .ne 7, 3), (97, .iconst 3, 1), (98, .goto 14, 3), (101, .iload_n 2, 1), (102, .bipush 69, 2), (104, .if_icmp .ne 7, 3), (107, .iconst 4, 1), (108, .goto 4, 3), (111, .iconst 5, 1), (112, .istore_n 3, 1), (113, .aload_n 0, 1), (114, .dup, 1), (115, .getfield 138, 3), (118, .iconst 1, 1), (119, .iadd, 1), (120, .putfield 138, 3), (123, .aload_n 0, 1), (124, .bipush 35, 2), (126, .invokevirtual 166, 3), (129, .ifCond .ne 12, 3), (132, .aload_n 0, 1), (133, .bipush 98, 2), (135, .invokevirtual 166, 3), (138, .ifCond .eq 34, 3), (141, .aload_n 0, 1), (142, .bipush 35, 2), (144, .invokevirtual 166, 3), (147, .ifCond .eq 10, 3), (150, .iload_n 3, 1), (151, .bipush 7, 2), (153, .iadd, 1), (154, .goto 7, 3), (157, .iload_n 3, 1), (158, .bipush 7, 2), (160, .isub, 1), (161, .istore_n 3, 1), (162, .aload_n 0, 1), (163, .dup, 1), (164, .getfield 138, 3), (167, .iconst 1, 1), (168, .iadd, 1), (169, .putfield 138, 3), (172, .iconst 3, 1), (173, .istore 4, 2), (175, .aload_n 0, 1), (176, .ldc 221, 2), (178, .invokevirtual 203, 3), (181, .ifCond .ne 12, 3), (184, .aload_n 0, 1), (185, .ldc 223, 2), (187, .invokevirtual 203, 3), (190, .ifCond .eq 10, 3), (193, .iload_n 3, 1), (194, .iconst 0, 1), (195, .iadd, 1), (196, .istore_n 3, 1), (197, .goto 131, 3), (200, .aload_n 0, 1), (201, .ldc 225, 2), (203, .invokevirtual 203, 3), (206, .ifCond .ne 12, 3), (209, .aload_n 0, 1), (210, .ldc 227, 2), (212, .invokevirtual 203, 3), (215, .ifCond .eq 10, 3), (218, .iload_n 3, 1), (219, .iconst 3, 1), (220, .isub, 1), (221, .istore_n 3, 1), (222, .goto 106, 3), (225, .aload_n 0, 1), (226, .ldc 229, 2), (228, .invokevirtual 203, 3), (231, .ifCond .eq 10, 3), (234, .iload_n 3, 1), (235, .iconst 2, 1), (236, .isub, 1), (237, .istore_n 3, 1), (238, .goto 90, 3), (241, .aload_n 0, 1), (242, .ldc 231, 2), (244, .invokevirtual 203, 3), (247, .ifCond .eq 10, 3), (250, .iload_n 3, 1), (251, .iconst 4, 1), (252, .isub, 1), (253, .istore_n 3, 1), (254, .goto 74, 3), (257, .aload_n 0, 1), (258, .ldc 233, 2), (260, .invokevirtual 203, 3), (263, .ifCond .eq 10, 3), (266, .iload_n 3, 1), (267, .iconst 1, 1), (268, .iadd, 1), (269, .istore_n 3, 1), (270, .goto 58, 3), (273, .aload_n 0, 1), (274, .ldc 235, 2), (276, .invokevirtual 203, 3), (279, .ifCond .eq 10, 3), (282, .iload_n 3, 1), (283, .iconst 1, 1), (284, .isub, 1), (285, .istore_n 3, 1), (286, .goto 42, 3), (289, .aload_n 0, 1), (290, .ldc 237, 2), (292, .invokevirtual 203, 3), (295, .ifCond .eq 10, 3), (298, .iload_n 3, 1), (299, .iconst 5, 1), (300, .isub, 1), (301, .istore_n 3, 1), (302, .goto 26, 3), (305, .aload_n 0, 1), (306, .ldc 239, 2), (308, .invokevirtual 203, 3), (311, .ifCond .eq 7, 3), (314, .iconst 1, 1), (315, .goto 4, 3), (318, .iconst 0, 1), (319, .istore 4, 2), (321, .iload_n 3, 1), (322, .iconst 3, 1), (323, .iload 4, 2), (325, .imul, 1), (326, .isub, 1), (327, .istore_n 3, 1), (328, .aload_n 0, 1), (329, .aload_n 0, 1), (330, .getfield 138, 3), (333, .iload 4, 2), (335, .iadd, 1), (336, .putfield 138, 3), (339, .iload_n 3, 1), (340, .bipush 7, 2), (342, .if_icmp .gt 9, 3), (345, .iload_n 3, 1), (346, .bipush (-7), 2), (348, .if_icmp .ge 9, 3), (351, .aload_n 0, 1), (352, .iconst 3, 1), (353, .iload_n 1, 1), (354, .invokevirtual 148, 3), (357, .iload_n 3, 1), (358, .ireturn, 1)]
set_option maxRecDepth 20000 in
theorem il_X12_readKey_ok : ∀ x ∈ il_X12_readKey, decode cX12_readKey x.1 = .ok x.2 := by decide +kernel
abbrev me_X12_readKey : Me := (RX12, il_X12_readKey, 5, (some .int), xRoom 4, [])
def w_X12_readKey_357 (n : Nat) (x3 : Int32) (u0 : Mm) (Q : Int32 → Mm → Prop) (T : Mm → Prop) : Prop :=
  Q x3 u0
def w_X12_readKey_351 (n : Nat) (x1 : Int32) (x3 : Int32) (u0 : Mm) (Q : Int32 → Mm → Prop) (T : Mm → Prop) : Prop :=
  w_X12_fail n (3 : Int32) x1 u0 (fun u1 =>
  w_X12_readKey_357 n x3 u1 Q T) T
def w_X12_readKey_328 (n : Nat) (x1 : Int32) (x3 : Int32) (x4 : Int32) (u0 : Mm) (Q : Int32 → Mm → Prop) (T : Mm → Prop) : Prop :=
  mlet (setI u0 0 7 ((u0.1 0 7) + x4)) fun u1 =>
  ((7 : Int32) < x3 → w_X12_readKey_351 n x1 x3 u1 Q T) ∧
  (¬ (7 : Int32) < x3 → ((-7 : Int32) ≤ x3 → w_X12_readKey_357 n x3 u1 Q T) ∧
  (¬ (-7 : Int32) ≤ x3 → w_X12_readKey_351 n x1 x3 u1 Q T))
def w_X12_readKey_319 (n : Nat) (x1 : Int32) (x3 : Int32) (t0 : Int32) (u0 : Mm) (Q : Int32 → Mm → Prop) (T : Mm → Prop) : Prop :=
  ilet (x3 - ((3 : Int32) * t0)) fun y1 =>
  w_X12_readKey_328 n x1 y1 t0 u0 Q T
def w_X12_readKey_218 (n : Nat) (x1 : Int32) (x3 : Int32) (x4 : Int32) (u0 : Mm) (Q : Int32 → Mm → Prop) (T : Mm → Prop) : Prop :=
  ilet (x3 - (3 : Int32)) fun y1 =>
  w_X12_readKey_328 n x1 y1 x4 u0 Q T
def w_X12_readKey_193 (n : Nat) (x1 : Int32) (x3 : Int32) (x4 : Int32) (u0 : Mm) (Q : Int32 → Mm → Prop) (T : Mm → Prop) : Prop :=
  ilet (x3 + (0 : Int32)) fun y1 =>
  w_X12_readKey_328 n x1 y1 x4 u0 Q T
def w_X12_readKey_172 (n : Nat) (x1 : Int32) (x3 : Int32) (u0 : Mm) (Q : Int32 → Mm → Prop) (T : Mm → Prop) : Prop :=
  w_X12_isWord n 21 u0 (fun r1 u1 =>
  (¬ r1 = 0 → w_X12_readKey_193 n x1 x3 (3 : Int32) u1 Q T) ∧
  (r1 = 0 → w_X12_isWord n 22 u1 (fun r2 u2 =>
  (r2 = 0 → w_X12_isWord n 23 u2 (fun r3 u3 =>
  (¬ r3 = 0 → w_X12_readKey_218 n x1 x3 (3 : Int32) u3 Q T) ∧
  (r3 = 0 → w_X12_isWord n 24 u3 (fun r4 u4 =>
  (r4 = 0 → w_X12_isWord n 25 u4 (fun r5 u5 =>
  (r5 = 0 → w_X12_isWord n 26 u5 (fun r6 u6 =>
  (r6 = 0 → w_X12_isWord n 27 u6 (fun r7 u7 =>
  (r7 = 0 → w_X12_isWord n 28 u7 (fun r8 u8 =>
  (r8 = 0 → w_X12_isWord n 29 u8 (fun r9 u9 =>
  (r9 = 0 → w_X12_isWord n 30 u9 (fun r10 u10 =>
  (r10 = 0 → w_X12_readKey_319 n x1 x3 (0 : Int32) u10 Q T) ∧
  (¬ r10 = 0 → w_X12_readKey_319 n x1 x3 (1 : Int32) u10 Q T)) T) ∧
  (¬ r9 = 0 → ilet (x3 - (5 : Int32)) fun y1 =>
  w_X12_readKey_328 n x1 y1 (3 : Int32) u9 Q T)) T) ∧
  (¬ r8 = 0 → ilet (x3 - (1 : Int32)) fun y2 =>
  w_X12_readKey_328 n x1 y2 (3 : Int32) u8 Q T)) T) ∧
  (¬ r7 = 0 → ilet (x3 + (1 : Int32)) fun y3 =>
  w_X12_readKey_328 n x1 y3 (3 : Int32) u7 Q T)) T) ∧
  (¬ r6 = 0 → ilet (x3 - (4 : Int32)) fun y4 =>
  w_X12_readKey_328 n x1 y4 (3 : Int32) u6 Q T)) T) ∧
  (¬ r5 = 0 → ilet (x3 - (2 : Int32)) fun y5 =>
  w_X12_readKey_328 n x1 y5 (3 : Int32) u5 Q T)) T) ∧
  (¬ r4 = 0 → w_X12_readKey_218 n x1 x3 (3 : Int32) u4 Q T)) T)) T) ∧
  (¬ r2 = 0 → w_X12_readKey_193 n x1 x3 (3 : Int32) u2 Q T)) T)) T
def w_X12_readKey_161 (n : Nat) (x1 : Int32) (t0 : Int32) (u0 : Mm) (Q : Int32 → Mm → Prop) (T : Mm → Prop) : Prop :=
  mlet (setI u0 0 7 ((u0.1 0 7) + (1 : Int32))) fun u1 =>
  w_X12_readKey_172 n x1 t0 u1 Q T
def w_X12_readKey_141 (n : Nat) (x1 : Int32) (x3 : Int32) (u0 : Mm) (Q : Int32 → Mm → Prop) (T : Mm → Prop) : Prop :=
  w_X12_is n (35 : Int32) u0 (fun r1 u1 =>
  (r1 = 0 → w_X12_readKey_161 n x1 (x3 - (7 : Int32)) u1 Q T) ∧
  (¬ r1 = 0 → w_X12_readKey_161 n x1 (x3 + (7 : Int32)) u1 Q T)) T
def w_X12_readKey_112 (n : Nat) (x1 : Int32) (t0 : Int32) (u0 : Mm) (Q : Int32 → Mm → Prop) (T : Mm → Prop) : Prop :=
  mlet (setI u0 0 7 ((u0.1 0 7) + (1 : Int32))) fun u1 =>
  w_X12_is n (35 : Int32) u1 (fun r1 u2 =>
  (¬ r1 = 0 → w_X12_readKey_141 n x1 t0 u2 Q T) ∧
  (r1 = 0 → w_X12_is n (98 : Int32) u2 (fun r2 u3 =>
  (r2 = 0 → w_X12_readKey_172 n x1 t0 u3 Q T) ∧
  (¬ r2 = 0 → w_X12_readKey_141 n x1 t0 u3 Q T)) T)) T
def w_X12_readKey_51 (n : Nat) (x1 : Int32) (x2 : Int32) (u0 : Mm) (Q : Int32 → Mm → Prop) (T : Mm → Prop) : Prop :=
  (¬ x2 = (70 : Int32) → (¬ x2 = (67 : Int32) → (¬ x2 = (71 : Int32) → (¬ x2 = (68 : Int32) → (¬ x2 = (65 : Int32) → (¬ x2 = (69 : Int32) → w_X12_readKey_112 n x1 (5 : Int32) u0 Q T) ∧
  (x2 = (69 : Int32) → w_X12_readKey_112 n x1 (4 : Int32) u0 Q T)) ∧
  (x2 = (65 : Int32) → w_X12_readKey_112 n x1 (3 : Int32) u0 Q T)) ∧
  (x2 = (68 : Int32) → w_X12_readKey_112 n x1 (2 : Int32) u0 Q T)) ∧
  (x2 = (71 : Int32) → w_X12_readKey_112 n x1 (1 : Int32) u0 Q T)) ∧
  (x2 = (67 : Int32) → w_X12_readKey_112 n x1 (0 : Int32) u0 Q T)) ∧
  (x2 = (70 : Int32) → w_X12_readKey_112 n x1 (-1 : Int32) u0 Q T)
def w_X12_readKey (n : Nat) (u0 : Mm) (Q : Int32 → Mm → Prop) (T : Mm → Prop) : Prop :=
  ilet (u0.1 0 7) fun y1 =>
  w_X12_isWord n 20 u0 (fun r1 u1 =>
  (r1 = 0 → w_X12_here n u1 (fun r2 u2 =>
  w_X12_in n (r2.toInt64) (65 : Int64) (71 : Int64) u2 (fun r3 u3 =>
  (¬ r3 = 0 → w_X12_readKey_51 n y1 r2 u3 Q T) ∧
  (r3 = 0 → w_X12_fail n (1 : Int32) y1 u3 (fun u4 =>
  w_X12_readKey_51 n y1 r2 u4 Q T) T)) T) T) ∧
  (¬ r1 = 0 → mlet (setI u1 0 7 ((u1.1 0 7) + (4 : Int32))) fun u5 =>
  Q (0 : Int32) u5)) T
set_option maxRecDepth 20000 in
theorem s_X12_readKey_357 {g : Gb} (hg : xInj g) {n : Nat} {Q : Int32 → Mm → Prop} {T : Mm → Prop} {x3 : Int32} {u0 : Mm} (h : w_X12_readKey_357 n x3 u0 Q T) : xE g me_X12_readKey (pI g Q T) 357 [(3, .int x3)] [] u0 := by
  unfold w_X12_readKey_357 at h
  refine e_iload_n (k := 195) (i := 3) rfl rfl 0 rfl ?_
  exact e_iret (k := 196) rfl rfl (Or.inl ⟨_, rfl, h⟩)
set_option maxRecDepth 20000 in
theorem s_X12_readKey_351 {g : Gb} (hg : xInj g) {n : Nat} {Q : Int32 → Mm → Prop} {T : Mm → Prop} {x1 : Int32} {x3 : Int32} {u0 : Mm} (h : w_X12_readKey_351 n x1 x3 u0 Q T) : xE g me_X12_readKey (pI g Q T) 351 [(0, .ref (gR g 0)), (1, .int x1), (3, .int x3)] [] u0 := by
  unfold w_X12_readKey_351 at h
  refine e_aload_n (k := 191) (i := 0) rfl rfl 0 rfl ?_
  refine e_iconst (k := 192) (v := (3 : Int32)) rfl (by decide) ?_
  refine e_iload_n (k := 193) (i := 1) rfl rfl 1 rfl ?_
  refine e_callVv (k := 194) (q := 0) (As := [.int (3 : Int32), .int x1]) (rest := []) rfl (c_X12_fail (g := g) hg (n := n) h) m_X12_fail i_X12_fail l_X12_148 rfl ⟨_, rfl, rfl⟩ rfl rfl (Nat.le_of_ble_eq_true rfl) ⟨by decide, by decide, rfl, rfl⟩ (fun _ h => ⟨fun _ z => (by cases z), Or.inr ⟨rfl, h⟩⟩) (fun u1 h => ?_)
  refine e_sub (lv' := [(3, .int x3)]) [2] rfl ?_
  exact s_X12_readKey_357 hg h
set_option maxRecDepth 20000 in
theorem s_X12_readKey_328 {g : Gb} (hg : xInj g) {n : Nat} {Q : Int32 → Mm → Prop} {T : Mm → Prop} {x1 : Int32} {x3 : Int32} {x4 : Int32} {u0 : Mm} (h : w_X12_readKey_328 n x1 x3 x4 u0 Q T) : xE g me_X12_readKey (pI g Q T) 328 [(0, .ref (gR g 0)), (1, .int x1), (3, .int x3), (4, .int x4)] [] u0 := by
  unfold w_X12_readKey_328 at h
  refine e_aload_n (k := 179) (i := 0) rfl rfl 0 rfl ?_
  refine e_aload_n (k := 180) (i := 0) rfl rfl 0 rfl ?_
  refine e_getI (k := 181) rfl f_X12_138 rfl rfl ?_
  refine e_iload (k := 182) (i := 4) rfl 3 rfl ?_
  refine e_iadd (k := 183) rfl ?_
  refine e_putI (k := 184) rfl fg_X12_138 rfl rfl ?_
  refine e_mlet h (fun u1 h => ?_)
  refine e_iload_n (k := 185) (i := 3) rfl rfl 2 rfl ?_
  refine e_bipush (k := 186) (v := (7 : Int32)) rfl (by decide) ?_
  refine e_icmp_gt (k := 187) (tgt := 351) rfl (by decide) (fun z => ?_) (fun z => ?_)
  · have h := h.1 z
    refine e_sub (lv' := [(0, .ref (gR g 0)), (1, .int x1), (3, .int x3)]) [0, 1, 2] rfl ?_
    exact s_X12_readKey_351 hg h
  · have h := h.2 z
    refine e_iload_n (k := 188) (i := 3) rfl rfl 2 rfl ?_
    refine e_bipush (k := 189) (v := (-7 : Int32)) rfl (by decide) ?_
    refine e_icmp_ge (k := 190) (tgt := 357) rfl (by decide) (fun z => ?_) (fun z => ?_)
    · have h := h.1 z
      refine e_sub (lv' := [(3, .int x3)]) [2] rfl ?_
      exact s_X12_readKey_357 hg h
    · have h := h.2 z
      refine e_sub (lv' := [(0, .ref (gR g 0)), (1, .int x1), (3, .int x3)]) [0, 1, 2] rfl ?_
      exact s_X12_readKey_351 hg h
set_option maxRecDepth 20000 in
theorem s_X12_readKey_319 {g : Gb} (hg : xInj g) {n : Nat} {Q : Int32 → Mm → Prop} {T : Mm → Prop} {x1 : Int32} {x3 : Int32} {t0 : Int32} {u0 : Mm} (h : w_X12_readKey_319 n x1 x3 t0 u0 Q T) : xE g me_X12_readKey (pI g Q T) 319 [(0, .ref (gR g 0)), (1, .int x1), (3, .int x3)] [.int t0] u0 := by
  unfold w_X12_readKey_319 at h
  refine e_istore (k := 172) (i := 4) (lv' := [(0, .ref (gR g 0)), (1, .int x1), (3, .int x3), (4, .int t0)]) rfl (by decide) [1, 2, 3, 0] rfl ?_
  refine e_iload_n (k := 173) (i := 3) rfl rfl 2 rfl ?_
  refine e_iconst (k := 174) (v := (3 : Int32)) rfl (by decide) ?_
  refine e_iload (k := 175) (i := 4) rfl 3 rfl ?_
  refine e_imul (k := 176) rfl ?_
  refine e_isub (k := 177) rfl ?_
  refine e_ilet h (fun y1 h => ?_)
  refine e_istore_n (k := 178) (i := 3) (lv' := [(0, .ref (gR g 0)), (1, .int x1), (3, .int y1), (4, .int t0)]) rfl rfl (by decide) [1, 2, 0, 3] rfl ?_
  exact s_X12_readKey_328 hg h
set_option maxRecDepth 20000 in
theorem s_X12_readKey_218 {g : Gb} (hg : xInj g) {n : Nat} {Q : Int32 → Mm → Prop} {T : Mm → Prop} {x1 : Int32} {x3 : Int32} {x4 : Int32} {u0 : Mm} (h : w_X12_readKey_218 n x1 x3 x4 u0 Q T) : xE g me_X12_readKey (pI g Q T) 218 [(0, .ref (gR g 0)), (1, .int x1), (3, .int x3), (4, .int x4)] [] u0 := by
  unfold w_X12_readKey_218 at h
  refine e_iload_n (k := 115) (i := 3) rfl rfl 2 rfl ?_
  refine e_iconst (k := 116) (v := (3 : Int32)) rfl (by decide) ?_
  refine e_isub (k := 117) rfl ?_
  refine e_ilet h (fun y1 h => ?_)
  refine e_istore_n (k := 118) (i := 3) (lv' := [(0, .ref (gR g 0)), (1, .int x1), (3, .int y1), (4, .int x4)]) rfl rfl (by decide) [1, 2, 0, 3] rfl ?_
  refine e_goto (k := 119) (tgt := 328) rfl (by decide) ?_
  exact s_X12_readKey_328 hg h
set_option maxRecDepth 20000 in
theorem s_X12_readKey_193 {g : Gb} (hg : xInj g) {n : Nat} {Q : Int32 → Mm → Prop} {T : Mm → Prop} {x1 : Int32} {x3 : Int32} {x4 : Int32} {u0 : Mm} (h : w_X12_readKey_193 n x1 x3 x4 u0 Q T) : xE g me_X12_readKey (pI g Q T) 193 [(0, .ref (gR g 0)), (1, .int x1), (3, .int x3), (4, .int x4)] [] u0 := by
  unfold w_X12_readKey_193 at h
  refine e_iload_n (k := 102) (i := 3) rfl rfl 2 rfl ?_
  refine e_iconst (k := 103) (v := (0 : Int32)) rfl (by decide) ?_
  refine e_iadd (k := 104) rfl ?_
  refine e_ilet h (fun y1 h => ?_)
  refine e_istore_n (k := 105) (i := 3) (lv' := [(0, .ref (gR g 0)), (1, .int x1), (3, .int y1), (4, .int x4)]) rfl rfl (by decide) [1, 2, 0, 3] rfl ?_
  refine e_goto (k := 106) (tgt := 328) rfl (by decide) ?_
  exact s_X12_readKey_328 hg h
set_option maxRecDepth 20000 in
theorem s_X12_readKey_172 {g : Gb} (hg : xInj g) {n : Nat} {Q : Int32 → Mm → Prop} {T : Mm → Prop} {x1 : Int32} {x3 : Int32} {u0 : Mm} (h : w_X12_readKey_172 n x1 x3 u0 Q T) : xE g me_X12_readKey (pI g Q T) 172 [(0, .ref (gR g 0)), (1, .int x1), (3, .int x3)] [] u0 := by
  unfold w_X12_readKey_172 at h
  refine e_iconst (k := 92) (v := (3 : Int32)) rfl (by decide) ?_
  refine e_istore (k := 93) (i := 4) (lv' := [(0, .ref (gR g 0)), (1, .int x1), (3, .int x3), (4, .int (3 : Int32))]) rfl (by decide) [1, 2, 3, 0] rfl ?_
  refine e_aload_n (k := 94) (i := 0) rfl rfl 0 rfl ?_
  refine e_ldcS (k := 95) (j := 21) rfl rfl ?_
  refine e_callVi (k := 96) (q := 0) (As := [.ref (gK g 21)]) (rest := []) rfl (c_X12_isWord (g := g) hg (n := n) (by decide) h) m_X12_isWord i_X12_isWord l_X12_203 rfl ⟨_, rfl, rfl⟩ rfl rfl (Nat.le_of_ble_eq_true rfl) ⟨by decide, by decide, rfl, rfl⟩ (fun _ h => ⟨fun _ z => (by cases z), Or.inr ⟨rfl, h⟩⟩) (fun r1 u1 h => ?_)
  refine e_if_ne (k := 97) (tgt := 193) rfl (by decide) (fun z => ?_) (fun z => ?_)
  · have h := h.1 z
    exact s_X12_readKey_193 hg h
  · have h := h.2 z
    refine e_aload_n (k := 98) (i := 0) rfl rfl 0 rfl ?_
    refine e_ldcS (k := 99) (j := 22) rfl rfl ?_
    refine e_callVi (k := 100) (q := 0) (As := [.ref (gK g 22)]) (rest := []) rfl (c_X12_isWord (g := g) hg (n := n) (by decide) h) m_X12_isWord i_X12_isWord l_X12_203 rfl ⟨_, rfl, rfl⟩ rfl rfl (Nat.le_of_ble_eq_true rfl) ⟨by decide, by decide, rfl, rfl⟩ (fun _ h => ⟨fun _ z => (by cases z), Or.inr ⟨rfl, h⟩⟩) (fun r2 u2 h => ?_)
    refine e_if_eq (k := 101) (tgt := 200) rfl (by decide) (fun z => ?_) (fun z => ?_)
    · have h := h.1 z
      refine e_aload_n (k := 107) (i := 0) rfl rfl 0 rfl ?_
      refine e_ldcS (k := 108) (j := 23) rfl rfl ?_
      refine e_callVi (k := 109) (q := 0) (As := [.ref (gK g 23)]) (rest := []) rfl (c_X12_isWord (g := g) hg (n := n) (by decide) h) m_X12_isWord i_X12_isWord l_X12_203 rfl ⟨_, rfl, rfl⟩ rfl rfl (Nat.le_of_ble_eq_true rfl) ⟨by decide, by decide, rfl, rfl⟩ (fun _ h => ⟨fun _ z => (by cases z), Or.inr ⟨rfl, h⟩⟩) (fun r3 u3 h => ?_)
      refine e_if_ne (k := 110) (tgt := 218) rfl (by decide) (fun z => ?_) (fun z => ?_)
      · have h := h.1 z
        exact s_X12_readKey_218 hg h
      · have h := h.2 z
        refine e_aload_n (k := 111) (i := 0) rfl rfl 0 rfl ?_
        refine e_ldcS (k := 112) (j := 24) rfl rfl ?_
        refine e_callVi (k := 113) (q := 0) (As := [.ref (gK g 24)]) (rest := []) rfl (c_X12_isWord (g := g) hg (n := n) (by decide) h) m_X12_isWord i_X12_isWord l_X12_203 rfl ⟨_, rfl, rfl⟩ rfl rfl (Nat.le_of_ble_eq_true rfl) ⟨by decide, by decide, rfl, rfl⟩ (fun _ h => ⟨fun _ z => (by cases z), Or.inr ⟨rfl, h⟩⟩) (fun r4 u4 h => ?_)
        refine e_if_eq (k := 114) (tgt := 225) rfl (by decide) (fun z => ?_) (fun z => ?_)
        · have h := h.1 z
          refine e_aload_n (k := 120) (i := 0) rfl rfl 0 rfl ?_
          refine e_ldcS (k := 121) (j := 25) rfl rfl ?_
          refine e_callVi (k := 122) (q := 0) (As := [.ref (gK g 25)]) (rest := []) rfl (c_X12_isWord (g := g) hg (n := n) (by decide) h) m_X12_isWord i_X12_isWord l_X12_203 rfl ⟨_, rfl, rfl⟩ rfl rfl (Nat.le_of_ble_eq_true rfl) ⟨by decide, by decide, rfl, rfl⟩ (fun _ h => ⟨fun _ z => (by cases z), Or.inr ⟨rfl, h⟩⟩) (fun r5 u5 h => ?_)
          refine e_if_eq (k := 123) (tgt := 241) rfl (by decide) (fun z => ?_) (fun z => ?_)
          · have h := h.1 z
            refine e_aload_n (k := 129) (i := 0) rfl rfl 0 rfl ?_
            refine e_ldcS (k := 130) (j := 26) rfl rfl ?_
            refine e_callVi (k := 131) (q := 0) (As := [.ref (gK g 26)]) (rest := []) rfl (c_X12_isWord (g := g) hg (n := n) (by decide) h) m_X12_isWord i_X12_isWord l_X12_203 rfl ⟨_, rfl, rfl⟩ rfl rfl (Nat.le_of_ble_eq_true rfl) ⟨by decide, by decide, rfl, rfl⟩ (fun _ h => ⟨fun _ z => (by cases z), Or.inr ⟨rfl, h⟩⟩) (fun r6 u6 h => ?_)
            refine e_if_eq (k := 132) (tgt := 257) rfl (by decide) (fun z => ?_) (fun z => ?_)
            · have h := h.1 z
              refine e_aload_n (k := 138) (i := 0) rfl rfl 0 rfl ?_
              refine e_ldcS (k := 139) (j := 27) rfl rfl ?_
              refine e_callVi (k := 140) (q := 0) (As := [.ref (gK g 27)]) (rest := []) rfl (c_X12_isWord (g := g) hg (n := n) (by decide) h) m_X12_isWord i_X12_isWord l_X12_203 rfl ⟨_, rfl, rfl⟩ rfl rfl (Nat.le_of_ble_eq_true rfl) ⟨by decide, by decide, rfl, rfl⟩ (fun _ h => ⟨fun _ z => (by cases z), Or.inr ⟨rfl, h⟩⟩) (fun r7 u7 h => ?_)
              refine e_if_eq (k := 141) (tgt := 273) rfl (by decide) (fun z => ?_) (fun z => ?_)
              · have h := h.1 z
                refine e_aload_n (k := 147) (i := 0) rfl rfl 0 rfl ?_
                refine e_ldcS (k := 148) (j := 28) rfl rfl ?_
                refine e_callVi (k := 149) (q := 0) (As := [.ref (gK g 28)]) (rest := []) rfl (c_X12_isWord (g := g) hg (n := n) (by decide) h) m_X12_isWord i_X12_isWord l_X12_203 rfl ⟨_, rfl, rfl⟩ rfl rfl (Nat.le_of_ble_eq_true rfl) ⟨by decide, by decide, rfl, rfl⟩ (fun _ h => ⟨fun _ z => (by cases z), Or.inr ⟨rfl, h⟩⟩) (fun r8 u8 h => ?_)
                refine e_if_eq (k := 150) (tgt := 289) rfl (by decide) (fun z => ?_) (fun z => ?_)
                · have h := h.1 z
                  refine e_aload_n (k := 156) (i := 0) rfl rfl 0 rfl ?_
                  refine e_ldcS (k := 157) (j := 29) rfl rfl ?_
                  refine e_callVi (k := 158) (q := 0) (As := [.ref (gK g 29)]) (rest := []) rfl (c_X12_isWord (g := g) hg (n := n) (by decide) h) m_X12_isWord i_X12_isWord l_X12_203 rfl ⟨_, rfl, rfl⟩ rfl rfl (Nat.le_of_ble_eq_true rfl) ⟨by decide, by decide, rfl, rfl⟩ (fun _ h => ⟨fun _ z => (by cases z), Or.inr ⟨rfl, h⟩⟩) (fun r9 u9 h => ?_)
                  refine e_if_eq (k := 159) (tgt := 305) rfl (by decide) (fun z => ?_) (fun z => ?_)
                  · have h := h.1 z
                    refine e_aload_n (k := 165) (i := 0) rfl rfl 0 rfl ?_
                    refine e_ldcS (k := 166) (j := 30) rfl rfl ?_
                    refine e_callVi (k := 167) (q := 0) (As := [.ref (gK g 30)]) (rest := []) rfl (c_X12_isWord (g := g) hg (n := n) (by decide) h) m_X12_isWord i_X12_isWord l_X12_203 rfl ⟨_, rfl, rfl⟩ rfl rfl (Nat.le_of_ble_eq_true rfl) ⟨by decide, by decide, rfl, rfl⟩ (fun _ h => ⟨fun _ z => (by cases z), Or.inr ⟨rfl, h⟩⟩) (fun r10 u10 h => ?_)
                    refine e_if_eq (k := 168) (tgt := 318) rfl (by decide) (fun z => ?_) (fun z => ?_)
                    · have h := h.1 z
                      refine e_iconst (k := 171) (v := (0 : Int32)) rfl (by decide) ?_
                      refine e_sub (lv' := [(0, .ref (gR g 0)), (1, .int x1), (3, .int x3)]) [0, 1, 2] rfl ?_
                      exact s_X12_readKey_319 hg h
                    · have h := h.2 z
                      refine e_iconst (k := 169) (v := (1 : Int32)) rfl (by decide) ?_
                      refine e_goto (k := 170) (tgt := 319) rfl (by decide) ?_
                      refine e_sub (lv' := [(0, .ref (gR g 0)), (1, .int x1), (3, .int x3)]) [0, 1, 2] rfl ?_
                      exact s_X12_readKey_319 hg h
                  · have h := h.2 z
                    refine e_iload_n (k := 160) (i := 3) rfl rfl 2 rfl ?_
                    refine e_iconst (k := 161) (v := (5 : Int32)) rfl (by decide) ?_
                    refine e_isub (k := 162) rfl ?_
                    refine e_ilet h (fun y1 h => ?_)
                    refine e_istore_n (k := 163) (i := 3) (lv' := [(0, .ref (gR g 0)), (1, .int x1), (3, .int y1), (4, .int (3 : Int32))]) rfl rfl (by decide) [1, 2, 0, 3] rfl ?_
                    refine e_goto (k := 164) (tgt := 328) rfl (by decide) ?_
                    exact s_X12_readKey_328 hg h
                · have h := h.2 z
                  refine e_iload_n (k := 151) (i := 3) rfl rfl 2 rfl ?_
                  refine e_iconst (k := 152) (v := (1 : Int32)) rfl (by decide) ?_
                  refine e_isub (k := 153) rfl ?_
                  refine e_ilet h (fun y2 h => ?_)
                  refine e_istore_n (k := 154) (i := 3) (lv' := [(0, .ref (gR g 0)), (1, .int x1), (3, .int y2), (4, .int (3 : Int32))]) rfl rfl (by decide) [1, 2, 0, 3] rfl ?_
                  refine e_goto (k := 155) (tgt := 328) rfl (by decide) ?_
                  exact s_X12_readKey_328 hg h
              · have h := h.2 z
                refine e_iload_n (k := 142) (i := 3) rfl rfl 2 rfl ?_
                refine e_iconst (k := 143) (v := (1 : Int32)) rfl (by decide) ?_
                refine e_iadd (k := 144) rfl ?_
                refine e_ilet h (fun y3 h => ?_)
                refine e_istore_n (k := 145) (i := 3) (lv' := [(0, .ref (gR g 0)), (1, .int x1), (3, .int y3), (4, .int (3 : Int32))]) rfl rfl (by decide) [1, 2, 0, 3] rfl ?_
                refine e_goto (k := 146) (tgt := 328) rfl (by decide) ?_
                exact s_X12_readKey_328 hg h
            · have h := h.2 z
              refine e_iload_n (k := 133) (i := 3) rfl rfl 2 rfl ?_
              refine e_iconst (k := 134) (v := (4 : Int32)) rfl (by decide) ?_
              refine e_isub (k := 135) rfl ?_
              refine e_ilet h (fun y4 h => ?_)
              refine e_istore_n (k := 136) (i := 3) (lv' := [(0, .ref (gR g 0)), (1, .int x1), (3, .int y4), (4, .int (3 : Int32))]) rfl rfl (by decide) [1, 2, 0, 3] rfl ?_
              refine e_goto (k := 137) (tgt := 328) rfl (by decide) ?_
              exact s_X12_readKey_328 hg h
          · have h := h.2 z
            refine e_iload_n (k := 124) (i := 3) rfl rfl 2 rfl ?_
            refine e_iconst (k := 125) (v := (2 : Int32)) rfl (by decide) ?_
            refine e_isub (k := 126) rfl ?_
            refine e_ilet h (fun y5 h => ?_)
            refine e_istore_n (k := 127) (i := 3) (lv' := [(0, .ref (gR g 0)), (1, .int x1), (3, .int y5), (4, .int (3 : Int32))]) rfl rfl (by decide) [1, 2, 0, 3] rfl ?_
            refine e_goto (k := 128) (tgt := 328) rfl (by decide) ?_
            exact s_X12_readKey_328 hg h
        · have h := h.2 z
          exact s_X12_readKey_218 hg h
    · have h := h.2 z
      exact s_X12_readKey_193 hg h
set_option maxRecDepth 20000 in
theorem s_X12_readKey_161 {g : Gb} (hg : xInj g) {n : Nat} {Q : Int32 → Mm → Prop} {T : Mm → Prop} {x1 : Int32} {t0 : Int32} {u0 : Mm} (h : w_X12_readKey_161 n x1 t0 u0 Q T) : xE g me_X12_readKey (pI g Q T) 161 [(0, .ref (gR g 0)), (1, .int x1)] [.int t0] u0 := by
  unfold w_X12_readKey_161 at h
  refine e_istore_n (k := 85) (i := 3) (lv' := [(0, .ref (gR g 0)), (1, .int x1), (3, .int t0)]) rfl rfl (by decide) [1, 2, 0] rfl ?_
  refine e_aload_n (k := 86) (i := 0) rfl rfl 0 rfl ?_
  refine e_dup (k := 87) rfl rfl ?_
  refine e_getI (k := 88) rfl f_X12_138 rfl rfl ?_
  refine e_iconst (k := 89) (v := (1 : Int32)) rfl (by decide) ?_
  refine e_iadd (k := 90) rfl ?_
  refine e_putI (k := 91) rfl fg_X12_138 rfl rfl ?_
  refine e_mlet h (fun u1 h => ?_)
  exact s_X12_readKey_172 hg h
set_option maxRecDepth 20000 in
theorem s_X12_readKey_141 {g : Gb} (hg : xInj g) {n : Nat} {Q : Int32 → Mm → Prop} {T : Mm → Prop} {x1 : Int32} {x3 : Int32} {u0 : Mm} (h : w_X12_readKey_141 n x1 x3 u0 Q T) : xE g me_X12_readKey (pI g Q T) 141 [(0, .ref (gR g 0)), (1, .int x1), (3, .int x3)] [] u0 := by
  unfold w_X12_readKey_141 at h
  refine e_aload_n (k := 74) (i := 0) rfl rfl 0 rfl ?_
  refine e_bipush (k := 75) (v := (35 : Int32)) rfl (by decide) ?_
  refine e_callVi (k := 76) (q := 0) (As := [.int (35 : Int32)]) (rest := []) rfl (c_X12_is (g := g) hg (n := n) h) m_X12_is i_X12_is l_X12_166 rfl ⟨_, rfl, rfl⟩ rfl rfl (Nat.le_of_ble_eq_true rfl) ⟨by decide, by decide, rfl, rfl⟩ (fun _ h => ⟨fun _ z => (by cases z), Or.inr ⟨rfl, h⟩⟩) (fun r1 u1 h => ?_)
  refine e_if_eq (k := 77) (tgt := 157) rfl (by decide) (fun z => ?_) (fun z => ?_)
  · have h := h.1 z
    refine e_iload_n (k := 82) (i := 3) rfl rfl 2 rfl ?_
    refine e_bipush (k := 83) (v := (7 : Int32)) rfl (by decide) ?_
    refine e_isub (k := 84) rfl ?_
    refine e_sub (lv' := [(0, .ref (gR g 0)), (1, .int x1)]) [0, 1] rfl ?_
    exact s_X12_readKey_161 hg h
  · have h := h.2 z
    refine e_iload_n (k := 78) (i := 3) rfl rfl 2 rfl ?_
    refine e_bipush (k := 79) (v := (7 : Int32)) rfl (by decide) ?_
    refine e_iadd (k := 80) rfl ?_
    refine e_goto (k := 81) (tgt := 161) rfl (by decide) ?_
    refine e_sub (lv' := [(0, .ref (gR g 0)), (1, .int x1)]) [0, 1] rfl ?_
    exact s_X12_readKey_161 hg h
set_option maxRecDepth 20000 in
theorem s_X12_readKey_112 {g : Gb} (hg : xInj g) {n : Nat} {Q : Int32 → Mm → Prop} {T : Mm → Prop} {x1 : Int32} {t0 : Int32} {u0 : Mm} (h : w_X12_readKey_112 n x1 t0 u0 Q T) : xE g me_X12_readKey (pI g Q T) 112 [(0, .ref (gR g 0)), (1, .int x1)] [.int t0] u0 := by
  unfold w_X12_readKey_112 at h
  refine e_istore_n (k := 59) (i := 3) (lv' := [(0, .ref (gR g 0)), (1, .int x1), (3, .int t0)]) rfl rfl (by decide) [1, 2, 0] rfl ?_
  refine e_aload_n (k := 60) (i := 0) rfl rfl 0 rfl ?_
  refine e_dup (k := 61) rfl rfl ?_
  refine e_getI (k := 62) rfl f_X12_138 rfl rfl ?_
  refine e_iconst (k := 63) (v := (1 : Int32)) rfl (by decide) ?_
  refine e_iadd (k := 64) rfl ?_
  refine e_putI (k := 65) rfl fg_X12_138 rfl rfl ?_
  refine e_mlet h (fun u1 h => ?_)
  refine e_aload_n (k := 66) (i := 0) rfl rfl 0 rfl ?_
  refine e_bipush (k := 67) (v := (35 : Int32)) rfl (by decide) ?_
  refine e_callVi (k := 68) (q := 0) (As := [.int (35 : Int32)]) (rest := []) rfl (c_X12_is (g := g) hg (n := n) h) m_X12_is i_X12_is l_X12_166 rfl ⟨_, rfl, rfl⟩ rfl rfl (Nat.le_of_ble_eq_true rfl) ⟨by decide, by decide, rfl, rfl⟩ (fun _ h => ⟨fun _ z => (by cases z), Or.inr ⟨rfl, h⟩⟩) (fun r1 u2 h => ?_)
  refine e_if_ne (k := 69) (tgt := 141) rfl (by decide) (fun z => ?_) (fun z => ?_)
  · have h := h.1 z
    exact s_X12_readKey_141 hg h
  · have h := h.2 z
    refine e_aload_n (k := 70) (i := 0) rfl rfl 0 rfl ?_
    refine e_bipush (k := 71) (v := (98 : Int32)) rfl (by decide) ?_
    refine e_callVi (k := 72) (q := 0) (As := [.int (98 : Int32)]) (rest := []) rfl (c_X12_is (g := g) hg (n := n) h) m_X12_is i_X12_is l_X12_166 rfl ⟨_, rfl, rfl⟩ rfl rfl (Nat.le_of_ble_eq_true rfl) ⟨by decide, by decide, rfl, rfl⟩ (fun _ h => ⟨fun _ z => (by cases z), Or.inr ⟨rfl, h⟩⟩) (fun r2 u3 h => ?_)
    refine e_if_eq (k := 73) (tgt := 172) rfl (by decide) (fun z => ?_) (fun z => ?_)
    · have h := h.1 z
      exact s_X12_readKey_172 hg h
    · have h := h.2 z
      exact s_X12_readKey_141 hg h
set_option maxRecDepth 20000 in
theorem s_X12_readKey_51 {g : Gb} (hg : xInj g) {n : Nat} {Q : Int32 → Mm → Prop} {T : Mm → Prop} {x1 : Int32} {x2 : Int32} {u0 : Mm} (h : w_X12_readKey_51 n x1 x2 u0 Q T) : xE g me_X12_readKey (pI g Q T) 51 [(0, .ref (gR g 0)), (1, .int x1), (2, .int x2)] [] u0 := by
  unfold w_X12_readKey_51 at h
  refine e_iload_n (k := 28) (i := 2) rfl rfl 2 rfl ?_
  refine e_bipush (k := 29) (v := (70 : Int32)) rfl (by decide) ?_
  refine e_icmp_ne (k := 30) (tgt := 61) rfl (by decide) (fun z => ?_) (fun z => ?_)
  · have h := h.1 z
    refine e_iload_n (k := 33) (i := 2) rfl rfl 2 rfl ?_
    refine e_bipush (k := 34) (v := (67 : Int32)) rfl (by decide) ?_
    refine e_icmp_ne (k := 35) (tgt := 71) rfl (by decide) (fun z => ?_) (fun z => ?_)
    · have h := h.1 z
      refine e_iload_n (k := 38) (i := 2) rfl rfl 2 rfl ?_
      refine e_bipush (k := 39) (v := (71 : Int32)) rfl (by decide) ?_
      refine e_icmp_ne (k := 40) (tgt := 81) rfl (by decide) (fun z => ?_) (fun z => ?_)
      · have h := h.1 z
        refine e_iload_n (k := 43) (i := 2) rfl rfl 2 rfl ?_
        refine e_bipush (k := 44) (v := (68 : Int32)) rfl (by decide) ?_
        refine e_icmp_ne (k := 45) (tgt := 91) rfl (by decide) (fun z => ?_) (fun z => ?_)
        · have h := h.1 z
          refine e_iload_n (k := 48) (i := 2) rfl rfl 2 rfl ?_
          refine e_bipush (k := 49) (v := (65 : Int32)) rfl (by decide) ?_
          refine e_icmp_ne (k := 50) (tgt := 101) rfl (by decide) (fun z => ?_) (fun z => ?_)
          · have h := h.1 z
            refine e_iload_n (k := 53) (i := 2) rfl rfl 2 rfl ?_
            refine e_bipush (k := 54) (v := (69 : Int32)) rfl (by decide) ?_
            refine e_icmp_ne (k := 55) (tgt := 111) rfl (by decide) (fun z => ?_) (fun z => ?_)
            · have h := h.1 z
              refine e_iconst (k := 58) (v := (5 : Int32)) rfl (by decide) ?_
              refine e_sub (lv' := [(0, .ref (gR g 0)), (1, .int x1)]) [0, 1] rfl ?_
              exact s_X12_readKey_112 hg h
            · have h := h.2 z
              refine e_iconst (k := 56) (v := (4 : Int32)) rfl (by decide) ?_
              refine e_goto (k := 57) (tgt := 112) rfl (by decide) ?_
              refine e_sub (lv' := [(0, .ref (gR g 0)), (1, .int x1)]) [0, 1] rfl ?_
              exact s_X12_readKey_112 hg h
          · have h := h.2 z
            refine e_iconst (k := 51) (v := (3 : Int32)) rfl (by decide) ?_
            refine e_goto (k := 52) (tgt := 112) rfl (by decide) ?_
            refine e_sub (lv' := [(0, .ref (gR g 0)), (1, .int x1)]) [0, 1] rfl ?_
            exact s_X12_readKey_112 hg h
        · have h := h.2 z
          refine e_iconst (k := 46) (v := (2 : Int32)) rfl (by decide) ?_
          refine e_goto (k := 47) (tgt := 112) rfl (by decide) ?_
          refine e_sub (lv' := [(0, .ref (gR g 0)), (1, .int x1)]) [0, 1] rfl ?_
          exact s_X12_readKey_112 hg h
      · have h := h.2 z
        refine e_iconst (k := 41) (v := (1 : Int32)) rfl (by decide) ?_
        refine e_goto (k := 42) (tgt := 112) rfl (by decide) ?_
        refine e_sub (lv' := [(0, .ref (gR g 0)), (1, .int x1)]) [0, 1] rfl ?_
        exact s_X12_readKey_112 hg h
    · have h := h.2 z
      refine e_iconst (k := 36) (v := (0 : Int32)) rfl (by decide) ?_
      refine e_goto (k := 37) (tgt := 112) rfl (by decide) ?_
      refine e_sub (lv' := [(0, .ref (gR g 0)), (1, .int x1)]) [0, 1] rfl ?_
      exact s_X12_readKey_112 hg h
  · have h := h.2 z
    refine e_iconst (k := 31) (v := (-1 : Int32)) rfl (by decide) ?_
    refine e_goto (k := 32) (tgt := 112) rfl (by decide) ?_
    refine e_sub (lv' := [(0, .ref (gR g 0)), (1, .int x1)]) [0, 1] rfl ?_
    exact s_X12_readKey_112 hg h
set_option maxRecDepth 20000 in
theorem c_X12_readKey {g : Gb} (hg : xInj g) {n : Nat} {u0 : Mm} {Q : Int32 → Mm → Prop} {T : Mm → Prop} (h : w_X12_readKey n u0 Q T) : xMet (gL g) yX12_readKey (xws yX12_readKey cX12_readKey 5 (some .int)) (xRoom 4) (xPc g [.ref (gR g 0)] u0) (xQ g (pI g Q T)) (xA g) := by
  refine xbody (il := il_X12_readKey) hg il_X12_readKey_ok m_X12_readKey (Nat.le_of_ble_eq_true rfl) ?_
  show xE g me_X12_readKey (pI g Q T) 0 [(0, .ref (gR g 0))] [] u0
  unfold w_X12_readKey at h
  refine e_aload_n (k := 0) (i := 0) rfl rfl 0 rfl ?_
  refine e_getI (k := 1) rfl f_X12_138 rfl rfl ?_
  refine e_ilet h (fun y1 h => ?_)
  refine e_istore_n (k := 2) (i := 1) (lv' := [(0, .ref (gR g 0)), (1, .int y1)]) rfl rfl (by decide) [1, 0] rfl ?_
  refine e_aload_n (k := 3) (i := 0) rfl rfl 0 rfl ?_
  refine e_ldcS (k := 4) (j := 20) rfl rfl ?_
  refine e_callVi (k := 5) (q := 0) (As := [.ref (gK g 20)]) (rest := []) rfl (c_X12_isWord (g := g) hg (n := n) (by decide) h) m_X12_isWord i_X12_isWord l_X12_203 rfl ⟨_, rfl, rfl⟩ rfl rfl (Nat.le_of_ble_eq_true rfl) ⟨by decide, by decide, rfl, rfl⟩ (fun _ h => ⟨fun _ z => (by cases z), Or.inr ⟨rfl, h⟩⟩) (fun r1 u1 h => ?_)
  refine e_if_eq (k := 6) (tgt := 26) rfl (by decide) (fun z => ?_) (fun z => ?_)
  · have h := h.1 z
    refine e_aload_n (k := 15) (i := 0) rfl rfl 0 rfl ?_
    refine e_callVi (k := 16) (q := 0) (As := []) (rest := []) rfl (c_X12_here (g := g) hg (n := n) h) m_X12_here i_X12_here l_X12_162 rfl ⟨_, rfl, rfl⟩ rfl rfl (Nat.le_of_ble_eq_true rfl) ⟨by decide, by decide, rfl, rfl⟩ (fun _ h => ⟨fun _ z => (by cases z), Or.inr ⟨rfl, h⟩⟩) (fun r2 u2 h => ?_)
    refine e_istore_n (k := 17) (i := 2) (lv' := [(0, .ref (gR g 0)), (1, .int y1), (2, .int r2)]) rfl rfl (by decide) [1, 2, 0] rfl ?_
    refine e_iload_n (k := 18) (i := 2) rfl rfl 2 rfl ?_
    refine e_i2l (k := 19) rfl ?_
    refine e_ldc2 (k := 20) rfl k_X12_174 ?_
    refine e_ldc2 (k := 21) rfl k_X12_219 ?_
    refine e_callSi (k := 22) (As := [.long r2.toInt64, .long (65 : Int64), .long (71 : Int64)]) (rest := []) rfl (c_X12_in (g := g) hg (n := n) h) m_X12_in st_X12_in l_X12_125 rfl rfl (Nat.le_of_ble_eq_true rfl) ⟨by decide, by decide, rfl, rfl⟩ (fun _ h => ⟨fun _ z => (by cases z), Or.inr ⟨rfl, h⟩⟩) (fun r3 u3 h => ?_)
    refine e_if_ne (k := 23) (tgt := 51) rfl (by decide) (fun z => ?_) (fun z => ?_)
    · have h := h.1 z
      exact s_X12_readKey_51 hg h
    · have h := h.2 z
      refine e_aload_n (k := 24) (i := 0) rfl rfl 0 rfl ?_
      refine e_iconst (k := 25) (v := (1 : Int32)) rfl (by decide) ?_
      refine e_iload_n (k := 26) (i := 1) rfl rfl 1 rfl ?_
      refine e_callVv (k := 27) (q := 0) (As := [.int (1 : Int32), .int y1]) (rest := []) rfl (c_X12_fail (g := g) hg (n := n) h) m_X12_fail i_X12_fail l_X12_148 rfl ⟨_, rfl, rfl⟩ rfl rfl (Nat.le_of_ble_eq_true rfl) ⟨by decide, by decide, rfl, rfl⟩ (fun _ h => ⟨fun _ z => (by cases z), Or.inr ⟨rfl, h⟩⟩) (fun u4 h => ?_)
      exact s_X12_readKey_51 hg h
  · have h := h.2 z
    refine e_aload_n (k := 7) (i := 0) rfl rfl 0 rfl ?_
    refine e_aload_n (k := 8) (i := 0) rfl rfl 0 rfl ?_
    refine e_getI (k := 9) rfl f_X12_138 rfl rfl ?_
    refine e_iconst (k := 10) (v := (4 : Int32)) rfl (by decide) ?_
    refine e_iadd (k := 11) rfl ?_
    refine e_putI (k := 12) rfl fg_X12_138 rfl rfl ?_
    refine e_mlet h (fun u5 h => ?_)
    refine e_iconst (k := 13) (v := (0 : Int32)) rfl (by decide) ?_
    exact e_iret (k := 14) rfl rfl (Or.inl ⟨_, rfl, h⟩)
def il_X12_readNote : List (Nat × Instr × Nat) := [(0, .aload_n 0, 1), (1, .aload_n 0, 1), (2, .getfield 138, 3), (5, .putfield 317, 3), (8, .aload_n 0, 1), (9, .iconst 1, 1), (10, .putfield 320, 3), (13, .aload_n 0, 1), (14, .iconst 0, 1), (15, .putfield 324, 3), (18, .aload_n 0, 1), (19, .bipush 94, 2), (21, .invokevirtual 166, 3), (24, .ifCond .eq 59, 3), (27, .aload_n 0, 1), (28, .dup, 1), (29, .getfield 138, 3), (32, .iconst 1, 1), (33, .iadd, 1), (34, .putfield 138, 3), (37, .aload_n 0, 1), (38, .aload_n 0, 1), (39, .bipush 94, 2), (41, .invokevirtual 166, 3), (44, .ifCond .eq 7, 3), (47, .iconst 2, 1), (48, .goto 4, 3), (51, .iconst 1, 1), (52, .putfield 324, 3), (55, .aload_n 0, 1), (56, .aload_n 0, 1), (57, .getfield 324, 3), (60, .iconst 2, 1), (61, .if_icmp .ne 12, 3), (64, .aload_n 0, 1), (65, .getfield 138, 3), (68, .iconst 1, 1), (69, .iadd, 1), (70, .goto 7, 3), (73, .aload_n 0, 1), (74, .getfield 138, 3), (77, .putfield 138, 3), (80, .goto 97, 3), (83, .aload_n 0, 1), (84, .bipush 95, 2), (86, .invokevirtual 166, 3), (89, .ifCond .eq 61, 3), (92, .aload_n 0, 1), (93, .dup, 1), (94, .getfield 138, 3), (97, .iconst 1, 1), (98, .iadd, 1), (99, .putfield 138, 3), (102, .aload_n 0, 1), (103, .aload_n 0, 1), (104, .bipush 95, 2), (106, .invokevirtual 166, 3), (109, .ifCond .eq 8, 3), (112, .bipush (-2), 2), (114, .goto 4, 3), (117, .iconst (-1), 1), (118, .putfield 324, 3), (121, .aload_n 0, 1), (122, .aload_n 0, 1), (123, .getfield 324, 3), (126, .bipush (-2), 2), (128, .if_icmp .ne 12, 3), (131, .aload_n 0, 1), (132, .getfield 138, 3), (135, .iconst 1, 1), (136, .iadd, 1), (137, .goto 7, 3), (140, .aload_n 0, 1), (141, .getfield 138, 3), (144, .putfield 138, 3), (147, .goto 30, 3), (150, .aload_n 0, 1), (151, .bipush 61, 2), (153, .invokevirtual 166, 3), (156, .ifCond .eq 16, 3), (159, .aload_n 0, 1), (160, .dup, 1), (161, .getfield 138, 3), (164, .iconst 1, 1), (165, .iadd, 1), (166, .putfield 138, 3), (169, .goto 8, 3), (172, .aload_n 0, 1), (173, .iconst 0, 1), (174, .putfield 320, 3), (177, .aload_n 0, 1), (178, .invokevirtual 162, 3), (181, .istore_n 1, 1), (182, .iload_n 1, 1), (183, .invokestatic 314, 3), (186, .ifCond .ne 12, 3), (189, .aload_n 0, 1), (190, .iconst 1, 1), (191, .aload_n 0, 1), (192, .getfield 138, 3), (195, .invokevirtual 148, 3), (198, .iload_n 1, 1), (199, .i2l, 1), (200, .ldc2_w 178, 3), (203, .ldc2_w 312, 3), (206, .invokestatic 125, 3), (209, .ifCond .eq 10, 3), (212, .iload_n 1, 1), (213, .bipush 32, 2), (215, .isub, 1), (216, .goto 4, 3), (219, .iload_n 1, 1), (220, .istore_n 2, 1), (221, .aload_n 0, 1), (222, .iload_n 2, 1), (223, .bipush 67, 2), (225, .if_icmp .lt 10, 3), (228, .iload_n 2, 1), (229, .bipush 67, 2), (231, .isub, 1), (232, .goto 9, 3), (235, .iload_n 2, 1), (236, .bipush 65, 2), (238, .isub, 1), (239, .iconst 5, 1), (240, .iadd, 1), (241, .putfield 327, 3), (244, .aload_n 0, 1), (245, .iload_n 1, 1), (246, .iload_n 2, 1), (247, .if_icmp .ne 7, 3), (250, .iconst 4, 1), (251, .goto 4, 3), (254, .iconst 5, 1), (255, .putfield 330, 3), (258, .aload_n 0, 1), (259, .dup, 1), (260, .getfield 138, 3), (263, .iconst 1, 1), (264, .iadd, 1), (265, .putfield 138, 3), (268, .aload_n 0, 1), (269, .bipush 39, 2), (271, .invokevirtual 166, 3), (274, .ifCond .ne 12, 3), (277, .aload_n 0, 1), (278, .bipush 44, 2), (280, .invokevirtual 166, 3), (283, .ifCond .eq 44, 3), (286, .aload_n 0, 1), (287, .aload_n 0, 1), (288, .bipush 44, 2), (290, .invokevirtual 166, 3), (293, .ifCond .eq 12, 3), (296, .aload_n 0, 1), (297, .getfield 330, 3), (300, .iconst 1, 1), (301, .isub, 1), (302, .goto 9, 3), (305, .aload_n 0, 1), (306, .getfield 330, 3), (309, .iconst 1, 1), (310, .iadd, 1), (311, .putfield 330, 3), (314, .aload_n 0, 1), (315, .dup, 1), (316, .getfield 138, 3), (319, .iconst 1, 1), (320, .iadd, 1), (321, .putfield 138, 3), (324, .goto (-56), 3), (327, .return_, 1)]
set_option maxRecDepth 20000 in
theorem il_X12_readNote_ok : ∀ x ∈ il_X12_readNote, decode cX12_readNote x.1 = .ok x.2 := by decide +kernel
abbrev me_X12_readNote : Me := (RX12, il_X12_readNote, 3, none, xRoom 4, [])
def w_X12_readNote_311 (n : Nat) (L268 : Mm → Prop) (t0 : Int32) (u0 : Mm) (Q : Mm → Prop) (T : Mm → Prop) : Prop :=
  mlet (setI u0 0 57 t0) fun u1 =>
  mlet (setI u1 0 7 ((u1.1 0 7) + (1 : Int32))) fun u2 =>
  L268 u2
def w_X12_readNote_286 (n : Nat) (L268 : Mm → Prop) (u0 : Mm) (Q : Mm → Prop) (T : Mm → Prop) : Prop :=
  w_X12_is n (44 : Int32) u0 (fun r1 u1 =>
  (r1 = 0 → w_X12_readNote_311 n L268 ((u1.1 0 57) + (1 : Int32)) u1 Q T) ∧
  (¬ r1 = 0 → w_X12_readNote_311 n L268 ((u1.1 0 57) - (1 : Int32)) u1 Q T)) T
def w_X12_readNote_268 (n : Nat) (Q : Mm → Prop) (T : Mm → Prop) : Nat → Mm → Prop
  | 0, _ => False
  | k + 1, u0 =>
  w_X12_is n (39 : Int32) u0 (fun r1 u1 =>
  (¬ r1 = 0 → w_X12_readNote_286 n (w_X12_readNote_268 n Q T k) u1 Q T) ∧
  (r1 = 0 → w_X12_is n (44 : Int32) u1 (fun r2 u2 =>
  (r2 = 0 → Q u2) ∧
  (¬ r2 = 0 → w_X12_readNote_286 n (w_X12_readNote_268 n Q T k) u2 Q T)) T)) T
def w_X12_readNote_255 (n : Nat) (t0 : Int32) (u0 : Mm) (Q : Mm → Prop) (T : Mm → Prop) : Prop :=
  mlet (setI u0 0 57 t0) fun u1 =>
  mlet (setI u1 0 7 ((u1.1 0 7) + (1 : Int32))) fun u2 =>
  (w_X12_readNote_268 n Q T n) u2
def w_X12_readNote_241 (n : Nat) (x1 : Int32) (x2 : Int32) (t0 : Int32) (u0 : Mm) (Q : Mm → Prop) (T : Mm → Prop) : Prop :=
  mlet (setI u0 0 56 t0) fun u1 =>
  (¬ x1 = x2 → w_X12_readNote_255 n (5 : Int32) u1 Q T) ∧
  (x1 = x2 → w_X12_readNote_255 n (4 : Int32) u1 Q T)
def w_X12_readNote_220 (n : Nat) (x1 : Int32) (t0 : Int32) (u0 : Mm) (Q : Mm → Prop) (T : Mm → Prop) : Prop :=
  (t0 < (67 : Int32) → w_X12_readNote_241 n x1 t0 ((t0 - (65 : Int32)) + (5 : Int32)) u0 Q T) ∧
  (¬ t0 < (67 : Int32) → w_X12_readNote_241 n x1 t0 (t0 - (67 : Int32)) u0 Q T)
def w_X12_readNote_198 (n : Nat) (x1 : Int32) (u0 : Mm) (Q : Mm → Prop) (T : Mm → Prop) : Prop :=
  w_X12_in n (x1.toInt64) (97 : Int64) (103 : Int64) u0 (fun r1 u1 =>
  (r1 = 0 → w_X12_readNote_220 n x1 x1 u1 Q T) ∧
  (¬ r1 = 0 → w_X12_readNote_220 n x1 (x1 - (32 : Int32)) u1 Q T)) T
def w_X12_readNote_177 (n : Nat) (u0 : Mm) (Q : Mm → Prop) (T : Mm → Prop) : Prop :=
  w_X12_here n u0 (fun r1 u1 =>
  w_X12_isNoteLetter n r1 u1 (fun r2 u2 =>
  (¬ r2 = 0 → w_X12_readNote_198 n r1 u2 Q T) ∧
  (r2 = 0 → w_X12_fail n (1 : Int32) (u2.1 0 7) u2 (fun u3 =>
  w_X12_readNote_198 n r1 u3 Q T) T)) T) T
def w_X12_readNote_144 (n : Nat) (t0 : Int32) (u0 : Mm) (Q : Mm → Prop) (T : Mm → Prop) : Prop :=
  mlet (setI u0 0 7 t0) fun u1 =>
  w_X12_readNote_177 n u1 Q T
def w_X12_readNote_118 (n : Nat) (t0 : Int32) (u0 : Mm) (Q : Mm → Prop) (T : Mm → Prop) : Prop :=
  mlet (setI u0 0 54 t0) fun u1 =>
  (¬ (u1.1 0 54) = (-2 : Int32) → w_X12_readNote_144 n (u1.1 0 7) u1 Q T) ∧
  ((u1.1 0 54) = (-2 : Int32) → w_X12_readNote_144 n ((u1.1 0 7) + (1 : Int32)) u1 Q T)
def w_X12_readNote_77 (n : Nat) (t0 : Int32) (u0 : Mm) (Q : Mm → Prop) (T : Mm → Prop) : Prop :=
  mlet (setI u0 0 7 t0) fun u1 =>
  w_X12_readNote_177 n u1 Q T
def w_X12_readNote_52 (n : Nat) (t0 : Int32) (u0 : Mm) (Q : Mm → Prop) (T : Mm → Prop) : Prop :=
  mlet (setI u0 0 54 t0) fun u1 =>
  (¬ (u1.1 0 54) = (2 : Int32) → w_X12_readNote_77 n (u1.1 0 7) u1 Q T) ∧
  ((u1.1 0 54) = (2 : Int32) → w_X12_readNote_77 n ((u1.1 0 7) + (1 : Int32)) u1 Q T)
def w_X12_readNote (n : Nat) (u0 : Mm) (Q : Mm → Prop) (T : Mm → Prop) : Prop :=
  mlet (setI u0 0 58 (u0.1 0 7)) fun u1 =>
  mlet (setI u1 0 55 (1 : Int32)) fun u2 =>
  mlet (setI u2 0 54 (0 : Int32)) fun u3 =>
  w_X12_is n (94 : Int32) u3 (fun r1 u4 =>
  (r1 = 0 → w_X12_is n (95 : Int32) u4 (fun r2 u5 =>
  (r2 = 0 → w_X12_is n (61 : Int32) u5 (fun r3 u6 =>
  (r3 = 0 → mlet (setI u6 0 55 (0 : Int32)) fun u7 =>
  w_X12_readNote_177 n u7 Q T) ∧
  (¬ r3 = 0 → mlet (setI u6 0 7 ((u6.1 0 7) + (1 : Int32))) fun u8 =>
  w_X12_readNote_177 n u8 Q T)) T) ∧
  (¬ r2 = 0 → mlet (setI u5 0 7 ((u5.1 0 7) + (1 : Int32))) fun u9 =>
  w_X12_is n (95 : Int32) u9 (fun r4 u10 =>
  (r4 = 0 → w_X12_readNote_118 n (-1 : Int32) u10 Q T) ∧
  (¬ r4 = 0 → w_X12_readNote_118 n (-2 : Int32) u10 Q T)) T)) T) ∧
  (¬ r1 = 0 → mlet (setI u4 0 7 ((u4.1 0 7) + (1 : Int32))) fun u11 =>
  w_X12_is n (94 : Int32) u11 (fun r5 u12 =>
  (r5 = 0 → w_X12_readNote_52 n (1 : Int32) u12 Q T) ∧
  (¬ r5 = 0 → w_X12_readNote_52 n (2 : Int32) u12 Q T)) T)) T
set_option maxRecDepth 20000 in
theorem s_X12_readNote_311 {g : Gb} (hg : xInj g) {n : Nat} {Q : Mm → Prop} {T : Mm → Prop} {L268 : Mm → Prop} (hL268 : ∀ (u0 : Mm), L268  u0 → xE g me_X12_readNote (pV g Q T) 268 [(0, .ref (gR g 0))] [] u0) {t0 : Int32} {u0 : Mm} (h : w_X12_readNote_311 n L268 t0 u0 Q T) : xE g me_X12_readNote (pV g Q T) 311 [(0, .ref (gR g 0))] [.int t0, .ref (gR g 0)] u0 := by
  unfold w_X12_readNote_311 at h
  refine e_putI (k := 163) rfl fg_X12_330 rfl rfl ?_
  refine e_mlet h (fun u1 h => ?_)
  refine e_aload_n (k := 164) (i := 0) rfl rfl 0 rfl ?_
  refine e_dup (k := 165) rfl rfl ?_
  refine e_getI (k := 166) rfl f_X12_138 rfl rfl ?_
  refine e_iconst (k := 167) (v := (1 : Int32)) rfl (by decide) ?_
  refine e_iadd (k := 168) rfl ?_
  refine e_putI (k := 169) rfl fg_X12_138 rfl rfl ?_
  refine e_mlet h (fun u2 h => ?_)
  refine e_goto (k := 170) (tgt := 268) rfl (by decide) ?_
  exact hL268 u2 h
set_option maxRecDepth 20000 in
theorem s_X12_readNote_286 {g : Gb} (hg : xInj g) {n : Nat} {Q : Mm → Prop} {T : Mm → Prop} {L268 : Mm → Prop} (hL268 : ∀ (u0 : Mm), L268  u0 → xE g me_X12_readNote (pV g Q T) 268 [(0, .ref (gR g 0))] [] u0) {u0 : Mm} (h : w_X12_readNote_286 n L268  u0 Q T) : xE g me_X12_readNote (pV g Q T) 286 [(0, .ref (gR g 0))] [] u0 := by
  unfold w_X12_readNote_286 at h
  refine e_aload_n (k := 149) (i := 0) rfl rfl 0 rfl ?_
  refine e_aload_n (k := 150) (i := 0) rfl rfl 0 rfl ?_
  refine e_bipush (k := 151) (v := (44 : Int32)) rfl (by decide) ?_
  refine e_callVi (k := 152) (q := 0) (As := [.int (44 : Int32)]) (rest := [.ref (gR g 0)]) rfl (c_X12_is (g := g) hg (n := n) h) m_X12_is i_X12_is l_X12_166 rfl ⟨_, rfl, rfl⟩ rfl rfl (Nat.le_of_ble_eq_true rfl) ⟨by decide, by decide, rfl, rfl⟩ (fun _ h => ⟨fun _ z => (by cases z), Or.inr ⟨rfl, h⟩⟩) (fun r1 u1 h => ?_)
  refine e_if_eq (k := 153) (tgt := 305) rfl (by decide) (fun z => ?_) (fun z => ?_)
  · have h := h.1 z
    refine e_aload_n (k := 159) (i := 0) rfl rfl 0 rfl ?_
    refine e_getI (k := 160) rfl f_X12_330 rfl rfl ?_
    refine e_iconst (k := 161) (v := (1 : Int32)) rfl (by decide) ?_
    refine e_iadd (k := 162) rfl ?_
    exact s_X12_readNote_311 hg hL268 h
  · have h := h.2 z
    refine e_aload_n (k := 154) (i := 0) rfl rfl 0 rfl ?_
    refine e_getI (k := 155) rfl f_X12_330 rfl rfl ?_
    refine e_iconst (k := 156) (v := (1 : Int32)) rfl (by decide) ?_
    refine e_isub (k := 157) rfl ?_
    refine e_goto (k := 158) (tgt := 311) rfl (by decide) ?_
    exact s_X12_readNote_311 hg hL268 h
set_option maxRecDepth 20000 in
theorem s_X12_readNote_268 {g : Gb} (hg : xInj g) {n : Nat} {Q : Mm → Prop} {T : Mm → Prop} : ∀ (k : Nat) (u0 : Mm), w_X12_readNote_268 n Q T k  u0 → xE g me_X12_readNote (pV g Q T) 268 [(0, .ref (gR g 0))] [] u0 := by
  intro k
  induction k with
  | zero => intro  u0 h; exact h.elim
  | succ k ih =>
    intro  u0 h
    unfold w_X12_readNote_268 at h
    refine e_aload_n (k := 141) (i := 0) rfl rfl 0 rfl ?_
    refine e_bipush (k := 142) (v := (39 : Int32)) rfl (by decide) ?_
    refine e_callVi (k := 143) (q := 0) (As := [.int (39 : Int32)]) (rest := []) rfl (c_X12_is (g := g) hg (n := n) h) m_X12_is i_X12_is l_X12_166 rfl ⟨_, rfl, rfl⟩ rfl rfl (Nat.le_of_ble_eq_true rfl) ⟨by decide, by decide, rfl, rfl⟩ (fun _ h => ⟨fun _ z => (by cases z), Or.inr ⟨rfl, h⟩⟩) (fun r1 u1 h => ?_)
    refine e_if_ne (k := 144) (tgt := 286) rfl (by decide) (fun z => ?_) (fun z => ?_)
    · have h := h.1 z
      exact s_X12_readNote_286 hg ih h
    · have h := h.2 z
      refine e_aload_n (k := 145) (i := 0) rfl rfl 0 rfl ?_
      refine e_bipush (k := 146) (v := (44 : Int32)) rfl (by decide) ?_
      refine e_callVi (k := 147) (q := 0) (As := [.int (44 : Int32)]) (rest := []) rfl (c_X12_is (g := g) hg (n := n) h) m_X12_is i_X12_is l_X12_166 rfl ⟨_, rfl, rfl⟩ rfl rfl (Nat.le_of_ble_eq_true rfl) ⟨by decide, by decide, rfl, rfl⟩ (fun _ h => ⟨fun _ z => (by cases z), Or.inr ⟨rfl, h⟩⟩) (fun r2 u2 h => ?_)
      refine e_if_eq (k := 148) (tgt := 327) rfl (by decide) (fun z => ?_) (fun z => ?_)
      · have h := h.1 z
        exact e_vret (k := 171) rfl rfl (Or.inl ⟨rfl, h⟩)
      · have h := h.2 z
        exact s_X12_readNote_286 hg ih h
set_option maxRecDepth 20000 in
theorem s_X12_readNote_255 {g : Gb} (hg : xInj g) {n : Nat} {Q : Mm → Prop} {T : Mm → Prop} {t0 : Int32} {u0 : Mm} (h : w_X12_readNote_255 n t0 u0 Q T) : xE g me_X12_readNote (pV g Q T) 255 [(0, .ref (gR g 0))] [.int t0, .ref (gR g 0)] u0 := by
  unfold w_X12_readNote_255 at h
  refine e_putI (k := 134) rfl fg_X12_330 rfl rfl ?_
  refine e_mlet h (fun u1 h => ?_)
  refine e_aload_n (k := 135) (i := 0) rfl rfl 0 rfl ?_
  refine e_dup (k := 136) rfl rfl ?_
  refine e_getI (k := 137) rfl f_X12_138 rfl rfl ?_
  refine e_iconst (k := 138) (v := (1 : Int32)) rfl (by decide) ?_
  refine e_iadd (k := 139) rfl ?_
  refine e_putI (k := 140) rfl fg_X12_138 rfl rfl ?_
  refine e_mlet h (fun u2 h => ?_)
  exact s_X12_readNote_268 hg n u2 h
set_option maxRecDepth 20000 in
theorem s_X12_readNote_241 {g : Gb} (hg : xInj g) {n : Nat} {Q : Mm → Prop} {T : Mm → Prop} {x1 : Int32} {x2 : Int32} {t0 : Int32} {u0 : Mm} (h : w_X12_readNote_241 n x1 x2 t0 u0 Q T) : xE g me_X12_readNote (pV g Q T) 241 [(0, .ref (gR g 0)), (1, .int x1), (2, .int x2)] [.int t0, .ref (gR g 0)] u0 := by
  unfold w_X12_readNote_241 at h
  refine e_putI (k := 126) rfl fg_X12_327 rfl rfl ?_
  refine e_mlet h (fun u1 h => ?_)
  refine e_aload_n (k := 127) (i := 0) rfl rfl 0 rfl ?_
  refine e_iload_n (k := 128) (i := 1) rfl rfl 1 rfl ?_
  refine e_iload_n (k := 129) (i := 2) rfl rfl 2 rfl ?_
  refine e_icmp_ne (k := 130) (tgt := 254) rfl (by decide) (fun z => ?_) (fun z => ?_)
  · have h := h.1 z
    refine e_iconst (k := 133) (v := (5 : Int32)) rfl (by decide) ?_
    refine e_sub (lv' := [(0, .ref (gR g 0))]) [0] rfl ?_
    exact s_X12_readNote_255 hg h
  · have h := h.2 z
    refine e_iconst (k := 131) (v := (4 : Int32)) rfl (by decide) ?_
    refine e_goto (k := 132) (tgt := 255) rfl (by decide) ?_
    refine e_sub (lv' := [(0, .ref (gR g 0))]) [0] rfl ?_
    exact s_X12_readNote_255 hg h
set_option maxRecDepth 20000 in
theorem s_X12_readNote_220 {g : Gb} (hg : xInj g) {n : Nat} {Q : Mm → Prop} {T : Mm → Prop} {x1 : Int32} {t0 : Int32} {u0 : Mm} (h : w_X12_readNote_220 n x1 t0 u0 Q T) : xE g me_X12_readNote (pV g Q T) 220 [(0, .ref (gR g 0)), (1, .int x1)] [.int t0] u0 := by
  unfold w_X12_readNote_220 at h
  refine e_istore_n (k := 112) (i := 2) (lv' := [(0, .ref (gR g 0)), (1, .int x1), (2, .int t0)]) rfl rfl (by decide) [1, 2, 0] rfl ?_
  refine e_aload_n (k := 113) (i := 0) rfl rfl 0 rfl ?_
  refine e_iload_n (k := 114) (i := 2) rfl rfl 2 rfl ?_
  refine e_bipush (k := 115) (v := (67 : Int32)) rfl (by decide) ?_
  refine e_icmp_lt (k := 116) (tgt := 235) rfl (by decide) (fun z => ?_) (fun z => ?_)
  · have h := h.1 z
    refine e_iload_n (k := 121) (i := 2) rfl rfl 2 rfl ?_
    refine e_bipush (k := 122) (v := (65 : Int32)) rfl (by decide) ?_
    refine e_isub (k := 123) rfl ?_
    refine e_iconst (k := 124) (v := (5 : Int32)) rfl (by decide) ?_
    refine e_iadd (k := 125) rfl ?_
    exact s_X12_readNote_241 hg h
  · have h := h.2 z
    refine e_iload_n (k := 117) (i := 2) rfl rfl 2 rfl ?_
    refine e_bipush (k := 118) (v := (67 : Int32)) rfl (by decide) ?_
    refine e_isub (k := 119) rfl ?_
    refine e_goto (k := 120) (tgt := 241) rfl (by decide) ?_
    exact s_X12_readNote_241 hg h
set_option maxRecDepth 20000 in
theorem s_X12_readNote_198 {g : Gb} (hg : xInj g) {n : Nat} {Q : Mm → Prop} {T : Mm → Prop} {x1 : Int32} {u0 : Mm} (h : w_X12_readNote_198 n x1 u0 Q T) : xE g me_X12_readNote (pV g Q T) 198 [(0, .ref (gR g 0)), (1, .int x1)] [] u0 := by
  unfold w_X12_readNote_198 at h
  refine e_iload_n (k := 101) (i := 1) rfl rfl 1 rfl ?_
  refine e_i2l (k := 102) rfl ?_
  refine e_ldc2 (k := 103) rfl k_X12_178 ?_
  refine e_ldc2 (k := 104) rfl k_X12_312 ?_
  refine e_callSi (k := 105) (As := [.long x1.toInt64, .long (97 : Int64), .long (103 : Int64)]) (rest := []) rfl (c_X12_in (g := g) hg (n := n) h) m_X12_in st_X12_in l_X12_125 rfl rfl (Nat.le_of_ble_eq_true rfl) ⟨by decide, by decide, rfl, rfl⟩ (fun _ h => ⟨fun _ z => (by cases z), Or.inr ⟨rfl, h⟩⟩) (fun r1 u1 h => ?_)
  refine e_if_eq (k := 106) (tgt := 219) rfl (by decide) (fun z => ?_) (fun z => ?_)
  · have h := h.1 z
    refine e_iload_n (k := 111) (i := 1) rfl rfl 1 rfl ?_
    exact s_X12_readNote_220 hg h
  · have h := h.2 z
    refine e_iload_n (k := 107) (i := 1) rfl rfl 1 rfl ?_
    refine e_bipush (k := 108) (v := (32 : Int32)) rfl (by decide) ?_
    refine e_isub (k := 109) rfl ?_
    refine e_goto (k := 110) (tgt := 220) rfl (by decide) ?_
    exact s_X12_readNote_220 hg h
set_option maxRecDepth 20000 in
theorem s_X12_readNote_177 {g : Gb} (hg : xInj g) {n : Nat} {Q : Mm → Prop} {T : Mm → Prop} {u0 : Mm} (h : w_X12_readNote_177 n  u0 Q T) : xE g me_X12_readNote (pV g Q T) 177 [(0, .ref (gR g 0))] [] u0 := by
  unfold w_X12_readNote_177 at h
  refine e_aload_n (k := 90) (i := 0) rfl rfl 0 rfl ?_
  refine e_callVi (k := 91) (q := 0) (As := []) (rest := []) rfl (c_X12_here (g := g) hg (n := n) h) m_X12_here i_X12_here l_X12_162 rfl ⟨_, rfl, rfl⟩ rfl rfl (Nat.le_of_ble_eq_true rfl) ⟨by decide, by decide, rfl, rfl⟩ (fun _ h => ⟨fun _ z => (by cases z), Or.inr ⟨rfl, h⟩⟩) (fun r1 u1 h => ?_)
  refine e_istore_n (k := 92) (i := 1) (lv' := [(0, .ref (gR g 0)), (1, .int r1)]) rfl rfl (by decide) [1, 0] rfl ?_
  refine e_iload_n (k := 93) (i := 1) rfl rfl 1 rfl ?_
  refine e_callSi (k := 94) (As := [.int r1]) (rest := []) rfl (c_X12_isNoteLetter (g := g) hg (n := n) h) m_X12_isNoteLetter st_X12_isNoteLetter l_X12_314 rfl rfl (Nat.le_of_ble_eq_true rfl) ⟨by decide, by decide, rfl, rfl⟩ (fun _ h => ⟨fun _ z => (by cases z), Or.inr ⟨rfl, h⟩⟩) (fun r2 u2 h => ?_)
  refine e_if_ne (k := 95) (tgt := 198) rfl (by decide) (fun z => ?_) (fun z => ?_)
  · have h := h.1 z
    exact s_X12_readNote_198 hg h
  · have h := h.2 z
    refine e_aload_n (k := 96) (i := 0) rfl rfl 0 rfl ?_
    refine e_iconst (k := 97) (v := (1 : Int32)) rfl (by decide) ?_
    refine e_aload_n (k := 98) (i := 0) rfl rfl 0 rfl ?_
    refine e_getI (k := 99) rfl f_X12_138 rfl rfl ?_
    refine e_callVv (k := 100) (q := 0) (As := [.int (1 : Int32), .int (u2.1 0 7)]) (rest := []) rfl (c_X12_fail (g := g) hg (n := n) h) m_X12_fail i_X12_fail l_X12_148 rfl ⟨_, rfl, rfl⟩ rfl rfl (Nat.le_of_ble_eq_true rfl) ⟨by decide, by decide, rfl, rfl⟩ (fun _ h => ⟨fun _ z => (by cases z), Or.inr ⟨rfl, h⟩⟩) (fun u3 h => ?_)
    exact s_X12_readNote_198 hg h
set_option maxRecDepth 20000 in
theorem s_X12_readNote_144 {g : Gb} (hg : xInj g) {n : Nat} {Q : Mm → Prop} {T : Mm → Prop} {t0 : Int32} {u0 : Mm} (h : w_X12_readNote_144 n t0 u0 Q T) : xE g me_X12_readNote (pV g Q T) 144 [(0, .ref (gR g 0))] [.int t0, .ref (gR g 0)] u0 := by
  unfold w_X12_readNote_144 at h
  refine e_putI (k := 74) rfl fg_X12_138 rfl rfl ?_
  refine e_mlet h (fun u1 h => ?_)
  refine e_goto (k := 75) (tgt := 177) rfl (by decide) ?_
  exact s_X12_readNote_177 hg h
set_option maxRecDepth 20000 in
theorem s_X12_readNote_118 {g : Gb} (hg : xInj g) {n : Nat} {Q : Mm → Prop} {T : Mm → Prop} {t0 : Int32} {u0 : Mm} (h : w_X12_readNote_118 n t0 u0 Q T) : xE g me_X12_readNote (pV g Q T) 118 [(0, .ref (gR g 0))] [.int t0, .ref (gR g 0)] u0 := by
  unfold w_X12_readNote_118 at h
  refine e_putI (k := 61) rfl fg_X12_324 rfl rfl ?_
  refine e_mlet h (fun u1 h => ?_)
  refine e_aload_n (k := 62) (i := 0) rfl rfl 0 rfl ?_
  refine e_aload_n (k := 63) (i := 0) rfl rfl 0 rfl ?_
  refine e_getI (k := 64) rfl f_X12_324 rfl rfl ?_
  refine e_bipush (k := 65) (v := (-2 : Int32)) rfl (by decide) ?_
  refine e_icmp_ne (k := 66) (tgt := 140) rfl (by decide) (fun z => ?_) (fun z => ?_)
  · have h := h.1 z
    refine e_aload_n (k := 72) (i := 0) rfl rfl 0 rfl ?_
    refine e_getI (k := 73) rfl f_X12_138 rfl rfl ?_
    exact s_X12_readNote_144 hg h
  · have h := h.2 z
    refine e_aload_n (k := 67) (i := 0) rfl rfl 0 rfl ?_
    refine e_getI (k := 68) rfl f_X12_138 rfl rfl ?_
    refine e_iconst (k := 69) (v := (1 : Int32)) rfl (by decide) ?_
    refine e_iadd (k := 70) rfl ?_
    refine e_goto (k := 71) (tgt := 144) rfl (by decide) ?_
    exact s_X12_readNote_144 hg h
set_option maxRecDepth 20000 in
theorem s_X12_readNote_77 {g : Gb} (hg : xInj g) {n : Nat} {Q : Mm → Prop} {T : Mm → Prop} {t0 : Int32} {u0 : Mm} (h : w_X12_readNote_77 n t0 u0 Q T) : xE g me_X12_readNote (pV g Q T) 77 [(0, .ref (gR g 0))] [.int t0, .ref (gR g 0)] u0 := by
  unfold w_X12_readNote_77 at h
  refine e_putI (k := 41) rfl fg_X12_138 rfl rfl ?_
  refine e_mlet h (fun u1 h => ?_)
  refine e_goto (k := 42) (tgt := 177) rfl (by decide) ?_
  exact s_X12_readNote_177 hg h
set_option maxRecDepth 20000 in
theorem s_X12_readNote_52 {g : Gb} (hg : xInj g) {n : Nat} {Q : Mm → Prop} {T : Mm → Prop} {t0 : Int32} {u0 : Mm} (h : w_X12_readNote_52 n t0 u0 Q T) : xE g me_X12_readNote (pV g Q T) 52 [(0, .ref (gR g 0))] [.int t0, .ref (gR g 0)] u0 := by
  unfold w_X12_readNote_52 at h
  refine e_putI (k := 28) rfl fg_X12_324 rfl rfl ?_
  refine e_mlet h (fun u1 h => ?_)
  refine e_aload_n (k := 29) (i := 0) rfl rfl 0 rfl ?_
  refine e_aload_n (k := 30) (i := 0) rfl rfl 0 rfl ?_
  refine e_getI (k := 31) rfl f_X12_324 rfl rfl ?_
  refine e_iconst (k := 32) (v := (2 : Int32)) rfl (by decide) ?_
  refine e_icmp_ne (k := 33) (tgt := 73) rfl (by decide) (fun z => ?_) (fun z => ?_)
  · have h := h.1 z
    refine e_aload_n (k := 39) (i := 0) rfl rfl 0 rfl ?_
    refine e_getI (k := 40) rfl f_X12_138 rfl rfl ?_
    exact s_X12_readNote_77 hg h
  · have h := h.2 z
    refine e_aload_n (k := 34) (i := 0) rfl rfl 0 rfl ?_
    refine e_getI (k := 35) rfl f_X12_138 rfl rfl ?_
    refine e_iconst (k := 36) (v := (1 : Int32)) rfl (by decide) ?_
    refine e_iadd (k := 37) rfl ?_
    refine e_goto (k := 38) (tgt := 77) rfl (by decide) ?_
    exact s_X12_readNote_77 hg h
set_option maxRecDepth 20000 in
theorem c_X12_readNote {g : Gb} (hg : xInj g) {n : Nat} {u0 : Mm} {Q : Mm → Prop} {T : Mm → Prop} (h : w_X12_readNote n u0 Q T) : xMet (gL g) yX12_readNote (xws yX12_readNote cX12_readNote 3 none) (xRoom 4) (xPc g [.ref (gR g 0)] u0) (xQ g (pV g Q T)) (xA g) := by
  refine xbody (il := il_X12_readNote) hg il_X12_readNote_ok m_X12_readNote (Nat.le_of_ble_eq_true rfl) ?_
  show xE g me_X12_readNote (pV g Q T) 0 [(0, .ref (gR g 0))] [] u0
  unfold w_X12_readNote at h
  refine e_aload_n (k := 0) (i := 0) rfl rfl 0 rfl ?_
  refine e_aload_n (k := 1) (i := 0) rfl rfl 0 rfl ?_
  refine e_getI (k := 2) rfl f_X12_138 rfl rfl ?_
  refine e_putI (k := 3) rfl fg_X12_317 rfl rfl ?_
  refine e_mlet h (fun u1 h => ?_)
  refine e_aload_n (k := 4) (i := 0) rfl rfl 0 rfl ?_
  refine e_iconst (k := 5) (v := (1 : Int32)) rfl (by decide) ?_
  refine e_putZ (k := 6) rfl fg_X12_320 rfl rfl (Or.inr rfl) ?_
  refine e_mlet h (fun u2 h => ?_)
  refine e_aload_n (k := 7) (i := 0) rfl rfl 0 rfl ?_
  refine e_iconst (k := 8) (v := (0 : Int32)) rfl (by decide) ?_
  refine e_putI (k := 9) rfl fg_X12_324 rfl rfl ?_
  refine e_mlet h (fun u3 h => ?_)
  refine e_aload_n (k := 10) (i := 0) rfl rfl 0 rfl ?_
  refine e_bipush (k := 11) (v := (94 : Int32)) rfl (by decide) ?_
  refine e_callVi (k := 12) (q := 0) (As := [.int (94 : Int32)]) (rest := []) rfl (c_X12_is (g := g) hg (n := n) h) m_X12_is i_X12_is l_X12_166 rfl ⟨_, rfl, rfl⟩ rfl rfl (Nat.le_of_ble_eq_true rfl) ⟨by decide, by decide, rfl, rfl⟩ (fun _ h => ⟨fun _ z => (by cases z), Or.inr ⟨rfl, h⟩⟩) (fun r1 u4 h => ?_)
  refine e_if_eq (k := 13) (tgt := 83) rfl (by decide) (fun z => ?_) (fun z => ?_)
  · have h := h.1 z
    refine e_aload_n (k := 43) (i := 0) rfl rfl 0 rfl ?_
    refine e_bipush (k := 44) (v := (95 : Int32)) rfl (by decide) ?_
    refine e_callVi (k := 45) (q := 0) (As := [.int (95 : Int32)]) (rest := []) rfl (c_X12_is (g := g) hg (n := n) h) m_X12_is i_X12_is l_X12_166 rfl ⟨_, rfl, rfl⟩ rfl rfl (Nat.le_of_ble_eq_true rfl) ⟨by decide, by decide, rfl, rfl⟩ (fun _ h => ⟨fun _ z => (by cases z), Or.inr ⟨rfl, h⟩⟩) (fun r2 u5 h => ?_)
    refine e_if_eq (k := 46) (tgt := 150) rfl (by decide) (fun z => ?_) (fun z => ?_)
    · have h := h.1 z
      refine e_aload_n (k := 76) (i := 0) rfl rfl 0 rfl ?_
      refine e_bipush (k := 77) (v := (61 : Int32)) rfl (by decide) ?_
      refine e_callVi (k := 78) (q := 0) (As := [.int (61 : Int32)]) (rest := []) rfl (c_X12_is (g := g) hg (n := n) h) m_X12_is i_X12_is l_X12_166 rfl ⟨_, rfl, rfl⟩ rfl rfl (Nat.le_of_ble_eq_true rfl) ⟨by decide, by decide, rfl, rfl⟩ (fun _ h => ⟨fun _ z => (by cases z), Or.inr ⟨rfl, h⟩⟩) (fun r3 u6 h => ?_)
      refine e_if_eq (k := 79) (tgt := 172) rfl (by decide) (fun z => ?_) (fun z => ?_)
      · have h := h.1 z
        refine e_aload_n (k := 87) (i := 0) rfl rfl 0 rfl ?_
        refine e_iconst (k := 88) (v := (0 : Int32)) rfl (by decide) ?_
        refine e_putZ (k := 89) rfl fg_X12_320 rfl rfl (Or.inl rfl) ?_
        refine e_mlet h (fun u7 h => ?_)
        exact s_X12_readNote_177 hg h
      · have h := h.2 z
        refine e_aload_n (k := 80) (i := 0) rfl rfl 0 rfl ?_
        refine e_dup (k := 81) rfl rfl ?_
        refine e_getI (k := 82) rfl f_X12_138 rfl rfl ?_
        refine e_iconst (k := 83) (v := (1 : Int32)) rfl (by decide) ?_
        refine e_iadd (k := 84) rfl ?_
        refine e_putI (k := 85) rfl fg_X12_138 rfl rfl ?_
        refine e_mlet h (fun u8 h => ?_)
        refine e_goto (k := 86) (tgt := 177) rfl (by decide) ?_
        exact s_X12_readNote_177 hg h
    · have h := h.2 z
      refine e_aload_n (k := 47) (i := 0) rfl rfl 0 rfl ?_
      refine e_dup (k := 48) rfl rfl ?_
      refine e_getI (k := 49) rfl f_X12_138 rfl rfl ?_
      refine e_iconst (k := 50) (v := (1 : Int32)) rfl (by decide) ?_
      refine e_iadd (k := 51) rfl ?_
      refine e_putI (k := 52) rfl fg_X12_138 rfl rfl ?_
      refine e_mlet h (fun u9 h => ?_)
      refine e_aload_n (k := 53) (i := 0) rfl rfl 0 rfl ?_
      refine e_aload_n (k := 54) (i := 0) rfl rfl 0 rfl ?_
      refine e_bipush (k := 55) (v := (95 : Int32)) rfl (by decide) ?_
      refine e_callVi (k := 56) (q := 0) (As := [.int (95 : Int32)]) (rest := [.ref (gR g 0)]) rfl (c_X12_is (g := g) hg (n := n) h) m_X12_is i_X12_is l_X12_166 rfl ⟨_, rfl, rfl⟩ rfl rfl (Nat.le_of_ble_eq_true rfl) ⟨by decide, by decide, rfl, rfl⟩ (fun _ h => ⟨fun _ z => (by cases z), Or.inr ⟨rfl, h⟩⟩) (fun r4 u10 h => ?_)
      refine e_if_eq (k := 57) (tgt := 117) rfl (by decide) (fun z => ?_) (fun z => ?_)
      · have h := h.1 z
        refine e_iconst (k := 60) (v := (-1 : Int32)) rfl (by decide) ?_
        exact s_X12_readNote_118 hg h
      · have h := h.2 z
        refine e_bipush (k := 58) (v := (-2 : Int32)) rfl (by decide) ?_
        refine e_goto (k := 59) (tgt := 118) rfl (by decide) ?_
        exact s_X12_readNote_118 hg h
  · have h := h.2 z
    refine e_aload_n (k := 14) (i := 0) rfl rfl 0 rfl ?_
    refine e_dup (k := 15) rfl rfl ?_
    refine e_getI (k := 16) rfl f_X12_138 rfl rfl ?_
    refine e_iconst (k := 17) (v := (1 : Int32)) rfl (by decide) ?_
    refine e_iadd (k := 18) rfl ?_
    refine e_putI (k := 19) rfl fg_X12_138 rfl rfl ?_
    refine e_mlet h (fun u11 h => ?_)
    refine e_aload_n (k := 20) (i := 0) rfl rfl 0 rfl ?_
    refine e_aload_n (k := 21) (i := 0) rfl rfl 0 rfl ?_
    refine e_bipush (k := 22) (v := (94 : Int32)) rfl (by decide) ?_
    refine e_callVi (k := 23) (q := 0) (As := [.int (94 : Int32)]) (rest := [.ref (gR g 0)]) rfl (c_X12_is (g := g) hg (n := n) h) m_X12_is i_X12_is l_X12_166 rfl ⟨_, rfl, rfl⟩ rfl rfl (Nat.le_of_ble_eq_true rfl) ⟨by decide, by decide, rfl, rfl⟩ (fun _ h => ⟨fun _ z => (by cases z), Or.inr ⟨rfl, h⟩⟩) (fun r5 u12 h => ?_)
    refine e_if_eq (k := 24) (tgt := 51) rfl (by decide) (fun z => ?_) (fun z => ?_)
    · have h := h.1 z
      refine e_iconst (k := 27) (v := (1 : Int32)) rfl (by decide) ?_
      exact s_X12_readNote_52 hg h
    · have h := h.2 z
      refine e_iconst (k := 25) (v := (2 : Int32)) rfl (by decide) ?_
      refine e_goto (k := 26) (tgt := 52) rfl (by decide) ?_
      exact s_X12_readNote_52 hg h
def il_X12_readOpen : List (Nat × Instr × Nat) := [(0, .aload_n 0, 1), (1, .getfield 138, 3), (4, .istore_n 1, 1), (5, .aload_n 0, 1), (6, .aload_n 0, 1), (7, .getfield 138, 3), (10, .iconst 1, 1), (11, .iadd, 1), (12, .invokevirtual 141, 3), (15, .istore_n 2, 1), (16, .iload_n 2, 1), (17, .invokestatic 182, 3), (20, .ifCond .ne 48, 3), (23, .aload_n 0, 1), (24, .getfield 438, 3), (27, .iconst 4, 1), (28, .if_icmp .ne 9, 3), (31, .aload_n 0, 1), (32, .iconst 5, 1), (33, .iload_n 1, 1), (34, .invokevirtual 148, 3), (37, .aload_n 0, 1), (38, .dup, 1), (39, .getfield 138, 3), (42, .iconst 1, 1), (43, .iadd, 1), (44, .putfield 138, 3), (47, .aload_n 0, 1), (48, .dup, 1), (49, .getfield 438, 3), (52, .iconst 1, 1), (53, .iadd, 1), (54, .putfield 438, 3), (57, .aload_n 0, 1), (58, .dup, 1), (59, .getfield 416, 3), (62, .iconst 1, 1), (63, .iadd, 1), (64, .putfield 416, 3), (67, .return_, 1), (68, .aload_n 0, 1), (69, .dup, 1), (70, .getfield 138, 3), (73, .iconst 1, 1), (74, .iadd, 1), (75, .putfield 138, 3), (78, .aload_n 0, 1), (79, .iconst 2, 1), (80, .invokevirtual 441, 3), (83, .istore_n 3, 1), (84, .aload_n 0, 1), (85, .getfield 350, 3), (88, .ifCond .le 9, 3), (91, .aload_n 0, 1), (92, .iconst 5, 1), (93, .iload_n 1, 1), (94, .invokevirtual 148, 3), (97, .aload_n 0, 1), (98, .getfield 63, 3), (101, .aload_n 0, 1), (102, .getfield 290, 3), (105, .iaload, 1), (106, .bipush 8, 2), (108, .if_icmp .ne 49, 3), (111, .aload_n 0, 1), (112, .getfield 60, 3), (115, .aload_n 0, 1), (116, .getfield 290, 3), (119, .iaload, 1), (120, .bipush 6, 2), (122, .if_icmp .eq 31, 3), (125, .aload_n 0, 1), (126, .getfield 60, 3), (129, .aload_n 0, 1), (130, .getfield 290, 3), (133, .iaload, 1), (134, .bipush 9, 2), (136, .if_icmp .eq 17, 3), (139, .aload_n 0, 1), (140, .getfield 60, 3), (143, .aload_n 0, 1), (144, .getfield 290, 3), (147, .iaload, 1), (148, .bipush 12, 2), (150, .if_icmp .ne 7, 3), (153, .iconst 1, 1), (154, .goto 4, 3), (157, .iconst 0, 1), (158, .istore 4, 2), (160, .iload_n 3, 1), (161, .iconst 3, 1), (162, .if_icmp .eq 9, 3), (165, .iload_n 3, 1), (166, .bipush 6, 2), (168, .if_icmp .ne 7, 3), (171, .iconst 2, 1), (172, .goto 33, 3), (175, .iload_n 3, 1), (176, .iconst 2, 1), (177, .if_icmp .eq 14, 3), (180, .iload_n 3, 1), (181, .iconst 4, 1), (182, .if_icmp .eq 9, 3), (185, .iload_n 3, 1), (186, .bipush 8, 2), (188, .if_icmp .ne 7, 3), (191, .iconst 3, 1), (192, .goto 13, 3), (195, .iload 4, 2), (197, .ifCond .eq 7, 3), (200, .iconst 3, 1), (201, .goto 4, 3), (204, .iconst 2, 1), (205, .istore 5, 2), (207, .iload_n 3, 1), (208, .istore 6, 2), (210, .aload_n 0, 1), (211, .bipush 58, 2), (213, .invokevirtual 166, 3), (216, .ifCond .eq 76, 3), (219, .aload_n 0, 1), (220, .dup, 1), (221, .getfield 138, 3), (224, .iconst 1, 1), (225, .iadd, 1), (226, .putfield 138, 3), (229, .aload_n 0, 1), (230, .invokevirtual 162, 3), (233, .invokestatic 182, 3), (236, .ifCond .eq 11, 3), (239, .aload_n 0, 1), (240, .iconst 1, 1), (241, .invokevirtual 441, 3), (244, .goto 5, 3), (247, .iload 5, 2), (249, .istore 5, 2), (251, .aload_n 0, 1), (252, .bipush 58, 2), (254, .invokevirtual 166, 3), (257, .ifCond .eq 35, 3), (260, .aload_n 0, 1), (261, .dup, 1), (262, .getfield 138, 3), (265, .iconst 1, 1), (266, .iadd, 1), (267, .putfield 138, 3), (270, .aload_n 0, 1), (271, .invokevirtual 162, 3), (274, .invokestatic 182, 3), (277, .ifCond .eq 11, 3), (280, .aload_n 0, 1), (281, .iconst 1, 1), (282, .invokevirtual 441, 3), (285, .goto 5, 3), (288, .iload 6, 2), (290, .istore 6, 2), (292, .aload_n 0, 1), (293, .iload 6, 2), (295, .putfield 350, 3), (298, .aload_n 0, 1), (299, .iload_n 3, 1), (300, .putfield 356, 3), (303, .aload_n 0, 1), (304, .iload 5, 2), (306, .putfield 353, 3), (309, .return_, 1)]
set_option maxRecDepth 20000 in
theorem il_X12_readOpen_ok : ∀ x ∈ il_X12_readOpen, decode cX12_readOpen x.1 = .ok x.2 := by decide +kernel
abbrev me_X12_readOpen : Me := (RX12, il_X12_readOpen, 7, none, xRoom 4, [])
def w_X12_readOpen_292 (n : Nat) (x3 : Int32) (x5 : Int32) (x6 : Int32) (u0 : Mm) (Q : Mm → Prop) (T : Mm → Prop) : Prop :=
  mlet (setI u0 0 46 x6) fun u1 =>
  mlet (setI u1 0 47 x3) fun u2 =>
  mlet (setI u2 0 48 x5) fun u3 =>
  Q u3
def w_X12_readOpen_290 (n : Nat) (x3 : Int32) (x5 : Int32) (t0 : Int32) (u0 : Mm) (Q : Mm → Prop) (T : Mm → Prop) : Prop :=
  w_X12_readOpen_292 n x3 x5 t0 u0 Q T
def w_X12_readOpen_249 (n : Nat) (x3 : Int32) (x6 : Int32) (t0 : Int32) (u0 : Mm) (Q : Mm → Prop) (T : Mm → Prop) : Prop :=
  w_X12_is n (58 : Int32) u0 (fun r1 u1 =>
  (r1 = 0 → w_X12_readOpen_292 n x3 t0 x6 u1 Q T) ∧
  (¬ r1 = 0 → mlet (setI u1 0 7 ((u1.1 0 7) + (1 : Int32))) fun u2 =>
  w_X12_here n u2 (fun r2 u3 =>
  w_X12_isDigit n r2 u3 (fun r3 u4 =>
  (r3 = 0 → w_X12_readOpen_290 n x3 t0 x6 u4 Q T) ∧
  (¬ r3 = 0 → w_X12_oneDigit n (1 : Int32) u4 (fun r4 u5 =>
  w_X12_readOpen_290 n x3 t0 r4 u5 Q T) T)) T) T)) T
def w_X12_readOpen_205 (n : Nat) (x3 : Int32) (t0 : Int32) (u0 : Mm) (Q : Mm → Prop) (T : Mm → Prop) : Prop :=
  w_X12_is n (58 : Int32) u0 (fun r1 u1 =>
  (r1 = 0 → w_X12_readOpen_292 n x3 t0 x3 u1 Q T) ∧
  (¬ r1 = 0 → mlet (setI u1 0 7 ((u1.1 0 7) + (1 : Int32))) fun u2 =>
  w_X12_here n u2 (fun r2 u3 =>
  w_X12_isDigit n r2 u3 (fun r3 u4 =>
  (r3 = 0 → w_X12_readOpen_249 n x3 x3 t0 u4 Q T) ∧
  (¬ r3 = 0 → w_X12_oneDigit n (1 : Int32) u4 (fun r4 u5 =>
  w_X12_readOpen_249 n x3 x3 r4 u5 Q T) T)) T) T)) T
def w_X12_readOpen_191 (n : Nat) (x3 : Int32) (u0 : Mm) (Q : Mm → Prop) (T : Mm → Prop) : Prop :=
  w_X12_readOpen_205 n x3 (3 : Int32) u0 Q T
def w_X12_readOpen_171 (n : Nat) (x3 : Int32) (u0 : Mm) (Q : Mm → Prop) (T : Mm → Prop) : Prop :=
  w_X12_readOpen_205 n x3 (2 : Int32) u0 Q T
def w_X12_readOpen_158 (n : Nat) (x3 : Int32) (t0 : Int32) (u0 : Mm) (Q : Mm → Prop) (T : Mm → Prop) : Prop :=
  (x3 = (3 : Int32) → w_X12_readOpen_171 n x3 u0 Q T) ∧
  (¬ x3 = (3 : Int32) → (¬ x3 = (6 : Int32) → (x3 = (2 : Int32) → w_X12_readOpen_191 n x3 u0 Q T) ∧
  (¬ x3 = (2 : Int32) → (x3 = (4 : Int32) → w_X12_readOpen_191 n x3 u0 Q T) ∧
  (¬ x3 = (4 : Int32) → (¬ x3 = (8 : Int32) → (t0 = 0 → w_X12_readOpen_205 n x3 (2 : Int32) u0 Q T) ∧
  (¬ t0 = 0 → w_X12_readOpen_205 n x3 (3 : Int32) u0 Q T)) ∧
  (x3 = (8 : Int32) → w_X12_readOpen_191 n x3 u0 Q T)))) ∧
  (x3 = (6 : Int32) → w_X12_readOpen_171 n x3 u0 Q T))
def w_X12_readOpen_157 (n : Nat) (x3 : Int32) (u0 : Mm) (Q : Mm → Prop) (T : Mm → Prop) : Prop :=
  w_X12_readOpen_158 n x3 (0 : Int32) u0 Q T
def w_X12_readOpen_153 (n : Nat) (x3 : Int32) (u0 : Mm) (Q : Mm → Prop) (T : Mm → Prop) : Prop :=
  w_X12_readOpen_158 n x3 (1 : Int32) u0 Q T
def w_X12_readOpen_97 (n : Nat) (x3 : Int32) (u0 : Mm) (Q : Mm → Prop) (T : Mm → Prop) : Prop :=
  vp_in (u0.1 0 28) 3 ∧ ((¬ (u0.1 14 (ix (u0.1 0 28))) = (8 : Int32) → w_X12_readOpen_157 n x3 u0 Q T) ∧
  ((u0.1 14 (ix (u0.1 0 28))) = (8 : Int32) → vp_in (u0.1 0 28) 3 ∧ (((u0.1 13 (ix (u0.1 0 28))) = (6 : Int32) → w_X12_readOpen_153 n x3 u0 Q T) ∧
  (¬ (u0.1 13 (ix (u0.1 0 28))) = (6 : Int32) → vp_in (u0.1 0 28) 3 ∧ (((u0.1 13 (ix (u0.1 0 28))) = (9 : Int32) → w_X12_readOpen_153 n x3 u0 Q T) ∧
  (¬ (u0.1 13 (ix (u0.1 0 28))) = (9 : Int32) → vp_in (u0.1 0 28) 3 ∧ ((¬ (u0.1 13 (ix (u0.1 0 28))) = (12 : Int32) → w_X12_readOpen_157 n x3 u0 Q T) ∧
  ((u0.1 13 (ix (u0.1 0 28))) = (12 : Int32) → w_X12_readOpen_153 n x3 u0 Q T))))))))
def w_X12_readOpen_37 (n : Nat) (u0 : Mm) (Q : Mm → Prop) (T : Mm → Prop) : Prop :=
  mlet (setI u0 0 7 ((u0.1 0 7) + (1 : Int32))) fun u1 =>
  mlet (setI u1 0 45 ((u1.1 0 45) + (1 : Int32))) fun u2 =>
  mlet (setI u2 0 44 ((u2.1 0 44) + (1 : Int32))) fun u3 =>
  Q u3
def w_X12_readOpen (n : Nat) (u0 : Mm) (Q : Mm → Prop) (T : Mm → Prop) : Prop :=
  ilet (u0.1 0 7) fun y1 =>
  w_X12_peek n ((u0.1 0 7) + (1 : Int32)) u0 (fun r1 u1 =>
  w_X12_isDigit n r1 u1 (fun r2 u2 =>
  (¬ r2 = 0 → mlet (setI u2 0 7 ((u2.1 0 7) + (1 : Int32))) fun u3 =>
  w_X12_oneDigit n (2 : Int32) u3 (fun r3 u4 =>
  ((u4.1 0 46) ≤ 0 → w_X12_readOpen_97 n r3 u4 Q T) ∧
  (¬ (u4.1 0 46) ≤ 0 → w_X12_fail n (5 : Int32) y1 u4 (fun u5 =>
  w_X12_readOpen_97 n r3 u5 Q T) T)) T) ∧
  (r2 = 0 → (¬ (u2.1 0 45) = (4 : Int32) → w_X12_readOpen_37 n u2 Q T) ∧
  ((u2.1 0 45) = (4 : Int32) → w_X12_fail n (5 : Int32) y1 u2 (fun u6 =>
  w_X12_readOpen_37 n u6 Q T) T))) T) T
set_option maxRecDepth 20000 in
theorem s_X12_readOpen_292 {g : Gb} (hg : xInj g) {n : Nat} {Q : Mm → Prop} {T : Mm → Prop} {x3 : Int32} {x5 : Int32} {x6 : Int32} {u0 : Mm} (h : w_X12_readOpen_292 n x3 x5 x6 u0 Q T) : xE g me_X12_readOpen (pV g Q T) 292 [(0, .ref (gR g 0)), (3, .int x3), (5, .int x5), (6, .int x6)] [] u0 := by
  unfold w_X12_readOpen_292 at h
  refine e_aload_n (k := 156) (i := 0) rfl rfl 0 rfl ?_
  refine e_iload (k := 157) (i := 6) rfl 3 rfl ?_
  refine e_putI (k := 158) rfl fg_X12_350 rfl rfl ?_
  refine e_mlet h (fun u1 h => ?_)
  refine e_aload_n (k := 159) (i := 0) rfl rfl 0 rfl ?_
  refine e_iload_n (k := 160) (i := 3) rfl rfl 1 rfl ?_
  refine e_putI (k := 161) rfl fg_X12_356 rfl rfl ?_
  refine e_mlet h (fun u2 h => ?_)
  refine e_aload_n (k := 162) (i := 0) rfl rfl 0 rfl ?_
  refine e_iload (k := 163) (i := 5) rfl 2 rfl ?_
  refine e_putI (k := 164) rfl fg_X12_353 rfl rfl ?_
  refine e_mlet h (fun u3 h => ?_)
  exact e_vret (k := 165) rfl rfl (Or.inl ⟨rfl, h⟩)
set_option maxRecDepth 20000 in
theorem s_X12_readOpen_290 {g : Gb} (hg : xInj g) {n : Nat} {Q : Mm → Prop} {T : Mm → Prop} {x3 : Int32} {x5 : Int32} {t0 : Int32} {u0 : Mm} (h : w_X12_readOpen_290 n x3 x5 t0 u0 Q T) : xE g me_X12_readOpen (pV g Q T) 290 [(0, .ref (gR g 0)), (3, .int x3), (5, .int x5)] [.int t0] u0 := by
  unfold w_X12_readOpen_290 at h
  refine e_istore (k := 155) (i := 6) (lv' := [(0, .ref (gR g 0)), (3, .int x3), (5, .int x5), (6, .int t0)]) rfl (by decide) [1, 2, 3, 0] rfl ?_
  exact s_X12_readOpen_292 hg h
set_option maxRecDepth 20000 in
theorem s_X12_readOpen_249 {g : Gb} (hg : xInj g) {n : Nat} {Q : Mm → Prop} {T : Mm → Prop} {x3 : Int32} {x6 : Int32} {t0 : Int32} {u0 : Mm} (h : w_X12_readOpen_249 n x3 x6 t0 u0 Q T) : xE g me_X12_readOpen (pV g Q T) 249 [(0, .ref (gR g 0)), (3, .int x3), (6, .int x6)] [.int t0] u0 := by
  unfold w_X12_readOpen_249 at h
  refine e_istore (k := 135) (i := 5) (lv' := [(0, .ref (gR g 0)), (3, .int x3), (5, .int t0), (6, .int x6)]) rfl (by decide) [1, 2, 0, 3] rfl ?_
  refine e_aload_n (k := 136) (i := 0) rfl rfl 0 rfl ?_
  refine e_bipush (k := 137) (v := (58 : Int32)) rfl (by decide) ?_
  refine e_callVi (k := 138) (q := 0) (As := [.int (58 : Int32)]) (rest := []) rfl (c_X12_is (g := g) hg (n := n) h) m_X12_is i_X12_is l_X12_166 rfl ⟨_, rfl, rfl⟩ rfl rfl (Nat.le_of_ble_eq_true rfl) ⟨by decide, by decide, rfl, rfl⟩ (fun _ h => ⟨fun _ z => (by cases z), Or.inr ⟨rfl, h⟩⟩) (fun r1 u1 h => ?_)
  refine e_if_eq (k := 139) (tgt := 292) rfl (by decide) (fun z => ?_) (fun z => ?_)
  · have h := h.1 z
    exact s_X12_readOpen_292 hg h
  · have h := h.2 z
    refine e_aload_n (k := 140) (i := 0) rfl rfl 0 rfl ?_
    refine e_dup (k := 141) rfl rfl ?_
    refine e_getI (k := 142) rfl f_X12_138 rfl rfl ?_
    refine e_iconst (k := 143) (v := (1 : Int32)) rfl (by decide) ?_
    refine e_iadd (k := 144) rfl ?_
    refine e_putI (k := 145) rfl fg_X12_138 rfl rfl ?_
    refine e_mlet h (fun u2 h => ?_)
    refine e_aload_n (k := 146) (i := 0) rfl rfl 0 rfl ?_
    refine e_callVi (k := 147) (q := 0) (As := []) (rest := []) rfl (c_X12_here (g := g) hg (n := n) h) m_X12_here i_X12_here l_X12_162 rfl ⟨_, rfl, rfl⟩ rfl rfl (Nat.le_of_ble_eq_true rfl) ⟨by decide, by decide, rfl, rfl⟩ (fun _ h => ⟨fun _ z => (by cases z), Or.inr ⟨rfl, h⟩⟩) (fun r2 u3 h => ?_)
    refine e_callSi (k := 148) (As := [.int r2]) (rest := []) rfl (c_X12_isDigit (g := g) hg (n := n) h) m_X12_isDigit st_X12_isDigit l_X12_182 rfl rfl (Nat.le_of_ble_eq_true rfl) ⟨by decide, by decide, rfl, rfl⟩ (fun _ h => ⟨fun _ z => (by cases z), Or.inr ⟨rfl, h⟩⟩) (fun r3 u4 h => ?_)
    refine e_if_eq (k := 149) (tgt := 288) rfl (by decide) (fun z => ?_) (fun z => ?_)
    · have h := h.1 z
      refine e_iload (k := 154) (i := 6) rfl 3 rfl ?_
      refine e_sub (lv' := [(0, .ref (gR g 0)), (3, .int x3), (5, .int t0)]) [0, 1, 2] rfl ?_
      exact s_X12_readOpen_290 hg h
    · have h := h.2 z
      refine e_aload_n (k := 150) (i := 0) rfl rfl 0 rfl ?_
      refine e_iconst (k := 151) (v := (1 : Int32)) rfl (by decide) ?_
      refine e_callVi (k := 152) (q := 0) (As := [.int (1 : Int32)]) (rest := []) rfl (c_X12_oneDigit (g := g) hg (n := n) h) m_X12_oneDigit i_X12_oneDigit l_X12_441 rfl ⟨_, rfl, rfl⟩ rfl rfl (Nat.le_of_ble_eq_true rfl) ⟨by decide, by decide, rfl, rfl⟩ (fun _ h => ⟨fun _ z => (by cases z), Or.inr ⟨rfl, h⟩⟩) (fun r4 u5 h => ?_)
      refine e_goto (k := 153) (tgt := 290) rfl (by decide) ?_
      refine e_sub (lv' := [(0, .ref (gR g 0)), (3, .int x3), (5, .int t0)]) [0, 1, 2] rfl ?_
      exact s_X12_readOpen_290 hg h
set_option maxRecDepth 20000 in
theorem s_X12_readOpen_205 {g : Gb} (hg : xInj g) {n : Nat} {Q : Mm → Prop} {T : Mm → Prop} {x3 : Int32} {t0 : Int32} {u0 : Mm} (h : w_X12_readOpen_205 n x3 t0 u0 Q T) : xE g me_X12_readOpen (pV g Q T) 205 [(0, .ref (gR g 0)), (3, .int x3)] [.int t0] u0 := by
  unfold w_X12_readOpen_205 at h
  refine e_istore (k := 113) (i := 5) (lv' := [(0, .ref (gR g 0)), (3, .int x3), (5, .int t0)]) rfl (by decide) [1, 2, 0] rfl ?_
  refine e_iload_n (k := 114) (i := 3) rfl rfl 1 rfl ?_
  refine e_istore (k := 115) (i := 6) (lv' := [(0, .ref (gR g 0)), (3, .int x3), (5, .int t0), (6, .int x3)]) rfl (by decide) [1, 2, 3, 0] rfl ?_
  refine e_aload_n (k := 116) (i := 0) rfl rfl 0 rfl ?_
  refine e_bipush (k := 117) (v := (58 : Int32)) rfl (by decide) ?_
  refine e_callVi (k := 118) (q := 0) (As := [.int (58 : Int32)]) (rest := []) rfl (c_X12_is (g := g) hg (n := n) h) m_X12_is i_X12_is l_X12_166 rfl ⟨_, rfl, rfl⟩ rfl rfl (Nat.le_of_ble_eq_true rfl) ⟨by decide, by decide, rfl, rfl⟩ (fun _ h => ⟨fun _ z => (by cases z), Or.inr ⟨rfl, h⟩⟩) (fun r1 u1 h => ?_)
  refine e_if_eq (k := 119) (tgt := 292) rfl (by decide) (fun z => ?_) (fun z => ?_)
  · have h := h.1 z
    exact s_X12_readOpen_292 hg h
  · have h := h.2 z
    refine e_aload_n (k := 120) (i := 0) rfl rfl 0 rfl ?_
    refine e_dup (k := 121) rfl rfl ?_
    refine e_getI (k := 122) rfl f_X12_138 rfl rfl ?_
    refine e_iconst (k := 123) (v := (1 : Int32)) rfl (by decide) ?_
    refine e_iadd (k := 124) rfl ?_
    refine e_putI (k := 125) rfl fg_X12_138 rfl rfl ?_
    refine e_mlet h (fun u2 h => ?_)
    refine e_aload_n (k := 126) (i := 0) rfl rfl 0 rfl ?_
    refine e_callVi (k := 127) (q := 0) (As := []) (rest := []) rfl (c_X12_here (g := g) hg (n := n) h) m_X12_here i_X12_here l_X12_162 rfl ⟨_, rfl, rfl⟩ rfl rfl (Nat.le_of_ble_eq_true rfl) ⟨by decide, by decide, rfl, rfl⟩ (fun _ h => ⟨fun _ z => (by cases z), Or.inr ⟨rfl, h⟩⟩) (fun r2 u3 h => ?_)
    refine e_callSi (k := 128) (As := [.int r2]) (rest := []) rfl (c_X12_isDigit (g := g) hg (n := n) h) m_X12_isDigit st_X12_isDigit l_X12_182 rfl rfl (Nat.le_of_ble_eq_true rfl) ⟨by decide, by decide, rfl, rfl⟩ (fun _ h => ⟨fun _ z => (by cases z), Or.inr ⟨rfl, h⟩⟩) (fun r3 u4 h => ?_)
    refine e_if_eq (k := 129) (tgt := 247) rfl (by decide) (fun z => ?_) (fun z => ?_)
    · have h := h.1 z
      refine e_iload (k := 134) (i := 5) rfl 2 rfl ?_
      refine e_sub (lv' := [(0, .ref (gR g 0)), (3, .int x3), (6, .int x3)]) [0, 1, 3] rfl ?_
      exact s_X12_readOpen_249 hg h
    · have h := h.2 z
      refine e_aload_n (k := 130) (i := 0) rfl rfl 0 rfl ?_
      refine e_iconst (k := 131) (v := (1 : Int32)) rfl (by decide) ?_
      refine e_callVi (k := 132) (q := 0) (As := [.int (1 : Int32)]) (rest := []) rfl (c_X12_oneDigit (g := g) hg (n := n) h) m_X12_oneDigit i_X12_oneDigit l_X12_441 rfl ⟨_, rfl, rfl⟩ rfl rfl (Nat.le_of_ble_eq_true rfl) ⟨by decide, by decide, rfl, rfl⟩ (fun _ h => ⟨fun _ z => (by cases z), Or.inr ⟨rfl, h⟩⟩) (fun r4 u5 h => ?_)
      refine e_goto (k := 133) (tgt := 249) rfl (by decide) ?_
      refine e_sub (lv' := [(0, .ref (gR g 0)), (3, .int x3), (6, .int x3)]) [0, 1, 3] rfl ?_
      exact s_X12_readOpen_249 hg h
set_option maxRecDepth 20000 in
theorem s_X12_readOpen_191 {g : Gb} (hg : xInj g) {n : Nat} {Q : Mm → Prop} {T : Mm → Prop} {x3 : Int32} {u0 : Mm} (h : w_X12_readOpen_191 n x3 u0 Q T) : xE g me_X12_readOpen (pV g Q T) 191 [(0, .ref (gR g 0)), (3, .int x3)] [] u0 := by
  unfold w_X12_readOpen_191 at h
  refine e_iconst (k := 106) (v := (3 : Int32)) rfl (by decide) ?_
  refine e_goto (k := 107) (tgt := 205) rfl (by decide) ?_
  exact s_X12_readOpen_205 hg h
set_option maxRecDepth 20000 in
theorem s_X12_readOpen_171 {g : Gb} (hg : xInj g) {n : Nat} {Q : Mm → Prop} {T : Mm → Prop} {x3 : Int32} {u0 : Mm} (h : w_X12_readOpen_171 n x3 u0 Q T) : xE g me_X12_readOpen (pV g Q T) 171 [(0, .ref (gR g 0)), (3, .int x3)] [] u0 := by
  unfold w_X12_readOpen_171 at h
  refine e_iconst (k := 95) (v := (2 : Int32)) rfl (by decide) ?_
  refine e_goto (k := 96) (tgt := 205) rfl (by decide) ?_
  exact s_X12_readOpen_205 hg h
set_option maxRecDepth 20000 in
theorem s_X12_readOpen_158 {g : Gb} (hg : xInj g) {n : Nat} {Q : Mm → Prop} {T : Mm → Prop} {x3 : Int32} {t0 : Int32} {u0 : Mm} (h : w_X12_readOpen_158 n x3 t0 u0 Q T) : xE g me_X12_readOpen (pV g Q T) 158 [(0, .ref (gR g 0)), (3, .int x3)] [.int t0] u0 := by
  unfold w_X12_readOpen_158 at h
  refine e_istore (k := 88) (i := 4) (lv' := [(0, .ref (gR g 0)), (3, .int x3), (4, .int t0)]) rfl (by decide) [1, 2, 0] rfl ?_
  refine e_iload_n (k := 89) (i := 3) rfl rfl 1 rfl ?_
  refine e_iconst (k := 90) (v := (3 : Int32)) rfl (by decide) ?_
  refine e_icmp_eq (k := 91) (tgt := 171) rfl (by decide) (fun z => ?_) (fun z => ?_)
  · have h := h.1 z
    refine e_sub (lv' := [(0, .ref (gR g 0)), (3, .int x3)]) [0, 1] rfl ?_
    exact s_X12_readOpen_171 hg h
  · have h := h.2 z
    refine e_iload_n (k := 92) (i := 3) rfl rfl 1 rfl ?_
    refine e_bipush (k := 93) (v := (6 : Int32)) rfl (by decide) ?_
    refine e_icmp_ne (k := 94) (tgt := 175) rfl (by decide) (fun z => ?_) (fun z => ?_)
    · have h := h.1 z
      refine e_iload_n (k := 97) (i := 3) rfl rfl 1 rfl ?_
      refine e_iconst (k := 98) (v := (2 : Int32)) rfl (by decide) ?_
      refine e_icmp_eq (k := 99) (tgt := 191) rfl (by decide) (fun z => ?_) (fun z => ?_)
      · have h := h.1 z
        refine e_sub (lv' := [(0, .ref (gR g 0)), (3, .int x3)]) [0, 1] rfl ?_
        exact s_X12_readOpen_191 hg h
      · have h := h.2 z
        refine e_iload_n (k := 100) (i := 3) rfl rfl 1 rfl ?_
        refine e_iconst (k := 101) (v := (4 : Int32)) rfl (by decide) ?_
        refine e_icmp_eq (k := 102) (tgt := 191) rfl (by decide) (fun z => ?_) (fun z => ?_)
        · have h := h.1 z
          refine e_sub (lv' := [(0, .ref (gR g 0)), (3, .int x3)]) [0, 1] rfl ?_
          exact s_X12_readOpen_191 hg h
        · have h := h.2 z
          refine e_iload_n (k := 103) (i := 3) rfl rfl 1 rfl ?_
          refine e_bipush (k := 104) (v := (8 : Int32)) rfl (by decide) ?_
          refine e_icmp_ne (k := 105) (tgt := 195) rfl (by decide) (fun z => ?_) (fun z => ?_)
          · have h := h.1 z
            refine e_iload (k := 108) (i := 4) rfl 2 rfl ?_
            refine e_if_eq (k := 109) (tgt := 204) rfl (by decide) (fun z => ?_) (fun z => ?_)
            · have h := h.1 z
              refine e_iconst (k := 112) (v := (2 : Int32)) rfl (by decide) ?_
              refine e_sub (lv' := [(0, .ref (gR g 0)), (3, .int x3)]) [0, 1] rfl ?_
              exact s_X12_readOpen_205 hg h
            · have h := h.2 z
              refine e_iconst (k := 110) (v := (3 : Int32)) rfl (by decide) ?_
              refine e_goto (k := 111) (tgt := 205) rfl (by decide) ?_
              refine e_sub (lv' := [(0, .ref (gR g 0)), (3, .int x3)]) [0, 1] rfl ?_
              exact s_X12_readOpen_205 hg h
          · have h := h.2 z
            refine e_sub (lv' := [(0, .ref (gR g 0)), (3, .int x3)]) [0, 1] rfl ?_
            exact s_X12_readOpen_191 hg h
    · have h := h.2 z
      refine e_sub (lv' := [(0, .ref (gR g 0)), (3, .int x3)]) [0, 1] rfl ?_
      exact s_X12_readOpen_171 hg h
set_option maxRecDepth 20000 in
theorem s_X12_readOpen_157 {g : Gb} (hg : xInj g) {n : Nat} {Q : Mm → Prop} {T : Mm → Prop} {x3 : Int32} {u0 : Mm} (h : w_X12_readOpen_157 n x3 u0 Q T) : xE g me_X12_readOpen (pV g Q T) 157 [(0, .ref (gR g 0)), (3, .int x3)] [] u0 := by
  unfold w_X12_readOpen_157 at h
  refine e_iconst (k := 87) (v := (0 : Int32)) rfl (by decide) ?_
  exact s_X12_readOpen_158 hg h
set_option maxRecDepth 20000 in
theorem s_X12_readOpen_153 {g : Gb} (hg : xInj g) {n : Nat} {Q : Mm → Prop} {T : Mm → Prop} {x3 : Int32} {u0 : Mm} (h : w_X12_readOpen_153 n x3 u0 Q T) : xE g me_X12_readOpen (pV g Q T) 153 [(0, .ref (gR g 0)), (3, .int x3)] [] u0 := by
  unfold w_X12_readOpen_153 at h
  refine e_iconst (k := 85) (v := (1 : Int32)) rfl (by decide) ?_
  refine e_goto (k := 86) (tgt := 158) rfl (by decide) ?_
  exact s_X12_readOpen_158 hg h
set_option maxRecDepth 20000 in
theorem s_X12_readOpen_97 {g : Gb} (hg : xInj g) {n : Nat} {Q : Mm → Prop} {T : Mm → Prop} {x3 : Int32} {u0 : Mm} (h : w_X12_readOpen_97 n x3 u0 Q T) : xE g me_X12_readOpen (pV g Q T) 97 [(0, .ref (gR g 0)), (3, .int x3)] [] u0 := by
  unfold w_X12_readOpen_97 at h
  refine e_aload_n (k := 57) (i := 0) rfl rfl 0 rfl ?_
  refine e_getC (k := 58) rfl f_X12_63 rfl rfl ?_
  refine e_aload_n (k := 59) (i := 0) rfl rfl 0 rfl ?_
  refine e_getI (k := 60) rfl f_X12_290 rfl rfl ?_
  refine e_iald (k := 61) rfl rfl h.1 ?_
  have h := h.2
  refine e_bipush (k := 62) (v := (8 : Int32)) rfl (by decide) ?_
  refine e_icmp_ne (k := 63) (tgt := 157) rfl (by decide) (fun z => ?_) (fun z => ?_)
  · have h := h.1 z
    exact s_X12_readOpen_157 hg h
  · have h := h.2 z
    refine e_aload_n (k := 64) (i := 0) rfl rfl 0 rfl ?_
    refine e_getC (k := 65) rfl f_X12_60 rfl rfl ?_
    refine e_aload_n (k := 66) (i := 0) rfl rfl 0 rfl ?_
    refine e_getI (k := 67) rfl f_X12_290 rfl rfl ?_
    refine e_iald (k := 68) rfl rfl h.1 ?_
    have h := h.2
    refine e_bipush (k := 69) (v := (6 : Int32)) rfl (by decide) ?_
    refine e_icmp_eq (k := 70) (tgt := 153) rfl (by decide) (fun z => ?_) (fun z => ?_)
    · have h := h.1 z
      exact s_X12_readOpen_153 hg h
    · have h := h.2 z
      refine e_aload_n (k := 71) (i := 0) rfl rfl 0 rfl ?_
      refine e_getC (k := 72) rfl f_X12_60 rfl rfl ?_
      refine e_aload_n (k := 73) (i := 0) rfl rfl 0 rfl ?_
      refine e_getI (k := 74) rfl f_X12_290 rfl rfl ?_
      refine e_iald (k := 75) rfl rfl h.1 ?_
      have h := h.2
      refine e_bipush (k := 76) (v := (9 : Int32)) rfl (by decide) ?_
      refine e_icmp_eq (k := 77) (tgt := 153) rfl (by decide) (fun z => ?_) (fun z => ?_)
      · have h := h.1 z
        exact s_X12_readOpen_153 hg h
      · have h := h.2 z
        refine e_aload_n (k := 78) (i := 0) rfl rfl 0 rfl ?_
        refine e_getC (k := 79) rfl f_X12_60 rfl rfl ?_
        refine e_aload_n (k := 80) (i := 0) rfl rfl 0 rfl ?_
        refine e_getI (k := 81) rfl f_X12_290 rfl rfl ?_
        refine e_iald (k := 82) rfl rfl h.1 ?_
        have h := h.2
        refine e_bipush (k := 83) (v := (12 : Int32)) rfl (by decide) ?_
        refine e_icmp_ne (k := 84) (tgt := 157) rfl (by decide) (fun z => ?_) (fun z => ?_)
        · have h := h.1 z
          exact s_X12_readOpen_157 hg h
        · have h := h.2 z
          exact s_X12_readOpen_153 hg h
set_option maxRecDepth 20000 in
theorem s_X12_readOpen_37 {g : Gb} (hg : xInj g) {n : Nat} {Q : Mm → Prop} {T : Mm → Prop} {u0 : Mm} (h : w_X12_readOpen_37 n  u0 Q T) : xE g me_X12_readOpen (pV g Q T) 37 [(0, .ref (gR g 0))] [] u0 := by
  unfold w_X12_readOpen_37 at h
  refine e_aload_n (k := 21) (i := 0) rfl rfl 0 rfl ?_
  refine e_dup (k := 22) rfl rfl ?_
  refine e_getI (k := 23) rfl f_X12_138 rfl rfl ?_
  refine e_iconst (k := 24) (v := (1 : Int32)) rfl (by decide) ?_
  refine e_iadd (k := 25) rfl ?_
  refine e_putI (k := 26) rfl fg_X12_138 rfl rfl ?_
  refine e_mlet h (fun u1 h => ?_)
  refine e_aload_n (k := 27) (i := 0) rfl rfl 0 rfl ?_
  refine e_dup (k := 28) rfl rfl ?_
  refine e_getI (k := 29) rfl f_X12_438 rfl rfl ?_
  refine e_iconst (k := 30) (v := (1 : Int32)) rfl (by decide) ?_
  refine e_iadd (k := 31) rfl ?_
  refine e_putI (k := 32) rfl fg_X12_438 rfl rfl ?_
  refine e_mlet h (fun u2 h => ?_)
  refine e_aload_n (k := 33) (i := 0) rfl rfl 0 rfl ?_
  refine e_dup (k := 34) rfl rfl ?_
  refine e_getI (k := 35) rfl f_X12_416 rfl rfl ?_
  refine e_iconst (k := 36) (v := (1 : Int32)) rfl (by decide) ?_
  refine e_iadd (k := 37) rfl ?_
  refine e_putI (k := 38) rfl fg_X12_416 rfl rfl ?_
  refine e_mlet h (fun u3 h => ?_)
  exact e_vret (k := 39) rfl rfl (Or.inl ⟨rfl, h⟩)
set_option maxRecDepth 20000 in
theorem c_X12_readOpen {g : Gb} (hg : xInj g) {n : Nat} {u0 : Mm} {Q : Mm → Prop} {T : Mm → Prop} (h : w_X12_readOpen n u0 Q T) : xMet (gL g) yX12_readOpen (xws yX12_readOpen cX12_readOpen 7 none) (xRoom 4) (xPc g [.ref (gR g 0)] u0) (xQ g (pV g Q T)) (xA g) := by
  refine xbody (il := il_X12_readOpen) hg il_X12_readOpen_ok m_X12_readOpen (Nat.le_of_ble_eq_true rfl) ?_
  show xE g me_X12_readOpen (pV g Q T) 0 [(0, .ref (gR g 0))] [] u0
  unfold w_X12_readOpen at h
  refine e_aload_n (k := 0) (i := 0) rfl rfl 0 rfl ?_
  refine e_getI (k := 1) rfl f_X12_138 rfl rfl ?_
  refine e_ilet h (fun y1 h => ?_)
  refine e_istore_n (k := 2) (i := 1) (lv' := [(0, .ref (gR g 0)), (1, .int y1)]) rfl rfl (by decide) [1, 0] rfl ?_
  refine e_aload_n (k := 3) (i := 0) rfl rfl 0 rfl ?_
  refine e_aload_n (k := 4) (i := 0) rfl rfl 0 rfl ?_
  refine e_getI (k := 5) rfl f_X12_138 rfl rfl ?_
  refine e_iconst (k := 6) (v := (1 : Int32)) rfl (by decide) ?_
  refine e_iadd (k := 7) rfl ?_
  refine e_callVi (k := 8) (q := 0) (As := [.int ((u0.1 0 7) + (1 : Int32))]) (rest := []) rfl (c_X12_peek (g := g) hg (n := n) h) m_X12_peek i_X12_peek l_X12_141 rfl ⟨_, rfl, rfl⟩ rfl rfl (Nat.le_of_ble_eq_true rfl) ⟨by decide, by decide, rfl, rfl⟩ (fun _ h => ⟨fun _ z => (by cases z), Or.inr ⟨rfl, h⟩⟩) (fun r1 u1 h => ?_)
  refine e_istore_n (k := 9) (i := 2) (lv' := [(0, .ref (gR g 0)), (1, .int y1), (2, .int r1)]) rfl rfl (by decide) [1, 2, 0] rfl ?_
  refine e_iload_n (k := 10) (i := 2) rfl rfl 2 rfl ?_
  refine e_callSi (k := 11) (As := [.int r1]) (rest := []) rfl (c_X12_isDigit (g := g) hg (n := n) h) m_X12_isDigit st_X12_isDigit l_X12_182 rfl rfl (Nat.le_of_ble_eq_true rfl) ⟨by decide, by decide, rfl, rfl⟩ (fun _ h => ⟨fun _ z => (by cases z), Or.inr ⟨rfl, h⟩⟩) (fun r2 u2 h => ?_)
  refine e_if_ne (k := 12) (tgt := 68) rfl (by decide) (fun z => ?_) (fun z => ?_)
  · have h := h.1 z
    refine e_aload_n (k := 40) (i := 0) rfl rfl 0 rfl ?_
    refine e_dup (k := 41) rfl rfl ?_
    refine e_getI (k := 42) rfl f_X12_138 rfl rfl ?_
    refine e_iconst (k := 43) (v := (1 : Int32)) rfl (by decide) ?_
    refine e_iadd (k := 44) rfl ?_
    refine e_putI (k := 45) rfl fg_X12_138 rfl rfl ?_
    refine e_mlet h (fun u3 h => ?_)
    refine e_aload_n (k := 46) (i := 0) rfl rfl 0 rfl ?_
    refine e_iconst (k := 47) (v := (2 : Int32)) rfl (by decide) ?_
    refine e_callVi (k := 48) (q := 0) (As := [.int (2 : Int32)]) (rest := []) rfl (c_X12_oneDigit (g := g) hg (n := n) h) m_X12_oneDigit i_X12_oneDigit l_X12_441 rfl ⟨_, rfl, rfl⟩ rfl rfl (Nat.le_of_ble_eq_true rfl) ⟨by decide, by decide, rfl, rfl⟩ (fun _ h => ⟨fun _ z => (by cases z), Or.inr ⟨rfl, h⟩⟩) (fun r3 u4 h => ?_)
    refine e_istore_n (k := 49) (i := 3) (lv' := [(0, .ref (gR g 0)), (1, .int y1), (2, .int r1), (3, .int r3)]) rfl rfl (by decide) [1, 2, 3, 0] rfl ?_
    refine e_aload_n (k := 50) (i := 0) rfl rfl 0 rfl ?_
    refine e_getI (k := 51) rfl f_X12_350 rfl rfl ?_
    refine e_if_le (k := 52) (tgt := 97) rfl (by decide) (fun z => ?_) (fun z => ?_)
    · have h := h.1 z
      refine e_sub (lv' := [(0, .ref (gR g 0)), (3, .int r3)]) [0, 3] rfl ?_
      exact s_X12_readOpen_97 hg h
    · have h := h.2 z
      refine e_aload_n (k := 53) (i := 0) rfl rfl 0 rfl ?_
      refine e_iconst (k := 54) (v := (5 : Int32)) rfl (by decide) ?_
      refine e_iload_n (k := 55) (i := 1) rfl rfl 1 rfl ?_
      refine e_callVv (k := 56) (q := 0) (As := [.int (5 : Int32), .int y1]) (rest := []) rfl (c_X12_fail (g := g) hg (n := n) h) m_X12_fail i_X12_fail l_X12_148 rfl ⟨_, rfl, rfl⟩ rfl rfl (Nat.le_of_ble_eq_true rfl) ⟨by decide, by decide, rfl, rfl⟩ (fun _ h => ⟨fun _ z => (by cases z), Or.inr ⟨rfl, h⟩⟩) (fun u5 h => ?_)
      refine e_sub (lv' := [(0, .ref (gR g 0)), (3, .int r3)]) [0, 3] rfl ?_
      exact s_X12_readOpen_97 hg h
  · have h := h.2 z
    refine e_aload_n (k := 13) (i := 0) rfl rfl 0 rfl ?_
    refine e_getI (k := 14) rfl f_X12_438 rfl rfl ?_
    refine e_iconst (k := 15) (v := (4 : Int32)) rfl (by decide) ?_
    refine e_icmp_ne (k := 16) (tgt := 37) rfl (by decide) (fun z => ?_) (fun z => ?_)
    · have h := h.1 z
      refine e_sub (lv' := [(0, .ref (gR g 0))]) [0] rfl ?_
      exact s_X12_readOpen_37 hg h
    · have h := h.2 z
      refine e_aload_n (k := 17) (i := 0) rfl rfl 0 rfl ?_
      refine e_iconst (k := 18) (v := (5 : Int32)) rfl (by decide) ?_
      refine e_iload_n (k := 19) (i := 1) rfl rfl 1 rfl ?_
      refine e_callVv (k := 20) (q := 0) (As := [.int (5 : Int32), .int y1]) (rest := []) rfl (c_X12_fail (g := g) hg (n := n) h) m_X12_fail i_X12_fail l_X12_148 rfl ⟨_, rfl, rfl⟩ rfl rfl (Nat.le_of_ble_eq_true rfl) ⟨by decide, by decide, rfl, rfl⟩ (fun _ h => ⟨fun _ z => (by cases z), Or.inr ⟨rfl, h⟩⟩) (fun u6 h => ?_)
      refine e_sub (lv' := [(0, .ref (gR g 0))]) [0] rfl ?_
      exact s_X12_readOpen_37 hg h
