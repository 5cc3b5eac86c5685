/-! methods (by program) -/
def il_X12_readQuote : List (Nat × Instr × Nat) := [(0, .aload_n 0, 1), (1, .dup, 1), (2, .getfield 138, 3), (5, .iconst 1, 1), (6, .iadd, 1), (7, .putfield 138, 3), (10, .iconst 0, 1), (11, .istore_n 1, 1), (12, .aload_n 0, 1), (13, .getfield 138, 3), (16, .aload_n 0, 1), (17, .getfield 135, 3), (20, .if_icmp .ge 34, 3), (23, .aload_n 0, 1), (24, .bipush 34, 2), (26, .invokevirtual 166, 3), (29, .ifCond .ne 25, 3), (32, .iload_n 1, 1), (33, .bipush 20, 2), (35, .if_icmp .ge 19, 3), (38, .aload_n 0, 1), (39, .dup, 1), (40, .getfield 138, 3), (43, .iconst 1, 1), (44, .iadd, 1), (45, .putfield 138, 3), (48, .iinc 1 1, 3), (51, .goto (-39), 3), (54, .aload_n 0, 1), (55, .bipush 34, 2), (57, .invokevirtual 211, 3), (60, .aload_n 0, 1), (61, .dup, 1), (62, .getfield 413, 3), (65, .iconst 1, 1), (66, .iadd, 1), (67, .putfield 413, 3), (70, .return_, 1)]
set_option maxRecDepth 20000 in
theorem il_X12_readQuote_ok : ∀ x ∈ il_X12_readQuote, decode cX12_readQuote x.1 = .ok x.2 := by decide +kernel
abbrev me_X12_readQuote : Me := (RX12, il_X12_readQuote, 2, none, xRoom 5, [])
def w_X12_readQuote_54 (n : Nat) (u0 : Mm) (Q : Mm → Prop) (T : Mm → Prop) : Prop :=
  w_X12_must n (34 : Int32) u0 (fun u1 =>
  mlet (setI u1 0 43 ((u1.1 0 43) + (1 : Int32))) fun u2 =>
  Q u2) T
def w_X12_readQuote_12 (n : Nat) (Q : Mm → Prop) (T : Mm → Prop) : Nat → Int32 → Mm → Prop
  | 0, _, _ => False
  | k + 1, x1, u0 =>
  ((u0.1 0 9) ≤ (u0.1 0 7) → w_X12_readQuote_54 n u0 Q T) ∧
  (¬ (u0.1 0 9) ≤ (u0.1 0 7) → w_X12_is n (34 : Int32) u0 (fun r1 u1 =>
  (¬ r1 = 0 → w_X12_readQuote_54 n u1 Q T) ∧
  (r1 = 0 → ((20 : Int32) ≤ x1 → w_X12_readQuote_54 n u1 Q T) ∧
  (¬ (20 : Int32) ≤ x1 → mlet (setI u1 0 7 ((u1.1 0 7) + (1 : Int32))) fun u2 =>
  (w_X12_readQuote_12 n Q T k) (x1 + (1 : Int32)) u2))) T)
def w_X12_readQuote (n : Nat) (u0 : Mm) (Q : Mm → Prop) (T : Mm → Prop) : Prop :=
  mlet (setI u0 0 7 ((u0.1 0 7) + (1 : Int32))) fun u1 =>
  (w_X12_readQuote_12 n Q T n) (0 : Int32) u1
set_option maxRecDepth 20000 in
theorem s_X12_readQuote_54 {g : Gb} (hg : xInj g) {n : Nat} {Q : Mm → Prop} {T : Mm → Prop} {u0 : Mm} (h : w_X12_readQuote_54 n  u0 Q T) : xE g me_X12_readQuote (pV g Q T) 54 [(0, .ref (gR g 0))] [] u0 := by
  unfold w_X12_readQuote_54 at h
  refine e_aload_n (k := 28) (i := 0) rfl rfl 0 rfl ?_
  refine e_bipush (k := 29) (v := (34 : Int32)) rfl (by decide) ?_
  refine e_callVv (k := 30) (q := 0) (As := [.int (34 : Int32)]) (rest := []) rfl (c_X12_must (g := g) hg (n := n) h) m_X12_must i_X12_must l_X12_211 rfl ⟨_, rfl, rfl⟩ rfl rfl (Nat.le_of_ble_eq_true rfl) ⟨by decide, by decide, rfl, rfl⟩ (fun _ h => ⟨fun _ z => (by cases z), Or.inr ⟨rfl, h⟩⟩) (fun u1 h => ?_)
  refine e_aload_n (k := 31) (i := 0) rfl rfl 0 rfl ?_
  refine e_dup (k := 32) rfl rfl ?_
  refine e_getI (k := 33) rfl f_X12_413 rfl rfl ?_
  refine e_iconst (k := 34) (v := (1 : Int32)) rfl (by decide) ?_
  refine e_iadd (k := 35) rfl ?_
  refine e_putI (k := 36) rfl fg_X12_413 rfl rfl ?_
  refine e_mlet h (fun u2 h => ?_)
  exact e_vret (k := 37) rfl rfl (Or.inl ⟨rfl, h⟩)
set_option maxRecDepth 20000 in
theorem s_X12_readQuote_12 {g : Gb} (hg : xInj g) {n : Nat} {Q : Mm → Prop} {T : Mm → Prop} : ∀ (k : Nat) (x1 : Int32) (u0 : Mm), w_X12_readQuote_12 n Q T k x1 u0 → xE g me_X12_readQuote (pV g Q T) 12 [(0, .ref (gR g 0)), (1, .int x1)] [] u0 := by
  intro k
  induction k with
  | zero => intro x1 u0 h; exact h.elim
  | succ k ih =>
    intro x1 u0 h
    unfold w_X12_readQuote_12 at h
    refine e_aload_n (k := 8) (i := 0) rfl rfl 0 rfl ?_
    refine e_getI (k := 9) rfl f_X12_138 rfl rfl ?_
    refine e_aload_n (k := 10) (i := 0) rfl rfl 0 rfl ?_
    refine e_getI (k := 11) rfl f_X12_135 rfl rfl ?_
    refine e_icmp_ge (k := 12) (tgt := 54) rfl (by decide) (fun z => ?_) (fun z => ?_)
    · have h := h.1 z
      refine e_sub (lv' := [(0, .ref (gR g 0))]) [0] rfl ?_
      exact s_X12_readQuote_54 hg h
    · have h := h.2 z
      refine e_aload_n (k := 13) (i := 0) rfl rfl 0 rfl ?_
      refine e_bipush (k := 14) (v := (34 : Int32)) rfl (by decide) ?_
      refine e_callVi (k := 15) (q := 0) (As := [.int (34 : Int32)]) (rest := []) rfl (c_X12_is (g := g) hg (n := n) h) m_X12_is i_X12_is l_X12_166 rfl ⟨_, rfl, rfl⟩ rfl rfl (Nat.le_of_ble_eq_true rfl) ⟨by decide, by decide, rfl, rfl⟩ (fun _ h => ⟨fun _ z => (by cases z), Or.inr ⟨rfl, h⟩⟩) (fun r1 u1 h => ?_)
      refine e_if_ne (k := 16) (tgt := 54) rfl (by decide) (fun z => ?_) (fun z => ?_)
      · have h := h.1 z
        refine e_sub (lv' := [(0, .ref (gR g 0))]) [0] rfl ?_
        exact s_X12_readQuote_54 hg h
      · have h := h.2 z
        refine e_iload_n (k := 17) (i := 1) rfl rfl 1 rfl ?_
        refine e_bipush (k := 18) (v := (20 : Int32)) rfl (by decide) ?_
        refine e_icmp_ge (k := 19) (tgt := 54) rfl (by decide) (fun z => ?_) (fun z => ?_)
        · have h := h.1 z
          refine e_sub (lv' := [(0, .ref (gR g 0))]) [0] rfl ?_
          exact s_X12_readQuote_54 hg h
        · have h := h.2 z
          refine e_aload_n (k := 20) (i := 0) rfl rfl 0 rfl ?_
          refine e_dup (k := 21) rfl rfl ?_
          refine e_getI (k := 22) rfl f_X12_138 rfl rfl ?_
          refine e_iconst (k := 23) (v := (1 : Int32)) rfl (by decide) ?_
          refine e_iadd (k := 24) rfl ?_
          refine e_putI (k := 25) rfl fg_X12_138 rfl rfl ?_
          refine e_mlet h (fun u2 h => ?_)
          refine e_iinc (k := 26) (i := 1) (j := 1) (v := (x1 + (1 : Int32))) (lv' := [(0, .ref (gR g 0)), (1, .int (x1 + (1 : Int32)))]) rfl rfl rfl (by decide) [1, 0] rfl ?_
          refine e_goto (k := 27) (tgt := 12) rfl (by decide) ?_
          exact ih (x1 + (1 : Int32)) u2 h
set_option maxRecDepth 20000 in
theorem c_X12_readQuote {g : Gb} (hg : xInj g) {n : Nat} {u0 : Mm} {Q : Mm → Prop} {T : Mm → Prop} (h : w_X12_readQuote n u0 Q T) : xMet (gL g) yX12_readQuote (xws yX12_readQuote cX12_readQuote 2 none) (xRoom 5) (xPc g [.ref (gR g 0)] u0) (xQ g (pV g Q T)) (xA g) := by
  refine xbody (il := il_X12_readQuote) hg il_X12_readQuote_ok m_X12_readQuote (Nat.le_of_ble_eq_true rfl) ?_
  show xE g me_X12_readQuote (pV g Q T) 0 [(0, .ref (gR g 0))] [] u0
  unfold w_X12_readQuote at h
  refine e_aload_n (k := 0) (i := 0) rfl rfl 0 rfl ?_
  refine e_dup (k := 1) rfl rfl ?_
  refine e_getI (k := 2) rfl f_X12_138 rfl rfl ?_
  refine e_iconst (k := 3) (v := (1 : Int32)) rfl (by decide) ?_
  refine e_iadd (k := 4) rfl ?_
  refine e_putI (k := 5) rfl fg_X12_138 rfl rfl ?_
  refine e_mlet h (fun u1 h => ?_)
  refine e_iconst (k := 6) (v := (0 : Int32)) rfl (by decide) ?_
  refine e_istore_n (k := 7) (i := 1) (lv' := [(0, .ref (gR g 0)), (1, .int (0 : Int32))]) rfl rfl (by decide) [1, 0] rfl ?_
  exact s_X12_readQuote_12 hg n (0 : Int32) u1 h
def il_X12_readSay : List (Nat × Instr × Nat) := [(0, .aload_n 0, 1), (1, .dup, 1), (2, .getfield 138, 3), (5, .iconst 1, 1), (6, .iadd, 1), (7, .putfield 138, 3), (10, .iconst 0, 1), (11, .istore_n 1, 1), (12, .aload_n 0, 1), (13, .invokevirtual 162, 3), (16, .invokestatic 446, 3), (19, .ifCond .eq 25, 3), (22, .iload_n 1, 1), (23, .bipush 12, 2), (25, .if_icmp .ge 19, 3), (28, .aload_n 0, 1), (29, .dup, 1), (30, .getfield 138, 3), (33, .iconst 1, 1), (34, .iadd, 1), (35, .putfield 138, 3), (38, .iinc 1 1, 3), (41, .goto (-29), 3), (44, .iload_n 1, 1), (45, .ifCond .ne 12, 3), (48, .aload_n 0, 1), (49, .iconst 1, 1), (50, .aload_n 0, 1), (51, .getfield 138, 3), (54, .invokevirtual 148, 3), (57, .aload_n 0, 1), (58, .bipush 33, 2), (60, .invokevirtual 211, 3), (63, .aload_n 0, 1), (64, .dup, 1), (65, .getfield 413, 3), (68, .iconst 1, 1), (69, .iadd, 1), (70, .putfield 413, 3), (73, .return_, 1)]
set_option maxRecDepth 20000 in
theorem il_X12_readSay_ok : ∀ x ∈ il_X12_readSay, decode cX12_readSay x.1 = .ok x.2 := by decide +kernel
abbrev me_X12_readSay : Me := (RX12, il_X12_readSay, 2, none, xRoom 5, [])
def w_X12_readSay_57 (n : Nat) (u0 : Mm) (Q : Mm → Prop) (T : Mm → Prop) : Prop :=
  w_X12_must n (33 : Int32) u0 (fun u1 =>
  mlet (setI u1 0 43 ((u1.1 0 43) + (1 : Int32))) fun u2 =>
  Q u2) T
def w_X12_readSay_44 (n : Nat) (x1 : Int32) (u0 : Mm) (Q : Mm → Prop) (T : Mm → Prop) : Prop :=
  (¬ x1 = 0 → w_X12_readSay_57 n u0 Q T) ∧
  (x1 = 0 → w_X12_fail n (1 : Int32) (u0.1 0 7) u0 (fun u1 =>
  w_X12_readSay_57 n u1 Q T) T)
def w_X12_readSay_12 (n : Nat) (Q : Mm → Prop) (T : Mm → Prop) : Nat → Int32 → Mm → Prop
  | 0, _, _ => False
  | k + 1, x1, u0 =>
  w_X12_here n u0 (fun r1 u1 =>
  w_X12_isLetter n r1 u1 (fun r2 u2 =>
  (r2 = 0 → w_X12_readSay_44 n x1 u2 Q T) ∧
  (¬ r2 = 0 → ((12 : Int32) ≤ x1 → w_X12_readSay_44 n x1 u2 Q T) ∧
  (¬ (12 : Int32) ≤ x1 → mlet (setI u2 0 7 ((u2.1 0 7) + (1 : Int32))) fun u3 =>
  (w_X12_readSay_12 n Q T k) (x1 + (1 : Int32)) u3))) T) T
def w_X12_readSay (n : Nat) (u0 : Mm) (Q : Mm → Prop) (T : Mm → Prop) : Prop :=
  mlet (setI u0 0 7 ((u0.1 0 7) + (1 : Int32))) fun u1 =>
  (w_X12_readSay_12 n Q T n) (0 : Int32) u1
set_option maxRecDepth 20000 in
theorem s_X12_readSay_57 {g : Gb} (hg : xInj g) {n : Nat} {Q : Mm → Prop} {T : Mm → Prop} {u0 : Mm} (h : w_X12_readSay_57 n  u0 Q T) : xE g me_X12_readSay (pV g Q T) 57 [(0, .ref (gR g 0))] [] u0 := by
  unfold w_X12_readSay_57 at h
  refine e_aload_n (k := 30) (i := 0) rfl rfl 0 rfl ?_
  refine e_bipush (k := 31) (v := (33 : Int32)) rfl (by decide) ?_
  refine e_callVv (k := 32) (q := 0) (As := [.int (33 : Int32)]) (rest := []) rfl (c_X12_must (g := g) hg (n := n) h) m_X12_must i_X12_must l_X12_211 rfl ⟨_, rfl, rfl⟩ rfl rfl (Nat.le_of_ble_eq_true rfl) ⟨by decide, by decide, rfl, rfl⟩ (fun _ h => ⟨fun _ z => (by cases z), Or.inr ⟨rfl, h⟩⟩) (fun u1 h => ?_)
  refine e_aload_n (k := 33) (i := 0) rfl rfl 0 rfl ?_
  refine e_dup (k := 34) rfl rfl ?_
  refine e_getI (k := 35) rfl f_X12_413 rfl rfl ?_
  refine e_iconst (k := 36) (v := (1 : Int32)) rfl (by decide) ?_
  refine e_iadd (k := 37) rfl ?_
  refine e_putI (k := 38) rfl fg_X12_413 rfl rfl ?_
  refine e_mlet h (fun u2 h => ?_)
  exact e_vret (k := 39) rfl rfl (Or.inl ⟨rfl, h⟩)
set_option maxRecDepth 20000 in
theorem s_X12_readSay_44 {g : Gb} (hg : xInj g) {n : Nat} {Q : Mm → Prop} {T : Mm → Prop} {x1 : Int32} {u0 : Mm} (h : w_X12_readSay_44 n x1 u0 Q T) : xE g me_X12_readSay (pV g Q T) 44 [(0, .ref (gR g 0)), (1, .int x1)] [] u0 := by
  unfold w_X12_readSay_44 at h
  refine e_iload_n (k := 23) (i := 1) rfl rfl 1 rfl ?_
  refine e_if_ne (k := 24) (tgt := 57) rfl (by decide) (fun z => ?_) (fun z => ?_)
  · have h := h.1 z
    refine e_sub (lv' := [(0, .ref (gR g 0))]) [0] rfl ?_
    exact s_X12_readSay_57 hg h
  · have h := h.2 z
    refine e_aload_n (k := 25) (i := 0) rfl rfl 0 rfl ?_
    refine e_iconst (k := 26) (v := (1 : Int32)) rfl (by decide) ?_
    refine e_aload_n (k := 27) (i := 0) rfl rfl 0 rfl ?_
    refine e_getI (k := 28) rfl f_X12_138 rfl rfl ?_
    refine e_callVv (k := 29) (q := 0) (As := [.int (1 : Int32), .int (u0.1 0 7)]) (rest := []) rfl (c_X12_fail (g := g) hg (n := n) h) m_X12_fail i_X12_fail l_X12_148 rfl ⟨_, rfl, rfl⟩ rfl rfl (Nat.le_of_ble_eq_true rfl) ⟨by decide, by decide, rfl, rfl⟩ (fun _ h => ⟨fun _ z => (by cases z), Or.inr ⟨rfl, h⟩⟩) (fun u1 h => ?_)
    refine e_sub (lv' := [(0, .ref (gR g 0))]) [0] rfl ?_
    exact s_X12_readSay_57 hg h
set_option maxRecDepth 20000 in
theorem s_X12_readSay_12 {g : Gb} (hg : xInj g) {n : Nat} {Q : Mm → Prop} {T : Mm → Prop} : ∀ (k : Nat) (x1 : Int32) (u0 : Mm), w_X12_readSay_12 n Q T k x1 u0 → xE g me_X12_readSay (pV g Q T) 12 [(0, .ref (gR g 0)), (1, .int x1)] [] u0 := by
  intro k
  induction k with
  | zero => intro x1 u0 h; exact h.elim
  | succ k ih =>
    intro x1 u0 h
    unfold w_X12_readSay_12 at h
    refine e_aload_n (k := 8) (i := 0) rfl rfl 0 rfl ?_
    refine e_callVi (k := 9) (q := 0) (As := []) (rest := []) rfl (c_X12_here (g := g) hg (n := n) h) m_X12_here i_X12_here l_X12_162 rfl ⟨_, rfl, rfl⟩ rfl rfl (Nat.le_of_ble_eq_true rfl) ⟨by decide, by decide, rfl, rfl⟩ (fun _ h => ⟨fun _ z => (by cases z), Or.inr ⟨rfl, h⟩⟩) (fun r1 u1 h => ?_)
    refine e_callSi (k := 10) (As := [.int r1]) (rest := []) rfl (c_X12_isLetter (g := g) hg (n := n) h) m_X12_isLetter st_X12_isLetter l_X12_446 rfl rfl (Nat.le_of_ble_eq_true rfl) ⟨by decide, by decide, rfl, rfl⟩ (fun _ h => ⟨fun _ z => (by cases z), Or.inr ⟨rfl, h⟩⟩) (fun r2 u2 h => ?_)
    refine e_if_eq (k := 11) (tgt := 44) rfl (by decide) (fun z => ?_) (fun z => ?_)
    · have h := h.1 z
      exact s_X12_readSay_44 hg h
    · have h := h.2 z
      refine e_iload_n (k := 12) (i := 1) rfl rfl 1 rfl ?_
      refine e_bipush (k := 13) (v := (12 : Int32)) rfl (by decide) ?_
      refine e_icmp_ge (k := 14) (tgt := 44) rfl (by decide) (fun z => ?_) (fun z => ?_)
      · have h := h.1 z
        exact s_X12_readSay_44 hg h
      · have h := h.2 z
        refine e_aload_n (k := 15) (i := 0) rfl rfl 0 rfl ?_
        refine e_dup (k := 16) rfl rfl ?_
        refine e_getI (k := 17) rfl f_X12_138 rfl rfl ?_
        refine e_iconst (k := 18) (v := (1 : Int32)) rfl (by decide) ?_
        refine e_iadd (k := 19) rfl ?_
        refine e_putI (k := 20) rfl fg_X12_138 rfl rfl ?_
        refine e_mlet h (fun u3 h => ?_)
        refine e_iinc (k := 21) (i := 1) (j := 1) (v := (x1 + (1 : Int32))) (lv' := [(0, .ref (gR g 0)), (1, .int (x1 + (1 : Int32)))]) rfl rfl rfl (by decide) [1, 0] rfl ?_
        refine e_goto (k := 22) (tgt := 12) rfl (by decide) ?_
        exact ih (x1 + (1 : Int32)) u3 h
set_option maxRecDepth 20000 in
theorem c_X12_readSay {g : Gb} (hg : xInj g) {n : Nat} {u0 : Mm} {Q : Mm → Prop} {T : Mm → Prop} (h : w_X12_readSay n u0 Q T) : xMet (gL g) yX12_readSay (xws yX12_readSay cX12_readSay 2 none) (xRoom 5) (xPc g [.ref (gR g 0)] u0) (xQ g (pV g Q T)) (xA g) := by
  refine xbody (il := il_X12_readSay) hg il_X12_readSay_ok m_X12_readSay (Nat.le_of_ble_eq_true rfl) ?_
  show xE g me_X12_readSay (pV g Q T) 0 [(0, .ref (gR g 0))] [] u0
  unfold w_X12_readSay at h
  refine e_aload_n (k := 0) (i := 0) rfl rfl 0 rfl ?_
  refine e_dup (k := 1) rfl rfl ?_
  refine e_getI (k := 2) rfl f_X12_138 rfl rfl ?_
  refine e_iconst (k := 3) (v := (1 : Int32)) rfl (by decide) ?_
  refine e_iadd (k := 4) rfl ?_
  refine e_putI (k := 5) rfl fg_X12_138 rfl rfl ?_
  refine e_mlet h (fun u1 h => ?_)
  refine e_iconst (k := 6) (v := (0 : Int32)) rfl (by decide) ?_
  refine e_istore_n (k := 7) (i := 1) (lv' := [(0, .ref (gR g 0)), (1, .int (0 : Int32))]) rfl rfl (by decide) [1, 0] rfl ?_
  exact s_X12_readSay_12 hg n (0 : Int32) u1 h
def il_X12_readUnit : List (Nat × Instr × Nat) := [(0, .aload_n 0, 1), (1, .bipush 49, 2), (3, .invokevirtual 211, 3), (6, .aload_n 0, 1), (7, .bipush 47, 2), (9, .invokevirtual 211, 3), (12, .aload_n 0, 1), (13, .getfield 138, 3), (16, .istore_n 1, 1), (17, .aload_n 0, 1), (18, .iconst 1, 1), (19, .bipush 64, 2), (21, .iload_n 1, 1), (22, .invokevirtual 207, 3), (25, .istore_n 2, 1), (26, .iload_n 2, 1), (27, .bipush 64, 2), (29, .invokestatic 215, 3), (32, .ifCond .ne 9, 3), (35, .aload_n 0, 1), (36, .iconst 1, 1), (37, .iload_n 1, 1), (38, .invokevirtual 148, 3), (41, .iload_n 2, 1), (42, .ireturn, 1)]
set_option maxRecDepth 20000 in
theorem il_X12_readUnit_ok : ∀ x ∈ il_X12_readUnit, decode cX12_readUnit x.1 = .ok x.2 := by decide +kernel
abbrev me_X12_readUnit : Me := (RX12, il_X12_readUnit, 3, (some .int), xRoom 5, [])
def w_X12_readUnit_41 (n : Nat) (x2 : Int32) (u0 : Mm) (Q : Int32 → Mm → Prop) (T : Mm → Prop) : Prop :=
  Q x2 u0
def w_X12_readUnit (n : Nat) (u0 : Mm) (Q : Int32 → Mm → Prop) (T : Mm → Prop) : Prop :=
  w_X12_must n (49 : Int32) u0 (fun u1 =>
  w_X12_must n (47 : Int32) u1 (fun u2 =>
  ilet (u2.1 0 7) fun y1 =>
  w_X12_numberOf n (1 : Int32) (64 : Int32) y1 u2 (fun r1 u3 =>
  w_X12_isPower n r1 (64 : Int32) u3 (fun r2 u4 =>
  (¬ r2 = 0 → w_X12_readUnit_41 n r1 u4 Q T) ∧
  (r2 = 0 → w_X12_fail n (1 : Int32) y1 u4 (fun u5 =>
  w_X12_readUnit_41 n r1 u5 Q T) T)) T) T) T) T
set_option maxRecDepth 20000 in
theorem s_X12_readUnit_41 {g : Gb} (hg : xInj g) {n : Nat} {Q : Int32 → Mm → Prop} {T : Mm → Prop} {x2 : Int32} {u0 : Mm} (h : w_X12_readUnit_41 n x2 u0 Q T) : xE g me_X12_readUnit (pI g Q T) 41 [(2, .int x2)] [] u0 := by
  unfold w_X12_readUnit_41 at h
  refine e_iload_n (k := 23) (i := 2) rfl rfl 0 rfl ?_
  exact e_iret (k := 24) rfl rfl (Or.inl ⟨_, rfl, h⟩)
set_option maxRecDepth 20000 in
theorem c_X12_readUnit {g : Gb} (hg : xInj g) {n : Nat} {u0 : Mm} {Q : Int32 → Mm → Prop} {T : Mm → Prop} (h : w_X12_readUnit n u0 Q T) : xMet (gL g) yX12_readUnit (xws yX12_readUnit cX12_readUnit 3 (some .int)) (xRoom 5) (xPc g [.ref (gR g 0)] u0) (xQ g (pI g Q T)) (xA g) := by
  refine xbody (il := il_X12_readUnit) hg il_X12_readUnit_ok m_X12_readUnit (Nat.le_of_ble_eq_true rfl) ?_
  show xE g me_X12_readUnit (pI g Q T) 0 [(0, .ref (gR g 0))] [] u0
  unfold w_X12_readUnit at h
  refine e_aload_n (k := 0) (i := 0) rfl rfl 0 rfl ?_
  refine e_bipush (k := 1) (v := (49 : Int32)) rfl (by decide) ?_
  refine e_callVv (k := 2) (q := 0) (As := [.int (49 : Int32)]) (rest := []) rfl (c_X12_must (g := g) hg (n := n) h) m_X12_must i_X12_must l_X12_211 rfl ⟨_, rfl, rfl⟩ rfl rfl (Nat.le_of_ble_eq_true rfl) ⟨by decide, by decide, rfl, rfl⟩ (fun _ h => ⟨fun _ z => (by cases z), Or.inr ⟨rfl, h⟩⟩) (fun u1 h => ?_)
  refine e_aload_n (k := 3) (i := 0) rfl rfl 0 rfl ?_
  refine e_bipush (k := 4) (v := (47 : Int32)) rfl (by decide) ?_
  refine e_callVv (k := 5) (q := 0) (As := [.int (47 : Int32)]) (rest := []) rfl (c_X12_must (g := g) hg (n := n) h) m_X12_must i_X12_must l_X12_211 rfl ⟨_, rfl, rfl⟩ rfl rfl (Nat.le_of_ble_eq_true rfl) ⟨by decide, by decide, rfl, rfl⟩ (fun _ h => ⟨fun _ z => (by cases z), Or.inr ⟨rfl, h⟩⟩) (fun u2 h => ?_)
  refine e_aload_n (k := 6) (i := 0) rfl rfl 0 rfl ?_
  refine e_getI (k := 7) rfl f_X12_138 rfl rfl ?_
  refine e_ilet h (fun y1 h => ?_)
  refine e_istore_n (k := 8) (i := 1) (lv' := [(0, .ref (gR g 0)), (1, .int y1)]) rfl rfl (by decide) [1, 0] rfl ?_
  refine e_aload_n (k := 9) (i := 0) rfl rfl 0 rfl ?_
  refine e_iconst (k := 10) (v := (1 : Int32)) rfl (by decide) ?_
  refine e_bipush (k := 11) (v := (64 : Int32)) rfl (by decide) ?_
  refine e_iload_n (k := 12) (i := 1) rfl rfl 1 rfl ?_
  refine e_callVi (k := 13) (q := 0) (As := [.int (1 : Int32), .int (64 : Int32), .int y1]) (rest := []) rfl (c_X12_numberOf (g := g) hg (n := n) h) m_X12_numberOf i_X12_numberOf l_X12_207 rfl ⟨_, rfl, rfl⟩ rfl rfl (Nat.le_of_ble_eq_true rfl) ⟨by decide, by decide, rfl, rfl⟩ (fun _ h => ⟨fun _ z => (by cases z), Or.inr ⟨rfl, h⟩⟩) (fun r1 u3 h => ?_)
  refine e_istore_n (k := 14) (i := 2) (lv' := [(0, .ref (gR g 0)), (1, .int y1), (2, .int r1)]) rfl rfl (by decide) [1, 2, 0] rfl ?_
  refine e_iload_n (k := 15) (i := 2) rfl rfl 2 rfl ?_
  refine e_bipush (k := 16) (v := (64 : Int32)) rfl (by decide) ?_
  refine e_callSi (k := 17) (As := [.int r1, .int (64 : Int32)]) (rest := []) rfl (c_X12_isPower (g := g) hg (n := n) h) m_X12_isPower st_X12_isPower l_X12_215 rfl rfl (Nat.le_of_ble_eq_true rfl) ⟨by decide, by decide, rfl, rfl⟩ (fun _ h => ⟨fun _ z => (by cases z), Or.inr ⟨rfl, h⟩⟩) (fun r2 u4 h => ?_)
  refine e_if_ne (k := 18) (tgt := 41) rfl (by decide) (fun z => ?_) (fun z => ?_)
  · have h := h.1 z
    refine e_sub (lv' := [(2, .int r1)]) [2] rfl ?_
    exact s_X12_readUnit_41 hg h
  · have h := h.2 z
    refine e_aload_n (k := 19) (i := 0) rfl rfl 0 rfl ?_
    refine e_iconst (k := 20) (v := (1 : Int32)) rfl (by decide) ?_
    refine e_iload_n (k := 21) (i := 1) rfl rfl 1 rfl ?_
    refine e_callVv (k := 22) (q := 0) (As := [.int (1 : Int32), .int y1]) (rest := []) rfl (c_X12_fail (g := g) hg (n := n) h) m_X12_fail i_X12_fail l_X12_148 rfl ⟨_, rfl, rfl⟩ rfl rfl (Nat.le_of_ble_eq_true rfl) ⟨by decide, by decide, rfl, rfl⟩ (fun _ h => ⟨fun _ z => (by cases z), Or.inr ⟨rfl, h⟩⟩) (fun u5 h => ?_)
    refine e_sub (lv' := [(2, .int r1)]) [2] rfl ?_
    exact s_X12_readUnit_41 hg h
def il_X4_formHere : List (Nat × Instr × Nat) := [(0, .aload_n 0, 1), (1, .getfield 9, 3), (4, .iconst 0, 1), (5, .invokevirtual 126, 3), (8, .istore_n 1, 1), (9, .aload_n 0, 1), (10, .getfield 9, 3), (13, .iconst 1, 1), (14, .invokevirtual 126, 3), (17, .istore_n 2, 1), (18, .iload_n 1, 1), (19, .ifCond .ge 5, 3), (22, .iconst 0, 1), (23, .ireturn, 1), (24, .ldc 237, 2), (26, .iload_n 1, 1), (27, .i2c, 1), (28, .invokevirtual 239, 3), (31, .ifCond .lt 5, 3), (34, .iconst 1, 1), (35, .ireturn, 1), (36, .ldc 244, 2), (38, .iload_n 1, 1), (39, .i2c, 1), (40, .invokevirtual 239, 3), (43, .ifCond .lt 6, 3), (46, .bipush 11, 2), (48, .ireturn, 1), (49, .iload_n 1, 1), (50, .lookupswitch 170 #[(33, 167), (34, 167), (40, 138), (41, 158), (58, 120), (60, 161), (62, 161), (90, 136), (91, 114), (120, 134), (122, 134), (123, 164), (124, 120)], 114), (164, .aload_n 0, 1), (165, .iload_n 2, 1), (166, .invokevirtual 246, 3), (169, .ireturn, 1), (170, .iload_n 1, 1), (171, .iload_n 2, 1), (172, .invokestatic 249, 3), (175, .ifCond .lt 7, 3), (178, .iconst 5, 1), (179, .goto 4, 3), (182, .iconst 0, 1), (183, .ireturn, 1), (184, .iconst 3, 1), (185, .ireturn, 1), (186, .iconst 4, 1), (187, .ireturn, 1), (188, .iload_n 2, 1), (189, .bipush 48, 2), (191, .if_icmp .lt 14, 3), (194, .iload_n 2, 1), (195, .bipush 57, 2), (197, .if_icmp .gt 8, 3), (200, .bipush 8, 2), (202, .goto 5, 3), (205, .bipush 9, 2), (207, .ireturn, 1), (208, .bipush 9, 2), (210, .ireturn, 1), (211, .bipush 10, 2), (213, .ireturn, 1), (214, .bipush 7, 2), (216, .ireturn, 1), (217, .bipush 12, 2), (219, .ireturn, 1), (220, .iconst 0, 1), (221, .ireturn, 1)]
set_option maxRecDepth 20000 in
theorem il_X4_formHere_ok : ∀ x ∈ il_X4_formHere, decode cX4_formHere x.1 = .ok x.2 := by decide +kernel
abbrev me_X4_formHere : Me := (RX4, il_X4_formHere, 3, (some .int), xRoom 5, [])
def w_X4_formHere_207 (n : Nat) (t0 : Int32) (u0 : Mm) (Q : Int32 → Mm → Prop) : Prop :=
  Q t0 u0
def w_X4_formHere_205 (n : Nat) (u0 : Mm) (Q : Int32 → Mm → Prop) : Prop :=
  w_X4_formHere_207 n (9 : Int32) u0 Q
def w_X4_formHere_183 (n : Nat) (t0 : Int32) (u0 : Mm) (Q : Int32 → Mm → Prop) : Prop :=
  Q t0 u0
def w_X4_formHere (n : Nat) (u0 : Mm) (Q : Int32 → Mm → Prop) : Prop :=
  w_X5_peek n (0 : Int32) u0 (fun r1 u1 =>
  w_X5_peek n (1 : Int32) u1 (fun r2 u2 =>
  (0 ≤ r1 → w_J0_indexOf_0f7a4 n 16 (r1.toUInt32 % 65536).toInt32 u2 (fun r3 u3 =>
  (r3 < 0 → w_J0_indexOf_0f7a4 n 17 (r1.toUInt32 % 65536).toInt32 u3 (fun r4 u4 =>
  (r4 < 0 → (r1 = (33 : Int32) → Q (12 : Int32) u4) ∧
  (¬ r1 = (33 : Int32) → (r1 = (34 : Int32) → Q (12 : Int32) u4) ∧
  (¬ r1 = (34 : Int32) → (r1 = (40 : Int32) → (r2 < (48 : Int32) → w_X4_formHere_205 n u4 Q) ∧
  (¬ r2 < (48 : Int32) → ((57 : Int32) < r2 → w_X4_formHere_205 n u4 Q) ∧
  (¬ (57 : Int32) < r2 → w_X4_formHere_207 n (8 : Int32) u4 Q))) ∧
  (¬ r1 = (40 : Int32) → (r1 = (41 : Int32) → Q (9 : Int32) u4) ∧
  (¬ r1 = (41 : Int32) → (r1 = (58 : Int32) → w_X4_barSort n r1 r2 u4 (fun r5 u5 =>
  (r5 < 0 → w_X4_formHere_183 n (0 : Int32) u5 Q) ∧
  (¬ r5 < 0 → w_X4_formHere_183 n (5 : Int32) u5 Q))) ∧
  (¬ r1 = (58 : Int32) → (r1 = (60 : Int32) → Q (10 : Int32) u4) ∧
  (¬ r1 = (60 : Int32) → (r1 = (62 : Int32) → Q (10 : Int32) u4) ∧
  (¬ r1 = (62 : Int32) → (r1 = (90 : Int32) → Q (4 : Int32) u4) ∧
  (¬ r1 = (90 : Int32) → (r1 = (91 : Int32) → w_X4_formOfBracket n r2 u4 (fun r6 u6 =>
  Q r6 u6)) ∧
  (¬ r1 = (91 : Int32) → (r1 = (120 : Int32) → Q (3 : Int32) u4) ∧
  (¬ r1 = (120 : Int32) → (r1 = (122 : Int32) → Q (3 : Int32) u4) ∧
  (¬ r1 = (122 : Int32) → (r1 = (123 : Int32) → Q (7 : Int32) u4) ∧
  (¬ r1 = (123 : Int32) → (r1 = (124 : Int32) → w_X4_barSort n r1 r2 u4 (fun r7 u7 =>
  (r7 < 0 → w_X4_formHere_183 n (0 : Int32) u7 Q) ∧
  (¬ r7 < 0 → w_X4_formHere_183 n (5 : Int32) u7 Q))) ∧
  (¬ r1 = (124 : Int32) → Q (0 : Int32) u4)))))))))))))) ∧
  (¬ r4 < 0 → Q (11 : Int32) u4))) ∧
  (¬ r3 < 0 → Q (1 : Int32) u3))) ∧
  (¬ 0 ≤ r1 → Q (0 : Int32) u2)))
set_option maxRecDepth 20000 in
theorem s_X4_formHere_207 {g : Gb} (hg : xInj g) {n : Nat} {Q : Int32 → Mm → Prop} {t0 : Int32} {u0 : Mm} (h : w_X4_formHere_207 n t0 u0 Q) : xE g me_X4_formHere (pI g Q noT) 207 [] [.int t0] u0 := by
  unfold w_X4_formHere_207 at h
  exact e_iret (k := 55) rfl rfl (Or.inl ⟨_, rfl, h⟩)
set_option maxRecDepth 20000 in
theorem s_X4_formHere_205 {g : Gb} (hg : xInj g) {n : Nat} {Q : Int32 → Mm → Prop} {u0 : Mm} (h : w_X4_formHere_205 n  u0 Q) : xE g me_X4_formHere (pI g Q noT) 205 [] [] u0 := by
  unfold w_X4_formHere_205 at h
  refine e_bipush (k := 54) (v := (9 : Int32)) rfl (by decide) ?_
  exact s_X4_formHere_207 hg h
set_option maxRecDepth 20000 in
theorem s_X4_formHere_183 {g : Gb} (hg : xInj g) {n : Nat} {Q : Int32 → Mm → Prop} {t0 : Int32} {u0 : Mm} (h : w_X4_formHere_183 n t0 u0 Q) : xE g me_X4_formHere (pI g Q noT) 183 [] [.int t0] u0 := by
  unfold w_X4_formHere_183 at h
  exact e_iret (k := 41) rfl rfl (Or.inl ⟨_, rfl, h⟩)
set_option maxRecDepth 20000 in
theorem c_X4_formHere {g : Gb} (hg : xInj g) {n : Nat} {u0 : Mm} {Q : Int32 → Mm → Prop} (h : w_X4_formHere n u0 Q) : xMet (gL g) yX4_formHere (xws yX4_formHere cX4_formHere 3 (some .int)) (xRoom 5) (xPc g [.ref (gR g 38)] u0) (xQ g (pI g Q noT)) (xA g) := by
  refine xbody (il := il_X4_formHere) hg il_X4_formHere_ok m_X4_formHere (Nat.le_of_ble_eq_true rfl) ?_
  show xE g me_X4_formHere (pI g Q noT) 0 [(0, .ref (gR g 38))] [] u0
  unfold w_X4_formHere at h
  refine e_aload_n (k := 0) (i := 0) rfl rfl 0 rfl ?_
  refine e_getC (k := 1) rfl f_X4_9 rfl rfl ?_
  refine e_iconst (k := 2) (v := (0 : Int32)) rfl (by decide) ?_
  refine e_callVi (k := 3) (q := 33) (As := [.int (0 : Int32)]) (rest := []) rfl (c_X5_peek (g := g) hg (n := n) h) m_X5_peek i_X5_peek l_X4_126 rfl ⟨_, rfl, rfl⟩ rfl rfl (Nat.le_of_ble_eq_true rfl) ⟨by decide, by decide, rfl, rfl⟩ (fun _ h => h.elim) (fun r1 u1 h => ?_)
  refine e_istore_n (k := 4) (i := 1) (lv' := [(0, .ref (gR g 38)), (1, .int r1)]) rfl rfl (by decide) [1, 0] rfl ?_
  refine e_aload_n (k := 5) (i := 0) rfl rfl 0 rfl ?_
  refine e_getC (k := 6) rfl f_X4_9 rfl rfl ?_
  refine e_iconst (k := 7) (v := (1 : Int32)) rfl (by decide) ?_
  refine e_callVi (k := 8) (q := 33) (As := [.int (1 : Int32)]) (rest := []) rfl (c_X5_peek (g := g) hg (n := n) h) m_X5_peek i_X5_peek l_X4_126 rfl ⟨_, rfl, rfl⟩ rfl rfl (Nat.le_of_ble_eq_true rfl) ⟨by decide, by decide, rfl, rfl⟩ (fun _ h => h.elim) (fun r2 u2 h => ?_)
  refine e_istore_n (k := 9) (i := 2) (lv' := [(0, .ref (gR g 38)), (1, .int r1), (2, .int r2)]) rfl rfl (by decide) [1, 2, 0] rfl ?_
  refine e_iload_n (k := 10) (i := 1) rfl rfl 1 rfl ?_
  refine e_if_ge (k := 11) (tgt := 24) rfl (by decide) (fun z => ?_) (fun z => ?_)
  · have h := h.1 z
    refine e_ldcS (k := 14) (j := 16) rfl rfl ?_
    refine e_iload_n (k := 15) (i := 1) rfl rfl 1 rfl ?_
    refine e_i2c (k := 16) rfl ?_
    refine e_callKi (k := 17) (j := 16) (As := [.int (r1.toUInt32 % 65536).toInt32]) (rest := []) rfl (c_J0_indexOf_0f7a4 (g := g) hg (n := n) (by decide) h) m_J0_indexOf_0f7a4 i_J0_indexOf_0f7a4 l_X4_239 (by decide) rfl rfl rfl (Nat.le_of_ble_eq_true rfl) ⟨by decide, by decide, rfl, rfl⟩ (fun r3 u3 h => ?_)
    refine e_if_lt (k := 18) (tgt := 36) rfl (by decide) (fun z => ?_) (fun z => ?_)
    · have h := h.1 z
      refine e_ldcS (k := 21) (j := 17) rfl rfl ?_
      refine e_iload_n (k := 22) (i := 1) rfl rfl 1 rfl ?_
      refine e_i2c (k := 23) rfl ?_
      refine e_callKi (k := 24) (j := 17) (As := [.int (r1.toUInt32 % 65536).toInt32]) (rest := []) rfl (c_J0_indexOf_0f7a4 (g := g) hg (n := n) (by decide) h) m_J0_indexOf_0f7a4 i_J0_indexOf_0f7a4 l_X4_239 (by decide) rfl rfl rfl (Nat.le_of_ble_eq_true rfl) ⟨by decide, by decide, rfl, rfl⟩ (fun r4 u4 h => ?_)
      refine e_if_lt (k := 25) (tgt := 49) rfl (by decide) (fun z => ?_) (fun z => ?_)
      · have h := h.1 z
        refine e_iload_n (k := 28) (i := 1) rfl rfl 1 rfl ?_
        refine e_case (a := r1 = (33 : Int32)) (fun z33 => ?_) (fun z33 => ?_)
        · have h := h.1 z33
          refine e_lookup (k := 29) (tgt := 217) (off := 167) rfl (by decide) (by rw [z33]; decide) (by decide) ?_
          refine e_bipush (k := 62) (v := (12 : Int32)) rfl (by decide) ?_
          exact e_iret (k := 63) rfl rfl (Or.inl ⟨_, rfl, h⟩)
        · have h := h.2 z33
          refine e_case (a := r1 = (34 : Int32)) (fun z34 => ?_) (fun z34 => ?_)
          · have h := h.1 z34
            refine e_lookup (k := 29) (tgt := 217) (off := 167) rfl (by decide) (by rw [z34]; decide) (by decide) ?_
            refine e_bipush (k := 62) (v := (12 : Int32)) rfl (by decide) ?_
            exact e_iret (k := 63) rfl rfl (Or.inl ⟨_, rfl, h⟩)
          · have h := h.2 z34
            refine e_case (a := r1 = (40 : Int32)) (fun z40 => ?_) (fun z40 => ?_)
            · have h := h.1 z40
              refine e_lookup (k := 29) (tgt := 188) (off := 138) rfl (by decide) (by rw [z40]; decide) (by decide) ?_
              refine e_iload_n (k := 46) (i := 2) rfl rfl 2 rfl ?_
              refine e_bipush (k := 47) (v := (48 : Int32)) rfl (by decide) ?_
              refine e_icmp_lt (k := 48) (tgt := 205) rfl (by decide) (fun z => ?_) (fun z => ?_)
              · have h := h.1 z
                refine e_sub (lv' := []) [] rfl ?_
                exact s_X4_formHere_205 hg h
              · have h := h.2 z
                refine e_iload_n (k := 49) (i := 2) rfl rfl 2 rfl ?_
                refine e_bipush (k := 50) (v := (57 : Int32)) rfl (by decide) ?_
                refine e_icmp_gt (k := 51) (tgt := 205) rfl (by decide) (fun z => ?_) (fun z => ?_)
                · have h := h.1 z
                  refine e_sub (lv' := []) [] rfl ?_
                  exact s_X4_formHere_205 hg h
                · have h := h.2 z
                  refine e_bipush (k := 52) (v := (8 : Int32)) rfl (by decide) ?_
                  refine e_goto (k := 53) (tgt := 207) rfl (by decide) ?_
                  refine e_sub (lv' := []) [] rfl ?_
                  exact s_X4_formHere_207 hg h
            · have h := h.2 z40
              refine e_case (a := r1 = (41 : Int32)) (fun z41 => ?_) (fun z41 => ?_)
              · have h := h.1 z41
                refine e_lookup (k := 29) (tgt := 208) (off := 158) rfl (by decide) (by rw [z41]; decide) (by decide) ?_
                refine e_bipush (k := 56) (v := (9 : Int32)) rfl (by decide) ?_
                exact e_iret (k := 57) rfl rfl (Or.inl ⟨_, rfl, h⟩)
              · have h := h.2 z41
                refine e_case (a := r1 = (58 : Int32)) (fun z58 => ?_) (fun z58 => ?_)
                · have h := h.1 z58
                  refine e_lookup (k := 29) (tgt := 170) (off := 120) rfl (by decide) (by rw [z58]; decide) (by decide) ?_
                  refine e_iload_n (k := 34) (i := 1) rfl rfl 1 rfl ?_
                  refine e_iload_n (k := 35) (i := 2) rfl rfl 2 rfl ?_
                  refine e_callSi (k := 36) (As := [.int r1, .int r2]) (rest := []) rfl (c_X4_barSort (g := g) hg (n := n) h) m_X4_barSort st_X4_barSort l_X4_249 rfl rfl (Nat.le_of_ble_eq_true rfl) ⟨by decide, by decide, rfl, rfl⟩ (fun _ h => h.elim) (fun r5 u5 h => ?_)
                  refine e_if_lt (k := 37) (tgt := 182) rfl (by decide) (fun z => ?_) (fun z => ?_)
                  · have h := h.1 z
                    refine e_iconst (k := 40) (v := (0 : Int32)) rfl (by decide) ?_
                    refine e_sub (lv' := []) [] rfl ?_
                    exact s_X4_formHere_183 hg h
                  · have h := h.2 z
                    refine e_iconst (k := 38) (v := (5 : Int32)) rfl (by decide) ?_
                    refine e_goto (k := 39) (tgt := 183) rfl (by decide) ?_
                    refine e_sub (lv' := []) [] rfl ?_
                    exact s_X4_formHere_183 hg h
                · have h := h.2 z58
                  refine e_case (a := r1 = (60 : Int32)) (fun z60 => ?_) (fun z60 => ?_)
                  · have h := h.1 z60
                    refine e_lookup (k := 29) (tgt := 211) (off := 161) rfl (by decide) (by rw [z60]; decide) (by decide) ?_
                    refine e_bipush (k := 58) (v := (10 : Int32)) rfl (by decide) ?_
                    exact e_iret (k := 59) rfl rfl (Or.inl ⟨_, rfl, h⟩)
                  · have h := h.2 z60
                    refine e_case (a := r1 = (62 : Int32)) (fun z62 => ?_) (fun z62 => ?_)
                    · have h := h.1 z62
                      refine e_lookup (k := 29) (tgt := 211) (off := 161) rfl (by decide) (by rw [z62]; decide) (by decide) ?_
                      refine e_bipush (k := 58) (v := (10 : Int32)) rfl (by decide) ?_
                      exact e_iret (k := 59) rfl rfl (Or.inl ⟨_, rfl, h⟩)
                    · have h := h.2 z62
                      refine e_case (a := r1 = (90 : Int32)) (fun z90 => ?_) (fun z90 => ?_)
                      · have h := h.1 z90
                        refine e_lookup (k := 29) (tgt := 186) (off := 136) rfl (by decide) (by rw [z90]; decide) (by decide) ?_
                        refine e_iconst (k := 44) (v := (4 : Int32)) rfl (by decide) ?_
                        exact e_iret (k := 45) rfl rfl (Or.inl ⟨_, rfl, h⟩)
                      · have h := h.2 z90
                        refine e_case (a := r1 = (91 : Int32)) (fun z91 => ?_) (fun z91 => ?_)
                        · have h := h.1 z91
                          refine e_lookup (k := 29) (tgt := 164) (off := 114) rfl (by decide) (by rw [z91]; decide) (by decide) ?_
                          refine e_aload_n (k := 30) (i := 0) rfl rfl 0 rfl ?_
                          refine e_iload_n (k := 31) (i := 2) rfl rfl 2 rfl ?_
                          refine e_callVi (k := 32) (q := 38) (As := [.int r2]) (rest := []) rfl (c_X4_formOfBracket (g := g) hg (n := n) h) m_X4_formOfBracket i_X4_formOfBracket l_X4_246 rfl ⟨_, rfl, rfl⟩ rfl rfl (Nat.le_of_ble_eq_true rfl) ⟨by decide, by decide, rfl, rfl⟩ (fun _ h => h.elim) (fun r6 u6 h => ?_)
                          exact e_iret (k := 33) rfl rfl (Or.inl ⟨_, rfl, h⟩)
                        · have h := h.2 z91
                          refine e_case (a := r1 = (120 : Int32)) (fun z120 => ?_) (fun z120 => ?_)
                          · have h := h.1 z120
                            refine e_lookup (k := 29) (tgt := 184) (off := 134) rfl (by decide) (by rw [z120]; decide) (by decide) ?_
                            refine e_iconst (k := 42) (v := (3 : Int32)) rfl (by decide) ?_
                            exact e_iret (k := 43) rfl rfl (Or.inl ⟨_, rfl, h⟩)
                          · have h := h.2 z120
                            refine e_case (a := r1 = (122 : Int32)) (fun z122 => ?_) (fun z122 => ?_)
                            · have h := h.1 z122
                              refine e_lookup (k := 29) (tgt := 184) (off := 134) rfl (by decide) (by rw [z122]; decide) (by decide) ?_
                              refine e_iconst (k := 42) (v := (3 : Int32)) rfl (by decide) ?_
                              exact e_iret (k := 43) rfl rfl (Or.inl ⟨_, rfl, h⟩)
                            · have h := h.2 z122
                              refine e_case (a := r1 = (123 : Int32)) (fun z123 => ?_) (fun z123 => ?_)
                              · have h := h.1 z123
                                refine e_lookup (k := 29) (tgt := 214) (off := 164) rfl (by decide) (by rw [z123]; decide) (by decide) ?_
                                refine e_bipush (k := 60) (v := (7 : Int32)) rfl (by decide) ?_
                                exact e_iret (k := 61) rfl rfl (Or.inl ⟨_, rfl, h⟩)
                              · have h := h.2 z123
                                refine e_case (a := r1 = (124 : Int32)) (fun z124 => ?_) (fun z124 => ?_)
                                · have h := h.1 z124
                                  refine e_lookup (k := 29) (tgt := 170) (off := 120) rfl (by decide) (by rw [z124]; decide) (by decide) ?_
                                  refine e_iload_n (k := 34) (i := 1) rfl rfl 1 rfl ?_
                                  refine e_iload_n (k := 35) (i := 2) rfl rfl 2 rfl ?_
                                  refine e_callSi (k := 36) (As := [.int r1, .int r2]) (rest := []) rfl (c_X4_barSort (g := g) hg (n := n) h) m_X4_barSort st_X4_barSort l_X4_249 rfl rfl (Nat.le_of_ble_eq_true rfl) ⟨by decide, by decide, rfl, rfl⟩ (fun _ h => h.elim) (fun r7 u7 h => ?_)
                                  refine e_if_lt (k := 37) (tgt := 182) rfl (by decide) (fun z => ?_) (fun z => ?_)
                                  · have h := h.1 z
                                    refine e_iconst (k := 40) (v := (0 : Int32)) rfl (by decide) ?_
                                    refine e_sub (lv' := []) [] rfl ?_
                                    exact s_X4_formHere_183 hg h
                                  · have h := h.2 z
                                    refine e_iconst (k := 38) (v := (5 : Int32)) rfl (by decide) ?_
                                    refine e_goto (k := 39) (tgt := 183) rfl (by decide) ?_
                                    refine e_sub (lv' := []) [] rfl ?_
                                    exact s_X4_formHere_183 hg h
                                · have h := h.2 z124
                                  have w33 := xne (i := 33) z33 (by decide)
                                  have w34 := xne (i := 34) z34 (by decide)
                                  have w40 := xne (i := 40) z40 (by decide)
                                  have w41 := xne (i := 41) z41 (by decide)
                                  have w58 := xne (i := 58) z58 (by decide)
                                  have w60 := xne (i := 60) z60 (by decide)
                                  have w62 := xne (i := 62) z62 (by decide)
                                  have w90 := xne (i := 90) z90 (by decide)
                                  have w91 := xne (i := 91) z91 (by decide)
                                  have w120 := xne (i := 120) z120 (by decide)
                                  have w122 := xne (i := 122) z122 (by decide)
                                  have w123 := xne (i := 123) z123 (by decide)
                                  have w124 := xne (i := 124) z124 (by decide)
                                  refine e_lookup (k := 29) (tgt := 220) (off := 170) rfl (by decide) (by simp [Op.lookupswitch.offset, w33, w33.symm, w34, w34.symm, w40, w40.symm, w41, w41.symm, w58, w58.symm, w60, w60.symm, w62, w62.symm, w90, w90.symm, w91, w91.symm, w120, w120.symm, w122, w122.symm, w123, w123.symm, w124, w124.symm]) (by decide) ?_
                                  refine e_iconst (k := 64) (v := (0 : Int32)) rfl (by decide) ?_
                                  exact e_iret (k := 65) rfl rfl (Or.inl ⟨_, rfl, h⟩)
      · have h := h.2 z
        refine e_bipush (k := 26) (v := (11 : Int32)) rfl (by decide) ?_
        exact e_iret (k := 27) rfl rfl (Or.inl ⟨_, rfl, h⟩)
    · have h := h.2 z
      refine e_iconst (k := 19) (v := (1 : Int32)) rfl (by decide) ?_
      exact e_iret (k := 20) rfl rfl (Or.inl ⟨_, rfl, h⟩)
  · have h := h.2 z
    refine e_iconst (k := 12) (v := (0 : Int32)) rfl (by decide) ?_
    exact e_iret (k := 13) rfl rfl (Or.inl ⟨_, rfl, h⟩)
def il_X4_readNote : List (Nat × Instr × Nat) := [(0, .aload_n 0, 1), (1, .getfield 9, 3), (4, .getfield 123, 3), (7, .istore_n 3, 1), (8, .aload_n 0, 1), (9, .invokevirtual 271, 3), (12, .istore 4, 2), (14, .aload_n 0, 1), (15, .getfield 9, 3), (18, .getfield 123, 3), (21, .iload_n 3, 1), (22, .if_icmp .le 7, 3), (25, .iconst 1, 1), (26, .goto 4, 3), (29, .iconst 0, 1), (30, .istore 5, 2), (32, .aload_n 0, 1), (33, .getfield 9, 3), (36, .iconst 0, 1), (37, .invokevirtual 126, 3), (40, .istore 6, 2), (42, .iload 6, 2), (44, .ifCond .ge 7, 3), (47, .iconst (-1), 1), (48, .goto 12, 3), (51, .ldc_w 274, 3), (54, .iload 6, 2), (56, .i2c, 1), (57, .invokevirtual 239, 3), (60, .istore 7, 2), (62, .iload 7, 2), (64, .ifCond .ge 19, 3), (67, .aload_n 0, 1), (68, .getfield 9, 3), (71, .iconst 1, 1), (72, .aload_n 0, 1), (73, .getfield 9, 3), (76, .getfield 123, 3), (79, .invokevirtual 93, 3), (82, .return_, 1), (83, .aload_n 0, 1), (84, .getfield 9, 3), (87, .dup, 1), (88, .getfield 123, 3), (91, .iconst 1, 1), (92, .iadd, 1), (93, .putfield 123, 3), (96, .aload_n 0, 1), (97, .iload 7, 2), (99, .bipush 7, 2), (101, .if_icmp .ge 7, 3), (104, .iconst 4, 1), (105, .goto 4, 3), (108, .iconst 5, 1), (109, .invokevirtual 276, 3), (112, .istore 8, 2), (114, .iload 7, 2), (116, .bipush 7, 2), (118, .irem, 1), (119, .istore 7, 2), (121, .aload_n 0, 1), (122, .iload_n 1, 1), (123, .iload_n 3, 1), (124, .invokevirtual 177, 3), (127, .istore 9, 2), (129, .iload 9, 2), (131, .ifCond .ge 4, 3), (134, .return_, 1), (135, .aload_n 0, 1), (136, .iload_n 1, 1), (137, .iload 7, 2), (139, .iload 8, 2), (141, .invokevirtual 279, 3), (144, .istore 10, 2), (146, .iload 5, 2), (148, .ifCond .eq 26, 3), (151, .aload_n 0, 1), (152, .getfield 48, 3), (155, .aload_n 0, 1), (156, .getfield 19, 3), (159, .getfield 283, 3), (162, .iload 7, 2), (164, .iload 8, 2), (166, .iload 4, 2), (168, .invokevirtual 286, 3), (171, .goto 7, 3), (174, .iload 10, 2), (176, .istore 4, 2), (178, .aload_n 0, 1), (179, .getfield 29, 3), (182, .iload 9, 2), (184, .iconst 4, 1), (185, .iload 7, 2), (187, .invokevirtual 180, 3), (190, .aload_n 0, 1), (191, .getfield 29, 3), (194, .iload 9, 2), (196, .iconst 5, 1), (197, .iload 8, 2), (199, .invokevirtual 180, 3), (202, .aload_n 0, 1), (203, .getfield 29, 3), (206, .iload 9, 2), (208, .bipush 6, 2), (210, .iload 4, 2), (212, .invokevirtual 180, 3), (215, .aload_n 0, 1), (216, .getfield 29, 3), (219, .iload 9, 2), (221, .bipush 7, 2), (223, .iload 5, 2), (225, .ifCond .eq 7, 3), (228, .iconst 1, 1), (229, .goto 4, 3), (232, .iconst 0, 1), (233, .invokevirtual 180, 3), (236, .aload_n 0, 1), (237, .getfield 29, 3), (240, .iload 9, 2), (242, .bipush 18, 2), (244, .iload 4, 2), (246, .iload 10, 2), (248, .if_icmp .ne 7, 3), (251, .iconst 0, 1), (252, .goto 4, 3), (255, .iconst 1, 1), (256, .invokevirtual 180, 3), (259, .aload_n 0, 1), (260, .getfield 29, 3), (263, .iload 9, 2), (265, .bipush 9, 2), (267, .iconst 1, 1), (268, .invokevirtual 180, 3), (271, .aload_n 0, 1), (272, .iload 9, 2), (274, .invokevirtual 289, 3), (277, .aload_n 0, 1), (278, .invokevirtual 262, 3), (281, .iload_n 2, 1), (282, .ifCond .lt 29, 3), (285, .iload_n 2, 1), (286, .bipush 12, 2), (288, .if_icmp .ge 23, 3), (291, .aload_n 0, 1), (292, .getfield 37, 3), (295, .iload_n 2, 1), (296, .aload_n 0, 1), (297, .getfield 265, 3), (300, .iastore, 1), (301, .aload_n 0, 1), (302, .getfield 41, 3), (305, .iload_n 2, 1), (306, .aload_n 0, 1), (307, .getfield 268, 3), (310, .iastore, 1), (311, .return_, 1)]
set_option maxRecDepth 20000 in
theorem il_X4_readNote_ok : ∀ x ∈ il_X4_readNote, decode cX4_readNote x.1 = .ok x.2 := by decide +kernel
abbrev me_X4_readNote : Me := (RX4, il_X4_readNote, 11, none, xRoom 5, [])
def w_X4_readNote_311 (n : Nat) (u0 : Mm) (Q : Mm → Prop) : Prop :=
  Q u0
def w_X4_readNote_256 (n : Nat) (x2 : Int32) (x9 : Int32) (t0 : Int32) (t1 : Int32) (t2 : Int32) (u0 : Mm) (Q : Mm → Prop) : Prop :=
  w_X6_put n t2 t1 t0 u0 (fun u1 =>
  w_X6_put n x9 (9 : Int32) (1 : Int32) u1 (fun u2 =>
  w_X4_putPitch n x9 u2 (fun u3 =>
  w_X4_readLength n u3 (fun u4 =>
  (x2 < 0 → w_X4_readNote_311 n u4 Q) ∧
  (¬ x2 < 0 → ((12 : Int32) ≤ x2 → w_X4_readNote_311 n u4 Q) ∧
  (¬ (12 : Int32) ≤ x2 → vp_in x2 12 ∧ (mlet (setI u4 64 (ix x2) (u4.1 38 7)) fun u5 =>
  vp_in x2 12 ∧ (mlet (setI u5 65 (ix x2) (u5.1 38 8)) fun u6 =>
  w_X4_readNote_311 n u6 Q))))))))
def w_X4_readNote_233 (n : Nat) (x2 : Int32) (x4 : Int32) (x9 : Int32) (x10 : Int32) (t0 : Int32) (t1 : Int32) (t2 : Int32) (u0 : Mm) (Q : Mm → Prop) : Prop :=
  w_X6_put n t2 t1 t0 u0 (fun u1 =>
  (¬ x4 = x10 → w_X4_readNote_256 n x2 x9 (1 : Int32) (18 : Int32) x9 u1 Q) ∧
  (x4 = x10 → w_X4_readNote_256 n x2 x9 (0 : Int32) (18 : Int32) x9 u1 Q))
def w_X4_readNote_178 (n : Nat) (x2 : Int32) (x4 : Int32) (x5 : Int32) (x7 : Int32) (x8 : Int32) (x9 : Int32) (x10 : Int32) (u0 : Mm) (Q : Mm → Prop) : Prop :=
  w_X6_put n x9 (4 : Int32) x7 u0 (fun u1 =>
  w_X6_put n x9 (5 : Int32) x8 u1 (fun u2 =>
  w_X6_put n x9 (6 : Int32) x4 u2 (fun u3 =>
  (x5 = 0 → w_X4_readNote_233 n x2 x4 x9 x10 (0 : Int32) (7 : Int32) x9 u3 Q) ∧
  (¬ x5 = 0 → w_X4_readNote_233 n x2 x4 x9 x10 (1 : Int32) (7 : Int32) x9 u3 Q))))
def w_X4_readNote_109 (n : Nat) (x1 : Int32) (x2 : Int32) (x3 : Int32) (x4 : Int32) (x5 : Int32) (x7 : Int32) (t0 : Int32) (u0 : Mm) (Q : Mm → Prop) : Prop :=
  w_X4_readOctave n t0 u0 (fun r1 u1 =>
  ilet (x7 - x7 / (7 : Int32) * (7 : Int32)) fun y1 =>
  w_X4_addThing n x1 x3 u1 (fun r2 u2 =>
  (0 ≤ r2 → w_X4_signWithout n x1 y1 r1 u2 (fun r3 u3 =>
  (x5 = 0 → w_X4_readNote_178 n x2 r3 x5 y1 r1 r2 r3 u3 Q) ∧
  (¬ x5 = 0 → w_X8_mark n (u3.2.2 2) (u3.1 35 0) y1 r1 x4 u3 (fun u4 =>
  w_X4_readNote_178 n x2 x4 x5 y1 r1 r2 r3 u4 Q)))) ∧
  (¬ 0 ≤ r2 → Q u2)))
def w_X4_readNote_60 (n : Nat) (x1 : Int32) (x2 : Int32) (x3 : Int32) (x4 : Int32) (x5 : Int32) (t0 : Int32) (u0 : Mm) (Q : Mm → Prop) : Prop :=
  (0 ≤ t0 → mlet (setI u0 33 2 ((u0.1 33 2) + (1 : Int32))) fun u1 =>
  ((7 : Int32) ≤ t0 → w_X4_readNote_109 n x1 x2 x3 x4 x5 t0 (5 : Int32) u1 Q) ∧
  (¬ (7 : Int32) ≤ t0 → w_X4_readNote_109 n x1 x2 x3 x4 x5 t0 (4 : Int32) u1 Q)) ∧
  (¬ 0 ≤ t0 → w_X5_fail n (1 : Int32) (u0.1 33 2) u0 (fun u2 =>
  Q u2))
def w_X4_readNote_30 (n : Nat) (x1 : Int32) (x2 : Int32) (x3 : Int32) (x4 : Int32) (t0 : Int32) (u0 : Mm) (Q : Mm → Prop) : Prop :=
  w_X5_peek n (0 : Int32) u0 (fun r1 u1 =>
  (0 ≤ r1 → w_J0_indexOf_0f7a4 n 18 (r1.toUInt32 % 65536).toInt32 u1 (fun r2 u2 =>
  w_X4_readNote_60 n x1 x2 x3 x4 t0 r2 u2 Q)) ∧
  (¬ 0 ≤ r1 → w_X4_readNote_60 n x1 x2 x3 x4 t0 (-1 : Int32) u1 Q))
def w_X4_readNote (n : Nat) (a0 : Int32) (a1 : Int32) (u0 : Mm) (Q : Mm → Prop) : Prop :=
  ilet (u0.1 33 2) fun y1 =>
  w_X4_readSign n u0 (fun r1 u1 =>
  ((u1.1 33 2) ≤ y1 → w_X4_readNote_30 n a0 a1 y1 r1 (0 : Int32) u1 Q) ∧
  (¬ (u1.1 33 2) ≤ y1 → w_X4_readNote_30 n a0 a1 y1 r1 (1 : Int32) u1 Q))
set_option maxRecDepth 20000 in
theorem s_X4_readNote_311 {g : Gb} (hg : xInj g) {n : Nat} {Q : Mm → Prop} {u0 : Mm} (h : w_X4_readNote_311 n  u0 Q) : xE g me_X4_readNote (pV g Q noT) 311 [] [] u0 := by
  unfold w_X4_readNote_311 at h
  exact e_vret (k := 155) rfl rfl (Or.inl ⟨rfl, h⟩)
set_option maxRecDepth 20000 in
theorem s_X4_readNote_256 {g : Gb} (hg : xInj g) {n : Nat} {Q : Mm → Prop} {x2 : Int32} {x9 : Int32} {t0 : Int32} {t1 : Int32} {t2 : Int32} {u0 : Mm} (h : w_X4_readNote_256 n x2 x9 t0 t1 t2 u0 Q) : xE g me_X4_readNote (pV g Q noT) 256 [(0, .ref (gR g 38)), (2, .int x2), (9, .int x9)] [.int t0, .int t1, .int t2, .ref (gR g 36)] u0 := by
  unfold w_X4_readNote_256 at h
  refine e_callVv (k := 126) (q := 36) (As := [.int t2, .int t1, .int t0]) (rest := []) rfl (c_X6_put (g := g) hg (n := n) h) m_X6_put i_X6_put l_X4_180 rfl ⟨_, rfl, rfl⟩ rfl rfl (Nat.le_of_ble_eq_true rfl) ⟨by decide, by decide, rfl, rfl⟩ (fun _ h => h.elim) (fun u1 h => ?_)
  refine e_aload_n (k := 127) (i := 0) rfl rfl 0 rfl ?_
  refine e_getC (k := 128) rfl f_X4_29 rfl rfl ?_
  refine e_iload (k := 129) (i := 9) rfl 2 rfl ?_
  refine e_bipush (k := 130) (v := (9 : Int32)) rfl (by decide) ?_
  refine e_iconst (k := 131) (v := (1 : Int32)) rfl (by decide) ?_
  refine e_callVv (k := 132) (q := 36) (As := [.int x9, .int (9 : Int32), .int (1 : Int32)]) (rest := []) rfl (c_X6_put (g := g) hg (n := n) h) m_X6_put i_X6_put l_X4_180 rfl ⟨_, rfl, rfl⟩ rfl rfl (Nat.le_of_ble_eq_true rfl) ⟨by decide, by decide, rfl, rfl⟩ (fun _ h => h.elim) (fun u2 h => ?_)
  refine e_aload_n (k := 133) (i := 0) rfl rfl 0 rfl ?_
  refine e_iload (k := 134) (i := 9) rfl 2 rfl ?_
  refine e_callVv (k := 135) (q := 38) (As := [.int x9]) (rest := []) rfl (c_X4_putPitch (g := g) hg (n := n) h) m_X4_putPitch i_X4_putPitch l_X4_289 rfl ⟨_, rfl, rfl⟩ rfl rfl (Nat.le_of_ble_eq_true rfl) ⟨by decide, by decide, rfl, rfl⟩ (fun _ h => h.elim) (fun u3 h => ?_)
  refine e_aload_n (k := 136) (i := 0) rfl rfl 0 rfl ?_
  refine e_callVv (k := 137) (q := 38) (As := []) (rest := []) rfl (c_X4_readLength (g := g) hg (n := n) h) m_X4_readLength i_X4_readLength l_X4_262 rfl ⟨_, rfl, rfl⟩ rfl rfl (Nat.le_of_ble_eq_true rfl) ⟨by decide, by decide, rfl, rfl⟩ (fun _ h => h.elim) (fun u4 h => ?_)
  refine e_iload_n (k := 138) (i := 2) rfl rfl 1 rfl ?_
  refine e_if_lt (k := 139) (tgt := 311) rfl (by decide) (fun z => ?_) (fun z => ?_)
  · have h := h.1 z
    refine e_sub (lv' := []) [] rfl ?_
    exact s_X4_readNote_311 hg h
  · have h := h.2 z
    refine e_iload_n (k := 140) (i := 2) rfl rfl 1 rfl ?_
    refine e_bipush (k := 141) (v := (12 : Int32)) rfl (by decide) ?_
    refine e_icmp_ge (k := 142) (tgt := 311) rfl (by decide) (fun z => ?_) (fun z => ?_)
    · have h := h.1 z
      refine e_sub (lv' := []) [] rfl ?_
      exact s_X4_readNote_311 hg h
    · have h := h.2 z
      refine e_aload_n (k := 143) (i := 0) rfl rfl 0 rfl ?_
      refine e_getC (k := 144) rfl f_X4_37 rfl rfl ?_
      refine e_iload_n (k := 145) (i := 2) rfl rfl 1 rfl ?_
      refine e_aload_n (k := 146) (i := 0) rfl rfl 0 rfl ?_
      refine e_getI (k := 147) rfl f_X4_265 rfl rfl ?_
      refine e_iast (k := 148) rfl rfl h.1 ?_
      have h := h.2
      refine e_mlet h (fun u5 h => ?_)
      refine e_aload_n (k := 149) (i := 0) rfl rfl 0 rfl ?_
      refine e_getC (k := 150) rfl f_X4_41 rfl rfl ?_
      refine e_iload_n (k := 151) (i := 2) rfl rfl 1 rfl ?_
      refine e_aload_n (k := 152) (i := 0) rfl rfl 0 rfl ?_
      refine e_getI (k := 153) rfl f_X4_268 rfl rfl ?_
      refine e_iast (k := 154) rfl rfl h.1 ?_
      have h := h.2
      refine e_mlet h (fun u6 h => ?_)
      refine e_sub (lv' := []) [] rfl ?_
      exact s_X4_readNote_311 hg h
set_option maxRecDepth 20000 in
theorem s_X4_readNote_233 {g : Gb} (hg : xInj g) {n : Nat} {Q : Mm → Prop} {x2 : Int32} {x4 : Int32} {x9 : Int32} {x10 : Int32} {t0 : Int32} {t1 : Int32} {t2 : Int32} {u0 : Mm} (h : w_X4_readNote_233 n x2 x4 x9 x10 t0 t1 t2 u0 Q) : xE g me_X4_readNote (pV g Q noT) 233 [(0, .ref (gR g 38)), (2, .int x2), (4, .int x4), (9, .int x9), (10, .int x10)] [.int t0, .int t1, .int t2, .ref (gR g 36)] u0 := by
  unfold w_X4_readNote_233 at h
  refine e_callVv (k := 115) (q := 36) (As := [.int t2, .int t1, .int t0]) (rest := []) rfl (c_X6_put (g := g) hg (n := n) h) m_X6_put i_X6_put l_X4_180 rfl ⟨_, rfl, rfl⟩ rfl rfl (Nat.le_of_ble_eq_true rfl) ⟨by decide, by decide, rfl, rfl⟩ (fun _ h => h.elim) (fun u1 h => ?_)
  refine e_aload_n (k := 116) (i := 0) rfl rfl 0 rfl ?_
  refine e_getC (k := 117) rfl f_X4_29 rfl rfl ?_
  refine e_iload (k := 118) (i := 9) rfl 3 rfl ?_
  refine e_bipush (k := 119) (v := (18 : Int32)) rfl (by decide) ?_
  refine e_iload (k := 120) (i := 4) rfl 2 rfl ?_
  refine e_iload (k := 121) (i := 10) rfl 4 rfl ?_
  refine e_icmp_ne (k := 122) (tgt := 255) rfl (by decide) (fun z => ?_) (fun z => ?_)
  · have h := h.1 z
    refine e_iconst (k := 125) (v := (1 : Int32)) rfl (by decide) ?_
    refine e_sub (lv' := [(0, .ref (gR g 38)), (2, .int x2), (9, .int x9)]) [0, 1, 3] rfl ?_
    exact s_X4_readNote_256 hg h
  · have h := h.2 z
    refine e_iconst (k := 123) (v := (0 : Int32)) rfl (by decide) ?_
    refine e_goto (k := 124) (tgt := 256) rfl (by decide) ?_
    refine e_sub (lv' := [(0, .ref (gR g 38)), (2, .int x2), (9, .int x9)]) [0, 1, 3] rfl ?_
    exact s_X4_readNote_256 hg h
set_option maxRecDepth 20000 in
theorem s_X4_readNote_178 {g : Gb} (hg : xInj g) {n : Nat} {Q : Mm → Prop} {x2 : Int32} {x4 : Int32} {x5 : Int32} {x7 : Int32} {x8 : Int32} {x9 : Int32} {x10 : Int32} {u0 : Mm} (h : w_X4_readNote_178 n x2 x4 x5 x7 x8 x9 x10 u0 Q) : xE g me_X4_readNote (pV g Q noT) 178 [(0, .ref (gR g 38)), (2, .int x2), (4, .int x4), (5, .int x5), (7, .int x7), (8, .int x8), (9, .int x9), (10, .int x10)] [] u0 := by
  unfold w_X4_readNote_178 at h
  refine e_aload_n (k := 88) (i := 0) rfl rfl 0 rfl ?_
  refine e_getC (k := 89) rfl f_X4_29 rfl rfl ?_
  refine e_iload (k := 90) (i := 9) rfl 6 rfl ?_
  refine e_iconst (k := 91) (v := (4 : Int32)) rfl (by decide) ?_
  refine e_iload (k := 92) (i := 7) rfl 4 rfl ?_
  refine e_callVv (k := 93) (q := 36) (As := [.int x9, .int (4 : Int32), .int x7]) (rest := []) rfl (c_X6_put (g := g) hg (n := n) h) m_X6_put i_X6_put l_X4_180 rfl ⟨_, rfl, rfl⟩ rfl rfl (Nat.le_of_ble_eq_true rfl) ⟨by decide, by decide, rfl, rfl⟩ (fun _ h => h.elim) (fun u1 h => ?_)
  refine e_aload_n (k := 94) (i := 0) rfl rfl 0 rfl ?_
  refine e_getC (k := 95) rfl f_X4_29 rfl rfl ?_
  refine e_iload (k := 96) (i := 9) rfl 6 rfl ?_
  refine e_iconst (k := 97) (v := (5 : Int32)) rfl (by decide) ?_
  refine e_iload (k := 98) (i := 8) rfl 5 rfl ?_
  refine e_callVv (k := 99) (q := 36) (As := [.int x9, .int (5 : Int32), .int x8]) (rest := []) rfl (c_X6_put (g := g) hg (n := n) h) m_X6_put i_X6_put l_X4_180 rfl ⟨_, rfl, rfl⟩ rfl rfl (Nat.le_of_ble_eq_true rfl) ⟨by decide, by decide, rfl, rfl⟩ (fun _ h => h.elim) (fun u2 h => ?_)
  refine e_aload_n (k := 100) (i := 0) rfl rfl 0 rfl ?_
  refine e_getC (k := 101) rfl f_X4_29 rfl rfl ?_
  refine e_iload (k := 102) (i := 9) rfl 6 rfl ?_
  refine e_bipush (k := 103) (v := (6 : Int32)) rfl (by decide) ?_
  refine e_iload (k := 104) (i := 4) rfl 2 rfl ?_
  refine e_callVv (k := 105) (q := 36) (As := [.int x9, .int (6 : Int32), .int x4]) (rest := []) rfl (c_X6_put (g := g) hg (n := n) h) m_X6_put i_X6_put l_X4_180 rfl ⟨_, rfl, rfl⟩ rfl rfl (Nat.le_of_ble_eq_true rfl) ⟨by decide, by decide, rfl, rfl⟩ (fun _ h => h.elim) (fun u3 h => ?_)
  refine e_aload_n (k := 106) (i := 0) rfl rfl 0 rfl ?_
  refine e_getC (k := 107) rfl f_X4_29 rfl rfl ?_
  refine e_iload (k := 108) (i := 9) rfl 6 rfl ?_
  refine e_bipush (k := 109) (v := (7 : Int32)) rfl (by decide) ?_
  refine e_iload (k := 110) (i := 5) rfl 3 rfl ?_
  refine e_if_eq (k := 111) (tgt := 232) rfl (by decide) (fun z => ?_) (fun z => ?_)
  · have h := h.1 z
    refine e_iconst (k := 114) (v := (0 : Int32)) rfl (by decide) ?_
    refine e_sub (lv' := [(0, .ref (gR g 38)), (2, .int x2), (4, .int x4), (9, .int x9), (10, .int x10)]) [0, 1, 2, 6, 7] rfl ?_
    exact s_X4_readNote_233 hg h
  · have h := h.2 z
    refine e_iconst (k := 112) (v := (1 : Int32)) rfl (by decide) ?_
    refine e_goto (k := 113) (tgt := 233) rfl (by decide) ?_
    refine e_sub (lv' := [(0, .ref (gR g 38)), (2, .int x2), (4, .int x4), (9, .int x9), (10, .int x10)]) [0, 1, 2, 6, 7] rfl ?_
    exact s_X4_readNote_233 hg h
set_option maxRecDepth 20000 in
theorem s_X4_readNote_109 {g : Gb} (hg : xInj g) {n : Nat} {Q : Mm → Prop} {x1 : Int32} {x2 : Int32} {x3 : Int32} {x4 : Int32} {x5 : Int32} {x7 : Int32} {t0 : Int32} {u0 : Mm} (h : w_X4_readNote_109 n x1 x2 x3 x4 x5 x7 t0 u0 Q) : xE g me_X4_readNote (pV g Q noT) 109 [(0, .ref (gR g 38)), (1, .int x1), (2, .int x2), (3, .int x3), (4, .int x4), (5, .int x5), (7, .int x7)] [.int t0, .ref (gR g 38)] u0 := by
  unfold w_X4_readNote_109 at h
  refine e_callVi (k := 54) (q := 38) (As := [.int t0]) (rest := []) rfl (c_X4_readOctave (g := g) hg (n := n) h) m_X4_readOctave i_X4_readOctave l_X4_276 rfl ⟨_, rfl, rfl⟩ rfl rfl (Nat.le_of_ble_eq_true rfl) ⟨by decide, by decide, rfl, rfl⟩ (fun _ h => h.elim) (fun r1 u1 h => ?_)
  refine e_istore (k := 55) (i := 8) (lv' := [(0, .ref (gR g 38)), (1, .int x1), (2, .int x2), (3, .int x3), (4, .int x4), (5, .int x5), (7, .int x7), (8, .int r1)]) rfl (by decide) [1, 2, 3, 4, 5, 6, 7, 0] rfl ?_
  refine e_iload (k := 56) (i := 7) rfl 6 rfl ?_
  refine e_bipush (k := 57) (v := (7 : Int32)) rfl (by decide) ?_
  refine e_irem (k := 58) rfl (by decide) ?_
  refine e_ilet h (fun y1 h => ?_)
  refine e_istore (k := 59) (i := 7) (lv' := [(0, .ref (gR g 38)), (1, .int x1), (2, .int x2), (3, .int x3), (4, .int x4), (5, .int x5), (7, .int y1), (8, .int r1)]) rfl (by decide) [1, 2, 3, 4, 5, 6, 0, 7] rfl ?_
  refine e_aload_n (k := 60) (i := 0) rfl rfl 0 rfl ?_
  refine e_iload_n (k := 61) (i := 1) rfl rfl 1 rfl ?_
  refine e_iload_n (k := 62) (i := 3) rfl rfl 3 rfl ?_
  refine e_callVi (k := 63) (q := 38) (As := [.int x1, .int x3]) (rest := []) rfl (c_X4_addThing (g := g) hg (n := n) h) m_X4_addThing i_X4_addThing l_X4_177 rfl ⟨_, rfl, rfl⟩ rfl rfl (Nat.le_of_ble_eq_true rfl) ⟨by decide, by decide, rfl, rfl⟩ (fun _ h => h.elim) (fun r2 u2 h => ?_)
  refine e_istore (k := 64) (i := 9) (lv' := [(0, .ref (gR g 38)), (1, .int x1), (2, .int x2), (3, .int x3), (4, .int x4), (5, .int x5), (7, .int y1), (8, .int r1), (9, .int r2)]) rfl (by decide) [1, 2, 3, 4, 5, 6, 7, 8, 0] rfl ?_
  refine e_iload (k := 65) (i := 9) rfl 8 rfl ?_
  refine e_if_ge (k := 66) (tgt := 135) rfl (by decide) (fun z => ?_) (fun z => ?_)
  · have h := h.1 z
    refine e_aload_n (k := 68) (i := 0) rfl rfl 0 rfl ?_
    refine e_iload_n (k := 69) (i := 1) rfl rfl 1 rfl ?_
    refine e_iload (k := 70) (i := 7) rfl 6 rfl ?_
    refine e_iload (k := 71) (i := 8) rfl 7 rfl ?_
    refine e_callVi (k := 72) (q := 38) (As := [.int x1, .int y1, .int r1]) (rest := []) rfl (c_X4_signWithout (g := g) hg (n := n) h) m_X4_signWithout i_X4_signWithout l_X4_279 rfl ⟨_, rfl, rfl⟩ rfl rfl (Nat.le_of_ble_eq_true rfl) ⟨by decide, by decide, rfl, rfl⟩ (fun _ h => h.elim) (fun r3 u3 h => ?_)
    refine e_istore (k := 73) (i := 10) (lv' := [(0, .ref (gR g 38)), (1, .int x1), (2, .int x2), (3, .int x3), (4, .int x4), (5, .int x5), (7, .int y1), (8, .int r1), (9, .int r2), (10, .int r3)]) rfl (by decide) [1, 2, 3, 4, 5, 6, 7, 8, 9, 0] rfl ?_
    refine e_iload (k := 74) (i := 5) rfl 5 rfl ?_
    refine e_if_eq (k := 75) (tgt := 174) rfl (by decide) (fun z => ?_) (fun z => ?_)
    · have h := h.1 z
      refine e_iload (k := 86) (i := 10) rfl 9 rfl ?_
      refine e_istore (k := 87) (i := 4) (lv' := [(0, .ref (gR g 38)), (1, .int x1), (2, .int x2), (3, .int x3), (4, .int r3), (5, .int x5), (7, .int y1), (8, .int r1), (9, .int r2), (10, .int r3)]) rfl (by decide) [1, 2, 3, 4, 0, 5, 6, 7, 8, 9] rfl ?_
      refine e_sub (lv' := [(0, .ref (gR g 38)), (2, .int x2), (4, .int r3), (5, .int x5), (7, .int y1), (8, .int r1), (9, .int r2), (10, .int r3)]) [0, 2, 4, 5, 6, 7, 8, 9] rfl ?_
      exact s_X4_readNote_178 hg h
    · have h := h.2 z
      refine e_aload_n (k := 76) (i := 0) rfl rfl 0 rfl ?_
      refine e_getP (k := 77) rfl f_X4_48 rfl rfl (fun ty1 => ?_)
      refine e_aload_n (k := 78) (i := 0) rfl rfl 0 rfl ?_
      refine e_getC (k := 79) rfl f_X4_19 rfl rfl ?_
      refine e_getI (k := 80) rfl f_X4_283 rfl rfl ?_
      refine e_iload (k := 81) (i := 7) rfl 6 rfl ?_
      refine e_iload (k := 82) (i := 8) rfl 7 rfl ?_
      refine e_iload (k := 83) (i := 4) rfl 4 rfl ?_
      refine e_callVv (k := 84) (q := (u3.2.2 2)) (As := [.int (u3.1 35 0), .int y1, .int r1, .int x4]) (rest := []) rfl (c_X8_mark (g := g) hg (n := n) ty1.2.2 h) m_X8_mark i_X8_mark l_X4_286 ty1.2.2 ⟨_, rfl, rfl⟩ rfl rfl (Nat.le_of_ble_eq_true rfl) ⟨by decide, by decide, rfl, rfl⟩ (fun _ h => h.elim) (fun u4 h => ?_)
      refine e_goto (k := 85) (tgt := 178) rfl (by decide) ?_
      refine e_sub (lv' := [(0, .ref (gR g 38)), (2, .int x2), (4, .int x4), (5, .int x5), (7, .int y1), (8, .int r1), (9, .int r2), (10, .int r3)]) [0, 2, 4, 5, 6, 7, 8, 9] rfl ?_
      exact s_X4_readNote_178 hg h
  · have h := h.2 z
    exact e_vret (k := 67) rfl rfl (Or.inl ⟨rfl, h⟩)
set_option maxRecDepth 20000 in
theorem s_X4_readNote_60 {g : Gb} (hg : xInj g) {n : Nat} {Q : Mm → Prop} {x1 : Int32} {x2 : Int32} {x3 : Int32} {x4 : Int32} {x5 : Int32} {t0 : Int32} {u0 : Mm} (h : w_X4_readNote_60 n x1 x2 x3 x4 x5 t0 u0 Q) : xE g me_X4_readNote (pV g Q noT) 60 [(0, .ref (gR g 38)), (1, .int x1), (2, .int x2), (3, .int x3), (4, .int x4), (5, .int x5)] [.int t0] u0 := by
  unfold w_X4_readNote_60 at h
  refine e_istore (k := 29) (i := 7) (lv' := [(0, .ref (gR g 38)), (1, .int x1), (2, .int x2), (3, .int x3), (4, .int x4), (5, .int x5), (7, .int t0)]) rfl (by decide) [1, 2, 3, 4, 5, 6, 0] rfl ?_
  refine e_iload (k := 30) (i := 7) rfl 6 rfl ?_
  refine e_if_ge (k := 31) (tgt := 83) rfl (by decide) (fun z => ?_) (fun z => ?_)
  · have h := h.1 z
    refine e_aload_n (k := 40) (i := 0) rfl rfl 0 rfl ?_
    refine e_getC (k := 41) rfl f_X4_9 rfl rfl ?_
    refine e_dup (k := 42) rfl rfl ?_
    refine e_getI (k := 43) rfl f_X4_123 rfl rfl ?_
    refine e_iconst (k := 44) (v := (1 : Int32)) rfl (by decide) ?_
    refine e_iadd (k := 45) rfl ?_
    refine e_putI (k := 46) rfl fg_X4_123 rfl rfl ?_
    refine e_mlet h (fun u1 h => ?_)
    refine e_aload_n (k := 47) (i := 0) rfl rfl 0 rfl ?_
    refine e_iload (k := 48) (i := 7) rfl 6 rfl ?_
    refine e_bipush (k := 49) (v := (7 : Int32)) rfl (by decide) ?_
    refine e_icmp_ge (k := 50) (tgt := 108) rfl (by decide) (fun z => ?_) (fun z => ?_)
    · have h := h.1 z
      refine e_iconst (k := 53) (v := (5 : Int32)) rfl (by decide) ?_
      exact s_X4_readNote_109 hg h
    · have h := h.2 z
      refine e_iconst (k := 51) (v := (4 : Int32)) rfl (by decide) ?_
      refine e_goto (k := 52) (tgt := 109) rfl (by decide) ?_
      exact s_X4_readNote_109 hg h
  · have h := h.2 z
    refine e_aload_n (k := 32) (i := 0) rfl rfl 0 rfl ?_
    refine e_getC (k := 33) rfl f_X4_9 rfl rfl ?_
    refine e_iconst (k := 34) (v := (1 : Int32)) rfl (by decide) ?_
    refine e_aload_n (k := 35) (i := 0) rfl rfl 0 rfl ?_
    refine e_getC (k := 36) rfl f_X4_9 rfl rfl ?_
    refine e_getI (k := 37) rfl f_X4_123 rfl rfl ?_
    refine e_callVv (k := 38) (q := 33) (As := [.int (1 : Int32), .int (u0.1 33 2)]) (rest := []) rfl (c_X5_fail (g := g) hg (n := n) h) m_X5_fail i_X5_fail l_X4_93 rfl ⟨_, rfl, rfl⟩ rfl rfl (Nat.le_of_ble_eq_true rfl) ⟨by decide, by decide, rfl, rfl⟩ (fun _ h => h.elim) (fun u2 h => ?_)
    exact e_vret (k := 39) rfl rfl (Or.inl ⟨rfl, h⟩)
set_option maxRecDepth 20000 in
theorem s_X4_readNote_30 {g : Gb} (hg : xInj g) {n : Nat} {Q : Mm → Prop} {x1 : Int32} {x2 : Int32} {x3 : Int32} {x4 : Int32} {t0 : Int32} {u0 : Mm} (h : w_X4_readNote_30 n x1 x2 x3 x4 t0 u0 Q) : xE g me_X4_readNote (pV g Q noT) 30 [(0, .ref (gR g 38)), (1, .int x1), (2, .int x2), (3, .int x3), (4, .int x4)] [.int t0] u0 := by
  unfold w_X4_readNote_30 at h
  refine e_istore (k := 15) (i := 5) (lv' := [(0, .ref (gR g 38)), (1, .int x1), (2, .int x2), (3, .int x3), (4, .int x4), (5, .int t0)]) rfl (by decide) [1, 2, 3, 4, 5, 0] rfl ?_
  refine e_aload_n (k := 16) (i := 0) rfl rfl 0 rfl ?_
  refine e_getC (k := 17) rfl f_X4_9 rfl rfl ?_
  refine e_iconst (k := 18) (v := (0 : Int32)) rfl (by decide) ?_
  refine e_callVi (k := 19) (q := 33) (As := [.int (0 : Int32)]) (rest := []) rfl (c_X5_peek (g := g) hg (n := n) h) m_X5_peek i_X5_peek l_X4_126 rfl ⟨_, rfl, rfl⟩ rfl rfl (Nat.le_of_ble_eq_true rfl) ⟨by decide, by decide, rfl, rfl⟩ (fun _ h => h.elim) (fun r1 u1 h => ?_)
  refine e_istore (k := 20) (i := 6) (lv' := [(0, .ref (gR g 38)), (1, .int x1), (2, .int x2), (3, .int x3), (4, .int x4), (5, .int t0), (6, .int r1)]) rfl (by decide) [1, 2, 3, 4, 5, 6, 0] rfl ?_
  refine e_iload (k := 21) (i := 6) rfl 6 rfl ?_
  refine e_if_ge (k := 22) (tgt := 51) rfl (by decide) (fun z => ?_) (fun z => ?_)
  · have h := h.1 z
    refine e_ldcwS (k := 25) (j := 18) rfl rfl ?_
    refine e_iload (k := 26) (i := 6) rfl 6 rfl ?_
    refine e_i2c (k := 27) rfl ?_
    refine e_callKi (k := 28) (j := 18) (As := [.int (r1.toUInt32 % 65536).toInt32]) (rest := []) rfl (c_J0_indexOf_0f7a4 (g := g) hg (n := n) (by decide) h) m_J0_indexOf_0f7a4 i_J0_indexOf_0f7a4 l_X4_239 (by decide) rfl rfl rfl (Nat.le_of_ble_eq_true rfl) ⟨by decide, by decide, rfl, rfl⟩ (fun r2 u2 h => ?_)
    refine e_sub (lv' := [(0, .ref (gR g 38)), (1, .int x1), (2, .int x2), (3, .int x3), (4, .int x4), (5, .int t0)]) [0, 1, 2, 3, 4, 5] rfl ?_
    exact s_X4_readNote_60 hg h
  · have h := h.2 z
    refine e_iconst (k := 23) (v := (-1 : Int32)) rfl (by decide) ?_
    refine e_goto (k := 24) (tgt := 60) rfl (by decide) ?_
    refine e_sub (lv' := [(0, .ref (gR g 38)), (1, .int x1), (2, .int x2), (3, .int x3), (4, .int x4), (5, .int t0)]) [0, 1, 2, 3, 4, 5] rfl ?_
    exact s_X4_readNote_60 hg h
set_option maxRecDepth 20000 in
theorem c_X4_readNote {g : Gb} (hg : xInj g) {n : Nat} {a0 : Int32} {a1 : Int32} {u0 : Mm} {Q : Mm → Prop} (h : w_X4_readNote n a0 a1 u0 Q) : xMet (gL g) yX4_readNote (xws yX4_readNote cX4_readNote 11 none) (xRoom 5) (xPc g [.ref (gR g 38), .int a0, .int a1] u0) (xQ g (pV g Q noT)) (xA g) := by
  refine xbody (il := il_X4_readNote) hg il_X4_readNote_ok m_X4_readNote (Nat.le_of_ble_eq_true rfl) ?_
  show xE g me_X4_readNote (pV g Q noT) 0 [(0, .ref (gR g 38)), (1, .int a0), (2, .int a1)] [] u0
  unfold w_X4_readNote at h
  refine e_aload_n (k := 0) (i := 0) rfl rfl 0 rfl ?_
  refine e_getC (k := 1) rfl f_X4_9 rfl rfl ?_
  refine e_getI (k := 2) rfl f_X4_123 rfl rfl ?_
  refine e_ilet h (fun y1 h => ?_)
  refine e_istore_n (k := 3) (i := 3) (lv' := [(0, .ref (gR g 38)), (1, .int a0), (2, .int a1), (3, .int y1)]) rfl rfl (by decide) [1, 2, 3, 0] rfl ?_
  refine e_aload_n (k := 4) (i := 0) rfl rfl 0 rfl ?_
  refine e_callVi (k := 5) (q := 38) (As := []) (rest := []) rfl (c_X4_readSign (g := g) hg (n := n) h) m_X4_readSign i_X4_readSign l_X4_271 rfl ⟨_, rfl, rfl⟩ rfl rfl (Nat.le_of_ble_eq_true rfl) ⟨by decide, by decide, rfl, rfl⟩ (fun _ h => h.elim) (fun r1 u1 h => ?_)
  refine e_istore (k := 6) (i := 4) (lv' := [(0, .ref (gR g 38)), (1, .int a0), (2, .int a1), (3, .int y1), (4, .int r1)]) rfl (by decide) [1, 2, 3, 4, 0] rfl ?_
  refine e_aload_n (k := 7) (i := 0) rfl rfl 0 rfl ?_
  refine e_getC (k := 8) rfl f_X4_9 rfl rfl ?_
  refine e_getI (k := 9) rfl f_X4_123 rfl rfl ?_
  refine e_iload_n (k := 10) (i := 3) rfl rfl 3 rfl ?_
  refine e_icmp_le (k := 11) (tgt := 29) rfl (by decide) (fun z => ?_) (fun z => ?_)
  · have h := h.1 z
    refine e_iconst (k := 14) (v := (0 : Int32)) rfl (by decide) ?_
    exact s_X4_readNote_30 hg h
  · have h := h.2 z
    refine e_iconst (k := 12) (v := (1 : Int32)) rfl (by decide) ?_
    refine e_goto (k := 13) (tgt := 30) rfl (by decide) ?_
    exact s_X4_readNote_30 hg h
def il_X4_readOrnament : List (Nat × Instr × Nat) := [(0, .ldc 244, 2), (2, .aload_n 0, 1), (3, .getfield 9, 3), (6, .iconst 0, 1), (7, .invokevirtual 126, 3), (10, .i2c, 1), (11, .invokevirtual 239, 3), (14, .istore_n 1, 1), (15, .iload_n 1, 1), (16, .ifCond .lt 21, 3), (19, .aload_n 0, 1), (20, .getfield 33, 3), (23, .aload_n 0, 1), (24, .getfield 33, 3), (27, .getfield 381, 3), (30, .iconst 1, 1), (31, .iload_n 1, 1), (32, .ishl, 1), (33, .ior, 1), (34, .putfield 381, 3), (37, .aload_n 0, 1), (38, .getfield 9, 3), (41, .dup, 1), (42, .getfield 123, 3), (45, .iconst 1, 1), (46, .iadd, 1), (47, .putfield 123, 3), (50, .return_, 1)]
set_option maxRecDepth 20000 in
theorem il_X4_readOrnament_ok : ∀ x ∈ il_X4_readOrnament, decode cX4_readOrnament x.1 = .ok x.2 := by decide +kernel
abbrev me_X4_readOrnament : Me := (RX4, il_X4_readOrnament, 2, none, xRoom 5, [])
def w_X4_readOrnament_37 (n : Nat) (u0 : Mm) (Q : Mm → Prop) : Prop :=
  mlet (setI u0 33 2 ((u0.1 33 2) + (1 : Int32))) fun u1 =>
  Q u1
def w_X4_readOrnament (n : Nat) (u0 : Mm) (Q : Mm → Prop) : Prop :=
  w_X5_peek n (0 : Int32) u0 (fun r1 u1 =>
  w_J0_indexOf_0f7a4 n 17 (r1.toUInt32 % 65536).toInt32 u1 (fun r2 u2 =>
  (r2 < 0 → w_X4_readOrnament_37 n u2 Q) ∧
  (¬ r2 < 0 → mlet (setI u2 39 0 ((u2.1 39 0) ||| ((1 : Int32) <<< (r2 &&& 31)))) fun u3 =>
  w_X4_readOrnament_37 n u3 Q)))
set_option maxRecDepth 20000 in
theorem s_X4_readOrnament_37 {g : Gb} (hg : xInj g) {n : Nat} {Q : Mm → Prop} {u0 : Mm} (h : w_X4_readOrnament_37 n  u0 Q) : xE g me_X4_readOrnament (pV g Q noT) 37 [(0, .ref (gR g 38))] [] u0 := by
  unfold w_X4_readOrnament_37 at h
  refine e_aload_n (k := 20) (i := 0) rfl rfl 0 rfl ?_
  refine e_getC (k := 21) rfl f_X4_9 rfl rfl ?_
  refine e_dup (k := 22) rfl rfl ?_
  refine e_getI (k := 23) rfl f_X4_123 rfl rfl ?_
  refine e_iconst (k := 24) (v := (1 : Int32)) rfl (by decide) ?_
  refine e_iadd (k := 25) rfl ?_
  refine e_putI (k := 26) rfl fg_X4_123 rfl rfl ?_
  refine e_mlet h (fun u1 h => ?_)
  exact e_vret (k := 27) rfl rfl (Or.inl ⟨rfl, h⟩)
set_option maxRecDepth 20000 in
theorem c_X4_readOrnament {g : Gb} (hg : xInj g) {n : Nat} {u0 : Mm} {Q : Mm → Prop} (h : w_X4_readOrnament n u0 Q) : xMet (gL g) yX4_readOrnament (xws yX4_readOrnament cX4_readOrnament 2 none) (xRoom 5) (xPc g [.ref (gR g 38)] u0) (xQ g (pV g Q noT)) (xA g) := by
  refine xbody (il := il_X4_readOrnament) hg il_X4_readOrnament_ok m_X4_readOrnament (Nat.le_of_ble_eq_true rfl) ?_
  show xE g me_X4_readOrnament (pV g Q noT) 0 [(0, .ref (gR g 38))] [] u0
  unfold w_X4_readOrnament at h
  refine e_ldcS (k := 0) (j := 17) rfl rfl ?_
  refine e_aload_n (k := 1) (i := 0) rfl rfl 0 rfl ?_
  refine e_getC (k := 2) rfl f_X4_9 rfl rfl ?_
  refine e_iconst (k := 3) (v := (0 : Int32)) rfl (by decide) ?_
  refine e_callVi (k := 4) (q := 33) (As := [.int (0 : Int32)]) (rest := [.ref (gK g 17)]) rfl (c_X5_peek (g := g) hg (n := n) h) m_X5_peek i_X5_peek l_X4_126 rfl ⟨_, rfl, rfl⟩ rfl rfl (Nat.le_of_ble_eq_true rfl) ⟨by decide, by decide, rfl, rfl⟩ (fun _ h => h.elim) (fun r1 u1 h => ?_)
  refine e_i2c (k := 5) rfl ?_
  refine e_callKi (k := 6) (j := 17) (As := [.int (r1.toUInt32 % 65536).toInt32]) (rest := []) rfl (c_J0_indexOf_0f7a4 (g := g) hg (n := n) (by decide) h) m_J0_indexOf_0f7a4 i_J0_indexOf_0f7a4 l_X4_239 (by decide) rfl rfl rfl (Nat.le_of_ble_eq_true rfl) ⟨by decide, by decide, rfl, rfl⟩ (fun r2 u2 h => ?_)
  refine e_istore_n (k := 7) (i := 1) (lv' := [(0, .ref (gR g 38)), (1, .int r2)]) rfl rfl (by decide) [1, 0] rfl ?_
  refine e_iload_n (k := 8) (i := 1) rfl rfl 1 rfl ?_
  refine e_if_lt (k := 9) (tgt := 37) rfl (by decide) (fun z => ?_) (fun z => ?_)
  · have h := h.1 z
    refine e_sub (lv' := [(0, .ref (gR g 38))]) [0] rfl ?_
    exact s_X4_readOrnament_37 hg h
  · have h := h.2 z
    refine e_aload_n (k := 10) (i := 0) rfl rfl 0 rfl ?_
    refine e_getC (k := 11) rfl f_X4_33 rfl rfl ?_
    refine e_aload_n (k := 12) (i := 0) rfl rfl 0 rfl ?_
    refine e_getC (k := 13) rfl f_X4_33 rfl rfl ?_
    refine e_getI (k := 14) rfl f_X4_381 rfl rfl ?_
    refine e_iconst (k := 15) (v := (1 : Int32)) rfl (by decide) ?_
    refine e_iload_n (k := 16) (i := 1) rfl rfl 1 rfl ?_
    refine e_ishl (k := 17) rfl ?_
    refine e_ior (k := 18) rfl ?_
    refine e_putI (k := 19) rfl fg_X4_381 rfl rfl ?_
    refine e_mlet h (fun u3 h => ?_)
    refine e_sub (lv' := [(0, .ref (gR g 38))]) [0] rfl ?_
    exact s_X4_readOrnament_37 hg h
def il_X12_readField : List (Nat × Instr × Nat) := [(0, .aload_n 0, 1), (1, .invokevirtual 162, 3), (4, .istore_n 2, 1), (5, .iload_n 2, 1), (6, .bipush 86, 2), (8, .if_icmp .eq 30, 3), (11, .iload_n 2, 1), (12, .bipush 77, 2), (14, .if_icmp .eq 24, 3), (17, .iload_n 2, 1), (18, .bipush 76, 2), (20, .if_icmp .eq 18, 3), (23, .iload_n 2, 1), (24, .bipush 75, 2), (26, .if_icmp .eq 12, 3), (29, .aload_n 0, 1), (30, .iconst 1, 1), (31, .aload_n 0, 1), (32, .getfield 138, 3), (35, .invokevirtual 148, 3), (38, .aload_n 0, 1), (39, .dup, 1), (40, .getfield 138, 3), (43, .iconst 1, 1), (44, .iadd, 1), (45, .putfield 138, 3), (48, .aload_n 0, 1), (49, .bipush 58, 2), (51, .invokevirtual 211, 3), (54, .aload_n 0, 1), (55, .invokevirtual 241, 3), (58, .iload_n 2, 1), (59, .bipush 86, 2), (61, .if_icmp .ne 52, 3), (64, .aload_n 0, 1), (65, .aload_n 0, 1), (66, .iconst 1, 1), (67, .iconst 3, 1), (68, .aload_n 0, 1), (69, .getfield 138, 3), (72, .invokevirtual 207, 3), (75, .iconst 1, 1), (76, .isub, 1), (77, .putfield 290, 3), (80, .aload_n 0, 1), (81, .aload_n 0, 1), (82, .getfield 290, 3), (85, .iconst 1, 1), (86, .iadd, 1), (87, .aload_n 0, 1), (88, .getfield 449, 3), (91, .if_icmp .le 12, 3), (94, .aload_n 0, 1), (95, .getfield 290, 3), (98, .iconst 1, 1), (99, .iadd, 1), (100, .goto 7, 3), (103, .aload_n 0, 1), (104, .getfield 449, 3), (107, .putfield 449, 3), (110, .goto 151, 3), (113, .iload_n 2, 1), (114, .bipush 77, 2), (116, .if_icmp .ne 64, 3), (119, .aload_n 0, 1), (120, .invokevirtual 271, 3), (123, .aload_n 0, 1), (124, .getfield 60, 3), (127, .aload_n 0, 1), (128, .getfield 290, 3), (131, .aload_n 0, 1), (132, .getfield 195, 3), (135, .iastore, 1), (136, .aload_n 0, 1), (137, .getfield 63, 3), (140, .aload_n 0, 1), (141, .getfield 290, 3), (144, .aload_n 0, 1), (145, .getfield 198, 3), (148, .iastore, 1), (149, .aload_n 0, 1), (150, .bipush 7, 2), (152, .iload_n 1, 1), (153, .invokevirtual 333, 3), (156, .istore_n 3, 1), (157, .aload_n 0, 1), (158, .iload_n 3, 1), (159, .iconst 3, 1), (160, .aload_n 0, 1), (161, .getfield 195, 3), (164, .invokevirtual 286, 3), (167, .aload_n 0, 1), (168, .iload_n 3, 1), (169, .iconst 4, 1), (170, .aload_n 0, 1), (171, .getfield 198, 3), (174, .invokevirtual 286, 3), (177, .goto 84, 3), (180, .iload_n 2, 1), (181, .bipush 76, 2), (183, .if_icmp .ne 42, 3), (186, .aload_n 0, 1), (187, .getfield 66, 3), (190, .aload_n 0, 1), (191, .getfield 290, 3), (194, .aload_n 0, 1), (195, .invokevirtual 274, 3), (198, .iastore, 1), (199, .aload_n 0, 1), (200, .bipush 8, 2), (202, .iload_n 1, 1), (203, .invokevirtual 333, 3), (206, .istore_n 3, 1), (207, .aload_n 0, 1), (208, .iload_n 3, 1), (209, .iconst 3, 1), (210, .aload_n 0, 1), (211, .getfield 66, 3), (214, .aload_n 0, 1), (215, .getfield 290, 3), (218, .iaload, 1), (219, .invokevirtual 286, 3), (222, .goto 39, 3), (225, .aload_n 0, 1), (226, .getfield 57, 3), (229, .aload_n 0, 1), (230, .getfield 290, 3), (233, .aload_n 0, 1), (234, .invokevirtual 277, 3), (237, .iastore, 1), (238, .aload_n 0, 1), (239, .bipush 6, 2), (241, .iload_n 1, 1), (242, .invokevirtual 333, 3), (245, .istore_n 3, 1), (246, .aload_n 0, 1), (247, .iload_n 3, 1), (248, .iconst 3, 1), (249, .aload_n 0, 1), (250, .getfield 57, 3), (253, .aload_n 0, 1), (254, .getfield 290, 3), (257, .iaload, 1), (258, .invokevirtual 286, 3), (261, .return_, 1)]
set_option maxRecDepth 20000 in
theorem il_X12_readField_ok : ∀ x ∈ il_X12_readField, decode cX12_readField x.1 = .ok x.2 := by decide +kernel
abbrev me_X12_readField : Me := (RX12, il_X12_readField, 4, none, xRoom 6, [])
def w_X12_readField_261 (n : Nat) (u0 : Mm) (Q : Mm → Prop) (T : Mm → Prop) : Prop :=
  Q u0
def w_X12_readField_107 (n : Nat) (t0 : Int32) (u0 : Mm) (Q : Mm → Prop) (T : Mm → Prop) : Prop :=
  mlet (setI u0 0 29 t0) fun u1 =>
  w_X12_readField_261 n u1 Q T
def w_X12_readField_38 (n : Nat) (x1 : Int32) (x2 : Int32) (u0 : Mm) (Q : Mm → Prop) (T : Mm → Prop) : Prop :=
  mlet (setI u0 0 7 ((u0.1 0 7) + (1 : Int32))) fun u1 =>
  w_X12_must n (58 : Int32) u1 (fun u2 =>
  w_X12_blanks n u2 (fun u3 =>
  (¬ x2 = (86 : Int32) → (¬ x2 = (77 : Int32) → (¬ x2 = (76 : Int32) → w_X12_readKey n u3 (fun r1 u4 =>
  vp_in (u3.1 0 28) 3 ∧ (mlet (setI u4 12 (ix (u3.1 0 28)) r1) fun u5 =>
  w_X12_newThing n (6 : Int32) x1 u5 (fun r2 u6 =>
  vp_in (u6.1 0 28) 3 ∧ (w_X12_set n r2 (3 : Int32) (u6.1 12 (ix (u6.1 0 28))) u6 (fun u7 =>
  w_X12_readField_261 n u7 Q T) T)) T)) T) ∧
  (x2 = (76 : Int32) → w_X12_readUnit n u3 (fun r3 u8 =>
  vp_in (u3.1 0 28) 3 ∧ (mlet (setI u8 15 (ix (u3.1 0 28)) r3) fun u9 =>
  w_X12_newThing n (8 : Int32) x1 u9 (fun r4 u10 =>
  vp_in (u10.1 0 28) 3 ∧ (w_X12_set n r4 (3 : Int32) (u10.1 15 (ix (u10.1 0 28))) u10 (fun u11 =>
  w_X12_readField_261 n u11 Q T) T)) T)) T)) ∧
  (x2 = (77 : Int32) → w_X12_readMeter n u3 (fun u12 =>
  vp_in (u12.1 0 28) 3 ∧ (mlet (setI u12 13 (ix (u12.1 0 28)) (u12.1 0 50)) fun u13 =>
  vp_in (u13.1 0 28) 3 ∧ (mlet (setI u13 14 (ix (u13.1 0 28)) (u13.1 0 51)) fun u14 =>
  w_X12_newThing n (7 : Int32) x1 u14 (fun r5 u15 =>
  w_X12_set n r5 (3 : Int32) (u15.1 0 50) u15 (fun u16 =>
  w_X12_set n r5 (4 : Int32) (u16.1 0 51) u16 (fun u17 =>
  w_X12_readField_261 n u17 Q T) T) T) T))) T)) ∧
  (x2 = (86 : Int32) → w_X12_numberOf n (1 : Int32) (3 : Int32) (u3.1 0 7) u3 (fun r6 u18 =>
  mlet (setI u18 0 28 (r6 - (1 : Int32))) fun u19 =>
  (((u19.1 0 28) + (1 : Int32)) ≤ (u19.1 0 29) → w_X12_readField_107 n (u19.1 0 29) u19 Q T) ∧
  (¬ ((u19.1 0 28) + (1 : Int32)) ≤ (u19.1 0 29) → w_X12_readField_107 n ((u19.1 0 28) + (1 : Int32)) u19 Q T)) T)) T) T
def w_X12_readField (n : Nat) (a0 : Int32) (u0 : Mm) (Q : Mm → Prop) (T : Mm → Prop) : Prop :=
  w_X12_here n u0 (fun r1 u1 =>
  (r1 = (86 : Int32) → w_X12_readField_38 n a0 r1 u1 Q T) ∧
  (¬ r1 = (86 : Int32) → (r1 = (77 : Int32) → w_X12_readField_38 n a0 r1 u1 Q T) ∧
  (¬ r1 = (77 : Int32) → (r1 = (76 : Int32) → w_X12_readField_38 n a0 r1 u1 Q T) ∧
  (¬ r1 = (76 : Int32) → (r1 = (75 : Int32) → w_X12_readField_38 n a0 r1 u1 Q T) ∧
  (¬ r1 = (75 : Int32) → w_X12_fail n (1 : Int32) (u1.1 0 7) u1 (fun u2 =>
  w_X12_readField_38 n a0 r1 u2 Q T) T))))) T
set_option maxRecDepth 20000 in
theorem s_X12_readField_261 {g : Gb} (hg : xInj g) {n : Nat} {Q : Mm → Prop} {T : Mm → Prop} {u0 : Mm} (h : w_X12_readField_261 n  u0 Q T) : xE g me_X12_readField (pV g Q T) 261 [] [] u0 := by
  unfold w_X12_readField_261 at h
  exact e_vret (k := 144) rfl rfl (Or.inl ⟨rfl, h⟩)
set_option maxRecDepth 20000 in
theorem s_X12_readField_107 {g : Gb} (hg : xInj g) {n : Nat} {Q : Mm → Prop} {T : Mm → Prop} {t0 : Int32} {u0 : Mm} (h : w_X12_readField_107 n t0 u0 Q T) : xE g me_X12_readField (pV g Q T) 107 [] [.int t0, .ref (gR g 0)] u0 := by
  unfold w_X12_readField_107 at h
  refine e_putI (k := 59) rfl fg_X12_449 rfl rfl ?_
  refine e_mlet h (fun u1 h => ?_)
  refine e_goto (k := 60) (tgt := 261) rfl (by decide) ?_
  exact s_X12_readField_261 hg h
set_option maxRecDepth 20000 in
theorem s_X12_readField_38 {g : Gb} (hg : xInj g) {n : Nat} {Q : Mm → Prop} {T : Mm → Prop} {x1 : Int32} {x2 : Int32} {u0 : Mm} (h : w_X12_readField_38 n x1 x2 u0 Q T) : xE g me_X12_readField (pV g Q T) 38 [(0, .ref (gR g 0)), (1, .int x1), (2, .int x2)] [] u0 := by
  unfold w_X12_readField_38 at h
  refine e_aload_n (k := 20) (i := 0) rfl rfl 0 rfl ?_
  refine e_dup (k := 21) rfl rfl ?_
  refine e_getI (k := 22) rfl f_X12_138 rfl rfl ?_
  refine e_iconst (k := 23) (v := (1 : Int32)) rfl (by decide) ?_
  refine e_iadd (k := 24) rfl ?_
  refine e_putI (k := 25) rfl fg_X12_138 rfl rfl ?_
  refine e_mlet h (fun u1 h => ?_)
  refine e_aload_n (k := 26) (i := 0) rfl rfl 0 rfl ?_
  refine e_bipush (k := 27) (v := (58 : Int32)) rfl (by decide) ?_
  refine e_callVv (k := 28) (q := 0) (As := [.int (58 : Int32)]) (rest := []) rfl (c_X12_must (g := g) hg (n := n) h) m_X12_must i_X12_must l_X12_211 rfl ⟨_, rfl, rfl⟩ rfl rfl (Nat.le_of_ble_eq_true rfl) ⟨by decide, by decide, rfl, rfl⟩ (fun _ h => ⟨fun _ z => (by cases z), Or.inr ⟨rfl, h⟩⟩) (fun u2 h => ?_)
  refine e_aload_n (k := 29) (i := 0) rfl rfl 0 rfl ?_
  refine e_callVv (k := 30) (q := 0) (As := []) (rest := []) rfl (c_X12_blanks (g := g) hg (n := n) h) m_X12_blanks i_X12_blanks l_X12_241 rfl ⟨_, rfl, rfl⟩ rfl rfl (Nat.le_of_ble_eq_true rfl) ⟨by decide, by decide, rfl, rfl⟩ (fun _ h => ⟨fun _ z => (by cases z), Or.inr ⟨rfl, h⟩⟩) (fun u3 h => ?_)
  refine e_iload_n (k := 31) (i := 2) rfl rfl 2 rfl ?_
  refine e_bipush (k := 32) (v := (86 : Int32)) rfl (by decide) ?_
  refine e_icmp_ne (k := 33) (tgt := 113) rfl (by decide) (fun z => ?_) (fun z => ?_)
  · have h := h.1 z
    refine e_iload_n (k := 61) (i := 2) rfl rfl 2 rfl ?_
    refine e_bipush (k := 62) (v := (77 : Int32)) rfl (by decide) ?_
    refine e_icmp_ne (k := 63) (tgt := 180) rfl (by decide) (fun z => ?_) (fun z => ?_)
    · have h := h.1 z
      refine e_iload_n (k := 98) (i := 2) rfl rfl 2 rfl ?_
      refine e_bipush (k := 99) (v := (76 : Int32)) rfl (by decide) ?_
      refine e_icmp_ne (k := 100) (tgt := 225) rfl (by decide) (fun z => ?_) (fun z => ?_)
      · have h := h.1 z
        refine e_aload_n (k := 123) (i := 0) rfl rfl 0 rfl ?_
        refine e_getC (k := 124) rfl f_X12_57 rfl rfl ?_
        refine e_aload_n (k := 125) (i := 0) rfl rfl 0 rfl ?_
        refine e_getI (k := 126) rfl f_X12_290 rfl rfl ?_
        refine e_aload_n (k := 127) (i := 0) rfl rfl 0 rfl ?_
        refine e_callVi (k := 128) (q := 0) (As := []) (rest := [.int (u3.1 0 28), .ref (gR g 12)]) rfl (c_X12_readKey (g := g) hg (n := n) h) m_X12_readKey i_X12_readKey l_X12_277 rfl ⟨_, rfl, rfl⟩ rfl rfl (Nat.le_of_ble_eq_true rfl) ⟨by decide, by decide, rfl, rfl⟩ (fun _ h => ⟨fun _ z => (by cases z), Or.inr ⟨rfl, h⟩⟩) (fun r1 u4 h => ?_)
        refine e_iast (k := 129) rfl rfl h.1 ?_
        have h := h.2
        refine e_mlet h (fun u5 h => ?_)
        refine e_aload_n (k := 130) (i := 0) rfl rfl 0 rfl ?_
        refine e_bipush (k := 131) (v := (6 : Int32)) rfl (by decide) ?_
        refine e_iload_n (k := 132) (i := 1) rfl rfl 1 rfl ?_
        refine e_callVi (k := 133) (q := 0) (As := [.int (6 : Int32), .int x1]) (rest := []) rfl (c_X12_newThing (g := g) hg (n := n) h) m_X12_newThing i_X12_newThing l_X12_333 rfl ⟨_, rfl, rfl⟩ rfl rfl (Nat.le_of_ble_eq_true rfl) ⟨by decide, by decide, rfl, rfl⟩ (fun _ h => ⟨fun _ z => (by cases z), Or.inr ⟨rfl, h⟩⟩) (fun r2 u6 h => ?_)
        refine e_istore_n (k := 134) (i := 3) (lv' := [(0, .ref (gR g 0)), (1, .int x1), (2, .int x2), (3, .int r2)]) rfl rfl (by decide) [1, 2, 3, 0] rfl ?_
        refine e_aload_n (k := 135) (i := 0) rfl rfl 0 rfl ?_
        refine e_iload_n (k := 136) (i := 3) rfl rfl 3 rfl ?_
        refine e_iconst (k := 137) (v := (3 : Int32)) rfl (by decide) ?_
        refine e_aload_n (k := 138) (i := 0) rfl rfl 0 rfl ?_
        refine e_getC (k := 139) rfl f_X12_57 rfl rfl ?_
        refine e_aload_n (k := 140) (i := 0) rfl rfl 0 rfl ?_
        refine e_getI (k := 141) rfl f_X12_290 rfl rfl ?_
        refine e_iald (k := 142) rfl rfl h.1 ?_
        have h := h.2
        refine e_callVv (k := 143) (q := 0) (As := [.int r2, .int (3 : Int32), .int (u6.1 12 (ix (u6.1 0 28)))]) (rest := []) rfl (c_X12_set (g := g) hg (n := n) h) m_X12_set i_X12_set l_X12_286 rfl ⟨_, rfl, rfl⟩ rfl rfl (Nat.le_of_ble_eq_true rfl) ⟨by decide, by decide, rfl, rfl⟩ (fun _ h => ⟨fun _ z => (by cases z), Or.inr ⟨rfl, h⟩⟩) (fun u7 h => ?_)
        refine e_sub (lv' := []) [] rfl ?_
        exact s_X12_readField_261 hg h
      · have h := h.2 z
        refine e_aload_n (k := 101) (i := 0) rfl rfl 0 rfl ?_
        refine e_getC (k := 102) rfl f_X12_66 rfl rfl ?_
        refine e_aload_n (k := 103) (i := 0) rfl rfl 0 rfl ?_
        refine e_getI (k := 104) rfl f_X12_290 rfl rfl ?_
        refine e_aload_n (k := 105) (i := 0) rfl rfl 0 rfl ?_
        refine e_callVi (k := 106) (q := 0) (As := []) (rest := [.int (u3.1 0 28), .ref (gR g 15)]) rfl (c_X12_readUnit (g := g) hg (n := n) h) m_X12_readUnit i_X12_readUnit l_X12_274 rfl ⟨_, rfl, rfl⟩ rfl rfl (Nat.le_of_ble_eq_true rfl) ⟨by decide, by decide, rfl, rfl⟩ (fun _ h => ⟨fun _ z => (by cases z), Or.inr ⟨rfl, h⟩⟩) (fun r3 u8 h => ?_)
        refine e_iast (k := 107) rfl rfl h.1 ?_
        have h := h.2
        refine e_mlet h (fun u9 h => ?_)
        refine e_aload_n (k := 108) (i := 0) rfl rfl 0 rfl ?_
        refine e_bipush (k := 109) (v := (8 : Int32)) rfl (by decide) ?_
        refine e_iload_n (k := 110) (i := 1) rfl rfl 1 rfl ?_
        refine e_callVi (k := 111) (q := 0) (As := [.int (8 : Int32), .int x1]) (rest := []) rfl (c_X12_newThing (g := g) hg (n := n) h) m_X12_newThing i_X12_newThing l_X12_333 rfl ⟨_, rfl, rfl⟩ rfl rfl (Nat.le_of_ble_eq_true rfl) ⟨by decide, by decide, rfl, rfl⟩ (fun _ h => ⟨fun _ z => (by cases z), Or.inr ⟨rfl, h⟩⟩) (fun r4 u10 h => ?_)
        refine e_istore_n (k := 112) (i := 3) (lv' := [(0, .ref (gR g 0)), (1, .int x1), (2, .int x2), (3, .int r4)]) rfl rfl (by decide) [1, 2, 3, 0] rfl ?_
        refine e_aload_n (k := 113) (i := 0) rfl rfl 0 rfl ?_
        refine e_iload_n (k := 114) (i := 3) rfl rfl 3 rfl ?_
        refine e_iconst (k := 115) (v := (3 : Int32)) rfl (by decide) ?_
        refine e_aload_n (k := 116) (i := 0) rfl rfl 0 rfl ?_
        refine e_getC (k := 117) rfl f_X12_66 rfl rfl ?_
        refine e_aload_n (k := 118) (i := 0) rfl rfl 0 rfl ?_
        refine e_getI (k := 119) rfl f_X12_290 rfl rfl ?_
        refine e_iald (k := 120) rfl rfl h.1 ?_
        have h := h.2
        refine e_callVv (k := 121) (q := 0) (As := [.int r4, .int (3 : Int32), .int (u10.1 15 (ix (u10.1 0 28)))]) (rest := []) rfl (c_X12_set (g := g) hg (n := n) h) m_X12_set i_X12_set l_X12_286 rfl ⟨_, rfl, rfl⟩ rfl rfl (Nat.le_of_ble_eq_true rfl) ⟨by decide, by decide, rfl, rfl⟩ (fun _ h => ⟨fun _ z => (by cases z), Or.inr ⟨rfl, h⟩⟩) (fun u11 h => ?_)
        refine e_goto (k := 122) (tgt := 261) rfl (by decide) ?_
        refine e_sub (lv' := []) [] rfl ?_
        exact s_X12_readField_261 hg h
    · have h := h.2 z
      refine e_aload_n (k := 64) (i := 0) rfl rfl 0 rfl ?_
      refine e_callVv (k := 65) (q := 0) (As := []) (rest := []) rfl (c_X12_readMeter (g := g) hg (n := n) h) m_X12_readMeter i_X12_readMeter l_X12_271 rfl ⟨_, rfl, rfl⟩ rfl rfl (Nat.le_of_ble_eq_true rfl) ⟨by decide, by decide, rfl, rfl⟩ (fun _ h => ⟨fun _ z => (by cases z), Or.inr ⟨rfl, h⟩⟩) (fun u12 h => ?_)
      refine e_aload_n (k := 66) (i := 0) rfl rfl 0 rfl ?_
      refine e_getC (k := 67) rfl f_X12_60 rfl rfl ?_
      refine e_aload_n (k := 68) (i := 0) rfl rfl 0 rfl ?_
      refine e_getI (k := 69) rfl f_X12_290 rfl rfl ?_
      refine e_aload_n (k := 70) (i := 0) rfl rfl 0 rfl ?_
      refine e_getI (k := 71) rfl f_X12_195 rfl rfl ?_
      refine e_iast (k := 72) rfl rfl h.1 ?_
      have h := h.2
      refine e_mlet h (fun u13 h => ?_)
      refine e_aload_n (k := 73) (i := 0) rfl rfl 0 rfl ?_
      refine e_getC (k := 74) rfl f_X12_63 rfl rfl ?_
      refine e_aload_n (k := 75) (i := 0) rfl rfl 0 rfl ?_
      refine e_getI (k := 76) rfl f_X12_290 rfl rfl ?_
      refine e_aload_n (k := 77) (i := 0) rfl rfl 0 rfl ?_
      refine e_getI (k := 78) rfl f_X12_198 rfl rfl ?_
      refine e_iast (k := 79) rfl rfl h.1 ?_
      have h := h.2
      refine e_mlet h (fun u14 h => ?_)
      refine e_aload_n (k := 80) (i := 0) rfl rfl 0 rfl ?_
      refine e_bipush (k := 81) (v := (7 : Int32)) rfl (by decide) ?_
      refine e_iload_n (k := 82) (i := 1) rfl rfl 1 rfl ?_
      refine e_callVi (k := 83) (q := 0) (As := [.int (7 : Int32), .int x1]) (rest := []) rfl (c_X12_newThing (g := g) hg (n := n) h) m_X12_newThing i_X12_newThing l_X12_333 rfl ⟨_, rfl, rfl⟩ rfl rfl (Nat.le_of_ble_eq_true rfl) ⟨by decide, by decide, rfl, rfl⟩ (fun _ h => ⟨fun _ z => (by cases z), Or.inr ⟨rfl, h⟩⟩) (fun r5 u15 h => ?_)
      refine e_istore_n (k := 84) (i := 3) (lv' := [(0, .ref (gR g 0)), (1, .int x1), (2, .int x2), (3, .int r5)]) rfl rfl (by decide) [1, 2, 3, 0] rfl ?_
      refine e_aload_n (k := 85) (i := 0) rfl rfl 0 rfl ?_
      refine e_iload_n (k := 86) (i := 3) rfl rfl 3 rfl ?_
      refine e_iconst (k := 87) (v := (3 : Int32)) rfl (by decide) ?_
      refine e_aload_n (k := 88) (i := 0) rfl rfl 0 rfl ?_
      refine e_getI (k := 89) rfl f_X12_195 rfl rfl ?_
      refine e_callVv (k := 90) (q := 0) (As := [.int r5, .int (3 : Int32), .int (u15.1 0 50)]) (rest := []) rfl (c_X12_set (g := g) hg (n := n) h) m_X12_set i_X12_set l_X12_286 rfl ⟨_, rfl, rfl⟩ rfl rfl (Nat.le_of_ble_eq_true rfl) ⟨by decide, by decide, rfl, rfl⟩ (fun _ h => ⟨fun _ z => (by cases z), Or.inr ⟨rfl, h⟩⟩) (fun u16 h => ?_)
      refine e_aload_n (k := 91) (i := 0) rfl rfl 0 rfl ?_
      refine e_iload_n (k := 92) (i := 3) rfl rfl 3 rfl ?_
      refine e_iconst (k := 93) (v := (4 : Int32)) rfl (by decide) ?_
      refine e_aload_n (k := 94) (i := 0) rfl rfl 0 rfl ?_
      refine e_getI (k := 95) rfl f_X12_198 rfl rfl ?_
      refine e_callVv (k := 96) (q := 0) (As := [.int r5, .int (4 : Int32), .int (u16.1 0 51)]) (rest := []) rfl (c_X12_set (g := g) hg (n := n) h) m_X12_set i_X12_set l_X12_286 rfl ⟨_, rfl, rfl⟩ rfl rfl (Nat.le_of_ble_eq_true rfl) ⟨by decide, by decide, rfl, rfl⟩ (fun _ h => ⟨fun _ z => (by cases z), Or.inr ⟨rfl, h⟩⟩) (fun u17 h => ?_)
      refine e_goto (k := 97) (tgt := 261) rfl (by decide) ?_
      refine e_sub (lv' := []) [] rfl ?_
      exact s_X12_readField_261 hg h
  · have h := h.2 z
    refine e_aload_n (k := 34) (i := 0) rfl rfl 0 rfl ?_
    refine e_aload_n (k := 35) (i := 0) rfl rfl 0 rfl ?_
    refine e_iconst (k := 36) (v := (1 : Int32)) rfl (by decide) ?_
    refine e_iconst (k := 37) (v := (3 : Int32)) rfl (by decide) ?_
    refine e_aload_n (k := 38) (i := 0) rfl rfl 0 rfl ?_
    refine e_getI (k := 39) rfl f_X12_138 rfl rfl ?_
    refine e_callVi (k := 40) (q := 0) (As := [.int (1 : Int32), .int (3 : Int32), .int (u3.1 0 7)]) (rest := [.ref (gR g 0)]) rfl (c_X12_numberOf (g := g) hg (n := n) h) m_X12_numberOf i_X12_numberOf l_X12_207 rfl ⟨_, rfl, rfl⟩ rfl rfl (Nat.le_of_ble_eq_true rfl) ⟨by decide, by decide, rfl, rfl⟩ (fun _ h => ⟨fun _ z => (by cases z), Or.inr ⟨rfl, h⟩⟩) (fun r6 u18 h => ?_)
    refine e_iconst (k := 41) (v := (1 : Int32)) rfl (by decide) ?_
    refine e_isub (k := 42) rfl ?_
    refine e_putI (k := 43) rfl fg_X12_290 rfl rfl ?_
    refine e_mlet h (fun u19 h => ?_)
    refine e_aload_n (k := 44) (i := 0) rfl rfl 0 rfl ?_
    refine e_aload_n (k := 45) (i := 0) rfl rfl 0 rfl ?_
    refine e_getI (k := 46) rfl f_X12_290 rfl rfl ?_
    refine e_iconst (k := 47) (v := (1 : Int32)) rfl (by decide) ?_
    refine e_iadd (k := 48) rfl ?_
    refine e_aload_n (k := 49) (i := 0) rfl rfl 0 rfl ?_
    refine e_getI (k := 50) rfl f_X12_449 rfl rfl ?_
    refine e_icmp_le (k := 51) (tgt := 103) rfl (by decide) (fun z => ?_) (fun z => ?_)
    · have h := h.1 z
      refine e_aload_n (k := 57) (i := 0) rfl rfl 0 rfl ?_
      refine e_getI (k := 58) rfl f_X12_449 rfl rfl ?_
      refine e_sub (lv' := []) [] rfl ?_
      exact s_X12_readField_107 hg h
    · have h := h.2 z
      refine e_aload_n (k := 52) (i := 0) rfl rfl 0 rfl ?_
      refine e_getI (k := 53) rfl f_X12_290 rfl rfl ?_
      refine e_iconst (k := 54) (v := (1 : Int32)) rfl (by decide) ?_
      refine e_iadd (k := 55) rfl ?_
      refine e_goto (k := 56) (tgt := 107) rfl (by decide) ?_
      refine e_sub (lv' := []) [] rfl ?_
      exact s_X12_readField_107 hg h
set_option maxRecDepth 20000 in
theorem c_X12_readField {g : Gb} (hg : xInj g) {n : Nat} {a0 : Int32} {u0 : Mm} {Q : Mm → Prop} {T : Mm → Prop} (h : w_X12_readField n a0 u0 Q T) : xMet (gL g) yX12_readField (xws yX12_readField cX12_readField 4 none) (xRoom 6) (xPc g [.ref (gR g 0), .int a0] u0) (xQ g (pV g Q T)) (xA g) := by
  refine xbody (il := il_X12_readField) hg il_X12_readField_ok m_X12_readField (Nat.le_of_ble_eq_true rfl) ?_
  show xE g me_X12_readField (pV g Q T) 0 [(0, .ref (gR g 0)), (1, .int a0)] [] u0
  unfold w_X12_readField at h
  refine e_aload_n (k := 0) (i := 0) rfl rfl 0 rfl ?_
  refine e_callVi (k := 1) (q := 0) (As := []) (rest := []) rfl (c_X12_here (g := g) hg (n := n) h) m_X12_here i_X12_here l_X12_162 rfl ⟨_, rfl, rfl⟩ rfl rfl (Nat.le_of_ble_eq_true rfl) ⟨by decide, by decide, rfl, rfl⟩ (fun _ h => ⟨fun _ z => (by cases z), Or.inr ⟨rfl, h⟩⟩) (fun r1 u1 h => ?_)
  refine e_istore_n (k := 2) (i := 2) (lv' := [(0, .ref (gR g 0)), (1, .int a0), (2, .int r1)]) rfl rfl (by decide) [1, 2, 0] rfl ?_
  refine e_iload_n (k := 3) (i := 2) rfl rfl 2 rfl ?_
  refine e_bipush (k := 4) (v := (86 : Int32)) rfl (by decide) ?_
  refine e_icmp_eq (k := 5) (tgt := 38) rfl (by decide) (fun z => ?_) (fun z => ?_)
  · have h := h.1 z
    exact s_X12_readField_38 hg h
  · have h := h.2 z
    refine e_iload_n (k := 6) (i := 2) rfl rfl 2 rfl ?_
    refine e_bipush (k := 7) (v := (77 : Int32)) rfl (by decide) ?_
    refine e_icmp_eq (k := 8) (tgt := 38) rfl (by decide) (fun z => ?_) (fun z => ?_)
    · have h := h.1 z
      exact s_X12_readField_38 hg h
    · have h := h.2 z
      refine e_iload_n (k := 9) (i := 2) rfl rfl 2 rfl ?_
      refine e_bipush (k := 10) (v := (76 : Int32)) rfl (by decide) ?_
      refine e_icmp_eq (k := 11) (tgt := 38) rfl (by decide) (fun z => ?_) (fun z => ?_)
      · have h := h.1 z
        exact s_X12_readField_38 hg h
      · have h := h.2 z
        refine e_iload_n (k := 12) (i := 2) rfl rfl 2 rfl ?_
        refine e_bipush (k := 13) (v := (75 : Int32)) rfl (by decide) ?_
        refine e_icmp_eq (k := 14) (tgt := 38) rfl (by decide) (fun z => ?_) (fun z => ?_)
        · have h := h.1 z
          exact s_X12_readField_38 hg h
        · have h := h.2 z
          refine e_aload_n (k := 15) (i := 0) rfl rfl 0 rfl ?_
          refine e_iconst (k := 16) (v := (1 : Int32)) rfl (by decide) ?_
          refine e_aload_n (k := 17) (i := 0) rfl rfl 0 rfl ?_
          refine e_getI (k := 18) rfl f_X12_138 rfl rfl ?_
          refine e_callVv (k := 19) (q := 0) (As := [.int (1 : Int32), .int (u1.1 0 7)]) (rest := []) rfl (c_X12_fail (g := g) hg (n := n) h) m_X12_fail i_X12_fail l_X12_148 rfl ⟨_, rfl, rfl⟩ rfl rfl (Nat.le_of_ble_eq_true rfl) ⟨by decide, by decide, rfl, rfl⟩ (fun _ h => ⟨fun _ z => (by cases z), Or.inr ⟨rfl, h⟩⟩) (fun u2 h => ?_)
          exact s_X12_readField_38 hg h
def il_X12_readGraces : List (Nat × Instr × Nat) := [(0, .aload_n 0, 1), (1, .getfield 138, 3), (4, .istore_n 1, 1), (5, .aload_n 0, 1), (6, .dup, 1), (7, .getfield 138, 3), (10, .iconst 1, 1), (11, .iadd, 1), (12, .putfield 138, 3), (15, .iconst 0, 1), (16, .istore_n 2, 1), (17, .aload_n 0, 1), (18, .bipush 125, 2), (20, .invokevirtual 166, 3), (23, .ifCond .eq 7, 3), (26, .iload_n 2, 1), (27, .ifCond .ne 49, 3), (30, .iload_n 2, 1), (31, .bipush 8, 2), (33, .if_icmp .ne 19, 3), (36, .aload_n 0, 1), (37, .invokevirtual 384, 3), (40, .ifCond .eq 12, 3), (43, .aload_n 0, 1), (44, .iconst 2, 1), (45, .aload_n 0, 1), (46, .getfield 138, 3), (49, .invokevirtual 148, 3), (52, .aload_n 0, 1), (53, .invokevirtual 394, 3), (56, .aload_n 0, 1), (57, .iconst 5, 1), (58, .invokevirtual 397, 3), (61, .istore_n 3, 1), (62, .aload_n 0, 1), (63, .invokevirtual 400, 3), (66, .aload_n 0, 1), (67, .invokevirtual 403, 3), (70, .iinc 2 1, 3), (73, .goto (-56), 3), (76, .aload_n 0, 1), (77, .dup, 1), (78, .getfield 138, 3), (81, .iconst 1, 1), (82, .iadd, 1), (83, .putfield 138, 3), (86, .return_, 1)]
set_option maxRecDepth 20000 in
theorem il_X12_readGraces_ok : ∀ x ∈ il_X12_readGraces, decode cX12_readGraces x.1 = .ok x.2 := by decide +kernel
abbrev me_X12_readGraces : Me := (RX12, il_X12_readGraces, 4, none, xRoom 6, [])
def w_X12_readGraces_52 (n : Nat) (L17 : Int32 → Mm → Prop) (x2 : Int32) (u0 : Mm) (Q : Mm → Prop) (T : Mm → Prop) : Prop :=
  w_X12_readNote n u0 (fun u1 =>
  w_X12_addNote n (5 : Int32) u1 (fun r1 u2 =>
  w_X12_rememberSign n u2 (fun u3 =>
  w_X12_readLength n u3 (fun u4 =>
  L17 (x2 + (1 : Int32)) u4) T) T) T) T
def w_X12_readGraces_30 (n : Nat) (L17 : Int32 → Mm → Prop) (x2 : Int32) (u0 : Mm) (Q : Mm → Prop) (T : Mm → Prop) : Prop :=
  (¬ x2 = (8 : Int32) → w_X12_readGraces_52 n L17 x2 u0 Q T) ∧
  (x2 = (8 : Int32) → w_X12_beginsNote n u0 (fun r1 u1 =>
  (r1 = 0 → w_X12_readGraces_52 n L17 x2 u1 Q T) ∧
  (¬ r1 = 0 → w_X12_fail n (2 : Int32) (u1.1 0 7) u1 (fun u2 =>
  w_X12_readGraces_52 n L17 x2 u2 Q T) T)) T)
def w_X12_readGraces_17 (n : Nat) (Q : Mm → Prop) (T : Mm → Prop) : Nat → Int32 → Mm → Prop
  | 0, _, _ => False
  | k + 1, x2, u0 =>
  w_X12_is n (125 : Int32) u0 (fun r1 u1 =>
  (r1 = 0 → w_X12_readGraces_30 n (w_X12_readGraces_17 n Q T k) x2 u1 Q T) ∧
  (¬ r1 = 0 → (¬ x2 = 0 → mlet (setI u1 0 7 ((u1.1 0 7) + (1 : Int32))) fun u2 =>
  Q u2) ∧
  (x2 = 0 → w_X12_readGraces_30 n (w_X12_readGraces_17 n Q T k) x2 u1 Q T))) T
def w_X12_readGraces (n : Nat) (u0 : Mm) (Q : Mm → Prop) (T : Mm → Prop) : Prop :=
  ilet (u0.1 0 7) fun y1 =>
  mlet (setI u0 0 7 ((u0.1 0 7) + (1 : Int32))) fun u1 =>
  (w_X12_readGraces_17 n Q T n) (0 : Int32) u1
set_option maxRecDepth 20000 in
theorem s_X12_readGraces_52 {g : Gb} (hg : xInj g) {n : Nat} {Q : Mm → Prop} {T : Mm → Prop} {L17 : Int32 → Mm → Prop} (hL17 : ∀ (x2 : Int32) (u0 : Mm), L17 x2 u0 → xE g me_X12_readGraces (pV g Q T) 17 [(0, .ref (gR g 0)), (2, .int x2)] [] u0) {x2 : Int32} {u0 : Mm} (h : w_X12_readGraces_52 n L17 x2 u0 Q T) : xE g me_X12_readGraces (pV g Q T) 52 [(0, .ref (gR g 0)), (2, .int x2)] [] u0 := by
  unfold w_X12_readGraces_52 at h
  refine e_aload_n (k := 28) (i := 0) rfl rfl 0 rfl ?_
  refine e_callVv (k := 29) (q := 0) (As := []) (rest := []) rfl (c_X12_readNote (g := g) hg (n := n) h) m_X12_readNote i_X12_readNote l_X12_394 rfl ⟨_, rfl, rfl⟩ rfl rfl (Nat.le_of_ble_eq_true rfl) ⟨by decide, by decide, rfl, rfl⟩ (fun _ h => ⟨fun _ z => (by cases z), Or.inr ⟨rfl, h⟩⟩) (fun u1 h => ?_)
  refine e_aload_n (k := 30) (i := 0) rfl rfl 0 rfl ?_
  refine e_iconst (k := 31) (v := (5 : Int32)) rfl (by decide) ?_
  refine e_callVi (k := 32) (q := 0) (As := [.int (5 : Int32)]) (rest := []) rfl (c_X12_addNote (g := g) hg (n := n) h) m_X12_addNote i_X12_addNote l_X12_397 rfl ⟨_, rfl, rfl⟩ rfl rfl (Nat.le_of_ble_eq_true rfl) ⟨by decide, by decide, rfl, rfl⟩ (fun _ h => ⟨fun _ z => (by cases z), Or.inr ⟨rfl, h⟩⟩) (fun r1 u2 h => ?_)
  refine e_istore_n (k := 33) (i := 3) (lv' := [(0, .ref (gR g 0)), (2, .int x2), (3, .int r1)]) rfl rfl (by decide) [1, 2, 0] rfl ?_
  refine e_aload_n (k := 34) (i := 0) rfl rfl 0 rfl ?_
  refine e_callVv (k := 35) (q := 0) (As := []) (rest := []) rfl (c_X12_rememberSign (g := g) hg (n := n) h) m_X12_rememberSign i_X12_rememberSign l_X12_400 rfl ⟨_, rfl, rfl⟩ rfl rfl (Nat.le_of_ble_eq_true rfl) ⟨by decide, by decide, rfl, rfl⟩ (fun _ h => ⟨fun _ z => (by cases z), Or.inr ⟨rfl, h⟩⟩) (fun u3 h => ?_)
  refine e_aload_n (k := 36) (i := 0) rfl rfl 0 rfl ?_
  refine e_callVv (k := 37) (q := 0) (As := []) (rest := []) rfl (c_X12_readLength (g := g) hg (n := n) h) m_X12_readLength i_X12_readLength l_X12_403 rfl ⟨_, rfl, rfl⟩ rfl rfl (Nat.le_of_ble_eq_true rfl) ⟨by decide, by decide, rfl, rfl⟩ (fun _ h => ⟨fun _ z => (by cases z), Or.inr ⟨rfl, h⟩⟩) (fun u4 h => ?_)
  refine e_iinc (k := 38) (i := 2) (j := 1) (v := (x2 + (1 : Int32))) (lv' := [(0, .ref (gR g 0)), (2, .int (x2 + (1 : Int32))), (3, .int r1)]) rfl rfl rfl (by decide) [1, 0, 2] rfl ?_
  refine e_goto (k := 39) (tgt := 17) rfl (by decide) ?_
  refine e_sub (lv' := [(0, .ref (gR g 0)), (2, .int (x2 + (1 : Int32)))]) [0, 1] rfl ?_
  exact hL17 (x2 + (1 : Int32)) u4 h
set_option maxRecDepth 20000 in
theorem s_X12_readGraces_30 {g : Gb} (hg : xInj g) {n : Nat} {Q : Mm → Prop} {T : Mm → Prop} {L17 : Int32 → Mm → Prop} (hL17 : ∀ (x2 : Int32) (u0 : Mm), L17 x2 u0 → xE g me_X12_readGraces (pV g Q T) 17 [(0, .ref (gR g 0)), (2, .int x2)] [] u0) {x2 : Int32} {u0 : Mm} (h : w_X12_readGraces_30 n L17 x2 u0 Q T) : xE g me_X12_readGraces (pV g Q T) 30 [(0, .ref (gR g 0)), (2, .int x2)] [] u0 := by
  unfold w_X12_readGraces_30 at h
  refine e_iload_n (k := 17) (i := 2) rfl rfl 1 rfl ?_
  refine e_bipush (k := 18) (v := (8 : Int32)) rfl (by decide) ?_
  refine e_icmp_ne (k := 19) (tgt := 52) rfl (by decide) (fun z => ?_) (fun z => ?_)
  · have h := h.1 z
    exact s_X12_readGraces_52 hg hL17 h
  · have h := h.2 z
    refine e_aload_n (k := 20) (i := 0) rfl rfl 0 rfl ?_
    refine e_callVi (k := 21) (q := 0) (As := []) (rest := []) rfl (c_X12_beginsNote (g := g) hg (n := n) h) m_X12_beginsNote i_X12_beginsNote l_X12_384 rfl ⟨_, rfl, rfl⟩ rfl rfl (Nat.le_of_ble_eq_true rfl) ⟨by decide, by decide, rfl, rfl⟩ (fun _ h => ⟨fun _ z => (by cases z), Or.inr ⟨rfl, h⟩⟩) (fun r1 u1 h => ?_)
    refine e_if_eq (k := 22) (tgt := 52) rfl (by decide) (fun z => ?_) (fun z => ?_)
    · have h := h.1 z
      exact s_X12_readGraces_52 hg hL17 h
    · have h := h.2 z
      refine e_aload_n (k := 23) (i := 0) rfl rfl 0 rfl ?_
      refine e_iconst (k := 24) (v := (2 : Int32)) rfl (by decide) ?_
      refine e_aload_n (k := 25) (i := 0) rfl rfl 0 rfl ?_
      refine e_getI (k := 26) rfl f_X12_138 rfl rfl ?_
      refine e_callVv (k := 27) (q := 0) (As := [.int (2 : Int32), .int (u1.1 0 7)]) (rest := []) rfl (c_X12_fail (g := g) hg (n := n) h) m_X12_fail i_X12_fail l_X12_148 rfl ⟨_, rfl, rfl⟩ rfl rfl (Nat.le_of_ble_eq_true rfl) ⟨by decide, by decide, rfl, rfl⟩ (fun _ h => ⟨fun _ z => (by cases z), Or.inr ⟨rfl, h⟩⟩) (fun u2 h => ?_)
      exact s_X12_readGraces_52 hg hL17 h
set_option maxRecDepth 20000 in
theorem s_X12_readGraces_17 {g : Gb} (hg : xInj g) {n : Nat} {Q : Mm → Prop} {T : Mm → Prop} : ∀ (k : Nat) (x2 : Int32) (u0 : Mm), w_X12_readGraces_17 n Q T k x2 u0 → xE g me_X12_readGraces (pV g Q T) 17 [(0, .ref (gR g 0)), (2, .int x2)] [] u0 := by
  intro k
  induction k with
  | zero => intro x2 u0 h; exact h.elim
  | succ k ih =>
    intro x2 u0 h
    unfold w_X12_readGraces_17 at h
    refine e_aload_n (k := 11) (i := 0) rfl rfl 0 rfl ?_
    refine e_bipush (k := 12) (v := (125 : Int32)) rfl (by decide) ?_
    refine e_callVi (k := 13) (q := 0) (As := [.int (125 : Int32)]) (rest := []) rfl (c_X12_is (g := g) hg (n := n) h) m_X12_is i_X12_is l_X12_166 rfl ⟨_, rfl, rfl⟩ rfl rfl (Nat.le_of_ble_eq_true rfl) ⟨by decide, by decide, rfl, rfl⟩ (fun _ h => ⟨fun _ z => (by cases z), Or.inr ⟨rfl, h⟩⟩) (fun r1 u1 h => ?_)
    refine e_if_eq (k := 14) (tgt := 30) rfl (by decide) (fun z => ?_) (fun z => ?_)
    · have h := h.1 z
      exact s_X12_readGraces_30 hg ih h
    · have h := h.2 z
      refine e_iload_n (k := 15) (i := 2) rfl rfl 1 rfl ?_
      refine e_if_ne (k := 16) (tgt := 76) rfl (by decide) (fun z => ?_) (fun z => ?_)
      · have h := h.1 z
        refine e_aload_n (k := 40) (i := 0) rfl rfl 0 rfl ?_
        refine e_dup (k := 41) rfl rfl ?_
        refine e_getI (k := 42) rfl f_X12_138 rfl rfl ?_
        refine e_iconst (k := 43) (v := (1 : Int32)) rfl (by decide) ?_
        refine e_iadd (k := 44) rfl ?_
        refine e_putI (k := 45) rfl fg_X12_138 rfl rfl ?_
        refine e_mlet h (fun u2 h => ?_)
        exact e_vret (k := 46) rfl rfl (Or.inl ⟨rfl, h⟩)
      · have h := h.2 z
        exact s_X12_readGraces_30 hg ih h
set_option maxRecDepth 20000 in
theorem c_X12_readGraces {g : Gb} (hg : xInj g) {n : Nat} {u0 : Mm} {Q : Mm → Prop} {T : Mm → Prop} (h : w_X12_readGraces n u0 Q T) : xMet (gL g) yX12_readGraces (xws yX12_readGraces cX12_readGraces 4 none) (xRoom 6) (xPc g [.ref (gR g 0)] u0) (xQ g (pV g Q T)) (xA g) := by
  refine xbody (il := il_X12_readGraces) hg il_X12_readGraces_ok m_X12_readGraces (Nat.le_of_ble_eq_true rfl) ?_
  show xE g me_X12_readGraces (pV g Q T) 0 [(0, .ref (gR g 0))] [] u0
  unfold w_X12_readGraces at h
  refine e_aload_n (k := 0) (i := 0) rfl rfl 0 rfl ?_
  refine e_getI (k := 1) rfl f_X12_138 rfl rfl ?_
  refine e_ilet h (fun y1 h => ?_)
  refine e_istore_n (k := 2) (i := 1) (lv' := [(0, .ref (gR g 0)), (1, .int y1)]) rfl rfl (by decide) [1, 0] rfl ?_
  refine e_aload_n (k := 3) (i := 0) rfl rfl 0 rfl ?_
  refine e_dup (k := 4) rfl rfl ?_
  refine e_getI (k := 5) rfl f_X12_138 rfl rfl ?_
  refine e_iconst (k := 6) (v := (1 : Int32)) rfl (by decide) ?_
  refine e_iadd (k := 7) rfl ?_
  refine e_putI (k := 8) rfl fg_X12_138 rfl rfl ?_
  refine e_mlet h (fun u1 h => ?_)
  refine e_iconst (k := 9) (v := (0 : Int32)) rfl (by decide) ?_
  refine e_istore_n (k := 10) (i := 2) (lv' := [(0, .ref (gR g 0)), (1, .int y1), (2, .int (0 : Int32))]) rfl rfl (by decide) [1, 2, 0] rfl ?_
  refine e_sub (lv' := [(0, .ref (gR g 0)), (2, .int (0 : Int32))]) [0, 2] rfl ?_
  exact s_X12_readGraces_17 hg n (0 : Int32) u1 h
def il_X12_readHeads : List (Nat × Instr × Nat) := [(0, .aload_n 0, 1), (1, .invokevirtual 152, 3), (4, .aload_n 0, 1), (5, .bipush 88, 2), (7, .invokevirtual 244, 3), (10, .ifCond .ne 12, 3), (13, .aload_n 0, 1), (14, .iconst 1, 1), (15, .aload_n 0, 1), (16, .getfield 138, 3), (19, .invokevirtual 148, 3), (22, .aload_n 0, 1), (23, .invokevirtual 247, 3), (26, .aload_n 0, 1), (27, .aload_n 0, 1), (28, .iconst 1, 1), (29, .sipush 9999, 3), (32, .aload_n 0, 1), (33, .getfield 138, 3), (36, .invokevirtual 207, 3), (39, .putfield 250, 3), (42, .aload_n 0, 1), (43, .invokevirtual 253, 3), (46, .aload_n 0, 1), (47, .iconst 0, 1), (48, .putfield 256, 3), (51, .aload_n 0, 1), (52, .invokevirtual 152, 3), (55, .aload_n 0, 1), (56, .bipush 84, 2), (58, .invokevirtual 244, 3), (61, .ifCond .ne 12, 3), (64, .aload_n 0, 1), (65, .iconst 1, 1), (66, .aload_n 0, 1), (67, .getfield 138, 3), (70, .invokevirtual 148, 3), (73, .aload_n 0, 1), (74, .bipush 84, 2), (76, .invokevirtual 244, 3), (79, .ifCond .eq 84, 3), (82, .aload_n 0, 1), (83, .getfield 256, 3), (86, .iconst 3, 1), (87, .if_icmp .ne 12, 3), (90, .aload_n 0, 1), (91, .iconst 1, 1), (92, .aload_n 0, 1), (93, .getfield 138, 3), (96, .invokevirtual 148, 3), (99, .aload_n 0, 1), (100, .invokevirtual 247, 3), (103, .aload_n 0, 1), (104, .getfield 30, 3), (107, .aload_n 0, 1), (108, .getfield 256, 3), (111, .aload_n 0, 1), (112, .getfield 138, 3), (115, .iastore, 1), (116, .aload_n 0, 1), (117, .getfield 34, 3), (120, .aload_n 0, 1), (121, .getfield 256, 3), (124, .aload_n 0, 1), (125, .getfield 135, 3), (128, .aload_n 0, 1), (129, .getfield 138, 3), (132, .isub, 1), (133, .iastore, 1), (134, .aload_n 0, 1), (135, .aload_n 0, 1), (136, .getfield 135, 3), (139, .putfield 138, 3), (142, .aload_n 0, 1), (143, .dup, 1), (144, .getfield 256, 3), (147, .iconst 1, 1), (148, .iadd, 1), (149, .putfield 256, 3), (152, .aload_n 0, 1), (153, .invokevirtual 253, 3), (156, .aload_n 0, 1), (157, .invokevirtual 152, 3), (160, .goto (-87), 3), (163, .iconst 0, 1), (164, .istore_n 1, 1), (165, .iconst 0, 1), (166, .istore_n 2, 1), (167, .iconst 0, 1), (168, .istore_n 3, 1), (169, .aload_n 0, 1), (170, .iconst 0, 1), (171, .putfield 259, 3), (174, .aload_n 0, 1), (175, .iconst 0, 1), (176, .putfield 262, 3), (179, .aload_n 0, 1), (180, .iconst 0, 1), (181, .putfield 265, 3), (184, .aload_n 0, 1), (185, .iconst 0, 1), (186, .putfield 268, 3), (189, .aload_n 0, 1), (190, .bipush 75, 2), (192, .invokevirtual 244, 3), (195, .ifCond .ne 133, 3), (198, .aload_n 0, 1), (199, .bipush 77, 2), (201, .invokevirtual 244, 3), (204, .ifCond .eq 36, 3), (207, .iload_n 1, 1), (208, .ifCond .ne 32, 3), (211, .iconst 1, 1), (212, .istore_n 1, 1), (213, .aload_n 0, 1), (214, .invokevirtual 247, 3), (217, .aload_n 0, 1), (218, .invokevirtual 271, 3), (221, .aload_n 0, 1), (222, .aload_n 0, 1), (223, .getfield 195, 3), (226, .putfield 259, 3), (229, .aload_n 0, 1), (230, .aload_n 0, 1), (231, .getfield 198, 3), (234, .putfield 262, 3), (237, .goto 80, 3), (240, .aload_n 0, 1), (241, .bipush 76, 2), (243, .invokevirtual 244, 3), (246, .ifCond .eq 24, 3), (249, .iload_n 2, 1), (250, .ifCond .ne 20, 3), (253, .iconst 1, 1), (254, .istore_n 2, 1), (255, .aload_n 0, 1), (256, .invokevirtual 247, 3), (259, .aload_n 0, 1), (260, .aload_n 0, 1), (261, .invokevirtual 274, 3), (264, .putfield 268, 3), (267, .goto 50, 3), (270, .aload_n 0, 1), (271, .bipush 81, 2), (273, .invokevirtual 244, 3), (276, .ifCond .eq 32, 3), (279, .iload_n 3, 1), (280, .ifCond .ne 28, 3), (283, .iconst 1, 1), (284, .istore_n 3, 1), (285, .aload_n 0, 1), (286, .invokevirtual 247, 3), (289, .aload_n 0, 1), (290, .aload_n 0, 1), (291, .iconst 1, 1), (292, .sipush 999, 3), (295, .aload_n 0, 1), (296, .getfield 138, 3), (299, .invokevirtual 207, 3), (302, .putfield 265, 3), (305, .goto 12, 3), (308, .aload_n 0, 1), (309, .iconst 1, 1), (310, .aload_n 0, 1), (311, .getfield 138, 3), (314, .invokevirtual 148, 3), (317, .aload_n 0, 1), (318, .invokevirtual 253, 3), (321, .aload_n 0, 1), (322, .invokevirtual 152, 3), (325, .goto (-136), 3), (328, .aload_n 0, 1), (329, .invokevirtual 247, 3), (332, .aload_n 0, 1), (333, .aload_n 0, 1), (334, .invokevirtual 277, 3), (337, .putfield 280, 3), (340, .aload_n 0, 1), (341, .invokevirtual 253, 3), (344, .iload_n 2, 1), (345, .ifCond .ne 36, 3), (348, .aload_n 0, 1), (349, .aload_n 0, 1), (350, .getfield 259, 3), (353, .ifCond .le 23, 3), (356, .iconst 4, 1), (357, .aload_n 0, 1), (358, .getfield 259, 3), (361, .imul, 1), (362, .iconst 3, 1), (363, .aload_n 0, 1), (364, .getfield 262, 3), (367, .imul, 1), (368, .if_icmp .ge 8, 3), (371, .bipush 16, 2), (373, .goto 5, 3), (376, .bipush 8, 2), (378, .putfield 268, 3), (381, .return_, 1)]
set_option maxRecDepth 20000 in
theorem il_X12_readHeads_ok : ∀ x ∈ il_X12_readHeads, decode cX12_readHeads x.1 = .ok x.2 := by decide +kernel
abbrev me_X12_readHeads : Me := (RX12, il_X12_readHeads, 4, none, xRoom 6, [])
def w_X12_readHeads_381 (n : Nat) (u0 : Mm) (Q : Mm → Prop) (T : Mm → Prop) : Prop :=
  Q u0
def w_X12_readHeads_378 (n : Nat) (t0 : Int32) (u0 : Mm) (Q : Mm → Prop) (T : Mm → Prop) : Prop :=
  mlet (setI u0 0 18 t0) fun u1 =>
  w_X12_readHeads_381 n u1 Q T
def w_X12_readHeads_376 (n : Nat) (u0 : Mm) (Q : Mm → Prop) (T : Mm → Prop) : Prop :=
  w_X12_readHeads_378 n (8 : Int32) u0 Q T
def w_X12_readHeads_317 (n : Nat) (L189 : Int32 → Int32 → Int32 → Mm → Prop) (x1 : Int32) (x2 : Int32) (x3 : Int32) (u0 : Mm) (Q : Mm → Prop) (T : Mm → Prop) : Prop :=
  w_X12_endLine n u0 (fun u1 =>
  w_X12_beginLine n u1 (fun u2 =>
  L189 x1 x2 x3 u2) T) T
def w_X12_readHeads_308 (n : Nat) (L189 : Int32 → Int32 → Int32 → Mm → Prop) (x1 : Int32) (x2 : Int32) (x3 : Int32) (u0 : Mm) (Q : Mm → Prop) (T : Mm → Prop) : Prop :=
  w_X12_fail n (1 : Int32) (u0.1 0 7) u0 (fun u1 =>
  w_X12_readHeads_317 n L189 x1 x2 x3 u1 Q T) T
def w_X12_readHeads_270 (n : Nat) (L189 : Int32 → Int32 → Int32 → Mm → Prop) (x1 : Int32) (x2 : Int32) (x3 : Int32) (u0 : Mm) (Q : Mm → Prop) (T : Mm → Prop) : Prop :=
  w_X12_isHead n (81 : Int32) u0 (fun r1 u1 =>
  (r1 = 0 → w_X12_readHeads_308 n L189 x1 x2 x3 u1 Q T) ∧
  (¬ r1 = 0 → (¬ x3 = 0 → w_X12_readHeads_308 n L189 x1 x2 x3 u1 Q T) ∧
  (x3 = 0 → w_X12_passHead n u1 (fun u2 =>
  w_X12_numberOf n (1 : Int32) (999 : Int32) (u2.1 0 7) u2 (fun r2 u3 =>
  mlet (setI u3 0 19 r2) fun u4 =>
  w_X12_readHeads_317 n L189 x1 x2 (1 : Int32) u4 Q T) T) T))) T
def w_X12_readHeads_240 (n : Nat) (L189 : Int32 → Int32 → Int32 → Mm → Prop) (x1 : Int32) (x2 : Int32) (x3 : Int32) (u0 : Mm) (Q : Mm → Prop) (T : Mm → Prop) : Prop :=
  w_X12_isHead n (76 : Int32) u0 (fun r1 u1 =>
  (r1 = 0 → w_X12_readHeads_270 n L189 x1 x2 x3 u1 Q T) ∧
  (¬ r1 = 0 → (¬ x2 = 0 → w_X12_readHeads_270 n L189 x1 x2 x3 u1 Q T) ∧
  (x2 = 0 → w_X12_passHead n u1 (fun u2 =>
  w_X12_readUnit n u2 (fun r2 u3 =>
  mlet (setI u3 0 18 r2) fun u4 =>
  w_X12_readHeads_317 n L189 x1 (1 : Int32) x3 u4 Q T) T) T))) T
def w_X12_readHeads_189 (n : Nat) (Q : Mm → Prop) (T : Mm → Prop) : Nat → Int32 → Int32 → Int32 → Mm → Prop
  | 0, _, _, _, _ => False
  | k + 1, x1, x2, x3, u0 =>
  w_X12_isHead n (75 : Int32) u0 (fun r1 u1 =>
  (¬ r1 = 0 → w_X12_passHead n u1 (fun u2 =>
  w_X12_readKey n u2 (fun r2 u3 =>
  mlet (setI u3 0 20 r2) fun u4 =>
  w_X12_endLine n u4 (fun u5 =>
  (¬ x2 = 0 → w_X12_readHeads_381 n u5 Q T) ∧
  (x2 = 0 → ((u5.1 0 16) ≤ 0 → w_X12_readHeads_376 n u5 Q T) ∧
  (¬ (u5.1 0 16) ≤ 0 → (((3 : Int32) * (u5.1 0 17)) ≤ ((4 : Int32) * (u5.1 0 16)) → w_X12_readHeads_376 n u5 Q T) ∧
  (¬ ((3 : Int32) * (u5.1 0 17)) ≤ ((4 : Int32) * (u5.1 0 16)) → w_X12_readHeads_378 n (16 : Int32) u5 Q T)))) T) T) T) ∧
  (r1 = 0 → w_X12_isHead n (77 : Int32) u1 (fun r3 u6 =>
  (r3 = 0 → w_X12_readHeads_240 n (w_X12_readHeads_189 n Q T k) x1 x2 x3 u6 Q T) ∧
  (¬ r3 = 0 → (¬ x1 = 0 → w_X12_readHeads_240 n (w_X12_readHeads_189 n Q T k) x1 x2 x3 u6 Q T) ∧
  (x1 = 0 → w_X12_passHead n u6 (fun u7 =>
  w_X12_readMeter n u7 (fun u8 =>
  mlet (setI u8 0 16 (u8.1 0 50)) fun u9 =>
  mlet (setI u9 0 17 (u9.1 0 51)) fun u10 =>
  w_X12_readHeads_317 n (w_X12_readHeads_189 n Q T k) (1 : Int32) x2 x3 u10 Q T) T) T))) T)) T
def w_X12_readHeads_99 (n : Nat) (L73 : Mm → Prop) (u0 : Mm) (Q : Mm → Prop) (T : Mm → Prop) : Prop :=
  w_X12_passHead n u0 (fun u1 =>
  vp_in (u1.1 0 13) 3 ∧ (mlet (setI u1 4 (ix (u1.1 0 13)) (u1.1 0 7)) fun u2 =>
  vp_in (u2.1 0 13) 3 ∧ (mlet (setI u2 5 (ix (u2.1 0 13)) ((u2.1 0 9) - (u2.1 0 7))) fun u3 =>
  mlet (setI u3 0 7 (u3.1 0 9)) fun u4 =>
  mlet (setI u4 0 13 ((u4.1 0 13) + (1 : Int32))) fun u5 =>
  w_X12_endLine n u5 (fun u6 =>
  w_X12_beginLine n u6 (fun u7 =>
  L73 u7) T) T))) T
def w_X12_readHeads_73 (n : Nat) (Q : Mm → Prop) (T : Mm → Prop) : Nat → Mm → Prop
  | 0, _ => False
  | k + 1, u0 =>
  w_X12_isHead n (84 : Int32) u0 (fun r1 u1 =>
  (r1 = 0 → mlet (setI u1 0 16 (0 : Int32)) fun u2 =>
  mlet (setI u2 0 17 (0 : Int32)) fun u3 =>
  mlet (setI u3 0 19 (0 : Int32)) fun u4 =>
  mlet (setI u4 0 18 (0 : Int32)) fun u5 =>
  (w_X12_readHeads_189 n Q T n) (0 : Int32) (0 : Int32) (0 : Int32) u5) ∧
  (¬ r1 = 0 → (¬ (u1.1 0 13) = (3 : Int32) → w_X12_readHeads_99 n (w_X12_readHeads_73 n Q T k) u1 Q T) ∧
  ((u1.1 0 13) = (3 : Int32) → w_X12_fail n (1 : Int32) (u1.1 0 7) u1 (fun u6 =>
  w_X12_readHeads_99 n (w_X12_readHeads_73 n Q T k) u6 Q T) T))) T
def w_X12_readHeads_22 (n : Nat) (u0 : Mm) (Q : Mm → Prop) (T : Mm → Prop) : Prop :=
  w_X12_passHead n u0 (fun u1 =>
  w_X12_numberOf n (1 : Int32) (9999 : Int32) (u1.1 0 7) u1 (fun r1 u2 =>
  mlet (setI u2 0 12 r1) fun u3 =>
  w_X12_endLine n u3 (fun u4 =>
  mlet (setI u4 0 13 (0 : Int32)) fun u5 =>
  w_X12_beginLine n u5 (fun u6 =>
  w_X12_isHead n (84 : Int32) u6 (fun r2 u7 =>
  (¬ r2 = 0 → (w_X12_readHeads_73 n Q T n) u7) ∧
  (r2 = 0 → w_X12_fail n (1 : Int32) (u7.1 0 7) u7 (fun u8 =>
  (w_X12_readHeads_73 n Q T n) u8) T)) T) T) T) T) T
def w_X12_readHeads (n : Nat) (u0 : Mm) (Q : Mm → Prop) (T : Mm → Prop) : Prop :=
  w_X12_beginLine n u0 (fun u1 =>
  w_X12_isHead n (88 : Int32) u1 (fun r1 u2 =>
  (¬ r1 = 0 → w_X12_readHeads_22 n u2 Q T) ∧
  (r1 = 0 → w_X12_fail n (1 : Int32) (u2.1 0 7) u2 (fun u3 =>
  w_X12_readHeads_22 n u3 Q T) T)) T) T
set_option maxRecDepth 20000 in
theorem s_X12_readHeads_381 {g : Gb} (hg : xInj g) {n : Nat} {Q : Mm → Prop} {T : Mm → Prop} {u0 : Mm} (h : w_X12_readHeads_381 n  u0 Q T) : xE g me_X12_readHeads (pV g Q T) 381 [] [] u0 := by
  unfold w_X12_readHeads_381 at h
  exact e_vret (k := 198) rfl rfl (Or.inl ⟨rfl, h⟩)
set_option maxRecDepth 20000 in
theorem s_X12_readHeads_378 {g : Gb} (hg : xInj g) {n : Nat} {Q : Mm → Prop} {T : Mm → Prop} {t0 : Int32} {u0 : Mm} (h : w_X12_readHeads_378 n t0 u0 Q T) : xE g me_X12_readHeads (pV g Q T) 378 [] [.int t0, .ref (gR g 0)] u0 := by
  unfold w_X12_readHeads_378 at h
  refine e_putI (k := 197) rfl fg_X12_268 rfl rfl ?_
  refine e_mlet h (fun u1 h => ?_)
  exact s_X12_readHeads_381 hg h
set_option maxRecDepth 20000 in
theorem s_X12_readHeads_376 {g : Gb} (hg : xInj g) {n : Nat} {Q : Mm → Prop} {T : Mm → Prop} {u0 : Mm} (h : w_X12_readHeads_376 n  u0 Q T) : xE g me_X12_readHeads (pV g Q T) 376 [] [.ref (gR g 0)] u0 := by
  unfold w_X12_readHeads_376 at h
  refine e_bipush (k := 196) (v := (8 : Int32)) rfl (by decide) ?_
  exact s_X12_readHeads_378 hg h
set_option maxRecDepth 20000 in
theorem s_X12_readHeads_317 {g : Gb} (hg : xInj g) {n : Nat} {Q : Mm → Prop} {T : Mm → Prop} {L189 : Int32 → Int32 → Int32 → Mm → Prop} (hL189 : ∀ (x1 : Int32) (x2 : Int32) (x3 : Int32) (u0 : Mm), L189 x1 x2 x3 u0 → xE g me_X12_readHeads (pV g Q T) 189 [(0, .ref (gR g 0)), (1, .int x1), (2, .int x2), (3, .int x3)] [] u0) {x1 : Int32} {x2 : Int32} {x3 : Int32} {u0 : Mm} (h : w_X12_readHeads_317 n L189 x1 x2 x3 u0 Q T) : xE g me_X12_readHeads (pV g Q T) 317 [(0, .ref (gR g 0)), (1, .int x1), (2, .int x2), (3, .int x3)] [] u0 := by
  unfold w_X12_readHeads_317 at h
  refine e_aload_n (k := 166) (i := 0) rfl rfl 0 rfl ?_
  refine e_callVv (k := 167) (q := 0) (As := []) (rest := []) rfl (c_X12_endLine (g := g) hg (n := n) h) m_X12_endLine i_X12_endLine l_X12_253 rfl ⟨_, rfl, rfl⟩ rfl rfl (Nat.le_of_ble_eq_true rfl) ⟨by decide, by decide, rfl, rfl⟩ (fun _ h => ⟨fun _ z => (by cases z), Or.inr ⟨rfl, h⟩⟩) (fun u1 h => ?_)
  refine e_aload_n (k := 168) (i := 0) rfl rfl 0 rfl ?_
  refine e_callVv (k := 169) (q := 0) (As := []) (rest := []) rfl (c_X12_beginLine (g := g) hg (n := n) h) m_X12_beginLine i_X12_beginLine l_X12_152 rfl ⟨_, rfl, rfl⟩ rfl rfl (Nat.le_of_ble_eq_true rfl) ⟨by decide, by decide, rfl, rfl⟩ (fun _ h => ⟨fun _ z => (by cases z), Or.inr ⟨rfl, h⟩⟩) (fun u2 h => ?_)
  refine e_goto (k := 170) (tgt := 189) rfl (by decide) ?_
  exact hL189 x1 x2 x3 u2 h
set_option maxRecDepth 20000 in
theorem s_X12_readHeads_308 {g : Gb} (hg : xInj g) {n : Nat} {Q : Mm → Prop} {T : Mm → Prop} {L189 : Int32 → Int32 → Int32 → Mm → Prop} (hL189 : ∀ (x1 : Int32) (x2 : Int32) (x3 : Int32) (u0 : Mm), L189 x1 x2 x3 u0 → xE g me_X12_readHeads (pV g Q T) 189 [(0, .ref (gR g 0)), (1, .int x1), (2, .int x2), (3, .int x3)] [] u0) {x1 : Int32} {x2 : Int32} {x3 : Int32} {u0 : Mm} (h : w_X12_readHeads_308 n L189 x1 x2 x3 u0 Q T) : xE g me_X12_readHeads (pV g Q T) 308 [(0, .ref (gR g 0)), (1, .int x1), (2, .int x2), (3, .int x3)] [] u0 := by
  unfold w_X12_readHeads_308 at h
  refine e_aload_n (k := 161) (i := 0) rfl rfl 0 rfl ?_
  refine e_iconst (k := 162) (v := (1 : Int32)) rfl (by decide) ?_
  refine e_aload_n (k := 163) (i := 0) rfl rfl 0 rfl ?_
  refine e_getI (k := 164) rfl f_X12_138 rfl rfl ?_
  refine e_callVv (k := 165) (q := 0) (As := [.int (1 : Int32), .int (u0.1 0 7)]) (rest := []) rfl (c_X12_fail (g := g) hg (n := n) h) m_X12_fail i_X12_fail l_X12_148 rfl ⟨_, rfl, rfl⟩ rfl rfl (Nat.le_of_ble_eq_true rfl) ⟨by decide, by decide, rfl, rfl⟩ (fun _ h => ⟨fun _ z => (by cases z), Or.inr ⟨rfl, h⟩⟩) (fun u1 h => ?_)
  exact s_X12_readHeads_317 hg hL189 h
set_option maxRecDepth 20000 in
theorem s_X12_readHeads_270 {g : Gb} (hg : xInj g) {n : Nat} {Q : Mm → Prop} {T : Mm → Prop} {L189 : Int32 → Int32 → Int32 → Mm → Prop} (hL189 : ∀ (x1 : Int32) (x2 : Int32) (x3 : Int32) (u0 : Mm), L189 x1 x2 x3 u0 → xE g me_X12_readHeads (pV g Q T) 189 [(0, .ref (gR g 0)), (1, .int x1), (2, .int x2), (3, .int x3)] [] u0) {x1 : Int32} {x2 : Int32} {x3 : Int32} {u0 : Mm} (h : w_X12_readHeads_270 n L189 x1 x2 x3 u0 Q T) : xE g me_X12_readHeads (pV g Q T) 270 [(0, .ref (gR g 0)), (1, .int x1), (2, .int x2), (3, .int x3)] [] u0 := by
  unfold w_X12_readHeads_270 at h
  refine e_aload_n (k := 142) (i := 0) rfl rfl 0 rfl ?_
  refine e_bipush (k := 143) (v := (81 : Int32)) rfl (by decide) ?_
  refine e_callVi (k := 144) (q := 0) (As := [.int (81 : Int32)]) (rest := []) rfl (c_X12_isHead (g := g) hg (n := n) h) m_X12_isHead i_X12_isHead l_X12_244 rfl ⟨_, rfl, rfl⟩ rfl rfl (Nat.le_of_ble_eq_true rfl) ⟨by decide, by decide, rfl, rfl⟩ (fun _ h => ⟨fun _ z => (by cases z), Or.inr ⟨rfl, h⟩⟩) (fun r1 u1 h => ?_)
  refine e_if_eq (k := 145) (tgt := 308) rfl (by decide) (fun z => ?_) (fun z => ?_)
  · have h := h.1 z
    exact s_X12_readHeads_308 hg hL189 h
  · have h := h.2 z
    refine e_iload_n (k := 146) (i := 3) rfl rfl 3 rfl ?_
    refine e_if_ne (k := 147) (tgt := 308) rfl (by decide) (fun z => ?_) (fun z => ?_)
    · have h := h.1 z
      exact s_X12_readHeads_308 hg hL189 h
    · have h := h.2 z
      refine e_iconst (k := 148) (v := (1 : Int32)) rfl (by decide) ?_
      refine e_istore_n (k := 149) (i := 3) (lv' := [(0, .ref (gR g 0)), (1, .int x1), (2, .int x2), (3, .int (1 : Int32))]) rfl rfl (by decide) [1, 2, 3, 0] rfl ?_
      refine e_aload_n (k := 150) (i := 0) rfl rfl 0 rfl ?_
      refine e_callVv (k := 151) (q := 0) (As := []) (rest := []) rfl (c_X12_passHead (g := g) hg (n := n) h) m_X12_passHead i_X12_passHead l_X12_247 rfl ⟨_, rfl, rfl⟩ rfl rfl (Nat.le_of_ble_eq_true rfl) ⟨by decide, by decide, rfl, rfl⟩ (fun _ h => ⟨fun _ z => (by cases z), Or.inr ⟨rfl, h⟩⟩) (fun u2 h => ?_)
      refine e_aload_n (k := 152) (i := 0) rfl rfl 0 rfl ?_
      refine e_aload_n (k := 153) (i := 0) rfl rfl 0 rfl ?_
      refine e_iconst (k := 154) (v := (1 : Int32)) rfl (by decide) ?_
      refine e_sipush (k := 155) (v := (999 : Int32)) rfl (by decide) ?_
      refine e_aload_n (k := 156) (i := 0) rfl rfl 0 rfl ?_
      refine e_getI (k := 157) rfl f_X12_138 rfl rfl ?_
      refine e_callVi (k := 158) (q := 0) (As := [.int (1 : Int32), .int (999 : Int32), .int (u2.1 0 7)]) (rest := [.ref (gR g 0)]) rfl (c_X12_numberOf (g := g) hg (n := n) h) m_X12_numberOf i_X12_numberOf l_X12_207 rfl ⟨_, rfl, rfl⟩ rfl rfl (Nat.le_of_ble_eq_true rfl) ⟨by decide, by decide, rfl, rfl⟩ (fun _ h => ⟨fun _ z => (by cases z), Or.inr ⟨rfl, h⟩⟩) (fun r2 u3 h => ?_)
      refine e_putI (k := 159) rfl fg_X12_265 rfl rfl ?_
      refine e_mlet h (fun u4 h => ?_)
      refine e_goto (k := 160) (tgt := 317) rfl (by decide) ?_
      exact s_X12_readHeads_317 hg hL189 h
set_option maxRecDepth 20000 in
theorem s_X12_readHeads_240 {g : Gb} (hg : xInj g) {n : Nat} {Q : Mm → Prop} {T : Mm → Prop} {L189 : Int32 → Int32 → Int32 → Mm → Prop} (hL189 : ∀ (x1 : Int32) (x2 : Int32) (x3 : Int32) (u0 : Mm), L189 x1 x2 x3 u0 → xE g me_X12_readHeads (pV g Q T) 189 [(0, .ref (gR g 0)), (1, .int x1), (2, .int x2), (3, .int x3)] [] u0) {x1 : Int32} {x2 : Int32} {x3 : Int32} {u0 : Mm} (h : w_X12_readHeads_240 n L189 x1 x2 x3 u0 Q T) : xE g me_X12_readHeads (pV g Q T) 240 [(0, .ref (gR g 0)), (1, .int x1), (2, .int x2), (3, .int x3)] [] u0 := by
  unfold w_X12_readHeads_240 at h
  refine e_aload_n (k := 127) (i := 0) rfl rfl 0 rfl ?_
  refine e_bipush (k := 128) (v := (76 : Int32)) rfl (by decide) ?_
  refine e_callVi (k := 129) (q := 0) (As := [.int (76 : Int32)]) (rest := []) rfl (c_X12_isHead (g := g) hg (n := n) h) m_X12_isHead i_X12_isHead l_X12_244 rfl ⟨_, rfl, rfl⟩ rfl rfl (Nat.le_of_ble_eq_true rfl) ⟨by decide, by decide, rfl, rfl⟩ (fun _ h => ⟨fun _ z => (by cases z), Or.inr ⟨rfl, h⟩⟩) (fun r1 u1 h => ?_)
  refine e_if_eq (k := 130) (tgt := 270) rfl (by decide) (fun z => ?_) (fun z => ?_)
  · have h := h.1 z
    exact s_X12_readHeads_270 hg hL189 h
  · have h := h.2 z
    refine e_iload_n (k := 131) (i := 2) rfl rfl 2 rfl ?_
    refine e_if_ne (k := 132) (tgt := 270) rfl (by decide) (fun z => ?_) (fun z => ?_)
    · have h := h.1 z
      exact s_X12_readHeads_270 hg hL189 h
    · have h := h.2 z
      refine e_iconst (k := 133) (v := (1 : Int32)) rfl (by decide) ?_
      refine e_istore_n (k := 134) (i := 2) (lv' := [(0, .ref (gR g 0)), (1, .int x1), (2, .int (1 : Int32)), (3, .int x3)]) rfl rfl (by decide) [1, 2, 0, 3] rfl ?_
      refine e_aload_n (k := 135) (i := 0) rfl rfl 0 rfl ?_
      refine e_callVv (k := 136) (q := 0) (As := []) (rest := []) rfl (c_X12_passHead (g := g) hg (n := n) h) m_X12_passHead i_X12_passHead l_X12_247 rfl ⟨_, rfl, rfl⟩ rfl rfl (Nat.le_of_ble_eq_true rfl) ⟨by decide, by decide, rfl, rfl⟩ (fun _ h => ⟨fun _ z => (by cases z), Or.inr ⟨rfl, h⟩⟩) (fun u2 h => ?_)
      refine e_aload_n (k := 137) (i := 0) rfl rfl 0 rfl ?_
      refine e_aload_n (k := 138) (i := 0) rfl rfl 0 rfl ?_
      refine e_callVi (k := 139) (q := 0) (As := []) (rest := [.ref (gR g 0)]) rfl (c_X12_readUnit (g := g) hg (n := n) h) m_X12_readUnit i_X12_readUnit l_X12_274 rfl ⟨_, rfl, rfl⟩ rfl rfl (Nat.le_of_ble_eq_true rfl) ⟨by decide, by decide, rfl, rfl⟩ (fun _ h => ⟨fun _ z => (by cases z), Or.inr ⟨rfl, h⟩⟩) (fun r2 u3 h => ?_)
      refine e_putI (k := 140) rfl fg_X12_268 rfl rfl ?_
      refine e_mlet h (fun u4 h => ?_)
      refine e_goto (k := 141) (tgt := 317) rfl (by decide) ?_
      exact s_X12_readHeads_317 hg hL189 h
set_option maxRecDepth 20000 in
theorem s_X12_readHeads_189 {g : Gb} (hg : xInj g) {n : Nat} {Q : Mm → Prop} {T : Mm → Prop} : ∀ (k : Nat) (x1 : Int32) (x2 : Int32) (x3 : Int32) (u0 : Mm), w_X12_readHeads_189 n Q T k x1 x2 x3 u0 → xE g me_X12_readHeads (pV g Q T) 189 [(0, .ref (gR g 0)), (1, .int x1), (2, .int x2), (3, .int x3)] [] u0 := by
  intro k
  induction k with
  | zero => intro x1 x2 x3 u0 h; exact h.elim
  | succ k ih =>
    intro x1 x2 x3 u0 h
    unfold w_X12_readHeads_189 at h
    refine e_aload_n (k := 102) (i := 0) rfl rfl 0 rfl ?_
    refine e_bipush (k := 103) (v := (75 : Int32)) rfl (by decide) ?_
    refine e_callVi (k := 104) (q := 0) (As := [.int (75 : Int32)]) (rest := []) rfl (c_X12_isHead (g := g) hg (n := n) h) m_X12_isHead i_X12_isHead l_X12_244 rfl ⟨_, rfl, rfl⟩ rfl rfl (Nat.le_of_ble_eq_true rfl) ⟨by decide, by decide, rfl, rfl⟩ (fun _ h => ⟨fun _ z => (by cases z), Or.inr ⟨rfl, h⟩⟩) (fun r1 u1 h => ?_)
    refine e_if_ne (k := 105) (tgt := 328) rfl (by decide) (fun z => ?_) (fun z => ?_)
    · have h := h.1 z
      refine e_aload_n (k := 171) (i := 0) rfl rfl 0 rfl ?_
      refine e_callVv (k := 172) (q := 0) (As := []) (rest := []) rfl (c_X12_passHead (g := g) hg (n := n) h) m_X12_passHead i_X12_passHead l_X12_247 rfl ⟨_, rfl, rfl⟩ rfl rfl (Nat.le_of_ble_eq_true rfl) ⟨by decide, by decide, rfl, rfl⟩ (fun _ h => ⟨fun _ z => (by cases z), Or.inr ⟨rfl, h⟩⟩) (fun u2 h => ?_)
      refine e_aload_n (k := 173) (i := 0) rfl rfl 0 rfl ?_
      refine e_aload_n (k := 174) (i := 0) rfl rfl 0 rfl ?_
      refine e_callVi (k := 175) (q := 0) (As := []) (rest := [.ref (gR g 0)]) rfl (c_X12_readKey (g := g) hg (n := n) h) m_X12_readKey i_X12_readKey l_X12_277 rfl ⟨_, rfl, rfl⟩ rfl rfl (Nat.le_of_ble_eq_true rfl) ⟨by decide, by decide, rfl, rfl⟩ (fun _ h => ⟨fun _ z => (by cases z), Or.inr ⟨rfl, h⟩⟩) (fun r2 u3 h => ?_)
      refine e_putI (k := 176) rfl fg_X12_280 rfl rfl ?_
      refine e_mlet h (fun u4 h => ?_)
      refine e_aload_n (k := 177) (i := 0) rfl rfl 0 rfl ?_
      refine e_callVv (k := 178) (q := 0) (As := []) (rest := []) rfl (c_X12_endLine (g := g) hg (n := n) h) m_X12_endLine i_X12_endLine l_X12_253 rfl ⟨_, rfl, rfl⟩ rfl rfl (Nat.le_of_ble_eq_true rfl) ⟨by decide, by decide, rfl, rfl⟩ (fun _ h => ⟨fun _ z => (by cases z), Or.inr ⟨rfl, h⟩⟩) (fun u5 h => ?_)
      refine e_iload_n (k := 179) (i := 2) rfl rfl 2 rfl ?_
      refine e_if_ne (k := 180) (tgt := 381) rfl (by decide) (fun z => ?_) (fun z => ?_)
      · have h := h.1 z
        refine e_sub (lv' := []) [] rfl ?_
        exact s_X12_readHeads_381 hg h
      · have h := h.2 z
        refine e_aload_n (k := 181) (i := 0) rfl rfl 0 rfl ?_
        refine e_aload_n (k := 182) (i := 0) rfl rfl 0 rfl ?_
        refine e_getI (k := 183) rfl f_X12_259 rfl rfl ?_
        refine e_if_le (k := 184) (tgt := 376) rfl (by decide) (fun z => ?_) (fun z => ?_)
        · have h := h.1 z
          refine e_sub (lv' := []) [] rfl ?_
          exact s_X12_readHeads_376 hg h
        · have h := h.2 z
          refine e_iconst (k := 185) (v := (4 : Int32)) rfl (by decide) ?_
          refine e_aload_n (k := 186) (i := 0) rfl rfl 0 rfl ?_
          refine e_getI (k := 187) rfl f_X12_259 rfl rfl ?_
          refine e_imul (k := 188) rfl ?_
          refine e_iconst (k := 189) (v := (3 : Int32)) rfl (by decide) ?_
          refine e_aload_n (k := 190) (i := 0) rfl rfl 0 rfl ?_
          refine e_getI (k := 191) rfl f_X12_262 rfl rfl ?_
          refine e_imul (k := 192) rfl ?_
          refine e_icmp_ge (k := 193) (tgt := 376) rfl (by decide) (fun z => ?_) (fun z => ?_)
          · have h := h.1 z
            refine e_sub (lv' := []) [] rfl ?_
            exact s_X12_readHeads_376 hg h
          · have h := h.2 z
            refine e_bipush (k := 194) (v := (16 : Int32)) rfl (by decide) ?_
            refine e_goto (k := 195) (tgt := 378) rfl (by decide) ?_
            refine e_sub (lv' := []) [] rfl ?_
            exact s_X12_readHeads_378 hg h
    · have h := h.2 z
      refine e_aload_n (k := 106) (i := 0) rfl rfl 0 rfl ?_
      refine e_bipush (k := 107) (v := (77 : Int32)) rfl (by decide) ?_
      refine e_callVi (k := 108) (q := 0) (As := [.int (77 : Int32)]) (rest := []) rfl (c_X12_isHead (g := g) hg (n := n) h) m_X12_isHead i_X12_isHead l_X12_244 rfl ⟨_, rfl, rfl⟩ rfl rfl (Nat.le_of_ble_eq_true rfl) ⟨by decide, by decide, rfl, rfl⟩ (fun _ h => ⟨fun _ z => (by cases z), Or.inr ⟨rfl, h⟩⟩) (fun r3 u6 h => ?_)
      refine e_if_eq (k := 109) (tgt := 240) rfl (by decide) (fun z => ?_) (fun z => ?_)
      · have h := h.1 z
        exact s_X12_readHeads_240 hg ih h
      · have h := h.2 z
        refine e_iload_n (k := 110) (i := 1) rfl rfl 1 rfl ?_
        refine e_if_ne (k := 111) (tgt := 240) rfl (by decide) (fun z => ?_) (fun z => ?_)
        · have h := h.1 z
          exact s_X12_readHeads_240 hg ih h
        · have h := h.2 z
          refine e_iconst (k := 112) (v := (1 : Int32)) rfl (by decide) ?_
          refine e_istore_n (k := 113) (i := 1) (lv' := [(0, .ref (gR g 0)), (1, .int (1 : Int32)), (2, .int x2), (3, .int x3)]) rfl rfl (by decide) [1, 0, 2, 3] rfl ?_
          refine e_aload_n (k := 114) (i := 0) rfl rfl 0 rfl ?_
          refine e_callVv (k := 115) (q := 0) (As := []) (rest := []) rfl (c_X12_passHead (g := g) hg (n := n) h) m_X12_passHead i_X12_passHead l_X12_247 rfl ⟨_, rfl, rfl⟩ rfl rfl (Nat.le_of_ble_eq_true rfl) ⟨by decide, by decide, rfl, rfl⟩ (fun _ h => ⟨fun _ z => (by cases z), Or.inr ⟨rfl, h⟩⟩) (fun u7 h => ?_)
          refine e_aload_n (k := 116) (i := 0) rfl rfl 0 rfl ?_
          refine e_callVv (k := 117) (q := 0) (As := []) (rest := []) rfl (c_X12_readMeter (g := g) hg (n := n) h) m_X12_readMeter i_X12_readMeter l_X12_271 rfl ⟨_, rfl, rfl⟩ rfl rfl (Nat.le_of_ble_eq_true rfl) ⟨by decide, by decide, rfl, rfl⟩ (fun _ h => ⟨fun _ z => (by cases z), Or.inr ⟨rfl, h⟩⟩) (fun u8 h => ?_)
          refine e_aload_n (k := 118) (i := 0) rfl rfl 0 rfl ?_
          refine e_aload_n (k := 119) (i := 0) rfl rfl 0 rfl ?_
          refine e_getI (k := 120) rfl f_X12_195 rfl rfl ?_
          refine e_putI (k := 121) rfl fg_X12_259 rfl rfl ?_
          refine e_mlet h (fun u9 h => ?_)
          refine e_aload_n (k := 122) (i := 0) rfl rfl 0 rfl ?_
          refine e_aload_n (k := 123) (i := 0) rfl rfl 0 rfl ?_
          refine e_getI (k := 124) rfl f_X12_198 rfl rfl ?_
          refine e_putI (k := 125) rfl fg_X12_262 rfl rfl ?_
          refine e_mlet h (fun u10 h => ?_)
          refine e_goto (k := 126) (tgt := 317) rfl (by decide) ?_
          exact s_X12_readHeads_317 hg ih h
set_option maxRecDepth 20000 in
theorem s_X12_readHeads_99 {g : Gb} (hg : xInj g) {n : Nat} {Q : Mm → Prop} {T : Mm → Prop} {L73 : Mm → Prop} (hL73 : ∀ (u0 : Mm), L73  u0 → xE g me_X12_readHeads (pV g Q T) 73 [(0, .ref (gR g 0))] [] u0) {u0 : Mm} (h : w_X12_readHeads_99 n L73  u0 Q T) : xE g me_X12_readHeads (pV g Q T) 99 [(0, .ref (gR g 0))] [] u0 := by
  unfold w_X12_readHeads_99 at h
  refine e_aload_n (k := 50) (i := 0) rfl rfl 0 rfl ?_
  refine e_callVv (k := 51) (q := 0) (As := []) (rest := []) rfl (c_X12_passHead (g := g) hg (n := n) h) m_X12_passHead i_X12_passHead l_X12_247 rfl ⟨_, rfl, rfl⟩ rfl rfl (Nat.le_of_ble_eq_true rfl) ⟨by decide, by decide, rfl, rfl⟩ (fun _ h => ⟨fun _ z => (by cases z), Or.inr ⟨rfl, h⟩⟩) (fun u1 h => ?_)
  refine e_aload_n (k := 52) (i := 0) rfl rfl 0 rfl ?_
  refine e_getC (k := 53) rfl f_X12_30 rfl rfl ?_
  refine e_aload_n (k := 54) (i := 0) rfl rfl 0 rfl ?_
  refine e_getI (k := 55) rfl f_X12_256 rfl rfl ?_
  refine e_aload_n (k := 56) (i := 0) rfl rfl 0 rfl ?_
  refine e_getI (k := 57) rfl f_X12_138 rfl rfl ?_
  refine e_iast (k := 58) rfl rfl h.1 ?_
  have h := h.2
  refine e_mlet h (fun u2 h => ?_)
  refine e_aload_n (k := 59) (i := 0) rfl rfl 0 rfl ?_
  refine e_getC (k := 60) rfl f_X12_34 rfl rfl ?_
  refine e_aload_n (k := 61) (i := 0) rfl rfl 0 rfl ?_
  refine e_getI (k := 62) rfl f_X12_256 rfl rfl ?_
  refine e_aload_n (k := 63) (i := 0) rfl rfl 0 rfl ?_
  refine e_getI (k := 64) rfl f_X12_135 rfl rfl ?_
  refine e_aload_n (k := 65) (i := 0) rfl rfl 0 rfl ?_
  refine e_getI (k := 66) rfl f_X12_138 rfl rfl ?_
  refine e_isub (k := 67) rfl ?_
  refine e_iast (k := 68) rfl rfl h.1 ?_
  have h := h.2
  refine e_mlet h (fun u3 h => ?_)
  refine e_aload_n (k := 69) (i := 0) rfl rfl 0 rfl ?_
  refine e_aload_n (k := 70) (i := 0) rfl rfl 0 rfl ?_
  refine e_getI (k := 71) rfl f_X12_135 rfl rfl ?_
  refine e_putI (k := 72) rfl fg_X12_138 rfl rfl ?_
  refine e_mlet h (fun u4 h => ?_)
  refine e_aload_n (k := 73) (i := 0) rfl rfl 0 rfl ?_
  refine e_dup (k := 74) rfl rfl ?_
  refine e_getI (k := 75) rfl f_X12_256 rfl rfl ?_
  refine e_iconst (k := 76) (v := (1 : Int32)) rfl (by decide) ?_
  refine e_iadd (k := 77) rfl ?_
  refine e_putI (k := 78) rfl fg_X12_256 rfl rfl ?_
  refine e_mlet h (fun u5 h => ?_)
  refine e_aload_n (k := 79) (i := 0) rfl rfl 0 rfl ?_
  refine e_callVv (k := 80) (q := 0) (As := []) (rest := []) rfl (c_X12_endLine (g := g) hg (n := n) h) m_X12_endLine i_X12_endLine l_X12_253 rfl ⟨_, rfl, rfl⟩ rfl rfl (Nat.le_of_ble_eq_true rfl) ⟨by decide, by decide, rfl, rfl⟩ (fun _ h => ⟨fun _ z => (by cases z), Or.inr ⟨rfl, h⟩⟩) (fun u6 h => ?_)
  refine e_aload_n (k := 81) (i := 0) rfl rfl 0 rfl ?_
  refine e_callVv (k := 82) (q := 0) (As := []) (rest := []) rfl (c_X12_beginLine (g := g) hg (n := n) h) m_X12_beginLine i_X12_beginLine l_X12_152 rfl ⟨_, rfl, rfl⟩ rfl rfl (Nat.le_of_ble_eq_true rfl) ⟨by decide, by decide, rfl, rfl⟩ (fun _ h => ⟨fun _ z => (by cases z), Or.inr ⟨rfl, h⟩⟩) (fun u7 h => ?_)
  refine e_goto (k := 83) (tgt := 73) rfl (by decide) ?_
  exact hL73 u7 h
set_option maxRecDepth 20000 in
theorem s_X12_readHeads_73 {g : Gb} (hg : xInj g) {n : Nat} {Q : Mm → Prop} {T : Mm → Prop} : ∀ (k : Nat) (u0 : Mm), w_X12_readHeads_73 n Q T k  u0 → xE g me_X12_readHeads (pV g Q T) 73 [(0, .ref (gR g 0))] [] u0 := by
  intro k
  induction k with
  | zero => intro  u0 h; exact h.elim
  | succ k ih =>
    intro  u0 h
    unfold w_X12_readHeads_73 at h
    refine e_aload_n (k := 37) (i := 0) rfl rfl 0 rfl ?_
    refine e_bipush (k := 38) (v := (84 : Int32)) rfl (by decide) ?_
    refine e_callVi (k := 39) (q := 0) (As := [.int (84 : Int32)]) (rest := []) rfl (c_X12_isHead (g := g) hg (n := n) h) m_X12_isHead i_X12_isHead l_X12_244 rfl ⟨_, rfl, rfl⟩ rfl rfl (Nat.le_of_ble_eq_true rfl) ⟨by decide, by decide, rfl, rfl⟩ (fun _ h => ⟨fun _ z => (by cases z), Or.inr ⟨rfl, h⟩⟩) (fun r1 u1 h => ?_)
    refine e_if_eq (k := 40) (tgt := 163) rfl (by decide) (fun z => ?_) (fun z => ?_)
    · have h := h.1 z
      refine e_iconst (k := 84) (v := (0 : Int32)) rfl (by decide) ?_
      refine e_istore_n (k := 85) (i := 1) (lv' := [(0, .ref (gR g 0)), (1, .int (0 : Int32))]) rfl rfl (by decide) [1, 0] rfl ?_
      refine e_iconst (k := 86) (v := (0 : Int32)) rfl (by decide) ?_
      refine e_istore_n (k := 87) (i := 2) (lv' := [(0, .ref (gR g 0)), (1, .int (0 : Int32)), (2, .int (0 : Int32))]) rfl rfl (by decide) [1, 2, 0] rfl ?_
      refine e_iconst (k := 88) (v := (0 : Int32)) rfl (by decide) ?_
      refine e_istore_n (k := 89) (i := 3) (lv' := [(0, .ref (gR g 0)), (1, .int (0 : Int32)), (2, .int (0 : Int32)), (3, .int (0 : Int32))]) rfl rfl (by decide) [1, 2, 3, 0] rfl ?_
      refine e_aload_n (k := 90) (i := 0) rfl rfl 0 rfl ?_
      refine e_iconst (k := 91) (v := (0 : Int32)) rfl (by decide) ?_
      refine e_putI (k := 92) rfl fg_X12_259 rfl rfl ?_
      refine e_mlet h (fun u2 h => ?_)
      refine e_aload_n (k := 93) (i := 0) rfl rfl 0 rfl ?_
      refine e_iconst (k := 94) (v := (0 : Int32)) rfl (by decide) ?_
      refine e_putI (k := 95) rfl fg_X12_262 rfl rfl ?_
      refine e_mlet h (fun u3 h => ?_)
      refine e_aload_n (k := 96) (i := 0) rfl rfl 0 rfl ?_
      refine e_iconst (k := 97) (v := (0 : Int32)) rfl (by decide) ?_
      refine e_putI (k := 98) rfl fg_X12_265 rfl rfl ?_
      refine e_mlet h (fun u4 h => ?_)
      refine e_aload_n (k := 99) (i := 0) rfl rfl 0 rfl ?_
      refine e_iconst (k := 100) (v := (0 : Int32)) rfl (by decide) ?_
      refine e_putI (k := 101) rfl fg_X12_268 rfl rfl ?_
      refine e_mlet h (fun u5 h => ?_)
      exact s_X12_readHeads_189 hg n (0 : Int32) (0 : Int32) (0 : Int32) u5 h
    · have h := h.2 z
      refine e_aload_n (k := 41) (i := 0) rfl rfl 0 rfl ?_
      refine e_getI (k := 42) rfl f_X12_256 rfl rfl ?_
      refine e_iconst (k := 43) (v := (3 : Int32)) rfl (by decide) ?_
      refine e_icmp_ne (k := 44) (tgt := 99) rfl (by decide) (fun z => ?_) (fun z => ?_)
      · have h := h.1 z
        exact s_X12_readHeads_99 hg ih h
      · have h := h.2 z
        refine e_aload_n (k := 45) (i := 0) rfl rfl 0 rfl ?_
        refine e_iconst (k := 46) (v := (1 : Int32)) rfl (by decide) ?_
        refine e_aload_n (k := 47) (i := 0) rfl rfl 0 rfl ?_
        refine e_getI (k := 48) rfl f_X12_138 rfl rfl ?_
        refine e_callVv (k := 49) (q := 0) (As := [.int (1 : Int32), .int (u1.1 0 7)]) (rest := []) rfl (c_X12_fail (g := g) hg (n := n) h) m_X12_fail i_X12_fail l_X12_148 rfl ⟨_, rfl, rfl⟩ rfl rfl (Nat.le_of_ble_eq_true rfl) ⟨by decide, by decide, rfl, rfl⟩ (fun _ h => ⟨fun _ z => (by cases z), Or.inr ⟨rfl, h⟩⟩) (fun u6 h => ?_)
        exact s_X12_readHeads_99 hg ih h
set_option maxRecDepth 20000 in
theorem s_X12_readHeads_22 {g : Gb} (hg : xInj g) {n : Nat} {Q : Mm → Prop} {T : Mm → Prop} {u0 : Mm} (h : w_X12_readHeads_22 n  u0 Q T) : xE g me_X12_readHeads (pV g Q T) 22 [(0, .ref (gR g 0))] [] u0 := by
  unfold w_X12_readHeads_22 at h
  refine e_aload_n (k := 11) (i := 0) rfl rfl 0 rfl ?_
  refine e_callVv (k := 12) (q := 0) (As := []) (rest := []) rfl (c_X12_passHead (g := g) hg (n := n) h) m_X12_passHead i_X12_passHead l_X12_247 rfl ⟨_, rfl, rfl⟩ rfl rfl (Nat.le_of_ble_eq_true rfl) ⟨by decide, by decide, rfl, rfl⟩ (fun _ h => ⟨fun _ z => (by cases z), Or.inr ⟨rfl, h⟩⟩) (fun u1 h => ?_)
  refine e_aload_n (k := 13) (i := 0) rfl rfl 0 rfl ?_
  refine e_aload_n (k := 14) (i := 0) rfl rfl 0 rfl ?_
  refine e_iconst (k := 15) (v := (1 : Int32)) rfl (by decide) ?_
  refine e_sipush (k := 16) (v := (9999 : Int32)) rfl (by decide) ?_
  refine e_aload_n (k := 17) (i := 0) rfl rfl 0 rfl ?_
  refine e_getI (k := 18) rfl f_X12_138 rfl rfl ?_
  refine e_callVi (k := 19) (q := 0) (As := [.int (1 : Int32), .int (9999 : Int32), .int (u1.1 0 7)]) (rest := [.ref (gR g 0)]) rfl (c_X12_numberOf (g := g) hg (n := n) h) m_X12_numberOf i_X12_numberOf l_X12_207 rfl ⟨_, rfl, rfl⟩ rfl rfl (Nat.le_of_ble_eq_true rfl) ⟨by decide, by decide, rfl, rfl⟩ (fun _ h => ⟨fun _ z => (by cases z), Or.inr ⟨rfl, h⟩⟩) (fun r1 u2 h => ?_)
  refine e_putI (k := 20) rfl fg_X12_250 rfl rfl ?_
  refine e_mlet h (fun u3 h => ?_)
  refine e_aload_n (k := 21) (i := 0) rfl rfl 0 rfl ?_
  refine e_callVv (k := 22) (q := 0) (As := []) (rest := []) rfl (c_X12_endLine (g := g) hg (n := n) h) m_X12_endLine i_X12_endLine l_X12_253 rfl ⟨_, rfl, rfl⟩ rfl rfl (Nat.le_of_ble_eq_true rfl) ⟨by decide, by decide, rfl, rfl⟩ (fun _ h => ⟨fun _ z => (by cases z), Or.inr ⟨rfl, h⟩⟩) (fun u4 h => ?_)
  refine e_aload_n (k := 23) (i := 0) rfl rfl 0 rfl ?_
  refine e_iconst (k := 24) (v := (0 : Int32)) rfl (by decide) ?_
  refine e_putI (k := 25) rfl fg_X12_256 rfl rfl ?_
  refine e_mlet h (fun u5 h => ?_)
  refine e_aload_n (k := 26) (i := 0) rfl rfl 0 rfl ?_
  refine e_callVv (k := 27) (q := 0) (As := []) (rest := []) rfl (c_X12_beginLine (g := g) hg (n := n) h) m_X12_beginLine i_X12_beginLine l_X12_152 rfl ⟨_, rfl, rfl⟩ rfl rfl (Nat.le_of_ble_eq_true rfl) ⟨by decide, by decide, rfl, rfl⟩ (fun _ h => ⟨fun _ z => (by cases z), Or.inr ⟨rfl, h⟩⟩) (fun u6 h => ?_)
  refine e_aload_n (k := 28) (i := 0) rfl rfl 0 rfl ?_
  refine e_bipush (k := 29) (v := (84 : Int32)) rfl (by decide) ?_
  refine e_callVi (k := 30) (q := 0) (As := [.int (84 : Int32)]) (rest := []) rfl (c_X12_isHead (g := g) hg (n := n) h) m_X12_isHead i_X12_isHead l_X12_244 rfl ⟨_, rfl, rfl⟩ rfl rfl (Nat.le_of_ble_eq_true rfl) ⟨by decide, by decide, rfl, rfl⟩ (fun _ h => ⟨fun _ z => (by cases z), Or.inr ⟨rfl, h⟩⟩) (fun r2 u7 h => ?_)
  refine e_if_ne (k := 31) (tgt := 73) rfl (by decide) (fun z => ?_) (fun z => ?_)
  · have h := h.1 z
    exact s_X12_readHeads_73 hg n u7 h
  · have h := h.2 z
    refine e_aload_n (k := 32) (i := 0) rfl rfl 0 rfl ?_
    refine e_iconst (k := 33) (v := (1 : Int32)) rfl (by decide) ?_
    refine e_aload_n (k := 34) (i := 0) rfl rfl 0 rfl ?_
    refine e_getI (k := 35) rfl f_X12_138 rfl rfl ?_
    refine e_callVv (k := 36) (q := 0) (As := [.int (1 : Int32), .int (u7.1 0 7)]) (rest := []) rfl (c_X12_fail (g := g) hg (n := n) h) m_X12_fail i_X12_fail l_X12_148 rfl ⟨_, rfl, rfl⟩ rfl rfl (Nat.le_of_ble_eq_true rfl) ⟨by decide, by decide, rfl, rfl⟩ (fun _ h => ⟨fun _ z => (by cases z), Or.inr ⟨rfl, h⟩⟩) (fun u8 h => ?_)
    exact s_X12_readHeads_73 hg n u8 h
set_option maxRecDepth 20000 in
theorem c_X12_readHeads {g : Gb} (hg : xInj g) {n : Nat} {u0 : Mm} {Q : Mm → Prop} {T : Mm → Prop} (h : w_X12_readHeads n u0 Q T) : xMet (gL g) yX12_readHeads (xws yX12_readHeads cX12_readHeads 4 none) (xRoom 6) (xPc g [.ref (gR g 0)] u0) (xQ g (pV g Q T)) (xA g) := by
  refine xbody (il := il_X12_readHeads) hg il_X12_readHeads_ok m_X12_readHeads (Nat.le_of_ble_eq_true rfl) ?_
  show xE g me_X12_readHeads (pV g Q T) 0 [(0, .ref (gR g 0))] [] u0
  unfold w_X12_readHeads at h
  refine e_aload_n (k := 0) (i := 0) rfl rfl 0 rfl ?_
  refine e_callVv (k := 1) (q := 0) (As := []) (rest := []) rfl (c_X12_beginLine (g := g) hg (n := n) h) m_X12_beginLine i_X12_beginLine l_X12_152 rfl ⟨_, rfl, rfl⟩ rfl rfl (Nat.le_of_ble_eq_true rfl) ⟨by decide, by decide, rfl, rfl⟩ (fun _ h => ⟨fun _ z => (by cases z), Or.inr ⟨rfl, h⟩⟩) (fun u1 h => ?_)
  refine e_aload_n (k := 2) (i := 0) rfl rfl 0 rfl ?_
  refine e_bipush (k := 3) (v := (88 : Int32)) rfl (by decide) ?_
  refine e_callVi (k := 4) (q := 0) (As := [.int (88 : Int32)]) (rest := []) rfl (c_X12_isHead (g := g) hg (n := n) h) m_X12_isHead i_X12_isHead l_X12_244 rfl ⟨_, rfl, rfl⟩ rfl rfl (Nat.le_of_ble_eq_true rfl) ⟨by decide, by decide, rfl, rfl⟩ (fun _ h => ⟨fun _ z => (by cases z), Or.inr ⟨rfl, h⟩⟩) (fun r1 u2 h => ?_)
  refine e_if_ne (k := 5) (tgt := 22) rfl (by decide) (fun z => ?_) (fun z => ?_)
  · have h := h.1 z
    exact s_X12_readHeads_22 hg h
  · have h := h.2 z
    refine e_aload_n (k := 6) (i := 0) rfl rfl 0 rfl ?_
    refine e_iconst (k := 7) (v := (1 : Int32)) rfl (by decide) ?_
    refine e_aload_n (k := 8) (i := 0) rfl rfl 0 rfl ?_
    refine e_getI (k := 9) rfl f_X12_138 rfl rfl ?_
    refine e_callVv (k := 10) (q := 0) (As := [.int (1 : Int32), .int (u2.1 0 7)]) (rest := []) rfl (c_X12_fail (g := g) hg (n := n) h) m_X12_fail i_X12_fail l_X12_148 rfl ⟨_, rfl, rfl⟩ rfl rfl (Nat.le_of_ble_eq_true rfl) ⟨by decide, by decide, rfl, rfl⟩ (fun _ h => ⟨fun _ z => (by cases z), Or.inr ⟨rfl, h⟩⟩) (fun u3 h => ?_)
    exact s_X12_readHeads_22 hg h
