/-! methods (by program) -/
def il_X8_mark : List (Nat × Instr × Nat) := [(0, .aload_n 0, 1), (1, .iload_n 1, 1), (2, .iload_n 2, 1), (3, .iload_n 3, 1), (4, .invokevirtual 74, 3), (7, .istore 5, 2), (9, .iload 5, 2), (11, .ifCond .lt 26, 3), (14, .iload 5, 2), (16, .bipush 84, 2), (18, .if_icmp .ge 19, 3), (21, .aload_n 0, 1), (22, .getfield 18, 3), (25, .iload 5, 2), (27, .iload 4, 2), (29, .iconst 3, 1), (30, .iadd, 1), (31, .iastore, 1), (32, .aload_n 0, 1), (33, .iconst 1, 1), (34, .putfield 46, 3), (37, .return_, 1)]
set_option maxRecDepth 20000 in
theorem il_X8_mark_ok : ∀ x ∈ il_X8_mark, decode cX8_mark x.1 = .ok x.2 := by decide +kernel
abbrev me_X8_mark : Me := (RX8, il_X8_mark, 6, none, xRoom 2, [])
def w_X8_mark_37 (n : Nat) (q : Nat) (u0 : Mm) (Q : Mm → Prop) : Prop :=
  Q u0
def w_X8_mark (n : Nat) (q : Nat) (a0 : Int32) (a1 : Int32) (a2 : Int32) (a3 : Int32) (u0 : Mm) (Q : Mm → Prop) : Prop :=
  w_X8_markPlace n q a0 a1 a2 u0 (fun r1 u1 =>
  (r1 < 0 → w_X8_mark_37 n q u1 Q) ∧
  (¬ r1 < 0 → ((84 : Int32) ≤ r1 → w_X8_mark_37 n q u1 Q) ∧
  (¬ (84 : Int32) ≤ r1 → vp_in r1 84 ∧ (mlet (setI u1 (q + 9) (ix r1) (a3 + (3 : Int32))) fun u2 =>
  mlet (setI u2 q 3 (1 : Int32)) fun u3 =>
  w_X8_mark_37 n q u3 Q))))
set_option maxRecDepth 20000 in
theorem s_X8_mark_37 {g : Gb} (hg : xInj g) {n : Nat} {q : Nat} (hq : xlay q = (0, 7, 0)) {Q : Mm → Prop} {u0 : Mm} (h : w_X8_mark_37 n q  u0 Q) : xE g me_X8_mark (pV g Q noT) 37 [] [] u0 := by
  unfold w_X8_mark_37 at h
  exact e_vret (k := 21) rfl rfl (Or.inl ⟨rfl, h⟩)
set_option maxRecDepth 20000 in
theorem c_X8_mark {g : Gb} (hg : xInj g) {n : Nat} {q : Nat} {a0 : Int32} {a1 : Int32} {a2 : Int32} {a3 : Int32} (hq : xlay q = (0, 7, 0)) {u0 : Mm} {Q : Mm → Prop} (h : w_X8_mark n q a0 a1 a2 a3 u0 Q) : xMet (gL g) yX8_mark (xws yX8_mark cX8_mark 6 none) (xRoom 2) (xPc g [.ref (gR g q), .int a0, .int a1, .int a2, .int a3] u0) (xQ g (pV g Q noT)) (xA g) := by
  refine xbody (il := il_X8_mark) hg il_X8_mark_ok m_X8_mark (Nat.le_of_ble_eq_true rfl) ?_
  show xE g me_X8_mark (pV g Q noT) 0 [(0, .ref (gR g q)), (1, .int a0), (2, .int a1), (3, .int a2), (4, .int a3)] [] u0
  unfold w_X8_mark at h
  refine e_aload_n (k := 0) (i := 0) rfl rfl 0 rfl ?_
  refine e_iload_n (k := 1) (i := 1) rfl rfl 1 rfl ?_
  refine e_iload_n (k := 2) (i := 2) rfl rfl 2 rfl ?_
  refine e_iload_n (k := 3) (i := 3) rfl rfl 3 rfl ?_
  refine e_callVi (k := 4) (q := q) (As := [.int a0, .int a1, .int a2]) (rest := []) rfl (c_X8_markPlace (g := g) hg (n := n) hq h) m_X8_markPlace i_X8_markPlace l_X8_74 hq ⟨_, rfl, rfl⟩ rfl rfl (Nat.le_of_ble_eq_true rfl) ⟨by decide, by decide, rfl, rfl⟩ (fun _ h => h.elim) (fun r1 u1 h => ?_)
  refine e_istore (k := 5) (i := 5) (lv' := [(0, .ref (gR g q)), (1, .int a0), (2, .int a1), (3, .int a2), (4, .int a3), (5, .int r1)]) rfl (by decide) [1, 2, 3, 4, 5, 0] rfl ?_
  refine e_iload (k := 6) (i := 5) rfl 5 rfl ?_
  refine e_if_lt (k := 7) (tgt := 37) rfl (by decide) (fun z => ?_) (fun z => ?_)
  · have h := h.1 z
    refine e_sub (lv' := []) [] rfl ?_
    exact s_X8_mark_37 hg hq h
  · have h := h.2 z
    refine e_iload (k := 8) (i := 5) rfl 5 rfl ?_
    refine e_bipush (k := 9) (v := (84 : Int32)) rfl (by decide) ?_
    refine e_icmp_ge (k := 10) (tgt := 37) rfl (by decide) (fun z => ?_) (fun z => ?_)
    · have h := h.1 z
      refine e_sub (lv' := []) [] rfl ?_
      exact s_X8_mark_37 hg hq h
    · have h := h.2 z
      refine e_aload_n (k := 11) (i := 0) rfl rfl 0 rfl ?_
      refine e_getR (k := 12) rfl f_X8_18 hq rfl ?_
      refine e_iload (k := 13) (i := 5) rfl 5 rfl ?_
      refine e_iload (k := 14) (i := 4) rfl 4 rfl ?_
      refine e_iconst (k := 15) (v := (3 : Int32)) rfl (by decide) ?_
      refine e_iadd (k := 16) rfl ?_
      refine e_iast (k := 17) rfl (xlayV hq).2.2 h.1 ?_
      have h := h.2
      refine e_mlet h (fun u2 h => ?_)
      refine e_aload_n (k := 18) (i := 0) rfl rfl 0 rfl ?_
      refine e_iconst (k := 19) (v := (1 : Int32)) rfl (by decide) ?_
      refine e_putZ (k := 20) rfl fg_X8_46 hq rfl (Or.inr rfl) ?_
      refine e_mlet h (fun u3 h => ?_)
      refine e_sub (lv' := []) [] rfl ?_
      exact s_X8_mark_37 hg hq h
def il_X8_signOf : List (Nat × Instr × Nat) := [(0, .aload_n 0, 1), (1, .iload_n 1, 1), (2, .iload_n 2, 1), (3, .iload_n 3, 1), (4, .invokevirtual 74, 3), (7, .istore 4, 2), (9, .iload 4, 2), (11, .ifCond .lt 30, 3), (14, .iload 4, 2), (16, .bipush 84, 2), (18, .if_icmp .ge 23, 3), (21, .aload_n 0, 1), (22, .getfield 18, 3), (25, .iload 4, 2), (27, .iaload, 1), (28, .ifCond .eq 13, 3), (31, .aload_n 0, 1), (32, .getfield 18, 3), (35, .iload 4, 2), (37, .iaload, 1), (38, .iconst 3, 1), (39, .isub, 1), (40, .ireturn, 1), (41, .iload_n 2, 1), (42, .ifCond .lt 17, 3), (45, .iload_n 2, 1), (46, .bipush 7, 2), (48, .if_icmp .ge 11, 3), (51, .getstatic 78, 3), (54, .iload_n 2, 1), (55, .iaload, 1), (56, .goto 4, 3), (59, .iconst 0, 1), (60, .istore 5, 2), (62, .aload_n 0, 1), (63, .getfield 34, 3), (66, .iload 5, 2), (68, .if_icmp .le 5, 3), (71, .iconst 1, 1), (72, .ireturn, 1), (73, .aload_n 0, 1), (74, .getfield 34, 3), (77, .ineg, 1), (78, .bipush 6, 2), (80, .iload 5, 2), (82, .isub, 1), (83, .if_icmp .le 7, 3), (86, .iconst (-1), 1), (87, .goto 4, 3), (90, .iconst 0, 1), (91, .ireturn, 1)]
set_option maxRecDepth 20000 in
theorem il_X8_signOf_ok : ∀ x ∈ il_X8_signOf, decode cX8_signOf x.1 = .ok x.2 := by decide +kernel
abbrev me_X8_signOf : Me := (RX8, il_X8_signOf, 6, (some .int), xRoom 2, [])
def w_X8_signOf_91 (n : Nat) (q : Nat) (t0 : Int32) (u0 : Mm) (Q : Int32 → Mm → Prop) : Prop :=
  Q t0 u0
def w_X8_signOf_60 (n : Nat) (q : Nat) (t0 : Int32) (u0 : Mm) (Q : Int32 → Mm → Prop) : Prop :=
  ((u0.1 q 7) ≤ t0 → ((-(u0.1 q 7)) ≤ ((6 : Int32) - t0) → w_X8_signOf_91 n q (0 : Int32) u0 Q) ∧
  (¬ (-(u0.1 q 7)) ≤ ((6 : Int32) - t0) → w_X8_signOf_91 n q (-1 : Int32) u0 Q)) ∧
  (¬ (u0.1 q 7) ≤ t0 → Q (1 : Int32) u0)
def w_X8_signOf_59 (n : Nat) (q : Nat) (u0 : Mm) (Q : Int32 → Mm → Prop) : Prop :=
  w_X8_signOf_60 n q (0 : Int32) u0 Q
def w_X8_signOf_41 (n : Nat) (q : Nat) (x2 : Int32) (u0 : Mm) (Q : Int32 → Mm → Prop) : Prop :=
  (x2 < 0 → w_X8_signOf_59 n q u0 Q) ∧
  (¬ x2 < 0 → ((7 : Int32) ≤ x2 → w_X8_signOf_59 n q u0 Q) ∧
  (¬ (7 : Int32) ≤ x2 → vp_in x2 7 ∧ (w_X8_signOf_60 n q (xf1 (ix x2)) u0 Q)))
def w_X8_signOf (n : Nat) (q : Nat) (a0 : Int32) (a1 : Int32) (a2 : Int32) (u0 : Mm) (Q : Int32 → Mm → Prop) : Prop :=
  w_X8_markPlace n q a0 a1 a2 u0 (fun r1 u1 =>
  (r1 < 0 → w_X8_signOf_41 n q a1 u1 Q) ∧
  (¬ r1 < 0 → ((84 : Int32) ≤ r1 → w_X8_signOf_41 n q a1 u1 Q) ∧
  (¬ (84 : Int32) ≤ r1 → vp_in r1 84 ∧ (((u1.1 (q + 9) (ix r1)) = 0 → w_X8_signOf_41 n q a1 u1 Q) ∧
  (¬ (u1.1 (q + 9) (ix r1)) = 0 → vp_in r1 84 ∧ (Q ((u1.1 (q + 9) (ix r1)) - (3 : Int32)) u1))))))
set_option maxRecDepth 20000 in
theorem s_X8_signOf_91 {g : Gb} (hg : xInj g) {n : Nat} {q : Nat} (hq : xlay q = (0, 7, 0)) {Q : Int32 → Mm → Prop} {t0 : Int32} {u0 : Mm} (h : w_X8_signOf_91 n q t0 u0 Q) : xE g me_X8_signOf (pI g Q noT) 91 [] [.int t0] u0 := by
  unfold w_X8_signOf_91 at h
  exact e_iret (k := 50) rfl rfl (Or.inl ⟨_, rfl, h⟩)
set_option maxRecDepth 20000 in
theorem s_X8_signOf_60 {g : Gb} (hg : xInj g) {n : Nat} {q : Nat} (hq : xlay q = (0, 7, 0)) {Q : Int32 → Mm → Prop} {t0 : Int32} {u0 : Mm} (h : w_X8_signOf_60 n q t0 u0 Q) : xE g me_X8_signOf (pI g Q noT) 60 [(0, .ref (gR g q))] [.int t0] u0 := by
  unfold w_X8_signOf_60 at h
  refine e_istore (k := 33) (i := 5) (lv' := [(0, .ref (gR g q)), (5, .int t0)]) rfl (by decide) [1, 0] rfl ?_
  refine e_aload_n (k := 34) (i := 0) rfl rfl 0 rfl ?_
  refine e_getI (k := 35) rfl f_X8_34 hq rfl ?_
  refine e_iload (k := 36) (i := 5) rfl 1 rfl ?_
  refine e_icmp_le (k := 37) (tgt := 73) rfl (by decide) (fun z => ?_) (fun z => ?_)
  · have h := h.1 z
    refine e_aload_n (k := 40) (i := 0) rfl rfl 0 rfl ?_
    refine e_getI (k := 41) rfl f_X8_34 hq rfl ?_
    refine e_ineg (k := 42) rfl ?_
    refine e_bipush (k := 43) (v := (6 : Int32)) rfl (by decide) ?_
    refine e_iload (k := 44) (i := 5) rfl 1 rfl ?_
    refine e_isub (k := 45) rfl ?_
    refine e_icmp_le (k := 46) (tgt := 90) rfl (by decide) (fun z => ?_) (fun z => ?_)
    · have h := h.1 z
      refine e_iconst (k := 49) (v := (0 : Int32)) rfl (by decide) ?_
      refine e_sub (lv' := []) [] rfl ?_
      exact s_X8_signOf_91 hg hq h
    · have h := h.2 z
      refine e_iconst (k := 47) (v := (-1 : Int32)) rfl (by decide) ?_
      refine e_goto (k := 48) (tgt := 91) rfl (by decide) ?_
      refine e_sub (lv' := []) [] rfl ?_
      exact s_X8_signOf_91 hg hq h
  · have h := h.2 z
    refine e_iconst (k := 38) (v := (1 : Int32)) rfl (by decide) ?_
    exact e_iret (k := 39) rfl rfl (Or.inl ⟨_, rfl, h⟩)
set_option maxRecDepth 20000 in
theorem s_X8_signOf_59 {g : Gb} (hg : xInj g) {n : Nat} {q : Nat} (hq : xlay q = (0, 7, 0)) {Q : Int32 → Mm → Prop} {u0 : Mm} (h : w_X8_signOf_59 n q  u0 Q) : xE g me_X8_signOf (pI g Q noT) 59 [(0, .ref (gR g q))] [] u0 := by
  unfold w_X8_signOf_59 at h
  refine e_iconst (k := 32) (v := (0 : Int32)) rfl (by decide) ?_
  exact s_X8_signOf_60 hg hq h
set_option maxRecDepth 20000 in
theorem s_X8_signOf_41 {g : Gb} (hg : xInj g) {n : Nat} {q : Nat} (hq : xlay q = (0, 7, 0)) {Q : Int32 → Mm → Prop} {x2 : Int32} {u0 : Mm} (h : w_X8_signOf_41 n q x2 u0 Q) : xE g me_X8_signOf (pI g Q noT) 41 [(0, .ref (gR g q)), (2, .int x2)] [] u0 := by
  unfold w_X8_signOf_41 at h
  refine e_iload_n (k := 23) (i := 2) rfl rfl 1 rfl ?_
  refine e_if_lt (k := 24) (tgt := 59) rfl (by decide) (fun z => ?_) (fun z => ?_)
  · have h := h.1 z
    refine e_sub (lv' := [(0, .ref (gR g q))]) [0] rfl ?_
    exact s_X8_signOf_59 hg hq h
  · have h := h.2 z
    refine e_iload_n (k := 25) (i := 2) rfl rfl 1 rfl ?_
    refine e_bipush (k := 26) (v := (7 : Int32)) rfl (by decide) ?_
    refine e_icmp_ge (k := 27) (tgt := 59) rfl (by decide) (fun z => ?_) (fun z => ?_)
    · have h := h.1 z
      refine e_sub (lv' := [(0, .ref (gR g q))]) [0] rfl ?_
      exact s_X8_signOf_59 hg hq h
    · have h := h.2 z
      refine e_st1 (k := 28) rfl fz_X8_78 ?_
      refine e_iload_n (k := 29) (i := 2) rfl rfl 1 rfl ?_
      refine e_st1ld (k := 30) rfl h.1 ?_
      have h := h.2
      refine e_goto (k := 31) (tgt := 60) rfl (by decide) ?_
      refine e_sub (lv' := [(0, .ref (gR g q))]) [0] rfl ?_
      exact s_X8_signOf_60 hg hq h
set_option maxRecDepth 20000 in
theorem c_X8_signOf {g : Gb} (hg : xInj g) {n : Nat} {q : Nat} {a0 : Int32} {a1 : Int32} {a2 : Int32} (hq : xlay q = (0, 7, 0)) {u0 : Mm} {Q : Int32 → Mm → Prop} (h : w_X8_signOf n q a0 a1 a2 u0 Q) : xMet (gL g) yX8_signOf (xws yX8_signOf cX8_signOf 6 (some .int)) (xRoom 2) (xPc g [.ref (gR g q), .int a0, .int a1, .int a2] u0) (xQ g (pI g Q noT)) (xA g) := by
  refine xbody (il := il_X8_signOf) hg il_X8_signOf_ok m_X8_signOf (Nat.le_of_ble_eq_true rfl) ?_
  show xE g me_X8_signOf (pI g Q noT) 0 [(0, .ref (gR g q)), (1, .int a0), (2, .int a1), (3, .int a2)] [] u0
  unfold w_X8_signOf at h
  refine e_aload_n (k := 0) (i := 0) rfl rfl 0 rfl ?_
  refine e_iload_n (k := 1) (i := 1) rfl rfl 1 rfl ?_
  refine e_iload_n (k := 2) (i := 2) rfl rfl 2 rfl ?_
  refine e_iload_n (k := 3) (i := 3) rfl rfl 3 rfl ?_
  refine e_callVi (k := 4) (q := q) (As := [.int a0, .int a1, .int a2]) (rest := []) rfl (c_X8_markPlace (g := g) hg (n := n) hq h) m_X8_markPlace i_X8_markPlace l_X8_74 hq ⟨_, rfl, rfl⟩ rfl rfl (Nat.le_of_ble_eq_true rfl) ⟨by decide, by decide, rfl, rfl⟩ (fun _ h => h.elim) (fun r1 u1 h => ?_)
  refine e_istore (k := 5) (i := 4) (lv' := [(0, .ref (gR g q)), (1, .int a0), (2, .int a1), (3, .int a2), (4, .int r1)]) rfl (by decide) [1, 2, 3, 4, 0] rfl ?_
  refine e_iload (k := 6) (i := 4) rfl 4 rfl ?_
  refine e_if_lt (k := 7) (tgt := 41) rfl (by decide) (fun z => ?_) (fun z => ?_)
  · have h := h.1 z
    refine e_sub (lv' := [(0, .ref (gR g q)), (2, .int a1)]) [0, 2] rfl ?_
    exact s_X8_signOf_41 hg hq h
  · have h := h.2 z
    refine e_iload (k := 8) (i := 4) rfl 4 rfl ?_
    refine e_bipush (k := 9) (v := (84 : Int32)) rfl (by decide) ?_
    refine e_icmp_ge (k := 10) (tgt := 41) rfl (by decide) (fun z => ?_) (fun z => ?_)
    · have h := h.1 z
      refine e_sub (lv' := [(0, .ref (gR g q)), (2, .int a1)]) [0, 2] rfl ?_
      exact s_X8_signOf_41 hg hq h
    · have h := h.2 z
      refine e_aload_n (k := 11) (i := 0) rfl rfl 0 rfl ?_
      refine e_getR (k := 12) rfl f_X8_18 hq rfl ?_
      refine e_iload (k := 13) (i := 4) rfl 4 rfl ?_
      refine e_iald (k := 14) rfl (xlayV hq).2.2 h.1 ?_
      have h := h.2
      refine e_if_eq (k := 15) (tgt := 41) rfl (by decide) (fun z => ?_) (fun z => ?_)
      · have h := h.1 z
        refine e_sub (lv' := [(0, .ref (gR g q)), (2, .int a1)]) [0, 2] rfl ?_
        exact s_X8_signOf_41 hg hq h
      · have h := h.2 z
        refine e_aload_n (k := 16) (i := 0) rfl rfl 0 rfl ?_
        refine e_getR (k := 17) rfl f_X8_18 hq rfl ?_
        refine e_iload (k := 18) (i := 4) rfl 4 rfl ?_
        refine e_iald (k := 19) rfl (xlayV hq).2.2 h.1 ?_
        have h := h.2
        refine e_iconst (k := 20) (v := (3 : Int32)) rfl (by decide) ?_
        refine e_isub (k := 21) rfl ?_
        exact e_iret (k := 22) rfl rfl (Or.inl ⟨_, rfl, h⟩)
def il_X9_putDecimal : List (Nat × Instr × Nat) := [(0, .iload_n 1, 1), (1, .bipush 9, 2), (3, .if_icmp .le 14, 3), (6, .aload_n 0, 1), (7, .bipush 48, 2), (9, .iload_n 1, 1), (10, .bipush 10, 2), (12, .idiv, 1), (13, .iadd, 1), (14, .invokevirtual 43, 3), (17, .aload_n 0, 1), (18, .bipush 48, 2), (20, .iload_n 1, 1), (21, .bipush 10, 2), (23, .irem, 1), (24, .iadd, 1), (25, .invokevirtual 43, 3), (28, .return_, 1)]
set_option maxRecDepth 20000 in
theorem il_X9_putDecimal_ok : ∀ x ∈ il_X9_putDecimal, decode cX9_putDecimal x.1 = .ok x.2 := by decide +kernel
abbrev me_X9_putDecimal : Me := (RX9, il_X9_putDecimal, 2, none, xRoom 2, [])
def w_X9_putDecimal_17 (n : Nat) (x1 : Int32) (u0 : Mm) (Q : Mm → Prop) : Prop :=
  w_X9_put n ((48 : Int32) + (x1 - x1 / (10 : Int32) * (10 : Int32))) u0 (fun u1 =>
  Q u1)
def w_X9_putDecimal (n : Nat) (a0 : Int32) (u0 : Mm) (Q : Mm → Prop) : Prop :=
  (a0 ≤ (9 : Int32) → w_X9_putDecimal_17 n a0 u0 Q) ∧
  (¬ a0 ≤ (9 : Int32) → w_X9_put n ((48 : Int32) + (a0 / (10 : Int32))) u0 (fun u1 =>
  w_X9_putDecimal_17 n a0 u1 Q))
set_option maxRecDepth 20000 in
theorem s_X9_putDecimal_17 {g : Gb} (hg : xInj g) {n : Nat} {Q : Mm → Prop} {x1 : Int32} {u0 : Mm} (h : w_X9_putDecimal_17 n x1 u0 Q) : xE g me_X9_putDecimal (pV g Q noT) 17 [(0, .ref (gR g 40)), (1, .int x1)] [] u0 := by
  unfold w_X9_putDecimal_17 at h
  refine e_aload_n (k := 10) (i := 0) rfl rfl 0 rfl ?_
  refine e_bipush (k := 11) (v := (48 : Int32)) rfl (by decide) ?_
  refine e_iload_n (k := 12) (i := 1) rfl rfl 1 rfl ?_
  refine e_bipush (k := 13) (v := (10 : Int32)) rfl (by decide) ?_
  refine e_irem (k := 14) rfl (by decide) ?_
  refine e_iadd (k := 15) rfl ?_
  refine e_callVv (k := 16) (q := 40) (As := [.int ((48 : Int32) + (x1 - x1 / (10 : Int32) * (10 : Int32)))]) (rest := []) rfl (c_X9_put (g := g) hg (n := n) h) m_X9_put i_X9_put l_X9_43 rfl ⟨_, rfl, rfl⟩ rfl rfl (Nat.le_of_ble_eq_true rfl) ⟨by decide, by decide, rfl, rfl⟩ (fun _ h => h.elim) (fun u1 h => ?_)
  exact e_vret (k := 17) rfl rfl (Or.inl ⟨rfl, h⟩)
set_option maxRecDepth 20000 in
theorem c_X9_putDecimal {g : Gb} (hg : xInj g) {n : Nat} {a0 : Int32} {u0 : Mm} {Q : Mm → Prop} (h : w_X9_putDecimal n a0 u0 Q) : xMet (gL g) yX9_putDecimal (xws yX9_putDecimal cX9_putDecimal 2 none) (xRoom 2) (xPc g [.ref (gR g 40), .int a0] u0) (xQ g (pV g Q noT)) (xA g) := by
  refine xbody (il := il_X9_putDecimal) hg il_X9_putDecimal_ok m_X9_putDecimal (Nat.le_of_ble_eq_true rfl) ?_
  show xE g me_X9_putDecimal (pV g Q noT) 0 [(0, .ref (gR g 40)), (1, .int a0)] [] u0
  unfold w_X9_putDecimal at h
  refine e_iload_n (k := 0) (i := 1) rfl rfl 1 rfl ?_
  refine e_bipush (k := 1) (v := (9 : Int32)) rfl (by decide) ?_
  refine e_icmp_le (k := 2) (tgt := 17) rfl (by decide) (fun z => ?_) (fun z => ?_)
  · have h := h.1 z
    exact s_X9_putDecimal_17 hg h
  · have h := h.2 z
    refine e_aload_n (k := 3) (i := 0) rfl rfl 0 rfl ?_
    refine e_bipush (k := 4) (v := (48 : Int32)) rfl (by decide) ?_
    refine e_iload_n (k := 5) (i := 1) rfl rfl 1 rfl ?_
    refine e_bipush (k := 6) (v := (10 : Int32)) rfl (by decide) ?_
    refine e_idiv (k := 7) rfl (by decide) ?_
    refine e_iadd (k := 8) rfl ?_
    refine e_callVv (k := 9) (q := 40) (As := [.int ((48 : Int32) + (a0 / (10 : Int32)))]) (rest := []) rfl (c_X9_put (g := g) hg (n := n) h) m_X9_put i_X9_put l_X9_43 rfl ⟨_, rfl, rfl⟩ rfl rfl (Nat.le_of_ble_eq_true rfl) ⟨by decide, by decide, rfl, rfl⟩ (fun _ h => h.elim) (fun u1 h => ?_)
    exact s_X9_putDecimal_17 hg h
def il_X9_writeSign : List (Nat × Instr × Nat) := [(0, .iload_n 1, 1), (1, .ifCond .ne 9, 3), (4, .aload_n 0, 1), (5, .bipush 61, 2), (7, .invokevirtual 43, 3), (10, .iconst 0, 1), (11, .istore_n 2, 1), (12, .iload_n 2, 1), (13, .iload_n 1, 1), (14, .invokestatic 46, 3), (17, .if_icmp .ge 24, 3), (20, .aload_n 0, 1), (21, .iload_n 1, 1), (22, .ifCond .le 8, 3), (25, .bipush 94, 2), (27, .goto 5, 3), (30, .bipush 95, 2), (32, .invokevirtual 43, 3), (35, .iinc 2 1, 3), (38, .goto (-26), 3), (41, .return_, 1)]
set_option maxRecDepth 20000 in
theorem il_X9_writeSign_ok : ∀ x ∈ il_X9_writeSign, decode cX9_writeSign x.1 = .ok x.2 := by decide +kernel
abbrev me_X9_writeSign : Me := (RX9, il_X9_writeSign, 3, none, xRoom 2, [])
def w_X9_writeSign_32 (n : Nat) (L12 : Int32 → Int32 → Mm → Prop) (x1 : Int32) (x2 : Int32) (t0 : Int32) (u0 : Mm) (Q : Mm → Prop) : Prop :=
  w_X9_put n t0 u0 (fun u1 =>
  L12 x1 (x2 + (1 : Int32)) u1)
def w_X9_writeSign_12 (n : Nat) (Q : Mm → Prop) : Nat → Int32 → Int32 → Mm → Prop
  | 0, _, _, _ => False
  | k + 1, x1, x2, u0 =>
  ((if 0 ≤ x1 then x1 else 0 - x1) ≤ x2 → Q u0) ∧
  (¬ (if 0 ≤ x1 then x1 else 0 - x1) ≤ x2 → (x1 ≤ 0 → w_X9_writeSign_32 n (w_X9_writeSign_12 n Q k) x1 x2 (95 : Int32) u0 Q) ∧
  (¬ x1 ≤ 0 → w_X9_writeSign_32 n (w_X9_writeSign_12 n Q k) x1 x2 (94 : Int32) u0 Q))
def w_X9_writeSign_10 (n : Nat) (x1 : Int32) (u0 : Mm) (Q : Mm → Prop) : Prop :=
  (w_X9_writeSign_12 n Q n) x1 (0 : Int32) u0
def w_X9_writeSign (n : Nat) (a0 : Int32) (u0 : Mm) (Q : Mm → Prop) : Prop :=
  (¬ a0 = 0 → w_X9_writeSign_10 n a0 u0 Q) ∧
  (a0 = 0 → w_X9_put n (61 : Int32) u0 (fun u1 =>
  w_X9_writeSign_10 n a0 u1 Q))
set_option maxRecDepth 20000 in
theorem s_X9_writeSign_32 {g : Gb} (hg : xInj g) {n : Nat} {Q : Mm → Prop} {L12 : Int32 → Int32 → Mm → Prop} (hL12 : ∀ (x1 : Int32) (x2 : Int32) (u0 : Mm), L12 x1 x2 u0 → xE g me_X9_writeSign (pV g Q noT) 12 [(0, .ref (gR g 40)), (1, .int x1), (2, .int x2)] [] u0) {x1 : Int32} {x2 : Int32} {t0 : Int32} {u0 : Mm} (h : w_X9_writeSign_32 n L12 x1 x2 t0 u0 Q) : xE g me_X9_writeSign (pV g Q noT) 32 [(0, .ref (gR g 40)), (1, .int x1), (2, .int x2)] [.int t0, .ref (gR g 40)] u0 := by
  unfold w_X9_writeSign_32 at h
  refine e_callVv (k := 17) (q := 40) (As := [.int t0]) (rest := []) rfl (c_X9_put (g := g) hg (n := n) h) m_X9_put i_X9_put l_X9_43 rfl ⟨_, rfl, rfl⟩ rfl rfl (Nat.le_of_ble_eq_true rfl) ⟨by decide, by decide, rfl, rfl⟩ (fun _ h => h.elim) (fun u1 h => ?_)
  refine e_iinc (k := 18) (i := 2) (j := 2) (v := (x2 + (1 : Int32))) (lv' := [(0, .ref (gR g 40)), (1, .int x1), (2, .int (x2 + (1 : Int32)))]) rfl rfl rfl (by decide) [1, 2, 0] rfl ?_
  refine e_goto (k := 19) (tgt := 12) rfl (by decide) ?_
  exact hL12 x1 (x2 + (1 : Int32)) u1 h
set_option maxRecDepth 20000 in
theorem s_X9_writeSign_12 {g : Gb} (hg : xInj g) {n : Nat} {Q : Mm → Prop} : ∀ (k : Nat) (x1 : Int32) (x2 : Int32) (u0 : Mm), w_X9_writeSign_12 n Q k x1 x2 u0 → xE g me_X9_writeSign (pV g Q noT) 12 [(0, .ref (gR g 40)), (1, .int x1), (2, .int x2)] [] u0 := by
  intro k
  induction k with
  | zero => intro x1 x2 u0 h; exact h.elim
  | succ k ih =>
    intro x1 x2 u0 h
    unfold w_X9_writeSign_12 at h
    refine e_iload_n (k := 7) (i := 2) rfl rfl 2 rfl ?_
    refine e_iload_n (k := 8) (i := 1) rfl rfl 1 rfl ?_
    refine e_mabs (k := 9) rfl l_X9_46 st_J9_abs_0f7a4 h9_ini h9_abs (by decide) (Nat.le_of_ble_eq_true rfl) ?_
    refine e_icmp_ge (k := 10) (tgt := 41) rfl (by decide) (fun z => ?_) (fun z => ?_)
    · have h := h.1 z
      exact e_vret (k := 20) rfl rfl (Or.inl ⟨rfl, h⟩)
    · have h := h.2 z
      refine e_aload_n (k := 11) (i := 0) rfl rfl 0 rfl ?_
      refine e_iload_n (k := 12) (i := 1) rfl rfl 1 rfl ?_
      refine e_if_le (k := 13) (tgt := 30) rfl (by decide) (fun z => ?_) (fun z => ?_)
      · have h := h.1 z
        refine e_bipush (k := 16) (v := (95 : Int32)) rfl (by decide) ?_
        exact s_X9_writeSign_32 hg ih h
      · have h := h.2 z
        refine e_bipush (k := 14) (v := (94 : Int32)) rfl (by decide) ?_
        refine e_goto (k := 15) (tgt := 32) rfl (by decide) ?_
        exact s_X9_writeSign_32 hg ih h
set_option maxRecDepth 20000 in
theorem s_X9_writeSign_10 {g : Gb} (hg : xInj g) {n : Nat} {Q : Mm → Prop} {x1 : Int32} {u0 : Mm} (h : w_X9_writeSign_10 n x1 u0 Q) : xE g me_X9_writeSign (pV g Q noT) 10 [(0, .ref (gR g 40)), (1, .int x1)] [] u0 := by
  unfold w_X9_writeSign_10 at h
  refine e_iconst (k := 5) (v := (0 : Int32)) rfl (by decide) ?_
  refine e_istore_n (k := 6) (i := 2) (lv' := [(0, .ref (gR g 40)), (1, .int x1), (2, .int (0 : Int32))]) rfl rfl (by decide) [1, 2, 0] rfl ?_
  exact s_X9_writeSign_12 hg n x1 (0 : Int32) u0 h
set_option maxRecDepth 20000 in
theorem c_X9_writeSign {g : Gb} (hg : xInj g) {n : Nat} {a0 : Int32} {u0 : Mm} {Q : Mm → Prop} (h : w_X9_writeSign n a0 u0 Q) : xMet (gL g) yX9_writeSign (xws yX9_writeSign cX9_writeSign 3 none) (xRoom 2) (xPc g [.ref (gR g 40), .int a0] u0) (xQ g (pV g Q noT)) (xA g) := by
  refine xbody (il := il_X9_writeSign) hg il_X9_writeSign_ok m_X9_writeSign (Nat.le_of_ble_eq_true rfl) ?_
  show xE g me_X9_writeSign (pV g Q noT) 0 [(0, .ref (gR g 40)), (1, .int a0)] [] u0
  unfold w_X9_writeSign at h
  refine e_iload_n (k := 0) (i := 1) rfl rfl 1 rfl ?_
  refine e_if_ne (k := 1) (tgt := 10) rfl (by decide) (fun z => ?_) (fun z => ?_)
  · have h := h.1 z
    exact s_X9_writeSign_10 hg h
  · have h := h.2 z
    refine e_aload_n (k := 2) (i := 0) rfl rfl 0 rfl ?_
    refine e_bipush (k := 3) (v := (61 : Int32)) rfl (by decide) ?_
    refine e_callVv (k := 4) (q := 40) (As := [.int (61 : Int32)]) (rest := []) rfl (c_X9_put (g := g) hg (n := n) h) m_X9_put i_X9_put l_X9_43 rfl ⟨_, rfl, rfl⟩ rfl rfl (Nat.le_of_ble_eq_true rfl) ⟨by decide, by decide, rfl, rfl⟩ (fun _ h => h.elim) (fun u1 h => ?_)
    exact s_X9_writeSign_10 hg h
def il_J0_indexOf_7cf53 : List (Nat × Instr × Nat) := [(0, .aload_n 0, 1), (1, .invokevirtual 492, 3), (4, .ifCond .eq 19, 3), (7, .aload_n 0, 1), (8, .getfield 9, 3), (11, .iload_n 1, 1), (12, .iload_n 2, 1), (13, .aload_n 0, 1), (14, .invokevirtual 505, 3), (17, .invokestatic 637, 3), (20, .goto 16, 3), (23, .aload_n 0, 1), (24, .getfield 9, 3), (27, .iload_n 1, 1), (28, .iload_n 2, 1), (29, .aload_n 0, 1), (30, .invokevirtual 505, 3), (33, .invokestatic 640, 3), (36, .ireturn, 1)]
set_option maxRecDepth 20000 in
theorem il_J0_indexOf_7cf53_ok : ∀ x ∈ il_J0_indexOf_7cf53, decode cJ0_indexOf_7cf53 x.1 = .ok x.2 := by decide +kernel
abbrev me_J0_indexOf_7cf53 : Me := (RJ0, il_J0_indexOf_7cf53, 3, (some .int), xRoom 3, [])
def w_J0_indexOf_7cf53_36 (n : Nat) (q : Nat) (t0 : Int32) (u0 : Mm) (Q : Int32 → Mm → Prop) : Prop :=
  Q t0 u0
def w_J0_indexOf_7cf53 (n : Nat) (q : Nat) (a0 : Int32) (a1 : Int32) (u0 : Mm) (Q : Int32 → Mm → Prop) : Prop :=
  w_J0_isLatin1_aae02 n q u0 (fun r1 u1 =>
  (r1 = 0 → w_J0_length_8abf5 n q u1 (fun r2 u2 =>
  False)) ∧
  (¬ r1 = 0 → w_J0_length_8abf5 n q u1 (fun r3 u3 =>
  w_J1_indexOf_4cfef n q a0 a1 r3 u3 (fun r4 u4 =>
  w_J0_indexOf_7cf53_36 n q r4 u4 Q))))
set_option maxRecDepth 20000 in
theorem s_J0_indexOf_7cf53_36 {g : Gb} (hg : xInj g) {n : Nat} {q : Nat} (hq : q < xtx.length) {Q : Int32 → Mm → Prop} {t0 : Int32} {u0 : Mm} (h : w_J0_indexOf_7cf53_36 n q t0 u0 Q) : xE g me_J0_indexOf_7cf53 (pI g Q noT) 36 [] [.int t0] u0 := by
  unfold w_J0_indexOf_7cf53_36 at h
  exact e_iret (k := 18) rfl rfl (Or.inl ⟨_, rfl, h⟩)
set_option maxRecDepth 20000 in
theorem c_J0_indexOf_7cf53 {g : Gb} (hg : xInj g) {n : Nat} {q : Nat} {a0 : Int32} {a1 : Int32} (hq : q < xtx.length) {u0 : Mm} {Q : Int32 → Mm → Prop} (h : w_J0_indexOf_7cf53 n q a0 a1 u0 Q) : xMet (gL g) yJ0_indexOf_7cf53 (xws yJ0_indexOf_7cf53 cJ0_indexOf_7cf53 3 (some .int)) (xRoom 3) (xPc g [.ref (gK g q), .int a0, .int a1] u0) (xQ g (pI g Q noT)) (xA g) := by
  refine xbody (il := il_J0_indexOf_7cf53) hg il_J0_indexOf_7cf53_ok m_J0_indexOf_7cf53 (Nat.le_of_ble_eq_true rfl) ?_
  show xE g me_J0_indexOf_7cf53 (pI g Q noT) 0 [(0, .ref (gK g q)), (1, .int a0), (2, .int a1)] [] u0
  unfold w_J0_indexOf_7cf53 at h
  refine e_aload_n (k := 0) (i := 0) rfl rfl 0 rfl ?_
  refine e_callKi (k := 1) (j := q) (As := []) (rest := []) rfl (c_J0_isLatin1_aae02 (g := g) hg (n := n) hq h) m_J0_isLatin1_aae02 i_J0_isLatin1_aae02 l_J0_492 hq rfl rfl rfl (Nat.le_of_ble_eq_true rfl) ⟨by decide, by decide, rfl, rfl⟩ (fun r1 u1 h => ?_)
  refine e_if_eq (k := 2) (tgt := 23) rfl (by decide) (fun z => ?_) (fun z => ?_)
  · have h := h.1 z
    refine e_aload_n (k := 11) (i := 0) rfl rfl 0 rfl ?_
    refine e_strV (k := 12) rfl fs_J0_9 hq ?_
    refine e_iload_n (k := 13) (i := 1) rfl rfl 1 rfl ?_
    refine e_iload_n (k := 14) (i := 2) rfl rfl 2 rfl ?_
    refine e_aload_n (k := 15) (i := 0) rfl rfl 0 rfl ?_
    refine e_callKi (k := 16) (j := q) (As := []) (rest := [.int a1, .int a0, .ref (gV g q)]) rfl (c_J0_length_8abf5 (g := g) hg (n := n) hq h) m_J0_length_8abf5 i_J0_length_8abf5 l_J0_505 hq rfl rfl rfl (Nat.le_of_ble_eq_true rfl) ⟨by decide, by decide, rfl, rfl⟩ (fun r2 u2 h => ?_)
    exact h.elim
  · have h := h.2 z
    refine e_aload_n (k := 3) (i := 0) rfl rfl 0 rfl ?_
    refine e_strV (k := 4) rfl fs_J0_9 hq ?_
    refine e_iload_n (k := 5) (i := 1) rfl rfl 1 rfl ?_
    refine e_iload_n (k := 6) (i := 2) rfl rfl 2 rfl ?_
    refine e_aload_n (k := 7) (i := 0) rfl rfl 0 rfl ?_
    refine e_callKi (k := 8) (j := q) (As := []) (rest := [.int a1, .int a0, .ref (gV g q)]) rfl (c_J0_length_8abf5 (g := g) hg (n := n) hq h) m_J0_length_8abf5 i_J0_length_8abf5 l_J0_505 hq rfl rfl rfl (Nat.le_of_ble_eq_true rfl) ⟨by decide, by decide, rfl, rfl⟩ (fun r3 u3 h => ?_)
    refine e_callSi (k := 9) (As := [.ref (gV g q), .int a0, .int a1, .int r3]) (rest := []) rfl (c_J1_indexOf_4cfef (g := g) hg (n := n) hq h) m_J1_indexOf_4cfef st_J1_indexOf_4cfef l_J0_637 rfl rfl (Nat.le_of_ble_eq_true rfl) ⟨by decide, by decide, rfl, rfl⟩ (fun _ h => h.elim) (fun r4 u4 h => ?_)
    refine e_goto (k := 10) (tgt := 36) rfl (by decide) ?_
    refine e_sub (lv' := []) [] rfl ?_
    exact s_J0_indexOf_7cf53_36 hg hq h
def il_J1_charAt_3b067 : List (Nat × Instr × Nat) := [(0, .iload_n 1, 1), (1, .aload_n 0, 1), (2, .arraylength, 1), (3, .invokestatic 9, 3), (6, .aload_n 0, 1), (7, .iload_n 1, 1), (8, .baload, 1), (9, .sipush 255, 3), (12, .iand, 1), (13, .i2c, 1), (14, .ireturn, 1)]
set_option maxRecDepth 20000 in
theorem il_J1_charAt_3b067_ok : ∀ x ∈ il_J1_charAt_3b067, decode cJ1_charAt_3b067 x.1 = .ok x.2 := by decide +kernel
abbrev me_J1_charAt_3b067 : Me := (RJ1, il_J1_charAt_3b067, 2, (some .char), xRoom 3, [])
def w_J1_charAt_3b067 (n : Nat) (a0 : Nat) (a1 : Int32) (u0 : Mm) (Q : Int32 → Mm → Prop) : Prop :=
  w_J0_checkIndex_df160 n a1 (Int32.ofNat (xtx.getD a0 []).length) u0 (fun u1 =>
  vp_in a1 (xtx.getD a0 []).length ∧ (narrow .char (.int ((((xtx.getD a0 []).getD (ix a1) 0) &&& (255 : Int32)).toUInt32 % 65536).toInt32) = .int ((((xtx.getD a0 []).getD (ix a1) 0) &&& (255 : Int32)).toUInt32 % 65536).toInt32 ∧ Q ((((xtx.getD a0 []).getD (ix a1) 0) &&& (255 : Int32)).toUInt32 % 65536).toInt32 u1))
set_option maxRecDepth 20000 in
theorem c_J1_charAt_3b067 {g : Gb} (hg : xInj g) {n : Nat} {a0 : Nat} {a1 : Int32} (ha0 : a0 < xtx.length) {u0 : Mm} {Q : Int32 → Mm → Prop} (h : w_J1_charAt_3b067 n a0 a1 u0 Q) : xMet (gL g) yJ1_charAt_3b067 (xws yJ1_charAt_3b067 cJ1_charAt_3b067 2 (some .char)) (xRoom 3) (xPc g [.ref (gV g a0), .int a1] u0) (xQ g (pI g Q noT)) (xA g) := by
  refine xbody (il := il_J1_charAt_3b067) hg il_J1_charAt_3b067_ok m_J1_charAt_3b067 (Nat.le_of_ble_eq_true rfl) ?_
  show xE g me_J1_charAt_3b067 (pI g Q noT) 0 [(0, .ref (gV g a0)), (1, .int a1)] [] u0
  unfold w_J1_charAt_3b067 at h
  refine e_iload_n (k := 0) (i := 1) rfl rfl 1 rfl ?_
  refine e_aload_n (k := 1) (i := 0) rfl rfl 0 rfl ?_
  refine e_svlen (k := 2) rfl ha0 ?_
  refine e_callSv (k := 3) (As := [.int a1, .int (Int32.ofNat (xtx.getD a0 []).length)]) (rest := []) rfl (c_J0_checkIndex_df160 (g := g) hg (n := n) h) m_J0_checkIndex_df160 st_J0_checkIndex_df160 l_J1_9 rfl rfl (Nat.le_of_ble_eq_true rfl) ⟨by decide, by decide, rfl, rfl⟩ (fun _ h => h.elim) (fun u1 h => ?_)
  refine e_aload_n (k := 4) (i := 0) rfl rfl 0 rfl ?_
  refine e_iload_n (k := 5) (i := 1) rfl rfl 1 rfl ?_
  refine e_svld (k := 6) rfl ha0 h.1 ?_
  have h := h.2
  refine e_sipush (k := 7) (v := (255 : Int32)) rfl (by decide) ?_
  refine e_iand (k := 8) rfl ?_
  refine e_i2c (k := 9) rfl ?_
  exact e_zret (k := 10) rfl rfl h.1 (Or.inl ⟨_, rfl, h.2⟩)
def il_X0_readUnit : List (Nat × Instr × Nat) := [(0, .aload_n 0, 1), (1, .getfield 9, 3), (4, .iconst 0, 1), (5, .invokevirtual 41, 3), (8, .bipush 49, 2), (10, .if_icmp .eq 19, 3), (13, .aload_n 0, 1), (14, .getfield 9, 3), (17, .iconst 1, 1), (18, .aload_n 0, 1), (19, .getfield 9, 3), (22, .getfield 45, 3), (25, .invokevirtual 48, 3), (28, .return_, 1), (29, .aload_n 0, 1), (30, .getfield 9, 3), (33, .dup, 1), (34, .getfield 45, 3), (37, .iconst 1, 1), (38, .iadd, 1), (39, .putfield 45, 3), (42, .aload_n 0, 1), (43, .getfield 9, 3), (46, .iconst 0, 1), (47, .invokevirtual 41, 3), (50, .bipush 47, 2), (52, .if_icmp .eq 19, 3), (55, .aload_n 0, 1), (56, .getfield 9, 3), (59, .iconst 1, 1), (60, .aload_n 0, 1), (61, .getfield 9, 3), (64, .getfield 45, 3), (67, .invokevirtual 48, 3), (70, .return_, 1), (71, .aload_n 0, 1), (72, .getfield 9, 3), (75, .dup, 1), (76, .getfield 45, 3), (79, .iconst 1, 1), (80, .iadd, 1), (81, .putfield 45, 3), (84, .aload_n 0, 1), (85, .aload_n 0, 1), (86, .getfield 9, 3), (89, .bipush 64, 2), (91, .iconst 1, 1), (92, .invokevirtual 31, 3), (95, .putfield 54, 3), (98, .return_, 1)]
set_option maxRecDepth 20000 in
theorem il_X0_readUnit_ok : ∀ x ∈ il_X0_readUnit, decode cX0_readUnit x.1 = .ok x.2 := by decide +kernel
abbrev me_X0_readUnit : Me := (RX0, il_X0_readUnit, 1, none, xRoom 3, [])
def w_X0_readUnit (n : Nat) (u0 : Mm) (Q : Mm → Prop) : Prop :=
  w_X5_peek n (0 : Int32) u0 (fun r1 u1 =>
  (r1 = (49 : Int32) → mlet (setI u1 33 2 ((u1.1 33 2) + (1 : Int32))) fun u2 =>
  w_X5_peek n (0 : Int32) u2 (fun r2 u3 =>
  (r2 = (47 : Int32) → mlet (setI u3 33 2 ((u3.1 33 2) + (1 : Int32))) fun u4 =>
  w_X5_number n (64 : Int32) (1 : Int32) u4 (fun r3 u5 =>
  mlet (setI u5 34 3 r3) fun u6 =>
  Q u6)) ∧
  (¬ r2 = (47 : Int32) → w_X5_fail n (1 : Int32) (u3.1 33 2) u3 (fun u7 =>
  Q u7)))) ∧
  (¬ r1 = (49 : Int32) → w_X5_fail n (1 : Int32) (u1.1 33 2) u1 (fun u8 =>
  Q u8)))
set_option maxRecDepth 20000 in
theorem c_X0_readUnit {g : Gb} (hg : xInj g) {n : Nat} {u0 : Mm} {Q : Mm → Prop} (h : w_X0_readUnit n u0 Q) : xMet (gL g) yX0_readUnit (xws yX0_readUnit cX0_readUnit 1 none) (xRoom 3) (xPc g [.ref (gR g 34)] u0) (xQ g (pV g Q noT)) (xA g) := by
  refine xbody (il := il_X0_readUnit) hg il_X0_readUnit_ok m_X0_readUnit (Nat.le_of_ble_eq_true rfl) ?_
  show xE g me_X0_readUnit (pV g Q noT) 0 [(0, .ref (gR g 34))] [] u0
  unfold w_X0_readUnit at h
  refine e_aload_n (k := 0) (i := 0) rfl rfl 0 rfl ?_
  refine e_getC (k := 1) rfl f_X0_9 rfl rfl ?_
  refine e_iconst (k := 2) (v := (0 : Int32)) rfl (by decide) ?_
  refine e_callVi (k := 3) (q := 33) (As := [.int (0 : Int32)]) (rest := []) rfl (c_X5_peek (g := g) hg (n := n) h) m_X5_peek i_X5_peek l_X0_41 rfl ⟨_, rfl, rfl⟩ rfl rfl (Nat.le_of_ble_eq_true rfl) ⟨by decide, by decide, rfl, rfl⟩ (fun _ h => h.elim) (fun r1 u1 h => ?_)
  refine e_bipush (k := 4) (v := (49 : Int32)) rfl (by decide) ?_
  refine e_icmp_eq (k := 5) (tgt := 29) rfl (by decide) (fun z => ?_) (fun z => ?_)
  · have h := h.1 z
    refine e_aload_n (k := 14) (i := 0) rfl rfl 0 rfl ?_
    refine e_getC (k := 15) rfl f_X0_9 rfl rfl ?_
    refine e_dup (k := 16) rfl rfl ?_
    refine e_getI (k := 17) rfl f_X0_45 rfl rfl ?_
    refine e_iconst (k := 18) (v := (1 : Int32)) rfl (by decide) ?_
    refine e_iadd (k := 19) rfl ?_
    refine e_putI (k := 20) rfl fg_X0_45 rfl rfl ?_
    refine e_mlet h (fun u2 h => ?_)
    refine e_aload_n (k := 21) (i := 0) rfl rfl 0 rfl ?_
    refine e_getC (k := 22) rfl f_X0_9 rfl rfl ?_
    refine e_iconst (k := 23) (v := (0 : Int32)) rfl (by decide) ?_
    refine e_callVi (k := 24) (q := 33) (As := [.int (0 : Int32)]) (rest := []) rfl (c_X5_peek (g := g) hg (n := n) h) m_X5_peek i_X5_peek l_X0_41 rfl ⟨_, rfl, rfl⟩ rfl rfl (Nat.le_of_ble_eq_true rfl) ⟨by decide, by decide, rfl, rfl⟩ (fun _ h => h.elim) (fun r2 u3 h => ?_)
    refine e_bipush (k := 25) (v := (47 : Int32)) rfl (by decide) ?_
    refine e_icmp_eq (k := 26) (tgt := 71) rfl (by decide) (fun z => ?_) (fun z => ?_)
    · have h := h.1 z
      refine e_aload_n (k := 35) (i := 0) rfl rfl 0 rfl ?_
      refine e_getC (k := 36) rfl f_X0_9 rfl rfl ?_
      refine e_dup (k := 37) rfl rfl ?_
      refine e_getI (k := 38) rfl f_X0_45 rfl rfl ?_
      refine e_iconst (k := 39) (v := (1 : Int32)) rfl (by decide) ?_
      refine e_iadd (k := 40) rfl ?_
      refine e_putI (k := 41) rfl fg_X0_45 rfl rfl ?_
      refine e_mlet h (fun u4 h => ?_)
      refine e_aload_n (k := 42) (i := 0) rfl rfl 0 rfl ?_
      refine e_aload_n (k := 43) (i := 0) rfl rfl 0 rfl ?_
      refine e_getC (k := 44) rfl f_X0_9 rfl rfl ?_
      refine e_bipush (k := 45) (v := (64 : Int32)) rfl (by decide) ?_
      refine e_iconst (k := 46) (v := (1 : Int32)) rfl (by decide) ?_
      refine e_callVi (k := 47) (q := 33) (As := [.int (64 : Int32), .int (1 : Int32)]) (rest := [.ref (gR g 34)]) rfl (c_X5_number (g := g) hg (n := n) h) m_X5_number i_X5_number l_X0_31 rfl ⟨_, rfl, rfl⟩ rfl rfl (Nat.le_of_ble_eq_true rfl) ⟨by decide, by decide, rfl, rfl⟩ (fun _ h => h.elim) (fun r3 u5 h => ?_)
      refine e_putI (k := 48) rfl fg_X0_54 rfl rfl ?_
      refine e_mlet h (fun u6 h => ?_)
      exact e_vret (k := 49) rfl rfl (Or.inl ⟨rfl, h⟩)
    · have h := h.2 z
      refine e_aload_n (k := 27) (i := 0) rfl rfl 0 rfl ?_
      refine e_getC (k := 28) rfl f_X0_9 rfl rfl ?_
      refine e_iconst (k := 29) (v := (1 : Int32)) rfl (by decide) ?_
      refine e_aload_n (k := 30) (i := 0) rfl rfl 0 rfl ?_
      refine e_getC (k := 31) rfl f_X0_9 rfl rfl ?_
      refine e_getI (k := 32) rfl f_X0_45 rfl rfl ?_
      refine e_callVv (k := 33) (q := 33) (As := [.int (1 : Int32), .int (u3.1 33 2)]) (rest := []) rfl (c_X5_fail (g := g) hg (n := n) h) m_X5_fail i_X5_fail l_X0_48 rfl ⟨_, rfl, rfl⟩ rfl rfl (Nat.le_of_ble_eq_true rfl) ⟨by decide, by decide, rfl, rfl⟩ (fun _ h => h.elim) (fun u7 h => ?_)
      exact e_vret (k := 34) rfl rfl (Or.inl ⟨rfl, h⟩)
  · have h := h.2 z
    refine e_aload_n (k := 6) (i := 0) rfl rfl 0 rfl ?_
    refine e_getC (k := 7) rfl f_X0_9 rfl rfl ?_
    refine e_iconst (k := 8) (v := (1 : Int32)) rfl (by decide) ?_
    refine e_aload_n (k := 9) (i := 0) rfl rfl 0 rfl ?_
    refine e_getC (k := 10) rfl f_X0_9 rfl rfl ?_
    refine e_getI (k := 11) rfl f_X0_45 rfl rfl ?_
    refine e_callVv (k := 12) (q := 33) (As := [.int (1 : Int32), .int (u1.1 33 2)]) (rest := []) rfl (c_X5_fail (g := g) hg (n := n) h) m_X5_fail i_X5_fail l_X0_48 rfl ⟨_, rfl, rfl⟩ rfl rfl (Nat.le_of_ble_eq_true rfl) ⟨by decide, by decide, rfl, rfl⟩ (fun _ h => h.elim) (fun u8 h => ?_)
    exact e_vret (k := 13) rfl rfl (Or.inl ⟨rfl, h⟩)
def il_X10_full : List (Nat × Instr × Nat) := [(0, .aload_n 0, 1), (1, .iload_n 1, 1), (2, .iload_n 2, 1), (3, .invokevirtual 162, 3), (6, .ifCond .ne 5, 3), (9, .iconst (-1), 1), (10, .ireturn, 1), (11, .aload_n 0, 1), (12, .getfield 36, 3), (15, .iload_n 1, 1), (16, .invokevirtual 153, 3), (19, .iload_n 2, 1), (20, .invokevirtual 166, 3), (23, .ifCond .eq 7, 3), (26, .iconst 1, 1), (27, .goto 4, 3), (30, .iconst 0, 1), (31, .ireturn, 1)]
set_option maxRecDepth 20000 in
theorem il_X10_full_ok : ∀ x ∈ il_X10_full, decode cX10_full x.1 = .ok x.2 := by decide +kernel
abbrev me_X10_full : Me := (RX10, il_X10_full, 3, (some .int), xRoom 3, [])
def w_X10_full_31 (n : Nat) (t0 : Int32) (u0 : Mm) (Q : Int32 → Mm → Prop) : Prop :=
  Q t0 u0
def w_X10_full (n : Nat) (a0 : Int32) (a1 : Int32) (u0 : Mm) (Q : Int32 → Mm → Prop) : Prop :=
  w_X10_hasMeasure n a0 a1 u0 (fun r1 u1 =>
  (¬ r1 = 0 → w_X7_voiceOf n a0 u1 (fun r2 u2 =>
  w_X8_isFull n r2 a1 u2 (fun r3 u3 =>
  (r3 = 0 → w_X10_full_31 n (0 : Int32) u3 Q) ∧
  (¬ r3 = 0 → w_X10_full_31 n (1 : Int32) u3 Q)))) ∧
  (r1 = 0 → Q (-1 : Int32) u1))
set_option maxRecDepth 20000 in
theorem s_X10_full_31 {g : Gb} (hg : xInj g) {n : Nat} {Q : Int32 → Mm → Prop} {t0 : Int32} {u0 : Mm} (h : w_X10_full_31 n t0 u0 Q) : xE g me_X10_full (pI g Q noT) 31 [] [.int t0] u0 := by
  unfold w_X10_full_31 at h
  exact e_iret (k := 17) rfl rfl (Or.inl ⟨_, rfl, h⟩)
set_option maxRecDepth 20000 in
theorem c_X10_full {g : Gb} (hg : xInj g) {n : Nat} {a0 : Int32} {a1 : Int32} {u0 : Mm} {Q : Int32 → Mm → Prop} (h : w_X10_full n a0 a1 u0 Q) : xMet (gL g) yX10_full (xws yX10_full cX10_full 3 (some .int)) (xRoom 3) (xPc g [.ref (gR g 32), .int a0, .int a1] u0) (xQ g (pI g Q noT)) (xA g) := by
  refine xbody (il := il_X10_full) hg il_X10_full_ok m_X10_full (Nat.le_of_ble_eq_true rfl) ?_
  show xE g me_X10_full (pI g Q noT) 0 [(0, .ref (gR g 32)), (1, .int a0), (2, .int a1)] [] u0
  unfold w_X10_full at h
  refine e_aload_n (k := 0) (i := 0) rfl rfl 0 rfl ?_
  refine e_iload_n (k := 1) (i := 1) rfl rfl 1 rfl ?_
  refine e_iload_n (k := 2) (i := 2) rfl rfl 2 rfl ?_
  refine e_callVi (k := 3) (q := 32) (As := [.int a0, .int a1]) (rest := []) rfl (c_X10_hasMeasure (g := g) hg (n := n) h) m_X10_hasMeasure i_X10_hasMeasure l_X10_162 rfl ⟨_, rfl, rfl⟩ rfl rfl (Nat.le_of_ble_eq_true rfl) ⟨by decide, by decide, rfl, rfl⟩ (fun _ h => h.elim) (fun r1 u1 h => ?_)
  refine e_if_ne (k := 4) (tgt := 11) rfl (by decide) (fun z => ?_) (fun z => ?_)
  · have h := h.1 z
    refine e_aload_n (k := 7) (i := 0) rfl rfl 0 rfl ?_
    refine e_getC (k := 8) rfl f_X10_36 rfl rfl ?_
    refine e_iload_n (k := 9) (i := 1) rfl rfl 1 rfl ?_
    refine e_callVr (k := 10) (q := 35) (As := [.int a0]) (rest := []) rfl (c_X7_voiceOf (g := g) hg (n := n) h) m_X7_voiceOf i_X7_voiceOf l_X10_153 rfl ⟨_, rfl, rfl⟩ rfl rfl (Nat.le_of_ble_eq_true rfl) ⟨by decide, by decide, rfl, rfl⟩ (fun _ h => h.elim) (fun r2 u2 hr2 h => ?_)
    refine e_iload_n (k := 11) (i := 2) rfl rfl 2 rfl ?_
    refine e_callVi (k := 12) (q := r2) (As := [.int a1]) (rest := []) rfl (c_X8_isFull (g := g) hg (n := n) hr2 h) m_X8_isFull i_X8_isFull l_X10_166 hr2 ⟨_, rfl, rfl⟩ rfl rfl (Nat.le_of_ble_eq_true rfl) ⟨by decide, by decide, rfl, rfl⟩ (fun _ h => h.elim) (fun r3 u3 h => ?_)
    refine e_if_eq (k := 13) (tgt := 30) rfl (by decide) (fun z => ?_) (fun z => ?_)
    · have h := h.1 z
      refine e_iconst (k := 16) (v := (0 : Int32)) rfl (by decide) ?_
      refine e_sub (lv' := []) [] rfl ?_
      exact s_X10_full_31 hg h
    · have h := h.2 z
      refine e_iconst (k := 14) (v := (1 : Int32)) rfl (by decide) ?_
      refine e_goto (k := 15) (tgt := 31) rfl (by decide) ?_
      refine e_sub (lv' := []) [] rfl ?_
      exact s_X10_full_31 hg h
  · have h := h.2 z
    refine e_iconst (k := 5) (v := (-1 : Int32)) rfl (by decide) ?_
    exact e_iret (k := 6) rfl rfl (Or.inl ⟨_, rfl, h⟩)
def il_X10_length : List (Nat × Instr × Nat) := [(0, .aload_n 0, 1), (1, .iload_n 1, 1), (2, .iload_n 2, 1), (3, .invokevirtual 162, 3), (6, .ifCond .eq 18, 3), (9, .aload_n 0, 1), (10, .getfield 36, 3), (13, .iload_n 1, 1), (14, .invokevirtual 153, 3), (17, .iload_n 2, 1), (18, .invokevirtual 169, 3), (21, .goto 6, 3), (24, .ldc2_w 145, 3), (27, .lreturn, 1)]
set_option maxRecDepth 20000 in
theorem il_X10_length_ok : ∀ x ∈ il_X10_length, decode cX10_length x.1 = .ok x.2 := by decide +kernel
abbrev me_X10_length : Me := (RX10, il_X10_length, 3, (some .long), xRoom 3, [])
def w_X10_length_27 (n : Nat) (t0 : Int64) (u0 : Mm) (Q : Int64 → Mm → Prop) : Prop :=
  Q t0 u0
def w_X10_length (n : Nat) (a0 : Int32) (a1 : Int32) (u0 : Mm) (Q : Int64 → Mm → Prop) : Prop :=
  w_X10_hasMeasure n a0 a1 u0 (fun r1 u1 =>
  (r1 = 0 → w_X10_length_27 n (-1 : Int64) u1 Q) ∧
  (¬ r1 = 0 → w_X7_voiceOf n a0 u1 (fun r2 u2 =>
  w_X8_ticksIn n r2 a1 u2 (fun r3 u3 =>
  w_X10_length_27 n r3 u3 Q))))
set_option maxRecDepth 20000 in
theorem s_X10_length_27 {g : Gb} (hg : xInj g) {n : Nat} {Q : Int64 → Mm → Prop} {t0 : Int64} {u0 : Mm} (h : w_X10_length_27 n t0 u0 Q) : xE g me_X10_length (pL g Q noT) 27 [] [.long t0] u0 := by
  unfold w_X10_length_27 at h
  exact e_lret (k := 13) rfl rfl (Or.inl ⟨_, rfl, h⟩)
set_option maxRecDepth 20000 in
theorem c_X10_length {g : Gb} (hg : xInj g) {n : Nat} {a0 : Int32} {a1 : Int32} {u0 : Mm} {Q : Int64 → Mm → Prop} (h : w_X10_length n a0 a1 u0 Q) : xMet (gL g) yX10_length (xws yX10_length cX10_length 3 (some .long)) (xRoom 3) (xPc g [.ref (gR g 32), .int a0, .int a1] u0) (xQ g (pL g Q noT)) (xA g) := by
  refine xbody (il := il_X10_length) hg il_X10_length_ok m_X10_length (Nat.le_of_ble_eq_true rfl) ?_
  show xE g me_X10_length (pL g Q noT) 0 [(0, .ref (gR g 32)), (1, .int a0), (2, .int a1)] [] u0
  unfold w_X10_length at h
  refine e_aload_n (k := 0) (i := 0) rfl rfl 0 rfl ?_
  refine e_iload_n (k := 1) (i := 1) rfl rfl 1 rfl ?_
  refine e_iload_n (k := 2) (i := 2) rfl rfl 2 rfl ?_
  refine e_callVi (k := 3) (q := 32) (As := [.int a0, .int a1]) (rest := []) rfl (c_X10_hasMeasure (g := g) hg (n := n) h) m_X10_hasMeasure i_X10_hasMeasure l_X10_162 rfl ⟨_, rfl, rfl⟩ rfl rfl (Nat.le_of_ble_eq_true rfl) ⟨by decide, by decide, rfl, rfl⟩ (fun _ h => h.elim) (fun r1 u1 h => ?_)
  refine e_if_eq (k := 4) (tgt := 24) rfl (by decide) (fun z => ?_) (fun z => ?_)
  · have h := h.1 z
    refine e_ldc2 (k := 12) rfl k_X10_145 ?_
    refine e_sub (lv' := []) [] rfl ?_
    exact s_X10_length_27 hg h
  · have h := h.2 z
    refine e_aload_n (k := 5) (i := 0) rfl rfl 0 rfl ?_
    refine e_getC (k := 6) rfl f_X10_36 rfl rfl ?_
    refine e_iload_n (k := 7) (i := 1) rfl rfl 1 rfl ?_
    refine e_callVr (k := 8) (q := 35) (As := [.int a0]) (rest := []) rfl (c_X7_voiceOf (g := g) hg (n := n) h) m_X7_voiceOf i_X7_voiceOf l_X10_153 rfl ⟨_, rfl, rfl⟩ rfl rfl (Nat.le_of_ble_eq_true rfl) ⟨by decide, by decide, rfl, rfl⟩ (fun _ h => h.elim) (fun r2 u2 hr2 h => ?_)
    refine e_iload_n (k := 9) (i := 2) rfl rfl 2 rfl ?_
    refine e_callVl (k := 10) (q := r2) (As := [.int a1]) (rest := []) rfl (c_X8_ticksIn (g := g) hg (n := n) hr2 h) m_X8_ticksIn i_X8_ticksIn l_X10_169 hr2 ⟨_, rfl, rfl⟩ rfl rfl (Nat.le_of_ble_eq_true rfl) ⟨by decide, by decide, rfl, rfl⟩ (fun _ h => h.elim) (fun r3 u3 h => ?_)
    refine e_goto (k := 11) (tgt := 27) rfl (by decide) ?_
    refine e_sub (lv' := []) [] rfl ?_
    exact s_X10_length_27 hg h
def il_X12_addNote : List (Nat × Instr × Nat) := [(0, .aload_n 0, 1), (1, .iload_n 1, 1), (2, .aload_n 0, 1), (3, .getfield 317, 3), (6, .invokevirtual 333, 3), (9, .istore_n 2, 1), (10, .aload_n 0, 1), (11, .aload_n 0, 1), (12, .getfield 327, 3), (15, .aload_n 0, 1), (16, .getfield 330, 3), (19, .iload_n 1, 1), (20, .ifCond .ne 7, 3), (23, .iconst 1, 1), (24, .goto 4, 3), (27, .iconst 0, 1), (28, .invokevirtual 336, 3), (31, .istore_n 3, 1), (32, .aload_n 0, 1), (33, .getfield 320, 3), (36, .ifCond .eq 10, 3), (39, .aload_n 0, 1), (40, .getfield 324, 3), (43, .goto 4, 3), (46, .iload_n 3, 1), (47, .istore 4, 2), (49, .aload_n 0, 1), (50, .iload_n 2, 1), (51, .iconst 4, 1), (52, .aload_n 0, 1), (53, .getfield 327, 3), (56, .invokevirtual 286, 3), (59, .aload_n 0, 1), (60, .iload_n 2, 1), (61, .iconst 5, 1), (62, .aload_n 0, 1), (63, .getfield 330, 3), (66, .invokevirtual 286, 3), (69, .aload_n 0, 1), (70, .iload_n 2, 1), (71, .bipush 6, 2), (73, .iload 4, 2), (75, .invokevirtual 286, 3), (78, .aload_n 0, 1), (79, .iload_n 2, 1), (80, .bipush 7, 2), (82, .aload_n 0, 1), (83, .getfield 320, 3), (86, .ifCond .eq 7, 3), (89, .iconst 1, 1), (90, .goto 4, 3), (93, .iconst 0, 1), (94, .invokevirtual 286, 3), (97, .aload_n 0, 1), (98, .iload_n 2, 1), (99, .bipush 9, 2), (101, .iconst 1, 1), (102, .invokevirtual 286, 3), (105, .aload_n 0, 1), (106, .getfield 50, 3), (109, .iload_n 2, 1), (110, .iload_n 3, 1), (111, .iastore, 1), (112, .ldc2_w 340, 3), (115, .aload_n 0, 1), (116, .getfield 330, 3), (119, .iconst 1, 1), (120, .iadd, 1), (121, .i2l, 1), (122, .lmul, 1), (123, .aload_n 0, 1), (124, .getfield 327, 3), (127, .invokestatic 342, 3), (130, .i2l, 1), (131, .ladd, 1), (132, .iload 4, 2), (134, .i2l, 1), (135, .ladd, 1), (136, .lstore 5, 2), (138, .lload 5, 2), (140, .lconst 0, 1), (141, .ldc2_w 345, 3), (144, .invokestatic 125, 3), (147, .ifCond .ne 12, 3), (150, .aload_n 0, 1), (151, .iconst 4, 1), (152, .aload_n 0, 1), (153, .getfield 317, 3), (156, .invokevirtual 148, 3), (159, .aload_n 0, 1), (160, .iload_n 2, 1), (161, .iconst 3, 1), (162, .lload 5, 2), (164, .l2i, 1), (165, .invokevirtual 286, 3), (168, .iload_n 2, 1), (169, .ireturn, 1)]
set_option maxRecDepth 20000 in
theorem il_X12_addNote_ok : ∀ x ∈ il_X12_addNote, decode cX12_addNote x.1 = .ok x.2 := by decide +kernel
abbrev me_X12_addNote : Me := (RX12, il_X12_addNote, 7, (some .int), xRoom 3, [])
def w_X12_addNote_159 (n : Nat) (x2 : Int32) (x5 : Int64) (u0 : Mm) (Q : Int32 → Mm → Prop) (T : Mm → Prop) : Prop :=
  w_X12_set n x2 (3 : Int32) (x5.toInt32) u0 (fun u1 =>
  Q x2 u1) T
def w_X12_addNote_94 (n : Nat) (x2 : Int32) (x3 : Int32) (x4 : Int32) (t0 : Int32) (t1 : Int32) (t2 : Int32) (u0 : Mm) (Q : Int32 → Mm → Prop) (T : Mm → Prop) : Prop :=
  w_X12_set n t2 t1 t0 u0 (fun u1 =>
  w_X12_set n x2 (9 : Int32) (1 : Int32) u1 (fun u2 =>
  vp_in x2 400 ∧ (mlet (setI u2 10 (ix x2) x3) fun u3 =>
  w_X12_semitone n (u3.1 0 56) u3 (fun r1 u4 =>
  jlet ((((12 : Int64) * ((u3.1 0 57) + (1 : Int32)).toInt64) + r1.toInt64) + x4.toInt64) fun y1 =>
  w_X12_in n y1 (0 : Int64) (127 : Int64) u4 (fun r2 u5 =>
  (¬ r2 = 0 → w_X12_addNote_159 n x2 y1 u5 Q T) ∧
  (r2 = 0 → w_X12_fail n (4 : Int32) (u5.1 0 58) u5 (fun u6 =>
  w_X12_addNote_159 n x2 y1 u6 Q T) T)) T) T)) T) T
def w_X12_addNote_47 (n : Nat) (x2 : Int32) (x3 : Int32) (t0 : Int32) (u0 : Mm) (Q : Int32 → Mm → Prop) (T : Mm → Prop) : Prop :=
  w_X12_set n x2 (4 : Int32) (u0.1 0 56) u0 (fun u1 =>
  w_X12_set n x2 (5 : Int32) (u1.1 0 57) u1 (fun u2 =>
  w_X12_set n x2 (6 : Int32) t0 u2 (fun u3 =>
  ((u3.1 0 55) = 0 → w_X12_addNote_94 n x2 x3 t0 (0 : Int32) (7 : Int32) x2 u3 Q T) ∧
  (¬ (u3.1 0 55) = 0 → w_X12_addNote_94 n x2 x3 t0 (1 : Int32) (7 : Int32) x2 u3 Q T)) T) T) T
def w_X12_addNote_28 (n : Nat) (x2 : Int32) (t0 : Int32) (t1 : Int32) (t2 : Int32) (u0 : Mm) (Q : Int32 → Mm → Prop) (T : Mm → Prop) : Prop :=
  w_X12_plainSign n t2 t1 t0 u0 (fun r1 u1 =>
  ((u1.1 0 55) = 0 → w_X12_addNote_47 n x2 r1 r1 u1 Q T) ∧
  (¬ (u1.1 0 55) = 0 → w_X12_addNote_47 n x2 r1 (u1.1 0 54) u1 Q T)) T
def w_X12_addNote (n : Nat) (a0 : Int32) (u0 : Mm) (Q : Int32 → Mm → Prop) (T : Mm → Prop) : Prop :=
  w_X12_newThing n a0 (u0.1 0 58) u0 (fun r1 u1 =>
  (¬ a0 = 0 → w_X12_addNote_28 n r1 (0 : Int32) (u1.1 0 57) (u1.1 0 56) u1 Q T) ∧
  (a0 = 0 → w_X12_addNote_28 n r1 (1 : Int32) (u1.1 0 57) (u1.1 0 56) u1 Q T)) T
set_option maxRecDepth 20000 in
theorem s_X12_addNote_159 {g : Gb} (hg : xInj g) {n : Nat} {Q : Int32 → Mm → Prop} {T : Mm → Prop} {x2 : Int32} {x5 : Int64} {u0 : Mm} (h : w_X12_addNote_159 n x2 x5 u0 Q T) : xE g me_X12_addNote (pI g Q T) 159 [(0, .ref (gR g 0)), (2, .int x2), (5, .long x5)] [] u0 := by
  unfold w_X12_addNote_159 at h
  refine e_aload_n (k := 89) (i := 0) rfl rfl 0 rfl ?_
  refine e_iload_n (k := 90) (i := 2) rfl rfl 1 rfl ?_
  refine e_iconst (k := 91) (v := (3 : Int32)) rfl (by decide) ?_
  refine e_lload (k := 92) (i := 5) rfl 2 rfl ?_
  refine e_l2i (k := 93) rfl ?_
  refine e_callVv (k := 94) (q := 0) (As := [.int x2, .int (3 : Int32), .int x5.toInt32]) (rest := []) rfl (c_X12_set (g := g) hg (n := n) h) m_X12_set i_X12_set l_X12_286 rfl ⟨_, rfl, rfl⟩ rfl rfl (Nat.le_of_ble_eq_true rfl) ⟨by decide, by decide, rfl, rfl⟩ (fun _ h => ⟨fun _ z => (by cases z), Or.inr ⟨rfl, h⟩⟩) (fun u1 h => ?_)
  refine e_iload_n (k := 95) (i := 2) rfl rfl 1 rfl ?_
  exact e_iret (k := 96) rfl rfl (Or.inl ⟨_, rfl, h⟩)
set_option maxRecDepth 20000 in
theorem s_X12_addNote_94 {g : Gb} (hg : xInj g) {n : Nat} {Q : Int32 → Mm → Prop} {T : Mm → Prop} {x2 : Int32} {x3 : Int32} {x4 : Int32} {t0 : Int32} {t1 : Int32} {t2 : Int32} {u0 : Mm} (h : w_X12_addNote_94 n x2 x3 x4 t0 t1 t2 u0 Q T) : xE g me_X12_addNote (pI g Q T) 94 [(0, .ref (gR g 0)), (2, .int x2), (3, .int x3), (4, .int x4)] [.int t0, .int t1, .int t2, .ref (gR g 0)] u0 := by
  unfold w_X12_addNote_94 at h
  refine e_callVv (k := 52) (q := 0) (As := [.int t2, .int t1, .int t0]) (rest := []) rfl (c_X12_set (g := g) hg (n := n) h) m_X12_set i_X12_set l_X12_286 rfl ⟨_, rfl, rfl⟩ rfl rfl (Nat.le_of_ble_eq_true rfl) ⟨by decide, by decide, rfl, rfl⟩ (fun _ h => ⟨fun _ z => (by cases z), Or.inr ⟨rfl, h⟩⟩) (fun u1 h => ?_)
  refine e_aload_n (k := 53) (i := 0) rfl rfl 0 rfl ?_
  refine e_iload_n (k := 54) (i := 2) rfl rfl 1 rfl ?_
  refine e_bipush (k := 55) (v := (9 : Int32)) rfl (by decide) ?_
  refine e_iconst (k := 56) (v := (1 : Int32)) rfl (by decide) ?_
  refine e_callVv (k := 57) (q := 0) (As := [.int x2, .int (9 : Int32), .int (1 : Int32)]) (rest := []) rfl (c_X12_set (g := g) hg (n := n) h) m_X12_set i_X12_set l_X12_286 rfl ⟨_, rfl, rfl⟩ rfl rfl (Nat.le_of_ble_eq_true rfl) ⟨by decide, by decide, rfl, rfl⟩ (fun _ h => ⟨fun _ z => (by cases z), Or.inr ⟨rfl, h⟩⟩) (fun u2 h => ?_)
  refine e_aload_n (k := 58) (i := 0) rfl rfl 0 rfl ?_
  refine e_getC (k := 59) rfl f_X12_50 rfl rfl ?_
  refine e_iload_n (k := 60) (i := 2) rfl rfl 1 rfl ?_
  refine e_iload_n (k := 61) (i := 3) rfl rfl 2 rfl ?_
  refine e_iast (k := 62) rfl rfl h.1 ?_
  have h := h.2
  refine e_mlet h (fun u3 h => ?_)
  refine e_ldc2 (k := 63) rfl k_X12_340 ?_
  refine e_aload_n (k := 64) (i := 0) rfl rfl 0 rfl ?_
  refine e_getI (k := 65) rfl f_X12_330 rfl rfl ?_
  refine e_iconst (k := 66) (v := (1 : Int32)) rfl (by decide) ?_
  refine e_iadd (k := 67) rfl ?_
  refine e_i2l (k := 68) rfl ?_
  refine e_lmul (k := 69) rfl ?_
  refine e_aload_n (k := 70) (i := 0) rfl rfl 0 rfl ?_
  refine e_getI (k := 71) rfl f_X12_327 rfl rfl ?_
  refine e_callSi (k := 72) (As := [.int (u3.1 0 56)]) (rest := [.long ((12 : Int64) * ((u3.1 0 57) + (1 : Int32)).toInt64)]) rfl (c_X12_semitone (g := g) hg (n := n) h) m_X12_semitone st_X12_semitone l_X12_342 rfl rfl (Nat.le_of_ble_eq_true rfl) ⟨by decide, by decide, rfl, rfl⟩ (fun _ h => ⟨fun _ z => (by cases z), Or.inr ⟨rfl, h⟩⟩) (fun r1 u4 h => ?_)
  refine e_i2l (k := 73) rfl ?_
  refine e_ladd (k := 74) rfl ?_
  refine e_iload (k := 75) (i := 4) rfl 3 rfl ?_
  refine e_i2l (k := 76) rfl ?_
  refine e_ladd (k := 77) rfl ?_
  refine e_jlet h (fun y1 h => ?_)
  refine e_lstore (k := 78) (i := 5) (lv' := [(0, .ref (gR g 0)), (2, .int x2), (3, .int x3), (4, .int x4), (5, .long y1)]) rfl (by decide) [1, 2, 3, 4, 0] rfl ?_
  refine e_lload (k := 79) (i := 5) rfl 4 rfl ?_
  refine e_lconst (k := 80) (v := (0 : Int64)) rfl (by decide) ?_
  refine e_ldc2 (k := 81) rfl k_X12_345 ?_
  refine e_callSi (k := 82) (As := [.long y1, .long (0 : Int64), .long (127 : Int64)]) (rest := []) rfl (c_X12_in (g := g) hg (n := n) h) m_X12_in st_X12_in l_X12_125 rfl rfl (Nat.le_of_ble_eq_true rfl) ⟨by decide, by decide, rfl, rfl⟩ (fun _ h => ⟨fun _ z => (by cases z), Or.inr ⟨rfl, h⟩⟩) (fun r2 u5 h => ?_)
  refine e_if_ne (k := 83) (tgt := 159) rfl (by decide) (fun z => ?_) (fun z => ?_)
  · have h := h.1 z
    refine e_sub (lv' := [(0, .ref (gR g 0)), (2, .int x2), (5, .long y1)]) [0, 1, 4] rfl ?_
    exact s_X12_addNote_159 hg h
  · have h := h.2 z
    refine e_aload_n (k := 84) (i := 0) rfl rfl 0 rfl ?_
    refine e_iconst (k := 85) (v := (4 : Int32)) rfl (by decide) ?_
    refine e_aload_n (k := 86) (i := 0) rfl rfl 0 rfl ?_
    refine e_getI (k := 87) rfl f_X12_317 rfl rfl ?_
    refine e_callVv (k := 88) (q := 0) (As := [.int (4 : Int32), .int (u5.1 0 58)]) (rest := []) rfl (c_X12_fail (g := g) hg (n := n) h) m_X12_fail i_X12_fail l_X12_148 rfl ⟨_, rfl, rfl⟩ rfl rfl (Nat.le_of_ble_eq_true rfl) ⟨by decide, by decide, rfl, rfl⟩ (fun _ h => ⟨fun _ z => (by cases z), Or.inr ⟨rfl, h⟩⟩) (fun u6 h => ?_)
    refine e_sub (lv' := [(0, .ref (gR g 0)), (2, .int x2), (5, .long y1)]) [0, 1, 4] rfl ?_
    exact s_X12_addNote_159 hg h
set_option maxRecDepth 20000 in
theorem s_X12_addNote_47 {g : Gb} (hg : xInj g) {n : Nat} {Q : Int32 → Mm → Prop} {T : Mm → Prop} {x2 : Int32} {x3 : Int32} {t0 : Int32} {u0 : Mm} (h : w_X12_addNote_47 n x2 x3 t0 u0 Q T) : xE g me_X12_addNote (pI g Q T) 47 [(0, .ref (gR g 0)), (2, .int x2), (3, .int x3)] [.int t0] u0 := by
  unfold w_X12_addNote_47 at h
  refine e_istore (k := 25) (i := 4) (lv' := [(0, .ref (gR g 0)), (2, .int x2), (3, .int x3), (4, .int t0)]) rfl (by decide) [1, 2, 3, 0] rfl ?_
  refine e_aload_n (k := 26) (i := 0) rfl rfl 0 rfl ?_
  refine e_iload_n (k := 27) (i := 2) rfl rfl 1 rfl ?_
  refine e_iconst (k := 28) (v := (4 : Int32)) rfl (by decide) ?_
  refine e_aload_n (k := 29) (i := 0) rfl rfl 0 rfl ?_
  refine e_getI (k := 30) rfl f_X12_327 rfl rfl ?_
  refine e_callVv (k := 31) (q := 0) (As := [.int x2, .int (4 : Int32), .int (u0.1 0 56)]) (rest := []) rfl (c_X12_set (g := g) hg (n := n) h) m_X12_set i_X12_set l_X12_286 rfl ⟨_, rfl, rfl⟩ rfl rfl (Nat.le_of_ble_eq_true rfl) ⟨by decide, by decide, rfl, rfl⟩ (fun _ h => ⟨fun _ z => (by cases z), Or.inr ⟨rfl, h⟩⟩) (fun u1 h => ?_)
  refine e_aload_n (k := 32) (i := 0) rfl rfl 0 rfl ?_
  refine e_iload_n (k := 33) (i := 2) rfl rfl 1 rfl ?_
  refine e_iconst (k := 34) (v := (5 : Int32)) rfl (by decide) ?_
  refine e_aload_n (k := 35) (i := 0) rfl rfl 0 rfl ?_
  refine e_getI (k := 36) rfl f_X12_330 rfl rfl ?_
  refine e_callVv (k := 37) (q := 0) (As := [.int x2, .int (5 : Int32), .int (u1.1 0 57)]) (rest := []) rfl (c_X12_set (g := g) hg (n := n) h) m_X12_set i_X12_set l_X12_286 rfl ⟨_, rfl, rfl⟩ rfl rfl (Nat.le_of_ble_eq_true rfl) ⟨by decide, by decide, rfl, rfl⟩ (fun _ h => ⟨fun _ z => (by cases z), Or.inr ⟨rfl, h⟩⟩) (fun u2 h => ?_)
  refine e_aload_n (k := 38) (i := 0) rfl rfl 0 rfl ?_
  refine e_iload_n (k := 39) (i := 2) rfl rfl 1 rfl ?_
  refine e_bipush (k := 40) (v := (6 : Int32)) rfl (by decide) ?_
  refine e_iload (k := 41) (i := 4) rfl 3 rfl ?_
  refine e_callVv (k := 42) (q := 0) (As := [.int x2, .int (6 : Int32), .int t0]) (rest := []) rfl (c_X12_set (g := g) hg (n := n) h) m_X12_set i_X12_set l_X12_286 rfl ⟨_, rfl, rfl⟩ rfl rfl (Nat.le_of_ble_eq_true rfl) ⟨by decide, by decide, rfl, rfl⟩ (fun _ h => ⟨fun _ z => (by cases z), Or.inr ⟨rfl, h⟩⟩) (fun u3 h => ?_)
  refine e_aload_n (k := 43) (i := 0) rfl rfl 0 rfl ?_
  refine e_iload_n (k := 44) (i := 2) rfl rfl 1 rfl ?_
  refine e_bipush (k := 45) (v := (7 : Int32)) rfl (by decide) ?_
  refine e_aload_n (k := 46) (i := 0) rfl rfl 0 rfl ?_
  refine e_getI (k := 47) rfl f_X12_320 rfl rfl ?_
  refine e_if_eq (k := 48) (tgt := 93) rfl (by decide) (fun z => ?_) (fun z => ?_)
  · have h := h.1 z
    refine e_iconst (k := 51) (v := (0 : Int32)) rfl (by decide) ?_
    exact s_X12_addNote_94 hg h
  · have h := h.2 z
    refine e_iconst (k := 49) (v := (1 : Int32)) rfl (by decide) ?_
    refine e_goto (k := 50) (tgt := 94) rfl (by decide) ?_
    exact s_X12_addNote_94 hg h
set_option maxRecDepth 20000 in
theorem s_X12_addNote_28 {g : Gb} (hg : xInj g) {n : Nat} {Q : Int32 → Mm → Prop} {T : Mm → Prop} {x2 : Int32} {t0 : Int32} {t1 : Int32} {t2 : Int32} {u0 : Mm} (h : w_X12_addNote_28 n x2 t0 t1 t2 u0 Q T) : xE g me_X12_addNote (pI g Q T) 28 [(0, .ref (gR g 0)), (2, .int x2)] [.int t0, .int t1, .int t2, .ref (gR g 0)] u0 := by
  unfold w_X12_addNote_28 at h
  refine e_callVi (k := 16) (q := 0) (As := [.int t2, .int t1, .int t0]) (rest := []) rfl (c_X12_plainSign (g := g) hg (n := n) h) m_X12_plainSign i_X12_plainSign l_X12_336 rfl ⟨_, rfl, rfl⟩ rfl rfl (Nat.le_of_ble_eq_true rfl) ⟨by decide, by decide, rfl, rfl⟩ (fun _ h => ⟨fun _ z => (by cases z), Or.inr ⟨rfl, h⟩⟩) (fun r1 u1 h => ?_)
  refine e_istore_n (k := 17) (i := 3) (lv' := [(0, .ref (gR g 0)), (2, .int x2), (3, .int r1)]) rfl rfl (by decide) [1, 2, 0] rfl ?_
  refine e_aload_n (k := 18) (i := 0) rfl rfl 0 rfl ?_
  refine e_getI (k := 19) rfl f_X12_320 rfl rfl ?_
  refine e_if_eq (k := 20) (tgt := 46) rfl (by decide) (fun z => ?_) (fun z => ?_)
  · have h := h.1 z
    refine e_iload_n (k := 24) (i := 3) rfl rfl 2 rfl ?_
    exact s_X12_addNote_47 hg h
  · have h := h.2 z
    refine e_aload_n (k := 21) (i := 0) rfl rfl 0 rfl ?_
    refine e_getI (k := 22) rfl f_X12_324 rfl rfl ?_
    refine e_goto (k := 23) (tgt := 47) rfl (by decide) ?_
    exact s_X12_addNote_47 hg h
set_option maxRecDepth 20000 in
theorem c_X12_addNote {g : Gb} (hg : xInj g) {n : Nat} {a0 : Int32} {u0 : Mm} {Q : Int32 → Mm → Prop} {T : Mm → Prop} (h : w_X12_addNote n a0 u0 Q T) : xMet (gL g) yX12_addNote (xws yX12_addNote cX12_addNote 7 (some .int)) (xRoom 3) (xPc g [.ref (gR g 0), .int a0] u0) (xQ g (pI g Q T)) (xA g) := by
  refine xbody (il := il_X12_addNote) hg il_X12_addNote_ok m_X12_addNote (Nat.le_of_ble_eq_true rfl) ?_
  show xE g me_X12_addNote (pI g Q T) 0 [(0, .ref (gR g 0)), (1, .int a0)] [] u0
  unfold w_X12_addNote at h
  refine e_aload_n (k := 0) (i := 0) rfl rfl 0 rfl ?_
  refine e_iload_n (k := 1) (i := 1) rfl rfl 1 rfl ?_
  refine e_aload_n (k := 2) (i := 0) rfl rfl 0 rfl ?_
  refine e_getI (k := 3) rfl f_X12_317 rfl rfl ?_
  refine e_callVi (k := 4) (q := 0) (As := [.int a0, .int (u0.1 0 58)]) (rest := []) rfl (c_X12_newThing (g := g) hg (n := n) h) m_X12_newThing i_X12_newThing l_X12_333 rfl ⟨_, rfl, rfl⟩ rfl rfl (Nat.le_of_ble_eq_true rfl) ⟨by decide, by decide, rfl, rfl⟩ (fun _ h => ⟨fun _ z => (by cases z), Or.inr ⟨rfl, h⟩⟩) (fun r1 u1 h => ?_)
  refine e_istore_n (k := 5) (i := 2) (lv' := [(0, .ref (gR g 0)), (1, .int a0), (2, .int r1)]) rfl rfl (by decide) [1, 2, 0] rfl ?_
  refine e_aload_n (k := 6) (i := 0) rfl rfl 0 rfl ?_
  refine e_aload_n (k := 7) (i := 0) rfl rfl 0 rfl ?_
  refine e_getI (k := 8) rfl f_X12_327 rfl rfl ?_
  refine e_aload_n (k := 9) (i := 0) rfl rfl 0 rfl ?_
  refine e_getI (k := 10) rfl f_X12_330 rfl rfl ?_
  refine e_iload_n (k := 11) (i := 1) rfl rfl 1 rfl ?_
  refine e_if_ne (k := 12) (tgt := 27) rfl (by decide) (fun z => ?_) (fun z => ?_)
  · have h := h.1 z
    refine e_iconst (k := 15) (v := (0 : Int32)) rfl (by decide) ?_
    refine e_sub (lv' := [(0, .ref (gR g 0)), (2, .int r1)]) [0, 2] rfl ?_
    exact s_X12_addNote_28 hg h
  · have h := h.2 z
    refine e_iconst (k := 13) (v := (1 : Int32)) rfl (by decide) ?_
    refine e_goto (k := 14) (tgt := 28) rfl (by decide) ?_
    refine e_sub (lv' := [(0, .ref (gR g 0)), (2, .int r1)]) [0, 2] rfl ?_
    exact s_X12_addNote_28 hg h
def il_X12_beginsNote : List (Nat × Instr × Nat) := [(0, .aload_n 0, 1), (1, .invokevirtual 162, 3), (4, .istore_n 1, 1), (5, .iload_n 1, 1), (6, .invokestatic 314, 3), (9, .ifCond .ne 21, 3), (12, .iload_n 1, 1), (13, .bipush 94, 2), (15, .if_icmp .eq 15, 3), (18, .iload_n 1, 1), (19, .bipush 61, 2), (21, .if_icmp .eq 9, 3), (24, .iload_n 1, 1), (25, .bipush 95, 2), (27, .if_icmp .ne 7, 3), (30, .iconst 1, 1), (31, .goto 4, 3), (34, .iconst 0, 1), (35, .ireturn, 1)]
set_option maxRecDepth 20000 in
theorem il_X12_beginsNote_ok : ∀ x ∈ il_X12_beginsNote, decode cX12_beginsNote x.1 = .ok x.2 := by decide +kernel
abbrev me_X12_beginsNote : Me := (RX12, il_X12_beginsNote, 2, (some .boolean), xRoom 3, [])
def w_X12_beginsNote_35 (n : Nat) (t0 : Int32) (u0 : Mm) (Q : Int32 → Mm → Prop) (T : Mm → Prop) : Prop :=
  narrow .boolean (.int t0) = .int t0 ∧ Q t0 u0
def w_X12_beginsNote_30 (n : Nat) (u0 : Mm) (Q : Int32 → Mm → Prop) (T : Mm → Prop) : Prop :=
  w_X12_beginsNote_35 n (1 : Int32) u0 Q T
def w_X12_beginsNote (n : Nat) (u0 : Mm) (Q : Int32 → Mm → Prop) (T : Mm → Prop) : Prop :=
  w_X12_here n u0 (fun r1 u1 =>
  w_X12_isNoteLetter n r1 u1 (fun r2 u2 =>
  (¬ r2 = 0 → w_X12_beginsNote_30 n u2 Q T) ∧
  (r2 = 0 → (r1 = (94 : Int32) → w_X12_beginsNote_30 n u2 Q T) ∧
  (¬ r1 = (94 : Int32) → (r1 = (61 : Int32) → w_X12_beginsNote_30 n u2 Q T) ∧
  (¬ r1 = (61 : Int32) → (¬ r1 = (95 : Int32) → w_X12_beginsNote_35 n (0 : Int32) u2 Q T) ∧
  (r1 = (95 : Int32) → w_X12_beginsNote_30 n u2 Q T))))) T) T
set_option maxRecDepth 20000 in
theorem s_X12_beginsNote_35 {g : Gb} (hg : xInj g) {n : Nat} {Q : Int32 → Mm → Prop} {T : Mm → Prop} {t0 : Int32} {u0 : Mm} (h : w_X12_beginsNote_35 n t0 u0 Q T) : xE g me_X12_beginsNote (pI g Q T) 35 [] [.int t0] u0 := by
  unfold w_X12_beginsNote_35 at h
  exact e_zret (k := 18) rfl rfl h.1 (Or.inl ⟨_, rfl, h.2⟩)
set_option maxRecDepth 20000 in
theorem s_X12_beginsNote_30 {g : Gb} (hg : xInj g) {n : Nat} {Q : Int32 → Mm → Prop} {T : Mm → Prop} {u0 : Mm} (h : w_X12_beginsNote_30 n  u0 Q T) : xE g me_X12_beginsNote (pI g Q T) 30 [] [] u0 := by
  unfold w_X12_beginsNote_30 at h
  refine e_iconst (k := 15) (v := (1 : Int32)) rfl (by decide) ?_
  refine e_goto (k := 16) (tgt := 35) rfl (by decide) ?_
  exact s_X12_beginsNote_35 hg h
set_option maxRecDepth 20000 in
theorem c_X12_beginsNote {g : Gb} (hg : xInj g) {n : Nat} {u0 : Mm} {Q : Int32 → Mm → Prop} {T : Mm → Prop} (h : w_X12_beginsNote n u0 Q T) : xMet (gL g) yX12_beginsNote (xws yX12_beginsNote cX12_beginsNote 2 (some .boolean)) (xRoom 3) (xPc g [.ref (gR g 0)] u0) (xQ g (pI g Q T)) (xA g) := by
  refine xbody (il := il_X12_beginsNote) hg il_X12_beginsNote_ok m_X12_beginsNote (Nat.le_of_ble_eq_true rfl) ?_
  show xE g me_X12_beginsNote (pI g Q T) 0 [(0, .ref (gR g 0))] [] u0
  unfold w_X12_beginsNote at h
  refine e_aload_n (k := 0) (i := 0) rfl rfl 0 rfl ?_
  refine e_callVi (k := 1) (q := 0) (As := []) (rest := []) rfl (c_X12_here (g := g) hg (n := n) h) m_X12_here i_X12_here l_X12_162 rfl ⟨_, rfl, rfl⟩ rfl rfl (Nat.le_of_ble_eq_true rfl) ⟨by decide, by decide, rfl, rfl⟩ (fun _ h => ⟨fun _ z => (by cases z), Or.inr ⟨rfl, h⟩⟩) (fun r1 u1 h => ?_)
  refine e_istore_n (k := 2) (i := 1) (lv' := [(0, .ref (gR g 0)), (1, .int r1)]) rfl rfl (by decide) [1, 0] rfl ?_
  refine e_iload_n (k := 3) (i := 1) rfl rfl 1 rfl ?_
  refine e_callSi (k := 4) (As := [.int r1]) (rest := []) rfl (c_X12_isNoteLetter (g := g) hg (n := n) h) m_X12_isNoteLetter st_X12_isNoteLetter l_X12_314 rfl rfl (Nat.le_of_ble_eq_true rfl) ⟨by decide, by decide, rfl, rfl⟩ (fun _ h => ⟨fun _ z => (by cases z), Or.inr ⟨rfl, h⟩⟩) (fun r2 u2 h => ?_)
  refine e_if_ne (k := 5) (tgt := 30) rfl (by decide) (fun z => ?_) (fun z => ?_)
  · have h := h.1 z
    refine e_sub (lv' := []) [] rfl ?_
    exact s_X12_beginsNote_30 hg h
  · have h := h.2 z
    refine e_iload_n (k := 6) (i := 1) rfl rfl 1 rfl ?_
    refine e_bipush (k := 7) (v := (94 : Int32)) rfl (by decide) ?_
    refine e_icmp_eq (k := 8) (tgt := 30) rfl (by decide) (fun z => ?_) (fun z => ?_)
    · have h := h.1 z
      refine e_sub (lv' := []) [] rfl ?_
      exact s_X12_beginsNote_30 hg h
    · have h := h.2 z
      refine e_iload_n (k := 9) (i := 1) rfl rfl 1 rfl ?_
      refine e_bipush (k := 10) (v := (61 : Int32)) rfl (by decide) ?_
      refine e_icmp_eq (k := 11) (tgt := 30) rfl (by decide) (fun z => ?_) (fun z => ?_)
      · have h := h.1 z
        refine e_sub (lv' := []) [] rfl ?_
        exact s_X12_beginsNote_30 hg h
      · have h := h.2 z
        refine e_iload_n (k := 12) (i := 1) rfl rfl 1 rfl ?_
        refine e_bipush (k := 13) (v := (95 : Int32)) rfl (by decide) ?_
        refine e_icmp_ne (k := 14) (tgt := 34) rfl (by decide) (fun z => ?_) (fun z => ?_)
        · have h := h.1 z
          refine e_iconst (k := 17) (v := (0 : Int32)) rfl (by decide) ?_
          refine e_sub (lv' := []) [] rfl ?_
          exact s_X12_beginsNote_35 hg h
        · have h := h.2 z
          refine e_sub (lv' := []) [] rfl ?_
          exact s_X12_beginsNote_30 hg h
def il_X12_full : List (Nat × Instr × Nat) := [(0, .aload_n 0, 1), (1, .iconst 0, 1), (2, .putfield 1, 3), (5, .aload_n 0, 1), (6, .iload_n 1, 1), (7, .iload_n 2, 1), (8, .invokevirtual 510, 3), (11, .ifCond .eq 5, 3), (14, .iconst (-1), 1), (15, .ireturn, 1), (16, .sipush 300, 3), (19, .iload_n 1, 1), (20, .iconst 1, 1), (21, .isub, 1), (22, .imul, 1), (23, .iload_n 2, 1), (24, .iadd, 1), (25, .istore_n 3, 1), (26, .aload_n 0, 1), (27, .getfield 84, 3), (30, .iload_n 3, 1), (31, .laload, 1), (32, .lconst 0, 1), (33, .lcmp, 1), (34, .ifCond .lt 19, 3), (37, .aload_n 0, 1), (38, .getfield 84, 3), (41, .iload_n 3, 1), (42, .laload, 1), (43, .aload_n 0, 1), (44, .getfield 81, 3), (47, .iload_n 3, 1), (48, .laload, 1), (49, .lcmp, 1), (50, .ifCond .ne 7, 3), (53, .iconst 1, 1), (54, .goto 4, 3), (57, .iconst 0, 1), (58, .ireturn, 1)]
set_option maxRecDepth 20000 in
theorem il_X12_full_ok : ∀ x ∈ il_X12_full, decode cX12_full x.1 = .ok x.2 := by decide +kernel
abbrev me_X12_full : Me := (RX12, il_X12_full, 4, (some .int), xRoom 3, [])
def w_X12_full_58 (n : Nat) (t0 : Int32) (u0 : Mm) (Q : Int32 → Mm → Prop) (T : Mm → Prop) : Prop :=
  Q t0 u0
def w_X12_full_53 (n : Nat) (u0 : Mm) (Q : Int32 → Mm → Prop) (T : Mm → Prop) : Prop :=
  w_X12_full_58 n (1 : Int32) u0 Q T
def w_X12_full (n : Nat) (a0 : Int32) (a1 : Int32) (u0 : Mm) (Q : Int32 → Mm → Prop) (T : Mm → Prop) : Prop :=
  mlet (setI u0 0 0 (0 : Int32)) fun u1 =>
  w_X12_noMeasure n a0 a1 u1 (fun r1 u2 =>
  (r1 = 0 → ilet (((300 : Int32) * (a0 - (1 : Int32))) + a1) fun y1 =>
  vp_in y1 900 ∧ (((lg_cmp (u2.2.1 21 (ix y1)) (0 : Int64)) < 0 → w_X12_full_53 n u2 Q T) ∧
  (¬ (lg_cmp (u2.2.1 21 (ix y1)) (0 : Int64)) < 0 → vp_in y1 900 ∧ (vp_in y1 900 ∧ ((¬ (lg_cmp (u2.2.1 21 (ix y1)) (u2.2.1 20 (ix y1))) = 0 → w_X12_full_58 n (0 : Int32) u2 Q T) ∧
  ((lg_cmp (u2.2.1 21 (ix y1)) (u2.2.1 20 (ix y1))) = 0 → w_X12_full_53 n u2 Q T)))))) ∧
  (¬ r1 = 0 → Q (-1 : Int32) u2)) T
set_option maxRecDepth 20000 in
theorem s_X12_full_58 {g : Gb} (hg : xInj g) {n : Nat} {Q : Int32 → Mm → Prop} {T : Mm → Prop} {t0 : Int32} {u0 : Mm} (h : w_X12_full_58 n t0 u0 Q T) : xE g me_X12_full (pI g Q T) 58 [] [.int t0] u0 := by
  unfold w_X12_full_58 at h
  exact e_iret (k := 38) rfl rfl (Or.inl ⟨_, rfl, h⟩)
set_option maxRecDepth 20000 in
theorem s_X12_full_53 {g : Gb} (hg : xInj g) {n : Nat} {Q : Int32 → Mm → Prop} {T : Mm → Prop} {u0 : Mm} (h : w_X12_full_53 n  u0 Q T) : xE g me_X12_full (pI g Q T) 53 [] [] u0 := by
  unfold w_X12_full_53 at h
  refine e_iconst (k := 35) (v := (1 : Int32)) rfl (by decide) ?_
  refine e_goto (k := 36) (tgt := 58) rfl (by decide) ?_
  exact s_X12_full_58 hg h
set_option maxRecDepth 20000 in
theorem c_X12_full {g : Gb} (hg : xInj g) {n : Nat} {a0 : Int32} {a1 : Int32} {u0 : Mm} {Q : Int32 → Mm → Prop} {T : Mm → Prop} (h : w_X12_full n a0 a1 u0 Q T) : xMet (gL g) yX12_full (xws yX12_full cX12_full 4 (some .int)) (xRoom 3) (xPc g [.ref (gR g 0), .int a0, .int a1] u0) (xQ g (pI g Q T)) (xA g) := by
  refine xbody (il := il_X12_full) hg il_X12_full_ok m_X12_full (Nat.le_of_ble_eq_true rfl) ?_
  show xE g me_X12_full (pI g Q T) 0 [(0, .ref (gR g 0)), (1, .int a0), (2, .int a1)] [] u0
  unfold w_X12_full at h
  refine e_aload_n (k := 0) (i := 0) rfl rfl 0 rfl ?_
  refine e_iconst (k := 1) (v := (0 : Int32)) rfl (by decide) ?_
  refine e_putI (k := 2) rfl fg_X12_1 rfl rfl ?_
  refine e_mlet h (fun u1 h => ?_)
  refine e_aload_n (k := 3) (i := 0) rfl rfl 0 rfl ?_
  refine e_iload_n (k := 4) (i := 1) rfl rfl 1 rfl ?_
  refine e_iload_n (k := 5) (i := 2) rfl rfl 2 rfl ?_
  refine e_callVi (k := 6) (q := 0) (As := [.int a0, .int a1]) (rest := []) rfl (c_X12_noMeasure (g := g) hg (n := n) h) m_X12_noMeasure i_X12_noMeasure l_X12_510 rfl ⟨_, rfl, rfl⟩ rfl rfl (Nat.le_of_ble_eq_true rfl) ⟨by decide, by decide, rfl, rfl⟩ (fun _ h => ⟨fun _ z => (by cases z), Or.inr ⟨rfl, h⟩⟩) (fun r1 u2 h => ?_)
  refine e_if_eq (k := 7) (tgt := 16) rfl (by decide) (fun z => ?_) (fun z => ?_)
  · have h := h.1 z
    refine e_sipush (k := 10) (v := (300 : Int32)) rfl (by decide) ?_
    refine e_iload_n (k := 11) (i := 1) rfl rfl 1 rfl ?_
    refine e_iconst (k := 12) (v := (1 : Int32)) rfl (by decide) ?_
    refine e_isub (k := 13) rfl ?_
    refine e_imul (k := 14) rfl ?_
    refine e_iload_n (k := 15) (i := 2) rfl rfl 2 rfl ?_
    refine e_iadd (k := 16) rfl ?_
    refine e_ilet h (fun y1 h => ?_)
    refine e_istore_n (k := 17) (i := 3) (lv' := [(0, .ref (gR g 0)), (1, .int a0), (2, .int a1), (3, .int y1)]) rfl rfl (by decide) [1, 2, 3, 0] rfl ?_
    refine e_aload_n (k := 18) (i := 0) rfl rfl 0 rfl ?_
    refine e_getC (k := 19) rfl f_X12_84 rfl rfl ?_
    refine e_iload_n (k := 20) (i := 3) rfl rfl 3 rfl ?_
    refine e_lald (k := 21) rfl rfl h.1 ?_
    have h := h.2
    refine e_lconst (k := 22) (v := (0 : Int64)) rfl (by decide) ?_
    refine e_lcmp (k := 23) rfl ?_
    refine e_if_lt (k := 24) (tgt := 53) rfl (by decide) (fun z => ?_) (fun z => ?_)
    · have h := h.1 z
      refine e_sub (lv' := []) [] rfl ?_
      exact s_X12_full_53 hg h
    · have h := h.2 z
      refine e_aload_n (k := 25) (i := 0) rfl rfl 0 rfl ?_
      refine e_getC (k := 26) rfl f_X12_84 rfl rfl ?_
      refine e_iload_n (k := 27) (i := 3) rfl rfl 3 rfl ?_
      refine e_lald (k := 28) rfl rfl h.1 ?_
      have h := h.2
      refine e_aload_n (k := 29) (i := 0) rfl rfl 0 rfl ?_
      refine e_getC (k := 30) rfl f_X12_81 rfl rfl ?_
      refine e_iload_n (k := 31) (i := 3) rfl rfl 3 rfl ?_
      refine e_lald (k := 32) rfl rfl h.1 ?_
      have h := h.2
      refine e_lcmp (k := 33) rfl ?_
      refine e_if_ne (k := 34) (tgt := 57) rfl (by decide) (fun z => ?_) (fun z => ?_)
      · have h := h.1 z
        refine e_iconst (k := 37) (v := (0 : Int32)) rfl (by decide) ?_
        refine e_sub (lv' := []) [] rfl ?_
        exact s_X12_full_58 hg h
      · have h := h.2 z
        refine e_sub (lv' := []) [] rfl ?_
        exact s_X12_full_53 hg h
  · have h := h.2 z
    refine e_iconst (k := 8) (v := (-1 : Int32)) rfl (by decide) ?_
    exact e_iret (k := 9) rfl rfl (Or.inl ⟨_, rfl, h⟩)
def il_X12_is : List (Nat × Instr × Nat) := [(0, .aload_n 0, 1), (1, .invokevirtual 162, 3), (4, .iload_n 1, 1), (5, .if_icmp .ne 7, 3), (8, .iconst 1, 1), (9, .goto 4, 3), (12, .iconst 0, 1), (13, .ireturn, 1)]
set_option maxRecDepth 20000 in
theorem il_X12_is_ok : ∀ x ∈ il_X12_is, decode cX12_is x.1 = .ok x.2 := by decide +kernel
abbrev me_X12_is : Me := (RX12, il_X12_is, 2, (some .boolean), xRoom 3, [])
def w_X12_is_13 (n : Nat) (t0 : Int32) (u0 : Mm) (Q : Int32 → Mm → Prop) (T : Mm → Prop) : Prop :=
  narrow .boolean (.int t0) = .int t0 ∧ Q t0 u0
def w_X12_is (n : Nat) (a0 : Int32) (u0 : Mm) (Q : Int32 → Mm → Prop) (T : Mm → Prop) : Prop :=
  w_X12_here n u0 (fun r1 u1 =>
  (¬ r1 = a0 → w_X12_is_13 n (0 : Int32) u1 Q T) ∧
  (r1 = a0 → w_X12_is_13 n (1 : Int32) u1 Q T)) T
set_option maxRecDepth 20000 in
theorem s_X12_is_13 {g : Gb} (hg : xInj g) {n : Nat} {Q : Int32 → Mm → Prop} {T : Mm → Prop} {t0 : Int32} {u0 : Mm} (h : w_X12_is_13 n t0 u0 Q T) : xE g me_X12_is (pI g Q T) 13 [] [.int t0] u0 := by
  unfold w_X12_is_13 at h
  exact e_zret (k := 7) rfl rfl h.1 (Or.inl ⟨_, rfl, h.2⟩)
set_option maxRecDepth 20000 in
theorem c_X12_is {g : Gb} (hg : xInj g) {n : Nat} {a0 : Int32} {u0 : Mm} {Q : Int32 → Mm → Prop} {T : Mm → Prop} (h : w_X12_is n a0 u0 Q T) : xMet (gL g) yX12_is (xws yX12_is cX12_is 2 (some .boolean)) (xRoom 3) (xPc g [.ref (gR g 0), .int a0] u0) (xQ g (pI g Q T)) (xA g) := by
  refine xbody (il := il_X12_is) hg il_X12_is_ok m_X12_is (Nat.le_of_ble_eq_true rfl) ?_
  show xE g me_X12_is (pI g Q T) 0 [(0, .ref (gR g 0)), (1, .int a0)] [] u0
  unfold w_X12_is at h
  refine e_aload_n (k := 0) (i := 0) rfl rfl 0 rfl ?_
  refine e_callVi (k := 1) (q := 0) (As := []) (rest := []) rfl (c_X12_here (g := g) hg (n := n) h) m_X12_here i_X12_here l_X12_162 rfl ⟨_, rfl, rfl⟩ rfl rfl (Nat.le_of_ble_eq_true rfl) ⟨by decide, by decide, rfl, rfl⟩ (fun _ h => ⟨fun _ z => (by cases z), Or.inr ⟨rfl, h⟩⟩) (fun r1 u1 h => ?_)
  refine e_iload_n (k := 2) (i := 1) rfl rfl 1 rfl ?_
  refine e_icmp_ne (k := 3) (tgt := 12) rfl (by decide) (fun z => ?_) (fun z => ?_)
  · have h := h.1 z
    refine e_iconst (k := 6) (v := (0 : Int32)) rfl (by decide) ?_
    refine e_sub (lv' := []) [] rfl ?_
    exact s_X12_is_13 hg h
  · have h := h.2 z
    refine e_iconst (k := 4) (v := (1 : Int32)) rfl (by decide) ?_
    refine e_goto (k := 5) (tgt := 13) rfl (by decide) ?_
    refine e_sub (lv' := []) [] rfl ?_
    exact s_X12_is_13 hg h
def il_X12_length : List (Nat × Instr × Nat) := [(0, .aload_n 0, 1), (1, .iconst 0, 1), (2, .putfield 1, 3), (5, .aload_n 0, 1), (6, .iload_n 1, 1), (7, .iload_n 2, 1), (8, .invokevirtual 510, 3), (11, .ifCond .eq 9, 3), (14, .ldc2_w 373, 3), (17, .goto 17, 3), (20, .aload_n 0, 1), (21, .getfield 81, 3), (24, .sipush 300, 3), (27, .iload_n 1, 1), (28, .iconst 1, 1), (29, .isub, 1), (30, .imul, 1), (31, .iload_n 2, 1), (32, .iadd, 1), (33, .laload, 1), (34, .lreturn, 1)]
set_option maxRecDepth 20000 in
theorem il_X12_length_ok : ∀ x ∈ il_X12_length, decode cX12_length x.1 = .ok x.2 := by decide +kernel
abbrev me_X12_length : Me := (RX12, il_X12_length, 3, (some .long), xRoom 3, [])
def w_X12_length_34 (n : Nat) (t0 : Int64) (u0 : Mm) (Q : Int64 → Mm → Prop) (T : Mm → Prop) : Prop :=
  Q t0 u0
def w_X12_length (n : Nat) (a0 : Int32) (a1 : Int32) (u0 : Mm) (Q : Int64 → Mm → Prop) (T : Mm → Prop) : Prop :=
  mlet (setI u0 0 0 (0 : Int32)) fun u1 =>
  w_X12_noMeasure n a0 a1 u1 (fun r1 u2 =>
  (r1 = 0 → vp_in (((300 : Int32) * (a0 - (1 : Int32))) + a1) 900 ∧ (w_X12_length_34 n (u2.2.1 20 (ix (((300 : Int32) * (a0 - (1 : Int32))) + a1))) u2 Q T)) ∧
  (¬ r1 = 0 → w_X12_length_34 n (-1 : Int64) u2 Q T)) T
set_option maxRecDepth 20000 in
theorem s_X12_length_34 {g : Gb} (hg : xInj g) {n : Nat} {Q : Int64 → Mm → Prop} {T : Mm → Prop} {t0 : Int64} {u0 : Mm} (h : w_X12_length_34 n t0 u0 Q T) : xE g me_X12_length (pL g Q T) 34 [] [.long t0] u0 := by
  unfold w_X12_length_34 at h
  exact e_lret (k := 20) rfl rfl (Or.inl ⟨_, rfl, h⟩)
set_option maxRecDepth 20000 in
theorem c_X12_length {g : Gb} (hg : xInj g) {n : Nat} {a0 : Int32} {a1 : Int32} {u0 : Mm} {Q : Int64 → Mm → Prop} {T : Mm → Prop} (h : w_X12_length n a0 a1 u0 Q T) : xMet (gL g) yX12_length (xws yX12_length cX12_length 3 (some .long)) (xRoom 3) (xPc g [.ref (gR g 0), .int a0, .int a1] u0) (xQ g (pL g Q T)) (xA g) := by
  refine xbody (il := il_X12_length) hg il_X12_length_ok m_X12_length (Nat.le_of_ble_eq_true rfl) ?_
  show xE g me_X12_length (pL g Q T) 0 [(0, .ref (gR g 0)), (1, .int a0), (2, .int a1)] [] u0
  unfold w_X12_length at h
  refine e_aload_n (k := 0) (i := 0) rfl rfl 0 rfl ?_
  refine e_iconst (k := 1) (v := (0 : Int32)) rfl (by decide) ?_
  refine e_putI (k := 2) rfl fg_X12_1 rfl rfl ?_
  refine e_mlet h (fun u1 h => ?_)
  refine e_aload_n (k := 3) (i := 0) rfl rfl 0 rfl ?_
  refine e_iload_n (k := 4) (i := 1) rfl rfl 1 rfl ?_
  refine e_iload_n (k := 5) (i := 2) rfl rfl 2 rfl ?_
  refine e_callVi (k := 6) (q := 0) (As := [.int a0, .int a1]) (rest := []) rfl (c_X12_noMeasure (g := g) hg (n := n) h) m_X12_noMeasure i_X12_noMeasure l_X12_510 rfl ⟨_, rfl, rfl⟩ rfl rfl (Nat.le_of_ble_eq_true rfl) ⟨by decide, by decide, rfl, rfl⟩ (fun _ h => ⟨fun _ z => (by cases z), Or.inr ⟨rfl, h⟩⟩) (fun r1 u2 h => ?_)
  refine e_if_eq (k := 7) (tgt := 20) rfl (by decide) (fun z => ?_) (fun z => ?_)
  · have h := h.1 z
    refine e_aload_n (k := 10) (i := 0) rfl rfl 0 rfl ?_
    refine e_getC (k := 11) rfl f_X12_81 rfl rfl ?_
    refine e_sipush (k := 12) (v := (300 : Int32)) rfl (by decide) ?_
    refine e_iload_n (k := 13) (i := 1) rfl rfl 1 rfl ?_
    refine e_iconst (k := 14) (v := (1 : Int32)) rfl (by decide) ?_
    refine e_isub (k := 15) rfl ?_
    refine e_imul (k := 16) rfl ?_
    refine e_iload_n (k := 17) (i := 2) rfl rfl 2 rfl ?_
    refine e_iadd (k := 18) rfl ?_
    refine e_lald (k := 19) rfl rfl h.1 ?_
    have h := h.2
    refine e_sub (lv' := []) [] rfl ?_
    exact s_X12_length_34 hg h
  · have h := h.2 z
    refine e_ldc2 (k := 8) rfl k_X12_373 ?_
    refine e_goto (k := 9) (tgt := 34) rfl (by decide) ?_
    refine e_sub (lv' := []) [] rfl ?_
    exact s_X12_length_34 hg h
def il_X12_numberOf : List (Nat × Instr × Nat) := [(0, .iconst 0, 1), (1, .istore 4, 2), (3, .aload_n 0, 1), (4, .getfield 138, 3), (7, .istore 5, 2), (9, .aload_n 0, 1), (10, .invokevirtual 162, 3), (13, .invokestatic 182, 3), (16, .ifCond .eq 43, 3), (19, .iload 4, 2), (21, .ldc 185, 2), (23, .if_icmp .le 8, 3), (26, .iload 4, 2), (28, .goto 16, 3), (31, .bipush 10, 2), (33, .iload 4, 2), (35, .imul, 1), (36, .aload_n 0, 1), (37, .invokevirtual 162, 3), (40, .iadd, 1), (41, .bipush 48, 2), (43, .isub, 1), (44, .istore 4, 2), (46, .aload_n 0, 1), (47, .dup, 1), (48, .getfield 138, 3), (51, .iconst 1, 1), (52, .iadd, 1), (53, .putfield 138, 3), (56, .goto (-47), 3), (59, .aload_n 0, 1), (60, .getfield 138, 3), (63, .iload 5, 2), (65, .if_icmp .eq 16, 3), (68, .iload 4, 2), (70, .i2l, 1), (71, .iload_n 1, 1), (72, .i2l, 1), (73, .iload_n 2, 1), (74, .i2l, 1), (75, .invokestatic 125, 3), (78, .ifCond .ne 9, 3), (81, .aload_n 0, 1), (82, .iconst 1, 1), (83, .iload_n 3, 1), (84, .invokevirtual 148, 3), (87, .iload 4, 2), (89, .ireturn, 1)]
set_option maxRecDepth 20000 in
theorem il_X12_numberOf_ok : ∀ x ∈ il_X12_numberOf, decode cX12_numberOf x.1 = .ok x.2 := by decide +kernel
abbrev me_X12_numberOf : Me := (RX12, il_X12_numberOf, 6, (some .int), xRoom 3, [])
def w_X12_numberOf_87 (n : Nat) (x4 : Int32) (u0 : Mm) (Q : Int32 → Mm → Prop) (T : Mm → Prop) : Prop :=
  Q x4 u0
def w_X12_numberOf_81 (n : Nat) (x3 : Int32) (x4 : Int32) (u0 : Mm) (Q : Int32 → Mm → Prop) (T : Mm → Prop) : Prop :=
  w_X12_fail n (1 : Int32) x3 u0 (fun u1 =>
  w_X12_numberOf_87 n x4 u1 Q T) T
def w_X12_numberOf_44 (n : Nat) (L9 : Int32 → Int32 → Int32 → Int32 → Int32 → Mm → Prop) (x1 : Int32) (x2 : Int32) (x3 : Int32) (x5 : Int32) (t0 : Int32) (u0 : Mm) (Q : Int32 → Mm → Prop) (T : Mm → Prop) : Prop :=
  mlet (setI u0 0 7 ((u0.1 0 7) + (1 : Int32))) fun u1 =>
  L9 x1 x2 x3 t0 x5 u1
def w_X12_numberOf_9 (n : Nat) (Q : Int32 → Mm → Prop) (T : Mm → Prop) : Nat → Int32 → Int32 → Int32 → Int32 → Int32 → Mm → Prop
  | 0, _, _, _, _, _, _ => False
  | k + 1, x1, x2, x3, x4, x5, u0 =>
  w_X12_here n u0 (fun r1 u1 =>
  w_X12_isDigit n r1 u1 (fun r2 u2 =>
  (r2 = 0 → ((u2.1 0 7) = x5 → w_X12_numberOf_81 n x3 x4 u2 Q T) ∧
  (¬ (u2.1 0 7) = x5 → w_X12_in n (x4.toInt64) (x1.toInt64) (x2.toInt64) u2 (fun r3 u3 =>
  (¬ r3 = 0 → w_X12_numberOf_87 n x4 u3 Q T) ∧
  (r3 = 0 → w_X12_numberOf_81 n x3 x4 u3 Q T)) T)) ∧
  (¬ r2 = 0 → (x4 ≤ (100000 : Int32) → w_X12_here n u2 (fun r4 u4 =>
  w_X12_numberOf_44 n (w_X12_numberOf_9 n Q T k) x1 x2 x3 x5 ((((10 : Int32) * x4) + r4) - (48 : Int32)) u4 Q T) T) ∧
  (¬ x4 ≤ (100000 : Int32) → w_X12_numberOf_44 n (w_X12_numberOf_9 n Q T k) x1 x2 x3 x5 x4 u2 Q T))) T) T
def w_X12_numberOf (n : Nat) (a0 : Int32) (a1 : Int32) (a2 : Int32) (u0 : Mm) (Q : Int32 → Mm → Prop) (T : Mm → Prop) : Prop :=
  ilet (u0.1 0 7) fun y1 =>
  (w_X12_numberOf_9 n Q T n) a0 a1 a2 (0 : Int32) y1 u0
set_option maxRecDepth 20000 in
theorem s_X12_numberOf_87 {g : Gb} (hg : xInj g) {n : Nat} {Q : Int32 → Mm → Prop} {T : Mm → Prop} {x4 : Int32} {u0 : Mm} (h : w_X12_numberOf_87 n x4 u0 Q T) : xE g me_X12_numberOf (pI g Q T) 87 [(4, .int x4)] [] u0 := by
  unfold w_X12_numberOf_87 at h
  refine e_iload (k := 46) (i := 4) rfl 0 rfl ?_
  exact e_iret (k := 47) rfl rfl (Or.inl ⟨_, rfl, h⟩)
set_option maxRecDepth 20000 in
theorem s_X12_numberOf_81 {g : Gb} (hg : xInj g) {n : Nat} {Q : Int32 → Mm → Prop} {T : Mm → Prop} {x3 : Int32} {x4 : Int32} {u0 : Mm} (h : w_X12_numberOf_81 n x3 x4 u0 Q T) : xE g me_X12_numberOf (pI g Q T) 81 [(0, .ref (gR g 0)), (3, .int x3), (4, .int x4)] [] u0 := by
  unfold w_X12_numberOf_81 at h
  refine e_aload_n (k := 42) (i := 0) rfl rfl 0 rfl ?_
  refine e_iconst (k := 43) (v := (1 : Int32)) rfl (by decide) ?_
  refine e_iload_n (k := 44) (i := 3) rfl rfl 1 rfl ?_
  refine e_callVv (k := 45) (q := 0) (As := [.int (1 : Int32), .int x3]) (rest := []) rfl (c_X12_fail (g := g) hg (n := n) h) m_X12_fail i_X12_fail l_X12_148 rfl ⟨_, rfl, rfl⟩ rfl rfl (Nat.le_of_ble_eq_true rfl) ⟨by decide, by decide, rfl, rfl⟩ (fun _ h => ⟨fun _ z => (by cases z), Or.inr ⟨rfl, h⟩⟩) (fun u1 h => ?_)
  refine e_sub (lv' := [(4, .int x4)]) [2] rfl ?_
  exact s_X12_numberOf_87 hg h
set_option maxRecDepth 20000 in
theorem s_X12_numberOf_44 {g : Gb} (hg : xInj g) {n : Nat} {Q : Int32 → Mm → Prop} {T : Mm → Prop} {L9 : Int32 → Int32 → Int32 → Int32 → Int32 → Mm → Prop} (hL9 : ∀ (x1 : Int32) (x2 : Int32) (x3 : Int32) (x4 : Int32) (x5 : Int32) (u0 : Mm), L9 x1 x2 x3 x4 x5 u0 → xE g me_X12_numberOf (pI g Q T) 9 [(0, .ref (gR g 0)), (1, .int x1), (2, .int x2), (3, .int x3), (4, .int x4), (5, .int x5)] [] u0) {x1 : Int32} {x2 : Int32} {x3 : Int32} {x5 : Int32} {t0 : Int32} {u0 : Mm} (h : w_X12_numberOf_44 n L9 x1 x2 x3 x5 t0 u0 Q T) : xE g me_X12_numberOf (pI g Q T) 44 [(0, .ref (gR g 0)), (1, .int x1), (2, .int x2), (3, .int x3), (5, .int x5)] [.int t0] u0 := by
  unfold w_X12_numberOf_44 at h
  refine e_istore (k := 22) (i := 4) (lv' := [(0, .ref (gR g 0)), (1, .int x1), (2, .int x2), (3, .int x3), (4, .int t0), (5, .int x5)]) rfl (by decide) [1, 2, 3, 4, 0, 5] rfl ?_
  refine e_aload_n (k := 23) (i := 0) rfl rfl 0 rfl ?_
  refine e_dup (k := 24) rfl rfl ?_
  refine e_getI (k := 25) rfl f_X12_138 rfl rfl ?_
  refine e_iconst (k := 26) (v := (1 : Int32)) rfl (by decide) ?_
  refine e_iadd (k := 27) rfl ?_
  refine e_putI (k := 28) rfl fg_X12_138 rfl rfl ?_
  refine e_mlet h (fun u1 h => ?_)
  refine e_goto (k := 29) (tgt := 9) rfl (by decide) ?_
  exact hL9 x1 x2 x3 t0 x5 u1 h
set_option maxRecDepth 20000 in
theorem s_X12_numberOf_9 {g : Gb} (hg : xInj g) {n : Nat} {Q : Int32 → Mm → Prop} {T : Mm → Prop} : ∀ (k : Nat) (x1 : Int32) (x2 : Int32) (x3 : Int32) (x4 : Int32) (x5 : Int32) (u0 : Mm), w_X12_numberOf_9 n Q T k x1 x2 x3 x4 x5 u0 → xE g me_X12_numberOf (pI g Q T) 9 [(0, .ref (gR g 0)), (1, .int x1), (2, .int x2), (3, .int x3), (4, .int x4), (5, .int x5)] [] u0 := by
  intro k
  induction k with
  | zero => intro x1 x2 x3 x4 x5 u0 h; exact h.elim
  | succ k ih =>
    intro x1 x2 x3 x4 x5 u0 h
    unfold w_X12_numberOf_9 at h
    refine e_aload_n (k := 5) (i := 0) rfl rfl 0 rfl ?_
    refine e_callVi (k := 6) (q := 0) (As := []) (rest := []) rfl (c_X12_here (g := g) hg (n := n) h) m_X12_here i_X12_here l_X12_162 rfl ⟨_, rfl, rfl⟩ rfl rfl (Nat.le_of_ble_eq_true rfl) ⟨by decide, by decide, rfl, rfl⟩ (fun _ h => ⟨fun _ z => (by cases z), Or.inr ⟨rfl, h⟩⟩) (fun r1 u1 h => ?_)
    refine e_callSi (k := 7) (As := [.int r1]) (rest := []) rfl (c_X12_isDigit (g := g) hg (n := n) h) m_X12_isDigit st_X12_isDigit l_X12_182 rfl rfl (Nat.le_of_ble_eq_true rfl) ⟨by decide, by decide, rfl, rfl⟩ (fun _ h => ⟨fun _ z => (by cases z), Or.inr ⟨rfl, h⟩⟩) (fun r2 u2 h => ?_)
    refine e_if_eq (k := 8) (tgt := 59) rfl (by decide) (fun z => ?_) (fun z => ?_)
    · have h := h.1 z
      refine e_aload_n (k := 30) (i := 0) rfl rfl 0 rfl ?_
      refine e_getI (k := 31) rfl f_X12_138 rfl rfl ?_
      refine e_iload (k := 32) (i := 5) rfl 5 rfl ?_
      refine e_icmp_eq (k := 33) (tgt := 81) rfl (by decide) (fun z => ?_) (fun z => ?_)
      · have h := h.1 z
        refine e_sub (lv' := [(0, .ref (gR g 0)), (3, .int x3), (4, .int x4)]) [0, 3, 4] rfl ?_
        exact s_X12_numberOf_81 hg h
      · have h := h.2 z
        refine e_iload (k := 34) (i := 4) rfl 4 rfl ?_
        refine e_i2l (k := 35) rfl ?_
        refine e_iload_n (k := 36) (i := 1) rfl rfl 1 rfl ?_
        refine e_i2l (k := 37) rfl ?_
        refine e_iload_n (k := 38) (i := 2) rfl rfl 2 rfl ?_
        refine e_i2l (k := 39) rfl ?_
        refine e_callSi (k := 40) (As := [.long x4.toInt64, .long x1.toInt64, .long x2.toInt64]) (rest := []) rfl (c_X12_in (g := g) hg (n := n) h) m_X12_in st_X12_in l_X12_125 rfl rfl (Nat.le_of_ble_eq_true rfl) ⟨by decide, by decide, rfl, rfl⟩ (fun _ h => ⟨fun _ z => (by cases z), Or.inr ⟨rfl, h⟩⟩) (fun r3 u3 h => ?_)
        refine e_if_ne (k := 41) (tgt := 87) rfl (by decide) (fun z => ?_) (fun z => ?_)
        · have h := h.1 z
          refine e_sub (lv' := [(4, .int x4)]) [4] rfl ?_
          exact s_X12_numberOf_87 hg h
        · have h := h.2 z
          refine e_sub (lv' := [(0, .ref (gR g 0)), (3, .int x3), (4, .int x4)]) [0, 3, 4] rfl ?_
          exact s_X12_numberOf_81 hg h
    · have h := h.2 z
      refine e_iload (k := 9) (i := 4) rfl 4 rfl ?_
      refine e_ldc (k := 10) rfl k_X12_185 ?_
      refine e_icmp_le (k := 11) (tgt := 31) rfl (by decide) (fun z => ?_) (fun z => ?_)
      · have h := h.1 z
        refine e_bipush (k := 14) (v := (10 : Int32)) rfl (by decide) ?_
        refine e_iload (k := 15) (i := 4) rfl 4 rfl ?_
        refine e_imul (k := 16) rfl ?_
        refine e_aload_n (k := 17) (i := 0) rfl rfl 0 rfl ?_
        refine e_callVi (k := 18) (q := 0) (As := []) (rest := [.int ((10 : Int32) * x4)]) rfl (c_X12_here (g := g) hg (n := n) h) m_X12_here i_X12_here l_X12_162 rfl ⟨_, rfl, rfl⟩ rfl rfl (Nat.le_of_ble_eq_true rfl) ⟨by decide, by decide, rfl, rfl⟩ (fun _ h => ⟨fun _ z => (by cases z), Or.inr ⟨rfl, h⟩⟩) (fun r4 u4 h => ?_)
        refine e_iadd (k := 19) rfl ?_
        refine e_bipush (k := 20) (v := (48 : Int32)) rfl (by decide) ?_
        refine e_isub (k := 21) rfl ?_
        refine e_sub (lv' := [(0, .ref (gR g 0)), (1, .int x1), (2, .int x2), (3, .int x3), (5, .int x5)]) [0, 1, 2, 3, 5] rfl ?_
        exact s_X12_numberOf_44 hg ih h
      · have h := h.2 z
        refine e_iload (k := 12) (i := 4) rfl 4 rfl ?_
        refine e_goto (k := 13) (tgt := 44) rfl (by decide) ?_
        refine e_sub (lv' := [(0, .ref (gR g 0)), (1, .int x1), (2, .int x2), (3, .int x3), (5, .int x5)]) [0, 1, 2, 3, 5] rfl ?_
        exact s_X12_numberOf_44 hg ih h
set_option maxRecDepth 20000 in
theorem c_X12_numberOf {g : Gb} (hg : xInj g) {n : Nat} {a0 : Int32} {a1 : Int32} {a2 : Int32} {u0 : Mm} {Q : Int32 → Mm → Prop} {T : Mm → Prop} (h : w_X12_numberOf n a0 a1 a2 u0 Q T) : xMet (gL g) yX12_numberOf (xws yX12_numberOf cX12_numberOf 6 (some .int)) (xRoom 3) (xPc g [.ref (gR g 0), .int a0, .int a1, .int a2] u0) (xQ g (pI g Q T)) (xA g) := by
  refine xbody (il := il_X12_numberOf) hg il_X12_numberOf_ok m_X12_numberOf (Nat.le_of_ble_eq_true rfl) ?_
  show xE g me_X12_numberOf (pI g Q T) 0 [(0, .ref (gR g 0)), (1, .int a0), (2, .int a1), (3, .int a2)] [] u0
  unfold w_X12_numberOf at h
  refine e_iconst (k := 0) (v := (0 : Int32)) rfl (by decide) ?_
  refine e_istore (k := 1) (i := 4) (lv' := [(0, .ref (gR g 0)), (1, .int a0), (2, .int a1), (3, .int a2), (4, .int (0 : Int32))]) rfl (by decide) [1, 2, 3, 4, 0] rfl ?_
  refine e_aload_n (k := 2) (i := 0) rfl rfl 0 rfl ?_
  refine e_getI (k := 3) rfl f_X12_138 rfl rfl ?_
  refine e_ilet h (fun y1 h => ?_)
  refine e_istore (k := 4) (i := 5) (lv' := [(0, .ref (gR g 0)), (1, .int a0), (2, .int a1), (3, .int a2), (4, .int (0 : Int32)), (5, .int y1)]) rfl (by decide) [1, 2, 3, 4, 5, 0] rfl ?_
  exact s_X12_numberOf_9 hg n a0 a1 a2 (0 : Int32) y1 u0 h
def il_X12_oneDigit : List (Nat × Instr × Nat) := [(0, .aload_n 0, 1), (1, .invokevirtual 162, 3), (4, .istore_n 2, 1), (5, .iload_n 2, 1), (6, .bipush 48, 2), (8, .isub, 1), (9, .i2l, 1), (10, .iload_n 1, 1), (11, .i2l, 1), (12, .ldc2_w 444, 3), (15, .invokestatic 125, 3), (18, .ifCond .ne 12, 3), (21, .aload_n 0, 1), (22, .iconst 1, 1), (23, .aload_n 0, 1), (24, .getfield 138, 3), (27, .invokevirtual 148, 3), (30, .aload_n 0, 1), (31, .dup, 1), (32, .getfield 138, 3), (35, .iconst 1, 1), (36, .iadd, 1), (37, .putfield 138, 3), (40, .iload_n 2, 1), (41, .bipush 48, 2), (43, .isub, 1), (44, .ireturn, 1)]
set_option maxRecDepth 20000 in
theorem il_X12_oneDigit_ok : ∀ x ∈ il_X12_oneDigit, decode cX12_oneDigit x.1 = .ok x.2 := by decide +kernel
abbrev me_X12_oneDigit : Me := (RX12, il_X12_oneDigit, 3, (some .int), xRoom 3, [])
def w_X12_oneDigit_30 (n : Nat) (x2 : Int32) (u0 : Mm) (Q : Int32 → Mm → Prop) (T : Mm → Prop) : Prop :=
  mlet (setI u0 0 7 ((u0.1 0 7) + (1 : Int32))) fun u1 =>
  Q (x2 - (48 : Int32)) u1
def w_X12_oneDigit (n : Nat) (a0 : Int32) (u0 : Mm) (Q : Int32 → Mm → Prop) (T : Mm → Prop) : Prop :=
  w_X12_here n u0 (fun r1 u1 =>
  w_X12_in n (r1 - (48 : Int32)).toInt64 (a0.toInt64) (9 : Int64) u1 (fun r2 u2 =>
  (¬ r2 = 0 → w_X12_oneDigit_30 n r1 u2 Q T) ∧
  (r2 = 0 → w_X12_fail n (1 : Int32) (u2.1 0 7) u2 (fun u3 =>
  w_X12_oneDigit_30 n r1 u3 Q T) T)) T) T
set_option maxRecDepth 20000 in
theorem s_X12_oneDigit_30 {g : Gb} (hg : xInj g) {n : Nat} {Q : Int32 → Mm → Prop} {T : Mm → Prop} {x2 : Int32} {u0 : Mm} (h : w_X12_oneDigit_30 n x2 u0 Q T) : xE g me_X12_oneDigit (pI g Q T) 30 [(0, .ref (gR g 0)), (2, .int x2)] [] u0 := by
  unfold w_X12_oneDigit_30 at h
  refine e_aload_n (k := 17) (i := 0) rfl rfl 0 rfl ?_
  refine e_dup (k := 18) rfl rfl ?_
  refine e_getI (k := 19) rfl f_X12_138 rfl rfl ?_
  refine e_iconst (k := 20) (v := (1 : Int32)) rfl (by decide) ?_
  refine e_iadd (k := 21) rfl ?_
  refine e_putI (k := 22) rfl fg_X12_138 rfl rfl ?_
  refine e_mlet h (fun u1 h => ?_)
  refine e_iload_n (k := 23) (i := 2) rfl rfl 1 rfl ?_
  refine e_bipush (k := 24) (v := (48 : Int32)) rfl (by decide) ?_
  refine e_isub (k := 25) rfl ?_
  exact e_iret (k := 26) rfl rfl (Or.inl ⟨_, rfl, h⟩)
set_option maxRecDepth 20000 in
theorem c_X12_oneDigit {g : Gb} (hg : xInj g) {n : Nat} {a0 : Int32} {u0 : Mm} {Q : Int32 → Mm → Prop} {T : Mm → Prop} (h : w_X12_oneDigit n a0 u0 Q T) : xMet (gL g) yX12_oneDigit (xws yX12_oneDigit cX12_oneDigit 3 (some .int)) (xRoom 3) (xPc g [.ref (gR g 0), .int a0] u0) (xQ g (pI g Q T)) (xA g) := by
  refine xbody (il := il_X12_oneDigit) hg il_X12_oneDigit_ok m_X12_oneDigit (Nat.le_of_ble_eq_true rfl) ?_
  show xE g me_X12_oneDigit (pI g Q T) 0 [(0, .ref (gR g 0)), (1, .int a0)] [] u0
  unfold w_X12_oneDigit at h
  refine e_aload_n (k := 0) (i := 0) rfl rfl 0 rfl ?_
  refine e_callVi (k := 1) (q := 0) (As := []) (rest := []) rfl (c_X12_here (g := g) hg (n := n) h) m_X12_here i_X12_here l_X12_162 rfl ⟨_, rfl, rfl⟩ rfl rfl (Nat.le_of_ble_eq_true rfl) ⟨by decide, by decide, rfl, rfl⟩ (fun _ h => ⟨fun _ z => (by cases z), Or.inr ⟨rfl, h⟩⟩) (fun r1 u1 h => ?_)
  refine e_istore_n (k := 2) (i := 2) (lv' := [(0, .ref (gR g 0)), (1, .int a0), (2, .int r1)]) rfl rfl (by decide) [1, 2, 0] rfl ?_
  refine e_iload_n (k := 3) (i := 2) rfl rfl 2 rfl ?_
  refine e_bipush (k := 4) (v := (48 : Int32)) rfl (by decide) ?_
  refine e_isub (k := 5) rfl ?_
  refine e_i2l (k := 6) rfl ?_
  refine e_iload_n (k := 7) (i := 1) rfl rfl 1 rfl ?_
  refine e_i2l (k := 8) rfl ?_
  refine e_ldc2 (k := 9) rfl k_X12_444 ?_
  refine e_callSi (k := 10) (As := [.long (r1 - (48 : Int32)).toInt64, .long a0.toInt64, .long (9 : Int64)]) (rest := []) rfl (c_X12_in (g := g) hg (n := n) h) m_X12_in st_X12_in l_X12_125 rfl rfl (Nat.le_of_ble_eq_true rfl) ⟨by decide, by decide, rfl, rfl⟩ (fun _ h => ⟨fun _ z => (by cases z), Or.inr ⟨rfl, h⟩⟩) (fun r2 u2 h => ?_)
  refine e_if_ne (k := 11) (tgt := 30) rfl (by decide) (fun z => ?_) (fun z => ?_)
  · have h := h.1 z
    refine e_sub (lv' := [(0, .ref (gR g 0)), (2, .int r1)]) [0, 2] rfl ?_
    exact s_X12_oneDigit_30 hg h
  · have h := h.2 z
    refine e_aload_n (k := 12) (i := 0) rfl rfl 0 rfl ?_
    refine e_iconst (k := 13) (v := (1 : Int32)) rfl (by decide) ?_
    refine e_aload_n (k := 14) (i := 0) rfl rfl 0 rfl ?_
    refine e_getI (k := 15) rfl f_X12_138 rfl rfl ?_
    refine e_callVv (k := 16) (q := 0) (As := [.int (1 : Int32), .int (u2.1 0 7)]) (rest := []) rfl (c_X12_fail (g := g) hg (n := n) h) m_X12_fail i_X12_fail l_X12_148 rfl ⟨_, rfl, rfl⟩ rfl rfl (Nat.le_of_ble_eq_true rfl) ⟨by decide, by decide, rfl, rfl⟩ (fun _ h => ⟨fun _ z => (by cases z), Or.inr ⟨rfl, h⟩⟩) (fun u3 h => ?_)
    refine e_sub (lv' := [(0, .ref (gR g 0)), (2, .int r1)]) [0, 2] rfl ?_
    exact s_X12_oneDigit_30 hg h
def il_X12_readBar : List (Nat × Instr × Nat) := [(0, .aload_n 0, 1), (1, .getfield 138, 3), (4, .istore_n 1, 1), (5, .aload_n 0, 1), (6, .invokevirtual 162, 3), (9, .istore_n 2, 1), (10, .aload_n 0, 1), (11, .aload_n 0, 1), (12, .getfield 138, 3), (15, .iconst 1, 1), (16, .iadd, 1), (17, .invokevirtual 141, 3), (20, .istore_n 3, 1), (21, .iload_n 2, 1), (22, .bipush 124, 2), (24, .if_icmp .ne 39, 3), (27, .iload_n 3, 1), (28, .bipush 124, 2), (30, .if_icmp .ne 7, 3), (33, .iconst 1, 1), (34, .goto 24, 3), (37, .iload_n 3, 1), (38, .bipush 93, 2), (40, .if_icmp .ne 7, 3), (43, .iconst 2, 1), (44, .goto 14, 3), (47, .iload_n 3, 1), (48, .bipush 58, 2), (50, .if_icmp .ne 7, 3), (53, .iconst 4, 1), (54, .goto 4, 3), (57, .iconst 0, 1), (58, .istore 4, 2), (60, .goto 50, 3), (63, .iload_n 2, 1), (64, .bipush 58, 2), (66, .if_icmp .ne 30, 3), (69, .iload_n 3, 1), (70, .bipush 124, 2), (72, .if_icmp .ne 7, 3), (75, .iconst 5, 1), (76, .goto 15, 3), (79, .iload_n 3, 1), (80, .bipush 58, 2), (82, .if_icmp .ne 8, 3), (85, .bipush 6, 2), (87, .goto 4, 3), (90, .iconst (-1), 1), (91, .istore 4, 2), (93, .goto 17, 3), (96, .iload_n 3, 1), (97, .bipush 124, 2), (99, .if_icmp .ne 7, 3), (102, .iconst 3, 1), (103, .goto 5, 3), (106, .bipush 7, 2), (108, .istore 4, 2), (110, .iload 4, 2), (112, .ifCond .ge 9, 3), (115, .aload_n 0, 1), (116, .iconst 1, 1), (117, .iload_n 1, 1), (118, .invokevirtual 148, 3), (121, .aload_n 0, 1), (122, .aload_n 0, 1), (123, .getfield 138, 3), (126, .iload 4, 2), (128, .ifCond .eq 10, 3), (131, .iload 4, 2), (133, .bipush 7, 2), (135, .if_icmp .ne 7, 3), (138, .iconst 1, 1), (139, .goto 4, 3), (142, .iconst 2, 1), (143, .iadd, 1), (144, .putfield 138, 3), (147, .iconst 0, 1), (148, .istore 5, 2), (150, .iload 4, 2), (152, .ifCond .eq 16, 3), (155, .iload 4, 2), (157, .iconst 5, 1), (158, .if_icmp .eq 10, 3), (161, .iload 4, 2), (163, .bipush 7, 2), (165, .if_icmp .ne 39, 3), (168, .aload_n 0, 1), (169, .invokevirtual 162, 3), (172, .i2l, 1), (173, .ldc2_w 387, 3), (176, .ldc2_w 389, 3), (179, .invokestatic 125, 3), (182, .ifCond .eq 22, 3), (185, .aload_n 0, 1), (186, .invokevirtual 162, 3), (189, .bipush 48, 2), (191, .isub, 1), (192, .istore 5, 2), (194, .aload_n 0, 1), (195, .dup, 1), (196, .getfield 138, 3), (199, .iconst 1, 1), (200, .iadd, 1), (201, .putfield 138, 3), (204, .aload_n 0, 1), (205, .iconst 4, 1), (206, .iload_n 1, 1), (207, .invokevirtual 333, 3), (210, .istore 6, 2), (212, .aload_n 0, 1), (213, .iload 6, 2), (215, .iconst 3, 1), (216, .iload 4, 2), (218, .invokevirtual 286, 3), (221, .aload_n 0, 1), (222, .iload 6, 2), (224, .bipush 15, 2), (226, .iload 5, 2), (228, .invokevirtual 286, 3), (231, .aload_n 0, 1), (232, .getfield 75, 3), (235, .aload_n 0, 1), (236, .getfield 290, 3), (239, .baload, 1), (240, .ifCond .eq 34, 3), (243, .aload_n 0, 1), (244, .getfield 75, 3), (247, .aload_n 0, 1), (248, .getfield 290, 3), (251, .iconst 0, 1), (252, .bastore, 1), (253, .aload_n 0, 1), (254, .getfield 53, 3), (257, .iload 6, 2), (259, .iconst 1, 1), (260, .bastore, 1), (261, .aload_n 0, 1), (262, .getfield 72, 3), (265, .aload_n 0, 1), (266, .getfield 290, 3), (269, .dup2, 1), (270, .iaload, 1), (271, .iconst 1, 1), (272, .iadd, 1), (273, .iastore, 1), (274, .aload_n 0, 1), (275, .invokevirtual 435, 3), (278, .return_, 1)]
set_option maxRecDepth 20000 in
theorem il_X12_readBar_ok : ∀ x ∈ il_X12_readBar, decode cX12_readBar x.1 = .ok x.2 := by decide +kernel
abbrev me_X12_readBar : Me := (RX12, il_X12_readBar, 7, none, xRoom 3, [])
def w_X12_readBar_274 (n : Nat) (u0 : Mm) (Q : Mm → Prop) (T : Mm → Prop) : Prop :=
  w_X12_clearBar n u0 (fun u1 =>
  Q u1) T
def w_X12_readBar_204 (n : Nat) (x1 : Int32) (x4 : Int32) (x5 : Int32) (u0 : Mm) (Q : Mm → Prop) (T : Mm → Prop) : Prop :=
  w_X12_newThing n (4 : Int32) x1 u0 (fun r1 u1 =>
  w_X12_set n r1 (3 : Int32) x4 u1 (fun u2 =>
  w_X12_set n r1 (15 : Int32) x5 u2 (fun u3 =>
  vp_in (u3.1 0 28) 3 ∧ (((u3.1 18 (ix (u3.1 0 28))) = 0 → w_X12_readBar_274 n u3 Q T) ∧
  (¬ (u3.1 18 (ix (u3.1 0 28))) = 0 → vp_in (u3.1 0 28) 3 ∧ (mlet (setI u3 18 (ix (u3.1 0 28)) (vp_nar .boolean (0 : Int32))) fun u4 =>
  vp_in r1 400 ∧ (mlet (setI u4 11 (ix r1) (vp_nar .boolean (1 : Int32))) fun u5 =>
  vp_in (u5.1 0 28) 3 ∧ (vp_in (u5.1 0 28) 3 ∧ (mlet (setI u5 17 (ix (u5.1 0 28)) ((u5.1 17 (ix (u5.1 0 28))) + (1 : Int32))) fun u6 =>
  w_X12_readBar_274 n u6 Q T))))))) T) T) T
def w_X12_readBar_168 (n : Nat) (x1 : Int32) (x4 : Int32) (x5 : Int32) (u0 : Mm) (Q : Mm → Prop) (T : Mm → Prop) : Prop :=
  w_X12_here n u0 (fun r1 u1 =>
  w_X12_in n (r1.toInt64) (49 : Int64) (52 : Int64) u1 (fun r2 u2 =>
  (r2 = 0 → w_X12_readBar_204 n x1 x4 x5 u2 Q T) ∧
  (¬ r2 = 0 → w_X12_here n u2 (fun r3 u3 =>
  ilet (r3 - (48 : Int32)) fun y1 =>
  mlet (setI u3 0 7 ((u3.1 0 7) + (1 : Int32))) fun u4 =>
  w_X12_readBar_204 n x1 x4 y1 u4 Q T) T)) T) T
def w_X12_readBar_143 (n : Nat) (x1 : Int32) (x4 : Int32) (t0 : Int32) (t1 : Int32) (u0 : Mm) (Q : Mm → Prop) (T : Mm → Prop) : Prop :=
  mlet (setI u0 0 7 (t1 + t0)) fun u1 =>
  (x4 = 0 → w_X12_readBar_168 n x1 x4 (0 : Int32) u1 Q T) ∧
  (¬ x4 = 0 → (x4 = (5 : Int32) → w_X12_readBar_168 n x1 x4 (0 : Int32) u1 Q T) ∧
  (¬ x4 = (5 : Int32) → (¬ x4 = (7 : Int32) → w_X12_readBar_204 n x1 x4 (0 : Int32) u1 Q T) ∧
  (x4 = (7 : Int32) → w_X12_readBar_168 n x1 x4 (0 : Int32) u1 Q T)))
def w_X12_readBar_138 (n : Nat) (x1 : Int32) (x4 : Int32) (t0 : Int32) (u0 : Mm) (Q : Mm → Prop) (T : Mm → Prop) : Prop :=
  w_X12_readBar_143 n x1 x4 (1 : Int32) t0 u0 Q T
def w_X12_readBar_121 (n : Nat) (x1 : Int32) (x4 : Int32) (u0 : Mm) (Q : Mm → Prop) (T : Mm → Prop) : Prop :=
  (x4 = 0 → w_X12_readBar_138 n x1 x4 (u0.1 0 7) u0 Q T) ∧
  (¬ x4 = 0 → (¬ x4 = (7 : Int32) → w_X12_readBar_143 n x1 x4 (2 : Int32) (u0.1 0 7) u0 Q T) ∧
  (x4 = (7 : Int32) → w_X12_readBar_138 n x1 x4 (u0.1 0 7) u0 Q T))
def w_X12_readBar_110 (n : Nat) (x1 : Int32) (x4 : Int32) (u0 : Mm) (Q : Mm → Prop) (T : Mm → Prop) : Prop :=
  (0 ≤ x4 → w_X12_readBar_121 n x1 x4 u0 Q T) ∧
  (¬ 0 ≤ x4 → w_X12_fail n (1 : Int32) x1 u0 (fun u1 =>
  w_X12_readBar_121 n x1 x4 u1 Q T) T)
def w_X12_readBar_108 (n : Nat) (x1 : Int32) (t0 : Int32) (u0 : Mm) (Q : Mm → Prop) (T : Mm → Prop) : Prop :=
  w_X12_readBar_110 n x1 t0 u0 Q T
def w_X12_readBar_91 (n : Nat) (x1 : Int32) (t0 : Int32) (u0 : Mm) (Q : Mm → Prop) (T : Mm → Prop) : Prop :=
  w_X12_readBar_110 n x1 t0 u0 Q T
def w_X12_readBar_58 (n : Nat) (x1 : Int32) (t0 : Int32) (u0 : Mm) (Q : Mm → Prop) (T : Mm → Prop) : Prop :=
  w_X12_readBar_110 n x1 t0 u0 Q T
def w_X12_readBar (n : Nat) (u0 : Mm) (Q : Mm → Prop) (T : Mm → Prop) : Prop :=
  ilet (u0.1 0 7) fun y1 =>
  w_X12_here n u0 (fun r1 u1 =>
  w_X12_peek n ((u1.1 0 7) + (1 : Int32)) u1 (fun r2 u2 =>
  (¬ r1 = (124 : Int32) → (¬ r1 = (58 : Int32) → (¬ r2 = (124 : Int32) → w_X12_readBar_108 n y1 (7 : Int32) u2 Q T) ∧
  (r2 = (124 : Int32) → w_X12_readBar_108 n y1 (3 : Int32) u2 Q T)) ∧
  (r1 = (58 : Int32) → (¬ r2 = (124 : Int32) → (¬ r2 = (58 : Int32) → w_X12_readBar_91 n y1 (-1 : Int32) u2 Q T) ∧
  (r2 = (58 : Int32) → w_X12_readBar_91 n y1 (6 : Int32) u2 Q T)) ∧
  (r2 = (124 : Int32) → w_X12_readBar_91 n y1 (5 : Int32) u2 Q T))) ∧
  (r1 = (124 : Int32) → (¬ r2 = (124 : Int32) → (¬ r2 = (93 : Int32) → (¬ r2 = (58 : Int32) → w_X12_readBar_58 n y1 (0 : Int32) u2 Q T) ∧
  (r2 = (58 : Int32) → w_X12_readBar_58 n y1 (4 : Int32) u2 Q T)) ∧
  (r2 = (93 : Int32) → w_X12_readBar_58 n y1 (2 : Int32) u2 Q T)) ∧
  (r2 = (124 : Int32) → w_X12_readBar_58 n y1 (1 : Int32) u2 Q T))) T) T
set_option maxRecDepth 20000 in
theorem s_X12_readBar_274 {g : Gb} (hg : xInj g) {n : Nat} {Q : Mm → Prop} {T : Mm → Prop} {u0 : Mm} (h : w_X12_readBar_274 n  u0 Q T) : xE g me_X12_readBar (pV g Q T) 274 [(0, .ref (gR g 0))] [] u0 := by
  unfold w_X12_readBar_274 at h
  refine e_aload_n (k := 145) (i := 0) rfl rfl 0 rfl ?_
  refine e_callVv (k := 146) (q := 0) (As := []) (rest := []) rfl (c_X12_clearBar (g := g) hg (n := n) h) m_X12_clearBar i_X12_clearBar l_X12_435 rfl ⟨_, rfl, rfl⟩ rfl rfl (Nat.le_of_ble_eq_true rfl) ⟨by decide, by decide, rfl, rfl⟩ (fun _ h => ⟨fun _ z => (by cases z), Or.inr ⟨rfl, h⟩⟩) (fun u1 h => ?_)
  exact e_vret (k := 147) rfl rfl (Or.inl ⟨rfl, h⟩)
set_option maxRecDepth 20000 in
theorem s_X12_readBar_204 {g : Gb} (hg : xInj g) {n : Nat} {Q : Mm → Prop} {T : Mm → Prop} {x1 : Int32} {x4 : Int32} {x5 : Int32} {u0 : Mm} (h : w_X12_readBar_204 n x1 x4 x5 u0 Q T) : xE g me_X12_readBar (pV g Q T) 204 [(0, .ref (gR g 0)), (1, .int x1), (4, .int x4), (5, .int x5)] [] u0 := by
  unfold w_X12_readBar_204 at h
  refine e_aload_n (k := 104) (i := 0) rfl rfl 0 rfl ?_
  refine e_iconst (k := 105) (v := (4 : Int32)) rfl (by decide) ?_
  refine e_iload_n (k := 106) (i := 1) rfl rfl 1 rfl ?_
  refine e_callVi (k := 107) (q := 0) (As := [.int (4 : Int32), .int x1]) (rest := []) rfl (c_X12_newThing (g := g) hg (n := n) h) m_X12_newThing i_X12_newThing l_X12_333 rfl ⟨_, rfl, rfl⟩ rfl rfl (Nat.le_of_ble_eq_true rfl) ⟨by decide, by decide, rfl, rfl⟩ (fun _ h => ⟨fun _ z => (by cases z), Or.inr ⟨rfl, h⟩⟩) (fun r1 u1 h => ?_)
  refine e_istore (k := 108) (i := 6) (lv' := [(0, .ref (gR g 0)), (1, .int x1), (4, .int x4), (5, .int x5), (6, .int r1)]) rfl (by decide) [1, 2, 3, 4, 0] rfl ?_
  refine e_aload_n (k := 109) (i := 0) rfl rfl 0 rfl ?_
  refine e_iload (k := 110) (i := 6) rfl 4 rfl ?_
  refine e_iconst (k := 111) (v := (3 : Int32)) rfl (by decide) ?_
  refine e_iload (k := 112) (i := 4) rfl 2 rfl ?_
  refine e_callVv (k := 113) (q := 0) (As := [.int r1, .int (3 : Int32), .int x4]) (rest := []) rfl (c_X12_set (g := g) hg (n := n) h) m_X12_set i_X12_set l_X12_286 rfl ⟨_, rfl, rfl⟩ rfl rfl (Nat.le_of_ble_eq_true rfl) ⟨by decide, by decide, rfl, rfl⟩ (fun _ h => ⟨fun _ z => (by cases z), Or.inr ⟨rfl, h⟩⟩) (fun u2 h => ?_)
  refine e_aload_n (k := 114) (i := 0) rfl rfl 0 rfl ?_
  refine e_iload (k := 115) (i := 6) rfl 4 rfl ?_
  refine e_bipush (k := 116) (v := (15 : Int32)) rfl (by decide) ?_
  refine e_iload (k := 117) (i := 5) rfl 3 rfl ?_
  refine e_callVv (k := 118) (q := 0) (As := [.int r1, .int (15 : Int32), .int x5]) (rest := []) rfl (c_X12_set (g := g) hg (n := n) h) m_X12_set i_X12_set l_X12_286 rfl ⟨_, rfl, rfl⟩ rfl rfl (Nat.le_of_ble_eq_true rfl) ⟨by decide, by decide, rfl, rfl⟩ (fun _ h => ⟨fun _ z => (by cases z), Or.inr ⟨rfl, h⟩⟩) (fun u3 h => ?_)
  refine e_aload_n (k := 119) (i := 0) rfl rfl 0 rfl ?_
  refine e_getC (k := 120) rfl f_X12_75 rfl rfl ?_
  refine e_aload_n (k := 121) (i := 0) rfl rfl 0 rfl ?_
  refine e_getI (k := 122) rfl f_X12_290 rfl rfl ?_
  refine e_zald (k := 123) rfl rfl h.1 ?_
  have h := h.2
  refine e_if_eq (k := 124) (tgt := 274) rfl (by decide) (fun z => ?_) (fun z => ?_)
  · have h := h.1 z
    refine e_sub (lv' := [(0, .ref (gR g 0))]) [0] rfl ?_
    exact s_X12_readBar_274 hg h
  · have h := h.2 z
    refine e_aload_n (k := 125) (i := 0) rfl rfl 0 rfl ?_
    refine e_getC (k := 126) rfl f_X12_75 rfl rfl ?_
    refine e_aload_n (k := 127) (i := 0) rfl rfl 0 rfl ?_
    refine e_getI (k := 128) rfl f_X12_290 rfl rfl ?_
    refine e_iconst (k := 129) (v := (0 : Int32)) rfl (by decide) ?_
    refine e_zast (k := 130) rfl rfl h.1 ?_
    have h := h.2
    refine e_mlet h (fun u4 h => ?_)
    refine e_aload_n (k := 131) (i := 0) rfl rfl 0 rfl ?_
    refine e_getC (k := 132) rfl f_X12_53 rfl rfl ?_
    refine e_iload (k := 133) (i := 6) rfl 4 rfl ?_
    refine e_iconst (k := 134) (v := (1 : Int32)) rfl (by decide) ?_
    refine e_zast (k := 135) rfl rfl h.1 ?_
    have h := h.2
    refine e_mlet h (fun u5 h => ?_)
    refine e_aload_n (k := 136) (i := 0) rfl rfl 0 rfl ?_
    refine e_getC (k := 137) rfl f_X12_72 rfl rfl ?_
    refine e_aload_n (k := 138) (i := 0) rfl rfl 0 rfl ?_
    refine e_getI (k := 139) rfl f_X12_290 rfl rfl ?_
    refine e_dup2 (k := 140) rfl rfl rfl ?_
    refine e_iald (k := 141) rfl rfl h.1 ?_
    have h := h.2
    refine e_iconst (k := 142) (v := (1 : Int32)) rfl (by decide) ?_
    refine e_iadd (k := 143) rfl ?_
    refine e_iast (k := 144) rfl rfl h.1 ?_
    have h := h.2
    refine e_mlet h (fun u6 h => ?_)
    refine e_sub (lv' := [(0, .ref (gR g 0))]) [0] rfl ?_
    exact s_X12_readBar_274 hg h
set_option maxRecDepth 20000 in
theorem s_X12_readBar_168 {g : Gb} (hg : xInj g) {n : Nat} {Q : Mm → Prop} {T : Mm → Prop} {x1 : Int32} {x4 : Int32} {x5 : Int32} {u0 : Mm} (h : w_X12_readBar_168 n x1 x4 x5 u0 Q T) : xE g me_X12_readBar (pV g Q T) 168 [(0, .ref (gR g 0)), (1, .int x1), (4, .int x4), (5, .int x5)] [] u0 := by
  unfold w_X12_readBar_168 at h
  refine e_aload_n (k := 86) (i := 0) rfl rfl 0 rfl ?_
  refine e_callVi (k := 87) (q := 0) (As := []) (rest := []) rfl (c_X12_here (g := g) hg (n := n) h) m_X12_here i_X12_here l_X12_162 rfl ⟨_, rfl, rfl⟩ rfl rfl (Nat.le_of_ble_eq_true rfl) ⟨by decide, by decide, rfl, rfl⟩ (fun _ h => ⟨fun _ z => (by cases z), Or.inr ⟨rfl, h⟩⟩) (fun r1 u1 h => ?_)
  refine e_i2l (k := 88) rfl ?_
  refine e_ldc2 (k := 89) rfl k_X12_387 ?_
  refine e_ldc2 (k := 90) rfl k_X12_389 ?_
  refine e_callSi (k := 91) (As := [.long r1.toInt64, .long (49 : Int64), .long (52 : Int64)]) (rest := []) rfl (c_X12_in (g := g) hg (n := n) h) m_X12_in st_X12_in l_X12_125 rfl rfl (Nat.le_of_ble_eq_true rfl) ⟨by decide, by decide, rfl, rfl⟩ (fun _ h => ⟨fun _ z => (by cases z), Or.inr ⟨rfl, h⟩⟩) (fun r2 u2 h => ?_)
  refine e_if_eq (k := 92) (tgt := 204) rfl (by decide) (fun z => ?_) (fun z => ?_)
  · have h := h.1 z
    exact s_X12_readBar_204 hg h
  · have h := h.2 z
    refine e_aload_n (k := 93) (i := 0) rfl rfl 0 rfl ?_
    refine e_callVi (k := 94) (q := 0) (As := []) (rest := []) rfl (c_X12_here (g := g) hg (n := n) h) m_X12_here i_X12_here l_X12_162 rfl ⟨_, rfl, rfl⟩ rfl rfl (Nat.le_of_ble_eq_true rfl) ⟨by decide, by decide, rfl, rfl⟩ (fun _ h => ⟨fun _ z => (by cases z), Or.inr ⟨rfl, h⟩⟩) (fun r3 u3 h => ?_)
    refine e_bipush (k := 95) (v := (48 : Int32)) rfl (by decide) ?_
    refine e_isub (k := 96) rfl ?_
    refine e_ilet h (fun y1 h => ?_)
    refine e_istore (k := 97) (i := 5) (lv' := [(0, .ref (gR g 0)), (1, .int x1), (4, .int x4), (5, .int y1)]) rfl (by decide) [1, 2, 3, 0] rfl ?_
    refine e_aload_n (k := 98) (i := 0) rfl rfl 0 rfl ?_
    refine e_dup (k := 99) rfl rfl ?_
    refine e_getI (k := 100) rfl f_X12_138 rfl rfl ?_
    refine e_iconst (k := 101) (v := (1 : Int32)) rfl (by decide) ?_
    refine e_iadd (k := 102) rfl ?_
    refine e_putI (k := 103) rfl fg_X12_138 rfl rfl ?_
    refine e_mlet h (fun u4 h => ?_)
    exact s_X12_readBar_204 hg h
set_option maxRecDepth 20000 in
theorem s_X12_readBar_143 {g : Gb} (hg : xInj g) {n : Nat} {Q : Mm → Prop} {T : Mm → Prop} {x1 : Int32} {x4 : Int32} {t0 : Int32} {t1 : Int32} {u0 : Mm} (h : w_X12_readBar_143 n x1 x4 t0 t1 u0 Q T) : xE g me_X12_readBar (pV g Q T) 143 [(0, .ref (gR g 0)), (1, .int x1), (4, .int x4)] [.int t0, .int t1, .ref (gR g 0)] u0 := by
  unfold w_X12_readBar_143 at h
  refine e_iadd (k := 74) rfl ?_
  refine e_putI (k := 75) rfl fg_X12_138 rfl rfl ?_
  refine e_mlet h (fun u1 h => ?_)
  refine e_iconst (k := 76) (v := (0 : Int32)) rfl (by decide) ?_
  refine e_istore (k := 77) (i := 5) (lv' := [(0, .ref (gR g 0)), (1, .int x1), (4, .int x4), (5, .int (0 : Int32))]) rfl (by decide) [1, 2, 3, 0] rfl ?_
  refine e_iload (k := 78) (i := 4) rfl 2 rfl ?_
  refine e_if_eq (k := 79) (tgt := 168) rfl (by decide) (fun z => ?_) (fun z => ?_)
  · have h := h.1 z
    exact s_X12_readBar_168 hg h
  · have h := h.2 z
    refine e_iload (k := 80) (i := 4) rfl 2 rfl ?_
    refine e_iconst (k := 81) (v := (5 : Int32)) rfl (by decide) ?_
    refine e_icmp_eq (k := 82) (tgt := 168) rfl (by decide) (fun z => ?_) (fun z => ?_)
    · have h := h.1 z
      exact s_X12_readBar_168 hg h
    · have h := h.2 z
      refine e_iload (k := 83) (i := 4) rfl 2 rfl ?_
      refine e_bipush (k := 84) (v := (7 : Int32)) rfl (by decide) ?_
      refine e_icmp_ne (k := 85) (tgt := 204) rfl (by decide) (fun z => ?_) (fun z => ?_)
      · have h := h.1 z
        exact s_X12_readBar_204 hg h
      · have h := h.2 z
        exact s_X12_readBar_168 hg h
set_option maxRecDepth 20000 in
theorem s_X12_readBar_138 {g : Gb} (hg : xInj g) {n : Nat} {Q : Mm → Prop} {T : Mm → Prop} {x1 : Int32} {x4 : Int32} {t0 : Int32} {u0 : Mm} (h : w_X12_readBar_138 n x1 x4 t0 u0 Q T) : xE g me_X12_readBar (pV g Q T) 138 [(0, .ref (gR g 0)), (1, .int x1), (4, .int x4)] [.int t0, .ref (gR g 0)] u0 := by
  unfold w_X12_readBar_138 at h
  refine e_iconst (k := 71) (v := (1 : Int32)) rfl (by decide) ?_
  refine e_goto (k := 72) (tgt := 143) rfl (by decide) ?_
  exact s_X12_readBar_143 hg h
set_option maxRecDepth 20000 in
theorem s_X12_readBar_121 {g : Gb} (hg : xInj g) {n : Nat} {Q : Mm → Prop} {T : Mm → Prop} {x1 : Int32} {x4 : Int32} {u0 : Mm} (h : w_X12_readBar_121 n x1 x4 u0 Q T) : xE g me_X12_readBar (pV g Q T) 121 [(0, .ref (gR g 0)), (1, .int x1), (4, .int x4)] [] u0 := by
  unfold w_X12_readBar_121 at h
  refine e_aload_n (k := 63) (i := 0) rfl rfl 0 rfl ?_
  refine e_aload_n (k := 64) (i := 0) rfl rfl 0 rfl ?_
  refine e_getI (k := 65) rfl f_X12_138 rfl rfl ?_
  refine e_iload (k := 66) (i := 4) rfl 2 rfl ?_
  refine e_if_eq (k := 67) (tgt := 138) rfl (by decide) (fun z => ?_) (fun z => ?_)
  · have h := h.1 z
    exact s_X12_readBar_138 hg h
  · have h := h.2 z
    refine e_iload (k := 68) (i := 4) rfl 2 rfl ?_
    refine e_bipush (k := 69) (v := (7 : Int32)) rfl (by decide) ?_
    refine e_icmp_ne (k := 70) (tgt := 142) rfl (by decide) (fun z => ?_) (fun z => ?_)
    · have h := h.1 z
      refine e_iconst (k := 73) (v := (2 : Int32)) rfl (by decide) ?_
      exact s_X12_readBar_143 hg h
    · have h := h.2 z
      exact s_X12_readBar_138 hg h
set_option maxRecDepth 20000 in
theorem s_X12_readBar_110 {g : Gb} (hg : xInj g) {n : Nat} {Q : Mm → Prop} {T : Mm → Prop} {x1 : Int32} {x4 : Int32} {u0 : Mm} (h : w_X12_readBar_110 n x1 x4 u0 Q T) : xE g me_X12_readBar (pV g Q T) 110 [(0, .ref (gR g 0)), (1, .int x1), (4, .int x4)] [] u0 := by
  unfold w_X12_readBar_110 at h
  refine e_iload (k := 57) (i := 4) rfl 2 rfl ?_
  refine e_if_ge (k := 58) (tgt := 121) rfl (by decide) (fun z => ?_) (fun z => ?_)
  · have h := h.1 z
    exact s_X12_readBar_121 hg h
  · have h := h.2 z
    refine e_aload_n (k := 59) (i := 0) rfl rfl 0 rfl ?_
    refine e_iconst (k := 60) (v := (1 : Int32)) rfl (by decide) ?_
    refine e_iload_n (k := 61) (i := 1) rfl rfl 1 rfl ?_
    refine e_callVv (k := 62) (q := 0) (As := [.int (1 : Int32), .int x1]) (rest := []) rfl (c_X12_fail (g := g) hg (n := n) h) m_X12_fail i_X12_fail l_X12_148 rfl ⟨_, rfl, rfl⟩ rfl rfl (Nat.le_of_ble_eq_true rfl) ⟨by decide, by decide, rfl, rfl⟩ (fun _ h => ⟨fun _ z => (by cases z), Or.inr ⟨rfl, h⟩⟩) (fun u1 h => ?_)
    exact s_X12_readBar_121 hg h
set_option maxRecDepth 20000 in
theorem s_X12_readBar_108 {g : Gb} (hg : xInj g) {n : Nat} {Q : Mm → Prop} {T : Mm → Prop} {x1 : Int32} {t0 : Int32} {u0 : Mm} (h : w_X12_readBar_108 n x1 t0 u0 Q T) : xE g me_X12_readBar (pV g Q T) 108 [(0, .ref (gR g 0)), (1, .int x1)] [.int t0] u0 := by
  unfold w_X12_readBar_108 at h
  refine e_istore (k := 56) (i := 4) (lv' := [(0, .ref (gR g 0)), (1, .int x1), (4, .int t0)]) rfl (by decide) [1, 2, 0] rfl ?_
  exact s_X12_readBar_110 hg h
set_option maxRecDepth 20000 in
theorem s_X12_readBar_91 {g : Gb} (hg : xInj g) {n : Nat} {Q : Mm → Prop} {T : Mm → Prop} {x1 : Int32} {t0 : Int32} {u0 : Mm} (h : w_X12_readBar_91 n x1 t0 u0 Q T) : xE g me_X12_readBar (pV g Q T) 91 [(0, .ref (gR g 0)), (1, .int x1)] [.int t0] u0 := by
  unfold w_X12_readBar_91 at h
  refine e_istore (k := 48) (i := 4) (lv' := [(0, .ref (gR g 0)), (1, .int x1), (4, .int t0)]) rfl (by decide) [1, 2, 0] rfl ?_
  refine e_goto (k := 49) (tgt := 110) rfl (by decide) ?_
  exact s_X12_readBar_110 hg h
set_option maxRecDepth 20000 in
theorem s_X12_readBar_58 {g : Gb} (hg : xInj g) {n : Nat} {Q : Mm → Prop} {T : Mm → Prop} {x1 : Int32} {t0 : Int32} {u0 : Mm} (h : w_X12_readBar_58 n x1 t0 u0 Q T) : xE g me_X12_readBar (pV g Q T) 58 [(0, .ref (gR g 0)), (1, .int x1)] [.int t0] u0 := by
  unfold w_X12_readBar_58 at h
  refine e_istore (k := 32) (i := 4) (lv' := [(0, .ref (gR g 0)), (1, .int x1), (4, .int t0)]) rfl (by decide) [1, 2, 0] rfl ?_
  refine e_goto (k := 33) (tgt := 110) rfl (by decide) ?_
  exact s_X12_readBar_110 hg h
set_option maxRecDepth 20000 in
theorem c_X12_readBar {g : Gb} (hg : xInj g) {n : Nat} {u0 : Mm} {Q : Mm → Prop} {T : Mm → Prop} (h : w_X12_readBar n u0 Q T) : xMet (gL g) yX12_readBar (xws yX12_readBar cX12_readBar 7 none) (xRoom 3) (xPc g [.ref (gR g 0)] u0) (xQ g (pV g Q T)) (xA g) := by
  refine xbody (il := il_X12_readBar) hg il_X12_readBar_ok m_X12_readBar (Nat.le_of_ble_eq_true rfl) ?_
  show xE g me_X12_readBar (pV g Q T) 0 [(0, .ref (gR g 0))] [] u0
  unfold w_X12_readBar at h
  refine e_aload_n (k := 0) (i := 0) rfl rfl 0 rfl ?_
  refine e_getI (k := 1) rfl f_X12_138 rfl rfl ?_
  refine e_ilet h (fun y1 h => ?_)
  refine e_istore_n (k := 2) (i := 1) (lv' := [(0, .ref (gR g 0)), (1, .int y1)]) rfl rfl (by decide) [1, 0] rfl ?_
  refine e_aload_n (k := 3) (i := 0) rfl rfl 0 rfl ?_
  refine e_callVi (k := 4) (q := 0) (As := []) (rest := []) rfl (c_X12_here (g := g) hg (n := n) h) m_X12_here i_X12_here l_X12_162 rfl ⟨_, rfl, rfl⟩ rfl rfl (Nat.le_of_ble_eq_true rfl) ⟨by decide, by decide, rfl, rfl⟩ (fun _ h => ⟨fun _ z => (by cases z), Or.inr ⟨rfl, h⟩⟩) (fun r1 u1 h => ?_)
  refine e_istore_n (k := 5) (i := 2) (lv' := [(0, .ref (gR g 0)), (1, .int y1), (2, .int r1)]) rfl rfl (by decide) [1, 2, 0] rfl ?_
  refine e_aload_n (k := 6) (i := 0) rfl rfl 0 rfl ?_
  refine e_aload_n (k := 7) (i := 0) rfl rfl 0 rfl ?_
  refine e_getI (k := 8) rfl f_X12_138 rfl rfl ?_
  refine e_iconst (k := 9) (v := (1 : Int32)) rfl (by decide) ?_
  refine e_iadd (k := 10) rfl ?_
  refine e_callVi (k := 11) (q := 0) (As := [.int ((u1.1 0 7) + (1 : Int32))]) (rest := []) rfl (c_X12_peek (g := g) hg (n := n) h) m_X12_peek i_X12_peek l_X12_141 rfl ⟨_, rfl, rfl⟩ rfl rfl (Nat.le_of_ble_eq_true rfl) ⟨by decide, by decide, rfl, rfl⟩ (fun _ h => ⟨fun _ z => (by cases z), Or.inr ⟨rfl, h⟩⟩) (fun r2 u2 h => ?_)
  refine e_istore_n (k := 12) (i := 3) (lv' := [(0, .ref (gR g 0)), (1, .int y1), (2, .int r1), (3, .int r2)]) rfl rfl (by decide) [1, 2, 3, 0] rfl ?_
  refine e_iload_n (k := 13) (i := 2) rfl rfl 2 rfl ?_
  refine e_bipush (k := 14) (v := (124 : Int32)) rfl (by decide) ?_
  refine e_icmp_ne (k := 15) (tgt := 63) rfl (by decide) (fun z => ?_) (fun z => ?_)
  · have h := h.1 z
    refine e_iload_n (k := 34) (i := 2) rfl rfl 2 rfl ?_
    refine e_bipush (k := 35) (v := (58 : Int32)) rfl (by decide) ?_
    refine e_icmp_ne (k := 36) (tgt := 96) rfl (by decide) (fun z => ?_) (fun z => ?_)
    · have h := h.1 z
      refine e_iload_n (k := 50) (i := 3) rfl rfl 3 rfl ?_
      refine e_bipush (k := 51) (v := (124 : Int32)) rfl (by decide) ?_
      refine e_icmp_ne (k := 52) (tgt := 106) rfl (by decide) (fun z => ?_) (fun z => ?_)
      · have h := h.1 z
        refine e_bipush (k := 55) (v := (7 : Int32)) rfl (by decide) ?_
        refine e_sub (lv' := [(0, .ref (gR g 0)), (1, .int y1)]) [0, 1] rfl ?_
        exact s_X12_readBar_108 hg h
      · have h := h.2 z
        refine e_iconst (k := 53) (v := (3 : Int32)) rfl (by decide) ?_
        refine e_goto (k := 54) (tgt := 108) rfl (by decide) ?_
        refine e_sub (lv' := [(0, .ref (gR g 0)), (1, .int y1)]) [0, 1] rfl ?_
        exact s_X12_readBar_108 hg h
    · have h := h.2 z
      refine e_iload_n (k := 37) (i := 3) rfl rfl 3 rfl ?_
      refine e_bipush (k := 38) (v := (124 : Int32)) rfl (by decide) ?_
      refine e_icmp_ne (k := 39) (tgt := 79) rfl (by decide) (fun z => ?_) (fun z => ?_)
      · have h := h.1 z
        refine e_iload_n (k := 42) (i := 3) rfl rfl 3 rfl ?_
        refine e_bipush (k := 43) (v := (58 : Int32)) rfl (by decide) ?_
        refine e_icmp_ne (k := 44) (tgt := 90) rfl (by decide) (fun z => ?_) (fun z => ?_)
        · have h := h.1 z
          refine e_iconst (k := 47) (v := (-1 : Int32)) rfl (by decide) ?_
          refine e_sub (lv' := [(0, .ref (gR g 0)), (1, .int y1)]) [0, 1] rfl ?_
          exact s_X12_readBar_91 hg h
        · have h := h.2 z
          refine e_bipush (k := 45) (v := (6 : Int32)) rfl (by decide) ?_
          refine e_goto (k := 46) (tgt := 91) rfl (by decide) ?_
          refine e_sub (lv' := [(0, .ref (gR g 0)), (1, .int y1)]) [0, 1] rfl ?_
          exact s_X12_readBar_91 hg h
      · have h := h.2 z
        refine e_iconst (k := 40) (v := (5 : Int32)) rfl (by decide) ?_
        refine e_goto (k := 41) (tgt := 91) rfl (by decide) ?_
        refine e_sub (lv' := [(0, .ref (gR g 0)), (1, .int y1)]) [0, 1] rfl ?_
        exact s_X12_readBar_91 hg h
  · have h := h.2 z
    refine e_iload_n (k := 16) (i := 3) rfl rfl 3 rfl ?_
    refine e_bipush (k := 17) (v := (124 : Int32)) rfl (by decide) ?_
    refine e_icmp_ne (k := 18) (tgt := 37) rfl (by decide) (fun z => ?_) (fun z => ?_)
    · have h := h.1 z
      refine e_iload_n (k := 21) (i := 3) rfl rfl 3 rfl ?_
      refine e_bipush (k := 22) (v := (93 : Int32)) rfl (by decide) ?_
      refine e_icmp_ne (k := 23) (tgt := 47) rfl (by decide) (fun z => ?_) (fun z => ?_)
      · have h := h.1 z
        refine e_iload_n (k := 26) (i := 3) rfl rfl 3 rfl ?_
        refine e_bipush (k := 27) (v := (58 : Int32)) rfl (by decide) ?_
        refine e_icmp_ne (k := 28) (tgt := 57) rfl (by decide) (fun z => ?_) (fun z => ?_)
        · have h := h.1 z
          refine e_iconst (k := 31) (v := (0 : Int32)) rfl (by decide) ?_
          refine e_sub (lv' := [(0, .ref (gR g 0)), (1, .int y1)]) [0, 1] rfl ?_
          exact s_X12_readBar_58 hg h
        · have h := h.2 z
          refine e_iconst (k := 29) (v := (4 : Int32)) rfl (by decide) ?_
          refine e_goto (k := 30) (tgt := 58) rfl (by decide) ?_
          refine e_sub (lv' := [(0, .ref (gR g 0)), (1, .int y1)]) [0, 1] rfl ?_
          exact s_X12_readBar_58 hg h
      · have h := h.2 z
        refine e_iconst (k := 24) (v := (2 : Int32)) rfl (by decide) ?_
        refine e_goto (k := 25) (tgt := 58) rfl (by decide) ?_
        refine e_sub (lv' := [(0, .ref (gR g 0)), (1, .int y1)]) [0, 1] rfl ?_
        exact s_X12_readBar_58 hg h
    · have h := h.2 z
      refine e_iconst (k := 19) (v := (1 : Int32)) rfl (by decide) ?_
      refine e_goto (k := 20) (tgt := 58) rfl (by decide) ?_
      refine e_sub (lv' := [(0, .ref (gR g 0)), (1, .int y1)]) [0, 1] rfl ?_
      exact s_X12_readBar_58 hg h
