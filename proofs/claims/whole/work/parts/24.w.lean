/-! methods (by program) -/
def il_X12_end : List (Nat × Instr × Nat) := [(0, .aload_n 0, 1), (1, .iconst 0, 1), (2, .putfield 1, 3), (5, .iload_n 1, 1), (6, .i2l, 1), (7, .lconst 0, 1), (8, .ldc2_w 123, 3), (11, .invokestatic 125, 3), (14, .ifCond .eq 12, 3), (17, .aload_n 0, 1), (18, .getfield 120, 3), (21, .bipush 20, 2), (23, .if_icmp .ge 5, 3), (26, .iconst (-1), 1), (27, .ireturn, 1), (28, .aload_n 0, 1), (29, .aload_n 0, 1), (30, .getfield 120, 3), (33, .iload_n 1, 1), (34, .iadd, 1), (35, .bipush 20, 2), (37, .isub, 1), (38, .putfield 120, 3), (41, .aload_n 0, 1), (42, .getfield 120, 3), (45, .ireturn, 1)]
set_option maxRecDepth 20000 in
theorem il_X12_end_ok : ∀ x ∈ il_X12_end, decode cX12_end x.1 = .ok x.2 := by decide +kernel
abbrev me_X12_end : Me := (RX12, il_X12_end, 2, (some .int), xRoom 2, [])
def w_X12_end_26 (n : Nat) (u0 : Mm) (Q : Int32 → Mm → Prop) (T : Mm → Prop) : Prop :=
  Q (-1 : Int32) u0
def w_X12_end (n : Nat) (a0 : Int32) (u0 : Mm) (Q : Int32 → Mm → Prop) (T : Mm → Prop) : Prop :=
  mlet (setI u0 0 0 (0 : Int32)) fun u1 =>
  w_X12_in n (a0.toInt64) (0 : Int64) (20 : Int64) u1 (fun r1 u2 =>
  (r1 = 0 → w_X12_end_26 n u2 Q T) ∧
  (¬ r1 = 0 → ((20 : Int32) ≤ (u2.1 0 4) → mlet (setI u2 0 4 (((u2.1 0 4) + a0) - (20 : Int32))) fun u3 =>
  Q (u3.1 0 4) u3) ∧
  (¬ (20 : Int32) ≤ (u2.1 0 4) → w_X12_end_26 n u2 Q T))) T
set_option maxRecDepth 20000 in
theorem s_X12_end_26 {g : Gb} (hg : xInj g) {n : Nat} {Q : Int32 → Mm → Prop} {T : Mm → Prop} {u0 : Mm} (h : w_X12_end_26 n  u0 Q T) : xE g me_X12_end (pI g Q T) 26 [] [] u0 := by
  unfold w_X12_end_26 at h
  refine e_iconst (k := 13) (v := (-1 : Int32)) rfl (by decide) ?_
  exact e_iret (k := 14) rfl rfl (Or.inl ⟨_, rfl, h⟩)
set_option maxRecDepth 20000 in
theorem c_X12_end {g : Gb} (hg : xInj g) {n : Nat} {a0 : Int32} {u0 : Mm} {Q : Int32 → Mm → Prop} {T : Mm → Prop} (h : w_X12_end n a0 u0 Q T) : xMet (gL g) yX12_end (xws yX12_end cX12_end 2 (some .int)) (xRoom 2) (xPc g [.ref (gR g 0), .int a0] u0) (xQ g (pI g Q T)) (xA g) := by
  refine xbody (il := il_X12_end) hg il_X12_end_ok m_X12_end (Nat.le_of_ble_eq_true rfl) ?_
  show xE g me_X12_end (pI g Q T) 0 [(0, .ref (gR g 0)), (1, .int a0)] [] u0
  unfold w_X12_end at h
  refine e_aload_n (k := 0) (i := 0) rfl rfl 0 rfl ?_
  refine e_iconst (k := 1) (v := (0 : Int32)) rfl (by decide) ?_
  refine e_putI (k := 2) rfl fg_X12_1 rfl rfl ?_
  refine e_mlet h (fun u1 h => ?_)
  refine e_iload_n (k := 3) (i := 1) rfl rfl 1 rfl ?_
  refine e_i2l (k := 4) rfl ?_
  refine e_lconst (k := 5) (v := (0 : Int64)) rfl (by decide) ?_
  refine e_ldc2 (k := 6) rfl k_X12_123 ?_
  refine e_callSi (k := 7) (As := [.long a0.toInt64, .long (0 : Int64), .long (20 : Int64)]) (rest := []) rfl (c_X12_in (g := g) hg (n := n) h) m_X12_in st_X12_in l_X12_125 rfl rfl (Nat.le_of_ble_eq_true rfl) ⟨by decide, by decide, rfl, rfl⟩ (fun _ h => ⟨fun _ z => (by cases z), Or.inr ⟨rfl, h⟩⟩) (fun r1 u2 h => ?_)
  refine e_if_eq (k := 8) (tgt := 26) rfl (by decide) (fun z => ?_) (fun z => ?_)
  · have h := h.1 z
    refine e_sub (lv' := []) [] rfl ?_
    exact s_X12_end_26 hg h
  · have h := h.2 z
    refine e_aload_n (k := 9) (i := 0) rfl rfl 0 rfl ?_
    refine e_getI (k := 10) rfl f_X12_120 rfl rfl ?_
    refine e_bipush (k := 11) (v := (20 : Int32)) rfl (by decide) ?_
    refine e_icmp_ge (k := 12) (tgt := 28) rfl (by decide) (fun z => ?_) (fun z => ?_)
    · have h := h.1 z
      refine e_aload_n (k := 15) (i := 0) rfl rfl 0 rfl ?_
      refine e_aload_n (k := 16) (i := 0) rfl rfl 0 rfl ?_
      refine e_getI (k := 17) rfl f_X12_120 rfl rfl ?_
      refine e_iload_n (k := 18) (i := 1) rfl rfl 1 rfl ?_
      refine e_iadd (k := 19) rfl ?_
      refine e_bipush (k := 20) (v := (20 : Int32)) rfl (by decide) ?_
      refine e_isub (k := 21) rfl ?_
      refine e_putI (k := 22) rfl fg_X12_120 rfl rfl ?_
      refine e_mlet h (fun u3 h => ?_)
      refine e_aload_n (k := 23) (i := 0) rfl rfl 0 rfl ?_
      refine e_getI (k := 24) rfl f_X12_120 rfl rfl ?_
      exact e_iret (k := 25) rfl rfl (Or.inl ⟨_, rfl, h⟩)
    · have h := h.2 z
      refine e_sub (lv' := []) [] rfl ?_
      exact s_X12_end_26 hg h
def il_X12_endLine : List (Nat × Instr × Nat) := [(0, .aload_n 0, 1), (1, .getfield 138, 3), (4, .aload_n 0, 1), (5, .getfield 135, 3), (8, .if_icmp .ge 12, 3), (11, .aload_n 0, 1), (12, .iconst 1, 1), (13, .aload_n 0, 1), (14, .getfield 138, 3), (17, .invokevirtual 148, 3), (20, .aload_n 0, 1), (21, .aload_n 0, 1), (22, .getfield 159, 3), (25, .aload_n 0, 1), (26, .getfield 145, 3), (29, .if_icmp .ge 12, 3), (32, .aload_n 0, 1), (33, .getfield 159, 3), (36, .iconst 1, 1), (37, .iadd, 1), (38, .goto 7, 3), (41, .aload_n 0, 1), (42, .getfield 145, 3), (45, .putfield 138, 3), (48, .return_, 1)]
set_option maxRecDepth 20000 in
theorem il_X12_endLine_ok : ∀ x ∈ il_X12_endLine, decode cX12_endLine x.1 = .ok x.2 := by decide +kernel
abbrev me_X12_endLine : Me := (RX12, il_X12_endLine, 1, none, xRoom 2, [])
def w_X12_endLine_45 (n : Nat) (t0 : Int32) (u0 : Mm) (Q : Mm → Prop) (T : Mm → Prop) : Prop :=
  mlet (setI u0 0 7 t0) fun u1 =>
  Q u1
def w_X12_endLine_20 (n : Nat) (u0 : Mm) (Q : Mm → Prop) (T : Mm → Prop) : Prop :=
  ((u0.1 0 6) ≤ (u0.1 0 8) → w_X12_endLine_45 n (u0.1 0 6) u0 Q T) ∧
  (¬ (u0.1 0 6) ≤ (u0.1 0 8) → w_X12_endLine_45 n ((u0.1 0 8) + (1 : Int32)) u0 Q T)
def w_X12_endLine (n : Nat) (u0 : Mm) (Q : Mm → Prop) (T : Mm → Prop) : Prop :=
  ((u0.1 0 9) ≤ (u0.1 0 7) → w_X12_endLine_20 n u0 Q T) ∧
  (¬ (u0.1 0 9) ≤ (u0.1 0 7) → w_X12_fail n (1 : Int32) (u0.1 0 7) u0 (fun u1 =>
  w_X12_endLine_20 n u1 Q T) T)
set_option maxRecDepth 20000 in
theorem s_X12_endLine_45 {g : Gb} (hg : xInj g) {n : Nat} {Q : Mm → Prop} {T : Mm → Prop} {t0 : Int32} {u0 : Mm} (h : w_X12_endLine_45 n t0 u0 Q T) : xE g me_X12_endLine (pV g Q T) 45 [] [.int t0, .ref (gR g 0)] u0 := by
  unfold w_X12_endLine_45 at h
  refine e_putI (k := 23) rfl fg_X12_138 rfl rfl ?_
  refine e_mlet h (fun u1 h => ?_)
  exact e_vret (k := 24) rfl rfl (Or.inl ⟨rfl, h⟩)
set_option maxRecDepth 20000 in
theorem s_X12_endLine_20 {g : Gb} (hg : xInj g) {n : Nat} {Q : Mm → Prop} {T : Mm → Prop} {u0 : Mm} (h : w_X12_endLine_20 n  u0 Q T) : xE g me_X12_endLine (pV g Q T) 20 [(0, .ref (gR g 0))] [] u0 := by
  unfold w_X12_endLine_20 at h
  refine e_aload_n (k := 10) (i := 0) rfl rfl 0 rfl ?_
  refine e_aload_n (k := 11) (i := 0) rfl rfl 0 rfl ?_
  refine e_getI (k := 12) rfl f_X12_159 rfl rfl ?_
  refine e_aload_n (k := 13) (i := 0) rfl rfl 0 rfl ?_
  refine e_getI (k := 14) rfl f_X12_145 rfl rfl ?_
  refine e_icmp_ge (k := 15) (tgt := 41) rfl (by decide) (fun z => ?_) (fun z => ?_)
  · have h := h.1 z
    refine e_aload_n (k := 21) (i := 0) rfl rfl 0 rfl ?_
    refine e_getI (k := 22) rfl f_X12_145 rfl rfl ?_
    refine e_sub (lv' := []) [] rfl ?_
    exact s_X12_endLine_45 hg h
  · have h := h.2 z
    refine e_aload_n (k := 16) (i := 0) rfl rfl 0 rfl ?_
    refine e_getI (k := 17) rfl f_X12_159 rfl rfl ?_
    refine e_iconst (k := 18) (v := (1 : Int32)) rfl (by decide) ?_
    refine e_iadd (k := 19) rfl ?_
    refine e_goto (k := 20) (tgt := 45) rfl (by decide) ?_
    refine e_sub (lv' := []) [] rfl ?_
    exact s_X12_endLine_45 hg h
set_option maxRecDepth 20000 in
theorem c_X12_endLine {g : Gb} (hg : xInj g) {n : Nat} {u0 : Mm} {Q : Mm → Prop} {T : Mm → Prop} (h : w_X12_endLine n u0 Q T) : xMet (gL g) yX12_endLine (xws yX12_endLine cX12_endLine 1 none) (xRoom 2) (xPc g [.ref (gR g 0)] u0) (xQ g (pV g Q T)) (xA g) := by
  refine xbody (il := il_X12_endLine) hg il_X12_endLine_ok m_X12_endLine (Nat.le_of_ble_eq_true rfl) ?_
  show xE g me_X12_endLine (pV g Q T) 0 [(0, .ref (gR g 0))] [] u0
  unfold w_X12_endLine at h
  refine e_aload_n (k := 0) (i := 0) rfl rfl 0 rfl ?_
  refine e_getI (k := 1) rfl f_X12_138 rfl rfl ?_
  refine e_aload_n (k := 2) (i := 0) rfl rfl 0 rfl ?_
  refine e_getI (k := 3) rfl f_X12_135 rfl rfl ?_
  refine e_icmp_ge (k := 4) (tgt := 20) rfl (by decide) (fun z => ?_) (fun z => ?_)
  · have h := h.1 z
    exact s_X12_endLine_20 hg h
  · have h := h.2 z
    refine e_aload_n (k := 5) (i := 0) rfl rfl 0 rfl ?_
    refine e_iconst (k := 6) (v := (1 : Int32)) rfl (by decide) ?_
    refine e_aload_n (k := 7) (i := 0) rfl rfl 0 rfl ?_
    refine e_getI (k := 8) rfl f_X12_138 rfl rfl ?_
    refine e_callVv (k := 9) (q := 0) (As := [.int (1 : Int32), .int (u0.1 0 7)]) (rest := []) rfl (c_X12_fail (g := g) hg (n := n) h) m_X12_fail i_X12_fail l_X12_148 rfl ⟨_, rfl, rfl⟩ rfl rfl (Nat.le_of_ble_eq_true rfl) ⟨by decide, by decide, rfl, rfl⟩ (fun _ h => ⟨fun _ z => (by cases z), Or.inr ⟨rfl, h⟩⟩) (fun u1 h => ?_)
    exact s_X12_endLine_20 hg h
def il_X12_exact : List (Nat × Instr × Nat) := [(0, .lload_n 1, 1), (1, .lload_n 3, 1), (2, .lrem, 1), (3, .lconst 0, 1), (4, .lcmp, 1), (5, .ifCond .ne 21, 3), (8, .lload_n 1, 1), (9, .lload_n 3, 1), (10, .ldiv, 1), (11, .lconst 1, 1), (12, .lcmp, 1), (13, .ifCond .lt 13, 3), (16, .lload_n 1, 1), (17, .lload_n 3, 1), (18, .ldiv, 1), (19, .ldc2_w 347, 3), (22, .lcmp, 1), (23, .ifCond .le 10, 3), (26, .aload_n 0, 1), (27, .iconst 4, 1), (28, .iload 5, 2), (30, .invokevirtual 148, 3), (33, .lload_n 1, 1), (34, .lload_n 3, 1), (35, .ldiv, 1), (36, .lreturn, 1)]
set_option maxRecDepth 20000 in
theorem il_X12_exact_ok : ∀ x ∈ il_X12_exact, decode cX12_exact x.1 = .ok x.2 := by decide +kernel
abbrev me_X12_exact : Me := (RX12, il_X12_exact, 6, (some .long), xRoom 2, [])
def w_X12_exact_33 (n : Nat) (x1 : Int64) (x3 : Int64) (u0 : Mm) (Q : Int64 → Mm → Prop) (T : Mm → Prop) : Prop :=
  ¬ x3 = 0 ∧ (Q (x1 / x3) u0)
def w_X12_exact_26 (n : Nat) (x1 : Int64) (x3 : Int64) (x5 : Int32) (u0 : Mm) (Q : Int64 → Mm → Prop) (T : Mm → Prop) : Prop :=
  w_X12_fail n (4 : Int32) x5 u0 (fun u1 =>
  w_X12_exact_33 n x1 x3 u1 Q T) T
def w_X12_exact (n : Nat) (a0 : Int64) (a1 : Int64) (a2 : Int32) (u0 : Mm) (Q : Int64 → Mm → Prop) (T : Mm → Prop) : Prop :=
  ¬ a1 = 0 ∧ ((¬ (lg_cmp (a0 - a0 / a1 * a1) (0 : Int64)) = 0 → w_X12_exact_26 n a0 a1 a2 u0 Q T) ∧
  ((lg_cmp (a0 - a0 / a1 * a1) (0 : Int64)) = 0 → ¬ a1 = 0 ∧ (((lg_cmp (a0 / a1) (1 : Int64)) < 0 → w_X12_exact_26 n a0 a1 a2 u0 Q T) ∧
  (¬ (lg_cmp (a0 / a1) (1 : Int64)) < 0 → ¬ a1 = 0 ∧ (((lg_cmp (a0 / a1) (10321920 : Int64)) ≤ 0 → w_X12_exact_33 n a0 a1 u0 Q T) ∧
  (¬ (lg_cmp (a0 / a1) (10321920 : Int64)) ≤ 0 → w_X12_exact_26 n a0 a1 a2 u0 Q T))))))
set_option maxRecDepth 20000 in
theorem s_X12_exact_33 {g : Gb} (hg : xInj g) {n : Nat} {Q : Int64 → Mm → Prop} {T : Mm → Prop} {x1 : Int64} {x3 : Int64} {u0 : Mm} (h : w_X12_exact_33 n x1 x3 u0 Q T) : xE g me_X12_exact (pL g Q T) 33 [(1, .long x1), (3, .long x3)] [] u0 := by
  unfold w_X12_exact_33 at h
  refine e_lload_n (k := 22) (i := 1) rfl rfl 0 rfl ?_
  refine e_lload_n (k := 23) (i := 3) rfl rfl 1 rfl ?_
  refine e_ldiv (k := 24) rfl h.1 ?_
  have h := h.2
  exact e_lret (k := 25) rfl rfl (Or.inl ⟨_, rfl, h⟩)
set_option maxRecDepth 20000 in
theorem s_X12_exact_26 {g : Gb} (hg : xInj g) {n : Nat} {Q : Int64 → Mm → Prop} {T : Mm → Prop} {x1 : Int64} {x3 : Int64} {x5 : Int32} {u0 : Mm} (h : w_X12_exact_26 n x1 x3 x5 u0 Q T) : xE g me_X12_exact (pL g Q T) 26 [(0, .ref (gR g 0)), (1, .long x1), (3, .long x3), (5, .int x5)] [] u0 := by
  unfold w_X12_exact_26 at h
  refine e_aload_n (k := 18) (i := 0) rfl rfl 0 rfl ?_
  refine e_iconst (k := 19) (v := (4 : Int32)) rfl (by decide) ?_
  refine e_iload (k := 20) (i := 5) rfl 3 rfl ?_
  refine e_callVv (k := 21) (q := 0) (As := [.int (4 : Int32), .int x5]) (rest := []) rfl (c_X12_fail (g := g) hg (n := n) h) m_X12_fail i_X12_fail l_X12_148 rfl ⟨_, rfl, rfl⟩ rfl rfl (Nat.le_of_ble_eq_true rfl) ⟨by decide, by decide, rfl, rfl⟩ (fun _ h => ⟨fun _ z => (by cases z), Or.inr ⟨rfl, h⟩⟩) (fun u1 h => ?_)
  refine e_sub (lv' := [(1, .long x1), (3, .long x3)]) [1, 2] rfl ?_
  exact s_X12_exact_33 hg h
set_option maxRecDepth 20000 in
theorem c_X12_exact {g : Gb} (hg : xInj g) {n : Nat} {a0 : Int64} {a1 : Int64} {a2 : Int32} {u0 : Mm} {Q : Int64 → Mm → Prop} {T : Mm → Prop} (h : w_X12_exact n a0 a1 a2 u0 Q T) : xMet (gL g) yX12_exact (xws yX12_exact cX12_exact 6 (some .long)) (xRoom 2) (xPc g [.ref (gR g 0), .long a0, .long a1, .int a2] u0) (xQ g (pL g Q T)) (xA g) := by
  refine xbody (il := il_X12_exact) hg il_X12_exact_ok m_X12_exact (Nat.le_of_ble_eq_true rfl) ?_
  show xE g me_X12_exact (pL g Q T) 0 [(0, .ref (gR g 0)), (1, .long a0), (3, .long a1), (5, .int a2)] [] u0
  unfold w_X12_exact at h
  refine e_lload_n (k := 0) (i := 1) rfl rfl 1 rfl ?_
  refine e_lload_n (k := 1) (i := 3) rfl rfl 2 rfl ?_
  refine e_lrem (k := 2) rfl h.1 ?_
  have h := h.2
  refine e_lconst (k := 3) (v := (0 : Int64)) rfl (by decide) ?_
  refine e_lcmp (k := 4) rfl ?_
  refine e_if_ne (k := 5) (tgt := 26) rfl (by decide) (fun z => ?_) (fun z => ?_)
  · have h := h.1 z
    exact s_X12_exact_26 hg h
  · have h := h.2 z
    refine e_lload_n (k := 6) (i := 1) rfl rfl 1 rfl ?_
    refine e_lload_n (k := 7) (i := 3) rfl rfl 2 rfl ?_
    refine e_ldiv (k := 8) rfl h.1 ?_
    have h := h.2
    refine e_lconst (k := 9) (v := (1 : Int64)) rfl (by decide) ?_
    refine e_lcmp (k := 10) rfl ?_
    refine e_if_lt (k := 11) (tgt := 26) rfl (by decide) (fun z => ?_) (fun z => ?_)
    · have h := h.1 z
      exact s_X12_exact_26 hg h
    · have h := h.2 z
      refine e_lload_n (k := 12) (i := 1) rfl rfl 1 rfl ?_
      refine e_lload_n (k := 13) (i := 3) rfl rfl 2 rfl ?_
      refine e_ldiv (k := 14) rfl h.1 ?_
      have h := h.2
      refine e_ldc2 (k := 15) rfl k_X12_347 ?_
      refine e_lcmp (k := 16) rfl ?_
      refine e_if_le (k := 17) (tgt := 33) rfl (by decide) (fun z => ?_) (fun z => ?_)
      · have h := h.1 z
        refine e_sub (lv' := [(1, .long a0), (3, .long a1)]) [1, 2] rfl ?_
        exact s_X12_exact_33 hg h
      · have h := h.2 z
        exact s_X12_exact_26 hg h
def il_X12_findPlayed : List (Nat × Instr × Nat) := [(0, .iconst 0, 1), (1, .istore_n 1, 1), (2, .iload_n 1, 1), (3, .sipush 300, 3), (6, .if_icmp .gt 37, 3), (9, .aload_n 0, 1), (10, .getfield 99, 3), (13, .iload_n 1, 1), (14, .iconst 0, 1), (15, .bastore, 1), (16, .aload_n 0, 1), (17, .getfield 102, 3), (20, .iload_n 1, 1), (21, .iconst 0, 1), (22, .bastore, 1), (23, .aload_n 0, 1), (24, .getfield 105, 3), (27, .iload_n 1, 1), (28, .iconst 0, 1), (29, .bastore, 1), (30, .aload_n 0, 1), (31, .getfield 108, 3), (34, .iload_n 1, 1), (35, .iconst 0, 1), (36, .iastore, 1), (37, .iinc 1 1, 3), (40, .goto (-38), 3), (43, .iconst 0, 1), (44, .istore_n 1, 1), (45, .iload_n 1, 1), (46, .aload_n 0, 1), (47, .getfield 283, 3), (50, .if_icmp .ge 186, 3), (53, .aload_n 0, 1), (54, .iload_n 1, 1), (55, .iconst 0, 1), (56, .invokevirtual 293, 3), (59, .iconst 4, 1), (60, .if_icmp .ne 170, 3), (63, .aload_n 0, 1), (64, .iload_n 1, 1), (65, .iconst 1, 1), (66, .invokevirtual 293, 3), (69, .iconst 1, 1), (70, .if_icmp .ne 160, 3), (73, .aload_n 0, 1), (74, .iload_n 1, 1), (75, .iconst 2, 1), (76, .invokevirtual 293, 3), (79, .aload_n 0, 1), (80, .getfield 53, 3), (83, .iload_n 1, 1), (84, .baload, 1), (85, .ifCond .eq 7, 3), (88, .iconst 1, 1), (89, .goto 4, 3), (92, .iconst 0, 1), (93, .iadd, 1), (94, .istore_n 2, 1), (95, .aload_n 0, 1), (96, .iload_n 1, 1), (97, .iconst 3, 1), (98, .invokevirtual 293, 3), (101, .istore_n 3, 1), (102, .aload_n 0, 1), (103, .getfield 99, 3), (106, .iload_n 2, 1), (107, .aload_n 0, 1), (108, .getfield 99, 3), (111, .iload_n 2, 1), (112, .baload, 1), (113, .ifCond .ne 14, 3), (116, .iload_n 3, 1), (117, .iconst 4, 1), (118, .if_icmp .eq 9, 3), (121, .iload_n 3, 1), (122, .bipush 6, 2), (124, .if_icmp .ne 7, 3), (127, .iconst 1, 1), (128, .goto 4, 3), (131, .iconst 0, 1), (132, .bastore, 1), (133, .aload_n 0, 1), (134, .getfield 102, 3), (137, .iload_n 2, 1), (138, .aload_n 0, 1), (139, .getfield 102, 3), (142, .iload_n 2, 1), (143, .baload, 1), (144, .ifCond .ne 14, 3), (147, .iload_n 3, 1), (148, .iconst 5, 1), (149, .if_icmp .eq 9, 3), (152, .iload_n 3, 1), (153, .bipush 6, 2), (155, .if_icmp .ne 7, 3), (158, .iconst 1, 1), (159, .goto 4, 3), (162, .iconst 0, 1), (163, .bastore, 1), (164, .aload_n 0, 1), (165, .getfield 105, 3), (168, .iload_n 2, 1), (169, .aload_n 0, 1), (170, .getfield 105, 3), (173, .iload_n 2, 1), (174, .baload, 1), (175, .ifCond .ne 17, 3), (178, .iload_n 3, 1), (179, .ifCond .ne 13, 3), (182, .aload_n 0, 1), (183, .iload_n 1, 1), (184, .bipush 15, 2), (186, .invokevirtual 293, 3), (189, .ifCond .le 7, 3), (192, .iconst 1, 1), (193, .goto 4, 3), (196, .iconst 0, 1), (197, .bastore, 1), (198, .aload_n 0, 1), (199, .getfield 108, 3), (202, .iload_n 2, 1), (203, .aload_n 0, 1), (204, .iload_n 1, 1), (205, .bipush 15, 2), (207, .invokevirtual 293, 3), (210, .ifCond .le 13, 3), (213, .aload_n 0, 1), (214, .iload_n 1, 1), (215, .bipush 15, 2), (217, .invokevirtual 293, 3), (220, .goto 9, 3), (223, .aload_n 0, 1), (224, .getfield 108, 3), (227, .iload_n 2, 1), (228, .iaload, 1), (229, .iastore, 1), (230, .iinc 1 1, 3), (233, .goto (-188), 3), (236, .aload_n 0, 1), (237, .iconst 0, 1), (238, .putfield 513, 3), (241, .aload_n 0, 1), (242, .getfield 78, 3), (245, .iconst 0, 1), (246, .iaload, 1), (247, .istore_n 1, 1), (248, .iconst 0, 1), (249, .istore_n 2, 1), (250, .iconst 0, 1), (251, .istore_n 3, 1), (252, .iconst 0, 1), (253, .istore 4, 2), (255, .iconst 0, 1), (256, .istore 5, 2), (258, .iconst 0, 1), (259, .istore 6, 2), (261, .iload_n 2, 1), (262, .iload_n 1, 1), (263, .if_icmp .ge 228, 3), (266, .aload_n 0, 1), (267, .getfield 513, 3), (270, .sipush 1000, 3), (273, .if_icmp .ge 218, 3), (276, .iload 6, 2), (278, .ifCond .ne 17, 3), (281, .aload_n 0, 1), (282, .getfield 99, 3), (285, .iload_n 2, 1), (286, .baload, 1), (287, .ifCond .eq 8, 3), (290, .iload_n 2, 1), (291, .istore_n 3, 1), (292, .iconst 0, 1), (293, .istore 4, 2), (295, .iconst 0, 1), (296, .istore 6, 2), (298, .aload_n 0, 1), (299, .getfield 108, 3), (302, .iload_n 2, 1), (303, .iaload, 1), (304, .ifCond .eq 23, 3), (307, .aload_n 0, 1), (308, .getfield 108, 3), (311, .iload_n 2, 1), (312, .iaload, 1), (313, .iconst 1, 1), (314, .if_icmp .ne 7, 3), (317, .iconst 1, 1), (318, .goto 4, 3), (321, .iconst 0, 1), (322, .iload 4, 2), (324, .if_icmp .eq 7, 3), (327, .iconst 1, 1), (328, .goto 4, 3), (331, .iconst 0, 1), (332, .istore 7, 2), (334, .iload 5, 2), (336, .ifCond .ne 12, 3), (339, .aload_n 0, 1), (340, .getfield 108, 3), (343, .iload_n 2, 1), (344, .iaload, 1), (345, .ifCond .le 7, 3), (348, .iconst 1, 1), (349, .goto 4, 3), (352, .iconst 0, 1), (353, .istore 5, 2), (355, .iload 7, 2), (357, .ifCond .ne 34, 3), (360, .iload_n 2, 1), (361, .iload_n 1, 1), (362, .if_icmp .ge 20, 3), (365, .aload_n 0, 1), (366, .getfield 105, 3), (369, .iload_n 2, 1), (370, .iconst 1, 1), (371, .iadd, 1), (372, .baload, 1), (373, .ifCond .ne 9, 3), (376, .iinc 2 1, 3), (379, .goto (-19), 3), (382, .iinc 2 1, 3), (385, .iconst 0, 1), (386, .istore 5, 2), (388, .goto 100, 3), (391, .aload_n 0, 1), (392, .getfield 111, 3), (395, .aload_n 0, 1), (396, .getfield 513, 3), (399, .iload_n 2, 1), (400, .iastore, 1), (401, .aload_n 0, 1), (402, .dup, 1), (403, .getfield 513, 3), (406, .iconst 1, 1), (407, .iadd, 1), (408, .putfield 513, 3), (411, .aload_n 0, 1), (412, .getfield 102, 3), (415, .iload_n 2, 1), (416, .iconst 1, 1), (417, .iadd, 1), (418, .baload, 1), (419, .ifCond .eq 35, 3), (422, .iconst 0, 1), (423, .istore 5, 2), (425, .iload 4, 2), (427, .ifCond .ne 14, 3), (430, .iconst 1, 1), (431, .istore 4, 2), (433, .iload_n 3, 1), (434, .istore_n 2, 1), (435, .iconst 1, 1), (436, .istore 6, 2), (438, .goto 50, 3), (441, .iconst 0, 1), (442, .istore 4, 2), (444, .iload_n 2, 1), (445, .iconst 1, 1), (446, .iadd, 1), (447, .istore_n 3, 1), (448, .iinc 2 1, 3), (451, .goto 37, 3), (454, .aload_n 0, 1), (455, .getfield 105, 3), (458, .iload_n 2, 1), (459, .iconst 1, 1), (460, .iadd, 1), (461, .baload, 1), (462, .ifCond .eq 23, 3), (465, .iload 4, 2), (467, .ifCond .eq 15, 3), (470, .iload 5, 2), (472, .ifCond .eq 10, 3), (475, .iconst 0, 1), (476, .istore 4, 2), (478, .iload_n 2, 1), (479, .iconst 1, 1), (480, .iadd, 1), (481, .istore_n 3, 1), (482, .iconst 0, 1), (483, .istore 5, 2), (485, .iinc 2 1, 3), (488, .goto (-227), 3), (491, .return_, 1)]
set_option maxRecDepth 20000 in
theorem il_X12_findPlayed_ok : ∀ x ∈ il_X12_findPlayed, decode cX12_findPlayed x.1 = .ok x.2 := by decide +kernel
abbrev me_X12_findPlayed : Me := (RX12, il_X12_findPlayed, 8, none, xRoom 2, [])
def w_X12_findPlayed_491 (n : Nat) (u0 : Mm) (Q : Mm → Prop) (T : Mm → Prop) : Prop :=
  Q u0
def w_X12_findPlayed_488 (n : Nat) (L261 : Int32 → Int32 → Int32 → Int32 → Int32 → Int32 → Mm → Prop) (x1 : Int32) (x2 : Int32) (x3 : Int32) (x4 : Int32) (x5 : Int32) (x6 : Int32) (u0 : Mm) (Q : Mm → Prop) (T : Mm → Prop) : Prop :=
  L261 x1 x2 x3 x4 x5 x6 u0
def w_X12_findPlayed_485 (n : Nat) (L261 : Int32 → Int32 → Int32 → Int32 → Int32 → Int32 → Mm → Prop) (x1 : Int32) (x2 : Int32) (x3 : Int32) (x4 : Int32) (x5 : Int32) (x6 : Int32) (u0 : Mm) (Q : Mm → Prop) (T : Mm → Prop) : Prop :=
  w_X12_findPlayed_488 n L261 x1 (x2 + (1 : Int32)) x3 x4 x5 x6 u0 Q T
def w_X12_findPlayed_482 (n : Nat) (L261 : Int32 → Int32 → Int32 → Int32 → Int32 → Int32 → Mm → Prop) (x1 : Int32) (x2 : Int32) (x3 : Int32) (x4 : Int32) (x6 : Int32) (u0 : Mm) (Q : Mm → Prop) (T : Mm → Prop) : Prop :=
  w_X12_findPlayed_485 n L261 x1 x2 x3 x4 (0 : Int32) x6 u0 Q T
def w_X12_findPlayed_382 (n : Nat) (L261 : Int32 → Int32 → Int32 → Int32 → Int32 → Int32 → Mm → Prop) (x1 : Int32) (x2 : Int32) (x3 : Int32) (x4 : Int32) (x6 : Int32) (u0 : Mm) (Q : Mm → Prop) (T : Mm → Prop) : Prop :=
  w_X12_findPlayed_488 n L261 x1 (x2 + (1 : Int32)) x3 x4 (0 : Int32) x6 u0 Q T
def w_X12_findPlayed_360 (n : Nat) (L261 : Int32 → Int32 → Int32 → Int32 → Int32 → Int32 → Mm → Prop) (Q : Mm → Prop) (T : Mm → Prop) : Nat → Int32 → Int32 → Int32 → Int32 → Int32 → Mm → Prop
  | 0, _, _, _, _, _, _ => False
  | k + 1, x1, x2, x3, x4, x6, u0 =>
  (x1 ≤ x2 → w_X12_findPlayed_382 n L261 x1 x2 x3 x4 x6 u0 Q T) ∧
  (¬ x1 ≤ x2 → vp_in (x2 + (1 : Int32)) 301 ∧ ((¬ (u0.1 28 (ix (x2 + (1 : Int32)))) = 0 → w_X12_findPlayed_382 n L261 x1 x2 x3 x4 x6 u0 Q T) ∧
  ((u0.1 28 (ix (x2 + (1 : Int32)))) = 0 → (w_X12_findPlayed_360 n L261 Q T k) x1 (x2 + (1 : Int32)) x3 x4 x6 u0)))
def w_X12_findPlayed_353 (n : Nat) (L261 : Int32 → Int32 → Int32 → Int32 → Int32 → Int32 → Mm → Prop) (x1 : Int32) (x2 : Int32) (x3 : Int32) (x4 : Int32) (x6 : Int32) (x7 : Int32) (t0 : Int32) (u0 : Mm) (Q : Mm → Prop) (T : Mm → Prop) : Prop :=
  (¬ x7 = 0 → vp_in (u0.1 0 69) 1000 ∧ (mlet (setI u0 30 (ix (u0.1 0 69)) x2) fun u1 =>
  mlet (setI u1 0 69 ((u1.1 0 69) + (1 : Int32))) fun u2 =>
  vp_in (x2 + (1 : Int32)) 301 ∧ (((u2.1 27 (ix (x2 + (1 : Int32)))) = 0 → vp_in (x2 + (1 : Int32)) 301 ∧ (((u2.1 28 (ix (x2 + (1 : Int32)))) = 0 → w_X12_findPlayed_485 n L261 x1 x2 x3 x4 t0 x6 u2 Q T) ∧
  (¬ (u2.1 28 (ix (x2 + (1 : Int32)))) = 0 → (x4 = 0 → w_X12_findPlayed_482 n L261 x1 x2 x3 x4 x6 u2 Q T) ∧
  (¬ x4 = 0 → (t0 = 0 → w_X12_findPlayed_482 n L261 x1 x2 x3 x4 x6 u2 Q T) ∧
  (¬ t0 = 0 → ilet (x2 + (1 : Int32)) fun y1 =>
  w_X12_findPlayed_482 n L261 x1 x2 y1 (0 : Int32) x6 u2 Q T))))) ∧
  (¬ (u2.1 27 (ix (x2 + (1 : Int32)))) = 0 → (¬ x4 = 0 → ilet (x2 + (1 : Int32)) fun y2 =>
  w_X12_findPlayed_488 n L261 x1 (x2 + (1 : Int32)) y2 (0 : Int32) (0 : Int32) x6 u2 Q T) ∧
  (x4 = 0 → w_X12_findPlayed_488 n L261 x1 x3 x3 (1 : Int32) (0 : Int32) (1 : Int32) u2 Q T))))) ∧
  (x7 = 0 → (w_X12_findPlayed_360 n L261 Q T n) x1 x2 x3 x4 x6 u0)
def w_X12_findPlayed_348 (n : Nat) (L261 : Int32 → Int32 → Int32 → Int32 → Int32 → Int32 → Mm → Prop) (x1 : Int32) (x2 : Int32) (x3 : Int32) (x4 : Int32) (x6 : Int32) (x7 : Int32) (u0 : Mm) (Q : Mm → Prop) (T : Mm → Prop) : Prop :=
  w_X12_findPlayed_353 n L261 x1 x2 x3 x4 x6 x7 (1 : Int32) u0 Q T
def w_X12_findPlayed_332 (n : Nat) (L261 : Int32 → Int32 → Int32 → Int32 → Int32 → Int32 → Mm → Prop) (x1 : Int32) (x2 : Int32) (x3 : Int32) (x4 : Int32) (x5 : Int32) (x6 : Int32) (t0 : Int32) (u0 : Mm) (Q : Mm → Prop) (T : Mm → Prop) : Prop :=
  (¬ x5 = 0 → w_X12_findPlayed_348 n L261 x1 x2 x3 x4 x6 t0 u0 Q T) ∧
  (x5 = 0 → vp_in x2 301 ∧ (((u0.1 29 (ix x2)) ≤ 0 → w_X12_findPlayed_353 n L261 x1 x2 x3 x4 x6 t0 (0 : Int32) u0 Q T) ∧
  (¬ (u0.1 29 (ix x2)) ≤ 0 → w_X12_findPlayed_348 n L261 x1 x2 x3 x4 x6 t0 u0 Q T)))
def w_X12_findPlayed_327 (n : Nat) (L261 : Int32 → Int32 → Int32 → Int32 → Int32 → Int32 → Mm → Prop) (x1 : Int32) (x2 : Int32) (x3 : Int32) (x4 : Int32) (x5 : Int32) (x6 : Int32) (u0 : Mm) (Q : Mm → Prop) (T : Mm → Prop) : Prop :=
  w_X12_findPlayed_332 n L261 x1 x2 x3 x4 x5 x6 (1 : Int32) u0 Q T
def w_X12_findPlayed_322 (n : Nat) (L261 : Int32 → Int32 → Int32 → Int32 → Int32 → Int32 → Mm → Prop) (x1 : Int32) (x2 : Int32) (x3 : Int32) (x4 : Int32) (x5 : Int32) (x6 : Int32) (t0 : Int32) (u0 : Mm) (Q : Mm → Prop) (T : Mm → Prop) : Prop :=
  (t0 = x4 → w_X12_findPlayed_332 n L261 x1 x2 x3 x4 x5 x6 (0 : Int32) u0 Q T) ∧
  (¬ t0 = x4 → w_X12_findPlayed_327 n L261 x1 x2 x3 x4 x5 x6 u0 Q T)
def w_X12_findPlayed_295 (n : Nat) (L261 : Int32 → Int32 → Int32 → Int32 → Int32 → Int32 → Mm → Prop) (x1 : Int32) (x2 : Int32) (x3 : Int32) (x4 : Int32) (x5 : Int32) (u0 : Mm) (Q : Mm → Prop) (T : Mm → Prop) : Prop :=
  vp_in x2 301 ∧ (((u0.1 29 (ix x2)) = 0 → w_X12_findPlayed_327 n L261 x1 x2 x3 x4 x5 (0 : Int32) u0 Q T) ∧
  (¬ (u0.1 29 (ix x2)) = 0 → vp_in x2 301 ∧ ((¬ (u0.1 29 (ix x2)) = (1 : Int32) → w_X12_findPlayed_322 n L261 x1 x2 x3 x4 x5 (0 : Int32) (0 : Int32) u0 Q T) ∧
  ((u0.1 29 (ix x2)) = (1 : Int32) → w_X12_findPlayed_322 n L261 x1 x2 x3 x4 x5 (0 : Int32) (1 : Int32) u0 Q T))))
def w_X12_findPlayed_261 (n : Nat) (Q : Mm → Prop) (T : Mm → Prop) : Nat → Int32 → Int32 → Int32 → Int32 → Int32 → Int32 → Mm → Prop
  | 0, _, _, _, _, _, _, _ => False
  | k + 1, x1, x2, x3, x4, x5, x6, u0 =>
  (x1 ≤ x2 → w_X12_findPlayed_491 n u0 Q T) ∧
  (¬ x1 ≤ x2 → ((1000 : Int32) ≤ (u0.1 0 69) → w_X12_findPlayed_491 n u0 Q T) ∧
  (¬ (1000 : Int32) ≤ (u0.1 0 69) → (¬ x6 = 0 → w_X12_findPlayed_295 n (w_X12_findPlayed_261 n Q T k) x1 x2 x3 x4 x5 u0 Q T) ∧
  (x6 = 0 → vp_in x2 301 ∧ (((u0.1 26 (ix x2)) = 0 → w_X12_findPlayed_295 n (w_X12_findPlayed_261 n Q T k) x1 x2 x3 x4 x5 u0 Q T) ∧
  (¬ (u0.1 26 (ix x2)) = 0 → w_X12_findPlayed_295 n (w_X12_findPlayed_261 n Q T k) x1 x2 x2 (0 : Int32) x5 u0 Q T)))))
def w_X12_findPlayed_230 (n : Nat) (L45 : Int32 → Mm → Prop) (x1 : Int32) (u0 : Mm) (Q : Mm → Prop) (T : Mm → Prop) : Prop :=
  L45 (x1 + (1 : Int32)) u0
def w_X12_findPlayed_229 (n : Nat) (L45 : Int32 → Mm → Prop) (x1 : Int32) (t0 : Int32) (t1 : Int32) (u0 : Mm) (Q : Mm → Prop) (T : Mm → Prop) : Prop :=
  vp_in t1 301 ∧ (mlet (setI u0 29 (ix t1) t0) fun u1 =>
  w_X12_findPlayed_230 n L45 x1 u1 Q T)
def w_X12_findPlayed_197 (n : Nat) (L45 : Int32 → Mm → Prop) (x1 : Int32) (x2 : Int32) (t0 : Int32) (t1 : Int32) (u0 : Mm) (Q : Mm → Prop) (T : Mm → Prop) : Prop :=
  vp_in t1 301 ∧ (mlet (setI u0 28 (ix t1) (vp_nar .boolean t0)) fun u1 =>
  w_X12_get n x1 (15 : Int32) u1 (fun r1 u2 =>
  (r1 ≤ 0 → vp_in x2 301 ∧ (w_X12_findPlayed_229 n L45 x1 (u2.1 29 (ix x2)) x2 u2 Q T)) ∧
  (¬ r1 ≤ 0 → w_X12_get n x1 (15 : Int32) u2 (fun r2 u3 =>
  w_X12_findPlayed_229 n L45 x1 r2 x2 u3 Q T) T)) T)
def w_X12_findPlayed_192 (n : Nat) (L45 : Int32 → Mm → Prop) (x1 : Int32) (x2 : Int32) (t0 : Int32) (u0 : Mm) (Q : Mm → Prop) (T : Mm → Prop) : Prop :=
  w_X12_findPlayed_197 n L45 x1 x2 (1 : Int32) t0 u0 Q T
def w_X12_findPlayed_163 (n : Nat) (L45 : Int32 → Mm → Prop) (x1 : Int32) (x2 : Int32) (x3 : Int32) (t0 : Int32) (t1 : Int32) (u0 : Mm) (Q : Mm → Prop) (T : Mm → Prop) : Prop :=
  vp_in t1 301 ∧ (mlet (setI u0 27 (ix t1) (vp_nar .boolean t0)) fun u1 =>
  vp_in x2 301 ∧ ((¬ (u1.1 28 (ix x2)) = 0 → w_X12_findPlayed_192 n L45 x1 x2 x2 u1 Q T) ∧
  ((u1.1 28 (ix x2)) = 0 → (¬ x3 = 0 → w_X12_findPlayed_192 n L45 x1 x2 x2 u1 Q T) ∧
  (x3 = 0 → w_X12_get n x1 (15 : Int32) u1 (fun r1 u2 =>
  (r1 ≤ 0 → w_X12_findPlayed_197 n L45 x1 x2 (0 : Int32) x2 u2 Q T) ∧
  (¬ r1 ≤ 0 → w_X12_findPlayed_192 n L45 x1 x2 x2 u2 Q T)) T))))
def w_X12_findPlayed_158 (n : Nat) (L45 : Int32 → Mm → Prop) (x1 : Int32) (x2 : Int32) (x3 : Int32) (t0 : Int32) (u0 : Mm) (Q : Mm → Prop) (T : Mm → Prop) : Prop :=
  w_X12_findPlayed_163 n L45 x1 x2 x3 (1 : Int32) t0 u0 Q T
def w_X12_findPlayed_132 (n : Nat) (L45 : Int32 → Mm → Prop) (x1 : Int32) (x2 : Int32) (x3 : Int32) (t0 : Int32) (t1 : Int32) (u0 : Mm) (Q : Mm → Prop) (T : Mm → Prop) : Prop :=
  vp_in t1 301 ∧ (mlet (setI u0 26 (ix t1) (vp_nar .boolean t0)) fun u1 =>
  vp_in x2 301 ∧ ((¬ (u1.1 27 (ix x2)) = 0 → w_X12_findPlayed_158 n L45 x1 x2 x3 x2 u1 Q T) ∧
  ((u1.1 27 (ix x2)) = 0 → (x3 = (5 : Int32) → w_X12_findPlayed_158 n L45 x1 x2 x3 x2 u1 Q T) ∧
  (¬ x3 = (5 : Int32) → (¬ x3 = (6 : Int32) → w_X12_findPlayed_163 n L45 x1 x2 x3 (0 : Int32) x2 u1 Q T) ∧
  (x3 = (6 : Int32) → w_X12_findPlayed_158 n L45 x1 x2 x3 x2 u1 Q T)))))
def w_X12_findPlayed_127 (n : Nat) (L45 : Int32 → Mm → Prop) (x1 : Int32) (x2 : Int32) (x3 : Int32) (t0 : Int32) (u0 : Mm) (Q : Mm → Prop) (T : Mm → Prop) : Prop :=
  w_X12_findPlayed_132 n L45 x1 x2 x3 (1 : Int32) t0 u0 Q T
def w_X12_findPlayed_93 (n : Nat) (L45 : Int32 → Mm → Prop) (x1 : Int32) (t0 : Int32) (t1 : Int32) (u0 : Mm) (Q : Mm → Prop) (T : Mm → Prop) : Prop :=
  ilet (t1 + t0) fun y1 =>
  w_X12_get n x1 (3 : Int32) u0 (fun r1 u1 =>
  vp_in y1 301 ∧ ((¬ (u1.1 26 (ix y1)) = 0 → w_X12_findPlayed_127 n L45 x1 y1 r1 y1 u1 Q T) ∧
  ((u1.1 26 (ix y1)) = 0 → (r1 = (4 : Int32) → w_X12_findPlayed_127 n L45 x1 y1 r1 y1 u1 Q T) ∧
  (¬ r1 = (4 : Int32) → (¬ r1 = (6 : Int32) → w_X12_findPlayed_132 n L45 x1 y1 r1 (0 : Int32) y1 u1 Q T) ∧
  (r1 = (6 : Int32) → w_X12_findPlayed_127 n L45 x1 y1 r1 y1 u1 Q T))))) T
def w_X12_findPlayed_45 (n : Nat) (Q : Mm → Prop) (T : Mm → Prop) : Nat → Int32 → Mm → Prop
  | 0, _, _ => False
  | k + 1, x1, u0 =>
  ((u0.1 0 27) ≤ x1 → mlet (setI u0 0 69 (0 : Int32)) fun u1 =>
  ilet (u1.1 19 (ix (0 : Int32))) fun y1 =>
  (w_X12_findPlayed_261 n Q T n) y1 (0 : Int32) (0 : Int32) (0 : Int32) (0 : Int32) (0 : Int32) u1) ∧
  (¬ (u0.1 0 27) ≤ x1 → w_X12_get n x1 (0 : Int32) u0 (fun r1 u2 =>
  (¬ r1 = (4 : Int32) → w_X12_findPlayed_230 n (w_X12_findPlayed_45 n Q T k) x1 u2 Q T) ∧
  (r1 = (4 : Int32) → w_X12_get n x1 (1 : Int32) u2 (fun r2 u3 =>
  (¬ r2 = (1 : Int32) → w_X12_findPlayed_230 n (w_X12_findPlayed_45 n Q T k) x1 u3 Q T) ∧
  (r2 = (1 : Int32) → w_X12_get n x1 (2 : Int32) u3 (fun r3 u4 =>
  vp_in x1 400 ∧ (((u4.1 11 (ix x1)) = 0 → w_X12_findPlayed_93 n (w_X12_findPlayed_45 n Q T k) x1 (0 : Int32) r3 u4 Q T) ∧
  (¬ (u4.1 11 (ix x1)) = 0 → w_X12_findPlayed_93 n (w_X12_findPlayed_45 n Q T k) x1 (1 : Int32) r3 u4 Q T))) T)) T)) T)
def w_X12_findPlayed_2 (n : Nat) (Q : Mm → Prop) (T : Mm → Prop) : Nat → Int32 → Mm → Prop
  | 0, _, _ => False
  | k + 1, x1, u0 =>
  ((300 : Int32) < x1 → (w_X12_findPlayed_45 n Q T n) (0 : Int32) u0) ∧
  (¬ (300 : Int32) < x1 → vp_in x1 301 ∧ (mlet (setI u0 26 (ix x1) (vp_nar .boolean (0 : Int32))) fun u1 =>
  vp_in x1 301 ∧ (mlet (setI u1 27 (ix x1) (vp_nar .boolean (0 : Int32))) fun u2 =>
  vp_in x1 301 ∧ (mlet (setI u2 28 (ix x1) (vp_nar .boolean (0 : Int32))) fun u3 =>
  vp_in x1 301 ∧ (mlet (setI u3 29 (ix x1) (0 : Int32)) fun u4 =>
  (w_X12_findPlayed_2 n Q T k) (x1 + (1 : Int32)) u4)))))
def w_X12_findPlayed (n : Nat) (u0 : Mm) (Q : Mm → Prop) (T : Mm → Prop) : Prop :=
  (w_X12_findPlayed_2 n Q T n) (0 : Int32) u0
set_option maxRecDepth 20000 in
theorem s_X12_findPlayed_491 {g : Gb} (hg : xInj g) {n : Nat} {Q : Mm → Prop} {T : Mm → Prop} {u0 : Mm} (h : w_X12_findPlayed_491 n  u0 Q T) : xE g me_X12_findPlayed (pV g Q T) 491 [] [] u0 := by
  unfold w_X12_findPlayed_491 at h
  exact e_vret (k := 285) rfl rfl (Or.inl ⟨rfl, h⟩)
set_option maxRecDepth 20000 in
theorem s_X12_findPlayed_488 {g : Gb} (hg : xInj g) {n : Nat} {Q : Mm → Prop} {T : Mm → Prop} {L261 : Int32 → Int32 → Int32 → Int32 → Int32 → Int32 → Mm → Prop} (hL261 : ∀ (x1 : Int32) (x2 : Int32) (x3 : Int32) (x4 : Int32) (x5 : Int32) (x6 : Int32) (u0 : Mm), L261 x1 x2 x3 x4 x5 x6 u0 → xE g me_X12_findPlayed (pV g Q T) 261 [(0, .ref (gR g 0)), (1, .int x1), (2, .int x2), (3, .int x3), (4, .int x4), (5, .int x5), (6, .int x6)] [] u0) {x1 : Int32} {x2 : Int32} {x3 : Int32} {x4 : Int32} {x5 : Int32} {x6 : Int32} {u0 : Mm} (h : w_X12_findPlayed_488 n L261 x1 x2 x3 x4 x5 x6 u0 Q T) : xE g me_X12_findPlayed (pV g Q T) 488 [(0, .ref (gR g 0)), (1, .int x1), (2, .int x2), (3, .int x3), (4, .int x4), (5, .int x5), (6, .int x6)] [] u0 := by
  unfold w_X12_findPlayed_488 at h
  refine e_goto (k := 284) (tgt := 261) rfl (by decide) ?_
  exact hL261 x1 x2 x3 x4 x5 x6 u0 h
set_option maxRecDepth 20000 in
theorem s_X12_findPlayed_485 {g : Gb} (hg : xInj g) {n : Nat} {Q : Mm → Prop} {T : Mm → Prop} {L261 : Int32 → Int32 → Int32 → Int32 → Int32 → Int32 → Mm → Prop} (hL261 : ∀ (x1 : Int32) (x2 : Int32) (x3 : Int32) (x4 : Int32) (x5 : Int32) (x6 : Int32) (u0 : Mm), L261 x1 x2 x3 x4 x5 x6 u0 → xE g me_X12_findPlayed (pV g Q T) 261 [(0, .ref (gR g 0)), (1, .int x1), (2, .int x2), (3, .int x3), (4, .int x4), (5, .int x5), (6, .int x6)] [] u0) {x1 : Int32} {x2 : Int32} {x3 : Int32} {x4 : Int32} {x5 : Int32} {x6 : Int32} {u0 : Mm} (h : w_X12_findPlayed_485 n L261 x1 x2 x3 x4 x5 x6 u0 Q T) : xE g me_X12_findPlayed (pV g Q T) 485 [(0, .ref (gR g 0)), (1, .int x1), (2, .int x2), (3, .int x3), (4, .int x4), (5, .int x5), (6, .int x6)] [] u0 := by
  unfold w_X12_findPlayed_485 at h
  refine e_iinc (k := 283) (i := 2) (j := 2) (v := (x2 + (1 : Int32))) (lv' := [(0, .ref (gR g 0)), (1, .int x1), (2, .int (x2 + (1 : Int32))), (3, .int x3), (4, .int x4), (5, .int x5), (6, .int x6)]) rfl rfl rfl (by decide) [1, 2, 0, 3, 4, 5, 6] rfl ?_
  exact s_X12_findPlayed_488 hg hL261 h
set_option maxRecDepth 20000 in
theorem s_X12_findPlayed_482 {g : Gb} (hg : xInj g) {n : Nat} {Q : Mm → Prop} {T : Mm → Prop} {L261 : Int32 → Int32 → Int32 → Int32 → Int32 → Int32 → Mm → Prop} (hL261 : ∀ (x1 : Int32) (x2 : Int32) (x3 : Int32) (x4 : Int32) (x5 : Int32) (x6 : Int32) (u0 : Mm), L261 x1 x2 x3 x4 x5 x6 u0 → xE g me_X12_findPlayed (pV g Q T) 261 [(0, .ref (gR g 0)), (1, .int x1), (2, .int x2), (3, .int x3), (4, .int x4), (5, .int x5), (6, .int x6)] [] u0) {x1 : Int32} {x2 : Int32} {x3 : Int32} {x4 : Int32} {x6 : Int32} {u0 : Mm} (h : w_X12_findPlayed_482 n L261 x1 x2 x3 x4 x6 u0 Q T) : xE g me_X12_findPlayed (pV g Q T) 482 [(0, .ref (gR g 0)), (1, .int x1), (2, .int x2), (3, .int x3), (4, .int x4), (6, .int x6)] [] u0 := by
  unfold w_X12_findPlayed_482 at h
  refine e_iconst (k := 281) (v := (0 : Int32)) rfl (by decide) ?_
  refine e_istore (k := 282) (i := 5) (lv' := [(0, .ref (gR g 0)), (1, .int x1), (2, .int x2), (3, .int x3), (4, .int x4), (5, .int (0 : Int32)), (6, .int x6)]) rfl (by decide) [1, 2, 3, 4, 5, 0, 6] rfl ?_
  exact s_X12_findPlayed_485 hg hL261 h
set_option maxRecDepth 20000 in
theorem s_X12_findPlayed_382 {g : Gb} (hg : xInj g) {n : Nat} {Q : Mm → Prop} {T : Mm → Prop} {L261 : Int32 → Int32 → Int32 → Int32 → Int32 → Int32 → Mm → Prop} (hL261 : ∀ (x1 : Int32) (x2 : Int32) (x3 : Int32) (x4 : Int32) (x5 : Int32) (x6 : Int32) (u0 : Mm), L261 x1 x2 x3 x4 x5 x6 u0 → xE g me_X12_findPlayed (pV g Q T) 261 [(0, .ref (gR g 0)), (1, .int x1), (2, .int x2), (3, .int x3), (4, .int x4), (5, .int x5), (6, .int x6)] [] u0) {x1 : Int32} {x2 : Int32} {x3 : Int32} {x4 : Int32} {x6 : Int32} {u0 : Mm} (h : w_X12_findPlayed_382 n L261 x1 x2 x3 x4 x6 u0 Q T) : xE g me_X12_findPlayed (pV g Q T) 382 [(0, .ref (gR g 0)), (1, .int x1), (2, .int x2), (3, .int x3), (4, .int x4), (6, .int x6)] [] u0 := by
  unfold w_X12_findPlayed_382 at h
  refine e_iinc (k := 222) (i := 2) (j := 2) (v := (x2 + (1 : Int32))) (lv' := [(0, .ref (gR g 0)), (1, .int x1), (2, .int (x2 + (1 : Int32))), (3, .int x3), (4, .int x4), (6, .int x6)]) rfl rfl rfl (by decide) [1, 2, 0, 3, 4, 5] rfl ?_
  refine e_iconst (k := 223) (v := (0 : Int32)) rfl (by decide) ?_
  refine e_istore (k := 224) (i := 5) (lv' := [(0, .ref (gR g 0)), (1, .int x1), (2, .int (x2 + (1 : Int32))), (3, .int x3), (4, .int x4), (5, .int (0 : Int32)), (6, .int x6)]) rfl (by decide) [1, 2, 3, 4, 5, 0, 6] rfl ?_
  refine e_goto (k := 225) (tgt := 488) rfl (by decide) ?_
  exact s_X12_findPlayed_488 hg hL261 h
set_option maxRecDepth 20000 in
theorem s_X12_findPlayed_360 {g : Gb} (hg : xInj g) {n : Nat} {Q : Mm → Prop} {T : Mm → Prop} {L261 : Int32 → Int32 → Int32 → Int32 → Int32 → Int32 → Mm → Prop} (hL261 : ∀ (x1 : Int32) (x2 : Int32) (x3 : Int32) (x4 : Int32) (x5 : Int32) (x6 : Int32) (u0 : Mm), L261 x1 x2 x3 x4 x5 x6 u0 → xE g me_X12_findPlayed (pV g Q T) 261 [(0, .ref (gR g 0)), (1, .int x1), (2, .int x2), (3, .int x3), (4, .int x4), (5, .int x5), (6, .int x6)] [] u0) : ∀ (k : Nat) (x1 : Int32) (x2 : Int32) (x3 : Int32) (x4 : Int32) (x6 : Int32) (u0 : Mm), w_X12_findPlayed_360 n L261 Q T k x1 x2 x3 x4 x6 u0 → xE g me_X12_findPlayed (pV g Q T) 360 [(0, .ref (gR g 0)), (1, .int x1), (2, .int x2), (3, .int x3), (4, .int x4), (6, .int x6)] [] u0 := by
  intro k
  induction k with
  | zero => intro x1 x2 x3 x4 x6 u0 h; exact h.elim
  | succ k ih =>
    intro x1 x2 x3 x4 x6 u0 h
    unfold w_X12_findPlayed_360 at h
    refine e_iload_n (k := 210) (i := 2) rfl rfl 2 rfl ?_
    refine e_iload_n (k := 211) (i := 1) rfl rfl 1 rfl ?_
    refine e_icmp_ge (k := 212) (tgt := 382) rfl (by decide) (fun z => ?_) (fun z => ?_)
    · have h := h.1 z
      exact s_X12_findPlayed_382 hg hL261 h
    · have h := h.2 z
      refine e_aload_n (k := 213) (i := 0) rfl rfl 0 rfl ?_
      refine e_getC (k := 214) rfl f_X12_105 rfl rfl ?_
      refine e_iload_n (k := 215) (i := 2) rfl rfl 2 rfl ?_
      refine e_iconst (k := 216) (v := (1 : Int32)) rfl (by decide) ?_
      refine e_iadd (k := 217) rfl ?_
      refine e_zald (k := 218) rfl rfl h.1 ?_
      have h := h.2
      refine e_if_ne (k := 219) (tgt := 382) rfl (by decide) (fun z => ?_) (fun z => ?_)
      · have h := h.1 z
        exact s_X12_findPlayed_382 hg hL261 h
      · have h := h.2 z
        refine e_iinc (k := 220) (i := 2) (j := 2) (v := (x2 + (1 : Int32))) (lv' := [(0, .ref (gR g 0)), (1, .int x1), (2, .int (x2 + (1 : Int32))), (3, .int x3), (4, .int x4), (6, .int x6)]) rfl rfl rfl (by decide) [1, 2, 0, 3, 4, 5] rfl ?_
        refine e_goto (k := 221) (tgt := 360) rfl (by decide) ?_
        exact ih x1 (x2 + (1 : Int32)) x3 x4 x6 u0 h
set_option maxRecDepth 20000 in
theorem s_X12_findPlayed_353 {g : Gb} (hg : xInj g) {n : Nat} {Q : Mm → Prop} {T : Mm → Prop} {L261 : Int32 → Int32 → Int32 → Int32 → Int32 → Int32 → Mm → Prop} (hL261 : ∀ (x1 : Int32) (x2 : Int32) (x3 : Int32) (x4 : Int32) (x5 : Int32) (x6 : Int32) (u0 : Mm), L261 x1 x2 x3 x4 x5 x6 u0 → xE g me_X12_findPlayed (pV g Q T) 261 [(0, .ref (gR g 0)), (1, .int x1), (2, .int x2), (3, .int x3), (4, .int x4), (5, .int x5), (6, .int x6)] [] u0) {x1 : Int32} {x2 : Int32} {x3 : Int32} {x4 : Int32} {x6 : Int32} {x7 : Int32} {t0 : Int32} {u0 : Mm} (h : w_X12_findPlayed_353 n L261 x1 x2 x3 x4 x6 x7 t0 u0 Q T) : xE g me_X12_findPlayed (pV g Q T) 353 [(0, .ref (gR g 0)), (1, .int x1), (2, .int x2), (3, .int x3), (4, .int x4), (6, .int x6), (7, .int x7)] [.int t0] u0 := by
  unfold w_X12_findPlayed_353 at h
  refine e_istore (k := 207) (i := 5) (lv' := [(0, .ref (gR g 0)), (1, .int x1), (2, .int x2), (3, .int x3), (4, .int x4), (5, .int t0), (6, .int x6), (7, .int x7)]) rfl (by decide) [1, 2, 3, 4, 5, 0, 6, 7] rfl ?_
  refine e_iload (k := 208) (i := 7) rfl 7 rfl ?_
  refine e_if_ne (k := 209) (tgt := 391) rfl (by decide) (fun z => ?_) (fun z => ?_)
  · have h := h.1 z
    refine e_aload_n (k := 226) (i := 0) rfl rfl 0 rfl ?_
    refine e_getC (k := 227) rfl f_X12_111 rfl rfl ?_
    refine e_aload_n (k := 228) (i := 0) rfl rfl 0 rfl ?_
    refine e_getI (k := 229) rfl f_X12_513 rfl rfl ?_
    refine e_iload_n (k := 230) (i := 2) rfl rfl 2 rfl ?_
    refine e_iast (k := 231) rfl rfl h.1 ?_
    have h := h.2
    refine e_mlet h (fun u1 h => ?_)
    refine e_aload_n (k := 232) (i := 0) rfl rfl 0 rfl ?_
    refine e_dup (k := 233) rfl rfl ?_
    refine e_getI (k := 234) rfl f_X12_513 rfl rfl ?_
    refine e_iconst (k := 235) (v := (1 : Int32)) rfl (by decide) ?_
    refine e_iadd (k := 236) rfl ?_
    refine e_putI (k := 237) rfl fg_X12_513 rfl rfl ?_
    refine e_mlet h (fun u2 h => ?_)
    refine e_aload_n (k := 238) (i := 0) rfl rfl 0 rfl ?_
    refine e_getC (k := 239) rfl f_X12_102 rfl rfl ?_
    refine e_iload_n (k := 240) (i := 2) rfl rfl 2 rfl ?_
    refine e_iconst (k := 241) (v := (1 : Int32)) rfl (by decide) ?_
    refine e_iadd (k := 242) rfl ?_
    refine e_zald (k := 243) rfl rfl h.1 ?_
    have h := h.2
    refine e_if_eq (k := 244) (tgt := 454) rfl (by decide) (fun z => ?_) (fun z => ?_)
    · have h := h.1 z
      refine e_aload_n (k := 264) (i := 0) rfl rfl 0 rfl ?_
      refine e_getC (k := 265) rfl f_X12_105 rfl rfl ?_
      refine e_iload_n (k := 266) (i := 2) rfl rfl 2 rfl ?_
      refine e_iconst (k := 267) (v := (1 : Int32)) rfl (by decide) ?_
      refine e_iadd (k := 268) rfl ?_
      refine e_zald (k := 269) rfl rfl h.1 ?_
      have h := h.2
      refine e_if_eq (k := 270) (tgt := 485) rfl (by decide) (fun z => ?_) (fun z => ?_)
      · have h := h.1 z
        refine e_sub (lv' := [(0, .ref (gR g 0)), (1, .int x1), (2, .int x2), (3, .int x3), (4, .int x4), (5, .int t0), (6, .int x6)]) [0, 1, 2, 3, 4, 5, 6] rfl ?_
        exact s_X12_findPlayed_485 hg hL261 h
      · have h := h.2 z
        refine e_iload (k := 271) (i := 4) rfl 4 rfl ?_
        refine e_if_eq (k := 272) (tgt := 482) rfl (by decide) (fun z => ?_) (fun z => ?_)
        · have h := h.1 z
          refine e_sub (lv' := [(0, .ref (gR g 0)), (1, .int x1), (2, .int x2), (3, .int x3), (4, .int x4), (6, .int x6)]) [0, 1, 2, 3, 4, 6] rfl ?_
          exact s_X12_findPlayed_482 hg hL261 h
        · have h := h.2 z
          refine e_iload (k := 273) (i := 5) rfl 5 rfl ?_
          refine e_if_eq (k := 274) (tgt := 482) rfl (by decide) (fun z => ?_) (fun z => ?_)
          · have h := h.1 z
            refine e_sub (lv' := [(0, .ref (gR g 0)), (1, .int x1), (2, .int x2), (3, .int x3), (4, .int x4), (6, .int x6)]) [0, 1, 2, 3, 4, 6] rfl ?_
            exact s_X12_findPlayed_482 hg hL261 h
          · have h := h.2 z
            refine e_iconst (k := 275) (v := (0 : Int32)) rfl (by decide) ?_
            refine e_istore (k := 276) (i := 4) (lv' := [(0, .ref (gR g 0)), (1, .int x1), (2, .int x2), (3, .int x3), (4, .int (0 : Int32)), (5, .int t0), (6, .int x6), (7, .int x7)]) rfl (by decide) [1, 2, 3, 4, 0, 5, 6, 7] rfl ?_
            refine e_iload_n (k := 277) (i := 2) rfl rfl 2 rfl ?_
            refine e_iconst (k := 278) (v := (1 : Int32)) rfl (by decide) ?_
            refine e_iadd (k := 279) rfl ?_
            refine e_ilet h (fun y1 h => ?_)
            refine e_istore_n (k := 280) (i := 3) (lv' := [(0, .ref (gR g 0)), (1, .int x1), (2, .int x2), (3, .int y1), (4, .int (0 : Int32)), (5, .int t0), (6, .int x6), (7, .int x7)]) rfl rfl (by decide) [1, 2, 3, 0, 4, 5, 6, 7] rfl ?_
            refine e_sub (lv' := [(0, .ref (gR g 0)), (1, .int x1), (2, .int x2), (3, .int y1), (4, .int (0 : Int32)), (6, .int x6)]) [0, 1, 2, 3, 4, 6] rfl ?_
            exact s_X12_findPlayed_482 hg hL261 h
    · have h := h.2 z
      refine e_iconst (k := 245) (v := (0 : Int32)) rfl (by decide) ?_
      refine e_istore (k := 246) (i := 5) (lv' := [(0, .ref (gR g 0)), (1, .int x1), (2, .int x2), (3, .int x3), (4, .int x4), (5, .int (0 : Int32)), (6, .int x6), (7, .int x7)]) rfl (by decide) [1, 2, 3, 4, 5, 0, 6, 7] rfl ?_
      refine e_iload (k := 247) (i := 4) rfl 4 rfl ?_
      refine e_if_ne (k := 248) (tgt := 441) rfl (by decide) (fun z => ?_) (fun z => ?_)
      · have h := h.1 z
        refine e_iconst (k := 256) (v := (0 : Int32)) rfl (by decide) ?_
        refine e_istore (k := 257) (i := 4) (lv' := [(0, .ref (gR g 0)), (1, .int x1), (2, .int x2), (3, .int x3), (4, .int (0 : Int32)), (5, .int (0 : Int32)), (6, .int x6), (7, .int x7)]) rfl (by decide) [1, 2, 3, 4, 0, 5, 6, 7] rfl ?_
        refine e_iload_n (k := 258) (i := 2) rfl rfl 2 rfl ?_
        refine e_iconst (k := 259) (v := (1 : Int32)) rfl (by decide) ?_
        refine e_iadd (k := 260) rfl ?_
        refine e_ilet h (fun y2 h => ?_)
        refine e_istore_n (k := 261) (i := 3) (lv' := [(0, .ref (gR g 0)), (1, .int x1), (2, .int x2), (3, .int y2), (4, .int (0 : Int32)), (5, .int (0 : Int32)), (6, .int x6), (7, .int x7)]) rfl rfl (by decide) [1, 2, 3, 0, 4, 5, 6, 7] rfl ?_
        refine e_iinc (k := 262) (i := 2) (j := 2) (v := (x2 + (1 : Int32))) (lv' := [(0, .ref (gR g 0)), (1, .int x1), (2, .int (x2 + (1 : Int32))), (3, .int y2), (4, .int (0 : Int32)), (5, .int (0 : Int32)), (6, .int x6), (7, .int x7)]) rfl rfl rfl (by decide) [1, 2, 0, 3, 4, 5, 6, 7] rfl ?_
        refine e_goto (k := 263) (tgt := 488) rfl (by decide) ?_
        refine e_sub (lv' := [(0, .ref (gR g 0)), (1, .int x1), (2, .int (x2 + (1 : Int32))), (3, .int y2), (4, .int (0 : Int32)), (5, .int (0 : Int32)), (6, .int x6)]) [0, 1, 2, 3, 4, 5, 6] rfl ?_
        exact s_X12_findPlayed_488 hg hL261 h
      · have h := h.2 z
        refine e_iconst (k := 249) (v := (1 : Int32)) rfl (by decide) ?_
        refine e_istore (k := 250) (i := 4) (lv' := [(0, .ref (gR g 0)), (1, .int x1), (2, .int x2), (3, .int x3), (4, .int (1 : Int32)), (5, .int (0 : Int32)), (6, .int x6), (7, .int x7)]) rfl (by decide) [1, 2, 3, 4, 0, 5, 6, 7] rfl ?_
        refine e_iload_n (k := 251) (i := 3) rfl rfl 3 rfl ?_
        refine e_istore_n (k := 252) (i := 2) (lv' := [(0, .ref (gR g 0)), (1, .int x1), (2, .int x3), (3, .int x3), (4, .int (1 : Int32)), (5, .int (0 : Int32)), (6, .int x6), (7, .int x7)]) rfl rfl (by decide) [1, 2, 0, 3, 4, 5, 6, 7] rfl ?_
        refine e_iconst (k := 253) (v := (1 : Int32)) rfl (by decide) ?_
        refine e_istore (k := 254) (i := 6) (lv' := [(0, .ref (gR g 0)), (1, .int x1), (2, .int x3), (3, .int x3), (4, .int (1 : Int32)), (5, .int (0 : Int32)), (6, .int (1 : Int32)), (7, .int x7)]) rfl (by decide) [1, 2, 3, 4, 5, 6, 0, 7] rfl ?_
        refine e_goto (k := 255) (tgt := 488) rfl (by decide) ?_
        refine e_sub (lv' := [(0, .ref (gR g 0)), (1, .int x1), (2, .int x3), (3, .int x3), (4, .int (1 : Int32)), (5, .int (0 : Int32)), (6, .int (1 : Int32))]) [0, 1, 2, 3, 4, 5, 6] rfl ?_
        exact s_X12_findPlayed_488 hg hL261 h
  · have h := h.2 z
    refine e_sub (lv' := [(0, .ref (gR g 0)), (1, .int x1), (2, .int x2), (3, .int x3), (4, .int x4), (6, .int x6)]) [0, 1, 2, 3, 4, 6] rfl ?_
    exact s_X12_findPlayed_360 hg hL261 n x1 x2 x3 x4 x6 u0 h
set_option maxRecDepth 20000 in
theorem s_X12_findPlayed_348 {g : Gb} (hg : xInj g) {n : Nat} {Q : Mm → Prop} {T : Mm → Prop} {L261 : Int32 → Int32 → Int32 → Int32 → Int32 → Int32 → Mm → Prop} (hL261 : ∀ (x1 : Int32) (x2 : Int32) (x3 : Int32) (x4 : Int32) (x5 : Int32) (x6 : Int32) (u0 : Mm), L261 x1 x2 x3 x4 x5 x6 u0 → xE g me_X12_findPlayed (pV g Q T) 261 [(0, .ref (gR g 0)), (1, .int x1), (2, .int x2), (3, .int x3), (4, .int x4), (5, .int x5), (6, .int x6)] [] u0) {x1 : Int32} {x2 : Int32} {x3 : Int32} {x4 : Int32} {x6 : Int32} {x7 : Int32} {u0 : Mm} (h : w_X12_findPlayed_348 n L261 x1 x2 x3 x4 x6 x7 u0 Q T) : xE g me_X12_findPlayed (pV g Q T) 348 [(0, .ref (gR g 0)), (1, .int x1), (2, .int x2), (3, .int x3), (4, .int x4), (6, .int x6), (7, .int x7)] [] u0 := by
  unfold w_X12_findPlayed_348 at h
  refine e_iconst (k := 204) (v := (1 : Int32)) rfl (by decide) ?_
  refine e_goto (k := 205) (tgt := 353) rfl (by decide) ?_
  exact s_X12_findPlayed_353 hg hL261 h
set_option maxRecDepth 20000 in
theorem s_X12_findPlayed_332 {g : Gb} (hg : xInj g) {n : Nat} {Q : Mm → Prop} {T : Mm → Prop} {L261 : Int32 → Int32 → Int32 → Int32 → Int32 → Int32 → Mm → Prop} (hL261 : ∀ (x1 : Int32) (x2 : Int32) (x3 : Int32) (x4 : Int32) (x5 : Int32) (x6 : Int32) (u0 : Mm), L261 x1 x2 x3 x4 x5 x6 u0 → xE g me_X12_findPlayed (pV g Q T) 261 [(0, .ref (gR g 0)), (1, .int x1), (2, .int x2), (3, .int x3), (4, .int x4), (5, .int x5), (6, .int x6)] [] u0) {x1 : Int32} {x2 : Int32} {x3 : Int32} {x4 : Int32} {x5 : Int32} {x6 : Int32} {t0 : Int32} {u0 : Mm} (h : w_X12_findPlayed_332 n L261 x1 x2 x3 x4 x5 x6 t0 u0 Q T) : xE g me_X12_findPlayed (pV g Q T) 332 [(0, .ref (gR g 0)), (1, .int x1), (2, .int x2), (3, .int x3), (4, .int x4), (5, .int x5), (6, .int x6)] [.int t0] u0 := by
  unfold w_X12_findPlayed_332 at h
  refine e_istore (k := 196) (i := 7) (lv' := [(0, .ref (gR g 0)), (1, .int x1), (2, .int x2), (3, .int x3), (4, .int x4), (5, .int x5), (6, .int x6), (7, .int t0)]) rfl (by decide) [1, 2, 3, 4, 5, 6, 7, 0] rfl ?_
  refine e_iload (k := 197) (i := 5) rfl 5 rfl ?_
  refine e_if_ne (k := 198) (tgt := 348) rfl (by decide) (fun z => ?_) (fun z => ?_)
  · have h := h.1 z
    refine e_sub (lv' := [(0, .ref (gR g 0)), (1, .int x1), (2, .int x2), (3, .int x3), (4, .int x4), (6, .int x6), (7, .int t0)]) [0, 1, 2, 3, 4, 6, 7] rfl ?_
    exact s_X12_findPlayed_348 hg hL261 h
  · have h := h.2 z
    refine e_aload_n (k := 199) (i := 0) rfl rfl 0 rfl ?_
    refine e_getC (k := 200) rfl f_X12_108 rfl rfl ?_
    refine e_iload_n (k := 201) (i := 2) rfl rfl 2 rfl ?_
    refine e_iald (k := 202) rfl rfl h.1 ?_
    have h := h.2
    refine e_if_le (k := 203) (tgt := 352) rfl (by decide) (fun z => ?_) (fun z => ?_)
    · have h := h.1 z
      refine e_iconst (k := 206) (v := (0 : Int32)) rfl (by decide) ?_
      refine e_sub (lv' := [(0, .ref (gR g 0)), (1, .int x1), (2, .int x2), (3, .int x3), (4, .int x4), (6, .int x6), (7, .int t0)]) [0, 1, 2, 3, 4, 6, 7] rfl ?_
      exact s_X12_findPlayed_353 hg hL261 h
    · have h := h.2 z
      refine e_sub (lv' := [(0, .ref (gR g 0)), (1, .int x1), (2, .int x2), (3, .int x3), (4, .int x4), (6, .int x6), (7, .int t0)]) [0, 1, 2, 3, 4, 6, 7] rfl ?_
      exact s_X12_findPlayed_348 hg hL261 h
set_option maxRecDepth 20000 in
theorem s_X12_findPlayed_327 {g : Gb} (hg : xInj g) {n : Nat} {Q : Mm → Prop} {T : Mm → Prop} {L261 : Int32 → Int32 → Int32 → Int32 → Int32 → Int32 → Mm → Prop} (hL261 : ∀ (x1 : Int32) (x2 : Int32) (x3 : Int32) (x4 : Int32) (x5 : Int32) (x6 : Int32) (u0 : Mm), L261 x1 x2 x3 x4 x5 x6 u0 → xE g me_X12_findPlayed (pV g Q T) 261 [(0, .ref (gR g 0)), (1, .int x1), (2, .int x2), (3, .int x3), (4, .int x4), (5, .int x5), (6, .int x6)] [] u0) {x1 : Int32} {x2 : Int32} {x3 : Int32} {x4 : Int32} {x5 : Int32} {x6 : Int32} {u0 : Mm} (h : w_X12_findPlayed_327 n L261 x1 x2 x3 x4 x5 x6 u0 Q T) : xE g me_X12_findPlayed (pV g Q T) 327 [(0, .ref (gR g 0)), (1, .int x1), (2, .int x2), (3, .int x3), (4, .int x4), (5, .int x5), (6, .int x6)] [] u0 := by
  unfold w_X12_findPlayed_327 at h
  refine e_iconst (k := 193) (v := (1 : Int32)) rfl (by decide) ?_
  refine e_goto (k := 194) (tgt := 332) rfl (by decide) ?_
  exact s_X12_findPlayed_332 hg hL261 h
set_option maxRecDepth 20000 in
theorem s_X12_findPlayed_322 {g : Gb} (hg : xInj g) {n : Nat} {Q : Mm → Prop} {T : Mm → Prop} {L261 : Int32 → Int32 → Int32 → Int32 → Int32 → Int32 → Mm → Prop} (hL261 : ∀ (x1 : Int32) (x2 : Int32) (x3 : Int32) (x4 : Int32) (x5 : Int32) (x6 : Int32) (u0 : Mm), L261 x1 x2 x3 x4 x5 x6 u0 → xE g me_X12_findPlayed (pV g Q T) 261 [(0, .ref (gR g 0)), (1, .int x1), (2, .int x2), (3, .int x3), (4, .int x4), (5, .int x5), (6, .int x6)] [] u0) {x1 : Int32} {x2 : Int32} {x3 : Int32} {x4 : Int32} {x5 : Int32} {x6 : Int32} {t0 : Int32} {u0 : Mm} (h : w_X12_findPlayed_322 n L261 x1 x2 x3 x4 x5 x6 t0 u0 Q T) : xE g me_X12_findPlayed (pV g Q T) 322 [(0, .ref (gR g 0)), (1, .int x1), (2, .int x2), (3, .int x3), (4, .int x4), (5, .int x5), (6, .int x6)] [.int t0] u0 := by
  unfold w_X12_findPlayed_322 at h
  refine e_iload (k := 191) (i := 4) rfl 4 rfl ?_
  refine e_icmp_eq (k := 192) (tgt := 331) rfl (by decide) (fun z => ?_) (fun z => ?_)
  · have h := h.1 z
    refine e_iconst (k := 195) (v := (0 : Int32)) rfl (by decide) ?_
    exact s_X12_findPlayed_332 hg hL261 h
  · have h := h.2 z
    exact s_X12_findPlayed_327 hg hL261 h
set_option maxRecDepth 20000 in
theorem s_X12_findPlayed_295 {g : Gb} (hg : xInj g) {n : Nat} {Q : Mm → Prop} {T : Mm → Prop} {L261 : Int32 → Int32 → Int32 → Int32 → Int32 → Int32 → Mm → Prop} (hL261 : ∀ (x1 : Int32) (x2 : Int32) (x3 : Int32) (x4 : Int32) (x5 : Int32) (x6 : Int32) (u0 : Mm), L261 x1 x2 x3 x4 x5 x6 u0 → xE g me_X12_findPlayed (pV g Q T) 261 [(0, .ref (gR g 0)), (1, .int x1), (2, .int x2), (3, .int x3), (4, .int x4), (5, .int x5), (6, .int x6)] [] u0) {x1 : Int32} {x2 : Int32} {x3 : Int32} {x4 : Int32} {x5 : Int32} {u0 : Mm} (h : w_X12_findPlayed_295 n L261 x1 x2 x3 x4 x5 u0 Q T) : xE g me_X12_findPlayed (pV g Q T) 295 [(0, .ref (gR g 0)), (1, .int x1), (2, .int x2), (3, .int x3), (4, .int x4), (5, .int x5)] [] u0 := by
  unfold w_X12_findPlayed_295 at h
  refine e_iconst (k := 175) (v := (0 : Int32)) rfl (by decide) ?_
  refine e_istore (k := 176) (i := 6) (lv' := [(0, .ref (gR g 0)), (1, .int x1), (2, .int x2), (3, .int x3), (4, .int x4), (5, .int x5), (6, .int (0 : Int32))]) rfl (by decide) [1, 2, 3, 4, 5, 6, 0] rfl ?_
  refine e_aload_n (k := 177) (i := 0) rfl rfl 0 rfl ?_
  refine e_getC (k := 178) rfl f_X12_108 rfl rfl ?_
  refine e_iload_n (k := 179) (i := 2) rfl rfl 2 rfl ?_
  refine e_iald (k := 180) rfl rfl h.1 ?_
  have h := h.2
  refine e_if_eq (k := 181) (tgt := 327) rfl (by decide) (fun z => ?_) (fun z => ?_)
  · have h := h.1 z
    exact s_X12_findPlayed_327 hg hL261 h
  · have h := h.2 z
    refine e_aload_n (k := 182) (i := 0) rfl rfl 0 rfl ?_
    refine e_getC (k := 183) rfl f_X12_108 rfl rfl ?_
    refine e_iload_n (k := 184) (i := 2) rfl rfl 2 rfl ?_
    refine e_iald (k := 185) rfl rfl h.1 ?_
    have h := h.2
    refine e_iconst (k := 186) (v := (1 : Int32)) rfl (by decide) ?_
    refine e_icmp_ne (k := 187) (tgt := 321) rfl (by decide) (fun z => ?_) (fun z => ?_)
    · have h := h.1 z
      refine e_iconst (k := 190) (v := (0 : Int32)) rfl (by decide) ?_
      exact s_X12_findPlayed_322 hg hL261 h
    · have h := h.2 z
      refine e_iconst (k := 188) (v := (1 : Int32)) rfl (by decide) ?_
      refine e_goto (k := 189) (tgt := 322) rfl (by decide) ?_
      exact s_X12_findPlayed_322 hg hL261 h
set_option maxRecDepth 20000 in
theorem s_X12_findPlayed_261 {g : Gb} (hg : xInj g) {n : Nat} {Q : Mm → Prop} {T : Mm → Prop} : ∀ (k : Nat) (x1 : Int32) (x2 : Int32) (x3 : Int32) (x4 : Int32) (x5 : Int32) (x6 : Int32) (u0 : Mm), w_X12_findPlayed_261 n Q T k x1 x2 x3 x4 x5 x6 u0 → xE g me_X12_findPlayed (pV g Q T) 261 [(0, .ref (gR g 0)), (1, .int x1), (2, .int x2), (3, .int x3), (4, .int x4), (5, .int x5), (6, .int x6)] [] u0 := by
  intro k
  induction k with
  | zero => intro x1 x2 x3 x4 x5 x6 u0 h; exact h.elim
  | succ k ih =>
    intro x1 x2 x3 x4 x5 x6 u0 h
    unfold w_X12_findPlayed_261 at h
    refine e_iload_n (k := 157) (i := 2) rfl rfl 2 rfl ?_
    refine e_iload_n (k := 158) (i := 1) rfl rfl 1 rfl ?_
    refine e_icmp_ge (k := 159) (tgt := 491) rfl (by decide) (fun z => ?_) (fun z => ?_)
    · have h := h.1 z
      refine e_sub (lv' := []) [] rfl ?_
      exact s_X12_findPlayed_491 hg h
    · have h := h.2 z
      refine e_aload_n (k := 160) (i := 0) rfl rfl 0 rfl ?_
      refine e_getI (k := 161) rfl f_X12_513 rfl rfl ?_
      refine e_sipush (k := 162) (v := (1000 : Int32)) rfl (by decide) ?_
      refine e_icmp_ge (k := 163) (tgt := 491) rfl (by decide) (fun z => ?_) (fun z => ?_)
      · have h := h.1 z
        refine e_sub (lv' := []) [] rfl ?_
        exact s_X12_findPlayed_491 hg h
      · have h := h.2 z
        refine e_iload (k := 164) (i := 6) rfl 6 rfl ?_
        refine e_if_ne (k := 165) (tgt := 295) rfl (by decide) (fun z => ?_) (fun z => ?_)
        · have h := h.1 z
          refine e_sub (lv' := [(0, .ref (gR g 0)), (1, .int x1), (2, .int x2), (3, .int x3), (4, .int x4), (5, .int x5)]) [0, 1, 2, 3, 4, 5] rfl ?_
          exact s_X12_findPlayed_295 hg ih h
        · have h := h.2 z
          refine e_aload_n (k := 166) (i := 0) rfl rfl 0 rfl ?_
          refine e_getC (k := 167) rfl f_X12_99 rfl rfl ?_
          refine e_iload_n (k := 168) (i := 2) rfl rfl 2 rfl ?_
          refine e_zald (k := 169) rfl rfl h.1 ?_
          have h := h.2
          refine e_if_eq (k := 170) (tgt := 295) rfl (by decide) (fun z => ?_) (fun z => ?_)
          · have h := h.1 z
            refine e_sub (lv' := [(0, .ref (gR g 0)), (1, .int x1), (2, .int x2), (3, .int x3), (4, .int x4), (5, .int x5)]) [0, 1, 2, 3, 4, 5] rfl ?_
            exact s_X12_findPlayed_295 hg ih h
          · have h := h.2 z
            refine e_iload_n (k := 171) (i := 2) rfl rfl 2 rfl ?_
            refine e_istore_n (k := 172) (i := 3) (lv' := [(0, .ref (gR g 0)), (1, .int x1), (2, .int x2), (3, .int x2), (4, .int x4), (5, .int x5), (6, .int x6)]) rfl rfl (by decide) [1, 2, 3, 0, 4, 5, 6] rfl ?_
            refine e_iconst (k := 173) (v := (0 : Int32)) rfl (by decide) ?_
            refine e_istore (k := 174) (i := 4) (lv' := [(0, .ref (gR g 0)), (1, .int x1), (2, .int x2), (3, .int x2), (4, .int (0 : Int32)), (5, .int x5), (6, .int x6)]) rfl (by decide) [1, 2, 3, 4, 0, 5, 6] rfl ?_
            refine e_sub (lv' := [(0, .ref (gR g 0)), (1, .int x1), (2, .int x2), (3, .int x2), (4, .int (0 : Int32)), (5, .int x5)]) [0, 1, 2, 3, 4, 5] rfl ?_
            exact s_X12_findPlayed_295 hg ih h
set_option maxRecDepth 20000 in
theorem s_X12_findPlayed_230 {g : Gb} (hg : xInj g) {n : Nat} {Q : Mm → Prop} {T : Mm → Prop} {L45 : Int32 → Mm → Prop} (hL45 : ∀ (x1 : Int32) (u0 : Mm), L45 x1 u0 → xE g me_X12_findPlayed (pV g Q T) 45 [(0, .ref (gR g 0)), (1, .int x1)] [] u0) {x1 : Int32} {u0 : Mm} (h : w_X12_findPlayed_230 n L45 x1 u0 Q T) : xE g me_X12_findPlayed (pV g Q T) 230 [(0, .ref (gR g 0)), (1, .int x1)] [] u0 := by
  unfold w_X12_findPlayed_230 at h
  refine e_iinc (k := 137) (i := 1) (j := 1) (v := (x1 + (1 : Int32))) (lv' := [(0, .ref (gR g 0)), (1, .int (x1 + (1 : Int32)))]) rfl rfl rfl (by decide) [1, 0] rfl ?_
  refine e_goto (k := 138) (tgt := 45) rfl (by decide) ?_
  exact hL45 (x1 + (1 : Int32)) u0 h
set_option maxRecDepth 20000 in
theorem s_X12_findPlayed_229 {g : Gb} (hg : xInj g) {n : Nat} {Q : Mm → Prop} {T : Mm → Prop} {L45 : Int32 → Mm → Prop} (hL45 : ∀ (x1 : Int32) (u0 : Mm), L45 x1 u0 → xE g me_X12_findPlayed (pV g Q T) 45 [(0, .ref (gR g 0)), (1, .int x1)] [] u0) {x1 : Int32} {t0 : Int32} {t1 : Int32} {u0 : Mm} (h : w_X12_findPlayed_229 n L45 x1 t0 t1 u0 Q T) : xE g me_X12_findPlayed (pV g Q T) 229 [(0, .ref (gR g 0)), (1, .int x1)] [.int t0, .int t1, .ref (gR g 29)] u0 := by
  unfold w_X12_findPlayed_229 at h
  refine e_iast (k := 136) rfl rfl h.1 ?_
  have h := h.2
  refine e_mlet h (fun u1 h => ?_)
  exact s_X12_findPlayed_230 hg hL45 h
set_option maxRecDepth 20000 in
theorem s_X12_findPlayed_197 {g : Gb} (hg : xInj g) {n : Nat} {Q : Mm → Prop} {T : Mm → Prop} {L45 : Int32 → Mm → Prop} (hL45 : ∀ (x1 : Int32) (u0 : Mm), L45 x1 u0 → xE g me_X12_findPlayed (pV g Q T) 45 [(0, .ref (gR g 0)), (1, .int x1)] [] u0) {x1 : Int32} {x2 : Int32} {t0 : Int32} {t1 : Int32} {u0 : Mm} (h : w_X12_findPlayed_197 n L45 x1 x2 t0 t1 u0 Q T) : xE g me_X12_findPlayed (pV g Q T) 197 [(0, .ref (gR g 0)), (1, .int x1), (2, .int x2)] [.int t0, .int t1, .ref (gR g 28)] u0 := by
  unfold w_X12_findPlayed_197 at h
  refine e_zast (k := 118) rfl rfl h.1 ?_
  have h := h.2
  refine e_mlet h (fun u1 h => ?_)
  refine e_aload_n (k := 119) (i := 0) rfl rfl 0 rfl ?_
  refine e_getC (k := 120) rfl f_X12_108 rfl rfl ?_
  refine e_iload_n (k := 121) (i := 2) rfl rfl 2 rfl ?_
  refine e_aload_n (k := 122) (i := 0) rfl rfl 0 rfl ?_
  refine e_iload_n (k := 123) (i := 1) rfl rfl 1 rfl ?_
  refine e_bipush (k := 124) (v := (15 : Int32)) rfl (by decide) ?_
  refine e_callVi (k := 125) (q := 0) (As := [.int x1, .int (15 : Int32)]) (rest := [.int x2, .ref (gR g 29)]) rfl (c_X12_get (g := g) hg (n := n) h) m_X12_get i_X12_get l_X12_293 rfl ⟨_, rfl, rfl⟩ rfl rfl (Nat.le_of_ble_eq_true rfl) ⟨by decide, by decide, rfl, rfl⟩ (fun _ h => ⟨fun _ z => (by cases z), Or.inr ⟨rfl, h⟩⟩) (fun r1 u2 h => ?_)
  refine e_if_le (k := 126) (tgt := 223) rfl (by decide) (fun z => ?_) (fun z => ?_)
  · have h := h.1 z
    refine e_aload_n (k := 132) (i := 0) rfl rfl 0 rfl ?_
    refine e_getC (k := 133) rfl f_X12_108 rfl rfl ?_
    refine e_iload_n (k := 134) (i := 2) rfl rfl 2 rfl ?_
    refine e_iald (k := 135) rfl rfl h.1 ?_
    have h := h.2
    refine e_sub (lv' := [(0, .ref (gR g 0)), (1, .int x1)]) [0, 1] rfl ?_
    exact s_X12_findPlayed_229 hg hL45 h
  · have h := h.2 z
    refine e_aload_n (k := 127) (i := 0) rfl rfl 0 rfl ?_
    refine e_iload_n (k := 128) (i := 1) rfl rfl 1 rfl ?_
    refine e_bipush (k := 129) (v := (15 : Int32)) rfl (by decide) ?_
    refine e_callVi (k := 130) (q := 0) (As := [.int x1, .int (15 : Int32)]) (rest := [.int x2, .ref (gR g 29)]) rfl (c_X12_get (g := g) hg (n := n) h) m_X12_get i_X12_get l_X12_293 rfl ⟨_, rfl, rfl⟩ rfl rfl (Nat.le_of_ble_eq_true rfl) ⟨by decide, by decide, rfl, rfl⟩ (fun _ h => ⟨fun _ z => (by cases z), Or.inr ⟨rfl, h⟩⟩) (fun r2 u3 h => ?_)
    refine e_goto (k := 131) (tgt := 229) rfl (by decide) ?_
    refine e_sub (lv' := [(0, .ref (gR g 0)), (1, .int x1)]) [0, 1] rfl ?_
    exact s_X12_findPlayed_229 hg hL45 h
set_option maxRecDepth 20000 in
theorem s_X12_findPlayed_192 {g : Gb} (hg : xInj g) {n : Nat} {Q : Mm → Prop} {T : Mm → Prop} {L45 : Int32 → Mm → Prop} (hL45 : ∀ (x1 : Int32) (u0 : Mm), L45 x1 u0 → xE g me_X12_findPlayed (pV g Q T) 45 [(0, .ref (gR g 0)), (1, .int x1)] [] u0) {x1 : Int32} {x2 : Int32} {t0 : Int32} {u0 : Mm} (h : w_X12_findPlayed_192 n L45 x1 x2 t0 u0 Q T) : xE g me_X12_findPlayed (pV g Q T) 192 [(0, .ref (gR g 0)), (1, .int x1), (2, .int x2)] [.int t0, .ref (gR g 28)] u0 := by
  unfold w_X12_findPlayed_192 at h
  refine e_iconst (k := 115) (v := (1 : Int32)) rfl (by decide) ?_
  refine e_goto (k := 116) (tgt := 197) rfl (by decide) ?_
  exact s_X12_findPlayed_197 hg hL45 h
set_option maxRecDepth 20000 in
theorem s_X12_findPlayed_163 {g : Gb} (hg : xInj g) {n : Nat} {Q : Mm → Prop} {T : Mm → Prop} {L45 : Int32 → Mm → Prop} (hL45 : ∀ (x1 : Int32) (u0 : Mm), L45 x1 u0 → xE g me_X12_findPlayed (pV g Q T) 45 [(0, .ref (gR g 0)), (1, .int x1)] [] u0) {x1 : Int32} {x2 : Int32} {x3 : Int32} {t0 : Int32} {t1 : Int32} {u0 : Mm} (h : w_X12_findPlayed_163 n L45 x1 x2 x3 t0 t1 u0 Q T) : xE g me_X12_findPlayed (pV g Q T) 163 [(0, .ref (gR g 0)), (1, .int x1), (2, .int x2), (3, .int x3)] [.int t0, .int t1, .ref (gR g 27)] u0 := by
  unfold w_X12_findPlayed_163 at h
  refine e_zast (k := 99) rfl rfl h.1 ?_
  have h := h.2
  refine e_mlet h (fun u1 h => ?_)
  refine e_aload_n (k := 100) (i := 0) rfl rfl 0 rfl ?_
  refine e_getC (k := 101) rfl f_X12_105 rfl rfl ?_
  refine e_iload_n (k := 102) (i := 2) rfl rfl 2 rfl ?_
  refine e_aload_n (k := 103) (i := 0) rfl rfl 0 rfl ?_
  refine e_getC (k := 104) rfl f_X12_105 rfl rfl ?_
  refine e_iload_n (k := 105) (i := 2) rfl rfl 2 rfl ?_
  refine e_zald (k := 106) rfl rfl h.1 ?_
  have h := h.2
  refine e_if_ne (k := 107) (tgt := 192) rfl (by decide) (fun z => ?_) (fun z => ?_)
  · have h := h.1 z
    refine e_sub (lv' := [(0, .ref (gR g 0)), (1, .int x1), (2, .int x2)]) [0, 1, 2] rfl ?_
    exact s_X12_findPlayed_192 hg hL45 h
  · have h := h.2 z
    refine e_iload_n (k := 108) (i := 3) rfl rfl 3 rfl ?_
    refine e_if_ne (k := 109) (tgt := 192) rfl (by decide) (fun z => ?_) (fun z => ?_)
    · have h := h.1 z
      refine e_sub (lv' := [(0, .ref (gR g 0)), (1, .int x1), (2, .int x2)]) [0, 1, 2] rfl ?_
      exact s_X12_findPlayed_192 hg hL45 h
    · have h := h.2 z
      refine e_aload_n (k := 110) (i := 0) rfl rfl 0 rfl ?_
      refine e_iload_n (k := 111) (i := 1) rfl rfl 1 rfl ?_
      refine e_bipush (k := 112) (v := (15 : Int32)) rfl (by decide) ?_
      refine e_callVi (k := 113) (q := 0) (As := [.int x1, .int (15 : Int32)]) (rest := [.int x2, .ref (gR g 28)]) rfl (c_X12_get (g := g) hg (n := n) h) m_X12_get i_X12_get l_X12_293 rfl ⟨_, rfl, rfl⟩ rfl rfl (Nat.le_of_ble_eq_true rfl) ⟨by decide, by decide, rfl, rfl⟩ (fun _ h => ⟨fun _ z => (by cases z), Or.inr ⟨rfl, h⟩⟩) (fun r1 u2 h => ?_)
      refine e_if_le (k := 114) (tgt := 196) rfl (by decide) (fun z => ?_) (fun z => ?_)
      · have h := h.1 z
        refine e_iconst (k := 117) (v := (0 : Int32)) rfl (by decide) ?_
        refine e_sub (lv' := [(0, .ref (gR g 0)), (1, .int x1), (2, .int x2)]) [0, 1, 2] rfl ?_
        exact s_X12_findPlayed_197 hg hL45 h
      · have h := h.2 z
        refine e_sub (lv' := [(0, .ref (gR g 0)), (1, .int x1), (2, .int x2)]) [0, 1, 2] rfl ?_
        exact s_X12_findPlayed_192 hg hL45 h
set_option maxRecDepth 20000 in
theorem s_X12_findPlayed_158 {g : Gb} (hg : xInj g) {n : Nat} {Q : Mm → Prop} {T : Mm → Prop} {L45 : Int32 → Mm → Prop} (hL45 : ∀ (x1 : Int32) (u0 : Mm), L45 x1 u0 → xE g me_X12_findPlayed (pV g Q T) 45 [(0, .ref (gR g 0)), (1, .int x1)] [] u0) {x1 : Int32} {x2 : Int32} {x3 : Int32} {t0 : Int32} {u0 : Mm} (h : w_X12_findPlayed_158 n L45 x1 x2 x3 t0 u0 Q T) : xE g me_X12_findPlayed (pV g Q T) 158 [(0, .ref (gR g 0)), (1, .int x1), (2, .int x2), (3, .int x3)] [.int t0, .ref (gR g 27)] u0 := by
  unfold w_X12_findPlayed_158 at h
  refine e_iconst (k := 96) (v := (1 : Int32)) rfl (by decide) ?_
  refine e_goto (k := 97) (tgt := 163) rfl (by decide) ?_
  exact s_X12_findPlayed_163 hg hL45 h
set_option maxRecDepth 20000 in
theorem s_X12_findPlayed_132 {g : Gb} (hg : xInj g) {n : Nat} {Q : Mm → Prop} {T : Mm → Prop} {L45 : Int32 → Mm → Prop} (hL45 : ∀ (x1 : Int32) (u0 : Mm), L45 x1 u0 → xE g me_X12_findPlayed (pV g Q T) 45 [(0, .ref (gR g 0)), (1, .int x1)] [] u0) {x1 : Int32} {x2 : Int32} {x3 : Int32} {t0 : Int32} {t1 : Int32} {u0 : Mm} (h : w_X12_findPlayed_132 n L45 x1 x2 x3 t0 t1 u0 Q T) : xE g me_X12_findPlayed (pV g Q T) 132 [(0, .ref (gR g 0)), (1, .int x1), (2, .int x2), (3, .int x3)] [.int t0, .int t1, .ref (gR g 26)] u0 := by
  unfold w_X12_findPlayed_132 at h
  refine e_zast (k := 81) rfl rfl h.1 ?_
  have h := h.2
  refine e_mlet h (fun u1 h => ?_)
  refine e_aload_n (k := 82) (i := 0) rfl rfl 0 rfl ?_
  refine e_getC (k := 83) rfl f_X12_102 rfl rfl ?_
  refine e_iload_n (k := 84) (i := 2) rfl rfl 2 rfl ?_
  refine e_aload_n (k := 85) (i := 0) rfl rfl 0 rfl ?_
  refine e_getC (k := 86) rfl f_X12_102 rfl rfl ?_
  refine e_iload_n (k := 87) (i := 2) rfl rfl 2 rfl ?_
  refine e_zald (k := 88) rfl rfl h.1 ?_
  have h := h.2
  refine e_if_ne (k := 89) (tgt := 158) rfl (by decide) (fun z => ?_) (fun z => ?_)
  · have h := h.1 z
    exact s_X12_findPlayed_158 hg hL45 h
  · have h := h.2 z
    refine e_iload_n (k := 90) (i := 3) rfl rfl 3 rfl ?_
    refine e_iconst (k := 91) (v := (5 : Int32)) rfl (by decide) ?_
    refine e_icmp_eq (k := 92) (tgt := 158) rfl (by decide) (fun z => ?_) (fun z => ?_)
    · have h := h.1 z
      exact s_X12_findPlayed_158 hg hL45 h
    · have h := h.2 z
      refine e_iload_n (k := 93) (i := 3) rfl rfl 3 rfl ?_
      refine e_bipush (k := 94) (v := (6 : Int32)) rfl (by decide) ?_
      refine e_icmp_ne (k := 95) (tgt := 162) rfl (by decide) (fun z => ?_) (fun z => ?_)
      · have h := h.1 z
        refine e_iconst (k := 98) (v := (0 : Int32)) rfl (by decide) ?_
        exact s_X12_findPlayed_163 hg hL45 h
      · have h := h.2 z
        exact s_X12_findPlayed_158 hg hL45 h
set_option maxRecDepth 20000 in
theorem s_X12_findPlayed_127 {g : Gb} (hg : xInj g) {n : Nat} {Q : Mm → Prop} {T : Mm → Prop} {L45 : Int32 → Mm → Prop} (hL45 : ∀ (x1 : Int32) (u0 : Mm), L45 x1 u0 → xE g me_X12_findPlayed (pV g Q T) 45 [(0, .ref (gR g 0)), (1, .int x1)] [] u0) {x1 : Int32} {x2 : Int32} {x3 : Int32} {t0 : Int32} {u0 : Mm} (h : w_X12_findPlayed_127 n L45 x1 x2 x3 t0 u0 Q T) : xE g me_X12_findPlayed (pV g Q T) 127 [(0, .ref (gR g 0)), (1, .int x1), (2, .int x2), (3, .int x3)] [.int t0, .ref (gR g 26)] u0 := by
  unfold w_X12_findPlayed_127 at h
  refine e_iconst (k := 78) (v := (1 : Int32)) rfl (by decide) ?_
  refine e_goto (k := 79) (tgt := 132) rfl (by decide) ?_
  exact s_X12_findPlayed_132 hg hL45 h
set_option maxRecDepth 20000 in
theorem s_X12_findPlayed_93 {g : Gb} (hg : xInj g) {n : Nat} {Q : Mm → Prop} {T : Mm → Prop} {L45 : Int32 → Mm → Prop} (hL45 : ∀ (x1 : Int32) (u0 : Mm), L45 x1 u0 → xE g me_X12_findPlayed (pV g Q T) 45 [(0, .ref (gR g 0)), (1, .int x1)] [] u0) {x1 : Int32} {t0 : Int32} {t1 : Int32} {u0 : Mm} (h : w_X12_findPlayed_93 n L45 x1 t0 t1 u0 Q T) : xE g me_X12_findPlayed (pV g Q T) 93 [(0, .ref (gR g 0)), (1, .int x1)] [.int t0, .int t1] u0 := by
  unfold w_X12_findPlayed_93 at h
  refine e_iadd (k := 57) rfl ?_
  refine e_ilet h (fun y1 h => ?_)
  refine e_istore_n (k := 58) (i := 2) (lv' := [(0, .ref (gR g 0)), (1, .int x1), (2, .int y1)]) rfl rfl (by decide) [1, 2, 0] rfl ?_
  refine e_aload_n (k := 59) (i := 0) rfl rfl 0 rfl ?_
  refine e_iload_n (k := 60) (i := 1) rfl rfl 1 rfl ?_
  refine e_iconst (k := 61) (v := (3 : Int32)) rfl (by decide) ?_
  refine e_callVi (k := 62) (q := 0) (As := [.int x1, .int (3 : Int32)]) (rest := []) rfl (c_X12_get (g := g) hg (n := n) h) m_X12_get i_X12_get l_X12_293 rfl ⟨_, rfl, rfl⟩ rfl rfl (Nat.le_of_ble_eq_true rfl) ⟨by decide, by decide, rfl, rfl⟩ (fun _ h => ⟨fun _ z => (by cases z), Or.inr ⟨rfl, h⟩⟩) (fun r1 u1 h => ?_)
  refine e_istore_n (k := 63) (i := 3) (lv' := [(0, .ref (gR g 0)), (1, .int x1), (2, .int y1), (3, .int r1)]) rfl rfl (by decide) [1, 2, 3, 0] rfl ?_
  refine e_aload_n (k := 64) (i := 0) rfl rfl 0 rfl ?_
  refine e_getC (k := 65) rfl f_X12_99 rfl rfl ?_
  refine e_iload_n (k := 66) (i := 2) rfl rfl 2 rfl ?_
  refine e_aload_n (k := 67) (i := 0) rfl rfl 0 rfl ?_
  refine e_getC (k := 68) rfl f_X12_99 rfl rfl ?_
  refine e_iload_n (k := 69) (i := 2) rfl rfl 2 rfl ?_
  refine e_zald (k := 70) rfl rfl h.1 ?_
  have h := h.2
  refine e_if_ne (k := 71) (tgt := 127) rfl (by decide) (fun z => ?_) (fun z => ?_)
  · have h := h.1 z
    exact s_X12_findPlayed_127 hg hL45 h
  · have h := h.2 z
    refine e_iload_n (k := 72) (i := 3) rfl rfl 3 rfl ?_
    refine e_iconst (k := 73) (v := (4 : Int32)) rfl (by decide) ?_
    refine e_icmp_eq (k := 74) (tgt := 127) rfl (by decide) (fun z => ?_) (fun z => ?_)
    · have h := h.1 z
      exact s_X12_findPlayed_127 hg hL45 h
    · have h := h.2 z
      refine e_iload_n (k := 75) (i := 3) rfl rfl 3 rfl ?_
      refine e_bipush (k := 76) (v := (6 : Int32)) rfl (by decide) ?_
      refine e_icmp_ne (k := 77) (tgt := 131) rfl (by decide) (fun z => ?_) (fun z => ?_)
      · have h := h.1 z
        refine e_iconst (k := 80) (v := (0 : Int32)) rfl (by decide) ?_
        exact s_X12_findPlayed_132 hg hL45 h
      · have h := h.2 z
        exact s_X12_findPlayed_127 hg hL45 h
set_option maxRecDepth 20000 in
theorem s_X12_findPlayed_45 {g : Gb} (hg : xInj g) {n : Nat} {Q : Mm → Prop} {T : Mm → Prop} : ∀ (k : Nat) (x1 : Int32) (u0 : Mm), w_X12_findPlayed_45 n Q T k x1 u0 → xE g me_X12_findPlayed (pV g Q T) 45 [(0, .ref (gR g 0)), (1, .int x1)] [] u0 := by
  intro k
  induction k with
  | zero => intro x1 u0 h; exact h.elim
  | succ k ih =>
    intro x1 u0 h
    unfold w_X12_findPlayed_45 at h
    refine e_iload_n (k := 29) (i := 1) rfl rfl 1 rfl ?_
    refine e_aload_n (k := 30) (i := 0) rfl rfl 0 rfl ?_
    refine e_getI (k := 31) rfl f_X12_283 rfl rfl ?_
    refine e_icmp_ge (k := 32) (tgt := 236) rfl (by decide) (fun z => ?_) (fun z => ?_)
    · have h := h.1 z
      refine e_aload_n (k := 139) (i := 0) rfl rfl 0 rfl ?_
      refine e_iconst (k := 140) (v := (0 : Int32)) rfl (by decide) ?_
      refine e_putI (k := 141) rfl fg_X12_513 rfl rfl ?_
      refine e_mlet h (fun u1 h => ?_)
      refine e_aload_n (k := 142) (i := 0) rfl rfl 0 rfl ?_
      refine e_getC (k := 143) rfl f_X12_78 rfl rfl ?_
      refine e_iconst (k := 144) (v := (0 : Int32)) rfl (by decide) ?_
      refine e_iald (k := 145) rfl rfl (by unfold vp_in; decide) ?_
      refine e_ilet h (fun y1 h => ?_)
      refine e_istore_n (k := 146) (i := 1) (lv' := [(0, .ref (gR g 0)), (1, .int y1)]) rfl rfl (by decide) [1, 0] rfl ?_
      refine e_iconst (k := 147) (v := (0 : Int32)) rfl (by decide) ?_
      refine e_istore_n (k := 148) (i := 2) (lv' := [(0, .ref (gR g 0)), (1, .int y1), (2, .int (0 : Int32))]) rfl rfl (by decide) [1, 2, 0] rfl ?_
      refine e_iconst (k := 149) (v := (0 : Int32)) rfl (by decide) ?_
      refine e_istore_n (k := 150) (i := 3) (lv' := [(0, .ref (gR g 0)), (1, .int y1), (2, .int (0 : Int32)), (3, .int (0 : Int32))]) rfl rfl (by decide) [1, 2, 3, 0] rfl ?_
      refine e_iconst (k := 151) (v := (0 : Int32)) rfl (by decide) ?_
      refine e_istore (k := 152) (i := 4) (lv' := [(0, .ref (gR g 0)), (1, .int y1), (2, .int (0 : Int32)), (3, .int (0 : Int32)), (4, .int (0 : Int32))]) rfl (by decide) [1, 2, 3, 4, 0] rfl ?_
      refine e_iconst (k := 153) (v := (0 : Int32)) rfl (by decide) ?_
      refine e_istore (k := 154) (i := 5) (lv' := [(0, .ref (gR g 0)), (1, .int y1), (2, .int (0 : Int32)), (3, .int (0 : Int32)), (4, .int (0 : Int32)), (5, .int (0 : Int32))]) rfl (by decide) [1, 2, 3, 4, 5, 0] rfl ?_
      refine e_iconst (k := 155) (v := (0 : Int32)) rfl (by decide) ?_
      refine e_istore (k := 156) (i := 6) (lv' := [(0, .ref (gR g 0)), (1, .int y1), (2, .int (0 : Int32)), (3, .int (0 : Int32)), (4, .int (0 : Int32)), (5, .int (0 : Int32)), (6, .int (0 : Int32))]) rfl (by decide) [1, 2, 3, 4, 5, 6, 0] rfl ?_
      exact s_X12_findPlayed_261 hg n y1 (0 : Int32) (0 : Int32) (0 : Int32) (0 : Int32) (0 : Int32) u1 h
    · have h := h.2 z
      refine e_aload_n (k := 33) (i := 0) rfl rfl 0 rfl ?_
      refine e_iload_n (k := 34) (i := 1) rfl rfl 1 rfl ?_
      refine e_iconst (k := 35) (v := (0 : Int32)) rfl (by decide) ?_
      refine e_callVi (k := 36) (q := 0) (As := [.int x1, .int (0 : Int32)]) (rest := []) rfl (c_X12_get (g := g) hg (n := n) h) m_X12_get i_X12_get l_X12_293 rfl ⟨_, rfl, rfl⟩ rfl rfl (Nat.le_of_ble_eq_true rfl) ⟨by decide, by decide, rfl, rfl⟩ (fun _ h => ⟨fun _ z => (by cases z), Or.inr ⟨rfl, h⟩⟩) (fun r1 u2 h => ?_)
      refine e_iconst (k := 37) (v := (4 : Int32)) rfl (by decide) ?_
      refine e_icmp_ne (k := 38) (tgt := 230) rfl (by decide) (fun z => ?_) (fun z => ?_)
      · have h := h.1 z
        exact s_X12_findPlayed_230 hg ih h
      · have h := h.2 z
        refine e_aload_n (k := 39) (i := 0) rfl rfl 0 rfl ?_
        refine e_iload_n (k := 40) (i := 1) rfl rfl 1 rfl ?_
        refine e_iconst (k := 41) (v := (1 : Int32)) rfl (by decide) ?_
        refine e_callVi (k := 42) (q := 0) (As := [.int x1, .int (1 : Int32)]) (rest := []) rfl (c_X12_get (g := g) hg (n := n) h) m_X12_get i_X12_get l_X12_293 rfl ⟨_, rfl, rfl⟩ rfl rfl (Nat.le_of_ble_eq_true rfl) ⟨by decide, by decide, rfl, rfl⟩ (fun _ h => ⟨fun _ z => (by cases z), Or.inr ⟨rfl, h⟩⟩) (fun r2 u3 h => ?_)
        refine e_iconst (k := 43) (v := (1 : Int32)) rfl (by decide) ?_
        refine e_icmp_ne (k := 44) (tgt := 230) rfl (by decide) (fun z => ?_) (fun z => ?_)
        · have h := h.1 z
          exact s_X12_findPlayed_230 hg ih h
        · have h := h.2 z
          refine e_aload_n (k := 45) (i := 0) rfl rfl 0 rfl ?_
          refine e_iload_n (k := 46) (i := 1) rfl rfl 1 rfl ?_
          refine e_iconst (k := 47) (v := (2 : Int32)) rfl (by decide) ?_
          refine e_callVi (k := 48) (q := 0) (As := [.int x1, .int (2 : Int32)]) (rest := []) rfl (c_X12_get (g := g) hg (n := n) h) m_X12_get i_X12_get l_X12_293 rfl ⟨_, rfl, rfl⟩ rfl rfl (Nat.le_of_ble_eq_true rfl) ⟨by decide, by decide, rfl, rfl⟩ (fun _ h => ⟨fun _ z => (by cases z), Or.inr ⟨rfl, h⟩⟩) (fun r3 u4 h => ?_)
          refine e_aload_n (k := 49) (i := 0) rfl rfl 0 rfl ?_
          refine e_getC (k := 50) rfl f_X12_53 rfl rfl ?_
          refine e_iload_n (k := 51) (i := 1) rfl rfl 1 rfl ?_
          refine e_zald (k := 52) rfl rfl h.1 ?_
          have h := h.2
          refine e_if_eq (k := 53) (tgt := 92) rfl (by decide) (fun z => ?_) (fun z => ?_)
          · have h := h.1 z
            refine e_iconst (k := 56) (v := (0 : Int32)) rfl (by decide) ?_
            exact s_X12_findPlayed_93 hg ih h
          · have h := h.2 z
            refine e_iconst (k := 54) (v := (1 : Int32)) rfl (by decide) ?_
            refine e_goto (k := 55) (tgt := 93) rfl (by decide) ?_
            exact s_X12_findPlayed_93 hg ih h
set_option maxRecDepth 20000 in
theorem s_X12_findPlayed_2 {g : Gb} (hg : xInj g) {n : Nat} {Q : Mm → Prop} {T : Mm → Prop} : ∀ (k : Nat) (x1 : Int32) (u0 : Mm), w_X12_findPlayed_2 n Q T k x1 u0 → xE g me_X12_findPlayed (pV g Q T) 2 [(0, .ref (gR g 0)), (1, .int x1)] [] u0 := by
  intro k
  induction k with
  | zero => intro x1 u0 h; exact h.elim
  | succ k ih =>
    intro x1 u0 h
    unfold w_X12_findPlayed_2 at h
    refine e_iload_n (k := 2) (i := 1) rfl rfl 1 rfl ?_
    refine e_sipush (k := 3) (v := (300 : Int32)) rfl (by decide) ?_
    refine e_icmp_gt (k := 4) (tgt := 43) rfl (by decide) (fun z => ?_) (fun z => ?_)
    · have h := h.1 z
      refine e_iconst (k := 27) (v := (0 : Int32)) rfl (by decide) ?_
      refine e_istore_n (k := 28) (i := 1) (lv' := [(0, .ref (gR g 0)), (1, .int (0 : Int32))]) rfl rfl (by decide) [1, 0] rfl ?_
      exact s_X12_findPlayed_45 hg n (0 : Int32) u0 h
    · have h := h.2 z
      refine e_aload_n (k := 5) (i := 0) rfl rfl 0 rfl ?_
      refine e_getC (k := 6) rfl f_X12_99 rfl rfl ?_
      refine e_iload_n (k := 7) (i := 1) rfl rfl 1 rfl ?_
      refine e_iconst (k := 8) (v := (0 : Int32)) rfl (by decide) ?_
      refine e_zast (k := 9) rfl rfl h.1 ?_
      have h := h.2
      refine e_mlet h (fun u1 h => ?_)
      refine e_aload_n (k := 10) (i := 0) rfl rfl 0 rfl ?_
      refine e_getC (k := 11) rfl f_X12_102 rfl rfl ?_
      refine e_iload_n (k := 12) (i := 1) rfl rfl 1 rfl ?_
      refine e_iconst (k := 13) (v := (0 : Int32)) rfl (by decide) ?_
      refine e_zast (k := 14) rfl rfl h.1 ?_
      have h := h.2
      refine e_mlet h (fun u2 h => ?_)
      refine e_aload_n (k := 15) (i := 0) rfl rfl 0 rfl ?_
      refine e_getC (k := 16) rfl f_X12_105 rfl rfl ?_
      refine e_iload_n (k := 17) (i := 1) rfl rfl 1 rfl ?_
      refine e_iconst (k := 18) (v := (0 : Int32)) rfl (by decide) ?_
      refine e_zast (k := 19) rfl rfl h.1 ?_
      have h := h.2
      refine e_mlet h (fun u3 h => ?_)
      refine e_aload_n (k := 20) (i := 0) rfl rfl 0 rfl ?_
      refine e_getC (k := 21) rfl f_X12_108 rfl rfl ?_
      refine e_iload_n (k := 22) (i := 1) rfl rfl 1 rfl ?_
      refine e_iconst (k := 23) (v := (0 : Int32)) rfl (by decide) ?_
      refine e_iast (k := 24) rfl rfl h.1 ?_
      have h := h.2
      refine e_mlet h (fun u4 h => ?_)
      refine e_iinc (k := 25) (i := 1) (j := 1) (v := (x1 + (1 : Int32))) (lv' := [(0, .ref (gR g 0)), (1, .int (x1 + (1 : Int32)))]) rfl rfl rfl (by decide) [1, 0] rfl ?_
      refine e_goto (k := 26) (tgt := 2) rfl (by decide) ?_
      exact ih (x1 + (1 : Int32)) u4 h
set_option maxRecDepth 20000 in
theorem c_X12_findPlayed {g : Gb} (hg : xInj g) {n : Nat} {u0 : Mm} {Q : Mm → Prop} {T : Mm → Prop} (h : w_X12_findPlayed n u0 Q T) : xMet (gL g) yX12_findPlayed (xws yX12_findPlayed cX12_findPlayed 8 none) (xRoom 2) (xPc g [.ref (gR g 0)] u0) (xQ g (pV g Q T)) (xA g) := by
  refine xbody (il := il_X12_findPlayed) hg il_X12_findPlayed_ok m_X12_findPlayed (Nat.le_of_ble_eq_true rfl) ?_
  show xE g me_X12_findPlayed (pV g Q T) 0 [(0, .ref (gR g 0))] [] u0
  unfold w_X12_findPlayed at h
  refine e_iconst (k := 0) (v := (0 : Int32)) rfl (by decide) ?_
  refine e_istore_n (k := 1) (i := 1) (lv' := [(0, .ref (gR g 0)), (1, .int (0 : Int32))]) rfl rfl (by decide) [1, 0] rfl ?_
  exact s_X12_findPlayed_2 hg n (0 : Int32) u0 h
def il_X12_here : List (Nat × Instr × Nat) := [(0, .aload_n 0, 1), (1, .aload_n 0, 1), (2, .getfield 138, 3), (5, .invokevirtual 141, 3), (8, .ireturn, 1)]
set_option maxRecDepth 20000 in
theorem il_X12_here_ok : ∀ x ∈ il_X12_here, decode cX12_here x.1 = .ok x.2 := by decide +kernel
abbrev me_X12_here : Me := (RX12, il_X12_here, 1, (some .int), xRoom 2, [])
def w_X12_here (n : Nat) (u0 : Mm) (Q : Int32 → Mm → Prop) (T : Mm → Prop) : Prop :=
  w_X12_peek n (u0.1 0 7) u0 (fun r1 u1 =>
  Q r1 u1) T
set_option maxRecDepth 20000 in
theorem c_X12_here {g : Gb} (hg : xInj g) {n : Nat} {u0 : Mm} {Q : Int32 → Mm → Prop} {T : Mm → Prop} (h : w_X12_here n u0 Q T) : xMet (gL g) yX12_here (xws yX12_here cX12_here 1 (some .int)) (xRoom 2) (xPc g [.ref (gR g 0)] u0) (xQ g (pI g Q T)) (xA g) := by
  refine xbody (il := il_X12_here) hg il_X12_here_ok m_X12_here (Nat.le_of_ble_eq_true rfl) ?_
  show xE g me_X12_here (pI g Q T) 0 [(0, .ref (gR g 0))] [] u0
  unfold w_X12_here at h
  refine e_aload_n (k := 0) (i := 0) rfl rfl 0 rfl ?_
  refine e_aload_n (k := 1) (i := 0) rfl rfl 0 rfl ?_
  refine e_getI (k := 2) rfl f_X12_138 rfl rfl ?_
  refine e_callVi (k := 3) (q := 0) (As := [.int (u0.1 0 7)]) (rest := []) rfl (c_X12_peek (g := g) hg (n := n) h) m_X12_peek i_X12_peek l_X12_141 rfl ⟨_, rfl, rfl⟩ rfl rfl (Nat.le_of_ble_eq_true rfl) ⟨by decide, by decide, rfl, rfl⟩ (fun _ h => ⟨fun _ z => (by cases z), Or.inr ⟨rfl, h⟩⟩) (fun r1 u1 h => ?_)
  exact e_iret (k := 4) rfl rfl (Or.inl ⟨_, rfl, h⟩)
def il_X12_isBarHere : List (Nat × Instr × Nat) := [(0, .aload_n 0, 1), (1, .aload_n 0, 1), (2, .getfield 138, 3), (5, .invokevirtual 141, 3), (8, .istore_n 1, 1), (9, .aload_n 0, 1), (10, .aload_n 0, 1), (11, .getfield 138, 3), (14, .iconst 1, 1), (15, .iadd, 1), (16, .invokevirtual 141, 3), (19, .istore_n 2, 1), (20, .iload_n 1, 1), (21, .bipush 124, 2), (23, .if_icmp .eq 35, 3), (26, .iload_n 1, 1), (27, .bipush 58, 2), (29, .if_icmp .eq 29, 3), (32, .iload_n 1, 1), (33, .bipush 91, 2), (35, .if_icmp .ne 27, 3), (38, .iload_n 2, 1), (39, .bipush 124, 2), (41, .if_icmp .eq 17, 3), (44, .iload_n 2, 1), (45, .i2l, 1), (46, .ldc2_w 387, 3), (49, .ldc2_w 389, 3), (52, .invokestatic 125, 3), (55, .ifCond .eq 7, 3), (58, .iconst 1, 1), (59, .goto 4, 3), (62, .iconst 0, 1), (63, .ireturn, 1)]
set_option maxRecDepth 20000 in
theorem il_X12_isBarHere_ok : ∀ x ∈ il_X12_isBarHere, decode cX12_isBarHere x.1 = .ok x.2 := by decide +kernel
abbrev me_X12_isBarHere : Me := (RX12, il_X12_isBarHere, 3, (some .boolean), xRoom 2, [])
def w_X12_isBarHere_63 (n : Nat) (t0 : Int32) (u0 : Mm) (Q : Int32 → Mm → Prop) (T : Mm → Prop) : Prop :=
  narrow .boolean (.int t0) = .int t0 ∧ Q t0 u0
def w_X12_isBarHere_62 (n : Nat) (u0 : Mm) (Q : Int32 → Mm → Prop) (T : Mm → Prop) : Prop :=
  w_X12_isBarHere_63 n (0 : Int32) u0 Q T
def w_X12_isBarHere_58 (n : Nat) (u0 : Mm) (Q : Int32 → Mm → Prop) (T : Mm → Prop) : Prop :=
  w_X12_isBarHere_63 n (1 : Int32) u0 Q T
def w_X12_isBarHere (n : Nat) (u0 : Mm) (Q : Int32 → Mm → Prop) (T : Mm → Prop) : Prop :=
  w_X12_peek n (u0.1 0 7) u0 (fun r1 u1 =>
  w_X12_peek n ((u1.1 0 7) + (1 : Int32)) u1 (fun r2 u2 =>
  (r1 = (124 : Int32) → w_X12_isBarHere_58 n u2 Q T) ∧
  (¬ r1 = (124 : Int32) → (r1 = (58 : Int32) → w_X12_isBarHere_58 n u2 Q T) ∧
  (¬ r1 = (58 : Int32) → (¬ r1 = (91 : Int32) → w_X12_isBarHere_62 n u2 Q T) ∧
  (r1 = (91 : Int32) → (r2 = (124 : Int32) → w_X12_isBarHere_58 n u2 Q T) ∧
  (¬ r2 = (124 : Int32) → w_X12_in n (r2.toInt64) (49 : Int64) (52 : Int64) u2 (fun r3 u3 =>
  (r3 = 0 → w_X12_isBarHere_62 n u3 Q T) ∧
  (¬ r3 = 0 → w_X12_isBarHere_58 n u3 Q T)) T))))) T) T
set_option maxRecDepth 20000 in
theorem s_X12_isBarHere_63 {g : Gb} (hg : xInj g) {n : Nat} {Q : Int32 → Mm → Prop} {T : Mm → Prop} {t0 : Int32} {u0 : Mm} (h : w_X12_isBarHere_63 n t0 u0 Q T) : xE g me_X12_isBarHere (pI g Q T) 63 [] [.int t0] u0 := by
  unfold w_X12_isBarHere_63 at h
  exact e_zret (k := 33) rfl rfl h.1 (Or.inl ⟨_, rfl, h.2⟩)
set_option maxRecDepth 20000 in
theorem s_X12_isBarHere_62 {g : Gb} (hg : xInj g) {n : Nat} {Q : Int32 → Mm → Prop} {T : Mm → Prop} {u0 : Mm} (h : w_X12_isBarHere_62 n  u0 Q T) : xE g me_X12_isBarHere (pI g Q T) 62 [] [] u0 := by
  unfold w_X12_isBarHere_62 at h
  refine e_iconst (k := 32) (v := (0 : Int32)) rfl (by decide) ?_
  exact s_X12_isBarHere_63 hg h
set_option maxRecDepth 20000 in
theorem s_X12_isBarHere_58 {g : Gb} (hg : xInj g) {n : Nat} {Q : Int32 → Mm → Prop} {T : Mm → Prop} {u0 : Mm} (h : w_X12_isBarHere_58 n  u0 Q T) : xE g me_X12_isBarHere (pI g Q T) 58 [] [] u0 := by
  unfold w_X12_isBarHere_58 at h
  refine e_iconst (k := 30) (v := (1 : Int32)) rfl (by decide) ?_
  refine e_goto (k := 31) (tgt := 63) rfl (by decide) ?_
  exact s_X12_isBarHere_63 hg h
set_option maxRecDepth 20000 in
theorem c_X12_isBarHere {g : Gb} (hg : xInj g) {n : Nat} {u0 : Mm} {Q : Int32 → Mm → Prop} {T : Mm → Prop} (h : w_X12_isBarHere n u0 Q T) : xMet (gL g) yX12_isBarHere (xws yX12_isBarHere cX12_isBarHere 3 (some .boolean)) (xRoom 2) (xPc g [.ref (gR g 0)] u0) (xQ g (pI g Q T)) (xA g) := by
  refine xbody (il := il_X12_isBarHere) hg il_X12_isBarHere_ok m_X12_isBarHere (Nat.le_of_ble_eq_true rfl) ?_
  show xE g me_X12_isBarHere (pI g Q T) 0 [(0, .ref (gR g 0))] [] u0
  unfold w_X12_isBarHere at h
  refine e_aload_n (k := 0) (i := 0) rfl rfl 0 rfl ?_
  refine e_aload_n (k := 1) (i := 0) rfl rfl 0 rfl ?_
  refine e_getI (k := 2) rfl f_X12_138 rfl rfl ?_
  refine e_callVi (k := 3) (q := 0) (As := [.int (u0.1 0 7)]) (rest := []) rfl (c_X12_peek (g := g) hg (n := n) h) m_X12_peek i_X12_peek l_X12_141 rfl ⟨_, rfl, rfl⟩ rfl rfl (Nat.le_of_ble_eq_true rfl) ⟨by decide, by decide, rfl, rfl⟩ (fun _ h => ⟨fun _ z => (by cases z), Or.inr ⟨rfl, h⟩⟩) (fun r1 u1 h => ?_)
  refine e_istore_n (k := 4) (i := 1) (lv' := [(0, .ref (gR g 0)), (1, .int r1)]) rfl rfl (by decide) [1, 0] rfl ?_
  refine e_aload_n (k := 5) (i := 0) rfl rfl 0 rfl ?_
  refine e_aload_n (k := 6) (i := 0) rfl rfl 0 rfl ?_
  refine e_getI (k := 7) rfl f_X12_138 rfl rfl ?_
  refine e_iconst (k := 8) (v := (1 : Int32)) rfl (by decide) ?_
  refine e_iadd (k := 9) rfl ?_
  refine e_callVi (k := 10) (q := 0) (As := [.int ((u1.1 0 7) + (1 : Int32))]) (rest := []) rfl (c_X12_peek (g := g) hg (n := n) h) m_X12_peek i_X12_peek l_X12_141 rfl ⟨_, rfl, rfl⟩ rfl rfl (Nat.le_of_ble_eq_true rfl) ⟨by decide, by decide, rfl, rfl⟩ (fun _ h => ⟨fun _ z => (by cases z), Or.inr ⟨rfl, h⟩⟩) (fun r2 u2 h => ?_)
  refine e_istore_n (k := 11) (i := 2) (lv' := [(0, .ref (gR g 0)), (1, .int r1), (2, .int r2)]) rfl rfl (by decide) [1, 2, 0] rfl ?_
  refine e_iload_n (k := 12) (i := 1) rfl rfl 1 rfl ?_
  refine e_bipush (k := 13) (v := (124 : Int32)) rfl (by decide) ?_
  refine e_icmp_eq (k := 14) (tgt := 58) rfl (by decide) (fun z => ?_) (fun z => ?_)
  · have h := h.1 z
    refine e_sub (lv' := []) [] rfl ?_
    exact s_X12_isBarHere_58 hg h
  · have h := h.2 z
    refine e_iload_n (k := 15) (i := 1) rfl rfl 1 rfl ?_
    refine e_bipush (k := 16) (v := (58 : Int32)) rfl (by decide) ?_
    refine e_icmp_eq (k := 17) (tgt := 58) rfl (by decide) (fun z => ?_) (fun z => ?_)
    · have h := h.1 z
      refine e_sub (lv' := []) [] rfl ?_
      exact s_X12_isBarHere_58 hg h
    · have h := h.2 z
      refine e_iload_n (k := 18) (i := 1) rfl rfl 1 rfl ?_
      refine e_bipush (k := 19) (v := (91 : Int32)) rfl (by decide) ?_
      refine e_icmp_ne (k := 20) (tgt := 62) rfl (by decide) (fun z => ?_) (fun z => ?_)
      · have h := h.1 z
        refine e_sub (lv' := []) [] rfl ?_
        exact s_X12_isBarHere_62 hg h
      · have h := h.2 z
        refine e_iload_n (k := 21) (i := 2) rfl rfl 2 rfl ?_
        refine e_bipush (k := 22) (v := (124 : Int32)) rfl (by decide) ?_
        refine e_icmp_eq (k := 23) (tgt := 58) rfl (by decide) (fun z => ?_) (fun z => ?_)
        · have h := h.1 z
          refine e_sub (lv' := []) [] rfl ?_
          exact s_X12_isBarHere_58 hg h
        · have h := h.2 z
          refine e_iload_n (k := 24) (i := 2) rfl rfl 2 rfl ?_
          refine e_i2l (k := 25) rfl ?_
          refine e_ldc2 (k := 26) rfl k_X12_387 ?_
          refine e_ldc2 (k := 27) rfl k_X12_389 ?_
          refine e_callSi (k := 28) (As := [.long r2.toInt64, .long (49 : Int64), .long (52 : Int64)]) (rest := []) rfl (c_X12_in (g := g) hg (n := n) h) m_X12_in st_X12_in l_X12_125 rfl rfl (Nat.le_of_ble_eq_true rfl) ⟨by decide, by decide, rfl, rfl⟩ (fun _ h => ⟨fun _ z => (by cases z), Or.inr ⟨rfl, h⟩⟩) (fun r3 u3 h => ?_)
          refine e_if_eq (k := 29) (tgt := 62) rfl (by decide) (fun z => ?_) (fun z => ?_)
          · have h := h.1 z
            refine e_sub (lv' := []) [] rfl ?_
            exact s_X12_isBarHere_62 hg h
          · have h := h.2 z
            refine e_sub (lv' := []) [] rfl ?_
            exact s_X12_isBarHere_58 hg h
def il_X12_isDigit : List (Nat × Instr × Nat) := [(0, .iload_n 0, 1), (1, .i2l, 1), (2, .ldc2_w 170, 3), (5, .ldc2_w 172, 3), (8, .invokestatic 125, 3), (11, .ireturn, 1)]
set_option maxRecDepth 20000 in
theorem il_X12_isDigit_ok : ∀ x ∈ il_X12_isDigit, decode cX12_isDigit x.1 = .ok x.2 := by decide +kernel
abbrev me_X12_isDigit : Me := (RX12, il_X12_isDigit, 1, (some .boolean), xRoom 2, [])
def w_X12_isDigit (n : Nat) (a0 : Int32) (u0 : Mm) (Q : Int32 → Mm → Prop) (T : Mm → Prop) : Prop :=
  w_X12_in n (a0.toInt64) (48 : Int64) (57 : Int64) u0 (fun r1 u1 =>
  narrow .boolean (.int r1) = .int r1 ∧ Q r1 u1) T
set_option maxRecDepth 20000 in
theorem c_X12_isDigit {g : Gb} (hg : xInj g) {n : Nat} {a0 : Int32} {u0 : Mm} {Q : Int32 → Mm → Prop} {T : Mm → Prop} (h : w_X12_isDigit n a0 u0 Q T) : xMet (gL g) yX12_isDigit (xws yX12_isDigit cX12_isDigit 1 (some .boolean)) (xRoom 2) (xPc g [.int a0] u0) (xQ g (pI g Q T)) (xA g) := by
  refine xbody (il := il_X12_isDigit) hg il_X12_isDigit_ok m_X12_isDigit (Nat.le_of_ble_eq_true rfl) ?_
  show xE g me_X12_isDigit (pI g Q T) 0 [(0, .int a0)] [] u0
  unfold w_X12_isDigit at h
  refine e_iload_n (k := 0) (i := 0) rfl rfl 0 rfl ?_
  refine e_i2l (k := 1) rfl ?_
  refine e_ldc2 (k := 2) rfl k_X12_170 ?_
  refine e_ldc2 (k := 3) rfl k_X12_172 ?_
  refine e_callSi (k := 4) (As := [.long a0.toInt64, .long (48 : Int64), .long (57 : Int64)]) (rest := []) rfl (c_X12_in (g := g) hg (n := n) h) m_X12_in st_X12_in l_X12_125 rfl rfl (Nat.le_of_ble_eq_true rfl) ⟨by decide, by decide, rfl, rfl⟩ (fun _ h => ⟨fun _ z => (by cases z), Or.inr ⟨rfl, h⟩⟩) (fun r1 u1 h => ?_)
  exact e_zret (k := 5) rfl rfl h.1 (Or.inl ⟨_, rfl, h.2⟩)
def il_X12_isFieldHere : List (Nat × Instr × Nat) := [(0, .aload_n 0, 1), (1, .aload_n 0, 1), (2, .getfield 138, 3), (5, .iconst 1, 1), (6, .iadd, 1), (7, .invokevirtual 141, 3), (10, .istore_n 1, 1), (11, .aload_n 0, 1), (12, .aload_n 0, 1), (13, .getfield 138, 3), (16, .invokevirtual 141, 3), (19, .bipush 91, 2), (21, .if_icmp .ne 46, 3), (24, .iload_n 1, 1), (25, .bipush 86, 2), (27, .if_icmp .eq 21, 3), (30, .iload_n 1, 1), (31, .bipush 77, 2), (33, .if_icmp .eq 15, 3), (36, .iload_n 1, 1), (37, .bipush 76, 2), (39, .if_icmp .eq 9, 3), (42, .iload_n 1, 1), (43, .bipush 75, 2), (45, .if_icmp .ne 22, 3), (48, .aload_n 0, 1), (49, .aload_n 0, 1), (50, .getfield 138, 3), (53, .iconst 2, 1), (54, .iadd, 1), (55, .invokevirtual 141, 3), (58, .bipush 58, 2), (60, .if_icmp .ne 7, 3), (63, .iconst 1, 1), (64, .goto 4, 3), (67, .iconst 0, 1), (68, .ireturn, 1)]
set_option maxRecDepth 20000 in
theorem il_X12_isFieldHere_ok : ∀ x ∈ il_X12_isFieldHere, decode cX12_isFieldHere x.1 = .ok x.2 := by decide +kernel
abbrev me_X12_isFieldHere : Me := (RX12, il_X12_isFieldHere, 2, (some .boolean), xRoom 2, [])
def w_X12_isFieldHere_68 (n : Nat) (t0 : Int32) (u0 : Mm) (Q : Int32 → Mm → Prop) (T : Mm → Prop) : Prop :=
  narrow .boolean (.int t0) = .int t0 ∧ Q t0 u0
def w_X12_isFieldHere_67 (n : Nat) (u0 : Mm) (Q : Int32 → Mm → Prop) (T : Mm → Prop) : Prop :=
  w_X12_isFieldHere_68 n (0 : Int32) u0 Q T
def w_X12_isFieldHere_48 (n : Nat) (u0 : Mm) (Q : Int32 → Mm → Prop) (T : Mm → Prop) : Prop :=
  w_X12_peek n ((u0.1 0 7) + (2 : Int32)) u0 (fun r1 u1 =>
  (¬ r1 = (58 : Int32) → w_X12_isFieldHere_67 n u1 Q T) ∧
  (r1 = (58 : Int32) → w_X12_isFieldHere_68 n (1 : Int32) u1 Q T)) T
def w_X12_isFieldHere (n : Nat) (u0 : Mm) (Q : Int32 → Mm → Prop) (T : Mm → Prop) : Prop :=
  w_X12_peek n ((u0.1 0 7) + (1 : Int32)) u0 (fun r1 u1 =>
  w_X12_peek n (u1.1 0 7) u1 (fun r2 u2 =>
  (¬ r2 = (91 : Int32) → w_X12_isFieldHere_67 n u2 Q T) ∧
  (r2 = (91 : Int32) → (r1 = (86 : Int32) → w_X12_isFieldHere_48 n u2 Q T) ∧
  (¬ r1 = (86 : Int32) → (r1 = (77 : Int32) → w_X12_isFieldHere_48 n u2 Q T) ∧
  (¬ r1 = (77 : Int32) → (r1 = (76 : Int32) → w_X12_isFieldHere_48 n u2 Q T) ∧
  (¬ r1 = (76 : Int32) → (¬ r1 = (75 : Int32) → w_X12_isFieldHere_67 n u2 Q T) ∧
  (r1 = (75 : Int32) → w_X12_isFieldHere_48 n u2 Q T)))))) T) T
set_option maxRecDepth 20000 in
theorem s_X12_isFieldHere_68 {g : Gb} (hg : xInj g) {n : Nat} {Q : Int32 → Mm → Prop} {T : Mm → Prop} {t0 : Int32} {u0 : Mm} (h : w_X12_isFieldHere_68 n t0 u0 Q T) : xE g me_X12_isFieldHere (pI g Q T) 68 [] [.int t0] u0 := by
  unfold w_X12_isFieldHere_68 at h
  exact e_zret (k := 36) rfl rfl h.1 (Or.inl ⟨_, rfl, h.2⟩)
set_option maxRecDepth 20000 in
theorem s_X12_isFieldHere_67 {g : Gb} (hg : xInj g) {n : Nat} {Q : Int32 → Mm → Prop} {T : Mm → Prop} {u0 : Mm} (h : w_X12_isFieldHere_67 n  u0 Q T) : xE g me_X12_isFieldHere (pI g Q T) 67 [] [] u0 := by
  unfold w_X12_isFieldHere_67 at h
  refine e_iconst (k := 35) (v := (0 : Int32)) rfl (by decide) ?_
  exact s_X12_isFieldHere_68 hg h
set_option maxRecDepth 20000 in
theorem s_X12_isFieldHere_48 {g : Gb} (hg : xInj g) {n : Nat} {Q : Int32 → Mm → Prop} {T : Mm → Prop} {u0 : Mm} (h : w_X12_isFieldHere_48 n  u0 Q T) : xE g me_X12_isFieldHere (pI g Q T) 48 [(0, .ref (gR g 0))] [] u0 := by
  unfold w_X12_isFieldHere_48 at h
  refine e_aload_n (k := 25) (i := 0) rfl rfl 0 rfl ?_
  refine e_aload_n (k := 26) (i := 0) rfl rfl 0 rfl ?_
  refine e_getI (k := 27) rfl f_X12_138 rfl rfl ?_
  refine e_iconst (k := 28) (v := (2 : Int32)) rfl (by decide) ?_
  refine e_iadd (k := 29) rfl ?_
  refine e_callVi (k := 30) (q := 0) (As := [.int ((u0.1 0 7) + (2 : Int32))]) (rest := []) rfl (c_X12_peek (g := g) hg (n := n) h) m_X12_peek i_X12_peek l_X12_141 rfl ⟨_, rfl, rfl⟩ rfl rfl (Nat.le_of_ble_eq_true rfl) ⟨by decide, by decide, rfl, rfl⟩ (fun _ h => ⟨fun _ z => (by cases z), Or.inr ⟨rfl, h⟩⟩) (fun r1 u1 h => ?_)
  refine e_bipush (k := 31) (v := (58 : Int32)) rfl (by decide) ?_
  refine e_icmp_ne (k := 32) (tgt := 67) rfl (by decide) (fun z => ?_) (fun z => ?_)
  · have h := h.1 z
    refine e_sub (lv' := []) [] rfl ?_
    exact s_X12_isFieldHere_67 hg h
  · have h := h.2 z
    refine e_iconst (k := 33) (v := (1 : Int32)) rfl (by decide) ?_
    refine e_goto (k := 34) (tgt := 68) rfl (by decide) ?_
    refine e_sub (lv' := []) [] rfl ?_
    exact s_X12_isFieldHere_68 hg h
set_option maxRecDepth 20000 in
theorem c_X12_isFieldHere {g : Gb} (hg : xInj g) {n : Nat} {u0 : Mm} {Q : Int32 → Mm → Prop} {T : Mm → Prop} (h : w_X12_isFieldHere n u0 Q T) : xMet (gL g) yX12_isFieldHere (xws yX12_isFieldHere cX12_isFieldHere 2 (some .boolean)) (xRoom 2) (xPc g [.ref (gR g 0)] u0) (xQ g (pI g Q T)) (xA g) := by
  refine xbody (il := il_X12_isFieldHere) hg il_X12_isFieldHere_ok m_X12_isFieldHere (Nat.le_of_ble_eq_true rfl) ?_
  show xE g me_X12_isFieldHere (pI g Q T) 0 [(0, .ref (gR g 0))] [] u0
  unfold w_X12_isFieldHere at h
  refine e_aload_n (k := 0) (i := 0) rfl rfl 0 rfl ?_
  refine e_aload_n (k := 1) (i := 0) rfl rfl 0 rfl ?_
  refine e_getI (k := 2) rfl f_X12_138 rfl rfl ?_
  refine e_iconst (k := 3) (v := (1 : Int32)) rfl (by decide) ?_
  refine e_iadd (k := 4) rfl ?_
  refine e_callVi (k := 5) (q := 0) (As := [.int ((u0.1 0 7) + (1 : Int32))]) (rest := []) rfl (c_X12_peek (g := g) hg (n := n) h) m_X12_peek i_X12_peek l_X12_141 rfl ⟨_, rfl, rfl⟩ rfl rfl (Nat.le_of_ble_eq_true rfl) ⟨by decide, by decide, rfl, rfl⟩ (fun _ h => ⟨fun _ z => (by cases z), Or.inr ⟨rfl, h⟩⟩) (fun r1 u1 h => ?_)
  refine e_istore_n (k := 6) (i := 1) (lv' := [(0, .ref (gR g 0)), (1, .int r1)]) rfl rfl (by decide) [1, 0] rfl ?_
  refine e_aload_n (k := 7) (i := 0) rfl rfl 0 rfl ?_
  refine e_aload_n (k := 8) (i := 0) rfl rfl 0 rfl ?_
  refine e_getI (k := 9) rfl f_X12_138 rfl rfl ?_
  refine e_callVi (k := 10) (q := 0) (As := [.int (u1.1 0 7)]) (rest := []) rfl (c_X12_peek (g := g) hg (n := n) h) m_X12_peek i_X12_peek l_X12_141 rfl ⟨_, rfl, rfl⟩ rfl rfl (Nat.le_of_ble_eq_true rfl) ⟨by decide, by decide, rfl, rfl⟩ (fun _ h => ⟨fun _ z => (by cases z), Or.inr ⟨rfl, h⟩⟩) (fun r2 u2 h => ?_)
  refine e_bipush (k := 11) (v := (91 : Int32)) rfl (by decide) ?_
  refine e_icmp_ne (k := 12) (tgt := 67) rfl (by decide) (fun z => ?_) (fun z => ?_)
  · have h := h.1 z
    refine e_sub (lv' := []) [] rfl ?_
    exact s_X12_isFieldHere_67 hg h
  · have h := h.2 z
    refine e_iload_n (k := 13) (i := 1) rfl rfl 1 rfl ?_
    refine e_bipush (k := 14) (v := (86 : Int32)) rfl (by decide) ?_
    refine e_icmp_eq (k := 15) (tgt := 48) rfl (by decide) (fun z => ?_) (fun z => ?_)
    · have h := h.1 z
      refine e_sub (lv' := [(0, .ref (gR g 0))]) [0] rfl ?_
      exact s_X12_isFieldHere_48 hg h
    · have h := h.2 z
      refine e_iload_n (k := 16) (i := 1) rfl rfl 1 rfl ?_
      refine e_bipush (k := 17) (v := (77 : Int32)) rfl (by decide) ?_
      refine e_icmp_eq (k := 18) (tgt := 48) rfl (by decide) (fun z => ?_) (fun z => ?_)
      · have h := h.1 z
        refine e_sub (lv' := [(0, .ref (gR g 0))]) [0] rfl ?_
        exact s_X12_isFieldHere_48 hg h
      · have h := h.2 z
        refine e_iload_n (k := 19) (i := 1) rfl rfl 1 rfl ?_
        refine e_bipush (k := 20) (v := (76 : Int32)) rfl (by decide) ?_
        refine e_icmp_eq (k := 21) (tgt := 48) rfl (by decide) (fun z => ?_) (fun z => ?_)
        · have h := h.1 z
          refine e_sub (lv' := [(0, .ref (gR g 0))]) [0] rfl ?_
          exact s_X12_isFieldHere_48 hg h
        · have h := h.2 z
          refine e_iload_n (k := 22) (i := 1) rfl rfl 1 rfl ?_
          refine e_bipush (k := 23) (v := (75 : Int32)) rfl (by decide) ?_
          refine e_icmp_ne (k := 24) (tgt := 67) rfl (by decide) (fun z => ?_) (fun z => ?_)
          · have h := h.1 z
            refine e_sub (lv' := []) [] rfl ?_
            exact s_X12_isFieldHere_67 hg h
          · have h := h.2 z
            refine e_sub (lv' := [(0, .ref (gR g 0))]) [0] rfl ?_
            exact s_X12_isFieldHere_48 hg h
def il_X12_isLetter : List (Nat × Instr × Nat) := [(0, .iload_n 0, 1), (1, .i2l, 1), (2, .ldc2_w 174, 3), (5, .ldc2_w 176, 3), (8, .invokestatic 125, 3), (11, .ifCond .ne 17, 3), (14, .iload_n 0, 1), (15, .i2l, 1), (16, .ldc2_w 178, 3), (19, .ldc2_w 180, 3), (22, .invokestatic 125, 3), (25, .ifCond .eq 7, 3), (28, .iconst 1, 1), (29, .goto 4, 3), (32, .iconst 0, 1), (33, .ireturn, 1)]
set_option maxRecDepth 20000 in
theorem il_X12_isLetter_ok : ∀ x ∈ il_X12_isLetter, decode cX12_isLetter x.1 = .ok x.2 := by decide +kernel
abbrev me_X12_isLetter : Me := (RX12, il_X12_isLetter, 1, (some .boolean), xRoom 2, [])
def w_X12_isLetter_33 (n : Nat) (t0 : Int32) (u0 : Mm) (Q : Int32 → Mm → Prop) (T : Mm → Prop) : Prop :=
  narrow .boolean (.int t0) = .int t0 ∧ Q t0 u0
def w_X12_isLetter_28 (n : Nat) (u0 : Mm) (Q : Int32 → Mm → Prop) (T : Mm → Prop) : Prop :=
  w_X12_isLetter_33 n (1 : Int32) u0 Q T
def w_X12_isLetter (n : Nat) (a0 : Int32) (u0 : Mm) (Q : Int32 → Mm → Prop) (T : Mm → Prop) : Prop :=
  w_X12_in n (a0.toInt64) (65 : Int64) (90 : Int64) u0 (fun r1 u1 =>
  (¬ r1 = 0 → w_X12_isLetter_28 n u1 Q T) ∧
  (r1 = 0 → w_X12_in n (a0.toInt64) (97 : Int64) (122 : Int64) u1 (fun r2 u2 =>
  (r2 = 0 → w_X12_isLetter_33 n (0 : Int32) u2 Q T) ∧
  (¬ r2 = 0 → w_X12_isLetter_28 n u2 Q T)) T)) T
set_option maxRecDepth 20000 in
theorem s_X12_isLetter_33 {g : Gb} (hg : xInj g) {n : Nat} {Q : Int32 → Mm → Prop} {T : Mm → Prop} {t0 : Int32} {u0 : Mm} (h : w_X12_isLetter_33 n t0 u0 Q T) : xE g me_X12_isLetter (pI g Q T) 33 [] [.int t0] u0 := by
  unfold w_X12_isLetter_33 at h
  exact e_zret (k := 15) rfl rfl h.1 (Or.inl ⟨_, rfl, h.2⟩)
set_option maxRecDepth 20000 in
theorem s_X12_isLetter_28 {g : Gb} (hg : xInj g) {n : Nat} {Q : Int32 → Mm → Prop} {T : Mm → Prop} {u0 : Mm} (h : w_X12_isLetter_28 n  u0 Q T) : xE g me_X12_isLetter (pI g Q T) 28 [] [] u0 := by
  unfold w_X12_isLetter_28 at h
  refine e_iconst (k := 12) (v := (1 : Int32)) rfl (by decide) ?_
  refine e_goto (k := 13) (tgt := 33) rfl (by decide) ?_
  exact s_X12_isLetter_33 hg h
set_option maxRecDepth 20000 in
theorem c_X12_isLetter {g : Gb} (hg : xInj g) {n : Nat} {a0 : Int32} {u0 : Mm} {Q : Int32 → Mm → Prop} {T : Mm → Prop} (h : w_X12_isLetter n a0 u0 Q T) : xMet (gL g) yX12_isLetter (xws yX12_isLetter cX12_isLetter 1 (some .boolean)) (xRoom 2) (xPc g [.int a0] u0) (xQ g (pI g Q T)) (xA g) := by
  refine xbody (il := il_X12_isLetter) hg il_X12_isLetter_ok m_X12_isLetter (Nat.le_of_ble_eq_true rfl) ?_
  show xE g me_X12_isLetter (pI g Q T) 0 [(0, .int a0)] [] u0
  unfold w_X12_isLetter at h
  refine e_iload_n (k := 0) (i := 0) rfl rfl 0 rfl ?_
  refine e_i2l (k := 1) rfl ?_
  refine e_ldc2 (k := 2) rfl k_X12_174 ?_
  refine e_ldc2 (k := 3) rfl k_X12_176 ?_
  refine e_callSi (k := 4) (As := [.long a0.toInt64, .long (65 : Int64), .long (90 : Int64)]) (rest := []) rfl (c_X12_in (g := g) hg (n := n) h) m_X12_in st_X12_in l_X12_125 rfl rfl (Nat.le_of_ble_eq_true rfl) ⟨by decide, by decide, rfl, rfl⟩ (fun _ h => ⟨fun _ z => (by cases z), Or.inr ⟨rfl, h⟩⟩) (fun r1 u1 h => ?_)
  refine e_if_ne (k := 5) (tgt := 28) rfl (by decide) (fun z => ?_) (fun z => ?_)
  · have h := h.1 z
    refine e_sub (lv' := []) [] rfl ?_
    exact s_X12_isLetter_28 hg h
  · have h := h.2 z
    refine e_iload_n (k := 6) (i := 0) rfl rfl 0 rfl ?_
    refine e_i2l (k := 7) rfl ?_
    refine e_ldc2 (k := 8) rfl k_X12_178 ?_
    refine e_ldc2 (k := 9) rfl k_X12_180 ?_
    refine e_callSi (k := 10) (As := [.long a0.toInt64, .long (97 : Int64), .long (122 : Int64)]) (rest := []) rfl (c_X12_in (g := g) hg (n := n) h) m_X12_in st_X12_in l_X12_125 rfl rfl (Nat.le_of_ble_eq_true rfl) ⟨by decide, by decide, rfl, rfl⟩ (fun _ h => ⟨fun _ z => (by cases z), Or.inr ⟨rfl, h⟩⟩) (fun r2 u2 h => ?_)
    refine e_if_eq (k := 11) (tgt := 32) rfl (by decide) (fun z => ?_) (fun z => ?_)
    · have h := h.1 z
      refine e_iconst (k := 14) (v := (0 : Int32)) rfl (by decide) ?_
      refine e_sub (lv' := []) [] rfl ?_
      exact s_X12_isLetter_33 hg h
    · have h := h.2 z
      refine e_sub (lv' := []) [] rfl ?_
      exact s_X12_isLetter_28 hg h
def il_X12_isNoteLetter : List (Nat × Instr × Nat) := [(0, .iload_n 0, 1), (1, .i2l, 1), (2, .ldc2_w 174, 3), (5, .ldc2_w 219, 3), (8, .invokestatic 125, 3), (11, .ifCond .ne 17, 3), (14, .iload_n 0, 1), (15, .i2l, 1), (16, .ldc2_w 178, 3), (19, .ldc2_w 312, 3), (22, .invokestatic 125, 3), (25, .ifCond .eq 7, 3), (28, .iconst 1, 1), (29, .goto 4, 3), (32, .iconst 0, 1), (33, .ireturn, 1)]
set_option maxRecDepth 20000 in
theorem il_X12_isNoteLetter_ok : ∀ x ∈ il_X12_isNoteLetter, decode cX12_isNoteLetter x.1 = .ok x.2 := by decide +kernel
abbrev me_X12_isNoteLetter : Me := (RX12, il_X12_isNoteLetter, 1, (some .boolean), xRoom 2, [])
def w_X12_isNoteLetter_33 (n : Nat) (t0 : Int32) (u0 : Mm) (Q : Int32 → Mm → Prop) (T : Mm → Prop) : Prop :=
  narrow .boolean (.int t0) = .int t0 ∧ Q t0 u0
def w_X12_isNoteLetter_28 (n : Nat) (u0 : Mm) (Q : Int32 → Mm → Prop) (T : Mm → Prop) : Prop :=
  w_X12_isNoteLetter_33 n (1 : Int32) u0 Q T
def w_X12_isNoteLetter (n : Nat) (a0 : Int32) (u0 : Mm) (Q : Int32 → Mm → Prop) (T : Mm → Prop) : Prop :=
  w_X12_in n (a0.toInt64) (65 : Int64) (71 : Int64) u0 (fun r1 u1 =>
  (¬ r1 = 0 → w_X12_isNoteLetter_28 n u1 Q T) ∧
  (r1 = 0 → w_X12_in n (a0.toInt64) (97 : Int64) (103 : Int64) u1 (fun r2 u2 =>
  (r2 = 0 → w_X12_isNoteLetter_33 n (0 : Int32) u2 Q T) ∧
  (¬ r2 = 0 → w_X12_isNoteLetter_28 n u2 Q T)) T)) T
set_option maxRecDepth 20000 in
theorem s_X12_isNoteLetter_33 {g : Gb} (hg : xInj g) {n : Nat} {Q : Int32 → Mm → Prop} {T : Mm → Prop} {t0 : Int32} {u0 : Mm} (h : w_X12_isNoteLetter_33 n t0 u0 Q T) : xE g me_X12_isNoteLetter (pI g Q T) 33 [] [.int t0] u0 := by
  unfold w_X12_isNoteLetter_33 at h
  exact e_zret (k := 15) rfl rfl h.1 (Or.inl ⟨_, rfl, h.2⟩)
set_option maxRecDepth 20000 in
theorem s_X12_isNoteLetter_28 {g : Gb} (hg : xInj g) {n : Nat} {Q : Int32 → Mm → Prop} {T : Mm → Prop} {u0 : Mm} (h : w_X12_isNoteLetter_28 n  u0 Q T) : xE g me_X12_isNoteLetter (pI g Q T) 28 [] [] u0 := by
  unfold w_X12_isNoteLetter_28 at h
  refine e_iconst (k := 12) (v := (1 : Int32)) rfl (by decide) ?_
  refine e_goto (k := 13) (tgt := 33) rfl (by decide) ?_
  exact s_X12_isNoteLetter_33 hg h
set_option maxRecDepth 20000 in
theorem c_X12_isNoteLetter {g : Gb} (hg : xInj g) {n : Nat} {a0 : Int32} {u0 : Mm} {Q : Int32 → Mm → Prop} {T : Mm → Prop} (h : w_X12_isNoteLetter n a0 u0 Q T) : xMet (gL g) yX12_isNoteLetter (xws yX12_isNoteLetter cX12_isNoteLetter 1 (some .boolean)) (xRoom 2) (xPc g [.int a0] u0) (xQ g (pI g Q T)) (xA g) := by
  refine xbody (il := il_X12_isNoteLetter) hg il_X12_isNoteLetter_ok m_X12_isNoteLetter (Nat.le_of_ble_eq_true rfl) ?_
  show xE g me_X12_isNoteLetter (pI g Q T) 0 [(0, .int a0)] [] u0
  unfold w_X12_isNoteLetter at h
  refine e_iload_n (k := 0) (i := 0) rfl rfl 0 rfl ?_
  refine e_i2l (k := 1) rfl ?_
  refine e_ldc2 (k := 2) rfl k_X12_174 ?_
  refine e_ldc2 (k := 3) rfl k_X12_219 ?_
  refine e_callSi (k := 4) (As := [.long a0.toInt64, .long (65 : Int64), .long (71 : Int64)]) (rest := []) rfl (c_X12_in (g := g) hg (n := n) h) m_X12_in st_X12_in l_X12_125 rfl rfl (Nat.le_of_ble_eq_true rfl) ⟨by decide, by decide, rfl, rfl⟩ (fun _ h => ⟨fun _ z => (by cases z), Or.inr ⟨rfl, h⟩⟩) (fun r1 u1 h => ?_)
  refine e_if_ne (k := 5) (tgt := 28) rfl (by decide) (fun z => ?_) (fun z => ?_)
  · have h := h.1 z
    refine e_sub (lv' := []) [] rfl ?_
    exact s_X12_isNoteLetter_28 hg h
  · have h := h.2 z
    refine e_iload_n (k := 6) (i := 0) rfl rfl 0 rfl ?_
    refine e_i2l (k := 7) rfl ?_
    refine e_ldc2 (k := 8) rfl k_X12_178 ?_
    refine e_ldc2 (k := 9) rfl k_X12_312 ?_
    refine e_callSi (k := 10) (As := [.long a0.toInt64, .long (97 : Int64), .long (103 : Int64)]) (rest := []) rfl (c_X12_in (g := g) hg (n := n) h) m_X12_in st_X12_in l_X12_125 rfl rfl (Nat.le_of_ble_eq_true rfl) ⟨by decide, by decide, rfl, rfl⟩ (fun _ h => ⟨fun _ z => (by cases z), Or.inr ⟨rfl, h⟩⟩) (fun r2 u2 h => ?_)
    refine e_if_eq (k := 11) (tgt := 32) rfl (by decide) (fun z => ?_) (fun z => ?_)
    · have h := h.1 z
      refine e_iconst (k := 14) (v := (0 : Int32)) rfl (by decide) ?_
      refine e_sub (lv' := []) [] rfl ?_
      exact s_X12_isNoteLetter_33 hg h
    · have h := h.2 z
      refine e_sub (lv' := []) [] rfl ?_
      exact s_X12_isNoteLetter_28 hg h
def il_X12_lookAtBytes : List (Nat × Instr × Nat) := [(0, .aload_n 0, 1), (1, .getfield 145, 3), (4, .sipush 2000, 3), (7, .if_icmp .le 11, 3), (10, .aload_n 0, 1), (11, .iconst 2, 1), (12, .sipush 2000, 3), (15, .invokevirtual 148, 3), (18, .aload_n 0, 1), (19, .iconst 0, 1), (20, .putfield 138, 3), (23, .aload_n 0, 1), (24, .getfield 138, 3), (27, .aload_n 0, 1), (28, .getfield 145, 3), (31, .if_icmp .ge 64, 3), (34, .aload_n 0, 1), (35, .invokevirtual 152, 3), (38, .aload_n 0, 1), (39, .getfield 138, 3), (42, .istore_n 1, 1), (43, .iload_n 1, 1), (44, .aload_n 0, 1), (45, .getfield 135, 3), (48, .if_icmp .ge 34, 3), (51, .aload_n 0, 1), (52, .getfield 24, 3), (55, .iload_n 1, 1), (56, .baload, 1), (57, .i2l, 1), (58, .ldc2_w 155, 3), (61, .ldc2_w 157, 3), (64, .invokestatic 125, 3), (67, .ifCond .ne 9, 3), (70, .aload_n 0, 1), (71, .iconst 1, 1), (72, .iload_n 1, 1), (73, .invokevirtual 148, 3), (76, .iinc 1 1, 3), (79, .goto (-36), 3), (82, .aload_n 0, 1), (83, .aload_n 0, 1), (84, .getfield 159, 3), (87, .iconst 1, 1), (88, .iadd, 1), (89, .putfield 138, 3), (92, .goto (-69), 3), (95, .aload_n 0, 1), (96, .iconst 0, 1), (97, .putfield 138, 3), (100, .return_, 1)]
set_option maxRecDepth 20000 in
theorem il_X12_lookAtBytes_ok : ∀ x ∈ il_X12_lookAtBytes, decode cX12_lookAtBytes x.1 = .ok x.2 := by decide +kernel
abbrev me_X12_lookAtBytes : Me := (RX12, il_X12_lookAtBytes, 2, none, xRoom 2, [])
def w_X12_lookAtBytes_76 (n : Nat) (L23 : Mm → Prop) (L43 : Int32 → Mm → Prop) (x1 : Int32) (u0 : Mm) (Q : Mm → Prop) (T : Mm → Prop) : Prop :=
  L43 (x1 + (1 : Int32)) u0
def w_X12_lookAtBytes_43 (n : Nat) (L23 : Mm → Prop) (Q : Mm → Prop) (T : Mm → Prop) : Nat → Int32 → Mm → Prop
  | 0, _, _ => False
  | k + 1, x1, u0 =>
  ((u0.1 0 9) ≤ x1 → mlet (setI u0 0 7 ((u0.1 0 8) + (1 : Int32))) fun u1 =>
  L23 u1) ∧
  (¬ (u0.1 0 9) ≤ x1 → vp_in x1 2420 ∧ (w_X12_in n (u0.1 3 (ix x1)).toInt64 (32 : Int64) (126 : Int64) u0 (fun r1 u2 =>
  (¬ r1 = 0 → w_X12_lookAtBytes_76 n L23 (w_X12_lookAtBytes_43 n L23 Q T k) x1 u2 Q T) ∧
  (r1 = 0 → w_X12_fail n (1 : Int32) x1 u2 (fun u3 =>
  w_X12_lookAtBytes_76 n L23 (w_X12_lookAtBytes_43 n L23 Q T k) x1 u3 Q T) T)) T))
def w_X12_lookAtBytes_23 (n : Nat) (Q : Mm → Prop) (T : Mm → Prop) : Nat → Mm → Prop
  | 0, _ => False
  | k + 1, u0 =>
  ((u0.1 0 6) ≤ (u0.1 0 7) → mlet (setI u0 0 7 (0 : Int32)) fun u1 =>
  Q u1) ∧
  (¬ (u0.1 0 6) ≤ (u0.1 0 7) → w_X12_beginLine n u0 (fun u2 =>
  ilet (u2.1 0 7) fun y1 =>
  (w_X12_lookAtBytes_43 n (w_X12_lookAtBytes_23 n Q T k) Q T n) y1 u2) T)
def w_X12_lookAtBytes_18 (n : Nat) (u0 : Mm) (Q : Mm → Prop) (T : Mm → Prop) : Prop :=
  mlet (setI u0 0 7 (0 : Int32)) fun u1 =>
  (w_X12_lookAtBytes_23 n Q T n) u1
def w_X12_lookAtBytes (n : Nat) (u0 : Mm) (Q : Mm → Prop) (T : Mm → Prop) : Prop :=
  ((u0.1 0 6) ≤ (2000 : Int32) → w_X12_lookAtBytes_18 n u0 Q T) ∧
  (¬ (u0.1 0 6) ≤ (2000 : Int32) → w_X12_fail n (2 : Int32) (2000 : Int32) u0 (fun u1 =>
  w_X12_lookAtBytes_18 n u1 Q T) T)
set_option maxRecDepth 20000 in
theorem s_X12_lookAtBytes_76 {g : Gb} (hg : xInj g) {n : Nat} {Q : Mm → Prop} {T : Mm → Prop} {L23 : Mm → Prop} {L43 : Int32 → Mm → Prop} (hL23 : ∀ (u0 : Mm), L23  u0 → xE g me_X12_lookAtBytes (pV g Q T) 23 [(0, .ref (gR g 0))] [] u0) (hL43 : ∀ (x1 : Int32) (u0 : Mm), L43 x1 u0 → xE g me_X12_lookAtBytes (pV g Q T) 43 [(0, .ref (gR g 0)), (1, .int x1)] [] u0) {x1 : Int32} {u0 : Mm} (h : w_X12_lookAtBytes_76 n L23 L43 x1 u0 Q T) : xE g me_X12_lookAtBytes (pV g Q T) 76 [(0, .ref (gR g 0)), (1, .int x1)] [] u0 := by
  unfold w_X12_lookAtBytes_76 at h
  refine e_iinc (k := 38) (i := 1) (j := 1) (v := (x1 + (1 : Int32))) (lv' := [(0, .ref (gR g 0)), (1, .int (x1 + (1 : Int32)))]) rfl rfl rfl (by decide) [1, 0] rfl ?_
  refine e_goto (k := 39) (tgt := 43) rfl (by decide) ?_
  exact hL43 (x1 + (1 : Int32)) u0 h
set_option maxRecDepth 20000 in
theorem s_X12_lookAtBytes_43 {g : Gb} (hg : xInj g) {n : Nat} {Q : Mm → Prop} {T : Mm → Prop} {L23 : Mm → Prop} (hL23 : ∀ (u0 : Mm), L23  u0 → xE g me_X12_lookAtBytes (pV g Q T) 23 [(0, .ref (gR g 0))] [] u0) : ∀ (k : Nat) (x1 : Int32) (u0 : Mm), w_X12_lookAtBytes_43 n L23 Q T k x1 u0 → xE g me_X12_lookAtBytes (pV g Q T) 43 [(0, .ref (gR g 0)), (1, .int x1)] [] u0 := by
  intro k
  induction k with
  | zero => intro x1 u0 h; exact h.elim
  | succ k ih =>
    intro x1 u0 h
    unfold w_X12_lookAtBytes_43 at h
    refine e_iload_n (k := 21) (i := 1) rfl rfl 1 rfl ?_
    refine e_aload_n (k := 22) (i := 0) rfl rfl 0 rfl ?_
    refine e_getI (k := 23) rfl f_X12_135 rfl rfl ?_
    refine e_icmp_ge (k := 24) (tgt := 82) rfl (by decide) (fun z => ?_) (fun z => ?_)
    · have h := h.1 z
      refine e_aload_n (k := 40) (i := 0) rfl rfl 0 rfl ?_
      refine e_aload_n (k := 41) (i := 0) rfl rfl 0 rfl ?_
      refine e_getI (k := 42) rfl f_X12_159 rfl rfl ?_
      refine e_iconst (k := 43) (v := (1 : Int32)) rfl (by decide) ?_
      refine e_iadd (k := 44) rfl ?_
      refine e_putI (k := 45) rfl fg_X12_138 rfl rfl ?_
      refine e_mlet h (fun u1 h => ?_)
      refine e_goto (k := 46) (tgt := 23) rfl (by decide) ?_
      refine e_sub (lv' := [(0, .ref (gR g 0))]) [0] rfl ?_
      exact hL23 u1 h
    · have h := h.2 z
      refine e_aload_n (k := 25) (i := 0) rfl rfl 0 rfl ?_
      refine e_getC (k := 26) rfl f_X12_24 rfl rfl ?_
      refine e_iload_n (k := 27) (i := 1) rfl rfl 1 rfl ?_
      refine e_bald (k := 28) rfl rfl h.1 ?_
      have h := h.2
      refine e_i2l (k := 29) rfl ?_
      refine e_ldc2 (k := 30) rfl k_X12_155 ?_
      refine e_ldc2 (k := 31) rfl k_X12_157 ?_
      refine e_callSi (k := 32) (As := [.long (u0.1 3 (ix x1)).toInt64, .long (32 : Int64), .long (126 : Int64)]) (rest := []) rfl (c_X12_in (g := g) hg (n := n) h) m_X12_in st_X12_in l_X12_125 rfl rfl (Nat.le_of_ble_eq_true rfl) ⟨by decide, by decide, rfl, rfl⟩ (fun _ h => ⟨fun _ z => (by cases z), Or.inr ⟨rfl, h⟩⟩) (fun r1 u2 h => ?_)
      refine e_if_ne (k := 33) (tgt := 76) rfl (by decide) (fun z => ?_) (fun z => ?_)
      · have h := h.1 z
        exact s_X12_lookAtBytes_76 hg hL23 ih h
      · have h := h.2 z
        refine e_aload_n (k := 34) (i := 0) rfl rfl 0 rfl ?_
        refine e_iconst (k := 35) (v := (1 : Int32)) rfl (by decide) ?_
        refine e_iload_n (k := 36) (i := 1) rfl rfl 1 rfl ?_
        refine e_callVv (k := 37) (q := 0) (As := [.int (1 : Int32), .int x1]) (rest := []) rfl (c_X12_fail (g := g) hg (n := n) h) m_X12_fail i_X12_fail l_X12_148 rfl ⟨_, rfl, rfl⟩ rfl rfl (Nat.le_of_ble_eq_true rfl) ⟨by decide, by decide, rfl, rfl⟩ (fun _ h => ⟨fun _ z => (by cases z), Or.inr ⟨rfl, h⟩⟩) (fun u3 h => ?_)
        exact s_X12_lookAtBytes_76 hg hL23 ih h
set_option maxRecDepth 20000 in
theorem s_X12_lookAtBytes_23 {g : Gb} (hg : xInj g) {n : Nat} {Q : Mm → Prop} {T : Mm → Prop} : ∀ (k : Nat) (u0 : Mm), w_X12_lookAtBytes_23 n Q T k  u0 → xE g me_X12_lookAtBytes (pV g Q T) 23 [(0, .ref (gR g 0))] [] u0 := by
  intro k
  induction k with
  | zero => intro  u0 h; exact h.elim
  | succ k ih =>
    intro  u0 h
    unfold w_X12_lookAtBytes_23 at h
    refine e_aload_n (k := 11) (i := 0) rfl rfl 0 rfl ?_
    refine e_getI (k := 12) rfl f_X12_138 rfl rfl ?_
    refine e_aload_n (k := 13) (i := 0) rfl rfl 0 rfl ?_
    refine e_getI (k := 14) rfl f_X12_145 rfl rfl ?_
    refine e_icmp_ge (k := 15) (tgt := 95) rfl (by decide) (fun z => ?_) (fun z => ?_)
    · have h := h.1 z
      refine e_aload_n (k := 47) (i := 0) rfl rfl 0 rfl ?_
      refine e_iconst (k := 48) (v := (0 : Int32)) rfl (by decide) ?_
      refine e_putI (k := 49) rfl fg_X12_138 rfl rfl ?_
      refine e_mlet h (fun u1 h => ?_)
      exact e_vret (k := 50) rfl rfl (Or.inl ⟨rfl, h⟩)
    · have h := h.2 z
      refine e_aload_n (k := 16) (i := 0) rfl rfl 0 rfl ?_
      refine e_callVv (k := 17) (q := 0) (As := []) (rest := []) rfl (c_X12_beginLine (g := g) hg (n := n) h) m_X12_beginLine i_X12_beginLine l_X12_152 rfl ⟨_, rfl, rfl⟩ rfl rfl (Nat.le_of_ble_eq_true rfl) ⟨by decide, by decide, rfl, rfl⟩ (fun _ h => ⟨fun _ z => (by cases z), Or.inr ⟨rfl, h⟩⟩) (fun u2 h => ?_)
      refine e_aload_n (k := 18) (i := 0) rfl rfl 0 rfl ?_
      refine e_getI (k := 19) rfl f_X12_138 rfl rfl ?_
      refine e_ilet h (fun y1 h => ?_)
      refine e_istore_n (k := 20) (i := 1) (lv' := [(0, .ref (gR g 0)), (1, .int y1)]) rfl rfl (by decide) [1, 0] rfl ?_
      exact s_X12_lookAtBytes_43 hg ih n y1 u2 h
set_option maxRecDepth 20000 in
theorem s_X12_lookAtBytes_18 {g : Gb} (hg : xInj g) {n : Nat} {Q : Mm → Prop} {T : Mm → Prop} {u0 : Mm} (h : w_X12_lookAtBytes_18 n  u0 Q T) : xE g me_X12_lookAtBytes (pV g Q T) 18 [(0, .ref (gR g 0))] [] u0 := by
  unfold w_X12_lookAtBytes_18 at h
  refine e_aload_n (k := 8) (i := 0) rfl rfl 0 rfl ?_
  refine e_iconst (k := 9) (v := (0 : Int32)) rfl (by decide) ?_
  refine e_putI (k := 10) rfl fg_X12_138 rfl rfl ?_
  refine e_mlet h (fun u1 h => ?_)
  exact s_X12_lookAtBytes_23 hg n u1 h
set_option maxRecDepth 20000 in
theorem c_X12_lookAtBytes {g : Gb} (hg : xInj g) {n : Nat} {u0 : Mm} {Q : Mm → Prop} {T : Mm → Prop} (h : w_X12_lookAtBytes n u0 Q T) : xMet (gL g) yX12_lookAtBytes (xws yX12_lookAtBytes cX12_lookAtBytes 2 none) (xRoom 2) (xPc g [.ref (gR g 0)] u0) (xQ g (pV g Q T)) (xA g) := by
  refine xbody (il := il_X12_lookAtBytes) hg il_X12_lookAtBytes_ok m_X12_lookAtBytes (Nat.le_of_ble_eq_true rfl) ?_
  show xE g me_X12_lookAtBytes (pV g Q T) 0 [(0, .ref (gR g 0))] [] u0
  unfold w_X12_lookAtBytes at h
  refine e_aload_n (k := 0) (i := 0) rfl rfl 0 rfl ?_
  refine e_getI (k := 1) rfl f_X12_145 rfl rfl ?_
  refine e_sipush (k := 2) (v := (2000 : Int32)) rfl (by decide) ?_
  refine e_icmp_le (k := 3) (tgt := 18) rfl (by decide) (fun z => ?_) (fun z => ?_)
  · have h := h.1 z
    exact s_X12_lookAtBytes_18 hg h
  · have h := h.2 z
    refine e_aload_n (k := 4) (i := 0) rfl rfl 0 rfl ?_
    refine e_iconst (k := 5) (v := (2 : Int32)) rfl (by decide) ?_
    refine e_sipush (k := 6) (v := (2000 : Int32)) rfl (by decide) ?_
    refine e_callVv (k := 7) (q := 0) (As := [.int (2 : Int32), .int (2000 : Int32)]) (rest := []) rfl (c_X12_fail (g := g) hg (n := n) h) m_X12_fail i_X12_fail l_X12_148 rfl ⟨_, rfl, rfl⟩ rfl rfl (Nat.le_of_ble_eq_true rfl) ⟨by decide, by decide, rfl, rfl⟩ (fun _ h => ⟨fun _ z => (by cases z), Or.inr ⟨rfl, h⟩⟩) (fun u1 h => ?_)
    exact s_X12_lookAtBytes_18 hg h
def il_X12_measures : List (Nat × Instr × Nat) := [(0, .aload_n 0, 1), (1, .iconst 0, 1), (2, .putfield 1, 3), (5, .aload_n 0, 1), (6, .getfield 494, 3), (9, .ifCond .eq 15, 3), (12, .iload_n 1, 1), (13, .i2l, 1), (14, .lconst 1, 1), (15, .ldc2_w 508, 3), (18, .invokestatic 125, 3), (21, .ifCond .ne 7, 3), (24, .iconst (-1), 1), (25, .goto 11, 3), (28, .aload_n 0, 1), (29, .getfield 78, 3), (32, .iload_n 1, 1), (33, .iconst 1, 1), (34, .isub, 1), (35, .iaload, 1), (36, .ireturn, 1)]
set_option maxRecDepth 20000 in
theorem il_X12_measures_ok : ∀ x ∈ il_X12_measures, decode cX12_measures x.1 = .ok x.2 := by decide +kernel
abbrev me_X12_measures : Me := (RX12, il_X12_measures, 2, (some .int), xRoom 2, [])
def w_X12_measures_36 (n : Nat) (t0 : Int32) (u0 : Mm) (Q : Int32 → Mm → Prop) (T : Mm → Prop) : Prop :=
  Q t0 u0
def w_X12_measures_24 (n : Nat) (u0 : Mm) (Q : Int32 → Mm → Prop) (T : Mm → Prop) : Prop :=
  w_X12_measures_36 n (-1 : Int32) u0 Q T
def w_X12_measures (n : Nat) (a0 : Int32) (u0 : Mm) (Q : Int32 → Mm → Prop) (T : Mm → Prop) : Prop :=
  mlet (setI u0 0 0 (0 : Int32)) fun u1 =>
  ((u1.1 0 10) = 0 → w_X12_measures_24 n u1 Q T) ∧
  (¬ (u1.1 0 10) = 0 → w_X12_in n (a0.toInt64) (1 : Int64) (3 : Int64) u1 (fun r1 u2 =>
  (¬ r1 = 0 → vp_in (a0 - (1 : Int32)) 3 ∧ (w_X12_measures_36 n (u2.1 19 (ix (a0 - (1 : Int32)))) u2 Q T)) ∧
  (r1 = 0 → w_X12_measures_24 n u2 Q T)) T)
set_option maxRecDepth 20000 in
theorem s_X12_measures_36 {g : Gb} (hg : xInj g) {n : Nat} {Q : Int32 → Mm → Prop} {T : Mm → Prop} {t0 : Int32} {u0 : Mm} (h : w_X12_measures_36 n t0 u0 Q T) : xE g me_X12_measures (pI g Q T) 36 [] [.int t0] u0 := by
  unfold w_X12_measures_36 at h
  exact e_iret (k := 20) rfl rfl (Or.inl ⟨_, rfl, h⟩)
set_option maxRecDepth 20000 in
theorem s_X12_measures_24 {g : Gb} (hg : xInj g) {n : Nat} {Q : Int32 → Mm → Prop} {T : Mm → Prop} {u0 : Mm} (h : w_X12_measures_24 n  u0 Q T) : xE g me_X12_measures (pI g Q T) 24 [] [] u0 := by
  unfold w_X12_measures_24 at h
  refine e_iconst (k := 12) (v := (-1 : Int32)) rfl (by decide) ?_
  refine e_goto (k := 13) (tgt := 36) rfl (by decide) ?_
  exact s_X12_measures_36 hg h
set_option maxRecDepth 20000 in
theorem c_X12_measures {g : Gb} (hg : xInj g) {n : Nat} {a0 : Int32} {u0 : Mm} {Q : Int32 → Mm → Prop} {T : Mm → Prop} (h : w_X12_measures n a0 u0 Q T) : xMet (gL g) yX12_measures (xws yX12_measures cX12_measures 2 (some .int)) (xRoom 2) (xPc g [.ref (gR g 0), .int a0] u0) (xQ g (pI g Q T)) (xA g) := by
  refine xbody (il := il_X12_measures) hg il_X12_measures_ok m_X12_measures (Nat.le_of_ble_eq_true rfl) ?_
  show xE g me_X12_measures (pI g Q T) 0 [(0, .ref (gR g 0)), (1, .int a0)] [] u0
  unfold w_X12_measures at h
  refine e_aload_n (k := 0) (i := 0) rfl rfl 0 rfl ?_
  refine e_iconst (k := 1) (v := (0 : Int32)) rfl (by decide) ?_
  refine e_putI (k := 2) rfl fg_X12_1 rfl rfl ?_
  refine e_mlet h (fun u1 h => ?_)
  refine e_aload_n (k := 3) (i := 0) rfl rfl 0 rfl ?_
  refine e_getI (k := 4) rfl f_X12_494 rfl rfl ?_
  refine e_if_eq (k := 5) (tgt := 24) rfl (by decide) (fun z => ?_) (fun z => ?_)
  · have h := h.1 z
    refine e_sub (lv' := []) [] rfl ?_
    exact s_X12_measures_24 hg h
  · have h := h.2 z
    refine e_iload_n (k := 6) (i := 1) rfl rfl 1 rfl ?_
    refine e_i2l (k := 7) rfl ?_
    refine e_lconst (k := 8) (v := (1 : Int64)) rfl (by decide) ?_
    refine e_ldc2 (k := 9) rfl k_X12_508 ?_
    refine e_callSi (k := 10) (As := [.long a0.toInt64, .long (1 : Int64), .long (3 : Int64)]) (rest := []) rfl (c_X12_in (g := g) hg (n := n) h) m_X12_in st_X12_in l_X12_125 rfl rfl (Nat.le_of_ble_eq_true rfl) ⟨by decide, by decide, rfl, rfl⟩ (fun _ h => ⟨fun _ z => (by cases z), Or.inr ⟨rfl, h⟩⟩) (fun r1 u2 h => ?_)
    refine e_if_ne (k := 11) (tgt := 28) rfl (by decide) (fun z => ?_) (fun z => ?_)
    · have h := h.1 z
      refine e_aload_n (k := 14) (i := 0) rfl rfl 0 rfl ?_
      refine e_getC (k := 15) rfl f_X12_78 rfl rfl ?_
      refine e_iload_n (k := 16) (i := 1) rfl rfl 1 rfl ?_
      refine e_iconst (k := 17) (v := (1 : Int32)) rfl (by decide) ?_
      refine e_isub (k := 18) rfl ?_
      refine e_iald (k := 19) rfl rfl h.1 ?_
      have h := h.2
      refine e_sub (lv' := []) [] rfl ?_
      exact s_X12_measures_36 hg h
    · have h := h.2 z
      refine e_sub (lv' := []) [] rfl ?_
      exact s_X12_measures_24 hg h
def il_X12_newThing : List (Nat × Instr × Nat) := [(0, .aload_n 0, 1), (1, .getfield 283, 3), (4, .sipush 400, 3), (7, .if_icmp .ne 9, 3), (10, .aload_n 0, 1), (11, .iconst 2, 1), (12, .iload_n 2, 1), (13, .invokevirtual 148, 3), (16, .aload_n 0, 1), (17, .getfield 283, 3), (20, .istore_n 3, 1), (21, .iconst 0, 1), (22, .istore 4, 2), (24, .iload 4, 2), (26, .bipush 17, 2), (28, .if_icmp .ge 22, 3), (31, .aload_n 0, 1), (32, .getfield 37, 3), (35, .bipush 17, 2), (37, .iload_n 3, 1), (38, .imul, 1), (39, .iload 4, 2), (41, .iadd, 1), (42, .iconst 0, 1), (43, .iastore, 1), (44, .iinc 4 1, 3), (47, .goto (-23), 3), (50, .aload_n 0, 1), (51, .iload_n 3, 1), (52, .iconst 0, 1), (53, .iload_n 1, 1), (54, .invokevirtual 286, 3), (57, .aload_n 0, 1), (58, .iload_n 3, 1), (59, .iconst 1, 1), (60, .aload_n 0, 1), (61, .getfield 290, 3), (64, .iconst 1, 1), (65, .iadd, 1), (66, .invokevirtual 286, 3), (69, .aload_n 0, 1), (70, .iload_n 3, 1), (71, .iconst 2, 1), (72, .aload_n 0, 1), (73, .getfield 72, 3), (76, .aload_n 0, 1), (77, .getfield 290, 3), (80, .iaload, 1), (81, .invokevirtual 286, 3), (84, .aload_n 0, 1), (85, .iload_n 3, 1), (86, .bipush 16, 2), (88, .iload_n 2, 1), (89, .invokevirtual 286, 3), (92, .aload_n 0, 1), (93, .getfield 40, 3), (96, .iload_n 3, 1), (97, .lconst 0, 1), (98, .lastore, 1), (99, .aload_n 0, 1), (100, .getfield 44, 3), (103, .iload_n 3, 1), (104, .aload_n 0, 1), (105, .getfield 69, 3), (108, .aload_n 0, 1), (109, .getfield 290, 3), (112, .laload, 1), (113, .lastore, 1), (114, .aload_n 0, 1), (115, .getfield 47, 3), (118, .iload_n 3, 1), (119, .aload_n 0, 1), (120, .getfield 66, 3), (123, .aload_n 0, 1), (124, .getfield 290, 3), (127, .iaload, 1), (128, .iastore, 1), (129, .aload_n 0, 1), (130, .getfield 50, 3), (133, .iload_n 3, 1), (134, .iconst 0, 1), (135, .iastore, 1), (136, .aload_n 0, 1), (137, .getfield 53, 3), (140, .iload_n 3, 1), (141, .iconst 0, 1), (142, .bastore, 1), (143, .aload_n 0, 1), (144, .dup, 1), (145, .getfield 283, 3), (148, .iconst 1, 1), (149, .iadd, 1), (150, .putfield 283, 3), (153, .iload_n 3, 1), (154, .ireturn, 1)]
set_option maxRecDepth 20000 in
theorem il_X12_newThing_ok : ∀ x ∈ il_X12_newThing, decode cX12_newThing x.1 = .ok x.2 := by decide +kernel
abbrev me_X12_newThing : Me := (RX12, il_X12_newThing, 5, (some .int), xRoom 2, [])
def w_X12_newThing_24 (n : Nat) (Q : Int32 → Mm → Prop) (T : Mm → Prop) : Nat → Int32 → Int32 → Int32 → Int32 → Mm → Prop
  | 0, _, _, _, _, _ => False
  | k + 1, x1, x2, x3, x4, u0 =>
  ((17 : Int32) ≤ x4 → w_X12_set n x3 (0 : Int32) x1 u0 (fun u1 =>
  w_X12_set n x3 (1 : Int32) ((u1.1 0 28) + (1 : Int32)) u1 (fun u2 =>
  vp_in (u2.1 0 28) 3 ∧ (w_X12_set n x3 (2 : Int32) (u2.1 17 (ix (u2.1 0 28))) u2 (fun u3 =>
  w_X12_set n x3 (16 : Int32) x2 u3 (fun u4 =>
  vp_in x3 400 ∧ (mlet (setJ u4 7 (ix x3) (0 : Int64)) fun u5 =>
  vp_in (u5.1 0 28) 3 ∧ (vp_in x3 400 ∧ (mlet (setJ u5 8 (ix x3) (u5.2.1 16 (ix (u5.1 0 28)))) fun u6 =>
  vp_in (u6.1 0 28) 3 ∧ (vp_in x3 400 ∧ (mlet (setI u6 9 (ix x3) (u6.1 15 (ix (u6.1 0 28)))) fun u7 =>
  vp_in x3 400 ∧ (mlet (setI u7 10 (ix x3) (0 : Int32)) fun u8 =>
  vp_in x3 400 ∧ (mlet (setI u8 11 (ix x3) (vp_nar .boolean (0 : Int32))) fun u9 =>
  mlet (setI u9 0 27 ((u9.1 0 27) + (1 : Int32))) fun u10 =>
  Q x3 u10)))))))) T) T)) T) T) ∧
  (¬ (17 : Int32) ≤ x4 → vp_in (((17 : Int32) * x3) + x4) 6800 ∧ (mlet (setI u0 6 (ix (((17 : Int32) * x3) + x4)) (0 : Int32)) fun u11 =>
  (w_X12_newThing_24 n Q T k) x1 x2 x3 (x4 + (1 : Int32)) u11))
def w_X12_newThing_16 (n : Nat) (x1 : Int32) (x2 : Int32) (u0 : Mm) (Q : Int32 → Mm → Prop) (T : Mm → Prop) : Prop :=
  ilet (u0.1 0 27) fun y1 =>
  (w_X12_newThing_24 n Q T n) x1 x2 y1 (0 : Int32) u0
def w_X12_newThing (n : Nat) (a0 : Int32) (a1 : Int32) (u0 : Mm) (Q : Int32 → Mm → Prop) (T : Mm → Prop) : Prop :=
  (¬ (u0.1 0 27) = (400 : Int32) → w_X12_newThing_16 n a0 a1 u0 Q T) ∧
  ((u0.1 0 27) = (400 : Int32) → w_X12_fail n (2 : Int32) a1 u0 (fun u1 =>
  w_X12_newThing_16 n a0 a1 u1 Q T) T)
set_option maxRecDepth 20000 in
theorem s_X12_newThing_24 {g : Gb} (hg : xInj g) {n : Nat} {Q : Int32 → Mm → Prop} {T : Mm → Prop} : ∀ (k : Nat) (x1 : Int32) (x2 : Int32) (x3 : Int32) (x4 : Int32) (u0 : Mm), w_X12_newThing_24 n Q T k x1 x2 x3 x4 u0 → xE g me_X12_newThing (pI g Q T) 24 [(0, .ref (gR g 0)), (1, .int x1), (2, .int x2), (3, .int x3), (4, .int x4)] [] u0 := by
  intro k
  induction k with
  | zero => intro x1 x2 x3 x4 u0 h; exact h.elim
  | succ k ih =>
    intro x1 x2 x3 x4 u0 h
    unfold w_X12_newThing_24 at h
    refine e_iload (k := 13) (i := 4) rfl 4 rfl ?_
    refine e_bipush (k := 14) (v := (17 : Int32)) rfl (by decide) ?_
    refine e_icmp_ge (k := 15) (tgt := 50) rfl (by decide) (fun z => ?_) (fun z => ?_)
    · have h := h.1 z
      refine e_aload_n (k := 27) (i := 0) rfl rfl 0 rfl ?_
      refine e_iload_n (k := 28) (i := 3) rfl rfl 3 rfl ?_
      refine e_iconst (k := 29) (v := (0 : Int32)) rfl (by decide) ?_
      refine e_iload_n (k := 30) (i := 1) rfl rfl 1 rfl ?_
      refine e_callVv (k := 31) (q := 0) (As := [.int x3, .int (0 : Int32), .int x1]) (rest := []) rfl (c_X12_set (g := g) hg (n := n) h) m_X12_set i_X12_set l_X12_286 rfl ⟨_, rfl, rfl⟩ rfl rfl (Nat.le_of_ble_eq_true rfl) ⟨by decide, by decide, rfl, rfl⟩ (fun _ h => ⟨fun _ z => (by cases z), Or.inr ⟨rfl, h⟩⟩) (fun u1 h => ?_)
      refine e_aload_n (k := 32) (i := 0) rfl rfl 0 rfl ?_
      refine e_iload_n (k := 33) (i := 3) rfl rfl 3 rfl ?_
      refine e_iconst (k := 34) (v := (1 : Int32)) rfl (by decide) ?_
      refine e_aload_n (k := 35) (i := 0) rfl rfl 0 rfl ?_
      refine e_getI (k := 36) rfl f_X12_290 rfl rfl ?_
      refine e_iconst (k := 37) (v := (1 : Int32)) rfl (by decide) ?_
      refine e_iadd (k := 38) rfl ?_
      refine e_callVv (k := 39) (q := 0) (As := [.int x3, .int (1 : Int32), .int ((u1.1 0 28) + (1 : Int32))]) (rest := []) rfl (c_X12_set (g := g) hg (n := n) h) m_X12_set i_X12_set l_X12_286 rfl ⟨_, rfl, rfl⟩ rfl rfl (Nat.le_of_ble_eq_true rfl) ⟨by decide, by decide, rfl, rfl⟩ (fun _ h => ⟨fun _ z => (by cases z), Or.inr ⟨rfl, h⟩⟩) (fun u2 h => ?_)
      refine e_aload_n (k := 40) (i := 0) rfl rfl 0 rfl ?_
      refine e_iload_n (k := 41) (i := 3) rfl rfl 3 rfl ?_
      refine e_iconst (k := 42) (v := (2 : Int32)) rfl (by decide) ?_
      refine e_aload_n (k := 43) (i := 0) rfl rfl 0 rfl ?_
      refine e_getC (k := 44) rfl f_X12_72 rfl rfl ?_
      refine e_aload_n (k := 45) (i := 0) rfl rfl 0 rfl ?_
      refine e_getI (k := 46) rfl f_X12_290 rfl rfl ?_
      refine e_iald (k := 47) rfl rfl h.1 ?_
      have h := h.2
      refine e_callVv (k := 48) (q := 0) (As := [.int x3, .int (2 : Int32), .int (u2.1 17 (ix (u2.1 0 28)))]) (rest := []) rfl (c_X12_set (g := g) hg (n := n) h) m_X12_set i_X12_set l_X12_286 rfl ⟨_, rfl, rfl⟩ rfl rfl (Nat.le_of_ble_eq_true rfl) ⟨by decide, by decide, rfl, rfl⟩ (fun _ h => ⟨fun _ z => (by cases z), Or.inr ⟨rfl, h⟩⟩) (fun u3 h => ?_)
      refine e_aload_n (k := 49) (i := 0) rfl rfl 0 rfl ?_
      refine e_iload_n (k := 50) (i := 3) rfl rfl 3 rfl ?_
      refine e_bipush (k := 51) (v := (16 : Int32)) rfl (by decide) ?_
      refine e_iload_n (k := 52) (i := 2) rfl rfl 2 rfl ?_
      refine e_callVv (k := 53) (q := 0) (As := [.int x3, .int (16 : Int32), .int x2]) (rest := []) rfl (c_X12_set (g := g) hg (n := n) h) m_X12_set i_X12_set l_X12_286 rfl ⟨_, rfl, rfl⟩ rfl rfl (Nat.le_of_ble_eq_true rfl) ⟨by decide, by decide, rfl, rfl⟩ (fun _ h => ⟨fun _ z => (by cases z), Or.inr ⟨rfl, h⟩⟩) (fun u4 h => ?_)
      refine e_aload_n (k := 54) (i := 0) rfl rfl 0 rfl ?_
      refine e_getC (k := 55) rfl f_X12_40 rfl rfl ?_
      refine e_iload_n (k := 56) (i := 3) rfl rfl 3 rfl ?_
      refine e_lconst (k := 57) (v := (0 : Int64)) rfl (by decide) ?_
      refine e_last (k := 58) rfl rfl h.1 ?_
      have h := h.2
      refine e_mlet h (fun u5 h => ?_)
      refine e_aload_n (k := 59) (i := 0) rfl rfl 0 rfl ?_
      refine e_getC (k := 60) rfl f_X12_44 rfl rfl ?_
      refine e_iload_n (k := 61) (i := 3) rfl rfl 3 rfl ?_
      refine e_aload_n (k := 62) (i := 0) rfl rfl 0 rfl ?_
      refine e_getC (k := 63) rfl f_X12_69 rfl rfl ?_
      refine e_aload_n (k := 64) (i := 0) rfl rfl 0 rfl ?_
      refine e_getI (k := 65) rfl f_X12_290 rfl rfl ?_
      refine e_lald (k := 66) rfl rfl h.1 ?_
      have h := h.2
      refine e_last (k := 67) rfl rfl h.1 ?_
      have h := h.2
      refine e_mlet h (fun u6 h => ?_)
      refine e_aload_n (k := 68) (i := 0) rfl rfl 0 rfl ?_
      refine e_getC (k := 69) rfl f_X12_47 rfl rfl ?_
      refine e_iload_n (k := 70) (i := 3) rfl rfl 3 rfl ?_
      refine e_aload_n (k := 71) (i := 0) rfl rfl 0 rfl ?_
      refine e_getC (k := 72) rfl f_X12_66 rfl rfl ?_
      refine e_aload_n (k := 73) (i := 0) rfl rfl 0 rfl ?_
      refine e_getI (k := 74) rfl f_X12_290 rfl rfl ?_
      refine e_iald (k := 75) rfl rfl h.1 ?_
      have h := h.2
      refine e_iast (k := 76) rfl rfl h.1 ?_
      have h := h.2
      refine e_mlet h (fun u7 h => ?_)
      refine e_aload_n (k := 77) (i := 0) rfl rfl 0 rfl ?_
      refine e_getC (k := 78) rfl f_X12_50 rfl rfl ?_
      refine e_iload_n (k := 79) (i := 3) rfl rfl 3 rfl ?_
      refine e_iconst (k := 80) (v := (0 : Int32)) rfl (by decide) ?_
      refine e_iast (k := 81) rfl rfl h.1 ?_
      have h := h.2
      refine e_mlet h (fun u8 h => ?_)
      refine e_aload_n (k := 82) (i := 0) rfl rfl 0 rfl ?_
      refine e_getC (k := 83) rfl f_X12_53 rfl rfl ?_
      refine e_iload_n (k := 84) (i := 3) rfl rfl 3 rfl ?_
      refine e_iconst (k := 85) (v := (0 : Int32)) rfl (by decide) ?_
      refine e_zast (k := 86) rfl rfl h.1 ?_
      have h := h.2
      refine e_mlet h (fun u9 h => ?_)
      refine e_aload_n (k := 87) (i := 0) rfl rfl 0 rfl ?_
      refine e_dup (k := 88) rfl rfl ?_
      refine e_getI (k := 89) rfl f_X12_283 rfl rfl ?_
      refine e_iconst (k := 90) (v := (1 : Int32)) rfl (by decide) ?_
      refine e_iadd (k := 91) rfl ?_
      refine e_putI (k := 92) rfl fg_X12_283 rfl rfl ?_
      refine e_mlet h (fun u10 h => ?_)
      refine e_iload_n (k := 93) (i := 3) rfl rfl 3 rfl ?_
      exact e_iret (k := 94) rfl rfl (Or.inl ⟨_, rfl, h⟩)
    · have h := h.2 z
      refine e_aload_n (k := 16) (i := 0) rfl rfl 0 rfl ?_
      refine e_getC (k := 17) rfl f_X12_37 rfl rfl ?_
      refine e_bipush (k := 18) (v := (17 : Int32)) rfl (by decide) ?_
      refine e_iload_n (k := 19) (i := 3) rfl rfl 3 rfl ?_
      refine e_imul (k := 20) rfl ?_
      refine e_iload (k := 21) (i := 4) rfl 4 rfl ?_
      refine e_iadd (k := 22) rfl ?_
      refine e_iconst (k := 23) (v := (0 : Int32)) rfl (by decide) ?_
      refine e_iast (k := 24) rfl rfl h.1 ?_
      have h := h.2
      refine e_mlet h (fun u11 h => ?_)
      refine e_iinc (k := 25) (i := 4) (j := 4) (v := (x4 + (1 : Int32))) (lv' := [(0, .ref (gR g 0)), (1, .int x1), (2, .int x2), (3, .int x3), (4, .int (x4 + (1 : Int32)))]) rfl rfl rfl (by decide) [1, 2, 3, 4, 0] rfl ?_
      refine e_goto (k := 26) (tgt := 24) rfl (by decide) ?_
      exact ih x1 x2 x3 (x4 + (1 : Int32)) u11 h
set_option maxRecDepth 20000 in
theorem s_X12_newThing_16 {g : Gb} (hg : xInj g) {n : Nat} {Q : Int32 → Mm → Prop} {T : Mm → Prop} {x1 : Int32} {x2 : Int32} {u0 : Mm} (h : w_X12_newThing_16 n x1 x2 u0 Q T) : xE g me_X12_newThing (pI g Q T) 16 [(0, .ref (gR g 0)), (1, .int x1), (2, .int x2)] [] u0 := by
  unfold w_X12_newThing_16 at h
  refine e_aload_n (k := 8) (i := 0) rfl rfl 0 rfl ?_
  refine e_getI (k := 9) rfl f_X12_283 rfl rfl ?_
  refine e_ilet h (fun y1 h => ?_)
  refine e_istore_n (k := 10) (i := 3) (lv' := [(0, .ref (gR g 0)), (1, .int x1), (2, .int x2), (3, .int y1)]) rfl rfl (by decide) [1, 2, 3, 0] rfl ?_
  refine e_iconst (k := 11) (v := (0 : Int32)) rfl (by decide) ?_
  refine e_istore (k := 12) (i := 4) (lv' := [(0, .ref (gR g 0)), (1, .int x1), (2, .int x2), (3, .int y1), (4, .int (0 : Int32))]) rfl (by decide) [1, 2, 3, 4, 0] rfl ?_
  exact s_X12_newThing_24 hg n x1 x2 y1 (0 : Int32) u0 h
set_option maxRecDepth 20000 in
theorem c_X12_newThing {g : Gb} (hg : xInj g) {n : Nat} {a0 : Int32} {a1 : Int32} {u0 : Mm} {Q : Int32 → Mm → Prop} {T : Mm → Prop} (h : w_X12_newThing n a0 a1 u0 Q T) : xMet (gL g) yX12_newThing (xws yX12_newThing cX12_newThing 5 (some .int)) (xRoom 2) (xPc g [.ref (gR g 0), .int a0, .int a1] u0) (xQ g (pI g Q T)) (xA g) := by
  refine xbody (il := il_X12_newThing) hg il_X12_newThing_ok m_X12_newThing (Nat.le_of_ble_eq_true rfl) ?_
  show xE g me_X12_newThing (pI g Q T) 0 [(0, .ref (gR g 0)), (1, .int a0), (2, .int a1)] [] u0
  unfold w_X12_newThing at h
  refine e_aload_n (k := 0) (i := 0) rfl rfl 0 rfl ?_
  refine e_getI (k := 1) rfl f_X12_283 rfl rfl ?_
  refine e_sipush (k := 2) (v := (400 : Int32)) rfl (by decide) ?_
  refine e_icmp_ne (k := 3) (tgt := 16) rfl (by decide) (fun z => ?_) (fun z => ?_)
  · have h := h.1 z
    exact s_X12_newThing_16 hg h
  · have h := h.2 z
    refine e_aload_n (k := 4) (i := 0) rfl rfl 0 rfl ?_
    refine e_iconst (k := 5) (v := (2 : Int32)) rfl (by decide) ?_
    refine e_iload_n (k := 6) (i := 2) rfl rfl 2 rfl ?_
    refine e_callVv (k := 7) (q := 0) (As := [.int (2 : Int32), .int a1]) (rest := []) rfl (c_X12_fail (g := g) hg (n := n) h) m_X12_fail i_X12_fail l_X12_148 rfl ⟨_, rfl, rfl⟩ rfl rfl (Nat.le_of_ble_eq_true rfl) ⟨by decide, by decide, rfl, rfl⟩ (fun _ h => ⟨fun _ z => (by cases z), Or.inr ⟨rfl, h⟩⟩) (fun u1 h => ?_)
    exact s_X12_newThing_16 hg h
