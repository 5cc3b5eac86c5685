/-! methods (by program) -/
def il_X12_start : List (Nat × Instr × Nat) := [(0, .aload_n 0, 1), (1, .iconst 0, 1), (2, .putfield 1, 3), (5, .aload_n 0, 1), (6, .iload_n 1, 1), (7, .invokevirtual 503, 3), (10, .ifCond .eq 9, 3), (13, .ldc2_w 373, 3), (16, .goto 9, 3), (19, .aload_n 0, 1), (20, .getfield 44, 3), (23, .iload_n 1, 1), (24, .laload, 1), (25, .lreturn, 1)]
set_option maxRecDepth 20000 in
theorem il_X12_start_ok : ∀ x ∈ il_X12_start, decode cX12_start x.1 = .ok x.2 := by decide +kernel
abbrev me_X12_start : Me := (RX12, il_X12_start, 2, (some .long), xRoom 3, [])
def w_X12_start_25 (n : Nat) (t0 : Int64) (u0 : Mm) (Q : Int64 → Mm → Prop) (T : Mm → Prop) : Prop :=
  Q t0 u0
def w_X12_start (n : Nat) (a0 : Int32) (u0 : Mm) (Q : Int64 → Mm → Prop) (T : Mm → Prop) : Prop :=
  mlet (setI u0 0 0 (0 : Int32)) fun u1 =>
  w_X12_noThing n a0 u1 (fun r1 u2 =>
  (r1 = 0 → vp_in a0 400 ∧ (w_X12_start_25 n (u2.2.1 8 (ix a0)) u2 Q T)) ∧
  (¬ r1 = 0 → w_X12_start_25 n (-1 : Int64) u2 Q T)) T
set_option maxRecDepth 20000 in
theorem s_X12_start_25 {g : Gb} (hg : xInj g) {n : Nat} {Q : Int64 → Mm → Prop} {T : Mm → Prop} {t0 : Int64} {u0 : Mm} (h : w_X12_start_25 n t0 u0 Q T) : xE g me_X12_start (pL g Q T) 25 [] [.long t0] u0 := by
  unfold w_X12_start_25 at h
  exact e_lret (k := 13) rfl rfl (Or.inl ⟨_, rfl, h⟩)
set_option maxRecDepth 20000 in
theorem c_X12_start {g : Gb} (hg : xInj g) {n : Nat} {a0 : Int32} {u0 : Mm} {Q : Int64 → Mm → Prop} {T : Mm → Prop} (h : w_X12_start n a0 u0 Q T) : xMet (gL g) yX12_start (xws yX12_start cX12_start 2 (some .long)) (xRoom 3) (xPc g [.ref (gR g 0), .int a0] u0) (xQ g (pL g Q T)) (xA g) := by
  refine xbody (il := il_X12_start) hg il_X12_start_ok m_X12_start (Nat.le_of_ble_eq_true rfl) ?_
  show xE g me_X12_start (pL g Q T) 0 [(0, .ref (gR g 0)), (1, .int a0)] [] u0
  unfold w_X12_start at h
  refine e_aload_n (k := 0) (i := 0) rfl rfl 0 rfl ?_
  refine e_iconst (k := 1) (v := (0 : Int32)) rfl (by decide) ?_
  refine e_putI (k := 2) rfl fg_X12_1 rfl rfl ?_
  refine e_mlet h (fun u1 h => ?_)
  refine e_aload_n (k := 3) (i := 0) rfl rfl 0 rfl ?_
  refine e_iload_n (k := 4) (i := 1) rfl rfl 1 rfl ?_
  refine e_callVi (k := 5) (q := 0) (As := [.int a0]) (rest := []) rfl (c_X12_noThing (g := g) hg (n := n) h) m_X12_noThing i_X12_noThing l_X12_503 rfl ⟨_, rfl, rfl⟩ rfl rfl (Nat.le_of_ble_eq_true rfl) ⟨by decide, by decide, rfl, rfl⟩ (fun _ h => ⟨fun _ z => (by cases z), Or.inr ⟨rfl, h⟩⟩) (fun r1 u2 h => ?_)
  refine e_if_eq (k := 6) (tgt := 19) rfl (by decide) (fun z => ?_) (fun z => ?_)
  · have h := h.1 z
    refine e_aload_n (k := 9) (i := 0) rfl rfl 0 rfl ?_
    refine e_getC (k := 10) rfl f_X12_44 rfl rfl ?_
    refine e_iload_n (k := 11) (i := 1) rfl rfl 1 rfl ?_
    refine e_lald (k := 12) rfl rfl h.1 ?_
    have h := h.2
    refine e_sub (lv' := []) [] rfl ?_
    exact s_X12_start_25 hg h
  · have h := h.2 z
    refine e_ldc2 (k := 7) rfl k_X12_373 ?_
    refine e_goto (k := 8) (tgt := 25) rfl (by decide) ?_
    refine e_sub (lv' := []) [] rfl ?_
    exact s_X12_start_25 hg h
def il_X12_thing : List (Nat × Instr × Nat) := [(0, .aload_n 0, 1), (1, .iconst 0, 1), (2, .putfield 1, 3), (5, .aload_n 0, 1), (6, .iload_n 1, 1), (7, .invokevirtual 503, 3), (10, .ifCond .ne 15, 3), (13, .iload_n 2, 1), (14, .i2l, 1), (15, .lconst 0, 1), (16, .ldc2_w 506, 3), (19, .invokestatic 125, 3), (22, .ifCond .ne 7, 3), (25, .iconst (-1), 1), (26, .goto 9, 3), (29, .aload_n 0, 1), (30, .iload_n 1, 1), (31, .iload_n 2, 1), (32, .invokevirtual 293, 3), (35, .ireturn, 1)]
set_option maxRecDepth 20000 in
theorem il_X12_thing_ok : ∀ x ∈ il_X12_thing, decode cX12_thing x.1 = .ok x.2 := by decide +kernel
abbrev me_X12_thing : Me := (RX12, il_X12_thing, 3, (some .int), xRoom 3, [])
def w_X12_thing_35 (n : Nat) (t0 : Int32) (u0 : Mm) (Q : Int32 → Mm → Prop) (T : Mm → Prop) : Prop :=
  Q t0 u0
def w_X12_thing_25 (n : Nat) (u0 : Mm) (Q : Int32 → Mm → Prop) (T : Mm → Prop) : Prop :=
  w_X12_thing_35 n (-1 : Int32) u0 Q T
def w_X12_thing (n : Nat) (a0 : Int32) (a1 : Int32) (u0 : Mm) (Q : Int32 → Mm → Prop) (T : Mm → Prop) : Prop :=
  mlet (setI u0 0 0 (0 : Int32)) fun u1 =>
  w_X12_noThing n a0 u1 (fun r1 u2 =>
  (¬ r1 = 0 → w_X12_thing_25 n u2 Q T) ∧
  (r1 = 0 → w_X12_in n (a1.toInt64) (0 : Int64) (16 : Int64) u2 (fun r2 u3 =>
  (¬ r2 = 0 → w_X12_get n a0 a1 u3 (fun r3 u4 =>
  w_X12_thing_35 n r3 u4 Q T) T) ∧
  (r2 = 0 → w_X12_thing_25 n u3 Q T)) T)) T
set_option maxRecDepth 20000 in
theorem s_X12_thing_35 {g : Gb} (hg : xInj g) {n : Nat} {Q : Int32 → Mm → Prop} {T : Mm → Prop} {t0 : Int32} {u0 : Mm} (h : w_X12_thing_35 n t0 u0 Q T) : xE g me_X12_thing (pI g Q T) 35 [] [.int t0] u0 := by
  unfold w_X12_thing_35 at h
  exact e_iret (k := 19) rfl rfl (Or.inl ⟨_, rfl, h⟩)
set_option maxRecDepth 20000 in
theorem s_X12_thing_25 {g : Gb} (hg : xInj g) {n : Nat} {Q : Int32 → Mm → Prop} {T : Mm → Prop} {u0 : Mm} (h : w_X12_thing_25 n  u0 Q T) : xE g me_X12_thing (pI g Q T) 25 [] [] u0 := by
  unfold w_X12_thing_25 at h
  refine e_iconst (k := 13) (v := (-1 : Int32)) rfl (by decide) ?_
  refine e_goto (k := 14) (tgt := 35) rfl (by decide) ?_
  exact s_X12_thing_35 hg h
set_option maxRecDepth 20000 in
theorem c_X12_thing {g : Gb} (hg : xInj g) {n : Nat} {a0 : Int32} {a1 : Int32} {u0 : Mm} {Q : Int32 → Mm → Prop} {T : Mm → Prop} (h : w_X12_thing n a0 a1 u0 Q T) : xMet (gL g) yX12_thing (xws yX12_thing cX12_thing 3 (some .int)) (xRoom 3) (xPc g [.ref (gR g 0), .int a0, .int a1] u0) (xQ g (pI g Q T)) (xA g) := by
  refine xbody (il := il_X12_thing) hg il_X12_thing_ok m_X12_thing (Nat.le_of_ble_eq_true rfl) ?_
  show xE g me_X12_thing (pI g Q T) 0 [(0, .ref (gR g 0)), (1, .int a0), (2, .int a1)] [] u0
  unfold w_X12_thing at h
  refine e_aload_n (k := 0) (i := 0) rfl rfl 0 rfl ?_
  refine e_iconst (k := 1) (v := (0 : Int32)) rfl (by decide) ?_
  refine e_putI (k := 2) rfl fg_X12_1 rfl rfl ?_
  refine e_mlet h (fun u1 h => ?_)
  refine e_aload_n (k := 3) (i := 0) rfl rfl 0 rfl ?_
  refine e_iload_n (k := 4) (i := 1) rfl rfl 1 rfl ?_
  refine e_callVi (k := 5) (q := 0) (As := [.int a0]) (rest := []) rfl (c_X12_noThing (g := g) hg (n := n) h) m_X12_noThing i_X12_noThing l_X12_503 rfl ⟨_, rfl, rfl⟩ rfl rfl (Nat.le_of_ble_eq_true rfl) ⟨by decide, by decide, rfl, rfl⟩ (fun _ h => ⟨fun _ z => (by cases z), Or.inr ⟨rfl, h⟩⟩) (fun r1 u2 h => ?_)
  refine e_if_ne (k := 6) (tgt := 25) rfl (by decide) (fun z => ?_) (fun z => ?_)
  · have h := h.1 z
    refine e_sub (lv' := []) [] rfl ?_
    exact s_X12_thing_25 hg h
  · have h := h.2 z
    refine e_iload_n (k := 7) (i := 2) rfl rfl 2 rfl ?_
    refine e_i2l (k := 8) rfl ?_
    refine e_lconst (k := 9) (v := (0 : Int64)) rfl (by decide) ?_
    refine e_ldc2 (k := 10) rfl k_X12_506 ?_
    refine e_callSi (k := 11) (As := [.long a1.toInt64, .long (0 : Int64), .long (16 : Int64)]) (rest := []) rfl (c_X12_in (g := g) hg (n := n) h) m_X12_in st_X12_in l_X12_125 rfl rfl (Nat.le_of_ble_eq_true rfl) ⟨by decide, by decide, rfl, rfl⟩ (fun _ h => ⟨fun _ z => (by cases z), Or.inr ⟨rfl, h⟩⟩) (fun r2 u3 h => ?_)
    refine e_if_ne (k := 12) (tgt := 29) rfl (by decide) (fun z => ?_) (fun z => ?_)
    · have h := h.1 z
      refine e_aload_n (k := 15) (i := 0) rfl rfl 0 rfl ?_
      refine e_iload_n (k := 16) (i := 1) rfl rfl 1 rfl ?_
      refine e_iload_n (k := 17) (i := 2) rfl rfl 2 rfl ?_
      refine e_callVi (k := 18) (q := 0) (As := [.int a0, .int a1]) (rest := []) rfl (c_X12_get (g := g) hg (n := n) h) m_X12_get i_X12_get l_X12_293 rfl ⟨_, rfl, rfl⟩ rfl rfl (Nat.le_of_ble_eq_true rfl) ⟨by decide, by decide, rfl, rfl⟩ (fun _ h => ⟨fun _ z => (by cases z), Or.inr ⟨rfl, h⟩⟩) (fun r3 u4 h => ?_)
      refine e_sub (lv' := []) [] rfl ?_
      exact s_X12_thing_35 hg h
    · have h := h.2 z
      refine e_sub (lv' := []) [] rfl ?_
      exact s_X12_thing_25 hg h
def il_X12_time : List (Nat × Instr × Nat) := [(0, .aload_n 0, 1), (1, .iconst 0, 1), (2, .putfield 1, 3), (5, .aload_n 0, 1), (6, .iload_n 1, 1), (7, .invokevirtual 503, 3), (10, .ifCond .eq 9, 3), (13, .ldc2_w 373, 3), (16, .goto 9, 3), (19, .aload_n 0, 1), (20, .getfield 40, 3), (23, .iload_n 1, 1), (24, .laload, 1), (25, .lreturn, 1)]
set_option maxRecDepth 20000 in
theorem il_X12_time_ok : ∀ x ∈ il_X12_time, decode cX12_time x.1 = .ok x.2 := by decide +kernel
abbrev me_X12_time : Me := (RX12, il_X12_time, 2, (some .long), xRoom 3, [])
def w_X12_time_25 (n : Nat) (t0 : Int64) (u0 : Mm) (Q : Int64 → Mm → Prop) (T : Mm → Prop) : Prop :=
  Q t0 u0
def w_X12_time (n : Nat) (a0 : Int32) (u0 : Mm) (Q : Int64 → Mm → Prop) (T : Mm → Prop) : Prop :=
  mlet (setI u0 0 0 (0 : Int32)) fun u1 =>
  w_X12_noThing n a0 u1 (fun r1 u2 =>
  (r1 = 0 → vp_in a0 400 ∧ (w_X12_time_25 n (u2.2.1 7 (ix a0)) u2 Q T)) ∧
  (¬ r1 = 0 → w_X12_time_25 n (-1 : Int64) u2 Q T)) T
set_option maxRecDepth 20000 in
theorem s_X12_time_25 {g : Gb} (hg : xInj g) {n : Nat} {Q : Int64 → Mm → Prop} {T : Mm → Prop} {t0 : Int64} {u0 : Mm} (h : w_X12_time_25 n t0 u0 Q T) : xE g me_X12_time (pL g Q T) 25 [] [.long t0] u0 := by
  unfold w_X12_time_25 at h
  exact e_lret (k := 13) rfl rfl (Or.inl ⟨_, rfl, h⟩)
set_option maxRecDepth 20000 in
theorem c_X12_time {g : Gb} (hg : xInj g) {n : Nat} {a0 : Int32} {u0 : Mm} {Q : Int64 → Mm → Prop} {T : Mm → Prop} (h : w_X12_time n a0 u0 Q T) : xMet (gL g) yX12_time (xws yX12_time cX12_time 2 (some .long)) (xRoom 3) (xPc g [.ref (gR g 0), .int a0] u0) (xQ g (pL g Q T)) (xA g) := by
  refine xbody (il := il_X12_time) hg il_X12_time_ok m_X12_time (Nat.le_of_ble_eq_true rfl) ?_
  show xE g me_X12_time (pL g Q T) 0 [(0, .ref (gR g 0)), (1, .int a0)] [] u0
  unfold w_X12_time at h
  refine e_aload_n (k := 0) (i := 0) rfl rfl 0 rfl ?_
  refine e_iconst (k := 1) (v := (0 : Int32)) rfl (by decide) ?_
  refine e_putI (k := 2) rfl fg_X12_1 rfl rfl ?_
  refine e_mlet h (fun u1 h => ?_)
  refine e_aload_n (k := 3) (i := 0) rfl rfl 0 rfl ?_
  refine e_iload_n (k := 4) (i := 1) rfl rfl 1 rfl ?_
  refine e_callVi (k := 5) (q := 0) (As := [.int a0]) (rest := []) rfl (c_X12_noThing (g := g) hg (n := n) h) m_X12_noThing i_X12_noThing l_X12_503 rfl ⟨_, rfl, rfl⟩ rfl rfl (Nat.le_of_ble_eq_true rfl) ⟨by decide, by decide, rfl, rfl⟩ (fun _ h => ⟨fun _ z => (by cases z), Or.inr ⟨rfl, h⟩⟩) (fun r1 u2 h => ?_)
  refine e_if_eq (k := 6) (tgt := 19) rfl (by decide) (fun z => ?_) (fun z => ?_)
  · have h := h.1 z
    refine e_aload_n (k := 9) (i := 0) rfl rfl 0 rfl ?_
    refine e_getC (k := 10) rfl f_X12_40 rfl rfl ?_
    refine e_iload_n (k := 11) (i := 1) rfl rfl 1 rfl ?_
    refine e_lald (k := 12) rfl rfl h.1 ?_
    have h := h.2
    refine e_sub (lv' := []) [] rfl ?_
    exact s_X12_time_25 hg h
  · have h := h.2 z
    refine e_ldc2 (k := 7) rfl k_X12_373 ?_
    refine e_goto (k := 8) (tgt := 25) rfl (by decide) ?_
    refine e_sub (lv' := []) [] rfl ?_
    exact s_X12_time_25 hg h
def il_X12_timeOf : List (Nat × Instr × Nat) := [(0, .ldc_w 349, 3), (3, .aload_n 0, 1), (4, .getfield 66, 3), (7, .aload_n 0, 1), (8, .getfield 290, 3), (11, .iaload, 1), (12, .idiv, 1), (13, .i2l, 1), (14, .iload_n 1, 1), (15, .i2l, 1), (16, .lmul, 1), (17, .lstore 4, 2), (19, .iload_n 2, 1), (20, .i2l, 1), (21, .lstore 6, 2), (23, .aload_n 0, 1), (24, .getfield 350, 3), (27, .ifCond .le 23, 3), (30, .lload 4, 2), (32, .aload_n 0, 1), (33, .getfield 353, 3), (36, .i2l, 1), (37, .lmul, 1), (38, .lstore 4, 2), (40, .lload 6, 2), (42, .aload_n 0, 1), (43, .getfield 356, 3), (46, .i2l, 1), (47, .lmul, 1), (48, .lstore 6, 2), (50, .lload 4, 2), (52, .aload_n 0, 1), (53, .getfield 359, 3), (56, .i2l, 1), (57, .lmul, 1), (58, .lstore 4, 2), (60, .lload 6, 2), (62, .aload_n 0, 1), (63, .getfield 362, 3), (66, .i2l, 1), (67, .lmul, 1), (68, .lstore 6, 2), (70, .aload_n 0, 1), (71, .lload 4, 2), (73, .lload 6, 2), (75, .iload_n 3, 1), (76, .invokevirtual 365, 3), (79, .lreturn, 1)]
set_option maxRecDepth 20000 in
theorem il_X12_timeOf_ok : ∀ x ∈ il_X12_timeOf, decode cX12_timeOf x.1 = .ok x.2 := by decide +kernel
abbrev me_X12_timeOf : Me := (RX12, il_X12_timeOf, 8, (some .long), xRoom 3, [])
def w_X12_timeOf_50 (n : Nat) (x3 : Int32) (x4 : Int64) (x6 : Int64) (u0 : Mm) (Q : Int64 → Mm → Prop) (T : Mm → Prop) : Prop :=
  jlet (x4 * (u0.1 0 59).toInt64) fun y1 =>
  jlet (x6 * (u0.1 0 60).toInt64) fun y2 =>
  w_X12_exact n y1 y2 x3 u0 (fun r1 u1 =>
  Q r1 u1) T
def w_X12_timeOf (n : Nat) (a0 : Int32) (a1 : Int32) (a2 : Int32) (u0 : Mm) (Q : Int64 → Mm → Prop) (T : Mm → Prop) : Prop :=
  vp_in (u0.1 0 28) 3 ∧ (¬ (u0.1 15 (ix (u0.1 0 28))) = 0 ∧ (jlet (((1290240 : Int32) / (u0.1 15 (ix (u0.1 0 28)))).toInt64 * a0.toInt64) fun y1 =>
  jlet a1.toInt64 fun y2 =>
  ((u0.1 0 46) ≤ 0 → w_X12_timeOf_50 n a2 y1 y2 u0 Q T) ∧
  (¬ (u0.1 0 46) ≤ 0 → jlet (y1 * (u0.1 0 48).toInt64) fun y3 =>
  jlet (y2 * (u0.1 0 47).toInt64) fun y4 =>
  w_X12_timeOf_50 n a2 y3 y4 u0 Q T)))
set_option maxRecDepth 20000 in
theorem s_X12_timeOf_50 {g : Gb} (hg : xInj g) {n : Nat} {Q : Int64 → Mm → Prop} {T : Mm → Prop} {x3 : Int32} {x4 : Int64} {x6 : Int64} {u0 : Mm} (h : w_X12_timeOf_50 n x3 x4 x6 u0 Q T) : xE g me_X12_timeOf (pL g Q T) 50 [(0, .ref (gR g 0)), (3, .int x3), (4, .long x4), (6, .long x6)] [] u0 := by
  unfold w_X12_timeOf_50 at h
  refine e_lload (k := 30) (i := 4) rfl 2 rfl ?_
  refine e_aload_n (k := 31) (i := 0) rfl rfl 0 rfl ?_
  refine e_getI (k := 32) rfl f_X12_359 rfl rfl ?_
  refine e_i2l (k := 33) rfl ?_
  refine e_lmul (k := 34) rfl ?_
  refine e_jlet h (fun y1 h => ?_)
  refine e_lstore (k := 35) (i := 4) (lv' := [(0, .ref (gR g 0)), (3, .int x3), (4, .long y1), (6, .long x6)]) rfl (by decide) [1, 2, 0, 3] rfl ?_
  refine e_lload (k := 36) (i := 6) rfl 3 rfl ?_
  refine e_aload_n (k := 37) (i := 0) rfl rfl 0 rfl ?_
  refine e_getI (k := 38) rfl f_X12_362 rfl rfl ?_
  refine e_i2l (k := 39) rfl ?_
  refine e_lmul (k := 40) rfl ?_
  refine e_jlet h (fun y2 h => ?_)
  refine e_lstore (k := 41) (i := 6) (lv' := [(0, .ref (gR g 0)), (3, .int x3), (4, .long y1), (6, .long y2)]) rfl (by decide) [1, 2, 3, 0] rfl ?_
  refine e_aload_n (k := 42) (i := 0) rfl rfl 0 rfl ?_
  refine e_lload (k := 43) (i := 4) rfl 2 rfl ?_
  refine e_lload (k := 44) (i := 6) rfl 3 rfl ?_
  refine e_iload_n (k := 45) (i := 3) rfl rfl 1 rfl ?_
  refine e_callVl (k := 46) (q := 0) (As := [.long y1, .long y2, .int x3]) (rest := []) rfl (c_X12_exact (g := g) hg (n := n) h) m_X12_exact i_X12_exact l_X12_365 rfl ⟨_, rfl, rfl⟩ rfl rfl (Nat.le_of_ble_eq_true rfl) ⟨by decide, by decide, rfl, rfl⟩ (fun _ h => ⟨fun _ z => (by cases z), Or.inr ⟨rfl, h⟩⟩) (fun r1 u1 h => ?_)
  exact e_lret (k := 47) rfl rfl (Or.inl ⟨_, rfl, h⟩)
set_option maxRecDepth 20000 in
theorem c_X12_timeOf {g : Gb} (hg : xInj g) {n : Nat} {a0 : Int32} {a1 : Int32} {a2 : Int32} {u0 : Mm} {Q : Int64 → Mm → Prop} {T : Mm → Prop} (h : w_X12_timeOf n a0 a1 a2 u0 Q T) : xMet (gL g) yX12_timeOf (xws yX12_timeOf cX12_timeOf 8 (some .long)) (xRoom 3) (xPc g [.ref (gR g 0), .int a0, .int a1, .int a2] u0) (xQ g (pL g Q T)) (xA g) := by
  refine xbody (il := il_X12_timeOf) hg il_X12_timeOf_ok m_X12_timeOf (Nat.le_of_ble_eq_true rfl) ?_
  show xE g me_X12_timeOf (pL g Q T) 0 [(0, .ref (gR g 0)), (1, .int a0), (2, .int a1), (3, .int a2)] [] u0
  unfold w_X12_timeOf at h
  refine e_ldcw (k := 0) rfl k_X12_349 ?_
  refine e_aload_n (k := 1) (i := 0) rfl rfl 0 rfl ?_
  refine e_getC (k := 2) rfl f_X12_66 rfl rfl ?_
  refine e_aload_n (k := 3) (i := 0) rfl rfl 0 rfl ?_
  refine e_getI (k := 4) rfl f_X12_290 rfl rfl ?_
  refine e_iald (k := 5) rfl rfl h.1 ?_
  have h := h.2
  refine e_idiv (k := 6) rfl h.1 ?_
  have h := h.2
  refine e_i2l (k := 7) rfl ?_
  refine e_iload_n (k := 8) (i := 1) rfl rfl 1 rfl ?_
  refine e_i2l (k := 9) rfl ?_
  refine e_lmul (k := 10) rfl ?_
  refine e_jlet h (fun y1 h => ?_)
  refine e_lstore (k := 11) (i := 4) (lv' := [(0, .ref (gR g 0)), (1, .int a0), (2, .int a1), (3, .int a2), (4, .long y1)]) rfl (by decide) [1, 2, 3, 4, 0] rfl ?_
  refine e_iload_n (k := 12) (i := 2) rfl rfl 2 rfl ?_
  refine e_i2l (k := 13) rfl ?_
  refine e_jlet h (fun y2 h => ?_)
  refine e_lstore (k := 14) (i := 6) (lv' := [(0, .ref (gR g 0)), (1, .int a0), (2, .int a1), (3, .int a2), (4, .long y1), (6, .long y2)]) rfl (by decide) [1, 2, 3, 4, 5, 0] rfl ?_
  refine e_aload_n (k := 15) (i := 0) rfl rfl 0 rfl ?_
  refine e_getI (k := 16) rfl f_X12_350 rfl rfl ?_
  refine e_if_le (k := 17) (tgt := 50) rfl (by decide) (fun z => ?_) (fun z => ?_)
  · have h := h.1 z
    refine e_sub (lv' := [(0, .ref (gR g 0)), (3, .int a2), (4, .long y1), (6, .long y2)]) [0, 3, 4, 5] rfl ?_
    exact s_X12_timeOf_50 hg h
  · have h := h.2 z
    refine e_lload (k := 18) (i := 4) rfl 4 rfl ?_
    refine e_aload_n (k := 19) (i := 0) rfl rfl 0 rfl ?_
    refine e_getI (k := 20) rfl f_X12_353 rfl rfl ?_
    refine e_i2l (k := 21) rfl ?_
    refine e_lmul (k := 22) rfl ?_
    refine e_jlet h (fun y3 h => ?_)
    refine e_lstore (k := 23) (i := 4) (lv' := [(0, .ref (gR g 0)), (1, .int a0), (2, .int a1), (3, .int a2), (4, .long y3), (6, .long y2)]) rfl (by decide) [1, 2, 3, 4, 0, 5] rfl ?_
    refine e_lload (k := 24) (i := 6) rfl 5 rfl ?_
    refine e_aload_n (k := 25) (i := 0) rfl rfl 0 rfl ?_
    refine e_getI (k := 26) rfl f_X12_356 rfl rfl ?_
    refine e_i2l (k := 27) rfl ?_
    refine e_lmul (k := 28) rfl ?_
    refine e_jlet h (fun y4 h => ?_)
    refine e_lstore (k := 29) (i := 6) (lv' := [(0, .ref (gR g 0)), (1, .int a0), (2, .int a1), (3, .int a2), (4, .long y3), (6, .long y4)]) rfl (by decide) [1, 2, 3, 4, 5, 0] rfl ?_
    refine e_sub (lv' := [(0, .ref (gR g 0)), (3, .int a2), (4, .long y3), (6, .long y4)]) [0, 3, 4, 5] rfl ?_
    exact s_X12_timeOf_50 hg h
def il_X12_written : List (Nat × Instr × Nat) := [(0, .aload_n 0, 1), (1, .iconst 0, 1), (2, .putfield 1, 3), (5, .aload_n 0, 1), (6, .iload_n 1, 1), (7, .invokevirtual 503, 3), (10, .ifCond .ne 12, 3), (13, .aload_n 0, 1), (14, .iload_n 1, 1), (15, .iconst 0, 1), (16, .invokevirtual 293, 3), (19, .ifCond .eq 5, 3), (22, .iconst (-1), 1), (23, .ireturn, 1), (24, .aload_n 0, 1), (25, .getfield 40, 3), (28, .iload_n 1, 1), (29, .laload, 1), (30, .lstore_n 3, 1), (31, .ldc_w 349, 3), (34, .aload_n 0, 1), (35, .getfield 47, 3), (38, .iload_n 1, 1), (39, .iaload, 1), (40, .idiv, 1), (41, .i2l, 1), (42, .lstore 5, 2), (44, .lload_n 3, 1), (45, .lstore 7, 2), (47, .lload 5, 2), (49, .lstore 9, 2), (51, .lload 9, 2), (53, .lconst 0, 1), (54, .lcmp, 1), (55, .ifCond .eq 21, 3), (58, .lload 7, 2), (60, .lload 9, 2), (62, .lrem, 1), (63, .lstore 11, 2), (65, .lload 9, 2), (67, .lstore 7, 2), (69, .lload 11, 2), (71, .lstore 9, 2), (73, .goto (-22), 3), (76, .lload_n 3, 1), (77, .lload 7, 2), (79, .ldiv, 1), (80, .lstore_n 3, 1), (81, .lload 5, 2), (83, .lload 7, 2), (85, .ldiv, 1), (86, .lstore 5, 2), (88, .lload_n 3, 1), (89, .ldc2_w 522, 3), (92, .lcmp, 1), (93, .ifCond .gt 23, 3), (96, .lload 5, 2), (98, .ldc2_w 522, 3), (101, .lcmp, 1), (102, .ifCond .gt 14, 3), (105, .lload 5, 2), (107, .l2i, 1), (108, .bipush 64, 2), (110, .invokestatic 215, 3), (113, .ifCond .ne 5, 3), (116, .iconst (-1), 1), (117, .ireturn, 1), (118, .aload_n 0, 1), (119, .iconst 0, 1), (120, .putfield 516, 3), (123, .aload_n 0, 1), (124, .iload_n 1, 1), (125, .bipush 6, 2), (127, .invokevirtual 293, 3), (130, .istore 11, 2), (132, .iload 11, 2), (134, .aload_n 0, 1), (135, .getfield 50, 3), (138, .iload_n 1, 1), (139, .iaload, 1), (140, .if_icmp .eq 56, 3), (143, .iload 11, 2), (145, .ifCond .ne 9, 3), (148, .aload_n 0, 1), (149, .bipush 61, 2), (151, .invokevirtual 519, 3), (154, .iload 11, 2), (156, .istore 12, 2), (158, .iload 12, 2), (160, .ifCond .le 15, 3), (163, .aload_n 0, 1), (164, .bipush 94, 2), (166, .invokevirtual 519, 3), (169, .iinc 12 (-1), 3), (172, .goto (-14), 3), (175, .iload 11, 2), (177, .istore 12, 2), (179, .iload 12, 2), (181, .ifCond .ge 15, 3), (184, .aload_n 0, 1), (185, .bipush 95, 2), (187, .invokevirtual 519, 3), (190, .iinc 12 1, 3), (193, .goto (-14), 3), (196, .aload_n 0, 1), (197, .iload_n 1, 1), (198, .iconst 4, 1), (199, .invokevirtual 293, 3), (202, .iconst 5, 1), (203, .if_icmp .ge 15, 3), (206, .bipush 67, 2), (208, .aload_n 0, 1), (209, .iload_n 1, 1), (210, .iconst 4, 1), (211, .invokevirtual 293, 3), (214, .iadd, 1), (215, .goto 14, 3), (218, .bipush 65, 2), (220, .aload_n 0, 1), (221, .iload_n 1, 1), (222, .iconst 4, 1), (223, .invokevirtual 293, 3), (226, .iadd, 1), (227, .iconst 5, 1), (228, .isub, 1), (229, .istore 12, 2), (231, .aload_n 0, 1), (232, .iload_n 1, 1), (233, .iconst 5, 1), (234, .invokevirtual 293, 3), (237, .istore 13, 2), (239, .aload_n 0, 1), (240, .iload 13, 2), (242, .iconst 4, 1), (243, .if_icmp .le 11, 3), (246, .iload 12, 2), (248, .bipush 32, 2), (250, .iadd, 1), (251, .goto 5, 3), (254, .iload 12, 2), (256, .invokevirtual 519, 3), (259, .iload 13, 2), (261, .istore 14, 2), (263, .iload 14, 2), (265, .iconst 5, 1), (266, .if_icmp .le 15, 3), (269, .aload_n 0, 1), (270, .bipush 39, 2), (272, .invokevirtual 519, 3), (275, .iinc 14 (-1), 3), (278, .goto (-15), 3), (281, .iload 13, 2), (283, .istore 14, 2), (285, .iload 14, 2), (287, .iconst 4, 1), (288, .if_icmp .ge 15, 3), (291, .aload_n 0, 1), (292, .bipush 44, 2), (294, .invokevirtual 519, 3), (297, .iinc 14 1, 3), (300, .goto (-15), 3), (303, .lload_n 3, 1), (304, .lconst 1, 1), (305, .lcmp, 1), (306, .ifCond .le 9, 3), (309, .aload_n 0, 1), (310, .lload_n 3, 1), (311, .l2i, 1), (312, .invokevirtual 524, 3), (315, .lload 5, 2), (317, .lconst 1, 1), (318, .lcmp, 1), (319, .ifCond .le 25, 3), (322, .aload_n 0, 1), (323, .bipush 47, 2), (325, .invokevirtual 519, 3), (328, .lload 5, 2), (330, .ldc2_w 527, 3), (333, .lcmp, 1), (334, .ifCond .le 10, 3), (337, .aload_n 0, 1), (338, .lload 5, 2), (340, .l2i, 1), (341, .invokevirtual 524, 3), (344, .iload_n 2, 1), (345, .i2l, 1), (346, .ldc2_w 373, 3), (349, .aload_n 0, 1), (350, .getfield 516, 3), (353, .iconst 1, 1), (354, .isub, 1), (355, .i2l, 1), (356, .invokestatic 125, 3), (359, .ifCond .ne 5, 3), (362, .iconst (-1), 1), (363, .ireturn, 1), (364, .iload_n 2, 1), (365, .ifCond .ge 10, 3), (368, .aload_n 0, 1), (369, .getfield 516, 3), (372, .goto 13, 3), (375, .aload_n 0, 1), (376, .getfield 114, 3), (379, .iload_n 2, 1), (380, .baload, 1), (381, .sipush 255, 3), (384, .iand, 1), (385, .ireturn, 1)]
set_option maxRecDepth 20000 in
theorem il_X12_written_ok : ∀ x ∈ il_X12_written, decode cX12_written x.1 = .ok x.2 := by decide +kernel
abbrev me_X12_written : Me := (RX12, il_X12_written, 15, (some .int), xRoom 3, [])
def w_X12_written_385 (n : Nat) (t0 : Int32) (u0 : Mm) (Q : Int32 → Mm → Prop) (T : Mm → Prop) : Prop :=
  Q t0 u0
def w_X12_written_344 (n : Nat) (x2 : Int32) (u0 : Mm) (Q : Int32 → Mm → Prop) (T : Mm → Prop) : Prop :=
  w_X12_in n (x2.toInt64) (-1 : Int64) ((u0.1 0 71) - (1 : Int32)).toInt64 u0 (fun r1 u1 =>
  (¬ r1 = 0 → (0 ≤ x2 → vp_in x2 200 ∧ (w_X12_written_385 n ((u1.1 31 (ix x2)) &&& (255 : Int32)) u1 Q T)) ∧
  (¬ 0 ≤ x2 → w_X12_written_385 n (u1.1 0 71) u1 Q T)) ∧
  (r1 = 0 → Q (-1 : Int32) u1)) T
def w_X12_written_315 (n : Nat) (x2 : Int32) (x5 : Int64) (u0 : Mm) (Q : Int32 → Mm → Prop) (T : Mm → Prop) : Prop :=
  ((lg_cmp x5 (1 : Int64)) ≤ 0 → w_X12_written_344 n x2 u0 Q T) ∧
  (¬ (lg_cmp x5 (1 : Int64)) ≤ 0 → w_X12_show n (47 : Int32) u0 (fun u1 =>
  ((lg_cmp x5 (2 : Int64)) ≤ 0 → w_X12_written_344 n x2 u1 Q T) ∧
  (¬ (lg_cmp x5 (2 : Int64)) ≤ 0 → w_X12_showNumber n (x5.toInt32) u1 (fun u2 =>
  w_X12_written_344 n x2 u2 Q T) T)) T)
def w_X12_written_285 (n : Nat) (Q : Int32 → Mm → Prop) (T : Mm → Prop) : Nat → Int32 → Int64 → Int64 → Int32 → Mm → Prop
  | 0, _, _, _, _, _ => False
  | k + 1, x2, x3, x5, x14, u0 =>
  ((4 : Int32) ≤ x14 → ((lg_cmp x3 (1 : Int64)) ≤ 0 → w_X12_written_315 n x2 x5 u0 Q T) ∧
  (¬ (lg_cmp x3 (1 : Int64)) ≤ 0 → w_X12_showNumber n (x3.toInt32) u0 (fun u1 =>
  w_X12_written_315 n x2 x5 u1 Q T) T)) ∧
  (¬ (4 : Int32) ≤ x14 → w_X12_show n (44 : Int32) u0 (fun u2 =>
  (w_X12_written_285 n Q T k) x2 x3 x5 (x14 + (1 : Int32)) u2) T)
def w_X12_written_263 (n : Nat) (Q : Int32 → Mm → Prop) (T : Mm → Prop) : Nat → Int32 → Int64 → Int64 → Int32 → Int32 → Mm → Prop
  | 0, _, _, _, _, _, _ => False
  | k + 1, x2, x3, x5, x13, x14, u0 =>
  (x14 ≤ (5 : Int32) → (w_X12_written_285 n Q T n) x2 x3 x5 x13 u0) ∧
  (¬ x14 ≤ (5 : Int32) → w_X12_show n (39 : Int32) u0 (fun u1 =>
  (w_X12_written_263 n Q T k) x2 x3 x5 x13 (x14 + (-1 : Int32)) u1) T)
def w_X12_written_256 (n : Nat) (x2 : Int32) (x3 : Int64) (x5 : Int64) (x13 : Int32) (t0 : Int32) (u0 : Mm) (Q : Int32 → Mm → Prop) (T : Mm → Prop) : Prop :=
  w_X12_show n t0 u0 (fun u1 =>
  (w_X12_written_263 n Q T n) x2 x3 x5 x13 x13 u1) T
def w_X12_written_229 (n : Nat) (x1 : Int32) (x2 : Int32) (x3 : Int64) (x5 : Int64) (t0 : Int32) (u0 : Mm) (Q : Int32 → Mm → Prop) (T : Mm → Prop) : Prop :=
  w_X12_get n x1 (5 : Int32) u0 (fun r1 u1 =>
  (r1 ≤ (4 : Int32) → w_X12_written_256 n x2 x3 x5 r1 t0 u1 Q T) ∧
  (¬ r1 ≤ (4 : Int32) → w_X12_written_256 n x2 x3 x5 r1 (t0 + (32 : Int32)) u1 Q T)) T
def w_X12_written_196 (n : Nat) (x1 : Int32) (x2 : Int32) (x3 : Int64) (x5 : Int64) (u0 : Mm) (Q : Int32 → Mm → Prop) (T : Mm → Prop) : Prop :=
  w_X12_get n x1 (4 : Int32) u0 (fun r1 u1 =>
  ((5 : Int32) ≤ r1 → w_X12_get n x1 (4 : Int32) u1 (fun r2 u2 =>
  w_X12_written_229 n x1 x2 x3 x5 (((65 : Int32) + r2) - (5 : Int32)) u2 Q T) T) ∧
  (¬ (5 : Int32) ≤ r1 → w_X12_get n x1 (4 : Int32) u1 (fun r3 u3 =>
  w_X12_written_229 n x1 x2 x3 x5 ((67 : Int32) + r3) u3 Q T) T)) T
def w_X12_written_179 (n : Nat) (Q : Int32 → Mm → Prop) (T : Mm → Prop) : Nat → Int32 → Int32 → Int64 → Int64 → Int32 → Mm → Prop
  | 0, _, _, _, _, _, _ => False
  | k + 1, x1, x2, x3, x5, x12, u0 =>
  (0 ≤ x12 → w_X12_written_196 n x1 x2 x3 x5 u0 Q T) ∧
  (¬ 0 ≤ x12 → w_X12_show n (95 : Int32) u0 (fun u1 =>
  (w_X12_written_179 n Q T k) x1 x2 x3 x5 (x12 + (1 : Int32)) u1) T)
def w_X12_written_158 (n : Nat) (Q : Int32 → Mm → Prop) (T : Mm → Prop) : Nat → Int32 → Int32 → Int64 → Int64 → Int32 → Int32 → Mm → Prop
  | 0, _, _, _, _, _, _, _ => False
  | k + 1, x1, x2, x3, x5, x11, x12, u0 =>
  (x12 ≤ 0 → (w_X12_written_179 n Q T n) x1 x2 x3 x5 x11 u0) ∧
  (¬ x12 ≤ 0 → w_X12_show n (94 : Int32) u0 (fun u1 =>
  (w_X12_written_158 n Q T k) x1 x2 x3 x5 x11 (x12 + (-1 : Int32)) u1) T)
def w_X12_written_154 (n : Nat) (x1 : Int32) (x2 : Int32) (x3 : Int64) (x5 : Int64) (x11 : Int32) (u0 : Mm) (Q : Int32 → Mm → Prop) (T : Mm → Prop) : Prop :=
  (w_X12_written_158 n Q T n) x1 x2 x3 x5 x11 x11 u0
def w_X12_written_116 (n : Nat) (u0 : Mm) (Q : Int32 → Mm → Prop) (T : Mm → Prop) : Prop :=
  Q (-1 : Int32) u0
def w_X12_written_51 (n : Nat) (Q : Int32 → Mm → Prop) (T : Mm → Prop) : Nat → Int32 → Int32 → Int64 → Int64 → Int64 → Int64 → Mm → Prop
  | 0, _, _, _, _, _, _, _ => False
  | k + 1, x1, x2, x3, x5, x7, x9, u0 =>
  ((lg_cmp x9 (0 : Int64)) = 0 → ¬ x7 = 0 ∧ (jlet (x3 / x7) fun y1 =>
  ¬ x7 = 0 ∧ (jlet (x5 / x7) fun y2 =>
  (0 < (lg_cmp y1 (64 : Int64)) → w_X12_written_116 n u0 Q T) ∧
  (¬ 0 < (lg_cmp y1 (64 : Int64)) → (0 < (lg_cmp y2 (64 : Int64)) → w_X12_written_116 n u0 Q T) ∧
  (¬ 0 < (lg_cmp y2 (64 : Int64)) → w_X12_isPower n (y2.toInt32) (64 : Int32) u0 (fun r1 u1 =>
  (¬ r1 = 0 → mlet (setI u1 0 71 (0 : Int32)) fun u2 =>
  w_X12_get n x1 (6 : Int32) u2 (fun r2 u3 =>
  vp_in x1 400 ∧ ((r2 = (u3.1 10 (ix x1)) → w_X12_written_196 n x1 x2 y1 y2 u3 Q T) ∧
  (¬ r2 = (u3.1 10 (ix x1)) → (¬ r2 = 0 → w_X12_written_154 n x1 x2 y1 y2 r2 u3 Q T) ∧
  (r2 = 0 → w_X12_show n (61 : Int32) u3 (fun u4 =>
  w_X12_written_154 n x1 x2 y1 y2 r2 u4 Q T) T)))) T) ∧
  (r1 = 0 → w_X12_written_116 n u1 Q T)) T))))) ∧
  (¬ (lg_cmp x9 (0 : Int64)) = 0 → ¬ x9 = 0 ∧ (jlet (x7 - x7 / x9 * x9) fun y3 =>
  (w_X12_written_51 n Q T k) x1 x2 x3 x5 x9 y3 u0))
def w_X12_written_22 (n : Nat) (u0 : Mm) (Q : Int32 → Mm → Prop) (T : Mm → Prop) : Prop :=
  Q (-1 : Int32) u0
def w_X12_written (n : Nat) (a0 : Int32) (a1 : Int32) (u0 : Mm) (Q : Int32 → Mm → Prop) (T : Mm → Prop) : Prop :=
  mlet (setI u0 0 0 (0 : Int32)) fun u1 =>
  w_X12_noThing n a0 u1 (fun r1 u2 =>
  (¬ r1 = 0 → w_X12_written_22 n u2 Q T) ∧
  (r1 = 0 → w_X12_get n a0 (0 : Int32) u2 (fun r2 u3 =>
  (r2 = 0 → vp_in a0 400 ∧ (jlet (u3.2.1 7 (ix a0)) fun y1 =>
  vp_in a0 400 ∧ (¬ (u3.1 9 (ix a0)) = 0 ∧ (jlet ((1290240 : Int32) / (u3.1 9 (ix a0))).toInt64 fun y2 =>
  (w_X12_written_51 n Q T n) a0 a1 y1 y2 y1 y2 u3)))) ∧
  (¬ r2 = 0 → w_X12_written_22 n u3 Q T)) T)) T
set_option maxRecDepth 20000 in
theorem s_X12_written_385 {g : Gb} (hg : xInj g) {n : Nat} {Q : Int32 → Mm → Prop} {T : Mm → Prop} {t0 : Int32} {u0 : Mm} (h : w_X12_written_385 n t0 u0 Q T) : xE g me_X12_written (pI g Q T) 385 [] [.int t0] u0 := by
  unfold w_X12_written_385 at h
  exact e_iret (k := 207) rfl rfl (Or.inl ⟨_, rfl, h⟩)
set_option maxRecDepth 20000 in
theorem s_X12_written_344 {g : Gb} (hg : xInj g) {n : Nat} {Q : Int32 → Mm → Prop} {T : Mm → Prop} {x2 : Int32} {u0 : Mm} (h : w_X12_written_344 n x2 u0 Q T) : xE g me_X12_written (pI g Q T) 344 [(0, .ref (gR g 0)), (2, .int x2)] [] u0 := by
  unfold w_X12_written_344 at h
  refine e_iload_n (k := 184) (i := 2) rfl rfl 1 rfl ?_
  refine e_i2l (k := 185) rfl ?_
  refine e_ldc2 (k := 186) rfl k_X12_373 ?_
  refine e_aload_n (k := 187) (i := 0) rfl rfl 0 rfl ?_
  refine e_getI (k := 188) rfl f_X12_516 rfl rfl ?_
  refine e_iconst (k := 189) (v := (1 : Int32)) rfl (by decide) ?_
  refine e_isub (k := 190) rfl ?_
  refine e_i2l (k := 191) rfl ?_
  refine e_callSi (k := 192) (As := [.long x2.toInt64, .long (-1 : Int64), .long ((u0.1 0 71) - (1 : Int32)).toInt64]) (rest := []) rfl (c_X12_in (g := g) hg (n := n) h) m_X12_in st_X12_in l_X12_125 rfl rfl (Nat.le_of_ble_eq_true rfl) ⟨by decide, by decide, rfl, rfl⟩ (fun _ h => ⟨fun _ z => (by cases z), Or.inr ⟨rfl, h⟩⟩) (fun r1 u1 h => ?_)
  refine e_if_ne (k := 193) (tgt := 364) rfl (by decide) (fun z => ?_) (fun z => ?_)
  · have h := h.1 z
    refine e_iload_n (k := 196) (i := 2) rfl rfl 1 rfl ?_
    refine e_if_ge (k := 197) (tgt := 375) rfl (by decide) (fun z => ?_) (fun z => ?_)
    · have h := h.1 z
      refine e_aload_n (k := 201) (i := 0) rfl rfl 0 rfl ?_
      refine e_getC (k := 202) rfl f_X12_114 rfl rfl ?_
      refine e_iload_n (k := 203) (i := 2) rfl rfl 1 rfl ?_
      refine e_bald (k := 204) rfl rfl h.1 ?_
      have h := h.2
      refine e_sipush (k := 205) (v := (255 : Int32)) rfl (by decide) ?_
      refine e_iand (k := 206) rfl ?_
      refine e_sub (lv' := []) [] rfl ?_
      exact s_X12_written_385 hg h
    · have h := h.2 z
      refine e_aload_n (k := 198) (i := 0) rfl rfl 0 rfl ?_
      refine e_getI (k := 199) rfl f_X12_516 rfl rfl ?_
      refine e_goto (k := 200) (tgt := 385) rfl (by decide) ?_
      refine e_sub (lv' := []) [] rfl ?_
      exact s_X12_written_385 hg h
  · have h := h.2 z
    refine e_iconst (k := 194) (v := (-1 : Int32)) rfl (by decide) ?_
    exact e_iret (k := 195) rfl rfl (Or.inl ⟨_, rfl, h⟩)
set_option maxRecDepth 20000 in
theorem s_X12_written_315 {g : Gb} (hg : xInj g) {n : Nat} {Q : Int32 → Mm → Prop} {T : Mm → Prop} {x2 : Int32} {x5 : Int64} {u0 : Mm} (h : w_X12_written_315 n x2 x5 u0 Q T) : xE g me_X12_written (pI g Q T) 315 [(0, .ref (gR g 0)), (2, .int x2), (5, .long x5)] [] u0 := by
  unfold w_X12_written_315 at h
  refine e_lload (k := 169) (i := 5) rfl 2 rfl ?_
  refine e_lconst (k := 170) (v := (1 : Int64)) rfl (by decide) ?_
  refine e_lcmp (k := 171) rfl ?_
  refine e_if_le (k := 172) (tgt := 344) rfl (by decide) (fun z => ?_) (fun z => ?_)
  · have h := h.1 z
    refine e_sub (lv' := [(0, .ref (gR g 0)), (2, .int x2)]) [0, 1] rfl ?_
    exact s_X12_written_344 hg h
  · have h := h.2 z
    refine e_aload_n (k := 173) (i := 0) rfl rfl 0 rfl ?_
    refine e_bipush (k := 174) (v := (47 : Int32)) rfl (by decide) ?_
    refine e_callVv (k := 175) (q := 0) (As := [.int (47 : Int32)]) (rest := []) rfl (c_X12_show (g := g) hg (n := n) h) m_X12_show i_X12_show l_X12_519 rfl ⟨_, rfl, rfl⟩ rfl rfl (Nat.le_of_ble_eq_true rfl) ⟨by decide, by decide, rfl, rfl⟩ (fun _ h => ⟨fun _ z => (by cases z), Or.inr ⟨rfl, h⟩⟩) (fun u1 h => ?_)
    refine e_lload (k := 176) (i := 5) rfl 2 rfl ?_
    refine e_ldc2 (k := 177) rfl k_X12_527 ?_
    refine e_lcmp (k := 178) rfl ?_
    refine e_if_le (k := 179) (tgt := 344) rfl (by decide) (fun z => ?_) (fun z => ?_)
    · have h := h.1 z
      refine e_sub (lv' := [(0, .ref (gR g 0)), (2, .int x2)]) [0, 1] rfl ?_
      exact s_X12_written_344 hg h
    · have h := h.2 z
      refine e_aload_n (k := 180) (i := 0) rfl rfl 0 rfl ?_
      refine e_lload (k := 181) (i := 5) rfl 2 rfl ?_
      refine e_l2i (k := 182) rfl ?_
      refine e_callVv (k := 183) (q := 0) (As := [.int x5.toInt32]) (rest := []) rfl (c_X12_showNumber (g := g) hg (n := n) h) m_X12_showNumber i_X12_showNumber l_X12_524 rfl ⟨_, rfl, rfl⟩ rfl rfl (Nat.le_of_ble_eq_true rfl) ⟨by decide, by decide, rfl, rfl⟩ (fun _ h => ⟨fun _ z => (by cases z), Or.inr ⟨rfl, h⟩⟩) (fun u2 h => ?_)
      refine e_sub (lv' := [(0, .ref (gR g 0)), (2, .int x2)]) [0, 1] rfl ?_
      exact s_X12_written_344 hg h
set_option maxRecDepth 20000 in
theorem s_X12_written_285 {g : Gb} (hg : xInj g) {n : Nat} {Q : Int32 → Mm → Prop} {T : Mm → Prop} : ∀ (k : Nat) (x2 : Int32) (x3 : Int64) (x5 : Int64) (x14 : Int32) (u0 : Mm), w_X12_written_285 n Q T k x2 x3 x5 x14 u0 → xE g me_X12_written (pI g Q T) 285 [(0, .ref (gR g 0)), (2, .int x2), (3, .long x3), (5, .long x5), (14, .int x14)] [] u0 := by
  intro k
  induction k with
  | zero => intro x2 x3 x5 x14 u0 h; exact h.elim
  | succ k ih =>
    intro x2 x3 x5 x14 u0 h
    unfold w_X12_written_285 at h
    refine e_iload (k := 153) (i := 14) rfl 4 rfl ?_
    refine e_iconst (k := 154) (v := (4 : Int32)) rfl (by decide) ?_
    refine e_icmp_ge (k := 155) (tgt := 303) rfl (by decide) (fun z => ?_) (fun z => ?_)
    · have h := h.1 z
      refine e_lload_n (k := 161) (i := 3) rfl rfl 2 rfl ?_
      refine e_lconst (k := 162) (v := (1 : Int64)) rfl (by decide) ?_
      refine e_lcmp (k := 163) rfl ?_
      refine e_if_le (k := 164) (tgt := 315) rfl (by decide) (fun z => ?_) (fun z => ?_)
      · have h := h.1 z
        refine e_sub (lv' := [(0, .ref (gR g 0)), (2, .int x2), (5, .long x5)]) [0, 1, 3] rfl ?_
        exact s_X12_written_315 hg h
      · have h := h.2 z
        refine e_aload_n (k := 165) (i := 0) rfl rfl 0 rfl ?_
        refine e_lload_n (k := 166) (i := 3) rfl rfl 2 rfl ?_
        refine e_l2i (k := 167) rfl ?_
        refine e_callVv (k := 168) (q := 0) (As := [.int x3.toInt32]) (rest := []) rfl (c_X12_showNumber (g := g) hg (n := n) h) m_X12_showNumber i_X12_showNumber l_X12_524 rfl ⟨_, rfl, rfl⟩ rfl rfl (Nat.le_of_ble_eq_true rfl) ⟨by decide, by decide, rfl, rfl⟩ (fun _ h => ⟨fun _ z => (by cases z), Or.inr ⟨rfl, h⟩⟩) (fun u1 h => ?_)
        refine e_sub (lv' := [(0, .ref (gR g 0)), (2, .int x2), (5, .long x5)]) [0, 1, 3] rfl ?_
        exact s_X12_written_315 hg h
    · have h := h.2 z
      refine e_aload_n (k := 156) (i := 0) rfl rfl 0 rfl ?_
      refine e_bipush (k := 157) (v := (44 : Int32)) rfl (by decide) ?_
      refine e_callVv (k := 158) (q := 0) (As := [.int (44 : Int32)]) (rest := []) rfl (c_X12_show (g := g) hg (n := n) h) m_X12_show i_X12_show l_X12_519 rfl ⟨_, rfl, rfl⟩ rfl rfl (Nat.le_of_ble_eq_true rfl) ⟨by decide, by decide, rfl, rfl⟩ (fun _ h => ⟨fun _ z => (by cases z), Or.inr ⟨rfl, h⟩⟩) (fun u2 h => ?_)
      refine e_iinc (k := 159) (i := 14) (j := 4) (v := (x14 + (1 : Int32))) (lv' := [(0, .ref (gR g 0)), (2, .int x2), (3, .long x3), (5, .long x5), (14, .int (x14 + (1 : Int32)))]) rfl rfl rfl (by decide) [1, 2, 3, 4, 0] rfl ?_
      refine e_goto (k := 160) (tgt := 285) rfl (by decide) ?_
      exact ih x2 x3 x5 (x14 + (1 : Int32)) u2 h
set_option maxRecDepth 20000 in
theorem s_X12_written_263 {g : Gb} (hg : xInj g) {n : Nat} {Q : Int32 → Mm → Prop} {T : Mm → Prop} : ∀ (k : Nat) (x2 : Int32) (x3 : Int64) (x5 : Int64) (x13 : Int32) (x14 : Int32) (u0 : Mm), w_X12_written_263 n Q T k x2 x3 x5 x13 x14 u0 → xE g me_X12_written (pI g Q T) 263 [(0, .ref (gR g 0)), (2, .int x2), (3, .long x3), (5, .long x5), (13, .int x13), (14, .int x14)] [] u0 := by
  intro k
  induction k with
  | zero => intro x2 x3 x5 x13 x14 u0 h; exact h.elim
  | succ k ih =>
    intro x2 x3 x5 x13 x14 u0 h
    unfold w_X12_written_263 at h
    refine e_iload (k := 143) (i := 14) rfl 5 rfl ?_
    refine e_iconst (k := 144) (v := (5 : Int32)) rfl (by decide) ?_
    refine e_icmp_le (k := 145) (tgt := 281) rfl (by decide) (fun z => ?_) (fun z => ?_)
    · have h := h.1 z
      refine e_iload (k := 151) (i := 13) rfl 4 rfl ?_
      refine e_istore (k := 152) (i := 14) (lv' := [(0, .ref (gR g 0)), (2, .int x2), (3, .long x3), (5, .long x5), (13, .int x13), (14, .int x13)]) rfl (by decide) [1, 2, 3, 4, 5, 0] rfl ?_
      refine e_sub (lv' := [(0, .ref (gR g 0)), (2, .int x2), (3, .long x3), (5, .long x5), (14, .int x13)]) [0, 1, 2, 3, 5] rfl ?_
      exact s_X12_written_285 hg n x2 x3 x5 x13 u0 h
    · have h := h.2 z
      refine e_aload_n (k := 146) (i := 0) rfl rfl 0 rfl ?_
      refine e_bipush (k := 147) (v := (39 : Int32)) rfl (by decide) ?_
      refine e_callVv (k := 148) (q := 0) (As := [.int (39 : Int32)]) (rest := []) rfl (c_X12_show (g := g) hg (n := n) h) m_X12_show i_X12_show l_X12_519 rfl ⟨_, rfl, rfl⟩ rfl rfl (Nat.le_of_ble_eq_true rfl) ⟨by decide, by decide, rfl, rfl⟩ (fun _ h => ⟨fun _ z => (by cases z), Or.inr ⟨rfl, h⟩⟩) (fun u1 h => ?_)
      refine e_iinc (k := 149) (i := 14) (j := 5) (v := (x14 + (-1 : Int32))) (lv' := [(0, .ref (gR g 0)), (2, .int x2), (3, .long x3), (5, .long x5), (13, .int x13), (14, .int (x14 + (-1 : Int32)))]) rfl rfl rfl (by decide) [1, 2, 3, 4, 5, 0] rfl ?_
      refine e_goto (k := 150) (tgt := 263) rfl (by decide) ?_
      exact ih x2 x3 x5 x13 (x14 + (-1 : Int32)) u1 h
set_option maxRecDepth 20000 in
theorem s_X12_written_256 {g : Gb} (hg : xInj g) {n : Nat} {Q : Int32 → Mm → Prop} {T : Mm → Prop} {x2 : Int32} {x3 : Int64} {x5 : Int64} {x13 : Int32} {t0 : Int32} {u0 : Mm} (h : w_X12_written_256 n x2 x3 x5 x13 t0 u0 Q T) : xE g me_X12_written (pI g Q T) 256 [(0, .ref (gR g 0)), (2, .int x2), (3, .long x3), (5, .long x5), (13, .int x13)] [.int t0, .ref (gR g 0)] u0 := by
  unfold w_X12_written_256 at h
  refine e_callVv (k := 140) (q := 0) (As := [.int t0]) (rest := []) rfl (c_X12_show (g := g) hg (n := n) h) m_X12_show i_X12_show l_X12_519 rfl ⟨_, rfl, rfl⟩ rfl rfl (Nat.le_of_ble_eq_true rfl) ⟨by decide, by decide, rfl, rfl⟩ (fun _ h => ⟨fun _ z => (by cases z), Or.inr ⟨rfl, h⟩⟩) (fun u1 h => ?_)
  refine e_iload (k := 141) (i := 13) rfl 4 rfl ?_
  refine e_istore (k := 142) (i := 14) (lv' := [(0, .ref (gR g 0)), (2, .int x2), (3, .long x3), (5, .long x5), (13, .int x13), (14, .int x13)]) rfl (by decide) [1, 2, 3, 4, 5, 0] rfl ?_
  exact s_X12_written_263 hg n x2 x3 x5 x13 x13 u1 h
set_option maxRecDepth 20000 in
theorem s_X12_written_229 {g : Gb} (hg : xInj g) {n : Nat} {Q : Int32 → Mm → Prop} {T : Mm → Prop} {x1 : Int32} {x2 : Int32} {x3 : Int64} {x5 : Int64} {t0 : Int32} {u0 : Mm} (h : w_X12_written_229 n x1 x2 x3 x5 t0 u0 Q T) : xE g me_X12_written (pI g Q T) 229 [(0, .ref (gR g 0)), (1, .int x1), (2, .int x2), (3, .long x3), (5, .long x5)] [.int t0] u0 := by
  unfold w_X12_written_229 at h
  refine e_istore (k := 125) (i := 12) (lv' := [(0, .ref (gR g 0)), (1, .int x1), (2, .int x2), (3, .long x3), (5, .long x5), (12, .int t0)]) rfl (by decide) [1, 2, 3, 4, 5, 0] rfl ?_
  refine e_aload_n (k := 126) (i := 0) rfl rfl 0 rfl ?_
  refine e_iload_n (k := 127) (i := 1) rfl rfl 1 rfl ?_
  refine e_iconst (k := 128) (v := (5 : Int32)) rfl (by decide) ?_
  refine e_callVi (k := 129) (q := 0) (As := [.int x1, .int (5 : Int32)]) (rest := []) rfl (c_X12_get (g := g) hg (n := n) h) m_X12_get i_X12_get l_X12_293 rfl ⟨_, rfl, rfl⟩ rfl rfl (Nat.le_of_ble_eq_true rfl) ⟨by decide, by decide, rfl, rfl⟩ (fun _ h => ⟨fun _ z => (by cases z), Or.inr ⟨rfl, h⟩⟩) (fun r1 u1 h => ?_)
  refine e_istore (k := 130) (i := 13) (lv' := [(0, .ref (gR g 0)), (1, .int x1), (2, .int x2), (3, .long x3), (5, .long x5), (12, .int t0), (13, .int r1)]) rfl (by decide) [1, 2, 3, 4, 5, 6, 0] rfl ?_
  refine e_aload_n (k := 131) (i := 0) rfl rfl 0 rfl ?_
  refine e_iload (k := 132) (i := 13) rfl 6 rfl ?_
  refine e_iconst (k := 133) (v := (4 : Int32)) rfl (by decide) ?_
  refine e_icmp_le (k := 134) (tgt := 254) rfl (by decide) (fun z => ?_) (fun z => ?_)
  · have h := h.1 z
    refine e_iload (k := 139) (i := 12) rfl 5 rfl ?_
    refine e_sub (lv' := [(0, .ref (gR g 0)), (2, .int x2), (3, .long x3), (5, .long x5), (13, .int r1)]) [0, 2, 3, 4, 6] rfl ?_
    exact s_X12_written_256 hg h
  · have h := h.2 z
    refine e_iload (k := 135) (i := 12) rfl 5 rfl ?_
    refine e_bipush (k := 136) (v := (32 : Int32)) rfl (by decide) ?_
    refine e_iadd (k := 137) rfl ?_
    refine e_goto (k := 138) (tgt := 256) rfl (by decide) ?_
    refine e_sub (lv' := [(0, .ref (gR g 0)), (2, .int x2), (3, .long x3), (5, .long x5), (13, .int r1)]) [0, 2, 3, 4, 6] rfl ?_
    exact s_X12_written_256 hg h
set_option maxRecDepth 20000 in
theorem s_X12_written_196 {g : Gb} (hg : xInj g) {n : Nat} {Q : Int32 → Mm → Prop} {T : Mm → Prop} {x1 : Int32} {x2 : Int32} {x3 : Int64} {x5 : Int64} {u0 : Mm} (h : w_X12_written_196 n x1 x2 x3 x5 u0 Q T) : xE g me_X12_written (pI g Q T) 196 [(0, .ref (gR g 0)), (1, .int x1), (2, .int x2), (3, .long x3), (5, .long x5)] [] u0 := by
  unfold w_X12_written_196 at h
  refine e_aload_n (k := 104) (i := 0) rfl rfl 0 rfl ?_
  refine e_iload_n (k := 105) (i := 1) rfl rfl 1 rfl ?_
  refine e_iconst (k := 106) (v := (4 : Int32)) rfl (by decide) ?_
  refine e_callVi (k := 107) (q := 0) (As := [.int x1, .int (4 : Int32)]) (rest := []) rfl (c_X12_get (g := g) hg (n := n) h) m_X12_get i_X12_get l_X12_293 rfl ⟨_, rfl, rfl⟩ rfl rfl (Nat.le_of_ble_eq_true rfl) ⟨by decide, by decide, rfl, rfl⟩ (fun _ h => ⟨fun _ z => (by cases z), Or.inr ⟨rfl, h⟩⟩) (fun r1 u1 h => ?_)
  refine e_iconst (k := 108) (v := (5 : Int32)) rfl (by decide) ?_
  refine e_icmp_ge (k := 109) (tgt := 218) rfl (by decide) (fun z => ?_) (fun z => ?_)
  · have h := h.1 z
    refine e_bipush (k := 117) (v := (65 : Int32)) rfl (by decide) ?_
    refine e_aload_n (k := 118) (i := 0) rfl rfl 0 rfl ?_
    refine e_iload_n (k := 119) (i := 1) rfl rfl 1 rfl ?_
    refine e_iconst (k := 120) (v := (4 : Int32)) rfl (by decide) ?_
    refine e_callVi (k := 121) (q := 0) (As := [.int x1, .int (4 : Int32)]) (rest := [.int (65 : Int32)]) rfl (c_X12_get (g := g) hg (n := n) h) m_X12_get i_X12_get l_X12_293 rfl ⟨_, rfl, rfl⟩ rfl rfl (Nat.le_of_ble_eq_true rfl) ⟨by decide, by decide, rfl, rfl⟩ (fun _ h => ⟨fun _ z => (by cases z), Or.inr ⟨rfl, h⟩⟩) (fun r2 u2 h => ?_)
    refine e_iadd (k := 122) rfl ?_
    refine e_iconst (k := 123) (v := (5 : Int32)) rfl (by decide) ?_
    refine e_isub (k := 124) rfl ?_
    exact s_X12_written_229 hg h
  · have h := h.2 z
    refine e_bipush (k := 110) (v := (67 : Int32)) rfl (by decide) ?_
    refine e_aload_n (k := 111) (i := 0) rfl rfl 0 rfl ?_
    refine e_iload_n (k := 112) (i := 1) rfl rfl 1 rfl ?_
    refine e_iconst (k := 113) (v := (4 : Int32)) rfl (by decide) ?_
    refine e_callVi (k := 114) (q := 0) (As := [.int x1, .int (4 : Int32)]) (rest := [.int (67 : Int32)]) rfl (c_X12_get (g := g) hg (n := n) h) m_X12_get i_X12_get l_X12_293 rfl ⟨_, rfl, rfl⟩ rfl rfl (Nat.le_of_ble_eq_true rfl) ⟨by decide, by decide, rfl, rfl⟩ (fun _ h => ⟨fun _ z => (by cases z), Or.inr ⟨rfl, h⟩⟩) (fun r3 u3 h => ?_)
    refine e_iadd (k := 115) rfl ?_
    refine e_goto (k := 116) (tgt := 229) rfl (by decide) ?_
    exact s_X12_written_229 hg h
set_option maxRecDepth 20000 in
theorem s_X12_written_179 {g : Gb} (hg : xInj g) {n : Nat} {Q : Int32 → Mm → Prop} {T : Mm → Prop} : ∀ (k : Nat) (x1 : Int32) (x2 : Int32) (x3 : Int64) (x5 : Int64) (x12 : Int32) (u0 : Mm), w_X12_written_179 n Q T k x1 x2 x3 x5 x12 u0 → xE g me_X12_written (pI g Q T) 179 [(0, .ref (gR g 0)), (1, .int x1), (2, .int x2), (3, .long x3), (5, .long x5), (12, .int x12)] [] u0 := by
  intro k
  induction k with
  | zero => intro x1 x2 x3 x5 x12 u0 h; exact h.elim
  | succ k ih =>
    intro x1 x2 x3 x5 x12 u0 h
    unfold w_X12_written_179 at h
    refine e_iload (k := 97) (i := 12) rfl 5 rfl ?_
    refine e_if_ge (k := 98) (tgt := 196) rfl (by decide) (fun z => ?_) (fun z => ?_)
    · have h := h.1 z
      refine e_sub (lv' := [(0, .ref (gR g 0)), (1, .int x1), (2, .int x2), (3, .long x3), (5, .long x5)]) [0, 1, 2, 3, 4] rfl ?_
      exact s_X12_written_196 hg h
    · have h := h.2 z
      refine e_aload_n (k := 99) (i := 0) rfl rfl 0 rfl ?_
      refine e_bipush (k := 100) (v := (95 : Int32)) rfl (by decide) ?_
      refine e_callVv (k := 101) (q := 0) (As := [.int (95 : Int32)]) (rest := []) rfl (c_X12_show (g := g) hg (n := n) h) m_X12_show i_X12_show l_X12_519 rfl ⟨_, rfl, rfl⟩ rfl rfl (Nat.le_of_ble_eq_true rfl) ⟨by decide, by decide, rfl, rfl⟩ (fun _ h => ⟨fun _ z => (by cases z), Or.inr ⟨rfl, h⟩⟩) (fun u1 h => ?_)
      refine e_iinc (k := 102) (i := 12) (j := 5) (v := (x12 + (1 : Int32))) (lv' := [(0, .ref (gR g 0)), (1, .int x1), (2, .int x2), (3, .long x3), (5, .long x5), (12, .int (x12 + (1 : Int32)))]) rfl rfl rfl (by decide) [1, 2, 3, 4, 5, 0] rfl ?_
      refine e_goto (k := 103) (tgt := 179) rfl (by decide) ?_
      exact ih x1 x2 x3 x5 (x12 + (1 : Int32)) u1 h
set_option maxRecDepth 20000 in
theorem s_X12_written_158 {g : Gb} (hg : xInj g) {n : Nat} {Q : Int32 → Mm → Prop} {T : Mm → Prop} : ∀ (k : Nat) (x1 : Int32) (x2 : Int32) (x3 : Int64) (x5 : Int64) (x11 : Int32) (x12 : Int32) (u0 : Mm), w_X12_written_158 n Q T k x1 x2 x3 x5 x11 x12 u0 → xE g me_X12_written (pI g Q T) 158 [(0, .ref (gR g 0)), (1, .int x1), (2, .int x2), (3, .long x3), (5, .long x5), (11, .int x11), (12, .int x12)] [] u0 := by
  intro k
  induction k with
  | zero => intro x1 x2 x3 x5 x11 x12 u0 h; exact h.elim
  | succ k ih =>
    intro x1 x2 x3 x5 x11 x12 u0 h
    unfold w_X12_written_158 at h
    refine e_iload (k := 88) (i := 12) rfl 6 rfl ?_
    refine e_if_le (k := 89) (tgt := 175) rfl (by decide) (fun z => ?_) (fun z => ?_)
    · have h := h.1 z
      refine e_iload (k := 95) (i := 11) rfl 5 rfl ?_
      refine e_istore (k := 96) (i := 12) (lv' := [(0, .ref (gR g 0)), (1, .int x1), (2, .int x2), (3, .long x3), (5, .long x5), (11, .int x11), (12, .int x11)]) rfl (by decide) [1, 2, 3, 4, 5, 6, 0] rfl ?_
      refine e_sub (lv' := [(0, .ref (gR g 0)), (1, .int x1), (2, .int x2), (3, .long x3), (5, .long x5), (12, .int x11)]) [0, 1, 2, 3, 4, 6] rfl ?_
      exact s_X12_written_179 hg n x1 x2 x3 x5 x11 u0 h
    · have h := h.2 z
      refine e_aload_n (k := 90) (i := 0) rfl rfl 0 rfl ?_
      refine e_bipush (k := 91) (v := (94 : Int32)) rfl (by decide) ?_
      refine e_callVv (k := 92) (q := 0) (As := [.int (94 : Int32)]) (rest := []) rfl (c_X12_show (g := g) hg (n := n) h) m_X12_show i_X12_show l_X12_519 rfl ⟨_, rfl, rfl⟩ rfl rfl (Nat.le_of_ble_eq_true rfl) ⟨by decide, by decide, rfl, rfl⟩ (fun _ h => ⟨fun _ z => (by cases z), Or.inr ⟨rfl, h⟩⟩) (fun u1 h => ?_)
      refine e_iinc (k := 93) (i := 12) (j := 6) (v := (x12 + (-1 : Int32))) (lv' := [(0, .ref (gR g 0)), (1, .int x1), (2, .int x2), (3, .long x3), (5, .long x5), (11, .int x11), (12, .int (x12 + (-1 : Int32)))]) rfl rfl rfl (by decide) [1, 2, 3, 4, 5, 6, 0] rfl ?_
      refine e_goto (k := 94) (tgt := 158) rfl (by decide) ?_
      exact ih x1 x2 x3 x5 x11 (x12 + (-1 : Int32)) u1 h
set_option maxRecDepth 20000 in
theorem s_X12_written_154 {g : Gb} (hg : xInj g) {n : Nat} {Q : Int32 → Mm → Prop} {T : Mm → Prop} {x1 : Int32} {x2 : Int32} {x3 : Int64} {x5 : Int64} {x11 : Int32} {u0 : Mm} (h : w_X12_written_154 n x1 x2 x3 x5 x11 u0 Q T) : xE g me_X12_written (pI g Q T) 154 [(0, .ref (gR g 0)), (1, .int x1), (2, .int x2), (3, .long x3), (5, .long x5), (11, .int x11)] [] u0 := by
  unfold w_X12_written_154 at h
  refine e_iload (k := 86) (i := 11) rfl 5 rfl ?_
  refine e_istore (k := 87) (i := 12) (lv' := [(0, .ref (gR g 0)), (1, .int x1), (2, .int x2), (3, .long x3), (5, .long x5), (11, .int x11), (12, .int x11)]) rfl (by decide) [1, 2, 3, 4, 5, 6, 0] rfl ?_
  exact s_X12_written_158 hg n x1 x2 x3 x5 x11 x11 u0 h
set_option maxRecDepth 20000 in
theorem s_X12_written_116 {g : Gb} (hg : xInj g) {n : Nat} {Q : Int32 → Mm → Prop} {T : Mm → Prop} {u0 : Mm} (h : w_X12_written_116 n  u0 Q T) : xE g me_X12_written (pI g Q T) 116 [] [] u0 := by
  unfold w_X12_written_116 at h
  refine e_iconst (k := 65) (v := (-1 : Int32)) rfl (by decide) ?_
  exact e_iret (k := 66) rfl rfl (Or.inl ⟨_, rfl, h⟩)
set_option maxRecDepth 20000 in
theorem s_X12_written_51 {g : Gb} (hg : xInj g) {n : Nat} {Q : Int32 → Mm → Prop} {T : Mm → Prop} : ∀ (k : Nat) (x1 : Int32) (x2 : Int32) (x3 : Int64) (x5 : Int64) (x7 : Int64) (x9 : Int64) (u0 : Mm), w_X12_written_51 n Q T k x1 x2 x3 x5 x7 x9 u0 → xE g me_X12_written (pI g Q T) 51 [(0, .ref (gR g 0)), (1, .int x1), (2, .int x2), (3, .long x3), (5, .long x5), (7, .long x7), (9, .long x9)] [] u0 := by
  intro k
  induction k with
  | zero => intro x1 x2 x3 x5 x7 x9 u0 h; exact h.elim
  | succ k ih =>
    intro x1 x2 x3 x5 x7 x9 u0 h
    unfold w_X12_written_51 at h
    refine e_lload (k := 31) (i := 9) rfl 6 rfl ?_
    refine e_lconst (k := 32) (v := (0 : Int64)) rfl (by decide) ?_
    refine e_lcmp (k := 33) rfl ?_
    refine e_if_eq (k := 34) (tgt := 76) rfl (by decide) (fun z => ?_) (fun z => ?_)
    · have h := h.1 z
      refine e_lload_n (k := 44) (i := 3) rfl rfl 3 rfl ?_
      refine e_lload (k := 45) (i := 7) rfl 5 rfl ?_
      refine e_ldiv (k := 46) rfl h.1 ?_
      have h := h.2
      refine e_jlet h (fun y1 h => ?_)
      refine e_lstore_n (k := 47) (i := 3) (lv' := [(0, .ref (gR g 0)), (1, .int x1), (2, .int x2), (3, .long y1), (5, .long x5), (7, .long x7), (9, .long x9)]) rfl rfl (by decide) [1, 2, 3, 0, 4, 5, 6] rfl ?_
      refine e_lload (k := 48) (i := 5) rfl 4 rfl ?_
      refine e_lload (k := 49) (i := 7) rfl 5 rfl ?_
      refine e_ldiv (k := 50) rfl h.1 ?_
      have h := h.2
      refine e_jlet h (fun y2 h => ?_)
      refine e_lstore (k := 51) (i := 5) (lv' := [(0, .ref (gR g 0)), (1, .int x1), (2, .int x2), (3, .long y1), (5, .long y2), (7, .long x7), (9, .long x9)]) rfl (by decide) [1, 2, 3, 4, 0, 5, 6] rfl ?_
      refine e_lload_n (k := 52) (i := 3) rfl rfl 3 rfl ?_
      refine e_ldc2 (k := 53) rfl k_X12_522 ?_
      refine e_lcmp (k := 54) rfl ?_
      refine e_if_gt (k := 55) (tgt := 116) rfl (by decide) (fun z => ?_) (fun z => ?_)
      · have h := h.1 z
        refine e_sub (lv' := []) [] rfl ?_
        exact s_X12_written_116 hg h
      · have h := h.2 z
        refine e_lload (k := 56) (i := 5) rfl 4 rfl ?_
        refine e_ldc2 (k := 57) rfl k_X12_522 ?_
        refine e_lcmp (k := 58) rfl ?_
        refine e_if_gt (k := 59) (tgt := 116) rfl (by decide) (fun z => ?_) (fun z => ?_)
        · have h := h.1 z
          refine e_sub (lv' := []) [] rfl ?_
          exact s_X12_written_116 hg h
        · have h := h.2 z
          refine e_lload (k := 60) (i := 5) rfl 4 rfl ?_
          refine e_l2i (k := 61) rfl ?_
          refine e_bipush (k := 62) (v := (64 : Int32)) rfl (by decide) ?_
          refine e_callSi (k := 63) (As := [.int y2.toInt32, .int (64 : Int32)]) (rest := []) rfl (c_X12_isPower (g := g) hg (n := n) h) m_X12_isPower st_X12_isPower l_X12_215 rfl rfl (Nat.le_of_ble_eq_true rfl) ⟨by decide, by decide, rfl, rfl⟩ (fun _ h => ⟨fun _ z => (by cases z), Or.inr ⟨rfl, h⟩⟩) (fun r1 u1 h => ?_)
          refine e_if_ne (k := 64) (tgt := 118) rfl (by decide) (fun z => ?_) (fun z => ?_)
          · have h := h.1 z
            refine e_aload_n (k := 67) (i := 0) rfl rfl 0 rfl ?_
            refine e_iconst (k := 68) (v := (0 : Int32)) rfl (by decide) ?_
            refine e_putI (k := 69) rfl fg_X12_516 rfl rfl ?_
            refine e_mlet h (fun u2 h => ?_)
            refine e_aload_n (k := 70) (i := 0) rfl rfl 0 rfl ?_
            refine e_iload_n (k := 71) (i := 1) rfl rfl 1 rfl ?_
            refine e_bipush (k := 72) (v := (6 : Int32)) rfl (by decide) ?_
            refine e_callVi (k := 73) (q := 0) (As := [.int x1, .int (6 : Int32)]) (rest := []) rfl (c_X12_get (g := g) hg (n := n) h) m_X12_get i_X12_get l_X12_293 rfl ⟨_, rfl, rfl⟩ rfl rfl (Nat.le_of_ble_eq_true rfl) ⟨by decide, by decide, rfl, rfl⟩ (fun _ h => ⟨fun _ z => (by cases z), Or.inr ⟨rfl, h⟩⟩) (fun r2 u3 h => ?_)
            refine e_istore (k := 74) (i := 11) (lv' := [(0, .ref (gR g 0)), (1, .int x1), (2, .int x2), (3, .long y1), (5, .long y2), (7, .long x7), (9, .long x9), (11, .int r2)]) rfl (by decide) [1, 2, 3, 4, 5, 6, 7, 0] rfl ?_
            refine e_iload (k := 75) (i := 11) rfl 7 rfl ?_
            refine e_aload_n (k := 76) (i := 0) rfl rfl 0 rfl ?_
            refine e_getC (k := 77) rfl f_X12_50 rfl rfl ?_
            refine e_iload_n (k := 78) (i := 1) rfl rfl 1 rfl ?_
            refine e_iald (k := 79) rfl rfl h.1 ?_
            have h := h.2
            refine e_icmp_eq (k := 80) (tgt := 196) rfl (by decide) (fun z => ?_) (fun z => ?_)
            · have h := h.1 z
              refine e_sub (lv' := [(0, .ref (gR g 0)), (1, .int x1), (2, .int x2), (3, .long y1), (5, .long y2)]) [0, 1, 2, 3, 4] rfl ?_
              exact s_X12_written_196 hg h
            · have h := h.2 z
              refine e_iload (k := 81) (i := 11) rfl 7 rfl ?_
              refine e_if_ne (k := 82) (tgt := 154) rfl (by decide) (fun z => ?_) (fun z => ?_)
              · have h := h.1 z
                refine e_sub (lv' := [(0, .ref (gR g 0)), (1, .int x1), (2, .int x2), (3, .long y1), (5, .long y2), (11, .int r2)]) [0, 1, 2, 3, 4, 7] rfl ?_
                exact s_X12_written_154 hg h
              · have h := h.2 z
                refine e_aload_n (k := 83) (i := 0) rfl rfl 0 rfl ?_
                refine e_bipush (k := 84) (v := (61 : Int32)) rfl (by decide) ?_
                refine e_callVv (k := 85) (q := 0) (As := [.int (61 : Int32)]) (rest := []) rfl (c_X12_show (g := g) hg (n := n) h) m_X12_show i_X12_show l_X12_519 rfl ⟨_, rfl, rfl⟩ rfl rfl (Nat.le_of_ble_eq_true rfl) ⟨by decide, by decide, rfl, rfl⟩ (fun _ h => ⟨fun _ z => (by cases z), Or.inr ⟨rfl, h⟩⟩) (fun u4 h => ?_)
                refine e_sub (lv' := [(0, .ref (gR g 0)), (1, .int x1), (2, .int x2), (3, .long y1), (5, .long y2), (11, .int r2)]) [0, 1, 2, 3, 4, 7] rfl ?_
                exact s_X12_written_154 hg h
          · have h := h.2 z
            refine e_sub (lv' := []) [] rfl ?_
            exact s_X12_written_116 hg h
    · have h := h.2 z
      refine e_lload (k := 35) (i := 7) rfl 5 rfl ?_
      refine e_lload (k := 36) (i := 9) rfl 6 rfl ?_
      refine e_lrem (k := 37) rfl h.1 ?_
      have h := h.2
      refine e_jlet h (fun y3 h => ?_)
      refine e_lstore (k := 38) (i := 11) (lv' := [(0, .ref (gR g 0)), (1, .int x1), (2, .int x2), (3, .long x3), (5, .long x5), (7, .long x7), (9, .long x9), (11, .long y3)]) rfl (by decide) [1, 2, 3, 4, 5, 6, 7, 0] rfl ?_
      refine e_lload (k := 39) (i := 9) rfl 6 rfl ?_
      refine e_lstore (k := 40) (i := 7) (lv' := [(0, .ref (gR g 0)), (1, .int x1), (2, .int x2), (3, .long x3), (5, .long x5), (7, .long x9), (9, .long x9), (11, .long y3)]) rfl (by decide) [1, 2, 3, 4, 5, 0, 6, 7] rfl ?_
      refine e_lload (k := 41) (i := 11) rfl 7 rfl ?_
      refine e_lstore (k := 42) (i := 9) (lv' := [(0, .ref (gR g 0)), (1, .int x1), (2, .int x2), (3, .long x3), (5, .long x5), (7, .long x9), (9, .long y3), (11, .long y3)]) rfl (by decide) [1, 2, 3, 4, 5, 6, 0, 7] rfl ?_
      refine e_goto (k := 43) (tgt := 51) rfl (by decide) ?_
      refine e_sub (lv' := [(0, .ref (gR g 0)), (1, .int x1), (2, .int x2), (3, .long x3), (5, .long x5), (7, .long x9), (9, .long y3)]) [0, 1, 2, 3, 4, 5, 6] rfl ?_
      exact ih x1 x2 x3 x5 x9 y3 u0 h
set_option maxRecDepth 20000 in
theorem s_X12_written_22 {g : Gb} (hg : xInj g) {n : Nat} {Q : Int32 → Mm → Prop} {T : Mm → Prop} {u0 : Mm} (h : w_X12_written_22 n  u0 Q T) : xE g me_X12_written (pI g Q T) 22 [] [] u0 := by
  unfold w_X12_written_22 at h
  refine e_iconst (k := 12) (v := (-1 : Int32)) rfl (by decide) ?_
  exact e_iret (k := 13) rfl rfl (Or.inl ⟨_, rfl, h⟩)
set_option maxRecDepth 20000 in
theorem c_X12_written {g : Gb} (hg : xInj g) {n : Nat} {a0 : Int32} {a1 : Int32} {u0 : Mm} {Q : Int32 → Mm → Prop} {T : Mm → Prop} (h : w_X12_written n a0 a1 u0 Q T) : xMet (gL g) yX12_written (xws yX12_written cX12_written 15 (some .int)) (xRoom 3) (xPc g [.ref (gR g 0), .int a0, .int a1] u0) (xQ g (pI g Q T)) (xA g) := by
  refine xbody (il := il_X12_written) hg il_X12_written_ok m_X12_written (Nat.le_of_ble_eq_true rfl) ?_
  show xE g me_X12_written (pI g Q T) 0 [(0, .ref (gR g 0)), (1, .int a0), (2, .int a1)] [] u0
  unfold w_X12_written at h
  refine e_aload_n (k := 0) (i := 0) rfl rfl 0 rfl ?_
  refine e_iconst (k := 1) (v := (0 : Int32)) rfl (by decide) ?_
  refine e_putI (k := 2) rfl fg_X12_1 rfl rfl ?_
  refine e_mlet h (fun u1 h => ?_)
  refine e_aload_n (k := 3) (i := 0) rfl rfl 0 rfl ?_
  refine e_iload_n (k := 4) (i := 1) rfl rfl 1 rfl ?_
  refine e_callVi (k := 5) (q := 0) (As := [.int a0]) (rest := []) rfl (c_X12_noThing (g := g) hg (n := n) h) m_X12_noThing i_X12_noThing l_X12_503 rfl ⟨_, rfl, rfl⟩ rfl rfl (Nat.le_of_ble_eq_true rfl) ⟨by decide, by decide, rfl, rfl⟩ (fun _ h => ⟨fun _ z => (by cases z), Or.inr ⟨rfl, h⟩⟩) (fun r1 u2 h => ?_)
  refine e_if_ne (k := 6) (tgt := 22) rfl (by decide) (fun z => ?_) (fun z => ?_)
  · have h := h.1 z
    refine e_sub (lv' := []) [] rfl ?_
    exact s_X12_written_22 hg h
  · have h := h.2 z
    refine e_aload_n (k := 7) (i := 0) rfl rfl 0 rfl ?_
    refine e_iload_n (k := 8) (i := 1) rfl rfl 1 rfl ?_
    refine e_iconst (k := 9) (v := (0 : Int32)) rfl (by decide) ?_
    refine e_callVi (k := 10) (q := 0) (As := [.int a0, .int (0 : Int32)]) (rest := []) rfl (c_X12_get (g := g) hg (n := n) h) m_X12_get i_X12_get l_X12_293 rfl ⟨_, rfl, rfl⟩ rfl rfl (Nat.le_of_ble_eq_true rfl) ⟨by decide, by decide, rfl, rfl⟩ (fun _ h => ⟨fun _ z => (by cases z), Or.inr ⟨rfl, h⟩⟩) (fun r2 u3 h => ?_)
    refine e_if_eq (k := 11) (tgt := 24) rfl (by decide) (fun z => ?_) (fun z => ?_)
    · have h := h.1 z
      refine e_aload_n (k := 14) (i := 0) rfl rfl 0 rfl ?_
      refine e_getC (k := 15) rfl f_X12_40 rfl rfl ?_
      refine e_iload_n (k := 16) (i := 1) rfl rfl 1 rfl ?_
      refine e_lald (k := 17) rfl rfl h.1 ?_
      have h := h.2
      refine e_jlet h (fun y1 h => ?_)
      refine e_lstore_n (k := 18) (i := 3) (lv' := [(0, .ref (gR g 0)), (1, .int a0), (2, .int a1), (3, .long y1)]) rfl rfl (by decide) [1, 2, 3, 0] rfl ?_
      refine e_ldcw (k := 19) rfl k_X12_349 ?_
      refine e_aload_n (k := 20) (i := 0) rfl rfl 0 rfl ?_
      refine e_getC (k := 21) rfl f_X12_47 rfl rfl ?_
      refine e_iload_n (k := 22) (i := 1) rfl rfl 1 rfl ?_
      refine e_iald (k := 23) rfl rfl h.1 ?_
      have h := h.2
      refine e_idiv (k := 24) rfl h.1 ?_
      have h := h.2
      refine e_i2l (k := 25) rfl ?_
      refine e_jlet h (fun y2 h => ?_)
      refine e_lstore (k := 26) (i := 5) (lv' := [(0, .ref (gR g 0)), (1, .int a0), (2, .int a1), (3, .long y1), (5, .long y2)]) rfl (by decide) [1, 2, 3, 4, 0] rfl ?_
      refine e_lload_n (k := 27) (i := 3) rfl rfl 3 rfl ?_
      refine e_lstore (k := 28) (i := 7) (lv' := [(0, .ref (gR g 0)), (1, .int a0), (2, .int a1), (3, .long y1), (5, .long y2), (7, .long y1)]) rfl (by decide) [1, 2, 3, 4, 5, 0] rfl ?_
      refine e_lload (k := 29) (i := 5) rfl 4 rfl ?_
      refine e_lstore (k := 30) (i := 9) (lv' := [(0, .ref (gR g 0)), (1, .int a0), (2, .int a1), (3, .long y1), (5, .long y2), (7, .long y1), (9, .long y2)]) rfl (by decide) [1, 2, 3, 4, 5, 6, 0] rfl ?_
      exact s_X12_written_51 hg n a0 a1 y1 y2 y1 y2 u3 h
    · have h := h.2 z
      refine e_sub (lv' := []) [] rfl ?_
      exact s_X12_written_22 hg h
def il_X4_addChange : List (Nat × Instr × Nat) := [(0, .aload_n 0, 1), (1, .getfield 9, 3), (4, .getfield 78, 3), (7, .ifCond .eq 4, 3), (10, .return_, 1), (11, .aload_n 0, 1), (12, .iload_n 1, 1), (13, .iload_n 2, 1), (14, .invokevirtual 177, 3), (17, .istore 5, 2), (19, .aload_n 0, 1), (20, .getfield 29, 3), (23, .iload 5, 2), (25, .iconst 3, 1), (26, .iload_n 3, 1), (27, .invokevirtual 180, 3), (30, .aload_n 0, 1), (31, .getfield 29, 3), (34, .iload 5, 2), (36, .iconst 4, 1), (37, .iload 4, 2), (39, .invokevirtual 180, 3), (42, .return_, 1)]
set_option maxRecDepth 20000 in
theorem il_X4_addChange_ok : ∀ x ∈ il_X4_addChange, decode cX4_addChange x.1 = .ok x.2 := by decide +kernel
abbrev me_X4_addChange : Me := (RX4, il_X4_addChange, 6, none, xRoom 3, [])
def w_X4_addChange (n : Nat) (a0 : Int32) (a1 : Int32) (a2 : Int32) (a3 : Int32) (u0 : Mm) (Q : Mm → Prop) : Prop :=
  ((u0.1 33 6) = 0 → w_X4_addThing n a0 a1 u0 (fun r1 u1 =>
  w_X6_put n r1 (3 : Int32) a2 u1 (fun u2 =>
  w_X6_put n r1 (4 : Int32) a3 u2 (fun u3 =>
  Q u3)))) ∧
  (¬ (u0.1 33 6) = 0 → Q u0)
set_option maxRecDepth 20000 in
theorem c_X4_addChange {g : Gb} (hg : xInj g) {n : Nat} {a0 : Int32} {a1 : Int32} {a2 : Int32} {a3 : Int32} {u0 : Mm} {Q : Mm → Prop} (h : w_X4_addChange n a0 a1 a2 a3 u0 Q) : xMet (gL g) yX4_addChange (xws yX4_addChange cX4_addChange 6 none) (xRoom 3) (xPc g [.ref (gR g 38), .int a0, .int a1, .int a2, .int a3] u0) (xQ g (pV g Q noT)) (xA g) := by
  refine xbody (il := il_X4_addChange) hg il_X4_addChange_ok m_X4_addChange (Nat.le_of_ble_eq_true rfl) ?_
  show xE g me_X4_addChange (pV g Q noT) 0 [(0, .ref (gR g 38)), (1, .int a0), (2, .int a1), (3, .int a2), (4, .int a3)] [] u0
  unfold w_X4_addChange at h
  refine e_aload_n (k := 0) (i := 0) rfl rfl 0 rfl ?_
  refine e_getC (k := 1) rfl f_X4_9 rfl rfl ?_
  refine e_getI (k := 2) rfl f_X4_78 rfl rfl ?_
  refine e_if_eq (k := 3) (tgt := 11) rfl (by decide) (fun z => ?_) (fun z => ?_)
  · have h := h.1 z
    refine e_aload_n (k := 5) (i := 0) rfl rfl 0 rfl ?_
    refine e_iload_n (k := 6) (i := 1) rfl rfl 1 rfl ?_
    refine e_iload_n (k := 7) (i := 2) rfl rfl 2 rfl ?_
    refine e_callVi (k := 8) (q := 38) (As := [.int a0, .int a1]) (rest := []) rfl (c_X4_addThing (g := g) hg (n := n) h) m_X4_addThing i_X4_addThing l_X4_177 rfl ⟨_, rfl, rfl⟩ rfl rfl (Nat.le_of_ble_eq_true rfl) ⟨by decide, by decide, rfl, rfl⟩ (fun _ h => h.elim) (fun r1 u1 h => ?_)
    refine e_istore (k := 9) (i := 5) (lv' := [(0, .ref (gR g 38)), (1, .int a0), (2, .int a1), (3, .int a2), (4, .int a3), (5, .int r1)]) rfl (by decide) [1, 2, 3, 4, 5, 0] rfl ?_
    refine e_aload_n (k := 10) (i := 0) rfl rfl 0 rfl ?_
    refine e_getC (k := 11) rfl f_X4_29 rfl rfl ?_
    refine e_iload (k := 12) (i := 5) rfl 5 rfl ?_
    refine e_iconst (k := 13) (v := (3 : Int32)) rfl (by decide) ?_
    refine e_iload_n (k := 14) (i := 3) rfl rfl 3 rfl ?_
    refine e_callVv (k := 15) (q := 36) (As := [.int r1, .int (3 : Int32), .int a2]) (rest := []) rfl (c_X6_put (g := g) hg (n := n) h) m_X6_put i_X6_put l_X4_180 rfl ⟨_, rfl, rfl⟩ rfl rfl (Nat.le_of_ble_eq_true rfl) ⟨by decide, by decide, rfl, rfl⟩ (fun _ h => h.elim) (fun u2 h => ?_)
    refine e_aload_n (k := 16) (i := 0) rfl rfl 0 rfl ?_
    refine e_getC (k := 17) rfl f_X4_29 rfl rfl ?_
    refine e_iload (k := 18) (i := 5) rfl 5 rfl ?_
    refine e_iconst (k := 19) (v := (4 : Int32)) rfl (by decide) ?_
    refine e_iload (k := 20) (i := 4) rfl 4 rfl ?_
    refine e_callVv (k := 21) (q := 36) (As := [.int r1, .int (4 : Int32), .int a3]) (rest := []) rfl (c_X6_put (g := g) hg (n := n) h) m_X6_put i_X6_put l_X4_180 rfl ⟨_, rfl, rfl⟩ rfl rfl (Nat.le_of_ble_eq_true rfl) ⟨by decide, by decide, rfl, rfl⟩ (fun _ h => h.elim) (fun u3 h => ?_)
    exact e_vret (k := 22) rfl rfl (Or.inl ⟨rfl, h⟩)
  · have h := h.2 z
    exact e_vret (k := 4) rfl rfl (Or.inl ⟨rfl, h⟩)
def il_X4_closeChange : List (Nat × Instr × Nat) := [(0, .aload_n 0, 1), (1, .getfield 9, 3), (4, .invokevirtual 130, 3), (7, .aload_n 0, 1), (8, .getfield 9, 3), (11, .iconst 0, 1), (12, .invokevirtual 126, 3), (15, .bipush 93, 2), (17, .if_icmp .eq 18, 3), (20, .aload_n 0, 1), (21, .getfield 9, 3), (24, .iconst 1, 1), (25, .aload_n 0, 1), (26, .getfield 9, 3), (29, .getfield 123, 3), (32, .invokevirtual 93, 3), (35, .aload_n 0, 1), (36, .getfield 9, 3), (39, .dup, 1), (40, .getfield 123, 3), (43, .iconst 1, 1), (44, .iadd, 1), (45, .putfield 123, 3), (48, .return_, 1)]
set_option maxRecDepth 20000 in
theorem il_X4_closeChange_ok : ∀ x ∈ il_X4_closeChange, decode cX4_closeChange x.1 = .ok x.2 := by decide +kernel
abbrev me_X4_closeChange : Me := (RX4, il_X4_closeChange, 1, none, xRoom 3, [])
def w_X4_closeChange_35 (n : Nat) (u0 : Mm) (Q : Mm → Prop) : Prop :=
  mlet (setI u0 33 2 ((u0.1 33 2) + (1 : Int32))) fun u1 =>
  Q u1
def w_X4_closeChange (n : Nat) (u0 : Mm) (Q : Mm → Prop) : Prop :=
  w_X5_skipBlanks n u0 (fun u1 =>
  w_X5_peek n (0 : Int32) u1 (fun r1 u2 =>
  (r1 = (93 : Int32) → w_X4_closeChange_35 n u2 Q) ∧
  (¬ r1 = (93 : Int32) → w_X5_fail n (1 : Int32) (u2.1 33 2) u2 (fun u3 =>
  w_X4_closeChange_35 n u3 Q))))
set_option maxRecDepth 20000 in
theorem s_X4_closeChange_35 {g : Gb} (hg : xInj g) {n : Nat} {Q : Mm → Prop} {u0 : Mm} (h : w_X4_closeChange_35 n  u0 Q) : xE g me_X4_closeChange (pV g Q noT) 35 [(0, .ref (gR g 38))] [] u0 := by
  unfold w_X4_closeChange_35 at h
  refine e_aload_n (k := 16) (i := 0) rfl rfl 0 rfl ?_
  refine e_getC (k := 17) rfl f_X4_9 rfl rfl ?_
  refine e_dup (k := 18) rfl rfl ?_
  refine e_getI (k := 19) rfl f_X4_123 rfl rfl ?_
  refine e_iconst (k := 20) (v := (1 : Int32)) rfl (by decide) ?_
  refine e_iadd (k := 21) rfl ?_
  refine e_putI (k := 22) rfl fg_X4_123 rfl rfl ?_
  refine e_mlet h (fun u1 h => ?_)
  exact e_vret (k := 23) rfl rfl (Or.inl ⟨rfl, h⟩)
set_option maxRecDepth 20000 in
theorem c_X4_closeChange {g : Gb} (hg : xInj g) {n : Nat} {u0 : Mm} {Q : Mm → Prop} (h : w_X4_closeChange n u0 Q) : xMet (gL g) yX4_closeChange (xws yX4_closeChange cX4_closeChange 1 none) (xRoom 3) (xPc g [.ref (gR g 38)] u0) (xQ g (pV g Q noT)) (xA g) := by
  refine xbody (il := il_X4_closeChange) hg il_X4_closeChange_ok m_X4_closeChange (Nat.le_of_ble_eq_true rfl) ?_
  show xE g me_X4_closeChange (pV g Q noT) 0 [(0, .ref (gR g 38))] [] u0
  unfold w_X4_closeChange at h
  refine e_aload_n (k := 0) (i := 0) rfl rfl 0 rfl ?_
  refine e_getC (k := 1) rfl f_X4_9 rfl rfl ?_
  refine e_callVv (k := 2) (q := 33) (As := []) (rest := []) rfl (c_X5_skipBlanks (g := g) hg (n := n) h) m_X5_skipBlanks i_X5_skipBlanks l_X4_130 rfl ⟨_, rfl, rfl⟩ rfl rfl (Nat.le_of_ble_eq_true rfl) ⟨by decide, by decide, rfl, rfl⟩ (fun _ h => h.elim) (fun u1 h => ?_)
  refine e_aload_n (k := 3) (i := 0) rfl rfl 0 rfl ?_
  refine e_getC (k := 4) rfl f_X4_9 rfl rfl ?_
  refine e_iconst (k := 5) (v := (0 : Int32)) rfl (by decide) ?_
  refine e_callVi (k := 6) (q := 33) (As := [.int (0 : Int32)]) (rest := []) rfl (c_X5_peek (g := g) hg (n := n) h) m_X5_peek i_X5_peek l_X4_126 rfl ⟨_, rfl, rfl⟩ rfl rfl (Nat.le_of_ble_eq_true rfl) ⟨by decide, by decide, rfl, rfl⟩ (fun _ h => h.elim) (fun r1 u2 h => ?_)
  refine e_bipush (k := 7) (v := (93 : Int32)) rfl (by decide) ?_
  refine e_icmp_eq (k := 8) (tgt := 35) rfl (by decide) (fun z => ?_) (fun z => ?_)
  · have h := h.1 z
    exact s_X4_closeChange_35 hg h
  · have h := h.2 z
    refine e_aload_n (k := 9) (i := 0) rfl rfl 0 rfl ?_
    refine e_getC (k := 10) rfl f_X4_9 rfl rfl ?_
    refine e_iconst (k := 11) (v := (1 : Int32)) rfl (by decide) ?_
    refine e_aload_n (k := 12) (i := 0) rfl rfl 0 rfl ?_
    refine e_getC (k := 13) rfl f_X4_9 rfl rfl ?_
    refine e_getI (k := 14) rfl f_X4_123 rfl rfl ?_
    refine e_callVv (k := 15) (q := 33) (As := [.int (1 : Int32), .int (u2.1 33 2)]) (rest := []) rfl (c_X5_fail (g := g) hg (n := n) h) m_X5_fail i_X5_fail l_X4_93 rfl ⟨_, rfl, rfl⟩ rfl rfl (Nat.le_of_ble_eq_true rfl) ⟨by decide, by decide, rfl, rfl⟩ (fun _ h => h.elim) (fun u3 h => ?_)
    exact s_X4_closeChange_35 hg h
def il_X4_finishTimed : List (Nat × Instr × Nat) := [(0, .aload_n 0, 1), (1, .getfield 9, 3), (4, .getfield 78, 3), (7, .ifCond .eq 4, 3), (10, .return_, 1), (11, .aload_n 0, 1), (12, .getfield 29, 3), (15, .iload_n 1, 1), (16, .iconst 0, 1), (17, .invokevirtual 301, 3), (20, .ifCond .ne 7, 3), (23, .iconst 1, 1), (24, .goto 4, 3), (27, .iconst 0, 1), (28, .istore 5, 2), (30, .iload 5, 2), (32, .ifCond .eq 20, 3), (35, .aload_n 0, 1), (36, .getfield 9, 3), (39, .iconst 0, 1), (40, .invokevirtual 126, 3), (43, .bipush 45, 2), (45, .if_icmp .ne 7, 3), (48, .iconst 1, 1), (49, .goto 4, 3), (52, .iconst 0, 1), (53, .istore 6, 2), (55, .iload 6, 2), (57, .ifCond .eq 16, 3), (60, .aload_n 0, 1), (61, .getfield 9, 3), (64, .dup, 1), (65, .getfield 123, 3), (68, .iconst 1, 1), (69, .iadd, 1), (70, .putfield 123, 3), (73, .iconst 0, 1), (74, .istore 7, 2), (76, .iload 7, 2), (78, .iload_n 2, 1), (79, .if_icmp .ge 156, 3), (82, .iload 7, 2), (84, .bipush 12, 2), (86, .if_icmp .ge 149, 3), (89, .iload_n 1, 1), (90, .iload 7, 2), (92, .iadd, 1), (93, .istore 8, 2), (95, .aload_n 0, 1), (96, .getfield 33, 3), (99, .aload_n 0, 1), (100, .getfield 37, 3), (103, .iload 7, 2), (105, .iaload, 1), (106, .i2l, 1), (107, .iload_n 3, 1), (108, .i2l, 1), (109, .lmul, 1), (110, .aload_n 0, 1), (111, .getfield 41, 3), (114, .iload 7, 2), (116, .iaload, 1), (117, .i2l, 1), (118, .iload 4, 2), (120, .i2l, 1), (121, .lmul, 1), (122, .aload_n 0, 1), (123, .getfield 48, 3), (126, .getfield 163, 3), (129, .i2l, 1), (130, .lmul, 1), (131, .invokevirtual 313, 3), (134, .lstore 9, 2), (136, .lload 9, 2), (138, .lconst 1, 1), (139, .lcmp, 1), (140, .ifCond .ge 23, 3), (143, .aload_n 0, 1), (144, .getfield 9, 3), (147, .iconst 4, 1), (148, .aload_n 0, 1), (149, .getfield 29, 3), (152, .iload 8, 2), (154, .bipush 16, 2), (156, .invokevirtual 301, 3), (159, .invokevirtual 93, 3), (162, .return_, 1), (163, .aload_n 0, 1), (164, .getfield 29, 3), (167, .iload 8, 2), (169, .lload 9, 2), (171, .invokevirtual 317, 3), (174, .aload_n 0, 1), (175, .getfield 29, 3), (178, .iload 8, 2), (180, .bipush 8, 2), (182, .iload 6, 2), (184, .ifCond .eq 7, 3), (187, .iconst 1, 1), (188, .goto 4, 3), (191, .iconst 0, 1), (192, .invokevirtual 180, 3), (195, .aload_n 0, 1), (196, .getfield 29, 3), (199, .iload 8, 2), (201, .bipush 9, 2), (203, .iload 5, 2), (205, .ifCond .eq 7, 3), (208, .iload_n 2, 1), (209, .goto 4, 3), (212, .iconst 0, 1), (213, .invokevirtual 180, 3), (216, .aload_n 0, 1), (217, .getfield 29, 3), (220, .iload 8, 2), (222, .bipush 10, 2), (224, .iload 7, 2), (226, .invokevirtual 180, 3), (229, .iinc 7 1, 3), (232, .goto (-156), 3), (235, .aload_n 0, 1), (236, .getfield 33, 3), (239, .aload_n 0, 1), (240, .getfield 29, 3), (243, .iload_n 1, 1), (244, .invokevirtual 320, 3), (247, .aload_n 0, 1), (248, .getfield 48, 3), (251, .aload_n 0, 1), (252, .getfield 29, 3), (255, .iload_n 1, 1), (256, .invokevirtual 324, 3), (259, .invokevirtual 328, 3), (262, .aload_n 0, 1), (263, .getfield 48, 3), (266, .iload 6, 2), (268, .iload_n 1, 1), (269, .iload_n 2, 1), (270, .invokevirtual 332, 3), (273, .aload_n 0, 1), (274, .iload_n 1, 1), (275, .putfield 72, 3), (278, .aload_n 0, 1), (279, .iload_n 2, 1), (280, .putfield 75, 3), (283, .aload_n 0, 1), (284, .iconst 1, 1), (285, .putfield 200, 3), (288, .return_, 1)]
set_option maxRecDepth 20000 in
theorem il_X4_finishTimed_ok : ∀ x ∈ il_X4_finishTimed, decode cX4_finishTimed x.1 = .ok x.2 := by decide +kernel
abbrev me_X4_finishTimed : Me := (RX4, il_X4_finishTimed, 11, none, xRoom 3, [])
def w_X4_finishTimed_235 (n : Nat) (x1 : Int32) (x2 : Int32) (x6 : Int32) (u0 : Mm) (Q : Mm → Prop) : Prop :=
  w_X2_giveTo n x1 u0 (fun u1 =>
  w_X6_ticksOf n x1 u1 (fun r1 u2 =>
  w_X8_spend n (u1.2.2 2) r1 u2 (fun u3 =>
  w_X8_keepLast n (u3.2.2 2) x6 x1 x2 u3 (fun u4 =>
  mlet (setI u4 38 12 x1) fun u5 =>
  mlet (setI u5 38 13 x2) fun u6 =>
  mlet (setI u6 38 14 (1 : Int32)) fun u7 =>
  Q u7))))
def w_X4_finishTimed_213 (n : Nat) (L76 : Int32 → Int32 → Int32 → Int32 → Int32 → Int32 → Int32 → Mm → Prop) (x1 : Int32) (x2 : Int32) (x3 : Int32) (x4 : Int32) (x5 : Int32) (x6 : Int32) (x7 : Int32) (x8 : Int32) (t0 : Int32) (t1 : Int32) (t2 : Int32) (u0 : Mm) (Q : Mm → Prop) : Prop :=
  w_X6_put n t2 t1 t0 u0 (fun u1 =>
  w_X6_put n x8 (10 : Int32) x7 u1 (fun u2 =>
  L76 x1 x2 x3 x4 x5 x6 (x7 + (1 : Int32)) u2))
def w_X4_finishTimed_192 (n : Nat) (L76 : Int32 → Int32 → Int32 → Int32 → Int32 → Int32 → Int32 → Mm → Prop) (x1 : Int32) (x2 : Int32) (x3 : Int32) (x4 : Int32) (x5 : Int32) (x6 : Int32) (x7 : Int32) (x8 : Int32) (t0 : Int32) (t1 : Int32) (t2 : Int32) (u0 : Mm) (Q : Mm → Prop) : Prop :=
  w_X6_put n t2 t1 t0 u0 (fun u1 =>
  (x5 = 0 → w_X4_finishTimed_213 n L76 x1 x2 x3 x4 x5 x6 x7 x8 (0 : Int32) (9 : Int32) x8 u1 Q) ∧
  (¬ x5 = 0 → w_X4_finishTimed_213 n L76 x1 x2 x3 x4 x5 x6 x7 x8 x2 (9 : Int32) x8 u1 Q))
def w_X4_finishTimed_76 (n : Nat) (Q : Mm → Prop) : Nat → Int32 → Int32 → Int32 → Int32 → Int32 → Int32 → Int32 → Mm → Prop
  | 0, _, _, _, _, _, _, _, _ => False
  | k + 1, x1, x2, x3, x4, x5, x6, x7, u0 =>
  (x2 ≤ x7 → w_X4_finishTimed_235 n x1 x2 x6 u0 Q) ∧
  (¬ x2 ≤ x7 → ((12 : Int32) ≤ x7 → w_X4_finishTimed_235 n x1 x2 x6 u0 Q) ∧
  (¬ (12 : Int32) ≤ x7 → ilet (x1 + x7) fun y1 =>
  vp_in x7 12 ∧ (vp_in x7 12 ∧ (w_X2_ticksFor n ((u0.1 64 (ix x7)).toInt64 * x3.toInt64) (((u0.1 65 (ix x7)).toInt64 * x4.toInt64) * (u0.1 (u0.2.2 2) 10).toInt64) u0 (fun r1 u1 =>
  (0 ≤ (lg_cmp r1 (1 : Int64)) → w_X6_setTicks n y1 r1 u1 (fun u2 =>
  (x6 = 0 → w_X4_finishTimed_192 n (w_X4_finishTimed_76 n Q k) x1 x2 x3 x4 x5 x6 x7 y1 (0 : Int32) (8 : Int32) y1 u2 Q) ∧
  (¬ x6 = 0 → w_X4_finishTimed_192 n (w_X4_finishTimed_76 n Q k) x1 x2 x3 x4 x5 x6 x7 y1 (1 : Int32) (8 : Int32) y1 u2 Q))) ∧
  (¬ 0 ≤ (lg_cmp r1 (1 : Int64)) → w_X6_cell n y1 (16 : Int32) u1 (fun r2 u3 =>
  w_X5_fail n (4 : Int32) r2 u3 (fun u4 =>
  Q u4))))))))
def w_X4_finishTimed_73 (n : Nat) (x1 : Int32) (x2 : Int32) (x3 : Int32) (x4 : Int32) (x5 : Int32) (x6 : Int32) (u0 : Mm) (Q : Mm → Prop) : Prop :=
  (w_X4_finishTimed_76 n Q n) x1 x2 x3 x4 x5 x6 (0 : Int32) u0
def w_X4_finishTimed_53 (n : Nat) (x1 : Int32) (x2 : Int32) (x3 : Int32) (x4 : Int32) (x5 : Int32) (t0 : Int32) (u0 : Mm) (Q : Mm → Prop) : Prop :=
  (t0 = 0 → w_X4_finishTimed_73 n x1 x2 x3 x4 x5 t0 u0 Q) ∧
  (¬ t0 = 0 → mlet (setI u0 33 2 ((u0.1 33 2) + (1 : Int32))) fun u1 =>
  w_X4_finishTimed_73 n x1 x2 x3 x4 x5 t0 u1 Q)
def w_X4_finishTimed_52 (n : Nat) (x1 : Int32) (x2 : Int32) (x3 : Int32) (x4 : Int32) (x5 : Int32) (u0 : Mm) (Q : Mm → Prop) : Prop :=
  w_X4_finishTimed_53 n x1 x2 x3 x4 x5 (0 : Int32) u0 Q
def w_X4_finishTimed_28 (n : Nat) (x1 : Int32) (x2 : Int32) (x3 : Int32) (x4 : Int32) (t0 : Int32) (u0 : Mm) (Q : Mm → Prop) : Prop :=
  (t0 = 0 → w_X4_finishTimed_52 n x1 x2 x3 x4 t0 u0 Q) ∧
  (¬ t0 = 0 → w_X5_peek n (0 : Int32) u0 (fun r1 u1 =>
  (¬ r1 = (45 : Int32) → w_X4_finishTimed_52 n x1 x2 x3 x4 t0 u1 Q) ∧
  (r1 = (45 : Int32) → w_X4_finishTimed_53 n x1 x2 x3 x4 t0 (1 : Int32) u1 Q)))
def w_X4_finishTimed (n : Nat) (a0 : Int32) (a1 : Int32) (a2 : Int32) (a3 : Int32) (u0 : Mm) (Q : Mm → Prop) : Prop :=
  ((u0.1 33 6) = 0 → w_X6_cell n a0 (0 : Int32) u0 (fun r1 u1 =>
  (¬ r1 = 0 → w_X4_finishTimed_28 n a0 a1 a2 a3 (0 : Int32) u1 Q) ∧
  (r1 = 0 → w_X4_finishTimed_28 n a0 a1 a2 a3 (1 : Int32) u1 Q))) ∧
  (¬ (u0.1 33 6) = 0 → Q u0)
set_option maxRecDepth 20000 in
theorem s_X4_finishTimed_235 {g : Gb} (hg : xInj g) {n : Nat} {Q : Mm → Prop} {x1 : Int32} {x2 : Int32} {x6 : Int32} {u0 : Mm} (h : w_X4_finishTimed_235 n x1 x2 x6 u0 Q) : xE g me_X4_finishTimed (pV g Q noT) 235 [(0, .ref (gR g 38)), (1, .int x1), (2, .int x2), (6, .int x6)] [] u0 := by
  unfold w_X4_finishTimed_235 at h
  refine e_aload_n (k := 120) (i := 0) rfl rfl 0 rfl ?_
  refine e_getC (k := 121) rfl f_X4_33 rfl rfl ?_
  refine e_aload_n (k := 122) (i := 0) rfl rfl 0 rfl ?_
  refine e_getC (k := 123) rfl f_X4_29 rfl rfl ?_
  refine e_iload_n (k := 124) (i := 1) rfl rfl 1 rfl ?_
  refine e_callVv (k := 125) (q := 39) (As := [.ref (gR g 36), .int x1]) (rest := []) rfl (c_X2_giveTo (g := g) hg (n := n) h) m_X2_giveTo i_X2_giveTo l_X4_320 rfl ⟨_, rfl, rfl⟩ rfl rfl (Nat.le_of_ble_eq_true rfl) ⟨by decide, by decide, rfl, rfl⟩ (fun _ h => h.elim) (fun u1 h => ?_)
  refine e_aload_n (k := 126) (i := 0) rfl rfl 0 rfl ?_
  refine e_getP (k := 127) rfl f_X4_48 rfl rfl (fun ty1 => ?_)
  refine e_aload_n (k := 128) (i := 0) rfl rfl 0 rfl ?_
  refine e_getC (k := 129) rfl f_X4_29 rfl rfl ?_
  refine e_iload_n (k := 130) (i := 1) rfl rfl 1 rfl ?_
  refine e_callVl (k := 131) (q := 36) (As := [.int x1]) (rest := [.ref (gR g (u1.2.2 2))]) rfl (c_X6_ticksOf (g := g) hg (n := n) h) m_X6_ticksOf i_X6_ticksOf l_X4_324 rfl ⟨_, rfl, rfl⟩ rfl rfl (Nat.le_of_ble_eq_true rfl) ⟨by decide, by decide, rfl, rfl⟩ (fun _ h => h.elim) (fun r1 u2 h => ?_)
  refine e_callVv (k := 132) (q := (u1.2.2 2)) (As := [.long r1]) (rest := []) rfl (c_X8_spend (g := g) hg (n := n) ty1.2.2 h) m_X8_spend i_X8_spend l_X4_328 ty1.2.2 ⟨_, rfl, rfl⟩ rfl rfl (Nat.le_of_ble_eq_true rfl) ⟨by decide, by decide, rfl, rfl⟩ (fun _ h => h.elim) (fun u3 h => ?_)
  refine e_aload_n (k := 133) (i := 0) rfl rfl 0 rfl ?_
  refine e_getP (k := 134) rfl f_X4_48 rfl rfl (fun ty2 => ?_)
  refine e_iload (k := 135) (i := 6) rfl 3 rfl ?_
  refine e_iload_n (k := 136) (i := 1) rfl rfl 1 rfl ?_
  refine e_iload_n (k := 137) (i := 2) rfl rfl 2 rfl ?_
  refine e_callVv (k := 138) (q := (u3.2.2 2)) (As := [.int x6, .int x1, .int x2]) (rest := []) rfl (c_X8_keepLast (g := g) hg (n := n) ty2.2.2 h) m_X8_keepLast i_X8_keepLast l_X4_332 ty2.2.2 ⟨_, rfl, rfl⟩ rfl rfl (Nat.le_of_ble_eq_true rfl) ⟨by decide, by decide, rfl, rfl⟩ (fun _ h => h.elim) (fun u4 h => ?_)
  refine e_aload_n (k := 139) (i := 0) rfl rfl 0 rfl ?_
  refine e_iload_n (k := 140) (i := 1) rfl rfl 1 rfl ?_
  refine e_putI (k := 141) rfl fg_X4_72 rfl rfl ?_
  refine e_mlet h (fun u5 h => ?_)
  refine e_aload_n (k := 142) (i := 0) rfl rfl 0 rfl ?_
  refine e_iload_n (k := 143) (i := 2) rfl rfl 2 rfl ?_
  refine e_putI (k := 144) rfl fg_X4_75 rfl rfl ?_
  refine e_mlet h (fun u6 h => ?_)
  refine e_aload_n (k := 145) (i := 0) rfl rfl 0 rfl ?_
  refine e_iconst (k := 146) (v := (1 : Int32)) rfl (by decide) ?_
  refine e_putZ (k := 147) rfl fg_X4_200 rfl rfl (Or.inr rfl) ?_
  refine e_mlet h (fun u7 h => ?_)
  exact e_vret (k := 148) rfl rfl (Or.inl ⟨rfl, h⟩)
set_option maxRecDepth 20000 in
theorem s_X4_finishTimed_213 {g : Gb} (hg : xInj g) {n : Nat} {Q : Mm → Prop} {L76 : Int32 → Int32 → Int32 → Int32 → Int32 → Int32 → Int32 → Mm → Prop} (hL76 : ∀ (x1 : Int32) (x2 : Int32) (x3 : Int32) (x4 : Int32) (x5 : Int32) (x6 : Int32) (x7 : Int32) (u0 : Mm), L76 x1 x2 x3 x4 x5 x6 x7 u0 → xE g me_X4_finishTimed (pV g Q noT) 76 [(0, .ref (gR g 38)), (1, .int x1), (2, .int x2), (3, .int x3), (4, .int x4), (5, .int x5), (6, .int x6), (7, .int x7)] [] u0) {x1 : Int32} {x2 : Int32} {x3 : Int32} {x4 : Int32} {x5 : Int32} {x6 : Int32} {x7 : Int32} {x8 : Int32} {t0 : Int32} {t1 : Int32} {t2 : Int32} {u0 : Mm} (h : w_X4_finishTimed_213 n L76 x1 x2 x3 x4 x5 x6 x7 x8 t0 t1 t2 u0 Q) : xE g me_X4_finishTimed (pV g Q noT) 213 [(0, .ref (gR g 38)), (1, .int x1), (2, .int x2), (3, .int x3), (4, .int x4), (5, .int x5), (6, .int x6), (7, .int x7), (8, .int x8)] [.int t0, .int t1, .int t2, .ref (gR g 36)] u0 := by
  unfold w_X4_finishTimed_213 at h
  refine e_callVv (k := 111) (q := 36) (As := [.int t2, .int t1, .int t0]) (rest := []) rfl (c_X6_put (g := g) hg (n := n) h) m_X6_put i_X6_put l_X4_180 rfl ⟨_, rfl, rfl⟩ rfl rfl (Nat.le_of_ble_eq_true rfl) ⟨by decide, by decide, rfl, rfl⟩ (fun _ h => h.elim) (fun u1 h => ?_)
  refine e_aload_n (k := 112) (i := 0) rfl rfl 0 rfl ?_
  refine e_getC (k := 113) rfl f_X4_29 rfl rfl ?_
  refine e_iload (k := 114) (i := 8) rfl 8 rfl ?_
  refine e_bipush (k := 115) (v := (10 : Int32)) rfl (by decide) ?_
  refine e_iload (k := 116) (i := 7) rfl 7 rfl ?_
  refine e_callVv (k := 117) (q := 36) (As := [.int x8, .int (10 : Int32), .int x7]) (rest := []) rfl (c_X6_put (g := g) hg (n := n) h) m_X6_put i_X6_put l_X4_180 rfl ⟨_, rfl, rfl⟩ rfl rfl (Nat.le_of_ble_eq_true rfl) ⟨by decide, by decide, rfl, rfl⟩ (fun _ h => h.elim) (fun u2 h => ?_)
  refine e_iinc (k := 118) (i := 7) (j := 7) (v := (x7 + (1 : Int32))) (lv' := [(0, .ref (gR g 38)), (1, .int x1), (2, .int x2), (3, .int x3), (4, .int x4), (5, .int x5), (6, .int x6), (7, .int (x7 + (1 : Int32))), (8, .int x8)]) rfl rfl rfl (by decide) [1, 2, 3, 4, 5, 6, 7, 0, 8] rfl ?_
  refine e_goto (k := 119) (tgt := 76) rfl (by decide) ?_
  refine e_sub (lv' := [(0, .ref (gR g 38)), (1, .int x1), (2, .int x2), (3, .int x3), (4, .int x4), (5, .int x5), (6, .int x6), (7, .int (x7 + (1 : Int32)))]) [0, 1, 2, 3, 4, 5, 6, 7] rfl ?_
  exact hL76 x1 x2 x3 x4 x5 x6 (x7 + (1 : Int32)) u2 h
set_option maxRecDepth 20000 in
theorem s_X4_finishTimed_192 {g : Gb} (hg : xInj g) {n : Nat} {Q : Mm → Prop} {L76 : Int32 → Int32 → Int32 → Int32 → Int32 → Int32 → Int32 → Mm → Prop} (hL76 : ∀ (x1 : Int32) (x2 : Int32) (x3 : Int32) (x4 : Int32) (x5 : Int32) (x6 : Int32) (x7 : Int32) (u0 : Mm), L76 x1 x2 x3 x4 x5 x6 x7 u0 → xE g me_X4_finishTimed (pV g Q noT) 76 [(0, .ref (gR g 38)), (1, .int x1), (2, .int x2), (3, .int x3), (4, .int x4), (5, .int x5), (6, .int x6), (7, .int x7)] [] u0) {x1 : Int32} {x2 : Int32} {x3 : Int32} {x4 : Int32} {x5 : Int32} {x6 : Int32} {x7 : Int32} {x8 : Int32} {t0 : Int32} {t1 : Int32} {t2 : Int32} {u0 : Mm} (h : w_X4_finishTimed_192 n L76 x1 x2 x3 x4 x5 x6 x7 x8 t0 t1 t2 u0 Q) : xE g me_X4_finishTimed (pV g Q noT) 192 [(0, .ref (gR g 38)), (1, .int x1), (2, .int x2), (3, .int x3), (4, .int x4), (5, .int x5), (6, .int x6), (7, .int x7), (8, .int x8)] [.int t0, .int t1, .int t2, .ref (gR g 36)] u0 := by
  unfold w_X4_finishTimed_192 at h
  refine e_callVv (k := 101) (q := 36) (As := [.int t2, .int t1, .int t0]) (rest := []) rfl (c_X6_put (g := g) hg (n := n) h) m_X6_put i_X6_put l_X4_180 rfl ⟨_, rfl, rfl⟩ rfl rfl (Nat.le_of_ble_eq_true rfl) ⟨by decide, by decide, rfl, rfl⟩ (fun _ h => h.elim) (fun u1 h => ?_)
  refine e_aload_n (k := 102) (i := 0) rfl rfl 0 rfl ?_
  refine e_getC (k := 103) rfl f_X4_29 rfl rfl ?_
  refine e_iload (k := 104) (i := 8) rfl 8 rfl ?_
  refine e_bipush (k := 105) (v := (9 : Int32)) rfl (by decide) ?_
  refine e_iload (k := 106) (i := 5) rfl 5 rfl ?_
  refine e_if_eq (k := 107) (tgt := 212) rfl (by decide) (fun z => ?_) (fun z => ?_)
  · have h := h.1 z
    refine e_iconst (k := 110) (v := (0 : Int32)) rfl (by decide) ?_
    exact s_X4_finishTimed_213 hg hL76 h
  · have h := h.2 z
    refine e_iload_n (k := 108) (i := 2) rfl rfl 2 rfl ?_
    refine e_goto (k := 109) (tgt := 213) rfl (by decide) ?_
    exact s_X4_finishTimed_213 hg hL76 h
set_option maxRecDepth 20000 in
theorem s_X4_finishTimed_76 {g : Gb} (hg : xInj g) {n : Nat} {Q : Mm → Prop} : ∀ (k : Nat) (x1 : Int32) (x2 : Int32) (x3 : Int32) (x4 : Int32) (x5 : Int32) (x6 : Int32) (x7 : Int32) (u0 : Mm), w_X4_finishTimed_76 n Q k x1 x2 x3 x4 x5 x6 x7 u0 → xE g me_X4_finishTimed (pV g Q noT) 76 [(0, .ref (gR g 38)), (1, .int x1), (2, .int x2), (3, .int x3), (4, .int x4), (5, .int x5), (6, .int x6), (7, .int x7)] [] u0 := by
  intro k
  induction k with
  | zero => intro x1 x2 x3 x4 x5 x6 x7 u0 h; exact h.elim
  | succ k ih =>
    intro x1 x2 x3 x4 x5 x6 x7 u0 h
    unfold w_X4_finishTimed_76 at h
    refine e_iload (k := 38) (i := 7) rfl 7 rfl ?_
    refine e_iload_n (k := 39) (i := 2) rfl rfl 2 rfl ?_
    refine e_icmp_ge (k := 40) (tgt := 235) rfl (by decide) (fun z => ?_) (fun z => ?_)
    · have h := h.1 z
      refine e_sub (lv' := [(0, .ref (gR g 38)), (1, .int x1), (2, .int x2), (6, .int x6)]) [0, 1, 2, 6] rfl ?_
      exact s_X4_finishTimed_235 hg h
    · have h := h.2 z
      refine e_iload (k := 41) (i := 7) rfl 7 rfl ?_
      refine e_bipush (k := 42) (v := (12 : Int32)) rfl (by decide) ?_
      refine e_icmp_ge (k := 43) (tgt := 235) rfl (by decide) (fun z => ?_) (fun z => ?_)
      · have h := h.1 z
        refine e_sub (lv' := [(0, .ref (gR g 38)), (1, .int x1), (2, .int x2), (6, .int x6)]) [0, 1, 2, 6] rfl ?_
        exact s_X4_finishTimed_235 hg h
      · have h := h.2 z
        refine e_iload_n (k := 44) (i := 1) rfl rfl 1 rfl ?_
        refine e_iload (k := 45) (i := 7) rfl 7 rfl ?_
        refine e_iadd (k := 46) rfl ?_
        refine e_ilet h (fun y1 h => ?_)
        refine e_istore (k := 47) (i := 8) (lv' := [(0, .ref (gR g 38)), (1, .int x1), (2, .int x2), (3, .int x3), (4, .int x4), (5, .int x5), (6, .int x6), (7, .int x7), (8, .int y1)]) rfl (by decide) [1, 2, 3, 4, 5, 6, 7, 8, 0] rfl ?_
        refine e_aload_n (k := 48) (i := 0) rfl rfl 0 rfl ?_
        refine e_getC (k := 49) rfl f_X4_33 rfl rfl ?_
        refine e_aload_n (k := 50) (i := 0) rfl rfl 0 rfl ?_
        refine e_getC (k := 51) rfl f_X4_37 rfl rfl ?_
        refine e_iload (k := 52) (i := 7) rfl 7 rfl ?_
        refine e_iald (k := 53) rfl rfl h.1 ?_
        have h := h.2
        refine e_i2l (k := 54) rfl ?_
        refine e_iload_n (k := 55) (i := 3) rfl rfl 3 rfl ?_
        refine e_i2l (k := 56) rfl ?_
        refine e_lmul (k := 57) rfl ?_
        refine e_aload_n (k := 58) (i := 0) rfl rfl 0 rfl ?_
        refine e_getC (k := 59) rfl f_X4_41 rfl rfl ?_
        refine e_iload (k := 60) (i := 7) rfl 7 rfl ?_
        refine e_iald (k := 61) rfl rfl h.1 ?_
        have h := h.2
        refine e_i2l (k := 62) rfl ?_
        refine e_iload (k := 63) (i := 4) rfl 4 rfl ?_
        refine e_i2l (k := 64) rfl ?_
        refine e_lmul (k := 65) rfl ?_
        refine e_aload_n (k := 66) (i := 0) rfl rfl 0 rfl ?_
        refine e_getP (k := 67) rfl f_X4_48 rfl rfl (fun ty1 => ?_)
        refine e_getI (k := 68) rfl f_X4_163 ty1.2.2 rfl ?_
        refine e_i2l (k := 69) rfl ?_
        refine e_lmul (k := 70) rfl ?_
        refine e_callVl (k := 71) (q := 39) (As := [.long ((u0.1 64 (ix x7)).toInt64 * x3.toInt64), .long (((u0.1 65 (ix x7)).toInt64 * x4.toInt64) * (u0.1 (u0.2.2 2) 10).toInt64)]) (rest := []) rfl (c_X2_ticksFor (g := g) hg (n := n) h) m_X2_ticksFor i_X2_ticksFor l_X4_313 rfl ⟨_, rfl, rfl⟩ rfl rfl (Nat.le_of_ble_eq_true rfl) ⟨by decide, by decide, rfl, rfl⟩ (fun _ h => h.elim) (fun r1 u1 h => ?_)
        refine e_lstore (k := 72) (i := 9) (lv' := [(0, .ref (gR g 38)), (1, .int x1), (2, .int x2), (3, .int x3), (4, .int x4), (5, .int x5), (6, .int x6), (7, .int x7), (8, .int y1), (9, .long r1)]) rfl (by decide) [1, 2, 3, 4, 5, 6, 7, 8, 9, 0] rfl ?_
        refine e_lload (k := 73) (i := 9) rfl 9 rfl ?_
        refine e_lconst (k := 74) (v := (1 : Int64)) rfl (by decide) ?_
        refine e_lcmp (k := 75) rfl ?_
        refine e_if_ge (k := 76) (tgt := 163) rfl (by decide) (fun z => ?_) (fun z => ?_)
        · have h := h.1 z
          refine e_aload_n (k := 87) (i := 0) rfl rfl 0 rfl ?_
          refine e_getC (k := 88) rfl f_X4_29 rfl rfl ?_
          refine e_iload (k := 89) (i := 8) rfl 8 rfl ?_
          refine e_lload (k := 90) (i := 9) rfl 9 rfl ?_
          refine e_callVv (k := 91) (q := 36) (As := [.int y1, .long r1]) (rest := []) rfl (c_X6_setTicks (g := g) hg (n := n) h) m_X6_setTicks i_X6_setTicks l_X4_317 rfl ⟨_, rfl, rfl⟩ rfl rfl (Nat.le_of_ble_eq_true rfl) ⟨by decide, by decide, rfl, rfl⟩ (fun _ h => h.elim) (fun u2 h => ?_)
          refine e_aload_n (k := 92) (i := 0) rfl rfl 0 rfl ?_
          refine e_getC (k := 93) rfl f_X4_29 rfl rfl ?_
          refine e_iload (k := 94) (i := 8) rfl 8 rfl ?_
          refine e_bipush (k := 95) (v := (8 : Int32)) rfl (by decide) ?_
          refine e_iload (k := 96) (i := 6) rfl 6 rfl ?_
          refine e_if_eq (k := 97) (tgt := 191) rfl (by decide) (fun z => ?_) (fun z => ?_)
          · have h := h.1 z
            refine e_iconst (k := 100) (v := (0 : Int32)) rfl (by decide) ?_
            refine e_sub (lv' := [(0, .ref (gR g 38)), (1, .int x1), (2, .int x2), (3, .int x3), (4, .int x4), (5, .int x5), (6, .int x6), (7, .int x7), (8, .int y1)]) [0, 1, 2, 3, 4, 5, 6, 7, 8] rfl ?_
            exact s_X4_finishTimed_192 hg ih h
          · have h := h.2 z
            refine e_iconst (k := 98) (v := (1 : Int32)) rfl (by decide) ?_
            refine e_goto (k := 99) (tgt := 192) rfl (by decide) ?_
            refine e_sub (lv' := [(0, .ref (gR g 38)), (1, .int x1), (2, .int x2), (3, .int x3), (4, .int x4), (5, .int x5), (6, .int x6), (7, .int x7), (8, .int y1)]) [0, 1, 2, 3, 4, 5, 6, 7, 8] rfl ?_
            exact s_X4_finishTimed_192 hg ih h
        · have h := h.2 z
          refine e_aload_n (k := 77) (i := 0) rfl rfl 0 rfl ?_
          refine e_getC (k := 78) rfl f_X4_9 rfl rfl ?_
          refine e_iconst (k := 79) (v := (4 : Int32)) rfl (by decide) ?_
          refine e_aload_n (k := 80) (i := 0) rfl rfl 0 rfl ?_
          refine e_getC (k := 81) rfl f_X4_29 rfl rfl ?_
          refine e_iload (k := 82) (i := 8) rfl 8 rfl ?_
          refine e_bipush (k := 83) (v := (16 : Int32)) rfl (by decide) ?_
          refine e_callVi (k := 84) (q := 36) (As := [.int y1, .int (16 : Int32)]) (rest := [.int (4 : Int32), .ref (gR g 33)]) rfl (c_X6_cell (g := g) hg (n := n) h) m_X6_cell i_X6_cell l_X4_301 rfl ⟨_, rfl, rfl⟩ rfl rfl (Nat.le_of_ble_eq_true rfl) ⟨by decide, by decide, rfl, rfl⟩ (fun _ h => h.elim) (fun r2 u3 h => ?_)
          refine e_callVv (k := 85) (q := 33) (As := [.int (4 : Int32), .int r2]) (rest := []) rfl (c_X5_fail (g := g) hg (n := n) h) m_X5_fail i_X5_fail l_X4_93 rfl ⟨_, rfl, rfl⟩ rfl rfl (Nat.le_of_ble_eq_true rfl) ⟨by decide, by decide, rfl, rfl⟩ (fun _ h => h.elim) (fun u4 h => ?_)
          exact e_vret (k := 86) rfl rfl (Or.inl ⟨rfl, h⟩)
set_option maxRecDepth 20000 in
theorem s_X4_finishTimed_73 {g : Gb} (hg : xInj g) {n : Nat} {Q : Mm → Prop} {x1 : Int32} {x2 : Int32} {x3 : Int32} {x4 : Int32} {x5 : Int32} {x6 : Int32} {u0 : Mm} (h : w_X4_finishTimed_73 n x1 x2 x3 x4 x5 x6 u0 Q) : xE g me_X4_finishTimed (pV g Q noT) 73 [(0, .ref (gR g 38)), (1, .int x1), (2, .int x2), (3, .int x3), (4, .int x4), (5, .int x5), (6, .int x6)] [] u0 := by
  unfold w_X4_finishTimed_73 at h
  refine e_iconst (k := 36) (v := (0 : Int32)) rfl (by decide) ?_
  refine e_istore (k := 37) (i := 7) (lv' := [(0, .ref (gR g 38)), (1, .int x1), (2, .int x2), (3, .int x3), (4, .int x4), (5, .int x5), (6, .int x6), (7, .int (0 : Int32))]) rfl (by decide) [1, 2, 3, 4, 5, 6, 7, 0] rfl ?_
  exact s_X4_finishTimed_76 hg n x1 x2 x3 x4 x5 x6 (0 : Int32) u0 h
set_option maxRecDepth 20000 in
theorem s_X4_finishTimed_53 {g : Gb} (hg : xInj g) {n : Nat} {Q : Mm → Prop} {x1 : Int32} {x2 : Int32} {x3 : Int32} {x4 : Int32} {x5 : Int32} {t0 : Int32} {u0 : Mm} (h : w_X4_finishTimed_53 n x1 x2 x3 x4 x5 t0 u0 Q) : xE g me_X4_finishTimed (pV g Q noT) 53 [(0, .ref (gR g 38)), (1, .int x1), (2, .int x2), (3, .int x3), (4, .int x4), (5, .int x5)] [.int t0] u0 := by
  unfold w_X4_finishTimed_53 at h
  refine e_istore (k := 26) (i := 6) (lv' := [(0, .ref (gR g 38)), (1, .int x1), (2, .int x2), (3, .int x3), (4, .int x4), (5, .int x5), (6, .int t0)]) rfl (by decide) [1, 2, 3, 4, 5, 6, 0] rfl ?_
  refine e_iload (k := 27) (i := 6) rfl 6 rfl ?_
  refine e_if_eq (k := 28) (tgt := 73) rfl (by decide) (fun z => ?_) (fun z => ?_)
  · have h := h.1 z
    exact s_X4_finishTimed_73 hg h
  · have h := h.2 z
    refine e_aload_n (k := 29) (i := 0) rfl rfl 0 rfl ?_
    refine e_getC (k := 30) rfl f_X4_9 rfl rfl ?_
    refine e_dup (k := 31) rfl rfl ?_
    refine e_getI (k := 32) rfl f_X4_123 rfl rfl ?_
    refine e_iconst (k := 33) (v := (1 : Int32)) rfl (by decide) ?_
    refine e_iadd (k := 34) rfl ?_
    refine e_putI (k := 35) rfl fg_X4_123 rfl rfl ?_
    refine e_mlet h (fun u1 h => ?_)
    exact s_X4_finishTimed_73 hg h
set_option maxRecDepth 20000 in
theorem s_X4_finishTimed_52 {g : Gb} (hg : xInj g) {n : Nat} {Q : Mm → Prop} {x1 : Int32} {x2 : Int32} {x3 : Int32} {x4 : Int32} {x5 : Int32} {u0 : Mm} (h : w_X4_finishTimed_52 n x1 x2 x3 x4 x5 u0 Q) : xE g me_X4_finishTimed (pV g Q noT) 52 [(0, .ref (gR g 38)), (1, .int x1), (2, .int x2), (3, .int x3), (4, .int x4), (5, .int x5)] [] u0 := by
  unfold w_X4_finishTimed_52 at h
  refine e_iconst (k := 25) (v := (0 : Int32)) rfl (by decide) ?_
  exact s_X4_finishTimed_53 hg h
set_option maxRecDepth 20000 in
theorem s_X4_finishTimed_28 {g : Gb} (hg : xInj g) {n : Nat} {Q : Mm → Prop} {x1 : Int32} {x2 : Int32} {x3 : Int32} {x4 : Int32} {t0 : Int32} {u0 : Mm} (h : w_X4_finishTimed_28 n x1 x2 x3 x4 t0 u0 Q) : xE g me_X4_finishTimed (pV g Q noT) 28 [(0, .ref (gR g 38)), (1, .int x1), (2, .int x2), (3, .int x3), (4, .int x4)] [.int t0] u0 := by
  unfold w_X4_finishTimed_28 at h
  refine e_istore (k := 14) (i := 5) (lv' := [(0, .ref (gR g 38)), (1, .int x1), (2, .int x2), (3, .int x3), (4, .int x4), (5, .int t0)]) rfl (by decide) [1, 2, 3, 4, 5, 0] rfl ?_
  refine e_iload (k := 15) (i := 5) rfl 5 rfl ?_
  refine e_if_eq (k := 16) (tgt := 52) rfl (by decide) (fun z => ?_) (fun z => ?_)
  · have h := h.1 z
    exact s_X4_finishTimed_52 hg h
  · have h := h.2 z
    refine e_aload_n (k := 17) (i := 0) rfl rfl 0 rfl ?_
    refine e_getC (k := 18) rfl f_X4_9 rfl rfl ?_
    refine e_iconst (k := 19) (v := (0 : Int32)) rfl (by decide) ?_
    refine e_callVi (k := 20) (q := 33) (As := [.int (0 : Int32)]) (rest := []) rfl (c_X5_peek (g := g) hg (n := n) h) m_X5_peek i_X5_peek l_X4_126 rfl ⟨_, rfl, rfl⟩ rfl rfl (Nat.le_of_ble_eq_true rfl) ⟨by decide, by decide, rfl, rfl⟩ (fun _ h => h.elim) (fun r1 u1 h => ?_)
    refine e_bipush (k := 21) (v := (45 : Int32)) rfl (by decide) ?_
    refine e_icmp_ne (k := 22) (tgt := 52) rfl (by decide) (fun z => ?_) (fun z => ?_)
    · have h := h.1 z
      exact s_X4_finishTimed_52 hg h
    · have h := h.2 z
      refine e_iconst (k := 23) (v := (1 : Int32)) rfl (by decide) ?_
      refine e_goto (k := 24) (tgt := 53) rfl (by decide) ?_
      exact s_X4_finishTimed_53 hg h
set_option maxRecDepth 20000 in
theorem c_X4_finishTimed {g : Gb} (hg : xInj g) {n : Nat} {a0 : Int32} {a1 : Int32} {a2 : Int32} {a3 : Int32} {u0 : Mm} {Q : Mm → Prop} (h : w_X4_finishTimed n a0 a1 a2 a3 u0 Q) : xMet (gL g) yX4_finishTimed (xws yX4_finishTimed cX4_finishTimed 11 none) (xRoom 3) (xPc g [.ref (gR g 38), .int a0, .int a1, .int a2, .int a3] u0) (xQ g (pV g Q noT)) (xA g) := by
  refine xbody (il := il_X4_finishTimed) hg il_X4_finishTimed_ok m_X4_finishTimed (Nat.le_of_ble_eq_true rfl) ?_
  show xE g me_X4_finishTimed (pV g Q noT) 0 [(0, .ref (gR g 38)), (1, .int a0), (2, .int a1), (3, .int a2), (4, .int a3)] [] u0
  unfold w_X4_finishTimed at h
  refine e_aload_n (k := 0) (i := 0) rfl rfl 0 rfl ?_
  refine e_getC (k := 1) rfl f_X4_9 rfl rfl ?_
  refine e_getI (k := 2) rfl f_X4_78 rfl rfl ?_
  refine e_if_eq (k := 3) (tgt := 11) rfl (by decide) (fun z => ?_) (fun z => ?_)
  · have h := h.1 z
    refine e_aload_n (k := 5) (i := 0) rfl rfl 0 rfl ?_
    refine e_getC (k := 6) rfl f_X4_29 rfl rfl ?_
    refine e_iload_n (k := 7) (i := 1) rfl rfl 1 rfl ?_
    refine e_iconst (k := 8) (v := (0 : Int32)) rfl (by decide) ?_
    refine e_callVi (k := 9) (q := 36) (As := [.int a0, .int (0 : Int32)]) (rest := []) rfl (c_X6_cell (g := g) hg (n := n) h) m_X6_cell i_X6_cell l_X4_301 rfl ⟨_, rfl, rfl⟩ rfl rfl (Nat.le_of_ble_eq_true rfl) ⟨by decide, by decide, rfl, rfl⟩ (fun _ h => h.elim) (fun r1 u1 h => ?_)
    refine e_if_ne (k := 10) (tgt := 27) rfl (by decide) (fun z => ?_) (fun z => ?_)
    · have h := h.1 z
      refine e_iconst (k := 13) (v := (0 : Int32)) rfl (by decide) ?_
      exact s_X4_finishTimed_28 hg h
    · have h := h.2 z
      refine e_iconst (k := 11) (v := (1 : Int32)) rfl (by decide) ?_
      refine e_goto (k := 12) (tgt := 28) rfl (by decide) ?_
      exact s_X4_finishTimed_28 hg h
  · have h := h.2 z
    exact e_vret (k := 4) rfl rfl (Or.inl ⟨rfl, h⟩)
def il_X4_readBar : List (Nat × Instr × Nat) := [(0, .aload_n 0, 1), (1, .getfield 9, 3), (4, .getfield 123, 3), (7, .istore_n 1, 1), (8, .aload_n 0, 1), (9, .getfield 9, 3), (12, .iconst 0, 1), (13, .invokevirtual 126, 3), (16, .aload_n 0, 1), (17, .getfield 9, 3), (20, .iconst 1, 1), (21, .invokevirtual 126, 3), (24, .invokestatic 249, 3), (27, .istore_n 2, 1), (28, .aload_n 0, 1), (29, .iconst 4, 1), (30, .iload_n 1, 1), (31, .invokevirtual 177, 3), (34, .istore_n 3, 1), (35, .iload_n 3, 1), (36, .ifCond .ge 4, 3), (39, .return_, 1), (40, .aload_n 0, 1), (41, .getfield 9, 3), (44, .dup, 1), (45, .getfield 123, 3), (48, .iload_n 2, 1), (49, .ifCond .eq 9, 3), (52, .iload_n 2, 1), (53, .bipush 7, 2), (55, .if_icmp .ne 7, 3), (58, .iconst 1, 1), (59, .goto 4, 3), (62, .iconst 2, 1), (63, .iadd, 1), (64, .putfield 123, 3), (67, .aload_n 0, 1), (68, .getfield 9, 3), (71, .iconst 0, 1), (72, .invokevirtual 126, 3), (75, .istore 4, 2), (77, .iconst 0, 1), (78, .istore 5, 2), (80, .iload_n 2, 1), (81, .ifCond .eq 14, 3), (84, .iload_n 2, 1), (85, .iconst 5, 1), (86, .if_icmp .eq 9, 3), (89, .iload_n 2, 1), (90, .bipush 7, 2), (92, .if_icmp .ne 37, 3), (95, .iload 4, 2), (97, .bipush 49, 2), (99, .if_icmp .lt 30, 3), (102, .iload 4, 2), (104, .bipush 52, 2), (106, .if_icmp .gt 23, 3), (109, .iload 4, 2), (111, .bipush 48, 2), (113, .isub, 1), (114, .istore 5, 2), (116, .aload_n 0, 1), (117, .getfield 9, 3), (120, .dup, 1), (121, .getfield 123, 3), (124, .iconst 1, 1), (125, .iadd, 1), (126, .putfield 123, 3), (129, .aload_n 0, 1), (130, .getfield 29, 3), (133, .iload_n 3, 1), (134, .iconst 3, 1), (135, .iload_n 2, 1), (136, .invokevirtual 180, 3), (139, .aload_n 0, 1), (140, .getfield 29, 3), (143, .iload_n 3, 1), (144, .bipush 15, 2), (146, .iload 5, 2), (148, .invokevirtual 180, 3), (151, .aload_n 0, 1), (152, .getfield 48, 3), (155, .iconst 0, 1), (156, .putfield 349, 3), (159, .aload_n 0, 1), (160, .getfield 48, 3), (163, .invokevirtual 343, 3), (166, .aload_n 0, 1), (167, .getfield 114, 3), (170, .iconst 1, 1), (171, .if_icmp .ne 20, 3), (174, .aload_n 0, 1), (175, .getfield 19, 3), (178, .aload_n 0, 1), (179, .getfield 48, 3), (182, .getfield 352, 3), (185, .iload_n 2, 1), (186, .iload 5, 2), (188, .invokevirtual 355, 3), (191, .return_, 1)]
set_option maxRecDepth 20000 in
theorem il_X4_readBar_ok : ∀ x ∈ il_X4_readBar, decode cX4_readBar x.1 = .ok x.2 := by decide +kernel
abbrev me_X4_readBar : Me := (RX4, il_X4_readBar, 6, none, xRoom 3, [])
def w_X4_readBar_191 (n : Nat) (u0 : Mm) (Q : Mm → Prop) : Prop :=
  Q u0
def w_X4_readBar_129 (n : Nat) (x2 : Int32) (x3 : Int32) (x5 : Int32) (u0 : Mm) (Q : Mm → Prop) : Prop :=
  w_X6_put n x3 (3 : Int32) x2 u0 (fun u1 =>
  w_X6_put n x3 (15 : Int32) x5 u1 (fun u2 =>
  mlet (setI u2 (u2.2.2 2) 5 (0 : Int32)) fun u3 =>
  w_X8_clearMarks n (u3.2.2 2) u3 (fun u4 =>
  (¬ (u4.1 38 9) = (1 : Int32) → w_X4_readBar_191 n u4 Q) ∧
  ((u4.1 38 9) = (1 : Int32) → w_X7_tellGap n (u4.1 (u4.2.2 2) 4) x2 x5 u4 (fun u5 =>
  w_X4_readBar_191 n u5 Q)))))
def w_X4_readBar_95 (n : Nat) (x2 : Int32) (x3 : Int32) (x4 : Int32) (x5 : Int32) (u0 : Mm) (Q : Mm → Prop) : Prop :=
  (x4 < (49 : Int32) → w_X4_readBar_129 n x2 x3 x5 u0 Q) ∧
  (¬ x4 < (49 : Int32) → ((52 : Int32) < x4 → w_X4_readBar_129 n x2 x3 x5 u0 Q) ∧
  (¬ (52 : Int32) < x4 → ilet (x4 - (48 : Int32)) fun y1 =>
  mlet (setI u0 33 2 ((u0.1 33 2) + (1 : Int32))) fun u1 =>
  w_X4_readBar_129 n x2 x3 y1 u1 Q))
def w_X4_readBar_63 (n : Nat) (x2 : Int32) (x3 : Int32) (t0 : Int32) (t1 : Int32) (u0 : Mm) (Q : Mm → Prop) : Prop :=
  mlet (setI u0 33 2 (t1 + t0)) fun u1 =>
  w_X5_peek n (0 : Int32) u1 (fun r1 u2 =>
  (x2 = 0 → w_X4_readBar_95 n x2 x3 r1 (0 : Int32) u2 Q) ∧
  (¬ x2 = 0 → (x2 = (5 : Int32) → w_X4_readBar_95 n x2 x3 r1 (0 : Int32) u2 Q) ∧
  (¬ x2 = (5 : Int32) → (¬ x2 = (7 : Int32) → w_X4_readBar_129 n x2 x3 (0 : Int32) u2 Q) ∧
  (x2 = (7 : Int32) → w_X4_readBar_95 n x2 x3 r1 (0 : Int32) u2 Q))))
def w_X4_readBar_58 (n : Nat) (x2 : Int32) (x3 : Int32) (t0 : Int32) (u0 : Mm) (Q : Mm → Prop) : Prop :=
  w_X4_readBar_63 n x2 x3 (1 : Int32) t0 u0 Q
def w_X4_readBar (n : Nat) (u0 : Mm) (Q : Mm → Prop) : Prop :=
  ilet (u0.1 33 2) fun y1 =>
  w_X5_peek n (0 : Int32) u0 (fun r1 u1 =>
  w_X5_peek n (1 : Int32) u1 (fun r2 u2 =>
  w_X4_barSort n r1 r2 u2 (fun r3 u3 =>
  w_X4_addThing n (4 : Int32) y1 u3 (fun r4 u4 =>
  (0 ≤ r4 → (r3 = 0 → w_X4_readBar_58 n r3 r4 (u4.1 33 2) u4 Q) ∧
  (¬ r3 = 0 → (¬ r3 = (7 : Int32) → w_X4_readBar_63 n r3 r4 (2 : Int32) (u4.1 33 2) u4 Q) ∧
  (r3 = (7 : Int32) → w_X4_readBar_58 n r3 r4 (u4.1 33 2) u4 Q))) ∧
  (¬ 0 ≤ r4 → Q u4)))))
set_option maxRecDepth 20000 in
theorem s_X4_readBar_191 {g : Gb} (hg : xInj g) {n : Nat} {Q : Mm → Prop} {u0 : Mm} (h : w_X4_readBar_191 n  u0 Q) : xE g me_X4_readBar (pV g Q noT) 191 [] [] u0 := by
  unfold w_X4_readBar_191 at h
  exact e_vret (k := 99) rfl rfl (Or.inl ⟨rfl, h⟩)
set_option maxRecDepth 20000 in
theorem s_X4_readBar_129 {g : Gb} (hg : xInj g) {n : Nat} {Q : Mm → Prop} {x2 : Int32} {x3 : Int32} {x5 : Int32} {u0 : Mm} (h : w_X4_readBar_129 n x2 x3 x5 u0 Q) : xE g me_X4_readBar (pV g Q noT) 129 [(0, .ref (gR g 38)), (2, .int x2), (3, .int x3), (5, .int x5)] [] u0 := by
  unfold w_X4_readBar_129 at h
  refine e_aload_n (k := 68) (i := 0) rfl rfl 0 rfl ?_
  refine e_getC (k := 69) rfl f_X4_29 rfl rfl ?_
  refine e_iload_n (k := 70) (i := 3) rfl rfl 2 rfl ?_
  refine e_iconst (k := 71) (v := (3 : Int32)) rfl (by decide) ?_
  refine e_iload_n (k := 72) (i := 2) rfl rfl 1 rfl ?_
  refine e_callVv (k := 73) (q := 36) (As := [.int x3, .int (3 : Int32), .int x2]) (rest := []) rfl (c_X6_put (g := g) hg (n := n) h) m_X6_put i_X6_put l_X4_180 rfl ⟨_, rfl, rfl⟩ rfl rfl (Nat.le_of_ble_eq_true rfl) ⟨by decide, by decide, rfl, rfl⟩ (fun _ h => h.elim) (fun u1 h => ?_)
  refine e_aload_n (k := 74) (i := 0) rfl rfl 0 rfl ?_
  refine e_getC (k := 75) rfl f_X4_29 rfl rfl ?_
  refine e_iload_n (k := 76) (i := 3) rfl rfl 2 rfl ?_
  refine e_bipush (k := 77) (v := (15 : Int32)) rfl (by decide) ?_
  refine e_iload (k := 78) (i := 5) rfl 3 rfl ?_
  refine e_callVv (k := 79) (q := 36) (As := [.int x3, .int (15 : Int32), .int x5]) (rest := []) rfl (c_X6_put (g := g) hg (n := n) h) m_X6_put i_X6_put l_X4_180 rfl ⟨_, rfl, rfl⟩ rfl rfl (Nat.le_of_ble_eq_true rfl) ⟨by decide, by decide, rfl, rfl⟩ (fun _ h => h.elim) (fun u2 h => ?_)
  refine e_aload_n (k := 80) (i := 0) rfl rfl 0 rfl ?_
  refine e_getP (k := 81) rfl f_X4_48 rfl rfl (fun ty1 => ?_)
  refine e_iconst (k := 82) (v := (0 : Int32)) rfl (by decide) ?_
  refine e_putZ (k := 83) rfl fg_X4_349 ty1.2.2 rfl (Or.inl rfl) ?_
  refine e_mlet h (fun u3 h => ?_)
  refine e_aload_n (k := 84) (i := 0) rfl rfl 0 rfl ?_
  refine e_getP (k := 85) rfl f_X4_48 rfl rfl (fun ty2 => ?_)
  refine e_callVv (k := 86) (q := (u3.2.2 2)) (As := []) (rest := []) rfl (c_X8_clearMarks (g := g) hg (n := n) ty2.2.2 h) m_X8_clearMarks i_X8_clearMarks l_X4_343 ty2.2.2 ⟨_, rfl, rfl⟩ rfl rfl (Nat.le_of_ble_eq_true rfl) ⟨by decide, by decide, rfl, rfl⟩ (fun _ h => h.elim) (fun u4 h => ?_)
  refine e_aload_n (k := 87) (i := 0) rfl rfl 0 rfl ?_
  refine e_getI (k := 88) rfl f_X4_114 rfl rfl ?_
  refine e_iconst (k := 89) (v := (1 : Int32)) rfl (by decide) ?_
  refine e_icmp_ne (k := 90) (tgt := 191) rfl (by decide) (fun z => ?_) (fun z => ?_)
  · have h := h.1 z
    refine e_sub (lv' := []) [] rfl ?_
    exact s_X4_readBar_191 hg h
  · have h := h.2 z
    refine e_aload_n (k := 91) (i := 0) rfl rfl 0 rfl ?_
    refine e_getC (k := 92) rfl f_X4_19 rfl rfl ?_
    refine e_aload_n (k := 93) (i := 0) rfl rfl 0 rfl ?_
    refine e_getP (k := 94) rfl f_X4_48 rfl rfl (fun ty3 => ?_)
    refine e_getI (k := 95) rfl f_X4_352 ty3.2.2 rfl ?_
    refine e_iload_n (k := 96) (i := 2) rfl rfl 1 rfl ?_
    refine e_iload (k := 97) (i := 5) rfl 3 rfl ?_
    refine e_callVv (k := 98) (q := 35) (As := [.int (u4.1 (u4.2.2 2) 4), .int x2, .int x5]) (rest := []) rfl (c_X7_tellGap (g := g) hg (n := n) h) m_X7_tellGap i_X7_tellGap l_X4_355 rfl ⟨_, rfl, rfl⟩ rfl rfl (Nat.le_of_ble_eq_true rfl) ⟨by decide, by decide, rfl, rfl⟩ (fun _ h => h.elim) (fun u5 h => ?_)
    refine e_sub (lv' := []) [] rfl ?_
    exact s_X4_readBar_191 hg h
set_option maxRecDepth 20000 in
theorem s_X4_readBar_95 {g : Gb} (hg : xInj g) {n : Nat} {Q : Mm → Prop} {x2 : Int32} {x3 : Int32} {x4 : Int32} {x5 : Int32} {u0 : Mm} (h : w_X4_readBar_95 n x2 x3 x4 x5 u0 Q) : xE g me_X4_readBar (pV g Q noT) 95 [(0, .ref (gR g 38)), (2, .int x2), (3, .int x3), (4, .int x4), (5, .int x5)] [] u0 := by
  unfold w_X4_readBar_95 at h
  refine e_iload (k := 51) (i := 4) rfl 3 rfl ?_
  refine e_bipush (k := 52) (v := (49 : Int32)) rfl (by decide) ?_
  refine e_icmp_lt (k := 53) (tgt := 129) rfl (by decide) (fun z => ?_) (fun z => ?_)
  · have h := h.1 z
    refine e_sub (lv' := [(0, .ref (gR g 38)), (2, .int x2), (3, .int x3), (5, .int x5)]) [0, 1, 2, 4] rfl ?_
    exact s_X4_readBar_129 hg h
  · have h := h.2 z
    refine e_iload (k := 54) (i := 4) rfl 3 rfl ?_
    refine e_bipush (k := 55) (v := (52 : Int32)) rfl (by decide) ?_
    refine e_icmp_gt (k := 56) (tgt := 129) rfl (by decide) (fun z => ?_) (fun z => ?_)
    · have h := h.1 z
      refine e_sub (lv' := [(0, .ref (gR g 38)), (2, .int x2), (3, .int x3), (5, .int x5)]) [0, 1, 2, 4] rfl ?_
      exact s_X4_readBar_129 hg h
    · have h := h.2 z
      refine e_iload (k := 57) (i := 4) rfl 3 rfl ?_
      refine e_bipush (k := 58) (v := (48 : Int32)) rfl (by decide) ?_
      refine e_isub (k := 59) rfl ?_
      refine e_ilet h (fun y1 h => ?_)
      refine e_istore (k := 60) (i := 5) (lv' := [(0, .ref (gR g 38)), (2, .int x2), (3, .int x3), (4, .int x4), (5, .int y1)]) rfl (by decide) [1, 2, 3, 4, 0] rfl ?_
      refine e_aload_n (k := 61) (i := 0) rfl rfl 0 rfl ?_
      refine e_getC (k := 62) rfl f_X4_9 rfl rfl ?_
      refine e_dup (k := 63) rfl rfl ?_
      refine e_getI (k := 64) rfl f_X4_123 rfl rfl ?_
      refine e_iconst (k := 65) (v := (1 : Int32)) rfl (by decide) ?_
      refine e_iadd (k := 66) rfl ?_
      refine e_putI (k := 67) rfl fg_X4_123 rfl rfl ?_
      refine e_mlet h (fun u1 h => ?_)
      refine e_sub (lv' := [(0, .ref (gR g 38)), (2, .int x2), (3, .int x3), (5, .int y1)]) [0, 1, 2, 4] rfl ?_
      exact s_X4_readBar_129 hg h
set_option maxRecDepth 20000 in
theorem s_X4_readBar_63 {g : Gb} (hg : xInj g) {n : Nat} {Q : Mm → Prop} {x2 : Int32} {x3 : Int32} {t0 : Int32} {t1 : Int32} {u0 : Mm} (h : w_X4_readBar_63 n x2 x3 t0 t1 u0 Q) : xE g me_X4_readBar (pV g Q noT) 63 [(0, .ref (gR g 38)), (2, .int x2), (3, .int x3)] [.int t0, .int t1, .ref (gR g 33)] u0 := by
  unfold w_X4_readBar_63 at h
  refine e_iadd (k := 34) rfl ?_
  refine e_putI (k := 35) rfl fg_X4_123 rfl rfl ?_
  refine e_mlet h (fun u1 h => ?_)
  refine e_aload_n (k := 36) (i := 0) rfl rfl 0 rfl ?_
  refine e_getC (k := 37) rfl f_X4_9 rfl rfl ?_
  refine e_iconst (k := 38) (v := (0 : Int32)) rfl (by decide) ?_
  refine e_callVi (k := 39) (q := 33) (As := [.int (0 : Int32)]) (rest := []) rfl (c_X5_peek (g := g) hg (n := n) h) m_X5_peek i_X5_peek l_X4_126 rfl ⟨_, rfl, rfl⟩ rfl rfl (Nat.le_of_ble_eq_true rfl) ⟨by decide, by decide, rfl, rfl⟩ (fun _ h => h.elim) (fun r1 u2 h => ?_)
  refine e_istore (k := 40) (i := 4) (lv' := [(0, .ref (gR g 38)), (2, .int x2), (3, .int x3), (4, .int r1)]) rfl (by decide) [1, 2, 3, 0] rfl ?_
  refine e_iconst (k := 41) (v := (0 : Int32)) rfl (by decide) ?_
  refine e_istore (k := 42) (i := 5) (lv' := [(0, .ref (gR g 38)), (2, .int x2), (3, .int x3), (4, .int r1), (5, .int (0 : Int32))]) rfl (by decide) [1, 2, 3, 4, 0] rfl ?_
  refine e_iload_n (k := 43) (i := 2) rfl rfl 1 rfl ?_
  refine e_if_eq (k := 44) (tgt := 95) rfl (by decide) (fun z => ?_) (fun z => ?_)
  · have h := h.1 z
    exact s_X4_readBar_95 hg h
  · have h := h.2 z
    refine e_iload_n (k := 45) (i := 2) rfl rfl 1 rfl ?_
    refine e_iconst (k := 46) (v := (5 : Int32)) rfl (by decide) ?_
    refine e_icmp_eq (k := 47) (tgt := 95) rfl (by decide) (fun z => ?_) (fun z => ?_)
    · have h := h.1 z
      exact s_X4_readBar_95 hg h
    · have h := h.2 z
      refine e_iload_n (k := 48) (i := 2) rfl rfl 1 rfl ?_
      refine e_bipush (k := 49) (v := (7 : Int32)) rfl (by decide) ?_
      refine e_icmp_ne (k := 50) (tgt := 129) rfl (by decide) (fun z => ?_) (fun z => ?_)
      · have h := h.1 z
        refine e_sub (lv' := [(0, .ref (gR g 38)), (2, .int x2), (3, .int x3), (5, .int (0 : Int32))]) [0, 1, 2, 4] rfl ?_
        exact s_X4_readBar_129 hg h
      · have h := h.2 z
        exact s_X4_readBar_95 hg h
set_option maxRecDepth 20000 in
theorem s_X4_readBar_58 {g : Gb} (hg : xInj g) {n : Nat} {Q : Mm → Prop} {x2 : Int32} {x3 : Int32} {t0 : Int32} {u0 : Mm} (h : w_X4_readBar_58 n x2 x3 t0 u0 Q) : xE g me_X4_readBar (pV g Q noT) 58 [(0, .ref (gR g 38)), (2, .int x2), (3, .int x3)] [.int t0, .ref (gR g 33)] u0 := by
  unfold w_X4_readBar_58 at h
  refine e_iconst (k := 31) (v := (1 : Int32)) rfl (by decide) ?_
  refine e_goto (k := 32) (tgt := 63) rfl (by decide) ?_
  exact s_X4_readBar_63 hg h
set_option maxRecDepth 20000 in
theorem c_X4_readBar {g : Gb} (hg : xInj g) {n : Nat} {u0 : Mm} {Q : Mm → Prop} (h : w_X4_readBar n u0 Q) : xMet (gL g) yX4_readBar (xws yX4_readBar cX4_readBar 6 none) (xRoom 3) (xPc g [.ref (gR g 38)] u0) (xQ g (pV g Q noT)) (xA g) := by
  refine xbody (il := il_X4_readBar) hg il_X4_readBar_ok m_X4_readBar (Nat.le_of_ble_eq_true rfl) ?_
  show xE g me_X4_readBar (pV g Q noT) 0 [(0, .ref (gR g 38))] [] u0
  unfold w_X4_readBar at h
  refine e_aload_n (k := 0) (i := 0) rfl rfl 0 rfl ?_
  refine e_getC (k := 1) rfl f_X4_9 rfl rfl ?_
  refine e_getI (k := 2) rfl f_X4_123 rfl rfl ?_
  refine e_ilet h (fun y1 h => ?_)
  refine e_istore_n (k := 3) (i := 1) (lv' := [(0, .ref (gR g 38)), (1, .int y1)]) rfl rfl (by decide) [1, 0] rfl ?_
  refine e_aload_n (k := 4) (i := 0) rfl rfl 0 rfl ?_
  refine e_getC (k := 5) rfl f_X4_9 rfl rfl ?_
  refine e_iconst (k := 6) (v := (0 : Int32)) rfl (by decide) ?_
  refine e_callVi (k := 7) (q := 33) (As := [.int (0 : Int32)]) (rest := []) rfl (c_X5_peek (g := g) hg (n := n) h) m_X5_peek i_X5_peek l_X4_126 rfl ⟨_, rfl, rfl⟩ rfl rfl (Nat.le_of_ble_eq_true rfl) ⟨by decide, by decide, rfl, rfl⟩ (fun _ h => h.elim) (fun r1 u1 h => ?_)
  refine e_aload_n (k := 8) (i := 0) rfl rfl 0 rfl ?_
  refine e_getC (k := 9) rfl f_X4_9 rfl rfl ?_
  refine e_iconst (k := 10) (v := (1 : Int32)) rfl (by decide) ?_
  refine e_callVi (k := 11) (q := 33) (As := [.int (1 : Int32)]) (rest := [.int r1]) rfl (c_X5_peek (g := g) hg (n := n) h) m_X5_peek i_X5_peek l_X4_126 rfl ⟨_, rfl, rfl⟩ rfl rfl (Nat.le_of_ble_eq_true rfl) ⟨by decide, by decide, rfl, rfl⟩ (fun _ h => h.elim) (fun r2 u2 h => ?_)
  refine e_callSi (k := 12) (As := [.int r1, .int r2]) (rest := []) rfl (c_X4_barSort (g := g) hg (n := n) h) m_X4_barSort st_X4_barSort l_X4_249 rfl rfl (Nat.le_of_ble_eq_true rfl) ⟨by decide, by decide, rfl, rfl⟩ (fun _ h => h.elim) (fun r3 u3 h => ?_)
  refine e_istore_n (k := 13) (i := 2) (lv' := [(0, .ref (gR g 38)), (1, .int y1), (2, .int r3)]) rfl rfl (by decide) [1, 2, 0] rfl ?_
  refine e_aload_n (k := 14) (i := 0) rfl rfl 0 rfl ?_
  refine e_iconst (k := 15) (v := (4 : Int32)) rfl (by decide) ?_
  refine e_iload_n (k := 16) (i := 1) rfl rfl 1 rfl ?_
  refine e_callVi (k := 17) (q := 38) (As := [.int (4 : Int32), .int y1]) (rest := []) rfl (c_X4_addThing (g := g) hg (n := n) h) m_X4_addThing i_X4_addThing l_X4_177 rfl ⟨_, rfl, rfl⟩ rfl rfl (Nat.le_of_ble_eq_true rfl) ⟨by decide, by decide, rfl, rfl⟩ (fun _ h => h.elim) (fun r4 u4 h => ?_)
  refine e_istore_n (k := 18) (i := 3) (lv' := [(0, .ref (gR g 38)), (1, .int y1), (2, .int r3), (3, .int r4)]) rfl rfl (by decide) [1, 2, 3, 0] rfl ?_
  refine e_iload_n (k := 19) (i := 3) rfl rfl 3 rfl ?_
  refine e_if_ge (k := 20) (tgt := 40) rfl (by decide) (fun z => ?_) (fun z => ?_)
  · have h := h.1 z
    refine e_aload_n (k := 22) (i := 0) rfl rfl 0 rfl ?_
    refine e_getC (k := 23) rfl f_X4_9 rfl rfl ?_
    refine e_dup (k := 24) rfl rfl ?_
    refine e_getI (k := 25) rfl f_X4_123 rfl rfl ?_
    refine e_iload_n (k := 26) (i := 2) rfl rfl 2 rfl ?_
    refine e_if_eq (k := 27) (tgt := 58) rfl (by decide) (fun z => ?_) (fun z => ?_)
    · have h := h.1 z
      refine e_sub (lv' := [(0, .ref (gR g 38)), (2, .int r3), (3, .int r4)]) [0, 2, 3] rfl ?_
      exact s_X4_readBar_58 hg h
    · have h := h.2 z
      refine e_iload_n (k := 28) (i := 2) rfl rfl 2 rfl ?_
      refine e_bipush (k := 29) (v := (7 : Int32)) rfl (by decide) ?_
      refine e_icmp_ne (k := 30) (tgt := 62) rfl (by decide) (fun z => ?_) (fun z => ?_)
      · have h := h.1 z
        refine e_iconst (k := 33) (v := (2 : Int32)) rfl (by decide) ?_
        refine e_sub (lv' := [(0, .ref (gR g 38)), (2, .int r3), (3, .int r4)]) [0, 2, 3] rfl ?_
        exact s_X4_readBar_63 hg h
      · have h := h.2 z
        refine e_sub (lv' := [(0, .ref (gR g 38)), (2, .int r3), (3, .int r4)]) [0, 2, 3] rfl ?_
        exact s_X4_readBar_58 hg h
  · have h := h.2 z
    exact e_vret (k := 21) rfl rfl (Or.inl ⟨rfl, h⟩)
def il_X4_readDigit : List (Nat × Instr × Nat) := [(0, .aload_n 0, 1), (1, .getfield 9, 3), (4, .invokevirtual 310, 3), (7, .ifCond .ne 5, 3), (10, .iload_n 1, 1), (11, .ireturn, 1), (12, .aload_n 0, 1), (13, .getfield 9, 3), (16, .iconst 0, 1), (17, .invokevirtual 126, 3), (20, .bipush 48, 2), (22, .isub, 1), (23, .istore_n 2, 1), (24, .iload_n 2, 1), (25, .ifCond .ne 18, 3), (28, .aload_n 0, 1), (29, .getfield 9, 3), (32, .iconst 1, 1), (33, .aload_n 0, 1), (34, .getfield 9, 3), (37, .getfield 123, 3), (40, .invokevirtual 93, 3), (43, .aload_n 0, 1), (44, .getfield 9, 3), (47, .dup, 1), (48, .getfield 123, 3), (51, .iconst 1, 1), (52, .iadd, 1), (53, .putfield 123, 3), (56, .iload_n 2, 1), (57, .ireturn, 1)]
set_option maxRecDepth 20000 in
theorem il_X4_readDigit_ok : ∀ x ∈ il_X4_readDigit, decode cX4_readDigit x.1 = .ok x.2 := by decide +kernel
abbrev me_X4_readDigit : Me := (RX4, il_X4_readDigit, 3, (some .int), xRoom 3, [])
def w_X4_readDigit_43 (n : Nat) (x2 : Int32) (u0 : Mm) (Q : Int32 → Mm → Prop) : Prop :=
  mlet (setI u0 33 2 ((u0.1 33 2) + (1 : Int32))) fun u1 =>
  Q x2 u1
def w_X4_readDigit (n : Nat) (a0 : Int32) (u0 : Mm) (Q : Int32 → Mm → Prop) : Prop :=
  w_X5_digitHere n u0 (fun r1 u1 =>
  (¬ r1 = 0 → w_X5_peek n (0 : Int32) u1 (fun r2 u2 =>
  ilet (r2 - (48 : Int32)) fun y1 =>
  (¬ y1 = 0 → w_X4_readDigit_43 n y1 u2 Q) ∧
  (y1 = 0 → w_X5_fail n (1 : Int32) (u2.1 33 2) u2 (fun u3 =>
  w_X4_readDigit_43 n y1 u3 Q)))) ∧
  (r1 = 0 → Q a0 u1))
set_option maxRecDepth 20000 in
theorem s_X4_readDigit_43 {g : Gb} (hg : xInj g) {n : Nat} {Q : Int32 → Mm → Prop} {x2 : Int32} {u0 : Mm} (h : w_X4_readDigit_43 n x2 u0 Q) : xE g me_X4_readDigit (pI g Q noT) 43 [(0, .ref (gR g 38)), (2, .int x2)] [] u0 := by
  unfold w_X4_readDigit_43 at h
  refine e_aload_n (k := 22) (i := 0) rfl rfl 0 rfl ?_
  refine e_getC (k := 23) rfl f_X4_9 rfl rfl ?_
  refine e_dup (k := 24) rfl rfl ?_
  refine e_getI (k := 25) rfl f_X4_123 rfl rfl ?_
  refine e_iconst (k := 26) (v := (1 : Int32)) rfl (by decide) ?_
  refine e_iadd (k := 27) rfl ?_
  refine e_putI (k := 28) rfl fg_X4_123 rfl rfl ?_
  refine e_mlet h (fun u1 h => ?_)
  refine e_iload_n (k := 29) (i := 2) rfl rfl 1 rfl ?_
  exact e_iret (k := 30) rfl rfl (Or.inl ⟨_, rfl, h⟩)
set_option maxRecDepth 20000 in
theorem c_X4_readDigit {g : Gb} (hg : xInj g) {n : Nat} {a0 : Int32} {u0 : Mm} {Q : Int32 → Mm → Prop} (h : w_X4_readDigit n a0 u0 Q) : xMet (gL g) yX4_readDigit (xws yX4_readDigit cX4_readDigit 3 (some .int)) (xRoom 3) (xPc g [.ref (gR g 38), .int a0] u0) (xQ g (pI g Q noT)) (xA g) := by
  refine xbody (il := il_X4_readDigit) hg il_X4_readDigit_ok m_X4_readDigit (Nat.le_of_ble_eq_true rfl) ?_
  show xE g me_X4_readDigit (pI g Q noT) 0 [(0, .ref (gR g 38)), (1, .int a0)] [] u0
  unfold w_X4_readDigit at h
  refine e_aload_n (k := 0) (i := 0) rfl rfl 0 rfl ?_
  refine e_getC (k := 1) rfl f_X4_9 rfl rfl ?_
  refine e_callVi (k := 2) (q := 33) (As := []) (rest := []) rfl (c_X5_digitHere (g := g) hg (n := n) h) m_X5_digitHere i_X5_digitHere l_X4_310 rfl ⟨_, rfl, rfl⟩ rfl rfl (Nat.le_of_ble_eq_true rfl) ⟨by decide, by decide, rfl, rfl⟩ (fun _ h => h.elim) (fun r1 u1 h => ?_)
  refine e_if_ne (k := 3) (tgt := 12) rfl (by decide) (fun z => ?_) (fun z => ?_)
  · have h := h.1 z
    refine e_aload_n (k := 6) (i := 0) rfl rfl 0 rfl ?_
    refine e_getC (k := 7) rfl f_X4_9 rfl rfl ?_
    refine e_iconst (k := 8) (v := (0 : Int32)) rfl (by decide) ?_
    refine e_callVi (k := 9) (q := 33) (As := [.int (0 : Int32)]) (rest := []) rfl (c_X5_peek (g := g) hg (n := n) h) m_X5_peek i_X5_peek l_X4_126 rfl ⟨_, rfl, rfl⟩ rfl rfl (Nat.le_of_ble_eq_true rfl) ⟨by decide, by decide, rfl, rfl⟩ (fun _ h => h.elim) (fun r2 u2 h => ?_)
    refine e_bipush (k := 10) (v := (48 : Int32)) rfl (by decide) ?_
    refine e_isub (k := 11) rfl ?_
    refine e_ilet h (fun y1 h => ?_)
    refine e_istore_n (k := 12) (i := 2) (lv' := [(0, .ref (gR g 38)), (1, .int a0), (2, .int y1)]) rfl rfl (by decide) [1, 2, 0] rfl ?_
    refine e_iload_n (k := 13) (i := 2) rfl rfl 2 rfl ?_
    refine e_if_ne (k := 14) (tgt := 43) rfl (by decide) (fun z => ?_) (fun z => ?_)
    · have h := h.1 z
      refine e_sub (lv' := [(0, .ref (gR g 38)), (2, .int y1)]) [0, 2] rfl ?_
      exact s_X4_readDigit_43 hg h
    · have h := h.2 z
      refine e_aload_n (k := 15) (i := 0) rfl rfl 0 rfl ?_
      refine e_getC (k := 16) rfl f_X4_9 rfl rfl ?_
      refine e_iconst (k := 17) (v := (1 : Int32)) rfl (by decide) ?_
      refine e_aload_n (k := 18) (i := 0) rfl rfl 0 rfl ?_
      refine e_getC (k := 19) rfl f_X4_9 rfl rfl ?_
      refine e_getI (k := 20) rfl f_X4_123 rfl rfl ?_
      refine e_callVv (k := 21) (q := 33) (As := [.int (1 : Int32), .int (u2.1 33 2)]) (rest := []) rfl (c_X5_fail (g := g) hg (n := n) h) m_X5_fail i_X5_fail l_X4_93 rfl ⟨_, rfl, rfl⟩ rfl rfl (Nat.le_of_ble_eq_true rfl) ⟨by decide, by decide, rfl, rfl⟩ (fun _ h => h.elim) (fun u3 h => ?_)
      refine e_sub (lv' := [(0, .ref (gR g 38)), (2, .int y1)]) [0, 2] rfl ?_
      exact s_X4_readDigit_43 hg h
  · have h := h.2 z
    refine e_iload_n (k := 4) (i := 1) rfl rfl 1 rfl ?_
    exact e_iret (k := 5) rfl rfl (Or.inl ⟨_, rfl, h⟩)
