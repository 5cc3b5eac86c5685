/-! methods (by program) -/
def il_X12_noMeasure : List (Nat × Instr × Nat) := [(0, .aload_n 0, 1), (1, .getfield 494, 3), (4, .ifCond .eq 35, 3), (7, .iload_n 1, 1), (8, .i2l, 1), (9, .lconst 1, 1), (10, .ldc2_w 508, 3), (13, .invokestatic 125, 3), (16, .ifCond .eq 23, 3), (19, .iload_n 2, 1), (20, .i2l, 1), (21, .lconst 0, 1), (22, .aload_n 0, 1), (23, .getfield 78, 3), (26, .iload_n 1, 1), (27, .iconst 1, 1), (28, .isub, 1), (29, .iaload, 1), (30, .iconst 1, 1), (31, .isub, 1), (32, .i2l, 1), (33, .invokestatic 125, 3), (36, .ifCond .ne 7, 3), (39, .iconst 1, 1), (40, .goto 4, 3), (43, .iconst 0, 1), (44, .ireturn, 1)]
set_option maxRecDepth 20000 in
theorem il_X12_noMeasure_ok : ∀ x ∈ il_X12_noMeasure, decode cX12_noMeasure x.1 = .ok x.2 := by decide +kernel
abbrev me_X12_noMeasure : Me := (RX12, il_X12_noMeasure, 3, (some .boolean), xRoom 2, [])
def w_X12_noMeasure_44 (n : Nat) (t0 : Int32) (u0 : Mm) (Q : Int32 → Mm → Prop) (T : Mm → Prop) : Prop :=
  narrow .boolean (.int t0) = .int t0 ∧ Q t0 u0
def w_X12_noMeasure_39 (n : Nat) (u0 : Mm) (Q : Int32 → Mm → Prop) (T : Mm → Prop) : Prop :=
  w_X12_noMeasure_44 n (1 : Int32) u0 Q T
def w_X12_noMeasure (n : Nat) (a0 : Int32) (a1 : Int32) (u0 : Mm) (Q : Int32 → Mm → Prop) (T : Mm → Prop) : Prop :=
  ((u0.1 0 10) = 0 → w_X12_noMeasure_39 n u0 Q T) ∧
  (¬ (u0.1 0 10) = 0 → w_X12_in n (a0.toInt64) (1 : Int64) (3 : Int64) u0 (fun r1 u1 =>
  (r1 = 0 → w_X12_noMeasure_39 n u1 Q T) ∧
  (¬ r1 = 0 → vp_in (a0 - (1 : Int32)) 3 ∧ (w_X12_in n (a1.toInt64) (0 : Int64) ((u1.1 19 (ix (a0 - (1 : Int32)))) - (1 : Int32)).toInt64 u1 (fun r2 u2 =>
  (¬ r2 = 0 → w_X12_noMeasure_44 n (0 : Int32) u2 Q T) ∧
  (r2 = 0 → w_X12_noMeasure_39 n u2 Q T)) T))) T)
set_option maxRecDepth 20000 in
theorem s_X12_noMeasure_44 {g : Gb} (hg : xInj g) {n : Nat} {Q : Int32 → Mm → Prop} {T : Mm → Prop} {t0 : Int32} {u0 : Mm} (h : w_X12_noMeasure_44 n t0 u0 Q T) : xE g me_X12_noMeasure (pI g Q T) 44 [] [.int t0] u0 := by
  unfold w_X12_noMeasure_44 at h
  exact e_zret (k := 26) rfl rfl h.1 (Or.inl ⟨_, rfl, h.2⟩)
set_option maxRecDepth 20000 in
theorem s_X12_noMeasure_39 {g : Gb} (hg : xInj g) {n : Nat} {Q : Int32 → Mm → Prop} {T : Mm → Prop} {u0 : Mm} (h : w_X12_noMeasure_39 n  u0 Q T) : xE g me_X12_noMeasure (pI g Q T) 39 [] [] u0 := by
  unfold w_X12_noMeasure_39 at h
  refine e_iconst (k := 23) (v := (1 : Int32)) rfl (by decide) ?_
  refine e_goto (k := 24) (tgt := 44) rfl (by decide) ?_
  exact s_X12_noMeasure_44 hg h
set_option maxRecDepth 20000 in
theorem c_X12_noMeasure {g : Gb} (hg : xInj g) {n : Nat} {a0 : Int32} {a1 : Int32} {u0 : Mm} {Q : Int32 → Mm → Prop} {T : Mm → Prop} (h : w_X12_noMeasure n a0 a1 u0 Q T) : xMet (gL g) yX12_noMeasure (xws yX12_noMeasure cX12_noMeasure 3 (some .boolean)) (xRoom 2) (xPc g [.ref (gR g 0), .int a0, .int a1] u0) (xQ g (pI g Q T)) (xA g) := by
  refine xbody (il := il_X12_noMeasure) hg il_X12_noMeasure_ok m_X12_noMeasure (Nat.le_of_ble_eq_true rfl) ?_
  show xE g me_X12_noMeasure (pI g Q T) 0 [(0, .ref (gR g 0)), (1, .int a0), (2, .int a1)] [] u0
  unfold w_X12_noMeasure at h
  refine e_aload_n (k := 0) (i := 0) rfl rfl 0 rfl ?_
  refine e_getI (k := 1) rfl f_X12_494 rfl rfl ?_
  refine e_if_eq (k := 2) (tgt := 39) rfl (by decide) (fun z => ?_) (fun z => ?_)
  · have h := h.1 z
    refine e_sub (lv' := []) [] rfl ?_
    exact s_X12_noMeasure_39 hg h
  · have h := h.2 z
    refine e_iload_n (k := 3) (i := 1) rfl rfl 1 rfl ?_
    refine e_i2l (k := 4) rfl ?_
    refine e_lconst (k := 5) (v := (1 : Int64)) rfl (by decide) ?_
    refine e_ldc2 (k := 6) rfl k_X12_508 ?_
    refine e_callSi (k := 7) (As := [.long a0.toInt64, .long (1 : Int64), .long (3 : Int64)]) (rest := []) rfl (c_X12_in (g := g) hg (n := n) h) m_X12_in st_X12_in l_X12_125 rfl rfl (Nat.le_of_ble_eq_true rfl) ⟨by decide, by decide, rfl, rfl⟩ (fun _ h => ⟨fun _ z => (by cases z), Or.inr ⟨rfl, h⟩⟩) (fun r1 u1 h => ?_)
    refine e_if_eq (k := 8) (tgt := 39) rfl (by decide) (fun z => ?_) (fun z => ?_)
    · have h := h.1 z
      refine e_sub (lv' := []) [] rfl ?_
      exact s_X12_noMeasure_39 hg h
    · have h := h.2 z
      refine e_iload_n (k := 9) (i := 2) rfl rfl 2 rfl ?_
      refine e_i2l (k := 10) rfl ?_
      refine e_lconst (k := 11) (v := (0 : Int64)) rfl (by decide) ?_
      refine e_aload_n (k := 12) (i := 0) rfl rfl 0 rfl ?_
      refine e_getC (k := 13) rfl f_X12_78 rfl rfl ?_
      refine e_iload_n (k := 14) (i := 1) rfl rfl 1 rfl ?_
      refine e_iconst (k := 15) (v := (1 : Int32)) rfl (by decide) ?_
      refine e_isub (k := 16) rfl ?_
      refine e_iald (k := 17) rfl rfl h.1 ?_
      have h := h.2
      refine e_iconst (k := 18) (v := (1 : Int32)) rfl (by decide) ?_
      refine e_isub (k := 19) rfl ?_
      refine e_i2l (k := 20) rfl ?_
      refine e_callSi (k := 21) (As := [.long a1.toInt64, .long (0 : Int64), .long ((u1.1 19 (ix (a0 - (1 : Int32)))) - (1 : Int32)).toInt64]) (rest := []) rfl (c_X12_in (g := g) hg (n := n) h) m_X12_in st_X12_in l_X12_125 rfl rfl (Nat.le_of_ble_eq_true rfl) ⟨by decide, by decide, rfl, rfl⟩ (fun _ h => ⟨fun _ z => (by cases z), Or.inr ⟨rfl, h⟩⟩) (fun r2 u2 h => ?_)
      refine e_if_ne (k := 22) (tgt := 43) rfl (by decide) (fun z => ?_) (fun z => ?_)
      · have h := h.1 z
        refine e_iconst (k := 25) (v := (0 : Int32)) rfl (by decide) ?_
        refine e_sub (lv' := []) [] rfl ?_
        exact s_X12_noMeasure_44 hg h
      · have h := h.2 z
        refine e_sub (lv' := []) [] rfl ?_
        exact s_X12_noMeasure_39 hg h
def il_X12_noThing : List (Nat × Instr × Nat) := [(0, .aload_n 0, 1), (1, .getfield 494, 3), (4, .ifCond .eq 19, 3), (7, .iload_n 1, 1), (8, .i2l, 1), (9, .lconst 0, 1), (10, .aload_n 0, 1), (11, .getfield 283, 3), (14, .iconst 1, 1), (15, .isub, 1), (16, .i2l, 1), (17, .invokestatic 125, 3), (20, .ifCond .ne 7, 3), (23, .iconst 1, 1), (24, .goto 4, 3), (27, .iconst 0, 1), (28, .ireturn, 1)]
set_option maxRecDepth 20000 in
theorem il_X12_noThing_ok : ∀ x ∈ il_X12_noThing, decode cX12_noThing x.1 = .ok x.2 := by decide +kernel
abbrev me_X12_noThing : Me := (RX12, il_X12_noThing, 2, (some .boolean), xRoom 2, [])
def w_X12_noThing_28 (n : Nat) (t0 : Int32) (u0 : Mm) (Q : Int32 → Mm → Prop) (T : Mm → Prop) : Prop :=
  narrow .boolean (.int t0) = .int t0 ∧ Q t0 u0
def w_X12_noThing_23 (n : Nat) (u0 : Mm) (Q : Int32 → Mm → Prop) (T : Mm → Prop) : Prop :=
  w_X12_noThing_28 n (1 : Int32) u0 Q T
def w_X12_noThing (n : Nat) (a0 : Int32) (u0 : Mm) (Q : Int32 → Mm → Prop) (T : Mm → Prop) : Prop :=
  ((u0.1 0 10) = 0 → w_X12_noThing_23 n u0 Q T) ∧
  (¬ (u0.1 0 10) = 0 → w_X12_in n (a0.toInt64) (0 : Int64) ((u0.1 0 27) - (1 : Int32)).toInt64 u0 (fun r1 u1 =>
  (¬ r1 = 0 → w_X12_noThing_28 n (0 : Int32) u1 Q T) ∧
  (r1 = 0 → w_X12_noThing_23 n u1 Q T)) T)
set_option maxRecDepth 20000 in
theorem s_X12_noThing_28 {g : Gb} (hg : xInj g) {n : Nat} {Q : Int32 → Mm → Prop} {T : Mm → Prop} {t0 : Int32} {u0 : Mm} (h : w_X12_noThing_28 n t0 u0 Q T) : xE g me_X12_noThing (pI g Q T) 28 [] [.int t0] u0 := by
  unfold w_X12_noThing_28 at h
  exact e_zret (k := 16) rfl rfl h.1 (Or.inl ⟨_, rfl, h.2⟩)
set_option maxRecDepth 20000 in
theorem s_X12_noThing_23 {g : Gb} (hg : xInj g) {n : Nat} {Q : Int32 → Mm → Prop} {T : Mm → Prop} {u0 : Mm} (h : w_X12_noThing_23 n  u0 Q T) : xE g me_X12_noThing (pI g Q T) 23 [] [] u0 := by
  unfold w_X12_noThing_23 at h
  refine e_iconst (k := 13) (v := (1 : Int32)) rfl (by decide) ?_
  refine e_goto (k := 14) (tgt := 28) rfl (by decide) ?_
  exact s_X12_noThing_28 hg h
set_option maxRecDepth 20000 in
theorem c_X12_noThing {g : Gb} (hg : xInj g) {n : Nat} {a0 : Int32} {u0 : Mm} {Q : Int32 → Mm → Prop} {T : Mm → Prop} (h : w_X12_noThing n a0 u0 Q T) : xMet (gL g) yX12_noThing (xws yX12_noThing cX12_noThing 2 (some .boolean)) (xRoom 2) (xPc g [.ref (gR g 0), .int a0] u0) (xQ g (pI g Q T)) (xA g) := by
  refine xbody (il := il_X12_noThing) hg il_X12_noThing_ok m_X12_noThing (Nat.le_of_ble_eq_true rfl) ?_
  show xE g me_X12_noThing (pI g Q T) 0 [(0, .ref (gR g 0)), (1, .int a0)] [] u0
  unfold w_X12_noThing at h
  refine e_aload_n (k := 0) (i := 0) rfl rfl 0 rfl ?_
  refine e_getI (k := 1) rfl f_X12_494 rfl rfl ?_
  refine e_if_eq (k := 2) (tgt := 23) rfl (by decide) (fun z => ?_) (fun z => ?_)
  · have h := h.1 z
    refine e_sub (lv' := []) [] rfl ?_
    exact s_X12_noThing_23 hg h
  · have h := h.2 z
    refine e_iload_n (k := 3) (i := 1) rfl rfl 1 rfl ?_
    refine e_i2l (k := 4) rfl ?_
    refine e_lconst (k := 5) (v := (0 : Int64)) rfl (by decide) ?_
    refine e_aload_n (k := 6) (i := 0) rfl rfl 0 rfl ?_
    refine e_getI (k := 7) rfl f_X12_283 rfl rfl ?_
    refine e_iconst (k := 8) (v := (1 : Int32)) rfl (by decide) ?_
    refine e_isub (k := 9) rfl ?_
    refine e_i2l (k := 10) rfl ?_
    refine e_callSi (k := 11) (As := [.long a0.toInt64, .long (0 : Int64), .long ((u0.1 0 27) - (1 : Int32)).toInt64]) (rest := []) rfl (c_X12_in (g := g) hg (n := n) h) m_X12_in st_X12_in l_X12_125 rfl rfl (Nat.le_of_ble_eq_true rfl) ⟨by decide, by decide, rfl, rfl⟩ (fun _ h => ⟨fun _ z => (by cases z), Or.inr ⟨rfl, h⟩⟩) (fun r1 u1 h => ?_)
    refine e_if_ne (k := 12) (tgt := 27) rfl (by decide) (fun z => ?_) (fun z => ?_)
    · have h := h.1 z
      refine e_iconst (k := 15) (v := (0 : Int32)) rfl (by decide) ?_
      refine e_sub (lv' := []) [] rfl ?_
      exact s_X12_noThing_28 hg h
    · have h := h.2 z
      refine e_sub (lv' := []) [] rfl ?_
      exact s_X12_noThing_23 hg h
def il_X12_plainSign : List (Nat × Instr × Nat) := [(0, .aload_n 0, 1), (1, .getfield 90, 3), (4, .aload_n 0, 1), (5, .getfield 290, 3), (8, .iaload, 1), (9, .istore 4, 2), (11, .iload_n 3, 1), (12, .ifCond .eq 87, 3), (15, .iload 4, 2), (17, .ifCond .lt 82, 3), (20, .aload_n 0, 1), (21, .iload 4, 2), (23, .iconst 0, 1), (24, .invokevirtual 293, 3), (27, .ifCond .ne 72, 3), (30, .aload_n 0, 1), (31, .iload 4, 2), (33, .bipush 8, 2), (35, .invokevirtual 293, 3), (38, .iconst 1, 1), (39, .if_icmp .ne 60, 3), (42, .iload 4, 2), (44, .istore 5, 2), (46, .iload 5, 2), (48, .iload 4, 2), (50, .aload_n 0, 1), (51, .iload 4, 2), (53, .bipush 9, 2), (55, .invokevirtual 293, 3), (58, .iadd, 1), (59, .if_icmp .ge 40, 3), (62, .aload_n 0, 1), (63, .iload 5, 2), (65, .iconst 4, 1), (66, .invokevirtual 293, 3), (69, .iload_n 1, 1), (70, .if_icmp .ne 23, 3), (73, .aload_n 0, 1), (74, .iload 5, 2), (76, .iconst 5, 1), (77, .invokevirtual 293, 3), (80, .iload_n 2, 1), (81, .if_icmp .ne 12, 3), (84, .aload_n 0, 1), (85, .iload 5, 2), (87, .bipush 6, 2), (89, .invokevirtual 293, 3), (92, .ireturn, 1), (93, .iinc 5 1, 3), (96, .goto (-50), 3), (99, .aload_n 0, 1), (100, .getfield 87, 3), (103, .aload_n 0, 1), (104, .iload_n 1, 1), (105, .iload_n 2, 1), (106, .invokevirtual 297, 3), (109, .iaload, 1), (110, .istore 5, 2), (112, .iload 5, 2), (114, .bipush 100, 2), (116, .if_icmp .eq 8, 3), (119, .iload 5, 2), (121, .goto 8, 3), (124, .aload_n 0, 1), (125, .iload_n 1, 1), (126, .invokevirtual 300, 3), (129, .ireturn, 1)]
set_option maxRecDepth 20000 in
theorem il_X12_plainSign_ok : ∀ x ∈ il_X12_plainSign, decode cX12_plainSign x.1 = .ok x.2 := by decide +kernel
abbrev me_X12_plainSign : Me := (RX12, il_X12_plainSign, 6, (some .int), xRoom 2, [])
def w_X12_plainSign_129 (n : Nat) (t0 : Int32) (u0 : Mm) (Q : Int32 → Mm → Prop) (T : Mm → Prop) : Prop :=
  Q t0 u0
def w_X12_plainSign_99 (n : Nat) (x1 : Int32) (x2 : Int32) (u0 : Mm) (Q : Int32 → Mm → Prop) (T : Mm → Prop) : Prop :=
  w_X12_signPlace n x1 x2 u0 (fun r1 u1 =>
  vp_in r1 1344 ∧ (ilet (u1.1 22 (ix r1)) fun y1 =>
  (y1 = (100 : Int32) → w_X12_keySign n x1 u1 (fun r2 u2 =>
  w_X12_plainSign_129 n r2 u2 Q T) T) ∧
  (¬ y1 = (100 : Int32) → w_X12_plainSign_129 n y1 u1 Q T))) T
def w_X12_plainSign_93 (n : Nat) (L46 : Int32 → Int32 → Int32 → Int32 → Mm → Prop) (x1 : Int32) (x2 : Int32) (x4 : Int32) (x5 : Int32) (u0 : Mm) (Q : Int32 → Mm → Prop) (T : Mm → Prop) : Prop :=
  L46 x1 x2 x4 (x5 + (1 : Int32)) u0
def w_X12_plainSign_46 (n : Nat) (Q : Int32 → Mm → Prop) (T : Mm → Prop) : Nat → Int32 → Int32 → Int32 → Int32 → Mm → Prop
  | 0, _, _, _, _, _ => False
  | k + 1, x1, x2, x4, x5, u0 =>
  w_X12_get n x4 (9 : Int32) u0 (fun r1 u1 =>
  ((x4 + r1) ≤ x5 → w_X12_plainSign_99 n x1 x2 u1 Q T) ∧
  (¬ (x4 + r1) ≤ x5 → w_X12_get n x5 (4 : Int32) u1 (fun r2 u2 =>
  (¬ r2 = x1 → w_X12_plainSign_93 n (w_X12_plainSign_46 n Q T k) x1 x2 x4 x5 u2 Q T) ∧
  (r2 = x1 → w_X12_get n x5 (5 : Int32) u2 (fun r3 u3 =>
  (¬ r3 = x2 → w_X12_plainSign_93 n (w_X12_plainSign_46 n Q T k) x1 x2 x4 x5 u3 Q T) ∧
  (r3 = x2 → w_X12_get n x5 (6 : Int32) u3 (fun r4 u4 =>
  Q r4 u4) T)) T)) T)) T
def w_X12_plainSign (n : Nat) (a0 : Int32) (a1 : Int32) (a2 : Int32) (u0 : Mm) (Q : Int32 → Mm → Prop) (T : Mm → Prop) : Prop :=
  vp_in (u0.1 0 28) 3 ∧ (ilet (u0.1 23 (ix (u0.1 0 28))) fun y1 =>
  (a2 = 0 → w_X12_plainSign_99 n a0 a1 u0 Q T) ∧
  (¬ a2 = 0 → (y1 < 0 → w_X12_plainSign_99 n a0 a1 u0 Q T) ∧
  (¬ y1 < 0 → w_X12_get n y1 (0 : Int32) u0 (fun r1 u1 =>
  (¬ r1 = 0 → w_X12_plainSign_99 n a0 a1 u1 Q T) ∧
  (r1 = 0 → w_X12_get n y1 (8 : Int32) u1 (fun r2 u2 =>
  (¬ r2 = (1 : Int32) → w_X12_plainSign_99 n a0 a1 u2 Q T) ∧
  (r2 = (1 : Int32) → (w_X12_plainSign_46 n Q T n) a0 a1 y1 y1 u2)) T)) T)))
set_option maxRecDepth 20000 in
theorem s_X12_plainSign_129 {g : Gb} (hg : xInj g) {n : Nat} {Q : Int32 → Mm → Prop} {T : Mm → Prop} {t0 : Int32} {u0 : Mm} (h : w_X12_plainSign_129 n t0 u0 Q T) : xE g me_X12_plainSign (pI g Q T) 129 [] [.int t0] u0 := by
  unfold w_X12_plainSign_129 at h
  exact e_iret (k := 66) rfl rfl (Or.inl ⟨_, rfl, h⟩)
set_option maxRecDepth 20000 in
theorem s_X12_plainSign_99 {g : Gb} (hg : xInj g) {n : Nat} {Q : Int32 → Mm → Prop} {T : Mm → Prop} {x1 : Int32} {x2 : Int32} {u0 : Mm} (h : w_X12_plainSign_99 n x1 x2 u0 Q T) : xE g me_X12_plainSign (pI g Q T) 99 [(0, .ref (gR g 0)), (1, .int x1), (2, .int x2)] [] u0 := by
  unfold w_X12_plainSign_99 at h
  refine e_aload_n (k := 50) (i := 0) rfl rfl 0 rfl ?_
  refine e_getC (k := 51) rfl f_X12_87 rfl rfl ?_
  refine e_aload_n (k := 52) (i := 0) rfl rfl 0 rfl ?_
  refine e_iload_n (k := 53) (i := 1) rfl rfl 1 rfl ?_
  refine e_iload_n (k := 54) (i := 2) rfl rfl 2 rfl ?_
  refine e_callVi (k := 55) (q := 0) (As := [.int x1, .int x2]) (rest := [.ref (gR g 22)]) rfl (c_X12_signPlace (g := g) hg (n := n) h) m_X12_signPlace i_X12_signPlace l_X12_297 rfl ⟨_, rfl, rfl⟩ rfl rfl (Nat.le_of_ble_eq_true rfl) ⟨by decide, by decide, rfl, rfl⟩ (fun _ h => ⟨fun _ z => (by cases z), Or.inr ⟨rfl, h⟩⟩) (fun r1 u1 h => ?_)
  refine e_iald (k := 56) rfl rfl h.1 ?_
  have h := h.2
  refine e_ilet h (fun y1 h => ?_)
  refine e_istore (k := 57) (i := 5) (lv' := [(0, .ref (gR g 0)), (1, .int x1), (2, .int x2), (5, .int y1)]) rfl (by decide) [1, 2, 3, 0] rfl ?_
  refine e_iload (k := 58) (i := 5) rfl 3 rfl ?_
  refine e_bipush (k := 59) (v := (100 : Int32)) rfl (by decide) ?_
  refine e_icmp_eq (k := 60) (tgt := 124) rfl (by decide) (fun z => ?_) (fun z => ?_)
  · have h := h.1 z
    refine e_aload_n (k := 63) (i := 0) rfl rfl 0 rfl ?_
    refine e_iload_n (k := 64) (i := 1) rfl rfl 1 rfl ?_
    refine e_callVi (k := 65) (q := 0) (As := [.int x1]) (rest := []) rfl (c_X12_keySign (g := g) hg (n := n) h) m_X12_keySign i_X12_keySign l_X12_300 rfl ⟨_, rfl, rfl⟩ rfl rfl (Nat.le_of_ble_eq_true rfl) ⟨by decide, by decide, rfl, rfl⟩ (fun _ h => ⟨fun _ z => (by cases z), Or.inr ⟨rfl, h⟩⟩) (fun r2 u2 h => ?_)
    refine e_sub (lv' := []) [] rfl ?_
    exact s_X12_plainSign_129 hg h
  · have h := h.2 z
    refine e_iload (k := 61) (i := 5) rfl 3 rfl ?_
    refine e_goto (k := 62) (tgt := 129) rfl (by decide) ?_
    refine e_sub (lv' := []) [] rfl ?_
    exact s_X12_plainSign_129 hg h
set_option maxRecDepth 20000 in
theorem s_X12_plainSign_93 {g : Gb} (hg : xInj g) {n : Nat} {Q : Int32 → Mm → Prop} {T : Mm → Prop} {L46 : Int32 → Int32 → Int32 → Int32 → Mm → Prop} (hL46 : ∀ (x1 : Int32) (x2 : Int32) (x4 : Int32) (x5 : Int32) (u0 : Mm), L46 x1 x2 x4 x5 u0 → xE g me_X12_plainSign (pI g Q T) 46 [(0, .ref (gR g 0)), (1, .int x1), (2, .int x2), (4, .int x4), (5, .int x5)] [] u0) {x1 : Int32} {x2 : Int32} {x4 : Int32} {x5 : Int32} {u0 : Mm} (h : w_X12_plainSign_93 n L46 x1 x2 x4 x5 u0 Q T) : xE g me_X12_plainSign (pI g Q T) 93 [(0, .ref (gR g 0)), (1, .int x1), (2, .int x2), (4, .int x4), (5, .int x5)] [] u0 := by
  unfold w_X12_plainSign_93 at h
  refine e_iinc (k := 48) (i := 5) (j := 4) (v := (x5 + (1 : Int32))) (lv' := [(0, .ref (gR g 0)), (1, .int x1), (2, .int x2), (4, .int x4), (5, .int (x5 + (1 : Int32)))]) rfl rfl rfl (by decide) [1, 2, 3, 4, 0] rfl ?_
  refine e_goto (k := 49) (tgt := 46) rfl (by decide) ?_
  exact hL46 x1 x2 x4 (x5 + (1 : Int32)) u0 h
set_option maxRecDepth 20000 in
theorem s_X12_plainSign_46 {g : Gb} (hg : xInj g) {n : Nat} {Q : Int32 → Mm → Prop} {T : Mm → Prop} : ∀ (k : Nat) (x1 : Int32) (x2 : Int32) (x4 : Int32) (x5 : Int32) (u0 : Mm), w_X12_plainSign_46 n Q T k x1 x2 x4 x5 u0 → xE g me_X12_plainSign (pI g Q T) 46 [(0, .ref (gR g 0)), (1, .int x1), (2, .int x2), (4, .int x4), (5, .int x5)] [] u0 := by
  intro k
  induction k with
  | zero => intro x1 x2 x4 x5 u0 h; exact h.elim
  | succ k ih =>
    intro x1 x2 x4 x5 u0 h
    unfold w_X12_plainSign_46 at h
    refine e_iload (k := 23) (i := 5) rfl 4 rfl ?_
    refine e_iload (k := 24) (i := 4) rfl 3 rfl ?_
    refine e_aload_n (k := 25) (i := 0) rfl rfl 0 rfl ?_
    refine e_iload (k := 26) (i := 4) rfl 3 rfl ?_
    refine e_bipush (k := 27) (v := (9 : Int32)) rfl (by decide) ?_
    refine e_callVi (k := 28) (q := 0) (As := [.int x4, .int (9 : Int32)]) (rest := [.int x4, .int x5]) rfl (c_X12_get (g := g) hg (n := n) h) m_X12_get i_X12_get l_X12_293 rfl ⟨_, rfl, rfl⟩ rfl rfl (Nat.le_of_ble_eq_true rfl) ⟨by decide, by decide, rfl, rfl⟩ (fun _ h => ⟨fun _ z => (by cases z), Or.inr ⟨rfl, h⟩⟩) (fun r1 u1 h => ?_)
    refine e_iadd (k := 29) rfl ?_
    refine e_icmp_ge (k := 30) (tgt := 99) rfl (by decide) (fun z => ?_) (fun z => ?_)
    · have h := h.1 z
      refine e_sub (lv' := [(0, .ref (gR g 0)), (1, .int x1), (2, .int x2)]) [0, 1, 2] rfl ?_
      exact s_X12_plainSign_99 hg h
    · have h := h.2 z
      refine e_aload_n (k := 31) (i := 0) rfl rfl 0 rfl ?_
      refine e_iload (k := 32) (i := 5) rfl 4 rfl ?_
      refine e_iconst (k := 33) (v := (4 : Int32)) rfl (by decide) ?_
      refine e_callVi (k := 34) (q := 0) (As := [.int x5, .int (4 : Int32)]) (rest := []) rfl (c_X12_get (g := g) hg (n := n) h) m_X12_get i_X12_get l_X12_293 rfl ⟨_, rfl, rfl⟩ rfl rfl (Nat.le_of_ble_eq_true rfl) ⟨by decide, by decide, rfl, rfl⟩ (fun _ h => ⟨fun _ z => (by cases z), Or.inr ⟨rfl, h⟩⟩) (fun r2 u2 h => ?_)
      refine e_iload_n (k := 35) (i := 1) rfl rfl 1 rfl ?_
      refine e_icmp_ne (k := 36) (tgt := 93) rfl (by decide) (fun z => ?_) (fun z => ?_)
      · have h := h.1 z
        exact s_X12_plainSign_93 hg ih h
      · have h := h.2 z
        refine e_aload_n (k := 37) (i := 0) rfl rfl 0 rfl ?_
        refine e_iload (k := 38) (i := 5) rfl 4 rfl ?_
        refine e_iconst (k := 39) (v := (5 : Int32)) rfl (by decide) ?_
        refine e_callVi (k := 40) (q := 0) (As := [.int x5, .int (5 : Int32)]) (rest := []) rfl (c_X12_get (g := g) hg (n := n) h) m_X12_get i_X12_get l_X12_293 rfl ⟨_, rfl, rfl⟩ rfl rfl (Nat.le_of_ble_eq_true rfl) ⟨by decide, by decide, rfl, rfl⟩ (fun _ h => ⟨fun _ z => (by cases z), Or.inr ⟨rfl, h⟩⟩) (fun r3 u3 h => ?_)
        refine e_iload_n (k := 41) (i := 2) rfl rfl 2 rfl ?_
        refine e_icmp_ne (k := 42) (tgt := 93) rfl (by decide) (fun z => ?_) (fun z => ?_)
        · have h := h.1 z
          exact s_X12_plainSign_93 hg ih h
        · have h := h.2 z
          refine e_aload_n (k := 43) (i := 0) rfl rfl 0 rfl ?_
          refine e_iload (k := 44) (i := 5) rfl 4 rfl ?_
          refine e_bipush (k := 45) (v := (6 : Int32)) rfl (by decide) ?_
          refine e_callVi (k := 46) (q := 0) (As := [.int x5, .int (6 : Int32)]) (rest := []) rfl (c_X12_get (g := g) hg (n := n) h) m_X12_get i_X12_get l_X12_293 rfl ⟨_, rfl, rfl⟩ rfl rfl (Nat.le_of_ble_eq_true rfl) ⟨by decide, by decide, rfl, rfl⟩ (fun _ h => ⟨fun _ z => (by cases z), Or.inr ⟨rfl, h⟩⟩) (fun r4 u4 h => ?_)
          exact e_iret (k := 47) rfl rfl (Or.inl ⟨_, rfl, h⟩)
set_option maxRecDepth 20000 in
theorem c_X12_plainSign {g : Gb} (hg : xInj g) {n : Nat} {a0 : Int32} {a1 : Int32} {a2 : Int32} {u0 : Mm} {Q : Int32 → Mm → Prop} {T : Mm → Prop} (h : w_X12_plainSign n a0 a1 a2 u0 Q T) : xMet (gL g) yX12_plainSign (xws yX12_plainSign cX12_plainSign 6 (some .int)) (xRoom 2) (xPc g [.ref (gR g 0), .int a0, .int a1, .int a2] u0) (xQ g (pI g Q T)) (xA g) := by
  refine xbody (il := il_X12_plainSign) hg il_X12_plainSign_ok m_X12_plainSign (Nat.le_of_ble_eq_true rfl) ?_
  show xE g me_X12_plainSign (pI g Q T) 0 [(0, .ref (gR g 0)), (1, .int a0), (2, .int a1), (3, .int a2)] [] u0
  unfold w_X12_plainSign at h
  refine e_aload_n (k := 0) (i := 0) rfl rfl 0 rfl ?_
  refine e_getC (k := 1) rfl f_X12_90 rfl rfl ?_
  refine e_aload_n (k := 2) (i := 0) rfl rfl 0 rfl ?_
  refine e_getI (k := 3) rfl f_X12_290 rfl rfl ?_
  refine e_iald (k := 4) rfl rfl h.1 ?_
  have h := h.2
  refine e_ilet h (fun y1 h => ?_)
  refine e_istore (k := 5) (i := 4) (lv' := [(0, .ref (gR g 0)), (1, .int a0), (2, .int a1), (3, .int a2), (4, .int y1)]) rfl (by decide) [1, 2, 3, 4, 0] rfl ?_
  refine e_iload_n (k := 6) (i := 3) rfl rfl 3 rfl ?_
  refine e_if_eq (k := 7) (tgt := 99) rfl (by decide) (fun z => ?_) (fun z => ?_)
  · have h := h.1 z
    refine e_sub (lv' := [(0, .ref (gR g 0)), (1, .int a0), (2, .int a1)]) [0, 1, 2] rfl ?_
    exact s_X12_plainSign_99 hg h
  · have h := h.2 z
    refine e_iload (k := 8) (i := 4) rfl 4 rfl ?_
    refine e_if_lt (k := 9) (tgt := 99) rfl (by decide) (fun z => ?_) (fun z => ?_)
    · have h := h.1 z
      refine e_sub (lv' := [(0, .ref (gR g 0)), (1, .int a0), (2, .int a1)]) [0, 1, 2] rfl ?_
      exact s_X12_plainSign_99 hg h
    · have h := h.2 z
      refine e_aload_n (k := 10) (i := 0) rfl rfl 0 rfl ?_
      refine e_iload (k := 11) (i := 4) rfl 4 rfl ?_
      refine e_iconst (k := 12) (v := (0 : Int32)) rfl (by decide) ?_
      refine e_callVi (k := 13) (q := 0) (As := [.int y1, .int (0 : Int32)]) (rest := []) rfl (c_X12_get (g := g) hg (n := n) h) m_X12_get i_X12_get l_X12_293 rfl ⟨_, rfl, rfl⟩ rfl rfl (Nat.le_of_ble_eq_true rfl) ⟨by decide, by decide, rfl, rfl⟩ (fun _ h => ⟨fun _ z => (by cases z), Or.inr ⟨rfl, h⟩⟩) (fun r1 u1 h => ?_)
      refine e_if_ne (k := 14) (tgt := 99) rfl (by decide) (fun z => ?_) (fun z => ?_)
      · have h := h.1 z
        refine e_sub (lv' := [(0, .ref (gR g 0)), (1, .int a0), (2, .int a1)]) [0, 1, 2] rfl ?_
        exact s_X12_plainSign_99 hg h
      · have h := h.2 z
        refine e_aload_n (k := 15) (i := 0) rfl rfl 0 rfl ?_
        refine e_iload (k := 16) (i := 4) rfl 4 rfl ?_
        refine e_bipush (k := 17) (v := (8 : Int32)) rfl (by decide) ?_
        refine e_callVi (k := 18) (q := 0) (As := [.int y1, .int (8 : Int32)]) (rest := []) rfl (c_X12_get (g := g) hg (n := n) h) m_X12_get i_X12_get l_X12_293 rfl ⟨_, rfl, rfl⟩ rfl rfl (Nat.le_of_ble_eq_true rfl) ⟨by decide, by decide, rfl, rfl⟩ (fun _ h => ⟨fun _ z => (by cases z), Or.inr ⟨rfl, h⟩⟩) (fun r2 u2 h => ?_)
        refine e_iconst (k := 19) (v := (1 : Int32)) rfl (by decide) ?_
        refine e_icmp_ne (k := 20) (tgt := 99) rfl (by decide) (fun z => ?_) (fun z => ?_)
        · have h := h.1 z
          refine e_sub (lv' := [(0, .ref (gR g 0)), (1, .int a0), (2, .int a1)]) [0, 1, 2] rfl ?_
          exact s_X12_plainSign_99 hg h
        · have h := h.2 z
          refine e_iload (k := 21) (i := 4) rfl 4 rfl ?_
          refine e_istore (k := 22) (i := 5) (lv' := [(0, .ref (gR g 0)), (1, .int a0), (2, .int a1), (3, .int a2), (4, .int y1), (5, .int y1)]) rfl (by decide) [1, 2, 3, 4, 5, 0] rfl ?_
          refine e_sub (lv' := [(0, .ref (gR g 0)), (1, .int a0), (2, .int a1), (4, .int y1), (5, .int y1)]) [0, 1, 2, 4, 5] rfl ?_
          exact s_X12_plainSign_46 hg n a0 a1 y1 y1 u2 h
def il_X12_played : List (Nat × Instr × Nat) := [(0, .aload_n 0, 1), (1, .iconst 0, 1), (2, .putfield 1, 3), (5, .aload_n 0, 1), (6, .getfield 494, 3), (9, .ifCond .eq 21, 3), (12, .iload_n 1, 1), (13, .i2l, 1), (14, .ldc2_w 373, 3), (17, .aload_n 0, 1), (18, .getfield 513, 3), (21, .iconst 1, 1), (22, .isub, 1), (23, .i2l, 1), (24, .invokestatic 125, 3), (27, .ifCond .ne 5, 3), (30, .iconst (-1), 1), (31, .ireturn, 1), (32, .iload_n 1, 1), (33, .ifCond .ge 10, 3), (36, .aload_n 0, 1), (37, .getfield 513, 3), (40, .goto 9, 3), (43, .aload_n 0, 1), (44, .getfield 111, 3), (47, .iload_n 1, 1), (48, .iaload, 1), (49, .ireturn, 1)]
set_option maxRecDepth 20000 in
theorem il_X12_played_ok : ∀ x ∈ il_X12_played, decode cX12_played x.1 = .ok x.2 := by decide +kernel
abbrev me_X12_played : Me := (RX12, il_X12_played, 2, (some .int), xRoom 2, [])
def w_X12_played_49 (n : Nat) (t0 : Int32) (u0 : Mm) (Q : Int32 → Mm → Prop) (T : Mm → Prop) : Prop :=
  Q t0 u0
def w_X12_played_30 (n : Nat) (u0 : Mm) (Q : Int32 → Mm → Prop) (T : Mm → Prop) : Prop :=
  Q (-1 : Int32) u0
def w_X12_played (n : Nat) (a0 : Int32) (u0 : Mm) (Q : Int32 → Mm → Prop) (T : Mm → Prop) : Prop :=
  mlet (setI u0 0 0 (0 : Int32)) fun u1 =>
  ((u1.1 0 10) = 0 → w_X12_played_30 n u1 Q T) ∧
  (¬ (u1.1 0 10) = 0 → w_X12_in n (a0.toInt64) (-1 : Int64) ((u1.1 0 69) - (1 : Int32)).toInt64 u1 (fun r1 u2 =>
  (¬ r1 = 0 → (0 ≤ a0 → vp_in a0 1000 ∧ (w_X12_played_49 n (u2.1 30 (ix a0)) u2 Q T)) ∧
  (¬ 0 ≤ a0 → w_X12_played_49 n (u2.1 0 69) u2 Q T)) ∧
  (r1 = 0 → w_X12_played_30 n u2 Q T)) T)
set_option maxRecDepth 20000 in
theorem s_X12_played_49 {g : Gb} (hg : xInj g) {n : Nat} {Q : Int32 → Mm → Prop} {T : Mm → Prop} {t0 : Int32} {u0 : Mm} (h : w_X12_played_49 n t0 u0 Q T) : xE g me_X12_played (pI g Q T) 49 [] [.int t0] u0 := by
  unfold w_X12_played_49 at h
  exact e_iret (k := 27) rfl rfl (Or.inl ⟨_, rfl, h⟩)
set_option maxRecDepth 20000 in
theorem s_X12_played_30 {g : Gb} (hg : xInj g) {n : Nat} {Q : Int32 → Mm → Prop} {T : Mm → Prop} {u0 : Mm} (h : w_X12_played_30 n  u0 Q T) : xE g me_X12_played (pI g Q T) 30 [] [] u0 := by
  unfold w_X12_played_30 at h
  refine e_iconst (k := 16) (v := (-1 : Int32)) rfl (by decide) ?_
  exact e_iret (k := 17) rfl rfl (Or.inl ⟨_, rfl, h⟩)
set_option maxRecDepth 20000 in
theorem c_X12_played {g : Gb} (hg : xInj g) {n : Nat} {a0 : Int32} {u0 : Mm} {Q : Int32 → Mm → Prop} {T : Mm → Prop} (h : w_X12_played n a0 u0 Q T) : xMet (gL g) yX12_played (xws yX12_played cX12_played 2 (some .int)) (xRoom 2) (xPc g [.ref (gR g 0), .int a0] u0) (xQ g (pI g Q T)) (xA g) := by
  refine xbody (il := il_X12_played) hg il_X12_played_ok m_X12_played (Nat.le_of_ble_eq_true rfl) ?_
  show xE g me_X12_played (pI g Q T) 0 [(0, .ref (gR g 0)), (1, .int a0)] [] u0
  unfold w_X12_played at h
  refine e_aload_n (k := 0) (i := 0) rfl rfl 0 rfl ?_
  refine e_iconst (k := 1) (v := (0 : Int32)) rfl (by decide) ?_
  refine e_putI (k := 2) rfl fg_X12_1 rfl rfl ?_
  refine e_mlet h (fun u1 h => ?_)
  refine e_aload_n (k := 3) (i := 0) rfl rfl 0 rfl ?_
  refine e_getI (k := 4) rfl f_X12_494 rfl rfl ?_
  refine e_if_eq (k := 5) (tgt := 30) rfl (by decide) (fun z => ?_) (fun z => ?_)
  · have h := h.1 z
    refine e_sub (lv' := []) [] rfl ?_
    exact s_X12_played_30 hg h
  · have h := h.2 z
    refine e_iload_n (k := 6) (i := 1) rfl rfl 1 rfl ?_
    refine e_i2l (k := 7) rfl ?_
    refine e_ldc2 (k := 8) rfl k_X12_373 ?_
    refine e_aload_n (k := 9) (i := 0) rfl rfl 0 rfl ?_
    refine e_getI (k := 10) rfl f_X12_513 rfl rfl ?_
    refine e_iconst (k := 11) (v := (1 : Int32)) rfl (by decide) ?_
    refine e_isub (k := 12) rfl ?_
    refine e_i2l (k := 13) rfl ?_
    refine e_callSi (k := 14) (As := [.long a0.toInt64, .long (-1 : Int64), .long ((u1.1 0 69) - (1 : Int32)).toInt64]) (rest := []) rfl (c_X12_in (g := g) hg (n := n) h) m_X12_in st_X12_in l_X12_125 rfl rfl (Nat.le_of_ble_eq_true rfl) ⟨by decide, by decide, rfl, rfl⟩ (fun _ h => ⟨fun _ z => (by cases z), Or.inr ⟨rfl, h⟩⟩) (fun r1 u2 h => ?_)
    refine e_if_ne (k := 15) (tgt := 32) rfl (by decide) (fun z => ?_) (fun z => ?_)
    · have h := h.1 z
      refine e_iload_n (k := 18) (i := 1) rfl rfl 1 rfl ?_
      refine e_if_ge (k := 19) (tgt := 43) rfl (by decide) (fun z => ?_) (fun z => ?_)
      · have h := h.1 z
        refine e_aload_n (k := 23) (i := 0) rfl rfl 0 rfl ?_
        refine e_getC (k := 24) rfl f_X12_111 rfl rfl ?_
        refine e_iload_n (k := 25) (i := 1) rfl rfl 1 rfl ?_
        refine e_iald (k := 26) rfl rfl h.1 ?_
        have h := h.2
        refine e_sub (lv' := []) [] rfl ?_
        exact s_X12_played_49 hg h
      · have h := h.2 z
        refine e_aload_n (k := 20) (i := 0) rfl rfl 0 rfl ?_
        refine e_getI (k := 21) rfl f_X12_513 rfl rfl ?_
        refine e_goto (k := 22) (tgt := 49) rfl (by decide) ?_
        refine e_sub (lv' := []) [] rfl ?_
        exact s_X12_played_49 hg h
    · have h := h.2 z
      refine e_sub (lv' := []) [] rfl ?_
      exact s_X12_played_30 hg h
def il_X12_readClose : List (Nat × Instr × Nat) := [(0, .aload_n 0, 1), (1, .getfield 438, 3), (4, .ifCond .ne 12, 3), (7, .aload_n 0, 1), (8, .iconst 5, 1), (9, .aload_n 0, 1), (10, .getfield 138, 3), (13, .invokevirtual 148, 3), (16, .aload_n 0, 1), (17, .dup, 1), (18, .getfield 438, 3), (21, .iconst 1, 1), (22, .isub, 1), (23, .putfield 438, 3), (26, .aload_n 0, 1), (27, .dup, 1), (28, .getfield 138, 3), (31, .iconst 1, 1), (32, .iadd, 1), (33, .putfield 138, 3), (36, .aload_n 0, 1), (37, .getfield 432, 3), (40, .istore_n 1, 1), (41, .iload_n 1, 1), (42, .ifCond .lt 19, 3), (45, .aload_n 0, 1), (46, .iload_n 1, 1), (47, .bipush 14, 2), (49, .aload_n 0, 1), (50, .iload_n 1, 1), (51, .bipush 14, 2), (53, .invokevirtual 293, 3), (56, .iconst 1, 1), (57, .iadd, 1), (58, .invokevirtual 286, 3), (61, .return_, 1)]
set_option maxRecDepth 20000 in
theorem il_X12_readClose_ok : ∀ x ∈ il_X12_readClose, decode cX12_readClose x.1 = .ok x.2 := by decide +kernel
abbrev me_X12_readClose : Me := (RX12, il_X12_readClose, 2, none, xRoom 2, [])
def w_X12_readClose_61 (n : Nat) (u0 : Mm) (Q : Mm → Prop) (T : Mm → Prop) : Prop :=
  Q u0
def w_X12_readClose_16 (n : Nat) (u0 : Mm) (Q : Mm → Prop) (T : Mm → Prop) : Prop :=
  mlet (setI u0 0 45 ((u0.1 0 45) - (1 : Int32))) fun u1 =>
  mlet (setI u1 0 7 ((u1.1 0 7) + (1 : Int32))) fun u2 =>
  ilet (u2.1 0 63) fun y1 =>
  (y1 < 0 → w_X12_readClose_61 n u2 Q T) ∧
  (¬ y1 < 0 → w_X12_get n y1 (14 : Int32) u2 (fun r1 u3 =>
  w_X12_set n y1 (14 : Int32) (r1 + (1 : Int32)) u3 (fun u4 =>
  w_X12_readClose_61 n u4 Q T) T) T)
def w_X12_readClose (n : Nat) (u0 : Mm) (Q : Mm → Prop) (T : Mm → Prop) : Prop :=
  (¬ (u0.1 0 45) = 0 → w_X12_readClose_16 n u0 Q T) ∧
  ((u0.1 0 45) = 0 → w_X12_fail n (5 : Int32) (u0.1 0 7) u0 (fun u1 =>
  w_X12_readClose_16 n u1 Q T) T)
set_option maxRecDepth 20000 in
theorem s_X12_readClose_61 {g : Gb} (hg : xInj g) {n : Nat} {Q : Mm → Prop} {T : Mm → Prop} {u0 : Mm} (h : w_X12_readClose_61 n  u0 Q T) : xE g me_X12_readClose (pV g Q T) 61 [] [] u0 := by
  unfold w_X12_readClose_61 at h
  exact e_vret (k := 35) rfl rfl (Or.inl ⟨rfl, h⟩)
set_option maxRecDepth 20000 in
theorem s_X12_readClose_16 {g : Gb} (hg : xInj g) {n : Nat} {Q : Mm → Prop} {T : Mm → Prop} {u0 : Mm} (h : w_X12_readClose_16 n  u0 Q T) : xE g me_X12_readClose (pV g Q T) 16 [(0, .ref (gR g 0))] [] u0 := by
  unfold w_X12_readClose_16 at h
  refine e_aload_n (k := 8) (i := 0) rfl rfl 0 rfl ?_
  refine e_dup (k := 9) rfl rfl ?_
  refine e_getI (k := 10) rfl f_X12_438 rfl rfl ?_
  refine e_iconst (k := 11) (v := (1 : Int32)) rfl (by decide) ?_
  refine e_isub (k := 12) rfl ?_
  refine e_putI (k := 13) rfl fg_X12_438 rfl rfl ?_
  refine e_mlet h (fun u1 h => ?_)
  refine e_aload_n (k := 14) (i := 0) rfl rfl 0 rfl ?_
  refine e_dup (k := 15) rfl rfl ?_
  refine e_getI (k := 16) rfl f_X12_138 rfl rfl ?_
  refine e_iconst (k := 17) (v := (1 : Int32)) rfl (by decide) ?_
  refine e_iadd (k := 18) rfl ?_
  refine e_putI (k := 19) rfl fg_X12_138 rfl rfl ?_
  refine e_mlet h (fun u2 h => ?_)
  refine e_aload_n (k := 20) (i := 0) rfl rfl 0 rfl ?_
  refine e_getI (k := 21) rfl f_X12_432 rfl rfl ?_
  refine e_ilet h (fun y1 h => ?_)
  refine e_istore_n (k := 22) (i := 1) (lv' := [(0, .ref (gR g 0)), (1, .int y1)]) rfl rfl (by decide) [1, 0] rfl ?_
  refine e_iload_n (k := 23) (i := 1) rfl rfl 1 rfl ?_
  refine e_if_lt (k := 24) (tgt := 61) rfl (by decide) (fun z => ?_) (fun z => ?_)
  · have h := h.1 z
    refine e_sub (lv' := []) [] rfl ?_
    exact s_X12_readClose_61 hg h
  · have h := h.2 z
    refine e_aload_n (k := 25) (i := 0) rfl rfl 0 rfl ?_
    refine e_iload_n (k := 26) (i := 1) rfl rfl 1 rfl ?_
    refine e_bipush (k := 27) (v := (14 : Int32)) rfl (by decide) ?_
    refine e_aload_n (k := 28) (i := 0) rfl rfl 0 rfl ?_
    refine e_iload_n (k := 29) (i := 1) rfl rfl 1 rfl ?_
    refine e_bipush (k := 30) (v := (14 : Int32)) rfl (by decide) ?_
    refine e_callVi (k := 31) (q := 0) (As := [.int y1, .int (14 : Int32)]) (rest := [.int (14 : Int32), .int y1, .ref (gR g 0)]) rfl (c_X12_get (g := g) hg (n := n) h) m_X12_get i_X12_get l_X12_293 rfl ⟨_, rfl, rfl⟩ rfl rfl (Nat.le_of_ble_eq_true rfl) ⟨by decide, by decide, rfl, rfl⟩ (fun _ h => ⟨fun _ z => (by cases z), Or.inr ⟨rfl, h⟩⟩) (fun r1 u3 h => ?_)
    refine e_iconst (k := 32) (v := (1 : Int32)) rfl (by decide) ?_
    refine e_iadd (k := 33) rfl ?_
    refine e_callVv (k := 34) (q := 0) (As := [.int y1, .int (14 : Int32), .int (r1 + (1 : Int32))]) (rest := []) rfl (c_X12_set (g := g) hg (n := n) h) m_X12_set i_X12_set l_X12_286 rfl ⟨_, rfl, rfl⟩ rfl rfl (Nat.le_of_ble_eq_true rfl) ⟨by decide, by decide, rfl, rfl⟩ (fun _ h => ⟨fun _ z => (by cases z), Or.inr ⟨rfl, h⟩⟩) (fun u4 h => ?_)
    refine e_sub (lv' := []) [] rfl ?_
    exact s_X12_readClose_61 hg h
set_option maxRecDepth 20000 in
theorem c_X12_readClose {g : Gb} (hg : xInj g) {n : Nat} {u0 : Mm} {Q : Mm → Prop} {T : Mm → Prop} (h : w_X12_readClose n u0 Q T) : xMet (gL g) yX12_readClose (xws yX12_readClose cX12_readClose 2 none) (xRoom 2) (xPc g [.ref (gR g 0)] u0) (xQ g (pV g Q T)) (xA g) := by
  refine xbody (il := il_X12_readClose) hg il_X12_readClose_ok m_X12_readClose (Nat.le_of_ble_eq_true rfl) ?_
  show xE g me_X12_readClose (pV g Q T) 0 [(0, .ref (gR g 0))] [] u0
  unfold w_X12_readClose at h
  refine e_aload_n (k := 0) (i := 0) rfl rfl 0 rfl ?_
  refine e_getI (k := 1) rfl f_X12_438 rfl rfl ?_
  refine e_if_ne (k := 2) (tgt := 16) rfl (by decide) (fun z => ?_) (fun z => ?_)
  · have h := h.1 z
    exact s_X12_readClose_16 hg h
  · have h := h.2 z
    refine e_aload_n (k := 3) (i := 0) rfl rfl 0 rfl ?_
    refine e_iconst (k := 4) (v := (5 : Int32)) rfl (by decide) ?_
    refine e_aload_n (k := 5) (i := 0) rfl rfl 0 rfl ?_
    refine e_getI (k := 6) rfl f_X12_138 rfl rfl ?_
    refine e_callVv (k := 7) (q := 0) (As := [.int (5 : Int32), .int (u0.1 0 7)]) (rest := []) rfl (c_X12_fail (g := g) hg (n := n) h) m_X12_fail i_X12_fail l_X12_148 rfl ⟨_, rfl, rfl⟩ rfl rfl (Nat.le_of_ble_eq_true rfl) ⟨by decide, by decide, rfl, rfl⟩ (fun _ h => ⟨fun _ z => (by cases z), Or.inr ⟨rfl, h⟩⟩) (fun u1 h => ?_)
    exact s_X12_readClose_16 hg h
def il_X12_rememberSign : List (Nat × Instr × Nat) := [(0, .aload_n 0, 1), (1, .getfield 320, 3), (4, .ifCond .eq 24, 3), (7, .aload_n 0, 1), (8, .getfield 87, 3), (11, .aload_n 0, 1), (12, .aload_n 0, 1), (13, .getfield 327, 3), (16, .aload_n 0, 1), (17, .getfield 330, 3), (20, .invokevirtual 297, 3), (23, .aload_n 0, 1), (24, .getfield 324, 3), (27, .iastore, 1), (28, .return_, 1)]
set_option maxRecDepth 20000 in
theorem il_X12_rememberSign_ok : ∀ x ∈ il_X12_rememberSign, decode cX12_rememberSign x.1 = .ok x.2 := by decide +kernel
abbrev me_X12_rememberSign : Me := (RX12, il_X12_rememberSign, 1, none, xRoom 2, [])
def w_X12_rememberSign_28 (n : Nat) (u0 : Mm) (Q : Mm → Prop) (T : Mm → Prop) : Prop :=
  Q u0
def w_X12_rememberSign (n : Nat) (u0 : Mm) (Q : Mm → Prop) (T : Mm → Prop) : Prop :=
  ((u0.1 0 55) = 0 → w_X12_rememberSign_28 n u0 Q T) ∧
  (¬ (u0.1 0 55) = 0 → w_X12_signPlace n (u0.1 0 56) (u0.1 0 57) u0 (fun r1 u1 =>
  vp_in r1 1344 ∧ (mlet (setI u1 22 (ix r1) (u1.1 0 54)) fun u2 =>
  w_X12_rememberSign_28 n u2 Q T)) T)
set_option maxRecDepth 20000 in
theorem s_X12_rememberSign_28 {g : Gb} (hg : xInj g) {n : Nat} {Q : Mm → Prop} {T : Mm → Prop} {u0 : Mm} (h : w_X12_rememberSign_28 n  u0 Q T) : xE g me_X12_rememberSign (pV g Q T) 28 [] [] u0 := by
  unfold w_X12_rememberSign_28 at h
  exact e_vret (k := 14) rfl rfl (Or.inl ⟨rfl, h⟩)
set_option maxRecDepth 20000 in
theorem c_X12_rememberSign {g : Gb} (hg : xInj g) {n : Nat} {u0 : Mm} {Q : Mm → Prop} {T : Mm → Prop} (h : w_X12_rememberSign n u0 Q T) : xMet (gL g) yX12_rememberSign (xws yX12_rememberSign cX12_rememberSign 1 none) (xRoom 2) (xPc g [.ref (gR g 0)] u0) (xQ g (pV g Q T)) (xA g) := by
  refine xbody (il := il_X12_rememberSign) hg il_X12_rememberSign_ok m_X12_rememberSign (Nat.le_of_ble_eq_true rfl) ?_
  show xE g me_X12_rememberSign (pV g Q T) 0 [(0, .ref (gR g 0))] [] u0
  unfold w_X12_rememberSign at h
  refine e_aload_n (k := 0) (i := 0) rfl rfl 0 rfl ?_
  refine e_getI (k := 1) rfl f_X12_320 rfl rfl ?_
  refine e_if_eq (k := 2) (tgt := 28) rfl (by decide) (fun z => ?_) (fun z => ?_)
  · have h := h.1 z
    refine e_sub (lv' := []) [] rfl ?_
    exact s_X12_rememberSign_28 hg h
  · have h := h.2 z
    refine e_aload_n (k := 3) (i := 0) rfl rfl 0 rfl ?_
    refine e_getC (k := 4) rfl f_X12_87 rfl rfl ?_
    refine e_aload_n (k := 5) (i := 0) rfl rfl 0 rfl ?_
    refine e_aload_n (k := 6) (i := 0) rfl rfl 0 rfl ?_
    refine e_getI (k := 7) rfl f_X12_327 rfl rfl ?_
    refine e_aload_n (k := 8) (i := 0) rfl rfl 0 rfl ?_
    refine e_getI (k := 9) rfl f_X12_330 rfl rfl ?_
    refine e_callVi (k := 10) (q := 0) (As := [.int (u0.1 0 56), .int (u0.1 0 57)]) (rest := [.ref (gR g 22)]) rfl (c_X12_signPlace (g := g) hg (n := n) h) m_X12_signPlace i_X12_signPlace l_X12_297 rfl ⟨_, rfl, rfl⟩ rfl rfl (Nat.le_of_ble_eq_true rfl) ⟨by decide, by decide, rfl, rfl⟩ (fun _ h => ⟨fun _ z => (by cases z), Or.inr ⟨rfl, h⟩⟩) (fun r1 u1 h => ?_)
    refine e_aload_n (k := 11) (i := 0) rfl rfl 0 rfl ?_
    refine e_getI (k := 12) rfl f_X12_324 rfl rfl ?_
    refine e_iast (k := 13) rfl rfl h.1 ?_
    have h := h.2
    refine e_mlet h (fun u2 h => ?_)
    refine e_sub (lv' := []) [] rfl ?_
    exact s_X12_rememberSign_28 hg h
def il_X12_showNumber : List (Nat × Instr × Nat) := [(0, .iload_n 1, 1), (1, .bipush 9, 2), (3, .if_icmp .le 14, 3), (6, .aload_n 0, 1), (7, .bipush 48, 2), (9, .iload_n 1, 1), (10, .bipush 10, 2), (12, .idiv, 1), (13, .iadd, 1), (14, .invokevirtual 519, 3), (17, .aload_n 0, 1), (18, .bipush 48, 2), (20, .iload_n 1, 1), (21, .bipush 10, 2), (23, .irem, 1), (24, .iadd, 1), (25, .invokevirtual 519, 3), (28, .return_, 1)]
set_option maxRecDepth 20000 in
theorem il_X12_showNumber_ok : ∀ x ∈ il_X12_showNumber, decode cX12_showNumber x.1 = .ok x.2 := by decide +kernel
abbrev me_X12_showNumber : Me := (RX12, il_X12_showNumber, 2, none, xRoom 2, [])
def w_X12_showNumber_17 (n : Nat) (x1 : Int32) (u0 : Mm) (Q : Mm → Prop) (T : Mm → Prop) : Prop :=
  w_X12_show n ((48 : Int32) + (x1 - x1 / (10 : Int32) * (10 : Int32))) u0 (fun u1 =>
  Q u1) T
def w_X12_showNumber (n : Nat) (a0 : Int32) (u0 : Mm) (Q : Mm → Prop) (T : Mm → Prop) : Prop :=
  (a0 ≤ (9 : Int32) → w_X12_showNumber_17 n a0 u0 Q T) ∧
  (¬ a0 ≤ (9 : Int32) → w_X12_show n ((48 : Int32) + (a0 / (10 : Int32))) u0 (fun u1 =>
  w_X12_showNumber_17 n a0 u1 Q T) T)
set_option maxRecDepth 20000 in
theorem s_X12_showNumber_17 {g : Gb} (hg : xInj g) {n : Nat} {Q : Mm → Prop} {T : Mm → Prop} {x1 : Int32} {u0 : Mm} (h : w_X12_showNumber_17 n x1 u0 Q T) : xE g me_X12_showNumber (pV g Q T) 17 [(0, .ref (gR g 0)), (1, .int x1)] [] u0 := by
  unfold w_X12_showNumber_17 at h
  refine e_aload_n (k := 10) (i := 0) rfl rfl 0 rfl ?_
  refine e_bipush (k := 11) (v := (48 : Int32)) rfl (by decide) ?_
  refine e_iload_n (k := 12) (i := 1) rfl rfl 1 rfl ?_
  refine e_bipush (k := 13) (v := (10 : Int32)) rfl (by decide) ?_
  refine e_irem (k := 14) rfl (by decide) ?_
  refine e_iadd (k := 15) rfl ?_
  refine e_callVv (k := 16) (q := 0) (As := [.int ((48 : Int32) + (x1 - x1 / (10 : Int32) * (10 : Int32)))]) (rest := []) rfl (c_X12_show (g := g) hg (n := n) h) m_X12_show i_X12_show l_X12_519 rfl ⟨_, rfl, rfl⟩ rfl rfl (Nat.le_of_ble_eq_true rfl) ⟨by decide, by decide, rfl, rfl⟩ (fun _ h => ⟨fun _ z => (by cases z), Or.inr ⟨rfl, h⟩⟩) (fun u1 h => ?_)
  exact e_vret (k := 17) rfl rfl (Or.inl ⟨rfl, h⟩)
set_option maxRecDepth 20000 in
theorem c_X12_showNumber {g : Gb} (hg : xInj g) {n : Nat} {a0 : Int32} {u0 : Mm} {Q : Mm → Prop} {T : Mm → Prop} (h : w_X12_showNumber n a0 u0 Q T) : xMet (gL g) yX12_showNumber (xws yX12_showNumber cX12_showNumber 2 none) (xRoom 2) (xPc g [.ref (gR g 0), .int a0] u0) (xQ g (pV g Q T)) (xA g) := by
  refine xbody (il := il_X12_showNumber) hg il_X12_showNumber_ok m_X12_showNumber (Nat.le_of_ble_eq_true rfl) ?_
  show xE g me_X12_showNumber (pV g Q T) 0 [(0, .ref (gR g 0)), (1, .int a0)] [] u0
  unfold w_X12_showNumber at h
  refine e_iload_n (k := 0) (i := 1) rfl rfl 1 rfl ?_
  refine e_bipush (k := 1) (v := (9 : Int32)) rfl (by decide) ?_
  refine e_icmp_le (k := 2) (tgt := 17) rfl (by decide) (fun z => ?_) (fun z => ?_)
  · have h := h.1 z
    exact s_X12_showNumber_17 hg h
  · have h := h.2 z
    refine e_aload_n (k := 3) (i := 0) rfl rfl 0 rfl ?_
    refine e_bipush (k := 4) (v := (48 : Int32)) rfl (by decide) ?_
    refine e_iload_n (k := 5) (i := 1) rfl rfl 1 rfl ?_
    refine e_bipush (k := 6) (v := (10 : Int32)) rfl (by decide) ?_
    refine e_idiv (k := 7) rfl (by decide) ?_
    refine e_iadd (k := 8) rfl ?_
    refine e_callVv (k := 9) (q := 0) (As := [.int ((48 : Int32) + (a0 / (10 : Int32)))]) (rest := []) rfl (c_X12_show (g := g) hg (n := n) h) m_X12_show i_X12_show l_X12_519 rfl ⟨_, rfl, rfl⟩ rfl rfl (Nat.le_of_ble_eq_true rfl) ⟨by decide, by decide, rfl, rfl⟩ (fun _ h => ⟨fun _ z => (by cases z), Or.inr ⟨rfl, h⟩⟩) (fun u1 h => ?_)
    exact s_X12_showNumber_17 hg h
def il_X12_title : List (Nat × Instr × Nat) := [(0, .aload_n 0, 1), (1, .iconst 0, 1), (2, .putfield 1, 3), (5, .aload_n 0, 1), (6, .getfield 494, 3), (9, .ifCond .eq 39, 3), (12, .iload_n 1, 1), (13, .i2l, 1), (14, .lconst 0, 1), (15, .aload_n 0, 1), (16, .getfield 256, 3), (19, .iconst 1, 1), (20, .isub, 1), (21, .i2l, 1), (22, .invokestatic 125, 3), (25, .ifCond .eq 23, 3), (28, .iload_n 2, 1), (29, .i2l, 1), (30, .ldc2_w 373, 3), (33, .aload_n 0, 1), (34, .getfield 34, 3), (37, .iload_n 1, 1), (38, .iaload, 1), (39, .iconst 1, 1), (40, .isub, 1), (41, .i2l, 1), (42, .invokestatic 125, 3), (45, .ifCond .ne 5, 3), (48, .iconst (-1), 1), (49, .ireturn, 1), (50, .iload_n 2, 1), (51, .ifCond .ge 12, 3), (54, .aload_n 0, 1), (55, .getfield 34, 3), (58, .iload_n 1, 1), (59, .iaload, 1), (60, .goto 20, 3), (63, .aload_n 0, 1), (64, .getfield 24, 3), (67, .aload_n 0, 1), (68, .getfield 30, 3), (71, .iload_n 1, 1), (72, .iaload, 1), (73, .iload_n 2, 1), (74, .iadd, 1), (75, .baload, 1), (76, .sipush 255, 3), (79, .iand, 1), (80, .ireturn, 1)]
set_option maxRecDepth 20000 in
theorem il_X12_title_ok : ∀ x ∈ il_X12_title, decode cX12_title x.1 = .ok x.2 := by decide +kernel
abbrev me_X12_title : Me := (RX12, il_X12_title, 3, (some .int), xRoom 2, [])
def w_X12_title_80 (n : Nat) (t0 : Int32) (u0 : Mm) (Q : Int32 → Mm → Prop) (T : Mm → Prop) : Prop :=
  Q t0 u0
def w_X12_title_48 (n : Nat) (u0 : Mm) (Q : Int32 → Mm → Prop) (T : Mm → Prop) : Prop :=
  Q (-1 : Int32) u0
def w_X12_title (n : Nat) (a0 : Int32) (a1 : Int32) (u0 : Mm) (Q : Int32 → Mm → Prop) (T : Mm → Prop) : Prop :=
  mlet (setI u0 0 0 (0 : Int32)) fun u1 =>
  ((u1.1 0 10) = 0 → w_X12_title_48 n u1 Q T) ∧
  (¬ (u1.1 0 10) = 0 → w_X12_in n (a0.toInt64) (0 : Int64) ((u1.1 0 13) - (1 : Int32)).toInt64 u1 (fun r1 u2 =>
  (r1 = 0 → w_X12_title_48 n u2 Q T) ∧
  (¬ r1 = 0 → vp_in a0 3 ∧ (w_X12_in n (a1.toInt64) (-1 : Int64) ((u2.1 5 (ix a0)) - (1 : Int32)).toInt64 u2 (fun r2 u3 =>
  (¬ r2 = 0 → (0 ≤ a1 → vp_in a0 3 ∧ (vp_in ((u3.1 4 (ix a0)) + a1) 2420 ∧ (w_X12_title_80 n ((u3.1 3 (ix ((u3.1 4 (ix a0)) + a1))) &&& (255 : Int32)) u3 Q T))) ∧
  (¬ 0 ≤ a1 → vp_in a0 3 ∧ (w_X12_title_80 n (u3.1 5 (ix a0)) u3 Q T))) ∧
  (r2 = 0 → w_X12_title_48 n u3 Q T)) T))) T)
set_option maxRecDepth 20000 in
theorem s_X12_title_80 {g : Gb} (hg : xInj g) {n : Nat} {Q : Int32 → Mm → Prop} {T : Mm → Prop} {t0 : Int32} {u0 : Mm} (h : w_X12_title_80 n t0 u0 Q T) : xE g me_X12_title (pI g Q T) 80 [] [.int t0] u0 := by
  unfold w_X12_title_80 at h
  exact e_iret (k := 48) rfl rfl (Or.inl ⟨_, rfl, h⟩)
set_option maxRecDepth 20000 in
theorem s_X12_title_48 {g : Gb} (hg : xInj g) {n : Nat} {Q : Int32 → Mm → Prop} {T : Mm → Prop} {u0 : Mm} (h : w_X12_title_48 n  u0 Q T) : xE g me_X12_title (pI g Q T) 48 [] [] u0 := by
  unfold w_X12_title_48 at h
  refine e_iconst (k := 28) (v := (-1 : Int32)) rfl (by decide) ?_
  exact e_iret (k := 29) rfl rfl (Or.inl ⟨_, rfl, h⟩)
set_option maxRecDepth 20000 in
theorem c_X12_title {g : Gb} (hg : xInj g) {n : Nat} {a0 : Int32} {a1 : Int32} {u0 : Mm} {Q : Int32 → Mm → Prop} {T : Mm → Prop} (h : w_X12_title n a0 a1 u0 Q T) : xMet (gL g) yX12_title (xws yX12_title cX12_title 3 (some .int)) (xRoom 2) (xPc g [.ref (gR g 0), .int a0, .int a1] u0) (xQ g (pI g Q T)) (xA g) := by
  refine xbody (il := il_X12_title) hg il_X12_title_ok m_X12_title (Nat.le_of_ble_eq_true rfl) ?_
  show xE g me_X12_title (pI g Q T) 0 [(0, .ref (gR g 0)), (1, .int a0), (2, .int a1)] [] u0
  unfold w_X12_title at h
  refine e_aload_n (k := 0) (i := 0) rfl rfl 0 rfl ?_
  refine e_iconst (k := 1) (v := (0 : Int32)) rfl (by decide) ?_
  refine e_putI (k := 2) rfl fg_X12_1 rfl rfl ?_
  refine e_mlet h (fun u1 h => ?_)
  refine e_aload_n (k := 3) (i := 0) rfl rfl 0 rfl ?_
  refine e_getI (k := 4) rfl f_X12_494 rfl rfl ?_
  refine e_if_eq (k := 5) (tgt := 48) rfl (by decide) (fun z => ?_) (fun z => ?_)
  · have h := h.1 z
    refine e_sub (lv' := []) [] rfl ?_
    exact s_X12_title_48 hg h
  · have h := h.2 z
    refine e_iload_n (k := 6) (i := 1) rfl rfl 1 rfl ?_
    refine e_i2l (k := 7) rfl ?_
    refine e_lconst (k := 8) (v := (0 : Int64)) rfl (by decide) ?_
    refine e_aload_n (k := 9) (i := 0) rfl rfl 0 rfl ?_
    refine e_getI (k := 10) rfl f_X12_256 rfl rfl ?_
    refine e_iconst (k := 11) (v := (1 : Int32)) rfl (by decide) ?_
    refine e_isub (k := 12) rfl ?_
    refine e_i2l (k := 13) rfl ?_
    refine e_callSi (k := 14) (As := [.long a0.toInt64, .long (0 : Int64), .long ((u1.1 0 13) - (1 : Int32)).toInt64]) (rest := []) rfl (c_X12_in (g := g) hg (n := n) h) m_X12_in st_X12_in l_X12_125 rfl rfl (Nat.le_of_ble_eq_true rfl) ⟨by decide, by decide, rfl, rfl⟩ (fun _ h => ⟨fun _ z => (by cases z), Or.inr ⟨rfl, h⟩⟩) (fun r1 u2 h => ?_)
    refine e_if_eq (k := 15) (tgt := 48) rfl (by decide) (fun z => ?_) (fun z => ?_)
    · have h := h.1 z
      refine e_sub (lv' := []) [] rfl ?_
      exact s_X12_title_48 hg h
    · have h := h.2 z
      refine e_iload_n (k := 16) (i := 2) rfl rfl 2 rfl ?_
      refine e_i2l (k := 17) rfl ?_
      refine e_ldc2 (k := 18) rfl k_X12_373 ?_
      refine e_aload_n (k := 19) (i := 0) rfl rfl 0 rfl ?_
      refine e_getC (k := 20) rfl f_X12_34 rfl rfl ?_
      refine e_iload_n (k := 21) (i := 1) rfl rfl 1 rfl ?_
      refine e_iald (k := 22) rfl rfl h.1 ?_
      have h := h.2
      refine e_iconst (k := 23) (v := (1 : Int32)) rfl (by decide) ?_
      refine e_isub (k := 24) rfl ?_
      refine e_i2l (k := 25) rfl ?_
      refine e_callSi (k := 26) (As := [.long a1.toInt64, .long (-1 : Int64), .long ((u2.1 5 (ix a0)) - (1 : Int32)).toInt64]) (rest := []) rfl (c_X12_in (g := g) hg (n := n) h) m_X12_in st_X12_in l_X12_125 rfl rfl (Nat.le_of_ble_eq_true rfl) ⟨by decide, by decide, rfl, rfl⟩ (fun _ h => ⟨fun _ z => (by cases z), Or.inr ⟨rfl, h⟩⟩) (fun r2 u3 h => ?_)
      refine e_if_ne (k := 27) (tgt := 50) rfl (by decide) (fun z => ?_) (fun z => ?_)
      · have h := h.1 z
        refine e_iload_n (k := 30) (i := 2) rfl rfl 2 rfl ?_
        refine e_if_ge (k := 31) (tgt := 63) rfl (by decide) (fun z => ?_) (fun z => ?_)
        · have h := h.1 z
          refine e_aload_n (k := 37) (i := 0) rfl rfl 0 rfl ?_
          refine e_getC (k := 38) rfl f_X12_24 rfl rfl ?_
          refine e_aload_n (k := 39) (i := 0) rfl rfl 0 rfl ?_
          refine e_getC (k := 40) rfl f_X12_30 rfl rfl ?_
          refine e_iload_n (k := 41) (i := 1) rfl rfl 1 rfl ?_
          refine e_iald (k := 42) rfl rfl h.1 ?_
          have h := h.2
          refine e_iload_n (k := 43) (i := 2) rfl rfl 2 rfl ?_
          refine e_iadd (k := 44) rfl ?_
          refine e_bald (k := 45) rfl rfl h.1 ?_
          have h := h.2
          refine e_sipush (k := 46) (v := (255 : Int32)) rfl (by decide) ?_
          refine e_iand (k := 47) rfl ?_
          refine e_sub (lv' := []) [] rfl ?_
          exact s_X12_title_80 hg h
        · have h := h.2 z
          refine e_aload_n (k := 32) (i := 0) rfl rfl 0 rfl ?_
          refine e_getC (k := 33) rfl f_X12_34 rfl rfl ?_
          refine e_iload_n (k := 34) (i := 1) rfl rfl 1 rfl ?_
          refine e_iald (k := 35) rfl rfl h.1 ?_
          have h := h.2
          refine e_goto (k := 36) (tgt := 80) rfl (by decide) ?_
          refine e_sub (lv' := []) [] rfl ?_
          exact s_X12_title_80 hg h
      · have h := h.2 z
        refine e_sub (lv' := []) [] rfl ?_
        exact s_X12_title_48 hg h
def il_X2_clear : List (Nat × Instr × Nat) := [(0, .aload_n 0, 1), (1, .iconst 0, 1), (2, .putfield 9, 3), (5, .aload_n 0, 1), (6, .invokevirtual 15, 3), (9, .aload_n 0, 1), (10, .invokevirtual 18, 3), (13, .return_, 1)]
set_option maxRecDepth 20000 in
theorem il_X2_clear_ok : ∀ x ∈ il_X2_clear, decode cX2_clear x.1 = .ok x.2 := by decide +kernel
abbrev me_X2_clear : Me := (RX2, il_X2_clear, 1, none, xRoom 2, [])
def w_X2_clear (n : Nat) (u0 : Mm) (Q : Mm → Prop) : Prop :=
  mlet (setI u0 39 3 (0 : Int32)) fun u1 =>
  w_X2_clearBroken n u1 (fun u2 =>
  w_X2_clearSigns n u2 (fun u3 =>
  Q u3))
set_option maxRecDepth 20000 in
theorem c_X2_clear {g : Gb} (hg : xInj g) {n : Nat} {u0 : Mm} {Q : Mm → Prop} (h : w_X2_clear n u0 Q) : xMet (gL g) yX2_clear (xws yX2_clear cX2_clear 1 none) (xRoom 2) (xPc g [.ref (gR g 39)] u0) (xQ g (pV g Q noT)) (xA g) := by
  refine xbody (il := il_X2_clear) hg il_X2_clear_ok m_X2_clear (Nat.le_of_ble_eq_true rfl) ?_
  show xE g me_X2_clear (pV g Q noT) 0 [(0, .ref (gR g 39))] [] u0
  unfold w_X2_clear at h
  refine e_aload_n (k := 0) (i := 0) rfl rfl 0 rfl ?_
  refine e_iconst (k := 1) (v := (0 : Int32)) rfl (by decide) ?_
  refine e_putI (k := 2) rfl fg_X2_9 rfl rfl ?_
  refine e_mlet h (fun u1 h => ?_)
  refine e_aload_n (k := 3) (i := 0) rfl rfl 0 rfl ?_
  refine e_callVv (k := 4) (q := 39) (As := []) (rest := []) rfl (c_X2_clearBroken (g := g) hg (n := n) h) m_X2_clearBroken i_X2_clearBroken l_X2_15 rfl ⟨_, rfl, rfl⟩ rfl rfl (Nat.le_of_ble_eq_true rfl) ⟨by decide, by decide, rfl, rfl⟩ (fun _ h => h.elim) (fun u2 h => ?_)
  refine e_aload_n (k := 5) (i := 0) rfl rfl 0 rfl ?_
  refine e_callVv (k := 6) (q := 39) (As := []) (rest := []) rfl (c_X2_clearSigns (g := g) hg (n := n) h) m_X2_clearSigns i_X2_clearSigns l_X2_18 rfl ⟨_, rfl, rfl⟩ rfl rfl (Nat.le_of_ble_eq_true rfl) ⟨by decide, by decide, rfl, rfl⟩ (fun _ h => h.elim) (fun u3 h => ?_)
  exact e_vret (k := 7) rfl rfl (Or.inl ⟨rfl, h⟩)
def il_X2_giveTo : List (Nat × Instr × Nat) := [(0, .aload_n 1, 1), (1, .iload_n 2, 1), (2, .bipush 11, 2), (4, .aload_n 0, 1), (5, .getfield 27, 3), (8, .invokevirtual 46, 3), (11, .aload_n 1, 1), (12, .iload_n 2, 1), (13, .bipush 12, 2), (15, .aload_n 0, 1), (16, .getfield 30, 3), (19, .invokevirtual 46, 3), (22, .aload_n 1, 1), (23, .iload_n 2, 1), (24, .bipush 13, 2), (26, .aload_n 0, 1), (27, .getfield 33, 3), (30, .invokevirtual 46, 3), (33, .aload_n 0, 1), (34, .invokevirtual 18, 3), (37, .aload_n 0, 1), (38, .invokevirtual 15, 3), (41, .aload_n 0, 1), (42, .getfield 9, 3), (45, .ifCond .le 13, 3), (48, .aload_n 0, 1), (49, .dup, 1), (50, .getfield 9, 3), (53, .iconst 1, 1), (54, .isub, 1), (55, .putfield 9, 3), (58, .return_, 1)]
set_option maxRecDepth 20000 in
theorem il_X2_giveTo_ok : ∀ x ∈ il_X2_giveTo, decode cX2_giveTo x.1 = .ok x.2 := by decide +kernel
abbrev me_X2_giveTo : Me := (RX2, il_X2_giveTo, 3, none, xRoom 2, [])
def w_X2_giveTo_58 (n : Nat) (u0 : Mm) (Q : Mm → Prop) : Prop :=
  Q u0
def w_X2_giveTo (n : Nat) (a1 : Int32) (u0 : Mm) (Q : Mm → Prop) : Prop :=
  w_X6_put n a1 (11 : Int32) (u0.1 39 0) u0 (fun u1 =>
  w_X6_put n a1 (12 : Int32) (u1.1 39 1) u1 (fun u2 =>
  w_X6_put n a1 (13 : Int32) (u2.1 39 2) u2 (fun u3 =>
  w_X2_clearSigns n u3 (fun u4 =>
  w_X2_clearBroken n u4 (fun u5 =>
  ((u5.1 39 3) ≤ 0 → w_X2_giveTo_58 n u5 Q) ∧
  (¬ (u5.1 39 3) ≤ 0 → mlet (setI u5 39 3 ((u5.1 39 3) - (1 : Int32))) fun u6 =>
  w_X2_giveTo_58 n u6 Q))))))
set_option maxRecDepth 20000 in
theorem s_X2_giveTo_58 {g : Gb} (hg : xInj g) {n : Nat} {Q : Mm → Prop} {u0 : Mm} (h : w_X2_giveTo_58 n  u0 Q) : xE g me_X2_giveTo (pV g Q noT) 58 [] [] u0 := by
  unfold w_X2_giveTo_58 at h
  exact e_vret (k := 31) rfl rfl (Or.inl ⟨rfl, h⟩)
set_option maxRecDepth 20000 in
theorem c_X2_giveTo {g : Gb} (hg : xInj g) {n : Nat} {a1 : Int32} {u0 : Mm} {Q : Mm → Prop} (h : w_X2_giveTo n a1 u0 Q) : xMet (gL g) yX2_giveTo (xws yX2_giveTo cX2_giveTo 3 none) (xRoom 2) (xPc g [.ref (gR g 39), .ref (gR g 36), .int a1] u0) (xQ g (pV g Q noT)) (xA g) := by
  refine xbody (il := il_X2_giveTo) hg il_X2_giveTo_ok m_X2_giveTo (Nat.le_of_ble_eq_true rfl) ?_
  show xE g me_X2_giveTo (pV g Q noT) 0 [(0, .ref (gR g 39)), (1, .ref (gR g 36)), (2, .int a1)] [] u0
  unfold w_X2_giveTo at h
  refine e_aload_n (k := 0) (i := 1) rfl rfl 1 rfl ?_
  refine e_iload_n (k := 1) (i := 2) rfl rfl 2 rfl ?_
  refine e_bipush (k := 2) (v := (11 : Int32)) rfl (by decide) ?_
  refine e_aload_n (k := 3) (i := 0) rfl rfl 0 rfl ?_
  refine e_getI (k := 4) rfl f_X2_27 rfl rfl ?_
  refine e_callVv (k := 5) (q := 36) (As := [.int a1, .int (11 : Int32), .int (u0.1 39 0)]) (rest := []) rfl (c_X6_put (g := g) hg (n := n) h) m_X6_put i_X6_put l_X2_46 rfl ⟨_, rfl, rfl⟩ rfl rfl (Nat.le_of_ble_eq_true rfl) ⟨by decide, by decide, rfl, rfl⟩ (fun _ h => h.elim) (fun u1 h => ?_)
  refine e_aload_n (k := 6) (i := 1) rfl rfl 1 rfl ?_
  refine e_iload_n (k := 7) (i := 2) rfl rfl 2 rfl ?_
  refine e_bipush (k := 8) (v := (12 : Int32)) rfl (by decide) ?_
  refine e_aload_n (k := 9) (i := 0) rfl rfl 0 rfl ?_
  refine e_getI (k := 10) rfl f_X2_30 rfl rfl ?_
  refine e_callVv (k := 11) (q := 36) (As := [.int a1, .int (12 : Int32), .int (u1.1 39 1)]) (rest := []) rfl (c_X6_put (g := g) hg (n := n) h) m_X6_put i_X6_put l_X2_46 rfl ⟨_, rfl, rfl⟩ rfl rfl (Nat.le_of_ble_eq_true rfl) ⟨by decide, by decide, rfl, rfl⟩ (fun _ h => h.elim) (fun u2 h => ?_)
  refine e_aload_n (k := 12) (i := 1) rfl rfl 1 rfl ?_
  refine e_iload_n (k := 13) (i := 2) rfl rfl 2 rfl ?_
  refine e_bipush (k := 14) (v := (13 : Int32)) rfl (by decide) ?_
  refine e_aload_n (k := 15) (i := 0) rfl rfl 0 rfl ?_
  refine e_getI (k := 16) rfl f_X2_33 rfl rfl ?_
  refine e_callVv (k := 17) (q := 36) (As := [.int a1, .int (13 : Int32), .int (u2.1 39 2)]) (rest := []) rfl (c_X6_put (g := g) hg (n := n) h) m_X6_put i_X6_put l_X2_46 rfl ⟨_, rfl, rfl⟩ rfl rfl (Nat.le_of_ble_eq_true rfl) ⟨by decide, by decide, rfl, rfl⟩ (fun _ h => h.elim) (fun u3 h => ?_)
  refine e_aload_n (k := 18) (i := 0) rfl rfl 0 rfl ?_
  refine e_callVv (k := 19) (q := 39) (As := []) (rest := []) rfl (c_X2_clearSigns (g := g) hg (n := n) h) m_X2_clearSigns i_X2_clearSigns l_X2_18 rfl ⟨_, rfl, rfl⟩ rfl rfl (Nat.le_of_ble_eq_true rfl) ⟨by decide, by decide, rfl, rfl⟩ (fun _ h => h.elim) (fun u4 h => ?_)
  refine e_aload_n (k := 20) (i := 0) rfl rfl 0 rfl ?_
  refine e_callVv (k := 21) (q := 39) (As := []) (rest := []) rfl (c_X2_clearBroken (g := g) hg (n := n) h) m_X2_clearBroken i_X2_clearBroken l_X2_15 rfl ⟨_, rfl, rfl⟩ rfl rfl (Nat.le_of_ble_eq_true rfl) ⟨by decide, by decide, rfl, rfl⟩ (fun _ h => h.elim) (fun u5 h => ?_)
  refine e_aload_n (k := 22) (i := 0) rfl rfl 0 rfl ?_
  refine e_getI (k := 23) rfl f_X2_9 rfl rfl ?_
  refine e_if_le (k := 24) (tgt := 58) rfl (by decide) (fun z => ?_) (fun z => ?_)
  · have h := h.1 z
    refine e_sub (lv' := []) [] rfl ?_
    exact s_X2_giveTo_58 hg h
  · have h := h.2 z
    refine e_aload_n (k := 25) (i := 0) rfl rfl 0 rfl ?_
    refine e_dup (k := 26) rfl rfl ?_
    refine e_getI (k := 27) rfl f_X2_9 rfl rfl ?_
    refine e_iconst (k := 28) (v := (1 : Int32)) rfl (by decide) ?_
    refine e_isub (k := 29) rfl ?_
    refine e_putI (k := 30) rfl fg_X2_9 rfl rfl ?_
    refine e_mlet h (fun u6 h => ?_)
    refine e_sub (lv' := []) [] rfl ?_
    exact s_X2_giveTo_58 hg h
def il_X3_play : List (Nat × Instr × Nat) := [(0, .iconst 0, 1), (1, .istore_n 3, 1), (2, .iconst 0, 1), (3, .istore 4, 2), (5, .iconst 0, 1), (6, .istore 5, 2), (8, .iconst 0, 1), (9, .istore 6, 2), (11, .iconst 0, 1), (12, .istore 7, 2), (14, .iconst 0, 1), (15, .istore 8, 2), (17, .iload_n 1, 1), (18, .aload_n 0, 1), (19, .arraylength, 1), (20, .iconst 1, 1), (21, .isub, 1), (22, .invokestatic 9, 3), (25, .istore 9, 2), (27, .iconst 0, 1), (28, .istore 10, 2), (30, .iload 10, 2), (32, .ldc 15, 2), (34, .if_icmp .ge 206, 3), (37, .iload 4, 2), (39, .ifCond .lt 201, 3), (42, .iload 4, 2), (44, .iload 9, 2), (46, .if_icmp .ge 194, 3), (49, .iload_n 3, 1), (50, .aload_n 2, 1), (51, .arraylength, 1), (52, .if_icmp .ge 188, 3), (55, .aload_n 0, 1), (56, .iload 4, 2), (58, .iaload, 1), (59, .istore 11, 2), (61, .aload_n 0, 1), (62, .iload 4, 2), (64, .iconst 1, 1), (65, .iadd, 1), (66, .iaload, 1), (67, .istore 12, 2), (69, .iload 8, 2), (71, .ifCond .ne 17, 3), (74, .iload 11, 2), (76, .iconst 1, 1), (77, .iand, 1), (78, .ifCond .eq 10, 3), (81, .iload 4, 2), (83, .istore 5, 2), (85, .iconst 0, 1), (86, .istore 6, 2), (88, .iconst 0, 1), (89, .istore 8, 2), (91, .iload 11, 2), (93, .iconst 3, 1), (94, .ishr, 1), (95, .istore 13, 2), (97, .iload 13, 2), (99, .ifCond .eq 44, 3), (102, .iload 13, 2), (104, .iconst 1, 1), (105, .if_icmp .ne 7, 3), (108, .iconst 1, 1), (109, .goto 4, 3), (112, .iconst 0, 1), (113, .iload 6, 2), (115, .if_icmp .eq 7, 3), (118, .iconst 1, 1), (119, .goto 4, 3), (122, .iconst 0, 1), (123, .istore 7, 2), (125, .iload 7, 2), (127, .ifCond .ne 16, 3), (130, .aload_n 0, 1), (131, .iload 9, 2), (133, .iload 4, 2), (135, .invokestatic 16, 3), (138, .istore 4, 2), (140, .goto 94, 3), (143, .aload_n 2, 1), (144, .iload_n 3, 1), (145, .iload 4, 2), (147, .iastore, 1), (148, .iinc 3 1, 3), (151, .iinc 4 1, 3), (154, .iload 12, 2), (156, .iconst 2, 1), (157, .iand, 1), (158, .ifCond .eq 49, 3), (161, .iload 6, 2), (163, .ifCond .ne 7, 3), (166, .iconst 1, 1), (167, .goto 4, 3), (170, .iconst 0, 1), (171, .istore 8, 2), (173, .iload 6, 2), (175, .ifCond .eq 10, 3), (178, .iload 4, 2), (180, .istore 5, 2), (182, .goto 7, 3), (185, .iload 5, 2), (187, .istore 4, 2), (189, .iload 6, 2), (191, .ifCond .ne 7, 3), (194, .iconst 1, 1), (195, .goto 4, 3), (198, .iconst 0, 1), (199, .istore 6, 2), (201, .iconst 0, 1), (202, .istore 7, 2), (204, .goto 30, 3), (207, .iload 12, 2), (209, .iconst 4, 1), (210, .iand, 1), (211, .ifCond .eq 23, 3), (214, .iload 6, 2), (216, .ifCond .eq 15, 3), (219, .iload 7, 2), (221, .ifCond .eq 10, 3), (224, .iconst 0, 1), (225, .istore 6, 2), (227, .iload 4, 2), (229, .istore 5, 2), (231, .iconst 0, 1), (232, .istore 7, 2), (234, .iinc 10 1, 3), (237, .goto (-207), 3), (240, .iload_n 3, 1), (241, .ireturn, 1)]
set_option maxRecDepth 20000 in
theorem il_X3_play_ok : ∀ x ∈ il_X3_play, decode cX3_play x.1 = .ok x.2 := by decide +kernel
abbrev me_X3_play : Me := (RX3, il_X3_play, 14, (some .int), xRoom 2, [])
def w_X3_play_240 (n : Nat) (x3 : Int32) (u0 : Mm) (Q : Int32 → Mm → Prop) : Prop :=
  Q x3 u0
def w_X3_play_234 (n : Nat) (L30 : Int32 → Int32 → Int32 → Int32 → Int32 → Int32 → Int32 → Int32 → Mm → Prop) (x3 : Int32) (x4 : Int32) (x5 : Int32) (x6 : Int32) (x7 : Int32) (x8 : Int32) (x9 : Int32) (x10 : Int32) (u0 : Mm) (Q : Int32 → Mm → Prop) : Prop :=
  L30 x3 x4 x5 x6 x7 x8 x9 (x10 + (1 : Int32)) u0
def w_X3_play_231 (n : Nat) (L30 : Int32 → Int32 → Int32 → Int32 → Int32 → Int32 → Int32 → Int32 → Mm → Prop) (x3 : Int32) (x4 : Int32) (x5 : Int32) (x6 : Int32) (x8 : Int32) (x9 : Int32) (x10 : Int32) (u0 : Mm) (Q : Int32 → Mm → Prop) : Prop :=
  w_X3_play_234 n L30 x3 x4 x5 x6 (0 : Int32) x8 x9 x10 u0 Q
def w_X3_play_199 (n : Nat) (L30 : Int32 → Int32 → Int32 → Int32 → Int32 → Int32 → Int32 → Int32 → Mm → Prop) (x3 : Int32) (x4 : Int32) (x5 : Int32) (x8 : Int32) (x9 : Int32) (x10 : Int32) (t0 : Int32) (u0 : Mm) (Q : Int32 → Mm → Prop) : Prop :=
  w_X3_play_234 n L30 x3 x4 x5 t0 (0 : Int32) x8 x9 x10 u0 Q
def w_X3_play_189 (n : Nat) (L30 : Int32 → Int32 → Int32 → Int32 → Int32 → Int32 → Int32 → Int32 → Mm → Prop) (x3 : Int32) (x4 : Int32) (x5 : Int32) (x6 : Int32) (x8 : Int32) (x9 : Int32) (x10 : Int32) (u0 : Mm) (Q : Int32 → Mm → Prop) : Prop :=
  (¬ x6 = 0 → w_X3_play_199 n L30 x3 x4 x5 x8 x9 x10 (0 : Int32) u0 Q) ∧
  (x6 = 0 → w_X3_play_199 n L30 x3 x4 x5 x8 x9 x10 (1 : Int32) u0 Q)
def w_X3_play_171 (n : Nat) (L30 : Int32 → Int32 → Int32 → Int32 → Int32 → Int32 → Int32 → Int32 → Mm → Prop) (x3 : Int32) (x4 : Int32) (x5 : Int32) (x6 : Int32) (x9 : Int32) (x10 : Int32) (t0 : Int32) (u0 : Mm) (Q : Int32 → Mm → Prop) : Prop :=
  (x6 = 0 → w_X3_play_189 n L30 x3 x5 x5 x6 t0 x9 x10 u0 Q) ∧
  (¬ x6 = 0 → w_X3_play_189 n L30 x3 x4 x4 x6 t0 x9 x10 u0 Q)
def w_X3_play_143 (n : Nat) (L30 : Int32 → Int32 → Int32 → Int32 → Int32 → Int32 → Int32 → Int32 → Mm → Prop) (x3 : Int32) (x4 : Int32) (x5 : Int32) (x6 : Int32) (x7 : Int32) (x8 : Int32) (x9 : Int32) (x10 : Int32) (x12 : Int32) (u0 : Mm) (Q : Int32 → Mm → Prop) : Prop :=
  vp_in x3 1000 ∧ (mlet (setI u0 63 (ix x3) x4) fun u1 =>
  ((x12 &&& (2 : Int32)) = 0 → ((x12 &&& (4 : Int32)) = 0 → w_X3_play_234 n L30 (x3 + (1 : Int32)) (x4 + (1 : Int32)) x5 x6 x7 x8 x9 x10 u1 Q) ∧
  (¬ (x12 &&& (4 : Int32)) = 0 → (x6 = 0 → w_X3_play_231 n L30 (x3 + (1 : Int32)) (x4 + (1 : Int32)) x5 x6 x8 x9 x10 u1 Q) ∧
  (¬ x6 = 0 → (x7 = 0 → w_X3_play_231 n L30 (x3 + (1 : Int32)) (x4 + (1 : Int32)) x5 x6 x8 x9 x10 u1 Q) ∧
  (¬ x7 = 0 → ilet (x4 + (1 : Int32)) fun y3 =>
  w_X3_play_231 n L30 (x3 + (1 : Int32)) (x4 + (1 : Int32)) y3 (0 : Int32) x8 x9 x10 u1 Q)))) ∧
  (¬ (x12 &&& (2 : Int32)) = 0 → (¬ x6 = 0 → w_X3_play_171 n L30 (x3 + (1 : Int32)) (x4 + (1 : Int32)) x5 x6 x9 x10 (0 : Int32) u1 Q) ∧
  (x6 = 0 → w_X3_play_171 n L30 (x3 + (1 : Int32)) (x4 + (1 : Int32)) x5 x6 x9 x10 (1 : Int32) u1 Q)))
def w_X3_play_123 (n : Nat) (L30 : Int32 → Int32 → Int32 → Int32 → Int32 → Int32 → Int32 → Int32 → Mm → Prop) (x3 : Int32) (x4 : Int32) (x5 : Int32) (x6 : Int32) (x8 : Int32) (x9 : Int32) (x10 : Int32) (x12 : Int32) (t0 : Int32) (u0 : Mm) (Q : Int32 → Mm → Prop) : Prop :=
  (¬ t0 = 0 → w_X3_play_143 n L30 x3 x4 x5 x6 t0 x8 x9 x10 x12 u0 Q) ∧
  (t0 = 0 → w_X3_behindStop n x9 x4 u0 (fun r1 u1 =>
  w_X3_play_234 n L30 x3 r1 x5 x6 t0 x8 x9 x10 u1 Q))
def w_X3_play_113 (n : Nat) (L30 : Int32 → Int32 → Int32 → Int32 → Int32 → Int32 → Int32 → Int32 → Mm → Prop) (x3 : Int32) (x4 : Int32) (x5 : Int32) (x6 : Int32) (x8 : Int32) (x9 : Int32) (x10 : Int32) (x12 : Int32) (t0 : Int32) (u0 : Mm) (Q : Int32 → Mm → Prop) : Prop :=
  (t0 = x6 → w_X3_play_123 n L30 x3 x4 x5 x6 x8 x9 x10 x12 (0 : Int32) u0 Q) ∧
  (¬ t0 = x6 → w_X3_play_123 n L30 x3 x4 x5 x6 x8 x9 x10 x12 (1 : Int32) u0 Q)
def w_X3_play_88 (n : Nat) (L30 : Int32 → Int32 → Int32 → Int32 → Int32 → Int32 → Int32 → Int32 → Mm → Prop) (x3 : Int32) (x4 : Int32) (x5 : Int32) (x6 : Int32) (x7 : Int32) (x9 : Int32) (x10 : Int32) (x11 : Int32) (x12 : Int32) (u0 : Mm) (Q : Int32 → Mm → Prop) : Prop :=
  ilet (x11 >>> ((3 : Int32) &&& 31)) fun y1 =>
  (y1 = 0 → w_X3_play_143 n L30 x3 x4 x5 x6 x7 (0 : Int32) x9 x10 x12 u0 Q) ∧
  (¬ y1 = 0 → (¬ y1 = (1 : Int32) → w_X3_play_113 n L30 x3 x4 x5 x6 (0 : Int32) x9 x10 x12 (0 : Int32) u0 Q) ∧
  (y1 = (1 : Int32) → w_X3_play_113 n L30 x3 x4 x5 x6 (0 : Int32) x9 x10 x12 (1 : Int32) u0 Q))
def w_X3_play_30 (n : Nat) (Q : Int32 → Mm → Prop) : Nat → Int32 → Int32 → Int32 → Int32 → Int32 → Int32 → Int32 → Int32 → Mm → Prop
  | 0, _, _, _, _, _, _, _, _, _ => False
  | k + 1, x3, x4, x5, x6, x7, x8, x9, x10, u0 =>
  ((1000000 : Int32) ≤ x10 → w_X3_play_240 n x3 u0 Q) ∧
  (¬ (1000000 : Int32) ≤ x10 → (x4 < 0 → w_X3_play_240 n x3 u0 Q) ∧
  (¬ x4 < 0 → (x9 ≤ x4 → w_X3_play_240 n x3 u0 Q) ∧
  (¬ x9 ≤ x4 → ((1000 : Int32) ≤ x3 → w_X3_play_240 n x3 u0 Q) ∧
  (¬ (1000 : Int32) ≤ x3 → vp_in x4 301 ∧ (ilet (u0.1 62 (ix x4)) fun y1 =>
  vp_in (x4 + (1 : Int32)) 301 ∧ (ilet (u0.1 62 (ix (x4 + (1 : Int32)))) fun y2 =>
  (¬ x8 = 0 → w_X3_play_88 n (w_X3_play_30 n Q k) x3 x4 x5 x6 x7 x9 x10 y1 y2 u0 Q) ∧
  (x8 = 0 → ((y1 &&& (1 : Int32)) = 0 → w_X3_play_88 n (w_X3_play_30 n Q k) x3 x4 x5 x6 x7 x9 x10 y1 y2 u0 Q) ∧
  (¬ (y1 &&& (1 : Int32)) = 0 → w_X3_play_88 n (w_X3_play_30 n Q k) x3 x4 x4 (0 : Int32) x7 x9 x10 y1 y2 u0 Q))))))))
def w_X3_play (n : Nat) (a1 : Int32) (u0 : Mm) (Q : Int32 → Mm → Prop) : Prop :=
  ilet (if ((301 : Int32) - (1 : Int32)) < a1 then ((301 : Int32) - (1 : Int32)) else a1) fun y1 =>
  (w_X3_play_30 n Q n) (0 : Int32) (0 : Int32) (0 : Int32) (0 : Int32) (0 : Int32) (0 : Int32) y1 (0 : Int32) u0
set_option maxRecDepth 20000 in
theorem s_X3_play_240 {g : Gb} (hg : xInj g) {n : Nat} {Q : Int32 → Mm → Prop} {x3 : Int32} {u0 : Mm} (h : w_X3_play_240 n x3 u0 Q) : xE g me_X3_play (pI g Q noT) 240 [(3, .int x3)] [] u0 := by
  unfold w_X3_play_240 at h
  refine e_iload_n (k := 129) (i := 3) rfl rfl 0 rfl ?_
  exact e_iret (k := 130) rfl rfl (Or.inl ⟨_, rfl, h⟩)
set_option maxRecDepth 20000 in
theorem s_X3_play_234 {g : Gb} (hg : xInj g) {n : Nat} {Q : Int32 → Mm → Prop} {L30 : Int32 → Int32 → Int32 → Int32 → Int32 → Int32 → Int32 → Int32 → Mm → Prop} (hL30 : ∀ (x3 : Int32) (x4 : Int32) (x5 : Int32) (x6 : Int32) (x7 : Int32) (x8 : Int32) (x9 : Int32) (x10 : Int32) (u0 : Mm), L30 x3 x4 x5 x6 x7 x8 x9 x10 u0 → xE g me_X3_play (pI g Q noT) 30 [(0, .ref (gR g 62)), (2, .ref (gR g 63)), (3, .int x3), (4, .int x4), (5, .int x5), (6, .int x6), (7, .int x7), (8, .int x8), (9, .int x9), (10, .int x10)] [] u0) {x3 : Int32} {x4 : Int32} {x5 : Int32} {x6 : Int32} {x7 : Int32} {x8 : Int32} {x9 : Int32} {x10 : Int32} {u0 : Mm} (h : w_X3_play_234 n L30 x3 x4 x5 x6 x7 x8 x9 x10 u0 Q) : xE g me_X3_play (pI g Q noT) 234 [(0, .ref (gR g 62)), (2, .ref (gR g 63)), (3, .int x3), (4, .int x4), (5, .int x5), (6, .int x6), (7, .int x7), (8, .int x8), (9, .int x9), (10, .int x10)] [] u0 := by
  unfold w_X3_play_234 at h
  refine e_iinc (k := 127) (i := 10) (j := 9) (v := (x10 + (1 : Int32))) (lv' := [(0, .ref (gR g 62)), (2, .ref (gR g 63)), (3, .int x3), (4, .int x4), (5, .int x5), (6, .int x6), (7, .int x7), (8, .int x8), (9, .int x9), (10, .int (x10 + (1 : Int32)))]) rfl rfl rfl (by decide) [1, 2, 3, 4, 5, 6, 7, 8, 9, 0] rfl ?_
  refine e_goto (k := 128) (tgt := 30) rfl (by decide) ?_
  exact hL30 x3 x4 x5 x6 x7 x8 x9 (x10 + (1 : Int32)) u0 h
set_option maxRecDepth 20000 in
theorem s_X3_play_231 {g : Gb} (hg : xInj g) {n : Nat} {Q : Int32 → Mm → Prop} {L30 : Int32 → Int32 → Int32 → Int32 → Int32 → Int32 → Int32 → Int32 → Mm → Prop} (hL30 : ∀ (x3 : Int32) (x4 : Int32) (x5 : Int32) (x6 : Int32) (x7 : Int32) (x8 : Int32) (x9 : Int32) (x10 : Int32) (u0 : Mm), L30 x3 x4 x5 x6 x7 x8 x9 x10 u0 → xE g me_X3_play (pI g Q noT) 30 [(0, .ref (gR g 62)), (2, .ref (gR g 63)), (3, .int x3), (4, .int x4), (5, .int x5), (6, .int x6), (7, .int x7), (8, .int x8), (9, .int x9), (10, .int x10)] [] u0) {x3 : Int32} {x4 : Int32} {x5 : Int32} {x6 : Int32} {x8 : Int32} {x9 : Int32} {x10 : Int32} {u0 : Mm} (h : w_X3_play_231 n L30 x3 x4 x5 x6 x8 x9 x10 u0 Q) : xE g me_X3_play (pI g Q noT) 231 [(0, .ref (gR g 62)), (2, .ref (gR g 63)), (3, .int x3), (4, .int x4), (5, .int x5), (6, .int x6), (8, .int x8), (9, .int x9), (10, .int x10)] [] u0 := by
  unfold w_X3_play_231 at h
  refine e_iconst (k := 125) (v := (0 : Int32)) rfl (by decide) ?_
  refine e_istore (k := 126) (i := 7) (lv' := [(0, .ref (gR g 62)), (2, .ref (gR g 63)), (3, .int x3), (4, .int x4), (5, .int x5), (6, .int x6), (7, .int (0 : Int32)), (8, .int x8), (9, .int x9), (10, .int x10)]) rfl (by decide) [1, 2, 3, 4, 5, 6, 0, 7, 8, 9] rfl ?_
  exact s_X3_play_234 hg hL30 h
set_option maxRecDepth 20000 in
theorem s_X3_play_199 {g : Gb} (hg : xInj g) {n : Nat} {Q : Int32 → Mm → Prop} {L30 : Int32 → Int32 → Int32 → Int32 → Int32 → Int32 → Int32 → Int32 → Mm → Prop} (hL30 : ∀ (x3 : Int32) (x4 : Int32) (x5 : Int32) (x6 : Int32) (x7 : Int32) (x8 : Int32) (x9 : Int32) (x10 : Int32) (u0 : Mm), L30 x3 x4 x5 x6 x7 x8 x9 x10 u0 → xE g me_X3_play (pI g Q noT) 30 [(0, .ref (gR g 62)), (2, .ref (gR g 63)), (3, .int x3), (4, .int x4), (5, .int x5), (6, .int x6), (7, .int x7), (8, .int x8), (9, .int x9), (10, .int x10)] [] u0) {x3 : Int32} {x4 : Int32} {x5 : Int32} {x8 : Int32} {x9 : Int32} {x10 : Int32} {t0 : Int32} {u0 : Mm} (h : w_X3_play_199 n L30 x3 x4 x5 x8 x9 x10 t0 u0 Q) : xE g me_X3_play (pI g Q noT) 199 [(0, .ref (gR g 62)), (2, .ref (gR g 63)), (3, .int x3), (4, .int x4), (5, .int x5), (8, .int x8), (9, .int x9), (10, .int x10)] [.int t0] u0 := by
  unfold w_X3_play_199 at h
  refine e_istore (k := 109) (i := 6) (lv' := [(0, .ref (gR g 62)), (2, .ref (gR g 63)), (3, .int x3), (4, .int x4), (5, .int x5), (6, .int t0), (8, .int x8), (9, .int x9), (10, .int x10)]) rfl (by decide) [1, 2, 3, 4, 5, 0, 6, 7, 8] rfl ?_
  refine e_iconst (k := 110) (v := (0 : Int32)) rfl (by decide) ?_
  refine e_istore (k := 111) (i := 7) (lv' := [(0, .ref (gR g 62)), (2, .ref (gR g 63)), (3, .int x3), (4, .int x4), (5, .int x5), (6, .int t0), (7, .int (0 : Int32)), (8, .int x8), (9, .int x9), (10, .int x10)]) rfl (by decide) [1, 2, 3, 4, 5, 6, 0, 7, 8, 9] rfl ?_
  refine e_goto (k := 112) (tgt := 234) rfl (by decide) ?_
  exact s_X3_play_234 hg hL30 h
set_option maxRecDepth 20000 in
theorem s_X3_play_189 {g : Gb} (hg : xInj g) {n : Nat} {Q : Int32 → Mm → Prop} {L30 : Int32 → Int32 → Int32 → Int32 → Int32 → Int32 → Int32 → Int32 → Mm → Prop} (hL30 : ∀ (x3 : Int32) (x4 : Int32) (x5 : Int32) (x6 : Int32) (x7 : Int32) (x8 : Int32) (x9 : Int32) (x10 : Int32) (u0 : Mm), L30 x3 x4 x5 x6 x7 x8 x9 x10 u0 → xE g me_X3_play (pI g Q noT) 30 [(0, .ref (gR g 62)), (2, .ref (gR g 63)), (3, .int x3), (4, .int x4), (5, .int x5), (6, .int x6), (7, .int x7), (8, .int x8), (9, .int x9), (10, .int x10)] [] u0) {x3 : Int32} {x4 : Int32} {x5 : Int32} {x6 : Int32} {x8 : Int32} {x9 : Int32} {x10 : Int32} {u0 : Mm} (h : w_X3_play_189 n L30 x3 x4 x5 x6 x8 x9 x10 u0 Q) : xE g me_X3_play (pI g Q noT) 189 [(0, .ref (gR g 62)), (2, .ref (gR g 63)), (3, .int x3), (4, .int x4), (5, .int x5), (6, .int x6), (8, .int x8), (9, .int x9), (10, .int x10)] [] u0 := by
  unfold w_X3_play_189 at h
  refine e_iload (k := 104) (i := 6) rfl 5 rfl ?_
  refine e_if_ne (k := 105) (tgt := 198) rfl (by decide) (fun z => ?_) (fun z => ?_)
  · have h := h.1 z
    refine e_iconst (k := 108) (v := (0 : Int32)) rfl (by decide) ?_
    refine e_sub (lv' := [(0, .ref (gR g 62)), (2, .ref (gR g 63)), (3, .int x3), (4, .int x4), (5, .int x5), (8, .int x8), (9, .int x9), (10, .int x10)]) [0, 1, 2, 3, 4, 6, 7, 8] rfl ?_
    exact s_X3_play_199 hg hL30 h
  · have h := h.2 z
    refine e_iconst (k := 106) (v := (1 : Int32)) rfl (by decide) ?_
    refine e_goto (k := 107) (tgt := 199) rfl (by decide) ?_
    refine e_sub (lv' := [(0, .ref (gR g 62)), (2, .ref (gR g 63)), (3, .int x3), (4, .int x4), (5, .int x5), (8, .int x8), (9, .int x9), (10, .int x10)]) [0, 1, 2, 3, 4, 6, 7, 8] rfl ?_
    exact s_X3_play_199 hg hL30 h
set_option maxRecDepth 20000 in
theorem s_X3_play_171 {g : Gb} (hg : xInj g) {n : Nat} {Q : Int32 → Mm → Prop} {L30 : Int32 → Int32 → Int32 → Int32 → Int32 → Int32 → Int32 → Int32 → Mm → Prop} (hL30 : ∀ (x3 : Int32) (x4 : Int32) (x5 : Int32) (x6 : Int32) (x7 : Int32) (x8 : Int32) (x9 : Int32) (x10 : Int32) (u0 : Mm), L30 x3 x4 x5 x6 x7 x8 x9 x10 u0 → xE g me_X3_play (pI g Q noT) 30 [(0, .ref (gR g 62)), (2, .ref (gR g 63)), (3, .int x3), (4, .int x4), (5, .int x5), (6, .int x6), (7, .int x7), (8, .int x8), (9, .int x9), (10, .int x10)] [] u0) {x3 : Int32} {x4 : Int32} {x5 : Int32} {x6 : Int32} {x9 : Int32} {x10 : Int32} {t0 : Int32} {u0 : Mm} (h : w_X3_play_171 n L30 x3 x4 x5 x6 x9 x10 t0 u0 Q) : xE g me_X3_play (pI g Q noT) 171 [(0, .ref (gR g 62)), (2, .ref (gR g 63)), (3, .int x3), (4, .int x4), (5, .int x5), (6, .int x6), (9, .int x9), (10, .int x10)] [.int t0] u0 := by
  unfold w_X3_play_171 at h
  refine e_istore (k := 96) (i := 8) (lv' := [(0, .ref (gR g 62)), (2, .ref (gR g 63)), (3, .int x3), (4, .int x4), (5, .int x5), (6, .int x6), (8, .int t0), (9, .int x9), (10, .int x10)]) rfl (by decide) [1, 2, 3, 4, 5, 6, 0, 7, 8] rfl ?_
  refine e_iload (k := 97) (i := 6) rfl 5 rfl ?_
  refine e_if_eq (k := 98) (tgt := 185) rfl (by decide) (fun z => ?_) (fun z => ?_)
  · have h := h.1 z
    refine e_iload (k := 102) (i := 5) rfl 4 rfl ?_
    refine e_istore (k := 103) (i := 4) (lv' := [(0, .ref (gR g 62)), (2, .ref (gR g 63)), (3, .int x3), (4, .int x5), (5, .int x5), (6, .int x6), (8, .int t0), (9, .int x9), (10, .int x10)]) rfl (by decide) [1, 2, 3, 0, 4, 5, 6, 7, 8] rfl ?_
    exact s_X3_play_189 hg hL30 h
  · have h := h.2 z
    refine e_iload (k := 99) (i := 4) rfl 3 rfl ?_
    refine e_istore (k := 100) (i := 5) (lv' := [(0, .ref (gR g 62)), (2, .ref (gR g 63)), (3, .int x3), (4, .int x4), (5, .int x4), (6, .int x6), (8, .int t0), (9, .int x9), (10, .int x10)]) rfl (by decide) [1, 2, 3, 4, 0, 5, 6, 7, 8] rfl ?_
    refine e_goto (k := 101) (tgt := 189) rfl (by decide) ?_
    exact s_X3_play_189 hg hL30 h
set_option maxRecDepth 20000 in
theorem s_X3_play_143 {g : Gb} (hg : xInj g) {n : Nat} {Q : Int32 → Mm → Prop} {L30 : Int32 → Int32 → Int32 → Int32 → Int32 → Int32 → Int32 → Int32 → Mm → Prop} (hL30 : ∀ (x3 : Int32) (x4 : Int32) (x5 : Int32) (x6 : Int32) (x7 : Int32) (x8 : Int32) (x9 : Int32) (x10 : Int32) (u0 : Mm), L30 x3 x4 x5 x6 x7 x8 x9 x10 u0 → xE g me_X3_play (pI g Q noT) 30 [(0, .ref (gR g 62)), (2, .ref (gR g 63)), (3, .int x3), (4, .int x4), (5, .int x5), (6, .int x6), (7, .int x7), (8, .int x8), (9, .int x9), (10, .int x10)] [] u0) {x3 : Int32} {x4 : Int32} {x5 : Int32} {x6 : Int32} {x7 : Int32} {x8 : Int32} {x9 : Int32} {x10 : Int32} {x12 : Int32} {u0 : Mm} (h : w_X3_play_143 n L30 x3 x4 x5 x6 x7 x8 x9 x10 x12 u0 Q) : xE g me_X3_play (pI g Q noT) 143 [(0, .ref (gR g 62)), (2, .ref (gR g 63)), (3, .int x3), (4, .int x4), (5, .int x5), (6, .int x6), (7, .int x7), (8, .int x8), (9, .int x9), (10, .int x10), (12, .int x12)] [] u0 := by
  unfold w_X3_play_143 at h
  refine e_aload_n (k := 81) (i := 2) rfl rfl 1 rfl ?_
  refine e_iload_n (k := 82) (i := 3) rfl rfl 2 rfl ?_
  refine e_iload (k := 83) (i := 4) rfl 3 rfl ?_
  refine e_iast (k := 84) rfl rfl h.1 ?_
  have h := h.2
  refine e_mlet h (fun u1 h => ?_)
  refine e_iinc (k := 85) (i := 3) (j := 2) (v := (x3 + (1 : Int32))) (lv' := [(0, .ref (gR g 62)), (2, .ref (gR g 63)), (3, .int (x3 + (1 : Int32))), (4, .int x4), (5, .int x5), (6, .int x6), (7, .int x7), (8, .int x8), (9, .int x9), (10, .int x10), (12, .int x12)]) rfl rfl rfl (by decide) [1, 2, 0, 3, 4, 5, 6, 7, 8, 9, 10] rfl ?_
  refine e_iinc (k := 86) (i := 4) (j := 3) (v := (x4 + (1 : Int32))) (lv' := [(0, .ref (gR g 62)), (2, .ref (gR g 63)), (3, .int (x3 + (1 : Int32))), (4, .int (x4 + (1 : Int32))), (5, .int x5), (6, .int x6), (7, .int x7), (8, .int x8), (9, .int x9), (10, .int x10), (12, .int x12)]) rfl rfl rfl (by decide) [1, 2, 3, 0, 4, 5, 6, 7, 8, 9, 10] rfl ?_
  refine e_iload (k := 87) (i := 12) rfl 10 rfl ?_
  refine e_iconst (k := 88) (v := (2 : Int32)) rfl (by decide) ?_
  refine e_iand (k := 89) rfl ?_
  refine e_if_eq (k := 90) (tgt := 207) rfl (by decide) (fun z => ?_) (fun z => ?_)
  · have h := h.1 z
    refine e_iload (k := 113) (i := 12) rfl 10 rfl ?_
    refine e_iconst (k := 114) (v := (4 : Int32)) rfl (by decide) ?_
    refine e_iand (k := 115) rfl ?_
    refine e_if_eq (k := 116) (tgt := 234) rfl (by decide) (fun z => ?_) (fun z => ?_)
    · have h := h.1 z
      refine e_sub (lv' := [(0, .ref (gR g 62)), (2, .ref (gR g 63)), (3, .int (x3 + (1 : Int32))), (4, .int (x4 + (1 : Int32))), (5, .int x5), (6, .int x6), (7, .int x7), (8, .int x8), (9, .int x9), (10, .int x10)]) [0, 1, 2, 3, 4, 5, 6, 7, 8, 9] rfl ?_
      exact s_X3_play_234 hg hL30 h
    · have h := h.2 z
      refine e_iload (k := 117) (i := 6) rfl 5 rfl ?_
      refine e_if_eq (k := 118) (tgt := 231) rfl (by decide) (fun z => ?_) (fun z => ?_)
      · have h := h.1 z
        refine e_sub (lv' := [(0, .ref (gR g 62)), (2, .ref (gR g 63)), (3, .int (x3 + (1 : Int32))), (4, .int (x4 + (1 : Int32))), (5, .int x5), (6, .int x6), (8, .int x8), (9, .int x9), (10, .int x10)]) [0, 1, 2, 3, 4, 5, 7, 8, 9] rfl ?_
        exact s_X3_play_231 hg hL30 h
      · have h := h.2 z
        refine e_iload (k := 119) (i := 7) rfl 6 rfl ?_
        refine e_if_eq (k := 120) (tgt := 231) rfl (by decide) (fun z => ?_) (fun z => ?_)
        · have h := h.1 z
          refine e_sub (lv' := [(0, .ref (gR g 62)), (2, .ref (gR g 63)), (3, .int (x3 + (1 : Int32))), (4, .int (x4 + (1 : Int32))), (5, .int x5), (6, .int x6), (8, .int x8), (9, .int x9), (10, .int x10)]) [0, 1, 2, 3, 4, 5, 7, 8, 9] rfl ?_
          exact s_X3_play_231 hg hL30 h
        · have h := h.2 z
          refine e_iconst (k := 121) (v := (0 : Int32)) rfl (by decide) ?_
          refine e_istore (k := 122) (i := 6) (lv' := [(0, .ref (gR g 62)), (2, .ref (gR g 63)), (3, .int (x3 + (1 : Int32))), (4, .int (x4 + (1 : Int32))), (5, .int x5), (6, .int (0 : Int32)), (7, .int x7), (8, .int x8), (9, .int x9), (10, .int x10), (12, .int x12)]) rfl (by decide) [1, 2, 3, 4, 5, 0, 6, 7, 8, 9, 10] rfl ?_
          refine e_iload (k := 123) (i := 4) rfl 3 rfl ?_
          refine e_ilet h (fun y3 h => ?_)
          refine e_istore (k := 124) (i := 5) (lv' := [(0, .ref (gR g 62)), (2, .ref (gR g 63)), (3, .int (x3 + (1 : Int32))), (4, .int (x4 + (1 : Int32))), (5, .int y3), (6, .int (0 : Int32)), (7, .int x7), (8, .int x8), (9, .int x9), (10, .int x10), (12, .int x12)]) rfl (by decide) [1, 2, 3, 4, 0, 5, 6, 7, 8, 9, 10] rfl ?_
          refine e_sub (lv' := [(0, .ref (gR g 62)), (2, .ref (gR g 63)), (3, .int (x3 + (1 : Int32))), (4, .int (x4 + (1 : Int32))), (5, .int y3), (6, .int (0 : Int32)), (8, .int x8), (9, .int x9), (10, .int x10)]) [0, 1, 2, 3, 4, 5, 7, 8, 9] rfl ?_
          exact s_X3_play_231 hg hL30 h
  · have h := h.2 z
    refine e_iload (k := 91) (i := 6) rfl 5 rfl ?_
    refine e_if_ne (k := 92) (tgt := 170) rfl (by decide) (fun z => ?_) (fun z => ?_)
    · have h := h.1 z
      refine e_iconst (k := 95) (v := (0 : Int32)) rfl (by decide) ?_
      refine e_sub (lv' := [(0, .ref (gR g 62)), (2, .ref (gR g 63)), (3, .int (x3 + (1 : Int32))), (4, .int (x4 + (1 : Int32))), (5, .int x5), (6, .int x6), (9, .int x9), (10, .int x10)]) [0, 1, 2, 3, 4, 5, 8, 9] rfl ?_
      exact s_X3_play_171 hg hL30 h
    · have h := h.2 z
      refine e_iconst (k := 93) (v := (1 : Int32)) rfl (by decide) ?_
      refine e_goto (k := 94) (tgt := 171) rfl (by decide) ?_
      refine e_sub (lv' := [(0, .ref (gR g 62)), (2, .ref (gR g 63)), (3, .int (x3 + (1 : Int32))), (4, .int (x4 + (1 : Int32))), (5, .int x5), (6, .int x6), (9, .int x9), (10, .int x10)]) [0, 1, 2, 3, 4, 5, 8, 9] rfl ?_
      exact s_X3_play_171 hg hL30 h
set_option maxRecDepth 20000 in
theorem s_X3_play_123 {g : Gb} (hg : xInj g) {n : Nat} {Q : Int32 → Mm → Prop} {L30 : Int32 → Int32 → Int32 → Int32 → Int32 → Int32 → Int32 → Int32 → Mm → Prop} (hL30 : ∀ (x3 : Int32) (x4 : Int32) (x5 : Int32) (x6 : Int32) (x7 : Int32) (x8 : Int32) (x9 : Int32) (x10 : Int32) (u0 : Mm), L30 x3 x4 x5 x6 x7 x8 x9 x10 u0 → xE g me_X3_play (pI g Q noT) 30 [(0, .ref (gR g 62)), (2, .ref (gR g 63)), (3, .int x3), (4, .int x4), (5, .int x5), (6, .int x6), (7, .int x7), (8, .int x8), (9, .int x9), (10, .int x10)] [] u0) {x3 : Int32} {x4 : Int32} {x5 : Int32} {x6 : Int32} {x8 : Int32} {x9 : Int32} {x10 : Int32} {x12 : Int32} {t0 : Int32} {u0 : Mm} (h : w_X3_play_123 n L30 x3 x4 x5 x6 x8 x9 x10 x12 t0 u0 Q) : xE g me_X3_play (pI g Q noT) 123 [(0, .ref (gR g 62)), (2, .ref (gR g 63)), (3, .int x3), (4, .int x4), (5, .int x5), (6, .int x6), (8, .int x8), (9, .int x9), (10, .int x10), (12, .int x12)] [.int t0] u0 := by
  unfold w_X3_play_123 at h
  refine e_istore (k := 72) (i := 7) (lv' := [(0, .ref (gR g 62)), (2, .ref (gR g 63)), (3, .int x3), (4, .int x4), (5, .int x5), (6, .int x6), (7, .int t0), (8, .int x8), (9, .int x9), (10, .int x10), (12, .int x12)]) rfl (by decide) [1, 2, 3, 4, 5, 6, 0, 7, 8, 9, 10] rfl ?_
  refine e_iload (k := 73) (i := 7) rfl 6 rfl ?_
  refine e_if_ne (k := 74) (tgt := 143) rfl (by decide) (fun z => ?_) (fun z => ?_)
  · have h := h.1 z
    exact s_X3_play_143 hg hL30 h
  · have h := h.2 z
    refine e_aload_n (k := 75) (i := 0) rfl rfl 0 rfl ?_
    refine e_iload (k := 76) (i := 9) rfl 8 rfl ?_
    refine e_iload (k := 77) (i := 4) rfl 3 rfl ?_
    refine e_callSi (k := 78) (As := [.ref (gR g 62), .int x9, .int x4]) (rest := []) rfl (c_X3_behindStop (g := g) hg (n := n) h) m_X3_behindStop st_X3_behindStop l_X3_16 rfl rfl (Nat.le_of_ble_eq_true rfl) ⟨by decide, by decide, rfl, rfl⟩ (fun _ h => h.elim) (fun r1 u1 h => ?_)
    refine e_istore (k := 79) (i := 4) (lv' := [(0, .ref (gR g 62)), (2, .ref (gR g 63)), (3, .int x3), (4, .int r1), (5, .int x5), (6, .int x6), (7, .int t0), (8, .int x8), (9, .int x9), (10, .int x10), (12, .int x12)]) rfl (by decide) [1, 2, 3, 0, 4, 5, 6, 7, 8, 9, 10] rfl ?_
    refine e_goto (k := 80) (tgt := 234) rfl (by decide) ?_
    refine e_sub (lv' := [(0, .ref (gR g 62)), (2, .ref (gR g 63)), (3, .int x3), (4, .int r1), (5, .int x5), (6, .int x6), (7, .int t0), (8, .int x8), (9, .int x9), (10, .int x10)]) [0, 1, 2, 3, 4, 5, 6, 7, 8, 9] rfl ?_
    exact s_X3_play_234 hg hL30 h
set_option maxRecDepth 20000 in
theorem s_X3_play_113 {g : Gb} (hg : xInj g) {n : Nat} {Q : Int32 → Mm → Prop} {L30 : Int32 → Int32 → Int32 → Int32 → Int32 → Int32 → Int32 → Int32 → Mm → Prop} (hL30 : ∀ (x3 : Int32) (x4 : Int32) (x5 : Int32) (x6 : Int32) (x7 : Int32) (x8 : Int32) (x9 : Int32) (x10 : Int32) (u0 : Mm), L30 x3 x4 x5 x6 x7 x8 x9 x10 u0 → xE g me_X3_play (pI g Q noT) 30 [(0, .ref (gR g 62)), (2, .ref (gR g 63)), (3, .int x3), (4, .int x4), (5, .int x5), (6, .int x6), (7, .int x7), (8, .int x8), (9, .int x9), (10, .int x10)] [] u0) {x3 : Int32} {x4 : Int32} {x5 : Int32} {x6 : Int32} {x8 : Int32} {x9 : Int32} {x10 : Int32} {x12 : Int32} {t0 : Int32} {u0 : Mm} (h : w_X3_play_113 n L30 x3 x4 x5 x6 x8 x9 x10 x12 t0 u0 Q) : xE g me_X3_play (pI g Q noT) 113 [(0, .ref (gR g 62)), (2, .ref (gR g 63)), (3, .int x3), (4, .int x4), (5, .int x5), (6, .int x6), (8, .int x8), (9, .int x9), (10, .int x10), (12, .int x12)] [.int t0] u0 := by
  unfold w_X3_play_113 at h
  refine e_iload (k := 67) (i := 6) rfl 5 rfl ?_
  refine e_icmp_eq (k := 68) (tgt := 122) rfl (by decide) (fun z => ?_) (fun z => ?_)
  · have h := h.1 z
    refine e_iconst (k := 71) (v := (0 : Int32)) rfl (by decide) ?_
    exact s_X3_play_123 hg hL30 h
  · have h := h.2 z
    refine e_iconst (k := 69) (v := (1 : Int32)) rfl (by decide) ?_
    refine e_goto (k := 70) (tgt := 123) rfl (by decide) ?_
    exact s_X3_play_123 hg hL30 h
set_option maxRecDepth 20000 in
theorem s_X3_play_88 {g : Gb} (hg : xInj g) {n : Nat} {Q : Int32 → Mm → Prop} {L30 : Int32 → Int32 → Int32 → Int32 → Int32 → Int32 → Int32 → Int32 → Mm → Prop} (hL30 : ∀ (x3 : Int32) (x4 : Int32) (x5 : Int32) (x6 : Int32) (x7 : Int32) (x8 : Int32) (x9 : Int32) (x10 : Int32) (u0 : Mm), L30 x3 x4 x5 x6 x7 x8 x9 x10 u0 → xE g me_X3_play (pI g Q noT) 30 [(0, .ref (gR g 62)), (2, .ref (gR g 63)), (3, .int x3), (4, .int x4), (5, .int x5), (6, .int x6), (7, .int x7), (8, .int x8), (9, .int x9), (10, .int x10)] [] u0) {x3 : Int32} {x4 : Int32} {x5 : Int32} {x6 : Int32} {x7 : Int32} {x9 : Int32} {x10 : Int32} {x11 : Int32} {x12 : Int32} {u0 : Mm} (h : w_X3_play_88 n L30 x3 x4 x5 x6 x7 x9 x10 x11 x12 u0 Q) : xE g me_X3_play (pI g Q noT) 88 [(0, .ref (gR g 62)), (2, .ref (gR g 63)), (3, .int x3), (4, .int x4), (5, .int x5), (6, .int x6), (7, .int x7), (9, .int x9), (10, .int x10), (11, .int x11), (12, .int x12)] [] u0 := by
  unfold w_X3_play_88 at h
  refine e_iconst (k := 53) (v := (0 : Int32)) rfl (by decide) ?_
  refine e_istore (k := 54) (i := 8) (lv' := [(0, .ref (gR g 62)), (2, .ref (gR g 63)), (3, .int x3), (4, .int x4), (5, .int x5), (6, .int x6), (7, .int x7), (8, .int (0 : Int32)), (9, .int x9), (10, .int x10), (11, .int x11), (12, .int x12)]) rfl (by decide) [1, 2, 3, 4, 5, 6, 7, 0, 8, 9, 10, 11] rfl ?_
  refine e_iload (k := 55) (i := 11) rfl 10 rfl ?_
  refine e_iconst (k := 56) (v := (3 : Int32)) rfl (by decide) ?_
  refine e_ishr (k := 57) rfl ?_
  refine e_ilet h (fun y1 h => ?_)
  refine e_istore (k := 58) (i := 13) (lv' := [(0, .ref (gR g 62)), (2, .ref (gR g 63)), (3, .int x3), (4, .int x4), (5, .int x5), (6, .int x6), (7, .int x7), (8, .int (0 : Int32)), (9, .int x9), (10, .int x10), (11, .int x11), (12, .int x12), (13, .int y1)]) rfl (by decide) [1, 2, 3, 4, 5, 6, 7, 8, 9, 10, 11, 12, 0] rfl ?_
  refine e_iload (k := 59) (i := 13) rfl 12 rfl ?_
  refine e_if_eq (k := 60) (tgt := 143) rfl (by decide) (fun z => ?_) (fun z => ?_)
  · have h := h.1 z
    refine e_sub (lv' := [(0, .ref (gR g 62)), (2, .ref (gR g 63)), (3, .int x3), (4, .int x4), (5, .int x5), (6, .int x6), (7, .int x7), (8, .int (0 : Int32)), (9, .int x9), (10, .int x10), (12, .int x12)]) [0, 1, 2, 3, 4, 5, 6, 7, 8, 9, 11] rfl ?_
    exact s_X3_play_143 hg hL30 h
  · have h := h.2 z
    refine e_iload (k := 61) (i := 13) rfl 12 rfl ?_
    refine e_iconst (k := 62) (v := (1 : Int32)) rfl (by decide) ?_
    refine e_icmp_ne (k := 63) (tgt := 112) rfl (by decide) (fun z => ?_) (fun z => ?_)
    · have h := h.1 z
      refine e_iconst (k := 66) (v := (0 : Int32)) rfl (by decide) ?_
      refine e_sub (lv' := [(0, .ref (gR g 62)), (2, .ref (gR g 63)), (3, .int x3), (4, .int x4), (5, .int x5), (6, .int x6), (8, .int (0 : Int32)), (9, .int x9), (10, .int x10), (12, .int x12)]) [0, 1, 2, 3, 4, 5, 7, 8, 9, 11] rfl ?_
      exact s_X3_play_113 hg hL30 h
    · have h := h.2 z
      refine e_iconst (k := 64) (v := (1 : Int32)) rfl (by decide) ?_
      refine e_goto (k := 65) (tgt := 113) rfl (by decide) ?_
      refine e_sub (lv' := [(0, .ref (gR g 62)), (2, .ref (gR g 63)), (3, .int x3), (4, .int x4), (5, .int x5), (6, .int x6), (8, .int (0 : Int32)), (9, .int x9), (10, .int x10), (12, .int x12)]) [0, 1, 2, 3, 4, 5, 7, 8, 9, 11] rfl ?_
      exact s_X3_play_113 hg hL30 h
set_option maxRecDepth 20000 in
theorem s_X3_play_30 {g : Gb} (hg : xInj g) {n : Nat} {Q : Int32 → Mm → Prop} : ∀ (k : Nat) (x3 : Int32) (x4 : Int32) (x5 : Int32) (x6 : Int32) (x7 : Int32) (x8 : Int32) (x9 : Int32) (x10 : Int32) (u0 : Mm), w_X3_play_30 n Q k x3 x4 x5 x6 x7 x8 x9 x10 u0 → xE g me_X3_play (pI g Q noT) 30 [(0, .ref (gR g 62)), (2, .ref (gR g 63)), (3, .int x3), (4, .int x4), (5, .int x5), (6, .int x6), (7, .int x7), (8, .int x8), (9, .int x9), (10, .int x10)] [] u0 := by
  intro k
  induction k with
  | zero => intro x3 x4 x5 x6 x7 x8 x9 x10 u0 h; exact h.elim
  | succ k ih =>
    intro x3 x4 x5 x6 x7 x8 x9 x10 u0 h
    unfold w_X3_play_30 at h
    refine e_iload (k := 21) (i := 10) rfl 9 rfl ?_
    refine e_ldc (k := 22) rfl k_X3_15 ?_
    refine e_icmp_ge (k := 23) (tgt := 240) rfl (by decide) (fun z => ?_) (fun z => ?_)
    · have h := h.1 z
      refine e_sub (lv' := [(3, .int x3)]) [2] rfl ?_
      exact s_X3_play_240 hg h
    · have h := h.2 z
      refine e_iload (k := 24) (i := 4) rfl 3 rfl ?_
      refine e_if_lt (k := 25) (tgt := 240) rfl (by decide) (fun z => ?_) (fun z => ?_)
      · have h := h.1 z
        refine e_sub (lv' := [(3, .int x3)]) [2] rfl ?_
        exact s_X3_play_240 hg h
      · have h := h.2 z
        refine e_iload (k := 26) (i := 4) rfl 3 rfl ?_
        refine e_iload (k := 27) (i := 9) rfl 8 rfl ?_
        refine e_icmp_ge (k := 28) (tgt := 240) rfl (by decide) (fun z => ?_) (fun z => ?_)
        · have h := h.1 z
          refine e_sub (lv' := [(3, .int x3)]) [2] rfl ?_
          exact s_X3_play_240 hg h
        · have h := h.2 z
          refine e_iload_n (k := 29) (i := 3) rfl rfl 2 rfl ?_
          refine e_aload_n (k := 30) (i := 2) rfl rfl 1 rfl ?_
          refine e_alen (k := 31) (v := (1000 : Int32)) rfl rfl (by decide) (by decide) ?_
          refine e_icmp_ge (k := 32) (tgt := 240) rfl (by decide) (fun z => ?_) (fun z => ?_)
          · have h := h.1 z
            refine e_sub (lv' := [(3, .int x3)]) [2] rfl ?_
            exact s_X3_play_240 hg h
          · have h := h.2 z
            refine e_aload_n (k := 33) (i := 0) rfl rfl 0 rfl ?_
            refine e_iload (k := 34) (i := 4) rfl 3 rfl ?_
            refine e_iald (k := 35) rfl rfl h.1 ?_
            have h := h.2
            refine e_ilet h (fun y1 h => ?_)
            refine e_istore (k := 36) (i := 11) (lv' := [(0, .ref (gR g 62)), (2, .ref (gR g 63)), (3, .int x3), (4, .int x4), (5, .int x5), (6, .int x6), (7, .int x7), (8, .int x8), (9, .int x9), (10, .int x10), (11, .int y1)]) rfl (by decide) [1, 2, 3, 4, 5, 6, 7, 8, 9, 10, 0] rfl ?_
            refine e_aload_n (k := 37) (i := 0) rfl rfl 0 rfl ?_
            refine e_iload (k := 38) (i := 4) rfl 3 rfl ?_
            refine e_iconst (k := 39) (v := (1 : Int32)) rfl (by decide) ?_
            refine e_iadd (k := 40) rfl ?_
            refine e_iald (k := 41) rfl rfl h.1 ?_
            have h := h.2
            refine e_ilet h (fun y2 h => ?_)
            refine e_istore (k := 42) (i := 12) (lv' := [(0, .ref (gR g 62)), (2, .ref (gR g 63)), (3, .int x3), (4, .int x4), (5, .int x5), (6, .int x6), (7, .int x7), (8, .int x8), (9, .int x9), (10, .int x10), (11, .int y1), (12, .int y2)]) rfl (by decide) [1, 2, 3, 4, 5, 6, 7, 8, 9, 10, 11, 0] rfl ?_
            refine e_iload (k := 43) (i := 8) rfl 7 rfl ?_
            refine e_if_ne (k := 44) (tgt := 88) rfl (by decide) (fun z => ?_) (fun z => ?_)
            · have h := h.1 z
              refine e_sub (lv' := [(0, .ref (gR g 62)), (2, .ref (gR g 63)), (3, .int x3), (4, .int x4), (5, .int x5), (6, .int x6), (7, .int x7), (9, .int x9), (10, .int x10), (11, .int y1), (12, .int y2)]) [0, 1, 2, 3, 4, 5, 6, 8, 9, 10, 11] rfl ?_
              exact s_X3_play_88 hg ih h
            · have h := h.2 z
              refine e_iload (k := 45) (i := 11) rfl 10 rfl ?_
              refine e_iconst (k := 46) (v := (1 : Int32)) rfl (by decide) ?_
              refine e_iand (k := 47) rfl ?_
              refine e_if_eq (k := 48) (tgt := 88) rfl (by decide) (fun z => ?_) (fun z => ?_)
              · have h := h.1 z
                refine e_sub (lv' := [(0, .ref (gR g 62)), (2, .ref (gR g 63)), (3, .int x3), (4, .int x4), (5, .int x5), (6, .int x6), (7, .int x7), (9, .int x9), (10, .int x10), (11, .int y1), (12, .int y2)]) [0, 1, 2, 3, 4, 5, 6, 8, 9, 10, 11] rfl ?_
                exact s_X3_play_88 hg ih h
              · have h := h.2 z
                refine e_iload (k := 49) (i := 4) rfl 3 rfl ?_
                refine e_istore (k := 50) (i := 5) (lv' := [(0, .ref (gR g 62)), (2, .ref (gR g 63)), (3, .int x3), (4, .int x4), (5, .int x4), (6, .int x6), (7, .int x7), (8, .int x8), (9, .int x9), (10, .int x10), (11, .int y1), (12, .int y2)]) rfl (by decide) [1, 2, 3, 4, 0, 5, 6, 7, 8, 9, 10, 11] rfl ?_
                refine e_iconst (k := 51) (v := (0 : Int32)) rfl (by decide) ?_
                refine e_istore (k := 52) (i := 6) (lv' := [(0, .ref (gR g 62)), (2, .ref (gR g 63)), (3, .int x3), (4, .int x4), (5, .int x4), (6, .int (0 : Int32)), (7, .int x7), (8, .int x8), (9, .int x9), (10, .int x10), (11, .int y1), (12, .int y2)]) rfl (by decide) [1, 2, 3, 4, 5, 0, 6, 7, 8, 9, 10, 11] rfl ?_
                refine e_sub (lv' := [(0, .ref (gR g 62)), (2, .ref (gR g 63)), (3, .int x3), (4, .int x4), (5, .int x4), (6, .int (0 : Int32)), (7, .int x7), (9, .int x9), (10, .int x10), (11, .int y1), (12, .int y2)]) [0, 1, 2, 3, 4, 5, 6, 8, 9, 10, 11] rfl ?_
                exact s_X3_play_88 hg ih h
set_option maxRecDepth 20000 in
theorem c_X3_play {g : Gb} (hg : xInj g) {n : Nat} {a1 : Int32} {u0 : Mm} {Q : Int32 → Mm → Prop} (h : w_X3_play n a1 u0 Q) : xMet (gL g) yX3_play (xws yX3_play cX3_play 14 (some .int)) (xRoom 2) (xPc g [.ref (gR g 62), .int a1, .ref (gR g 63)] u0) (xQ g (pI g Q noT)) (xA g) := by
  refine xbody (il := il_X3_play) hg il_X3_play_ok m_X3_play (Nat.le_of_ble_eq_true rfl) ?_
  show xE g me_X3_play (pI g Q noT) 0 [(0, .ref (gR g 62)), (1, .int a1), (2, .ref (gR g 63))] [] u0
  unfold w_X3_play at h
  refine e_iconst (k := 0) (v := (0 : Int32)) rfl (by decide) ?_
  refine e_istore_n (k := 1) (i := 3) (lv' := [(0, .ref (gR g 62)), (1, .int a1), (2, .ref (gR g 63)), (3, .int (0 : Int32))]) rfl rfl (by decide) [1, 2, 3, 0] rfl ?_
  refine e_iconst (k := 2) (v := (0 : Int32)) rfl (by decide) ?_
  refine e_istore (k := 3) (i := 4) (lv' := [(0, .ref (gR g 62)), (1, .int a1), (2, .ref (gR g 63)), (3, .int (0 : Int32)), (4, .int (0 : Int32))]) rfl (by decide) [1, 2, 3, 4, 0] rfl ?_
  refine e_iconst (k := 4) (v := (0 : Int32)) rfl (by decide) ?_
  refine e_istore (k := 5) (i := 5) (lv' := [(0, .ref (gR g 62)), (1, .int a1), (2, .ref (gR g 63)), (3, .int (0 : Int32)), (4, .int (0 : Int32)), (5, .int (0 : Int32))]) rfl (by decide) [1, 2, 3, 4, 5, 0] rfl ?_
  refine e_iconst (k := 6) (v := (0 : Int32)) rfl (by decide) ?_
  refine e_istore (k := 7) (i := 6) (lv' := [(0, .ref (gR g 62)), (1, .int a1), (2, .ref (gR g 63)), (3, .int (0 : Int32)), (4, .int (0 : Int32)), (5, .int (0 : Int32)), (6, .int (0 : Int32))]) rfl (by decide) [1, 2, 3, 4, 5, 6, 0] rfl ?_
  refine e_iconst (k := 8) (v := (0 : Int32)) rfl (by decide) ?_
  refine e_istore (k := 9) (i := 7) (lv' := [(0, .ref (gR g 62)), (1, .int a1), (2, .ref (gR g 63)), (3, .int (0 : Int32)), (4, .int (0 : Int32)), (5, .int (0 : Int32)), (6, .int (0 : Int32)), (7, .int (0 : Int32))]) rfl (by decide) [1, 2, 3, 4, 5, 6, 7, 0] rfl ?_
  refine e_iconst (k := 10) (v := (0 : Int32)) rfl (by decide) ?_
  refine e_istore (k := 11) (i := 8) (lv' := [(0, .ref (gR g 62)), (1, .int a1), (2, .ref (gR g 63)), (3, .int (0 : Int32)), (4, .int (0 : Int32)), (5, .int (0 : Int32)), (6, .int (0 : Int32)), (7, .int (0 : Int32)), (8, .int (0 : Int32))]) rfl (by decide) [1, 2, 3, 4, 5, 6, 7, 8, 0] rfl ?_
  refine e_iload_n (k := 12) (i := 1) rfl rfl 1 rfl ?_
  refine e_aload_n (k := 13) (i := 0) rfl rfl 0 rfl ?_
  refine e_alen (k := 14) (v := (301 : Int32)) rfl rfl (by decide) (by decide) ?_
  refine e_iconst (k := 15) (v := (1 : Int32)) rfl (by decide) ?_
  refine e_isub (k := 16) rfl ?_
  refine e_mmin (k := 17) rfl l_X3_9 st_J9_min_7cf53 h9_ini h9_min (by decide) (Nat.le_of_ble_eq_true rfl) ?_
  refine e_ilet h (fun y1 h => ?_)
  refine e_istore (k := 18) (i := 9) (lv' := [(0, .ref (gR g 62)), (1, .int a1), (2, .ref (gR g 63)), (3, .int (0 : Int32)), (4, .int (0 : Int32)), (5, .int (0 : Int32)), (6, .int (0 : Int32)), (7, .int (0 : Int32)), (8, .int (0 : Int32)), (9, .int y1)]) rfl (by decide) [1, 2, 3, 4, 5, 6, 7, 8, 9, 0] rfl ?_
  refine e_iconst (k := 19) (v := (0 : Int32)) rfl (by decide) ?_
  refine e_istore (k := 20) (i := 10) (lv' := [(0, .ref (gR g 62)), (1, .int a1), (2, .ref (gR g 63)), (3, .int (0 : Int32)), (4, .int (0 : Int32)), (5, .int (0 : Int32)), (6, .int (0 : Int32)), (7, .int (0 : Int32)), (8, .int (0 : Int32)), (9, .int y1), (10, .int (0 : Int32))]) rfl (by decide) [1, 2, 3, 4, 5, 6, 7, 8, 9, 10, 0] rfl ?_
  refine e_sub (lv' := [(0, .ref (gR g 62)), (2, .ref (gR g 63)), (3, .int (0 : Int32)), (4, .int (0 : Int32)), (5, .int (0 : Int32)), (6, .int (0 : Int32)), (7, .int (0 : Int32)), (8, .int (0 : Int32)), (9, .int y1), (10, .int (0 : Int32))]) [0, 2, 3, 4, 5, 6, 7, 8, 9, 10] rfl ?_
  exact s_X3_play_30 hg n (0 : Int32) (0 : Int32) (0 : Int32) (0 : Int32) (0 : Int32) (0 : Int32) y1 (0 : Int32) u0 h
def il_X4_addThing : List (Nat × Instr × Nat) := [(0, .aload_n 0, 1), (1, .getfield 29, 3), (4, .iload_n 1, 1), (5, .iload_n 2, 1), (6, .invokevirtual 186, 3), (9, .istore_n 3, 1), (10, .iload_n 3, 1), (11, .ifCond .ge 14, 3), (14, .aload_n 0, 1), (15, .getfield 9, 3), (18, .iconst 2, 1), (19, .iload_n 2, 1), (20, .invokevirtual 93, 3), (23, .iconst (-1), 1), (24, .ireturn, 1), (25, .aload_n 0, 1), (26, .getfield 29, 3), (29, .iload_n 3, 1), (30, .iconst 1, 1), (31, .aload_n 0, 1), (32, .getfield 114, 3), (35, .invokevirtual 180, 3), (38, .aload_n 0, 1), (39, .getfield 29, 3), (42, .iload_n 3, 1), (43, .iconst 2, 1), (44, .aload_n 0, 1), (45, .getfield 48, 3), (48, .invokevirtual 189, 3), (51, .invokevirtual 180, 3), (54, .aload_n 0, 1), (55, .getfield 29, 3), (58, .iload_n 3, 1), (59, .bipush 17, 2), (61, .aload_n 0, 1), (62, .getfield 48, 3), (65, .getfield 163, 3), (68, .invokevirtual 180, 3), (71, .aload_n 0, 1), (72, .getfield 29, 3), (75, .iload_n 3, 1), (76, .aload_n 0, 1), (77, .getfield 48, 3), (80, .getfield 192, 3), (83, .invokevirtual 196, 3), (86, .iload_n 3, 1), (87, .ireturn, 1)]
set_option maxRecDepth 20000 in
theorem il_X4_addThing_ok : ∀ x ∈ il_X4_addThing, decode cX4_addThing x.1 = .ok x.2 := by decide +kernel
abbrev me_X4_addThing : Me := (RX4, il_X4_addThing, 4, (some .int), xRoom 2, [])
def w_X4_addThing (n : Nat) (a0 : Int32) (a1 : Int32) (u0 : Mm) (Q : Int32 → Mm → Prop) : Prop :=
  w_X6_add n a0 a1 u0 (fun r1 u1 =>
  (0 ≤ r1 → w_X6_put n r1 (1 : Int32) (u1.1 38 9) u1 (fun u2 =>
  w_X8_measureHere n (u2.2.2 2) u2 (fun r2 u3 =>
  w_X6_put n r1 (2 : Int32) r2 u3 (fun u4 =>
  w_X6_put n r1 (17 : Int32) (u4.1 (u4.2.2 2) 10) u4 (fun u5 =>
  w_X6_setBegin n r1 (u5.2.1 (u5.2.2 2) 6) u5 (fun u6 =>
  Q r1 u6)))))) ∧
  (¬ 0 ≤ r1 → w_X5_fail n (2 : Int32) a1 u1 (fun u7 =>
  Q (-1 : Int32) u7)))
set_option maxRecDepth 20000 in
theorem c_X4_addThing {g : Gb} (hg : xInj g) {n : Nat} {a0 : Int32} {a1 : Int32} {u0 : Mm} {Q : Int32 → Mm → Prop} (h : w_X4_addThing n a0 a1 u0 Q) : xMet (gL g) yX4_addThing (xws yX4_addThing cX4_addThing 4 (some .int)) (xRoom 2) (xPc g [.ref (gR g 38), .int a0, .int a1] u0) (xQ g (pI g Q noT)) (xA g) := by
  refine xbody (il := il_X4_addThing) hg il_X4_addThing_ok m_X4_addThing (Nat.le_of_ble_eq_true rfl) ?_
  show xE g me_X4_addThing (pI g Q noT) 0 [(0, .ref (gR g 38)), (1, .int a0), (2, .int a1)] [] u0
  unfold w_X4_addThing at h
  refine e_aload_n (k := 0) (i := 0) rfl rfl 0 rfl ?_
  refine e_getC (k := 1) rfl f_X4_29 rfl rfl ?_
  refine e_iload_n (k := 2) (i := 1) rfl rfl 1 rfl ?_
  refine e_iload_n (k := 3) (i := 2) rfl rfl 2 rfl ?_
  refine e_callVi (k := 4) (q := 36) (As := [.int a0, .int a1]) (rest := []) rfl (c_X6_add (g := g) hg (n := n) h) m_X6_add i_X6_add l_X4_186 rfl ⟨_, rfl, rfl⟩ rfl rfl (Nat.le_of_ble_eq_true rfl) ⟨by decide, by decide, rfl, rfl⟩ (fun _ h => h.elim) (fun r1 u1 h => ?_)
  refine e_istore_n (k := 5) (i := 3) (lv' := [(0, .ref (gR g 38)), (1, .int a0), (2, .int a1), (3, .int r1)]) rfl rfl (by decide) [1, 2, 3, 0] rfl ?_
  refine e_iload_n (k := 6) (i := 3) rfl rfl 3 rfl ?_
  refine e_if_ge (k := 7) (tgt := 25) rfl (by decide) (fun z => ?_) (fun z => ?_)
  · have h := h.1 z
    refine e_aload_n (k := 15) (i := 0) rfl rfl 0 rfl ?_
    refine e_getC (k := 16) rfl f_X4_29 rfl rfl ?_
    refine e_iload_n (k := 17) (i := 3) rfl rfl 3 rfl ?_
    refine e_iconst (k := 18) (v := (1 : Int32)) rfl (by decide) ?_
    refine e_aload_n (k := 19) (i := 0) rfl rfl 0 rfl ?_
    refine e_getI (k := 20) rfl f_X4_114 rfl rfl ?_
    refine e_callVv (k := 21) (q := 36) (As := [.int r1, .int (1 : Int32), .int (u1.1 38 9)]) (rest := []) rfl (c_X6_put (g := g) hg (n := n) h) m_X6_put i_X6_put l_X4_180 rfl ⟨_, rfl, rfl⟩ rfl rfl (Nat.le_of_ble_eq_true rfl) ⟨by decide, by decide, rfl, rfl⟩ (fun _ h => h.elim) (fun u2 h => ?_)
    refine e_aload_n (k := 22) (i := 0) rfl rfl 0 rfl ?_
    refine e_getC (k := 23) rfl f_X4_29 rfl rfl ?_
    refine e_iload_n (k := 24) (i := 3) rfl rfl 3 rfl ?_
    refine e_iconst (k := 25) (v := (2 : Int32)) rfl (by decide) ?_
    refine e_aload_n (k := 26) (i := 0) rfl rfl 0 rfl ?_
    refine e_getP (k := 27) rfl f_X4_48 rfl rfl (fun ty1 => ?_)
    refine e_callVi (k := 28) (q := (u2.2.2 2)) (As := []) (rest := [.int (2 : Int32), .int r1, .ref (gR g 36)]) rfl (c_X8_measureHere (g := g) hg (n := n) ty1.2.2 h) m_X8_measureHere i_X8_measureHere l_X4_189 ty1.2.2 ⟨_, rfl, rfl⟩ rfl rfl (Nat.le_of_ble_eq_true rfl) ⟨by decide, by decide, rfl, rfl⟩ (fun _ h => h.elim) (fun r2 u3 h => ?_)
    refine e_callVv (k := 29) (q := 36) (As := [.int r1, .int (2 : Int32), .int r2]) (rest := []) rfl (c_X6_put (g := g) hg (n := n) h) m_X6_put i_X6_put l_X4_180 rfl ⟨_, rfl, rfl⟩ rfl rfl (Nat.le_of_ble_eq_true rfl) ⟨by decide, by decide, rfl, rfl⟩ (fun _ h => h.elim) (fun u4 h => ?_)
    refine e_aload_n (k := 30) (i := 0) rfl rfl 0 rfl ?_
    refine e_getC (k := 31) rfl f_X4_29 rfl rfl ?_
    refine e_iload_n (k := 32) (i := 3) rfl rfl 3 rfl ?_
    refine e_bipush (k := 33) (v := (17 : Int32)) rfl (by decide) ?_
    refine e_aload_n (k := 34) (i := 0) rfl rfl 0 rfl ?_
    refine e_getP (k := 35) rfl f_X4_48 rfl rfl (fun ty2 => ?_)
    refine e_getI (k := 36) rfl f_X4_163 ty2.2.2 rfl ?_
    refine e_callVv (k := 37) (q := 36) (As := [.int r1, .int (17 : Int32), .int (u4.1 (u4.2.2 2) 10)]) (rest := []) rfl (c_X6_put (g := g) hg (n := n) h) m_X6_put i_X6_put l_X4_180 rfl ⟨_, rfl, rfl⟩ rfl rfl (Nat.le_of_ble_eq_true rfl) ⟨by decide, by decide, rfl, rfl⟩ (fun _ h => h.elim) (fun u5 h => ?_)
    refine e_aload_n (k := 38) (i := 0) rfl rfl 0 rfl ?_
    refine e_getC (k := 39) rfl f_X4_29 rfl rfl ?_
    refine e_iload_n (k := 40) (i := 3) rfl rfl 3 rfl ?_
    refine e_aload_n (k := 41) (i := 0) rfl rfl 0 rfl ?_
    refine e_getP (k := 42) rfl f_X4_48 rfl rfl (fun ty3 => ?_)
    refine e_getJ (k := 43) rfl f_X4_192 ty3.2.2 rfl ?_
    refine e_callVv (k := 44) (q := 36) (As := [.int r1, .long (u5.2.1 (u5.2.2 2) 6)]) (rest := []) rfl (c_X6_setBegin (g := g) hg (n := n) h) m_X6_setBegin i_X6_setBegin l_X4_196 rfl ⟨_, rfl, rfl⟩ rfl rfl (Nat.le_of_ble_eq_true rfl) ⟨by decide, by decide, rfl, rfl⟩ (fun _ h => h.elim) (fun u6 h => ?_)
    refine e_iload_n (k := 45) (i := 3) rfl rfl 3 rfl ?_
    exact e_iret (k := 46) rfl rfl (Or.inl ⟨_, rfl, h⟩)
  · have h := h.2 z
    refine e_aload_n (k := 8) (i := 0) rfl rfl 0 rfl ?_
    refine e_getC (k := 9) rfl f_X4_9 rfl rfl ?_
    refine e_iconst (k := 10) (v := (2 : Int32)) rfl (by decide) ?_
    refine e_iload_n (k := 11) (i := 2) rfl rfl 2 rfl ?_
    refine e_callVv (k := 12) (q := 33) (As := [.int (2 : Int32), .int a1]) (rest := []) rfl (c_X5_fail (g := g) hg (n := n) h) m_X5_fail i_X5_fail l_X4_93 rfl ⟨_, rfl, rfl⟩ rfl rfl (Nat.le_of_ble_eq_true rfl) ⟨by decide, by decide, rfl, rfl⟩ (fun _ h => h.elim) (fun u7 h => ?_)
    refine e_iconst (k := 13) (v := (-1 : Int32)) rfl (by decide) ?_
    exact e_iret (k := 14) rfl rfl (Or.inl ⟨_, rfl, h⟩)
def il_X4_changeLatest : List (Nat × Instr × Nat) := [(0, .iload_n 2, 1), (1, .iconst 1, 1), (2, .if_icmp .ge 4, 3), (5, .return_, 1), (6, .aload_n 0, 1), (7, .getfield 29, 3), (10, .aload_n 0, 1), (11, .getfield 72, 3), (14, .invokevirtual 324, 3), (17, .lstore_n 3, 1), (18, .iconst 0, 1), (19, .istore 5, 2), (21, .iload 5, 2), (23, .aload_n 0, 1), (24, .getfield 75, 3), (27, .if_icmp .ge 95, 3), (30, .iload 5, 2), (32, .bipush 12, 2), (34, .if_icmp .ge 88, 3), (37, .aload_n 0, 1), (38, .getfield 72, 3), (41, .iload 5, 2), (43, .iadd, 1), (44, .istore 6, 2), (46, .aload_n 0, 1), (47, .getfield 29, 3), (50, .iload 6, 2), (52, .invokevirtual 324, 3), (55, .iload_n 1, 1), (56, .i2l, 1), (57, .lmul, 1), (58, .lstore 7, 2), (60, .lload 7, 2), (62, .iload_n 2, 1), (63, .i2l, 1), (64, .lrem, 1), (65, .lconst 0, 1), (66, .lcmp, 1), (67, .ifCond .ne 15, 3), (70, .lload 7, 2), (72, .iload_n 2, 1), (73, .i2l, 1), (74, .ldiv, 1), (75, .ldc2_w 379, 3), (78, .lcmp, 1), (79, .ifCond .le 23, 3), (82, .aload_n 0, 1), (83, .getfield 9, 3), (86, .iconst 4, 1), (87, .aload_n 0, 1), (88, .getfield 29, 3), (91, .iload 6, 2), (93, .bipush 16, 2), (95, .invokevirtual 301, 3), (98, .invokevirtual 93, 3), (101, .return_, 1), (102, .aload_n 0, 1), (103, .getfield 29, 3), (106, .iload 6, 2), (108, .lload 7, 2), (110, .iload_n 2, 1), (111, .i2l, 1), (112, .ldiv, 1), (113, .invokevirtual 317, 3), (116, .iinc 5 1, 3), (119, .goto (-98), 3), (122, .aload_n 0, 1), (123, .getfield 48, 3), (126, .aload_n 0, 1), (127, .getfield 29, 3), (130, .aload_n 0, 1), (131, .getfield 72, 3), (134, .invokevirtual 324, 3), (137, .lload_n 3, 1), (138, .lsub, 1), (139, .invokevirtual 328, 3), (142, .return_, 1)]
set_option maxRecDepth 20000 in
theorem il_X4_changeLatest_ok : ∀ x ∈ il_X4_changeLatest, decode cX4_changeLatest x.1 = .ok x.2 := by decide +kernel
abbrev me_X4_changeLatest : Me := (RX4, il_X4_changeLatest, 9, none, xRoom 2, [])
def w_X4_changeLatest_122 (n : Nat) (x3 : Int64) (u0 : Mm) (Q : Mm → Prop) : Prop :=
  w_X6_ticksOf n (u0.1 38 12) u0 (fun r1 u1 =>
  w_X8_spend n (u0.2.2 2) (r1 - x3) u1 (fun u2 =>
  Q u2))
def w_X4_changeLatest_82 (n : Nat) (L21 : Int32 → Int32 → Int64 → Int32 → Mm → Prop) (x6 : Int32) (u0 : Mm) (Q : Mm → Prop) : Prop :=
  w_X6_cell n x6 (16 : Int32) u0 (fun r1 u1 =>
  w_X5_fail n (4 : Int32) r1 u1 (fun u2 =>
  Q u2))
def w_X4_changeLatest_21 (n : Nat) (Q : Mm → Prop) : Nat → Int32 → Int32 → Int64 → Int32 → Mm → Prop
  | 0, _, _, _, _, _ => False
  | k + 1, x1, x2, x3, x5, u0 =>
  ((u0.1 38 13) ≤ x5 → w_X4_changeLatest_122 n x3 u0 Q) ∧
  (¬ (u0.1 38 13) ≤ x5 → ((12 : Int32) ≤ x5 → w_X4_changeLatest_122 n x3 u0 Q) ∧
  (¬ (12 : Int32) ≤ x5 → ilet ((u0.1 38 12) + x5) fun y1 =>
  w_X6_ticksOf n y1 u0 (fun r1 u1 =>
  jlet (r1 * x1.toInt64) fun y2 =>
  ¬ x2.toInt64 = 0 ∧ ((¬ (lg_cmp (y2 - y2 / x2.toInt64 * x2.toInt64) (0 : Int64)) = 0 → w_X4_changeLatest_82 n (w_X4_changeLatest_21 n Q k) y1 u1 Q) ∧
  ((lg_cmp (y2 - y2 / x2.toInt64 * x2.toInt64) (0 : Int64)) = 0 → ¬ x2.toInt64 = 0 ∧ (((lg_cmp (y2 / x2.toInt64) (10321920 : Int64)) ≤ 0 → ¬ x2.toInt64 = 0 ∧ (w_X6_setTicks n y1 (y2 / x2.toInt64) u1 (fun u2 =>
  (w_X4_changeLatest_21 n Q k) x1 x2 x3 (x5 + (1 : Int32)) u2))) ∧
  (¬ (lg_cmp (y2 / x2.toInt64) (10321920 : Int64)) ≤ 0 → w_X4_changeLatest_82 n (w_X4_changeLatest_21 n Q k) y1 u1 Q)))))))
def w_X4_changeLatest (n : Nat) (a0 : Int32) (a1 : Int32) (u0 : Mm) (Q : Mm → Prop) : Prop :=
  ((1 : Int32) ≤ a1 → w_X6_ticksOf n (u0.1 38 12) u0 (fun r1 u1 =>
  (w_X4_changeLatest_21 n Q n) a0 a1 r1 (0 : Int32) u1)) ∧
  (¬ (1 : Int32) ≤ a1 → Q u0)
set_option maxRecDepth 20000 in
theorem s_X4_changeLatest_122 {g : Gb} (hg : xInj g) {n : Nat} {Q : Mm → Prop} {x3 : Int64} {u0 : Mm} (h : w_X4_changeLatest_122 n x3 u0 Q) : xE g me_X4_changeLatest (pV g Q noT) 122 [(0, .ref (gR g 38)), (3, .long x3)] [] u0 := by
  unfold w_X4_changeLatest_122 at h
  refine e_aload_n (k := 66) (i := 0) rfl rfl 0 rfl ?_
  refine e_getP (k := 67) rfl f_X4_48 rfl rfl (fun ty1 => ?_)
  refine e_aload_n (k := 68) (i := 0) rfl rfl 0 rfl ?_
  refine e_getC (k := 69) rfl f_X4_29 rfl rfl ?_
  refine e_aload_n (k := 70) (i := 0) rfl rfl 0 rfl ?_
  refine e_getI (k := 71) rfl f_X4_72 rfl rfl ?_
  refine e_callVl (k := 72) (q := 36) (As := [.int (u0.1 38 12)]) (rest := [.ref (gR g (u0.2.2 2))]) rfl (c_X6_ticksOf (g := g) hg (n := n) h) m_X6_ticksOf i_X6_ticksOf l_X4_324 rfl ⟨_, rfl, rfl⟩ rfl rfl (Nat.le_of_ble_eq_true rfl) ⟨by decide, by decide, rfl, rfl⟩ (fun _ h => h.elim) (fun r1 u1 h => ?_)
  refine e_lload_n (k := 73) (i := 3) rfl rfl 1 rfl ?_
  refine e_lsub (k := 74) rfl ?_
  refine e_callVv (k := 75) (q := (u0.2.2 2)) (As := [.long (r1 - x3)]) (rest := []) rfl (c_X8_spend (g := g) hg (n := n) ty1.2.2 h) m_X8_spend i_X8_spend l_X4_328 ty1.2.2 ⟨_, rfl, rfl⟩ rfl rfl (Nat.le_of_ble_eq_true rfl) ⟨by decide, by decide, rfl, rfl⟩ (fun _ h => h.elim) (fun u2 h => ?_)
  exact e_vret (k := 76) rfl rfl (Or.inl ⟨rfl, h⟩)
set_option maxRecDepth 20000 in
theorem s_X4_changeLatest_82 {g : Gb} (hg : xInj g) {n : Nat} {Q : Mm → Prop} {L21 : Int32 → Int32 → Int64 → Int32 → Mm → Prop} (hL21 : ∀ (x1 : Int32) (x2 : Int32) (x3 : Int64) (x5 : Int32) (u0 : Mm), L21 x1 x2 x3 x5 u0 → xE g me_X4_changeLatest (pV g Q noT) 21 [(0, .ref (gR g 38)), (1, .int x1), (2, .int x2), (3, .long x3), (5, .int x5)] [] u0) {x6 : Int32} {u0 : Mm} (h : w_X4_changeLatest_82 n L21 x6 u0 Q) : xE g me_X4_changeLatest (pV g Q noT) 82 [(0, .ref (gR g 38)), (6, .int x6)] [] u0 := by
  unfold w_X4_changeLatest_82 at h
  refine e_aload_n (k := 46) (i := 0) rfl rfl 0 rfl ?_
  refine e_getC (k := 47) rfl f_X4_9 rfl rfl ?_
  refine e_iconst (k := 48) (v := (4 : Int32)) rfl (by decide) ?_
  refine e_aload_n (k := 49) (i := 0) rfl rfl 0 rfl ?_
  refine e_getC (k := 50) rfl f_X4_29 rfl rfl ?_
  refine e_iload (k := 51) (i := 6) rfl 1 rfl ?_
  refine e_bipush (k := 52) (v := (16 : Int32)) rfl (by decide) ?_
  refine e_callVi (k := 53) (q := 36) (As := [.int x6, .int (16 : Int32)]) (rest := [.int (4 : Int32), .ref (gR g 33)]) rfl (c_X6_cell (g := g) hg (n := n) h) m_X6_cell i_X6_cell l_X4_301 rfl ⟨_, rfl, rfl⟩ rfl rfl (Nat.le_of_ble_eq_true rfl) ⟨by decide, by decide, rfl, rfl⟩ (fun _ h => h.elim) (fun r1 u1 h => ?_)
  refine e_callVv (k := 54) (q := 33) (As := [.int (4 : Int32), .int r1]) (rest := []) rfl (c_X5_fail (g := g) hg (n := n) h) m_X5_fail i_X5_fail l_X4_93 rfl ⟨_, rfl, rfl⟩ rfl rfl (Nat.le_of_ble_eq_true rfl) ⟨by decide, by decide, rfl, rfl⟩ (fun _ h => h.elim) (fun u2 h => ?_)
  exact e_vret (k := 55) rfl rfl (Or.inl ⟨rfl, h⟩)
set_option maxRecDepth 20000 in
theorem s_X4_changeLatest_21 {g : Gb} (hg : xInj g) {n : Nat} {Q : Mm → Prop} : ∀ (k : Nat) (x1 : Int32) (x2 : Int32) (x3 : Int64) (x5 : Int32) (u0 : Mm), w_X4_changeLatest_21 n Q k x1 x2 x3 x5 u0 → xE g me_X4_changeLatest (pV g Q noT) 21 [(0, .ref (gR g 38)), (1, .int x1), (2, .int x2), (3, .long x3), (5, .int x5)] [] u0 := by
  intro k
  induction k with
  | zero => intro x1 x2 x3 x5 u0 h; exact h.elim
  | succ k ih =>
    intro x1 x2 x3 x5 u0 h
    unfold w_X4_changeLatest_21 at h
    refine e_iload (k := 12) (i := 5) rfl 4 rfl ?_
    refine e_aload_n (k := 13) (i := 0) rfl rfl 0 rfl ?_
    refine e_getI (k := 14) rfl f_X4_75 rfl rfl ?_
    refine e_icmp_ge (k := 15) (tgt := 122) rfl (by decide) (fun z => ?_) (fun z => ?_)
    · have h := h.1 z
      refine e_sub (lv' := [(0, .ref (gR g 38)), (3, .long x3)]) [0, 3] rfl ?_
      exact s_X4_changeLatest_122 hg h
    · have h := h.2 z
      refine e_iload (k := 16) (i := 5) rfl 4 rfl ?_
      refine e_bipush (k := 17) (v := (12 : Int32)) rfl (by decide) ?_
      refine e_icmp_ge (k := 18) (tgt := 122) rfl (by decide) (fun z => ?_) (fun z => ?_)
      · have h := h.1 z
        refine e_sub (lv' := [(0, .ref (gR g 38)), (3, .long x3)]) [0, 3] rfl ?_
        exact s_X4_changeLatest_122 hg h
      · have h := h.2 z
        refine e_aload_n (k := 19) (i := 0) rfl rfl 0 rfl ?_
        refine e_getI (k := 20) rfl f_X4_72 rfl rfl ?_
        refine e_iload (k := 21) (i := 5) rfl 4 rfl ?_
        refine e_iadd (k := 22) rfl ?_
        refine e_ilet h (fun y1 h => ?_)
        refine e_istore (k := 23) (i := 6) (lv' := [(0, .ref (gR g 38)), (1, .int x1), (2, .int x2), (3, .long x3), (5, .int x5), (6, .int y1)]) rfl (by decide) [1, 2, 3, 4, 5, 0] rfl ?_
        refine e_aload_n (k := 24) (i := 0) rfl rfl 0 rfl ?_
        refine e_getC (k := 25) rfl f_X4_29 rfl rfl ?_
        refine e_iload (k := 26) (i := 6) rfl 5 rfl ?_
        refine e_callVl (k := 27) (q := 36) (As := [.int y1]) (rest := []) rfl (c_X6_ticksOf (g := g) hg (n := n) h) m_X6_ticksOf i_X6_ticksOf l_X4_324 rfl ⟨_, rfl, rfl⟩ rfl rfl (Nat.le_of_ble_eq_true rfl) ⟨by decide, by decide, rfl, rfl⟩ (fun _ h => h.elim) (fun r1 u1 h => ?_)
        refine e_iload_n (k := 28) (i := 1) rfl rfl 1 rfl ?_
        refine e_i2l (k := 29) rfl ?_
        refine e_lmul (k := 30) rfl ?_
        refine e_jlet h (fun y2 h => ?_)
        refine e_lstore (k := 31) (i := 7) (lv' := [(0, .ref (gR g 38)), (1, .int x1), (2, .int x2), (3, .long x3), (5, .int x5), (6, .int y1), (7, .long y2)]) rfl (by decide) [1, 2, 3, 4, 5, 6, 0] rfl ?_
        refine e_lload (k := 32) (i := 7) rfl 6 rfl ?_
        refine e_iload_n (k := 33) (i := 2) rfl rfl 2 rfl ?_
        refine e_i2l (k := 34) rfl ?_
        refine e_lrem (k := 35) rfl h.1 ?_
        have h := h.2
        refine e_lconst (k := 36) (v := (0 : Int64)) rfl (by decide) ?_
        refine e_lcmp (k := 37) rfl ?_
        refine e_if_ne (k := 38) (tgt := 82) rfl (by decide) (fun z => ?_) (fun z => ?_)
        · have h := h.1 z
          refine e_sub (lv' := [(0, .ref (gR g 38)), (6, .int y1)]) [0, 5] rfl ?_
          exact s_X4_changeLatest_82 hg ih h
        · have h := h.2 z
          refine e_lload (k := 39) (i := 7) rfl 6 rfl ?_
          refine e_iload_n (k := 40) (i := 2) rfl rfl 2 rfl ?_
          refine e_i2l (k := 41) rfl ?_
          refine e_ldiv (k := 42) rfl h.1 ?_
          have h := h.2
          refine e_ldc2 (k := 43) rfl k_X4_379 ?_
          refine e_lcmp (k := 44) rfl ?_
          refine e_if_le (k := 45) (tgt := 102) rfl (by decide) (fun z => ?_) (fun z => ?_)
          · have h := h.1 z
            refine e_aload_n (k := 56) (i := 0) rfl rfl 0 rfl ?_
            refine e_getC (k := 57) rfl f_X4_29 rfl rfl ?_
            refine e_iload (k := 58) (i := 6) rfl 5 rfl ?_
            refine e_lload (k := 59) (i := 7) rfl 6 rfl ?_
            refine e_iload_n (k := 60) (i := 2) rfl rfl 2 rfl ?_
            refine e_i2l (k := 61) rfl ?_
            refine e_ldiv (k := 62) rfl h.1 ?_
            have h := h.2
            refine e_callVv (k := 63) (q := 36) (As := [.int y1, .long (y2 / x2.toInt64)]) (rest := []) rfl (c_X6_setTicks (g := g) hg (n := n) h) m_X6_setTicks i_X6_setTicks l_X4_317 rfl ⟨_, rfl, rfl⟩ rfl rfl (Nat.le_of_ble_eq_true rfl) ⟨by decide, by decide, rfl, rfl⟩ (fun _ h => h.elim) (fun u2 h => ?_)
            refine e_iinc (k := 64) (i := 5) (j := 4) (v := (x5 + (1 : Int32))) (lv' := [(0, .ref (gR g 38)), (1, .int x1), (2, .int x2), (3, .long x3), (5, .int (x5 + (1 : Int32))), (6, .int y1), (7, .long y2)]) rfl rfl rfl (by decide) [1, 2, 3, 4, 0, 5, 6] rfl ?_
            refine e_goto (k := 65) (tgt := 21) rfl (by decide) ?_
            refine e_sub (lv' := [(0, .ref (gR g 38)), (1, .int x1), (2, .int x2), (3, .long x3), (5, .int (x5 + (1 : Int32)))]) [0, 1, 2, 3, 4] rfl ?_
            exact ih x1 x2 x3 (x5 + (1 : Int32)) u2 h
          · have h := h.2 z
            refine e_sub (lv' := [(0, .ref (gR g 38)), (6, .int y1)]) [0, 5] rfl ?_
            exact s_X4_changeLatest_82 hg ih h
set_option maxRecDepth 20000 in
theorem c_X4_changeLatest {g : Gb} (hg : xInj g) {n : Nat} {a0 : Int32} {a1 : Int32} {u0 : Mm} {Q : Mm → Prop} (h : w_X4_changeLatest n a0 a1 u0 Q) : xMet (gL g) yX4_changeLatest (xws yX4_changeLatest cX4_changeLatest 9 none) (xRoom 2) (xPc g [.ref (gR g 38), .int a0, .int a1] u0) (xQ g (pV g Q noT)) (xA g) := by
  refine xbody (il := il_X4_changeLatest) hg il_X4_changeLatest_ok m_X4_changeLatest (Nat.le_of_ble_eq_true rfl) ?_
  show xE g me_X4_changeLatest (pV g Q noT) 0 [(0, .ref (gR g 38)), (1, .int a0), (2, .int a1)] [] u0
  unfold w_X4_changeLatest at h
  refine e_iload_n (k := 0) (i := 2) rfl rfl 2 rfl ?_
  refine e_iconst (k := 1) (v := (1 : Int32)) rfl (by decide) ?_
  refine e_icmp_ge (k := 2) (tgt := 6) rfl (by decide) (fun z => ?_) (fun z => ?_)
  · have h := h.1 z
    refine e_aload_n (k := 4) (i := 0) rfl rfl 0 rfl ?_
    refine e_getC (k := 5) rfl f_X4_29 rfl rfl ?_
    refine e_aload_n (k := 6) (i := 0) rfl rfl 0 rfl ?_
    refine e_getI (k := 7) rfl f_X4_72 rfl rfl ?_
    refine e_callVl (k := 8) (q := 36) (As := [.int (u0.1 38 12)]) (rest := []) rfl (c_X6_ticksOf (g := g) hg (n := n) h) m_X6_ticksOf i_X6_ticksOf l_X4_324 rfl ⟨_, rfl, rfl⟩ rfl rfl (Nat.le_of_ble_eq_true rfl) ⟨by decide, by decide, rfl, rfl⟩ (fun _ h => h.elim) (fun r1 u1 h => ?_)
    refine e_lstore_n (k := 9) (i := 3) (lv' := [(0, .ref (gR g 38)), (1, .int a0), (2, .int a1), (3, .long r1)]) rfl rfl (by decide) [1, 2, 3, 0] rfl ?_
    refine e_iconst (k := 10) (v := (0 : Int32)) rfl (by decide) ?_
    refine e_istore (k := 11) (i := 5) (lv' := [(0, .ref (gR g 38)), (1, .int a0), (2, .int a1), (3, .long r1), (5, .int (0 : Int32))]) rfl (by decide) [1, 2, 3, 4, 0] rfl ?_
    exact s_X4_changeLatest_21 hg n a0 a1 r1 (0 : Int32) u1 h
  · have h := h.2 z
    exact e_vret (k := 3) rfl rfl (Or.inl ⟨rfl, h⟩)
def il_X4_formOfBracket : List (Nat × Instr × Nat) := [(0, .bipush 91, 2), (2, .iload_n 1, 1), (3, .invokestatic 249, 3), (6, .ifCond .lt 5, 3), (9, .iconst 5, 1), (10, .ireturn, 1), (11, .iload_n 1, 1), (12, .bipush 86, 2), (14, .if_icmp .eq 21, 3), (17, .iload_n 1, 1), (18, .bipush 77, 2), (20, .if_icmp .eq 15, 3), (23, .iload_n 1, 1), (24, .bipush 76, 2), (26, .if_icmp .eq 9, 3), (29, .iload_n 1, 1), (30, .bipush 75, 2), (32, .if_icmp .ne 7, 3), (35, .iconst 1, 1), (36, .goto 4, 3), (39, .iconst 0, 1), (40, .istore_n 2, 1), (41, .iload_n 2, 1), (42, .ifCond .eq 21, 3), (45, .aload_n 0, 1), (46, .getfield 9, 3), (49, .iconst 2, 1), (50, .invokevirtual 126, 3), (53, .bipush 58, 2), (55, .if_icmp .ne 8, 3), (58, .bipush 6, 2), (60, .goto 4, 3), (63, .iconst 2, 1), (64, .ireturn, 1)]
set_option maxRecDepth 20000 in
theorem il_X4_formOfBracket_ok : ∀ x ∈ il_X4_formOfBracket, decode cX4_formOfBracket x.1 = .ok x.2 := by decide +kernel
abbrev me_X4_formOfBracket : Me := (RX4, il_X4_formOfBracket, 3, (some .int), xRoom 2, [])
def w_X4_formOfBracket_64 (n : Nat) (t0 : Int32) (u0 : Mm) (Q : Int32 → Mm → Prop) : Prop :=
  Q t0 u0
def w_X4_formOfBracket_63 (n : Nat) (u0 : Mm) (Q : Int32 → Mm → Prop) : Prop :=
  w_X4_formOfBracket_64 n (2 : Int32) u0 Q
def w_X4_formOfBracket_40 (n : Nat) (t0 : Int32) (u0 : Mm) (Q : Int32 → Mm → Prop) : Prop :=
  (t0 = 0 → w_X4_formOfBracket_63 n u0 Q) ∧
  (¬ t0 = 0 → w_X5_peek n (2 : Int32) u0 (fun r1 u1 =>
  (¬ r1 = (58 : Int32) → w_X4_formOfBracket_63 n u1 Q) ∧
  (r1 = (58 : Int32) → w_X4_formOfBracket_64 n (6 : Int32) u1 Q)))
def w_X4_formOfBracket_35 (n : Nat) (u0 : Mm) (Q : Int32 → Mm → Prop) : Prop :=
  w_X4_formOfBracket_40 n (1 : Int32) u0 Q
def w_X4_formOfBracket (n : Nat) (a0 : Int32) (u0 : Mm) (Q : Int32 → Mm → Prop) : Prop :=
  w_X4_barSort n (91 : Int32) a0 u0 (fun r1 u1 =>
  (r1 < 0 → (a0 = (86 : Int32) → w_X4_formOfBracket_35 n u1 Q) ∧
  (¬ a0 = (86 : Int32) → (a0 = (77 : Int32) → w_X4_formOfBracket_35 n u1 Q) ∧
  (¬ a0 = (77 : Int32) → (a0 = (76 : Int32) → w_X4_formOfBracket_35 n u1 Q) ∧
  (¬ a0 = (76 : Int32) → (¬ a0 = (75 : Int32) → w_X4_formOfBracket_40 n (0 : Int32) u1 Q) ∧
  (a0 = (75 : Int32) → w_X4_formOfBracket_35 n u1 Q))))) ∧
  (¬ r1 < 0 → Q (5 : Int32) u1))
set_option maxRecDepth 20000 in
theorem s_X4_formOfBracket_64 {g : Gb} (hg : xInj g) {n : Nat} {Q : Int32 → Mm → Prop} {t0 : Int32} {u0 : Mm} (h : w_X4_formOfBracket_64 n t0 u0 Q) : xE g me_X4_formOfBracket (pI g Q noT) 64 [] [.int t0] u0 := by
  unfold w_X4_formOfBracket_64 at h
  exact e_iret (k := 33) rfl rfl (Or.inl ⟨_, rfl, h⟩)
set_option maxRecDepth 20000 in
theorem s_X4_formOfBracket_63 {g : Gb} (hg : xInj g) {n : Nat} {Q : Int32 → Mm → Prop} {u0 : Mm} (h : w_X4_formOfBracket_63 n  u0 Q) : xE g me_X4_formOfBracket (pI g Q noT) 63 [] [] u0 := by
  unfold w_X4_formOfBracket_63 at h
  refine e_iconst (k := 32) (v := (2 : Int32)) rfl (by decide) ?_
  exact s_X4_formOfBracket_64 hg h
set_option maxRecDepth 20000 in
theorem s_X4_formOfBracket_40 {g : Gb} (hg : xInj g) {n : Nat} {Q : Int32 → Mm → Prop} {t0 : Int32} {u0 : Mm} (h : w_X4_formOfBracket_40 n t0 u0 Q) : xE g me_X4_formOfBracket (pI g Q noT) 40 [(0, .ref (gR g 38))] [.int t0] u0 := by
  unfold w_X4_formOfBracket_40 at h
  refine e_istore_n (k := 21) (i := 2) (lv' := [(0, .ref (gR g 38)), (2, .int t0)]) rfl rfl (by decide) [1, 0] rfl ?_
  refine e_iload_n (k := 22) (i := 2) rfl rfl 1 rfl ?_
  refine e_if_eq (k := 23) (tgt := 63) rfl (by decide) (fun z => ?_) (fun z => ?_)
  · have h := h.1 z
    refine e_sub (lv' := []) [] rfl ?_
    exact s_X4_formOfBracket_63 hg h
  · have h := h.2 z
    refine e_aload_n (k := 24) (i := 0) rfl rfl 0 rfl ?_
    refine e_getC (k := 25) rfl f_X4_9 rfl rfl ?_
    refine e_iconst (k := 26) (v := (2 : Int32)) rfl (by decide) ?_
    refine e_callVi (k := 27) (q := 33) (As := [.int (2 : Int32)]) (rest := []) rfl (c_X5_peek (g := g) hg (n := n) h) m_X5_peek i_X5_peek l_X4_126 rfl ⟨_, rfl, rfl⟩ rfl rfl (Nat.le_of_ble_eq_true rfl) ⟨by decide, by decide, rfl, rfl⟩ (fun _ h => h.elim) (fun r1 u1 h => ?_)
    refine e_bipush (k := 28) (v := (58 : Int32)) rfl (by decide) ?_
    refine e_icmp_ne (k := 29) (tgt := 63) rfl (by decide) (fun z => ?_) (fun z => ?_)
    · have h := h.1 z
      refine e_sub (lv' := []) [] rfl ?_
      exact s_X4_formOfBracket_63 hg h
    · have h := h.2 z
      refine e_bipush (k := 30) (v := (6 : Int32)) rfl (by decide) ?_
      refine e_goto (k := 31) (tgt := 64) rfl (by decide) ?_
      refine e_sub (lv' := []) [] rfl ?_
      exact s_X4_formOfBracket_64 hg h
set_option maxRecDepth 20000 in
theorem s_X4_formOfBracket_35 {g : Gb} (hg : xInj g) {n : Nat} {Q : Int32 → Mm → Prop} {u0 : Mm} (h : w_X4_formOfBracket_35 n  u0 Q) : xE g me_X4_formOfBracket (pI g Q noT) 35 [(0, .ref (gR g 38))] [] u0 := by
  unfold w_X4_formOfBracket_35 at h
  refine e_iconst (k := 18) (v := (1 : Int32)) rfl (by decide) ?_
  refine e_goto (k := 19) (tgt := 40) rfl (by decide) ?_
  exact s_X4_formOfBracket_40 hg h
set_option maxRecDepth 20000 in
theorem c_X4_formOfBracket {g : Gb} (hg : xInj g) {n : Nat} {a0 : Int32} {u0 : Mm} {Q : Int32 → Mm → Prop} (h : w_X4_formOfBracket n a0 u0 Q) : xMet (gL g) yX4_formOfBracket (xws yX4_formOfBracket cX4_formOfBracket 3 (some .int)) (xRoom 2) (xPc g [.ref (gR g 38), .int a0] u0) (xQ g (pI g Q noT)) (xA g) := by
  refine xbody (il := il_X4_formOfBracket) hg il_X4_formOfBracket_ok m_X4_formOfBracket (Nat.le_of_ble_eq_true rfl) ?_
  show xE g me_X4_formOfBracket (pI g Q noT) 0 [(0, .ref (gR g 38)), (1, .int a0)] [] u0
  unfold w_X4_formOfBracket at h
  refine e_bipush (k := 0) (v := (91 : Int32)) rfl (by decide) ?_
  refine e_iload_n (k := 1) (i := 1) rfl rfl 1 rfl ?_
  refine e_callSi (k := 2) (As := [.int (91 : Int32), .int a0]) (rest := []) rfl (c_X4_barSort (g := g) hg (n := n) h) m_X4_barSort st_X4_barSort l_X4_249 rfl rfl (Nat.le_of_ble_eq_true rfl) ⟨by decide, by decide, rfl, rfl⟩ (fun _ h => h.elim) (fun r1 u1 h => ?_)
  refine e_if_lt (k := 3) (tgt := 11) rfl (by decide) (fun z => ?_) (fun z => ?_)
  · have h := h.1 z
    refine e_iload_n (k := 6) (i := 1) rfl rfl 1 rfl ?_
    refine e_bipush (k := 7) (v := (86 : Int32)) rfl (by decide) ?_
    refine e_icmp_eq (k := 8) (tgt := 35) rfl (by decide) (fun z => ?_) (fun z => ?_)
    · have h := h.1 z
      refine e_sub (lv' := [(0, .ref (gR g 38))]) [0] rfl ?_
      exact s_X4_formOfBracket_35 hg h
    · have h := h.2 z
      refine e_iload_n (k := 9) (i := 1) rfl rfl 1 rfl ?_
      refine e_bipush (k := 10) (v := (77 : Int32)) rfl (by decide) ?_
      refine e_icmp_eq (k := 11) (tgt := 35) rfl (by decide) (fun z => ?_) (fun z => ?_)
      · have h := h.1 z
        refine e_sub (lv' := [(0, .ref (gR g 38))]) [0] rfl ?_
        exact s_X4_formOfBracket_35 hg h
      · have h := h.2 z
        refine e_iload_n (k := 12) (i := 1) rfl rfl 1 rfl ?_
        refine e_bipush (k := 13) (v := (76 : Int32)) rfl (by decide) ?_
        refine e_icmp_eq (k := 14) (tgt := 35) rfl (by decide) (fun z => ?_) (fun z => ?_)
        · have h := h.1 z
          refine e_sub (lv' := [(0, .ref (gR g 38))]) [0] rfl ?_
          exact s_X4_formOfBracket_35 hg h
        · have h := h.2 z
          refine e_iload_n (k := 15) (i := 1) rfl rfl 1 rfl ?_
          refine e_bipush (k := 16) (v := (75 : Int32)) rfl (by decide) ?_
          refine e_icmp_ne (k := 17) (tgt := 39) rfl (by decide) (fun z => ?_) (fun z => ?_)
          · have h := h.1 z
            refine e_iconst (k := 20) (v := (0 : Int32)) rfl (by decide) ?_
            refine e_sub (lv' := [(0, .ref (gR g 38))]) [0] rfl ?_
            exact s_X4_formOfBracket_40 hg h
          · have h := h.2 z
            refine e_sub (lv' := [(0, .ref (gR g 38))]) [0] rfl ?_
            exact s_X4_formOfBracket_35 hg h
  · have h := h.2 z
    refine e_iconst (k := 4) (v := (5 : Int32)) rfl (by decide) ?_
    exact e_iret (k := 5) rfl rfl (Or.inl ⟨_, rfl, h⟩)
def il_X4_putPitch : List (Nat × Instr × Nat) := [(0, .aload_n 0, 1), (1, .getfield 29, 3), (4, .iload_n 1, 1), (5, .iconst 4, 1), (6, .invokevirtual 301, 3), (9, .istore_n 2, 1), (10, .iload_n 2, 1), (11, .ifCond .lt 17, 3), (14, .iload_n 2, 1), (15, .bipush 7, 2), (17, .if_icmp .ge 11, 3), (20, .getstatic 307, 3), (23, .iload_n 2, 1), (24, .iaload, 1), (25, .goto 4, 3), (28, .iconst 0, 1), (29, .istore_n 3, 1), (30, .iload_n 3, 1), (31, .bipush 12, 2), (33, .aload_n 0, 1), (34, .getfield 29, 3), (37, .iload_n 1, 1), (38, .iconst 5, 1), (39, .invokevirtual 301, 3), (42, .iconst 1, 1), (43, .iadd, 1), (44, .imul, 1), (45, .iadd, 1), (46, .aload_n 0, 1), (47, .getfield 29, 3), (50, .iload_n 1, 1), (51, .bipush 6, 2), (53, .invokevirtual 301, 3), (56, .iadd, 1), (57, .istore 4, 2), (59, .iload 4, 2), (61, .ifCond .lt 10, 3), (64, .iload 4, 2), (66, .bipush 127, 2), (68, .if_icmp .le 21, 3), (71, .aload_n 0, 1), (72, .getfield 9, 3), (75, .iconst 4, 1), (76, .aload_n 0, 1), (77, .getfield 29, 3), (80, .iload_n 1, 1), (81, .bipush 16, 2), (83, .invokevirtual 301, 3), (86, .invokevirtual 93, 3), (89, .aload_n 0, 1), (90, .getfield 29, 3), (93, .iload_n 1, 1), (94, .iconst 3, 1), (95, .iload 4, 2), (97, .invokevirtual 180, 3), (100, .return_, 1)]
set_option maxRecDepth 20000 in
theorem il_X4_putPitch_ok : ∀ x ∈ il_X4_putPitch, decode cX4_putPitch x.1 = .ok x.2 := by decide +kernel
abbrev me_X4_putPitch : Me := (RX4, il_X4_putPitch, 5, none, xRoom 2, [])
def w_X4_putPitch_89 (n : Nat) (x1 : Int32) (x4 : Int32) (u0 : Mm) (Q : Mm → Prop) : Prop :=
  w_X6_put n x1 (3 : Int32) x4 u0 (fun u1 =>
  Q u1)
def w_X4_putPitch_71 (n : Nat) (x1 : Int32) (x4 : Int32) (u0 : Mm) (Q : Mm → Prop) : Prop :=
  w_X6_cell n x1 (16 : Int32) u0 (fun r1 u1 =>
  w_X5_fail n (4 : Int32) r1 u1 (fun u2 =>
  w_X4_putPitch_89 n x1 x4 u2 Q))
def w_X4_putPitch_29 (n : Nat) (x1 : Int32) (t0 : Int32) (u0 : Mm) (Q : Mm → Prop) : Prop :=
  w_X6_cell n x1 (5 : Int32) u0 (fun r1 u1 =>
  w_X6_cell n x1 (6 : Int32) u1 (fun r2 u2 =>
  ilet ((t0 + ((12 : Int32) * (r1 + (1 : Int32)))) + r2) fun y1 =>
  (y1 < 0 → w_X4_putPitch_71 n x1 y1 u2 Q) ∧
  (¬ y1 < 0 → (y1 ≤ (127 : Int32) → w_X4_putPitch_89 n x1 y1 u2 Q) ∧
  (¬ y1 ≤ (127 : Int32) → w_X4_putPitch_71 n x1 y1 u2 Q))))
def w_X4_putPitch_28 (n : Nat) (x1 : Int32) (u0 : Mm) (Q : Mm → Prop) : Prop :=
  w_X4_putPitch_29 n x1 (0 : Int32) u0 Q
def w_X4_putPitch (n : Nat) (a0 : Int32) (u0 : Mm) (Q : Mm → Prop) : Prop :=
  w_X6_cell n a0 (4 : Int32) u0 (fun r1 u1 =>
  (r1 < 0 → w_X4_putPitch_28 n a0 u1 Q) ∧
  (¬ r1 < 0 → ((7 : Int32) ≤ r1 → w_X4_putPitch_28 n a0 u1 Q) ∧
  (¬ (7 : Int32) ≤ r1 → vp_in r1 7 ∧ (w_X4_putPitch_29 n a0 (xf2 (ix r1)) u1 Q))))
set_option maxRecDepth 20000 in
theorem s_X4_putPitch_89 {g : Gb} (hg : xInj g) {n : Nat} {Q : Mm → Prop} {x1 : Int32} {x4 : Int32} {u0 : Mm} (h : w_X4_putPitch_89 n x1 x4 u0 Q) : xE g me_X4_putPitch (pV g Q noT) 89 [(0, .ref (gR g 38)), (1, .int x1), (4, .int x4)] [] u0 := by
  unfold w_X4_putPitch_89 at h
  refine e_aload_n (k := 49) (i := 0) rfl rfl 0 rfl ?_
  refine e_getC (k := 50) rfl f_X4_29 rfl rfl ?_
  refine e_iload_n (k := 51) (i := 1) rfl rfl 1 rfl ?_
  refine e_iconst (k := 52) (v := (3 : Int32)) rfl (by decide) ?_
  refine e_iload (k := 53) (i := 4) rfl 2 rfl ?_
  refine e_callVv (k := 54) (q := 36) (As := [.int x1, .int (3 : Int32), .int x4]) (rest := []) rfl (c_X6_put (g := g) hg (n := n) h) m_X6_put i_X6_put l_X4_180 rfl ⟨_, rfl, rfl⟩ rfl rfl (Nat.le_of_ble_eq_true rfl) ⟨by decide, by decide, rfl, rfl⟩ (fun _ h => h.elim) (fun u1 h => ?_)
  exact e_vret (k := 55) rfl rfl (Or.inl ⟨rfl, h⟩)
set_option maxRecDepth 20000 in
theorem s_X4_putPitch_71 {g : Gb} (hg : xInj g) {n : Nat} {Q : Mm → Prop} {x1 : Int32} {x4 : Int32} {u0 : Mm} (h : w_X4_putPitch_71 n x1 x4 u0 Q) : xE g me_X4_putPitch (pV g Q noT) 71 [(0, .ref (gR g 38)), (1, .int x1), (4, .int x4)] [] u0 := by
  unfold w_X4_putPitch_71 at h
  refine e_aload_n (k := 40) (i := 0) rfl rfl 0 rfl ?_
  refine e_getC (k := 41) rfl f_X4_9 rfl rfl ?_
  refine e_iconst (k := 42) (v := (4 : Int32)) rfl (by decide) ?_
  refine e_aload_n (k := 43) (i := 0) rfl rfl 0 rfl ?_
  refine e_getC (k := 44) rfl f_X4_29 rfl rfl ?_
  refine e_iload_n (k := 45) (i := 1) rfl rfl 1 rfl ?_
  refine e_bipush (k := 46) (v := (16 : Int32)) rfl (by decide) ?_
  refine e_callVi (k := 47) (q := 36) (As := [.int x1, .int (16 : Int32)]) (rest := [.int (4 : Int32), .ref (gR g 33)]) rfl (c_X6_cell (g := g) hg (n := n) h) m_X6_cell i_X6_cell l_X4_301 rfl ⟨_, rfl, rfl⟩ rfl rfl (Nat.le_of_ble_eq_true rfl) ⟨by decide, by decide, rfl, rfl⟩ (fun _ h => h.elim) (fun r1 u1 h => ?_)
  refine e_callVv (k := 48) (q := 33) (As := [.int (4 : Int32), .int r1]) (rest := []) rfl (c_X5_fail (g := g) hg (n := n) h) m_X5_fail i_X5_fail l_X4_93 rfl ⟨_, rfl, rfl⟩ rfl rfl (Nat.le_of_ble_eq_true rfl) ⟨by decide, by decide, rfl, rfl⟩ (fun _ h => h.elim) (fun u2 h => ?_)
  exact s_X4_putPitch_89 hg h
set_option maxRecDepth 20000 in
theorem s_X4_putPitch_29 {g : Gb} (hg : xInj g) {n : Nat} {Q : Mm → Prop} {x1 : Int32} {t0 : Int32} {u0 : Mm} (h : w_X4_putPitch_29 n x1 t0 u0 Q) : xE g me_X4_putPitch (pV g Q noT) 29 [(0, .ref (gR g 38)), (1, .int x1)] [.int t0] u0 := by
  unfold w_X4_putPitch_29 at h
  refine e_istore_n (k := 16) (i := 3) (lv' := [(0, .ref (gR g 38)), (1, .int x1), (3, .int t0)]) rfl rfl (by decide) [1, 2, 0] rfl ?_
  refine e_iload_n (k := 17) (i := 3) rfl rfl 2 rfl ?_
  refine e_bipush (k := 18) (v := (12 : Int32)) rfl (by decide) ?_
  refine e_aload_n (k := 19) (i := 0) rfl rfl 0 rfl ?_
  refine e_getC (k := 20) rfl f_X4_29 rfl rfl ?_
  refine e_iload_n (k := 21) (i := 1) rfl rfl 1 rfl ?_
  refine e_iconst (k := 22) (v := (5 : Int32)) rfl (by decide) ?_
  refine e_callVi (k := 23) (q := 36) (As := [.int x1, .int (5 : Int32)]) (rest := [.int (12 : Int32), .int t0]) rfl (c_X6_cell (g := g) hg (n := n) h) m_X6_cell i_X6_cell l_X4_301 rfl ⟨_, rfl, rfl⟩ rfl rfl (Nat.le_of_ble_eq_true rfl) ⟨by decide, by decide, rfl, rfl⟩ (fun _ h => h.elim) (fun r1 u1 h => ?_)
  refine e_iconst (k := 24) (v := (1 : Int32)) rfl (by decide) ?_
  refine e_iadd (k := 25) rfl ?_
  refine e_imul (k := 26) rfl ?_
  refine e_iadd (k := 27) rfl ?_
  refine e_aload_n (k := 28) (i := 0) rfl rfl 0 rfl ?_
  refine e_getC (k := 29) rfl f_X4_29 rfl rfl ?_
  refine e_iload_n (k := 30) (i := 1) rfl rfl 1 rfl ?_
  refine e_bipush (k := 31) (v := (6 : Int32)) rfl (by decide) ?_
  refine e_callVi (k := 32) (q := 36) (As := [.int x1, .int (6 : Int32)]) (rest := [.int (t0 + ((12 : Int32) * (r1 + (1 : Int32))))]) rfl (c_X6_cell (g := g) hg (n := n) h) m_X6_cell i_X6_cell l_X4_301 rfl ⟨_, rfl, rfl⟩ rfl rfl (Nat.le_of_ble_eq_true rfl) ⟨by decide, by decide, rfl, rfl⟩ (fun _ h => h.elim) (fun r2 u2 h => ?_)
  refine e_iadd (k := 33) rfl ?_
  refine e_ilet h (fun y1 h => ?_)
  refine e_istore (k := 34) (i := 4) (lv' := [(0, .ref (gR g 38)), (1, .int x1), (3, .int t0), (4, .int y1)]) rfl (by decide) [1, 2, 3, 0] rfl ?_
  refine e_iload (k := 35) (i := 4) rfl 3 rfl ?_
  refine e_if_lt (k := 36) (tgt := 71) rfl (by decide) (fun z => ?_) (fun z => ?_)
  · have h := h.1 z
    refine e_sub (lv' := [(0, .ref (gR g 38)), (1, .int x1), (4, .int y1)]) [0, 1, 3] rfl ?_
    exact s_X4_putPitch_71 hg h
  · have h := h.2 z
    refine e_iload (k := 37) (i := 4) rfl 3 rfl ?_
    refine e_bipush (k := 38) (v := (127 : Int32)) rfl (by decide) ?_
    refine e_icmp_le (k := 39) (tgt := 89) rfl (by decide) (fun z => ?_) (fun z => ?_)
    · have h := h.1 z
      refine e_sub (lv' := [(0, .ref (gR g 38)), (1, .int x1), (4, .int y1)]) [0, 1, 3] rfl ?_
      exact s_X4_putPitch_89 hg h
    · have h := h.2 z
      refine e_sub (lv' := [(0, .ref (gR g 38)), (1, .int x1), (4, .int y1)]) [0, 1, 3] rfl ?_
      exact s_X4_putPitch_71 hg h
set_option maxRecDepth 20000 in
theorem s_X4_putPitch_28 {g : Gb} (hg : xInj g) {n : Nat} {Q : Mm → Prop} {x1 : Int32} {u0 : Mm} (h : w_X4_putPitch_28 n x1 u0 Q) : xE g me_X4_putPitch (pV g Q noT) 28 [(0, .ref (gR g 38)), (1, .int x1)] [] u0 := by
  unfold w_X4_putPitch_28 at h
  refine e_iconst (k := 15) (v := (0 : Int32)) rfl (by decide) ?_
  exact s_X4_putPitch_29 hg h
set_option maxRecDepth 20000 in
theorem c_X4_putPitch {g : Gb} (hg : xInj g) {n : Nat} {a0 : Int32} {u0 : Mm} {Q : Mm → Prop} (h : w_X4_putPitch n a0 u0 Q) : xMet (gL g) yX4_putPitch (xws yX4_putPitch cX4_putPitch 5 none) (xRoom 2) (xPc g [.ref (gR g 38), .int a0] u0) (xQ g (pV g Q noT)) (xA g) := by
  refine xbody (il := il_X4_putPitch) hg il_X4_putPitch_ok m_X4_putPitch (Nat.le_of_ble_eq_true rfl) ?_
  show xE g me_X4_putPitch (pV g Q noT) 0 [(0, .ref (gR g 38)), (1, .int a0)] [] u0
  unfold w_X4_putPitch at h
  refine e_aload_n (k := 0) (i := 0) rfl rfl 0 rfl ?_
  refine e_getC (k := 1) rfl f_X4_29 rfl rfl ?_
  refine e_iload_n (k := 2) (i := 1) rfl rfl 1 rfl ?_
  refine e_iconst (k := 3) (v := (4 : Int32)) rfl (by decide) ?_
  refine e_callVi (k := 4) (q := 36) (As := [.int a0, .int (4 : Int32)]) (rest := []) rfl (c_X6_cell (g := g) hg (n := n) h) m_X6_cell i_X6_cell l_X4_301 rfl ⟨_, rfl, rfl⟩ rfl rfl (Nat.le_of_ble_eq_true rfl) ⟨by decide, by decide, rfl, rfl⟩ (fun _ h => h.elim) (fun r1 u1 h => ?_)
  refine e_istore_n (k := 5) (i := 2) (lv' := [(0, .ref (gR g 38)), (1, .int a0), (2, .int r1)]) rfl rfl (by decide) [1, 2, 0] rfl ?_
  refine e_iload_n (k := 6) (i := 2) rfl rfl 2 rfl ?_
  refine e_if_lt (k := 7) (tgt := 28) rfl (by decide) (fun z => ?_) (fun z => ?_)
  · have h := h.1 z
    refine e_sub (lv' := [(0, .ref (gR g 38)), (1, .int a0)]) [0, 1] rfl ?_
    exact s_X4_putPitch_28 hg h
  · have h := h.2 z
    refine e_iload_n (k := 8) (i := 2) rfl rfl 2 rfl ?_
    refine e_bipush (k := 9) (v := (7 : Int32)) rfl (by decide) ?_
    refine e_icmp_ge (k := 10) (tgt := 28) rfl (by decide) (fun z => ?_) (fun z => ?_)
    · have h := h.1 z
      refine e_sub (lv' := [(0, .ref (gR g 38)), (1, .int a0)]) [0, 1] rfl ?_
      exact s_X4_putPitch_28 hg h
    · have h := h.2 z
      refine e_st2 (k := 11) rfl fz_X4_307 ?_
      refine e_iload_n (k := 12) (i := 2) rfl rfl 2 rfl ?_
      refine e_st2ld (k := 13) rfl h.1 ?_
      have h := h.2
      refine e_goto (k := 14) (tgt := 29) rfl (by decide) ?_
      refine e_sub (lv' := [(0, .ref (gR g 38)), (1, .int a0)]) [0, 1] rfl ?_
      exact s_X4_putPitch_29 hg h
