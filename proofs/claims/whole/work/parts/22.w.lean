/-! methods (by program) -/
def il_X12_place : List (Nat × Instr × Nat) := [(0, .aload_n 0, 1), (1, .iconst 0, 1), (2, .putfield 1, 3), (5, .aload_n 0, 1), (6, .getfield 27, 3), (9, .ireturn, 1)]
set_option maxRecDepth 20000 in
theorem il_X12_place_ok : ∀ x ∈ il_X12_place, decode cX12_place x.1 = .ok x.2 := by decide +kernel
abbrev me_X12_place : Me := (RX12, il_X12_place, 1, (some .int), xRoom 1, [])
def w_X12_place (n : Nat) (u0 : Mm) (Q : Int32 → Mm → Prop) (T : Mm → Prop) : Prop :=
  mlet (setI u0 0 0 (0 : Int32)) fun u1 =>
  Q (u1.1 0 11) u1
set_option maxRecDepth 20000 in
theorem c_X12_place {g : Gb} (hg : xInj g) {n : Nat} {u0 : Mm} {Q : Int32 → Mm → Prop} {T : Mm → Prop} (h : w_X12_place n u0 Q T) : xMet (gL g) yX12_place (xws yX12_place cX12_place 1 (some .int)) (xRoom 1) (xPc g [.ref (gR g 0)] u0) (xQ g (pI g Q T)) (xA g) := by
  refine xbody (il := il_X12_place) hg il_X12_place_ok m_X12_place (Nat.le_of_ble_eq_true rfl) ?_
  show xE g me_X12_place (pI g Q T) 0 [(0, .ref (gR g 0))] [] u0
  unfold w_X12_place at h
  refine e_aload_n (k := 0) (i := 0) rfl rfl 0 rfl ?_
  refine e_iconst (k := 1) (v := (0 : Int32)) rfl (by decide) ?_
  refine e_putI (k := 2) rfl fg_X12_1 rfl rfl ?_
  refine e_mlet h (fun u1 h => ?_)
  refine e_aload_n (k := 3) (i := 0) rfl rfl 0 rfl ?_
  refine e_getI (k := 4) rfl f_X12_27 rfl rfl ?_
  exact e_iret (k := 5) rfl rfl (Or.inl ⟨_, rfl, h⟩)
def il_X12_semitone : List (Nat × Instr × Nat) := [(0, .iload_n 0, 1), (1, .ifCond .ne 7, 3), (4, .iconst 0, 1), (5, .goto 52, 3), (8, .iload_n 0, 1), (9, .iconst 1, 1), (10, .if_icmp .ne 7, 3), (13, .iconst 2, 1), (14, .goto 43, 3), (17, .iload_n 0, 1), (18, .iconst 2, 1), (19, .if_icmp .ne 7, 3), (22, .iconst 4, 1), (23, .goto 34, 3), (26, .iload_n 0, 1), (27, .iconst 3, 1), (28, .if_icmp .ne 7, 3), (31, .iconst 5, 1), (32, .goto 25, 3), (35, .iload_n 0, 1), (36, .iconst 4, 1), (37, .if_icmp .ne 8, 3), (40, .bipush 7, 2), (42, .goto 15, 3), (45, .iload_n 0, 1), (46, .iconst 5, 1), (47, .if_icmp .ne 8, 3), (50, .bipush 9, 2), (52, .goto 5, 3), (55, .bipush 11, 2), (57, .ireturn, 1)]
set_option maxRecDepth 20000 in
theorem il_X12_semitone_ok : ∀ x ∈ il_X12_semitone, decode cX12_semitone x.1 = .ok x.2 := by decide +kernel
abbrev me_X12_semitone : Me := (RX12, il_X12_semitone, 1, (some .int), xRoom 1, [])
def w_X12_semitone_57 (n : Nat) (t0 : Int32) (u0 : Mm) (Q : Int32 → Mm → Prop) (T : Mm → Prop) : Prop :=
  Q t0 u0
def w_X12_semitone (n : Nat) (a0 : Int32) (u0 : Mm) (Q : Int32 → Mm → Prop) (T : Mm → Prop) : Prop :=
  (¬ a0 = 0 → (¬ a0 = (1 : Int32) → (¬ a0 = (2 : Int32) → (¬ a0 = (3 : Int32) → (¬ a0 = (4 : Int32) → (¬ a0 = (5 : Int32) → w_X12_semitone_57 n (11 : Int32) u0 Q T) ∧
  (a0 = (5 : Int32) → w_X12_semitone_57 n (9 : Int32) u0 Q T)) ∧
  (a0 = (4 : Int32) → w_X12_semitone_57 n (7 : Int32) u0 Q T)) ∧
  (a0 = (3 : Int32) → w_X12_semitone_57 n (5 : Int32) u0 Q T)) ∧
  (a0 = (2 : Int32) → w_X12_semitone_57 n (4 : Int32) u0 Q T)) ∧
  (a0 = (1 : Int32) → w_X12_semitone_57 n (2 : Int32) u0 Q T)) ∧
  (a0 = 0 → w_X12_semitone_57 n (0 : Int32) u0 Q T)
set_option maxRecDepth 20000 in
theorem s_X12_semitone_57 {g : Gb} (hg : xInj g) {n : Nat} {Q : Int32 → Mm → Prop} {T : Mm → Prop} {t0 : Int32} {u0 : Mm} (h : w_X12_semitone_57 n t0 u0 Q T) : xE g me_X12_semitone (pI g Q T) 57 [] [.int t0] u0 := by
  unfold w_X12_semitone_57 at h
  exact e_iret (k := 30) rfl rfl (Or.inl ⟨_, rfl, h⟩)
set_option maxRecDepth 20000 in
theorem c_X12_semitone {g : Gb} (hg : xInj g) {n : Nat} {a0 : Int32} {u0 : Mm} {Q : Int32 → Mm → Prop} {T : Mm → Prop} (h : w_X12_semitone n a0 u0 Q T) : xMet (gL g) yX12_semitone (xws yX12_semitone cX12_semitone 1 (some .int)) (xRoom 1) (xPc g [.int a0] u0) (xQ g (pI g Q T)) (xA g) := by
  refine xbody (il := il_X12_semitone) hg il_X12_semitone_ok m_X12_semitone (Nat.le_of_ble_eq_true rfl) ?_
  show xE g me_X12_semitone (pI g Q T) 0 [(0, .int a0)] [] u0
  unfold w_X12_semitone at h
  refine e_iload_n (k := 0) (i := 0) rfl rfl 0 rfl ?_
  refine e_if_ne (k := 1) (tgt := 8) rfl (by decide) (fun z => ?_) (fun z => ?_)
  · have h := h.1 z
    refine e_iload_n (k := 4) (i := 0) rfl rfl 0 rfl ?_
    refine e_iconst (k := 5) (v := (1 : Int32)) rfl (by decide) ?_
    refine e_icmp_ne (k := 6) (tgt := 17) rfl (by decide) (fun z => ?_) (fun z => ?_)
    · have h := h.1 z
      refine e_iload_n (k := 9) (i := 0) rfl rfl 0 rfl ?_
      refine e_iconst (k := 10) (v := (2 : Int32)) rfl (by decide) ?_
      refine e_icmp_ne (k := 11) (tgt := 26) rfl (by decide) (fun z => ?_) (fun z => ?_)
      · have h := h.1 z
        refine e_iload_n (k := 14) (i := 0) rfl rfl 0 rfl ?_
        refine e_iconst (k := 15) (v := (3 : Int32)) rfl (by decide) ?_
        refine e_icmp_ne (k := 16) (tgt := 35) rfl (by decide) (fun z => ?_) (fun z => ?_)
        · have h := h.1 z
          refine e_iload_n (k := 19) (i := 0) rfl rfl 0 rfl ?_
          refine e_iconst (k := 20) (v := (4 : Int32)) rfl (by decide) ?_
          refine e_icmp_ne (k := 21) (tgt := 45) rfl (by decide) (fun z => ?_) (fun z => ?_)
          · have h := h.1 z
            refine e_iload_n (k := 24) (i := 0) rfl rfl 0 rfl ?_
            refine e_iconst (k := 25) (v := (5 : Int32)) rfl (by decide) ?_
            refine e_icmp_ne (k := 26) (tgt := 55) rfl (by decide) (fun z => ?_) (fun z => ?_)
            · have h := h.1 z
              refine e_bipush (k := 29) (v := (11 : Int32)) rfl (by decide) ?_
              refine e_sub (lv' := []) [] rfl ?_
              exact s_X12_semitone_57 hg h
            · have h := h.2 z
              refine e_bipush (k := 27) (v := (9 : Int32)) rfl (by decide) ?_
              refine e_goto (k := 28) (tgt := 57) rfl (by decide) ?_
              refine e_sub (lv' := []) [] rfl ?_
              exact s_X12_semitone_57 hg h
          · have h := h.2 z
            refine e_bipush (k := 22) (v := (7 : Int32)) rfl (by decide) ?_
            refine e_goto (k := 23) (tgt := 57) rfl (by decide) ?_
            refine e_sub (lv' := []) [] rfl ?_
            exact s_X12_semitone_57 hg h
        · have h := h.2 z
          refine e_iconst (k := 17) (v := (5 : Int32)) rfl (by decide) ?_
          refine e_goto (k := 18) (tgt := 57) rfl (by decide) ?_
          refine e_sub (lv' := []) [] rfl ?_
          exact s_X12_semitone_57 hg h
      · have h := h.2 z
        refine e_iconst (k := 12) (v := (4 : Int32)) rfl (by decide) ?_
        refine e_goto (k := 13) (tgt := 57) rfl (by decide) ?_
        refine e_sub (lv' := []) [] rfl ?_
        exact s_X12_semitone_57 hg h
    · have h := h.2 z
      refine e_iconst (k := 7) (v := (2 : Int32)) rfl (by decide) ?_
      refine e_goto (k := 8) (tgt := 57) rfl (by decide) ?_
      refine e_sub (lv' := []) [] rfl ?_
      exact s_X12_semitone_57 hg h
  · have h := h.2 z
    refine e_iconst (k := 2) (v := (0 : Int32)) rfl (by decide) ?_
    refine e_goto (k := 3) (tgt := 57) rfl (by decide) ?_
    refine e_sub (lv' := []) [] rfl ?_
    exact s_X12_semitone_57 hg h
def il_X12_set : List (Nat × Instr × Nat) := [(0, .aload_n 0, 1), (1, .getfield 37, 3), (4, .bipush 17, 2), (6, .iload_n 1, 1), (7, .imul, 1), (8, .iload_n 2, 1), (9, .iadd, 1), (10, .iload_n 3, 1), (11, .iastore, 1), (12, .return_, 1)]
set_option maxRecDepth 20000 in
theorem il_X12_set_ok : ∀ x ∈ il_X12_set, decode cX12_set x.1 = .ok x.2 := by decide +kernel
abbrev me_X12_set : Me := (RX12, il_X12_set, 4, none, xRoom 1, [])
def w_X12_set (n : Nat) (a0 : Int32) (a1 : Int32) (a2 : Int32) (u0 : Mm) (Q : Mm → Prop) (T : Mm → Prop) : Prop :=
  vp_in (((17 : Int32) * a0) + a1) 6800 ∧ (mlet (setI u0 6 (ix (((17 : Int32) * a0) + a1)) a2) fun u1 =>
  Q u1)
set_option maxRecDepth 20000 in
theorem c_X12_set {g : Gb} (hg : xInj g) {n : Nat} {a0 : Int32} {a1 : Int32} {a2 : Int32} {u0 : Mm} {Q : Mm → Prop} {T : Mm → Prop} (h : w_X12_set n a0 a1 a2 u0 Q T) : xMet (gL g) yX12_set (xws yX12_set cX12_set 4 none) (xRoom 1) (xPc g [.ref (gR g 0), .int a0, .int a1, .int a2] u0) (xQ g (pV g Q T)) (xA g) := by
  refine xbody (il := il_X12_set) hg il_X12_set_ok m_X12_set (Nat.le_of_ble_eq_true rfl) ?_
  show xE g me_X12_set (pV g Q T) 0 [(0, .ref (gR g 0)), (1, .int a0), (2, .int a1), (3, .int a2)] [] u0
  unfold w_X12_set at h
  refine e_aload_n (k := 0) (i := 0) rfl rfl 0 rfl ?_
  refine e_getC (k := 1) rfl f_X12_37 rfl rfl ?_
  refine e_bipush (k := 2) (v := (17 : Int32)) rfl (by decide) ?_
  refine e_iload_n (k := 3) (i := 1) rfl rfl 1 rfl ?_
  refine e_imul (k := 4) rfl ?_
  refine e_iload_n (k := 5) (i := 2) rfl rfl 2 rfl ?_
  refine e_iadd (k := 6) rfl ?_
  refine e_iload_n (k := 7) (i := 3) rfl rfl 3 rfl ?_
  refine e_iast (k := 8) rfl rfl h.1 ?_
  have h := h.2
  refine e_mlet h (fun u1 h => ?_)
  exact e_vret (k := 9) rfl rfl (Or.inl ⟨rfl, h⟩)
def il_X12_show : List (Nat × Instr × Nat) := [(0, .aload_n 0, 1), (1, .getfield 516, 3), (4, .sipush 200, 3), (7, .if_icmp .ge 14, 3), (10, .aload_n 0, 1), (11, .getfield 114, 3), (14, .aload_n 0, 1), (15, .getfield 516, 3), (18, .iload_n 1, 1), (19, .i2b, 1), (20, .bastore, 1), (21, .aload_n 0, 1), (22, .dup, 1), (23, .getfield 516, 3), (26, .iconst 1, 1), (27, .iadd, 1), (28, .putfield 516, 3), (31, .return_, 1)]
set_option maxRecDepth 20000 in
theorem il_X12_show_ok : ∀ x ∈ il_X12_show, decode cX12_show x.1 = .ok x.2 := by decide +kernel
abbrev me_X12_show : Me := (RX12, il_X12_show, 2, none, xRoom 1, [])
def w_X12_show_21 (n : Nat) (u0 : Mm) (Q : Mm → Prop) (T : Mm → Prop) : Prop :=
  mlet (setI u0 0 71 ((u0.1 0 71) + (1 : Int32))) fun u1 =>
  Q u1
def w_X12_show (n : Nat) (a0 : Int32) (u0 : Mm) (Q : Mm → Prop) (T : Mm → Prop) : Prop :=
  ((200 : Int32) ≤ (u0.1 0 71) → w_X12_show_21 n u0 Q T) ∧
  (¬ (200 : Int32) ≤ (u0.1 0 71) → vp_in (u0.1 0 71) 200 ∧ (mlet (setI u0 31 (ix (u0.1 0 71)) (vp_nar .byte a0.toInt8.toInt32)) fun u1 =>
  w_X12_show_21 n u1 Q T))
set_option maxRecDepth 20000 in
theorem s_X12_show_21 {g : Gb} (hg : xInj g) {n : Nat} {Q : Mm → Prop} {T : Mm → Prop} {u0 : Mm} (h : w_X12_show_21 n  u0 Q T) : xE g me_X12_show (pV g Q T) 21 [(0, .ref (gR g 0))] [] u0 := by
  unfold w_X12_show_21 at h
  refine e_aload_n (k := 11) (i := 0) rfl rfl 0 rfl ?_
  refine e_dup (k := 12) rfl rfl ?_
  refine e_getI (k := 13) rfl f_X12_516 rfl rfl ?_
  refine e_iconst (k := 14) (v := (1 : Int32)) rfl (by decide) ?_
  refine e_iadd (k := 15) rfl ?_
  refine e_putI (k := 16) rfl fg_X12_516 rfl rfl ?_
  refine e_mlet h (fun u1 h => ?_)
  exact e_vret (k := 17) rfl rfl (Or.inl ⟨rfl, h⟩)
set_option maxRecDepth 20000 in
theorem c_X12_show {g : Gb} (hg : xInj g) {n : Nat} {a0 : Int32} {u0 : Mm} {Q : Mm → Prop} {T : Mm → Prop} (h : w_X12_show n a0 u0 Q T) : xMet (gL g) yX12_show (xws yX12_show cX12_show 2 none) (xRoom 1) (xPc g [.ref (gR g 0), .int a0] u0) (xQ g (pV g Q T)) (xA g) := by
  refine xbody (il := il_X12_show) hg il_X12_show_ok m_X12_show (Nat.le_of_ble_eq_true rfl) ?_
  show xE g me_X12_show (pV g Q T) 0 [(0, .ref (gR g 0)), (1, .int a0)] [] u0
  unfold w_X12_show at h
  refine e_aload_n (k := 0) (i := 0) rfl rfl 0 rfl ?_
  refine e_getI (k := 1) rfl f_X12_516 rfl rfl ?_
  refine e_sipush (k := 2) (v := (200 : Int32)) rfl (by decide) ?_
  refine e_icmp_ge (k := 3) (tgt := 21) rfl (by decide) (fun z => ?_) (fun z => ?_)
  · have h := h.1 z
    refine e_sub (lv' := [(0, .ref (gR g 0))]) [0] rfl ?_
    exact s_X12_show_21 hg h
  · have h := h.2 z
    refine e_aload_n (k := 4) (i := 0) rfl rfl 0 rfl ?_
    refine e_getC (k := 5) rfl f_X12_114 rfl rfl ?_
    refine e_aload_n (k := 6) (i := 0) rfl rfl 0 rfl ?_
    refine e_getI (k := 7) rfl f_X12_516 rfl rfl ?_
    refine e_iload_n (k := 8) (i := 1) rfl rfl 1 rfl ?_
    refine e_i2b (k := 9) rfl ?_
    refine e_bast (k := 10) rfl rfl h.1 ?_
    have h := h.2
    refine e_mlet h (fun u1 h => ?_)
    refine e_sub (lv' := [(0, .ref (gR g 0))]) [0] rfl ?_
    exact s_X12_show_21 hg h
def il_X12_signPlace : List (Nat × Instr × Nat) := [(0, .bipush 7, 2), (2, .aload_n 0, 1), (3, .getfield 290, 3), (6, .imul, 1), (7, .iload_n 1, 1), (8, .iadd, 1), (9, .bipush 64, 2), (11, .imul, 1), (12, .aload_n 0, 1), (13, .getfield 117, 3), (16, .ifCond .ne 7, 3), (19, .iconst 0, 1), (20, .goto 10, 3), (23, .iload_n 2, 1), (24, .bipush 20, 2), (26, .iadd, 1), (27, .bipush 63, 2), (29, .iand, 1), (30, .iadd, 1), (31, .ireturn, 1)]
set_option maxRecDepth 20000 in
theorem il_X12_signPlace_ok : ∀ x ∈ il_X12_signPlace, decode cX12_signPlace x.1 = .ok x.2 := by decide +kernel
abbrev me_X12_signPlace : Me := (RX12, il_X12_signPlace, 3, (some .int), xRoom 1, [])
def w_X12_signPlace_30 (n : Nat) (t0 : Int32) (t1 : Int32) (u0 : Mm) (Q : Int32 → Mm → Prop) (T : Mm → Prop) : Prop :=
  Q (t1 + t0) u0
def w_X12_signPlace (n : Nat) (a0 : Int32) (a1 : Int32) (u0 : Mm) (Q : Int32 → Mm → Prop) (T : Mm → Prop) : Prop :=
  (¬ (u0.1 0 2) = 0 → w_X12_signPlace_30 n ((a1 + (20 : Int32)) &&& (63 : Int32)) ((((7 : Int32) * (u0.1 0 28)) + a0) * (64 : Int32)) u0 Q T) ∧
  ((u0.1 0 2) = 0 → w_X12_signPlace_30 n (0 : Int32) ((((7 : Int32) * (u0.1 0 28)) + a0) * (64 : Int32)) u0 Q T)
set_option maxRecDepth 20000 in
theorem s_X12_signPlace_30 {g : Gb} (hg : xInj g) {n : Nat} {Q : Int32 → Mm → Prop} {T : Mm → Prop} {t0 : Int32} {t1 : Int32} {u0 : Mm} (h : w_X12_signPlace_30 n t0 t1 u0 Q T) : xE g me_X12_signPlace (pI g Q T) 30 [] [.int t0, .int t1] u0 := by
  unfold w_X12_signPlace_30 at h
  refine e_iadd (k := 18) rfl ?_
  exact e_iret (k := 19) rfl rfl (Or.inl ⟨_, rfl, h⟩)
set_option maxRecDepth 20000 in
theorem c_X12_signPlace {g : Gb} (hg : xInj g) {n : Nat} {a0 : Int32} {a1 : Int32} {u0 : Mm} {Q : Int32 → Mm → Prop} {T : Mm → Prop} (h : w_X12_signPlace n a0 a1 u0 Q T) : xMet (gL g) yX12_signPlace (xws yX12_signPlace cX12_signPlace 3 (some .int)) (xRoom 1) (xPc g [.ref (gR g 0), .int a0, .int a1] u0) (xQ g (pI g Q T)) (xA g) := by
  refine xbody (il := il_X12_signPlace) hg il_X12_signPlace_ok m_X12_signPlace (Nat.le_of_ble_eq_true rfl) ?_
  show xE g me_X12_signPlace (pI g Q T) 0 [(0, .ref (gR g 0)), (1, .int a0), (2, .int a1)] [] u0
  unfold w_X12_signPlace at h
  refine e_bipush (k := 0) (v := (7 : Int32)) rfl (by decide) ?_
  refine e_aload_n (k := 1) (i := 0) rfl rfl 0 rfl ?_
  refine e_getI (k := 2) rfl f_X12_290 rfl rfl ?_
  refine e_imul (k := 3) rfl ?_
  refine e_iload_n (k := 4) (i := 1) rfl rfl 1 rfl ?_
  refine e_iadd (k := 5) rfl ?_
  refine e_bipush (k := 6) (v := (64 : Int32)) rfl (by decide) ?_
  refine e_imul (k := 7) rfl ?_
  refine e_aload_n (k := 8) (i := 0) rfl rfl 0 rfl ?_
  refine e_getI (k := 9) rfl f_X12_117 rfl rfl ?_
  refine e_if_ne (k := 10) (tgt := 23) rfl (by decide) (fun z => ?_) (fun z => ?_)
  · have h := h.1 z
    refine e_iload_n (k := 13) (i := 2) rfl rfl 2 rfl ?_
    refine e_bipush (k := 14) (v := (20 : Int32)) rfl (by decide) ?_
    refine e_iadd (k := 15) rfl ?_
    refine e_bipush (k := 16) (v := (63 : Int32)) rfl (by decide) ?_
    refine e_iand (k := 17) rfl ?_
    refine e_sub (lv' := []) [] rfl ?_
    exact s_X12_signPlace_30 hg h
  · have h := h.2 z
    refine e_iconst (k := 11) (v := (0 : Int32)) rfl (by decide) ?_
    refine e_goto (k := 12) (tgt := 30) rfl (by decide) ?_
    refine e_sub (lv' := []) [] rfl ?_
    exact s_X12_signPlace_30 hg h
def il_X1_mayCome : List (Nat × Instr × Nat) := [(0, .aload_n 0, 1), (1, .getfield 19, 3), (4, .getfield 71, 3), (7, .iconst 0, 1), (8, .iaload, 1), (9, .ifCond .le 7, 3), (12, .iconst 1, 1), (13, .goto 4, 3), (16, .iconst 0, 1), (17, .istore_n 2, 1), (18, .aload_n 0, 1), (19, .getfield 19, 3), (22, .getfield 77, 3), (25, .ifCond .le 7, 3), (28, .iconst 1, 1), (29, .goto 4, 3), (32, .iconst 0, 1), (33, .istore_n 3, 1), (34, .iload_n 1, 1), (35, .tableswitch 174 75 88 #[172, 138, 121, 174, 174, 174, 155, 174, 174, 79, 174, 174, 174, 69], 69), (104, .iload_n 2, 1), (105, .ifCond .ne 7, 3), (108, .iconst 1, 1), (109, .goto 4, 3), (112, .iconst 0, 1), (113, .ireturn, 1), (114, .iload_n 2, 1), (115, .ifCond .eq 39, 3), (118, .aload_n 0, 1), (119, .getfield 19, 3), (122, .getfield 77, 3), (125, .iconst 3, 1), (126, .if_icmp .ge 28, 3), (129, .aload_n 0, 1), (130, .getfield 23, 3), (133, .ifCond .ne 21, 3), (136, .aload_n 0, 1), (137, .getfield 27, 3), (140, .ifCond .ne 14, 3), (143, .aload_n 0, 1), (144, .getfield 30, 3), (147, .ifCond .ne 7, 3), (150, .iconst 1, 1), (151, .goto 4, 3), (154, .iconst 0, 1), (155, .ireturn, 1), (156, .iload_n 3, 1), (157, .ifCond .eq 14, 3), (160, .aload_n 0, 1), (161, .getfield 23, 3), (164, .ifCond .ne 7, 3), (167, .iconst 1, 1), (168, .goto 4, 3), (171, .iconst 0, 1), (172, .ireturn, 1), (173, .iload_n 3, 1), (174, .ifCond .eq 14, 3), (177, .aload_n 0, 1), (178, .getfield 27, 3), (181, .ifCond .ne 7, 3), (184, .iconst 1, 1), (185, .goto 4, 3), (188, .iconst 0, 1), (189, .ireturn, 1), (190, .iload_n 3, 1), (191, .ifCond .eq 14, 3), (194, .aload_n 0, 1), (195, .getfield 30, 3), (198, .ifCond .ne 7, 3), (201, .iconst 1, 1), (202, .goto 4, 3), (205, .iconst 0, 1), (206, .ireturn, 1), (207, .iload_n 3, 1), (208, .ireturn, 1), (209, .iconst 0, 1), (210, .ireturn, 1)]
set_option maxRecDepth 20000 in
theorem il_X1_mayCome_ok : ∀ x ∈ il_X1_mayCome, decode cX1_mayCome x.1 = .ok x.2 := by decide +kernel
abbrev me_X1_mayCome : Me := (RX1, il_X1_mayCome, 4, (some .boolean), xRoom 1, [])
def w_X1_mayCome_206 (n : Nat) (t0 : Int32) (u0 : Mm) (Q : Int32 → Mm → Prop) : Prop :=
  narrow .boolean (.int t0) = .int t0 ∧ Q t0 u0
def w_X1_mayCome_205 (n : Nat) (u0 : Mm) (Q : Int32 → Mm → Prop) : Prop :=
  w_X1_mayCome_206 n (0 : Int32) u0 Q
def w_X1_mayCome_189 (n : Nat) (t0 : Int32) (u0 : Mm) (Q : Int32 → Mm → Prop) : Prop :=
  narrow .boolean (.int t0) = .int t0 ∧ Q t0 u0
def w_X1_mayCome_188 (n : Nat) (u0 : Mm) (Q : Int32 → Mm → Prop) : Prop :=
  w_X1_mayCome_189 n (0 : Int32) u0 Q
def w_X1_mayCome_172 (n : Nat) (t0 : Int32) (u0 : Mm) (Q : Int32 → Mm → Prop) : Prop :=
  narrow .boolean (.int t0) = .int t0 ∧ Q t0 u0
def w_X1_mayCome_171 (n : Nat) (u0 : Mm) (Q : Int32 → Mm → Prop) : Prop :=
  w_X1_mayCome_172 n (0 : Int32) u0 Q
def w_X1_mayCome_155 (n : Nat) (t0 : Int32) (u0 : Mm) (Q : Int32 → Mm → Prop) : Prop :=
  narrow .boolean (.int t0) = .int t0 ∧ Q t0 u0
def w_X1_mayCome_154 (n : Nat) (u0 : Mm) (Q : Int32 → Mm → Prop) : Prop :=
  w_X1_mayCome_155 n (0 : Int32) u0 Q
def w_X1_mayCome_113 (n : Nat) (t0 : Int32) (u0 : Mm) (Q : Int32 → Mm → Prop) : Prop :=
  narrow .boolean (.int t0) = .int t0 ∧ Q t0 u0
def w_X1_mayCome_33 (n : Nat) (x1 : Int32) (x2 : Int32) (t0 : Int32) (u0 : Mm) (Q : Int32 → Mm → Prop) : Prop :=
  (x1 = (75 : Int32) → narrow .boolean (.int t0) = .int t0 ∧ Q t0 u0) ∧
  (¬ x1 = (75 : Int32) → (x1 = (76 : Int32) → (t0 = 0 → w_X1_mayCome_188 n u0 Q) ∧
  (¬ t0 = 0 → (¬ (u0.1 37 4) = 0 → w_X1_mayCome_188 n u0 Q) ∧
  ((u0.1 37 4) = 0 → w_X1_mayCome_189 n (1 : Int32) u0 Q))) ∧
  (¬ x1 = (76 : Int32) → (x1 = (77 : Int32) → (t0 = 0 → w_X1_mayCome_171 n u0 Q) ∧
  (¬ t0 = 0 → (¬ (u0.1 37 3) = 0 → w_X1_mayCome_171 n u0 Q) ∧
  ((u0.1 37 3) = 0 → w_X1_mayCome_172 n (1 : Int32) u0 Q))) ∧
  (¬ x1 = (77 : Int32) → (x1 = (78 : Int32) → Q (0 : Int32) u0) ∧
  (¬ x1 = (78 : Int32) → (x1 = (79 : Int32) → Q (0 : Int32) u0) ∧
  (¬ x1 = (79 : Int32) → (x1 = (80 : Int32) → Q (0 : Int32) u0) ∧
  (¬ x1 = (80 : Int32) → (x1 = (81 : Int32) → (t0 = 0 → w_X1_mayCome_205 n u0 Q) ∧
  (¬ t0 = 0 → (¬ (u0.1 37 5) = 0 → w_X1_mayCome_205 n u0 Q) ∧
  ((u0.1 37 5) = 0 → w_X1_mayCome_206 n (1 : Int32) u0 Q))) ∧
  (¬ x1 = (81 : Int32) → (x1 = (82 : Int32) → Q (0 : Int32) u0) ∧
  (¬ x1 = (82 : Int32) → (x1 = (83 : Int32) → Q (0 : Int32) u0) ∧
  (¬ x1 = (83 : Int32) → (x1 = (84 : Int32) → (x2 = 0 → w_X1_mayCome_154 n u0 Q) ∧
  (¬ x2 = 0 → ((3 : Int32) ≤ (u0.1 35 8) → w_X1_mayCome_154 n u0 Q) ∧
  (¬ (3 : Int32) ≤ (u0.1 35 8) → (¬ (u0.1 37 3) = 0 → w_X1_mayCome_154 n u0 Q) ∧
  ((u0.1 37 3) = 0 → (¬ (u0.1 37 4) = 0 → w_X1_mayCome_154 n u0 Q) ∧
  ((u0.1 37 4) = 0 → (¬ (u0.1 37 5) = 0 → w_X1_mayCome_154 n u0 Q) ∧
  ((u0.1 37 5) = 0 → w_X1_mayCome_155 n (1 : Int32) u0 Q)))))) ∧
  (¬ x1 = (84 : Int32) → (x1 = (85 : Int32) → Q (0 : Int32) u0) ∧
  (¬ x1 = (85 : Int32) → (x1 = (86 : Int32) → Q (0 : Int32) u0) ∧
  (¬ x1 = (86 : Int32) → (x1 = (87 : Int32) → Q (0 : Int32) u0) ∧
  (¬ x1 = (87 : Int32) → (x1 = (88 : Int32) → (¬ x2 = 0 → w_X1_mayCome_113 n (0 : Int32) u0 Q) ∧
  (x2 = 0 → w_X1_mayCome_113 n (1 : Int32) u0 Q)) ∧
  (¬ x1 = (88 : Int32) → Q (0 : Int32) u0))))))))))))))
def w_X1_mayCome_17 (n : Nat) (x1 : Int32) (t0 : Int32) (u0 : Mm) (Q : Int32 → Mm → Prop) : Prop :=
  ((u0.1 35 8) ≤ 0 → w_X1_mayCome_33 n x1 t0 (0 : Int32) u0 Q) ∧
  (¬ (u0.1 35 8) ≤ 0 → w_X1_mayCome_33 n x1 t0 (1 : Int32) u0 Q)
def w_X1_mayCome (n : Nat) (a0 : Int32) (u0 : Mm) (Q : Int32 → Mm → Prop) : Prop :=
  ((u0.1 43 (ix (0 : Int32))) ≤ 0 → w_X1_mayCome_17 n a0 (0 : Int32) u0 Q) ∧
  (¬ (u0.1 43 (ix (0 : Int32))) ≤ 0 → w_X1_mayCome_17 n a0 (1 : Int32) u0 Q)
set_option maxRecDepth 20000 in
theorem s_X1_mayCome_206 {g : Gb} (hg : xInj g) {n : Nat} {Q : Int32 → Mm → Prop} {t0 : Int32} {u0 : Mm} (h : w_X1_mayCome_206 n t0 u0 Q) : xE g me_X1_mayCome (pI g Q noT) 206 [] [.int t0] u0 := by
  unfold w_X1_mayCome_206 at h
  exact e_zret (k := 72) rfl rfl h.1 (Or.inl ⟨_, rfl, h.2⟩)
set_option maxRecDepth 20000 in
theorem s_X1_mayCome_205 {g : Gb} (hg : xInj g) {n : Nat} {Q : Int32 → Mm → Prop} {u0 : Mm} (h : w_X1_mayCome_205 n  u0 Q) : xE g me_X1_mayCome (pI g Q noT) 205 [] [] u0 := by
  unfold w_X1_mayCome_205 at h
  refine e_iconst (k := 71) (v := (0 : Int32)) rfl (by decide) ?_
  exact s_X1_mayCome_206 hg h
set_option maxRecDepth 20000 in
theorem s_X1_mayCome_189 {g : Gb} (hg : xInj g) {n : Nat} {Q : Int32 → Mm → Prop} {t0 : Int32} {u0 : Mm} (h : w_X1_mayCome_189 n t0 u0 Q) : xE g me_X1_mayCome (pI g Q noT) 189 [] [.int t0] u0 := by
  unfold w_X1_mayCome_189 at h
  exact e_zret (k := 63) rfl rfl h.1 (Or.inl ⟨_, rfl, h.2⟩)
set_option maxRecDepth 20000 in
theorem s_X1_mayCome_188 {g : Gb} (hg : xInj g) {n : Nat} {Q : Int32 → Mm → Prop} {u0 : Mm} (h : w_X1_mayCome_188 n  u0 Q) : xE g me_X1_mayCome (pI g Q noT) 188 [] [] u0 := by
  unfold w_X1_mayCome_188 at h
  refine e_iconst (k := 62) (v := (0 : Int32)) rfl (by decide) ?_
  exact s_X1_mayCome_189 hg h
set_option maxRecDepth 20000 in
theorem s_X1_mayCome_172 {g : Gb} (hg : xInj g) {n : Nat} {Q : Int32 → Mm → Prop} {t0 : Int32} {u0 : Mm} (h : w_X1_mayCome_172 n t0 u0 Q) : xE g me_X1_mayCome (pI g Q noT) 172 [] [.int t0] u0 := by
  unfold w_X1_mayCome_172 at h
  exact e_zret (k := 54) rfl rfl h.1 (Or.inl ⟨_, rfl, h.2⟩)
set_option maxRecDepth 20000 in
theorem s_X1_mayCome_171 {g : Gb} (hg : xInj g) {n : Nat} {Q : Int32 → Mm → Prop} {u0 : Mm} (h : w_X1_mayCome_171 n  u0 Q) : xE g me_X1_mayCome (pI g Q noT) 171 [] [] u0 := by
  unfold w_X1_mayCome_171 at h
  refine e_iconst (k := 53) (v := (0 : Int32)) rfl (by decide) ?_
  exact s_X1_mayCome_172 hg h
set_option maxRecDepth 20000 in
theorem s_X1_mayCome_155 {g : Gb} (hg : xInj g) {n : Nat} {Q : Int32 → Mm → Prop} {t0 : Int32} {u0 : Mm} (h : w_X1_mayCome_155 n t0 u0 Q) : xE g me_X1_mayCome (pI g Q noT) 155 [] [.int t0] u0 := by
  unfold w_X1_mayCome_155 at h
  exact e_zret (k := 45) rfl rfl h.1 (Or.inl ⟨_, rfl, h.2⟩)
set_option maxRecDepth 20000 in
theorem s_X1_mayCome_154 {g : Gb} (hg : xInj g) {n : Nat} {Q : Int32 → Mm → Prop} {u0 : Mm} (h : w_X1_mayCome_154 n  u0 Q) : xE g me_X1_mayCome (pI g Q noT) 154 [] [] u0 := by
  unfold w_X1_mayCome_154 at h
  refine e_iconst (k := 44) (v := (0 : Int32)) rfl (by decide) ?_
  exact s_X1_mayCome_155 hg h
set_option maxRecDepth 20000 in
theorem s_X1_mayCome_113 {g : Gb} (hg : xInj g) {n : Nat} {Q : Int32 → Mm → Prop} {t0 : Int32} {u0 : Mm} (h : w_X1_mayCome_113 n t0 u0 Q) : xE g me_X1_mayCome (pI g Q noT) 113 [] [.int t0] u0 := by
  unfold w_X1_mayCome_113 at h
  exact e_zret (k := 25) rfl rfl h.1 (Or.inl ⟨_, rfl, h.2⟩)
set_option maxRecDepth 20000 in
theorem s_X1_mayCome_33 {g : Gb} (hg : xInj g) {n : Nat} {Q : Int32 → Mm → Prop} {x1 : Int32} {x2 : Int32} {t0 : Int32} {u0 : Mm} (h : w_X1_mayCome_33 n x1 x2 t0 u0 Q) : xE g me_X1_mayCome (pI g Q noT) 33 [(0, .ref (gR g 37)), (1, .int x1), (2, .int x2)] [.int t0] u0 := by
  unfold w_X1_mayCome_33 at h
  refine e_istore_n (k := 17) (i := 3) (lv' := [(0, .ref (gR g 37)), (1, .int x1), (2, .int x2), (3, .int t0)]) rfl rfl (by decide) [1, 2, 3, 0] rfl ?_
  refine e_iload_n (k := 18) (i := 1) rfl rfl 1 rfl ?_
  refine e_case (a := x1 = (75 : Int32)) (fun z75 => ?_) (fun z75 => ?_)
  · have h := h.1 z75
    refine e_tableIn (k := 19) (tgt := 207) (off := 172) rfl z75 (by decide) (by decide) (by decide) (by decide) ?_
    refine e_iload_n (k := 73) (i := 3) rfl rfl 3 rfl ?_
    exact e_zret (k := 74) rfl rfl h.1 (Or.inl ⟨_, rfl, h.2⟩)
  · have h := h.2 z75
    refine e_case (a := x1 = (76 : Int32)) (fun z76 => ?_) (fun z76 => ?_)
    · have h := h.1 z76
      refine e_tableIn (k := 19) (tgt := 173) (off := 138) rfl z76 (by decide) (by decide) (by decide) (by decide) ?_
      refine e_iload_n (k := 55) (i := 3) rfl rfl 3 rfl ?_
      refine e_if_eq (k := 56) (tgt := 188) rfl (by decide) (fun z => ?_) (fun z => ?_)
      · have h := h.1 z
        refine e_sub (lv' := []) [] rfl ?_
        exact s_X1_mayCome_188 hg h
      · have h := h.2 z
        refine e_aload_n (k := 57) (i := 0) rfl rfl 0 rfl ?_
        refine e_getI (k := 58) rfl f_X1_27 rfl rfl ?_
        refine e_if_ne (k := 59) (tgt := 188) rfl (by decide) (fun z => ?_) (fun z => ?_)
        · have h := h.1 z
          refine e_sub (lv' := []) [] rfl ?_
          exact s_X1_mayCome_188 hg h
        · have h := h.2 z
          refine e_iconst (k := 60) (v := (1 : Int32)) rfl (by decide) ?_
          refine e_goto (k := 61) (tgt := 189) rfl (by decide) ?_
          refine e_sub (lv' := []) [] rfl ?_
          exact s_X1_mayCome_189 hg h
    · have h := h.2 z76
      refine e_case (a := x1 = (77 : Int32)) (fun z77 => ?_) (fun z77 => ?_)
      · have h := h.1 z77
        refine e_tableIn (k := 19) (tgt := 156) (off := 121) rfl z77 (by decide) (by decide) (by decide) (by decide) ?_
        refine e_iload_n (k := 46) (i := 3) rfl rfl 3 rfl ?_
        refine e_if_eq (k := 47) (tgt := 171) rfl (by decide) (fun z => ?_) (fun z => ?_)
        · have h := h.1 z
          refine e_sub (lv' := []) [] rfl ?_
          exact s_X1_mayCome_171 hg h
        · have h := h.2 z
          refine e_aload_n (k := 48) (i := 0) rfl rfl 0 rfl ?_
          refine e_getI (k := 49) rfl f_X1_23 rfl rfl ?_
          refine e_if_ne (k := 50) (tgt := 171) rfl (by decide) (fun z => ?_) (fun z => ?_)
          · have h := h.1 z
            refine e_sub (lv' := []) [] rfl ?_
            exact s_X1_mayCome_171 hg h
          · have h := h.2 z
            refine e_iconst (k := 51) (v := (1 : Int32)) rfl (by decide) ?_
            refine e_goto (k := 52) (tgt := 172) rfl (by decide) ?_
            refine e_sub (lv' := []) [] rfl ?_
            exact s_X1_mayCome_172 hg h
      · have h := h.2 z77
        refine e_case (a := x1 = (78 : Int32)) (fun z78 => ?_) (fun z78 => ?_)
        · have h := h.1 z78
          refine e_tableIn (k := 19) (tgt := 209) (off := 174) rfl z78 (by decide) (by decide) (by decide) (by decide) ?_
          refine e_iconst (k := 75) (v := (0 : Int32)) rfl (by decide) ?_
          exact e_zret (k := 76) rfl rfl (by decide) (Or.inl ⟨_, rfl, h⟩)
        · have h := h.2 z78
          refine e_case (a := x1 = (79 : Int32)) (fun z79 => ?_) (fun z79 => ?_)
          · have h := h.1 z79
            refine e_tableIn (k := 19) (tgt := 209) (off := 174) rfl z79 (by decide) (by decide) (by decide) (by decide) ?_
            refine e_iconst (k := 75) (v := (0 : Int32)) rfl (by decide) ?_
            exact e_zret (k := 76) rfl rfl (by decide) (Or.inl ⟨_, rfl, h⟩)
          · have h := h.2 z79
            refine e_case (a := x1 = (80 : Int32)) (fun z80 => ?_) (fun z80 => ?_)
            · have h := h.1 z80
              refine e_tableIn (k := 19) (tgt := 209) (off := 174) rfl z80 (by decide) (by decide) (by decide) (by decide) ?_
              refine e_iconst (k := 75) (v := (0 : Int32)) rfl (by decide) ?_
              exact e_zret (k := 76) rfl rfl (by decide) (Or.inl ⟨_, rfl, h⟩)
            · have h := h.2 z80
              refine e_case (a := x1 = (81 : Int32)) (fun z81 => ?_) (fun z81 => ?_)
              · have h := h.1 z81
                refine e_tableIn (k := 19) (tgt := 190) (off := 155) rfl z81 (by decide) (by decide) (by decide) (by decide) ?_
                refine e_iload_n (k := 64) (i := 3) rfl rfl 3 rfl ?_
                refine e_if_eq (k := 65) (tgt := 205) rfl (by decide) (fun z => ?_) (fun z => ?_)
                · have h := h.1 z
                  refine e_sub (lv' := []) [] rfl ?_
                  exact s_X1_mayCome_205 hg h
                · have h := h.2 z
                  refine e_aload_n (k := 66) (i := 0) rfl rfl 0 rfl ?_
                  refine e_getI (k := 67) rfl f_X1_30 rfl rfl ?_
                  refine e_if_ne (k := 68) (tgt := 205) rfl (by decide) (fun z => ?_) (fun z => ?_)
                  · have h := h.1 z
                    refine e_sub (lv' := []) [] rfl ?_
                    exact s_X1_mayCome_205 hg h
                  · have h := h.2 z
                    refine e_iconst (k := 69) (v := (1 : Int32)) rfl (by decide) ?_
                    refine e_goto (k := 70) (tgt := 206) rfl (by decide) ?_
                    refine e_sub (lv' := []) [] rfl ?_
                    exact s_X1_mayCome_206 hg h
              · have h := h.2 z81
                refine e_case (a := x1 = (82 : Int32)) (fun z82 => ?_) (fun z82 => ?_)
                · have h := h.1 z82
                  refine e_tableIn (k := 19) (tgt := 209) (off := 174) rfl z82 (by decide) (by decide) (by decide) (by decide) ?_
                  refine e_iconst (k := 75) (v := (0 : Int32)) rfl (by decide) ?_
                  exact e_zret (k := 76) rfl rfl (by decide) (Or.inl ⟨_, rfl, h⟩)
                · have h := h.2 z82
                  refine e_case (a := x1 = (83 : Int32)) (fun z83 => ?_) (fun z83 => ?_)
                  · have h := h.1 z83
                    refine e_tableIn (k := 19) (tgt := 209) (off := 174) rfl z83 (by decide) (by decide) (by decide) (by decide) ?_
                    refine e_iconst (k := 75) (v := (0 : Int32)) rfl (by decide) ?_
                    exact e_zret (k := 76) rfl rfl (by decide) (Or.inl ⟨_, rfl, h⟩)
                  · have h := h.2 z83
                    refine e_case (a := x1 = (84 : Int32)) (fun z84 => ?_) (fun z84 => ?_)
                    · have h := h.1 z84
                      refine e_tableIn (k := 19) (tgt := 114) (off := 79) rfl z84 (by decide) (by decide) (by decide) (by decide) ?_
                      refine e_iload_n (k := 26) (i := 2) rfl rfl 2 rfl ?_
                      refine e_if_eq (k := 27) (tgt := 154) rfl (by decide) (fun z => ?_) (fun z => ?_)
                      · have h := h.1 z
                        refine e_sub (lv' := []) [] rfl ?_
                        exact s_X1_mayCome_154 hg h
                      · have h := h.2 z
                        refine e_aload_n (k := 28) (i := 0) rfl rfl 0 rfl ?_
                        refine e_getC (k := 29) rfl f_X1_19 rfl rfl ?_
                        refine e_getI (k := 30) rfl f_X1_77 rfl rfl ?_
                        refine e_iconst (k := 31) (v := (3 : Int32)) rfl (by decide) ?_
                        refine e_icmp_ge (k := 32) (tgt := 154) rfl (by decide) (fun z => ?_) (fun z => ?_)
                        · have h := h.1 z
                          refine e_sub (lv' := []) [] rfl ?_
                          exact s_X1_mayCome_154 hg h
                        · have h := h.2 z
                          refine e_aload_n (k := 33) (i := 0) rfl rfl 0 rfl ?_
                          refine e_getI (k := 34) rfl f_X1_23 rfl rfl ?_
                          refine e_if_ne (k := 35) (tgt := 154) rfl (by decide) (fun z => ?_) (fun z => ?_)
                          · have h := h.1 z
                            refine e_sub (lv' := []) [] rfl ?_
                            exact s_X1_mayCome_154 hg h
                          · have h := h.2 z
                            refine e_aload_n (k := 36) (i := 0) rfl rfl 0 rfl ?_
                            refine e_getI (k := 37) rfl f_X1_27 rfl rfl ?_
                            refine e_if_ne (k := 38) (tgt := 154) rfl (by decide) (fun z => ?_) (fun z => ?_)
                            · have h := h.1 z
                              refine e_sub (lv' := []) [] rfl ?_
                              exact s_X1_mayCome_154 hg h
                            · have h := h.2 z
                              refine e_aload_n (k := 39) (i := 0) rfl rfl 0 rfl ?_
                              refine e_getI (k := 40) rfl f_X1_30 rfl rfl ?_
                              refine e_if_ne (k := 41) (tgt := 154) rfl (by decide) (fun z => ?_) (fun z => ?_)
                              · have h := h.1 z
                                refine e_sub (lv' := []) [] rfl ?_
                                exact s_X1_mayCome_154 hg h
                              · have h := h.2 z
                                refine e_iconst (k := 42) (v := (1 : Int32)) rfl (by decide) ?_
                                refine e_goto (k := 43) (tgt := 155) rfl (by decide) ?_
                                refine e_sub (lv' := []) [] rfl ?_
                                exact s_X1_mayCome_155 hg h
                    · have h := h.2 z84
                      refine e_case (a := x1 = (85 : Int32)) (fun z85 => ?_) (fun z85 => ?_)
                      · have h := h.1 z85
                        refine e_tableIn (k := 19) (tgt := 209) (off := 174) rfl z85 (by decide) (by decide) (by decide) (by decide) ?_
                        refine e_iconst (k := 75) (v := (0 : Int32)) rfl (by decide) ?_
                        exact e_zret (k := 76) rfl rfl (by decide) (Or.inl ⟨_, rfl, h⟩)
                      · have h := h.2 z85
                        refine e_case (a := x1 = (86 : Int32)) (fun z86 => ?_) (fun z86 => ?_)
                        · have h := h.1 z86
                          refine e_tableIn (k := 19) (tgt := 209) (off := 174) rfl z86 (by decide) (by decide) (by decide) (by decide) ?_
                          refine e_iconst (k := 75) (v := (0 : Int32)) rfl (by decide) ?_
                          exact e_zret (k := 76) rfl rfl (by decide) (Or.inl ⟨_, rfl, h⟩)
                        · have h := h.2 z86
                          refine e_case (a := x1 = (87 : Int32)) (fun z87 => ?_) (fun z87 => ?_)
                          · have h := h.1 z87
                            refine e_tableIn (k := 19) (tgt := 209) (off := 174) rfl z87 (by decide) (by decide) (by decide) (by decide) ?_
                            refine e_iconst (k := 75) (v := (0 : Int32)) rfl (by decide) ?_
                            exact e_zret (k := 76) rfl rfl (by decide) (Or.inl ⟨_, rfl, h⟩)
                          · have h := h.2 z87
                            refine e_case (a := x1 = (88 : Int32)) (fun z88 => ?_) (fun z88 => ?_)
                            · have h := h.1 z88
                              refine e_tableIn (k := 19) (tgt := 104) (off := 69) rfl z88 (by decide) (by decide) (by decide) (by decide) ?_
                              refine e_iload_n (k := 20) (i := 2) rfl rfl 2 rfl ?_
                              refine e_if_ne (k := 21) (tgt := 112) rfl (by decide) (fun z => ?_) (fun z => ?_)
                              · have h := h.1 z
                                refine e_iconst (k := 24) (v := (0 : Int32)) rfl (by decide) ?_
                                refine e_sub (lv' := []) [] rfl ?_
                                exact s_X1_mayCome_113 hg h
                              · have h := h.2 z
                                refine e_iconst (k := 22) (v := (1 : Int32)) rfl (by decide) ?_
                                refine e_goto (k := 23) (tgt := 113) rfl (by decide) ?_
                                refine e_sub (lv' := []) [] rfl ?_
                                exact s_X1_mayCome_113 hg h
                            · have h := h.2 z88
                              have w75 := xne (i := 75) z75 (by decide)
                              have w76 := xne (i := 76) z76 (by decide)
                              have w77 := xne (i := 77) z77 (by decide)
                              have w78 := xne (i := 78) z78 (by decide)
                              have w79 := xne (i := 79) z79 (by decide)
                              have w80 := xne (i := 80) z80 (by decide)
                              have w81 := xne (i := 81) z81 (by decide)
                              have w82 := xne (i := 82) z82 (by decide)
                              have w83 := xne (i := 83) z83 (by decide)
                              have w84 := xne (i := 84) z84 (by decide)
                              have w85 := xne (i := 85) z85 (by decide)
                              have w86 := xne (i := 86) z86 (by decide)
                              have w87 := xne (i := 87) z87 (by decide)
                              have w88 := xne (i := 88) z88 (by decide)
                              refine e_tableOut (k := 19) (tgt := 209) rfl (by omega) (by decide) ?_
                              refine e_iconst (k := 75) (v := (0 : Int32)) rfl (by decide) ?_
                              exact e_zret (k := 76) rfl rfl (by decide) (Or.inl ⟨_, rfl, h⟩)
set_option maxRecDepth 20000 in
theorem s_X1_mayCome_17 {g : Gb} (hg : xInj g) {n : Nat} {Q : Int32 → Mm → Prop} {x1 : Int32} {t0 : Int32} {u0 : Mm} (h : w_X1_mayCome_17 n x1 t0 u0 Q) : xE g me_X1_mayCome (pI g Q noT) 17 [(0, .ref (gR g 37)), (1, .int x1)] [.int t0] u0 := by
  unfold w_X1_mayCome_17 at h
  refine e_istore_n (k := 9) (i := 2) (lv' := [(0, .ref (gR g 37)), (1, .int x1), (2, .int t0)]) rfl rfl (by decide) [1, 2, 0] rfl ?_
  refine e_aload_n (k := 10) (i := 0) rfl rfl 0 rfl ?_
  refine e_getC (k := 11) rfl f_X1_19 rfl rfl ?_
  refine e_getI (k := 12) rfl f_X1_77 rfl rfl ?_
  refine e_if_le (k := 13) (tgt := 32) rfl (by decide) (fun z => ?_) (fun z => ?_)
  · have h := h.1 z
    refine e_iconst (k := 16) (v := (0 : Int32)) rfl (by decide) ?_
    exact s_X1_mayCome_33 hg h
  · have h := h.2 z
    refine e_iconst (k := 14) (v := (1 : Int32)) rfl (by decide) ?_
    refine e_goto (k := 15) (tgt := 33) rfl (by decide) ?_
    exact s_X1_mayCome_33 hg h
set_option maxRecDepth 20000 in
theorem c_X1_mayCome {g : Gb} (hg : xInj g) {n : Nat} {a0 : Int32} {u0 : Mm} {Q : Int32 → Mm → Prop} (h : w_X1_mayCome n a0 u0 Q) : xMet (gL g) yX1_mayCome (xws yX1_mayCome cX1_mayCome 4 (some .boolean)) (xRoom 1) (xPc g [.ref (gR g 37), .int a0] u0) (xQ g (pI g Q noT)) (xA g) := by
  refine xbody (il := il_X1_mayCome) hg il_X1_mayCome_ok m_X1_mayCome (Nat.le_of_ble_eq_true rfl) ?_
  show xE g me_X1_mayCome (pI g Q noT) 0 [(0, .ref (gR g 37)), (1, .int a0)] [] u0
  unfold w_X1_mayCome at h
  refine e_aload_n (k := 0) (i := 0) rfl rfl 0 rfl ?_
  refine e_getC (k := 1) rfl f_X1_19 rfl rfl ?_
  refine e_getC (k := 2) rfl f_X1_71 rfl rfl ?_
  refine e_iconst (k := 3) (v := (0 : Int32)) rfl (by decide) ?_
  refine e_iald (k := 4) rfl rfl (by unfold vp_in; decide) ?_
  refine e_if_le (k := 5) (tgt := 16) rfl (by decide) (fun z => ?_) (fun z => ?_)
  · have h := h.1 z
    refine e_iconst (k := 8) (v := (0 : Int32)) rfl (by decide) ?_
    exact s_X1_mayCome_17 hg h
  · have h := h.2 z
    refine e_iconst (k := 6) (v := (1 : Int32)) rfl (by decide) ?_
    refine e_goto (k := 7) (tgt := 17) rfl (by decide) ?_
    exact s_X1_mayCome_17 hg h
def il_X2_beginTuplet : List (Nat × Instr × Nat) := [(0, .aload_n 0, 1), (1, .iload_n 1, 1), (2, .putfield 36, 3), (5, .aload_n 0, 1), (6, .iload_n 2, 1), (7, .putfield 39, 3), (10, .aload_n 0, 1), (11, .iload_n 3, 1), (12, .putfield 9, 3), (15, .return_, 1)]
set_option maxRecDepth 20000 in
theorem il_X2_beginTuplet_ok : ∀ x ∈ il_X2_beginTuplet, decode cX2_beginTuplet x.1 = .ok x.2 := by decide +kernel
abbrev me_X2_beginTuplet : Me := (RX2, il_X2_beginTuplet, 4, none, xRoom 1, [])
def w_X2_beginTuplet (n : Nat) (a0 : Int32) (a1 : Int32) (a2 : Int32) (u0 : Mm) (Q : Mm → Prop) : Prop :=
  mlet (setI u0 39 4 a0) fun u1 =>
  mlet (setI u1 39 5 a1) fun u2 =>
  mlet (setI u2 39 3 a2) fun u3 =>
  Q u3
set_option maxRecDepth 20000 in
theorem c_X2_beginTuplet {g : Gb} (hg : xInj g) {n : Nat} {a0 : Int32} {a1 : Int32} {a2 : Int32} {u0 : Mm} {Q : Mm → Prop} (h : w_X2_beginTuplet n a0 a1 a2 u0 Q) : xMet (gL g) yX2_beginTuplet (xws yX2_beginTuplet cX2_beginTuplet 4 none) (xRoom 1) (xPc g [.ref (gR g 39), .int a0, .int a1, .int a2] u0) (xQ g (pV g Q noT)) (xA g) := by
  refine xbody (il := il_X2_beginTuplet) hg il_X2_beginTuplet_ok m_X2_beginTuplet (Nat.le_of_ble_eq_true rfl) ?_
  show xE g me_X2_beginTuplet (pV g Q noT) 0 [(0, .ref (gR g 39)), (1, .int a0), (2, .int a1), (3, .int a2)] [] u0
  unfold w_X2_beginTuplet at h
  refine e_aload_n (k := 0) (i := 0) rfl rfl 0 rfl ?_
  refine e_iload_n (k := 1) (i := 1) rfl rfl 1 rfl ?_
  refine e_putI (k := 2) rfl fg_X2_36 rfl rfl ?_
  refine e_mlet h (fun u1 h => ?_)
  refine e_aload_n (k := 3) (i := 0) rfl rfl 0 rfl ?_
  refine e_iload_n (k := 4) (i := 2) rfl rfl 2 rfl ?_
  refine e_putI (k := 5) rfl fg_X2_39 rfl rfl ?_
  refine e_mlet h (fun u2 h => ?_)
  refine e_aload_n (k := 6) (i := 0) rfl rfl 0 rfl ?_
  refine e_iload_n (k := 7) (i := 3) rfl rfl 3 rfl ?_
  refine e_putI (k := 8) rfl fg_X2_9 rfl rfl ?_
  refine e_mlet h (fun u3 h => ?_)
  exact e_vret (k := 9) rfl rfl (Or.inl ⟨rfl, h⟩)
def il_X2_clearBroken : List (Nat × Instr × Nat) := [(0, .aload_n 0, 1), (1, .iconst 1, 1), (2, .putfield 21, 3), (5, .aload_n 0, 1), (6, .iconst 1, 1), (7, .putfield 24, 3), (10, .return_, 1)]
set_option maxRecDepth 20000 in
theorem il_X2_clearBroken_ok : ∀ x ∈ il_X2_clearBroken, decode cX2_clearBroken x.1 = .ok x.2 := by decide +kernel
abbrev me_X2_clearBroken : Me := (RX2, il_X2_clearBroken, 1, none, xRoom 1, [])
def w_X2_clearBroken (n : Nat) (u0 : Mm) (Q : Mm → Prop) : Prop :=
  mlet (setI u0 39 6 (1 : Int32)) fun u1 =>
  mlet (setI u1 39 7 (1 : Int32)) fun u2 =>
  Q u2
set_option maxRecDepth 20000 in
theorem c_X2_clearBroken {g : Gb} (hg : xInj g) {n : Nat} {u0 : Mm} {Q : Mm → Prop} (h : w_X2_clearBroken n u0 Q) : xMet (gL g) yX2_clearBroken (xws yX2_clearBroken cX2_clearBroken 1 none) (xRoom 1) (xPc g [.ref (gR g 39)] u0) (xQ g (pV g Q noT)) (xA g) := by
  refine xbody (il := il_X2_clearBroken) hg il_X2_clearBroken_ok m_X2_clearBroken (Nat.le_of_ble_eq_true rfl) ?_
  show xE g me_X2_clearBroken (pV g Q noT) 0 [(0, .ref (gR g 39))] [] u0
  unfold w_X2_clearBroken at h
  refine e_aload_n (k := 0) (i := 0) rfl rfl 0 rfl ?_
  refine e_iconst (k := 1) (v := (1 : Int32)) rfl (by decide) ?_
  refine e_putI (k := 2) rfl fg_X2_21 rfl rfl ?_
  refine e_mlet h (fun u1 h => ?_)
  refine e_aload_n (k := 3) (i := 0) rfl rfl 0 rfl ?_
  refine e_iconst (k := 4) (v := (1 : Int32)) rfl (by decide) ?_
  refine e_putI (k := 5) rfl fg_X2_24 rfl rfl ?_
  refine e_mlet h (fun u2 h => ?_)
  exact e_vret (k := 6) rfl rfl (Or.inl ⟨rfl, h⟩)
def il_X2_clearSigns : List (Nat × Instr × Nat) := [(0, .aload_n 0, 1), (1, .iconst 0, 1), (2, .putfield 27, 3), (5, .aload_n 0, 1), (6, .iconst 0, 1), (7, .putfield 30, 3), (10, .aload_n 0, 1), (11, .iconst 0, 1), (12, .putfield 33, 3), (15, .return_, 1)]
set_option maxRecDepth 20000 in
theorem il_X2_clearSigns_ok : ∀ x ∈ il_X2_clearSigns, decode cX2_clearSigns x.1 = .ok x.2 := by decide +kernel
abbrev me_X2_clearSigns : Me := (RX2, il_X2_clearSigns, 1, none, xRoom 1, [])
def w_X2_clearSigns (n : Nat) (u0 : Mm) (Q : Mm → Prop) : Prop :=
  mlet (setI u0 39 0 (0 : Int32)) fun u1 =>
  mlet (setI u1 39 1 (0 : Int32)) fun u2 =>
  mlet (setI u2 39 2 (0 : Int32)) fun u3 =>
  Q u3
set_option maxRecDepth 20000 in
theorem c_X2_clearSigns {g : Gb} (hg : xInj g) {n : Nat} {u0 : Mm} {Q : Mm → Prop} (h : w_X2_clearSigns n u0 Q) : xMet (gL g) yX2_clearSigns (xws yX2_clearSigns cX2_clearSigns 1 none) (xRoom 1) (xPc g [.ref (gR g 39)] u0) (xQ g (pV g Q noT)) (xA g) := by
  refine xbody (il := il_X2_clearSigns) hg il_X2_clearSigns_ok m_X2_clearSigns (Nat.le_of_ble_eq_true rfl) ?_
  show xE g me_X2_clearSigns (pV g Q noT) 0 [(0, .ref (gR g 39))] [] u0
  unfold w_X2_clearSigns at h
  refine e_aload_n (k := 0) (i := 0) rfl rfl 0 rfl ?_
  refine e_iconst (k := 1) (v := (0 : Int32)) rfl (by decide) ?_
  refine e_putI (k := 2) rfl fg_X2_27 rfl rfl ?_
  refine e_mlet h (fun u1 h => ?_)
  refine e_aload_n (k := 3) (i := 0) rfl rfl 0 rfl ?_
  refine e_iconst (k := 4) (v := (0 : Int32)) rfl (by decide) ?_
  refine e_putI (k := 5) rfl fg_X2_30 rfl rfl ?_
  refine e_mlet h (fun u2 h => ?_)
  refine e_aload_n (k := 6) (i := 0) rfl rfl 0 rfl ?_
  refine e_iconst (k := 7) (v := (0 : Int32)) rfl (by decide) ?_
  refine e_putI (k := 8) rfl fg_X2_33 rfl rfl ?_
  refine e_mlet h (fun u3 h => ?_)
  exact e_vret (k := 9) rfl rfl (Or.inl ⟨rfl, h⟩)
def il_X2_ticksFor : List (Nat × Instr × Nat) := [(0, .ldc2_w 42, 3), (3, .lload_n 1, 1), (4, .lmul, 1), (5, .aload_n 0, 1), (6, .getfield 21, 3), (9, .i2l, 1), (10, .lmul, 1), (11, .aload_n 0, 1), (12, .getfield 9, 3), (15, .ifCond .le 10, 3), (18, .aload_n 0, 1), (19, .getfield 36, 3), (22, .goto 4, 3), (25, .iconst 1, 1), (26, .i2l, 1), (27, .lmul, 1), (28, .lstore 5, 2), (30, .lload_n 3, 1), (31, .aload_n 0, 1), (32, .getfield 24, 3), (35, .i2l, 1), (36, .lmul, 1), (37, .aload_n 0, 1), (38, .getfield 9, 3), (41, .ifCond .le 10, 3), (44, .aload_n 0, 1), (45, .getfield 39, 3), (48, .goto 4, 3), (51, .iconst 1, 1), (52, .i2l, 1), (53, .lmul, 1), (54, .lstore 7, 2), (56, .lload 7, 2), (58, .lconst 1, 1), (59, .lcmp, 1), (60, .ifCond .lt 13, 3), (63, .lload 5, 2), (65, .lload 7, 2), (67, .lrem, 1), (68, .lconst 0, 1), (69, .lcmp, 1), (70, .ifCond .eq 5, 3), (73, .lconst 0, 1), (74, .lreturn, 1), (75, .lload 5, 2), (77, .lload 7, 2), (79, .ldiv, 1), (80, .lstore 9, 2), (82, .lload 9, 2), (84, .ldc2_w 44, 3), (87, .lcmp, 1), (88, .ifCond .gt 8, 3), (91, .lload 9, 2), (93, .goto 4, 3), (96, .lconst 0, 1), (97, .lreturn, 1)]
set_option maxRecDepth 20000 in
theorem il_X2_ticksFor_ok : ∀ x ∈ il_X2_ticksFor, decode cX2_ticksFor x.1 = .ok x.2 := by decide +kernel
abbrev me_X2_ticksFor : Me := (RX2, il_X2_ticksFor, 11, (some .long), xRoom 1, [])
def w_X2_ticksFor_97 (n : Nat) (t0 : Int64) (u0 : Mm) (Q : Int64 → Mm → Prop) : Prop :=
  Q t0 u0
def w_X2_ticksFor_73 (n : Nat) (u0 : Mm) (Q : Int64 → Mm → Prop) : Prop :=
  Q (0 : Int64) u0
def w_X2_ticksFor_52 (n : Nat) (x5 : Int64) (t0 : Int32) (t1 : Int64) (u0 : Mm) (Q : Int64 → Mm → Prop) : Prop :=
  jlet (t1 * t0.toInt64) fun y1 =>
  ((lg_cmp y1 (1 : Int64)) < 0 → w_X2_ticksFor_73 n u0 Q) ∧
  (¬ (lg_cmp y1 (1 : Int64)) < 0 → ¬ y1 = 0 ∧ (((lg_cmp (x5 - x5 / y1 * y1) (0 : Int64)) = 0 → ¬ y1 = 0 ∧ (jlet (x5 / y1) fun y2 =>
  (0 < (lg_cmp y2 (10321920 : Int64)) → w_X2_ticksFor_97 n (0 : Int64) u0 Q) ∧
  (¬ 0 < (lg_cmp y2 (10321920 : Int64)) → w_X2_ticksFor_97 n y2 u0 Q))) ∧
  (¬ (lg_cmp (x5 - x5 / y1 * y1) (0 : Int64)) = 0 → w_X2_ticksFor_73 n u0 Q)))
def w_X2_ticksFor_26 (n : Nat) (x3 : Int64) (t0 : Int32) (t1 : Int64) (u0 : Mm) (Q : Int64 → Mm → Prop) : Prop :=
  jlet (t1 * t0.toInt64) fun y1 =>
  ((u0.1 39 3) ≤ 0 → w_X2_ticksFor_52 n y1 (1 : Int32) (x3 * (u0.1 39 7).toInt64) u0 Q) ∧
  (¬ (u0.1 39 3) ≤ 0 → w_X2_ticksFor_52 n y1 (u0.1 39 5) (x3 * (u0.1 39 7).toInt64) u0 Q)
def w_X2_ticksFor (n : Nat) (a0 : Int64) (a1 : Int64) (u0 : Mm) (Q : Int64 → Mm → Prop) : Prop :=
  ((u0.1 39 3) ≤ 0 → w_X2_ticksFor_26 n a1 (1 : Int32) (((1290240 : Int64) * a0) * (u0.1 39 6).toInt64) u0 Q) ∧
  (¬ (u0.1 39 3) ≤ 0 → w_X2_ticksFor_26 n a1 (u0.1 39 4) (((1290240 : Int64) * a0) * (u0.1 39 6).toInt64) u0 Q)
set_option maxRecDepth 20000 in
theorem s_X2_ticksFor_97 {g : Gb} (hg : xInj g) {n : Nat} {Q : Int64 → Mm → Prop} {t0 : Int64} {u0 : Mm} (h : w_X2_ticksFor_97 n t0 u0 Q) : xE g me_X2_ticksFor (pL g Q noT) 97 [] [.long t0] u0 := by
  unfold w_X2_ticksFor_97 at h
  exact e_lret (k := 55) rfl rfl (Or.inl ⟨_, rfl, h⟩)
set_option maxRecDepth 20000 in
theorem s_X2_ticksFor_73 {g : Gb} (hg : xInj g) {n : Nat} {Q : Int64 → Mm → Prop} {u0 : Mm} (h : w_X2_ticksFor_73 n  u0 Q) : xE g me_X2_ticksFor (pL g Q noT) 73 [] [] u0 := by
  unfold w_X2_ticksFor_73 at h
  refine e_lconst (k := 42) (v := (0 : Int64)) rfl (by decide) ?_
  exact e_lret (k := 43) rfl rfl (Or.inl ⟨_, rfl, h⟩)
set_option maxRecDepth 20000 in
theorem s_X2_ticksFor_52 {g : Gb} (hg : xInj g) {n : Nat} {Q : Int64 → Mm → Prop} {x5 : Int64} {t0 : Int32} {t1 : Int64} {u0 : Mm} (h : w_X2_ticksFor_52 n x5 t0 t1 u0 Q) : xE g me_X2_ticksFor (pL g Q noT) 52 [(5, .long x5)] [.int t0, .long t1] u0 := by
  unfold w_X2_ticksFor_52 at h
  refine e_i2l (k := 29) rfl ?_
  refine e_lmul (k := 30) rfl ?_
  refine e_jlet h (fun y1 h => ?_)
  refine e_lstore (k := 31) (i := 7) (lv' := [(5, .long x5), (7, .long y1)]) rfl (by decide) [1, 0] rfl ?_
  refine e_lload (k := 32) (i := 7) rfl 1 rfl ?_
  refine e_lconst (k := 33) (v := (1 : Int64)) rfl (by decide) ?_
  refine e_lcmp (k := 34) rfl ?_
  refine e_if_lt (k := 35) (tgt := 73) rfl (by decide) (fun z => ?_) (fun z => ?_)
  · have h := h.1 z
    refine e_sub (lv' := []) [] rfl ?_
    exact s_X2_ticksFor_73 hg h
  · have h := h.2 z
    refine e_lload (k := 36) (i := 5) rfl 0 rfl ?_
    refine e_lload (k := 37) (i := 7) rfl 1 rfl ?_
    refine e_lrem (k := 38) rfl h.1 ?_
    have h := h.2
    refine e_lconst (k := 39) (v := (0 : Int64)) rfl (by decide) ?_
    refine e_lcmp (k := 40) rfl ?_
    refine e_if_eq (k := 41) (tgt := 75) rfl (by decide) (fun z => ?_) (fun z => ?_)
    · have h := h.1 z
      refine e_lload (k := 44) (i := 5) rfl 0 rfl ?_
      refine e_lload (k := 45) (i := 7) rfl 1 rfl ?_
      refine e_ldiv (k := 46) rfl h.1 ?_
      have h := h.2
      refine e_jlet h (fun y2 h => ?_)
      refine e_lstore (k := 47) (i := 9) (lv' := [(5, .long x5), (7, .long y1), (9, .long y2)]) rfl (by decide) [1, 2, 0] rfl ?_
      refine e_lload (k := 48) (i := 9) rfl 2 rfl ?_
      refine e_ldc2 (k := 49) rfl k_X2_44 ?_
      refine e_lcmp (k := 50) rfl ?_
      refine e_if_gt (k := 51) (tgt := 96) rfl (by decide) (fun z => ?_) (fun z => ?_)
      · have h := h.1 z
        refine e_lconst (k := 54) (v := (0 : Int64)) rfl (by decide) ?_
        refine e_sub (lv' := []) [] rfl ?_
        exact s_X2_ticksFor_97 hg h
      · have h := h.2 z
        refine e_lload (k := 52) (i := 9) rfl 2 rfl ?_
        refine e_goto (k := 53) (tgt := 97) rfl (by decide) ?_
        refine e_sub (lv' := []) [] rfl ?_
        exact s_X2_ticksFor_97 hg h
    · have h := h.2 z
      refine e_sub (lv' := []) [] rfl ?_
      exact s_X2_ticksFor_73 hg h
set_option maxRecDepth 20000 in
theorem s_X2_ticksFor_26 {g : Gb} (hg : xInj g) {n : Nat} {Q : Int64 → Mm → Prop} {x3 : Int64} {t0 : Int32} {t1 : Int64} {u0 : Mm} (h : w_X2_ticksFor_26 n x3 t0 t1 u0 Q) : xE g me_X2_ticksFor (pL g Q noT) 26 [(0, .ref (gR g 39)), (3, .long x3)] [.int t0, .long t1] u0 := by
  unfold w_X2_ticksFor_26 at h
  refine e_i2l (k := 14) rfl ?_
  refine e_lmul (k := 15) rfl ?_
  refine e_jlet h (fun y1 h => ?_)
  refine e_lstore (k := 16) (i := 5) (lv' := [(0, .ref (gR g 39)), (3, .long x3), (5, .long y1)]) rfl (by decide) [1, 2, 0] rfl ?_
  refine e_lload_n (k := 17) (i := 3) rfl rfl 1 rfl ?_
  refine e_aload_n (k := 18) (i := 0) rfl rfl 0 rfl ?_
  refine e_getI (k := 19) rfl f_X2_24 rfl rfl ?_
  refine e_i2l (k := 20) rfl ?_
  refine e_lmul (k := 21) rfl ?_
  refine e_aload_n (k := 22) (i := 0) rfl rfl 0 rfl ?_
  refine e_getI (k := 23) rfl f_X2_9 rfl rfl ?_
  refine e_if_le (k := 24) (tgt := 51) rfl (by decide) (fun z => ?_) (fun z => ?_)
  · have h := h.1 z
    refine e_iconst (k := 28) (v := (1 : Int32)) rfl (by decide) ?_
    refine e_sub (lv' := [(5, .long y1)]) [2] rfl ?_
    exact s_X2_ticksFor_52 hg h
  · have h := h.2 z
    refine e_aload_n (k := 25) (i := 0) rfl rfl 0 rfl ?_
    refine e_getI (k := 26) rfl f_X2_39 rfl rfl ?_
    refine e_goto (k := 27) (tgt := 52) rfl (by decide) ?_
    refine e_sub (lv' := [(5, .long y1)]) [2] rfl ?_
    exact s_X2_ticksFor_52 hg h
set_option maxRecDepth 20000 in
theorem c_X2_ticksFor {g : Gb} (hg : xInj g) {n : Nat} {a0 : Int64} {a1 : Int64} {u0 : Mm} {Q : Int64 → Mm → Prop} (h : w_X2_ticksFor n a0 a1 u0 Q) : xMet (gL g) yX2_ticksFor (xws yX2_ticksFor cX2_ticksFor 11 (some .long)) (xRoom 1) (xPc g [.ref (gR g 39), .long a0, .long a1] u0) (xQ g (pL g Q noT)) (xA g) := by
  refine xbody (il := il_X2_ticksFor) hg il_X2_ticksFor_ok m_X2_ticksFor (Nat.le_of_ble_eq_true rfl) ?_
  show xE g me_X2_ticksFor (pL g Q noT) 0 [(0, .ref (gR g 39)), (1, .long a0), (3, .long a1)] [] u0
  unfold w_X2_ticksFor at h
  refine e_ldc2 (k := 0) rfl k_X2_42 ?_
  refine e_lload_n (k := 1) (i := 1) rfl rfl 1 rfl ?_
  refine e_lmul (k := 2) rfl ?_
  refine e_aload_n (k := 3) (i := 0) rfl rfl 0 rfl ?_
  refine e_getI (k := 4) rfl f_X2_21 rfl rfl ?_
  refine e_i2l (k := 5) rfl ?_
  refine e_lmul (k := 6) rfl ?_
  refine e_aload_n (k := 7) (i := 0) rfl rfl 0 rfl ?_
  refine e_getI (k := 8) rfl f_X2_9 rfl rfl ?_
  refine e_if_le (k := 9) (tgt := 25) rfl (by decide) (fun z => ?_) (fun z => ?_)
  · have h := h.1 z
    refine e_iconst (k := 13) (v := (1 : Int32)) rfl (by decide) ?_
    refine e_sub (lv' := [(0, .ref (gR g 39)), (3, .long a1)]) [0, 2] rfl ?_
    exact s_X2_ticksFor_26 hg h
  · have h := h.2 z
    refine e_aload_n (k := 10) (i := 0) rfl rfl 0 rfl ?_
    refine e_getI (k := 11) rfl f_X2_36 rfl rfl ?_
    refine e_goto (k := 12) (tgt := 26) rfl (by decide) ?_
    refine e_sub (lv' := [(0, .ref (gR g 39)), (3, .long a1)]) [0, 2] rfl ?_
    exact s_X2_ticksFor_26 hg h
def il_X3_behindStop : List (Nat × Instr × Nat) := [(0, .iload_n 2, 1), (1, .iconst 1, 1), (2, .iadd, 1), (3, .istore_n 3, 1), (4, .iload_n 3, 1), (5, .iload_n 1, 1), (6, .if_icmp .ge 23, 3), (9, .iload_n 3, 1), (10, .aload_n 0, 1), (11, .arraylength, 1), (12, .if_icmp .ge 17, 3), (15, .aload_n 0, 1), (16, .iload_n 3, 1), (17, .iaload, 1), (18, .iconst 4, 1), (19, .iand, 1), (20, .ifCond .ne 9, 3), (23, .iinc 3 1, 3), (26, .goto (-22), 3), (29, .iload_n 3, 1), (30, .ireturn, 1)]
set_option maxRecDepth 20000 in
theorem il_X3_behindStop_ok : ∀ x ∈ il_X3_behindStop, decode cX3_behindStop x.1 = .ok x.2 := by decide +kernel
abbrev me_X3_behindStop : Me := (RX3, il_X3_behindStop, 4, (some .int), xRoom 1, [])
def w_X3_behindStop_29 (n : Nat) (x3 : Int32) (u0 : Mm) (Q : Int32 → Mm → Prop) : Prop :=
  Q x3 u0
def w_X3_behindStop_4 (n : Nat) (Q : Int32 → Mm → Prop) : Nat → Int32 → Int32 → Mm → Prop
  | 0, _, _, _ => False
  | k + 1, x1, x3, u0 =>
  (x1 ≤ x3 → w_X3_behindStop_29 n x3 u0 Q) ∧
  (¬ x1 ≤ x3 → ((301 : Int32) ≤ x3 → w_X3_behindStop_29 n x3 u0 Q) ∧
  (¬ (301 : Int32) ≤ x3 → vp_in x3 301 ∧ ((¬ ((u0.1 62 (ix x3)) &&& (4 : Int32)) = 0 → w_X3_behindStop_29 n x3 u0 Q) ∧
  (((u0.1 62 (ix x3)) &&& (4 : Int32)) = 0 → (w_X3_behindStop_4 n Q k) x1 (x3 + (1 : Int32)) u0))))
def w_X3_behindStop (n : Nat) (a1 : Int32) (a2 : Int32) (u0 : Mm) (Q : Int32 → Mm → Prop) : Prop :=
  ilet (a2 + (1 : Int32)) fun y1 =>
  (w_X3_behindStop_4 n Q n) a1 y1 u0
set_option maxRecDepth 20000 in
theorem s_X3_behindStop_29 {g : Gb} (hg : xInj g) {n : Nat} {Q : Int32 → Mm → Prop} {x3 : Int32} {u0 : Mm} (h : w_X3_behindStop_29 n x3 u0 Q) : xE g me_X3_behindStop (pI g Q noT) 29 [(3, .int x3)] [] u0 := by
  unfold w_X3_behindStop_29 at h
  refine e_iload_n (k := 19) (i := 3) rfl rfl 0 rfl ?_
  exact e_iret (k := 20) rfl rfl (Or.inl ⟨_, rfl, h⟩)
set_option maxRecDepth 20000 in
theorem s_X3_behindStop_4 {g : Gb} (hg : xInj g) {n : Nat} {Q : Int32 → Mm → Prop} : ∀ (k : Nat) (x1 : Int32) (x3 : Int32) (u0 : Mm), w_X3_behindStop_4 n Q k x1 x3 u0 → xE g me_X3_behindStop (pI g Q noT) 4 [(0, .ref (gR g 62)), (1, .int x1), (3, .int x3)] [] u0 := by
  intro k
  induction k with
  | zero => intro x1 x3 u0 h; exact h.elim
  | succ k ih =>
    intro x1 x3 u0 h
    unfold w_X3_behindStop_4 at h
    refine e_iload_n (k := 4) (i := 3) rfl rfl 2 rfl ?_
    refine e_iload_n (k := 5) (i := 1) rfl rfl 1 rfl ?_
    refine e_icmp_ge (k := 6) (tgt := 29) rfl (by decide) (fun z => ?_) (fun z => ?_)
    · have h := h.1 z
      refine e_sub (lv' := [(3, .int x3)]) [2] rfl ?_
      exact s_X3_behindStop_29 hg h
    · have h := h.2 z
      refine e_iload_n (k := 7) (i := 3) rfl rfl 2 rfl ?_
      refine e_aload_n (k := 8) (i := 0) rfl rfl 0 rfl ?_
      refine e_alen (k := 9) (v := (301 : Int32)) rfl rfl (by decide) (by decide) ?_
      refine e_icmp_ge (k := 10) (tgt := 29) rfl (by decide) (fun z => ?_) (fun z => ?_)
      · have h := h.1 z
        refine e_sub (lv' := [(3, .int x3)]) [2] rfl ?_
        exact s_X3_behindStop_29 hg h
      · have h := h.2 z
        refine e_aload_n (k := 11) (i := 0) rfl rfl 0 rfl ?_
        refine e_iload_n (k := 12) (i := 3) rfl rfl 2 rfl ?_
        refine e_iald (k := 13) rfl rfl h.1 ?_
        have h := h.2
        refine e_iconst (k := 14) (v := (4 : Int32)) rfl (by decide) ?_
        refine e_iand (k := 15) rfl ?_
        refine e_if_ne (k := 16) (tgt := 29) rfl (by decide) (fun z => ?_) (fun z => ?_)
        · have h := h.1 z
          refine e_sub (lv' := [(3, .int x3)]) [2] rfl ?_
          exact s_X3_behindStop_29 hg h
        · have h := h.2 z
          refine e_iinc (k := 17) (i := 3) (j := 2) (v := (x3 + (1 : Int32))) (lv' := [(0, .ref (gR g 62)), (1, .int x1), (3, .int (x3 + (1 : Int32)))]) rfl rfl rfl (by decide) [1, 2, 0] rfl ?_
          refine e_goto (k := 18) (tgt := 4) rfl (by decide) ?_
          exact ih x1 (x3 + (1 : Int32)) u0 h
set_option maxRecDepth 20000 in
theorem c_X3_behindStop {g : Gb} (hg : xInj g) {n : Nat} {a1 : Int32} {a2 : Int32} {u0 : Mm} {Q : Int32 → Mm → Prop} (h : w_X3_behindStop n a1 a2 u0 Q) : xMet (gL g) yX3_behindStop (xws yX3_behindStop cX3_behindStop 4 (some .int)) (xRoom 1) (xPc g [.ref (gR g 62), .int a1, .int a2] u0) (xQ g (pI g Q noT)) (xA g) := by
  refine xbody (il := il_X3_behindStop) hg il_X3_behindStop_ok m_X3_behindStop (Nat.le_of_ble_eq_true rfl) ?_
  show xE g me_X3_behindStop (pI g Q noT) 0 [(0, .ref (gR g 62)), (1, .int a1), (2, .int a2)] [] u0
  unfold w_X3_behindStop at h
  refine e_iload_n (k := 0) (i := 2) rfl rfl 2 rfl ?_
  refine e_iconst (k := 1) (v := (1 : Int32)) rfl (by decide) ?_
  refine e_iadd (k := 2) rfl ?_
  refine e_ilet h (fun y1 h => ?_)
  refine e_istore_n (k := 3) (i := 3) (lv' := [(0, .ref (gR g 62)), (1, .int a1), (2, .int a2), (3, .int y1)]) rfl rfl (by decide) [1, 2, 3, 0] rfl ?_
  refine e_sub (lv' := [(0, .ref (gR g 62)), (1, .int a1), (3, .int y1)]) [0, 1, 3] rfl ?_
  exact s_X3_behindStop_4 hg n a1 y1 u0 h
def il_X3_withBar : List (Nat × Instr × Nat) := [(0, .iload_n 0, 1), (1, .istore_n 3, 1), (2, .iload_n 1, 1), (3, .iconst 4, 1), (4, .if_icmp .eq 9, 3), (7, .iload_n 1, 1), (8, .bipush 6, 2), (10, .if_icmp .ne 7, 3), (13, .iload_n 3, 1), (14, .iconst 1, 1), (15, .ior, 1), (16, .istore_n 3, 1), (17, .iload_n 1, 1), (18, .iconst 5, 1), (19, .if_icmp .eq 9, 3), (22, .iload_n 1, 1), (23, .bipush 6, 2), (25, .if_icmp .ne 7, 3), (28, .iload_n 3, 1), (29, .iconst 2, 1), (30, .ior, 1), (31, .istore_n 3, 1), (32, .iload_n 1, 1), (33, .ifCond .ne 7, 3), (36, .iload_n 2, 1), (37, .ifCond .eq 7, 3), (40, .iload_n 3, 1), (41, .iconst 4, 1), (42, .ior, 1), (43, .istore_n 3, 1), (44, .iload_n 2, 1), (45, .ifCond .eq 12, 3), (48, .iload_n 3, 1), (49, .bipush 7, 2), (51, .iand, 1), (52, .iload_n 2, 1), (53, .iconst 3, 1), (54, .ishl, 1), (55, .ior, 1), (56, .istore_n 3, 1), (57, .iload_n 3, 1), (58, .ireturn, 1)]
set_option maxRecDepth 20000 in
theorem il_X3_withBar_ok : ∀ x ∈ il_X3_withBar, decode cX3_withBar x.1 = .ok x.2 := by decide +kernel
abbrev me_X3_withBar : Me := (RX3, il_X3_withBar, 4, (some .int), xRoom 1, [])
def w_X3_withBar_57 (n : Nat) (x3 : Int32) (u0 : Mm) (Q : Int32 → Mm → Prop) : Prop :=
  Q x3 u0
def w_X3_withBar_44 (n : Nat) (x2 : Int32) (x3 : Int32) (u0 : Mm) (Q : Int32 → Mm → Prop) : Prop :=
  (x2 = 0 → w_X3_withBar_57 n x3 u0 Q) ∧
  (¬ x2 = 0 → ilet ((x3 &&& (7 : Int32)) ||| (x2 <<< ((3 : Int32) &&& 31))) fun y1 =>
  w_X3_withBar_57 n y1 u0 Q)
def w_X3_withBar_40 (n : Nat) (x2 : Int32) (x3 : Int32) (u0 : Mm) (Q : Int32 → Mm → Prop) : Prop :=
  ilet (x3 ||| (4 : Int32)) fun y1 =>
  w_X3_withBar_44 n x2 y1 u0 Q
def w_X3_withBar_32 (n : Nat) (x1 : Int32) (x2 : Int32) (x3 : Int32) (u0 : Mm) (Q : Int32 → Mm → Prop) : Prop :=
  (¬ x1 = 0 → w_X3_withBar_40 n x2 x3 u0 Q) ∧
  (x1 = 0 → (x2 = 0 → w_X3_withBar_44 n x2 x3 u0 Q) ∧
  (¬ x2 = 0 → w_X3_withBar_40 n x2 x3 u0 Q))
def w_X3_withBar_28 (n : Nat) (x1 : Int32) (x2 : Int32) (x3 : Int32) (u0 : Mm) (Q : Int32 → Mm → Prop) : Prop :=
  ilet (x3 ||| (2 : Int32)) fun y1 =>
  w_X3_withBar_32 n x1 x2 y1 u0 Q
def w_X3_withBar_17 (n : Nat) (x1 : Int32) (x2 : Int32) (x3 : Int32) (u0 : Mm) (Q : Int32 → Mm → Prop) : Prop :=
  (x1 = (5 : Int32) → w_X3_withBar_28 n x1 x2 x3 u0 Q) ∧
  (¬ x1 = (5 : Int32) → (¬ x1 = (6 : Int32) → w_X3_withBar_32 n x1 x2 x3 u0 Q) ∧
  (x1 = (6 : Int32) → w_X3_withBar_28 n x1 x2 x3 u0 Q))
def w_X3_withBar_13 (n : Nat) (x1 : Int32) (x2 : Int32) (x3 : Int32) (u0 : Mm) (Q : Int32 → Mm → Prop) : Prop :=
  ilet (x3 ||| (1 : Int32)) fun y1 =>
  w_X3_withBar_17 n x1 x2 y1 u0 Q
def w_X3_withBar (n : Nat) (a0 : Int32) (a1 : Int32) (a2 : Int32) (u0 : Mm) (Q : Int32 → Mm → Prop) : Prop :=
  (a1 = (4 : Int32) → w_X3_withBar_13 n a1 a2 a0 u0 Q) ∧
  (¬ a1 = (4 : Int32) → (¬ a1 = (6 : Int32) → w_X3_withBar_17 n a1 a2 a0 u0 Q) ∧
  (a1 = (6 : Int32) → w_X3_withBar_13 n a1 a2 a0 u0 Q))
set_option maxRecDepth 20000 in
theorem s_X3_withBar_57 {g : Gb} (hg : xInj g) {n : Nat} {Q : Int32 → Mm → Prop} {x3 : Int32} {u0 : Mm} (h : w_X3_withBar_57 n x3 u0 Q) : xE g me_X3_withBar (pI g Q noT) 57 [(3, .int x3)] [] u0 := by
  unfold w_X3_withBar_57 at h
  refine e_iload_n (k := 40) (i := 3) rfl rfl 0 rfl ?_
  exact e_iret (k := 41) rfl rfl (Or.inl ⟨_, rfl, h⟩)
set_option maxRecDepth 20000 in
theorem s_X3_withBar_44 {g : Gb} (hg : xInj g) {n : Nat} {Q : Int32 → Mm → Prop} {x2 : Int32} {x3 : Int32} {u0 : Mm} (h : w_X3_withBar_44 n x2 x3 u0 Q) : xE g me_X3_withBar (pI g Q noT) 44 [(2, .int x2), (3, .int x3)] [] u0 := by
  unfold w_X3_withBar_44 at h
  refine e_iload_n (k := 30) (i := 2) rfl rfl 0 rfl ?_
  refine e_if_eq (k := 31) (tgt := 57) rfl (by decide) (fun z => ?_) (fun z => ?_)
  · have h := h.1 z
    refine e_sub (lv' := [(3, .int x3)]) [1] rfl ?_
    exact s_X3_withBar_57 hg h
  · have h := h.2 z
    refine e_iload_n (k := 32) (i := 3) rfl rfl 1 rfl ?_
    refine e_bipush (k := 33) (v := (7 : Int32)) rfl (by decide) ?_
    refine e_iand (k := 34) rfl ?_
    refine e_iload_n (k := 35) (i := 2) rfl rfl 0 rfl ?_
    refine e_iconst (k := 36) (v := (3 : Int32)) rfl (by decide) ?_
    refine e_ishl (k := 37) rfl ?_
    refine e_ior (k := 38) rfl ?_
    refine e_ilet h (fun y1 h => ?_)
    refine e_istore_n (k := 39) (i := 3) (lv' := [(2, .int x2), (3, .int y1)]) rfl rfl (by decide) [1, 0] rfl ?_
    refine e_sub (lv' := [(3, .int y1)]) [1] rfl ?_
    exact s_X3_withBar_57 hg h
set_option maxRecDepth 20000 in
theorem s_X3_withBar_40 {g : Gb} (hg : xInj g) {n : Nat} {Q : Int32 → Mm → Prop} {x2 : Int32} {x3 : Int32} {u0 : Mm} (h : w_X3_withBar_40 n x2 x3 u0 Q) : xE g me_X3_withBar (pI g Q noT) 40 [(2, .int x2), (3, .int x3)] [] u0 := by
  unfold w_X3_withBar_40 at h
  refine e_iload_n (k := 26) (i := 3) rfl rfl 1 rfl ?_
  refine e_iconst (k := 27) (v := (4 : Int32)) rfl (by decide) ?_
  refine e_ior (k := 28) rfl ?_
  refine e_ilet h (fun y1 h => ?_)
  refine e_istore_n (k := 29) (i := 3) (lv' := [(2, .int x2), (3, .int y1)]) rfl rfl (by decide) [1, 0] rfl ?_
  exact s_X3_withBar_44 hg h
set_option maxRecDepth 20000 in
theorem s_X3_withBar_32 {g : Gb} (hg : xInj g) {n : Nat} {Q : Int32 → Mm → Prop} {x1 : Int32} {x2 : Int32} {x3 : Int32} {u0 : Mm} (h : w_X3_withBar_32 n x1 x2 x3 u0 Q) : xE g me_X3_withBar (pI g Q noT) 32 [(1, .int x1), (2, .int x2), (3, .int x3)] [] u0 := by
  unfold w_X3_withBar_32 at h
  refine e_iload_n (k := 22) (i := 1) rfl rfl 0 rfl ?_
  refine e_if_ne (k := 23) (tgt := 40) rfl (by decide) (fun z => ?_) (fun z => ?_)
  · have h := h.1 z
    refine e_sub (lv' := [(2, .int x2), (3, .int x3)]) [1, 2] rfl ?_
    exact s_X3_withBar_40 hg h
  · have h := h.2 z
    refine e_iload_n (k := 24) (i := 2) rfl rfl 1 rfl ?_
    refine e_if_eq (k := 25) (tgt := 44) rfl (by decide) (fun z => ?_) (fun z => ?_)
    · have h := h.1 z
      refine e_sub (lv' := [(2, .int x2), (3, .int x3)]) [1, 2] rfl ?_
      exact s_X3_withBar_44 hg h
    · have h := h.2 z
      refine e_sub (lv' := [(2, .int x2), (3, .int x3)]) [1, 2] rfl ?_
      exact s_X3_withBar_40 hg h
set_option maxRecDepth 20000 in
theorem s_X3_withBar_28 {g : Gb} (hg : xInj g) {n : Nat} {Q : Int32 → Mm → Prop} {x1 : Int32} {x2 : Int32} {x3 : Int32} {u0 : Mm} (h : w_X3_withBar_28 n x1 x2 x3 u0 Q) : xE g me_X3_withBar (pI g Q noT) 28 [(1, .int x1), (2, .int x2), (3, .int x3)] [] u0 := by
  unfold w_X3_withBar_28 at h
  refine e_iload_n (k := 18) (i := 3) rfl rfl 2 rfl ?_
  refine e_iconst (k := 19) (v := (2 : Int32)) rfl (by decide) ?_
  refine e_ior (k := 20) rfl ?_
  refine e_ilet h (fun y1 h => ?_)
  refine e_istore_n (k := 21) (i := 3) (lv' := [(1, .int x1), (2, .int x2), (3, .int y1)]) rfl rfl (by decide) [1, 2, 0] rfl ?_
  exact s_X3_withBar_32 hg h
set_option maxRecDepth 20000 in
theorem s_X3_withBar_17 {g : Gb} (hg : xInj g) {n : Nat} {Q : Int32 → Mm → Prop} {x1 : Int32} {x2 : Int32} {x3 : Int32} {u0 : Mm} (h : w_X3_withBar_17 n x1 x2 x3 u0 Q) : xE g me_X3_withBar (pI g Q noT) 17 [(1, .int x1), (2, .int x2), (3, .int x3)] [] u0 := by
  unfold w_X3_withBar_17 at h
  refine e_iload_n (k := 12) (i := 1) rfl rfl 0 rfl ?_
  refine e_iconst (k := 13) (v := (5 : Int32)) rfl (by decide) ?_
  refine e_icmp_eq (k := 14) (tgt := 28) rfl (by decide) (fun z => ?_) (fun z => ?_)
  · have h := h.1 z
    exact s_X3_withBar_28 hg h
  · have h := h.2 z
    refine e_iload_n (k := 15) (i := 1) rfl rfl 0 rfl ?_
    refine e_bipush (k := 16) (v := (6 : Int32)) rfl (by decide) ?_
    refine e_icmp_ne (k := 17) (tgt := 32) rfl (by decide) (fun z => ?_) (fun z => ?_)
    · have h := h.1 z
      exact s_X3_withBar_32 hg h
    · have h := h.2 z
      exact s_X3_withBar_28 hg h
set_option maxRecDepth 20000 in
theorem s_X3_withBar_13 {g : Gb} (hg : xInj g) {n : Nat} {Q : Int32 → Mm → Prop} {x1 : Int32} {x2 : Int32} {x3 : Int32} {u0 : Mm} (h : w_X3_withBar_13 n x1 x2 x3 u0 Q) : xE g me_X3_withBar (pI g Q noT) 13 [(1, .int x1), (2, .int x2), (3, .int x3)] [] u0 := by
  unfold w_X3_withBar_13 at h
  refine e_iload_n (k := 8) (i := 3) rfl rfl 2 rfl ?_
  refine e_iconst (k := 9) (v := (1 : Int32)) rfl (by decide) ?_
  refine e_ior (k := 10) rfl ?_
  refine e_ilet h (fun y1 h => ?_)
  refine e_istore_n (k := 11) (i := 3) (lv' := [(1, .int x1), (2, .int x2), (3, .int y1)]) rfl rfl (by decide) [1, 2, 0] rfl ?_
  exact s_X3_withBar_17 hg h
set_option maxRecDepth 20000 in
theorem c_X3_withBar {g : Gb} (hg : xInj g) {n : Nat} {a0 : Int32} {a1 : Int32} {a2 : Int32} {u0 : Mm} {Q : Int32 → Mm → Prop} (h : w_X3_withBar n a0 a1 a2 u0 Q) : xMet (gL g) yX3_withBar (xws yX3_withBar cX3_withBar 4 (some .int)) (xRoom 1) (xPc g [.int a0, .int a1, .int a2] u0) (xQ g (pI g Q noT)) (xA g) := by
  refine xbody (il := il_X3_withBar) hg il_X3_withBar_ok m_X3_withBar (Nat.le_of_ble_eq_true rfl) ?_
  show xE g me_X3_withBar (pI g Q noT) 0 [(0, .int a0), (1, .int a1), (2, .int a2)] [] u0
  unfold w_X3_withBar at h
  refine e_iload_n (k := 0) (i := 0) rfl rfl 0 rfl ?_
  refine e_istore_n (k := 1) (i := 3) (lv' := [(0, .int a0), (1, .int a1), (2, .int a2), (3, .int a0)]) rfl rfl (by decide) [1, 2, 3, 0] rfl ?_
  refine e_iload_n (k := 2) (i := 1) rfl rfl 1 rfl ?_
  refine e_iconst (k := 3) (v := (4 : Int32)) rfl (by decide) ?_
  refine e_icmp_eq (k := 4) (tgt := 13) rfl (by decide) (fun z => ?_) (fun z => ?_)
  · have h := h.1 z
    refine e_sub (lv' := [(1, .int a1), (2, .int a2), (3, .int a0)]) [1, 2, 3] rfl ?_
    exact s_X3_withBar_13 hg h
  · have h := h.2 z
    refine e_iload_n (k := 5) (i := 1) rfl rfl 1 rfl ?_
    refine e_bipush (k := 6) (v := (6 : Int32)) rfl (by decide) ?_
    refine e_icmp_ne (k := 7) (tgt := 17) rfl (by decide) (fun z => ?_) (fun z => ?_)
    · have h := h.1 z
      refine e_sub (lv' := [(1, .int a1), (2, .int a2), (3, .int a0)]) [1, 2, 3] rfl ?_
      exact s_X3_withBar_17 hg h
    · have h := h.2 z
      refine e_sub (lv' := [(1, .int a1), (2, .int a2), (3, .int a0)]) [1, 2, 3] rfl ?_
      exact s_X3_withBar_13 hg h
def il_X4_barSort : List (Nat × Instr × Nat) := [(0, .iload_n 0, 1), (1, .bipush 124, 2), (3, .if_icmp .ne 35, 3), (6, .iload_n 1, 1), (7, .bipush 124, 2), (9, .if_icmp .ne 7, 3), (12, .iconst 1, 1), (13, .goto 24, 3), (16, .iload_n 1, 1), (17, .bipush 93, 2), (19, .if_icmp .ne 7, 3), (22, .iconst 2, 1), (23, .goto 14, 3), (26, .iload_n 1, 1), (27, .bipush 58, 2), (29, .if_icmp .ne 7, 3), (32, .iconst 4, 1), (33, .goto 4, 3), (36, .iconst 0, 1), (37, .ireturn, 1), (38, .iload_n 0, 1), (39, .bipush 58, 2), (41, .if_icmp .ne 26, 3), (44, .iload_n 1, 1), (45, .bipush 124, 2), (47, .if_icmp .ne 7, 3), (50, .iconst 5, 1), (51, .goto 15, 3), (54, .iload_n 1, 1), (55, .bipush 58, 2), (57, .if_icmp .ne 8, 3), (60, .bipush 6, 2), (62, .goto 4, 3), (65, .iconst (-1), 1), (66, .ireturn, 1), (67, .iload_n 1, 1), (68, .bipush 124, 2), (70, .if_icmp .ne 7, 3), (73, .iconst 3, 1), (74, .goto 21, 3), (77, .iload_n 1, 1), (78, .bipush 49, 2), (80, .if_icmp .lt 14, 3), (83, .iload_n 1, 1), (84, .bipush 52, 2), (86, .if_icmp .gt 8, 3), (89, .bipush 7, 2), (91, .goto 4, 3), (94, .iconst (-1), 1), (95, .ireturn, 1)]
set_option maxRecDepth 20000 in
theorem il_X4_barSort_ok : ∀ x ∈ il_X4_barSort, decode cX4_barSort x.1 = .ok x.2 := by decide +kernel
abbrev me_X4_barSort : Me := (RX4, il_X4_barSort, 2, (some .int), xRoom 1, [])
def w_X4_barSort_95 (n : Nat) (t0 : Int32) (u0 : Mm) (Q : Int32 → Mm → Prop) : Prop :=
  Q t0 u0
def w_X4_barSort_94 (n : Nat) (u0 : Mm) (Q : Int32 → Mm → Prop) : Prop :=
  w_X4_barSort_95 n (-1 : Int32) u0 Q
def w_X4_barSort_66 (n : Nat) (t0 : Int32) (u0 : Mm) (Q : Int32 → Mm → Prop) : Prop :=
  Q t0 u0
def w_X4_barSort_37 (n : Nat) (t0 : Int32) (u0 : Mm) (Q : Int32 → Mm → Prop) : Prop :=
  Q t0 u0
def w_X4_barSort (n : Nat) (a0 : Int32) (a1 : Int32) (u0 : Mm) (Q : Int32 → Mm → Prop) : Prop :=
  (¬ a0 = (124 : Int32) → (¬ a0 = (58 : Int32) → (¬ a1 = (124 : Int32) → (a1 < (49 : Int32) → w_X4_barSort_94 n u0 Q) ∧
  (¬ a1 < (49 : Int32) → ((52 : Int32) < a1 → w_X4_barSort_94 n u0 Q) ∧
  (¬ (52 : Int32) < a1 → w_X4_barSort_95 n (7 : Int32) u0 Q))) ∧
  (a1 = (124 : Int32) → w_X4_barSort_95 n (3 : Int32) u0 Q)) ∧
  (a0 = (58 : Int32) → (¬ a1 = (124 : Int32) → (¬ a1 = (58 : Int32) → w_X4_barSort_66 n (-1 : Int32) u0 Q) ∧
  (a1 = (58 : Int32) → w_X4_barSort_66 n (6 : Int32) u0 Q)) ∧
  (a1 = (124 : Int32) → w_X4_barSort_66 n (5 : Int32) u0 Q))) ∧
  (a0 = (124 : Int32) → (¬ a1 = (124 : Int32) → (¬ a1 = (93 : Int32) → (¬ a1 = (58 : Int32) → w_X4_barSort_37 n (0 : Int32) u0 Q) ∧
  (a1 = (58 : Int32) → w_X4_barSort_37 n (4 : Int32) u0 Q)) ∧
  (a1 = (93 : Int32) → w_X4_barSort_37 n (2 : Int32) u0 Q)) ∧
  (a1 = (124 : Int32) → w_X4_barSort_37 n (1 : Int32) u0 Q))
set_option maxRecDepth 20000 in
theorem s_X4_barSort_95 {g : Gb} (hg : xInj g) {n : Nat} {Q : Int32 → Mm → Prop} {t0 : Int32} {u0 : Mm} (h : w_X4_barSort_95 n t0 u0 Q) : xE g me_X4_barSort (pI g Q noT) 95 [] [.int t0] u0 := by
  unfold w_X4_barSort_95 at h
  exact e_iret (k := 49) rfl rfl (Or.inl ⟨_, rfl, h⟩)
set_option maxRecDepth 20000 in
theorem s_X4_barSort_94 {g : Gb} (hg : xInj g) {n : Nat} {Q : Int32 → Mm → Prop} {u0 : Mm} (h : w_X4_barSort_94 n  u0 Q) : xE g me_X4_barSort (pI g Q noT) 94 [] [] u0 := by
  unfold w_X4_barSort_94 at h
  refine e_iconst (k := 48) (v := (-1 : Int32)) rfl (by decide) ?_
  exact s_X4_barSort_95 hg h
set_option maxRecDepth 20000 in
theorem s_X4_barSort_66 {g : Gb} (hg : xInj g) {n : Nat} {Q : Int32 → Mm → Prop} {t0 : Int32} {u0 : Mm} (h : w_X4_barSort_66 n t0 u0 Q) : xE g me_X4_barSort (pI g Q noT) 66 [] [.int t0] u0 := by
  unfold w_X4_barSort_66 at h
  exact e_iret (k := 34) rfl rfl (Or.inl ⟨_, rfl, h⟩)
set_option maxRecDepth 20000 in
theorem s_X4_barSort_37 {g : Gb} (hg : xInj g) {n : Nat} {Q : Int32 → Mm → Prop} {t0 : Int32} {u0 : Mm} (h : w_X4_barSort_37 n t0 u0 Q) : xE g me_X4_barSort (pI g Q noT) 37 [] [.int t0] u0 := by
  unfold w_X4_barSort_37 at h
  exact e_iret (k := 19) rfl rfl (Or.inl ⟨_, rfl, h⟩)
set_option maxRecDepth 20000 in
theorem c_X4_barSort {g : Gb} (hg : xInj g) {n : Nat} {a0 : Int32} {a1 : Int32} {u0 : Mm} {Q : Int32 → Mm → Prop} (h : w_X4_barSort n a0 a1 u0 Q) : xMet (gL g) yX4_barSort (xws yX4_barSort cX4_barSort 2 (some .int)) (xRoom 1) (xPc g [.int a0, .int a1] u0) (xQ g (pI g Q noT)) (xA g) := by
  refine xbody (il := il_X4_barSort) hg il_X4_barSort_ok m_X4_barSort (Nat.le_of_ble_eq_true rfl) ?_
  show xE g me_X4_barSort (pI g Q noT) 0 [(0, .int a0), (1, .int a1)] [] u0
  unfold w_X4_barSort at h
  refine e_iload_n (k := 0) (i := 0) rfl rfl 0 rfl ?_
  refine e_bipush (k := 1) (v := (124 : Int32)) rfl (by decide) ?_
  refine e_icmp_ne (k := 2) (tgt := 38) rfl (by decide) (fun z => ?_) (fun z => ?_)
  · have h := h.1 z
    refine e_iload_n (k := 20) (i := 0) rfl rfl 0 rfl ?_
    refine e_bipush (k := 21) (v := (58 : Int32)) rfl (by decide) ?_
    refine e_icmp_ne (k := 22) (tgt := 67) rfl (by decide) (fun z => ?_) (fun z => ?_)
    · have h := h.1 z
      refine e_iload_n (k := 35) (i := 1) rfl rfl 1 rfl ?_
      refine e_bipush (k := 36) (v := (124 : Int32)) rfl (by decide) ?_
      refine e_icmp_ne (k := 37) (tgt := 77) rfl (by decide) (fun z => ?_) (fun z => ?_)
      · have h := h.1 z
        refine e_iload_n (k := 40) (i := 1) rfl rfl 1 rfl ?_
        refine e_bipush (k := 41) (v := (49 : Int32)) rfl (by decide) ?_
        refine e_icmp_lt (k := 42) (tgt := 94) rfl (by decide) (fun z => ?_) (fun z => ?_)
        · have h := h.1 z
          refine e_sub (lv' := []) [] rfl ?_
          exact s_X4_barSort_94 hg h
        · have h := h.2 z
          refine e_iload_n (k := 43) (i := 1) rfl rfl 1 rfl ?_
          refine e_bipush (k := 44) (v := (52 : Int32)) rfl (by decide) ?_
          refine e_icmp_gt (k := 45) (tgt := 94) rfl (by decide) (fun z => ?_) (fun z => ?_)
          · have h := h.1 z
            refine e_sub (lv' := []) [] rfl ?_
            exact s_X4_barSort_94 hg h
          · have h := h.2 z
            refine e_bipush (k := 46) (v := (7 : Int32)) rfl (by decide) ?_
            refine e_goto (k := 47) (tgt := 95) rfl (by decide) ?_
            refine e_sub (lv' := []) [] rfl ?_
            exact s_X4_barSort_95 hg h
      · have h := h.2 z
        refine e_iconst (k := 38) (v := (3 : Int32)) rfl (by decide) ?_
        refine e_goto (k := 39) (tgt := 95) rfl (by decide) ?_
        refine e_sub (lv' := []) [] rfl ?_
        exact s_X4_barSort_95 hg h
    · have h := h.2 z
      refine e_iload_n (k := 23) (i := 1) rfl rfl 1 rfl ?_
      refine e_bipush (k := 24) (v := (124 : Int32)) rfl (by decide) ?_
      refine e_icmp_ne (k := 25) (tgt := 54) rfl (by decide) (fun z => ?_) (fun z => ?_)
      · have h := h.1 z
        refine e_iload_n (k := 28) (i := 1) rfl rfl 1 rfl ?_
        refine e_bipush (k := 29) (v := (58 : Int32)) rfl (by decide) ?_
        refine e_icmp_ne (k := 30) (tgt := 65) rfl (by decide) (fun z => ?_) (fun z => ?_)
        · have h := h.1 z
          refine e_iconst (k := 33) (v := (-1 : Int32)) rfl (by decide) ?_
          refine e_sub (lv' := []) [] rfl ?_
          exact s_X4_barSort_66 hg h
        · have h := h.2 z
          refine e_bipush (k := 31) (v := (6 : Int32)) rfl (by decide) ?_
          refine e_goto (k := 32) (tgt := 66) rfl (by decide) ?_
          refine e_sub (lv' := []) [] rfl ?_
          exact s_X4_barSort_66 hg h
      · have h := h.2 z
        refine e_iconst (k := 26) (v := (5 : Int32)) rfl (by decide) ?_
        refine e_goto (k := 27) (tgt := 66) rfl (by decide) ?_
        refine e_sub (lv' := []) [] rfl ?_
        exact s_X4_barSort_66 hg h
  · have h := h.2 z
    refine e_iload_n (k := 3) (i := 1) rfl rfl 1 rfl ?_
    refine e_bipush (k := 4) (v := (124 : Int32)) rfl (by decide) ?_
    refine e_icmp_ne (k := 5) (tgt := 16) rfl (by decide) (fun z => ?_) (fun z => ?_)
    · have h := h.1 z
      refine e_iload_n (k := 8) (i := 1) rfl rfl 1 rfl ?_
      refine e_bipush (k := 9) (v := (93 : Int32)) rfl (by decide) ?_
      refine e_icmp_ne (k := 10) (tgt := 26) rfl (by decide) (fun z => ?_) (fun z => ?_)
      · have h := h.1 z
        refine e_iload_n (k := 13) (i := 1) rfl rfl 1 rfl ?_
        refine e_bipush (k := 14) (v := (58 : Int32)) rfl (by decide) ?_
        refine e_icmp_ne (k := 15) (tgt := 36) rfl (by decide) (fun z => ?_) (fun z => ?_)
        · have h := h.1 z
          refine e_iconst (k := 18) (v := (0 : Int32)) rfl (by decide) ?_
          refine e_sub (lv' := []) [] rfl ?_
          exact s_X4_barSort_37 hg h
        · have h := h.2 z
          refine e_iconst (k := 16) (v := (4 : Int32)) rfl (by decide) ?_
          refine e_goto (k := 17) (tgt := 37) rfl (by decide) ?_
          refine e_sub (lv' := []) [] rfl ?_
          exact s_X4_barSort_37 hg h
      · have h := h.2 z
        refine e_iconst (k := 11) (v := (2 : Int32)) rfl (by decide) ?_
        refine e_goto (k := 12) (tgt := 37) rfl (by decide) ?_
        refine e_sub (lv' := []) [] rfl ?_
        exact s_X4_barSort_37 hg h
    · have h := h.2 z
      refine e_iconst (k := 6) (v := (1 : Int32)) rfl (by decide) ?_
      refine e_goto (k := 7) (tgt := 37) rfl (by decide) ?_
      refine e_sub (lv' := []) [] rfl ?_
      exact s_X4_barSort_37 hg h
def il_X4_mayBeInWord : List (Nat × Instr × Nat) := [(0, .iload_n 0, 1), (1, .ifCond .eq 19, 3), (4, .iload_n 1, 1), (5, .ifCond .lt 13, 3), (8, .iload_n 1, 1), (9, .bipush 34, 2), (11, .if_icmp .eq 7, 3), (14, .iconst 1, 1), (15, .goto 4, 3), (18, .iconst 0, 1), (19, .ireturn, 1), (20, .iload_n 1, 1), (21, .bipush 65, 2), (23, .if_icmp .lt 9, 3), (26, .iload_n 1, 1), (27, .bipush 90, 2), (29, .if_icmp .le 15, 3), (32, .iload_n 1, 1), (33, .bipush 97, 2), (35, .if_icmp .lt 13, 3), (38, .iload_n 1, 1), (39, .bipush 122, 2), (41, .if_icmp .gt 7, 3), (44, .iconst 1, 1), (45, .goto 4, 3), (48, .iconst 0, 1), (49, .ireturn, 1)]
set_option maxRecDepth 20000 in
theorem il_X4_mayBeInWord_ok : ∀ x ∈ il_X4_mayBeInWord, decode cX4_mayBeInWord x.1 = .ok x.2 := by decide +kernel
abbrev me_X4_mayBeInWord : Me := (RX4, il_X4_mayBeInWord, 2, (some .boolean), xRoom 1, [])
def w_X4_mayBeInWord_49 (n : Nat) (t0 : Int32) (u0 : Mm) (Q : Int32 → Mm → Prop) : Prop :=
  narrow .boolean (.int t0) = .int t0 ∧ Q t0 u0
def w_X4_mayBeInWord_48 (n : Nat) (u0 : Mm) (Q : Int32 → Mm → Prop) : Prop :=
  w_X4_mayBeInWord_49 n (0 : Int32) u0 Q
def w_X4_mayBeInWord_44 (n : Nat) (u0 : Mm) (Q : Int32 → Mm → Prop) : Prop :=
  w_X4_mayBeInWord_49 n (1 : Int32) u0 Q
def w_X4_mayBeInWord_32 (n : Nat) (x1 : Int32) (u0 : Mm) (Q : Int32 → Mm → Prop) : Prop :=
  (x1 < (97 : Int32) → w_X4_mayBeInWord_48 n u0 Q) ∧
  (¬ x1 < (97 : Int32) → ((122 : Int32) < x1 → w_X4_mayBeInWord_48 n u0 Q) ∧
  (¬ (122 : Int32) < x1 → w_X4_mayBeInWord_44 n u0 Q))
def w_X4_mayBeInWord_19 (n : Nat) (t0 : Int32) (u0 : Mm) (Q : Int32 → Mm → Prop) : Prop :=
  narrow .boolean (.int t0) = .int t0 ∧ Q t0 u0
def w_X4_mayBeInWord_18 (n : Nat) (u0 : Mm) (Q : Int32 → Mm → Prop) : Prop :=
  w_X4_mayBeInWord_19 n (0 : Int32) u0 Q
def w_X4_mayBeInWord (n : Nat) (a0 : Int32) (a1 : Int32) (u0 : Mm) (Q : Int32 → Mm → Prop) : Prop :=
  (a0 = 0 → (a1 < (65 : Int32) → w_X4_mayBeInWord_32 n a1 u0 Q) ∧
  (¬ a1 < (65 : Int32) → (a1 ≤ (90 : Int32) → w_X4_mayBeInWord_44 n u0 Q) ∧
  (¬ a1 ≤ (90 : Int32) → w_X4_mayBeInWord_32 n a1 u0 Q))) ∧
  (¬ a0 = 0 → (a1 < 0 → w_X4_mayBeInWord_18 n u0 Q) ∧
  (¬ a1 < 0 → (a1 = (34 : Int32) → w_X4_mayBeInWord_18 n u0 Q) ∧
  (¬ a1 = (34 : Int32) → w_X4_mayBeInWord_19 n (1 : Int32) u0 Q)))
set_option maxRecDepth 20000 in
theorem s_X4_mayBeInWord_49 {g : Gb} (hg : xInj g) {n : Nat} {Q : Int32 → Mm → Prop} {t0 : Int32} {u0 : Mm} (h : w_X4_mayBeInWord_49 n t0 u0 Q) : xE g me_X4_mayBeInWord (pI g Q noT) 49 [] [.int t0] u0 := by
  unfold w_X4_mayBeInWord_49 at h
  exact e_zret (k := 26) rfl rfl h.1 (Or.inl ⟨_, rfl, h.2⟩)
set_option maxRecDepth 20000 in
theorem s_X4_mayBeInWord_48 {g : Gb} (hg : xInj g) {n : Nat} {Q : Int32 → Mm → Prop} {u0 : Mm} (h : w_X4_mayBeInWord_48 n  u0 Q) : xE g me_X4_mayBeInWord (pI g Q noT) 48 [] [] u0 := by
  unfold w_X4_mayBeInWord_48 at h
  refine e_iconst (k := 25) (v := (0 : Int32)) rfl (by decide) ?_
  exact s_X4_mayBeInWord_49 hg h
set_option maxRecDepth 20000 in
theorem s_X4_mayBeInWord_44 {g : Gb} (hg : xInj g) {n : Nat} {Q : Int32 → Mm → Prop} {u0 : Mm} (h : w_X4_mayBeInWord_44 n  u0 Q) : xE g me_X4_mayBeInWord (pI g Q noT) 44 [] [] u0 := by
  unfold w_X4_mayBeInWord_44 at h
  refine e_iconst (k := 23) (v := (1 : Int32)) rfl (by decide) ?_
  refine e_goto (k := 24) (tgt := 49) rfl (by decide) ?_
  exact s_X4_mayBeInWord_49 hg h
set_option maxRecDepth 20000 in
theorem s_X4_mayBeInWord_32 {g : Gb} (hg : xInj g) {n : Nat} {Q : Int32 → Mm → Prop} {x1 : Int32} {u0 : Mm} (h : w_X4_mayBeInWord_32 n x1 u0 Q) : xE g me_X4_mayBeInWord (pI g Q noT) 32 [(1, .int x1)] [] u0 := by
  unfold w_X4_mayBeInWord_32 at h
  refine e_iload_n (k := 17) (i := 1) rfl rfl 0 rfl ?_
  refine e_bipush (k := 18) (v := (97 : Int32)) rfl (by decide) ?_
  refine e_icmp_lt (k := 19) (tgt := 48) rfl (by decide) (fun z => ?_) (fun z => ?_)
  · have h := h.1 z
    refine e_sub (lv' := []) [] rfl ?_
    exact s_X4_mayBeInWord_48 hg h
  · have h := h.2 z
    refine e_iload_n (k := 20) (i := 1) rfl rfl 0 rfl ?_
    refine e_bipush (k := 21) (v := (122 : Int32)) rfl (by decide) ?_
    refine e_icmp_gt (k := 22) (tgt := 48) rfl (by decide) (fun z => ?_) (fun z => ?_)
    · have h := h.1 z
      refine e_sub (lv' := []) [] rfl ?_
      exact s_X4_mayBeInWord_48 hg h
    · have h := h.2 z
      refine e_sub (lv' := []) [] rfl ?_
      exact s_X4_mayBeInWord_44 hg h
set_option maxRecDepth 20000 in
theorem s_X4_mayBeInWord_19 {g : Gb} (hg : xInj g) {n : Nat} {Q : Int32 → Mm → Prop} {t0 : Int32} {u0 : Mm} (h : w_X4_mayBeInWord_19 n t0 u0 Q) : xE g me_X4_mayBeInWord (pI g Q noT) 19 [] [.int t0] u0 := by
  unfold w_X4_mayBeInWord_19 at h
  exact e_zret (k := 10) rfl rfl h.1 (Or.inl ⟨_, rfl, h.2⟩)
set_option maxRecDepth 20000 in
theorem s_X4_mayBeInWord_18 {g : Gb} (hg : xInj g) {n : Nat} {Q : Int32 → Mm → Prop} {u0 : Mm} (h : w_X4_mayBeInWord_18 n  u0 Q) : xE g me_X4_mayBeInWord (pI g Q noT) 18 [] [] u0 := by
  unfold w_X4_mayBeInWord_18 at h
  refine e_iconst (k := 9) (v := (0 : Int32)) rfl (by decide) ?_
  exact s_X4_mayBeInWord_19 hg h
set_option maxRecDepth 20000 in
theorem c_X4_mayBeInWord {g : Gb} (hg : xInj g) {n : Nat} {a0 : Int32} {a1 : Int32} {u0 : Mm} {Q : Int32 → Mm → Prop} (h : w_X4_mayBeInWord n a0 a1 u0 Q) : xMet (gL g) yX4_mayBeInWord (xws yX4_mayBeInWord cX4_mayBeInWord 2 (some .boolean)) (xRoom 1) (xPc g [.int a0, .int a1] u0) (xQ g (pI g Q noT)) (xA g) := by
  refine xbody (il := il_X4_mayBeInWord) hg il_X4_mayBeInWord_ok m_X4_mayBeInWord (Nat.le_of_ble_eq_true rfl) ?_
  show xE g me_X4_mayBeInWord (pI g Q noT) 0 [(0, .int a0), (1, .int a1)] [] u0
  unfold w_X4_mayBeInWord at h
  refine e_iload_n (k := 0) (i := 0) rfl rfl 0 rfl ?_
  refine e_if_eq (k := 1) (tgt := 20) rfl (by decide) (fun z => ?_) (fun z => ?_)
  · have h := h.1 z
    refine e_iload_n (k := 11) (i := 1) rfl rfl 1 rfl ?_
    refine e_bipush (k := 12) (v := (65 : Int32)) rfl (by decide) ?_
    refine e_icmp_lt (k := 13) (tgt := 32) rfl (by decide) (fun z => ?_) (fun z => ?_)
    · have h := h.1 z
      refine e_sub (lv' := [(1, .int a1)]) [1] rfl ?_
      exact s_X4_mayBeInWord_32 hg h
    · have h := h.2 z
      refine e_iload_n (k := 14) (i := 1) rfl rfl 1 rfl ?_
      refine e_bipush (k := 15) (v := (90 : Int32)) rfl (by decide) ?_
      refine e_icmp_le (k := 16) (tgt := 44) rfl (by decide) (fun z => ?_) (fun z => ?_)
      · have h := h.1 z
        refine e_sub (lv' := []) [] rfl ?_
        exact s_X4_mayBeInWord_44 hg h
      · have h := h.2 z
        refine e_sub (lv' := [(1, .int a1)]) [1] rfl ?_
        exact s_X4_mayBeInWord_32 hg h
  · have h := h.2 z
    refine e_iload_n (k := 2) (i := 1) rfl rfl 1 rfl ?_
    refine e_if_lt (k := 3) (tgt := 18) rfl (by decide) (fun z => ?_) (fun z => ?_)
    · have h := h.1 z
      refine e_sub (lv' := []) [] rfl ?_
      exact s_X4_mayBeInWord_18 hg h
    · have h := h.2 z
      refine e_iload_n (k := 4) (i := 1) rfl rfl 1 rfl ?_
      refine e_bipush (k := 5) (v := (34 : Int32)) rfl (by decide) ?_
      refine e_icmp_eq (k := 6) (tgt := 18) rfl (by decide) (fun z => ?_) (fun z => ?_)
      · have h := h.1 z
        refine e_sub (lv' := []) [] rfl ?_
        exact s_X4_mayBeInWord_18 hg h
      · have h := h.2 z
        refine e_iconst (k := 7) (v := (1 : Int32)) rfl (by decide) ?_
        refine e_goto (k := 8) (tgt := 19) rfl (by decide) ?_
        refine e_sub (lv' := []) [] rfl ?_
        exact s_X4_mayBeInWord_19 hg h
def il_X4_usualNumber : List (Nat × Instr × Nat) := [(0, .iload_n 1, 1), (1, .iconst 3, 1), (2, .if_icmp .eq 9, 3), (5, .iload_n 1, 1), (6, .bipush 6, 2), (8, .if_icmp .ne 5, 3), (11, .iconst 2, 1), (12, .ireturn, 1), (13, .iload_n 1, 1), (14, .iconst 2, 1), (15, .if_icmp .eq 14, 3), (18, .iload_n 1, 1), (19, .iconst 4, 1), (20, .if_icmp .eq 9, 3), (23, .iload_n 1, 1), (24, .bipush 8, 2), (26, .if_icmp .ne 5, 3), (29, .iconst 3, 1), (30, .ireturn, 1), (31, .aload_n 0, 1), (32, .getfield 48, 3), (35, .getfield 144, 3), (38, .istore_n 2, 1), (39, .aload_n 0, 1), (40, .getfield 48, 3), (43, .getfield 150, 3), (46, .bipush 8, 2), (48, .if_icmp .ne 25, 3), (51, .iload_n 2, 1), (52, .bipush 6, 2), (54, .if_icmp .eq 15, 3), (57, .iload_n 2, 1), (58, .bipush 9, 2), (60, .if_icmp .eq 9, 3), (63, .iload_n 2, 1), (64, .bipush 12, 2), (66, .if_icmp .ne 7, 3), (69, .iconst 3, 1), (70, .goto 4, 3), (73, .iconst 2, 1), (74, .ireturn, 1)]
set_option maxRecDepth 20000 in
theorem il_X4_usualNumber_ok : ∀ x ∈ il_X4_usualNumber, decode cX4_usualNumber x.1 = .ok x.2 := by decide +kernel
abbrev me_X4_usualNumber : Me := (RX4, il_X4_usualNumber, 3, (some .int), xRoom 1, [])
def w_X4_usualNumber_74 (n : Nat) (t0 : Int32) (u0 : Mm) (Q : Int32 → Mm → Prop) : Prop :=
  Q t0 u0
def w_X4_usualNumber_73 (n : Nat) (u0 : Mm) (Q : Int32 → Mm → Prop) : Prop :=
  w_X4_usualNumber_74 n (2 : Int32) u0 Q
def w_X4_usualNumber_69 (n : Nat) (u0 : Mm) (Q : Int32 → Mm → Prop) : Prop :=
  w_X4_usualNumber_74 n (3 : Int32) u0 Q
def w_X4_usualNumber_29 (n : Nat) (u0 : Mm) (Q : Int32 → Mm → Prop) : Prop :=
  Q (3 : Int32) u0
def w_X4_usualNumber_11 (n : Nat) (u0 : Mm) (Q : Int32 → Mm → Prop) : Prop :=
  Q (2 : Int32) u0
def w_X4_usualNumber (n : Nat) (a0 : Int32) (u0 : Mm) (Q : Int32 → Mm → Prop) : Prop :=
  (a0 = (3 : Int32) → w_X4_usualNumber_11 n u0 Q) ∧
  (¬ a0 = (3 : Int32) → (¬ a0 = (6 : Int32) → (a0 = (2 : Int32) → w_X4_usualNumber_29 n u0 Q) ∧
  (¬ a0 = (2 : Int32) → (a0 = (4 : Int32) → w_X4_usualNumber_29 n u0 Q) ∧
  (¬ a0 = (4 : Int32) → (¬ a0 = (8 : Int32) → ilet (u0.1 (u0.2.2 2) 8) fun y1 =>
  (¬ (u0.1 (u0.2.2 2) 9) = (8 : Int32) → w_X4_usualNumber_73 n u0 Q) ∧
  ((u0.1 (u0.2.2 2) 9) = (8 : Int32) → (y1 = (6 : Int32) → w_X4_usualNumber_69 n u0 Q) ∧
  (¬ y1 = (6 : Int32) → (y1 = (9 : Int32) → w_X4_usualNumber_69 n u0 Q) ∧
  (¬ y1 = (9 : Int32) → (¬ y1 = (12 : Int32) → w_X4_usualNumber_73 n u0 Q) ∧
  (y1 = (12 : Int32) → w_X4_usualNumber_69 n u0 Q))))) ∧
  (a0 = (8 : Int32) → w_X4_usualNumber_29 n u0 Q)))) ∧
  (a0 = (6 : Int32) → w_X4_usualNumber_11 n u0 Q))
set_option maxRecDepth 20000 in
theorem s_X4_usualNumber_74 {g : Gb} (hg : xInj g) {n : Nat} {Q : Int32 → Mm → Prop} {t0 : Int32} {u0 : Mm} (h : w_X4_usualNumber_74 n t0 u0 Q) : xE g me_X4_usualNumber (pI g Q noT) 74 [] [.int t0] u0 := by
  unfold w_X4_usualNumber_74 at h
  exact e_iret (k := 40) rfl rfl (Or.inl ⟨_, rfl, h⟩)
set_option maxRecDepth 20000 in
theorem s_X4_usualNumber_73 {g : Gb} (hg : xInj g) {n : Nat} {Q : Int32 → Mm → Prop} {u0 : Mm} (h : w_X4_usualNumber_73 n  u0 Q) : xE g me_X4_usualNumber (pI g Q noT) 73 [] [] u0 := by
  unfold w_X4_usualNumber_73 at h
  refine e_iconst (k := 39) (v := (2 : Int32)) rfl (by decide) ?_
  exact s_X4_usualNumber_74 hg h
set_option maxRecDepth 20000 in
theorem s_X4_usualNumber_69 {g : Gb} (hg : xInj g) {n : Nat} {Q : Int32 → Mm → Prop} {u0 : Mm} (h : w_X4_usualNumber_69 n  u0 Q) : xE g me_X4_usualNumber (pI g Q noT) 69 [] [] u0 := by
  unfold w_X4_usualNumber_69 at h
  refine e_iconst (k := 37) (v := (3 : Int32)) rfl (by decide) ?_
  refine e_goto (k := 38) (tgt := 74) rfl (by decide) ?_
  exact s_X4_usualNumber_74 hg h
set_option maxRecDepth 20000 in
theorem s_X4_usualNumber_29 {g : Gb} (hg : xInj g) {n : Nat} {Q : Int32 → Mm → Prop} {u0 : Mm} (h : w_X4_usualNumber_29 n  u0 Q) : xE g me_X4_usualNumber (pI g Q noT) 29 [] [] u0 := by
  unfold w_X4_usualNumber_29 at h
  refine e_iconst (k := 17) (v := (3 : Int32)) rfl (by decide) ?_
  exact e_iret (k := 18) rfl rfl (Or.inl ⟨_, rfl, h⟩)
set_option maxRecDepth 20000 in
theorem s_X4_usualNumber_11 {g : Gb} (hg : xInj g) {n : Nat} {Q : Int32 → Mm → Prop} {u0 : Mm} (h : w_X4_usualNumber_11 n  u0 Q) : xE g me_X4_usualNumber (pI g Q noT) 11 [] [] u0 := by
  unfold w_X4_usualNumber_11 at h
  refine e_iconst (k := 6) (v := (2 : Int32)) rfl (by decide) ?_
  exact e_iret (k := 7) rfl rfl (Or.inl ⟨_, rfl, h⟩)
set_option maxRecDepth 20000 in
theorem c_X4_usualNumber {g : Gb} (hg : xInj g) {n : Nat} {a0 : Int32} {u0 : Mm} {Q : Int32 → Mm → Prop} (h : w_X4_usualNumber n a0 u0 Q) : xMet (gL g) yX4_usualNumber (xws yX4_usualNumber cX4_usualNumber 3 (some .int)) (xRoom 1) (xPc g [.ref (gR g 38), .int a0] u0) (xQ g (pI g Q noT)) (xA g) := by
  refine xbody (il := il_X4_usualNumber) hg il_X4_usualNumber_ok m_X4_usualNumber (Nat.le_of_ble_eq_true rfl) ?_
  show xE g me_X4_usualNumber (pI g Q noT) 0 [(0, .ref (gR g 38)), (1, .int a0)] [] u0
  unfold w_X4_usualNumber at h
  refine e_iload_n (k := 0) (i := 1) rfl rfl 1 rfl ?_
  refine e_iconst (k := 1) (v := (3 : Int32)) rfl (by decide) ?_
  refine e_icmp_eq (k := 2) (tgt := 11) rfl (by decide) (fun z => ?_) (fun z => ?_)
  · have h := h.1 z
    refine e_sub (lv' := []) [] rfl ?_
    exact s_X4_usualNumber_11 hg h
  · have h := h.2 z
    refine e_iload_n (k := 3) (i := 1) rfl rfl 1 rfl ?_
    refine e_bipush (k := 4) (v := (6 : Int32)) rfl (by decide) ?_
    refine e_icmp_ne (k := 5) (tgt := 13) rfl (by decide) (fun z => ?_) (fun z => ?_)
    · have h := h.1 z
      refine e_iload_n (k := 8) (i := 1) rfl rfl 1 rfl ?_
      refine e_iconst (k := 9) (v := (2 : Int32)) rfl (by decide) ?_
      refine e_icmp_eq (k := 10) (tgt := 29) rfl (by decide) (fun z => ?_) (fun z => ?_)
      · have h := h.1 z
        refine e_sub (lv' := []) [] rfl ?_
        exact s_X4_usualNumber_29 hg h
      · have h := h.2 z
        refine e_iload_n (k := 11) (i := 1) rfl rfl 1 rfl ?_
        refine e_iconst (k := 12) (v := (4 : Int32)) rfl (by decide) ?_
        refine e_icmp_eq (k := 13) (tgt := 29) rfl (by decide) (fun z => ?_) (fun z => ?_)
        · have h := h.1 z
          refine e_sub (lv' := []) [] rfl ?_
          exact s_X4_usualNumber_29 hg h
        · have h := h.2 z
          refine e_iload_n (k := 14) (i := 1) rfl rfl 1 rfl ?_
          refine e_bipush (k := 15) (v := (8 : Int32)) rfl (by decide) ?_
          refine e_icmp_ne (k := 16) (tgt := 31) rfl (by decide) (fun z => ?_) (fun z => ?_)
          · have h := h.1 z
            refine e_aload_n (k := 19) (i := 0) rfl rfl 0 rfl ?_
            refine e_getP (k := 20) rfl f_X4_48 rfl rfl (fun ty1 => ?_)
            refine e_getI (k := 21) rfl f_X4_144 ty1.2.2 rfl ?_
            refine e_ilet h (fun y1 h => ?_)
            refine e_istore_n (k := 22) (i := 2) (lv' := [(0, .ref (gR g 38)), (1, .int a0), (2, .int y1)]) rfl rfl (by decide) [1, 2, 0] rfl ?_
            refine e_aload_n (k := 23) (i := 0) rfl rfl 0 rfl ?_
            refine e_getP (k := 24) rfl f_X4_48 rfl rfl (fun ty2 => ?_)
            refine e_getI (k := 25) rfl f_X4_150 ty2.2.2 rfl ?_
            refine e_bipush (k := 26) (v := (8 : Int32)) rfl (by decide) ?_
            refine e_icmp_ne (k := 27) (tgt := 73) rfl (by decide) (fun z => ?_) (fun z => ?_)
            · have h := h.1 z
              refine e_sub (lv' := []) [] rfl ?_
              exact s_X4_usualNumber_73 hg h
            · have h := h.2 z
              refine e_iload_n (k := 28) (i := 2) rfl rfl 2 rfl ?_
              refine e_bipush (k := 29) (v := (6 : Int32)) rfl (by decide) ?_
              refine e_icmp_eq (k := 30) (tgt := 69) rfl (by decide) (fun z => ?_) (fun z => ?_)
              · have h := h.1 z
                refine e_sub (lv' := []) [] rfl ?_
                exact s_X4_usualNumber_69 hg h
              · have h := h.2 z
                refine e_iload_n (k := 31) (i := 2) rfl rfl 2 rfl ?_
                refine e_bipush (k := 32) (v := (9 : Int32)) rfl (by decide) ?_
                refine e_icmp_eq (k := 33) (tgt := 69) rfl (by decide) (fun z => ?_) (fun z => ?_)
                · have h := h.1 z
                  refine e_sub (lv' := []) [] rfl ?_
                  exact s_X4_usualNumber_69 hg h
                · have h := h.2 z
                  refine e_iload_n (k := 34) (i := 2) rfl rfl 2 rfl ?_
                  refine e_bipush (k := 35) (v := (12 : Int32)) rfl (by decide) ?_
                  refine e_icmp_ne (k := 36) (tgt := 73) rfl (by decide) (fun z => ?_) (fun z => ?_)
                  · have h := h.1 z
                    refine e_sub (lv' := []) [] rfl ?_
                    exact s_X4_usualNumber_73 hg h
                  · have h := h.2 z
                    refine e_sub (lv' := []) [] rfl ?_
                    exact s_X4_usualNumber_69 hg h
          · have h := h.2 z
            refine e_sub (lv' := []) [] rfl ?_
            exact s_X4_usualNumber_29 hg h
    · have h := h.2 z
      refine e_sub (lv' := []) [] rfl ?_
      exact s_X4_usualNumber_11 hg h
def il_X5_byteAt : List (Nat × Instr × Nat) := [(0, .iload_n 1, 1), (1, .ifCond .lt 33, 3), (4, .iload_n 1, 1), (5, .aload_n 0, 1), (6, .getfield 24, 3), (9, .if_icmp .ge 25, 3), (12, .iload_n 1, 1), (13, .aload_n 0, 1), (14, .getfield 9, 3), (17, .arraylength, 1), (18, .if_icmp .ge 16, 3), (21, .aload_n 0, 1), (22, .getfield 9, 3), (25, .iload_n 1, 1), (26, .baload, 1), (27, .sipush 255, 3), (30, .iand, 1), (31, .goto 4, 3), (34, .iconst (-1), 1), (35, .ireturn, 1)]
set_option maxRecDepth 20000 in
theorem il_X5_byteAt_ok : ∀ x ∈ il_X5_byteAt, decode cX5_byteAt x.1 = .ok x.2 := by decide +kernel
abbrev me_X5_byteAt : Me := (RX5, il_X5_byteAt, 2, (some .int), xRoom 1, [])
def w_X5_byteAt_35 (n : Nat) (t0 : Int32) (u0 : Mm) (Q : Int32 → Mm → Prop) : Prop :=
  Q t0 u0
def w_X5_byteAt_34 (n : Nat) (u0 : Mm) (Q : Int32 → Mm → Prop) : Prop :=
  w_X5_byteAt_35 n (-1 : Int32) u0 Q
def w_X5_byteAt (n : Nat) (a0 : Int32) (u0 : Mm) (Q : Int32 → Mm → Prop) : Prop :=
  (a0 < 0 → w_X5_byteAt_34 n u0 Q) ∧
  (¬ a0 < 0 → ((u0.1 33 1) ≤ a0 → w_X5_byteAt_34 n u0 Q) ∧
  (¬ (u0.1 33 1) ≤ a0 → ((2400 : Int32) ≤ a0 → w_X5_byteAt_34 n u0 Q) ∧
  (¬ (2400 : Int32) ≤ a0 → vp_in a0 2400 ∧ (w_X5_byteAt_35 n ((u0.1 (u0.2.2 1) (ix a0)) &&& (255 : Int32)) u0 Q))))
set_option maxRecDepth 20000 in
theorem s_X5_byteAt_35 {g : Gb} (hg : xInj g) {n : Nat} {Q : Int32 → Mm → Prop} {t0 : Int32} {u0 : Mm} (h : w_X5_byteAt_35 n t0 u0 Q) : xE g me_X5_byteAt (pI g Q noT) 35 [] [.int t0] u0 := by
  unfold w_X5_byteAt_35 at h
  exact e_iret (k := 19) rfl rfl (Or.inl ⟨_, rfl, h⟩)
set_option maxRecDepth 20000 in
theorem s_X5_byteAt_34 {g : Gb} (hg : xInj g) {n : Nat} {Q : Int32 → Mm → Prop} {u0 : Mm} (h : w_X5_byteAt_34 n  u0 Q) : xE g me_X5_byteAt (pI g Q noT) 34 [] [] u0 := by
  unfold w_X5_byteAt_34 at h
  refine e_iconst (k := 18) (v := (-1 : Int32)) rfl (by decide) ?_
  exact s_X5_byteAt_35 hg h
set_option maxRecDepth 20000 in
theorem c_X5_byteAt {g : Gb} (hg : xInj g) {n : Nat} {a0 : Int32} {u0 : Mm} {Q : Int32 → Mm → Prop} (h : w_X5_byteAt n a0 u0 Q) : xMet (gL g) yX5_byteAt (xws yX5_byteAt cX5_byteAt 2 (some .int)) (xRoom 1) (xPc g [.ref (gR g 33), .int a0] u0) (xQ g (pI g Q noT)) (xA g) := by
  refine xbody (il := il_X5_byteAt) hg il_X5_byteAt_ok m_X5_byteAt (Nat.le_of_ble_eq_true rfl) ?_
  show xE g me_X5_byteAt (pI g Q noT) 0 [(0, .ref (gR g 33)), (1, .int a0)] [] u0
  unfold w_X5_byteAt at h
  refine e_iload_n (k := 0) (i := 1) rfl rfl 1 rfl ?_
  refine e_if_lt (k := 1) (tgt := 34) rfl (by decide) (fun z => ?_) (fun z => ?_)
  · have h := h.1 z
    refine e_sub (lv' := []) [] rfl ?_
    exact s_X5_byteAt_34 hg h
  · have h := h.2 z
    refine e_iload_n (k := 2) (i := 1) rfl rfl 1 rfl ?_
    refine e_aload_n (k := 3) (i := 0) rfl rfl 0 rfl ?_
    refine e_getI (k := 4) rfl f_X5_24 rfl rfl ?_
    refine e_icmp_ge (k := 5) (tgt := 34) rfl (by decide) (fun z => ?_) (fun z => ?_)
    · have h := h.1 z
      refine e_sub (lv' := []) [] rfl ?_
      exact s_X5_byteAt_34 hg h
    · have h := h.2 z
      refine e_iload_n (k := 6) (i := 1) rfl rfl 1 rfl ?_
      refine e_aload_n (k := 7) (i := 0) rfl rfl 0 rfl ?_
      refine e_getP (k := 8) rfl f_X5_9 rfl rfl (fun ty1 => ?_)
      refine e_alen (k := 9) (v := (2400 : Int32)) rfl ty1.2.1 (by decide) (by decide) ?_
      refine e_icmp_ge (k := 10) (tgt := 34) rfl (by decide) (fun z => ?_) (fun z => ?_)
      · have h := h.1 z
        refine e_sub (lv' := []) [] rfl ?_
        exact s_X5_byteAt_34 hg h
      · have h := h.2 z
        refine e_aload_n (k := 11) (i := 0) rfl rfl 0 rfl ?_
        refine e_getP (k := 12) rfl f_X5_9 rfl rfl (fun ty2 => ?_)
        refine e_iload_n (k := 13) (i := 1) rfl rfl 1 rfl ?_
        refine e_bald (k := 14) rfl ty2.2.1 h.1 ?_
        have h := h.2
        refine e_sipush (k := 15) (v := (255 : Int32)) rfl (by decide) ?_
        refine e_iand (k := 16) rfl ?_
        refine e_goto (k := 17) (tgt := 35) rfl (by decide) ?_
        refine e_sub (lv' := []) [] rfl ?_
        exact s_X5_byteAt_35 hg h
def il_X5_fail : List (Nat × Instr × Nat) := [(0, .aload_n 0, 1), (1, .getfield 40, 3), (4, .ifCond .ne 13, 3), (7, .aload_n 0, 1), (8, .iload_n 1, 1), (9, .putfield 40, 3), (12, .aload_n 0, 1), (13, .iload_n 2, 1), (14, .putfield 43, 3), (17, .return_, 1)]
set_option maxRecDepth 20000 in
theorem il_X5_fail_ok : ∀ x ∈ il_X5_fail, decode cX5_fail x.1 = .ok x.2 := by decide +kernel
abbrev me_X5_fail : Me := (RX5, il_X5_fail, 3, none, xRoom 1, [])
def w_X5_fail_17 (n : Nat) (u0 : Mm) (Q : Mm → Prop) : Prop :=
  Q u0
def w_X5_fail (n : Nat) (a0 : Int32) (a1 : Int32) (u0 : Mm) (Q : Mm → Prop) : Prop :=
  (¬ (u0.1 33 6) = 0 → w_X5_fail_17 n u0 Q) ∧
  ((u0.1 33 6) = 0 → mlet (setI u0 33 6 a0) fun u1 =>
  mlet (setI u1 33 7 a1) fun u2 =>
  w_X5_fail_17 n u2 Q)
set_option maxRecDepth 20000 in
theorem s_X5_fail_17 {g : Gb} (hg : xInj g) {n : Nat} {Q : Mm → Prop} {u0 : Mm} (h : w_X5_fail_17 n  u0 Q) : xE g me_X5_fail (pV g Q noT) 17 [] [] u0 := by
  unfold w_X5_fail_17 at h
  exact e_vret (k := 9) rfl rfl (Or.inl ⟨rfl, h⟩)
set_option maxRecDepth 20000 in
theorem c_X5_fail {g : Gb} (hg : xInj g) {n : Nat} {a0 : Int32} {a1 : Int32} {u0 : Mm} {Q : Mm → Prop} (h : w_X5_fail n a0 a1 u0 Q) : xMet (gL g) yX5_fail (xws yX5_fail cX5_fail 3 none) (xRoom 1) (xPc g [.ref (gR g 33), .int a0, .int a1] u0) (xQ g (pV g Q noT)) (xA g) := by
  refine xbody (il := il_X5_fail) hg il_X5_fail_ok m_X5_fail (Nat.le_of_ble_eq_true rfl) ?_
  show xE g me_X5_fail (pV g Q noT) 0 [(0, .ref (gR g 33)), (1, .int a0), (2, .int a1)] [] u0
  unfold w_X5_fail at h
  refine e_aload_n (k := 0) (i := 0) rfl rfl 0 rfl ?_
  refine e_getI (k := 1) rfl f_X5_40 rfl rfl ?_
  refine e_if_ne (k := 2) (tgt := 17) rfl (by decide) (fun z => ?_) (fun z => ?_)
  · have h := h.1 z
    refine e_sub (lv' := []) [] rfl ?_
    exact s_X5_fail_17 hg h
  · have h := h.2 z
    refine e_aload_n (k := 3) (i := 0) rfl rfl 0 rfl ?_
    refine e_iload_n (k := 4) (i := 1) rfl rfl 1 rfl ?_
    refine e_putI (k := 5) rfl fg_X5_40 rfl rfl ?_
    refine e_mlet h (fun u1 h => ?_)
    refine e_aload_n (k := 6) (i := 0) rfl rfl 0 rfl ?_
    refine e_iload_n (k := 7) (i := 2) rfl rfl 2 rfl ?_
    refine e_putI (k := 8) rfl fg_X5_43 rfl rfl ?_
    refine e_mlet h (fun u2 h => ?_)
    refine e_sub (lv' := []) [] rfl ?_
    exact s_X5_fail_17 hg h
def il_X5_peek : List (Nat × Instr × Nat) := [(0, .aload_n 0, 1), (1, .getfield 28, 3), (4, .iload_n 1, 1), (5, .iadd, 1), (6, .istore_n 2, 1), (7, .iload_n 2, 1), (8, .ifCond .lt 33, 3), (11, .iload_n 2, 1), (12, .aload_n 0, 1), (13, .getfield 34, 3), (16, .if_icmp .ge 25, 3), (19, .iload_n 2, 1), (20, .aload_n 0, 1), (21, .getfield 9, 3), (24, .arraylength, 1), (25, .if_icmp .ge 16, 3), (28, .aload_n 0, 1), (29, .getfield 9, 3), (32, .iload_n 2, 1), (33, .baload, 1), (34, .sipush 255, 3), (37, .iand, 1), (38, .goto 4, 3), (41, .iconst (-1), 1), (42, .ireturn, 1)]
set_option maxRecDepth 20000 in
theorem il_X5_peek_ok : ∀ x ∈ il_X5_peek, decode cX5_peek x.1 = .ok x.2 := by decide +kernel
abbrev me_X5_peek : Me := (RX5, il_X5_peek, 3, (some .int), xRoom 1, [])
def w_X5_peek_42 (n : Nat) (t0 : Int32) (u0 : Mm) (Q : Int32 → Mm → Prop) : Prop :=
  Q t0 u0
def w_X5_peek_41 (n : Nat) (u0 : Mm) (Q : Int32 → Mm → Prop) : Prop :=
  w_X5_peek_42 n (-1 : Int32) u0 Q
def w_X5_peek (n : Nat) (a0 : Int32) (u0 : Mm) (Q : Int32 → Mm → Prop) : Prop :=
  ilet ((u0.1 33 2) + a0) fun y1 =>
  (y1 < 0 → w_X5_peek_41 n u0 Q) ∧
  (¬ y1 < 0 → ((u0.1 33 4) ≤ y1 → w_X5_peek_41 n u0 Q) ∧
  (¬ (u0.1 33 4) ≤ y1 → ((2400 : Int32) ≤ y1 → w_X5_peek_41 n u0 Q) ∧
  (¬ (2400 : Int32) ≤ y1 → vp_in y1 2400 ∧ (w_X5_peek_42 n ((u0.1 (u0.2.2 1) (ix y1)) &&& (255 : Int32)) u0 Q))))
set_option maxRecDepth 20000 in
theorem s_X5_peek_42 {g : Gb} (hg : xInj g) {n : Nat} {Q : Int32 → Mm → Prop} {t0 : Int32} {u0 : Mm} (h : w_X5_peek_42 n t0 u0 Q) : xE g me_X5_peek (pI g Q noT) 42 [] [.int t0] u0 := by
  unfold w_X5_peek_42 at h
  exact e_iret (k := 24) rfl rfl (Or.inl ⟨_, rfl, h⟩)
set_option maxRecDepth 20000 in
theorem s_X5_peek_41 {g : Gb} (hg : xInj g) {n : Nat} {Q : Int32 → Mm → Prop} {u0 : Mm} (h : w_X5_peek_41 n  u0 Q) : xE g me_X5_peek (pI g Q noT) 41 [] [] u0 := by
  unfold w_X5_peek_41 at h
  refine e_iconst (k := 23) (v := (-1 : Int32)) rfl (by decide) ?_
  exact s_X5_peek_42 hg h
set_option maxRecDepth 20000 in
theorem c_X5_peek {g : Gb} (hg : xInj g) {n : Nat} {a0 : Int32} {u0 : Mm} {Q : Int32 → Mm → Prop} (h : w_X5_peek n a0 u0 Q) : xMet (gL g) yX5_peek (xws yX5_peek cX5_peek 3 (some .int)) (xRoom 1) (xPc g [.ref (gR g 33), .int a0] u0) (xQ g (pI g Q noT)) (xA g) := by
  refine xbody (il := il_X5_peek) hg il_X5_peek_ok m_X5_peek (Nat.le_of_ble_eq_true rfl) ?_
  show xE g me_X5_peek (pI g Q noT) 0 [(0, .ref (gR g 33)), (1, .int a0)] [] u0
  unfold w_X5_peek at h
  refine e_aload_n (k := 0) (i := 0) rfl rfl 0 rfl ?_
  refine e_getI (k := 1) rfl f_X5_28 rfl rfl ?_
  refine e_iload_n (k := 2) (i := 1) rfl rfl 1 rfl ?_
  refine e_iadd (k := 3) rfl ?_
  refine e_ilet h (fun y1 h => ?_)
  refine e_istore_n (k := 4) (i := 2) (lv' := [(0, .ref (gR g 33)), (1, .int a0), (2, .int y1)]) rfl rfl (by decide) [1, 2, 0] rfl ?_
  refine e_iload_n (k := 5) (i := 2) rfl rfl 2 rfl ?_
  refine e_if_lt (k := 6) (tgt := 41) rfl (by decide) (fun z => ?_) (fun z => ?_)
  · have h := h.1 z
    refine e_sub (lv' := []) [] rfl ?_
    exact s_X5_peek_41 hg h
  · have h := h.2 z
    refine e_iload_n (k := 7) (i := 2) rfl rfl 2 rfl ?_
    refine e_aload_n (k := 8) (i := 0) rfl rfl 0 rfl ?_
    refine e_getI (k := 9) rfl f_X5_34 rfl rfl ?_
    refine e_icmp_ge (k := 10) (tgt := 41) rfl (by decide) (fun z => ?_) (fun z => ?_)
    · have h := h.1 z
      refine e_sub (lv' := []) [] rfl ?_
      exact s_X5_peek_41 hg h
    · have h := h.2 z
      refine e_iload_n (k := 11) (i := 2) rfl rfl 2 rfl ?_
      refine e_aload_n (k := 12) (i := 0) rfl rfl 0 rfl ?_
      refine e_getP (k := 13) rfl f_X5_9 rfl rfl (fun ty1 => ?_)
      refine e_alen (k := 14) (v := (2400 : Int32)) rfl ty1.2.1 (by decide) (by decide) ?_
      refine e_icmp_ge (k := 15) (tgt := 41) rfl (by decide) (fun z => ?_) (fun z => ?_)
      · have h := h.1 z
        refine e_sub (lv' := []) [] rfl ?_
        exact s_X5_peek_41 hg h
      · have h := h.2 z
        refine e_aload_n (k := 16) (i := 0) rfl rfl 0 rfl ?_
        refine e_getP (k := 17) rfl f_X5_9 rfl rfl (fun ty2 => ?_)
        refine e_iload_n (k := 18) (i := 2) rfl rfl 2 rfl ?_
        refine e_bald (k := 19) rfl ty2.2.1 h.1 ?_
        have h := h.2
        refine e_sipush (k := 20) (v := (255 : Int32)) rfl (by decide) ?_
        refine e_iand (k := 21) rfl ?_
        refine e_goto (k := 22) (tgt := 42) rfl (by decide) ?_
        refine e_sub (lv' := []) [] rfl ?_
        exact s_X5_peek_42 hg h
def il_X5_take : List (Nat × Instr × Nat) := [(0, .aload_n 0, 1), (1, .aload_n 1, 1), (2, .putfield 9, 3), (5, .aload_n 0, 1), (6, .iconst 0, 1), (7, .iload_n 2, 1), (8, .aload_n 1, 1), (9, .arraylength, 1), (10, .invokestatic 15, 3), (13, .invokestatic 21, 3), (16, .putfield 24, 3), (19, .aload_n 0, 1), (20, .iconst 0, 1), (21, .putfield 28, 3), (24, .aload_n 0, 1), (25, .iconst 0, 1), (26, .putfield 31, 3), (29, .aload_n 0, 1), (30, .iconst 0, 1), (31, .putfield 34, 3), (34, .aload_n 0, 1), (35, .iconst 0, 1), (36, .putfield 37, 3), (39, .aload_n 0, 1), (40, .iconst 0, 1), (41, .putfield 40, 3), (44, .aload_n 0, 1), (45, .iconst 0, 1), (46, .putfield 43, 3), (49, .return_, 1)]
set_option maxRecDepth 20000 in
theorem il_X5_take_ok : ∀ x ∈ il_X5_take, decode cX5_take x.1 = .ok x.2 := by decide +kernel
abbrev me_X5_take : Me := (RX5, il_X5_take, 3, none, xRoom 1, [])
def w_X5_take (n : Nat) (a0 : Nat) (a1 : Int32) (u0 : Mm) (Q : Mm → Prop) : Prop :=
  mlet (setP u0 1 a0) fun u1 =>
  mlet (setI u1 33 1 (if (0 : Int32) < (if (2400 : Int32) < a1 then (2400 : Int32) else a1) then (if (2400 : Int32) < a1 then (2400 : Int32) else a1) else (0 : Int32))) fun u2 =>
  mlet (setI u2 33 2 (0 : Int32)) fun u3 =>
  mlet (setI u3 33 3 (0 : Int32)) fun u4 =>
  mlet (setI u4 33 4 (0 : Int32)) fun u5 =>
  mlet (setI u5 33 5 (0 : Int32)) fun u6 =>
  mlet (setI u6 33 6 (0 : Int32)) fun u7 =>
  mlet (setI u7 33 7 (0 : Int32)) fun u8 =>
  Q u8
set_option maxRecDepth 20000 in
theorem c_X5_take {g : Gb} (hg : xInj g) {n : Nat} {a0 : Nat} {a1 : Int32} (ha0 : xlay a0 = (1, 1, 2400)) {u0 : Mm} {Q : Mm → Prop} (h : w_X5_take n a0 a1 u0 Q) : xMet (gL g) yX5_take (xws yX5_take cX5_take 3 none) (xRoom 1) (xPc g [.ref (gR g 33), .ref (gR g a0), .int a1] u0) (xQ g (pV g Q noT)) (xA g) := by
  refine xbody (il := il_X5_take) hg il_X5_take_ok m_X5_take (Nat.le_of_ble_eq_true rfl) ?_
  show xE g me_X5_take (pV g Q noT) 0 [(0, .ref (gR g 33)), (1, .ref (gR g a0)), (2, .int a1)] [] u0
  unfold w_X5_take at h
  refine e_aload_n (k := 0) (i := 0) rfl rfl 0 rfl ?_
  refine e_aload_n (k := 1) (i := 1) rfl rfl 1 rfl ?_
  refine e_putP (k := 2) rfl fg_X5_9 rfl rfl xu_1 xonly_1 rfl rfl (fun ty => ⟨ty.1, ha0, ty.2.2⟩) ?_
  refine e_mlet h (fun u1 h => ?_)
  refine e_aload_n (k := 3) (i := 0) rfl rfl 0 rfl ?_
  refine e_iconst (k := 4) (v := (0 : Int32)) rfl (by decide) ?_
  refine e_iload_n (k := 5) (i := 2) rfl rfl 2 rfl ?_
  refine e_aload_n (k := 6) (i := 1) rfl rfl 1 rfl ?_
  refine e_alen (k := 7) (v := (2400 : Int32)) rfl ha0 (by decide) (by decide) ?_
  refine e_mmin (k := 8) rfl l_X5_15 st_J9_min_7cf53 h9_ini h9_min (by decide) (Nat.le_of_ble_eq_true rfl) ?_
  refine e_mmax (k := 9) rfl l_X5_21 st_J9_max_7cf53 h9_ini h9_max (by decide) (Nat.le_of_ble_eq_true rfl) ?_
  refine e_putI (k := 10) rfl fg_X5_24 rfl rfl ?_
  refine e_mlet h (fun u2 h => ?_)
  refine e_aload_n (k := 11) (i := 0) rfl rfl 0 rfl ?_
  refine e_iconst (k := 12) (v := (0 : Int32)) rfl (by decide) ?_
  refine e_putI (k := 13) rfl fg_X5_28 rfl rfl ?_
  refine e_mlet h (fun u3 h => ?_)
  refine e_aload_n (k := 14) (i := 0) rfl rfl 0 rfl ?_
  refine e_iconst (k := 15) (v := (0 : Int32)) rfl (by decide) ?_
  refine e_putI (k := 16) rfl fg_X5_31 rfl rfl ?_
  refine e_mlet h (fun u4 h => ?_)
  refine e_aload_n (k := 17) (i := 0) rfl rfl 0 rfl ?_
  refine e_iconst (k := 18) (v := (0 : Int32)) rfl (by decide) ?_
  refine e_putI (k := 19) rfl fg_X5_34 rfl rfl ?_
  refine e_mlet h (fun u5 h => ?_)
  refine e_aload_n (k := 20) (i := 0) rfl rfl 0 rfl ?_
  refine e_iconst (k := 21) (v := (0 : Int32)) rfl (by decide) ?_
  refine e_putI (k := 22) rfl fg_X5_37 rfl rfl ?_
  refine e_mlet h (fun u6 h => ?_)
  refine e_aload_n (k := 23) (i := 0) rfl rfl 0 rfl ?_
  refine e_iconst (k := 24) (v := (0 : Int32)) rfl (by decide) ?_
  refine e_putI (k := 25) rfl fg_X5_40 rfl rfl ?_
  refine e_mlet h (fun u7 h => ?_)
  refine e_aload_n (k := 26) (i := 0) rfl rfl 0 rfl ?_
  refine e_iconst (k := 27) (v := (0 : Int32)) rfl (by decide) ?_
  refine e_putI (k := 28) rfl fg_X5_43 rfl rfl ?_
  refine e_mlet h (fun u8 h => ?_)
  exact e_vret (k := 29) rfl rfl (Or.inl ⟨rfl, h⟩)
def il_X6_add : List (Nat × Instr × Nat) := [(0, .aload_n 0, 1), (1, .getfield 22, 3), (4, .ifCond .lt 13, 3), (7, .aload_n 0, 1), (8, .getfield 22, 3), (11, .sipush 400, 3), (14, .if_icmp .lt 5, 3), (17, .iconst (-1), 1), (18, .ireturn, 1), (19, .aload_n 0, 1), (20, .getfield 22, 3), (23, .istore_n 3, 1), (24, .aload_n 0, 1), (25, .dup, 1), (26, .getfield 22, 3), (29, .iconst 1, 1), (30, .iadd, 1), (31, .putfield 22, 3), (34, .iconst 0, 1), (35, .istore 4, 2), (37, .iload 4, 2), (39, .bipush 19, 2), (41, .if_icmp .ge 22, 3), (44, .aload_n 0, 1), (45, .getfield 9, 3), (48, .iload_n 3, 1), (49, .bipush 19, 2), (51, .imul, 1), (52, .iload 4, 2), (54, .iadd, 1), (55, .iconst 0, 1), (56, .iastore, 1), (57, .iinc 4 1, 3), (60, .goto (-23), 3), (63, .aload_n 0, 1), (64, .getfield 9, 3), (67, .iload_n 3, 1), (68, .bipush 19, 2), (70, .imul, 1), (71, .iconst 0, 1), (72, .iadd, 1), (73, .iload_n 1, 1), (74, .iastore, 1), (75, .aload_n 0, 1), (76, .getfield 9, 3), (79, .iload_n 3, 1), (80, .bipush 19, 2), (82, .imul, 1), (83, .bipush 16, 2), (85, .iadd, 1), (86, .iload_n 2, 1), (87, .iastore, 1), (88, .aload_n 0, 1), (89, .getfield 15, 3), (92, .iload_n 3, 1), (93, .lconst 0, 1), (94, .lastore, 1), (95, .aload_n 0, 1), (96, .getfield 19, 3), (99, .iload_n 3, 1), (100, .lconst 0, 1), (101, .lastore, 1), (102, .iload_n 3, 1), (103, .ireturn, 1)]
set_option maxRecDepth 20000 in
theorem il_X6_add_ok : ∀ x ∈ il_X6_add, decode cX6_add x.1 = .ok x.2 := by decide +kernel
abbrev me_X6_add : Me := (RX6, il_X6_add, 5, (some .int), xRoom 1, [])
def w_X6_add_37 (n : Nat) (Q : Int32 → Mm → Prop) : Nat → Int32 → Int32 → Int32 → Int32 → Mm → Prop
  | 0, _, _, _, _, _ => False
  | k + 1, x1, x2, x3, x4, u0 =>
  ((19 : Int32) ≤ x4 → vp_in ((x3 * (19 : Int32)) + (0 : Int32)) 7600 ∧ (mlet (setI u0 46 (ix ((x3 * (19 : Int32)) + (0 : Int32))) x1) fun u1 =>
  vp_in ((x3 * (19 : Int32)) + (16 : Int32)) 7600 ∧ (mlet (setI u1 46 (ix ((x3 * (19 : Int32)) + (16 : Int32))) x2) fun u2 =>
  vp_in x3 400 ∧ (mlet (setJ u2 47 (ix x3) (0 : Int64)) fun u3 =>
  vp_in x3 400 ∧ (mlet (setJ u3 48 (ix x3) (0 : Int64)) fun u4 =>
  Q x3 u4))))) ∧
  (¬ (19 : Int32) ≤ x4 → vp_in ((x3 * (19 : Int32)) + x4) 7600 ∧ (mlet (setI u0 46 (ix ((x3 * (19 : Int32)) + x4)) (0 : Int32)) fun u5 =>
  (w_X6_add_37 n Q k) x1 x2 x3 (x4 + (1 : Int32)) u5))
def w_X6_add_17 (n : Nat) (u0 : Mm) (Q : Int32 → Mm → Prop) : Prop :=
  Q (-1 : Int32) u0
def w_X6_add (n : Nat) (a0 : Int32) (a1 : Int32) (u0 : Mm) (Q : Int32 → Mm → Prop) : Prop :=
  ((u0.1 36 3) < 0 → w_X6_add_17 n u0 Q) ∧
  (¬ (u0.1 36 3) < 0 → ((u0.1 36 3) < (400 : Int32) → ilet (u0.1 36 3) fun y1 =>
  mlet (setI u0 36 3 ((u0.1 36 3) + (1 : Int32))) fun u1 =>
  (w_X6_add_37 n Q n) a0 a1 y1 (0 : Int32) u1) ∧
  (¬ (u0.1 36 3) < (400 : Int32) → w_X6_add_17 n u0 Q))
set_option maxRecDepth 20000 in
theorem s_X6_add_37 {g : Gb} (hg : xInj g) {n : Nat} {Q : Int32 → Mm → Prop} : ∀ (k : Nat) (x1 : Int32) (x2 : Int32) (x3 : Int32) (x4 : Int32) (u0 : Mm), w_X6_add_37 n Q k x1 x2 x3 x4 u0 → xE g me_X6_add (pI g Q noT) 37 [(0, .ref (gR g 36)), (1, .int x1), (2, .int x2), (3, .int x3), (4, .int x4)] [] u0 := by
  intro k
  induction k with
  | zero => intro x1 x2 x3 x4 u0 h; exact h.elim
  | succ k ih =>
    intro x1 x2 x3 x4 u0 h
    unfold w_X6_add_37 at h
    refine e_iload (k := 20) (i := 4) rfl 4 rfl ?_
    refine e_bipush (k := 21) (v := (19 : Int32)) rfl (by decide) ?_
    refine e_icmp_ge (k := 22) (tgt := 63) rfl (by decide) (fun z => ?_) (fun z => ?_)
    · have h := h.1 z
      refine e_aload_n (k := 34) (i := 0) rfl rfl 0 rfl ?_
      refine e_getC (k := 35) rfl f_X6_9 rfl rfl ?_
      refine e_iload_n (k := 36) (i := 3) rfl rfl 3 rfl ?_
      refine e_bipush (k := 37) (v := (19 : Int32)) rfl (by decide) ?_
      refine e_imul (k := 38) rfl ?_
      refine e_iconst (k := 39) (v := (0 : Int32)) rfl (by decide) ?_
      refine e_iadd (k := 40) rfl ?_
      refine e_iload_n (k := 41) (i := 1) rfl rfl 1 rfl ?_
      refine e_iast (k := 42) rfl rfl h.1 ?_
      have h := h.2
      refine e_mlet h (fun u1 h => ?_)
      refine e_aload_n (k := 43) (i := 0) rfl rfl 0 rfl ?_
      refine e_getC (k := 44) rfl f_X6_9 rfl rfl ?_
      refine e_iload_n (k := 45) (i := 3) rfl rfl 3 rfl ?_
      refine e_bipush (k := 46) (v := (19 : Int32)) rfl (by decide) ?_
      refine e_imul (k := 47) rfl ?_
      refine e_bipush (k := 48) (v := (16 : Int32)) rfl (by decide) ?_
      refine e_iadd (k := 49) rfl ?_
      refine e_iload_n (k := 50) (i := 2) rfl rfl 2 rfl ?_
      refine e_iast (k := 51) rfl rfl h.1 ?_
      have h := h.2
      refine e_mlet h (fun u2 h => ?_)
      refine e_aload_n (k := 52) (i := 0) rfl rfl 0 rfl ?_
      refine e_getC (k := 53) rfl f_X6_15 rfl rfl ?_
      refine e_iload_n (k := 54) (i := 3) rfl rfl 3 rfl ?_
      refine e_lconst (k := 55) (v := (0 : Int64)) rfl (by decide) ?_
      refine e_last (k := 56) rfl rfl h.1 ?_
      have h := h.2
      refine e_mlet h (fun u3 h => ?_)
      refine e_aload_n (k := 57) (i := 0) rfl rfl 0 rfl ?_
      refine e_getC (k := 58) rfl f_X6_19 rfl rfl ?_
      refine e_iload_n (k := 59) (i := 3) rfl rfl 3 rfl ?_
      refine e_lconst (k := 60) (v := (0 : Int64)) rfl (by decide) ?_
      refine e_last (k := 61) rfl rfl h.1 ?_
      have h := h.2
      refine e_mlet h (fun u4 h => ?_)
      refine e_iload_n (k := 62) (i := 3) rfl rfl 3 rfl ?_
      exact e_iret (k := 63) rfl rfl (Or.inl ⟨_, rfl, h⟩)
    · have h := h.2 z
      refine e_aload_n (k := 23) (i := 0) rfl rfl 0 rfl ?_
      refine e_getC (k := 24) rfl f_X6_9 rfl rfl ?_
      refine e_iload_n (k := 25) (i := 3) rfl rfl 3 rfl ?_
      refine e_bipush (k := 26) (v := (19 : Int32)) rfl (by decide) ?_
      refine e_imul (k := 27) rfl ?_
      refine e_iload (k := 28) (i := 4) rfl 4 rfl ?_
      refine e_iadd (k := 29) rfl ?_
      refine e_iconst (k := 30) (v := (0 : Int32)) rfl (by decide) ?_
      refine e_iast (k := 31) rfl rfl h.1 ?_
      have h := h.2
      refine e_mlet h (fun u5 h => ?_)
      refine e_iinc (k := 32) (i := 4) (j := 4) (v := (x4 + (1 : Int32))) (lv' := [(0, .ref (gR g 36)), (1, .int x1), (2, .int x2), (3, .int x3), (4, .int (x4 + (1 : Int32)))]) rfl rfl rfl (by decide) [1, 2, 3, 4, 0] rfl ?_
      refine e_goto (k := 33) (tgt := 37) rfl (by decide) ?_
      exact ih x1 x2 x3 (x4 + (1 : Int32)) u5 h
set_option maxRecDepth 20000 in
theorem s_X6_add_17 {g : Gb} (hg : xInj g) {n : Nat} {Q : Int32 → Mm → Prop} {u0 : Mm} (h : w_X6_add_17 n  u0 Q) : xE g me_X6_add (pI g Q noT) 17 [] [] u0 := by
  unfold w_X6_add_17 at h
  refine e_iconst (k := 7) (v := (-1 : Int32)) rfl (by decide) ?_
  exact e_iret (k := 8) rfl rfl (Or.inl ⟨_, rfl, h⟩)
set_option maxRecDepth 20000 in
theorem c_X6_add {g : Gb} (hg : xInj g) {n : Nat} {a0 : Int32} {a1 : Int32} {u0 : Mm} {Q : Int32 → Mm → Prop} (h : w_X6_add n a0 a1 u0 Q) : xMet (gL g) yX6_add (xws yX6_add cX6_add 5 (some .int)) (xRoom 1) (xPc g [.ref (gR g 36), .int a0, .int a1] u0) (xQ g (pI g Q noT)) (xA g) := by
  refine xbody (il := il_X6_add) hg il_X6_add_ok m_X6_add (Nat.le_of_ble_eq_true rfl) ?_
  show xE g me_X6_add (pI g Q noT) 0 [(0, .ref (gR g 36)), (1, .int a0), (2, .int a1)] [] u0
  unfold w_X6_add at h
  refine e_aload_n (k := 0) (i := 0) rfl rfl 0 rfl ?_
  refine e_getI (k := 1) rfl f_X6_22 rfl rfl ?_
  refine e_if_lt (k := 2) (tgt := 17) rfl (by decide) (fun z => ?_) (fun z => ?_)
  · have h := h.1 z
    refine e_sub (lv' := []) [] rfl ?_
    exact s_X6_add_17 hg h
  · have h := h.2 z
    refine e_aload_n (k := 3) (i := 0) rfl rfl 0 rfl ?_
    refine e_getI (k := 4) rfl f_X6_22 rfl rfl ?_
    refine e_sipush (k := 5) (v := (400 : Int32)) rfl (by decide) ?_
    refine e_icmp_lt (k := 6) (tgt := 19) rfl (by decide) (fun z => ?_) (fun z => ?_)
    · have h := h.1 z
      refine e_aload_n (k := 9) (i := 0) rfl rfl 0 rfl ?_
      refine e_getI (k := 10) rfl f_X6_22 rfl rfl ?_
      refine e_ilet h (fun y1 h => ?_)
      refine e_istore_n (k := 11) (i := 3) (lv' := [(0, .ref (gR g 36)), (1, .int a0), (2, .int a1), (3, .int y1)]) rfl rfl (by decide) [1, 2, 3, 0] rfl ?_
      refine e_aload_n (k := 12) (i := 0) rfl rfl 0 rfl ?_
      refine e_dup (k := 13) rfl rfl ?_
      refine e_getI (k := 14) rfl f_X6_22 rfl rfl ?_
      refine e_iconst (k := 15) (v := (1 : Int32)) rfl (by decide) ?_
      refine e_iadd (k := 16) rfl ?_
      refine e_putI (k := 17) rfl fg_X6_22 rfl rfl ?_
      refine e_mlet h (fun u1 h => ?_)
      refine e_iconst (k := 18) (v := (0 : Int32)) rfl (by decide) ?_
      refine e_istore (k := 19) (i := 4) (lv' := [(0, .ref (gR g 36)), (1, .int a0), (2, .int a1), (3, .int y1), (4, .int (0 : Int32))]) rfl (by decide) [1, 2, 3, 4, 0] rfl ?_
      exact s_X6_add_37 hg n a0 a1 y1 (0 : Int32) u1 h
    · have h := h.2 z
      refine e_sub (lv' := []) [] rfl ?_
      exact s_X6_add_17 hg h
def il_X6_beginOf : List (Nat × Instr × Nat) := [(0, .iload_n 1, 1), (1, .ifCond .lt 27, 3), (4, .iload_n 1, 1), (5, .aload_n 0, 1), (6, .getfield 22, 3), (9, .if_icmp .ge 19, 3), (12, .iload_n 1, 1), (13, .sipush 400, 3), (16, .if_icmp .ge 12, 3), (19, .aload_n 0, 1), (20, .getfield 19, 3), (23, .iload_n 1, 1), (24, .laload, 1), (25, .goto 4, 3), (28, .lconst 0, 1), (29, .lreturn, 1)]
set_option maxRecDepth 20000 in
theorem il_X6_beginOf_ok : ∀ x ∈ il_X6_beginOf, decode cX6_beginOf x.1 = .ok x.2 := by decide +kernel
abbrev me_X6_beginOf : Me := (RX6, il_X6_beginOf, 2, (some .long), xRoom 1, [])
def w_X6_beginOf_29 (n : Nat) (t0 : Int64) (u0 : Mm) (Q : Int64 → Mm → Prop) : Prop :=
  Q t0 u0
def w_X6_beginOf_28 (n : Nat) (u0 : Mm) (Q : Int64 → Mm → Prop) : Prop :=
  w_X6_beginOf_29 n (0 : Int64) u0 Q
def w_X6_beginOf (n : Nat) (a0 : Int32) (u0 : Mm) (Q : Int64 → Mm → Prop) : Prop :=
  (a0 < 0 → w_X6_beginOf_28 n u0 Q) ∧
  (¬ a0 < 0 → ((u0.1 36 3) ≤ a0 → w_X6_beginOf_28 n u0 Q) ∧
  (¬ (u0.1 36 3) ≤ a0 → ((400 : Int32) ≤ a0 → w_X6_beginOf_28 n u0 Q) ∧
  (¬ (400 : Int32) ≤ a0 → vp_in a0 400 ∧ (w_X6_beginOf_29 n (u0.2.1 48 (ix a0)) u0 Q))))
set_option maxRecDepth 20000 in
theorem s_X6_beginOf_29 {g : Gb} (hg : xInj g) {n : Nat} {Q : Int64 → Mm → Prop} {t0 : Int64} {u0 : Mm} (h : w_X6_beginOf_29 n t0 u0 Q) : xE g me_X6_beginOf (pL g Q noT) 29 [] [.long t0] u0 := by
  unfold w_X6_beginOf_29 at h
  exact e_lret (k := 15) rfl rfl (Or.inl ⟨_, rfl, h⟩)
set_option maxRecDepth 20000 in
theorem s_X6_beginOf_28 {g : Gb} (hg : xInj g) {n : Nat} {Q : Int64 → Mm → Prop} {u0 : Mm} (h : w_X6_beginOf_28 n  u0 Q) : xE g me_X6_beginOf (pL g Q noT) 28 [] [] u0 := by
  unfold w_X6_beginOf_28 at h
  refine e_lconst (k := 14) (v := (0 : Int64)) rfl (by decide) ?_
  exact s_X6_beginOf_29 hg h
set_option maxRecDepth 20000 in
theorem c_X6_beginOf {g : Gb} (hg : xInj g) {n : Nat} {a0 : Int32} {u0 : Mm} {Q : Int64 → Mm → Prop} (h : w_X6_beginOf n a0 u0 Q) : xMet (gL g) yX6_beginOf (xws yX6_beginOf cX6_beginOf 2 (some .long)) (xRoom 1) (xPc g [.ref (gR g 36), .int a0] u0) (xQ g (pL g Q noT)) (xA g) := by
  refine xbody (il := il_X6_beginOf) hg il_X6_beginOf_ok m_X6_beginOf (Nat.le_of_ble_eq_true rfl) ?_
  show xE g me_X6_beginOf (pL g Q noT) 0 [(0, .ref (gR g 36)), (1, .int a0)] [] u0
  unfold w_X6_beginOf at h
  refine e_iload_n (k := 0) (i := 1) rfl rfl 1 rfl ?_
  refine e_if_lt (k := 1) (tgt := 28) rfl (by decide) (fun z => ?_) (fun z => ?_)
  · have h := h.1 z
    refine e_sub (lv' := []) [] rfl ?_
    exact s_X6_beginOf_28 hg h
  · have h := h.2 z
    refine e_iload_n (k := 2) (i := 1) rfl rfl 1 rfl ?_
    refine e_aload_n (k := 3) (i := 0) rfl rfl 0 rfl ?_
    refine e_getI (k := 4) rfl f_X6_22 rfl rfl ?_
    refine e_icmp_ge (k := 5) (tgt := 28) rfl (by decide) (fun z => ?_) (fun z => ?_)
    · have h := h.1 z
      refine e_sub (lv' := []) [] rfl ?_
      exact s_X6_beginOf_28 hg h
    · have h := h.2 z
      refine e_iload_n (k := 6) (i := 1) rfl rfl 1 rfl ?_
      refine e_sipush (k := 7) (v := (400 : Int32)) rfl (by decide) ?_
      refine e_icmp_ge (k := 8) (tgt := 28) rfl (by decide) (fun z => ?_) (fun z => ?_)
      · have h := h.1 z
        refine e_sub (lv' := []) [] rfl ?_
        exact s_X6_beginOf_28 hg h
      · have h := h.2 z
        refine e_aload_n (k := 9) (i := 0) rfl rfl 0 rfl ?_
        refine e_getC (k := 10) rfl f_X6_19 rfl rfl ?_
        refine e_iload_n (k := 11) (i := 1) rfl rfl 1 rfl ?_
        refine e_lald (k := 12) rfl rfl h.1 ?_
        have h := h.2
        refine e_goto (k := 13) (tgt := 29) rfl (by decide) ?_
        refine e_sub (lv' := []) [] rfl ?_
        exact s_X6_beginOf_29 hg h
def il_X6_cell : List (Nat × Instr × Nat) := [(0, .iload_n 1, 1), (1, .ifCond .lt 42, 3), (4, .iload_n 1, 1), (5, .aload_n 0, 1), (6, .getfield 22, 3), (9, .if_icmp .ge 34, 3), (12, .iload_n 1, 1), (13, .sipush 400, 3), (16, .if_icmp .ge 27, 3), (19, .iload_n 2, 1), (20, .ifCond .lt 23, 3), (23, .iload_n 2, 1), (24, .bipush 19, 2), (26, .if_icmp .ge 17, 3), (29, .aload_n 0, 1), (30, .getfield 9, 3), (33, .iload_n 1, 1), (34, .bipush 19, 2), (36, .imul, 1), (37, .iload_n 2, 1), (38, .iadd, 1), (39, .iaload, 1), (40, .goto 4, 3), (43, .iconst 0, 1), (44, .ireturn, 1)]
set_option maxRecDepth 20000 in
theorem il_X6_cell_ok : ∀ x ∈ il_X6_cell, decode cX6_cell x.1 = .ok x.2 := by decide +kernel
abbrev me_X6_cell : Me := (RX6, il_X6_cell, 3, (some .int), xRoom 1, [])
def w_X6_cell_44 (n : Nat) (t0 : Int32) (u0 : Mm) (Q : Int32 → Mm → Prop) : Prop :=
  Q t0 u0
def w_X6_cell_43 (n : Nat) (u0 : Mm) (Q : Int32 → Mm → Prop) : Prop :=
  w_X6_cell_44 n (0 : Int32) u0 Q
def w_X6_cell (n : Nat) (a0 : Int32) (a1 : Int32) (u0 : Mm) (Q : Int32 → Mm → Prop) : Prop :=
  (a0 < 0 → w_X6_cell_43 n u0 Q) ∧
  (¬ a0 < 0 → ((u0.1 36 3) ≤ a0 → w_X6_cell_43 n u0 Q) ∧
  (¬ (u0.1 36 3) ≤ a0 → ((400 : Int32) ≤ a0 → w_X6_cell_43 n u0 Q) ∧
  (¬ (400 : Int32) ≤ a0 → (a1 < 0 → w_X6_cell_43 n u0 Q) ∧
  (¬ a1 < 0 → ((19 : Int32) ≤ a1 → w_X6_cell_43 n u0 Q) ∧
  (¬ (19 : Int32) ≤ a1 → vp_in ((a0 * (19 : Int32)) + a1) 7600 ∧ (w_X6_cell_44 n (u0.1 46 (ix ((a0 * (19 : Int32)) + a1))) u0 Q))))))
set_option maxRecDepth 20000 in
theorem s_X6_cell_44 {g : Gb} (hg : xInj g) {n : Nat} {Q : Int32 → Mm → Prop} {t0 : Int32} {u0 : Mm} (h : w_X6_cell_44 n t0 u0 Q) : xE g me_X6_cell (pI g Q noT) 44 [] [.int t0] u0 := by
  unfold w_X6_cell_44 at h
  exact e_iret (k := 24) rfl rfl (Or.inl ⟨_, rfl, h⟩)
set_option maxRecDepth 20000 in
theorem s_X6_cell_43 {g : Gb} (hg : xInj g) {n : Nat} {Q : Int32 → Mm → Prop} {u0 : Mm} (h : w_X6_cell_43 n  u0 Q) : xE g me_X6_cell (pI g Q noT) 43 [] [] u0 := by
  unfold w_X6_cell_43 at h
  refine e_iconst (k := 23) (v := (0 : Int32)) rfl (by decide) ?_
  exact s_X6_cell_44 hg h
set_option maxRecDepth 20000 in
theorem c_X6_cell {g : Gb} (hg : xInj g) {n : Nat} {a0 : Int32} {a1 : Int32} {u0 : Mm} {Q : Int32 → Mm → Prop} (h : w_X6_cell n a0 a1 u0 Q) : xMet (gL g) yX6_cell (xws yX6_cell cX6_cell 3 (some .int)) (xRoom 1) (xPc g [.ref (gR g 36), .int a0, .int a1] u0) (xQ g (pI g Q noT)) (xA g) := by
  refine xbody (il := il_X6_cell) hg il_X6_cell_ok m_X6_cell (Nat.le_of_ble_eq_true rfl) ?_
  show xE g me_X6_cell (pI g Q noT) 0 [(0, .ref (gR g 36)), (1, .int a0), (2, .int a1)] [] u0
  unfold w_X6_cell at h
  refine e_iload_n (k := 0) (i := 1) rfl rfl 1 rfl ?_
  refine e_if_lt (k := 1) (tgt := 43) rfl (by decide) (fun z => ?_) (fun z => ?_)
  · have h := h.1 z
    refine e_sub (lv' := []) [] rfl ?_
    exact s_X6_cell_43 hg h
  · have h := h.2 z
    refine e_iload_n (k := 2) (i := 1) rfl rfl 1 rfl ?_
    refine e_aload_n (k := 3) (i := 0) rfl rfl 0 rfl ?_
    refine e_getI (k := 4) rfl f_X6_22 rfl rfl ?_
    refine e_icmp_ge (k := 5) (tgt := 43) rfl (by decide) (fun z => ?_) (fun z => ?_)
    · have h := h.1 z
      refine e_sub (lv' := []) [] rfl ?_
      exact s_X6_cell_43 hg h
    · have h := h.2 z
      refine e_iload_n (k := 6) (i := 1) rfl rfl 1 rfl ?_
      refine e_sipush (k := 7) (v := (400 : Int32)) rfl (by decide) ?_
      refine e_icmp_ge (k := 8) (tgt := 43) rfl (by decide) (fun z => ?_) (fun z => ?_)
      · have h := h.1 z
        refine e_sub (lv' := []) [] rfl ?_
        exact s_X6_cell_43 hg h
      · have h := h.2 z
        refine e_iload_n (k := 9) (i := 2) rfl rfl 2 rfl ?_
        refine e_if_lt (k := 10) (tgt := 43) rfl (by decide) (fun z => ?_) (fun z => ?_)
        · have h := h.1 z
          refine e_sub (lv' := []) [] rfl ?_
          exact s_X6_cell_43 hg h
        · have h := h.2 z
          refine e_iload_n (k := 11) (i := 2) rfl rfl 2 rfl ?_
          refine e_bipush (k := 12) (v := (19 : Int32)) rfl (by decide) ?_
          refine e_icmp_ge (k := 13) (tgt := 43) rfl (by decide) (fun z => ?_) (fun z => ?_)
          · have h := h.1 z
            refine e_sub (lv' := []) [] rfl ?_
            exact s_X6_cell_43 hg h
          · have h := h.2 z
            refine e_aload_n (k := 14) (i := 0) rfl rfl 0 rfl ?_
            refine e_getC (k := 15) rfl f_X6_9 rfl rfl ?_
            refine e_iload_n (k := 16) (i := 1) rfl rfl 1 rfl ?_
            refine e_bipush (k := 17) (v := (19 : Int32)) rfl (by decide) ?_
            refine e_imul (k := 18) rfl ?_
            refine e_iload_n (k := 19) (i := 2) rfl rfl 2 rfl ?_
            refine e_iadd (k := 20) rfl ?_
            refine e_iald (k := 21) rfl rfl h.1 ?_
            have h := h.2
            refine e_goto (k := 22) (tgt := 44) rfl (by decide) ?_
            refine e_sub (lv' := []) [] rfl ?_
            exact s_X6_cell_44 hg h
