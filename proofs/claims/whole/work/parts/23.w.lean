/-! methods (by program) -/
def il_X6_put : List (Nat × Instr × Nat) := [(0, .iload_n 1, 1), (1, .ifCond .lt 40, 3), (4, .iload_n 1, 1), (5, .aload_n 0, 1), (6, .getfield 22, 3), (9, .if_icmp .ge 32, 3), (12, .iload_n 1, 1), (13, .sipush 400, 3), (16, .if_icmp .ge 25, 3), (19, .iload_n 2, 1), (20, .ifCond .lt 21, 3), (23, .iload_n 2, 1), (24, .bipush 19, 2), (26, .if_icmp .ge 15, 3), (29, .aload_n 0, 1), (30, .getfield 9, 3), (33, .iload_n 1, 1), (34, .bipush 19, 2), (36, .imul, 1), (37, .iload_n 2, 1), (38, .iadd, 1), (39, .iload_n 3, 1), (40, .iastore, 1), (41, .return_, 1)]
set_option maxRecDepth 20000 in
theorem il_X6_put_ok : ∀ x ∈ il_X6_put, decode cX6_put x.1 = .ok x.2 := by decide +kernel
abbrev me_X6_put : Me := (RX6, il_X6_put, 4, none, xRoom 1, [])
def w_X6_put_41 (n : Nat) (u0 : Mm) (Q : Mm → Prop) : Prop :=
  Q u0
def w_X6_put (n : Nat) (a0 : Int32) (a1 : Int32) (a2 : Int32) (u0 : Mm) (Q : Mm → Prop) : Prop :=
  (a0 < 0 → w_X6_put_41 n u0 Q) ∧
  (¬ a0 < 0 → ((u0.1 36 3) ≤ a0 → w_X6_put_41 n u0 Q) ∧
  (¬ (u0.1 36 3) ≤ a0 → ((400 : Int32) ≤ a0 → w_X6_put_41 n u0 Q) ∧
  (¬ (400 : Int32) ≤ a0 → (a1 < 0 → w_X6_put_41 n u0 Q) ∧
  (¬ a1 < 0 → ((19 : Int32) ≤ a1 → w_X6_put_41 n u0 Q) ∧
  (¬ (19 : Int32) ≤ a1 → vp_in ((a0 * (19 : Int32)) + a1) 7600 ∧ (mlet (setI u0 46 (ix ((a0 * (19 : Int32)) + a1)) a2) fun u1 =>
  w_X6_put_41 n u1 Q))))))
set_option maxRecDepth 20000 in
theorem s_X6_put_41 {g : Gb} (hg : xInj g) {n : Nat} {Q : Mm → Prop} {u0 : Mm} (h : w_X6_put_41 n  u0 Q) : xE g me_X6_put (pV g Q noT) 41 [] [] u0 := by
  unfold w_X6_put_41 at h
  exact e_vret (k := 23) rfl rfl (Or.inl ⟨rfl, h⟩)
set_option maxRecDepth 20000 in
theorem c_X6_put {g : Gb} (hg : xInj g) {n : Nat} {a0 : Int32} {a1 : Int32} {a2 : Int32} {u0 : Mm} {Q : Mm → Prop} (h : w_X6_put n a0 a1 a2 u0 Q) : xMet (gL g) yX6_put (xws yX6_put cX6_put 4 none) (xRoom 1) (xPc g [.ref (gR g 36), .int a0, .int a1, .int a2] u0) (xQ g (pV g Q noT)) (xA g) := by
  refine xbody (il := il_X6_put) hg il_X6_put_ok m_X6_put (Nat.le_of_ble_eq_true rfl) ?_
  show xE g me_X6_put (pV g Q noT) 0 [(0, .ref (gR g 36)), (1, .int a0), (2, .int a1), (3, .int a2)] [] u0
  unfold w_X6_put at h
  refine e_iload_n (k := 0) (i := 1) rfl rfl 1 rfl ?_
  refine e_if_lt (k := 1) (tgt := 41) rfl (by decide) (fun z => ?_) (fun z => ?_)
  · have h := h.1 z
    refine e_sub (lv' := []) [] rfl ?_
    exact s_X6_put_41 hg h
  · have h := h.2 z
    refine e_iload_n (k := 2) (i := 1) rfl rfl 1 rfl ?_
    refine e_aload_n (k := 3) (i := 0) rfl rfl 0 rfl ?_
    refine e_getI (k := 4) rfl f_X6_22 rfl rfl ?_
    refine e_icmp_ge (k := 5) (tgt := 41) rfl (by decide) (fun z => ?_) (fun z => ?_)
    · have h := h.1 z
      refine e_sub (lv' := []) [] rfl ?_
      exact s_X6_put_41 hg h
    · have h := h.2 z
      refine e_iload_n (k := 6) (i := 1) rfl rfl 1 rfl ?_
      refine e_sipush (k := 7) (v := (400 : Int32)) rfl (by decide) ?_
      refine e_icmp_ge (k := 8) (tgt := 41) rfl (by decide) (fun z => ?_) (fun z => ?_)
      · have h := h.1 z
        refine e_sub (lv' := []) [] rfl ?_
        exact s_X6_put_41 hg h
      · have h := h.2 z
        refine e_iload_n (k := 9) (i := 2) rfl rfl 2 rfl ?_
        refine e_if_lt (k := 10) (tgt := 41) rfl (by decide) (fun z => ?_) (fun z => ?_)
        · have h := h.1 z
          refine e_sub (lv' := []) [] rfl ?_
          exact s_X6_put_41 hg h
        · have h := h.2 z
          refine e_iload_n (k := 11) (i := 2) rfl rfl 2 rfl ?_
          refine e_bipush (k := 12) (v := (19 : Int32)) rfl (by decide) ?_
          refine e_icmp_ge (k := 13) (tgt := 41) rfl (by decide) (fun z => ?_) (fun z => ?_)
          · have h := h.1 z
            refine e_sub (lv' := []) [] rfl ?_
            exact s_X6_put_41 hg h
          · have h := h.2 z
            refine e_aload_n (k := 14) (i := 0) rfl rfl 0 rfl ?_
            refine e_getC (k := 15) rfl f_X6_9 rfl rfl ?_
            refine e_iload_n (k := 16) (i := 1) rfl rfl 1 rfl ?_
            refine e_bipush (k := 17) (v := (19 : Int32)) rfl (by decide) ?_
            refine e_imul (k := 18) rfl ?_
            refine e_iload_n (k := 19) (i := 2) rfl rfl 2 rfl ?_
            refine e_iadd (k := 20) rfl ?_
            refine e_iload_n (k := 21) (i := 3) rfl rfl 3 rfl ?_
            refine e_iast (k := 22) rfl rfl h.1 ?_
            have h := h.2
            refine e_mlet h (fun u1 h => ?_)
            refine e_sub (lv' := []) [] rfl ?_
            exact s_X6_put_41 hg h
def il_X6_setBegin : List (Nat × Instr × Nat) := [(0, .iload_n 1, 1), (1, .ifCond .lt 25, 3), (4, .iload_n 1, 1), (5, .aload_n 0, 1), (6, .getfield 22, 3), (9, .if_icmp .ge 17, 3), (12, .iload_n 1, 1), (13, .sipush 400, 3), (16, .if_icmp .ge 10, 3), (19, .aload_n 0, 1), (20, .getfield 19, 3), (23, .iload_n 1, 1), (24, .lload_n 2, 1), (25, .lastore, 1), (26, .return_, 1)]
set_option maxRecDepth 20000 in
theorem il_X6_setBegin_ok : ∀ x ∈ il_X6_setBegin, decode cX6_setBegin x.1 = .ok x.2 := by decide +kernel
abbrev me_X6_setBegin : Me := (RX6, il_X6_setBegin, 4, none, xRoom 1, [])
def w_X6_setBegin_26 (n : Nat) (u0 : Mm) (Q : Mm → Prop) : Prop :=
  Q u0
def w_X6_setBegin (n : Nat) (a0 : Int32) (a1 : Int64) (u0 : Mm) (Q : Mm → Prop) : Prop :=
  (a0 < 0 → w_X6_setBegin_26 n u0 Q) ∧
  (¬ a0 < 0 → ((u0.1 36 3) ≤ a0 → w_X6_setBegin_26 n u0 Q) ∧
  (¬ (u0.1 36 3) ≤ a0 → ((400 : Int32) ≤ a0 → w_X6_setBegin_26 n u0 Q) ∧
  (¬ (400 : Int32) ≤ a0 → vp_in a0 400 ∧ (mlet (setJ u0 48 (ix a0) a1) fun u1 =>
  w_X6_setBegin_26 n u1 Q))))
set_option maxRecDepth 20000 in
theorem s_X6_setBegin_26 {g : Gb} (hg : xInj g) {n : Nat} {Q : Mm → Prop} {u0 : Mm} (h : w_X6_setBegin_26 n  u0 Q) : xE g me_X6_setBegin (pV g Q noT) 26 [] [] u0 := by
  unfold w_X6_setBegin_26 at h
  exact e_vret (k := 14) rfl rfl (Or.inl ⟨rfl, h⟩)
set_option maxRecDepth 20000 in
theorem c_X6_setBegin {g : Gb} (hg : xInj g) {n : Nat} {a0 : Int32} {a1 : Int64} {u0 : Mm} {Q : Mm → Prop} (h : w_X6_setBegin n a0 a1 u0 Q) : xMet (gL g) yX6_setBegin (xws yX6_setBegin cX6_setBegin 4 none) (xRoom 1) (xPc g [.ref (gR g 36), .int a0, .long a1] u0) (xQ g (pV g Q noT)) (xA g) := by
  refine xbody (il := il_X6_setBegin) hg il_X6_setBegin_ok m_X6_setBegin (Nat.le_of_ble_eq_true rfl) ?_
  show xE g me_X6_setBegin (pV g Q noT) 0 [(0, .ref (gR g 36)), (1, .int a0), (2, .long a1)] [] u0
  unfold w_X6_setBegin at h
  refine e_iload_n (k := 0) (i := 1) rfl rfl 1 rfl ?_
  refine e_if_lt (k := 1) (tgt := 26) rfl (by decide) (fun z => ?_) (fun z => ?_)
  · have h := h.1 z
    refine e_sub (lv' := []) [] rfl ?_
    exact s_X6_setBegin_26 hg h
  · have h := h.2 z
    refine e_iload_n (k := 2) (i := 1) rfl rfl 1 rfl ?_
    refine e_aload_n (k := 3) (i := 0) rfl rfl 0 rfl ?_
    refine e_getI (k := 4) rfl f_X6_22 rfl rfl ?_
    refine e_icmp_ge (k := 5) (tgt := 26) rfl (by decide) (fun z => ?_) (fun z => ?_)
    · have h := h.1 z
      refine e_sub (lv' := []) [] rfl ?_
      exact s_X6_setBegin_26 hg h
    · have h := h.2 z
      refine e_iload_n (k := 6) (i := 1) rfl rfl 1 rfl ?_
      refine e_sipush (k := 7) (v := (400 : Int32)) rfl (by decide) ?_
      refine e_icmp_ge (k := 8) (tgt := 26) rfl (by decide) (fun z => ?_) (fun z => ?_)
      · have h := h.1 z
        refine e_sub (lv' := []) [] rfl ?_
        exact s_X6_setBegin_26 hg h
      · have h := h.2 z
        refine e_aload_n (k := 9) (i := 0) rfl rfl 0 rfl ?_
        refine e_getC (k := 10) rfl f_X6_19 rfl rfl ?_
        refine e_iload_n (k := 11) (i := 1) rfl rfl 1 rfl ?_
        refine e_lload_n (k := 12) (i := 2) rfl rfl 2 rfl ?_
        refine e_last (k := 13) rfl rfl h.1 ?_
        have h := h.2
        refine e_mlet h (fun u1 h => ?_)
        refine e_sub (lv' := []) [] rfl ?_
        exact s_X6_setBegin_26 hg h
def il_X6_setTicks : List (Nat × Instr × Nat) := [(0, .iload_n 1, 1), (1, .ifCond .lt 25, 3), (4, .iload_n 1, 1), (5, .aload_n 0, 1), (6, .getfield 22, 3), (9, .if_icmp .ge 17, 3), (12, .iload_n 1, 1), (13, .sipush 400, 3), (16, .if_icmp .ge 10, 3), (19, .aload_n 0, 1), (20, .getfield 15, 3), (23, .iload_n 1, 1), (24, .lload_n 2, 1), (25, .lastore, 1), (26, .return_, 1)]
set_option maxRecDepth 20000 in
theorem il_X6_setTicks_ok : ∀ x ∈ il_X6_setTicks, decode cX6_setTicks x.1 = .ok x.2 := by decide +kernel
abbrev me_X6_setTicks : Me := (RX6, il_X6_setTicks, 4, none, xRoom 1, [])
def w_X6_setTicks_26 (n : Nat) (u0 : Mm) (Q : Mm → Prop) : Prop :=
  Q u0
def w_X6_setTicks (n : Nat) (a0 : Int32) (a1 : Int64) (u0 : Mm) (Q : Mm → Prop) : Prop :=
  (a0 < 0 → w_X6_setTicks_26 n u0 Q) ∧
  (¬ a0 < 0 → ((u0.1 36 3) ≤ a0 → w_X6_setTicks_26 n u0 Q) ∧
  (¬ (u0.1 36 3) ≤ a0 → ((400 : Int32) ≤ a0 → w_X6_setTicks_26 n u0 Q) ∧
  (¬ (400 : Int32) ≤ a0 → vp_in a0 400 ∧ (mlet (setJ u0 47 (ix a0) a1) fun u1 =>
  w_X6_setTicks_26 n u1 Q))))
set_option maxRecDepth 20000 in
theorem s_X6_setTicks_26 {g : Gb} (hg : xInj g) {n : Nat} {Q : Mm → Prop} {u0 : Mm} (h : w_X6_setTicks_26 n  u0 Q) : xE g me_X6_setTicks (pV g Q noT) 26 [] [] u0 := by
  unfold w_X6_setTicks_26 at h
  exact e_vret (k := 14) rfl rfl (Or.inl ⟨rfl, h⟩)
set_option maxRecDepth 20000 in
theorem c_X6_setTicks {g : Gb} (hg : xInj g) {n : Nat} {a0 : Int32} {a1 : Int64} {u0 : Mm} {Q : Mm → Prop} (h : w_X6_setTicks n a0 a1 u0 Q) : xMet (gL g) yX6_setTicks (xws yX6_setTicks cX6_setTicks 4 none) (xRoom 1) (xPc g [.ref (gR g 36), .int a0, .long a1] u0) (xQ g (pV g Q noT)) (xA g) := by
  refine xbody (il := il_X6_setTicks) hg il_X6_setTicks_ok m_X6_setTicks (Nat.le_of_ble_eq_true rfl) ?_
  show xE g me_X6_setTicks (pV g Q noT) 0 [(0, .ref (gR g 36)), (1, .int a0), (2, .long a1)] [] u0
  unfold w_X6_setTicks at h
  refine e_iload_n (k := 0) (i := 1) rfl rfl 1 rfl ?_
  refine e_if_lt (k := 1) (tgt := 26) rfl (by decide) (fun z => ?_) (fun z => ?_)
  · have h := h.1 z
    refine e_sub (lv' := []) [] rfl ?_
    exact s_X6_setTicks_26 hg h
  · have h := h.2 z
    refine e_iload_n (k := 2) (i := 1) rfl rfl 1 rfl ?_
    refine e_aload_n (k := 3) (i := 0) rfl rfl 0 rfl ?_
    refine e_getI (k := 4) rfl f_X6_22 rfl rfl ?_
    refine e_icmp_ge (k := 5) (tgt := 26) rfl (by decide) (fun z => ?_) (fun z => ?_)
    · have h := h.1 z
      refine e_sub (lv' := []) [] rfl ?_
      exact s_X6_setTicks_26 hg h
    · have h := h.2 z
      refine e_iload_n (k := 6) (i := 1) rfl rfl 1 rfl ?_
      refine e_sipush (k := 7) (v := (400 : Int32)) rfl (by decide) ?_
      refine e_icmp_ge (k := 8) (tgt := 26) rfl (by decide) (fun z => ?_) (fun z => ?_)
      · have h := h.1 z
        refine e_sub (lv' := []) [] rfl ?_
        exact s_X6_setTicks_26 hg h
      · have h := h.2 z
        refine e_aload_n (k := 9) (i := 0) rfl rfl 0 rfl ?_
        refine e_getC (k := 10) rfl f_X6_15 rfl rfl ?_
        refine e_iload_n (k := 11) (i := 1) rfl rfl 1 rfl ?_
        refine e_lload_n (k := 12) (i := 2) rfl rfl 2 rfl ?_
        refine e_last (k := 13) rfl rfl h.1 ?_
        have h := h.2
        refine e_mlet h (fun u1 h => ?_)
        refine e_sub (lv' := []) [] rfl ?_
        exact s_X6_setTicks_26 hg h
def il_X6_ticksOf : List (Nat × Instr × Nat) := [(0, .iload_n 1, 1), (1, .ifCond .lt 27, 3), (4, .iload_n 1, 1), (5, .aload_n 0, 1), (6, .getfield 22, 3), (9, .if_icmp .ge 19, 3), (12, .iload_n 1, 1), (13, .sipush 400, 3), (16, .if_icmp .ge 12, 3), (19, .aload_n 0, 1), (20, .getfield 15, 3), (23, .iload_n 1, 1), (24, .laload, 1), (25, .goto 4, 3), (28, .lconst 0, 1), (29, .lreturn, 1)]
set_option maxRecDepth 20000 in
theorem il_X6_ticksOf_ok : ∀ x ∈ il_X6_ticksOf, decode cX6_ticksOf x.1 = .ok x.2 := by decide +kernel
abbrev me_X6_ticksOf : Me := (RX6, il_X6_ticksOf, 2, (some .long), xRoom 1, [])
def w_X6_ticksOf_29 (n : Nat) (t0 : Int64) (u0 : Mm) (Q : Int64 → Mm → Prop) : Prop :=
  Q t0 u0
def w_X6_ticksOf_28 (n : Nat) (u0 : Mm) (Q : Int64 → Mm → Prop) : Prop :=
  w_X6_ticksOf_29 n (0 : Int64) u0 Q
def w_X6_ticksOf (n : Nat) (a0 : Int32) (u0 : Mm) (Q : Int64 → Mm → Prop) : Prop :=
  (a0 < 0 → w_X6_ticksOf_28 n u0 Q) ∧
  (¬ a0 < 0 → ((u0.1 36 3) ≤ a0 → w_X6_ticksOf_28 n u0 Q) ∧
  (¬ (u0.1 36 3) ≤ a0 → ((400 : Int32) ≤ a0 → w_X6_ticksOf_28 n u0 Q) ∧
  (¬ (400 : Int32) ≤ a0 → vp_in a0 400 ∧ (w_X6_ticksOf_29 n (u0.2.1 47 (ix a0)) u0 Q))))
set_option maxRecDepth 20000 in
theorem s_X6_ticksOf_29 {g : Gb} (hg : xInj g) {n : Nat} {Q : Int64 → Mm → Prop} {t0 : Int64} {u0 : Mm} (h : w_X6_ticksOf_29 n t0 u0 Q) : xE g me_X6_ticksOf (pL g Q noT) 29 [] [.long t0] u0 := by
  unfold w_X6_ticksOf_29 at h
  exact e_lret (k := 15) rfl rfl (Or.inl ⟨_, rfl, h⟩)
set_option maxRecDepth 20000 in
theorem s_X6_ticksOf_28 {g : Gb} (hg : xInj g) {n : Nat} {Q : Int64 → Mm → Prop} {u0 : Mm} (h : w_X6_ticksOf_28 n  u0 Q) : xE g me_X6_ticksOf (pL g Q noT) 28 [] [] u0 := by
  unfold w_X6_ticksOf_28 at h
  refine e_lconst (k := 14) (v := (0 : Int64)) rfl (by decide) ?_
  exact s_X6_ticksOf_29 hg h
set_option maxRecDepth 20000 in
theorem c_X6_ticksOf {g : Gb} (hg : xInj g) {n : Nat} {a0 : Int32} {u0 : Mm} {Q : Int64 → Mm → Prop} (h : w_X6_ticksOf n a0 u0 Q) : xMet (gL g) yX6_ticksOf (xws yX6_ticksOf cX6_ticksOf 2 (some .long)) (xRoom 1) (xPc g [.ref (gR g 36), .int a0] u0) (xQ g (pL g Q noT)) (xA g) := by
  refine xbody (il := il_X6_ticksOf) hg il_X6_ticksOf_ok m_X6_ticksOf (Nat.le_of_ble_eq_true rfl) ?_
  show xE g me_X6_ticksOf (pL g Q noT) 0 [(0, .ref (gR g 36)), (1, .int a0)] [] u0
  unfold w_X6_ticksOf at h
  refine e_iload_n (k := 0) (i := 1) rfl rfl 1 rfl ?_
  refine e_if_lt (k := 1) (tgt := 28) rfl (by decide) (fun z => ?_) (fun z => ?_)
  · have h := h.1 z
    refine e_sub (lv' := []) [] rfl ?_
    exact s_X6_ticksOf_28 hg h
  · have h := h.2 z
    refine e_iload_n (k := 2) (i := 1) rfl rfl 1 rfl ?_
    refine e_aload_n (k := 3) (i := 0) rfl rfl 0 rfl ?_
    refine e_getI (k := 4) rfl f_X6_22 rfl rfl ?_
    refine e_icmp_ge (k := 5) (tgt := 28) rfl (by decide) (fun z => ?_) (fun z => ?_)
    · have h := h.1 z
      refine e_sub (lv' := []) [] rfl ?_
      exact s_X6_ticksOf_28 hg h
    · have h := h.2 z
      refine e_iload_n (k := 6) (i := 1) rfl rfl 1 rfl ?_
      refine e_sipush (k := 7) (v := (400 : Int32)) rfl (by decide) ?_
      refine e_icmp_ge (k := 8) (tgt := 28) rfl (by decide) (fun z => ?_) (fun z => ?_)
      · have h := h.1 z
        refine e_sub (lv' := []) [] rfl ?_
        exact s_X6_ticksOf_28 hg h
      · have h := h.2 z
        refine e_aload_n (k := 9) (i := 0) rfl rfl 0 rfl ?_
        refine e_getC (k := 10) rfl f_X6_15 rfl rfl ?_
        refine e_iload_n (k := 11) (i := 1) rfl rfl 1 rfl ?_
        refine e_lald (k := 12) rfl rfl h.1 ?_
        have h := h.2
        refine e_goto (k := 13) (tgt := 29) rfl (by decide) ?_
        refine e_sub (lv' := []) [] rfl ?_
        exact s_X6_ticksOf_29 hg h
def il_X7_addTitle : List (Nat × Instr × Nat) := [(0, .aload_n 0, 1), (1, .getfield 45, 3), (4, .ifCond .lt 41, 3), (7, .aload_n 0, 1), (8, .getfield 45, 3), (11, .iconst 3, 1), (12, .if_icmp .ge 33, 3), (15, .aload_n 0, 1), (16, .getfield 19, 3), (19, .aload_n 0, 1), (20, .getfield 45, 3), (23, .iload_n 1, 1), (24, .iastore, 1), (25, .aload_n 0, 1), (26, .getfield 22, 3), (29, .aload_n 0, 1), (30, .getfield 45, 3), (33, .iload_n 2, 1), (34, .iastore, 1), (35, .aload_n 0, 1), (36, .dup, 1), (37, .getfield 45, 3), (40, .iconst 1, 1), (41, .iadd, 1), (42, .putfield 45, 3), (45, .return_, 1)]
set_option maxRecDepth 20000 in
theorem il_X7_addTitle_ok : ∀ x ∈ il_X7_addTitle, decode cX7_addTitle x.1 = .ok x.2 := by decide +kernel
abbrev me_X7_addTitle : Me := (RX7, il_X7_addTitle, 3, none, xRoom 1, [])
def w_X7_addTitle_45 (n : Nat) (u0 : Mm) (Q : Mm → Prop) : Prop :=
  Q u0
def w_X7_addTitle (n : Nat) (a0 : Int32) (a1 : Int32) (u0 : Mm) (Q : Mm → Prop) : Prop :=
  ((u0.1 35 8) < 0 → w_X7_addTitle_45 n u0 Q) ∧
  (¬ (u0.1 35 8) < 0 → ((3 : Int32) ≤ (u0.1 35 8) → w_X7_addTitle_45 n u0 Q) ∧
  (¬ (3 : Int32) ≤ (u0.1 35 8) → vp_in (u0.1 35 8) 3 ∧ (mlet (setI u0 44 (ix (u0.1 35 8)) a0) fun u1 =>
  vp_in (u1.1 35 8) 3 ∧ (mlet (setI u1 45 (ix (u1.1 35 8)) a1) fun u2 =>
  mlet (setI u2 35 8 ((u2.1 35 8) + (1 : Int32))) fun u3 =>
  w_X7_addTitle_45 n u3 Q))))
set_option maxRecDepth 20000 in
theorem s_X7_addTitle_45 {g : Gb} (hg : xInj g) {n : Nat} {Q : Mm → Prop} {u0 : Mm} (h : w_X7_addTitle_45 n  u0 Q) : xE g me_X7_addTitle (pV g Q noT) 45 [] [] u0 := by
  unfold w_X7_addTitle_45 at h
  exact e_vret (k := 25) rfl rfl (Or.inl ⟨rfl, h⟩)
set_option maxRecDepth 20000 in
theorem c_X7_addTitle {g : Gb} (hg : xInj g) {n : Nat} {a0 : Int32} {a1 : Int32} {u0 : Mm} {Q : Mm → Prop} (h : w_X7_addTitle n a0 a1 u0 Q) : xMet (gL g) yX7_addTitle (xws yX7_addTitle cX7_addTitle 3 none) (xRoom 1) (xPc g [.ref (gR g 35), .int a0, .int a1] u0) (xQ g (pV g Q noT)) (xA g) := by
  refine xbody (il := il_X7_addTitle) hg il_X7_addTitle_ok m_X7_addTitle (Nat.le_of_ble_eq_true rfl) ?_
  show xE g me_X7_addTitle (pV g Q noT) 0 [(0, .ref (gR g 35)), (1, .int a0), (2, .int a1)] [] u0
  unfold w_X7_addTitle at h
  refine e_aload_n (k := 0) (i := 0) rfl rfl 0 rfl ?_
  refine e_getI (k := 1) rfl f_X7_45 rfl rfl ?_
  refine e_if_lt (k := 2) (tgt := 45) rfl (by decide) (fun z => ?_) (fun z => ?_)
  · have h := h.1 z
    refine e_sub (lv' := []) [] rfl ?_
    exact s_X7_addTitle_45 hg h
  · have h := h.2 z
    refine e_aload_n (k := 3) (i := 0) rfl rfl 0 rfl ?_
    refine e_getI (k := 4) rfl f_X7_45 rfl rfl ?_
    refine e_iconst (k := 5) (v := (3 : Int32)) rfl (by decide) ?_
    refine e_icmp_ge (k := 6) (tgt := 45) rfl (by decide) (fun z => ?_) (fun z => ?_)
    · have h := h.1 z
      refine e_sub (lv' := []) [] rfl ?_
      exact s_X7_addTitle_45 hg h
    · have h := h.2 z
      refine e_aload_n (k := 7) (i := 0) rfl rfl 0 rfl ?_
      refine e_getC (k := 8) rfl f_X7_19 rfl rfl ?_
      refine e_aload_n (k := 9) (i := 0) rfl rfl 0 rfl ?_
      refine e_getI (k := 10) rfl f_X7_45 rfl rfl ?_
      refine e_iload_n (k := 11) (i := 1) rfl rfl 1 rfl ?_
      refine e_iast (k := 12) rfl rfl h.1 ?_
      have h := h.2
      refine e_mlet h (fun u1 h => ?_)
      refine e_aload_n (k := 13) (i := 0) rfl rfl 0 rfl ?_
      refine e_getC (k := 14) rfl f_X7_22 rfl rfl ?_
      refine e_aload_n (k := 15) (i := 0) rfl rfl 0 rfl ?_
      refine e_getI (k := 16) rfl f_X7_45 rfl rfl ?_
      refine e_iload_n (k := 17) (i := 2) rfl rfl 2 rfl ?_
      refine e_iast (k := 18) rfl rfl h.1 ?_
      have h := h.2
      refine e_mlet h (fun u2 h => ?_)
      refine e_aload_n (k := 19) (i := 0) rfl rfl 0 rfl ?_
      refine e_dup (k := 20) rfl rfl ?_
      refine e_getI (k := 21) rfl f_X7_45 rfl rfl ?_
      refine e_iconst (k := 22) (v := (1 : Int32)) rfl (by decide) ?_
      refine e_iadd (k := 23) rfl ?_
      refine e_putI (k := 24) rfl fg_X7_45 rfl rfl ?_
      refine e_mlet h (fun u3 h => ?_)
      refine e_sub (lv' := []) [] rfl ?_
      exact s_X7_addTitle_45 hg h
def il_X7_clear : List (Nat × Instr × Nat) := [(0, .iconst 0, 1), (1, .istore_n 1, 1), (2, .iload_n 1, 1), (3, .bipush 10, 2), (5, .if_icmp .ge 16, 3), (8, .aload_n 0, 1), (9, .getfield 15, 3), (12, .iload_n 1, 1), (13, .iconst 0, 1), (14, .iastore, 1), (15, .iinc 1 1, 3), (18, .goto (-16), 3), (21, .iconst 0, 1), (22, .istore_n 1, 1), (23, .iload_n 1, 1), (24, .aload_n 0, 1), (25, .getfield 39, 3), (28, .arraylength, 1), (29, .if_icmp .ge 16, 3), (32, .aload_n 0, 1), (33, .getfield 39, 3), (36, .iload_n 1, 1), (37, .iconst 0, 1), (38, .iastore, 1), (39, .iinc 1 1, 3), (42, .goto (-19), 3), (45, .aload_n 0, 1), (46, .iconst 0, 1), (47, .putfield 45, 3), (50, .aload_n 0, 1), (51, .iconst 0, 1), (52, .putfield 48, 3), (55, .aload_n 0, 1), (56, .getfield 28, 3), (59, .iconst 0, 1), (60, .putfield 51, 3), (63, .return_, 1)]
set_option maxRecDepth 20000 in
theorem il_X7_clear_ok : ∀ x ∈ il_X7_clear, decode cX7_clear x.1 = .ok x.2 := by decide +kernel
abbrev me_X7_clear : Me := (RX7, il_X7_clear, 2, none, xRoom 1, [])
def w_X7_clear_23 (n : Nat) (Q : Mm → Prop) : Nat → Int32 → Mm → Prop
  | 0, _, _ => False
  | k + 1, x1, u0 =>
  ((301 : Int32) ≤ x1 → mlet (setI u0 35 8 (0 : Int32)) fun u1 =>
  mlet (setI u1 35 9 (0 : Int32)) fun u2 =>
  mlet (setI u2 36 3 (0 : Int32)) fun u3 =>
  Q u3) ∧
  (¬ (301 : Int32) ≤ x1 → vp_in x1 301 ∧ (mlet (setI u0 62 (ix x1) (0 : Int32)) fun u4 =>
  (w_X7_clear_23 n Q k) (x1 + (1 : Int32)) u4))
def w_X7_clear_2 (n : Nat) (Q : Mm → Prop) : Nat → Int32 → Mm → Prop
  | 0, _, _ => False
  | k + 1, x1, u0 =>
  ((10 : Int32) ≤ x1 → (w_X7_clear_23 n Q n) (0 : Int32) u0) ∧
  (¬ (10 : Int32) ≤ x1 → vp_in x1 10 ∧ (mlet (setI u0 43 (ix x1) (0 : Int32)) fun u1 =>
  (w_X7_clear_2 n Q k) (x1 + (1 : Int32)) u1))
def w_X7_clear (n : Nat) (u0 : Mm) (Q : Mm → Prop) : Prop :=
  (w_X7_clear_2 n Q n) (0 : Int32) u0
set_option maxRecDepth 20000 in
theorem s_X7_clear_23 {g : Gb} (hg : xInj g) {n : Nat} {Q : Mm → Prop} : ∀ (k : Nat) (x1 : Int32) (u0 : Mm), w_X7_clear_23 n Q k x1 u0 → xE g me_X7_clear (pV g Q noT) 23 [(0, .ref (gR g 35)), (1, .int x1)] [] u0 := by
  intro k
  induction k with
  | zero => intro x1 u0 h; exact h.elim
  | succ k ih =>
    intro x1 u0 h
    unfold w_X7_clear_23 at h
    refine e_iload_n (k := 14) (i := 1) rfl rfl 1 rfl ?_
    refine e_aload_n (k := 15) (i := 0) rfl rfl 0 rfl ?_
    refine e_getC (k := 16) rfl f_X7_39 rfl rfl ?_
    refine e_alen (k := 17) (v := (301 : Int32)) rfl rfl (by decide) (by decide) ?_
    refine e_icmp_ge (k := 18) (tgt := 45) rfl (by decide) (fun z => ?_) (fun z => ?_)
    · have h := h.1 z
      refine e_aload_n (k := 26) (i := 0) rfl rfl 0 rfl ?_
      refine e_iconst (k := 27) (v := (0 : Int32)) rfl (by decide) ?_
      refine e_putI (k := 28) rfl fg_X7_45 rfl rfl ?_
      refine e_mlet h (fun u1 h => ?_)
      refine e_aload_n (k := 29) (i := 0) rfl rfl 0 rfl ?_
      refine e_iconst (k := 30) (v := (0 : Int32)) rfl (by decide) ?_
      refine e_putI (k := 31) rfl fg_X7_48 rfl rfl ?_
      refine e_mlet h (fun u2 h => ?_)
      refine e_aload_n (k := 32) (i := 0) rfl rfl 0 rfl ?_
      refine e_getC (k := 33) rfl f_X7_28 rfl rfl ?_
      refine e_iconst (k := 34) (v := (0 : Int32)) rfl (by decide) ?_
      refine e_putI (k := 35) rfl fg_X7_51 rfl rfl ?_
      refine e_mlet h (fun u3 h => ?_)
      exact e_vret (k := 36) rfl rfl (Or.inl ⟨rfl, h⟩)
    · have h := h.2 z
      refine e_aload_n (k := 19) (i := 0) rfl rfl 0 rfl ?_
      refine e_getC (k := 20) rfl f_X7_39 rfl rfl ?_
      refine e_iload_n (k := 21) (i := 1) rfl rfl 1 rfl ?_
      refine e_iconst (k := 22) (v := (0 : Int32)) rfl (by decide) ?_
      refine e_iast (k := 23) rfl rfl h.1 ?_
      have h := h.2
      refine e_mlet h (fun u4 h => ?_)
      refine e_iinc (k := 24) (i := 1) (j := 1) (v := (x1 + (1 : Int32))) (lv' := [(0, .ref (gR g 35)), (1, .int (x1 + (1 : Int32)))]) rfl rfl rfl (by decide) [1, 0] rfl ?_
      refine e_goto (k := 25) (tgt := 23) rfl (by decide) ?_
      exact ih (x1 + (1 : Int32)) u4 h
set_option maxRecDepth 20000 in
theorem s_X7_clear_2 {g : Gb} (hg : xInj g) {n : Nat} {Q : Mm → Prop} : ∀ (k : Nat) (x1 : Int32) (u0 : Mm), w_X7_clear_2 n Q k x1 u0 → xE g me_X7_clear (pV g Q noT) 2 [(0, .ref (gR g 35)), (1, .int x1)] [] u0 := by
  intro k
  induction k with
  | zero => intro x1 u0 h; exact h.elim
  | succ k ih =>
    intro x1 u0 h
    unfold w_X7_clear_2 at h
    refine e_iload_n (k := 2) (i := 1) rfl rfl 1 rfl ?_
    refine e_bipush (k := 3) (v := (10 : Int32)) rfl (by decide) ?_
    refine e_icmp_ge (k := 4) (tgt := 21) rfl (by decide) (fun z => ?_) (fun z => ?_)
    · have h := h.1 z
      refine e_iconst (k := 12) (v := (0 : Int32)) rfl (by decide) ?_
      refine e_istore_n (k := 13) (i := 1) (lv' := [(0, .ref (gR g 35)), (1, .int (0 : Int32))]) rfl rfl (by decide) [1, 0] rfl ?_
      exact s_X7_clear_23 hg n (0 : Int32) u0 h
    · have h := h.2 z
      refine e_aload_n (k := 5) (i := 0) rfl rfl 0 rfl ?_
      refine e_getC (k := 6) rfl f_X7_15 rfl rfl ?_
      refine e_iload_n (k := 7) (i := 1) rfl rfl 1 rfl ?_
      refine e_iconst (k := 8) (v := (0 : Int32)) rfl (by decide) ?_
      refine e_iast (k := 9) rfl rfl h.1 ?_
      have h := h.2
      refine e_mlet h (fun u1 h => ?_)
      refine e_iinc (k := 10) (i := 1) (j := 1) (v := (x1 + (1 : Int32))) (lv' := [(0, .ref (gR g 35)), (1, .int (x1 + (1 : Int32)))]) rfl rfl rfl (by decide) [1, 0] rfl ?_
      refine e_goto (k := 11) (tgt := 2) rfl (by decide) ?_
      exact ih (x1 + (1 : Int32)) u1 h
set_option maxRecDepth 20000 in
theorem c_X7_clear {g : Gb} (hg : xInj g) {n : Nat} {u0 : Mm} {Q : Mm → Prop} (h : w_X7_clear n u0 Q) : xMet (gL g) yX7_clear (xws yX7_clear cX7_clear 2 none) (xRoom 1) (xPc g [.ref (gR g 35)] u0) (xQ g (pV g Q noT)) (xA g) := by
  refine xbody (il := il_X7_clear) hg il_X7_clear_ok m_X7_clear (Nat.le_of_ble_eq_true rfl) ?_
  show xE g me_X7_clear (pV g Q noT) 0 [(0, .ref (gR g 35))] [] u0
  unfold w_X7_clear at h
  refine e_iconst (k := 0) (v := (0 : Int32)) rfl (by decide) ?_
  refine e_istore_n (k := 1) (i := 1) (lv' := [(0, .ref (gR g 35)), (1, .int (0 : Int32))]) rfl rfl (by decide) [1, 0] rfl ?_
  exact s_X7_clear_2 hg n (0 : Int32) u0 h
def il_X7_headOf : List (Nat × Instr × Nat) := [(0, .iload_n 1, 1), (1, .iconst 1, 1), (2, .if_icmp .ne 8, 3), (5, .aload_n 0, 1), (6, .getfield 45, 3), (9, .ireturn, 1), (10, .iload_n 1, 1), (11, .bipush 7, 2), (13, .if_icmp .ne 11, 3), (16, .aload_n 0, 1), (17, .getfield 28, 3), (20, .getfield 51, 3), (23, .ireturn, 1), (24, .iload_n 1, 1), (25, .bipush 9, 2), (27, .if_icmp .ne 8, 3), (30, .aload_n 0, 1), (31, .getfield 9, 3), (34, .ireturn, 1), (35, .iload_n 1, 1), (36, .ifCond .lt 18, 3), (39, .iload_n 1, 1), (40, .bipush 10, 2), (42, .if_icmp .ge 12, 3), (45, .aload_n 0, 1), (46, .getfield 15, 3), (49, .iload_n 1, 1), (50, .iaload, 1), (51, .goto 4, 3), (54, .iconst (-1), 1), (55, .ireturn, 1)]
set_option maxRecDepth 20000 in
theorem il_X7_headOf_ok : ∀ x ∈ il_X7_headOf, decode cX7_headOf x.1 = .ok x.2 := by decide +kernel
abbrev me_X7_headOf : Me := (RX7, il_X7_headOf, 2, (some .int), xRoom 1, [])
def w_X7_headOf_55 (n : Nat) (t0 : Int32) (u0 : Mm) (Q : Int32 → Mm → Prop) : Prop :=
  Q t0 u0
def w_X7_headOf_54 (n : Nat) (u0 : Mm) (Q : Int32 → Mm → Prop) : Prop :=
  w_X7_headOf_55 n (-1 : Int32) u0 Q
def w_X7_headOf (n : Nat) (a0 : Int32) (u0 : Mm) (Q : Int32 → Mm → Prop) : Prop :=
  (¬ a0 = (1 : Int32) → (¬ a0 = (7 : Int32) → (¬ a0 = (9 : Int32) → (a0 < 0 → w_X7_headOf_54 n u0 Q) ∧
  (¬ a0 < 0 → ((10 : Int32) ≤ a0 → w_X7_headOf_54 n u0 Q) ∧
  (¬ (10 : Int32) ≤ a0 → vp_in a0 10 ∧ (w_X7_headOf_55 n (u0.1 43 (ix a0)) u0 Q)))) ∧
  (a0 = (9 : Int32) → Q (u0.1 35 0) u0)) ∧
  (a0 = (7 : Int32) → Q (u0.1 36 3) u0)) ∧
  (a0 = (1 : Int32) → Q (u0.1 35 8) u0)
set_option maxRecDepth 20000 in
theorem s_X7_headOf_55 {g : Gb} (hg : xInj g) {n : Nat} {Q : Int32 → Mm → Prop} {t0 : Int32} {u0 : Mm} (h : w_X7_headOf_55 n t0 u0 Q) : xE g me_X7_headOf (pI g Q noT) 55 [] [.int t0] u0 := by
  unfold w_X7_headOf_55 at h
  exact e_iret (k := 30) rfl rfl (Or.inl ⟨_, rfl, h⟩)
set_option maxRecDepth 20000 in
theorem s_X7_headOf_54 {g : Gb} (hg : xInj g) {n : Nat} {Q : Int32 → Mm → Prop} {u0 : Mm} (h : w_X7_headOf_54 n  u0 Q) : xE g me_X7_headOf (pI g Q noT) 54 [] [] u0 := by
  unfold w_X7_headOf_54 at h
  refine e_iconst (k := 29) (v := (-1 : Int32)) rfl (by decide) ?_
  exact s_X7_headOf_55 hg h
set_option maxRecDepth 20000 in
theorem c_X7_headOf {g : Gb} (hg : xInj g) {n : Nat} {a0 : Int32} {u0 : Mm} {Q : Int32 → Mm → Prop} (h : w_X7_headOf n a0 u0 Q) : xMet (gL g) yX7_headOf (xws yX7_headOf cX7_headOf 2 (some .int)) (xRoom 1) (xPc g [.ref (gR g 35), .int a0] u0) (xQ g (pI g Q noT)) (xA g) := by
  refine xbody (il := il_X7_headOf) hg il_X7_headOf_ok m_X7_headOf (Nat.le_of_ble_eq_true rfl) ?_
  show xE g me_X7_headOf (pI g Q noT) 0 [(0, .ref (gR g 35)), (1, .int a0)] [] u0
  unfold w_X7_headOf at h
  refine e_iload_n (k := 0) (i := 1) rfl rfl 1 rfl ?_
  refine e_iconst (k := 1) (v := (1 : Int32)) rfl (by decide) ?_
  refine e_icmp_ne (k := 2) (tgt := 10) rfl (by decide) (fun z => ?_) (fun z => ?_)
  · have h := h.1 z
    refine e_iload_n (k := 6) (i := 1) rfl rfl 1 rfl ?_
    refine e_bipush (k := 7) (v := (7 : Int32)) rfl (by decide) ?_
    refine e_icmp_ne (k := 8) (tgt := 24) rfl (by decide) (fun z => ?_) (fun z => ?_)
    · have h := h.1 z
      refine e_iload_n (k := 13) (i := 1) rfl rfl 1 rfl ?_
      refine e_bipush (k := 14) (v := (9 : Int32)) rfl (by decide) ?_
      refine e_icmp_ne (k := 15) (tgt := 35) rfl (by decide) (fun z => ?_) (fun z => ?_)
      · have h := h.1 z
        refine e_iload_n (k := 19) (i := 1) rfl rfl 1 rfl ?_
        refine e_if_lt (k := 20) (tgt := 54) rfl (by decide) (fun z => ?_) (fun z => ?_)
        · have h := h.1 z
          refine e_sub (lv' := []) [] rfl ?_
          exact s_X7_headOf_54 hg h
        · have h := h.2 z
          refine e_iload_n (k := 21) (i := 1) rfl rfl 1 rfl ?_
          refine e_bipush (k := 22) (v := (10 : Int32)) rfl (by decide) ?_
          refine e_icmp_ge (k := 23) (tgt := 54) rfl (by decide) (fun z => ?_) (fun z => ?_)
          · have h := h.1 z
            refine e_sub (lv' := []) [] rfl ?_
            exact s_X7_headOf_54 hg h
          · have h := h.2 z
            refine e_aload_n (k := 24) (i := 0) rfl rfl 0 rfl ?_
            refine e_getC (k := 25) rfl f_X7_15 rfl rfl ?_
            refine e_iload_n (k := 26) (i := 1) rfl rfl 1 rfl ?_
            refine e_iald (k := 27) rfl rfl h.1 ?_
            have h := h.2
            refine e_goto (k := 28) (tgt := 55) rfl (by decide) ?_
            refine e_sub (lv' := []) [] rfl ?_
            exact s_X7_headOf_55 hg h
      · have h := h.2 z
        refine e_aload_n (k := 16) (i := 0) rfl rfl 0 rfl ?_
        refine e_getI (k := 17) rfl f_X7_9 rfl rfl ?_
        exact e_iret (k := 18) rfl rfl (Or.inl ⟨_, rfl, h⟩)
    · have h := h.2 z
      refine e_aload_n (k := 9) (i := 0) rfl rfl 0 rfl ?_
      refine e_getC (k := 10) rfl f_X7_28 rfl rfl ?_
      refine e_getI (k := 11) rfl f_X7_51 rfl rfl ?_
      exact e_iret (k := 12) rfl rfl (Or.inl ⟨_, rfl, h⟩)
  · have h := h.2 z
    refine e_aload_n (k := 3) (i := 0) rfl rfl 0 rfl ?_
    refine e_getI (k := 4) rfl f_X7_45 rfl rfl ?_
    exact e_iret (k := 5) rfl rfl (Or.inl ⟨_, rfl, h⟩)
def il_X7_voiceOf : List (Nat × Instr × Nat) := [(0, .aload_n 0, 1), (1, .getfield 34, 3), (4, .iload_n 1, 1), (5, .iconst 1, 1), (6, .if_icmp .lt 14, 3), (9, .iload_n 1, 1), (10, .iconst 3, 1), (11, .if_icmp .gt 9, 3), (14, .iload_n 1, 1), (15, .iconst 1, 1), (16, .isub, 1), (17, .goto 4, 3), (20, .iconst 0, 1), (21, .aaload, 1), (22, .areturn, 1)]
set_option maxRecDepth 20000 in
theorem il_X7_voiceOf_ok : ∀ x ∈ il_X7_voiceOf, decode cX7_voiceOf x.1 = .ok x.2 := by decide +kernel
abbrev me_X7_voiceOf : Me := (RX7, il_X7_voiceOf, 2, (some (.object "AbcForms$Voice")), xRoom 1, [])
def w_X7_voiceOf_21 (n : Nat) (t0 : Int32) (u0 : Mm) (Q : Nat → Mm → Prop) : Prop :=
  vp_in t0 3 ∧ (Q (50 + ix t0) u0)
def w_X7_voiceOf_20 (n : Nat) (u0 : Mm) (Q : Nat → Mm → Prop) : Prop :=
  w_X7_voiceOf_21 n (0 : Int32) u0 Q
def w_X7_voiceOf (n : Nat) (a0 : Int32) (u0 : Mm) (Q : Nat → Mm → Prop) : Prop :=
  (a0 < (1 : Int32) → w_X7_voiceOf_20 n u0 Q) ∧
  (¬ a0 < (1 : Int32) → ((3 : Int32) < a0 → w_X7_voiceOf_20 n u0 Q) ∧
  (¬ (3 : Int32) < a0 → w_X7_voiceOf_21 n (a0 - (1 : Int32)) u0 Q))
set_option maxRecDepth 20000 in
theorem s_X7_voiceOf_21 {g : Gb} (hg : xInj g) {n : Nat} {Q : Nat → Mm → Prop} {t0 : Int32} {u0 : Mm} (h : w_X7_voiceOf_21 n t0 u0 Q) : xE g me_X7_voiceOf (pR g (0, 7, 0) Q noT) 21 [] [.int t0, .ref (gR g 49)] u0 := by
  unfold w_X7_voiceOf_21 at h
  have hv1 := h.1
  refine e_aald (k := 13) rfl rfl h.1 ?_
  have h := h.2
  exact e_aret (k := 14) (q := (50 + ix t0)) rfl rfl (Or.inl ⟨_, rfl, (xlayA hv1), h⟩)
set_option maxRecDepth 20000 in
theorem s_X7_voiceOf_20 {g : Gb} (hg : xInj g) {n : Nat} {Q : Nat → Mm → Prop} {u0 : Mm} (h : w_X7_voiceOf_20 n  u0 Q) : xE g me_X7_voiceOf (pR g (0, 7, 0) Q noT) 20 [] [.ref (gR g 49)] u0 := by
  unfold w_X7_voiceOf_20 at h
  refine e_iconst (k := 12) (v := (0 : Int32)) rfl (by decide) ?_
  exact s_X7_voiceOf_21 hg h
set_option maxRecDepth 20000 in
theorem c_X7_voiceOf {g : Gb} (hg : xInj g) {n : Nat} {a0 : Int32} {u0 : Mm} {Q : Nat → Mm → Prop} (h : w_X7_voiceOf n a0 u0 Q) : xMet (gL g) yX7_voiceOf (xws yX7_voiceOf cX7_voiceOf 2 (some (.object "AbcForms$Voice"))) (xRoom 1) (xPc g [.ref (gR g 35), .int a0] u0) (xQ g (pR g (0, 7, 0) Q noT)) (xA g) := by
  refine xbody (il := il_X7_voiceOf) hg il_X7_voiceOf_ok m_X7_voiceOf (Nat.le_of_ble_eq_true rfl) ?_
  show xE g me_X7_voiceOf (pR g (0, 7, 0) Q noT) 0 [(0, .ref (gR g 35)), (1, .int a0)] [] u0
  unfold w_X7_voiceOf at h
  refine e_aload_n (k := 0) (i := 0) rfl rfl 0 rfl ?_
  refine e_getC (k := 1) rfl f_X7_34 rfl rfl ?_
  refine e_iload_n (k := 2) (i := 1) rfl rfl 1 rfl ?_
  refine e_iconst (k := 3) (v := (1 : Int32)) rfl (by decide) ?_
  refine e_icmp_lt (k := 4) (tgt := 20) rfl (by decide) (fun z => ?_) (fun z => ?_)
  · have h := h.1 z
    refine e_sub (lv' := []) [] rfl ?_
    exact s_X7_voiceOf_20 hg h
  · have h := h.2 z
    refine e_iload_n (k := 5) (i := 1) rfl rfl 1 rfl ?_
    refine e_iconst (k := 6) (v := (3 : Int32)) rfl (by decide) ?_
    refine e_icmp_gt (k := 7) (tgt := 20) rfl (by decide) (fun z => ?_) (fun z => ?_)
    · have h := h.1 z
      refine e_sub (lv' := []) [] rfl ?_
      exact s_X7_voiceOf_20 hg h
    · have h := h.2 z
      refine e_iload_n (k := 8) (i := 1) rfl rfl 1 rfl ?_
      refine e_iconst (k := 9) (v := (1 : Int32)) rfl (by decide) ?_
      refine e_isub (k := 10) rfl ?_
      refine e_goto (k := 11) (tgt := 21) rfl (by decide) ?_
      refine e_sub (lv' := []) [] rfl ?_
      exact s_X7_voiceOf_21 hg h
def il_X8_clearMarks : List (Nat × Instr × Nat) := [(0, .iconst 0, 1), (1, .istore_n 1, 1), (2, .iload_n 1, 1), (3, .bipush 84, 2), (5, .if_icmp .ge 23, 3), (8, .aload_n 0, 1), (9, .getfield 46, 3), (12, .ifCond .eq 16, 3), (15, .aload_n 0, 1), (16, .getfield 18, 3), (19, .iload_n 1, 1), (20, .iconst 0, 1), (21, .iastore, 1), (22, .iinc 1 1, 3), (25, .goto (-23), 3), (28, .aload_n 0, 1), (29, .iconst 0, 1), (30, .putfield 46, 3), (33, .return_, 1)]
set_option maxRecDepth 20000 in
theorem il_X8_clearMarks_ok : ∀ x ∈ il_X8_clearMarks, decode cX8_clearMarks x.1 = .ok x.2 := by decide +kernel
abbrev me_X8_clearMarks : Me := (RX8, il_X8_clearMarks, 2, none, xRoom 1, [])
def w_X8_clearMarks_28 (n : Nat) (q : Nat) (u0 : Mm) (Q : Mm → Prop) : Prop :=
  mlet (setI u0 q 3 (0 : Int32)) fun u1 =>
  Q u1
def w_X8_clearMarks_2 (n : Nat) (q : Nat) (Q : Mm → Prop) : Nat → Int32 → Mm → Prop
  | 0, _, _ => False
  | k + 1, x1, u0 =>
  ((84 : Int32) ≤ x1 → w_X8_clearMarks_28 n q u0 Q) ∧
  (¬ (84 : Int32) ≤ x1 → ((u0.1 q 3) = 0 → w_X8_clearMarks_28 n q u0 Q) ∧
  (¬ (u0.1 q 3) = 0 → vp_in x1 84 ∧ (mlet (setI u0 (q + 9) (ix x1) (0 : Int32)) fun u1 =>
  (w_X8_clearMarks_2 n q Q k) (x1 + (1 : Int32)) u1)))
def w_X8_clearMarks (n : Nat) (q : Nat) (u0 : Mm) (Q : Mm → Prop) : Prop :=
  (w_X8_clearMarks_2 n q Q n) (0 : Int32) u0
set_option maxRecDepth 20000 in
theorem s_X8_clearMarks_28 {g : Gb} (hg : xInj g) {n : Nat} {q : Nat} (hq : xlay q = (0, 7, 0)) {Q : Mm → Prop} {u0 : Mm} (h : w_X8_clearMarks_28 n q  u0 Q) : xE g me_X8_clearMarks (pV g Q noT) 28 [(0, .ref (gR g q))] [] u0 := by
  unfold w_X8_clearMarks_28 at h
  refine e_aload_n (k := 15) (i := 0) rfl rfl 0 rfl ?_
  refine e_iconst (k := 16) (v := (0 : Int32)) rfl (by decide) ?_
  refine e_putZ (k := 17) rfl fg_X8_46 hq rfl (Or.inl rfl) ?_
  refine e_mlet h (fun u1 h => ?_)
  exact e_vret (k := 18) rfl rfl (Or.inl ⟨rfl, h⟩)
set_option maxRecDepth 20000 in
theorem s_X8_clearMarks_2 {g : Gb} (hg : xInj g) {n : Nat} {q : Nat} (hq : xlay q = (0, 7, 0)) {Q : Mm → Prop} : ∀ (k : Nat) (x1 : Int32) (u0 : Mm), w_X8_clearMarks_2 n q Q k x1 u0 → xE g me_X8_clearMarks (pV g Q noT) 2 [(0, .ref (gR g q)), (1, .int x1)] [] u0 := by
  intro k
  induction k with
  | zero => intro x1 u0 h; exact h.elim
  | succ k ih =>
    intro x1 u0 h
    unfold w_X8_clearMarks_2 at h
    refine e_iload_n (k := 2) (i := 1) rfl rfl 1 rfl ?_
    refine e_bipush (k := 3) (v := (84 : Int32)) rfl (by decide) ?_
    refine e_icmp_ge (k := 4) (tgt := 28) rfl (by decide) (fun z => ?_) (fun z => ?_)
    · have h := h.1 z
      refine e_sub (lv' := [(0, .ref (gR g q))]) [0] rfl ?_
      exact s_X8_clearMarks_28 hg hq h
    · have h := h.2 z
      refine e_aload_n (k := 5) (i := 0) rfl rfl 0 rfl ?_
      refine e_getI (k := 6) rfl f_X8_46 hq rfl ?_
      refine e_if_eq (k := 7) (tgt := 28) rfl (by decide) (fun z => ?_) (fun z => ?_)
      · have h := h.1 z
        refine e_sub (lv' := [(0, .ref (gR g q))]) [0] rfl ?_
        exact s_X8_clearMarks_28 hg hq h
      · have h := h.2 z
        refine e_aload_n (k := 8) (i := 0) rfl rfl 0 rfl ?_
        refine e_getR (k := 9) rfl f_X8_18 hq rfl ?_
        refine e_iload_n (k := 10) (i := 1) rfl rfl 1 rfl ?_
        refine e_iconst (k := 11) (v := (0 : Int32)) rfl (by decide) ?_
        refine e_iast (k := 12) rfl (xlayV hq).2.2 h.1 ?_
        have h := h.2
        refine e_mlet h (fun u1 h => ?_)
        refine e_iinc (k := 13) (i := 1) (j := 1) (v := (x1 + (1 : Int32))) (lv' := [(0, .ref (gR g q)), (1, .int (x1 + (1 : Int32)))]) rfl rfl rfl (by decide) [1, 0] rfl ?_
        refine e_goto (k := 14) (tgt := 2) rfl (by decide) ?_
        exact ih (x1 + (1 : Int32)) u1 h
set_option maxRecDepth 20000 in
theorem c_X8_clearMarks {g : Gb} (hg : xInj g) {n : Nat} {q : Nat} (hq : xlay q = (0, 7, 0)) {u0 : Mm} {Q : Mm → Prop} (h : w_X8_clearMarks n q u0 Q) : xMet (gL g) yX8_clearMarks (xws yX8_clearMarks cX8_clearMarks 2 none) (xRoom 1) (xPc g [.ref (gR g q)] u0) (xQ g (pV g Q noT)) (xA g) := by
  refine xbody (il := il_X8_clearMarks) hg il_X8_clearMarks_ok m_X8_clearMarks (Nat.le_of_ble_eq_true rfl) ?_
  show xE g me_X8_clearMarks (pV g Q noT) 0 [(0, .ref (gR g q))] [] u0
  unfold w_X8_clearMarks at h
  refine e_iconst (k := 0) (v := (0 : Int32)) rfl (by decide) ?_
  refine e_istore_n (k := 1) (i := 1) (lv' := [(0, .ref (gR g q)), (1, .int (0 : Int32))]) rfl rfl (by decide) [1, 0] rfl ?_
  exact s_X8_clearMarks_2 hg hq n (0 : Int32) u0 h
def il_X8_forgetLast : List (Nat × Instr × Nat) := [(0, .aload_n 0, 1), (1, .iconst 0, 1), (2, .putfield 55, 3), (5, .aload_n 0, 1), (6, .iconst 0, 1), (7, .putfield 58, 3), (10, .aload_n 0, 1), (11, .iconst 0, 1), (12, .putfield 61, 3), (15, .return_, 1)]
set_option maxRecDepth 20000 in
theorem il_X8_forgetLast_ok : ∀ x ∈ il_X8_forgetLast, decode cX8_forgetLast x.1 = .ok x.2 := by decide +kernel
abbrev me_X8_forgetLast : Me := (RX8, il_X8_forgetLast, 1, none, xRoom 1, [])
def w_X8_forgetLast (n : Nat) (q : Nat) (u0 : Mm) (Q : Mm → Prop) : Prop :=
  mlet (setI u0 q 11 (0 : Int32)) fun u1 =>
  mlet (setI u1 q 12 (0 : Int32)) fun u2 =>
  mlet (setI u2 q 13 (0 : Int32)) fun u3 =>
  Q u3
set_option maxRecDepth 20000 in
theorem c_X8_forgetLast {g : Gb} (hg : xInj g) {n : Nat} {q : Nat} (hq : xlay q = (0, 7, 0)) {u0 : Mm} {Q : Mm → Prop} (h : w_X8_forgetLast n q u0 Q) : xMet (gL g) yX8_forgetLast (xws yX8_forgetLast cX8_forgetLast 1 none) (xRoom 1) (xPc g [.ref (gR g q)] u0) (xQ g (pV g Q noT)) (xA g) := by
  refine xbody (il := il_X8_forgetLast) hg il_X8_forgetLast_ok m_X8_forgetLast (Nat.le_of_ble_eq_true rfl) ?_
  show xE g me_X8_forgetLast (pV g Q noT) 0 [(0, .ref (gR g q))] [] u0
  unfold w_X8_forgetLast at h
  refine e_aload_n (k := 0) (i := 0) rfl rfl 0 rfl ?_
  refine e_iconst (k := 1) (v := (0 : Int32)) rfl (by decide) ?_
  refine e_putZ (k := 2) rfl fg_X8_55 hq rfl (Or.inl rfl) ?_
  refine e_mlet h (fun u1 h => ?_)
  refine e_aload_n (k := 3) (i := 0) rfl rfl 0 rfl ?_
  refine e_iconst (k := 4) (v := (0 : Int32)) rfl (by decide) ?_
  refine e_putI (k := 5) rfl fg_X8_58 hq rfl ?_
  refine e_mlet h (fun u2 h => ?_)
  refine e_aload_n (k := 6) (i := 0) rfl rfl 0 rfl ?_
  refine e_iconst (k := 7) (v := (0 : Int32)) rfl (by decide) ?_
  refine e_putI (k := 8) rfl fg_X8_61 hq rfl ?_
  refine e_mlet h (fun u3 h => ?_)
  exact e_vret (k := 9) rfl rfl (Or.inl ⟨rfl, h⟩)
def il_X8_isFull : List (Nat × Instr × Nat) := [(0, .iload_n 1, 1), (1, .ifCond .lt 10, 3), (4, .iload_n 1, 1), (5, .sipush 300, 3), (8, .if_icmp .lt 5, 3), (11, .iconst 0, 1), (12, .ireturn, 1), (13, .aload_n 0, 1), (14, .getfield 15, 3), (17, .iload_n 1, 1), (18, .laload, 1), (19, .lconst 0, 1), (20, .lcmp, 1), (21, .ifCond .eq 19, 3), (24, .aload_n 0, 1), (25, .getfield 15, 3), (28, .iload_n 1, 1), (29, .laload, 1), (30, .aload_n 0, 1), (31, .getfield 9, 3), (34, .iload_n 1, 1), (35, .laload, 1), (36, .lcmp, 1), (37, .ifCond .ne 7, 3), (40, .iconst 1, 1), (41, .goto 4, 3), (44, .iconst 0, 1), (45, .ireturn, 1)]
set_option maxRecDepth 20000 in
theorem il_X8_isFull_ok : ∀ x ∈ il_X8_isFull, decode cX8_isFull x.1 = .ok x.2 := by decide +kernel
abbrev me_X8_isFull : Me := (RX8, il_X8_isFull, 2, (some .boolean), xRoom 1, [])
def w_X8_isFull_45 (n : Nat) (q : Nat) (t0 : Int32) (u0 : Mm) (Q : Int32 → Mm → Prop) : Prop :=
  narrow .boolean (.int t0) = .int t0 ∧ Q t0 u0
def w_X8_isFull_40 (n : Nat) (q : Nat) (u0 : Mm) (Q : Int32 → Mm → Prop) : Prop :=
  w_X8_isFull_45 n q (1 : Int32) u0 Q
def w_X8_isFull_11 (n : Nat) (q : Nat) (u0 : Mm) (Q : Int32 → Mm → Prop) : Prop :=
  Q (0 : Int32) u0
def w_X8_isFull (n : Nat) (q : Nat) (a0 : Int32) (u0 : Mm) (Q : Int32 → Mm → Prop) : Prop :=
  (a0 < 0 → w_X8_isFull_11 n q u0 Q) ∧
  (¬ a0 < 0 → (a0 < (300 : Int32) → vp_in a0 300 ∧ (((lg_cmp (u0.2.1 (q + 6) (ix a0)) (0 : Int64)) = 0 → w_X8_isFull_40 n q u0 Q) ∧
  (¬ (lg_cmp (u0.2.1 (q + 6) (ix a0)) (0 : Int64)) = 0 → vp_in a0 300 ∧ (vp_in a0 300 ∧ ((¬ (lg_cmp (u0.2.1 (q + 6) (ix a0)) (u0.2.1 (q + 3) (ix a0))) = 0 → w_X8_isFull_45 n q (0 : Int32) u0 Q) ∧
  ((lg_cmp (u0.2.1 (q + 6) (ix a0)) (u0.2.1 (q + 3) (ix a0))) = 0 → w_X8_isFull_40 n q u0 Q)))))) ∧
  (¬ a0 < (300 : Int32) → w_X8_isFull_11 n q u0 Q))
set_option maxRecDepth 20000 in
theorem s_X8_isFull_45 {g : Gb} (hg : xInj g) {n : Nat} {q : Nat} (hq : xlay q = (0, 7, 0)) {Q : Int32 → Mm → Prop} {t0 : Int32} {u0 : Mm} (h : w_X8_isFull_45 n q t0 u0 Q) : xE g me_X8_isFull (pI g Q noT) 45 [] [.int t0] u0 := by
  unfold w_X8_isFull_45 at h
  exact e_zret (k := 27) rfl rfl h.1 (Or.inl ⟨_, rfl, h.2⟩)
set_option maxRecDepth 20000 in
theorem s_X8_isFull_40 {g : Gb} (hg : xInj g) {n : Nat} {q : Nat} (hq : xlay q = (0, 7, 0)) {Q : Int32 → Mm → Prop} {u0 : Mm} (h : w_X8_isFull_40 n q  u0 Q) : xE g me_X8_isFull (pI g Q noT) 40 [] [] u0 := by
  unfold w_X8_isFull_40 at h
  refine e_iconst (k := 24) (v := (1 : Int32)) rfl (by decide) ?_
  refine e_goto (k := 25) (tgt := 45) rfl (by decide) ?_
  exact s_X8_isFull_45 hg hq h
set_option maxRecDepth 20000 in
theorem s_X8_isFull_11 {g : Gb} (hg : xInj g) {n : Nat} {q : Nat} (hq : xlay q = (0, 7, 0)) {Q : Int32 → Mm → Prop} {u0 : Mm} (h : w_X8_isFull_11 n q  u0 Q) : xE g me_X8_isFull (pI g Q noT) 11 [] [] u0 := by
  unfold w_X8_isFull_11 at h
  refine e_iconst (k := 5) (v := (0 : Int32)) rfl (by decide) ?_
  exact e_zret (k := 6) rfl rfl (by decide) (Or.inl ⟨_, rfl, h⟩)
set_option maxRecDepth 20000 in
theorem c_X8_isFull {g : Gb} (hg : xInj g) {n : Nat} {q : Nat} {a0 : Int32} (hq : xlay q = (0, 7, 0)) {u0 : Mm} {Q : Int32 → Mm → Prop} (h : w_X8_isFull n q a0 u0 Q) : xMet (gL g) yX8_isFull (xws yX8_isFull cX8_isFull 2 (some .boolean)) (xRoom 1) (xPc g [.ref (gR g q), .int a0] u0) (xQ g (pI g Q noT)) (xA g) := by
  refine xbody (il := il_X8_isFull) hg il_X8_isFull_ok m_X8_isFull (Nat.le_of_ble_eq_true rfl) ?_
  show xE g me_X8_isFull (pI g Q noT) 0 [(0, .ref (gR g q)), (1, .int a0)] [] u0
  unfold w_X8_isFull at h
  refine e_iload_n (k := 0) (i := 1) rfl rfl 1 rfl ?_
  refine e_if_lt (k := 1) (tgt := 11) rfl (by decide) (fun z => ?_) (fun z => ?_)
  · have h := h.1 z
    refine e_sub (lv' := []) [] rfl ?_
    exact s_X8_isFull_11 hg hq h
  · have h := h.2 z
    refine e_iload_n (k := 2) (i := 1) rfl rfl 1 rfl ?_
    refine e_sipush (k := 3) (v := (300 : Int32)) rfl (by decide) ?_
    refine e_icmp_lt (k := 4) (tgt := 13) rfl (by decide) (fun z => ?_) (fun z => ?_)
    · have h := h.1 z
      refine e_aload_n (k := 7) (i := 0) rfl rfl 0 rfl ?_
      refine e_getR (k := 8) rfl f_X8_15 hq rfl ?_
      refine e_iload_n (k := 9) (i := 1) rfl rfl 1 rfl ?_
      refine e_lald (k := 10) rfl (xlayV hq).2.1 h.1 ?_
      have h := h.2
      refine e_lconst (k := 11) (v := (0 : Int64)) rfl (by decide) ?_
      refine e_lcmp (k := 12) rfl ?_
      refine e_if_eq (k := 13) (tgt := 40) rfl (by decide) (fun z => ?_) (fun z => ?_)
      · have h := h.1 z
        refine e_sub (lv' := []) [] rfl ?_
        exact s_X8_isFull_40 hg hq h
      · have h := h.2 z
        refine e_aload_n (k := 14) (i := 0) rfl rfl 0 rfl ?_
        refine e_getR (k := 15) rfl f_X8_15 hq rfl ?_
        refine e_iload_n (k := 16) (i := 1) rfl rfl 1 rfl ?_
        refine e_lald (k := 17) rfl (xlayV hq).2.1 h.1 ?_
        have h := h.2
        refine e_aload_n (k := 18) (i := 0) rfl rfl 0 rfl ?_
        refine e_getR (k := 19) rfl f_X8_9 hq rfl ?_
        refine e_iload_n (k := 20) (i := 1) rfl rfl 1 rfl ?_
        refine e_lald (k := 21) rfl (xlayV hq).1 h.1 ?_
        have h := h.2
        refine e_lcmp (k := 22) rfl ?_
        refine e_if_ne (k := 23) (tgt := 44) rfl (by decide) (fun z => ?_) (fun z => ?_)
        · have h := h.1 z
          refine e_iconst (k := 26) (v := (0 : Int32)) rfl (by decide) ?_
          refine e_sub (lv' := []) [] rfl ?_
          exact s_X8_isFull_45 hg hq h
        · have h := h.2 z
          refine e_sub (lv' := []) [] rfl ?_
          exact s_X8_isFull_40 hg hq h
    · have h := h.2 z
      refine e_sub (lv' := []) [] rfl ?_
      exact s_X8_isFull_11 hg hq h
def il_X8_keepLast : List (Nat × Instr × Nat) := [(0, .aload_n 0, 1), (1, .iload_n 1, 1), (2, .putfield 55, 3), (5, .aload_n 0, 1), (6, .iload_n 2, 1), (7, .putfield 58, 3), (10, .aload_n 0, 1), (11, .iload_n 3, 1), (12, .putfield 61, 3), (15, .return_, 1)]
set_option maxRecDepth 20000 in
theorem il_X8_keepLast_ok : ∀ x ∈ il_X8_keepLast, decode cX8_keepLast x.1 = .ok x.2 := by decide +kernel
abbrev me_X8_keepLast : Me := (RX8, il_X8_keepLast, 4, none, xRoom 1, [])
def w_X8_keepLast (n : Nat) (q : Nat) (a0 : Int32) (a1 : Int32) (a2 : Int32) (u0 : Mm) (Q : Mm → Prop) : Prop :=
  xbz a0 ∧ (mlet (setI u0 q 11 a0) fun u1 =>
  mlet (setI u1 q 12 a1) fun u2 =>
  mlet (setI u2 q 13 a2) fun u3 =>
  Q u3)
set_option maxRecDepth 20000 in
theorem c_X8_keepLast {g : Gb} (hg : xInj g) {n : Nat} {q : Nat} {a0 : Int32} {a1 : Int32} {a2 : Int32} (hq : xlay q = (0, 7, 0)) {u0 : Mm} {Q : Mm → Prop} (h : w_X8_keepLast n q a0 a1 a2 u0 Q) : xMet (gL g) yX8_keepLast (xws yX8_keepLast cX8_keepLast 4 none) (xRoom 1) (xPc g [.ref (gR g q), .int a0, .int a1, .int a2] u0) (xQ g (pV g Q noT)) (xA g) := by
  refine xbody (il := il_X8_keepLast) hg il_X8_keepLast_ok m_X8_keepLast (Nat.le_of_ble_eq_true rfl) ?_
  show xE g me_X8_keepLast (pV g Q noT) 0 [(0, .ref (gR g q)), (1, .int a0), (2, .int a1), (3, .int a2)] [] u0
  unfold w_X8_keepLast at h
  refine e_aload_n (k := 0) (i := 0) rfl rfl 0 rfl ?_
  refine e_iload_n (k := 1) (i := 1) rfl rfl 1 rfl ?_
  refine e_putZ (k := 2) rfl fg_X8_55 hq rfl h.1 ?_
  have h := h.2
  refine e_mlet h (fun u1 h => ?_)
  refine e_aload_n (k := 3) (i := 0) rfl rfl 0 rfl ?_
  refine e_iload_n (k := 4) (i := 2) rfl rfl 2 rfl ?_
  refine e_putI (k := 5) rfl fg_X8_58 hq rfl ?_
  refine e_mlet h (fun u2 h => ?_)
  refine e_aload_n (k := 6) (i := 0) rfl rfl 0 rfl ?_
  refine e_iload_n (k := 7) (i := 3) rfl rfl 3 rfl ?_
  refine e_putI (k := 8) rfl fg_X8_61 hq rfl ?_
  refine e_mlet h (fun u3 h => ?_)
  exact e_vret (k := 9) rfl rfl (Or.inl ⟨rfl, h⟩)
def il_X8_markPlace : List (Nat × Instr × Nat) := [(0, .iload_n 1, 1), (1, .ifCond .ne 7, 3), (4, .iload_n 2, 1), (5, .goto 12, 3), (8, .iload_n 3, 1), (9, .bipush (-2), 2), (11, .isub, 1), (12, .bipush 7, 2), (14, .imul, 1), (15, .iload_n 2, 1), (16, .iadd, 1), (17, .istore 4, 2), (19, .iload 4, 2), (21, .ifCond .lt 15, 3), (24, .iload 4, 2), (26, .bipush 84, 2), (28, .if_icmp .ge 8, 3), (31, .iload 4, 2), (33, .goto 4, 3), (36, .iconst (-1), 1), (37, .ireturn, 1)]
set_option maxRecDepth 20000 in
theorem il_X8_markPlace_ok : ∀ x ∈ il_X8_markPlace, decode cX8_markPlace x.1 = .ok x.2 := by decide +kernel
abbrev me_X8_markPlace : Me := (RX8, il_X8_markPlace, 5, (some .int), xRoom 1, [])
def w_X8_markPlace_37 (n : Nat) (q : Nat) (t0 : Int32) (u0 : Mm) (Q : Int32 → Mm → Prop) : Prop :=
  Q t0 u0
def w_X8_markPlace_36 (n : Nat) (q : Nat) (u0 : Mm) (Q : Int32 → Mm → Prop) : Prop :=
  w_X8_markPlace_37 n q (-1 : Int32) u0 Q
def w_X8_markPlace_17 (n : Nat) (q : Nat) (t0 : Int32) (u0 : Mm) (Q : Int32 → Mm → Prop) : Prop :=
  (t0 < 0 → w_X8_markPlace_36 n q u0 Q) ∧
  (¬ t0 < 0 → ((84 : Int32) ≤ t0 → w_X8_markPlace_36 n q u0 Q) ∧
  (¬ (84 : Int32) ≤ t0 → w_X8_markPlace_37 n q t0 u0 Q))
def w_X8_markPlace (n : Nat) (q : Nat) (a0 : Int32) (a1 : Int32) (a2 : Int32) (u0 : Mm) (Q : Int32 → Mm → Prop) : Prop :=
  (¬ a0 = 0 → w_X8_markPlace_17 n q (((a2 - (-2 : Int32)) * (7 : Int32)) + a1) u0 Q) ∧
  (a0 = 0 → w_X8_markPlace_17 n q a1 u0 Q)
set_option maxRecDepth 20000 in
theorem s_X8_markPlace_37 {g : Gb} (hg : xInj g) {n : Nat} {q : Nat} (hq : xlay q = (0, 7, 0)) {Q : Int32 → Mm → Prop} {t0 : Int32} {u0 : Mm} (h : w_X8_markPlace_37 n q t0 u0 Q) : xE g me_X8_markPlace (pI g Q noT) 37 [] [.int t0] u0 := by
  unfold w_X8_markPlace_37 at h
  exact e_iret (k := 20) rfl rfl (Or.inl ⟨_, rfl, h⟩)
set_option maxRecDepth 20000 in
theorem s_X8_markPlace_36 {g : Gb} (hg : xInj g) {n : Nat} {q : Nat} (hq : xlay q = (0, 7, 0)) {Q : Int32 → Mm → Prop} {u0 : Mm} (h : w_X8_markPlace_36 n q  u0 Q) : xE g me_X8_markPlace (pI g Q noT) 36 [] [] u0 := by
  unfold w_X8_markPlace_36 at h
  refine e_iconst (k := 19) (v := (-1 : Int32)) rfl (by decide) ?_
  exact s_X8_markPlace_37 hg hq h
set_option maxRecDepth 20000 in
theorem s_X8_markPlace_17 {g : Gb} (hg : xInj g) {n : Nat} {q : Nat} (hq : xlay q = (0, 7, 0)) {Q : Int32 → Mm → Prop} {t0 : Int32} {u0 : Mm} (h : w_X8_markPlace_17 n q t0 u0 Q) : xE g me_X8_markPlace (pI g Q noT) 17 [] [.int t0] u0 := by
  unfold w_X8_markPlace_17 at h
  refine e_istore (k := 11) (i := 4) (lv' := [(4, .int t0)]) rfl (by decide) [0] rfl ?_
  refine e_iload (k := 12) (i := 4) rfl 0 rfl ?_
  refine e_if_lt (k := 13) (tgt := 36) rfl (by decide) (fun z => ?_) (fun z => ?_)
  · have h := h.1 z
    refine e_sub (lv' := []) [] rfl ?_
    exact s_X8_markPlace_36 hg hq h
  · have h := h.2 z
    refine e_iload (k := 14) (i := 4) rfl 0 rfl ?_
    refine e_bipush (k := 15) (v := (84 : Int32)) rfl (by decide) ?_
    refine e_icmp_ge (k := 16) (tgt := 36) rfl (by decide) (fun z => ?_) (fun z => ?_)
    · have h := h.1 z
      refine e_sub (lv' := []) [] rfl ?_
      exact s_X8_markPlace_36 hg hq h
    · have h := h.2 z
      refine e_iload (k := 17) (i := 4) rfl 0 rfl ?_
      refine e_goto (k := 18) (tgt := 37) rfl (by decide) ?_
      refine e_sub (lv' := []) [] rfl ?_
      exact s_X8_markPlace_37 hg hq h
set_option maxRecDepth 20000 in
theorem c_X8_markPlace {g : Gb} (hg : xInj g) {n : Nat} {q : Nat} {a0 : Int32} {a1 : Int32} {a2 : Int32} (hq : xlay q = (0, 7, 0)) {u0 : Mm} {Q : Int32 → Mm → Prop} (h : w_X8_markPlace n q a0 a1 a2 u0 Q) : xMet (gL g) yX8_markPlace (xws yX8_markPlace cX8_markPlace 5 (some .int)) (xRoom 1) (xPc g [.ref (gR g q), .int a0, .int a1, .int a2] u0) (xQ g (pI g Q noT)) (xA g) := by
  refine xbody (il := il_X8_markPlace) hg il_X8_markPlace_ok m_X8_markPlace (Nat.le_of_ble_eq_true rfl) ?_
  show xE g me_X8_markPlace (pI g Q noT) 0 [(0, .ref (gR g q)), (1, .int a0), (2, .int a1), (3, .int a2)] [] u0
  unfold w_X8_markPlace at h
  refine e_iload_n (k := 0) (i := 1) rfl rfl 1 rfl ?_
  refine e_if_ne (k := 1) (tgt := 8) rfl (by decide) (fun z => ?_) (fun z => ?_)
  · have h := h.1 z
    refine e_iload_n (k := 4) (i := 3) rfl rfl 3 rfl ?_
    refine e_bipush (k := 5) (v := (-2 : Int32)) rfl (by decide) ?_
    refine e_isub (k := 6) rfl ?_
    refine e_bipush (k := 7) (v := (7 : Int32)) rfl (by decide) ?_
    refine e_imul (k := 8) rfl ?_
    refine e_iload_n (k := 9) (i := 2) rfl rfl 2 rfl ?_
    refine e_iadd (k := 10) rfl ?_
    refine e_sub (lv' := []) [] rfl ?_
    exact s_X8_markPlace_17 hg hq h
  · have h := h.2 z
    refine e_iload_n (k := 2) (i := 2) rfl rfl 2 rfl ?_
    refine e_goto (k := 3) (tgt := 17) rfl (by decide) ?_
    refine e_sub (lv' := []) [] rfl ?_
    exact s_X8_markPlace_17 hg hq h
def il_X8_measureHere : List (Nat × Instr × Nat) := [(0, .aload_n 0, 1), (1, .getfield 26, 3), (4, .ifCond .eq 12, 3), (7, .aload_n 0, 1), (8, .getfield 22, 3), (11, .iconst 1, 1), (12, .isub, 1), (13, .goto 7, 3), (16, .aload_n 0, 1), (17, .getfield 22, 3), (20, .ireturn, 1)]
set_option maxRecDepth 20000 in
theorem il_X8_measureHere_ok : ∀ x ∈ il_X8_measureHere, decode cX8_measureHere x.1 = .ok x.2 := by decide +kernel
abbrev me_X8_measureHere : Me := (RX8, il_X8_measureHere, 1, (some .int), xRoom 1, [])
def w_X8_measureHere_20 (n : Nat) (q : Nat) (t0 : Int32) (u0 : Mm) (Q : Int32 → Mm → Prop) : Prop :=
  Q t0 u0
def w_X8_measureHere (n : Nat) (q : Nat) (u0 : Mm) (Q : Int32 → Mm → Prop) : Prop :=
  ((u0.1 q 5) = 0 → w_X8_measureHere_20 n q (u0.1 q 4) u0 Q) ∧
  (¬ (u0.1 q 5) = 0 → w_X8_measureHere_20 n q ((u0.1 q 4) - (1 : Int32)) u0 Q)
set_option maxRecDepth 20000 in
theorem s_X8_measureHere_20 {g : Gb} (hg : xInj g) {n : Nat} {q : Nat} (hq : xlay q = (0, 7, 0)) {Q : Int32 → Mm → Prop} {t0 : Int32} {u0 : Mm} (h : w_X8_measureHere_20 n q t0 u0 Q) : xE g me_X8_measureHere (pI g Q noT) 20 [] [.int t0] u0 := by
  unfold w_X8_measureHere_20 at h
  exact e_iret (k := 10) rfl rfl (Or.inl ⟨_, rfl, h⟩)
set_option maxRecDepth 20000 in
theorem c_X8_measureHere {g : Gb} (hg : xInj g) {n : Nat} {q : Nat} (hq : xlay q = (0, 7, 0)) {u0 : Mm} {Q : Int32 → Mm → Prop} (h : w_X8_measureHere n q u0 Q) : xMet (gL g) yX8_measureHere (xws yX8_measureHere cX8_measureHere 1 (some .int)) (xRoom 1) (xPc g [.ref (gR g q)] u0) (xQ g (pI g Q noT)) (xA g) := by
  refine xbody (il := il_X8_measureHere) hg il_X8_measureHere_ok m_X8_measureHere (Nat.le_of_ble_eq_true rfl) ?_
  show xE g me_X8_measureHere (pI g Q noT) 0 [(0, .ref (gR g q))] [] u0
  unfold w_X8_measureHere at h
  refine e_aload_n (k := 0) (i := 0) rfl rfl 0 rfl ?_
  refine e_getI (k := 1) rfl f_X8_26 hq rfl ?_
  refine e_if_eq (k := 2) (tgt := 16) rfl (by decide) (fun z => ?_) (fun z => ?_)
  · have h := h.1 z
    refine e_aload_n (k := 8) (i := 0) rfl rfl 0 rfl ?_
    refine e_getI (k := 9) rfl f_X8_22 hq rfl ?_
    refine e_sub (lv' := []) [] rfl ?_
    exact s_X8_measureHere_20 hg hq h
  · have h := h.2 z
    refine e_aload_n (k := 3) (i := 0) rfl rfl 0 rfl ?_
    refine e_getI (k := 4) rfl f_X8_22 hq rfl ?_
    refine e_iconst (k := 5) (v := (1 : Int32)) rfl (by decide) ?_
    refine e_isub (k := 6) rfl ?_
    refine e_goto (k := 7) (tgt := 20) rfl (by decide) ?_
    refine e_sub (lv' := []) [] rfl ?_
    exact s_X8_measureHere_20 hg hq h
def il_X8_meterTicks : List (Nat × Instr × Nat) := [(0, .aload_n 0, 1), (1, .getfield 40, 3), (4, .ifCond .le 21, 3), (7, .ldc2_w 64, 3), (10, .aload_n 0, 1), (11, .getfield 40, 3), (14, .i2l, 1), (15, .ldiv, 1), (16, .aload_n 0, 1), (17, .getfield 37, 3), (20, .i2l, 1), (21, .lmul, 1), (22, .goto 4, 3), (25, .lconst 0, 1), (26, .lreturn, 1)]
set_option maxRecDepth 20000 in
theorem il_X8_meterTicks_ok : ∀ x ∈ il_X8_meterTicks, decode cX8_meterTicks x.1 = .ok x.2 := by decide +kernel
abbrev me_X8_meterTicks : Me := (RX8, il_X8_meterTicks, 1, (some .long), xRoom 1, [])
def w_X8_meterTicks_26 (n : Nat) (q : Nat) (t0 : Int64) (u0 : Mm) (Q : Int64 → Mm → Prop) : Prop :=
  Q t0 u0
def w_X8_meterTicks (n : Nat) (q : Nat) (u0 : Mm) (Q : Int64 → Mm → Prop) : Prop :=
  ((u0.1 q 9) ≤ 0 → w_X8_meterTicks_26 n q (0 : Int64) u0 Q) ∧
  (¬ (u0.1 q 9) ≤ 0 → ¬ (u0.1 q 9).toInt64 = 0 ∧ (w_X8_meterTicks_26 n q (((1290240 : Int64) / (u0.1 q 9).toInt64) * (u0.1 q 8).toInt64) u0 Q))
set_option maxRecDepth 20000 in
theorem s_X8_meterTicks_26 {g : Gb} (hg : xInj g) {n : Nat} {q : Nat} (hq : xlay q = (0, 7, 0)) {Q : Int64 → Mm → Prop} {t0 : Int64} {u0 : Mm} (h : w_X8_meterTicks_26 n q t0 u0 Q) : xE g me_X8_meterTicks (pL g Q noT) 26 [] [.long t0] u0 := by
  unfold w_X8_meterTicks_26 at h
  exact e_lret (k := 14) rfl rfl (Or.inl ⟨_, rfl, h⟩)
set_option maxRecDepth 20000 in
theorem c_X8_meterTicks {g : Gb} (hg : xInj g) {n : Nat} {q : Nat} (hq : xlay q = (0, 7, 0)) {u0 : Mm} {Q : Int64 → Mm → Prop} (h : w_X8_meterTicks n q u0 Q) : xMet (gL g) yX8_meterTicks (xws yX8_meterTicks cX8_meterTicks 1 (some .long)) (xRoom 1) (xPc g [.ref (gR g q)] u0) (xQ g (pL g Q noT)) (xA g) := by
  refine xbody (il := il_X8_meterTicks) hg il_X8_meterTicks_ok m_X8_meterTicks (Nat.le_of_ble_eq_true rfl) ?_
  show xE g me_X8_meterTicks (pL g Q noT) 0 [(0, .ref (gR g q))] [] u0
  unfold w_X8_meterTicks at h
  refine e_aload_n (k := 0) (i := 0) rfl rfl 0 rfl ?_
  refine e_getI (k := 1) rfl f_X8_40 hq rfl ?_
  refine e_if_le (k := 2) (tgt := 25) rfl (by decide) (fun z => ?_) (fun z => ?_)
  · have h := h.1 z
    refine e_lconst (k := 13) (v := (0 : Int64)) rfl (by decide) ?_
    refine e_sub (lv' := []) [] rfl ?_
    exact s_X8_meterTicks_26 hg hq h
  · have h := h.2 z
    refine e_ldc2 (k := 3) rfl k_X8_64 ?_
    refine e_aload_n (k := 4) (i := 0) rfl rfl 0 rfl ?_
    refine e_getI (k := 5) rfl f_X8_40 hq rfl ?_
    refine e_i2l (k := 6) rfl ?_
    refine e_ldiv (k := 7) rfl h.1 ?_
    have h := h.2
    refine e_aload_n (k := 8) (i := 0) rfl rfl 0 rfl ?_
    refine e_getI (k := 9) rfl f_X8_37 hq rfl ?_
    refine e_i2l (k := 10) rfl ?_
    refine e_lmul (k := 11) rfl ?_
    refine e_goto (k := 12) (tgt := 26) rfl (by decide) ?_
    refine e_sub (lv' := []) [] rfl ?_
    exact s_X8_meterTicks_26 hg hq h
def il_X8_spend : List (Nat × Instr × Nat) := [(0, .aload_n 0, 1), (1, .dup, 1), (2, .getfield 30, 3), (5, .lload_n 1, 1), (6, .ladd, 1), (7, .putfield 30, 3), (10, .aload_n 0, 1), (11, .getfield 22, 3), (14, .iconst 1, 1), (15, .isub, 1), (16, .istore_n 3, 1), (17, .iload_n 3, 1), (18, .ifCond .lt 20, 3), (21, .iload_n 3, 1), (22, .sipush 300, 3), (25, .if_icmp .ge 13, 3), (28, .aload_n 0, 1), (29, .getfield 9, 3), (32, .iload_n 3, 1), (33, .dup2, 1), (34, .laload, 1), (35, .lload_n 1, 1), (36, .ladd, 1), (37, .lastore, 1), (38, .return_, 1)]
set_option maxRecDepth 20000 in
theorem il_X8_spend_ok : ∀ x ∈ il_X8_spend, decode cX8_spend x.1 = .ok x.2 := by decide +kernel
abbrev me_X8_spend : Me := (RX8, il_X8_spend, 4, none, xRoom 1, [])
def w_X8_spend_38 (n : Nat) (q : Nat) (u0 : Mm) (Q : Mm → Prop) : Prop :=
  Q u0
def w_X8_spend (n : Nat) (q : Nat) (a0 : Int64) (u0 : Mm) (Q : Mm → Prop) : Prop :=
  mlet (setJ u0 q 6 ((u0.2.1 q 6) + a0)) fun u1 =>
  ilet ((u1.1 q 4) - (1 : Int32)) fun y1 =>
  (y1 < 0 → w_X8_spend_38 n q u1 Q) ∧
  (¬ y1 < 0 → ((300 : Int32) ≤ y1 → w_X8_spend_38 n q u1 Q) ∧
  (¬ (300 : Int32) ≤ y1 → vp_in y1 300 ∧ (vp_in y1 300 ∧ (mlet (setJ u1 (q + 3) (ix y1) ((u1.2.1 (q + 3) (ix y1)) + a0)) fun u2 =>
  w_X8_spend_38 n q u2 Q))))
set_option maxRecDepth 20000 in
theorem s_X8_spend_38 {g : Gb} (hg : xInj g) {n : Nat} {q : Nat} (hq : xlay q = (0, 7, 0)) {Q : Mm → Prop} {u0 : Mm} (h : w_X8_spend_38 n q  u0 Q) : xE g me_X8_spend (pV g Q noT) 38 [] [] u0 := by
  unfold w_X8_spend_38 at h
  exact e_vret (k := 24) rfl rfl (Or.inl ⟨rfl, h⟩)
set_option maxRecDepth 20000 in
theorem c_X8_spend {g : Gb} (hg : xInj g) {n : Nat} {q : Nat} {a0 : Int64} (hq : xlay q = (0, 7, 0)) {u0 : Mm} {Q : Mm → Prop} (h : w_X8_spend n q a0 u0 Q) : xMet (gL g) yX8_spend (xws yX8_spend cX8_spend 4 none) (xRoom 1) (xPc g [.ref (gR g q), .long a0] u0) (xQ g (pV g Q noT)) (xA g) := by
  refine xbody (il := il_X8_spend) hg il_X8_spend_ok m_X8_spend (Nat.le_of_ble_eq_true rfl) ?_
  show xE g me_X8_spend (pV g Q noT) 0 [(0, .ref (gR g q)), (1, .long a0)] [] u0
  unfold w_X8_spend at h
  refine e_aload_n (k := 0) (i := 0) rfl rfl 0 rfl ?_
  refine e_dup (k := 1) rfl rfl ?_
  refine e_getJ (k := 2) rfl f_X8_30 hq rfl ?_
  refine e_lload_n (k := 3) (i := 1) rfl rfl 1 rfl ?_
  refine e_ladd (k := 4) rfl ?_
  refine e_putJ (k := 5) rfl fg_X8_30 hq rfl ?_
  refine e_mlet h (fun u1 h => ?_)
  refine e_aload_n (k := 6) (i := 0) rfl rfl 0 rfl ?_
  refine e_getI (k := 7) rfl f_X8_22 hq rfl ?_
  refine e_iconst (k := 8) (v := (1 : Int32)) rfl (by decide) ?_
  refine e_isub (k := 9) rfl ?_
  refine e_ilet h (fun y1 h => ?_)
  refine e_istore_n (k := 10) (i := 3) (lv' := [(0, .ref (gR g q)), (1, .long a0), (3, .int y1)]) rfl rfl (by decide) [1, 2, 0] rfl ?_
  refine e_iload_n (k := 11) (i := 3) rfl rfl 2 rfl ?_
  refine e_if_lt (k := 12) (tgt := 38) rfl (by decide) (fun z => ?_) (fun z => ?_)
  · have h := h.1 z
    refine e_sub (lv' := []) [] rfl ?_
    exact s_X8_spend_38 hg hq h
  · have h := h.2 z
    refine e_iload_n (k := 13) (i := 3) rfl rfl 2 rfl ?_
    refine e_sipush (k := 14) (v := (300 : Int32)) rfl (by decide) ?_
    refine e_icmp_ge (k := 15) (tgt := 38) rfl (by decide) (fun z => ?_) (fun z => ?_)
    · have h := h.1 z
      refine e_sub (lv' := []) [] rfl ?_
      exact s_X8_spend_38 hg hq h
    · have h := h.2 z
      refine e_aload_n (k := 16) (i := 0) rfl rfl 0 rfl ?_
      refine e_getR (k := 17) rfl f_X8_9 hq rfl ?_
      refine e_iload_n (k := 18) (i := 3) rfl rfl 2 rfl ?_
      refine e_dup2 (k := 19) rfl rfl rfl ?_
      refine e_lald (k := 20) rfl (xlayV hq).1 h.1 ?_
      have h := h.2
      refine e_lload_n (k := 21) (i := 1) rfl rfl 1 rfl ?_
      refine e_ladd (k := 22) rfl ?_
      refine e_last (k := 23) rfl (xlayV hq).1 h.1 ?_
      have h := h.2
      refine e_mlet h (fun u2 h => ?_)
      refine e_sub (lv' := []) [] rfl ?_
      exact s_X8_spend_38 hg hq h
def il_X8_ticksIn : List (Nat × Instr × Nat) := [(0, .iload_n 1, 1), (1, .ifCond .lt 19, 3), (4, .iload_n 1, 1), (5, .sipush 300, 3), (8, .if_icmp .ge 12, 3), (11, .aload_n 0, 1), (12, .getfield 9, 3), (15, .iload_n 1, 1), (16, .laload, 1), (17, .goto 4, 3), (20, .lconst 0, 1), (21, .lreturn, 1)]
set_option maxRecDepth 20000 in
theorem il_X8_ticksIn_ok : ∀ x ∈ il_X8_ticksIn, decode cX8_ticksIn x.1 = .ok x.2 := by decide +kernel
abbrev me_X8_ticksIn : Me := (RX8, il_X8_ticksIn, 2, (some .long), xRoom 1, [])
def w_X8_ticksIn_21 (n : Nat) (q : Nat) (t0 : Int64) (u0 : Mm) (Q : Int64 → Mm → Prop) : Prop :=
  Q t0 u0
def w_X8_ticksIn_20 (n : Nat) (q : Nat) (u0 : Mm) (Q : Int64 → Mm → Prop) : Prop :=
  w_X8_ticksIn_21 n q (0 : Int64) u0 Q
def w_X8_ticksIn (n : Nat) (q : Nat) (a0 : Int32) (u0 : Mm) (Q : Int64 → Mm → Prop) : Prop :=
  (a0 < 0 → w_X8_ticksIn_20 n q u0 Q) ∧
  (¬ a0 < 0 → ((300 : Int32) ≤ a0 → w_X8_ticksIn_20 n q u0 Q) ∧
  (¬ (300 : Int32) ≤ a0 → vp_in a0 300 ∧ (w_X8_ticksIn_21 n q (u0.2.1 (q + 3) (ix a0)) u0 Q)))
set_option maxRecDepth 20000 in
theorem s_X8_ticksIn_21 {g : Gb} (hg : xInj g) {n : Nat} {q : Nat} (hq : xlay q = (0, 7, 0)) {Q : Int64 → Mm → Prop} {t0 : Int64} {u0 : Mm} (h : w_X8_ticksIn_21 n q t0 u0 Q) : xE g me_X8_ticksIn (pL g Q noT) 21 [] [.long t0] u0 := by
  unfold w_X8_ticksIn_21 at h
  exact e_lret (k := 11) rfl rfl (Or.inl ⟨_, rfl, h⟩)
set_option maxRecDepth 20000 in
theorem s_X8_ticksIn_20 {g : Gb} (hg : xInj g) {n : Nat} {q : Nat} (hq : xlay q = (0, 7, 0)) {Q : Int64 → Mm → Prop} {u0 : Mm} (h : w_X8_ticksIn_20 n q  u0 Q) : xE g me_X8_ticksIn (pL g Q noT) 20 [] [] u0 := by
  unfold w_X8_ticksIn_20 at h
  refine e_lconst (k := 10) (v := (0 : Int64)) rfl (by decide) ?_
  exact s_X8_ticksIn_21 hg hq h
set_option maxRecDepth 20000 in
theorem c_X8_ticksIn {g : Gb} (hg : xInj g) {n : Nat} {q : Nat} {a0 : Int32} (hq : xlay q = (0, 7, 0)) {u0 : Mm} {Q : Int64 → Mm → Prop} (h : w_X8_ticksIn n q a0 u0 Q) : xMet (gL g) yX8_ticksIn (xws yX8_ticksIn cX8_ticksIn 2 (some .long)) (xRoom 1) (xPc g [.ref (gR g q), .int a0] u0) (xQ g (pL g Q noT)) (xA g) := by
  refine xbody (il := il_X8_ticksIn) hg il_X8_ticksIn_ok m_X8_ticksIn (Nat.le_of_ble_eq_true rfl) ?_
  show xE g me_X8_ticksIn (pL g Q noT) 0 [(0, .ref (gR g q)), (1, .int a0)] [] u0
  unfold w_X8_ticksIn at h
  refine e_iload_n (k := 0) (i := 1) rfl rfl 1 rfl ?_
  refine e_if_lt (k := 1) (tgt := 20) rfl (by decide) (fun z => ?_) (fun z => ?_)
  · have h := h.1 z
    refine e_sub (lv' := []) [] rfl ?_
    exact s_X8_ticksIn_20 hg hq h
  · have h := h.2 z
    refine e_iload_n (k := 2) (i := 1) rfl rfl 1 rfl ?_
    refine e_sipush (k := 3) (v := (300 : Int32)) rfl (by decide) ?_
    refine e_icmp_ge (k := 4) (tgt := 20) rfl (by decide) (fun z => ?_) (fun z => ?_)
    · have h := h.1 z
      refine e_sub (lv' := []) [] rfl ?_
      exact s_X8_ticksIn_20 hg hq h
    · have h := h.2 z
      refine e_aload_n (k := 5) (i := 0) rfl rfl 0 rfl ?_
      refine e_getR (k := 6) rfl f_X8_9 hq rfl ?_
      refine e_iload_n (k := 7) (i := 1) rfl rfl 1 rfl ?_
      refine e_lald (k := 8) rfl (xlayV hq).1 h.1 ?_
      have h := h.2
      refine e_goto (k := 9) (tgt := 21) rfl (by decide) ?_
      refine e_sub (lv' := []) [] rfl ?_
      exact s_X8_ticksIn_21 hg hq h
def il_X9_byteAt : List (Nat × Instr × Nat) := [(0, .iload_n 1, 1), (1, .ifCond .lt 29, 3), (4, .iload_n 1, 1), (5, .aload_n 0, 1), (6, .getfield 15, 3), (9, .if_icmp .ge 21, 3), (12, .iload_n 1, 1), (13, .aload_n 0, 1), (14, .getfield 9, 3), (17, .arraylength, 1), (18, .if_icmp .ge 12, 3), (21, .aload_n 0, 1), (22, .getfield 9, 3), (25, .iload_n 1, 1), (26, .baload, 1), (27, .goto 4, 3), (30, .iconst (-1), 1), (31, .ireturn, 1)]
set_option maxRecDepth 20000 in
theorem il_X9_byteAt_ok : ∀ x ∈ il_X9_byteAt, decode cX9_byteAt x.1 = .ok x.2 := by decide +kernel
abbrev me_X9_byteAt : Me := (RX9, il_X9_byteAt, 2, (some .int), xRoom 1, [])
def w_X9_byteAt_31 (n : Nat) (t0 : Int32) (u0 : Mm) (Q : Int32 → Mm → Prop) : Prop :=
  Q t0 u0
def w_X9_byteAt_30 (n : Nat) (u0 : Mm) (Q : Int32 → Mm → Prop) : Prop :=
  w_X9_byteAt_31 n (-1 : Int32) u0 Q
def w_X9_byteAt (n : Nat) (a0 : Int32) (u0 : Mm) (Q : Int32 → Mm → Prop) : Prop :=
  (a0 < 0 → w_X9_byteAt_30 n u0 Q) ∧
  (¬ a0 < 0 → ((u0.1 40 1) ≤ a0 → w_X9_byteAt_30 n u0 Q) ∧
  (¬ (u0.1 40 1) ≤ a0 → ((24 : Int32) ≤ a0 → w_X9_byteAt_30 n u0 Q) ∧
  (¬ (24 : Int32) ≤ a0 → vp_in a0 24 ∧ (w_X9_byteAt_31 n (u0.1 66 (ix a0)) u0 Q))))
set_option maxRecDepth 20000 in
theorem s_X9_byteAt_31 {g : Gb} (hg : xInj g) {n : Nat} {Q : Int32 → Mm → Prop} {t0 : Int32} {u0 : Mm} (h : w_X9_byteAt_31 n t0 u0 Q) : xE g me_X9_byteAt (pI g Q noT) 31 [] [.int t0] u0 := by
  unfold w_X9_byteAt_31 at h
  exact e_iret (k := 17) rfl rfl (Or.inl ⟨_, rfl, h⟩)
set_option maxRecDepth 20000 in
theorem s_X9_byteAt_30 {g : Gb} (hg : xInj g) {n : Nat} {Q : Int32 → Mm → Prop} {u0 : Mm} (h : w_X9_byteAt_30 n  u0 Q) : xE g me_X9_byteAt (pI g Q noT) 30 [] [] u0 := by
  unfold w_X9_byteAt_30 at h
  refine e_iconst (k := 16) (v := (-1 : Int32)) rfl (by decide) ?_
  exact s_X9_byteAt_31 hg h
set_option maxRecDepth 20000 in
theorem c_X9_byteAt {g : Gb} (hg : xInj g) {n : Nat} {a0 : Int32} {u0 : Mm} {Q : Int32 → Mm → Prop} (h : w_X9_byteAt n a0 u0 Q) : xMet (gL g) yX9_byteAt (xws yX9_byteAt cX9_byteAt 2 (some .int)) (xRoom 1) (xPc g [.ref (gR g 40), .int a0] u0) (xQ g (pI g Q noT)) (xA g) := by
  refine xbody (il := il_X9_byteAt) hg il_X9_byteAt_ok m_X9_byteAt (Nat.le_of_ble_eq_true rfl) ?_
  show xE g me_X9_byteAt (pI g Q noT) 0 [(0, .ref (gR g 40)), (1, .int a0)] [] u0
  unfold w_X9_byteAt at h
  refine e_iload_n (k := 0) (i := 1) rfl rfl 1 rfl ?_
  refine e_if_lt (k := 1) (tgt := 30) rfl (by decide) (fun z => ?_) (fun z => ?_)
  · have h := h.1 z
    refine e_sub (lv' := []) [] rfl ?_
    exact s_X9_byteAt_30 hg h
  · have h := h.2 z
    refine e_iload_n (k := 2) (i := 1) rfl rfl 1 rfl ?_
    refine e_aload_n (k := 3) (i := 0) rfl rfl 0 rfl ?_
    refine e_getI (k := 4) rfl f_X9_15 rfl rfl ?_
    refine e_icmp_ge (k := 5) (tgt := 30) rfl (by decide) (fun z => ?_) (fun z => ?_)
    · have h := h.1 z
      refine e_sub (lv' := []) [] rfl ?_
      exact s_X9_byteAt_30 hg h
    · have h := h.2 z
      refine e_iload_n (k := 6) (i := 1) rfl rfl 1 rfl ?_
      refine e_aload_n (k := 7) (i := 0) rfl rfl 0 rfl ?_
      refine e_getC (k := 8) rfl f_X9_9 rfl rfl ?_
      refine e_alen (k := 9) (v := (24 : Int32)) rfl rfl (by decide) (by decide) ?_
      refine e_icmp_ge (k := 10) (tgt := 30) rfl (by decide) (fun z => ?_) (fun z => ?_)
      · have h := h.1 z
        refine e_sub (lv' := []) [] rfl ?_
        exact s_X9_byteAt_30 hg h
      · have h := h.2 z
        refine e_aload_n (k := 11) (i := 0) rfl rfl 0 rfl ?_
        refine e_getC (k := 12) rfl f_X9_9 rfl rfl ?_
        refine e_iload_n (k := 13) (i := 1) rfl rfl 1 rfl ?_
        refine e_bald (k := 14) rfl rfl h.1 ?_
        have h := h.2
        refine e_goto (k := 15) (tgt := 31) rfl (by decide) ?_
        refine e_sub (lv' := []) [] rfl ?_
        exact s_X9_byteAt_31 hg h
def il_X9_greatestCommon : List (Nat × Instr × Nat) := [(0, .lload_n 0, 1), (1, .lstore 4, 2), (3, .lload_n 2, 1), (4, .lstore 6, 2), (6, .iconst 0, 1), (7, .istore 8, 2), (9, .iload 8, 2), (11, .bipush 100, 2), (13, .if_icmp .ge 31, 3), (16, .lload 6, 2), (18, .lconst 0, 1), (19, .lcmp, 1), (20, .ifCond .le 24, 3), (23, .lload 4, 2), (25, .lload 6, 2), (27, .lrem, 1), (28, .lstore 9, 2), (30, .lload 6, 2), (32, .lstore 4, 2), (34, .lload 9, 2), (36, .lstore 6, 2), (38, .iinc 8 1, 3), (41, .goto (-32), 3), (44, .lload 4, 2), (46, .lreturn, 1)]
set_option maxRecDepth 20000 in
theorem il_X9_greatestCommon_ok : ∀ x ∈ il_X9_greatestCommon, decode cX9_greatestCommon x.1 = .ok x.2 := by decide +kernel
abbrev me_X9_greatestCommon : Me := (RX9, il_X9_greatestCommon, 11, (some .long), xRoom 1, [])
def w_X9_greatestCommon_44 (n : Nat) (x4 : Int64) (u0 : Mm) (Q : Int64 → Mm → Prop) : Prop :=
  Q x4 u0
def w_X9_greatestCommon_9 (n : Nat) (Q : Int64 → Mm → Prop) : Nat → Int64 → Int64 → Int32 → Mm → Prop
  | 0, _, _, _, _ => False
  | k + 1, x4, x6, x8, u0 =>
  ((100 : Int32) ≤ x8 → w_X9_greatestCommon_44 n x4 u0 Q) ∧
  (¬ (100 : Int32) ≤ x8 → ((lg_cmp x6 (0 : Int64)) ≤ 0 → w_X9_greatestCommon_44 n x4 u0 Q) ∧
  (¬ (lg_cmp x6 (0 : Int64)) ≤ 0 → ¬ x6 = 0 ∧ (jlet (x4 - x4 / x6 * x6) fun y1 =>
  (w_X9_greatestCommon_9 n Q k) x6 y1 (x8 + (1 : Int32)) u0)))
def w_X9_greatestCommon (n : Nat) (a0 : Int64) (a1 : Int64) (u0 : Mm) (Q : Int64 → Mm → Prop) : Prop :=
  (w_X9_greatestCommon_9 n Q n) a0 a1 (0 : Int32) u0
set_option maxRecDepth 20000 in
theorem s_X9_greatestCommon_44 {g : Gb} (hg : xInj g) {n : Nat} {Q : Int64 → Mm → Prop} {x4 : Int64} {u0 : Mm} (h : w_X9_greatestCommon_44 n x4 u0 Q) : xE g me_X9_greatestCommon (pL g Q noT) 44 [(4, .long x4)] [] u0 := by
  unfold w_X9_greatestCommon_44 at h
  refine e_lload (k := 23) (i := 4) rfl 0 rfl ?_
  exact e_lret (k := 24) rfl rfl (Or.inl ⟨_, rfl, h⟩)
set_option maxRecDepth 20000 in
theorem s_X9_greatestCommon_9 {g : Gb} (hg : xInj g) {n : Nat} {Q : Int64 → Mm → Prop} : ∀ (k : Nat) (x4 : Int64) (x6 : Int64) (x8 : Int32) (u0 : Mm), w_X9_greatestCommon_9 n Q k x4 x6 x8 u0 → xE g me_X9_greatestCommon (pL g Q noT) 9 [(4, .long x4), (6, .long x6), (8, .int x8)] [] u0 := by
  intro k
  induction k with
  | zero => intro x4 x6 x8 u0 h; exact h.elim
  | succ k ih =>
    intro x4 x6 x8 u0 h
    unfold w_X9_greatestCommon_9 at h
    refine e_iload (k := 6) (i := 8) rfl 2 rfl ?_
    refine e_bipush (k := 7) (v := (100 : Int32)) rfl (by decide) ?_
    refine e_icmp_ge (k := 8) (tgt := 44) rfl (by decide) (fun z => ?_) (fun z => ?_)
    · have h := h.1 z
      refine e_sub (lv' := [(4, .long x4)]) [0] rfl ?_
      exact s_X9_greatestCommon_44 hg h
    · have h := h.2 z
      refine e_lload (k := 9) (i := 6) rfl 1 rfl ?_
      refine e_lconst (k := 10) (v := (0 : Int64)) rfl (by decide) ?_
      refine e_lcmp (k := 11) rfl ?_
      refine e_if_le (k := 12) (tgt := 44) rfl (by decide) (fun z => ?_) (fun z => ?_)
      · have h := h.1 z
        refine e_sub (lv' := [(4, .long x4)]) [0] rfl ?_
        exact s_X9_greatestCommon_44 hg h
      · have h := h.2 z
        refine e_lload (k := 13) (i := 4) rfl 0 rfl ?_
        refine e_lload (k := 14) (i := 6) rfl 1 rfl ?_
        refine e_lrem (k := 15) rfl h.1 ?_
        have h := h.2
        refine e_jlet h (fun y1 h => ?_)
        refine e_lstore (k := 16) (i := 9) (lv' := [(4, .long x4), (6, .long x6), (8, .int x8), (9, .long y1)]) rfl (by decide) [1, 2, 3, 0] rfl ?_
        refine e_lload (k := 17) (i := 6) rfl 1 rfl ?_
        refine e_lstore (k := 18) (i := 4) (lv' := [(4, .long x6), (6, .long x6), (8, .int x8), (9, .long y1)]) rfl (by decide) [0, 1, 2, 3] rfl ?_
        refine e_lload (k := 19) (i := 9) rfl 3 rfl ?_
        refine e_lstore (k := 20) (i := 6) (lv' := [(4, .long x6), (6, .long y1), (8, .int x8), (9, .long y1)]) rfl (by decide) [1, 0, 2, 3] rfl ?_
        refine e_iinc (k := 21) (i := 8) (j := 2) (v := (x8 + (1 : Int32))) (lv' := [(4, .long x6), (6, .long y1), (8, .int (x8 + (1 : Int32))), (9, .long y1)]) rfl rfl rfl (by decide) [1, 2, 0, 3] rfl ?_
        refine e_goto (k := 22) (tgt := 9) rfl (by decide) ?_
        refine e_sub (lv' := [(4, .long x6), (6, .long y1), (8, .int (x8 + (1 : Int32)))]) [0, 1, 2] rfl ?_
        exact ih x6 y1 (x8 + (1 : Int32)) u0 h
set_option maxRecDepth 20000 in
theorem c_X9_greatestCommon {g : Gb} (hg : xInj g) {n : Nat} {a0 : Int64} {a1 : Int64} {u0 : Mm} {Q : Int64 → Mm → Prop} (h : w_X9_greatestCommon n a0 a1 u0 Q) : xMet (gL g) yX9_greatestCommon (xws yX9_greatestCommon cX9_greatestCommon 11 (some .long)) (xRoom 1) (xPc g [.long a0, .long a1] u0) (xQ g (pL g Q noT)) (xA g) := by
  refine xbody (il := il_X9_greatestCommon) hg il_X9_greatestCommon_ok m_X9_greatestCommon (Nat.le_of_ble_eq_true rfl) ?_
  show xE g me_X9_greatestCommon (pL g Q noT) 0 [(0, .long a0), (2, .long a1)] [] u0
  unfold w_X9_greatestCommon at h
  refine e_lload_n (k := 0) (i := 0) rfl rfl 0 rfl ?_
  refine e_lstore (k := 1) (i := 4) (lv' := [(0, .long a0), (2, .long a1), (4, .long a0)]) rfl (by decide) [1, 2, 0] rfl ?_
  refine e_lload_n (k := 2) (i := 2) rfl rfl 1 rfl ?_
  refine e_lstore (k := 3) (i := 6) (lv' := [(0, .long a0), (2, .long a1), (4, .long a0), (6, .long a1)]) rfl (by decide) [1, 2, 3, 0] rfl ?_
  refine e_iconst (k := 4) (v := (0 : Int32)) rfl (by decide) ?_
  refine e_istore (k := 5) (i := 8) (lv' := [(0, .long a0), (2, .long a1), (4, .long a0), (6, .long a1), (8, .int (0 : Int32))]) rfl (by decide) [1, 2, 3, 4, 0] rfl ?_
  refine e_sub (lv' := [(4, .long a0), (6, .long a1), (8, .int (0 : Int32))]) [2, 3, 4] rfl ?_
  exact s_X9_greatestCommon_9 hg n a0 a1 (0 : Int32) u0 h
def il_X9_put : List (Nat × Instr × Nat) := [(0, .aload_n 0, 1), (1, .getfield 15, 3), (4, .ifCond .lt 36, 3), (7, .aload_n 0, 1), (8, .getfield 15, 3), (11, .aload_n 0, 1), (12, .getfield 9, 3), (15, .arraylength, 1), (16, .if_icmp .ge 24, 3), (19, .aload_n 0, 1), (20, .getfield 9, 3), (23, .aload_n 0, 1), (24, .getfield 15, 3), (27, .iload_n 1, 1), (28, .i2b, 1), (29, .bastore, 1), (30, .aload_n 0, 1), (31, .dup, 1), (32, .getfield 15, 3), (35, .iconst 1, 1), (36, .iadd, 1), (37, .putfield 15, 3), (40, .return_, 1)]
set_option maxRecDepth 20000 in
theorem il_X9_put_ok : ∀ x ∈ il_X9_put, decode cX9_put x.1 = .ok x.2 := by decide +kernel
abbrev me_X9_put : Me := (RX9, il_X9_put, 2, none, xRoom 1, [])
def w_X9_put_40 (n : Nat) (u0 : Mm) (Q : Mm → Prop) : Prop :=
  Q u0
def w_X9_put (n : Nat) (a0 : Int32) (u0 : Mm) (Q : Mm → Prop) : Prop :=
  ((u0.1 40 1) < 0 → w_X9_put_40 n u0 Q) ∧
  (¬ (u0.1 40 1) < 0 → ((24 : Int32) ≤ (u0.1 40 1) → w_X9_put_40 n u0 Q) ∧
  (¬ (24 : Int32) ≤ (u0.1 40 1) → vp_in (u0.1 40 1) 24 ∧ (mlet (setI u0 66 (ix (u0.1 40 1)) (vp_nar .byte a0.toInt8.toInt32)) fun u1 =>
  mlet (setI u1 40 1 ((u1.1 40 1) + (1 : Int32))) fun u2 =>
  w_X9_put_40 n u2 Q)))
set_option maxRecDepth 20000 in
theorem s_X9_put_40 {g : Gb} (hg : xInj g) {n : Nat} {Q : Mm → Prop} {u0 : Mm} (h : w_X9_put_40 n  u0 Q) : xE g me_X9_put (pV g Q noT) 40 [] [] u0 := by
  unfold w_X9_put_40 at h
  exact e_vret (k := 22) rfl rfl (Or.inl ⟨rfl, h⟩)
set_option maxRecDepth 20000 in
theorem c_X9_put {g : Gb} (hg : xInj g) {n : Nat} {a0 : Int32} {u0 : Mm} {Q : Mm → Prop} (h : w_X9_put n a0 u0 Q) : xMet (gL g) yX9_put (xws yX9_put cX9_put 2 none) (xRoom 1) (xPc g [.ref (gR g 40), .int a0] u0) (xQ g (pV g Q noT)) (xA g) := by
  refine xbody (il := il_X9_put) hg il_X9_put_ok m_X9_put (Nat.le_of_ble_eq_true rfl) ?_
  show xE g me_X9_put (pV g Q noT) 0 [(0, .ref (gR g 40)), (1, .int a0)] [] u0
  unfold w_X9_put at h
  refine e_aload_n (k := 0) (i := 0) rfl rfl 0 rfl ?_
  refine e_getI (k := 1) rfl f_X9_15 rfl rfl ?_
  refine e_if_lt (k := 2) (tgt := 40) rfl (by decide) (fun z => ?_) (fun z => ?_)
  · have h := h.1 z
    refine e_sub (lv' := []) [] rfl ?_
    exact s_X9_put_40 hg h
  · have h := h.2 z
    refine e_aload_n (k := 3) (i := 0) rfl rfl 0 rfl ?_
    refine e_getI (k := 4) rfl f_X9_15 rfl rfl ?_
    refine e_aload_n (k := 5) (i := 0) rfl rfl 0 rfl ?_
    refine e_getC (k := 6) rfl f_X9_9 rfl rfl ?_
    refine e_alen (k := 7) (v := (24 : Int32)) rfl rfl (by decide) (by decide) ?_
    refine e_icmp_ge (k := 8) (tgt := 40) rfl (by decide) (fun z => ?_) (fun z => ?_)
    · have h := h.1 z
      refine e_sub (lv' := []) [] rfl ?_
      exact s_X9_put_40 hg h
    · have h := h.2 z
      refine e_aload_n (k := 9) (i := 0) rfl rfl 0 rfl ?_
      refine e_getC (k := 10) rfl f_X9_9 rfl rfl ?_
      refine e_aload_n (k := 11) (i := 0) rfl rfl 0 rfl ?_
      refine e_getI (k := 12) rfl f_X9_15 rfl rfl ?_
      refine e_iload_n (k := 13) (i := 1) rfl rfl 1 rfl ?_
      refine e_i2b (k := 14) rfl ?_
      refine e_bast (k := 15) rfl rfl h.1 ?_
      have h := h.2
      refine e_mlet h (fun u1 h => ?_)
      refine e_aload_n (k := 16) (i := 0) rfl rfl 0 rfl ?_
      refine e_dup (k := 17) rfl rfl ?_
      refine e_getI (k := 18) rfl f_X9_15 rfl rfl ?_
      refine e_iconst (k := 19) (v := (1 : Int32)) rfl (by decide) ?_
      refine e_iadd (k := 20) rfl ?_
      refine e_putI (k := 21) rfl fg_X9_15 rfl rfl ?_
      refine e_mlet h (fun u2 h => ?_)
      refine e_sub (lv' := []) [] rfl ?_
      exact s_X9_put_40 hg h
def il_J0_length_8abf5 : List (Nat × Instr × Nat) := [(0, .aload_n 0, 1), (1, .getfield 9, 3), (4, .arraylength, 1), (5, .aload_n 0, 1), (6, .invokevirtual 335, 3), (9, .ishr, 1), (10, .ireturn, 1)]
set_option maxRecDepth 20000 in
theorem il_J0_length_8abf5_ok : ∀ x ∈ il_J0_length_8abf5, decode cJ0_length_8abf5 x.1 = .ok x.2 := by decide +kernel
abbrev me_J0_length_8abf5 : Me := (RJ0, il_J0_length_8abf5, 1, (some .int), xRoom 2, [])
def w_J0_length_8abf5 (n : Nat) (q : Nat) (u0 : Mm) (Q : Int32 → Mm → Prop) : Prop :=
  w_J0_coder_7d493 n q u0 (fun r1 u1 =>
  Q ((Int32.ofNat (xtx.getD q []).length) >>> (r1 &&& 31)) u1)
set_option maxRecDepth 20000 in
theorem c_J0_length_8abf5 {g : Gb} (hg : xInj g) {n : Nat} {q : Nat} (hq : q < xtx.length) {u0 : Mm} {Q : Int32 → Mm → Prop} (h : w_J0_length_8abf5 n q u0 Q) : xMet (gL g) yJ0_length_8abf5 (xws yJ0_length_8abf5 cJ0_length_8abf5 1 (some .int)) (xRoom 2) (xPc g [.ref (gK g q)] u0) (xQ g (pI g Q noT)) (xA g) := by
  refine xbody (il := il_J0_length_8abf5) hg il_J0_length_8abf5_ok m_J0_length_8abf5 (Nat.le_of_ble_eq_true rfl) ?_
  show xE g me_J0_length_8abf5 (pI g Q noT) 0 [(0, .ref (gK g q))] [] u0
  unfold w_J0_length_8abf5 at h
  refine e_aload_n (k := 0) (i := 0) rfl rfl 0 rfl ?_
  refine e_strV (k := 1) rfl fs_J0_9 hq ?_
  refine e_svlen (k := 2) rfl hq ?_
  refine e_aload_n (k := 3) (i := 0) rfl rfl 0 rfl ?_
  refine e_callKi (k := 4) (j := q) (As := []) (rest := [.int (Int32.ofNat (xtx.getD q []).length)]) rfl (c_J0_coder_7d493 (g := g) hg (n := n) hq h) m_J0_coder_7d493 i_J0_coder_7d493 l_J0_335 hq rfl rfl rfl (Nat.le_of_ble_eq_true rfl) ⟨by decide, by decide, rfl, rfl⟩ (fun r1 u1 h => ?_)
  refine e_ishr (k := 5) rfl ?_
  exact e_iret (k := 6) rfl rfl (Or.inl ⟨_, rfl, h⟩)
def il_J1_indexOf_4cfef : List (Nat × Instr × Nat) := [(0, .iload_n 1, 1), (1, .invokestatic 88, 3), (4, .ifCond .ne 5, 3), (7, .iconst (-1), 1), (8, .ireturn, 1), (9, .iload_n 2, 1), (10, .iconst 0, 1), (11, .invokestatic 92, 3), (14, .istore_n 2, 1), (15, .iload_n 3, 1), (16, .aload_n 0, 1), (17, .arraylength, 1), (18, .invokestatic 38, 3), (21, .istore_n 3, 1), (22, .iload_n 2, 1), (23, .iload_n 3, 1), (24, .if_icmp .lt 5, 3), (27, .iconst (-1), 1), (28, .ireturn, 1), (29, .aload_n 0, 1), (30, .iload_n 1, 1), (31, .iload_n 2, 1), (32, .iload_n 3, 1), (33, .invokestatic 95, 3), (36, .ireturn, 1)]
set_option maxRecDepth 20000 in
theorem il_J1_indexOf_4cfef_ok : ∀ x ∈ il_J1_indexOf_4cfef, decode cJ1_indexOf_4cfef x.1 = .ok x.2 := by decide +kernel
abbrev me_J1_indexOf_4cfef : Me := (RJ1, il_J1_indexOf_4cfef, 4, (some .int), xRoom 2, [])
def w_J1_indexOf_4cfef (n : Nat) (a0 : Nat) (a1 : Int32) (a2 : Int32) (a3 : Int32) (u0 : Mm) (Q : Int32 → Mm → Prop) : Prop :=
  w_J1_canEncode_9a6ad n a1 u0 (fun r1 u1 =>
  (¬ r1 = 0 → ilet (if a2 < (0 : Int32) then (0 : Int32) else a2) fun y1 =>
  ilet (if (Int32.ofNat (xtx.getD a0 []).length) < a3 then (Int32.ofNat (xtx.getD a0 []).length) else a3) fun y2 =>
  (y1 < y2 → w_J1_indexOfChar_4cfef n a0 a1 y1 y2 u1 (fun r2 u2 =>
  Q r2 u2)) ∧
  (¬ y1 < y2 → Q (-1 : Int32) u1)) ∧
  (r1 = 0 → Q (-1 : Int32) u1))
set_option maxRecDepth 20000 in
theorem c_J1_indexOf_4cfef {g : Gb} (hg : xInj g) {n : Nat} {a0 : Nat} {a1 : Int32} {a2 : Int32} {a3 : Int32} (ha0 : a0 < xtx.length) {u0 : Mm} {Q : Int32 → Mm → Prop} (h : w_J1_indexOf_4cfef n a0 a1 a2 a3 u0 Q) : xMet (gL g) yJ1_indexOf_4cfef (xws yJ1_indexOf_4cfef cJ1_indexOf_4cfef 4 (some .int)) (xRoom 2) (xPc g [.ref (gV g a0), .int a1, .int a2, .int a3] u0) (xQ g (pI g Q noT)) (xA g) := by
  refine xbody (il := il_J1_indexOf_4cfef) hg il_J1_indexOf_4cfef_ok m_J1_indexOf_4cfef (Nat.le_of_ble_eq_true rfl) ?_
  show xE g me_J1_indexOf_4cfef (pI g Q noT) 0 [(0, .ref (gV g a0)), (1, .int a1), (2, .int a2), (3, .int a3)] [] u0
  unfold w_J1_indexOf_4cfef at h
  refine e_iload_n (k := 0) (i := 1) rfl rfl 1 rfl ?_
  refine e_callSi (k := 1) (As := [.int a1]) (rest := []) rfl (c_J1_canEncode_9a6ad (g := g) hg (n := n) h) m_J1_canEncode_9a6ad st_J1_canEncode_9a6ad l_J1_88 rfl rfl (Nat.le_of_ble_eq_true rfl) ⟨by decide, by decide, rfl, rfl⟩ (fun _ h => h.elim) (fun r1 u1 h => ?_)
  refine e_if_ne (k := 2) (tgt := 9) rfl (by decide) (fun z => ?_) (fun z => ?_)
  · have h := h.1 z
    refine e_iload_n (k := 5) (i := 2) rfl rfl 2 rfl ?_
    refine e_iconst (k := 6) (v := (0 : Int32)) rfl (by decide) ?_
    refine e_mmax (k := 7) rfl l_J1_92 st_J9_max_7cf53 h9_ini h9_max (by decide) (Nat.le_of_ble_eq_true rfl) ?_
    refine e_ilet h (fun y1 h => ?_)
    refine e_istore_n (k := 8) (i := 2) (lv' := [(0, .ref (gV g a0)), (1, .int a1), (2, .int y1), (3, .int a3)]) rfl rfl (by decide) [1, 2, 0, 3] rfl ?_
    refine e_iload_n (k := 9) (i := 3) rfl rfl 3 rfl ?_
    refine e_aload_n (k := 10) (i := 0) rfl rfl 0 rfl ?_
    refine e_svlen (k := 11) rfl ha0 ?_
    refine e_mmin (k := 12) rfl l_J1_38 st_J9_min_7cf53 h9_ini h9_min (by decide) (Nat.le_of_ble_eq_true rfl) ?_
    refine e_ilet h (fun y2 h => ?_)
    refine e_istore_n (k := 13) (i := 3) (lv' := [(0, .ref (gV g a0)), (1, .int a1), (2, .int y1), (3, .int y2)]) rfl rfl (by decide) [1, 2, 3, 0] rfl ?_
    refine e_iload_n (k := 14) (i := 2) rfl rfl 2 rfl ?_
    refine e_iload_n (k := 15) (i := 3) rfl rfl 3 rfl ?_
    refine e_icmp_lt (k := 16) (tgt := 29) rfl (by decide) (fun z => ?_) (fun z => ?_)
    · have h := h.1 z
      refine e_aload_n (k := 19) (i := 0) rfl rfl 0 rfl ?_
      refine e_iload_n (k := 20) (i := 1) rfl rfl 1 rfl ?_
      refine e_iload_n (k := 21) (i := 2) rfl rfl 2 rfl ?_
      refine e_iload_n (k := 22) (i := 3) rfl rfl 3 rfl ?_
      refine e_callSi (k := 23) (As := [.ref (gV g a0), .int a1, .int y1, .int y2]) (rest := []) rfl (c_J1_indexOfChar_4cfef (g := g) hg (n := n) ha0 h) m_J1_indexOfChar_4cfef st_J1_indexOfChar_4cfef l_J1_95 rfl rfl (Nat.le_of_ble_eq_true rfl) ⟨by decide, by decide, rfl, rfl⟩ (fun _ h => h.elim) (fun r2 u2 h => ?_)
      exact e_iret (k := 24) rfl rfl (Or.inl ⟨_, rfl, h⟩)
    · have h := h.2 z
      refine e_iconst (k := 17) (v := (-1 : Int32)) rfl (by decide) ?_
      exact e_iret (k := 18) rfl rfl (Or.inl ⟨_, rfl, h⟩)
  · have h := h.2 z
    refine e_iconst (k := 3) (v := (-1 : Int32)) rfl (by decide) ?_
    exact e_iret (k := 4) rfl rfl (Or.inl ⟨_, rfl, h⟩)
def il_X10_feed : List (Nat × Instr × Nat) := [(0, .aload_n 0, 1), (1, .getfield 68, 3), (4, .bipush 20, 2), (6, .iadd, 1), (7, .sipush 2400, 3), (10, .if_icmp .le 6, 3), (13, .bipush (-3), 2), (15, .ireturn, 1), (16, .aload_n 0, 1), (17, .iload_n 1, 1), (18, .invokevirtual 79, 3), (21, .aload_n 0, 1), (22, .iload_n 2, 1), (23, .invokevirtual 79, 3), (26, .aload_n 0, 1), (27, .iload_n 3, 1), (28, .invokevirtual 79, 3), (31, .aload_n 0, 1), (32, .iload 4, 2), (34, .invokevirtual 79, 3), (37, .aload_n 0, 1), (38, .iload 5, 2), (40, .invokevirtual 79, 3), (43, .aload_n 0, 1), (44, .getfield 68, 3), (47, .ireturn, 1)]
set_option maxRecDepth 20000 in
theorem il_X10_feed_ok : ∀ x ∈ il_X10_feed, decode cX10_feed x.1 = .ok x.2 := by decide +kernel
abbrev me_X10_feed : Me := (RX10, il_X10_feed, 6, (some .int), xRoom 2, [])
def w_X10_feed (n : Nat) (a0 : Int32) (a1 : Int32) (a2 : Int32) (a3 : Int32) (a4 : Int32) (u0 : Mm) (Q : Int32 → Mm → Prop) : Prop :=
  (((u0.1 32 6) + (20 : Int32)) ≤ (2400 : Int32) → w_X10_putNumber n a0 u0 (fun u1 =>
  w_X10_putNumber n a1 u1 (fun u2 =>
  w_X10_putNumber n a2 u2 (fun u3 =>
  w_X10_putNumber n a3 u3 (fun u4 =>
  w_X10_putNumber n a4 u4 (fun u5 =>
  Q (u5.1 32 6) u5)))))) ∧
  (¬ ((u0.1 32 6) + (20 : Int32)) ≤ (2400 : Int32) → Q (-3 : Int32) u0)
set_option maxRecDepth 20000 in
theorem c_X10_feed {g : Gb} (hg : xInj g) {n : Nat} {a0 : Int32} {a1 : Int32} {a2 : Int32} {a3 : Int32} {a4 : Int32} {u0 : Mm} {Q : Int32 → Mm → Prop} (h : w_X10_feed n a0 a1 a2 a3 a4 u0 Q) : xMet (gL g) yX10_feed (xws yX10_feed cX10_feed 6 (some .int)) (xRoom 2) (xPc g [.ref (gR g 32), .int a0, .int a1, .int a2, .int a3, .int a4] u0) (xQ g (pI g Q noT)) (xA g) := by
  refine xbody (il := il_X10_feed) hg il_X10_feed_ok m_X10_feed (Nat.le_of_ble_eq_true rfl) ?_
  show xE g me_X10_feed (pI g Q noT) 0 [(0, .ref (gR g 32)), (1, .int a0), (2, .int a1), (3, .int a2), (4, .int a3), (5, .int a4)] [] u0
  unfold w_X10_feed at h
  refine e_aload_n (k := 0) (i := 0) rfl rfl 0 rfl ?_
  refine e_getI (k := 1) rfl f_X10_68 rfl rfl ?_
  refine e_bipush (k := 2) (v := (20 : Int32)) rfl (by decide) ?_
  refine e_iadd (k := 3) rfl ?_
  refine e_sipush (k := 4) (v := (2400 : Int32)) rfl (by decide) ?_
  refine e_icmp_le (k := 5) (tgt := 16) rfl (by decide) (fun z => ?_) (fun z => ?_)
  · have h := h.1 z
    refine e_aload_n (k := 8) (i := 0) rfl rfl 0 rfl ?_
    refine e_iload_n (k := 9) (i := 1) rfl rfl 1 rfl ?_
    refine e_callVv (k := 10) (q := 32) (As := [.int a0]) (rest := []) rfl (c_X10_putNumber (g := g) hg (n := n) h) m_X10_putNumber i_X10_putNumber l_X10_79 rfl ⟨_, rfl, rfl⟩ rfl rfl (Nat.le_of_ble_eq_true rfl) ⟨by decide, by decide, rfl, rfl⟩ (fun _ h => h.elim) (fun u1 h => ?_)
    refine e_aload_n (k := 11) (i := 0) rfl rfl 0 rfl ?_
    refine e_iload_n (k := 12) (i := 2) rfl rfl 2 rfl ?_
    refine e_callVv (k := 13) (q := 32) (As := [.int a1]) (rest := []) rfl (c_X10_putNumber (g := g) hg (n := n) h) m_X10_putNumber i_X10_putNumber l_X10_79 rfl ⟨_, rfl, rfl⟩ rfl rfl (Nat.le_of_ble_eq_true rfl) ⟨by decide, by decide, rfl, rfl⟩ (fun _ h => h.elim) (fun u2 h => ?_)
    refine e_aload_n (k := 14) (i := 0) rfl rfl 0 rfl ?_
    refine e_iload_n (k := 15) (i := 3) rfl rfl 3 rfl ?_
    refine e_callVv (k := 16) (q := 32) (As := [.int a2]) (rest := []) rfl (c_X10_putNumber (g := g) hg (n := n) h) m_X10_putNumber i_X10_putNumber l_X10_79 rfl ⟨_, rfl, rfl⟩ rfl rfl (Nat.le_of_ble_eq_true rfl) ⟨by decide, by decide, rfl, rfl⟩ (fun _ h => h.elim) (fun u3 h => ?_)
    refine e_aload_n (k := 17) (i := 0) rfl rfl 0 rfl ?_
    refine e_iload (k := 18) (i := 4) rfl 4 rfl ?_
    refine e_callVv (k := 19) (q := 32) (As := [.int a3]) (rest := []) rfl (c_X10_putNumber (g := g) hg (n := n) h) m_X10_putNumber i_X10_putNumber l_X10_79 rfl ⟨_, rfl, rfl⟩ rfl rfl (Nat.le_of_ble_eq_true rfl) ⟨by decide, by decide, rfl, rfl⟩ (fun _ h => h.elim) (fun u4 h => ?_)
    refine e_aload_n (k := 20) (i := 0) rfl rfl 0 rfl ?_
    refine e_iload (k := 21) (i := 5) rfl 5 rfl ?_
    refine e_callVv (k := 22) (q := 32) (As := [.int a4]) (rest := []) rfl (c_X10_putNumber (g := g) hg (n := n) h) m_X10_putNumber i_X10_putNumber l_X10_79 rfl ⟨_, rfl, rfl⟩ rfl rfl (Nat.le_of_ble_eq_true rfl) ⟨by decide, by decide, rfl, rfl⟩ (fun _ h => h.elim) (fun u5 h => ?_)
    refine e_aload_n (k := 23) (i := 0) rfl rfl 0 rfl ?_
    refine e_getI (k := 24) rfl f_X10_68 rfl rfl ?_
    exact e_iret (k := 25) rfl rfl (Or.inl ⟨_, rfl, h⟩)
  · have h := h.2 z
    refine e_bipush (k := 6) (v := (-3 : Int32)) rfl (by decide) ?_
    exact e_iret (k := 7) rfl rfl (Or.inl ⟨_, rfl, h⟩)
def il_X10_hasMeasure : List (Nat × Instr × Nat) := [(0, .aload_n 0, 1), (1, .iload_n 1, 1), (2, .invokevirtual 150, 3), (5, .ifCond .eq 26, 3), (8, .iload_n 2, 1), (9, .ifCond .lt 22, 3), (12, .iload_n 2, 1), (13, .aload_n 0, 1), (14, .getfield 36, 3), (17, .iload_n 1, 1), (18, .invokevirtual 153, 3), (21, .getfield 157, 3), (24, .if_icmp .ge 7, 3), (27, .iconst 1, 1), (28, .goto 4, 3), (31, .iconst 0, 1), (32, .ireturn, 1)]
set_option maxRecDepth 20000 in
theorem il_X10_hasMeasure_ok : ∀ x ∈ il_X10_hasMeasure, decode cX10_hasMeasure x.1 = .ok x.2 := by decide +kernel
abbrev me_X10_hasMeasure : Me := (RX10, il_X10_hasMeasure, 3, (some .boolean), xRoom 2, [])
def w_X10_hasMeasure_32 (n : Nat) (t0 : Int32) (u0 : Mm) (Q : Int32 → Mm → Prop) : Prop :=
  narrow .boolean (.int t0) = .int t0 ∧ Q t0 u0
def w_X10_hasMeasure_31 (n : Nat) (u0 : Mm) (Q : Int32 → Mm → Prop) : Prop :=
  w_X10_hasMeasure_32 n (0 : Int32) u0 Q
def w_X10_hasMeasure (n : Nat) (a0 : Int32) (a1 : Int32) (u0 : Mm) (Q : Int32 → Mm → Prop) : Prop :=
  w_X10_hasVoice n a0 u0 (fun r1 u1 =>
  (r1 = 0 → w_X10_hasMeasure_31 n u1 Q) ∧
  (¬ r1 = 0 → (a1 < 0 → w_X10_hasMeasure_31 n u1 Q) ∧
  (¬ a1 < 0 → w_X7_voiceOf n a0 u1 (fun r2 u2 =>
  ((u2.1 r2 4) ≤ a1 → w_X10_hasMeasure_31 n u2 Q) ∧
  (¬ (u2.1 r2 4) ≤ a1 → w_X10_hasMeasure_32 n (1 : Int32) u2 Q)))))
set_option maxRecDepth 20000 in
theorem s_X10_hasMeasure_32 {g : Gb} (hg : xInj g) {n : Nat} {Q : Int32 → Mm → Prop} {t0 : Int32} {u0 : Mm} (h : w_X10_hasMeasure_32 n t0 u0 Q) : xE g me_X10_hasMeasure (pI g Q noT) 32 [] [.int t0] u0 := by
  unfold w_X10_hasMeasure_32 at h
  exact e_zret (k := 16) rfl rfl h.1 (Or.inl ⟨_, rfl, h.2⟩)
set_option maxRecDepth 20000 in
theorem s_X10_hasMeasure_31 {g : Gb} (hg : xInj g) {n : Nat} {Q : Int32 → Mm → Prop} {u0 : Mm} (h : w_X10_hasMeasure_31 n  u0 Q) : xE g me_X10_hasMeasure (pI g Q noT) 31 [] [] u0 := by
  unfold w_X10_hasMeasure_31 at h
  refine e_iconst (k := 15) (v := (0 : Int32)) rfl (by decide) ?_
  exact s_X10_hasMeasure_32 hg h
set_option maxRecDepth 20000 in
theorem c_X10_hasMeasure {g : Gb} (hg : xInj g) {n : Nat} {a0 : Int32} {a1 : Int32} {u0 : Mm} {Q : Int32 → Mm → Prop} (h : w_X10_hasMeasure n a0 a1 u0 Q) : xMet (gL g) yX10_hasMeasure (xws yX10_hasMeasure cX10_hasMeasure 3 (some .boolean)) (xRoom 2) (xPc g [.ref (gR g 32), .int a0, .int a1] u0) (xQ g (pI g Q noT)) (xA g) := by
  refine xbody (il := il_X10_hasMeasure) hg il_X10_hasMeasure_ok m_X10_hasMeasure (Nat.le_of_ble_eq_true rfl) ?_
  show xE g me_X10_hasMeasure (pI g Q noT) 0 [(0, .ref (gR g 32)), (1, .int a0), (2, .int a1)] [] u0
  unfold w_X10_hasMeasure at h
  refine e_aload_n (k := 0) (i := 0) rfl rfl 0 rfl ?_
  refine e_iload_n (k := 1) (i := 1) rfl rfl 1 rfl ?_
  refine e_callVi (k := 2) (q := 32) (As := [.int a0]) (rest := []) rfl (c_X10_hasVoice (g := g) hg (n := n) h) m_X10_hasVoice i_X10_hasVoice l_X10_150 rfl ⟨_, rfl, rfl⟩ rfl rfl (Nat.le_of_ble_eq_true rfl) ⟨by decide, by decide, rfl, rfl⟩ (fun _ h => h.elim) (fun r1 u1 h => ?_)
  refine e_if_eq (k := 3) (tgt := 31) rfl (by decide) (fun z => ?_) (fun z => ?_)
  · have h := h.1 z
    refine e_sub (lv' := []) [] rfl ?_
    exact s_X10_hasMeasure_31 hg h
  · have h := h.2 z
    refine e_iload_n (k := 4) (i := 2) rfl rfl 2 rfl ?_
    refine e_if_lt (k := 5) (tgt := 31) rfl (by decide) (fun z => ?_) (fun z => ?_)
    · have h := h.1 z
      refine e_sub (lv' := []) [] rfl ?_
      exact s_X10_hasMeasure_31 hg h
    · have h := h.2 z
      refine e_iload_n (k := 6) (i := 2) rfl rfl 2 rfl ?_
      refine e_aload_n (k := 7) (i := 0) rfl rfl 0 rfl ?_
      refine e_getC (k := 8) rfl f_X10_36 rfl rfl ?_
      refine e_iload_n (k := 9) (i := 1) rfl rfl 1 rfl ?_
      refine e_callVr (k := 10) (q := 35) (As := [.int a0]) (rest := [.int a1]) rfl (c_X7_voiceOf (g := g) hg (n := n) h) m_X7_voiceOf i_X7_voiceOf l_X10_153 rfl ⟨_, rfl, rfl⟩ rfl rfl (Nat.le_of_ble_eq_true rfl) ⟨by decide, by decide, rfl, rfl⟩ (fun _ h => h.elim) (fun r2 u2 hr2 h => ?_)
      refine e_getI (k := 11) rfl f_X10_157 hr2 rfl ?_
      refine e_icmp_ge (k := 12) (tgt := 31) rfl (by decide) (fun z => ?_) (fun z => ?_)
      · have h := h.1 z
        refine e_sub (lv' := []) [] rfl ?_
        exact s_X10_hasMeasure_31 hg h
      · have h := h.2 z
        refine e_iconst (k := 13) (v := (1 : Int32)) rfl (by decide) ?_
        refine e_goto (k := 14) (tgt := 32) rfl (by decide) ?_
        refine e_sub (lv' := []) [] rfl ?_
        exact s_X10_hasMeasure_32 hg h
def il_X10_head : List (Nat × Instr × Nat) := [(0, .aload_n 0, 1), (1, .getfield 72, 3), (4, .ifCond .eq 14, 3), (7, .aload_n 0, 1), (8, .getfield 36, 3), (11, .iload_n 1, 1), (12, .invokevirtual 117, 3), (15, .goto 4, 3), (18, .iconst (-1), 1), (19, .ireturn, 1)]
set_option maxRecDepth 20000 in
theorem il_X10_head_ok : ∀ x ∈ il_X10_head, decode cX10_head x.1 = .ok x.2 := by decide +kernel
abbrev me_X10_head : Me := (RX10, il_X10_head, 2, (some .int), xRoom 2, [])
def w_X10_head_19 (n : Nat) (t0 : Int32) (u0 : Mm) (Q : Int32 → Mm → Prop) : Prop :=
  Q t0 u0
def w_X10_head (n : Nat) (a0 : Int32) (u0 : Mm) (Q : Int32 → Mm → Prop) : Prop :=
  ((u0.1 32 7) = 0 → w_X10_head_19 n (-1 : Int32) u0 Q) ∧
  (¬ (u0.1 32 7) = 0 → w_X7_headOf n a0 u0 (fun r1 u1 =>
  w_X10_head_19 n r1 u1 Q))
set_option maxRecDepth 20000 in
theorem s_X10_head_19 {g : Gb} (hg : xInj g) {n : Nat} {Q : Int32 → Mm → Prop} {t0 : Int32} {u0 : Mm} (h : w_X10_head_19 n t0 u0 Q) : xE g me_X10_head (pI g Q noT) 19 [] [.int t0] u0 := by
  unfold w_X10_head_19 at h
  exact e_iret (k := 9) rfl rfl (Or.inl ⟨_, rfl, h⟩)
set_option maxRecDepth 20000 in
theorem c_X10_head {g : Gb} (hg : xInj g) {n : Nat} {a0 : Int32} {u0 : Mm} {Q : Int32 → Mm → Prop} (h : w_X10_head n a0 u0 Q) : xMet (gL g) yX10_head (xws yX10_head cX10_head 2 (some .int)) (xRoom 2) (xPc g [.ref (gR g 32), .int a0] u0) (xQ g (pI g Q noT)) (xA g) := by
  refine xbody (il := il_X10_head) hg il_X10_head_ok m_X10_head (Nat.le_of_ble_eq_true rfl) ?_
  show xE g me_X10_head (pI g Q noT) 0 [(0, .ref (gR g 32)), (1, .int a0)] [] u0
  unfold w_X10_head at h
  refine e_aload_n (k := 0) (i := 0) rfl rfl 0 rfl ?_
  refine e_getI (k := 1) rfl f_X10_72 rfl rfl ?_
  refine e_if_eq (k := 2) (tgt := 18) rfl (by decide) (fun z => ?_) (fun z => ?_)
  · have h := h.1 z
    refine e_iconst (k := 8) (v := (-1 : Int32)) rfl (by decide) ?_
    refine e_sub (lv' := []) [] rfl ?_
    exact s_X10_head_19 hg h
  · have h := h.2 z
    refine e_aload_n (k := 3) (i := 0) rfl rfl 0 rfl ?_
    refine e_getC (k := 4) rfl f_X10_36 rfl rfl ?_
    refine e_iload_n (k := 5) (i := 1) rfl rfl 1 rfl ?_
    refine e_callVi (k := 6) (q := 35) (As := [.int a0]) (rest := []) rfl (c_X7_headOf (g := g) hg (n := n) h) m_X7_headOf i_X7_headOf l_X10_117 rfl ⟨_, rfl, rfl⟩ rfl rfl (Nat.le_of_ble_eq_true rfl) ⟨by decide, by decide, rfl, rfl⟩ (fun _ h => h.elim) (fun r1 u1 h => ?_)
    refine e_goto (k := 7) (tgt := 19) rfl (by decide) ?_
    refine e_sub (lv' := []) [] rfl ?_
    exact s_X10_head_19 hg h
def il_X10_measures : List (Nat × Instr × Nat) := [(0, .aload_n 0, 1), (1, .iload_n 1, 1), (2, .invokevirtual 150, 3), (5, .ifCond .eq 17, 3), (8, .aload_n 0, 1), (9, .getfield 36, 3), (12, .iload_n 1, 1), (13, .invokevirtual 153, 3), (16, .getfield 157, 3), (19, .goto 4, 3), (22, .iconst (-1), 1), (23, .ireturn, 1)]
set_option maxRecDepth 20000 in
theorem il_X10_measures_ok : ∀ x ∈ il_X10_measures, decode cX10_measures x.1 = .ok x.2 := by decide +kernel
abbrev me_X10_measures : Me := (RX10, il_X10_measures, 2, (some .int), xRoom 2, [])
def w_X10_measures_23 (n : Nat) (t0 : Int32) (u0 : Mm) (Q : Int32 → Mm → Prop) : Prop :=
  Q t0 u0
def w_X10_measures (n : Nat) (a0 : Int32) (u0 : Mm) (Q : Int32 → Mm → Prop) : Prop :=
  w_X10_hasVoice n a0 u0 (fun r1 u1 =>
  (r1 = 0 → w_X10_measures_23 n (-1 : Int32) u1 Q) ∧
  (¬ r1 = 0 → w_X7_voiceOf n a0 u1 (fun r2 u2 =>
  w_X10_measures_23 n (u2.1 r2 4) u2 Q)))
set_option maxRecDepth 20000 in
theorem s_X10_measures_23 {g : Gb} (hg : xInj g) {n : Nat} {Q : Int32 → Mm → Prop} {t0 : Int32} {u0 : Mm} (h : w_X10_measures_23 n t0 u0 Q) : xE g me_X10_measures (pI g Q noT) 23 [] [.int t0] u0 := by
  unfold w_X10_measures_23 at h
  exact e_iret (k := 11) rfl rfl (Or.inl ⟨_, rfl, h⟩)
set_option maxRecDepth 20000 in
theorem c_X10_measures {g : Gb} (hg : xInj g) {n : Nat} {a0 : Int32} {u0 : Mm} {Q : Int32 → Mm → Prop} (h : w_X10_measures n a0 u0 Q) : xMet (gL g) yX10_measures (xws yX10_measures cX10_measures 2 (some .int)) (xRoom 2) (xPc g [.ref (gR g 32), .int a0] u0) (xQ g (pI g Q noT)) (xA g) := by
  refine xbody (il := il_X10_measures) hg il_X10_measures_ok m_X10_measures (Nat.le_of_ble_eq_true rfl) ?_
  show xE g me_X10_measures (pI g Q noT) 0 [(0, .ref (gR g 32)), (1, .int a0)] [] u0
  unfold w_X10_measures at h
  refine e_aload_n (k := 0) (i := 0) rfl rfl 0 rfl ?_
  refine e_iload_n (k := 1) (i := 1) rfl rfl 1 rfl ?_
  refine e_callVi (k := 2) (q := 32) (As := [.int a0]) (rest := []) rfl (c_X10_hasVoice (g := g) hg (n := n) h) m_X10_hasVoice i_X10_hasVoice l_X10_150 rfl ⟨_, rfl, rfl⟩ rfl rfl (Nat.le_of_ble_eq_true rfl) ⟨by decide, by decide, rfl, rfl⟩ (fun _ h => h.elim) (fun r1 u1 h => ?_)
  refine e_if_eq (k := 3) (tgt := 22) rfl (by decide) (fun z => ?_) (fun z => ?_)
  · have h := h.1 z
    refine e_iconst (k := 10) (v := (-1 : Int32)) rfl (by decide) ?_
    refine e_sub (lv' := []) [] rfl ?_
    exact s_X10_measures_23 hg h
  · have h := h.2 z
    refine e_aload_n (k := 4) (i := 0) rfl rfl 0 rfl ?_
    refine e_getC (k := 5) rfl f_X10_36 rfl rfl ?_
    refine e_iload_n (k := 6) (i := 1) rfl rfl 1 rfl ?_
    refine e_callVr (k := 7) (q := 35) (As := [.int a0]) (rest := []) rfl (c_X7_voiceOf (g := g) hg (n := n) h) m_X7_voiceOf i_X7_voiceOf l_X10_153 rfl ⟨_, rfl, rfl⟩ rfl rfl (Nat.le_of_ble_eq_true rfl) ⟨by decide, by decide, rfl, rfl⟩ (fun _ h => h.elim) (fun r2 u2 hr2 h => ?_)
    refine e_getI (k := 8) rfl f_X10_157 hr2 rfl ?_
    refine e_goto (k := 9) (tgt := 23) rfl (by decide) ?_
    refine e_sub (lv' := []) [] rfl ?_
    exact s_X10_measures_23 hg h
def il_X10_start : List (Nat × Instr × Nat) := [(0, .aload_n 0, 1), (1, .iload_n 1, 1), (2, .invokevirtual 134, 3), (5, .ifCond .eq 17, 3), (8, .aload_n 0, 1), (9, .getfield 36, 3), (12, .getfield 108, 3), (15, .iload_n 1, 1), (16, .invokevirtual 147, 3), (19, .goto 6, 3), (22, .ldc2_w 145, 3), (25, .lreturn, 1)]
set_option maxRecDepth 20000 in
theorem il_X10_start_ok : ∀ x ∈ il_X10_start, decode cX10_start x.1 = .ok x.2 := by decide +kernel
abbrev me_X10_start : Me := (RX10, il_X10_start, 2, (some .long), xRoom 2, [])
def w_X10_start_25 (n : Nat) (t0 : Int64) (u0 : Mm) (Q : Int64 → Mm → Prop) : Prop :=
  Q t0 u0
def w_X10_start (n : Nat) (a0 : Int32) (u0 : Mm) (Q : Int64 → Mm → Prop) : Prop :=
  w_X10_hasThing n a0 u0 (fun r1 u1 =>
  (r1 = 0 → w_X10_start_25 n (-1 : Int64) u1 Q) ∧
  (¬ r1 = 0 → w_X6_beginOf n a0 u1 (fun r2 u2 =>
  w_X10_start_25 n r2 u2 Q)))
set_option maxRecDepth 20000 in
theorem s_X10_start_25 {g : Gb} (hg : xInj g) {n : Nat} {Q : Int64 → Mm → Prop} {t0 : Int64} {u0 : Mm} (h : w_X10_start_25 n t0 u0 Q) : xE g me_X10_start (pL g Q noT) 25 [] [.long t0] u0 := by
  unfold w_X10_start_25 at h
  exact e_lret (k := 11) rfl rfl (Or.inl ⟨_, rfl, h⟩)
set_option maxRecDepth 20000 in
theorem c_X10_start {g : Gb} (hg : xInj g) {n : Nat} {a0 : Int32} {u0 : Mm} {Q : Int64 → Mm → Prop} (h : w_X10_start n a0 u0 Q) : xMet (gL g) yX10_start (xws yX10_start cX10_start 2 (some .long)) (xRoom 2) (xPc g [.ref (gR g 32), .int a0] u0) (xQ g (pL g Q noT)) (xA g) := by
  refine xbody (il := il_X10_start) hg il_X10_start_ok m_X10_start (Nat.le_of_ble_eq_true rfl) ?_
  show xE g me_X10_start (pL g Q noT) 0 [(0, .ref (gR g 32)), (1, .int a0)] [] u0
  unfold w_X10_start at h
  refine e_aload_n (k := 0) (i := 0) rfl rfl 0 rfl ?_
  refine e_iload_n (k := 1) (i := 1) rfl rfl 1 rfl ?_
  refine e_callVi (k := 2) (q := 32) (As := [.int a0]) (rest := []) rfl (c_X10_hasThing (g := g) hg (n := n) h) m_X10_hasThing i_X10_hasThing l_X10_134 rfl ⟨_, rfl, rfl⟩ rfl rfl (Nat.le_of_ble_eq_true rfl) ⟨by decide, by decide, rfl, rfl⟩ (fun _ h => h.elim) (fun r1 u1 h => ?_)
  refine e_if_eq (k := 3) (tgt := 22) rfl (by decide) (fun z => ?_) (fun z => ?_)
  · have h := h.1 z
    refine e_ldc2 (k := 10) rfl k_X10_145 ?_
    refine e_sub (lv' := []) [] rfl ?_
    exact s_X10_start_25 hg h
  · have h := h.2 z
    refine e_aload_n (k := 4) (i := 0) rfl rfl 0 rfl ?_
    refine e_getC (k := 5) rfl f_X10_36 rfl rfl ?_
    refine e_getC (k := 6) rfl f_X10_108 rfl rfl ?_
    refine e_iload_n (k := 7) (i := 1) rfl rfl 1 rfl ?_
    refine e_callVl (k := 8) (q := 36) (As := [.int a0]) (rest := []) rfl (c_X6_beginOf (g := g) hg (n := n) h) m_X6_beginOf i_X6_beginOf l_X10_147 rfl ⟨_, rfl, rfl⟩ rfl rfl (Nat.le_of_ble_eq_true rfl) ⟨by decide, by decide, rfl, rfl⟩ (fun _ h => h.elim) (fun r2 u2 h => ?_)
    refine e_goto (k := 9) (tgt := 25) rfl (by decide) ?_
    refine e_sub (lv' := []) [] rfl ?_
    exact s_X10_start_25 hg h
def il_X10_thing : List (Nat × Instr × Nat) := [(0, .aload_n 0, 1), (1, .iload_n 1, 1), (2, .invokevirtual 134, 3), (5, .ifCond .eq 13, 3), (8, .iload_n 2, 1), (9, .ifCond .lt 9, 3), (12, .iload_n 2, 1), (13, .bipush 16, 2), (15, .if_icmp .le 5, 3), (18, .iconst (-1), 1), (19, .ireturn, 1), (20, .aload_n 0, 1), (21, .getfield 36, 3), (24, .getfield 108, 3), (27, .iload_n 1, 1), (28, .iload_n 2, 1), (29, .invokevirtual 138, 3), (32, .ireturn, 1)]
set_option maxRecDepth 20000 in
theorem il_X10_thing_ok : ∀ x ∈ il_X10_thing, decode cX10_thing x.1 = .ok x.2 := by decide +kernel
abbrev me_X10_thing : Me := (RX10, il_X10_thing, 3, (some .int), xRoom 2, [])
def w_X10_thing_18 (n : Nat) (u0 : Mm) (Q : Int32 → Mm → Prop) : Prop :=
  Q (-1 : Int32) u0
def w_X10_thing (n : Nat) (a0 : Int32) (a1 : Int32) (u0 : Mm) (Q : Int32 → Mm → Prop) : Prop :=
  w_X10_hasThing n a0 u0 (fun r1 u1 =>
  (r1 = 0 → w_X10_thing_18 n u1 Q) ∧
  (¬ r1 = 0 → (a1 < 0 → w_X10_thing_18 n u1 Q) ∧
  (¬ a1 < 0 → (a1 ≤ (16 : Int32) → w_X6_cell n a0 a1 u1 (fun r2 u2 =>
  Q r2 u2)) ∧
  (¬ a1 ≤ (16 : Int32) → w_X10_thing_18 n u1 Q))))
set_option maxRecDepth 20000 in
theorem s_X10_thing_18 {g : Gb} (hg : xInj g) {n : Nat} {Q : Int32 → Mm → Prop} {u0 : Mm} (h : w_X10_thing_18 n  u0 Q) : xE g me_X10_thing (pI g Q noT) 18 [] [] u0 := by
  unfold w_X10_thing_18 at h
  refine e_iconst (k := 9) (v := (-1 : Int32)) rfl (by decide) ?_
  exact e_iret (k := 10) rfl rfl (Or.inl ⟨_, rfl, h⟩)
set_option maxRecDepth 20000 in
theorem c_X10_thing {g : Gb} (hg : xInj g) {n : Nat} {a0 : Int32} {a1 : Int32} {u0 : Mm} {Q : Int32 → Mm → Prop} (h : w_X10_thing n a0 a1 u0 Q) : xMet (gL g) yX10_thing (xws yX10_thing cX10_thing 3 (some .int)) (xRoom 2) (xPc g [.ref (gR g 32), .int a0, .int a1] u0) (xQ g (pI g Q noT)) (xA g) := by
  refine xbody (il := il_X10_thing) hg il_X10_thing_ok m_X10_thing (Nat.le_of_ble_eq_true rfl) ?_
  show xE g me_X10_thing (pI g Q noT) 0 [(0, .ref (gR g 32)), (1, .int a0), (2, .int a1)] [] u0
  unfold w_X10_thing at h
  refine e_aload_n (k := 0) (i := 0) rfl rfl 0 rfl ?_
  refine e_iload_n (k := 1) (i := 1) rfl rfl 1 rfl ?_
  refine e_callVi (k := 2) (q := 32) (As := [.int a0]) (rest := []) rfl (c_X10_hasThing (g := g) hg (n := n) h) m_X10_hasThing i_X10_hasThing l_X10_134 rfl ⟨_, rfl, rfl⟩ rfl rfl (Nat.le_of_ble_eq_true rfl) ⟨by decide, by decide, rfl, rfl⟩ (fun _ h => h.elim) (fun r1 u1 h => ?_)
  refine e_if_eq (k := 3) (tgt := 18) rfl (by decide) (fun z => ?_) (fun z => ?_)
  · have h := h.1 z
    refine e_sub (lv' := []) [] rfl ?_
    exact s_X10_thing_18 hg h
  · have h := h.2 z
    refine e_iload_n (k := 4) (i := 2) rfl rfl 2 rfl ?_
    refine e_if_lt (k := 5) (tgt := 18) rfl (by decide) (fun z => ?_) (fun z => ?_)
    · have h := h.1 z
      refine e_sub (lv' := []) [] rfl ?_
      exact s_X10_thing_18 hg h
    · have h := h.2 z
      refine e_iload_n (k := 6) (i := 2) rfl rfl 2 rfl ?_
      refine e_bipush (k := 7) (v := (16 : Int32)) rfl (by decide) ?_
      refine e_icmp_le (k := 8) (tgt := 20) rfl (by decide) (fun z => ?_) (fun z => ?_)
      · have h := h.1 z
        refine e_aload_n (k := 11) (i := 0) rfl rfl 0 rfl ?_
        refine e_getC (k := 12) rfl f_X10_36 rfl rfl ?_
        refine e_getC (k := 13) rfl f_X10_108 rfl rfl ?_
        refine e_iload_n (k := 14) (i := 1) rfl rfl 1 rfl ?_
        refine e_iload_n (k := 15) (i := 2) rfl rfl 2 rfl ?_
        refine e_callVi (k := 16) (q := 36) (As := [.int a0, .int a1]) (rest := []) rfl (c_X6_cell (g := g) hg (n := n) h) m_X6_cell i_X6_cell l_X10_138 rfl ⟨_, rfl, rfl⟩ rfl rfl (Nat.le_of_ble_eq_true rfl) ⟨by decide, by decide, rfl, rfl⟩ (fun _ h => h.elim) (fun r2 u2 h => ?_)
        exact e_iret (k := 17) rfl rfl (Or.inl ⟨_, rfl, h⟩)
      · have h := h.2 z
        refine e_sub (lv' := []) [] rfl ?_
        exact s_X10_thing_18 hg h
def il_X10_time : List (Nat × Instr × Nat) := [(0, .aload_n 0, 1), (1, .iload_n 1, 1), (2, .invokevirtual 134, 3), (5, .ifCond .eq 17, 3), (8, .aload_n 0, 1), (9, .getfield 36, 3), (12, .getfield 108, 3), (15, .iload_n 1, 1), (16, .invokevirtual 141, 3), (19, .goto 6, 3), (22, .ldc2_w 145, 3), (25, .lreturn, 1)]
set_option maxRecDepth 20000 in
theorem il_X10_time_ok : ∀ x ∈ il_X10_time, decode cX10_time x.1 = .ok x.2 := by decide +kernel
abbrev me_X10_time : Me := (RX10, il_X10_time, 2, (some .long), xRoom 2, [])
def w_X10_time_25 (n : Nat) (t0 : Int64) (u0 : Mm) (Q : Int64 → Mm → Prop) : Prop :=
  Q t0 u0
def w_X10_time (n : Nat) (a0 : Int32) (u0 : Mm) (Q : Int64 → Mm → Prop) : Prop :=
  w_X10_hasThing n a0 u0 (fun r1 u1 =>
  (r1 = 0 → w_X10_time_25 n (-1 : Int64) u1 Q) ∧
  (¬ r1 = 0 → w_X6_ticksOf n a0 u1 (fun r2 u2 =>
  w_X10_time_25 n r2 u2 Q)))
set_option maxRecDepth 20000 in
theorem s_X10_time_25 {g : Gb} (hg : xInj g) {n : Nat} {Q : Int64 → Mm → Prop} {t0 : Int64} {u0 : Mm} (h : w_X10_time_25 n t0 u0 Q) : xE g me_X10_time (pL g Q noT) 25 [] [.long t0] u0 := by
  unfold w_X10_time_25 at h
  exact e_lret (k := 11) rfl rfl (Or.inl ⟨_, rfl, h⟩)
set_option maxRecDepth 20000 in
theorem c_X10_time {g : Gb} (hg : xInj g) {n : Nat} {a0 : Int32} {u0 : Mm} {Q : Int64 → Mm → Prop} (h : w_X10_time n a0 u0 Q) : xMet (gL g) yX10_time (xws yX10_time cX10_time 2 (some .long)) (xRoom 2) (xPc g [.ref (gR g 32), .int a0] u0) (xQ g (pL g Q noT)) (xA g) := by
  refine xbody (il := il_X10_time) hg il_X10_time_ok m_X10_time (Nat.le_of_ble_eq_true rfl) ?_
  show xE g me_X10_time (pL g Q noT) 0 [(0, .ref (gR g 32)), (1, .int a0)] [] u0
  unfold w_X10_time at h
  refine e_aload_n (k := 0) (i := 0) rfl rfl 0 rfl ?_
  refine e_iload_n (k := 1) (i := 1) rfl rfl 1 rfl ?_
  refine e_callVi (k := 2) (q := 32) (As := [.int a0]) (rest := []) rfl (c_X10_hasThing (g := g) hg (n := n) h) m_X10_hasThing i_X10_hasThing l_X10_134 rfl ⟨_, rfl, rfl⟩ rfl rfl (Nat.le_of_ble_eq_true rfl) ⟨by decide, by decide, rfl, rfl⟩ (fun _ h => h.elim) (fun r1 u1 h => ?_)
  refine e_if_eq (k := 3) (tgt := 22) rfl (by decide) (fun z => ?_) (fun z => ?_)
  · have h := h.1 z
    refine e_ldc2 (k := 10) rfl k_X10_145 ?_
    refine e_sub (lv' := []) [] rfl ?_
    exact s_X10_time_25 hg h
  · have h := h.2 z
    refine e_aload_n (k := 4) (i := 0) rfl rfl 0 rfl ?_
    refine e_getC (k := 5) rfl f_X10_36 rfl rfl ?_
    refine e_getC (k := 6) rfl f_X10_108 rfl rfl ?_
    refine e_iload_n (k := 7) (i := 1) rfl rfl 1 rfl ?_
    refine e_callVl (k := 8) (q := 36) (As := [.int a0]) (rest := []) rfl (c_X6_ticksOf (g := g) hg (n := n) h) m_X6_ticksOf i_X6_ticksOf l_X10_141 rfl ⟨_, rfl, rfl⟩ rfl rfl (Nat.le_of_ble_eq_true rfl) ⟨by decide, by decide, rfl, rfl⟩ (fun _ h => h.elim) (fun r2 u2 h => ?_)
    refine e_goto (k := 9) (tgt := 25) rfl (by decide) ?_
    refine e_sub (lv' := []) [] rfl ?_
    exact s_X10_time_25 hg h
def il_X10_title : List (Nat × Instr × Nat) := [(0, .aload_n 0, 1), (1, .getfield 72, 3), (4, .ifCond .eq 23, 3), (7, .iload_n 1, 1), (8, .ifCond .lt 19, 3), (11, .iload_n 1, 1), (12, .aload_n 0, 1), (13, .getfield 36, 3), (16, .getfield 121, 3), (19, .if_icmp .ge 8, 3), (22, .iload_n 1, 1), (23, .iconst 3, 1), (24, .if_icmp .lt 5, 3), (27, .iconst (-1), 1), (28, .ireturn, 1), (29, .aload_n 0, 1), (30, .getfield 36, 3), (33, .getfield 124, 3), (36, .iload_n 1, 1), (37, .iaload, 1), (38, .istore_n 3, 1), (39, .iload_n 2, 1), (40, .iconst (-1), 1), (41, .if_icmp .ne 5, 3), (44, .iload_n 3, 1), (45, .ireturn, 1), (46, .iload_n 2, 1), (47, .ifCond .lt 29, 3), (50, .iload_n 2, 1), (51, .iload_n 3, 1), (52, .if_icmp .ge 24, 3), (55, .aload_n 0, 1), (56, .getfield 27, 3), (59, .aload_n 0, 1), (60, .getfield 36, 3), (63, .getfield 128, 3), (66, .iload_n 1, 1), (67, .iaload, 1), (68, .iload_n 2, 1), (69, .iadd, 1), (70, .invokevirtual 131, 3), (73, .goto 4, 3), (76, .iconst (-1), 1), (77, .ireturn, 1)]
set_option maxRecDepth 20000 in
theorem il_X10_title_ok : ∀ x ∈ il_X10_title, decode cX10_title x.1 = .ok x.2 := by decide +kernel
abbrev me_X10_title : Me := (RX10, il_X10_title, 4, (some .int), xRoom 2, [])
def w_X10_title_77 (n : Nat) (t0 : Int32) (u0 : Mm) (Q : Int32 → Mm → Prop) : Prop :=
  Q t0 u0
def w_X10_title_76 (n : Nat) (u0 : Mm) (Q : Int32 → Mm → Prop) : Prop :=
  w_X10_title_77 n (-1 : Int32) u0 Q
def w_X10_title_27 (n : Nat) (u0 : Mm) (Q : Int32 → Mm → Prop) : Prop :=
  Q (-1 : Int32) u0
def w_X10_title (n : Nat) (a0 : Int32) (a1 : Int32) (u0 : Mm) (Q : Int32 → Mm → Prop) : Prop :=
  ((u0.1 32 7) = 0 → w_X10_title_27 n u0 Q) ∧
  (¬ (u0.1 32 7) = 0 → (a0 < 0 → w_X10_title_27 n u0 Q) ∧
  (¬ a0 < 0 → ((u0.1 35 8) ≤ a0 → w_X10_title_27 n u0 Q) ∧
  (¬ (u0.1 35 8) ≤ a0 → (a0 < (3 : Int32) → vp_in a0 3 ∧ (ilet (u0.1 45 (ix a0)) fun y1 =>
  (¬ a1 = (-1 : Int32) → (a1 < 0 → w_X10_title_76 n u0 Q) ∧
  (¬ a1 < 0 → (y1 ≤ a1 → w_X10_title_76 n u0 Q) ∧
  (¬ y1 ≤ a1 → vp_in a0 3 ∧ (w_X5_byteAt n ((u0.1 44 (ix a0)) + a1) u0 (fun r1 u1 =>
  w_X10_title_77 n r1 u1 Q))))) ∧
  (a1 = (-1 : Int32) → Q y1 u0))) ∧
  (¬ a0 < (3 : Int32) → w_X10_title_27 n u0 Q))))
set_option maxRecDepth 20000 in
theorem s_X10_title_77 {g : Gb} (hg : xInj g) {n : Nat} {Q : Int32 → Mm → Prop} {t0 : Int32} {u0 : Mm} (h : w_X10_title_77 n t0 u0 Q) : xE g me_X10_title (pI g Q noT) 77 [] [.int t0] u0 := by
  unfold w_X10_title_77 at h
  exact e_iret (k := 43) rfl rfl (Or.inl ⟨_, rfl, h⟩)
set_option maxRecDepth 20000 in
theorem s_X10_title_76 {g : Gb} (hg : xInj g) {n : Nat} {Q : Int32 → Mm → Prop} {u0 : Mm} (h : w_X10_title_76 n  u0 Q) : xE g me_X10_title (pI g Q noT) 76 [] [] u0 := by
  unfold w_X10_title_76 at h
  refine e_iconst (k := 42) (v := (-1 : Int32)) rfl (by decide) ?_
  exact s_X10_title_77 hg h
set_option maxRecDepth 20000 in
theorem s_X10_title_27 {g : Gb} (hg : xInj g) {n : Nat} {Q : Int32 → Mm → Prop} {u0 : Mm} (h : w_X10_title_27 n  u0 Q) : xE g me_X10_title (pI g Q noT) 27 [] [] u0 := by
  unfold w_X10_title_27 at h
  refine e_iconst (k := 13) (v := (-1 : Int32)) rfl (by decide) ?_
  exact e_iret (k := 14) rfl rfl (Or.inl ⟨_, rfl, h⟩)
set_option maxRecDepth 20000 in
theorem c_X10_title {g : Gb} (hg : xInj g) {n : Nat} {a0 : Int32} {a1 : Int32} {u0 : Mm} {Q : Int32 → Mm → Prop} (h : w_X10_title n a0 a1 u0 Q) : xMet (gL g) yX10_title (xws yX10_title cX10_title 4 (some .int)) (xRoom 2) (xPc g [.ref (gR g 32), .int a0, .int a1] u0) (xQ g (pI g Q noT)) (xA g) := by
  refine xbody (il := il_X10_title) hg il_X10_title_ok m_X10_title (Nat.le_of_ble_eq_true rfl) ?_
  show xE g me_X10_title (pI g Q noT) 0 [(0, .ref (gR g 32)), (1, .int a0), (2, .int a1)] [] u0
  unfold w_X10_title at h
  refine e_aload_n (k := 0) (i := 0) rfl rfl 0 rfl ?_
  refine e_getI (k := 1) rfl f_X10_72 rfl rfl ?_
  refine e_if_eq (k := 2) (tgt := 27) rfl (by decide) (fun z => ?_) (fun z => ?_)
  · have h := h.1 z
    refine e_sub (lv' := []) [] rfl ?_
    exact s_X10_title_27 hg h
  · have h := h.2 z
    refine e_iload_n (k := 3) (i := 1) rfl rfl 1 rfl ?_
    refine e_if_lt (k := 4) (tgt := 27) rfl (by decide) (fun z => ?_) (fun z => ?_)
    · have h := h.1 z
      refine e_sub (lv' := []) [] rfl ?_
      exact s_X10_title_27 hg h
    · have h := h.2 z
      refine e_iload_n (k := 5) (i := 1) rfl rfl 1 rfl ?_
      refine e_aload_n (k := 6) (i := 0) rfl rfl 0 rfl ?_
      refine e_getC (k := 7) rfl f_X10_36 rfl rfl ?_
      refine e_getI (k := 8) rfl f_X10_121 rfl rfl ?_
      refine e_icmp_ge (k := 9) (tgt := 27) rfl (by decide) (fun z => ?_) (fun z => ?_)
      · have h := h.1 z
        refine e_sub (lv' := []) [] rfl ?_
        exact s_X10_title_27 hg h
      · have h := h.2 z
        refine e_iload_n (k := 10) (i := 1) rfl rfl 1 rfl ?_
        refine e_iconst (k := 11) (v := (3 : Int32)) rfl (by decide) ?_
        refine e_icmp_lt (k := 12) (tgt := 29) rfl (by decide) (fun z => ?_) (fun z => ?_)
        · have h := h.1 z
          refine e_aload_n (k := 15) (i := 0) rfl rfl 0 rfl ?_
          refine e_getC (k := 16) rfl f_X10_36 rfl rfl ?_
          refine e_getC (k := 17) rfl f_X10_124 rfl rfl ?_
          refine e_iload_n (k := 18) (i := 1) rfl rfl 1 rfl ?_
          refine e_iald (k := 19) rfl rfl h.1 ?_
          have h := h.2
          refine e_ilet h (fun y1 h => ?_)
          refine e_istore_n (k := 20) (i := 3) (lv' := [(0, .ref (gR g 32)), (1, .int a0), (2, .int a1), (3, .int y1)]) rfl rfl (by decide) [1, 2, 3, 0] rfl ?_
          refine e_iload_n (k := 21) (i := 2) rfl rfl 2 rfl ?_
          refine e_iconst (k := 22) (v := (-1 : Int32)) rfl (by decide) ?_
          refine e_icmp_ne (k := 23) (tgt := 46) rfl (by decide) (fun z => ?_) (fun z => ?_)
          · have h := h.1 z
            refine e_iload_n (k := 26) (i := 2) rfl rfl 2 rfl ?_
            refine e_if_lt (k := 27) (tgt := 76) rfl (by decide) (fun z => ?_) (fun z => ?_)
            · have h := h.1 z
              refine e_sub (lv' := []) [] rfl ?_
              exact s_X10_title_76 hg h
            · have h := h.2 z
              refine e_iload_n (k := 28) (i := 2) rfl rfl 2 rfl ?_
              refine e_iload_n (k := 29) (i := 3) rfl rfl 3 rfl ?_
              refine e_icmp_ge (k := 30) (tgt := 76) rfl (by decide) (fun z => ?_) (fun z => ?_)
              · have h := h.1 z
                refine e_sub (lv' := []) [] rfl ?_
                exact s_X10_title_76 hg h
              · have h := h.2 z
                refine e_aload_n (k := 31) (i := 0) rfl rfl 0 rfl ?_
                refine e_getC (k := 32) rfl f_X10_27 rfl rfl ?_
                refine e_aload_n (k := 33) (i := 0) rfl rfl 0 rfl ?_
                refine e_getC (k := 34) rfl f_X10_36 rfl rfl ?_
                refine e_getC (k := 35) rfl f_X10_128 rfl rfl ?_
                refine e_iload_n (k := 36) (i := 1) rfl rfl 1 rfl ?_
                refine e_iald (k := 37) rfl rfl h.1 ?_
                have h := h.2
                refine e_iload_n (k := 38) (i := 2) rfl rfl 2 rfl ?_
                refine e_iadd (k := 39) rfl ?_
                refine e_callVi (k := 40) (q := 33) (As := [.int ((u0.1 44 (ix a0)) + a1)]) (rest := []) rfl (c_X5_byteAt (g := g) hg (n := n) h) m_X5_byteAt i_X5_byteAt l_X10_131 rfl ⟨_, rfl, rfl⟩ rfl rfl (Nat.le_of_ble_eq_true rfl) ⟨by decide, by decide, rfl, rfl⟩ (fun _ h => h.elim) (fun r1 u1 h => ?_)
                refine e_goto (k := 41) (tgt := 77) rfl (by decide) ?_
                refine e_sub (lv' := []) [] rfl ?_
                exact s_X10_title_77 hg h
          · have h := h.2 z
            refine e_iload_n (k := 24) (i := 3) rfl rfl 3 rfl ?_
            exact e_iret (k := 25) rfl rfl (Or.inl ⟨_, rfl, h⟩)
        · have h := h.2 z
          refine e_sub (lv' := []) [] rfl ?_
          exact s_X10_title_27 hg h
def il_X12_beginMeasure : List (Nat × Instr × Nat) := [(0, .aload_n 0, 1), (1, .getfield 290, 3), (4, .istore_n 2, 1), (5, .aload_n 0, 1), (6, .getfield 75, 3), (9, .iload_n 2, 1), (10, .baload, 1), (11, .ifCond .ne 81, 3), (14, .aload_n 0, 1), (15, .getfield 75, 3), (18, .iload_n 2, 1), (19, .iconst 1, 1), (20, .bastore, 1), (21, .aload_n 0, 1), (22, .getfield 72, 3), (25, .iload_n 2, 1), (26, .iaload, 1), (27, .sipush 300, 3), (30, .if_icmp .ne 9, 3), (33, .aload_n 0, 1), (34, .iconst 2, 1), (35, .iload_n 1, 1), (36, .invokevirtual 148, 3), (39, .aload_n 0, 1), (40, .getfield 78, 3), (43, .iload_n 2, 1), (44, .aload_n 0, 1), (45, .getfield 72, 3), (48, .iload_n 2, 1), (49, .iaload, 1), (50, .iconst 1, 1), (51, .iadd, 1), (52, .iastore, 1), (53, .aload_n 0, 1), (54, .getfield 81, 3), (57, .sipush 300, 3), (60, .iload_n 2, 1), (61, .imul, 1), (62, .aload_n 0, 1), (63, .getfield 72, 3), (66, .iload_n 2, 1), (67, .iaload, 1), (68, .iadd, 1), (69, .lconst 0, 1), (70, .lastore, 1), (71, .aload_n 0, 1), (72, .getfield 84, 3), (75, .sipush 300, 3), (78, .iload_n 2, 1), (79, .imul, 1), (80, .aload_n 0, 1), (81, .getfield 72, 3), (84, .iload_n 2, 1), (85, .iaload, 1), (86, .iadd, 1), (87, .aload_n 0, 1), (88, .invokevirtual 369, 3), (91, .lastore, 1), (92, .return_, 1)]
set_option maxRecDepth 20000 in
theorem il_X12_beginMeasure_ok : ∀ x ∈ il_X12_beginMeasure, decode cX12_beginMeasure x.1 = .ok x.2 := by decide +kernel
abbrev me_X12_beginMeasure : Me := (RX12, il_X12_beginMeasure, 3, none, xRoom 2, [])
def w_X12_beginMeasure_92 (n : Nat) (u0 : Mm) (Q : Mm → Prop) (T : Mm → Prop) : Prop :=
  Q u0
def w_X12_beginMeasure_39 (n : Nat) (x2 : Int32) (u0 : Mm) (Q : Mm → Prop) (T : Mm → Prop) : Prop :=
  vp_in x2 3 ∧ (vp_in x2 3 ∧ (mlet (setI u0 19 (ix x2) ((u0.1 17 (ix x2)) + (1 : Int32))) fun u1 =>
  vp_in x2 3 ∧ (vp_in (((300 : Int32) * x2) + (u1.1 17 (ix x2))) 900 ∧ (mlet (setJ u1 20 (ix (((300 : Int32) * x2) + (u1.1 17 (ix x2)))) (0 : Int64)) fun u2 =>
  vp_in x2 3 ∧ (w_X12_meterTime n u2 (fun r1 u3 =>
  vp_in (((300 : Int32) * x2) + (u2.1 17 (ix x2))) 900 ∧ (mlet (setJ u3 21 (ix (((300 : Int32) * x2) + (u2.1 17 (ix x2)))) r1) fun u4 =>
  w_X12_beginMeasure_92 n u4 Q T)) T)))))
def w_X12_beginMeasure (n : Nat) (a0 : Int32) (u0 : Mm) (Q : Mm → Prop) (T : Mm → Prop) : Prop :=
  ilet (u0.1 0 28) fun y1 =>
  vp_in y1 3 ∧ ((¬ (u0.1 18 (ix y1)) = 0 → w_X12_beginMeasure_92 n u0 Q T) ∧
  ((u0.1 18 (ix y1)) = 0 → vp_in y1 3 ∧ (mlet (setI u0 18 (ix y1) (vp_nar .boolean (1 : Int32))) fun u1 =>
  vp_in y1 3 ∧ ((¬ (u1.1 17 (ix y1)) = (300 : Int32) → w_X12_beginMeasure_39 n y1 u1 Q T) ∧
  ((u1.1 17 (ix y1)) = (300 : Int32) → w_X12_fail n (2 : Int32) a0 u1 (fun u2 =>
  w_X12_beginMeasure_39 n y1 u2 Q T) T)))))
set_option maxRecDepth 20000 in
theorem s_X12_beginMeasure_92 {g : Gb} (hg : xInj g) {n : Nat} {Q : Mm → Prop} {T : Mm → Prop} {u0 : Mm} (h : w_X12_beginMeasure_92 n  u0 Q T) : xE g me_X12_beginMeasure (pV g Q T) 92 [] [] u0 := by
  unfold w_X12_beginMeasure_92 at h
  exact e_vret (k := 58) rfl rfl (Or.inl ⟨rfl, h⟩)
set_option maxRecDepth 20000 in
theorem s_X12_beginMeasure_39 {g : Gb} (hg : xInj g) {n : Nat} {Q : Mm → Prop} {T : Mm → Prop} {x2 : Int32} {u0 : Mm} (h : w_X12_beginMeasure_39 n x2 u0 Q T) : xE g me_X12_beginMeasure (pV g Q T) 39 [(0, .ref (gR g 0)), (2, .int x2)] [] u0 := by
  unfold w_X12_beginMeasure_39 at h
  refine e_aload_n (k := 23) (i := 0) rfl rfl 0 rfl ?_
  refine e_getC (k := 24) rfl f_X12_78 rfl rfl ?_
  refine e_iload_n (k := 25) (i := 2) rfl rfl 1 rfl ?_
  refine e_aload_n (k := 26) (i := 0) rfl rfl 0 rfl ?_
  refine e_getC (k := 27) rfl f_X12_72 rfl rfl ?_
  refine e_iload_n (k := 28) (i := 2) rfl rfl 1 rfl ?_
  refine e_iald (k := 29) rfl rfl h.1 ?_
  have h := h.2
  refine e_iconst (k := 30) (v := (1 : Int32)) rfl (by decide) ?_
  refine e_iadd (k := 31) rfl ?_
  refine e_iast (k := 32) rfl rfl h.1 ?_
  have h := h.2
  refine e_mlet h (fun u1 h => ?_)
  refine e_aload_n (k := 33) (i := 0) rfl rfl 0 rfl ?_
  refine e_getC (k := 34) rfl f_X12_81 rfl rfl ?_
  refine e_sipush (k := 35) (v := (300 : Int32)) rfl (by decide) ?_
  refine e_iload_n (k := 36) (i := 2) rfl rfl 1 rfl ?_
  refine e_imul (k := 37) rfl ?_
  refine e_aload_n (k := 38) (i := 0) rfl rfl 0 rfl ?_
  refine e_getC (k := 39) rfl f_X12_72 rfl rfl ?_
  refine e_iload_n (k := 40) (i := 2) rfl rfl 1 rfl ?_
  refine e_iald (k := 41) rfl rfl h.1 ?_
  have h := h.2
  refine e_iadd (k := 42) rfl ?_
  refine e_lconst (k := 43) (v := (0 : Int64)) rfl (by decide) ?_
  refine e_last (k := 44) rfl rfl h.1 ?_
  have h := h.2
  refine e_mlet h (fun u2 h => ?_)
  refine e_aload_n (k := 45) (i := 0) rfl rfl 0 rfl ?_
  refine e_getC (k := 46) rfl f_X12_84 rfl rfl ?_
  refine e_sipush (k := 47) (v := (300 : Int32)) rfl (by decide) ?_
  refine e_iload_n (k := 48) (i := 2) rfl rfl 1 rfl ?_
  refine e_imul (k := 49) rfl ?_
  refine e_aload_n (k := 50) (i := 0) rfl rfl 0 rfl ?_
  refine e_getC (k := 51) rfl f_X12_72 rfl rfl ?_
  refine e_iload_n (k := 52) (i := 2) rfl rfl 1 rfl ?_
  refine e_iald (k := 53) rfl rfl h.1 ?_
  have h := h.2
  refine e_iadd (k := 54) rfl ?_
  refine e_aload_n (k := 55) (i := 0) rfl rfl 0 rfl ?_
  refine e_callVl (k := 56) (q := 0) (As := []) (rest := [.int (((300 : Int32) * x2) + (u2.1 17 (ix x2))), .ref (gR g 21)]) rfl (c_X12_meterTime (g := g) hg (n := n) h) m_X12_meterTime i_X12_meterTime l_X12_369 rfl ⟨_, rfl, rfl⟩ rfl rfl (Nat.le_of_ble_eq_true rfl) ⟨by decide, by decide, rfl, rfl⟩ (fun _ h => ⟨fun _ z => (by cases z), Or.inr ⟨rfl, h⟩⟩) (fun r1 u3 h => ?_)
  refine e_last (k := 57) rfl rfl h.1 ?_
  have h := h.2
  refine e_mlet h (fun u4 h => ?_)
  refine e_sub (lv' := []) [] rfl ?_
  exact s_X12_beginMeasure_92 hg h
set_option maxRecDepth 20000 in
theorem c_X12_beginMeasure {g : Gb} (hg : xInj g) {n : Nat} {a0 : Int32} {u0 : Mm} {Q : Mm → Prop} {T : Mm → Prop} (h : w_X12_beginMeasure n a0 u0 Q T) : xMet (gL g) yX12_beginMeasure (xws yX12_beginMeasure cX12_beginMeasure 3 none) (xRoom 2) (xPc g [.ref (gR g 0), .int a0] u0) (xQ g (pV g Q T)) (xA g) := by
  refine xbody (il := il_X12_beginMeasure) hg il_X12_beginMeasure_ok m_X12_beginMeasure (Nat.le_of_ble_eq_true rfl) ?_
  show xE g me_X12_beginMeasure (pV g Q T) 0 [(0, .ref (gR g 0)), (1, .int a0)] [] u0
  unfold w_X12_beginMeasure at h
  refine e_aload_n (k := 0) (i := 0) rfl rfl 0 rfl ?_
  refine e_getI (k := 1) rfl f_X12_290 rfl rfl ?_
  refine e_ilet h (fun y1 h => ?_)
  refine e_istore_n (k := 2) (i := 2) (lv' := [(0, .ref (gR g 0)), (1, .int a0), (2, .int y1)]) rfl rfl (by decide) [1, 2, 0] rfl ?_
  refine e_aload_n (k := 3) (i := 0) rfl rfl 0 rfl ?_
  refine e_getC (k := 4) rfl f_X12_75 rfl rfl ?_
  refine e_iload_n (k := 5) (i := 2) rfl rfl 2 rfl ?_
  refine e_zald (k := 6) rfl rfl h.1 ?_
  have h := h.2
  refine e_if_ne (k := 7) (tgt := 92) rfl (by decide) (fun z => ?_) (fun z => ?_)
  · have h := h.1 z
    refine e_sub (lv' := []) [] rfl ?_
    exact s_X12_beginMeasure_92 hg h
  · have h := h.2 z
    refine e_aload_n (k := 8) (i := 0) rfl rfl 0 rfl ?_
    refine e_getC (k := 9) rfl f_X12_75 rfl rfl ?_
    refine e_iload_n (k := 10) (i := 2) rfl rfl 2 rfl ?_
    refine e_iconst (k := 11) (v := (1 : Int32)) rfl (by decide) ?_
    refine e_zast (k := 12) rfl rfl h.1 ?_
    have h := h.2
    refine e_mlet h (fun u1 h => ?_)
    refine e_aload_n (k := 13) (i := 0) rfl rfl 0 rfl ?_
    refine e_getC (k := 14) rfl f_X12_72 rfl rfl ?_
    refine e_iload_n (k := 15) (i := 2) rfl rfl 2 rfl ?_
    refine e_iald (k := 16) rfl rfl h.1 ?_
    have h := h.2
    refine e_sipush (k := 17) (v := (300 : Int32)) rfl (by decide) ?_
    refine e_icmp_ne (k := 18) (tgt := 39) rfl (by decide) (fun z => ?_) (fun z => ?_)
    · have h := h.1 z
      refine e_sub (lv' := [(0, .ref (gR g 0)), (2, .int y1)]) [0, 2] rfl ?_
      exact s_X12_beginMeasure_39 hg h
    · have h := h.2 z
      refine e_aload_n (k := 19) (i := 0) rfl rfl 0 rfl ?_
      refine e_iconst (k := 20) (v := (2 : Int32)) rfl (by decide) ?_
      refine e_iload_n (k := 21) (i := 1) rfl rfl 1 rfl ?_
      refine e_callVv (k := 22) (q := 0) (As := [.int (2 : Int32), .int a0]) (rest := []) rfl (c_X12_fail (g := g) hg (n := n) h) m_X12_fail i_X12_fail l_X12_148 rfl ⟨_, rfl, rfl⟩ rfl rfl (Nat.le_of_ble_eq_true rfl) ⟨by decide, by decide, rfl, rfl⟩ (fun _ h => ⟨fun _ z => (by cases z), Or.inr ⟨rfl, h⟩⟩) (fun u2 h => ?_)
      refine e_sub (lv' := [(0, .ref (gR g 0)), (2, .int y1)]) [0, 2] rfl ?_
      exact s_X12_beginMeasure_39 hg h
