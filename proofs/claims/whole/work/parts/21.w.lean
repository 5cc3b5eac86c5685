/-! methods (by program) -/
def il_J0_coder_7d493 : List (Nat × Instr × Nat) := [(0, .getstatic 38, 3), (3, .ifCond .eq 10, 3), (6, .aload_n 0, 1), (7, .getfield 15, 3), (10, .goto 4, 3), (13, .iconst 1, 1), (14, .ireturn, 1)]
set_option maxRecDepth 20000 in
theorem il_J0_coder_7d493_ok : ∀ x ∈ il_J0_coder_7d493, decode cJ0_coder_7d493 x.1 = .ok x.2 := by decide +kernel
abbrev me_J0_coder_7d493 : Me := (RJ0, il_J0_coder_7d493, 1, (some .byte), xRoom 1, [])
def w_J0_coder_7d493_14 (n : Nat) (q : Nat) (t0 : Int32) (u0 : Mm) (Q : Int32 → Mm → Prop) : Prop :=
  narrow .byte (.int t0) = .int t0 ∧ Q t0 u0
def w_J0_coder_7d493 (n : Nat) (q : Nat) (u0 : Mm) (Q : Int32 → Mm → Prop) : Prop :=
  ((1 : Int32) = 0 → w_J0_coder_7d493_14 n q (1 : Int32) u0 Q) ∧
  (¬ (1 : Int32) = 0 → w_J0_coder_7d493_14 n q (0 : Int32) u0 Q)
set_option maxRecDepth 20000 in
theorem s_J0_coder_7d493_14 {g : Gb} (hg : xInj g) {n : Nat} {q : Nat} (hq : q < xtx.length) {Q : Int32 → Mm → Prop} {t0 : Int32} {u0 : Mm} (h : w_J0_coder_7d493_14 n q t0 u0 Q) : xE g me_J0_coder_7d493 (pI g Q noT) 14 [] [.int t0] u0 := by
  unfold w_J0_coder_7d493_14 at h
  exact e_zret (k := 6) rfl rfl h.1 (Or.inl ⟨_, rfl, h.2⟩)
set_option maxRecDepth 20000 in
theorem c_J0_coder_7d493 {g : Gb} (hg : xInj g) {n : Nat} {q : Nat} (hq : q < xtx.length) {u0 : Mm} {Q : Int32 → Mm → Prop} (h : w_J0_coder_7d493 n q u0 Q) : xMet (gL g) yJ0_coder_7d493 (xws yJ0_coder_7d493 cJ0_coder_7d493 1 (some .byte)) (xRoom 1) (xPc g [.ref (gK g q)] u0) (xQ g (pI g Q noT)) (xA g) := by
  refine xbody (il := il_J0_coder_7d493) hg il_J0_coder_7d493_ok m_J0_coder_7d493 (Nat.le_of_ble_eq_true rfl) ?_
  show xE g me_J0_coder_7d493 (pI g Q noT) 0 [(0, .ref (gK g q))] [] u0
  unfold w_J0_coder_7d493 at h
  refine e_compact (k := 0) rfl fz_J0_38 ?_
  refine e_if_eq (k := 1) (tgt := 13) rfl (by decide) (fun z => ?_) (fun z => ?_)
  · have h := h.1 z
    refine e_iconst (k := 5) (v := (1 : Int32)) rfl (by decide) ?_
    refine e_sub (lv' := []) [] rfl ?_
    exact s_J0_coder_7d493_14 hg hq h
  · have h := h.2 z
    refine e_aload_n (k := 2) (i := 0) rfl rfl 0 rfl ?_
    refine e_strC (k := 3) rfl fs_J0_15 hq ?_
    refine e_goto (k := 4) (tgt := 14) rfl (by decide) ?_
    refine e_sub (lv' := []) [] rfl ?_
    exact s_J0_coder_7d493_14 hg hq h
def il_J0_isLatin1_aae02 : List (Nat × Instr × Nat) := [(0, .getstatic 38, 3), (3, .ifCond .eq 14, 3), (6, .aload_n 0, 1), (7, .getfield 15, 3), (10, .ifCond .ne 7, 3), (13, .iconst 1, 1), (14, .goto 4, 3), (17, .iconst 0, 1), (18, .ireturn, 1)]
set_option maxRecDepth 20000 in
theorem il_J0_isLatin1_aae02_ok : ∀ x ∈ il_J0_isLatin1_aae02, decode cJ0_isLatin1_aae02 x.1 = .ok x.2 := by decide +kernel
abbrev me_J0_isLatin1_aae02 : Me := (RJ0, il_J0_isLatin1_aae02, 1, (some .boolean), xRoom 1, [])
def w_J0_isLatin1_aae02_18 (n : Nat) (q : Nat) (t0 : Int32) (u0 : Mm) (Q : Int32 → Mm → Prop) : Prop :=
  narrow .boolean (.int t0) = .int t0 ∧ Q t0 u0
def w_J0_isLatin1_aae02_17 (n : Nat) (q : Nat) (u0 : Mm) (Q : Int32 → Mm → Prop) : Prop :=
  w_J0_isLatin1_aae02_18 n q (0 : Int32) u0 Q
def w_J0_isLatin1_aae02 (n : Nat) (q : Nat) (u0 : Mm) (Q : Int32 → Mm → Prop) : Prop :=
  ((1 : Int32) = 0 → w_J0_isLatin1_aae02_17 n q u0 Q) ∧
  (¬ (1 : Int32) = 0 → (¬ (0 : Int32) = 0 → w_J0_isLatin1_aae02_17 n q u0 Q) ∧
  ((0 : Int32) = 0 → w_J0_isLatin1_aae02_18 n q (1 : Int32) u0 Q))
set_option maxRecDepth 20000 in
theorem s_J0_isLatin1_aae02_18 {g : Gb} (hg : xInj g) {n : Nat} {q : Nat} (hq : q < xtx.length) {Q : Int32 → Mm → Prop} {t0 : Int32} {u0 : Mm} (h : w_J0_isLatin1_aae02_18 n q t0 u0 Q) : xE g me_J0_isLatin1_aae02 (pI g Q noT) 18 [] [.int t0] u0 := by
  unfold w_J0_isLatin1_aae02_18 at h
  exact e_zret (k := 8) rfl rfl h.1 (Or.inl ⟨_, rfl, h.2⟩)
set_option maxRecDepth 20000 in
theorem s_J0_isLatin1_aae02_17 {g : Gb} (hg : xInj g) {n : Nat} {q : Nat} (hq : q < xtx.length) {Q : Int32 → Mm → Prop} {u0 : Mm} (h : w_J0_isLatin1_aae02_17 n q  u0 Q) : xE g me_J0_isLatin1_aae02 (pI g Q noT) 17 [] [] u0 := by
  unfold w_J0_isLatin1_aae02_17 at h
  refine e_iconst (k := 7) (v := (0 : Int32)) rfl (by decide) ?_
  exact s_J0_isLatin1_aae02_18 hg hq h
set_option maxRecDepth 20000 in
theorem c_J0_isLatin1_aae02 {g : Gb} (hg : xInj g) {n : Nat} {q : Nat} (hq : q < xtx.length) {u0 : Mm} {Q : Int32 → Mm → Prop} (h : w_J0_isLatin1_aae02 n q u0 Q) : xMet (gL g) yJ0_isLatin1_aae02 (xws yJ0_isLatin1_aae02 cJ0_isLatin1_aae02 1 (some .boolean)) (xRoom 1) (xPc g [.ref (gK g q)] u0) (xQ g (pI g Q noT)) (xA g) := by
  refine xbody (il := il_J0_isLatin1_aae02) hg il_J0_isLatin1_aae02_ok m_J0_isLatin1_aae02 (Nat.le_of_ble_eq_true rfl) ?_
  show xE g me_J0_isLatin1_aae02 (pI g Q noT) 0 [(0, .ref (gK g q))] [] u0
  unfold w_J0_isLatin1_aae02 at h
  refine e_compact (k := 0) rfl fz_J0_38 ?_
  refine e_if_eq (k := 1) (tgt := 17) rfl (by decide) (fun z => ?_) (fun z => ?_)
  · have h := h.1 z
    refine e_sub (lv' := []) [] rfl ?_
    exact s_J0_isLatin1_aae02_17 hg hq h
  · have h := h.2 z
    refine e_aload_n (k := 2) (i := 0) rfl rfl 0 rfl ?_
    refine e_strC (k := 3) rfl fs_J0_15 hq ?_
    refine e_if_ne (k := 4) (tgt := 17) rfl (by decide) (fun z => ?_) (fun z => ?_)
    · have h := h.1 z
      refine e_sub (lv' := []) [] rfl ?_
      exact s_J0_isLatin1_aae02_17 hg hq h
    · have h := h.2 z
      refine e_iconst (k := 5) (v := (1 : Int32)) rfl (by decide) ?_
      refine e_goto (k := 6) (tgt := 18) rfl (by decide) ?_
      refine e_sub (lv' := []) [] rfl ?_
      exact s_J0_isLatin1_aae02_18 hg hq h
def il_J1_canEncode_9a6ad : List (Nat × Instr × Nat) := [(0, .iload_n 0, 1), (1, .ifCond .lt 14, 3), (4, .iload_n 0, 1), (5, .sipush 255, 3), (8, .if_icmp .gt 7, 3), (11, .iconst 1, 1), (12, .goto 4, 3), (15, .iconst 0, 1), (16, .ireturn, 1)]
set_option maxRecDepth 20000 in
theorem il_J1_canEncode_9a6ad_ok : ∀ x ∈ il_J1_canEncode_9a6ad, decode cJ1_canEncode_9a6ad x.1 = .ok x.2 := by decide +kernel
abbrev me_J1_canEncode_9a6ad : Me := (RJ1, il_J1_canEncode_9a6ad, 1, (some .boolean), xRoom 1, [])
def w_J1_canEncode_9a6ad_16 (n : Nat) (t0 : Int32) (u0 : Mm) (Q : Int32 → Mm → Prop) : Prop :=
  narrow .boolean (.int t0) = .int t0 ∧ Q t0 u0
def w_J1_canEncode_9a6ad_15 (n : Nat) (u0 : Mm) (Q : Int32 → Mm → Prop) : Prop :=
  w_J1_canEncode_9a6ad_16 n (0 : Int32) u0 Q
def w_J1_canEncode_9a6ad (n : Nat) (a0 : Int32) (u0 : Mm) (Q : Int32 → Mm → Prop) : Prop :=
  (a0 < 0 → w_J1_canEncode_9a6ad_15 n u0 Q) ∧
  (¬ a0 < 0 → ((255 : Int32) < a0 → w_J1_canEncode_9a6ad_15 n u0 Q) ∧
  (¬ (255 : Int32) < a0 → w_J1_canEncode_9a6ad_16 n (1 : Int32) u0 Q))
set_option maxRecDepth 20000 in
theorem s_J1_canEncode_9a6ad_16 {g : Gb} (hg : xInj g) {n : Nat} {Q : Int32 → Mm → Prop} {t0 : Int32} {u0 : Mm} (h : w_J1_canEncode_9a6ad_16 n t0 u0 Q) : xE g me_J1_canEncode_9a6ad (pI g Q noT) 16 [] [.int t0] u0 := by
  unfold w_J1_canEncode_9a6ad_16 at h
  exact e_zret (k := 8) rfl rfl h.1 (Or.inl ⟨_, rfl, h.2⟩)
set_option maxRecDepth 20000 in
theorem s_J1_canEncode_9a6ad_15 {g : Gb} (hg : xInj g) {n : Nat} {Q : Int32 → Mm → Prop} {u0 : Mm} (h : w_J1_canEncode_9a6ad_15 n  u0 Q) : xE g me_J1_canEncode_9a6ad (pI g Q noT) 15 [] [] u0 := by
  unfold w_J1_canEncode_9a6ad_15 at h
  refine e_iconst (k := 7) (v := (0 : Int32)) rfl (by decide) ?_
  exact s_J1_canEncode_9a6ad_16 hg h
set_option maxRecDepth 20000 in
theorem c_J1_canEncode_9a6ad {g : Gb} (hg : xInj g) {n : Nat} {a0 : Int32} {u0 : Mm} {Q : Int32 → Mm → Prop} (h : w_J1_canEncode_9a6ad n a0 u0 Q) : xMet (gL g) yJ1_canEncode_9a6ad (xws yJ1_canEncode_9a6ad cJ1_canEncode_9a6ad 1 (some .boolean)) (xRoom 1) (xPc g [.int a0] u0) (xQ g (pI g Q noT)) (xA g) := by
  refine xbody (il := il_J1_canEncode_9a6ad) hg il_J1_canEncode_9a6ad_ok m_J1_canEncode_9a6ad (Nat.le_of_ble_eq_true rfl) ?_
  show xE g me_J1_canEncode_9a6ad (pI g Q noT) 0 [(0, .int a0)] [] u0
  unfold w_J1_canEncode_9a6ad at h
  refine e_iload_n (k := 0) (i := 0) rfl rfl 0 rfl ?_
  refine e_if_lt (k := 1) (tgt := 15) rfl (by decide) (fun z => ?_) (fun z => ?_)
  · have h := h.1 z
    refine e_sub (lv' := []) [] rfl ?_
    exact s_J1_canEncode_9a6ad_15 hg h
  · have h := h.2 z
    refine e_iload_n (k := 2) (i := 0) rfl rfl 0 rfl ?_
    refine e_sipush (k := 3) (v := (255 : Int32)) rfl (by decide) ?_
    refine e_icmp_gt (k := 4) (tgt := 15) rfl (by decide) (fun z => ?_) (fun z => ?_)
    · have h := h.1 z
      refine e_sub (lv' := []) [] rfl ?_
      exact s_J1_canEncode_9a6ad_15 hg h
    · have h := h.2 z
      refine e_iconst (k := 5) (v := (1 : Int32)) rfl (by decide) ?_
      refine e_goto (k := 6) (tgt := 16) rfl (by decide) ?_
      refine e_sub (lv' := []) [] rfl ?_
      exact s_J1_canEncode_9a6ad_16 hg h
def il_J1_indexOfChar_4cfef : List (Nat × Instr × Nat) := [(0, .iload_n 1, 1), (1, .i2b, 1), (2, .istore 4, 2), (4, .iload_n 2, 1), (5, .istore 5, 2), (7, .iload 5, 2), (9, .iload_n 3, 1), (10, .if_icmp .ge 21, 3), (13, .aload_n 0, 1), (14, .iload 5, 2), (16, .baload, 1), (17, .iload 4, 2), (19, .if_icmp .ne 6, 3), (22, .iload 5, 2), (24, .ireturn, 1), (25, .iinc 5 1, 3), (28, .goto (-21), 3), (31, .iconst (-1), 1), (32, .ireturn, 1)]
set_option maxRecDepth 20000 in
theorem il_J1_indexOfChar_4cfef_ok : ∀ x ∈ il_J1_indexOfChar_4cfef, decode cJ1_indexOfChar_4cfef x.1 = .ok x.2 := by decide +kernel
abbrev me_J1_indexOfChar_4cfef : Me := (RJ1, il_J1_indexOfChar_4cfef, 6, (some .int), xRoom 1, [])
def w_J1_indexOfChar_4cfef_7 (n : Nat) (a0 : Nat) (Q : Int32 → Mm → Prop) : Nat → Int32 → Int32 → Int32 → Mm → Prop
  | 0, _, _, _, _ => False
  | k + 1, x3, x4, x5, u0 =>
  (x3 ≤ x5 → Q (-1 : Int32) u0) ∧
  (¬ x3 ≤ x5 → vp_in x5 (xtx.getD a0 []).length ∧ ((¬ ((xtx.getD a0 []).getD (ix x5) 0) = x4 → (w_J1_indexOfChar_4cfef_7 n a0 Q k) x3 x4 (x5 + (1 : Int32)) u0) ∧
  (((xtx.getD a0 []).getD (ix x5) 0) = x4 → Q x5 u0)))
def w_J1_indexOfChar_4cfef (n : Nat) (a0 : Nat) (a1 : Int32) (a2 : Int32) (a3 : Int32) (u0 : Mm) (Q : Int32 → Mm → Prop) : Prop :=
  ilet a1.toInt8.toInt32 fun y1 =>
  (w_J1_indexOfChar_4cfef_7 n a0 Q n) a3 y1 a2 u0
set_option maxRecDepth 20000 in
theorem s_J1_indexOfChar_4cfef_7 {g : Gb} (hg : xInj g) {n : Nat} {a0 : Nat} (ha0 : a0 < xtx.length) {Q : Int32 → Mm → Prop} : ∀ (k : Nat) (x3 : Int32) (x4 : Int32) (x5 : Int32) (u0 : Mm), w_J1_indexOfChar_4cfef_7 n a0 Q k x3 x4 x5 u0 → xE g me_J1_indexOfChar_4cfef (pI g Q noT) 7 [(0, .ref (gV g a0)), (3, .int x3), (4, .int x4), (5, .int x5)] [] u0 := by
  intro k
  induction k with
  | zero => intro x3 x4 x5 u0 h; exact h.elim
  | succ k ih =>
    intro x3 x4 x5 u0 h
    unfold w_J1_indexOfChar_4cfef_7 at h
    refine e_iload (k := 5) (i := 5) rfl 3 rfl ?_
    refine e_iload_n (k := 6) (i := 3) rfl rfl 1 rfl ?_
    refine e_icmp_ge (k := 7) (tgt := 31) rfl (by decide) (fun z => ?_) (fun z => ?_)
    · have h := h.1 z
      refine e_iconst (k := 17) (v := (-1 : Int32)) rfl (by decide) ?_
      exact e_iret (k := 18) rfl rfl (Or.inl ⟨_, rfl, h⟩)
    · have h := h.2 z
      refine e_aload_n (k := 8) (i := 0) rfl rfl 0 rfl ?_
      refine e_iload (k := 9) (i := 5) rfl 3 rfl ?_
      refine e_svld (k := 10) rfl ha0 h.1 ?_
      have h := h.2
      refine e_iload (k := 11) (i := 4) rfl 2 rfl ?_
      refine e_icmp_ne (k := 12) (tgt := 25) rfl (by decide) (fun z => ?_) (fun z => ?_)
      · have h := h.1 z
        refine e_iinc (k := 15) (i := 5) (j := 3) (v := (x5 + (1 : Int32))) (lv' := [(0, .ref (gV g a0)), (3, .int x3), (4, .int x4), (5, .int (x5 + (1 : Int32)))]) rfl rfl rfl (by decide) [1, 2, 3, 0] rfl ?_
        refine e_goto (k := 16) (tgt := 7) rfl (by decide) ?_
        exact ih x3 x4 (x5 + (1 : Int32)) u0 h
      · have h := h.2 z
        refine e_iload (k := 13) (i := 5) rfl 3 rfl ?_
        exact e_iret (k := 14) rfl rfl (Or.inl ⟨_, rfl, h⟩)
set_option maxRecDepth 20000 in
theorem c_J1_indexOfChar_4cfef {g : Gb} (hg : xInj g) {n : Nat} {a0 : Nat} {a1 : Int32} {a2 : Int32} {a3 : Int32} (ha0 : a0 < xtx.length) {u0 : Mm} {Q : Int32 → Mm → Prop} (h : w_J1_indexOfChar_4cfef n a0 a1 a2 a3 u0 Q) : xMet (gL g) yJ1_indexOfChar_4cfef (xws yJ1_indexOfChar_4cfef cJ1_indexOfChar_4cfef 6 (some .int)) (xRoom 1) (xPc g [.ref (gV g a0), .int a1, .int a2, .int a3] u0) (xQ g (pI g Q noT)) (xA g) := by
  refine xbody (il := il_J1_indexOfChar_4cfef) hg il_J1_indexOfChar_4cfef_ok m_J1_indexOfChar_4cfef (Nat.le_of_ble_eq_true rfl) ?_
  show xE g me_J1_indexOfChar_4cfef (pI g Q noT) 0 [(0, .ref (gV g a0)), (1, .int a1), (2, .int a2), (3, .int a3)] [] u0
  unfold w_J1_indexOfChar_4cfef at h
  refine e_iload_n (k := 0) (i := 1) rfl rfl 1 rfl ?_
  refine e_i2b (k := 1) rfl ?_
  refine e_ilet h (fun y1 h => ?_)
  refine e_istore (k := 2) (i := 4) (lv' := [(0, .ref (gV g a0)), (1, .int a1), (2, .int a2), (3, .int a3), (4, .int y1)]) rfl (by decide) [1, 2, 3, 4, 0] rfl ?_
  refine e_iload_n (k := 3) (i := 2) rfl rfl 2 rfl ?_
  refine e_istore (k := 4) (i := 5) (lv' := [(0, .ref (gV g a0)), (1, .int a1), (2, .int a2), (3, .int a3), (4, .int y1), (5, .int a2)]) rfl (by decide) [1, 2, 3, 4, 5, 0] rfl ?_
  refine e_sub (lv' := [(0, .ref (gV g a0)), (3, .int a3), (4, .int y1), (5, .int a2)]) [0, 3, 4, 5] rfl ?_
  exact s_J1_indexOfChar_4cfef_7 hg ha0 n a3 y1 a2 u0 h
def il_X0_setMeter : List (Nat × Instr × Nat) := [(0, .aload_n 0, 1), (1, .iload_n 1, 1), (2, .putfield 35, 3), (5, .aload_n 0, 1), (6, .iload_n 2, 1), (7, .putfield 51, 3), (10, .return_, 1)]
set_option maxRecDepth 20000 in
theorem il_X0_setMeter_ok : ∀ x ∈ il_X0_setMeter, decode cX0_setMeter x.1 = .ok x.2 := by decide +kernel
abbrev me_X0_setMeter : Me := (RX0, il_X0_setMeter, 3, none, xRoom 1, [])
def w_X0_setMeter (n : Nat) (a0 : Int32) (a1 : Int32) (u0 : Mm) (Q : Mm → Prop) : Prop :=
  mlet (setI u0 34 1 a0) fun u1 =>
  mlet (setI u1 34 2 a1) fun u2 =>
  Q u2
set_option maxRecDepth 20000 in
theorem c_X0_setMeter {g : Gb} (hg : xInj g) {n : Nat} {a0 : Int32} {a1 : Int32} {u0 : Mm} {Q : Mm → Prop} (h : w_X0_setMeter n a0 a1 u0 Q) : xMet (gL g) yX0_setMeter (xws yX0_setMeter cX0_setMeter 3 none) (xRoom 1) (xPc g [.ref (gR g 34), .int a0, .int a1] u0) (xQ g (pV g Q noT)) (xA g) := by
  refine xbody (il := il_X0_setMeter) hg il_X0_setMeter_ok m_X0_setMeter (Nat.le_of_ble_eq_true rfl) ?_
  show xE g me_X0_setMeter (pV g Q noT) 0 [(0, .ref (gR g 34)), (1, .int a0), (2, .int a1)] [] u0
  unfold w_X0_setMeter at h
  refine e_aload_n (k := 0) (i := 0) rfl rfl 0 rfl ?_
  refine e_iload_n (k := 1) (i := 1) rfl rfl 1 rfl ?_
  refine e_putI (k := 2) rfl fg_X0_35 rfl rfl ?_
  refine e_mlet h (fun u1 h => ?_)
  refine e_aload_n (k := 3) (i := 0) rfl rfl 0 rfl ?_
  refine e_iload_n (k := 4) (i := 2) rfl rfl 2 rfl ?_
  refine e_putI (k := 5) rfl fg_X0_51 rfl rfl ?_
  refine e_mlet h (fun u2 h => ?_)
  exact e_vret (k := 6) rfl rfl (Or.inl ⟨rfl, h⟩)
def il_X10_end : List (Nat × Instr × Nat) := [(0, .iload_n 1, 1), (1, .ifCond .lt 18, 3), (4, .iload_n 1, 1), (5, .bipush 20, 2), (7, .if_icmp .gt 12, 3), (10, .aload_n 0, 1), (11, .getfield 68, 3), (14, .bipush 20, 2), (16, .if_icmp .ge 5, 3), (19, .iconst (-1), 1), (20, .ireturn, 1), (21, .aload_n 0, 1), (22, .dup, 1), (23, .getfield 68, 3), (26, .bipush 20, 2), (28, .iload_n 1, 1), (29, .isub, 1), (30, .isub, 1), (31, .putfield 68, 3), (34, .aload_n 0, 1), (35, .getfield 68, 3), (38, .ireturn, 1)]
set_option maxRecDepth 20000 in
theorem il_X10_end_ok : ∀ x ∈ il_X10_end, decode cX10_end x.1 = .ok x.2 := by decide +kernel
abbrev me_X10_end : Me := (RX10, il_X10_end, 2, (some .int), xRoom 1, [])
def w_X10_end_19 (n : Nat) (u0 : Mm) (Q : Int32 → Mm → Prop) : Prop :=
  Q (-1 : Int32) u0
def w_X10_end (n : Nat) (a0 : Int32) (u0 : Mm) (Q : Int32 → Mm → Prop) : Prop :=
  (a0 < 0 → w_X10_end_19 n u0 Q) ∧
  (¬ a0 < 0 → ((20 : Int32) < a0 → w_X10_end_19 n u0 Q) ∧
  (¬ (20 : Int32) < a0 → ((20 : Int32) ≤ (u0.1 32 6) → mlet (setI u0 32 6 ((u0.1 32 6) - ((20 : Int32) - a0))) fun u1 =>
  Q (u1.1 32 6) u1) ∧
  (¬ (20 : Int32) ≤ (u0.1 32 6) → w_X10_end_19 n u0 Q)))
set_option maxRecDepth 20000 in
theorem s_X10_end_19 {g : Gb} (hg : xInj g) {n : Nat} {Q : Int32 → Mm → Prop} {u0 : Mm} (h : w_X10_end_19 n  u0 Q) : xE g me_X10_end (pI g Q noT) 19 [] [] u0 := by
  unfold w_X10_end_19 at h
  refine e_iconst (k := 9) (v := (-1 : Int32)) rfl (by decide) ?_
  exact e_iret (k := 10) rfl rfl (Or.inl ⟨_, rfl, h⟩)
set_option maxRecDepth 20000 in
theorem c_X10_end {g : Gb} (hg : xInj g) {n : Nat} {a0 : Int32} {u0 : Mm} {Q : Int32 → Mm → Prop} (h : w_X10_end n a0 u0 Q) : xMet (gL g) yX10_end (xws yX10_end cX10_end 2 (some .int)) (xRoom 1) (xPc g [.ref (gR g 32), .int a0] u0) (xQ g (pI g Q noT)) (xA g) := by
  refine xbody (il := il_X10_end) hg il_X10_end_ok m_X10_end (Nat.le_of_ble_eq_true rfl) ?_
  show xE g me_X10_end (pI g Q noT) 0 [(0, .ref (gR g 32)), (1, .int a0)] [] u0
  unfold w_X10_end at h
  refine e_iload_n (k := 0) (i := 1) rfl rfl 1 rfl ?_
  refine e_if_lt (k := 1) (tgt := 19) rfl (by decide) (fun z => ?_) (fun z => ?_)
  · have h := h.1 z
    refine e_sub (lv' := []) [] rfl ?_
    exact s_X10_end_19 hg h
  · have h := h.2 z
    refine e_iload_n (k := 2) (i := 1) rfl rfl 1 rfl ?_
    refine e_bipush (k := 3) (v := (20 : Int32)) rfl (by decide) ?_
    refine e_icmp_gt (k := 4) (tgt := 19) rfl (by decide) (fun z => ?_) (fun z => ?_)
    · have h := h.1 z
      refine e_sub (lv' := []) [] rfl ?_
      exact s_X10_end_19 hg h
    · have h := h.2 z
      refine e_aload_n (k := 5) (i := 0) rfl rfl 0 rfl ?_
      refine e_getI (k := 6) rfl f_X10_68 rfl rfl ?_
      refine e_bipush (k := 7) (v := (20 : Int32)) rfl (by decide) ?_
      refine e_icmp_ge (k := 8) (tgt := 21) rfl (by decide) (fun z => ?_) (fun z => ?_)
      · have h := h.1 z
        refine e_aload_n (k := 11) (i := 0) rfl rfl 0 rfl ?_
        refine e_dup (k := 12) rfl rfl ?_
        refine e_getI (k := 13) rfl f_X10_68 rfl rfl ?_
        refine e_bipush (k := 14) (v := (20 : Int32)) rfl (by decide) ?_
        refine e_iload_n (k := 15) (i := 1) rfl rfl 1 rfl ?_
        refine e_isub (k := 16) rfl ?_
        refine e_isub (k := 17) rfl ?_
        refine e_putI (k := 18) rfl fg_X10_68 rfl rfl ?_
        refine e_mlet h (fun u1 h => ?_)
        refine e_aload_n (k := 19) (i := 0) rfl rfl 0 rfl ?_
        refine e_getI (k := 20) rfl f_X10_68 rfl rfl ?_
        exact e_iret (k := 21) rfl rfl (Or.inl ⟨_, rfl, h⟩)
      · have h := h.2 z
        refine e_sub (lv' := []) [] rfl ?_
        exact s_X10_end_19 hg h
def il_X10_hasThing : List (Nat × Instr × Nat) := [(0, .aload_n 0, 1), (1, .getfield 72, 3), (4, .ifCond .eq 25, 3), (7, .iload_n 1, 1), (8, .ifCond .lt 21, 3), (11, .iload_n 1, 1), (12, .aload_n 0, 1), (13, .getfield 36, 3), (16, .getfield 108, 3), (19, .getfield 112, 3), (22, .if_icmp .ge 7, 3), (25, .iconst 1, 1), (26, .goto 4, 3), (29, .iconst 0, 1), (30, .ireturn, 1)]
set_option maxRecDepth 20000 in
theorem il_X10_hasThing_ok : ∀ x ∈ il_X10_hasThing, decode cX10_hasThing x.1 = .ok x.2 := by decide +kernel
abbrev me_X10_hasThing : Me := (RX10, il_X10_hasThing, 2, (some .boolean), xRoom 1, [])
def w_X10_hasThing_30 (n : Nat) (t0 : Int32) (u0 : Mm) (Q : Int32 → Mm → Prop) : Prop :=
  narrow .boolean (.int t0) = .int t0 ∧ Q t0 u0
def w_X10_hasThing_29 (n : Nat) (u0 : Mm) (Q : Int32 → Mm → Prop) : Prop :=
  w_X10_hasThing_30 n (0 : Int32) u0 Q
def w_X10_hasThing (n : Nat) (a0 : Int32) (u0 : Mm) (Q : Int32 → Mm → Prop) : Prop :=
  ((u0.1 32 7) = 0 → w_X10_hasThing_29 n u0 Q) ∧
  (¬ (u0.1 32 7) = 0 → (a0 < 0 → w_X10_hasThing_29 n u0 Q) ∧
  (¬ a0 < 0 → ((u0.1 36 3) ≤ a0 → w_X10_hasThing_29 n u0 Q) ∧
  (¬ (u0.1 36 3) ≤ a0 → w_X10_hasThing_30 n (1 : Int32) u0 Q)))
set_option maxRecDepth 20000 in
theorem s_X10_hasThing_30 {g : Gb} (hg : xInj g) {n : Nat} {Q : Int32 → Mm → Prop} {t0 : Int32} {u0 : Mm} (h : w_X10_hasThing_30 n t0 u0 Q) : xE g me_X10_hasThing (pI g Q noT) 30 [] [.int t0] u0 := by
  unfold w_X10_hasThing_30 at h
  exact e_zret (k := 14) rfl rfl h.1 (Or.inl ⟨_, rfl, h.2⟩)
set_option maxRecDepth 20000 in
theorem s_X10_hasThing_29 {g : Gb} (hg : xInj g) {n : Nat} {Q : Int32 → Mm → Prop} {u0 : Mm} (h : w_X10_hasThing_29 n  u0 Q) : xE g me_X10_hasThing (pI g Q noT) 29 [] [] u0 := by
  unfold w_X10_hasThing_29 at h
  refine e_iconst (k := 13) (v := (0 : Int32)) rfl (by decide) ?_
  exact s_X10_hasThing_30 hg h
set_option maxRecDepth 20000 in
theorem c_X10_hasThing {g : Gb} (hg : xInj g) {n : Nat} {a0 : Int32} {u0 : Mm} {Q : Int32 → Mm → Prop} (h : w_X10_hasThing n a0 u0 Q) : xMet (gL g) yX10_hasThing (xws yX10_hasThing cX10_hasThing 2 (some .boolean)) (xRoom 1) (xPc g [.ref (gR g 32), .int a0] u0) (xQ g (pI g Q noT)) (xA g) := by
  refine xbody (il := il_X10_hasThing) hg il_X10_hasThing_ok m_X10_hasThing (Nat.le_of_ble_eq_true rfl) ?_
  show xE g me_X10_hasThing (pI g Q noT) 0 [(0, .ref (gR g 32)), (1, .int a0)] [] u0
  unfold w_X10_hasThing at h
  refine e_aload_n (k := 0) (i := 0) rfl rfl 0 rfl ?_
  refine e_getI (k := 1) rfl f_X10_72 rfl rfl ?_
  refine e_if_eq (k := 2) (tgt := 29) rfl (by decide) (fun z => ?_) (fun z => ?_)
  · have h := h.1 z
    refine e_sub (lv' := []) [] rfl ?_
    exact s_X10_hasThing_29 hg h
  · have h := h.2 z
    refine e_iload_n (k := 3) (i := 1) rfl rfl 1 rfl ?_
    refine e_if_lt (k := 4) (tgt := 29) rfl (by decide) (fun z => ?_) (fun z => ?_)
    · have h := h.1 z
      refine e_sub (lv' := []) [] rfl ?_
      exact s_X10_hasThing_29 hg h
    · have h := h.2 z
      refine e_iload_n (k := 5) (i := 1) rfl rfl 1 rfl ?_
      refine e_aload_n (k := 6) (i := 0) rfl rfl 0 rfl ?_
      refine e_getC (k := 7) rfl f_X10_36 rfl rfl ?_
      refine e_getC (k := 8) rfl f_X10_108 rfl rfl ?_
      refine e_getI (k := 9) rfl f_X10_112 rfl rfl ?_
      refine e_icmp_ge (k := 10) (tgt := 29) rfl (by decide) (fun z => ?_) (fun z => ?_)
      · have h := h.1 z
        refine e_sub (lv' := []) [] rfl ?_
        exact s_X10_hasThing_29 hg h
      · have h := h.2 z
        refine e_iconst (k := 11) (v := (1 : Int32)) rfl (by decide) ?_
        refine e_goto (k := 12) (tgt := 30) rfl (by decide) ?_
        refine e_sub (lv' := []) [] rfl ?_
        exact s_X10_hasThing_30 hg h
def il_X10_hasVoice : List (Nat × Instr × Nat) := [(0, .aload_n 0, 1), (1, .getfield 72, 3), (4, .ifCond .eq 17, 3), (7, .iload_n 1, 1), (8, .iconst 1, 1), (9, .if_icmp .lt 12, 3), (12, .iload_n 1, 1), (13, .iconst 3, 1), (14, .if_icmp .gt 7, 3), (17, .iconst 1, 1), (18, .goto 4, 3), (21, .iconst 0, 1), (22, .ireturn, 1)]
set_option maxRecDepth 20000 in
theorem il_X10_hasVoice_ok : ∀ x ∈ il_X10_hasVoice, decode cX10_hasVoice x.1 = .ok x.2 := by decide +kernel
abbrev me_X10_hasVoice : Me := (RX10, il_X10_hasVoice, 2, (some .boolean), xRoom 1, [])
def w_X10_hasVoice_22 (n : Nat) (t0 : Int32) (u0 : Mm) (Q : Int32 → Mm → Prop) : Prop :=
  narrow .boolean (.int t0) = .int t0 ∧ Q t0 u0
def w_X10_hasVoice_21 (n : Nat) (u0 : Mm) (Q : Int32 → Mm → Prop) : Prop :=
  w_X10_hasVoice_22 n (0 : Int32) u0 Q
def w_X10_hasVoice (n : Nat) (a0 : Int32) (u0 : Mm) (Q : Int32 → Mm → Prop) : Prop :=
  ((u0.1 32 7) = 0 → w_X10_hasVoice_21 n u0 Q) ∧
  (¬ (u0.1 32 7) = 0 → (a0 < (1 : Int32) → w_X10_hasVoice_21 n u0 Q) ∧
  (¬ a0 < (1 : Int32) → ((3 : Int32) < a0 → w_X10_hasVoice_21 n u0 Q) ∧
  (¬ (3 : Int32) < a0 → w_X10_hasVoice_22 n (1 : Int32) u0 Q)))
set_option maxRecDepth 20000 in
theorem s_X10_hasVoice_22 {g : Gb} (hg : xInj g) {n : Nat} {Q : Int32 → Mm → Prop} {t0 : Int32} {u0 : Mm} (h : w_X10_hasVoice_22 n t0 u0 Q) : xE g me_X10_hasVoice (pI g Q noT) 22 [] [.int t0] u0 := by
  unfold w_X10_hasVoice_22 at h
  exact e_zret (k := 12) rfl rfl h.1 (Or.inl ⟨_, rfl, h.2⟩)
set_option maxRecDepth 20000 in
theorem s_X10_hasVoice_21 {g : Gb} (hg : xInj g) {n : Nat} {Q : Int32 → Mm → Prop} {u0 : Mm} (h : w_X10_hasVoice_21 n  u0 Q) : xE g me_X10_hasVoice (pI g Q noT) 21 [] [] u0 := by
  unfold w_X10_hasVoice_21 at h
  refine e_iconst (k := 11) (v := (0 : Int32)) rfl (by decide) ?_
  exact s_X10_hasVoice_22 hg h
set_option maxRecDepth 20000 in
theorem c_X10_hasVoice {g : Gb} (hg : xInj g) {n : Nat} {a0 : Int32} {u0 : Mm} {Q : Int32 → Mm → Prop} (h : w_X10_hasVoice n a0 u0 Q) : xMet (gL g) yX10_hasVoice (xws yX10_hasVoice cX10_hasVoice 2 (some .boolean)) (xRoom 1) (xPc g [.ref (gR g 32), .int a0] u0) (xQ g (pI g Q noT)) (xA g) := by
  refine xbody (il := il_X10_hasVoice) hg il_X10_hasVoice_ok m_X10_hasVoice (Nat.le_of_ble_eq_true rfl) ?_
  show xE g me_X10_hasVoice (pI g Q noT) 0 [(0, .ref (gR g 32)), (1, .int a0)] [] u0
  unfold w_X10_hasVoice at h
  refine e_aload_n (k := 0) (i := 0) rfl rfl 0 rfl ?_
  refine e_getI (k := 1) rfl f_X10_72 rfl rfl ?_
  refine e_if_eq (k := 2) (tgt := 21) rfl (by decide) (fun z => ?_) (fun z => ?_)
  · have h := h.1 z
    refine e_sub (lv' := []) [] rfl ?_
    exact s_X10_hasVoice_21 hg h
  · have h := h.2 z
    refine e_iload_n (k := 3) (i := 1) rfl rfl 1 rfl ?_
    refine e_iconst (k := 4) (v := (1 : Int32)) rfl (by decide) ?_
    refine e_icmp_lt (k := 5) (tgt := 21) rfl (by decide) (fun z => ?_) (fun z => ?_)
    · have h := h.1 z
      refine e_sub (lv' := []) [] rfl ?_
      exact s_X10_hasVoice_21 hg h
    · have h := h.2 z
      refine e_iload_n (k := 6) (i := 1) rfl rfl 1 rfl ?_
      refine e_iconst (k := 7) (v := (3 : Int32)) rfl (by decide) ?_
      refine e_icmp_gt (k := 8) (tgt := 21) rfl (by decide) (fun z => ?_) (fun z => ?_)
      · have h := h.1 z
        refine e_sub (lv' := []) [] rfl ?_
        exact s_X10_hasVoice_21 hg h
      · have h := h.2 z
        refine e_iconst (k := 9) (v := (1 : Int32)) rfl (by decide) ?_
        refine e_goto (k := 10) (tgt := 22) rfl (by decide) ?_
        refine e_sub (lv' := []) [] rfl ?_
        exact s_X10_hasVoice_22 hg h
def il_X10_place : List (Nat × Instr × Nat) := [(0, .aload_n 0, 1), (1, .getfield 76, 3), (4, .ireturn, 1)]
set_option maxRecDepth 20000 in
theorem il_X10_place_ok : ∀ x ∈ il_X10_place, decode cX10_place x.1 = .ok x.2 := by decide +kernel
abbrev me_X10_place : Me := (RX10, il_X10_place, 1, (some .int), xRoom 1, [])
def w_X10_place (n : Nat) (u0 : Mm) (Q : Int32 → Mm → Prop) : Prop :=
  Q (u0.1 32 8) u0
set_option maxRecDepth 20000 in
theorem c_X10_place {g : Gb} (hg : xInj g) {n : Nat} {u0 : Mm} {Q : Int32 → Mm → Prop} (h : w_X10_place n u0 Q) : xMet (gL g) yX10_place (xws yX10_place cX10_place 1 (some .int)) (xRoom 1) (xPc g [.ref (gR g 32)] u0) (xQ g (pI g Q noT)) (xA g) := by
  refine xbody (il := il_X10_place) hg il_X10_place_ok m_X10_place (Nat.le_of_ble_eq_true rfl) ?_
  show xE g me_X10_place (pI g Q noT) 0 [(0, .ref (gR g 32))] [] u0
  unfold w_X10_place at h
  refine e_aload_n (k := 0) (i := 0) rfl rfl 0 rfl ?_
  refine e_getI (k := 1) rfl f_X10_76 rfl rfl ?_
  exact e_iret (k := 2) rfl rfl (Or.inl ⟨_, rfl, h⟩)
def il_X10_played : List (Nat × Instr × Nat) := [(0, .aload_n 0, 1), (1, .getfield 72, 3), (4, .ifCond .ne 5, 3), (7, .iconst (-1), 1), (8, .ireturn, 1), (9, .iload_n 1, 1), (10, .iconst (-1), 1), (11, .if_icmp .ne 11, 3), (14, .aload_n 0, 1), (15, .getfield 36, 3), (18, .getfield 172, 3), (21, .ireturn, 1), (22, .iload_n 1, 1), (23, .ifCond .lt 38, 3), (26, .iload_n 1, 1), (27, .aload_n 0, 1), (28, .getfield 36, 3), (31, .getfield 172, 3), (34, .if_icmp .ge 27, 3), (37, .iload_n 1, 1), (38, .aload_n 0, 1), (39, .getfield 36, 3), (42, .getfield 175, 3), (45, .arraylength, 1), (46, .if_icmp .ge 15, 3), (49, .aload_n 0, 1), (50, .getfield 36, 3), (53, .getfield 175, 3), (56, .iload_n 1, 1), (57, .iaload, 1), (58, .goto 4, 3), (61, .iconst (-1), 1), (62, .ireturn, 1)]
set_option maxRecDepth 20000 in
theorem il_X10_played_ok : ∀ x ∈ il_X10_played, decode cX10_played x.1 = .ok x.2 := by decide +kernel
abbrev me_X10_played : Me := (RX10, il_X10_played, 2, (some .int), xRoom 1, [])
def w_X10_played_62 (n : Nat) (t0 : Int32) (u0 : Mm) (Q : Int32 → Mm → Prop) : Prop :=
  Q t0 u0
def w_X10_played_61 (n : Nat) (u0 : Mm) (Q : Int32 → Mm → Prop) : Prop :=
  w_X10_played_62 n (-1 : Int32) u0 Q
def w_X10_played (n : Nat) (a0 : Int32) (u0 : Mm) (Q : Int32 → Mm → Prop) : Prop :=
  (¬ (u0.1 32 7) = 0 → (¬ a0 = (-1 : Int32) → (a0 < 0 → w_X10_played_61 n u0 Q) ∧
  (¬ a0 < 0 → ((u0.1 35 9) ≤ a0 → w_X10_played_61 n u0 Q) ∧
  (¬ (u0.1 35 9) ≤ a0 → ((1000 : Int32) ≤ a0 → w_X10_played_61 n u0 Q) ∧
  (¬ (1000 : Int32) ≤ a0 → vp_in a0 1000 ∧ (w_X10_played_62 n (u0.1 63 (ix a0)) u0 Q))))) ∧
  (a0 = (-1 : Int32) → Q (u0.1 35 9) u0)) ∧
  ((u0.1 32 7) = 0 → Q (-1 : Int32) u0)
set_option maxRecDepth 20000 in
theorem s_X10_played_62 {g : Gb} (hg : xInj g) {n : Nat} {Q : Int32 → Mm → Prop} {t0 : Int32} {u0 : Mm} (h : w_X10_played_62 n t0 u0 Q) : xE g me_X10_played (pI g Q noT) 62 [] [.int t0] u0 := by
  unfold w_X10_played_62 at h
  exact e_iret (k := 32) rfl rfl (Or.inl ⟨_, rfl, h⟩)
set_option maxRecDepth 20000 in
theorem s_X10_played_61 {g : Gb} (hg : xInj g) {n : Nat} {Q : Int32 → Mm → Prop} {u0 : Mm} (h : w_X10_played_61 n  u0 Q) : xE g me_X10_played (pI g Q noT) 61 [] [] u0 := by
  unfold w_X10_played_61 at h
  refine e_iconst (k := 31) (v := (-1 : Int32)) rfl (by decide) ?_
  exact s_X10_played_62 hg h
set_option maxRecDepth 20000 in
theorem c_X10_played {g : Gb} (hg : xInj g) {n : Nat} {a0 : Int32} {u0 : Mm} {Q : Int32 → Mm → Prop} (h : w_X10_played n a0 u0 Q) : xMet (gL g) yX10_played (xws yX10_played cX10_played 2 (some .int)) (xRoom 1) (xPc g [.ref (gR g 32), .int a0] u0) (xQ g (pI g Q noT)) (xA g) := by
  refine xbody (il := il_X10_played) hg il_X10_played_ok m_X10_played (Nat.le_of_ble_eq_true rfl) ?_
  show xE g me_X10_played (pI g Q noT) 0 [(0, .ref (gR g 32)), (1, .int a0)] [] u0
  unfold w_X10_played at h
  refine e_aload_n (k := 0) (i := 0) rfl rfl 0 rfl ?_
  refine e_getI (k := 1) rfl f_X10_72 rfl rfl ?_
  refine e_if_ne (k := 2) (tgt := 9) rfl (by decide) (fun z => ?_) (fun z => ?_)
  · have h := h.1 z
    refine e_iload_n (k := 5) (i := 1) rfl rfl 1 rfl ?_
    refine e_iconst (k := 6) (v := (-1 : Int32)) rfl (by decide) ?_
    refine e_icmp_ne (k := 7) (tgt := 22) rfl (by decide) (fun z => ?_) (fun z => ?_)
    · have h := h.1 z
      refine e_iload_n (k := 12) (i := 1) rfl rfl 1 rfl ?_
      refine e_if_lt (k := 13) (tgt := 61) rfl (by decide) (fun z => ?_) (fun z => ?_)
      · have h := h.1 z
        refine e_sub (lv' := []) [] rfl ?_
        exact s_X10_played_61 hg h
      · have h := h.2 z
        refine e_iload_n (k := 14) (i := 1) rfl rfl 1 rfl ?_
        refine e_aload_n (k := 15) (i := 0) rfl rfl 0 rfl ?_
        refine e_getC (k := 16) rfl f_X10_36 rfl rfl ?_
        refine e_getI (k := 17) rfl f_X10_172 rfl rfl ?_
        refine e_icmp_ge (k := 18) (tgt := 61) rfl (by decide) (fun z => ?_) (fun z => ?_)
        · have h := h.1 z
          refine e_sub (lv' := []) [] rfl ?_
          exact s_X10_played_61 hg h
        · have h := h.2 z
          refine e_iload_n (k := 19) (i := 1) rfl rfl 1 rfl ?_
          refine e_aload_n (k := 20) (i := 0) rfl rfl 0 rfl ?_
          refine e_getC (k := 21) rfl f_X10_36 rfl rfl ?_
          refine e_getC (k := 22) rfl f_X10_175 rfl rfl ?_
          refine e_alen (k := 23) (v := (1000 : Int32)) rfl rfl (by decide) (by decide) ?_
          refine e_icmp_ge (k := 24) (tgt := 61) rfl (by decide) (fun z => ?_) (fun z => ?_)
          · have h := h.1 z
            refine e_sub (lv' := []) [] rfl ?_
            exact s_X10_played_61 hg h
          · have h := h.2 z
            refine e_aload_n (k := 25) (i := 0) rfl rfl 0 rfl ?_
            refine e_getC (k := 26) rfl f_X10_36 rfl rfl ?_
            refine e_getC (k := 27) rfl f_X10_175 rfl rfl ?_
            refine e_iload_n (k := 28) (i := 1) rfl rfl 1 rfl ?_
            refine e_iald (k := 29) rfl rfl h.1 ?_
            have h := h.2
            refine e_goto (k := 30) (tgt := 62) rfl (by decide) ?_
            refine e_sub (lv' := []) [] rfl ?_
            exact s_X10_played_62 hg h
    · have h := h.2 z
      refine e_aload_n (k := 8) (i := 0) rfl rfl 0 rfl ?_
      refine e_getC (k := 9) rfl f_X10_36 rfl rfl ?_
      refine e_getI (k := 10) rfl f_X10_172 rfl rfl ?_
      exact e_iret (k := 11) rfl rfl (Or.inl ⟨_, rfl, h⟩)
  · have h := h.2 z
    refine e_iconst (k := 3) (v := (-1 : Int32)) rfl (by decide) ?_
    exact e_iret (k := 4) rfl rfl (Or.inl ⟨_, rfl, h⟩)
def il_X10_putNumber : List (Nat × Instr × Nat) := [(0, .bipush 24, 2), (2, .istore_n 2, 1), (3, .iload_n 2, 1), (4, .ifCond .lt 51, 3), (7, .aload_n 0, 1), (8, .getfield 68, 3), (11, .ifCond .lt 38, 3), (14, .aload_n 0, 1), (15, .getfield 68, 3), (18, .aload_n 0, 1), (19, .getfield 18, 3), (22, .arraylength, 1), (23, .if_icmp .ge 26, 3), (26, .aload_n 0, 1), (27, .getfield 18, 3), (30, .aload_n 0, 1), (31, .getfield 68, 3), (34, .iload_n 1, 1), (35, .iload_n 2, 1), (36, .ishr, 1), (37, .i2b, 1), (38, .bastore, 1), (39, .aload_n 0, 1), (40, .dup, 1), (41, .getfield 68, 3), (44, .iconst 1, 1), (45, .iadd, 1), (46, .putfield 68, 3), (49, .iinc 2 (-8), 3), (52, .goto (-49), 3), (55, .return_, 1)]
set_option maxRecDepth 20000 in
theorem il_X10_putNumber_ok : ∀ x ∈ il_X10_putNumber, decode cX10_putNumber x.1 = .ok x.2 := by decide +kernel
abbrev me_X10_putNumber : Me := (RX10, il_X10_putNumber, 3, none, xRoom 1, [])
def w_X10_putNumber_49 (n : Nat) (L3 : Int32 → Int32 → Mm → Prop) (x1 : Int32) (x2 : Int32) (u0 : Mm) (Q : Mm → Prop) : Prop :=
  L3 x1 (x2 + (-8 : Int32)) u0
def w_X10_putNumber_3 (n : Nat) (Q : Mm → Prop) : Nat → Int32 → Int32 → Mm → Prop
  | 0, _, _, _ => False
  | k + 1, x1, x2, u0 =>
  (x2 < 0 → Q u0) ∧
  (¬ x2 < 0 → ((u0.1 32 6) < 0 → w_X10_putNumber_49 n (w_X10_putNumber_3 n Q k) x1 x2 u0 Q) ∧
  (¬ (u0.1 32 6) < 0 → ((2400 : Int32) ≤ (u0.1 32 6) → w_X10_putNumber_49 n (w_X10_putNumber_3 n Q k) x1 x2 u0 Q) ∧
  (¬ (2400 : Int32) ≤ (u0.1 32 6) → vp_in (u0.1 32 6) 2400 ∧ (mlet (setI u0 (u0.2.2 0) (ix (u0.1 32 6)) (vp_nar .byte (x1 >>> (x2 &&& 31)).toInt8.toInt32)) fun u1 =>
  mlet (setI u1 32 6 ((u1.1 32 6) + (1 : Int32))) fun u2 =>
  w_X10_putNumber_49 n (w_X10_putNumber_3 n Q k) x1 x2 u2 Q))))
def w_X10_putNumber (n : Nat) (a0 : Int32) (u0 : Mm) (Q : Mm → Prop) : Prop :=
  (w_X10_putNumber_3 n Q n) a0 (24 : Int32) u0
set_option maxRecDepth 20000 in
theorem s_X10_putNumber_49 {g : Gb} (hg : xInj g) {n : Nat} {Q : Mm → Prop} {L3 : Int32 → Int32 → Mm → Prop} (hL3 : ∀ (x1 : Int32) (x2 : Int32) (u0 : Mm), L3 x1 x2 u0 → xE g me_X10_putNumber (pV g Q noT) 3 [(0, .ref (gR g 32)), (1, .int x1), (2, .int x2)] [] u0) {x1 : Int32} {x2 : Int32} {u0 : Mm} (h : w_X10_putNumber_49 n L3 x1 x2 u0 Q) : xE g me_X10_putNumber (pV g Q noT) 49 [(0, .ref (gR g 32)), (1, .int x1), (2, .int x2)] [] u0 := by
  unfold w_X10_putNumber_49 at h
  refine e_iinc (k := 28) (i := 2) (j := 2) (v := (x2 + (-8 : Int32))) (lv' := [(0, .ref (gR g 32)), (1, .int x1), (2, .int (x2 + (-8 : Int32)))]) rfl rfl rfl (by decide) [1, 2, 0] rfl ?_
  refine e_goto (k := 29) (tgt := 3) rfl (by decide) ?_
  exact hL3 x1 (x2 + (-8 : Int32)) u0 h
set_option maxRecDepth 20000 in
theorem s_X10_putNumber_3 {g : Gb} (hg : xInj g) {n : Nat} {Q : Mm → Prop} : ∀ (k : Nat) (x1 : Int32) (x2 : Int32) (u0 : Mm), w_X10_putNumber_3 n Q k x1 x2 u0 → xE g me_X10_putNumber (pV g Q noT) 3 [(0, .ref (gR g 32)), (1, .int x1), (2, .int x2)] [] u0 := by
  intro k
  induction k with
  | zero => intro x1 x2 u0 h; exact h.elim
  | succ k ih =>
    intro x1 x2 u0 h
    unfold w_X10_putNumber_3 at h
    refine e_iload_n (k := 2) (i := 2) rfl rfl 2 rfl ?_
    refine e_if_lt (k := 3) (tgt := 55) rfl (by decide) (fun z => ?_) (fun z => ?_)
    · have h := h.1 z
      exact e_vret (k := 30) rfl rfl (Or.inl ⟨rfl, h⟩)
    · have h := h.2 z
      refine e_aload_n (k := 4) (i := 0) rfl rfl 0 rfl ?_
      refine e_getI (k := 5) rfl f_X10_68 rfl rfl ?_
      refine e_if_lt (k := 6) (tgt := 49) rfl (by decide) (fun z => ?_) (fun z => ?_)
      · have h := h.1 z
        exact s_X10_putNumber_49 hg ih h
      · have h := h.2 z
        refine e_aload_n (k := 7) (i := 0) rfl rfl 0 rfl ?_
        refine e_getI (k := 8) rfl f_X10_68 rfl rfl ?_
        refine e_aload_n (k := 9) (i := 0) rfl rfl 0 rfl ?_
        refine e_getP (k := 10) rfl f_X10_18 rfl rfl (fun ty1 => ?_)
        refine e_alen (k := 11) (v := (2400 : Int32)) rfl ty1.1 (by decide) (by decide) ?_
        refine e_icmp_ge (k := 12) (tgt := 49) rfl (by decide) (fun z => ?_) (fun z => ?_)
        · have h := h.1 z
          exact s_X10_putNumber_49 hg ih h
        · have h := h.2 z
          refine e_aload_n (k := 13) (i := 0) rfl rfl 0 rfl ?_
          refine e_getP (k := 14) rfl f_X10_18 rfl rfl (fun ty2 => ?_)
          refine e_aload_n (k := 15) (i := 0) rfl rfl 0 rfl ?_
          refine e_getI (k := 16) rfl f_X10_68 rfl rfl ?_
          refine e_iload_n (k := 17) (i := 1) rfl rfl 1 rfl ?_
          refine e_iload_n (k := 18) (i := 2) rfl rfl 2 rfl ?_
          refine e_ishr (k := 19) rfl ?_
          refine e_i2b (k := 20) rfl ?_
          refine e_bast (k := 21) rfl ty2.1 h.1 ?_
          have h := h.2
          refine e_mlet h (fun u1 h => ?_)
          refine e_aload_n (k := 22) (i := 0) rfl rfl 0 rfl ?_
          refine e_dup (k := 23) rfl rfl ?_
          refine e_getI (k := 24) rfl f_X10_68 rfl rfl ?_
          refine e_iconst (k := 25) (v := (1 : Int32)) rfl (by decide) ?_
          refine e_iadd (k := 26) rfl ?_
          refine e_putI (k := 27) rfl fg_X10_68 rfl rfl ?_
          refine e_mlet h (fun u2 h => ?_)
          exact s_X10_putNumber_49 hg ih h
set_option maxRecDepth 20000 in
theorem c_X10_putNumber {g : Gb} (hg : xInj g) {n : Nat} {a0 : Int32} {u0 : Mm} {Q : Mm → Prop} (h : w_X10_putNumber n a0 u0 Q) : xMet (gL g) yX10_putNumber (xws yX10_putNumber cX10_putNumber 3 none) (xRoom 1) (xPc g [.ref (gR g 32), .int a0] u0) (xQ g (pV g Q noT)) (xA g) := by
  refine xbody (il := il_X10_putNumber) hg il_X10_putNumber_ok m_X10_putNumber (Nat.le_of_ble_eq_true rfl) ?_
  show xE g me_X10_putNumber (pV g Q noT) 0 [(0, .ref (gR g 32)), (1, .int a0)] [] u0
  unfold w_X10_putNumber at h
  refine e_bipush (k := 0) (v := (24 : Int32)) rfl (by decide) ?_
  refine e_istore_n (k := 1) (i := 2) (lv' := [(0, .ref (gR g 32)), (1, .int a0), (2, .int (24 : Int32))]) rfl rfl (by decide) [1, 2, 0] rfl ?_
  exact s_X10_putNumber_3 hg n a0 (24 : Int32) u0 h
def il_X12_addTime : List (Nat × Instr × Nat) := [(0, .aload_n 0, 1), (1, .getfield 69, 3), (4, .aload_n 0, 1), (5, .getfield 290, 3), (8, .aload_n 0, 1), (9, .getfield 69, 3), (12, .aload_n 0, 1), (13, .getfield 290, 3), (16, .laload, 1), (17, .lload_n 1, 1), (18, .ladd, 1), (19, .lastore, 1), (20, .aload_n 0, 1), (21, .getfield 81, 3), (24, .sipush 300, 3), (27, .aload_n 0, 1), (28, .getfield 290, 3), (31, .imul, 1), (32, .aload_n 0, 1), (33, .getfield 72, 3), (36, .aload_n 0, 1), (37, .getfield 290, 3), (40, .iaload, 1), (41, .iadd, 1), (42, .aload_n 0, 1), (43, .getfield 81, 3), (46, .sipush 300, 3), (49, .aload_n 0, 1), (50, .getfield 290, 3), (53, .imul, 1), (54, .aload_n 0, 1), (55, .getfield 72, 3), (58, .aload_n 0, 1), (59, .getfield 290, 3), (62, .iaload, 1), (63, .iadd, 1), (64, .laload, 1), (65, .lload_n 1, 1), (66, .ladd, 1), (67, .lastore, 1), (68, .return_, 1)]
set_option maxRecDepth 20000 in
theorem il_X12_addTime_ok : ∀ x ∈ il_X12_addTime, decode cX12_addTime x.1 = .ok x.2 := by decide +kernel
abbrev me_X12_addTime : Me := (RX12, il_X12_addTime, 3, none, xRoom 1, [])
def w_X12_addTime (n : Nat) (a0 : Int64) (u0 : Mm) (Q : Mm → Prop) (T : Mm → Prop) : Prop :=
  vp_in (u0.1 0 28) 3 ∧ (vp_in (u0.1 0 28) 3 ∧ (mlet (setJ u0 16 (ix (u0.1 0 28)) ((u0.2.1 16 (ix (u0.1 0 28))) + a0)) fun u1 =>
  vp_in (u1.1 0 28) 3 ∧ (vp_in (u1.1 0 28) 3 ∧ (vp_in (((300 : Int32) * (u1.1 0 28)) + (u1.1 17 (ix (u1.1 0 28)))) 900 ∧ (vp_in (((300 : Int32) * (u1.1 0 28)) + (u1.1 17 (ix (u1.1 0 28)))) 900 ∧ (mlet (setJ u1 20 (ix (((300 : Int32) * (u1.1 0 28)) + (u1.1 17 (ix (u1.1 0 28))))) ((u1.2.1 20 (ix (((300 : Int32) * (u1.1 0 28)) + (u1.1 17 (ix (u1.1 0 28)))))) + a0)) fun u2 =>
  Q u2))))))
set_option maxRecDepth 20000 in
theorem c_X12_addTime {g : Gb} (hg : xInj g) {n : Nat} {a0 : Int64} {u0 : Mm} {Q : Mm → Prop} {T : Mm → Prop} (h : w_X12_addTime n a0 u0 Q T) : xMet (gL g) yX12_addTime (xws yX12_addTime cX12_addTime 3 none) (xRoom 1) (xPc g [.ref (gR g 0), .long a0] u0) (xQ g (pV g Q T)) (xA g) := by
  refine xbody (il := il_X12_addTime) hg il_X12_addTime_ok m_X12_addTime (Nat.le_of_ble_eq_true rfl) ?_
  show xE g me_X12_addTime (pV g Q T) 0 [(0, .ref (gR g 0)), (1, .long a0)] [] u0
  unfold w_X12_addTime at h
  refine e_aload_n (k := 0) (i := 0) rfl rfl 0 rfl ?_
  refine e_getC (k := 1) rfl f_X12_69 rfl rfl ?_
  refine e_aload_n (k := 2) (i := 0) rfl rfl 0 rfl ?_
  refine e_getI (k := 3) rfl f_X12_290 rfl rfl ?_
  refine e_aload_n (k := 4) (i := 0) rfl rfl 0 rfl ?_
  refine e_getC (k := 5) rfl f_X12_69 rfl rfl ?_
  refine e_aload_n (k := 6) (i := 0) rfl rfl 0 rfl ?_
  refine e_getI (k := 7) rfl f_X12_290 rfl rfl ?_
  refine e_lald (k := 8) rfl rfl h.1 ?_
  have h := h.2
  refine e_lload_n (k := 9) (i := 1) rfl rfl 1 rfl ?_
  refine e_ladd (k := 10) rfl ?_
  refine e_last (k := 11) rfl rfl h.1 ?_
  have h := h.2
  refine e_mlet h (fun u1 h => ?_)
  refine e_aload_n (k := 12) (i := 0) rfl rfl 0 rfl ?_
  refine e_getC (k := 13) rfl f_X12_81 rfl rfl ?_
  refine e_sipush (k := 14) (v := (300 : Int32)) rfl (by decide) ?_
  refine e_aload_n (k := 15) (i := 0) rfl rfl 0 rfl ?_
  refine e_getI (k := 16) rfl f_X12_290 rfl rfl ?_
  refine e_imul (k := 17) rfl ?_
  refine e_aload_n (k := 18) (i := 0) rfl rfl 0 rfl ?_
  refine e_getC (k := 19) rfl f_X12_72 rfl rfl ?_
  refine e_aload_n (k := 20) (i := 0) rfl rfl 0 rfl ?_
  refine e_getI (k := 21) rfl f_X12_290 rfl rfl ?_
  refine e_iald (k := 22) rfl rfl h.1 ?_
  have h := h.2
  refine e_iadd (k := 23) rfl ?_
  refine e_aload_n (k := 24) (i := 0) rfl rfl 0 rfl ?_
  refine e_getC (k := 25) rfl f_X12_81 rfl rfl ?_
  refine e_sipush (k := 26) (v := (300 : Int32)) rfl (by decide) ?_
  refine e_aload_n (k := 27) (i := 0) rfl rfl 0 rfl ?_
  refine e_getI (k := 28) rfl f_X12_290 rfl rfl ?_
  refine e_imul (k := 29) rfl ?_
  refine e_aload_n (k := 30) (i := 0) rfl rfl 0 rfl ?_
  refine e_getC (k := 31) rfl f_X12_72 rfl rfl ?_
  refine e_aload_n (k := 32) (i := 0) rfl rfl 0 rfl ?_
  refine e_getI (k := 33) rfl f_X12_290 rfl rfl ?_
  refine e_iald (k := 34) rfl rfl h.1 ?_
  have h := h.2
  refine e_iadd (k := 35) rfl ?_
  refine e_lald (k := 36) rfl rfl h.1 ?_
  have h := h.2
  refine e_lload_n (k := 37) (i := 1) rfl rfl 1 rfl ?_
  refine e_ladd (k := 38) rfl ?_
  refine e_last (k := 39) rfl rfl h.1 ?_
  have h := h.2
  refine e_mlet h (fun u2 h => ?_)
  exact e_vret (k := 40) rfl rfl (Or.inl ⟨rfl, h⟩)
def il_X12_beginLine : List (Nat × Instr × Nat) := [(0, .aload_n 0, 1), (1, .aload_n 0, 1), (2, .getfield 138, 3), (5, .putfield 159, 3), (8, .aload_n 0, 1), (9, .getfield 159, 3), (12, .aload_n 0, 1), (13, .getfield 145, 3), (16, .if_icmp .ge 30, 3), (19, .aload_n 0, 1), (20, .getfield 24, 3), (23, .aload_n 0, 1), (24, .getfield 159, 3), (27, .baload, 1), (28, .bipush 10, 2), (30, .if_icmp .eq 16, 3), (33, .aload_n 0, 1), (34, .dup, 1), (35, .getfield 159, 3), (38, .iconst 1, 1), (39, .iadd, 1), (40, .putfield 159, 3), (43, .goto (-35), 3), (46, .aload_n 0, 1), (47, .aload_n 0, 1), (48, .getfield 138, 3), (51, .putfield 135, 3), (54, .aload_n 0, 1), (55, .getfield 135, 3), (58, .aload_n 0, 1), (59, .getfield 159, 3), (62, .if_icmp .ge 30, 3), (65, .aload_n 0, 1), (66, .getfield 24, 3), (69, .aload_n 0, 1), (70, .getfield 135, 3), (73, .baload, 1), (74, .bipush 37, 2), (76, .if_icmp .eq 16, 3), (79, .aload_n 0, 1), (80, .dup, 1), (81, .getfield 135, 3), (84, .iconst 1, 1), (85, .iadd, 1), (86, .putfield 135, 3), (89, .goto (-35), 3), (92, .aload_n 0, 1), (93, .getfield 135, 3), (96, .aload_n 0, 1), (97, .getfield 138, 3), (100, .if_icmp .le 32, 3), (103, .aload_n 0, 1), (104, .getfield 24, 3), (107, .aload_n 0, 1), (108, .getfield 135, 3), (111, .iconst 1, 1), (112, .isub, 1), (113, .baload, 1), (114, .bipush 32, 2), (116, .if_icmp .ne 16, 3), (119, .aload_n 0, 1), (120, .dup, 1), (121, .getfield 135, 3), (124, .iconst 1, 1), (125, .isub, 1), (126, .putfield 135, 3), (129, .goto (-37), 3), (132, .aload_n 0, 1), (133, .getfield 135, 3), (136, .aload_n 0, 1), (137, .getfield 138, 3), (140, .if_icmp .le 29, 3), (143, .aload_n 0, 1), (144, .getfield 24, 3), (147, .aload_n 0, 1), (148, .getfield 135, 3), (151, .iconst 1, 1), (152, .isub, 1), (153, .baload, 1), (154, .bipush 92, 2), (156, .if_icmp .ne 13, 3), (159, .aload_n 0, 1), (160, .dup, 1), (161, .getfield 135, 3), (164, .iconst 1, 1), (165, .isub, 1), (166, .putfield 135, 3), (169, .return_, 1)]
set_option maxRecDepth 20000 in
theorem il_X12_beginLine_ok : ∀ x ∈ il_X12_beginLine, decode cX12_beginLine x.1 = .ok x.2 := by decide +kernel
abbrev me_X12_beginLine : Me := (RX12, il_X12_beginLine, 1, none, xRoom 1, [])
def w_X12_beginLine_169 (n : Nat) (u0 : Mm) (Q : Mm → Prop) (T : Mm → Prop) : Prop :=
  Q u0
def w_X12_beginLine_132 (n : Nat) (u0 : Mm) (Q : Mm → Prop) (T : Mm → Prop) : Prop :=
  ((u0.1 0 9) ≤ (u0.1 0 7) → w_X12_beginLine_169 n u0 Q T) ∧
  (¬ (u0.1 0 9) ≤ (u0.1 0 7) → vp_in ((u0.1 0 9) - (1 : Int32)) 2420 ∧ ((¬ (u0.1 3 (ix ((u0.1 0 9) - (1 : Int32)))) = (92 : Int32) → w_X12_beginLine_169 n u0 Q T) ∧
  ((u0.1 3 (ix ((u0.1 0 9) - (1 : Int32)))) = (92 : Int32) → mlet (setI u0 0 9 ((u0.1 0 9) - (1 : Int32))) fun u1 =>
  w_X12_beginLine_169 n u1 Q T)))
def w_X12_beginLine_92 (n : Nat) (Q : Mm → Prop) (T : Mm → Prop) : Nat → Mm → Prop
  | 0, _ => False
  | k + 1, u0 =>
  ((u0.1 0 9) ≤ (u0.1 0 7) → w_X12_beginLine_132 n u0 Q T) ∧
  (¬ (u0.1 0 9) ≤ (u0.1 0 7) → vp_in ((u0.1 0 9) - (1 : Int32)) 2420 ∧ ((¬ (u0.1 3 (ix ((u0.1 0 9) - (1 : Int32)))) = (32 : Int32) → w_X12_beginLine_132 n u0 Q T) ∧
  ((u0.1 3 (ix ((u0.1 0 9) - (1 : Int32)))) = (32 : Int32) → mlet (setI u0 0 9 ((u0.1 0 9) - (1 : Int32))) fun u1 =>
  (w_X12_beginLine_92 n Q T k) u1)))
def w_X12_beginLine_54 (n : Nat) (Q : Mm → Prop) (T : Mm → Prop) : Nat → Mm → Prop
  | 0, _ => False
  | k + 1, u0 =>
  ((u0.1 0 8) ≤ (u0.1 0 9) → (w_X12_beginLine_92 n Q T n) u0) ∧
  (¬ (u0.1 0 8) ≤ (u0.1 0 9) → vp_in (u0.1 0 9) 2420 ∧ (((u0.1 3 (ix (u0.1 0 9))) = (37 : Int32) → (w_X12_beginLine_92 n Q T n) u0) ∧
  (¬ (u0.1 3 (ix (u0.1 0 9))) = (37 : Int32) → mlet (setI u0 0 9 ((u0.1 0 9) + (1 : Int32))) fun u1 =>
  (w_X12_beginLine_54 n Q T k) u1)))
def w_X12_beginLine_46 (n : Nat) (u0 : Mm) (Q : Mm → Prop) (T : Mm → Prop) : Prop :=
  mlet (setI u0 0 9 (u0.1 0 7)) fun u1 =>
  (w_X12_beginLine_54 n Q T n) u1
def w_X12_beginLine_8 (n : Nat) (Q : Mm → Prop) (T : Mm → Prop) : Nat → Mm → Prop
  | 0, _ => False
  | k + 1, u0 =>
  ((u0.1 0 6) ≤ (u0.1 0 8) → w_X12_beginLine_46 n u0 Q T) ∧
  (¬ (u0.1 0 6) ≤ (u0.1 0 8) → vp_in (u0.1 0 8) 2420 ∧ (((u0.1 3 (ix (u0.1 0 8))) = (10 : Int32) → w_X12_beginLine_46 n u0 Q T) ∧
  (¬ (u0.1 3 (ix (u0.1 0 8))) = (10 : Int32) → mlet (setI u0 0 8 ((u0.1 0 8) + (1 : Int32))) fun u1 =>
  (w_X12_beginLine_8 n Q T k) u1)))
def w_X12_beginLine (n : Nat) (u0 : Mm) (Q : Mm → Prop) (T : Mm → Prop) : Prop :=
  mlet (setI u0 0 8 (u0.1 0 7)) fun u1 =>
  (w_X12_beginLine_8 n Q T n) u1
set_option maxRecDepth 20000 in
theorem s_X12_beginLine_169 {g : Gb} (hg : xInj g) {n : Nat} {Q : Mm → Prop} {T : Mm → Prop} {u0 : Mm} (h : w_X12_beginLine_169 n  u0 Q T) : xE g me_X12_beginLine (pV g Q T) 169 [] [] u0 := by
  unfold w_X12_beginLine_169 at h
  exact e_vret (k := 87) rfl rfl (Or.inl ⟨rfl, h⟩)
set_option maxRecDepth 20000 in
theorem s_X12_beginLine_132 {g : Gb} (hg : xInj g) {n : Nat} {Q : Mm → Prop} {T : Mm → Prop} {u0 : Mm} (h : w_X12_beginLine_132 n  u0 Q T) : xE g me_X12_beginLine (pV g Q T) 132 [(0, .ref (gR g 0))] [] u0 := by
  unfold w_X12_beginLine_132 at h
  refine e_aload_n (k := 67) (i := 0) rfl rfl 0 rfl ?_
  refine e_getI (k := 68) rfl f_X12_135 rfl rfl ?_
  refine e_aload_n (k := 69) (i := 0) rfl rfl 0 rfl ?_
  refine e_getI (k := 70) rfl f_X12_138 rfl rfl ?_
  refine e_icmp_le (k := 71) (tgt := 169) rfl (by decide) (fun z => ?_) (fun z => ?_)
  · have h := h.1 z
    refine e_sub (lv' := []) [] rfl ?_
    exact s_X12_beginLine_169 hg h
  · have h := h.2 z
    refine e_aload_n (k := 72) (i := 0) rfl rfl 0 rfl ?_
    refine e_getC (k := 73) rfl f_X12_24 rfl rfl ?_
    refine e_aload_n (k := 74) (i := 0) rfl rfl 0 rfl ?_
    refine e_getI (k := 75) rfl f_X12_135 rfl rfl ?_
    refine e_iconst (k := 76) (v := (1 : Int32)) rfl (by decide) ?_
    refine e_isub (k := 77) rfl ?_
    refine e_bald (k := 78) rfl rfl h.1 ?_
    have h := h.2
    refine e_bipush (k := 79) (v := (92 : Int32)) rfl (by decide) ?_
    refine e_icmp_ne (k := 80) (tgt := 169) rfl (by decide) (fun z => ?_) (fun z => ?_)
    · have h := h.1 z
      refine e_sub (lv' := []) [] rfl ?_
      exact s_X12_beginLine_169 hg h
    · have h := h.2 z
      refine e_aload_n (k := 81) (i := 0) rfl rfl 0 rfl ?_
      refine e_dup (k := 82) rfl rfl ?_
      refine e_getI (k := 83) rfl f_X12_135 rfl rfl ?_
      refine e_iconst (k := 84) (v := (1 : Int32)) rfl (by decide) ?_
      refine e_isub (k := 85) rfl ?_
      refine e_putI (k := 86) rfl fg_X12_135 rfl rfl ?_
      refine e_mlet h (fun u1 h => ?_)
      refine e_sub (lv' := []) [] rfl ?_
      exact s_X12_beginLine_169 hg h
set_option maxRecDepth 20000 in
theorem s_X12_beginLine_92 {g : Gb} (hg : xInj g) {n : Nat} {Q : Mm → Prop} {T : Mm → Prop} : ∀ (k : Nat) (u0 : Mm), w_X12_beginLine_92 n Q T k  u0 → xE g me_X12_beginLine (pV g Q T) 92 [(0, .ref (gR g 0))] [] u0 := by
  intro k
  induction k with
  | zero => intro  u0 h; exact h.elim
  | succ k ih =>
    intro  u0 h
    unfold w_X12_beginLine_92 at h
    refine e_aload_n (k := 46) (i := 0) rfl rfl 0 rfl ?_
    refine e_getI (k := 47) rfl f_X12_135 rfl rfl ?_
    refine e_aload_n (k := 48) (i := 0) rfl rfl 0 rfl ?_
    refine e_getI (k := 49) rfl f_X12_138 rfl rfl ?_
    refine e_icmp_le (k := 50) (tgt := 132) rfl (by decide) (fun z => ?_) (fun z => ?_)
    · have h := h.1 z
      exact s_X12_beginLine_132 hg h
    · have h := h.2 z
      refine e_aload_n (k := 51) (i := 0) rfl rfl 0 rfl ?_
      refine e_getC (k := 52) rfl f_X12_24 rfl rfl ?_
      refine e_aload_n (k := 53) (i := 0) rfl rfl 0 rfl ?_
      refine e_getI (k := 54) rfl f_X12_135 rfl rfl ?_
      refine e_iconst (k := 55) (v := (1 : Int32)) rfl (by decide) ?_
      refine e_isub (k := 56) rfl ?_
      refine e_bald (k := 57) rfl rfl h.1 ?_
      have h := h.2
      refine e_bipush (k := 58) (v := (32 : Int32)) rfl (by decide) ?_
      refine e_icmp_ne (k := 59) (tgt := 132) rfl (by decide) (fun z => ?_) (fun z => ?_)
      · have h := h.1 z
        exact s_X12_beginLine_132 hg h
      · have h := h.2 z
        refine e_aload_n (k := 60) (i := 0) rfl rfl 0 rfl ?_
        refine e_dup (k := 61) rfl rfl ?_
        refine e_getI (k := 62) rfl f_X12_135 rfl rfl ?_
        refine e_iconst (k := 63) (v := (1 : Int32)) rfl (by decide) ?_
        refine e_isub (k := 64) rfl ?_
        refine e_putI (k := 65) rfl fg_X12_135 rfl rfl ?_
        refine e_mlet h (fun u1 h => ?_)
        refine e_goto (k := 66) (tgt := 92) rfl (by decide) ?_
        exact ih u1 h
set_option maxRecDepth 20000 in
theorem s_X12_beginLine_54 {g : Gb} (hg : xInj g) {n : Nat} {Q : Mm → Prop} {T : Mm → Prop} : ∀ (k : Nat) (u0 : Mm), w_X12_beginLine_54 n Q T k  u0 → xE g me_X12_beginLine (pV g Q T) 54 [(0, .ref (gR g 0))] [] u0 := by
  intro k
  induction k with
  | zero => intro  u0 h; exact h.elim
  | succ k ih =>
    intro  u0 h
    unfold w_X12_beginLine_54 at h
    refine e_aload_n (k := 27) (i := 0) rfl rfl 0 rfl ?_
    refine e_getI (k := 28) rfl f_X12_135 rfl rfl ?_
    refine e_aload_n (k := 29) (i := 0) rfl rfl 0 rfl ?_
    refine e_getI (k := 30) rfl f_X12_159 rfl rfl ?_
    refine e_icmp_ge (k := 31) (tgt := 92) rfl (by decide) (fun z => ?_) (fun z => ?_)
    · have h := h.1 z
      exact s_X12_beginLine_92 hg n u0 h
    · have h := h.2 z
      refine e_aload_n (k := 32) (i := 0) rfl rfl 0 rfl ?_
      refine e_getC (k := 33) rfl f_X12_24 rfl rfl ?_
      refine e_aload_n (k := 34) (i := 0) rfl rfl 0 rfl ?_
      refine e_getI (k := 35) rfl f_X12_135 rfl rfl ?_
      refine e_bald (k := 36) rfl rfl h.1 ?_
      have h := h.2
      refine e_bipush (k := 37) (v := (37 : Int32)) rfl (by decide) ?_
      refine e_icmp_eq (k := 38) (tgt := 92) rfl (by decide) (fun z => ?_) (fun z => ?_)
      · have h := h.1 z
        exact s_X12_beginLine_92 hg n u0 h
      · have h := h.2 z
        refine e_aload_n (k := 39) (i := 0) rfl rfl 0 rfl ?_
        refine e_dup (k := 40) rfl rfl ?_
        refine e_getI (k := 41) rfl f_X12_135 rfl rfl ?_
        refine e_iconst (k := 42) (v := (1 : Int32)) rfl (by decide) ?_
        refine e_iadd (k := 43) rfl ?_
        refine e_putI (k := 44) rfl fg_X12_135 rfl rfl ?_
        refine e_mlet h (fun u1 h => ?_)
        refine e_goto (k := 45) (tgt := 54) rfl (by decide) ?_
        exact ih u1 h
set_option maxRecDepth 20000 in
theorem s_X12_beginLine_46 {g : Gb} (hg : xInj g) {n : Nat} {Q : Mm → Prop} {T : Mm → Prop} {u0 : Mm} (h : w_X12_beginLine_46 n  u0 Q T) : xE g me_X12_beginLine (pV g Q T) 46 [(0, .ref (gR g 0))] [] u0 := by
  unfold w_X12_beginLine_46 at h
  refine e_aload_n (k := 23) (i := 0) rfl rfl 0 rfl ?_
  refine e_aload_n (k := 24) (i := 0) rfl rfl 0 rfl ?_
  refine e_getI (k := 25) rfl f_X12_138 rfl rfl ?_
  refine e_putI (k := 26) rfl fg_X12_135 rfl rfl ?_
  refine e_mlet h (fun u1 h => ?_)
  exact s_X12_beginLine_54 hg n u1 h
set_option maxRecDepth 20000 in
theorem s_X12_beginLine_8 {g : Gb} (hg : xInj g) {n : Nat} {Q : Mm → Prop} {T : Mm → Prop} : ∀ (k : Nat) (u0 : Mm), w_X12_beginLine_8 n Q T k  u0 → xE g me_X12_beginLine (pV g Q T) 8 [(0, .ref (gR g 0))] [] u0 := by
  intro k
  induction k with
  | zero => intro  u0 h; exact h.elim
  | succ k ih =>
    intro  u0 h
    unfold w_X12_beginLine_8 at h
    refine e_aload_n (k := 4) (i := 0) rfl rfl 0 rfl ?_
    refine e_getI (k := 5) rfl f_X12_159 rfl rfl ?_
    refine e_aload_n (k := 6) (i := 0) rfl rfl 0 rfl ?_
    refine e_getI (k := 7) rfl f_X12_145 rfl rfl ?_
    refine e_icmp_ge (k := 8) (tgt := 46) rfl (by decide) (fun z => ?_) (fun z => ?_)
    · have h := h.1 z
      exact s_X12_beginLine_46 hg h
    · have h := h.2 z
      refine e_aload_n (k := 9) (i := 0) rfl rfl 0 rfl ?_
      refine e_getC (k := 10) rfl f_X12_24 rfl rfl ?_
      refine e_aload_n (k := 11) (i := 0) rfl rfl 0 rfl ?_
      refine e_getI (k := 12) rfl f_X12_159 rfl rfl ?_
      refine e_bald (k := 13) rfl rfl h.1 ?_
      have h := h.2
      refine e_bipush (k := 14) (v := (10 : Int32)) rfl (by decide) ?_
      refine e_icmp_eq (k := 15) (tgt := 46) rfl (by decide) (fun z => ?_) (fun z => ?_)
      · have h := h.1 z
        exact s_X12_beginLine_46 hg h
      · have h := h.2 z
        refine e_aload_n (k := 16) (i := 0) rfl rfl 0 rfl ?_
        refine e_dup (k := 17) rfl rfl ?_
        refine e_getI (k := 18) rfl f_X12_159 rfl rfl ?_
        refine e_iconst (k := 19) (v := (1 : Int32)) rfl (by decide) ?_
        refine e_iadd (k := 20) rfl ?_
        refine e_putI (k := 21) rfl fg_X12_159 rfl rfl ?_
        refine e_mlet h (fun u1 h => ?_)
        refine e_goto (k := 22) (tgt := 8) rfl (by decide) ?_
        exact ih u1 h
set_option maxRecDepth 20000 in
theorem c_X12_beginLine {g : Gb} (hg : xInj g) {n : Nat} {u0 : Mm} {Q : Mm → Prop} {T : Mm → Prop} (h : w_X12_beginLine n u0 Q T) : xMet (gL g) yX12_beginLine (xws yX12_beginLine cX12_beginLine 1 none) (xRoom 1) (xPc g [.ref (gR g 0)] u0) (xQ g (pV g Q T)) (xA g) := by
  refine xbody (il := il_X12_beginLine) hg il_X12_beginLine_ok m_X12_beginLine (Nat.le_of_ble_eq_true rfl) ?_
  show xE g me_X12_beginLine (pV g Q T) 0 [(0, .ref (gR g 0))] [] u0
  unfold w_X12_beginLine at h
  refine e_aload_n (k := 0) (i := 0) rfl rfl 0 rfl ?_
  refine e_aload_n (k := 1) (i := 0) rfl rfl 0 rfl ?_
  refine e_getI (k := 2) rfl f_X12_138 rfl rfl ?_
  refine e_putI (k := 3) rfl fg_X12_159 rfl rfl ?_
  refine e_mlet h (fun u1 h => ?_)
  exact s_X12_beginLine_8 hg n u1 h
def il_X12_clearBar : List (Nat × Instr × Nat) := [(0, .iconst 0, 1), (1, .istore_n 1, 1), (2, .iload_n 1, 1), (3, .sipush 448, 3), (6, .if_icmp .ge 26, 3), (9, .aload_n 0, 1), (10, .getfield 87, 3), (13, .sipush 448, 3), (16, .aload_n 0, 1), (17, .getfield 290, 3), (20, .imul, 1), (21, .iload_n 1, 1), (22, .iadd, 1), (23, .bipush 100, 2), (25, .iastore, 1), (26, .iinc 1 1, 3), (29, .goto (-27), 3), (32, .return_, 1)]
set_option maxRecDepth 20000 in
theorem il_X12_clearBar_ok : ∀ x ∈ il_X12_clearBar, decode cX12_clearBar x.1 = .ok x.2 := by decide +kernel
abbrev me_X12_clearBar : Me := (RX12, il_X12_clearBar, 2, none, xRoom 1, [])
def w_X12_clearBar_2 (n : Nat) (Q : Mm → Prop) (T : Mm → Prop) : Nat → Int32 → Mm → Prop
  | 0, _, _ => False
  | k + 1, x1, u0 =>
  ((448 : Int32) ≤ x1 → Q u0) ∧
  (¬ (448 : Int32) ≤ x1 → vp_in (((448 : Int32) * (u0.1 0 28)) + x1) 1344 ∧ (mlet (setI u0 22 (ix (((448 : Int32) * (u0.1 0 28)) + x1)) (100 : Int32)) fun u1 =>
  (w_X12_clearBar_2 n Q T k) (x1 + (1 : Int32)) u1))
def w_X12_clearBar (n : Nat) (u0 : Mm) (Q : Mm → Prop) (T : Mm → Prop) : Prop :=
  (w_X12_clearBar_2 n Q T n) (0 : Int32) u0
set_option maxRecDepth 20000 in
theorem s_X12_clearBar_2 {g : Gb} (hg : xInj g) {n : Nat} {Q : Mm → Prop} {T : Mm → Prop} : ∀ (k : Nat) (x1 : Int32) (u0 : Mm), w_X12_clearBar_2 n Q T k x1 u0 → xE g me_X12_clearBar (pV g Q T) 2 [(0, .ref (gR g 0)), (1, .int x1)] [] u0 := by
  intro k
  induction k with
  | zero => intro x1 u0 h; exact h.elim
  | succ k ih =>
    intro x1 u0 h
    unfold w_X12_clearBar_2 at h
    refine e_iload_n (k := 2) (i := 1) rfl rfl 1 rfl ?_
    refine e_sipush (k := 3) (v := (448 : Int32)) rfl (by decide) ?_
    refine e_icmp_ge (k := 4) (tgt := 32) rfl (by decide) (fun z => ?_) (fun z => ?_)
    · have h := h.1 z
      exact e_vret (k := 17) rfl rfl (Or.inl ⟨rfl, h⟩)
    · have h := h.2 z
      refine e_aload_n (k := 5) (i := 0) rfl rfl 0 rfl ?_
      refine e_getC (k := 6) rfl f_X12_87 rfl rfl ?_
      refine e_sipush (k := 7) (v := (448 : Int32)) rfl (by decide) ?_
      refine e_aload_n (k := 8) (i := 0) rfl rfl 0 rfl ?_
      refine e_getI (k := 9) rfl f_X12_290 rfl rfl ?_
      refine e_imul (k := 10) rfl ?_
      refine e_iload_n (k := 11) (i := 1) rfl rfl 1 rfl ?_
      refine e_iadd (k := 12) rfl ?_
      refine e_bipush (k := 13) (v := (100 : Int32)) rfl (by decide) ?_
      refine e_iast (k := 14) rfl rfl h.1 ?_
      have h := h.2
      refine e_mlet h (fun u1 h => ?_)
      refine e_iinc (k := 15) (i := 1) (j := 1) (v := (x1 + (1 : Int32))) (lv' := [(0, .ref (gR g 0)), (1, .int (x1 + (1 : Int32)))]) rfl rfl rfl (by decide) [1, 0] rfl ?_
      refine e_goto (k := 16) (tgt := 2) rfl (by decide) ?_
      exact ih (x1 + (1 : Int32)) u1 h
set_option maxRecDepth 20000 in
theorem c_X12_clearBar {g : Gb} (hg : xInj g) {n : Nat} {u0 : Mm} {Q : Mm → Prop} {T : Mm → Prop} (h : w_X12_clearBar n u0 Q T) : xMet (gL g) yX12_clearBar (xws yX12_clearBar cX12_clearBar 2 none) (xRoom 1) (xPc g [.ref (gR g 0)] u0) (xQ g (pV g Q T)) (xA g) := by
  refine xbody (il := il_X12_clearBar) hg il_X12_clearBar_ok m_X12_clearBar (Nat.le_of_ble_eq_true rfl) ?_
  show xE g me_X12_clearBar (pV g Q T) 0 [(0, .ref (gR g 0))] [] u0
  unfold w_X12_clearBar at h
  refine e_iconst (k := 0) (v := (0 : Int32)) rfl (by decide) ?_
  refine e_istore_n (k := 1) (i := 1) (lv' := [(0, .ref (gR g 0)), (1, .int (0 : Int32))]) rfl rfl (by decide) [1, 0] rfl ?_
  exact s_X12_clearBar_2 hg n (0 : Int32) u0 h
def il_X12_fail : List (Nat × Instr × Nat) := [(0, .aload_n 0, 1), (1, .getfield 16, 3), (4, .iload_n 1, 1), (5, .putfield 129, 3), (8, .aload_n 0, 1), (9, .getfield 16, 3), (12, .iload_n 2, 1), (13, .putfield 132, 3), (16, .aload_n 0, 1), (17, .getfield 16, 3), (20, .athrow, 1)]
set_option maxRecDepth 20000 in
theorem il_X12_fail_ok : ∀ x ∈ il_X12_fail, decode cX12_fail x.1 = .ok x.2 := by decide +kernel
abbrev me_X12_fail : Me := (RX12, il_X12_fail, 3, none, xRoom 1, [])
def w_X12_fail (n : Nat) (a0 : Int32) (a1 : Int32) (u0 : Mm) (Q : Mm → Prop) (T : Mm → Prop) : Prop :=
  mlet (setI u0 1 6 a0) fun u1 =>
  mlet (setI u1 1 7 a1) fun u2 =>
  T u2
set_option maxRecDepth 20000 in
theorem c_X12_fail {g : Gb} (hg : xInj g) {n : Nat} {a0 : Int32} {a1 : Int32} {u0 : Mm} {Q : Mm → Prop} {T : Mm → Prop} (h : w_X12_fail n a0 a1 u0 Q T) : xMet (gL g) yX12_fail (xws yX12_fail cX12_fail 3 none) (xRoom 1) (xPc g [.ref (gR g 0), .int a0, .int a1] u0) (xQ g (pV g Q T)) (xA g) := by
  refine xbody (il := il_X12_fail) hg il_X12_fail_ok m_X12_fail (Nat.le_of_ble_eq_true rfl) ?_
  show xE g me_X12_fail (pV g Q T) 0 [(0, .ref (gR g 0)), (1, .int a0), (2, .int a1)] [] u0
  unfold w_X12_fail at h
  refine e_aload_n (k := 0) (i := 0) rfl rfl 0 rfl ?_
  refine e_getC (k := 1) rfl f_X12_16 rfl rfl ?_
  refine e_iload_n (k := 2) (i := 1) rfl rfl 1 rfl ?_
  refine e_putN (k := 3) rfl fn_X12_129 rfl rfl ?_
  refine e_mlet h (fun u1 h => ?_)
  refine e_aload_n (k := 4) (i := 0) rfl rfl 0 rfl ?_
  refine e_getC (k := 5) rfl f_X12_16 rfl rfl ?_
  refine e_iload_n (k := 6) (i := 2) rfl rfl 2 rfl ?_
  refine e_putN (k := 7) rfl fn_X12_132 rfl rfl ?_
  refine e_mlet h (fun u2 h => ?_)
  refine e_aload_n (k := 8) (i := 0) rfl rfl 0 rfl ?_
  refine e_getC (k := 9) rfl f_X12_16 rfl rfl ?_
  exact e_athrow (k := 10) rfl (fun _ z => by cases z) (Or.inr ⟨rfl, h⟩)
def il_X12_feed : List (Nat × Instr × Nat) := [(0, .aload_n 0, 1), (1, .iconst 0, 1), (2, .putfield 1, 3), (5, .aload_n 0, 1), (6, .getfield 120, 3), (9, .bipush 20, 2), (11, .iadd, 1), (12, .sipush 2400, 3), (15, .if_icmp .le 6, 3), (18, .bipush (-3), 2), (20, .ireturn, 1), (21, .iconst 0, 1), (22, .istore 6, 2), (24, .iload 6, 2), (26, .bipush 20, 2), (28, .if_icmp .ge 83, 3), (31, .iload 6, 2), (33, .iconst 4, 1), (34, .if_icmp .ge 7, 3), (37, .iload_n 1, 1), (38, .goto 39, 3), (41, .iload 6, 2), (43, .bipush 8, 2), (45, .if_icmp .ge 7, 3), (48, .iload_n 2, 1), (49, .goto 28, 3), (52, .iload 6, 2), (54, .bipush 12, 2), (56, .if_icmp .ge 7, 3), (59, .iload_n 3, 1), (60, .goto 17, 3), (63, .iload 6, 2), (65, .bipush 16, 2), (67, .if_icmp .ge 8, 3), (70, .iload 4, 2), (72, .goto 5, 3), (75, .iload 5, 2), (77, .istore 7, 2), (79, .aload_n 0, 1), (80, .getfield 20, 3), (83, .aload_n 0, 1), (84, .getfield 120, 3), (87, .iload 6, 2), (89, .iadd, 1), (90, .iload 7, 2), (92, .bipush 24, 2), (94, .bipush 8, 2), (96, .iload 6, 2), (98, .iconst 4, 1), (99, .irem, 1), (100, .imul, 1), (101, .isub, 1), (102, .iushr, 1), (103, .i2b, 1), (104, .bastore, 1), (105, .iinc 6 1, 3), (108, .goto (-84), 3), (111, .aload_n 0, 1), (112, .aload_n 0, 1), (113, .getfield 120, 3), (116, .bipush 20, 2), (118, .iadd, 1), (119, .putfield 120, 3), (122, .aload_n 0, 1), (123, .getfield 120, 3), (126, .ireturn, 1)]
set_option maxRecDepth 20000 in
theorem il_X12_feed_ok : ∀ x ∈ il_X12_feed, decode cX12_feed x.1 = .ok x.2 := by decide +kernel
abbrev me_X12_feed : Me := (RX12, il_X12_feed, 8, (some .int), xRoom 1, [])
def w_X12_feed_77 (n : Nat) (L24 : Int32 → Int32 → Int32 → Int32 → Int32 → Int32 → Mm → Prop) (x1 : Int32) (x2 : Int32) (x3 : Int32) (x4 : Int32) (x5 : Int32) (x6 : Int32) (t0 : Int32) (u0 : Mm) (Q : Int32 → Mm → Prop) (T : Mm → Prop) : Prop :=
  vp_in ((u0.1 0 4) + x6) 2420 ∧ (mlet (setI u0 2 (ix ((u0.1 0 4) + x6)) (vp_nar .byte (t0.toUInt32 >>> (((24 : Int32) - ((8 : Int32) * (x6 - x6 / (4 : Int32) * (4 : Int32)))).toUInt32 &&& Int32.toUInt32 31)).toInt32.toInt8.toInt32)) fun u1 =>
  L24 x1 x2 x3 x4 x5 (x6 + (1 : Int32)) u1)
def w_X12_feed_24 (n : Nat) (Q : Int32 → Mm → Prop) (T : Mm → Prop) : Nat → Int32 → Int32 → Int32 → Int32 → Int32 → Int32 → Mm → Prop
  | 0, _, _, _, _, _, _, _ => False
  | k + 1, x1, x2, x3, x4, x5, x6, u0 =>
  ((20 : Int32) ≤ x6 → mlet (setI u0 0 4 ((u0.1 0 4) + (20 : Int32))) fun u1 =>
  Q (u1.1 0 4) u1) ∧
  (¬ (20 : Int32) ≤ x6 → ((4 : Int32) ≤ x6 → ((8 : Int32) ≤ x6 → ((12 : Int32) ≤ x6 → ((16 : Int32) ≤ x6 → w_X12_feed_77 n (w_X12_feed_24 n Q T k) x1 x2 x3 x4 x5 x6 x5 u0 Q T) ∧
  (¬ (16 : Int32) ≤ x6 → w_X12_feed_77 n (w_X12_feed_24 n Q T k) x1 x2 x3 x4 x5 x6 x4 u0 Q T)) ∧
  (¬ (12 : Int32) ≤ x6 → w_X12_feed_77 n (w_X12_feed_24 n Q T k) x1 x2 x3 x4 x5 x6 x3 u0 Q T)) ∧
  (¬ (8 : Int32) ≤ x6 → w_X12_feed_77 n (w_X12_feed_24 n Q T k) x1 x2 x3 x4 x5 x6 x2 u0 Q T)) ∧
  (¬ (4 : Int32) ≤ x6 → w_X12_feed_77 n (w_X12_feed_24 n Q T k) x1 x2 x3 x4 x5 x6 x1 u0 Q T))
def w_X12_feed (n : Nat) (a0 : Int32) (a1 : Int32) (a2 : Int32) (a3 : Int32) (a4 : Int32) (u0 : Mm) (Q : Int32 → Mm → Prop) (T : Mm → Prop) : Prop :=
  mlet (setI u0 0 0 (0 : Int32)) fun u1 =>
  (((u1.1 0 4) + (20 : Int32)) ≤ (2400 : Int32) → (w_X12_feed_24 n Q T n) a0 a1 a2 a3 a4 (0 : Int32) u1) ∧
  (¬ ((u1.1 0 4) + (20 : Int32)) ≤ (2400 : Int32) → Q (-3 : Int32) u1)
set_option maxRecDepth 20000 in
theorem s_X12_feed_77 {g : Gb} (hg : xInj g) {n : Nat} {Q : Int32 → Mm → Prop} {T : Mm → Prop} {L24 : Int32 → Int32 → Int32 → Int32 → Int32 → Int32 → Mm → Prop} (hL24 : ∀ (x1 : Int32) (x2 : Int32) (x3 : Int32) (x4 : Int32) (x5 : Int32) (x6 : Int32) (u0 : Mm), L24 x1 x2 x3 x4 x5 x6 u0 → xE g me_X12_feed (pI g Q T) 24 [(0, .ref (gR g 0)), (1, .int x1), (2, .int x2), (3, .int x3), (4, .int x4), (5, .int x5), (6, .int x6)] [] u0) {x1 : Int32} {x2 : Int32} {x3 : Int32} {x4 : Int32} {x5 : Int32} {x6 : Int32} {t0 : Int32} {u0 : Mm} (h : w_X12_feed_77 n L24 x1 x2 x3 x4 x5 x6 t0 u0 Q T) : xE g me_X12_feed (pI g Q T) 77 [(0, .ref (gR g 0)), (1, .int x1), (2, .int x2), (3, .int x3), (4, .int x4), (5, .int x5), (6, .int x6)] [.int t0] u0 := by
  unfold w_X12_feed_77 at h
  refine e_istore (k := 37) (i := 7) (lv' := [(0, .ref (gR g 0)), (1, .int x1), (2, .int x2), (3, .int x3), (4, .int x4), (5, .int x5), (6, .int x6), (7, .int t0)]) rfl (by decide) [1, 2, 3, 4, 5, 6, 7, 0] rfl ?_
  refine e_aload_n (k := 38) (i := 0) rfl rfl 0 rfl ?_
  refine e_getC (k := 39) rfl f_X12_20 rfl rfl ?_
  refine e_aload_n (k := 40) (i := 0) rfl rfl 0 rfl ?_
  refine e_getI (k := 41) rfl f_X12_120 rfl rfl ?_
  refine e_iload (k := 42) (i := 6) rfl 6 rfl ?_
  refine e_iadd (k := 43) rfl ?_
  refine e_iload (k := 44) (i := 7) rfl 7 rfl ?_
  refine e_bipush (k := 45) (v := (24 : Int32)) rfl (by decide) ?_
  refine e_bipush (k := 46) (v := (8 : Int32)) rfl (by decide) ?_
  refine e_iload (k := 47) (i := 6) rfl 6 rfl ?_
  refine e_iconst (k := 48) (v := (4 : Int32)) rfl (by decide) ?_
  refine e_irem (k := 49) rfl (by decide) ?_
  refine e_imul (k := 50) rfl ?_
  refine e_isub (k := 51) rfl ?_
  refine e_iushr (k := 52) rfl ?_
  refine e_i2b (k := 53) rfl ?_
  refine e_bast (k := 54) rfl rfl h.1 ?_
  have h := h.2
  refine e_mlet h (fun u1 h => ?_)
  refine e_iinc (k := 55) (i := 6) (j := 6) (v := (x6 + (1 : Int32))) (lv' := [(0, .ref (gR g 0)), (1, .int x1), (2, .int x2), (3, .int x3), (4, .int x4), (5, .int x5), (6, .int (x6 + (1 : Int32))), (7, .int t0)]) rfl rfl rfl (by decide) [1, 2, 3, 4, 5, 6, 0, 7] rfl ?_
  refine e_goto (k := 56) (tgt := 24) rfl (by decide) ?_
  refine e_sub (lv' := [(0, .ref (gR g 0)), (1, .int x1), (2, .int x2), (3, .int x3), (4, .int x4), (5, .int x5), (6, .int (x6 + (1 : Int32)))]) [0, 1, 2, 3, 4, 5, 6] rfl ?_
  exact hL24 x1 x2 x3 x4 x5 (x6 + (1 : Int32)) u1 h
set_option maxRecDepth 20000 in
theorem s_X12_feed_24 {g : Gb} (hg : xInj g) {n : Nat} {Q : Int32 → Mm → Prop} {T : Mm → Prop} : ∀ (k : Nat) (x1 : Int32) (x2 : Int32) (x3 : Int32) (x4 : Int32) (x5 : Int32) (x6 : Int32) (u0 : Mm), w_X12_feed_24 n Q T k x1 x2 x3 x4 x5 x6 u0 → xE g me_X12_feed (pI g Q T) 24 [(0, .ref (gR g 0)), (1, .int x1), (2, .int x2), (3, .int x3), (4, .int x4), (5, .int x5), (6, .int x6)] [] u0 := by
  intro k
  induction k with
  | zero => intro x1 x2 x3 x4 x5 x6 u0 h; exact h.elim
  | succ k ih =>
    intro x1 x2 x3 x4 x5 x6 u0 h
    unfold w_X12_feed_24 at h
    refine e_iload (k := 13) (i := 6) rfl 6 rfl ?_
    refine e_bipush (k := 14) (v := (20 : Int32)) rfl (by decide) ?_
    refine e_icmp_ge (k := 15) (tgt := 111) rfl (by decide) (fun z => ?_) (fun z => ?_)
    · have h := h.1 z
      refine e_aload_n (k := 57) (i := 0) rfl rfl 0 rfl ?_
      refine e_aload_n (k := 58) (i := 0) rfl rfl 0 rfl ?_
      refine e_getI (k := 59) rfl f_X12_120 rfl rfl ?_
      refine e_bipush (k := 60) (v := (20 : Int32)) rfl (by decide) ?_
      refine e_iadd (k := 61) rfl ?_
      refine e_putI (k := 62) rfl fg_X12_120 rfl rfl ?_
      refine e_mlet h (fun u1 h => ?_)
      refine e_aload_n (k := 63) (i := 0) rfl rfl 0 rfl ?_
      refine e_getI (k := 64) rfl f_X12_120 rfl rfl ?_
      exact e_iret (k := 65) rfl rfl (Or.inl ⟨_, rfl, h⟩)
    · have h := h.2 z
      refine e_iload (k := 16) (i := 6) rfl 6 rfl ?_
      refine e_iconst (k := 17) (v := (4 : Int32)) rfl (by decide) ?_
      refine e_icmp_ge (k := 18) (tgt := 41) rfl (by decide) (fun z => ?_) (fun z => ?_)
      · have h := h.1 z
        refine e_iload (k := 21) (i := 6) rfl 6 rfl ?_
        refine e_bipush (k := 22) (v := (8 : Int32)) rfl (by decide) ?_
        refine e_icmp_ge (k := 23) (tgt := 52) rfl (by decide) (fun z => ?_) (fun z => ?_)
        · have h := h.1 z
          refine e_iload (k := 26) (i := 6) rfl 6 rfl ?_
          refine e_bipush (k := 27) (v := (12 : Int32)) rfl (by decide) ?_
          refine e_icmp_ge (k := 28) (tgt := 63) rfl (by decide) (fun z => ?_) (fun z => ?_)
          · have h := h.1 z
            refine e_iload (k := 31) (i := 6) rfl 6 rfl ?_
            refine e_bipush (k := 32) (v := (16 : Int32)) rfl (by decide) ?_
            refine e_icmp_ge (k := 33) (tgt := 75) rfl (by decide) (fun z => ?_) (fun z => ?_)
            · have h := h.1 z
              refine e_iload (k := 36) (i := 5) rfl 5 rfl ?_
              exact s_X12_feed_77 hg ih h
            · have h := h.2 z
              refine e_iload (k := 34) (i := 4) rfl 4 rfl ?_
              refine e_goto (k := 35) (tgt := 77) rfl (by decide) ?_
              exact s_X12_feed_77 hg ih h
          · have h := h.2 z
            refine e_iload_n (k := 29) (i := 3) rfl rfl 3 rfl ?_
            refine e_goto (k := 30) (tgt := 77) rfl (by decide) ?_
            exact s_X12_feed_77 hg ih h
        · have h := h.2 z
          refine e_iload_n (k := 24) (i := 2) rfl rfl 2 rfl ?_
          refine e_goto (k := 25) (tgt := 77) rfl (by decide) ?_
          exact s_X12_feed_77 hg ih h
      · have h := h.2 z
        refine e_iload_n (k := 19) (i := 1) rfl rfl 1 rfl ?_
        refine e_goto (k := 20) (tgt := 77) rfl (by decide) ?_
        exact s_X12_feed_77 hg ih h
set_option maxRecDepth 20000 in
theorem c_X12_feed {g : Gb} (hg : xInj g) {n : Nat} {a0 : Int32} {a1 : Int32} {a2 : Int32} {a3 : Int32} {a4 : Int32} {u0 : Mm} {Q : Int32 → Mm → Prop} {T : Mm → Prop} (h : w_X12_feed n a0 a1 a2 a3 a4 u0 Q T) : xMet (gL g) yX12_feed (xws yX12_feed cX12_feed 8 (some .int)) (xRoom 1) (xPc g [.ref (gR g 0), .int a0, .int a1, .int a2, .int a3, .int a4] u0) (xQ g (pI g Q T)) (xA g) := by
  refine xbody (il := il_X12_feed) hg il_X12_feed_ok m_X12_feed (Nat.le_of_ble_eq_true rfl) ?_
  show xE g me_X12_feed (pI g Q T) 0 [(0, .ref (gR g 0)), (1, .int a0), (2, .int a1), (3, .int a2), (4, .int a3), (5, .int a4)] [] u0
  unfold w_X12_feed at h
  refine e_aload_n (k := 0) (i := 0) rfl rfl 0 rfl ?_
  refine e_iconst (k := 1) (v := (0 : Int32)) rfl (by decide) ?_
  refine e_putI (k := 2) rfl fg_X12_1 rfl rfl ?_
  refine e_mlet h (fun u1 h => ?_)
  refine e_aload_n (k := 3) (i := 0) rfl rfl 0 rfl ?_
  refine e_getI (k := 4) rfl f_X12_120 rfl rfl ?_
  refine e_bipush (k := 5) (v := (20 : Int32)) rfl (by decide) ?_
  refine e_iadd (k := 6) rfl ?_
  refine e_sipush (k := 7) (v := (2400 : Int32)) rfl (by decide) ?_
  refine e_icmp_le (k := 8) (tgt := 21) rfl (by decide) (fun z => ?_) (fun z => ?_)
  · have h := h.1 z
    refine e_iconst (k := 11) (v := (0 : Int32)) rfl (by decide) ?_
    refine e_istore (k := 12) (i := 6) (lv' := [(0, .ref (gR g 0)), (1, .int a0), (2, .int a1), (3, .int a2), (4, .int a3), (5, .int a4), (6, .int (0 : Int32))]) rfl (by decide) [1, 2, 3, 4, 5, 6, 0] rfl ?_
    exact s_X12_feed_24 hg n a0 a1 a2 a3 a4 (0 : Int32) u1 h
  · have h := h.2 z
    refine e_bipush (k := 9) (v := (-3 : Int32)) rfl (by decide) ?_
    exact e_iret (k := 10) rfl rfl (Or.inl ⟨_, rfl, h⟩)
def il_X12_get : List (Nat × Instr × Nat) := [(0, .aload_n 0, 1), (1, .getfield 37, 3), (4, .bipush 17, 2), (6, .iload_n 1, 1), (7, .imul, 1), (8, .iload_n 2, 1), (9, .iadd, 1), (10, .iaload, 1), (11, .ireturn, 1)]
set_option maxRecDepth 20000 in
theorem il_X12_get_ok : ∀ x ∈ il_X12_get, decode cX12_get x.1 = .ok x.2 := by decide +kernel
abbrev me_X12_get : Me := (RX12, il_X12_get, 3, (some .int), xRoom 1, [])
def w_X12_get (n : Nat) (a0 : Int32) (a1 : Int32) (u0 : Mm) (Q : Int32 → Mm → Prop) (T : Mm → Prop) : Prop :=
  vp_in (((17 : Int32) * a0) + a1) 6800 ∧ (Q (u0.1 6 (ix (((17 : Int32) * a0) + a1))) u0)
set_option maxRecDepth 20000 in
theorem c_X12_get {g : Gb} (hg : xInj g) {n : Nat} {a0 : Int32} {a1 : Int32} {u0 : Mm} {Q : Int32 → Mm → Prop} {T : Mm → Prop} (h : w_X12_get n a0 a1 u0 Q T) : xMet (gL g) yX12_get (xws yX12_get cX12_get 3 (some .int)) (xRoom 1) (xPc g [.ref (gR g 0), .int a0, .int a1] u0) (xQ g (pI g Q T)) (xA g) := by
  refine xbody (il := il_X12_get) hg il_X12_get_ok m_X12_get (Nat.le_of_ble_eq_true rfl) ?_
  show xE g me_X12_get (pI g Q T) 0 [(0, .ref (gR g 0)), (1, .int a0), (2, .int a1)] [] u0
  unfold w_X12_get at h
  refine e_aload_n (k := 0) (i := 0) rfl rfl 0 rfl ?_
  refine e_getC (k := 1) rfl f_X12_37 rfl rfl ?_
  refine e_bipush (k := 2) (v := (17 : Int32)) rfl (by decide) ?_
  refine e_iload_n (k := 3) (i := 1) rfl rfl 1 rfl ?_
  refine e_imul (k := 4) rfl ?_
  refine e_iload_n (k := 5) (i := 2) rfl rfl 2 rfl ?_
  refine e_iadd (k := 6) rfl ?_
  refine e_iald (k := 7) rfl rfl h.1 ?_
  have h := h.2
  exact e_iret (k := 8) rfl rfl (Or.inl ⟨_, rfl, h⟩)
def il_X12_head : List (Nat × Instr × Nat) := [(0, .aload_n 0, 1), (1, .iconst 0, 1), (2, .putfield 1, 3), (5, .aload_n 0, 1), (6, .getfield 494, 3), (9, .ifCond .ne 5, 3), (12, .iconst (-1), 1), (13, .ireturn, 1), (14, .iload_n 1, 1), (15, .tableswitch 103 0 9 #[53, 58, 63, 68, 73, 78, 83, 88, 93, 98], 53), (68, .aload_n 0, 1), (69, .getfield 250, 3), (72, .ireturn, 1), (73, .aload_n 0, 1), (74, .getfield 256, 3), (77, .ireturn, 1), (78, .aload_n 0, 1), (79, .getfield 259, 3), (82, .ireturn, 1), (83, .aload_n 0, 1), (84, .getfield 262, 3), (87, .ireturn, 1), (88, .aload_n 0, 1), (89, .getfield 268, 3), (92, .ireturn, 1), (93, .aload_n 0, 1), (94, .getfield 265, 3), (97, .ireturn, 1), (98, .aload_n 0, 1), (99, .getfield 280, 3), (102, .ireturn, 1), (103, .aload_n 0, 1), (104, .getfield 283, 3), (107, .ireturn, 1), (108, .aload_n 0, 1), (109, .getfield 449, 3), (112, .ireturn, 1), (113, .aload_n 0, 1), (114, .getfield 117, 3), (117, .ireturn, 1), (118, .iconst (-1), 1), (119, .ireturn, 1)]
set_option maxRecDepth 20000 in
theorem il_X12_head_ok : ∀ x ∈ il_X12_head, decode cX12_head x.1 = .ok x.2 := by decide +kernel
abbrev me_X12_head : Me := (RX12, il_X12_head, 2, (some .int), xRoom 1, [])
def w_X12_head (n : Nat) (a0 : Int32) (u0 : Mm) (Q : Int32 → Mm → Prop) (T : Mm → Prop) : Prop :=
  mlet (setI u0 0 0 (0 : Int32)) fun u1 =>
  (¬ (u1.1 0 10) = 0 → (a0 = (0 : Int32) → Q (u1.1 0 12) u1) ∧
  (¬ a0 = (0 : Int32) → (a0 = (1 : Int32) → Q (u1.1 0 13) u1) ∧
  (¬ a0 = (1 : Int32) → (a0 = (2 : Int32) → Q (u1.1 0 16) u1) ∧
  (¬ a0 = (2 : Int32) → (a0 = (3 : Int32) → Q (u1.1 0 17) u1) ∧
  (¬ a0 = (3 : Int32) → (a0 = (4 : Int32) → Q (u1.1 0 18) u1) ∧
  (¬ a0 = (4 : Int32) → (a0 = (5 : Int32) → Q (u1.1 0 19) u1) ∧
  (¬ a0 = (5 : Int32) → (a0 = (6 : Int32) → Q (u1.1 0 20) u1) ∧
  (¬ a0 = (6 : Int32) → (a0 = (7 : Int32) → Q (u1.1 0 27) u1) ∧
  (¬ a0 = (7 : Int32) → (a0 = (8 : Int32) → Q (u1.1 0 29) u1) ∧
  (¬ a0 = (8 : Int32) → (a0 = (9 : Int32) → Q (u1.1 0 2) u1) ∧
  (¬ a0 = (9 : Int32) → Q (-1 : Int32) u1))))))))))) ∧
  ((u1.1 0 10) = 0 → Q (-1 : Int32) u1)
set_option maxRecDepth 20000 in
theorem c_X12_head {g : Gb} (hg : xInj g) {n : Nat} {a0 : Int32} {u0 : Mm} {Q : Int32 → Mm → Prop} {T : Mm → Prop} (h : w_X12_head n a0 u0 Q T) : xMet (gL g) yX12_head (xws yX12_head cX12_head 2 (some .int)) (xRoom 1) (xPc g [.ref (gR g 0), .int a0] u0) (xQ g (pI g Q T)) (xA g) := by
  refine xbody (il := il_X12_head) hg il_X12_head_ok m_X12_head (Nat.le_of_ble_eq_true rfl) ?_
  show xE g me_X12_head (pI g Q T) 0 [(0, .ref (gR g 0)), (1, .int a0)] [] u0
  unfold w_X12_head at h
  refine e_aload_n (k := 0) (i := 0) rfl rfl 0 rfl ?_
  refine e_iconst (k := 1) (v := (0 : Int32)) rfl (by decide) ?_
  refine e_putI (k := 2) rfl fg_X12_1 rfl rfl ?_
  refine e_mlet h (fun u1 h => ?_)
  refine e_aload_n (k := 3) (i := 0) rfl rfl 0 rfl ?_
  refine e_getI (k := 4) rfl f_X12_494 rfl rfl ?_
  refine e_if_ne (k := 5) (tgt := 14) rfl (by decide) (fun z => ?_) (fun z => ?_)
  · have h := h.1 z
    refine e_iload_n (k := 8) (i := 1) rfl rfl 1 rfl ?_
    refine e_case (a := a0 = (0 : Int32)) (fun z0 => ?_) (fun z0 => ?_)
    · have h := h.1 z0
      refine e_tableIn (k := 9) (tgt := 68) (off := 53) rfl z0 (by decide) (by decide) (by decide) (by decide) ?_
      refine e_aload_n (k := 10) (i := 0) rfl rfl 0 rfl ?_
      refine e_getI (k := 11) rfl f_X12_250 rfl rfl ?_
      exact e_iret (k := 12) rfl rfl (Or.inl ⟨_, rfl, h⟩)
    · have h := h.2 z0
      refine e_case (a := a0 = (1 : Int32)) (fun z1 => ?_) (fun z1 => ?_)
      · have h := h.1 z1
        refine e_tableIn (k := 9) (tgt := 73) (off := 58) rfl z1 (by decide) (by decide) (by decide) (by decide) ?_
        refine e_aload_n (k := 13) (i := 0) rfl rfl 0 rfl ?_
        refine e_getI (k := 14) rfl f_X12_256 rfl rfl ?_
        exact e_iret (k := 15) rfl rfl (Or.inl ⟨_, rfl, h⟩)
      · have h := h.2 z1
        refine e_case (a := a0 = (2 : Int32)) (fun z2 => ?_) (fun z2 => ?_)
        · have h := h.1 z2
          refine e_tableIn (k := 9) (tgt := 78) (off := 63) rfl z2 (by decide) (by decide) (by decide) (by decide) ?_
          refine e_aload_n (k := 16) (i := 0) rfl rfl 0 rfl ?_
          refine e_getI (k := 17) rfl f_X12_259 rfl rfl ?_
          exact e_iret (k := 18) rfl rfl (Or.inl ⟨_, rfl, h⟩)
        · have h := h.2 z2
          refine e_case (a := a0 = (3 : Int32)) (fun z3 => ?_) (fun z3 => ?_)
          · have h := h.1 z3
            refine e_tableIn (k := 9) (tgt := 83) (off := 68) rfl z3 (by decide) (by decide) (by decide) (by decide) ?_
            refine e_aload_n (k := 19) (i := 0) rfl rfl 0 rfl ?_
            refine e_getI (k := 20) rfl f_X12_262 rfl rfl ?_
            exact e_iret (k := 21) rfl rfl (Or.inl ⟨_, rfl, h⟩)
          · have h := h.2 z3
            refine e_case (a := a0 = (4 : Int32)) (fun z4 => ?_) (fun z4 => ?_)
            · have h := h.1 z4
              refine e_tableIn (k := 9) (tgt := 88) (off := 73) rfl z4 (by decide) (by decide) (by decide) (by decide) ?_
              refine e_aload_n (k := 22) (i := 0) rfl rfl 0 rfl ?_
              refine e_getI (k := 23) rfl f_X12_268 rfl rfl ?_
              exact e_iret (k := 24) rfl rfl (Or.inl ⟨_, rfl, h⟩)
            · have h := h.2 z4
              refine e_case (a := a0 = (5 : Int32)) (fun z5 => ?_) (fun z5 => ?_)
              · have h := h.1 z5
                refine e_tableIn (k := 9) (tgt := 93) (off := 78) rfl z5 (by decide) (by decide) (by decide) (by decide) ?_
                refine e_aload_n (k := 25) (i := 0) rfl rfl 0 rfl ?_
                refine e_getI (k := 26) rfl f_X12_265 rfl rfl ?_
                exact e_iret (k := 27) rfl rfl (Or.inl ⟨_, rfl, h⟩)
              · have h := h.2 z5
                refine e_case (a := a0 = (6 : Int32)) (fun z6 => ?_) (fun z6 => ?_)
                · have h := h.1 z6
                  refine e_tableIn (k := 9) (tgt := 98) (off := 83) rfl z6 (by decide) (by decide) (by decide) (by decide) ?_
                  refine e_aload_n (k := 28) (i := 0) rfl rfl 0 rfl ?_
                  refine e_getI (k := 29) rfl f_X12_280 rfl rfl ?_
                  exact e_iret (k := 30) rfl rfl (Or.inl ⟨_, rfl, h⟩)
                · have h := h.2 z6
                  refine e_case (a := a0 = (7 : Int32)) (fun z7 => ?_) (fun z7 => ?_)
                  · have h := h.1 z7
                    refine e_tableIn (k := 9) (tgt := 103) (off := 88) rfl z7 (by decide) (by decide) (by decide) (by decide) ?_
                    refine e_aload_n (k := 31) (i := 0) rfl rfl 0 rfl ?_
                    refine e_getI (k := 32) rfl f_X12_283 rfl rfl ?_
                    exact e_iret (k := 33) rfl rfl (Or.inl ⟨_, rfl, h⟩)
                  · have h := h.2 z7
                    refine e_case (a := a0 = (8 : Int32)) (fun z8 => ?_) (fun z8 => ?_)
                    · have h := h.1 z8
                      refine e_tableIn (k := 9) (tgt := 108) (off := 93) rfl z8 (by decide) (by decide) (by decide) (by decide) ?_
                      refine e_aload_n (k := 34) (i := 0) rfl rfl 0 rfl ?_
                      refine e_getI (k := 35) rfl f_X12_449 rfl rfl ?_
                      exact e_iret (k := 36) rfl rfl (Or.inl ⟨_, rfl, h⟩)
                    · have h := h.2 z8
                      refine e_case (a := a0 = (9 : Int32)) (fun z9 => ?_) (fun z9 => ?_)
                      · have h := h.1 z9
                        refine e_tableIn (k := 9) (tgt := 113) (off := 98) rfl z9 (by decide) (by decide) (by decide) (by decide) ?_
                        refine e_aload_n (k := 37) (i := 0) rfl rfl 0 rfl ?_
                        refine e_getI (k := 38) rfl f_X12_117 rfl rfl ?_
                        exact e_iret (k := 39) rfl rfl (Or.inl ⟨_, rfl, h⟩)
                      · have h := h.2 z9
                        have w0 := xne (i := 0) z0 (by decide)
                        have w1 := xne (i := 1) z1 (by decide)
                        have w2 := xne (i := 2) z2 (by decide)
                        have w3 := xne (i := 3) z3 (by decide)
                        have w4 := xne (i := 4) z4 (by decide)
                        have w5 := xne (i := 5) z5 (by decide)
                        have w6 := xne (i := 6) z6 (by decide)
                        have w7 := xne (i := 7) z7 (by decide)
                        have w8 := xne (i := 8) z8 (by decide)
                        have w9 := xne (i := 9) z9 (by decide)
                        refine e_tableOut (k := 9) (tgt := 118) rfl (by omega) (by decide) ?_
                        refine e_iconst (k := 40) (v := (-1 : Int32)) rfl (by decide) ?_
                        exact e_iret (k := 41) rfl rfl (Or.inl ⟨_, rfl, h⟩)
  · have h := h.2 z
    refine e_iconst (k := 6) (v := (-1 : Int32)) rfl (by decide) ?_
    exact e_iret (k := 7) rfl rfl (Or.inl ⟨_, rfl, h⟩)
def il_X12_in : List (Nat × Instr × Nat) := [(0, .lload_n 0, 1), (1, .lload_n 2, 1), (2, .lcmp, 1), (3, .ifCond .lt 14, 3), (6, .lload_n 0, 1), (7, .lload 4, 2), (9, .lcmp, 1), (10, .ifCond .gt 7, 3), (13, .iconst 1, 1), (14, .goto 4, 3), (17, .iconst 0, 1), (18, .ireturn, 1)]
set_option maxRecDepth 20000 in
theorem il_X12_in_ok : ∀ x ∈ il_X12_in, decode cX12_in x.1 = .ok x.2 := by decide +kernel
abbrev me_X12_in : Me := (RX12, il_X12_in, 6, (some .boolean), xRoom 1, [])
def w_X12_in_18 (n : Nat) (t0 : Int32) (u0 : Mm) (Q : Int32 → Mm → Prop) (T : Mm → Prop) : Prop :=
  narrow .boolean (.int t0) = .int t0 ∧ Q t0 u0
def w_X12_in_17 (n : Nat) (u0 : Mm) (Q : Int32 → Mm → Prop) (T : Mm → Prop) : Prop :=
  w_X12_in_18 n (0 : Int32) u0 Q T
def w_X12_in (n : Nat) (a0 : Int64) (a1 : Int64) (a2 : Int64) (u0 : Mm) (Q : Int32 → Mm → Prop) (T : Mm → Prop) : Prop :=
  ((lg_cmp a0 a1) < 0 → w_X12_in_17 n u0 Q T) ∧
  (¬ (lg_cmp a0 a1) < 0 → (0 < (lg_cmp a0 a2) → w_X12_in_17 n u0 Q T) ∧
  (¬ 0 < (lg_cmp a0 a2) → w_X12_in_18 n (1 : Int32) u0 Q T))
set_option maxRecDepth 20000 in
theorem s_X12_in_18 {g : Gb} (hg : xInj g) {n : Nat} {Q : Int32 → Mm → Prop} {T : Mm → Prop} {t0 : Int32} {u0 : Mm} (h : w_X12_in_18 n t0 u0 Q T) : xE g me_X12_in (pI g Q T) 18 [] [.int t0] u0 := by
  unfold w_X12_in_18 at h
  exact e_zret (k := 11) rfl rfl h.1 (Or.inl ⟨_, rfl, h.2⟩)
set_option maxRecDepth 20000 in
theorem s_X12_in_17 {g : Gb} (hg : xInj g) {n : Nat} {Q : Int32 → Mm → Prop} {T : Mm → Prop} {u0 : Mm} (h : w_X12_in_17 n  u0 Q T) : xE g me_X12_in (pI g Q T) 17 [] [] u0 := by
  unfold w_X12_in_17 at h
  refine e_iconst (k := 10) (v := (0 : Int32)) rfl (by decide) ?_
  exact s_X12_in_18 hg h
set_option maxRecDepth 20000 in
theorem c_X12_in {g : Gb} (hg : xInj g) {n : Nat} {a0 : Int64} {a1 : Int64} {a2 : Int64} {u0 : Mm} {Q : Int32 → Mm → Prop} {T : Mm → Prop} (h : w_X12_in n a0 a1 a2 u0 Q T) : xMet (gL g) yX12_in (xws yX12_in cX12_in 6 (some .boolean)) (xRoom 1) (xPc g [.long a0, .long a1, .long a2] u0) (xQ g (pI g Q T)) (xA g) := by
  refine xbody (il := il_X12_in) hg il_X12_in_ok m_X12_in (Nat.le_of_ble_eq_true rfl) ?_
  show xE g me_X12_in (pI g Q T) 0 [(0, .long a0), (2, .long a1), (4, .long a2)] [] u0
  unfold w_X12_in at h
  refine e_lload_n (k := 0) (i := 0) rfl rfl 0 rfl ?_
  refine e_lload_n (k := 1) (i := 2) rfl rfl 1 rfl ?_
  refine e_lcmp (k := 2) rfl ?_
  refine e_if_lt (k := 3) (tgt := 17) rfl (by decide) (fun z => ?_) (fun z => ?_)
  · have h := h.1 z
    refine e_sub (lv' := []) [] rfl ?_
    exact s_X12_in_17 hg h
  · have h := h.2 z
    refine e_lload_n (k := 4) (i := 0) rfl rfl 0 rfl ?_
    refine e_lload (k := 5) (i := 4) rfl 2 rfl ?_
    refine e_lcmp (k := 6) rfl ?_
    refine e_if_gt (k := 7) (tgt := 17) rfl (by decide) (fun z => ?_) (fun z => ?_)
    · have h := h.1 z
      refine e_sub (lv' := []) [] rfl ?_
      exact s_X12_in_17 hg h
    · have h := h.2 z
      refine e_iconst (k := 8) (v := (1 : Int32)) rfl (by decide) ?_
      refine e_goto (k := 9) (tgt := 18) rfl (by decide) ?_
      refine e_sub (lv' := []) [] rfl ?_
      exact s_X12_in_18 hg h
def il_X12_isPower : List (Nat × Instr × Nat) := [(0, .iload_n 0, 1), (1, .iconst 1, 1), (2, .if_icmp .lt 20, 3), (5, .iload_n 0, 1), (6, .iload_n 1, 1), (7, .if_icmp .gt 15, 3), (10, .iload_n 0, 1), (11, .iload_n 0, 1), (12, .iconst 1, 1), (13, .isub, 1), (14, .iand, 1), (15, .ifCond .ne 7, 3), (18, .iconst 1, 1), (19, .goto 4, 3), (22, .iconst 0, 1), (23, .ireturn, 1)]
set_option maxRecDepth 20000 in
theorem il_X12_isPower_ok : ∀ x ∈ il_X12_isPower, decode cX12_isPower x.1 = .ok x.2 := by decide +kernel
abbrev me_X12_isPower : Me := (RX12, il_X12_isPower, 2, (some .boolean), xRoom 1, [])
def w_X12_isPower_23 (n : Nat) (t0 : Int32) (u0 : Mm) (Q : Int32 → Mm → Prop) (T : Mm → Prop) : Prop :=
  narrow .boolean (.int t0) = .int t0 ∧ Q t0 u0
def w_X12_isPower_22 (n : Nat) (u0 : Mm) (Q : Int32 → Mm → Prop) (T : Mm → Prop) : Prop :=
  w_X12_isPower_23 n (0 : Int32) u0 Q T
def w_X12_isPower (n : Nat) (a0 : Int32) (a1 : Int32) (u0 : Mm) (Q : Int32 → Mm → Prop) (T : Mm → Prop) : Prop :=
  (a0 < (1 : Int32) → w_X12_isPower_22 n u0 Q T) ∧
  (¬ a0 < (1 : Int32) → (a1 < a0 → w_X12_isPower_22 n u0 Q T) ∧
  (¬ a1 < a0 → (¬ (a0 &&& (a0 - (1 : Int32))) = 0 → w_X12_isPower_22 n u0 Q T) ∧
  ((a0 &&& (a0 - (1 : Int32))) = 0 → w_X12_isPower_23 n (1 : Int32) u0 Q T)))
set_option maxRecDepth 20000 in
theorem s_X12_isPower_23 {g : Gb} (hg : xInj g) {n : Nat} {Q : Int32 → Mm → Prop} {T : Mm → Prop} {t0 : Int32} {u0 : Mm} (h : w_X12_isPower_23 n t0 u0 Q T) : xE g me_X12_isPower (pI g Q T) 23 [] [.int t0] u0 := by
  unfold w_X12_isPower_23 at h
  exact e_zret (k := 15) rfl rfl h.1 (Or.inl ⟨_, rfl, h.2⟩)
set_option maxRecDepth 20000 in
theorem s_X12_isPower_22 {g : Gb} (hg : xInj g) {n : Nat} {Q : Int32 → Mm → Prop} {T : Mm → Prop} {u0 : Mm} (h : w_X12_isPower_22 n  u0 Q T) : xE g me_X12_isPower (pI g Q T) 22 [] [] u0 := by
  unfold w_X12_isPower_22 at h
  refine e_iconst (k := 14) (v := (0 : Int32)) rfl (by decide) ?_
  exact s_X12_isPower_23 hg h
set_option maxRecDepth 20000 in
theorem c_X12_isPower {g : Gb} (hg : xInj g) {n : Nat} {a0 : Int32} {a1 : Int32} {u0 : Mm} {Q : Int32 → Mm → Prop} {T : Mm → Prop} (h : w_X12_isPower n a0 a1 u0 Q T) : xMet (gL g) yX12_isPower (xws yX12_isPower cX12_isPower 2 (some .boolean)) (xRoom 1) (xPc g [.int a0, .int a1] u0) (xQ g (pI g Q T)) (xA g) := by
  refine xbody (il := il_X12_isPower) hg il_X12_isPower_ok m_X12_isPower (Nat.le_of_ble_eq_true rfl) ?_
  show xE g me_X12_isPower (pI g Q T) 0 [(0, .int a0), (1, .int a1)] [] u0
  unfold w_X12_isPower at h
  refine e_iload_n (k := 0) (i := 0) rfl rfl 0 rfl ?_
  refine e_iconst (k := 1) (v := (1 : Int32)) rfl (by decide) ?_
  refine e_icmp_lt (k := 2) (tgt := 22) rfl (by decide) (fun z => ?_) (fun z => ?_)
  · have h := h.1 z
    refine e_sub (lv' := []) [] rfl ?_
    exact s_X12_isPower_22 hg h
  · have h := h.2 z
    refine e_iload_n (k := 3) (i := 0) rfl rfl 0 rfl ?_
    refine e_iload_n (k := 4) (i := 1) rfl rfl 1 rfl ?_
    refine e_icmp_gt (k := 5) (tgt := 22) rfl (by decide) (fun z => ?_) (fun z => ?_)
    · have h := h.1 z
      refine e_sub (lv' := []) [] rfl ?_
      exact s_X12_isPower_22 hg h
    · have h := h.2 z
      refine e_iload_n (k := 6) (i := 0) rfl rfl 0 rfl ?_
      refine e_iload_n (k := 7) (i := 0) rfl rfl 0 rfl ?_
      refine e_iconst (k := 8) (v := (1 : Int32)) rfl (by decide) ?_
      refine e_isub (k := 9) rfl ?_
      refine e_iand (k := 10) rfl ?_
      refine e_if_ne (k := 11) (tgt := 22) rfl (by decide) (fun z => ?_) (fun z => ?_)
      · have h := h.1 z
        refine e_sub (lv' := []) [] rfl ?_
        exact s_X12_isPower_22 hg h
      · have h := h.2 z
        refine e_iconst (k := 12) (v := (1 : Int32)) rfl (by decide) ?_
        refine e_goto (k := 13) (tgt := 23) rfl (by decide) ?_
        refine e_sub (lv' := []) [] rfl ?_
        exact s_X12_isPower_23 hg h
def il_X12_keySign : List (Nat × Instr × Nat) := [(0, .aload_n 0, 1), (1, .getfield 57, 3), (4, .aload_n 0, 1), (5, .getfield 290, 3), (8, .iaload, 1), (9, .istore_n 2, 1), (10, .iload_n 1, 1), (11, .iconst 3, 1), (12, .if_icmp .ne 7, 3), (15, .iconst 0, 1), (16, .goto 49, 3), (19, .iload_n 1, 1), (20, .ifCond .ne 7, 3), (23, .iconst 1, 1), (24, .goto 41, 3), (27, .iload_n 1, 1), (28, .iconst 4, 1), (29, .if_icmp .ne 7, 3), (32, .iconst 2, 1), (33, .goto 32, 3), (36, .iload_n 1, 1), (37, .iconst 1, 1), (38, .if_icmp .ne 7, 3), (41, .iconst 3, 1), (42, .goto 23, 3), (45, .iload_n 1, 1), (46, .iconst 5, 1), (47, .if_icmp .ne 7, 3), (50, .iconst 4, 1), (51, .goto 14, 3), (54, .iload_n 1, 1), (55, .iconst 2, 1), (56, .if_icmp .ne 7, 3), (59, .iconst 5, 1), (60, .goto 5, 3), (63, .bipush 6, 2), (65, .istore_n 3, 1), (66, .iload_n 2, 1), (67, .ifCond .le 16, 3), (70, .iload_n 3, 1), (71, .iload_n 2, 1), (72, .if_icmp .ge 7, 3), (75, .iconst 1, 1), (76, .goto 21, 3), (79, .iconst 0, 1), (80, .goto 17, 3), (83, .bipush 6, 2), (85, .iload_n 3, 1), (86, .isub, 1), (87, .iload_n 2, 1), (88, .ineg, 1), (89, .if_icmp .ge 7, 3), (92, .iconst (-1), 1), (93, .goto 4, 3), (96, .iconst 0, 1), (97, .ireturn, 1)]
set_option maxRecDepth 20000 in
theorem il_X12_keySign_ok : ∀ x ∈ il_X12_keySign, decode cX12_keySign x.1 = .ok x.2 := by decide +kernel
abbrev me_X12_keySign : Me := (RX12, il_X12_keySign, 4, (some .int), xRoom 1, [])
def w_X12_keySign_97 (n : Nat) (t0 : Int32) (u0 : Mm) (Q : Int32 → Mm → Prop) (T : Mm → Prop) : Prop :=
  Q t0 u0
def w_X12_keySign_65 (n : Nat) (x2 : Int32) (t0 : Int32) (u0 : Mm) (Q : Int32 → Mm → Prop) (T : Mm → Prop) : Prop :=
  (x2 ≤ 0 → ((-x2) ≤ ((6 : Int32) - t0) → w_X12_keySign_97 n (0 : Int32) u0 Q T) ∧
  (¬ (-x2) ≤ ((6 : Int32) - t0) → w_X12_keySign_97 n (-1 : Int32) u0 Q T)) ∧
  (¬ x2 ≤ 0 → (x2 ≤ t0 → w_X12_keySign_97 n (0 : Int32) u0 Q T) ∧
  (¬ x2 ≤ t0 → w_X12_keySign_97 n (1 : Int32) u0 Q T))
def w_X12_keySign (n : Nat) (a0 : Int32) (u0 : Mm) (Q : Int32 → Mm → Prop) (T : Mm → Prop) : Prop :=
  vp_in (u0.1 0 28) 3 ∧ (ilet (u0.1 12 (ix (u0.1 0 28))) fun y1 =>
  (¬ a0 = (3 : Int32) → (¬ a0 = 0 → (¬ a0 = (4 : Int32) → (¬ a0 = (1 : Int32) → (¬ a0 = (5 : Int32) → (¬ a0 = (2 : Int32) → w_X12_keySign_65 n y1 (6 : Int32) u0 Q T) ∧
  (a0 = (2 : Int32) → w_X12_keySign_65 n y1 (5 : Int32) u0 Q T)) ∧
  (a0 = (5 : Int32) → w_X12_keySign_65 n y1 (4 : Int32) u0 Q T)) ∧
  (a0 = (1 : Int32) → w_X12_keySign_65 n y1 (3 : Int32) u0 Q T)) ∧
  (a0 = (4 : Int32) → w_X12_keySign_65 n y1 (2 : Int32) u0 Q T)) ∧
  (a0 = 0 → w_X12_keySign_65 n y1 (1 : Int32) u0 Q T)) ∧
  (a0 = (3 : Int32) → w_X12_keySign_65 n y1 (0 : Int32) u0 Q T))
set_option maxRecDepth 20000 in
theorem s_X12_keySign_97 {g : Gb} (hg : xInj g) {n : Nat} {Q : Int32 → Mm → Prop} {T : Mm → Prop} {t0 : Int32} {u0 : Mm} (h : w_X12_keySign_97 n t0 u0 Q T) : xE g me_X12_keySign (pI g Q T) 97 [] [.int t0] u0 := by
  unfold w_X12_keySign_97 at h
  exact e_iret (k := 55) rfl rfl (Or.inl ⟨_, rfl, h⟩)
set_option maxRecDepth 20000 in
theorem s_X12_keySign_65 {g : Gb} (hg : xInj g) {n : Nat} {Q : Int32 → Mm → Prop} {T : Mm → Prop} {x2 : Int32} {t0 : Int32} {u0 : Mm} (h : w_X12_keySign_65 n x2 t0 u0 Q T) : xE g me_X12_keySign (pI g Q T) 65 [(2, .int x2)] [.int t0] u0 := by
  unfold w_X12_keySign_65 at h
  refine e_istore_n (k := 36) (i := 3) (lv' := [(2, .int x2), (3, .int t0)]) rfl rfl (by decide) [1, 0] rfl ?_
  refine e_iload_n (k := 37) (i := 2) rfl rfl 0 rfl ?_
  refine e_if_le (k := 38) (tgt := 83) rfl (by decide) (fun z => ?_) (fun z => ?_)
  · have h := h.1 z
    refine e_bipush (k := 46) (v := (6 : Int32)) rfl (by decide) ?_
    refine e_iload_n (k := 47) (i := 3) rfl rfl 1 rfl ?_
    refine e_isub (k := 48) rfl ?_
    refine e_iload_n (k := 49) (i := 2) rfl rfl 0 rfl ?_
    refine e_ineg (k := 50) rfl ?_
    refine e_icmp_ge (k := 51) (tgt := 96) rfl (by decide) (fun z => ?_) (fun z => ?_)
    · have h := h.1 z
      refine e_iconst (k := 54) (v := (0 : Int32)) rfl (by decide) ?_
      refine e_sub (lv' := []) [] rfl ?_
      exact s_X12_keySign_97 hg h
    · have h := h.2 z
      refine e_iconst (k := 52) (v := (-1 : Int32)) rfl (by decide) ?_
      refine e_goto (k := 53) (tgt := 97) rfl (by decide) ?_
      refine e_sub (lv' := []) [] rfl ?_
      exact s_X12_keySign_97 hg h
  · have h := h.2 z
    refine e_iload_n (k := 39) (i := 3) rfl rfl 1 rfl ?_
    refine e_iload_n (k := 40) (i := 2) rfl rfl 0 rfl ?_
    refine e_icmp_ge (k := 41) (tgt := 79) rfl (by decide) (fun z => ?_) (fun z => ?_)
    · have h := h.1 z
      refine e_iconst (k := 44) (v := (0 : Int32)) rfl (by decide) ?_
      refine e_goto (k := 45) (tgt := 97) rfl (by decide) ?_
      refine e_sub (lv' := []) [] rfl ?_
      exact s_X12_keySign_97 hg h
    · have h := h.2 z
      refine e_iconst (k := 42) (v := (1 : Int32)) rfl (by decide) ?_
      refine e_goto (k := 43) (tgt := 97) rfl (by decide) ?_
      refine e_sub (lv' := []) [] rfl ?_
      exact s_X12_keySign_97 hg h
set_option maxRecDepth 20000 in
theorem c_X12_keySign {g : Gb} (hg : xInj g) {n : Nat} {a0 : Int32} {u0 : Mm} {Q : Int32 → Mm → Prop} {T : Mm → Prop} (h : w_X12_keySign n a0 u0 Q T) : xMet (gL g) yX12_keySign (xws yX12_keySign cX12_keySign 4 (some .int)) (xRoom 1) (xPc g [.ref (gR g 0), .int a0] u0) (xQ g (pI g Q T)) (xA g) := by
  refine xbody (il := il_X12_keySign) hg il_X12_keySign_ok m_X12_keySign (Nat.le_of_ble_eq_true rfl) ?_
  show xE g me_X12_keySign (pI g Q T) 0 [(0, .ref (gR g 0)), (1, .int a0)] [] u0
  unfold w_X12_keySign at h
  refine e_aload_n (k := 0) (i := 0) rfl rfl 0 rfl ?_
  refine e_getC (k := 1) rfl f_X12_57 rfl rfl ?_
  refine e_aload_n (k := 2) (i := 0) rfl rfl 0 rfl ?_
  refine e_getI (k := 3) rfl f_X12_290 rfl rfl ?_
  refine e_iald (k := 4) rfl rfl h.1 ?_
  have h := h.2
  refine e_ilet h (fun y1 h => ?_)
  refine e_istore_n (k := 5) (i := 2) (lv' := [(0, .ref (gR g 0)), (1, .int a0), (2, .int y1)]) rfl rfl (by decide) [1, 2, 0] rfl ?_
  refine e_iload_n (k := 6) (i := 1) rfl rfl 1 rfl ?_
  refine e_iconst (k := 7) (v := (3 : Int32)) rfl (by decide) ?_
  refine e_icmp_ne (k := 8) (tgt := 19) rfl (by decide) (fun z => ?_) (fun z => ?_)
  · have h := h.1 z
    refine e_iload_n (k := 11) (i := 1) rfl rfl 1 rfl ?_
    refine e_if_ne (k := 12) (tgt := 27) rfl (by decide) (fun z => ?_) (fun z => ?_)
    · have h := h.1 z
      refine e_iload_n (k := 15) (i := 1) rfl rfl 1 rfl ?_
      refine e_iconst (k := 16) (v := (4 : Int32)) rfl (by decide) ?_
      refine e_icmp_ne (k := 17) (tgt := 36) rfl (by decide) (fun z => ?_) (fun z => ?_)
      · have h := h.1 z
        refine e_iload_n (k := 20) (i := 1) rfl rfl 1 rfl ?_
        refine e_iconst (k := 21) (v := (1 : Int32)) rfl (by decide) ?_
        refine e_icmp_ne (k := 22) (tgt := 45) rfl (by decide) (fun z => ?_) (fun z => ?_)
        · have h := h.1 z
          refine e_iload_n (k := 25) (i := 1) rfl rfl 1 rfl ?_
          refine e_iconst (k := 26) (v := (5 : Int32)) rfl (by decide) ?_
          refine e_icmp_ne (k := 27) (tgt := 54) rfl (by decide) (fun z => ?_) (fun z => ?_)
          · have h := h.1 z
            refine e_iload_n (k := 30) (i := 1) rfl rfl 1 rfl ?_
            refine e_iconst (k := 31) (v := (2 : Int32)) rfl (by decide) ?_
            refine e_icmp_ne (k := 32) (tgt := 63) rfl (by decide) (fun z => ?_) (fun z => ?_)
            · have h := h.1 z
              refine e_bipush (k := 35) (v := (6 : Int32)) rfl (by decide) ?_
              refine e_sub (lv' := [(2, .int y1)]) [2] rfl ?_
              exact s_X12_keySign_65 hg h
            · have h := h.2 z
              refine e_iconst (k := 33) (v := (5 : Int32)) rfl (by decide) ?_
              refine e_goto (k := 34) (tgt := 65) rfl (by decide) ?_
              refine e_sub (lv' := [(2, .int y1)]) [2] rfl ?_
              exact s_X12_keySign_65 hg h
          · have h := h.2 z
            refine e_iconst (k := 28) (v := (4 : Int32)) rfl (by decide) ?_
            refine e_goto (k := 29) (tgt := 65) rfl (by decide) ?_
            refine e_sub (lv' := [(2, .int y1)]) [2] rfl ?_
            exact s_X12_keySign_65 hg h
        · have h := h.2 z
          refine e_iconst (k := 23) (v := (3 : Int32)) rfl (by decide) ?_
          refine e_goto (k := 24) (tgt := 65) rfl (by decide) ?_
          refine e_sub (lv' := [(2, .int y1)]) [2] rfl ?_
          exact s_X12_keySign_65 hg h
      · have h := h.2 z
        refine e_iconst (k := 18) (v := (2 : Int32)) rfl (by decide) ?_
        refine e_goto (k := 19) (tgt := 65) rfl (by decide) ?_
        refine e_sub (lv' := [(2, .int y1)]) [2] rfl ?_
        exact s_X12_keySign_65 hg h
    · have h := h.2 z
      refine e_iconst (k := 13) (v := (1 : Int32)) rfl (by decide) ?_
      refine e_goto (k := 14) (tgt := 65) rfl (by decide) ?_
      refine e_sub (lv' := [(2, .int y1)]) [2] rfl ?_
      exact s_X12_keySign_65 hg h
  · have h := h.2 z
    refine e_iconst (k := 9) (v := (0 : Int32)) rfl (by decide) ?_
    refine e_goto (k := 10) (tgt := 65) rfl (by decide) ?_
    refine e_sub (lv' := [(2, .int y1)]) [2] rfl ?_
    exact s_X12_keySign_65 hg h
def il_X12_meterTime : List (Nat × Instr × Nat) := [(0, .aload_n 0, 1), (1, .getfield 60, 3), (4, .aload_n 0, 1), (5, .getfield 290, 3), (8, .iaload, 1), (9, .ifCond .ne 9, 3), (12, .ldc2_w 373, 3), (15, .goto 28, 3), (18, .ldc2_w 375, 3), (21, .aload_n 0, 1), (22, .getfield 63, 3), (25, .aload_n 0, 1), (26, .getfield 290, 3), (29, .iaload, 1), (30, .i2l, 1), (31, .ldiv, 1), (32, .aload_n 0, 1), (33, .getfield 60, 3), (36, .aload_n 0, 1), (37, .getfield 290, 3), (40, .iaload, 1), (41, .i2l, 1), (42, .lmul, 1), (43, .lreturn, 1)]
set_option maxRecDepth 20000 in
theorem il_X12_meterTime_ok : ∀ x ∈ il_X12_meterTime, decode cX12_meterTime x.1 = .ok x.2 := by decide +kernel
abbrev me_X12_meterTime : Me := (RX12, il_X12_meterTime, 1, (some .long), xRoom 1, [])
def w_X12_meterTime_43 (n : Nat) (t0 : Int64) (u0 : Mm) (Q : Int64 → Mm → Prop) (T : Mm → Prop) : Prop :=
  Q t0 u0
def w_X12_meterTime (n : Nat) (u0 : Mm) (Q : Int64 → Mm → Prop) (T : Mm → Prop) : Prop :=
  vp_in (u0.1 0 28) 3 ∧ ((¬ (u0.1 13 (ix (u0.1 0 28))) = 0 → vp_in (u0.1 0 28) 3 ∧ (¬ (u0.1 14 (ix (u0.1 0 28))).toInt64 = 0 ∧ (vp_in (u0.1 0 28) 3 ∧ (w_X12_meterTime_43 n (((1290240 : Int64) / (u0.1 14 (ix (u0.1 0 28))).toInt64) * (u0.1 13 (ix (u0.1 0 28))).toInt64) u0 Q T)))) ∧
  ((u0.1 13 (ix (u0.1 0 28))) = 0 → w_X12_meterTime_43 n (-1 : Int64) u0 Q T))
set_option maxRecDepth 20000 in
theorem s_X12_meterTime_43 {g : Gb} (hg : xInj g) {n : Nat} {Q : Int64 → Mm → Prop} {T : Mm → Prop} {t0 : Int64} {u0 : Mm} (h : w_X12_meterTime_43 n t0 u0 Q T) : xE g me_X12_meterTime (pL g Q T) 43 [] [.long t0] u0 := by
  unfold w_X12_meterTime_43 at h
  exact e_lret (k := 23) rfl rfl (Or.inl ⟨_, rfl, h⟩)
set_option maxRecDepth 20000 in
theorem c_X12_meterTime {g : Gb} (hg : xInj g) {n : Nat} {u0 : Mm} {Q : Int64 → Mm → Prop} {T : Mm → Prop} (h : w_X12_meterTime n u0 Q T) : xMet (gL g) yX12_meterTime (xws yX12_meterTime cX12_meterTime 1 (some .long)) (xRoom 1) (xPc g [.ref (gR g 0)] u0) (xQ g (pL g Q T)) (xA g) := by
  refine xbody (il := il_X12_meterTime) hg il_X12_meterTime_ok m_X12_meterTime (Nat.le_of_ble_eq_true rfl) ?_
  show xE g me_X12_meterTime (pL g Q T) 0 [(0, .ref (gR g 0))] [] u0
  unfold w_X12_meterTime at h
  refine e_aload_n (k := 0) (i := 0) rfl rfl 0 rfl ?_
  refine e_getC (k := 1) rfl f_X12_60 rfl rfl ?_
  refine e_aload_n (k := 2) (i := 0) rfl rfl 0 rfl ?_
  refine e_getI (k := 3) rfl f_X12_290 rfl rfl ?_
  refine e_iald (k := 4) rfl rfl h.1 ?_
  have h := h.2
  refine e_if_ne (k := 5) (tgt := 18) rfl (by decide) (fun z => ?_) (fun z => ?_)
  · have h := h.1 z
    refine e_ldc2 (k := 8) rfl k_X12_375 ?_
    refine e_aload_n (k := 9) (i := 0) rfl rfl 0 rfl ?_
    refine e_getC (k := 10) rfl f_X12_63 rfl rfl ?_
    refine e_aload_n (k := 11) (i := 0) rfl rfl 0 rfl ?_
    refine e_getI (k := 12) rfl f_X12_290 rfl rfl ?_
    refine e_iald (k := 13) rfl rfl h.1 ?_
    have h := h.2
    refine e_i2l (k := 14) rfl ?_
    refine e_ldiv (k := 15) rfl h.1 ?_
    have h := h.2
    refine e_aload_n (k := 16) (i := 0) rfl rfl 0 rfl ?_
    refine e_getC (k := 17) rfl f_X12_60 rfl rfl ?_
    refine e_aload_n (k := 18) (i := 0) rfl rfl 0 rfl ?_
    refine e_getI (k := 19) rfl f_X12_290 rfl rfl ?_
    refine e_iald (k := 20) rfl rfl h.1 ?_
    have h := h.2
    refine e_i2l (k := 21) rfl ?_
    refine e_lmul (k := 22) rfl ?_
    refine e_sub (lv' := []) [] rfl ?_
    exact s_X12_meterTime_43 hg h
  · have h := h.2 z
    refine e_ldc2 (k := 6) rfl k_X12_373 ?_
    refine e_goto (k := 7) (tgt := 43) rfl (by decide) ?_
    refine e_sub (lv' := []) [] rfl ?_
    exact s_X12_meterTime_43 hg h
def il_X12_ornament : List (Nat × Instr × Nat) := [(0, .iload_n 0, 1), (1, .bipush 46, 2), (3, .if_icmp .ne 7, 3), (6, .iconst 1, 1), (7, .goto 80, 3), (10, .iload_n 0, 1), (11, .bipush 126, 2), (13, .if_icmp .ne 7, 3), (16, .iconst 2, 1), (17, .goto 70, 3), (20, .iload_n 0, 1), (21, .bipush 72, 2), (23, .if_icmp .ne 7, 3), (26, .iconst 4, 1), (27, .goto 60, 3), (30, .iload_n 0, 1), (31, .bipush 84, 2), (33, .if_icmp .ne 8, 3), (36, .bipush 8, 2), (38, .goto 49, 3), (41, .iload_n 0, 1), (42, .bipush 77, 2), (44, .if_icmp .ne 8, 3), (47, .bipush 16, 2), (49, .goto 38, 3), (52, .iload_n 0, 1), (53, .bipush 80, 2), (55, .if_icmp .ne 8, 3), (58, .bipush 32, 2), (60, .goto 27, 3), (63, .iload_n 0, 1), (64, .bipush 117, 2), (66, .if_icmp .ne 8, 3), (69, .bipush 64, 2), (71, .goto 16, 3), (74, .iload_n 0, 1), (75, .bipush 118, 2), (77, .if_icmp .ne 9, 3), (80, .sipush 128, 3), (83, .goto 4, 3), (86, .iconst 0, 1), (87, .ireturn, 1)]
set_option maxRecDepth 20000 in
theorem il_X12_ornament_ok : ∀ x ∈ il_X12_ornament, decode cX12_ornament x.1 = .ok x.2 := by decide +kernel
abbrev me_X12_ornament : Me := (RX12, il_X12_ornament, 1, (some .int), xRoom 1, [])
def w_X12_ornament_87 (n : Nat) (t0 : Int32) (u0 : Mm) (Q : Int32 → Mm → Prop) (T : Mm → Prop) : Prop :=
  Q t0 u0
def w_X12_ornament (n : Nat) (a0 : Int32) (u0 : Mm) (Q : Int32 → Mm → Prop) (T : Mm → Prop) : Prop :=
  (¬ a0 = (46 : Int32) → (¬ a0 = (126 : Int32) → (¬ a0 = (72 : Int32) → (¬ a0 = (84 : Int32) → (¬ a0 = (77 : Int32) → (¬ a0 = (80 : Int32) → (¬ a0 = (117 : Int32) → (¬ a0 = (118 : Int32) → w_X12_ornament_87 n (0 : Int32) u0 Q T) ∧
  (a0 = (118 : Int32) → w_X12_ornament_87 n (128 : Int32) u0 Q T)) ∧
  (a0 = (117 : Int32) → w_X12_ornament_87 n (64 : Int32) u0 Q T)) ∧
  (a0 = (80 : Int32) → w_X12_ornament_87 n (32 : Int32) u0 Q T)) ∧
  (a0 = (77 : Int32) → w_X12_ornament_87 n (16 : Int32) u0 Q T)) ∧
  (a0 = (84 : Int32) → w_X12_ornament_87 n (8 : Int32) u0 Q T)) ∧
  (a0 = (72 : Int32) → w_X12_ornament_87 n (4 : Int32) u0 Q T)) ∧
  (a0 = (126 : Int32) → w_X12_ornament_87 n (2 : Int32) u0 Q T)) ∧
  (a0 = (46 : Int32) → w_X12_ornament_87 n (1 : Int32) u0 Q T)
set_option maxRecDepth 20000 in
theorem s_X12_ornament_87 {g : Gb} (hg : xInj g) {n : Nat} {Q : Int32 → Mm → Prop} {T : Mm → Prop} {t0 : Int32} {u0 : Mm} (h : w_X12_ornament_87 n t0 u0 Q T) : xE g me_X12_ornament (pI g Q T) 87 [] [.int t0] u0 := by
  unfold w_X12_ornament_87 at h
  exact e_iret (k := 41) rfl rfl (Or.inl ⟨_, rfl, h⟩)
set_option maxRecDepth 20000 in
theorem c_X12_ornament {g : Gb} (hg : xInj g) {n : Nat} {a0 : Int32} {u0 : Mm} {Q : Int32 → Mm → Prop} {T : Mm → Prop} (h : w_X12_ornament n a0 u0 Q T) : xMet (gL g) yX12_ornament (xws yX12_ornament cX12_ornament 1 (some .int)) (xRoom 1) (xPc g [.int a0] u0) (xQ g (pI g Q T)) (xA g) := by
  refine xbody (il := il_X12_ornament) hg il_X12_ornament_ok m_X12_ornament (Nat.le_of_ble_eq_true rfl) ?_
  show xE g me_X12_ornament (pI g Q T) 0 [(0, .int a0)] [] u0
  unfold w_X12_ornament at h
  refine e_iload_n (k := 0) (i := 0) rfl rfl 0 rfl ?_
  refine e_bipush (k := 1) (v := (46 : Int32)) rfl (by decide) ?_
  refine e_icmp_ne (k := 2) (tgt := 10) rfl (by decide) (fun z => ?_) (fun z => ?_)
  · have h := h.1 z
    refine e_iload_n (k := 5) (i := 0) rfl rfl 0 rfl ?_
    refine e_bipush (k := 6) (v := (126 : Int32)) rfl (by decide) ?_
    refine e_icmp_ne (k := 7) (tgt := 20) rfl (by decide) (fun z => ?_) (fun z => ?_)
    · have h := h.1 z
      refine e_iload_n (k := 10) (i := 0) rfl rfl 0 rfl ?_
      refine e_bipush (k := 11) (v := (72 : Int32)) rfl (by decide) ?_
      refine e_icmp_ne (k := 12) (tgt := 30) rfl (by decide) (fun z => ?_) (fun z => ?_)
      · have h := h.1 z
        refine e_iload_n (k := 15) (i := 0) rfl rfl 0 rfl ?_
        refine e_bipush (k := 16) (v := (84 : Int32)) rfl (by decide) ?_
        refine e_icmp_ne (k := 17) (tgt := 41) rfl (by decide) (fun z => ?_) (fun z => ?_)
        · have h := h.1 z
          refine e_iload_n (k := 20) (i := 0) rfl rfl 0 rfl ?_
          refine e_bipush (k := 21) (v := (77 : Int32)) rfl (by decide) ?_
          refine e_icmp_ne (k := 22) (tgt := 52) rfl (by decide) (fun z => ?_) (fun z => ?_)
          · have h := h.1 z
            refine e_iload_n (k := 25) (i := 0) rfl rfl 0 rfl ?_
            refine e_bipush (k := 26) (v := (80 : Int32)) rfl (by decide) ?_
            refine e_icmp_ne (k := 27) (tgt := 63) rfl (by decide) (fun z => ?_) (fun z => ?_)
            · have h := h.1 z
              refine e_iload_n (k := 30) (i := 0) rfl rfl 0 rfl ?_
              refine e_bipush (k := 31) (v := (117 : Int32)) rfl (by decide) ?_
              refine e_icmp_ne (k := 32) (tgt := 74) rfl (by decide) (fun z => ?_) (fun z => ?_)
              · have h := h.1 z
                refine e_iload_n (k := 35) (i := 0) rfl rfl 0 rfl ?_
                refine e_bipush (k := 36) (v := (118 : Int32)) rfl (by decide) ?_
                refine e_icmp_ne (k := 37) (tgt := 86) rfl (by decide) (fun z => ?_) (fun z => ?_)
                · have h := h.1 z
                  refine e_iconst (k := 40) (v := (0 : Int32)) rfl (by decide) ?_
                  refine e_sub (lv' := []) [] rfl ?_
                  exact s_X12_ornament_87 hg h
                · have h := h.2 z
                  refine e_sipush (k := 38) (v := (128 : Int32)) rfl (by decide) ?_
                  refine e_goto (k := 39) (tgt := 87) rfl (by decide) ?_
                  refine e_sub (lv' := []) [] rfl ?_
                  exact s_X12_ornament_87 hg h
              · have h := h.2 z
                refine e_bipush (k := 33) (v := (64 : Int32)) rfl (by decide) ?_
                refine e_goto (k := 34) (tgt := 87) rfl (by decide) ?_
                refine e_sub (lv' := []) [] rfl ?_
                exact s_X12_ornament_87 hg h
            · have h := h.2 z
              refine e_bipush (k := 28) (v := (32 : Int32)) rfl (by decide) ?_
              refine e_goto (k := 29) (tgt := 87) rfl (by decide) ?_
              refine e_sub (lv' := []) [] rfl ?_
              exact s_X12_ornament_87 hg h
          · have h := h.2 z
            refine e_bipush (k := 23) (v := (16 : Int32)) rfl (by decide) ?_
            refine e_goto (k := 24) (tgt := 87) rfl (by decide) ?_
            refine e_sub (lv' := []) [] rfl ?_
            exact s_X12_ornament_87 hg h
        · have h := h.2 z
          refine e_bipush (k := 18) (v := (8 : Int32)) rfl (by decide) ?_
          refine e_goto (k := 19) (tgt := 87) rfl (by decide) ?_
          refine e_sub (lv' := []) [] rfl ?_
          exact s_X12_ornament_87 hg h
      · have h := h.2 z
        refine e_iconst (k := 13) (v := (4 : Int32)) rfl (by decide) ?_
        refine e_goto (k := 14) (tgt := 87) rfl (by decide) ?_
        refine e_sub (lv' := []) [] rfl ?_
        exact s_X12_ornament_87 hg h
    · have h := h.2 z
      refine e_iconst (k := 8) (v := (2 : Int32)) rfl (by decide) ?_
      refine e_goto (k := 9) (tgt := 87) rfl (by decide) ?_
      refine e_sub (lv' := []) [] rfl ?_
      exact s_X12_ornament_87 hg h
  · have h := h.2 z
    refine e_iconst (k := 3) (v := (1 : Int32)) rfl (by decide) ?_
    refine e_goto (k := 4) (tgt := 87) rfl (by decide) ?_
    refine e_sub (lv' := []) [] rfl ?_
    exact s_X12_ornament_87 hg h
def il_X12_peek : List (Nat × Instr × Nat) := [(0, .iload_n 1, 1), (1, .aload_n 0, 1), (2, .getfield 135, 3), (5, .if_icmp .ge 16, 3), (8, .aload_n 0, 1), (9, .getfield 24, 3), (12, .iload_n 1, 1), (13, .baload, 1), (14, .sipush 255, 3), (17, .iand, 1), (18, .goto 5, 3), (21, .bipush 10, 2), (23, .ireturn, 1)]
set_option maxRecDepth 20000 in
theorem il_X12_peek_ok : ∀ x ∈ il_X12_peek, decode cX12_peek x.1 = .ok x.2 := by decide +kernel
abbrev me_X12_peek : Me := (RX12, il_X12_peek, 2, (some .int), xRoom 1, [])
def w_X12_peek_23 (n : Nat) (t0 : Int32) (u0 : Mm) (Q : Int32 → Mm → Prop) (T : Mm → Prop) : Prop :=
  Q t0 u0
def w_X12_peek (n : Nat) (a0 : Int32) (u0 : Mm) (Q : Int32 → Mm → Prop) (T : Mm → Prop) : Prop :=
  ((u0.1 0 9) ≤ a0 → w_X12_peek_23 n (10 : Int32) u0 Q T) ∧
  (¬ (u0.1 0 9) ≤ a0 → vp_in a0 2420 ∧ (w_X12_peek_23 n ((u0.1 3 (ix a0)) &&& (255 : Int32)) u0 Q T))
set_option maxRecDepth 20000 in
theorem s_X12_peek_23 {g : Gb} (hg : xInj g) {n : Nat} {Q : Int32 → Mm → Prop} {T : Mm → Prop} {t0 : Int32} {u0 : Mm} (h : w_X12_peek_23 n t0 u0 Q T) : xE g me_X12_peek (pI g Q T) 23 [] [.int t0] u0 := by
  unfold w_X12_peek_23 at h
  exact e_iret (k := 12) rfl rfl (Or.inl ⟨_, rfl, h⟩)
set_option maxRecDepth 20000 in
theorem c_X12_peek {g : Gb} (hg : xInj g) {n : Nat} {a0 : Int32} {u0 : Mm} {Q : Int32 → Mm → Prop} {T : Mm → Prop} (h : w_X12_peek n a0 u0 Q T) : xMet (gL g) yX12_peek (xws yX12_peek cX12_peek 2 (some .int)) (xRoom 1) (xPc g [.ref (gR g 0), .int a0] u0) (xQ g (pI g Q T)) (xA g) := by
  refine xbody (il := il_X12_peek) hg il_X12_peek_ok m_X12_peek (Nat.le_of_ble_eq_true rfl) ?_
  show xE g me_X12_peek (pI g Q T) 0 [(0, .ref (gR g 0)), (1, .int a0)] [] u0
  unfold w_X12_peek at h
  refine e_iload_n (k := 0) (i := 1) rfl rfl 1 rfl ?_
  refine e_aload_n (k := 1) (i := 0) rfl rfl 0 rfl ?_
  refine e_getI (k := 2) rfl f_X12_135 rfl rfl ?_
  refine e_icmp_ge (k := 3) (tgt := 21) rfl (by decide) (fun z => ?_) (fun z => ?_)
  · have h := h.1 z
    refine e_bipush (k := 11) (v := (10 : Int32)) rfl (by decide) ?_
    refine e_sub (lv' := []) [] rfl ?_
    exact s_X12_peek_23 hg h
  · have h := h.2 z
    refine e_aload_n (k := 4) (i := 0) rfl rfl 0 rfl ?_
    refine e_getC (k := 5) rfl f_X12_24 rfl rfl ?_
    refine e_iload_n (k := 6) (i := 1) rfl rfl 1 rfl ?_
    refine e_bald (k := 7) rfl rfl h.1 ?_
    have h := h.2
    refine e_sipush (k := 8) (v := (255 : Int32)) rfl (by decide) ?_
    refine e_iand (k := 9) rfl ?_
    refine e_goto (k := 10) (tgt := 23) rfl (by decide) ?_
    refine e_sub (lv' := []) [] rfl ?_
    exact s_X12_peek_23 hg h
