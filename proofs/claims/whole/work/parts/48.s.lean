/-! the law up to its loop (by program) -/
theorem cl_L_18 : Cond.classLink RL 18 RX12 ∈ xtbl := xm5 66 rfl rfl
theorem cl_L_7 : Cond.classLink RL 7 RX10 ∈ xtbl := xm1 23 rfl rfl
theorem ini_X10 : Cond.initialized RX10 ∈ xtbl := xm1 1 rfl rfl
theorem ini_X12 : Cond.initialized RX12 ∈ xtbl := xm1 12 rfl rfl
theorem ins_X10 : Cond.instantiable RX10 9 ∈ xtbl := xm1 24 rfl rfl
theorem ins_X12 : Cond.instantiable RX12 72 ∈ xtbl := xm5 67 rfl rfl
theorem ki_X10_init : Cond.instanceMethod yX10_init ∈ xtbl := xm1 26 rfl rfl
theorem ki_X12_init : Cond.instanceMethod yX12_init ∈ xtbl := xm5 69 rfl rfl
theorem lk_L_15 : Cond.methodLink RL 15 yX10_init ∈ xtbl := xm1 25 rfl rfl
theorem lk_L_20 : Cond.methodLink RL 20 yX12_init ∈ xtbl := xm5 68 rfl rfl
theorem lk_cell : Cond.methodLink RL 9 yL_cell ∈ xtbl := xm5 63 rfl rfl
theorem m_cell : xM yL_cell cL_cell 2 (some .int) 2 := ⟨xm5 65 rfl rfl, xm1 0 rfl rfl, ⟨by decide, by decide⟩, by decide +kernel, by decide⟩
theorem st_cell : Cond.static yL_cell ∈ xtbl := xm5 64 rfl rfl
/-- the first memory, for the script's first int -/
def s0 (r : Int32) : Mm :=
  (fun q => if q = 0 then (fun k => if k = 2 then (if (1 : Int32) ≤ r then 1 else 0) else if k = 11 then -2 else 0) else if q = 32 then (fun k => if k = 8 then -2 else 0) else if q = 35 then (fun k => if k = 0 then (if (0 : Int32) < (if r < (1 : Int32) then r else (1 : Int32)) then (if r < (1 : Int32) then r else (1 : Int32)) else (0 : Int32)) else 0) else (fun _ => 0),
   fun _ => (fun _ => 0), fun x => if x = 0 then 41 else if x = 1 then 42 else 50)
def oA (g : Gb) (rr : Int32) : nL' := (66, .inl (gA g 1, 24, .inl (fun _ => 0))) :: (40, .inr (8, [.ref (gR g 66), .int 0])) :: (65, .inl (gA g 0, 12, .inl (fun _ => 0))) :: (64, .inl (gA g 0, 12, .inl (fun _ => 0))) :: (39, .inr (2, [.int 0, .int 0, .int 0, .int 0, .int 0, .int 0, .int 0, .int 0])) :: (38, .inr (3, [.ref (gR g 33), .ref (gR g 34), .ref (gR g 35), .ref (gR g 36), .ref (gR g 39), .ref (gR g 64), .ref (gR g 65), .int 0, .int 0, .int 0, .ref (gR g 50), .int 0, .int 0, .int 0, .int 0])) :: (37, .inr (1, [.ref (gR g 33), .ref (gR g 34), .ref (gR g 35), .int 0, .int 0, .int 0])) :: (34, .inr (0, [.ref (gR g 33), .int 0, .int 0, .int 0, .int 0])) :: (63, .inl (gA g 0, 1000, .inl (fun _ => 0))) :: (62, .inl (gA g 0, 301, .inl (fun _ => 0))) :: (61, .inl (gA g 0, 84, .inl (fun _ => 0))) :: (58, .inl (gA g 3, 300, .inr (.inl (fun _ => 0)))) :: (55, .inl (gA g 3, 300, .inr (.inl (fun _ => 0)))) :: (52, .inr (7, [.ref (gR g 55), .ref (gR g 58), .ref (gR g 61), .int 0, .int 0, .int 0, .long 0, .int 0, .int 0, .int 0, .int 0, .int 0, .int 0, .int 0])) :: (60, .inl (gA g 0, 84, .inl (fun _ => 0))) :: (57, .inl (gA g 3, 300, .inr (.inl (fun _ => 0)))) :: (54, .inl (gA g 3, 300, .inr (.inl (fun _ => 0)))) :: (51, .inr (7, [.ref (gR g 54), .ref (gR g 57), .ref (gR g 60), .int 0, .int 0, .int 0, .long 0, .int 0, .int 0, .int 0, .int 0, .int 0, .int 0, .int 0])) :: (59, .inl (gA g 0, 84, .inl (fun _ => 0))) :: (56, .inl (gA g 3, 300, .inr (.inl (fun _ => 0)))) :: (53, .inl (gA g 3, 300, .inr (.inl (fun _ => 0)))) :: (50, .inr (7, [.ref (gR g 53), .ref (gR g 56), .ref (gR g 59), .int 0, .int 0, .int 0, .long 0, .int 0, .int 0, .int 0, .int 0, .int 0, .int 0, .int 0])) :: (49, .inl (gA g 4, 3, .inr (.inr (.inr (.inr (va_up (va_up (va_up (fun _ => none) 0 (some (gR g 50))) 1 (some (gR g 51))) 2 (some (gR g 52)))))))) :: (48, .inl (gA g 3, 400, .inr (.inl (fun _ => 0)))) :: (47, .inl (gA g 3, 400, .inr (.inl (fun _ => 0)))) :: (46, .inl (gA g 0, 7600, .inl (fun _ => 0))) :: (36, .inr (5, [.ref (gR g 46), .ref (gR g 47), .ref (gR g 48), .int 0])) :: (45, .inl (gA g 0, 3, .inl (fun _ => 0))) :: (44, .inl (gA g 0, 3, .inl (fun _ => 0))) :: (43, .inl (gA g 0, 10, .inl (fun _ => 0))) :: (35, .inr (6, [.int (if (0 : Int32) < (if rr < (1 : Int32) then rr else (1 : Int32)) then (if rr < (1 : Int32) then rr else (1 : Int32)) else (0 : Int32)), .ref (gR g 43), .ref (gR g 44), .ref (gR g 45), .ref (gR g 36), .ref (gR g 49), .ref (gR g 62), .ref (gR g 63), .int 0, .int 0])) :: (42, .inl (gA g 1, 2400, .inl (fun _ => 0))) :: (33, .inr (4, [.ref (gR g 42), .int 0, .int 0, .int 0, .int 0, .int 0, .int 0, .int 0])) :: (41, .inl (gA g 1, 2400, .inl (fun _ => 0))) :: (32, .inr (9, [.ref (gR g 33), .ref (gR g 35), .ref (gR g 37), .ref (gR g 38), .ref (gR g 40), .ref (gR g 41), .int (0 : Int32), .int (0 : Int32), .int (-2 : Int32)])) :: []
def oM (g : Gb) (rr : Int32) (ws0 : nL') : nL' := (31, .inl (gA g 1, 200, .inl (fun _ => 0))) :: (30, .inl (gA g 0, 1000, .inl (fun _ => 0))) :: (29, .inl (gA g 0, 301, .inl (fun _ => 0))) :: (28, .inl (gA g 2, 301, .inl (fun _ => 0))) :: (27, .inl (gA g 2, 301, .inl (fun _ => 0))) :: (26, .inl (gA g 2, 301, .inl (fun _ => 0))) :: (25, .inl (gA g 0, 12, .inl (fun _ => 0))) :: (24, .inl (gA g 0, 12, .inl (fun _ => 0))) :: (23, .inl (gA g 0, 3, .inl (fun _ => 0))) :: (22, .inl (gA g 0, 1344, .inl (fun _ => 0))) :: (21, .inl (gA g 3, 900, .inr (.inl (fun _ => 0)))) :: (20, .inl (gA g 3, 900, .inr (.inl (fun _ => 0)))) :: (19, .inl (gA g 0, 3, .inl (fun _ => 0))) :: (18, .inl (gA g 2, 3, .inl (fun _ => 0))) :: (17, .inl (gA g 0, 3, .inl (fun _ => 0))) :: (16, .inl (gA g 3, 3, .inr (.inl (fun _ => 0)))) :: (15, .inl (gA g 0, 3, .inl (fun _ => 0))) :: (14, .inl (gA g 0, 3, .inl (fun _ => 0))) :: (13, .inl (gA g 0, 3, .inl (fun _ => 0))) :: (12, .inl (gA g 0, 3, .inl (fun _ => 0))) :: (11, .inl (gA g 2, 400, .inl (fun _ => 0))) :: (10, .inl (gA g 0, 400, .inl (fun _ => 0))) :: (9, .inl (gA g 0, 400, .inl (fun _ => 0))) :: (8, .inl (gA g 3, 400, .inr (.inl (fun _ => 0)))) :: (7, .inl (gA g 3, 400, .inr (.inl (fun _ => 0)))) :: (6, .inl (gA g 0, 6800, .inl (fun _ => 0))) :: (5, .inl (gA g 0, 3, .inl (fun _ => 0))) :: (4, .inl (gA g 0, 3, .inl (fun _ => 0))) :: (3, .inl (gA g 1, 2420, .inl (fun _ => 0))) :: (2, .inl (gA g 1, 2420, .inl (fun _ => 0))) :: (1, .inr (10, [.null, .null, .null, .null, .null, .int 0, .int 0, .int 0])) :: (0, .inr (11, [.int (0 : Int32), .ref (gR g 1), .int (if (1 : Int32) ≤ rr then 1 else 0), .ref (gR g 2), .int 0, .ref (gR g 3), .int 0, .int 0, .int 0, .int 0, .int 0, .int (-2 : Int32), .int 0, .int 0, .ref (gR g 4), .ref (gR g 5), .int 0, .int 0, .int 0, .int 0, .int 0, .ref (gR g 6), .ref (gR g 7), .ref (gR g 8), .ref (gR g 9), .ref (gR g 10), .ref (gR g 11), .int 0, .int 0, .int 0, .ref (gR g 12), .ref (gR g 13), .ref (gR g 14), .ref (gR g 15), .ref (gR g 16), .ref (gR g 17), .ref (gR g 18), .ref (gR g 19), .ref (gR g 20), .ref (gR g 21), .ref (gR g 22), .ref (gR g 23), .int 0, .int 0, .int 0, .int 0, .int 0, .int 0, .int 0, .int 0, .int 0, .int 0, .int 0, .int 0, .int 0, .int 0, .int 0, .int 0, .int 0, .int 0, .int 0, .ref (gR g 24), .ref (gR g 25), .int 0, .ref (gR g 26), .ref (gR g 27), .ref (gR g 28), .ref (gR g 29), .ref (gR g 30), .int 0, .ref (gR g 31), .int 0])) :: ws0
theorem oV {g : Gb} {H : Heap} (h : va_at (gD g) xCl (gR g 49, .inl (gA g 4, 3, .inr (.inr (.inr (.inr (va_up (va_up (va_up (fun _ => none) 0 (some (gR g 50))) 1 (some (gR g 51))) 2 (some (gR g 52)))))))) H) : va_at (gD g) xCl (gR g 49, .inl (gA g 4, 3, .inr (.inr (.inr (.inr (fun j => some (gR g (50 + j)))))))) H := by
  have e : vp_cell (gA g 4) (3, .inr (.inr (.inr (.inr (va_up (va_up (va_up (fun _ => none) 0 (some (gR g 50))) 1 (some (gR g 51))) 2 (some (gR g 52))))))) = vp_cell (gA g 4) (3, .inr (.inr (.inr (.inr (fun j => some (gR g (50 + j))))))) := by
    rw [vp_cell_q, vp_cell_q]
    unfold arrV
    congr 1
  have h' : H[gR g 49]? = some (vp_cell (gA g 4) _) := h
  rw [e] at h'
  exact h'
set_option maxRecDepth 20000 in
theorem o_world {g : Gb} {rr : Int32} {H : Heap} (hP : va_P (gD g) xCl (nw g (oM g rr (oA g rr))) H) : xP g (s0 rr) H := by
  refine ⟨fun k x hx => ?_, ⟨rfl, rfl, rfl⟩⟩
  obtain ⟨hlt, rfl⟩ := xw_get' hx
  match k, hlt with
  | 0, _ => exact hP 31 (gR g 0, _) rfl
  | 1, _ => exact hP 30 (gR g 1, _) rfl
  | 2, _ => exact hP 29 (gR g 2, _) rfl
  | 3, _ => exact hP 28 (gR g 3, _) rfl
  | 4, _ => exact hP 27 (gR g 4, _) rfl
  | 5, _ => exact hP 26 (gR g 5, _) rfl
  | 6, _ => exact hP 25 (gR g 6, _) rfl
  | 7, _ => exact hP 24 (gR g 7, _) rfl
  | 8, _ => exact hP 23 (gR g 8, _) rfl
  | 9, _ => exact hP 22 (gR g 9, _) rfl
  | 10, _ => exact hP 21 (gR g 10, _) rfl
  | 11, _ => exact hP 20 (gR g 11, _) rfl
  | 12, _ => exact hP 19 (gR g 12, _) rfl
  | 13, _ => exact hP 18 (gR g 13, _) rfl
  | 14, _ => exact hP 17 (gR g 14, _) rfl
  | 15, _ => exact hP 16 (gR g 15, _) rfl
  | 16, _ => exact hP 15 (gR g 16, _) rfl
  | 17, _ => exact hP 14 (gR g 17, _) rfl
  | 18, _ => exact hP 13 (gR g 18, _) rfl
  | 19, _ => exact hP 12 (gR g 19, _) rfl
  | 20, _ => exact hP 11 (gR g 20, _) rfl
  | 21, _ => exact hP 10 (gR g 21, _) rfl
  | 22, _ => exact hP 9 (gR g 22, _) rfl
  | 23, _ => exact hP 8 (gR g 23, _) rfl
  | 24, _ => exact hP 7 (gR g 24, _) rfl
  | 25, _ => exact hP 6 (gR g 25, _) rfl
  | 26, _ => exact hP 5 (gR g 26, _) rfl
  | 27, _ => exact hP 4 (gR g 27, _) rfl
  | 28, _ => exact hP 3 (gR g 28, _) rfl
  | 29, _ => exact hP 2 (gR g 29, _) rfl
  | 30, _ => exact hP 1 (gR g 30, _) rfl
  | 31, _ => exact hP 0 (gR g 31, _) rfl
  | 32, _ => exact hP 66 (gR g 32, _) rfl
  | 33, _ => exact hP 64 (gR g 33, _) rfl
  | 34, _ => exact hP 39 (gR g 34, _) rfl
  | 35, _ => exact hP 62 (gR g 35, _) rfl
  | 36, _ => exact hP 58 (gR g 36, _) rfl
  | 37, _ => exact hP 38 (gR g 37, _) rfl
  | 38, _ => exact hP 37 (gR g 38, _) rfl
  | 39, _ => exact hP 36 (gR g 39, _) rfl
  | 40, _ => exact hP 33 (gR g 40, _) rfl
  | 41, _ => exact hP 65 (gR g 41, _) rfl
  | 42, _ => exact hP 63 (gR g 42, _) rfl
  | 43, _ => exact hP 61 (gR g 43, _) rfl
  | 44, _ => exact hP 60 (gR g 44, _) rfl
  | 45, _ => exact hP 59 (gR g 45, _) rfl
  | 46, _ => exact hP 57 (gR g 46, _) rfl
  | 47, _ => exact hP 56 (gR g 47, _) rfl
  | 48, _ => exact hP 55 (gR g 48, _) rfl
  | 49, _ => exact oV (hP 54 (gR g 49, _) rfl)
  | 50, _ => exact hP 53 (gR g 50, _) rfl
  | 51, _ => exact hP 49 (gR g 51, _) rfl
  | 52, _ => exact hP 45 (gR g 52, _) rfl
  | 53, _ => exact hP 52 (gR g 53, _) rfl
  | 54, _ => exact hP 48 (gR g 54, _) rfl
  | 55, _ => exact hP 44 (gR g 55, _) rfl
  | 56, _ => exact hP 51 (gR g 56, _) rfl
  | 57, _ => exact hP 47 (gR g 57, _) rfl
  | 58, _ => exact hP 43 (gR g 58, _) rfl
  | 59, _ => exact hP 50 (gR g 59, _) rfl
  | 60, _ => exact hP 46 (gR g 60, _) rfl
  | 61, _ => exact hP 42 (gR g 61, _) rfl
  | 62, _ => exact hP 41 (gR g 62, _) rfl
  | 63, _ => exact hP 40 (gR g 63, _) rfl
  | 64, _ => exact hP 35 (gR g 64, _) rfl
  | 65, _ => exact hP 34 (gR g 65, _) rfl
  | 66, _ => exact hP 32 (gR g 66, _) rfl
  | k + 67, h => exact absurd h (by omega)
set_option maxRecDepth 20000 in
theorem law_start {g : Gb} {B b L : Nat} {xs : Nat → Int32} (hL : L ≤ 385) (kk : zE g b L xs 28 [(0, .ref b), (1, .ref (gR g 32)), (2, .ref (gR g 0)), (3, .int (nI 1))] [] (s0 (orr L xs))) : nE' g me_law B (fun below _ s => lw_Z below #[Value.ref b] s) (oH g b L xs) 0 0 0 0 [(0, .ref b)] [] [] := by
  refine n_new (j := 0) (q := 32) (ci := 9) (fs := [.null, .null, .null, .null, .null, .null, .int 0, .int 0, .int 0]) tyX10 tyX10_ok rfl rfl cl_L_7 ins_X10 ini_X10 (by decide +kernel) (by decide) (by decide) (Or.inl rfl) (by decide) (by decide) ?_
  refine n_dup (j := 1) rfl rfl ?_
  refine n_aload_n (j := 2) (i := 0) rfl rfl 0 rfl ?_
  refine n_iconst (j := 3) (v := (0 : Int32)) rfl (by decide) ?_
  refine n_cell (j := 4) hL rfl m_cell st_cell lk_cell (Nat.le_of_ble_eq_true rfl) rfl (by decide) (by decide) ?_
  refine n_callI (j := 5) (q := 32) (As := [.int (orr L xs)]) (rest := [.ref (gR g 32)]) (mc1 := 34) (ms1 := 16720) (k1 := 35) (w1 := oA g (orr L xs)) rfl (fun hR h => kk_X10_init hR h) mf_X10_init ki_X10_init rfl lk_L_15 rfl rfl (Nat.le_of_ble_eq_true rfl) rfl rfl ⟨by decide, by decide⟩ (nlast (q := 32) (by decide) (by decide)) (by decide) (by decide) rfl (fun h => nOkn (nOk_push (q := 66) (e := .inl (0, 0, .inl (fun _ => 0))) (nOk_push (q := 40) (e := .inl (0, 0, .inl (fun _ => 0))) (nOk_push (q := 65) (e := .inl (0, 0, .inl (fun _ => 0))) (nOk_push (q := 64) (e := .inl (0, 0, .inl (fun _ => 0))) (nOk_push (q := 39) (e := .inl (0, 0, .inl (fun _ => 0))) (nOk_push (q := 38) (e := .inl (0, 0, .inl (fun _ => 0))) (nOk_push (q := 37) (e := .inl (0, 0, .inl (fun _ => 0))) (nOk_push (q := 34) (e := .inl (0, 0, .inl (fun _ => 0))) (nOk_push (q := 63) (e := .inl (0, 0, .inl (fun _ => 0))) (nOk_push (q := 62) (e := .inl (0, 0, .inl (fun _ => 0))) (nOk_push (q := 61) (e := .inl (0, 0, .inl (fun _ => 0))) (nOk_push (q := 58) (e := .inl (0, 0, .inl (fun _ => 0))) (nOk_push (q := 55) (e := .inl (0, 0, .inl (fun _ => 0))) (nOk_push (q := 52) (e := .inl (0, 0, .inl (fun _ => 0))) (nOk_push (q := 60) (e := .inl (0, 0, .inl (fun _ => 0))) (nOk_push (q := 57) (e := .inl (0, 0, .inl (fun _ => 0))) (nOk_push (q := 54) (e := .inl (0, 0, .inl (fun _ => 0))) (nOk_push (q := 51) (e := .inl (0, 0, .inl (fun _ => 0))) (nOk_push (q := 59) (e := .inl (0, 0, .inl (fun _ => 0))) (nOk_push (q := 56) (e := .inl (0, 0, .inl (fun _ => 0))) (nOk_push (q := 53) (e := .inl (0, 0, .inl (fun _ => 0))) (nOk_push (q := 50) (e := .inl (0, 0, .inl (fun _ => 0))) (nOk_push (q := 49) (e := .inl (0, 0, .inl (fun _ => 0))) (nOk_push (q := 48) (e := .inl (0, 0, .inl (fun _ => 0))) (nOk_push (q := 47) (e := .inl (0, 0, .inl (fun _ => 0))) (nOk_push (q := 46) (e := .inl (0, 0, .inl (fun _ => 0))) (nOk_push (q := 36) (e := .inl (0, 0, .inl (fun _ => 0))) (nOk_push (q := 45) (e := .inl (0, 0, .inl (fun _ => 0))) (nOk_push (q := 44) (e := .inl (0, 0, .inl (fun _ => 0))) (nOk_push (q := 43) (e := .inl (0, 0, .inl (fun _ => 0))) (nOk_push (q := 35) (e := .inl (0, 0, .inl (fun _ => 0))) (nOk_push (q := 42) (e := .inl (0, 0, .inl (fun _ => 0))) (nOk_push (q := 33) (e := .inl (0, 0, .inl (fun _ => 0))) (nOk_push (q := 41) (e := .inl (0, 0, .inl (fun _ => 0))) h (by decide) (by decide)) (by decide) (by decide)) (by decide) (by decide)) (by decide) (by decide)) (by decide) (by decide)) (by decide) (by decide)) (by decide) (by decide)) (by decide) (by decide)) (by decide) (by decide)) (by decide) (by decide)) (by decide) (by decide)) (by decide) (by decide)) (by decide) (by decide)) (by decide) (by decide)) (by decide) (by decide)) (by decide) (by decide)) (by decide) (by decide)) (by decide) (by decide)) (by decide) (by decide)) (by decide) (by decide)) (by decide) (by decide)) (by decide) (by decide)) (by decide) (by decide)) (by decide) (by decide)) (by decide) (by decide)) (by decide) (by decide)) (by decide) (by decide)) (by decide) (by decide)) (by decide) (by decide)) (by decide) (by decide)) (by decide) (by decide)) (by decide) (by decide)) (by decide) (by decide)) (by decide) (by decide)) rfl) ?_
  refine n_astore_n (j := 6) (i := 1) (lv' := [(0, .ref b), (1, .ref (gR g 32))]) rfl rfl (by decide) [1, 0] rfl ?_
  refine n_new (j := 7) (q := 0) (ci := 11) (fs := [.int 0, .null, .int 0, .null, .int 0, .null, .int 0, .int 0, .int 0, .int 0, .int 0, .int 0, .int 0, .int 0, .null, .null, .int 0, .int 0, .int 0, .int 0, .int 0, .null, .null, .null, .null, .null, .null, .int 0, .int 0, .int 0, .null, .null, .null, .null, .null, .null, .null, .null, .null, .null, .null, .null, .int 0, .int 0, .int 0, .int 0, .int 0, .int 0, .int 0, .int 0, .int 0, .int 0, .int 0, .int 0, .int 0, .int 0, .int 0, .int 0, .int 0, .int 0, .int 0, .null, .null, .int 0, .null, .null, .null, .null, .null, .int 0, .null, .int 0]) tyX12 tyX12_ok rfl rfl cl_L_18 ins_X12 ini_X12 (by decide +kernel) (by decide) (by decide) (nlast (q := 66) (by decide) (by decide)) (by decide) (by decide) ?_
  refine n_dup (j := 8) rfl rfl ?_
  refine n_aload_n (j := 9) (i := 0) rfl rfl 0 rfl ?_
  refine n_iconst (j := 10) (v := (0 : Int32)) rfl (by decide) ?_
  refine n_cell (j := 11) hL rfl m_cell st_cell lk_cell (Nat.le_of_ble_eq_true rfl) rfl (by decide) (by decide) ?_
  refine n_callI (j := 12) (q := 0) (As := [.int (orr L xs)]) (rest := [.ref (gR g 0)]) (mc1 := 31) (ms1 := 19253) (k1 := 67) (w1 := oM g (orr L xs) (oA g (orr L xs))) rfl (fun hR h => kk_X12_init hR h) mf_X12_init ki_X12_init rfl lk_L_20 rfl rfl (Nat.le_of_ble_eq_true rfl) rfl rfl ⟨by decide, by decide⟩ (nlast (q := 0) (by decide) (by decide)) (by decide) (by decide) rfl (fun h => nOkn (nOk_push (q := 31) (e := .inl (0, 0, .inl (fun _ => 0))) (nOk_push (q := 30) (e := .inl (0, 0, .inl (fun _ => 0))) (nOk_push (q := 29) (e := .inl (0, 0, .inl (fun _ => 0))) (nOk_push (q := 28) (e := .inl (0, 0, .inl (fun _ => 0))) (nOk_push (q := 27) (e := .inl (0, 0, .inl (fun _ => 0))) (nOk_push (q := 26) (e := .inl (0, 0, .inl (fun _ => 0))) (nOk_push (q := 25) (e := .inl (0, 0, .inl (fun _ => 0))) (nOk_push (q := 24) (e := .inl (0, 0, .inl (fun _ => 0))) (nOk_push (q := 23) (e := .inl (0, 0, .inl (fun _ => 0))) (nOk_push (q := 22) (e := .inl (0, 0, .inl (fun _ => 0))) (nOk_push (q := 21) (e := .inl (0, 0, .inl (fun _ => 0))) (nOk_push (q := 20) (e := .inl (0, 0, .inl (fun _ => 0))) (nOk_push (q := 19) (e := .inl (0, 0, .inl (fun _ => 0))) (nOk_push (q := 18) (e := .inl (0, 0, .inl (fun _ => 0))) (nOk_push (q := 17) (e := .inl (0, 0, .inl (fun _ => 0))) (nOk_push (q := 16) (e := .inl (0, 0, .inl (fun _ => 0))) (nOk_push (q := 15) (e := .inl (0, 0, .inl (fun _ => 0))) (nOk_push (q := 14) (e := .inl (0, 0, .inl (fun _ => 0))) (nOk_push (q := 13) (e := .inl (0, 0, .inl (fun _ => 0))) (nOk_push (q := 12) (e := .inl (0, 0, .inl (fun _ => 0))) (nOk_push (q := 11) (e := .inl (0, 0, .inl (fun _ => 0))) (nOk_push (q := 10) (e := .inl (0, 0, .inl (fun _ => 0))) (nOk_push (q := 9) (e := .inl (0, 0, .inl (fun _ => 0))) (nOk_push (q := 8) (e := .inl (0, 0, .inl (fun _ => 0))) (nOk_push (q := 7) (e := .inl (0, 0, .inl (fun _ => 0))) (nOk_push (q := 6) (e := .inl (0, 0, .inl (fun _ => 0))) (nOk_push (q := 5) (e := .inl (0, 0, .inl (fun _ => 0))) (nOk_push (q := 4) (e := .inl (0, 0, .inl (fun _ => 0))) (nOk_push (q := 3) (e := .inl (0, 0, .inl (fun _ => 0))) (nOk_push (q := 2) (e := .inl (0, 0, .inl (fun _ => 0))) (nOk_push (q := 1) (e := .inl (0, 0, .inl (fun _ => 0))) h (by decide) (by decide)) (by decide) (by decide)) (by decide) (by decide)) (by decide) (by decide)) (by decide) (by decide)) (by decide) (by decide)) (by decide) (by decide)) (by decide) (by decide)) (by decide) (by decide)) (by decide) (by decide)) (by decide) (by decide)) (by decide) (by decide)) (by decide) (by decide)) (by decide) (by decide)) (by decide) (by decide)) (by decide) (by decide)) (by decide) (by decide)) (by decide) (by decide)) (by decide) (by decide)) (by decide) (by decide)) (by decide) (by decide)) (by decide) (by decide)) (by decide) (by decide)) (by decide) (by decide)) (by decide) (by decide)) (by decide) (by decide)) (by decide) (by decide)) (by decide) (by decide)) (by decide) (by decide)) (by decide) (by decide)) (by decide) (by decide)) rfl) ?_
  refine n_astore_n (j := 13) (i := 2) (lv' := [(0, .ref b), (1, .ref (gR g 32)), (2, .ref (gR g 0))]) rfl rfl (by decide) [1, 2, 0] rfl ?_
  refine n_iconst (j := 14) (v := (1 : Int32)) rfl (by decide) ?_
  refine n_istore_n (j := 15) (i := 3) (lv' := [(0, .ref b), (1, .ref (gR g 32)), (2, .ref (gR g 0)), (3, .int (1 : Int32))]) rfl rfl (by decide) [1, 2, 3, 0] rfl ?_
  intro p e s m args below meth c H locs ls C hin hP hz hS hl hB
  obtain ⟨c1, c2, c3, c4, c5, c6, c7, c8, c9⟩ := id C
  obtain ⟨rfl, hX, hbl, hC, hcc⟩ := id hin
  have hBs : B = s.heap.size := by have := hz.1; omega
  subst hBs
  exact kk p e s m below meth c H locs ls ⟨c1, hcc, c3, c4, c5, c6, c7, c8, ⟨hX, hbl⟩, hz.2.1, hC⟩ (o_world hP) hS hl
