/-! the claim's start out of what every pair of calls keeps -/
theorem o_arr {s : State} {cA : ClassId} {kA : Class} {comp : ClassId} {ty : FieldType} (h2 : s.vm.classes[cA]? = some kA) (h3 : kA.kind = .array comp ty) : ArrOfT s cA ty := fun n z => ⟨fun k h => (by cases h), kA, h2, comp, h3⟩
def oAC (a0 a1 a2 a3 a4 : ClassId) : Nat → ClassId := fun t => match t with
  | 0 => a0
  | 1 => a1
  | 2 => a2
  | 3 => a3
  | _ => a4
set_option maxRecDepth 20000 in
set_option maxHeartbeats 4000000 in
theorem whole_from {n : Nat} {RR : Nat → Mm → Prop} (HB : xHB n RR) (h0 : ∀ r, RR 0 (s0 r)) {p : Program} {e : Env} {s : State} {m : MethodId} {below : List Frame} {meth : Method} {c : Code} (l : Launch) {b L : Nat} {xs : Nat → Int32} (hL : L ≤ 385) (C0 : lw_At p s m meth c b L xs) : W p l e room_1 s m #[Value.ref b] below meth c s.heap [] 0 0 (lw_Z below #[Value.ref b] s) (entryFrame m ([Value.ref b] : List Value).toArray 4) := by
  obtain ⟨hx, hb, hr, hml, hown, hts, hX, hbl, hlocks, hgv⟩ := id C0
  have hts1 : ∀ w ∈ xtbl, w.before #[Value.ref b] s = true := fun w h => hts w (List.mem_filter.mp h).1
  have hgs := flat_of_before _ hgv
  have hA : ∀ a : Nat, a < s.heap.size → ¬ nA s.heap.size a := fun a h => Nat.not_le.mpr h
  have hcl : ∀ k : Nat, ∃ q : ClassId × (Nat → Nat), ∀ r : vw_C, xCl[k]? = some r → u_Kn s r.1 r.2.1 r.2.2 q.1 q.2 := by
    intro k
    match k with
    | 0 => obtain ⟨c0, iS, h⟩ := u_known (C := RX0) (T := TX0) (N := 5) (n := 5) hts1 (xin (ci := 0) rfl) (hts1 _ ins_X0); exact ⟨(c0, iS), fun r hr => by cases hr; exact h⟩
    | 1 => obtain ⟨c0, iS, h⟩ := u_known (C := RX1) (T := TX1) (N := 6) (n := 6) hts1 (xin (ci := 1) rfl) (hts1 _ ins_X1); exact ⟨(c0, iS), fun r hr => by cases hr; exact h⟩
    | 2 => obtain ⟨c0, iS, h⟩ := u_known (C := RX2) (T := TX2) (N := 8) (n := 8) hts1 (xin (ci := 2) rfl) (hts1 _ ins_X2); exact ⟨(c0, iS), fun r hr => by cases hr; exact h⟩
    | 3 => obtain ⟨c0, iS, h⟩ := u_known (C := RX4) (T := TX4) (N := 15) (n := 15) hts1 (xin (ci := 3) rfl) (hts1 _ ins_X4); exact ⟨(c0, iS), fun r hr => by cases hr; exact h⟩
    | 4 => obtain ⟨c0, iS, h⟩ := u_known (C := RX5) (T := TX5) (N := 8) (n := 8) hts1 (xin (ci := 4) rfl) (hts1 _ ins_X5); exact ⟨(c0, iS), fun r hr => by cases hr; exact h⟩
    | 5 => obtain ⟨c0, iS, h⟩ := u_known (C := RX6) (T := TX6) (N := 4) (n := 4) hts1 (xin (ci := 5) rfl) (hts1 _ ins_X6); exact ⟨(c0, iS), fun r hr => by cases hr; exact h⟩
    | 6 => obtain ⟨c0, iS, h⟩ := u_known (C := RX7) (T := TX7) (N := 10) (n := 10) hts1 (xin (ci := 6) rfl) (hts1 _ ins_X7); exact ⟨(c0, iS), fun r hr => by cases hr; exact h⟩
    | 7 => obtain ⟨c0, iS, h⟩ := u_known (C := RX8) (T := TX8) (N := 14) (n := 14) hts1 (xin (ci := 7) rfl) (hts1 _ ins_X8); exact ⟨(c0, iS), fun r hr => by cases hr; exact h⟩
    | 8 => obtain ⟨c0, iS, h⟩ := u_known (C := RX9) (T := TX9) (N := 2) (n := 2) hts1 (xin (ci := 8) rfl) (hts1 _ ins_X9); exact ⟨(c0, iS), fun r hr => by cases hr; exact h⟩
    | 9 => obtain ⟨c0, iS, h⟩ := u_known (C := RX10) (T := TX10) (N := 9) (n := 9) hts1 (xin (ci := 9) rfl) (hts1 _ ins_X10); exact ⟨(c0, iS), fun r hr => by cases hr; exact h⟩
    | 10 => obtain ⟨c0, iS, h⟩ := u_known (C := RX11) (T := TX11) (N := 8) (n := 8) hts1 (xin (ci := 10) rfl) (hts1 _ ins_X11); exact ⟨(c0, iS), fun r hr => by cases hr; exact h⟩
    | 11 => obtain ⟨c0, iS, h⟩ := u_known (C := RX12) (T := TX12) (N := 72) (n := 72) hts1 (xin (ci := 11) rfl) (hts1 _ ins_X12); exact ⟨(c0, iS), fun r hr => by cases hr; exact h⟩
    | k + 12 => exact ⟨(0, fun _ => 0), fun r hr => by simp [xCl] at hr⟩
  obtain ⟨dd, hdd⟩ := Classical.axiomOfChoice hcl
  obtain ⟨a0, k0, d0, p0, q0, r0⟩ := Cond.arrayClass_spec (hts1 _ ac_int)
  obtain ⟨a1, k1, d1, p1, q1, r1⟩ := Cond.arrayClass_spec (hts1 _ ac_byte)
  obtain ⟨a2, k2, d2, p2, q2, r2⟩ := Cond.arrayClass_spec (hts1 _ ac_boolean)
  obtain ⟨a3, k3, d3, p3, q3, r3⟩ := Cond.arrayClass_spec (hts1 _ ac_long)
  obtain ⟨d4, a4, k4, p4, -, q4, r4, t4⟩ := Cond.arrayOver_spec (hts _ ao_v)
  have hst : ∀ i : Nat, ∃ q : Nat × Nat, i < 31 → (xtm i).eval #[Value.ref b] s none [] s = some (.ref q.1) ∧ va_O "java/lang/String" q.1 (nA s.heap.size) s s.heap ∧ va_OF "java/lang/String" "coder" "B" (.int 0) q.1 (nA s.heap.size) s s.heap ∧ va_OF "java/lang/String" "value" "[B" (.ref q.2) q.1 (nA s.heap.size) s s.heap ∧ va_T .byte q.2 (xtx.getD i []).length (fun j => .int ((xtx.getD i []).getD j 0)) (nA s.heap.size) s s.heap := by
    intro i
    by_cases hi : i < 31
    · obtain ⟨a, c, cA, kA, z1, -⟩ := Cond.exactly_spec (args := #[Value.ref b]) (first := s) (o := none) (s := s) (idx := []) (t := xtm i) (cls := "java/lang/String") (hgs _ (gs_ex i hi))
      obtain ⟨t, ht, hT⟩ := va_Tof (f := fun j => .int ((xtx.getD i []).getD j 0)) (A := nA s.heap.size) ((by decide +kernel : ∀ i, i < 31 → (xtx.getD i []).length < 2 ^ 31) i hi) (hgs _ (gs_ar i hi)) (va_eqt (hgs _ (gs_le i hi))) (fun j hj => va_eqt (hgs _ (gs_el i hi j hj))) hA
      exact ⟨(a, t), fun _ => ⟨z1, va_Oof (hgs _ (gs_ex i hi)) z1 hA, vk_OFof z1 (va_eqt (hgs _ (gs_co i hi))) hA, vk_OFof z1 ht hA, hT⟩⟩
    · exact ⟨(0, 0), fun h => absurd h hi⟩
  obtain ⟨ad, had⟩ := Classical.axiomOfChoice hst
  obtain ⟨t1, ht1, hT1⟩ := va_Tof (f := fun j => .int (xf1 j)) (A := nA s.heap.size) (N := 7) (by decide) (hgs _ gt_1a) (va_eqt (hgs _ gt_1l)) (fun j hj => va_eqt (hgs _ (gt_1e j hj))) hA
  obtain ⟨t2, ht2, hT2⟩ := va_Tof (f := fun j => .int (xf2 j)) (A := nA s.heap.size) (N := 7) (by decide) (hgs _ gt_2a) (va_eqt (hgs _ gt_2l)) (fun j hj => va_eqt (hgs _ (gt_2e j hj))) hA
  obtain ⟨g, hgD, hgA, hgR, hgL, hgK, hgV⟩ : ∃ g : Gb, gD g = (fun k => (dd k).1, fun k => (dd k).2) ∧ gA g = oAC a0 a1 a2 a3 a4 ∧ gR g = (fun q => s.heap.size + xoff q) ∧ gL g = l ∧ gK g = (fun i => if i < 31 then (ad i).1 else if i = 31 then t1 else t2) ∧ gV g = (fun i => (ad i).2) :=
    ⟨((fun k => (dd k).1, fun k => (dd k).2), oAC a0 a1 a2 a3 a4, (fun q => s.heap.size + xoff q), l, (fun i => if i < 31 then (ad i).1 else if i = 31 then t1 else t2), fun i => (ad i).2), rfl, rfl, rfl, rfl, rfl, rfl⟩
  have hR : nR g s.heap.size := fun q _ => by rw [hgR]
  have hsub : ∀ q, xA g q → nA s.heap.size q := fun q h => xA_nA hR h
  have hK : va_K (gD g) xCl (xt g) s := by
    rw [hgD]
    refine ⟨fun k r hr => hdd k r hr, fun k r hr => ?_⟩
    have hlt : k < 5 := (List.getElem?_eq_some_iff.mp hr).1
    match k, hlt, hr with
    | 0, _, hr => cases hr; rw [hgA]; exact ⟨o_arr q0 r0, p0⟩
    | 1, _, hr => cases hr; rw [hgA]; exact ⟨o_arr q1 r1, p1⟩
    | 2, _, hr => cases hr; rw [hgA]; exact ⟨o_arr q2 r2, p2⟩
    | 3, _, hr => cases hr; rw [hgA]; exact ⟨o_arr q3 r3, p3⟩
    | 4, _, hr => cases hr; rw [hgA]; exact ⟨o_arr q4 r4, k4, d4, q4, r4, p4, t4⟩
  have hC : xCon g s := by
    refine ⟨fun i hi => ?_, fun i r hr => ?_, ⟨?_, ?_⟩, ⟨?_, ?_⟩, ⟨?_, ?_⟩, fun r hr => ?_⟩
    · have hi' : i < 31 := hi
      have hk : gK g i = (ad i).1 := by rw [hgK]; exact if_pos hi'
      have hv : gV g i = (ad i).2 := by rw [hgV]
      rw [hk, hv]
      exact ⟨(had i hi').2.1.narrow hsub, (had i hi').2.2.1.narrow hsub, (had i hi').2.2.2.1.narrow hsub, (had i hi').2.2.2.2.narrow hsub⟩
    · have hi' : i < 31 := (List.getElem?_eq_some_iff.mp hr).1
      have hk : gK g i = (ad i).1 := by rw [hgK]; exact if_pos hi'
      rw [hk]
      match i, hi', hr with
      | 0, _, hr => cases hr; exact vk_R.of (hts _ sr_0) (had 0 (by decide)).1
      | 1, _, hr => cases hr; exact vk_R.of (hts _ sr_1) (had 1 (by decide)).1
      | 2, _, hr => cases hr; exact vk_R.of (hts _ sr_2) (had 2 (by decide)).1
      | 3, _, hr => cases hr; exact vk_R.of (hts _ sr_3) (had 3 (by decide)).1
      | 4, _, hr => cases hr; exact vk_R.of (hts _ sr_4) (had 4 (by decide)).1
      | 5, _, hr => cases hr; exact vk_R.of (hts _ sr_5) (had 5 (by decide)).1
      | 6, _, hr => cases hr; exact vk_R.of (hts _ sr_6) (had 6 (by decide)).1
      | 7, _, hr => cases hr; exact vk_R.of (hts _ sr_7) (had 7 (by decide)).1
      | 8, _, hr => cases hr; exact vk_R.of (hts _ sr_8) (had 8 (by decide)).1
      | 9, _, hr => cases hr; exact vk_R.of (hts _ sr_9) (had 9 (by decide)).1
      | 10, _, hr => cases hr; exact vk_R.of (hts _ sr_10) (had 10 (by decide)).1
      | 11, _, hr => cases hr; exact vk_R.of (hts _ sr_11) (had 11 (by decide)).1
      | 12, _, hr => cases hr; exact vk_R.of (hts _ sr_12) (had 12 (by decide)).1
      | 13, _, hr => cases hr; exact vk_R.of (hts _ sr_13) (had 13 (by decide)).1
      | 14, _, hr => cases hr; exact vk_R.of (hts _ sr_14) (had 14 (by decide)).1
      | 15, _, hr => cases hr; exact vk_R.of (hts _ sr_15) (had 15 (by decide)).1
      | 16, _, hr => cases hr; exact vk_R.of (hts _ sr_16) (had 16 (by decide)).1
      | 17, _, hr => cases hr; exact vk_R.of (hts _ sr_17) (had 17 (by decide)).1
      | 18, _, hr => cases hr; exact vk_R.of (hts _ sr_18) (had 18 (by decide)).1
      | 19, _, hr => cases hr; exact vk_R.of (hts _ sr_19) (had 19 (by decide)).1
      | 20, _, hr => cases hr; exact vk_R.of (hts _ sr_20) (had 20 (by decide)).1
      | 21, _, hr => cases hr; exact vk_R.of (hts _ sr_21) (had 21 (by decide)).1
      | 22, _, hr => cases hr; exact vk_R.of (hts _ sr_22) (had 22 (by decide)).1
      | 23, _, hr => cases hr; exact vk_R.of (hts _ sr_23) (had 23 (by decide)).1
      | 24, _, hr => cases hr; exact vk_R.of (hts _ sr_24) (had 24 (by decide)).1
      | 25, _, hr => cases hr; exact vk_R.of (hts _ sr_25) (had 25 (by decide)).1
      | 26, _, hr => cases hr; exact vk_R.of (hts _ sr_26) (had 26 (by decide)).1
      | 27, _, hr => cases hr; exact vk_R.of (hts _ sr_27) (had 27 (by decide)).1
      | 28, _, hr => cases hr; exact vk_R.of (hts _ sr_28) (had 28 (by decide)).1
      | 29, _, hr => cases hr; exact vk_R.of (hts _ sr_29) (had 29 (by decide)).1
      | 30, _, hr => cases hr; exact vk_R.of (hts _ sr_30) (had 30 (by decide)).1
    · exact (va_Zof (hts _ ls_c) (hts _ jn_s) (va_eqt (hgs _ gs_cs)) hA).narrow hsub
    · rcases va_Zqof (hts _ ls_q) (hts _ jn_q) (hgs _ gu_q) hA with h | ⟨t, h⟩
      · exact Or.inl (h.narrow hsub)
      · exact Or.inr ⟨t, h.narrow hsub⟩
    · have hk : gK g 31 = t1 := by rw [hgK]; rfl
      rw [hk]; exact (va_Zof (hts _ ls_1) (hts _ jn_a) ht1 hA).narrow hsub
    · have hk : gK g 31 = t1 := by rw [hgK]; rfl
      rw [hk]; exact hT1.narrow hsub
    · have hk : gK g 32 = t2 := by rw [hgK]; rfl
      rw [hk]; exact (va_Zof (hts _ ls_2) (hts _ jn_a) ht2 hA).narrow hsub
    · have hk : gK g 32 = t2 := by rw [hgK]; rfl
      rw [hk]; exact hT2.narrow hsub
    · have hm : r ∈ xnl := hr
      simp only [xnl, List.mem_cons, List.not_mem_nil, or_false] at hm
      rcases hm with rfl | rfl | rfl | rfl <;> first | exact va_Nw.of rfl (hts _ nl_0) | exact va_Nw.of rfl (hts _ nl_1) | exact va_Nw.of rfl (hts _ nl_2) | exact va_Nw.of rfl (hts _ nl_3)
  have hXx : nX s.heap.size s := ⟨va_AO.of (hts _ ao_v), va_Nw.of rfl (hts _ mn_r), va_Zqof (hts _ ls_u) (hts _ jn_t) (hgs _ gu_u) hA, va_Zqof (hts _ ls_s) (hts _ jn_t) (hgs _ gu_s) hA⟩
  have hl := lv_entry ([.ref b] : List Value) (n := 4) (Nat.le_of_ble_eq_true rfl)
  rw [lg_entry_eq]
  have hz := law_loop (g := g) (xInj_of hR) (b := b) (L := L) (xs := xs) HB hL 65 0 1 (s0 (orr L xs)) (by omega) (by omega) (by omega) (h0 _)
  have w := law_start (g := g) (B := s.heap.size) hL hz p e s m #[Value.ref b] below meth c s.heap [] _ ⟨hx, fun x h => by rw [hb]; exact il_law_ok x h, hml, hr, hown, hlocks, hts1, hK, hXx⟩ ⟨rfl, hX, hbl, hC, hb⟩ (fun k q hq => by simp [nw] at hq) ⟨by omega, hR, ⟨fun x h => (by cases h), List.nodup_nil⟩⟩ va_S.rf hl (Nat.le_refl _)
  rw [hgL] at w
  exact w
