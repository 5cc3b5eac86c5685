/-! the law's loop, out of what every pair of calls keeps (by program) -/
def xHB (n : Nat) (RR : Nat → Mm → Prop) : Prop :=
  (∀ (t : Nat) (σ : Mm) (a : Int32) (b : Int32) (c : Int32) (d : Int32) (e : Int32), t < 64 → RR t σ → w_X10_feed n a b c d e σ (fun r1 σ1 => w_X12_feed n a b c d e σ1 (fun r2 σ2 => r1 = r2 ∧ RR (t + 1) σ2) noT)) ∧
  (∀ (t : Nat) (σ : Mm) (a : Int32), t < 64 → RR t σ → w_X10_end n a σ (fun r1 σ1 => w_X12_end n a σ1 (fun r2 σ2 => r1 = r2 ∧ RR (t + 1) σ2) noT)) ∧
  (∀ (t : Nat) (σ : Mm), t < 64 → RR t σ → w_X10_read n σ (fun r1 σ1 => w_X12_read n σ1 (fun r2 σ2 => r1 = r2 ∧ RR (t + 1) σ2))) ∧
  (∀ (t : Nat) (σ : Mm), t < 64 → RR t σ → w_X10_place n σ (fun r1 σ1 => w_X12_place n σ1 (fun r2 σ2 => r1 = r2 ∧ RR (t + 1) σ2) noT)) ∧
  (∀ (t : Nat) (σ : Mm) (a : Int32), t < 64 → RR t σ → w_X10_head n a σ (fun r1 σ1 => w_X12_head n a σ1 (fun r2 σ2 => r1 = r2 ∧ RR (t + 1) σ2) noT)) ∧
  (∀ (t : Nat) (σ : Mm) (a : Int32) (b : Int32), t < 64 → RR t σ → w_X10_title n a b σ (fun r1 σ1 => w_X12_title n a b σ1 (fun r2 σ2 => r1 = r2 ∧ RR (t + 1) σ2) noT)) ∧
  (∀ (t : Nat) (σ : Mm) (a : Int32) (b : Int32), t < 64 → RR t σ → w_X10_thing n a b σ (fun r1 σ1 => w_X12_thing n a b σ1 (fun r2 σ2 => r1 = r2 ∧ RR (t + 1) σ2) noT)) ∧
  (∀ (t : Nat) (σ : Mm) (a : Int32), t < 64 → RR t σ → w_X10_time n a σ (fun r1 σ1 => w_X12_time n a σ1 (fun r2 σ2 => r1 = r2 ∧ RR (t + 1) σ2) noT)) ∧
  (∀ (t : Nat) (σ : Mm) (a : Int32), t < 64 → RR t σ → w_X10_start n a σ (fun r1 σ1 => w_X12_start n a σ1 (fun r2 σ2 => r1 = r2 ∧ RR (t + 1) σ2) noT)) ∧
  (∀ (t : Nat) (σ : Mm) (a : Int32), t < 64 → RR t σ → w_X10_measures n a σ (fun r1 σ1 => w_X12_measures n a σ1 (fun r2 σ2 => r1 = r2 ∧ RR (t + 1) σ2) noT)) ∧
  (∀ (t : Nat) (σ : Mm) (a : Int32) (b : Int32), t < 64 → RR t σ → w_X10_full n a b σ (fun r1 σ1 => w_X12_full n a b σ1 (fun r2 σ2 => r1 = r2 ∧ RR (t + 1) σ2) noT)) ∧
  (∀ (t : Nat) (σ : Mm) (a : Int32) (b : Int32), t < 64 → RR t σ → w_X10_length n a b σ (fun r1 σ1 => w_X12_length n a b σ1 (fun r2 σ2 => r1 = r2 ∧ RR (t + 1) σ2) noT)) ∧
  (∀ (t : Nat) (σ : Mm) (a : Int32), t < 64 → RR t σ → w_X10_played n a σ (fun r1 σ1 => w_X12_played n a σ1 (fun r2 σ2 => r1 = r2 ∧ RR (t + 1) σ2) noT)) ∧
  (∀ (t : Nat) (σ : Mm) (a : Int32) (b : Int32), t < 64 → RR t σ → w_X10_written n a b σ (fun r1 σ1 => w_X12_written n a b σ1 (fun r2 σ2 => r1 = r2 ∧ RR (t + 1) σ2) noT)) ∧
  (∀ (t : Nat) (σ : Mm), RR t σ → RR (t + 1) σ)
theorem lg_same (x : Int64) : lg_cmp x x = 0 := by unfold lg_cmp; simp
section ZL
variable {g : Gb} {b L pc k : Nat} {xs : Nat → Int32} {lv lv' : List (Nat × Value)} {st : List Value} {σ : Mm}
theorem zsig {y : MethodName} {cc : ByteArray} {nL n : Nat} {ret : Option FieldType} (hy : xM y cc nL ret n) : ∀ (s : State), (∀ w ∈ xtbl, w.before #[Value.ref b] s = true) → ∀ mk methM, s.methodNamed? y = some mk → s.vm.method? mk = some methM → parseMethodDescriptor y.desc = some methM.sig := by
  intro s hts mk methM h1 h2
  obtain ⟨methM', cM, a1, -, -, -, -, -, -, a2⟩ := Cond.code_spec h1 (hts _ hy.1)
  cases h2.symm.trans a1
  exact a2
theorem z_calli {y : MethodName} {cc : ByteArray} {nL n idx q ci : Nat} {ret : Option FieldType} {rm : Room} {As rest st0 : List Value} {Q1 : Int32 → Mm → Prop} (hd : il_law[k]? = some (pc, .invokevirtual idx, 3)) (hM : xMet (gL g) y (xws y cc nL ret) rm (xPc g (.ref (gR g q) :: As) σ) (xQ g (pI g Q1 noT)) (xA g)) (hy : xM y cc nL ret n) (hi : xI y) (hl : Cond.methodLink RL idx y ∈ xtbl)
    (hq : xlay q = (0, ci, 0)) (hc : ∃ r, xCl[ci]? = some r ∧ r.1 = y.cls) (hn : As.length = n) (hst : st0 = As.reverse ++ .ref (gR g q) :: rest) (hsum : (rest.map fun v => v.category).sum ≤ 8) (hrm : rm.frames + 1 ≤ room_1.frames ∧ 8 + (nL + 11) + rm.locals ≤ room_1.locals ∧ rm.cells = 0 ∧ rm.slots = 0)
    (kR : ∀ r σ1, Q1 r σ1 → zE g b L xs (pc + 3) lv (.int r :: rest) σ1) : zE g b L xs pc lv st0 σ :=
  z_call hd (fun p e s below hts => xbk hts hM hy hrm) (zsig hy) hy.2.2.1 hy.2.2.2.1 hi hl hq hc hn hst hsum (fun v σ1 hp => by
    rcases hp with ⟨r, hr, hq⟩ | ⟨hr, -⟩
    · cases hr; exact kR r σ1 hq
    · cases hr) (fun x σ1 hp => by
    rcases hp with ⟨r, hr, -⟩ | ⟨-, hq⟩
    · cases hr
    · exact hq)
theorem z_calll {y : MethodName} {cc : ByteArray} {nL n idx q ci : Nat} {ret : Option FieldType} {rm : Room} {As rest st0 : List Value} {Q1 : Int64 → Mm → Prop} (hd : il_law[k]? = some (pc, .invokevirtual idx, 3)) (hM : xMet (gL g) y (xws y cc nL ret) rm (xPc g (.ref (gR g q) :: As) σ) (xQ g (pL g Q1 noT)) (xA g)) (hy : xM y cc nL ret n) (hi : xI y) (hl : Cond.methodLink RL idx y ∈ xtbl)
    (hq : xlay q = (0, ci, 0)) (hc : ∃ r, xCl[ci]? = some r ∧ r.1 = y.cls) (hn : As.length = n) (hst : st0 = As.reverse ++ .ref (gR g q) :: rest) (hsum : (rest.map fun v => v.category).sum ≤ 8) (hrm : rm.frames + 1 ≤ room_1.frames ∧ 8 + (nL + 11) + rm.locals ≤ room_1.locals ∧ rm.cells = 0 ∧ rm.slots = 0)
    (kR : ∀ r σ1, Q1 r σ1 → zE g b L xs (pc + 3) lv (.long r :: rest) σ1) : zE g b L xs pc lv st0 σ :=
  z_call hd (fun p e s below hts => xbk hts hM hy hrm) (zsig hy) hy.2.2.1 hy.2.2.2.1 hi hl hq hc hn hst hsum (fun v σ1 hp => by
    rcases hp with ⟨r, hr, hq⟩ | ⟨hr, -⟩
    · cases hr; exact kR r σ1 hq
    · cases hr) (fun x σ1 hp => by
    rcases hp with ⟨r, hr, -⟩ | ⟨-, hq⟩
    · cases hr
    · exact hq)
theorem z_callR {idx q ci n : Nat} {y : MethodName} {cc : ByteArray} {nL : Nat} {ret : Option FieldType} {hs : List (Nat × Nat × Nat × Nat)} {rm : Room} {rest st0 : List Value} {Q1 : Int32 → Mm → Prop} (hd : il_law[k]? = some (pc, .invokevirtual idx, 3)) (hM : xMet (gL g) y (xwsW y cc nL ret hs) rm (xPc g [.ref (gR g q)] σ) (xQ g (pI g Q1 noT)) (xA g)) (hw0 : Cond.codeWith y cc nL ret hs ∈ xtbl) (hin : Cond.initialized y.cls ∈ xtbl) (hne : y.cls ≠ "java/lang/invoke/MethodHandle" ∧ y.cls ≠ "java/lang/invoke/VarHandle") (hpl : (parseMethodDescriptor y.desc).map (fun d => d.parameters.length) = some n) (hi : xI y) (hl : Cond.methodLink RL idx y ∈ xtbl)
    (hq : xlay q = (0, ci, 0)) (hc : ∃ r, xCl[ci]? = some r ∧ r.1 = y.cls) (hn : ([] : List Value).length = n) (hst : st0 = .ref (gR g q) :: rest) (hsum : (rest.map fun v => v.category).sum ≤ 8) (hrm : rm.frames + 1 ≤ room_1.frames ∧ 8 + (nL + 11) + rm.locals ≤ room_1.locals ∧ rm.cells = 0 ∧ rm.slots = 0)
    (kR : ∀ r σ1, Q1 r σ1 → zE g b L xs (pc + 3) lv (.int r :: rest) σ1) : zE g b L xs pc lv st0 σ :=
  z_call (As := []) hd (fun p e s below hts => xbkW hts hw0 hin hM hrm) (fun s hts mk methM h1 h2 => by
    obtain ⟨mY, methY, cY, b1, b2, b3, b4, b5, b6, b7, b8, b9⟩ := Cond.codeWith_spec (hts _ hw0)
    cases h1.symm.trans b1
    cases h2.symm.trans b2
    exact b9) hne hpl hi hl hq hc hn hst hsum (fun v σ1 hp => by
    rcases hp with ⟨r, hr, hq⟩ | ⟨hr, -⟩
    · cases hr; exact kR r σ1 hq
    · cases hr) (fun x σ1 hp => by
    rcases hp with ⟨r, hr, -⟩ | ⟨-, hq⟩
    · cases hr
    · exact hq)
end ZL
theorem cw_read : Cond.codeWith yX12_read cX12_read 2 (some .int) [(62, 79, 80, 13)] ∈ xtbl := xm6 135 rfl rfl
theorem i_X12_read : xI yX12_read := ⟨xm6 133 rfl rfl, xm6 134 rfl rfl⟩
theorem in_read : Cond.initialized yX12_read.cls ∈ xtbl := xm1 12 rfl rfl
theorem l_L_21 : Cond.methodLink RL 21 yX10_feed ∈ xtbl := xm2 167 rfl rfl
theorem l_L_25 : Cond.methodLink RL 25 yX12_feed ∈ xtbl := xm6 120 rfl rfl
theorem l_L_26 : Cond.methodLink RL 26 yX10_end ∈ xtbl := xm2 175 rfl rfl
theorem l_L_30 : Cond.methodLink RL 30 yX12_end ∈ xtbl := xm6 124 rfl rfl
theorem l_L_31 : Cond.methodLink RL 31 yX10_read ∈ xtbl := xm2 179 rfl rfl
theorem l_L_35 : Cond.methodLink RL 35 yX12_read ∈ xtbl := xm6 132 rfl rfl
theorem l_L_36 : Cond.methodLink RL 36 yX10_place ∈ xtbl := xm4 186 rfl rfl
theorem l_L_39 : Cond.methodLink RL 39 yX12_place ∈ xtbl := xm7 159 rfl rfl
theorem l_L_40 : Cond.methodLink RL 40 yX10_head ∈ xtbl := xm4 190 rfl rfl
theorem l_L_43 : Cond.methodLink RL 43 yX12_head ∈ xtbl := xm7 163 rfl rfl
theorem l_L_44 : Cond.methodLink RL 44 yX10_title ∈ xtbl := xm4 198 rfl rfl
theorem l_L_48 : Cond.methodLink RL 48 yX12_title ∈ xtbl := xm7 167 rfl rfl
theorem l_L_49 : Cond.methodLink RL 49 yX10_thing ∈ xtbl := xm4 203 rfl rfl
theorem l_L_52 : Cond.methodLink RL 52 yX12_thing ∈ xtbl := xm7 171 rfl rfl
theorem l_L_53 : Cond.methodLink RL 53 yX10_time ∈ xtbl := xm4 212 rfl rfl
theorem l_L_57 : Cond.methodLink RL 57 yX12_time ∈ xtbl := xm7 180 rfl rfl
theorem l_L_58 : Cond.methodLink RL 58 yX10_start ∈ xtbl := xm4 218 rfl rfl
theorem l_L_61 : Cond.methodLink RL 61 yX12_start ∈ xtbl := xm7 184 rfl rfl
theorem l_L_62 : Cond.methodLink RL 62 yX10_measures ∈ xtbl := xm4 226 rfl rfl
theorem l_L_65 : Cond.methodLink RL 65 yX12_measures ∈ xtbl := xm7 188 rfl rfl
theorem l_L_66 : Cond.methodLink RL 66 yX10_full ∈ xtbl := xm4 235 rfl rfl
theorem l_L_69 : Cond.methodLink RL 69 yX12_full ∈ xtbl := xm7 193 rfl rfl
theorem l_L_70 : Cond.methodLink RL 70 yX10_length ∈ xtbl := xm5 7 rfl rfl
theorem l_L_74 : Cond.methodLink RL 74 yX12_length ∈ xtbl := xm7 201 rfl rfl
theorem l_L_75 : Cond.methodLink RL 75 yX10_played ∈ xtbl := xm5 15 rfl rfl
theorem l_L_78 : Cond.methodLink RL 78 yX12_played ∈ xtbl := xm7 205 rfl rfl
theorem l_L_79 : Cond.methodLink RL 79 yX10_written ∈ xtbl := xm5 19 rfl rfl
theorem l_L_82 : Cond.methodLink RL 82 yX12_written ∈ xtbl := xm7 209 rfl rfl
set_option maxRecDepth 20000 in
set_option maxHeartbeats 4000000 in
theorem law_turn {g : Gb} (hg : xInj g) {b L : Nat} {xs : Nat → Int32} {n : Nat} {RR : Nat → Mm → Prop} (HB : xHB n RR) (hL : L ≤ 385) {t i : Nat} {σ : Mm} (hi : i = 6 * t + 1) (hiL : i + 6 ≤ L) (ht : t < 64) (hR : RR t σ) (hend : ∀ σ', RR (t + 1) σ' → zE g b L xs 507 [(0, .ref b), (1, .ref (gR g 32)), (2, .ref (gR g 0)), (3, .int (nI i))] [] σ') : zE g b L xs 37 [(0, .ref b), (1, .ref (gR g 32)), (2, .ref (gR g 0)), (3, .int (nI i))] [] σ := by
  have hv : ∀ (k : Nat) (kk : Int32), kk = nI k → k < 6 → vp_in (nI i + kk) L := fun k kk hk hlt => by
    rw [hk, nI_add]; exact vp_in_nI (by omega) (by omega)
  have v0 : vp_in (nI i) L := vp_in_nI (by omega) (by omega)
  have v1 := hv 1 (1 : Int32) rfl (by omega)
  have v2 := hv 2 (2 : Int32) rfl (by omega)
  have v3 := hv 3 (3 : Int32) rfl (by omega)
  have v4 := hv 4 (4 : Int32) rfl (by omega)
  have v5 := hv 5 (5 : Int32) rfl (by omega)
  refine z_aload_n (k := 22) (i := 0) rfl rfl 0 rfl ?_
  refine z_iload_n (k := 23) (i := 3) rfl rfl 3 rfl ?_
  refine z_sld (k := 24) rfl v0 ?_
  refine z_bipush (k := 25) (v := (15 : Int32)) rfl (by decide) ?_
  refine z_iand (k := 26) rfl ?_
  refine z_case (a := (xs (nI i).toNatClampNeg &&& (15 : Int32)) = (0 : Int32)) (fun z0 => ?_) (fun z0 => ?_)
  · refine z_tableIn (k := 27) (tgt := 112) (off := 69) rfl z0 (by decide) (by decide) (by decide) (by decide) ?_
    refine z_aload_n (k := 28) (i := 1) rfl rfl 1 rfl ?_
    refine z_aload_n (k := 29) (i := 0) rfl rfl 0 rfl ?_
    refine z_iload_n (k := 30) (i := 3) rfl rfl 3 rfl ?_
    refine z_iconst (k := 31) (v := (1 : Int32)) rfl (by decide) ?_
    refine z_iadd (k := 32) rfl ?_
    refine z_sld (k := 33) rfl v1 ?_
    refine z_aload_n (k := 34) (i := 0) rfl rfl 0 rfl ?_
    refine z_iload_n (k := 35) (i := 3) rfl rfl 3 rfl ?_
    refine z_iconst (k := 36) (v := (2 : Int32)) rfl (by decide) ?_
    refine z_iadd (k := 37) rfl ?_
    refine z_sld (k := 38) rfl v2 ?_
    refine z_aload_n (k := 39) (i := 0) rfl rfl 0 rfl ?_
    refine z_iload_n (k := 40) (i := 3) rfl rfl 3 rfl ?_
    refine z_iconst (k := 41) (v := (3 : Int32)) rfl (by decide) ?_
    refine z_iadd (k := 42) rfl ?_
    refine z_sld (k := 43) rfl v3 ?_
    refine z_aload_n (k := 44) (i := 0) rfl rfl 0 rfl ?_
    refine z_iload_n (k := 45) (i := 3) rfl rfl 3 rfl ?_
    refine z_iconst (k := 46) (v := (4 : Int32)) rfl (by decide) ?_
    refine z_iadd (k := 47) rfl ?_
    refine z_sld (k := 48) rfl v4 ?_
    refine z_aload_n (k := 49) (i := 0) rfl rfl 0 rfl ?_
    refine z_iload_n (k := 50) (i := 3) rfl rfl 3 rfl ?_
    refine z_iconst (k := 51) (v := (5 : Int32)) rfl (by decide) ?_
    refine z_iadd (k := 52) rfl ?_
    refine z_sld (k := 53) rfl v5 ?_
    have h := HB.1 t σ (xs (ix (nI i + (1 : Int32)))) (xs (ix (nI i + (2 : Int32)))) (xs (ix (nI i + (3 : Int32)))) (xs (ix (nI i + (4 : Int32)))) (xs (ix (nI i + (5 : Int32)))) ht hR
    refine z_calli (k := 54) (q := 32) (As := [.int (xs (ix (nI i + (1 : Int32)))), .int (xs (ix (nI i + (2 : Int32)))), .int (xs (ix (nI i + (3 : Int32)))), .int (xs (ix (nI i + (4 : Int32)))), .int (xs (ix (nI i + (5 : Int32))))]) (rest := []) rfl (c_X10_feed (g := g) hg (n := n) h) m_X10_feed i_X10_feed l_L_21 rfl ⟨_, rfl, rfl⟩ rfl rfl (Nat.le_of_ble_eq_true rfl) ⟨by decide, by decide, rfl, rfl⟩ (fun r1 σ1 h => ?_)
    refine z_aload_n (k := 55) (i := 2) rfl rfl 2 rfl ?_
    refine z_aload_n (k := 56) (i := 0) rfl rfl 0 rfl ?_
    refine z_iload_n (k := 57) (i := 3) rfl rfl 3 rfl ?_
    refine z_iconst (k := 58) (v := (1 : Int32)) rfl (by decide) ?_
    refine z_iadd (k := 59) rfl ?_
    refine z_sld (k := 60) rfl v1 ?_
    refine z_aload_n (k := 61) (i := 0) rfl rfl 0 rfl ?_
    refine z_iload_n (k := 62) (i := 3) rfl rfl 3 rfl ?_
    refine z_iconst (k := 63) (v := (2 : Int32)) rfl (by decide) ?_
    refine z_iadd (k := 64) rfl ?_
    refine z_sld (k := 65) rfl v2 ?_
    refine z_aload_n (k := 66) (i := 0) rfl rfl 0 rfl ?_
    refine z_iload_n (k := 67) (i := 3) rfl rfl 3 rfl ?_
    refine z_iconst (k := 68) (v := (3 : Int32)) rfl (by decide) ?_
    refine z_iadd (k := 69) rfl ?_
    refine z_sld (k := 70) rfl v3 ?_
    refine z_aload_n (k := 71) (i := 0) rfl rfl 0 rfl ?_
    refine z_iload_n (k := 72) (i := 3) rfl rfl 3 rfl ?_
    refine z_iconst (k := 73) (v := (4 : Int32)) rfl (by decide) ?_
    refine z_iadd (k := 74) rfl ?_
    refine z_sld (k := 75) rfl v4 ?_
    refine z_aload_n (k := 76) (i := 0) rfl rfl 0 rfl ?_
    refine z_iload_n (k := 77) (i := 3) rfl rfl 3 rfl ?_
    refine z_iconst (k := 78) (v := (5 : Int32)) rfl (by decide) ?_
    refine z_iadd (k := 79) rfl ?_
    refine z_sld (k := 80) rfl v5 ?_
    refine z_calli (k := 81) (q := 0) (As := [.int (xs (ix (nI i + (1 : Int32)))), .int (xs (ix (nI i + (2 : Int32)))), .int (xs (ix (nI i + (3 : Int32)))), .int (xs (ix (nI i + (4 : Int32)))), .int (xs (ix (nI i + (5 : Int32))))]) (rest := [.int r1]) rfl (c_X12_feed (g := g) hg (n := n) h) m_X12_feed i_X12_feed l_L_25 rfl ⟨_, rfl, rfl⟩ rfl rfl (Nat.le_of_ble_eq_true rfl) ⟨by decide, by decide, rfl, rfl⟩ (fun r2 σ2 h => ?_)
    obtain ⟨he, hR2⟩ := h
    refine z_icmp_eq (k := 82) (tgt := 507) rfl (by decide) (fun _ => ?_) (fun z => absurd he z)
    exact hend σ2 hR2
  · refine z_case (a := (xs (nI i).toNatClampNeg &&& (15 : Int32)) = (1 : Int32)) (fun z1 => ?_) (fun z1 => ?_)
    · refine z_tableIn (k := 27) (tgt := 175) (off := 132) rfl z1 (by decide) (by decide) (by decide) (by decide) ?_
      refine z_aload_n (k := 85) (i := 1) rfl rfl 1 rfl ?_
      refine z_aload_n (k := 86) (i := 0) rfl rfl 0 rfl ?_
      refine z_iload_n (k := 87) (i := 3) rfl rfl 3 rfl ?_
      refine z_iconst (k := 88) (v := (1 : Int32)) rfl (by decide) ?_
      refine z_iadd (k := 89) rfl ?_
      refine z_sld (k := 90) rfl v1 ?_
      have h := HB.2.1 t σ (xs (ix (nI i + (1 : Int32)))) ht hR
      refine z_calli (k := 91) (q := 32) (As := [.int (xs (ix (nI i + (1 : Int32))))]) (rest := []) rfl (c_X10_end (g := g) hg (n := n) h) m_X10_end i_X10_end l_L_26 rfl ⟨_, rfl, rfl⟩ rfl rfl (Nat.le_of_ble_eq_true rfl) ⟨by decide, by decide, rfl, rfl⟩ (fun r1 σ1 h => ?_)
      refine z_aload_n (k := 92) (i := 2) rfl rfl 2 rfl ?_
      refine z_aload_n (k := 93) (i := 0) rfl rfl 0 rfl ?_
      refine z_iload_n (k := 94) (i := 3) rfl rfl 3 rfl ?_
      refine z_iconst (k := 95) (v := (1 : Int32)) rfl (by decide) ?_
      refine z_iadd (k := 96) rfl ?_
      refine z_sld (k := 97) rfl v1 ?_
      refine z_calli (k := 98) (q := 0) (As := [.int (xs (ix (nI i + (1 : Int32))))]) (rest := [.int r1]) rfl (c_X12_end (g := g) hg (n := n) h) m_X12_end i_X12_end l_L_30 rfl ⟨_, rfl, rfl⟩ rfl rfl (Nat.le_of_ble_eq_true rfl) ⟨by decide, by decide, rfl, rfl⟩ (fun r2 σ2 h => ?_)
      obtain ⟨he, hR2⟩ := h
      refine z_icmp_eq (k := 99) (tgt := 507) rfl (by decide) (fun _ => ?_) (fun z => absurd he z)
      exact hend σ2 hR2
    · refine z_case (a := (xs (nI i).toNatClampNeg &&& (15 : Int32)) = (2 : Int32)) (fun z2 => ?_) (fun z2 => ?_)
      · refine z_tableIn (k := 27) (tgt := 198) (off := 155) rfl z2 (by decide) (by decide) (by decide) (by decide) ?_
        refine z_aload_n (k := 102) (i := 1) rfl rfl 1 rfl ?_
        have h := HB.2.2.1 t σ ht hR
        refine z_calli (k := 103) (q := 32) (As := []) (rest := []) rfl (c_X10_read (g := g) hg (n := n) h) m_X10_read i_X10_read l_L_31 rfl ⟨_, rfl, rfl⟩ rfl rfl (Nat.le_of_ble_eq_true rfl) ⟨by decide, by decide, rfl, rfl⟩ (fun r1 σ1 h => ?_)
        refine z_aload_n (k := 104) (i := 2) rfl rfl 2 rfl ?_
        refine z_callR (k := 105) (q := 0) (rest := [.int r1]) rfl (c_X12_read (g := g) hg (n := n) h) cw_read in_read ⟨by decide, by decide⟩ (by decide +kernel) i_X12_read l_L_35 rfl ⟨_, rfl, rfl⟩ rfl rfl (Nat.le_of_ble_eq_true rfl) ⟨by decide, by decide, rfl, rfl⟩ (fun r2 σ2 h => ?_)
        obtain ⟨he, hR2⟩ := h
        refine z_icmp_eq (k := 106) (tgt := 507) rfl (by decide) (fun _ => ?_) (fun z => absurd he z)
        exact hend σ2 hR2
      · refine z_case (a := (xs (nI i).toNatClampNeg &&& (15 : Int32)) = (3 : Int32)) (fun z3 => ?_) (fun z3 => ?_)
        · refine z_tableIn (k := 27) (tgt := 211) (off := 168) rfl z3 (by decide) (by decide) (by decide) (by decide) ?_
          refine z_aload_n (k := 109) (i := 1) rfl rfl 1 rfl ?_
          have h := HB.2.2.2.1 t σ ht hR
          refine z_calli (k := 110) (q := 32) (As := []) (rest := []) rfl (c_X10_place (g := g) hg (n := n) h) m_X10_place i_X10_place l_L_36 rfl ⟨_, rfl, rfl⟩ rfl rfl (Nat.le_of_ble_eq_true rfl) ⟨by decide, by decide, rfl, rfl⟩ (fun r1 σ1 h => ?_)
          refine z_aload_n (k := 111) (i := 2) rfl rfl 2 rfl ?_
          refine z_calli (k := 112) (q := 0) (As := []) (rest := [.int r1]) rfl (c_X12_place (g := g) hg (n := n) h) m_X12_place i_X12_place l_L_39 rfl ⟨_, rfl, rfl⟩ rfl rfl (Nat.le_of_ble_eq_true rfl) ⟨by decide, by decide, rfl, rfl⟩ (fun r2 σ2 h => ?_)
          obtain ⟨he, hR2⟩ := h
          refine z_icmp_eq (k := 113) (tgt := 507) rfl (by decide) (fun _ => ?_) (fun z => absurd he z)
          exact hend σ2 hR2
        · refine z_case (a := (xs (nI i).toNatClampNeg &&& (15 : Int32)) = (4 : Int32)) (fun z4 => ?_) (fun z4 => ?_)
          · refine z_tableIn (k := 27) (tgt := 224) (off := 181) rfl z4 (by decide) (by decide) (by decide) (by decide) ?_
            refine z_aload_n (k := 116) (i := 1) rfl rfl 1 rfl ?_
            refine z_aload_n (k := 117) (i := 0) rfl rfl 0 rfl ?_
            refine z_iload_n (k := 118) (i := 3) rfl rfl 3 rfl ?_
            refine z_iconst (k := 119) (v := (1 : Int32)) rfl (by decide) ?_
            refine z_iadd (k := 120) rfl ?_
            refine z_sld (k := 121) rfl v1 ?_
            have h := HB.2.2.2.2.1 t σ (xs (ix (nI i + (1 : Int32)))) ht hR
            refine z_calli (k := 122) (q := 32) (As := [.int (xs (ix (nI i + (1 : Int32))))]) (rest := []) rfl (c_X10_head (g := g) hg (n := n) h) m_X10_head i_X10_head l_L_40 rfl ⟨_, rfl, rfl⟩ rfl rfl (Nat.le_of_ble_eq_true rfl) ⟨by decide, by decide, rfl, rfl⟩ (fun r1 σ1 h => ?_)
            refine z_aload_n (k := 123) (i := 2) rfl rfl 2 rfl ?_
            refine z_aload_n (k := 124) (i := 0) rfl rfl 0 rfl ?_
            refine z_iload_n (k := 125) (i := 3) rfl rfl 3 rfl ?_
            refine z_iconst (k := 126) (v := (1 : Int32)) rfl (by decide) ?_
            refine z_iadd (k := 127) rfl ?_
            refine z_sld (k := 128) rfl v1 ?_
            refine z_calli (k := 129) (q := 0) (As := [.int (xs (ix (nI i + (1 : Int32))))]) (rest := [.int r1]) rfl (c_X12_head (g := g) hg (n := n) h) m_X12_head i_X12_head l_L_43 rfl ⟨_, rfl, rfl⟩ rfl rfl (Nat.le_of_ble_eq_true rfl) ⟨by decide, by decide, rfl, rfl⟩ (fun r2 σ2 h => ?_)
            obtain ⟨he, hR2⟩ := h
            refine z_icmp_eq (k := 130) (tgt := 507) rfl (by decide) (fun _ => ?_) (fun z => absurd he z)
            exact hend σ2 hR2
          · refine z_case (a := (xs (nI i).toNatClampNeg &&& (15 : Int32)) = (5 : Int32)) (fun z5 => ?_) (fun z5 => ?_)
            · refine z_tableIn (k := 27) (tgt := 247) (off := 204) rfl z5 (by decide) (by decide) (by decide) (by decide) ?_
              refine z_aload_n (k := 133) (i := 1) rfl rfl 1 rfl ?_
              refine z_aload_n (k := 134) (i := 0) rfl rfl 0 rfl ?_
              refine z_iload_n (k := 135) (i := 3) rfl rfl 3 rfl ?_
              refine z_iconst (k := 136) (v := (1 : Int32)) rfl (by decide) ?_
              refine z_iadd (k := 137) rfl ?_
              refine z_sld (k := 138) rfl v1 ?_
              refine z_aload_n (k := 139) (i := 0) rfl rfl 0 rfl ?_
              refine z_iload_n (k := 140) (i := 3) rfl rfl 3 rfl ?_
              refine z_iconst (k := 141) (v := (2 : Int32)) rfl (by decide) ?_
              refine z_iadd (k := 142) rfl ?_
              refine z_sld (k := 143) rfl v2 ?_
              have h := HB.2.2.2.2.2.1 t σ (xs (ix (nI i + (1 : Int32)))) (xs (ix (nI i + (2 : Int32)))) ht hR
              refine z_calli (k := 144) (q := 32) (As := [.int (xs (ix (nI i + (1 : Int32)))), .int (xs (ix (nI i + (2 : Int32))))]) (rest := []) rfl (c_X10_title (g := g) hg (n := n) h) m_X10_title i_X10_title l_L_44 rfl ⟨_, rfl, rfl⟩ rfl rfl (Nat.le_of_ble_eq_true rfl) ⟨by decide, by decide, rfl, rfl⟩ (fun r1 σ1 h => ?_)
              refine z_aload_n (k := 145) (i := 2) rfl rfl 2 rfl ?_
              refine z_aload_n (k := 146) (i := 0) rfl rfl 0 rfl ?_
              refine z_iload_n (k := 147) (i := 3) rfl rfl 3 rfl ?_
              refine z_iconst (k := 148) (v := (1 : Int32)) rfl (by decide) ?_
              refine z_iadd (k := 149) rfl ?_
              refine z_sld (k := 150) rfl v1 ?_
              refine z_aload_n (k := 151) (i := 0) rfl rfl 0 rfl ?_
              refine z_iload_n (k := 152) (i := 3) rfl rfl 3 rfl ?_
              refine z_iconst (k := 153) (v := (2 : Int32)) rfl (by decide) ?_
              refine z_iadd (k := 154) rfl ?_
              refine z_sld (k := 155) rfl v2 ?_
              refine z_calli (k := 156) (q := 0) (As := [.int (xs (ix (nI i + (1 : Int32)))), .int (xs (ix (nI i + (2 : Int32))))]) (rest := [.int r1]) rfl (c_X12_title (g := g) hg (n := n) h) m_X12_title i_X12_title l_L_48 rfl ⟨_, rfl, rfl⟩ rfl rfl (Nat.le_of_ble_eq_true rfl) ⟨by decide, by decide, rfl, rfl⟩ (fun r2 σ2 h => ?_)
              obtain ⟨he, hR2⟩ := h
              refine z_icmp_eq (k := 157) (tgt := 507) rfl (by decide) (fun _ => ?_) (fun z => absurd he z)
              exact hend σ2 hR2
            · refine z_case (a := (xs (nI i).toNatClampNeg &&& (15 : Int32)) = (6 : Int32)) (fun z6 => ?_) (fun z6 => ?_)
              · refine z_tableIn (k := 27) (tgt := 280) (off := 237) rfl z6 (by decide) (by decide) (by decide) (by decide) ?_
                refine z_aload_n (k := 160) (i := 1) rfl rfl 1 rfl ?_
                refine z_aload_n (k := 161) (i := 0) rfl rfl 0 rfl ?_
                refine z_iload_n (k := 162) (i := 3) rfl rfl 3 rfl ?_
                refine z_iconst (k := 163) (v := (1 : Int32)) rfl (by decide) ?_
                refine z_iadd (k := 164) rfl ?_
                refine z_sld (k := 165) rfl v1 ?_
                refine z_aload_n (k := 166) (i := 0) rfl rfl 0 rfl ?_
                refine z_iload_n (k := 167) (i := 3) rfl rfl 3 rfl ?_
                refine z_iconst (k := 168) (v := (2 : Int32)) rfl (by decide) ?_
                refine z_iadd (k := 169) rfl ?_
                refine z_sld (k := 170) rfl v2 ?_
                have h := HB.2.2.2.2.2.2.1 t σ (xs (ix (nI i + (1 : Int32)))) (xs (ix (nI i + (2 : Int32)))) ht hR
                refine z_calli (k := 171) (q := 32) (As := [.int (xs (ix (nI i + (1 : Int32)))), .int (xs (ix (nI i + (2 : Int32))))]) (rest := []) rfl (c_X10_thing (g := g) hg (n := n) h) m_X10_thing i_X10_thing l_L_49 rfl ⟨_, rfl, rfl⟩ rfl rfl (Nat.le_of_ble_eq_true rfl) ⟨by decide, by decide, rfl, rfl⟩ (fun r1 σ1 h => ?_)
                refine z_aload_n (k := 172) (i := 2) rfl rfl 2 rfl ?_
                refine z_aload_n (k := 173) (i := 0) rfl rfl 0 rfl ?_
                refine z_iload_n (k := 174) (i := 3) rfl rfl 3 rfl ?_
                refine z_iconst (k := 175) (v := (1 : Int32)) rfl (by decide) ?_
                refine z_iadd (k := 176) rfl ?_
                refine z_sld (k := 177) rfl v1 ?_
                refine z_aload_n (k := 178) (i := 0) rfl rfl 0 rfl ?_
                refine z_iload_n (k := 179) (i := 3) rfl rfl 3 rfl ?_
                refine z_iconst (k := 180) (v := (2 : Int32)) rfl (by decide) ?_
                refine z_iadd (k := 181) rfl ?_
                refine z_sld (k := 182) rfl v2 ?_
                refine z_calli (k := 183) (q := 0) (As := [.int (xs (ix (nI i + (1 : Int32)))), .int (xs (ix (nI i + (2 : Int32))))]) (rest := [.int r1]) rfl (c_X12_thing (g := g) hg (n := n) h) m_X12_thing i_X12_thing l_L_52 rfl ⟨_, rfl, rfl⟩ rfl rfl (Nat.le_of_ble_eq_true rfl) ⟨by decide, by decide, rfl, rfl⟩ (fun r2 σ2 h => ?_)
                obtain ⟨he, hR2⟩ := h
                refine z_icmp_eq (k := 184) (tgt := 507) rfl (by decide) (fun _ => ?_) (fun z => absurd he z)
                exact hend σ2 hR2
              · refine z_case (a := (xs (nI i).toNatClampNeg &&& (15 : Int32)) = (7 : Int32)) (fun z7 => ?_) (fun z7 => ?_)
                · refine z_tableIn (k := 27) (tgt := 313) (off := 270) rfl z7 (by decide) (by decide) (by decide) (by decide) ?_
                  refine z_aload_n (k := 187) (i := 1) rfl rfl 1 rfl ?_
                  refine z_aload_n (k := 188) (i := 0) rfl rfl 0 rfl ?_
                  refine z_iload_n (k := 189) (i := 3) rfl rfl 3 rfl ?_
                  refine z_iconst (k := 190) (v := (1 : Int32)) rfl (by decide) ?_
                  refine z_iadd (k := 191) rfl ?_
                  refine z_sld (k := 192) rfl v1 ?_
                  have h := HB.2.2.2.2.2.2.2.1 t σ (xs (ix (nI i + (1 : Int32)))) ht hR
                  refine z_calll (k := 193) (q := 32) (As := [.int (xs (ix (nI i + (1 : Int32))))]) (rest := []) rfl (c_X10_time (g := g) hg (n := n) h) m_X10_time i_X10_time l_L_53 rfl ⟨_, rfl, rfl⟩ rfl rfl (Nat.le_of_ble_eq_true rfl) ⟨by decide, by decide, rfl, rfl⟩ (fun r1 σ1 h => ?_)
                  refine z_aload_n (k := 194) (i := 2) rfl rfl 2 rfl ?_
                  refine z_aload_n (k := 195) (i := 0) rfl rfl 0 rfl ?_
                  refine z_iload_n (k := 196) (i := 3) rfl rfl 3 rfl ?_
                  refine z_iconst (k := 197) (v := (1 : Int32)) rfl (by decide) ?_
                  refine z_iadd (k := 198) rfl ?_
                  refine z_sld (k := 199) rfl v1 ?_
                  refine z_calll (k := 200) (q := 0) (As := [.int (xs (ix (nI i + (1 : Int32))))]) (rest := [.long r1]) rfl (c_X12_time (g := g) hg (n := n) h) m_X12_time i_X12_time l_L_57 rfl ⟨_, rfl, rfl⟩ rfl rfl (Nat.le_of_ble_eq_true rfl) ⟨by decide, by decide, rfl, rfl⟩ (fun r2 σ2 h => ?_)
                  obtain ⟨he, hR2⟩ := h
                  refine z_lcmp (k := 201) rfl ?_
                  refine z_if_eq (k := 202) (tgt := 507) rfl (by decide) (fun _ => ?_) (fun z => absurd (by rw [he]; exact lg_same _) z)
                  exact hend σ2 hR2
                · refine z_case (a := (xs (nI i).toNatClampNeg &&& (15 : Int32)) = (8 : Int32)) (fun z8 => ?_) (fun z8 => ?_)
                  · refine z_tableIn (k := 27) (tgt := 337) (off := 294) rfl z8 (by decide) (by decide) (by decide) (by decide) ?_
                    refine z_aload_n (k := 205) (i := 1) rfl rfl 1 rfl ?_
                    refine z_aload_n (k := 206) (i := 0) rfl rfl 0 rfl ?_
                    refine z_iload_n (k := 207) (i := 3) rfl rfl 3 rfl ?_
                    refine z_iconst (k := 208) (v := (1 : Int32)) rfl (by decide) ?_
                    refine z_iadd (k := 209) rfl ?_
                    refine z_sld (k := 210) rfl v1 ?_
                    have h := HB.2.2.2.2.2.2.2.2.1 t σ (xs (ix (nI i + (1 : Int32)))) ht hR
                    refine z_calll (k := 211) (q := 32) (As := [.int (xs (ix (nI i + (1 : Int32))))]) (rest := []) rfl (c_X10_start (g := g) hg (n := n) h) m_X10_start i_X10_start l_L_58 rfl ⟨_, rfl, rfl⟩ rfl rfl (Nat.le_of_ble_eq_true rfl) ⟨by decide, by decide, rfl, rfl⟩ (fun r1 σ1 h => ?_)
                    refine z_aload_n (k := 212) (i := 2) rfl rfl 2 rfl ?_
                    refine z_aload_n (k := 213) (i := 0) rfl rfl 0 rfl ?_
                    refine z_iload_n (k := 214) (i := 3) rfl rfl 3 rfl ?_
                    refine z_iconst (k := 215) (v := (1 : Int32)) rfl (by decide) ?_
                    refine z_iadd (k := 216) rfl ?_
                    refine z_sld (k := 217) rfl v1 ?_
                    refine z_calll (k := 218) (q := 0) (As := [.int (xs (ix (nI i + (1 : Int32))))]) (rest := [.long r1]) rfl (c_X12_start (g := g) hg (n := n) h) m_X12_start i_X12_start l_L_61 rfl ⟨_, rfl, rfl⟩ rfl rfl (Nat.le_of_ble_eq_true rfl) ⟨by decide, by decide, rfl, rfl⟩ (fun r2 σ2 h => ?_)
                    obtain ⟨he, hR2⟩ := h
                    refine z_lcmp (k := 219) rfl ?_
                    refine z_if_eq (k := 220) (tgt := 507) rfl (by decide) (fun _ => ?_) (fun z => absurd (by rw [he]; exact lg_same _) z)
                    exact hend σ2 hR2
                  · refine z_case (a := (xs (nI i).toNatClampNeg &&& (15 : Int32)) = (9 : Int32)) (fun z9 => ?_) (fun z9 => ?_)
                    · refine z_tableIn (k := 27) (tgt := 361) (off := 318) rfl z9 (by decide) (by decide) (by decide) (by decide) ?_
                      refine z_aload_n (k := 223) (i := 1) rfl rfl 1 rfl ?_
                      refine z_aload_n (k := 224) (i := 0) rfl rfl 0 rfl ?_
                      refine z_iload_n (k := 225) (i := 3) rfl rfl 3 rfl ?_
                      refine z_iconst (k := 226) (v := (1 : Int32)) rfl (by decide) ?_
                      refine z_iadd (k := 227) rfl ?_
                      refine z_sld (k := 228) rfl v1 ?_
                      have h := HB.2.2.2.2.2.2.2.2.2.1 t σ (xs (ix (nI i + (1 : Int32)))) ht hR
                      refine z_calli (k := 229) (q := 32) (As := [.int (xs (ix (nI i + (1 : Int32))))]) (rest := []) rfl (c_X10_measures (g := g) hg (n := n) h) m_X10_measures i_X10_measures l_L_62 rfl ⟨_, rfl, rfl⟩ rfl rfl (Nat.le_of_ble_eq_true rfl) ⟨by decide, by decide, rfl, rfl⟩ (fun r1 σ1 h => ?_)
                      refine z_aload_n (k := 230) (i := 2) rfl rfl 2 rfl ?_
                      refine z_aload_n (k := 231) (i := 0) rfl rfl 0 rfl ?_
                      refine z_iload_n (k := 232) (i := 3) rfl rfl 3 rfl ?_
                      refine z_iconst (k := 233) (v := (1 : Int32)) rfl (by decide) ?_
                      refine z_iadd (k := 234) rfl ?_
                      refine z_sld (k := 235) rfl v1 ?_
                      refine z_calli (k := 236) (q := 0) (As := [.int (xs (ix (nI i + (1 : Int32))))]) (rest := [.int r1]) rfl (c_X12_measures (g := g) hg (n := n) h) m_X12_measures i_X12_measures l_L_65 rfl ⟨_, rfl, rfl⟩ rfl rfl (Nat.le_of_ble_eq_true rfl) ⟨by decide, by decide, rfl, rfl⟩ (fun r2 σ2 h => ?_)
                      obtain ⟨he, hR2⟩ := h
                      refine z_icmp_eq (k := 237) (tgt := 507) rfl (by decide) (fun _ => ?_) (fun z => absurd he z)
                      exact hend σ2 hR2
                    · refine z_case (a := (xs (nI i).toNatClampNeg &&& (15 : Int32)) = (10 : Int32)) (fun z10 => ?_) (fun z10 => ?_)
                      · refine z_tableIn (k := 27) (tgt := 384) (off := 341) rfl z10 (by decide) (by decide) (by decide) (by decide) ?_
                        refine z_aload_n (k := 240) (i := 1) rfl rfl 1 rfl ?_
                        refine z_aload_n (k := 241) (i := 0) rfl rfl 0 rfl ?_
                        refine z_iload_n (k := 242) (i := 3) rfl rfl 3 rfl ?_
                        refine z_iconst (k := 243) (v := (1 : Int32)) rfl (by decide) ?_
                        refine z_iadd (k := 244) rfl ?_
                        refine z_sld (k := 245) rfl v1 ?_
                        refine z_aload_n (k := 246) (i := 0) rfl rfl 0 rfl ?_
                        refine z_iload_n (k := 247) (i := 3) rfl rfl 3 rfl ?_
                        refine z_iconst (k := 248) (v := (2 : Int32)) rfl (by decide) ?_
                        refine z_iadd (k := 249) rfl ?_
                        refine z_sld (k := 250) rfl v2 ?_
                        have h := HB.2.2.2.2.2.2.2.2.2.2.1 t σ (xs (ix (nI i + (1 : Int32)))) (xs (ix (nI i + (2 : Int32)))) ht hR
                        refine z_calli (k := 251) (q := 32) (As := [.int (xs (ix (nI i + (1 : Int32)))), .int (xs (ix (nI i + (2 : Int32))))]) (rest := []) rfl (c_X10_full (g := g) hg (n := n) h) m_X10_full i_X10_full l_L_66 rfl ⟨_, rfl, rfl⟩ rfl rfl (Nat.le_of_ble_eq_true rfl) ⟨by decide, by decide, rfl, rfl⟩ (fun r1 σ1 h => ?_)
                        refine z_aload_n (k := 252) (i := 2) rfl rfl 2 rfl ?_
                        refine z_aload_n (k := 253) (i := 0) rfl rfl 0 rfl ?_
                        refine z_iload_n (k := 254) (i := 3) rfl rfl 3 rfl ?_
                        refine z_iconst (k := 255) (v := (1 : Int32)) rfl (by decide) ?_
                        refine z_iadd (k := 256) rfl ?_
                        refine z_sld (k := 257) rfl v1 ?_
                        refine z_aload_n (k := 258) (i := 0) rfl rfl 0 rfl ?_
                        refine z_iload_n (k := 259) (i := 3) rfl rfl 3 rfl ?_
                        refine z_iconst (k := 260) (v := (2 : Int32)) rfl (by decide) ?_
                        refine z_iadd (k := 261) rfl ?_
                        refine z_sld (k := 262) rfl v2 ?_
                        refine z_calli (k := 263) (q := 0) (As := [.int (xs (ix (nI i + (1 : Int32)))), .int (xs (ix (nI i + (2 : Int32))))]) (rest := [.int r1]) rfl (c_X12_full (g := g) hg (n := n) h) m_X12_full i_X12_full l_L_69 rfl ⟨_, rfl, rfl⟩ rfl rfl (Nat.le_of_ble_eq_true rfl) ⟨by decide, by decide, rfl, rfl⟩ (fun r2 σ2 h => ?_)
                        obtain ⟨he, hR2⟩ := h
                        refine z_icmp_eq (k := 264) (tgt := 507) rfl (by decide) (fun _ => ?_) (fun z => absurd he z)
                        exact hend σ2 hR2
                      · refine z_case (a := (xs (nI i).toNatClampNeg &&& (15 : Int32)) = (11 : Int32)) (fun z11 => ?_) (fun z11 => ?_)
                        · refine z_tableIn (k := 27) (tgt := 417) (off := 374) rfl z11 (by decide) (by decide) (by decide) (by decide) ?_
                          refine z_aload_n (k := 267) (i := 1) rfl rfl 1 rfl ?_
                          refine z_aload_n (k := 268) (i := 0) rfl rfl 0 rfl ?_
                          refine z_iload_n (k := 269) (i := 3) rfl rfl 3 rfl ?_
                          refine z_iconst (k := 270) (v := (1 : Int32)) rfl (by decide) ?_
                          refine z_iadd (k := 271) rfl ?_
                          refine z_sld (k := 272) rfl v1 ?_
                          refine z_aload_n (k := 273) (i := 0) rfl rfl 0 rfl ?_
                          refine z_iload_n (k := 274) (i := 3) rfl rfl 3 rfl ?_
                          refine z_iconst (k := 275) (v := (2 : Int32)) rfl (by decide) ?_
                          refine z_iadd (k := 276) rfl ?_
                          refine z_sld (k := 277) rfl v2 ?_
                          have h := HB.2.2.2.2.2.2.2.2.2.2.2.1 t σ (xs (ix (nI i + (1 : Int32)))) (xs (ix (nI i + (2 : Int32)))) ht hR
                          refine z_calll (k := 278) (q := 32) (As := [.int (xs (ix (nI i + (1 : Int32)))), .int (xs (ix (nI i + (2 : Int32))))]) (rest := []) rfl (c_X10_length (g := g) hg (n := n) h) m_X10_length i_X10_length l_L_70 rfl ⟨_, rfl, rfl⟩ rfl rfl (Nat.le_of_ble_eq_true rfl) ⟨by decide, by decide, rfl, rfl⟩ (fun r1 σ1 h => ?_)
                          refine z_aload_n (k := 279) (i := 2) rfl rfl 2 rfl ?_
                          refine z_aload_n (k := 280) (i := 0) rfl rfl 0 rfl ?_
                          refine z_iload_n (k := 281) (i := 3) rfl rfl 3 rfl ?_
                          refine z_iconst (k := 282) (v := (1 : Int32)) rfl (by decide) ?_
                          refine z_iadd (k := 283) rfl ?_
                          refine z_sld (k := 284) rfl v1 ?_
                          refine z_aload_n (k := 285) (i := 0) rfl rfl 0 rfl ?_
                          refine z_iload_n (k := 286) (i := 3) rfl rfl 3 rfl ?_
                          refine z_iconst (k := 287) (v := (2 : Int32)) rfl (by decide) ?_
                          refine z_iadd (k := 288) rfl ?_
                          refine z_sld (k := 289) rfl v2 ?_
                          refine z_calll (k := 290) (q := 0) (As := [.int (xs (ix (nI i + (1 : Int32)))), .int (xs (ix (nI i + (2 : Int32))))]) (rest := [.long r1]) rfl (c_X12_length (g := g) hg (n := n) h) m_X12_length i_X12_length l_L_74 rfl ⟨_, rfl, rfl⟩ rfl rfl (Nat.le_of_ble_eq_true rfl) ⟨by decide, by decide, rfl, rfl⟩ (fun r2 σ2 h => ?_)
                          obtain ⟨he, hR2⟩ := h
                          refine z_lcmp (k := 291) rfl ?_
                          refine z_if_eq (k := 292) (tgt := 507) rfl (by decide) (fun _ => ?_) (fun z => absurd (by rw [he]; exact lg_same _) z)
                          exact hend σ2 hR2
                        · refine z_case (a := (xs (nI i).toNatClampNeg &&& (15 : Int32)) = (12 : Int32)) (fun z12 => ?_) (fun z12 => ?_)
                          · refine z_tableIn (k := 27) (tgt := 451) (off := 408) rfl z12 (by decide) (by decide) (by decide) (by decide) ?_
                            refine z_aload_n (k := 295) (i := 1) rfl rfl 1 rfl ?_
                            refine z_aload_n (k := 296) (i := 0) rfl rfl 0 rfl ?_
                            refine z_iload_n (k := 297) (i := 3) rfl rfl 3 rfl ?_
                            refine z_iconst (k := 298) (v := (1 : Int32)) rfl (by decide) ?_
                            refine z_iadd (k := 299) rfl ?_
                            refine z_sld (k := 300) rfl v1 ?_
                            have h := HB.2.2.2.2.2.2.2.2.2.2.2.2.1 t σ (xs (ix (nI i + (1 : Int32)))) ht hR
                            refine z_calli (k := 301) (q := 32) (As := [.int (xs (ix (nI i + (1 : Int32))))]) (rest := []) rfl (c_X10_played (g := g) hg (n := n) h) m_X10_played i_X10_played l_L_75 rfl ⟨_, rfl, rfl⟩ rfl rfl (Nat.le_of_ble_eq_true rfl) ⟨by decide, by decide, rfl, rfl⟩ (fun r1 σ1 h => ?_)
                            refine z_aload_n (k := 302) (i := 2) rfl rfl 2 rfl ?_
                            refine z_aload_n (k := 303) (i := 0) rfl rfl 0 rfl ?_
                            refine z_iload_n (k := 304) (i := 3) rfl rfl 3 rfl ?_
                            refine z_iconst (k := 305) (v := (1 : Int32)) rfl (by decide) ?_
                            refine z_iadd (k := 306) rfl ?_
                            refine z_sld (k := 307) rfl v1 ?_
                            refine z_calli (k := 308) (q := 0) (As := [.int (xs (ix (nI i + (1 : Int32))))]) (rest := [.int r1]) rfl (c_X12_played (g := g) hg (n := n) h) m_X12_played i_X12_played l_L_78 rfl ⟨_, rfl, rfl⟩ rfl rfl (Nat.le_of_ble_eq_true rfl) ⟨by decide, by decide, rfl, rfl⟩ (fun r2 σ2 h => ?_)
                            obtain ⟨he, hR2⟩ := h
                            refine z_icmp_eq (k := 309) (tgt := 507) rfl (by decide) (fun _ => ?_) (fun z => absurd he z)
                            exact hend σ2 hR2
                          · refine z_case (a := (xs (nI i).toNatClampNeg &&& (15 : Int32)) = (13 : Int32)) (fun z13 => ?_) (fun z13 => ?_)
                            · refine z_tableIn (k := 27) (tgt := 474) (off := 431) rfl z13 (by decide) (by decide) (by decide) (by decide) ?_
                              refine z_aload_n (k := 312) (i := 1) rfl rfl 1 rfl ?_
                              refine z_aload_n (k := 313) (i := 0) rfl rfl 0 rfl ?_
                              refine z_iload_n (k := 314) (i := 3) rfl rfl 3 rfl ?_
                              refine z_iconst (k := 315) (v := (1 : Int32)) rfl (by decide) ?_
                              refine z_iadd (k := 316) rfl ?_
                              refine z_sld (k := 317) rfl v1 ?_
                              refine z_aload_n (k := 318) (i := 0) rfl rfl 0 rfl ?_
                              refine z_iload_n (k := 319) (i := 3) rfl rfl 3 rfl ?_
                              refine z_iconst (k := 320) (v := (2 : Int32)) rfl (by decide) ?_
                              refine z_iadd (k := 321) rfl ?_
                              refine z_sld (k := 322) rfl v2 ?_
                              have h := HB.2.2.2.2.2.2.2.2.2.2.2.2.2.1 t σ (xs (ix (nI i + (1 : Int32)))) (xs (ix (nI i + (2 : Int32)))) ht hR
                              refine z_calli (k := 323) (q := 32) (As := [.int (xs (ix (nI i + (1 : Int32)))), .int (xs (ix (nI i + (2 : Int32))))]) (rest := []) rfl (c_X10_written (g := g) hg (n := n) h) m_X10_written i_X10_written l_L_79 rfl ⟨_, rfl, rfl⟩ rfl rfl (Nat.le_of_ble_eq_true rfl) ⟨by decide, by decide, rfl, rfl⟩ (fun r1 σ1 h => ?_)
                              refine z_aload_n (k := 324) (i := 2) rfl rfl 2 rfl ?_
                              refine z_aload_n (k := 325) (i := 0) rfl rfl 0 rfl ?_
                              refine z_iload_n (k := 326) (i := 3) rfl rfl 3 rfl ?_
                              refine z_iconst (k := 327) (v := (1 : Int32)) rfl (by decide) ?_
                              refine z_iadd (k := 328) rfl ?_
                              refine z_sld (k := 329) rfl v1 ?_
                              refine z_aload_n (k := 330) (i := 0) rfl rfl 0 rfl ?_
                              refine z_iload_n (k := 331) (i := 3) rfl rfl 3 rfl ?_
                              refine z_iconst (k := 332) (v := (2 : Int32)) rfl (by decide) ?_
                              refine z_iadd (k := 333) rfl ?_
                              refine z_sld (k := 334) rfl v2 ?_
                              refine z_calli (k := 335) (q := 0) (As := [.int (xs (ix (nI i + (1 : Int32)))), .int (xs (ix (nI i + (2 : Int32))))]) (rest := [.int r1]) rfl (c_X12_written (g := g) hg (n := n) h) m_X12_written i_X12_written l_L_82 rfl ⟨_, rfl, rfl⟩ rfl rfl (Nat.le_of_ble_eq_true rfl) ⟨by decide, by decide, rfl, rfl⟩ (fun r2 σ2 h => ?_)
                              obtain ⟨he, hR2⟩ := h
                              refine z_icmp_eq (k := 336) (tgt := 507) rfl (by decide) (fun _ => ?_) (fun z => absurd he z)
                              exact hend σ2 hR2
                            · have w0 := xne (i := 0) z0 (by decide)
                              have w1 := xne (i := 1) z1 (by decide)
                              have w2 := xne (i := 2) z2 (by decide)
                              have w3 := xne (i := 3) z3 (by decide)
                              have w4 := xne (i := 4) z4 (by decide)
                              have w5 := xne (i := 5) z5 (by decide)
                              have w6 := xne (i := 6) z6 (by decide)
                              have w7 := xne (i := 7) z7 (by decide)
                              have w8 := xne (i := 8) z8 (by decide)
                              have w9 := xne (i := 9) z9 (by decide)
                              have w10 := xne (i := 10) z10 (by decide)
                              have w11 := xne (i := 11) z11 (by decide)
                              have w12 := xne (i := 12) z12 (by decide)
                              have w13 := xne (i := 13) z13 (by decide)
                              refine z_tableOut (k := 27) (tgt := 507) rfl (by omega) (by decide) ?_
                              exact hend σ (HB.2.2.2.2.2.2.2.2.2.2.2.2.2.2 t σ hR)
theorem law_loop {g : Gb} (hg : xInj g) {b L : Nat} {xs : Nat → Int32} {n : Nat} {RR : Nat → Mm → Prop} (HB : xHB n RR) (hL : L ≤ 385) : ∀ (d t i : Nat) (σ : Mm), i = 6 * t + 1 → L ≤ 6 * t + 6 * d → 6 * t ≤ L + 6 → RR t σ → zE g b L xs 28 [(0, .ref b), (1, .ref (gR g 32)), (2, .ref (gR g 0)), (3, .int (nI i))] [] σ := by
  intro d
  induction d with
  | zero =>
    intro t i σ hi hd hb hR
    refine z_iload_n (k := 16) (i := 3) rfl rfl 3 rfl ?_
    refine z_aload_n (k := 17) (i := 0) rfl rfl 0 rfl ?_
    refine z_slen (k := 18) rfl ?_
    refine z_bipush (k := 19) (v := (6 : Int32)) rfl (by decide) ?_
    refine z_isub (k := 20) rfl ?_
    have hlt : nI L - (6 : Int32) < nI i ↔ (L : Int) - 6 < (i : Int) := by
      rw [show (6 : Int32) = nI 6 from rfl, Int32.lt_iff_toInt_lt, pk_sub_toInt (by omega) (by omega), nI_toInt (by omega)]
      rfl
    refine z_icmp_gt (k := 21) (tgt := 513) rfl (by decide) (fun _ => ?_) (fun z => absurd (hlt.mpr (by omega)) z)
    refine z_iconst (k := 341) (v := (1 : Int32)) rfl (by decide) ?_
    exact z_ret (k := 342) rfl
  | succ d ih =>
    intro t i σ hi hd hb hR
    refine z_iload_n (k := 16) (i := 3) rfl rfl 3 rfl ?_
    refine z_aload_n (k := 17) (i := 0) rfl rfl 0 rfl ?_
    refine z_slen (k := 18) rfl ?_
    refine z_bipush (k := 19) (v := (6 : Int32)) rfl (by decide) ?_
    refine z_isub (k := 20) rfl ?_
    have hlt : nI L - (6 : Int32) < nI i ↔ (L : Int) - 6 < (i : Int) := by
      rw [show (6 : Int32) = nI 6 from rfl, Int32.lt_iff_toInt_lt, pk_sub_toInt (by omega) (by omega), nI_toInt (by omega)]
      rfl
    refine z_icmp_gt (k := 21) (tgt := 513) rfl (by decide) (fun _ => ?_) (fun z => ?_)
    · refine z_iconst (k := 341) (v := (1 : Int32)) rfl (by decide) ?_
      exact z_ret (k := 342) rfl
    · have hz : ¬ ((L : Int) - 6 < (i : Int)) := fun q => z (hlt.mpr q)
      refine law_turn hg HB hL hi (by omega) (by omega) hR (fun σ2 hR2 => ?_)
      refine z_iinc (k := 339) (i := 3) (j := 3) (v := nI (i + 6)) (lv' := [(0, .ref b), (1, .ref (gR g 32)), (2, .ref (gR g 0)), (3, .int (nI (i + 6)))]) rfl rfl (nI_add i 6) (by decide) [1, 2, 3, 0] rfl ?_
      refine z_goto (k := 340) (tgt := 28) rfl (by decide) ?_
      exact ih (t + 1) (i + 6) σ2 (by omega) (by omega) (by omega) hR2
