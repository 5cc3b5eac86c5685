/-! a turn of the music's loop -/
theorem jV_map {z : Mm × Mm} {C : (Mm → Prop) → Prop} {M : (Mm → Prop) → (Mm → Prop) → Prop} {P1 P : Mm → Mm → Prop} {g : Mm → Mm} (h : jV z C M P1) (k : ∀ u v, P1 u v → P u (g v)) : jV z C (fun Q T' => M (fun v => Q (g v)) T') P := by
  rcases h with ⟨u, v, h1, h2, h3⟩ | ⟨u, v, h1, h2, h3⟩
  · exact Or.inl ⟨u, g v, h1, fun Q T' => h2 _ _, k u v h3⟩
  · exact Or.inr ⟨u, v, h1, fun Q T' => h2 _ _, h3⟩
def cSw (n : Nat) (y1 r1 : Int32) (u2 : Mm) (K : Mm → Prop) : Prop :=
  (r1 = (1 : Int32) → w_X4_readSingle n u2 (fun u3 => K u3)) ∧
  (¬ r1 = (1 : Int32) → (r1 = (2 : Int32) → w_X4_readGroup n (1 : Int32) u2 (fun u4 => K u4)) ∧
  (¬ r1 = (2 : Int32) → (r1 = (3 : Int32) → w_X4_readRest n u2 (fun u5 => K u5)) ∧
  (¬ r1 = (3 : Int32) → (r1 = (4 : Int32) → w_X4_readBars n u2 (fun u6 => K u6)) ∧
  (¬ r1 = (4 : Int32) → (r1 = (5 : Int32) → w_X4_readBar n u2 (fun u7 => K u7)) ∧
  (¬ r1 = (5 : Int32) → (r1 = (6 : Int32) → w_X4_readChange n (0 : Int32) u2 (fun u8 => K u8)) ∧
  (¬ r1 = (6 : Int32) → (r1 = (7 : Int32) → w_X4_readGroup n (0 : Int32) u2 (fun u9 => K u9)) ∧
  (¬ r1 = (7 : Int32) → (r1 = (8 : Int32) → w_X4_readTuplet n u2 (fun u10 => K u10)) ∧
  (¬ r1 = (8 : Int32) → (r1 = (9 : Int32) → w_X4_readSlur n u2 (fun u11 => K u11)) ∧
  (¬ r1 = (9 : Int32) → (r1 = (10 : Int32) → w_X4_readBroken n y1 u2 (fun u12 => K u12)) ∧
  (¬ r1 = (10 : Int32) → (r1 = (11 : Int32) → w_X4_readOrnament n u2 (fun u13 => K u13)) ∧
  (¬ r1 = (11 : Int32) → (r1 = (12 : Int32) → w_X4_readWord n u2 (fun u14 => K u14)) ∧
  (¬ r1 = (12 : Int32) → w_X5_fail n (1 : Int32) (u2.1 33 2) u2 (fun u15 => K u15)))))))))))))
theorem m14 {n k : Nat} {x1 : Int32} {u : Mm} {Q : Mm → Prop} (h1 : ¬ (2000 : Int32) < x1) (h2 : u.1 33 6 = 0) (h3 : ¬ u.1 33 4 ≤ u.1 33 2) : w_X4_musicLine_14 n Q (k + 1) x1 u = w_X4_formHere n (setI u 38 14 0) (fun r1 u2 => cSw n (u.1 38 14) r1 u2 (fun u3 => w_X5_skipBlanks n u3 (fun u4 => w_X4_musicLine_14 n Q k (x1 + 1) u4))) := by
  rw [w_X4_musicLine_14]
  rw [show ∀ A B : Prop, (((2000 : Int32) < x1 → A) ∧ (¬ (2000 : Int32) < x1 → B)) = B from fun A B => by rw [br_if, if_neg h1], show ∀ A B : Prop, ((¬ u.1 33 6 = 0 → A) ∧ (u.1 33 6 = 0 → B)) = B from fun A B => by rw [br_ifn, if_pos h2], show ∀ A B : Prop, ((u.1 33 4 ≤ u.1 33 2 → A) ∧ (¬ u.1 33 4 ≤ u.1 33 2 → B)) = B from fun A B => by rw [br_if, if_neg h3]]
  rw [iletE, mletE]
  rfl
theorem cSw1 {n : Nat} {y : Int32} {u : Mm} {K : Mm → Prop} : cSw n y 1 u K = w_X4_readSingle n u K := by unfold cSw; rw [br_if, if_pos rfl]
theorem cSw2 {n : Nat} {y : Int32} {u : Mm} {K : Mm → Prop} : cSw n y 2 u K = w_X4_readGroup n 1 u K := by unfold cSw; simp only [br_if]; rfl
theorem cSw3 {n : Nat} {y : Int32} {u : Mm} {K : Mm → Prop} : cSw n y 3 u K = w_X4_readRest n u K := by unfold cSw; simp only [br_if]; rfl
theorem cSw4 {n : Nat} {y : Int32} {u : Mm} {K : Mm → Prop} : cSw n y 4 u K = w_X4_readBars n u K := by unfold cSw; simp only [br_if]; rfl
theorem cSw5 {n : Nat} {y : Int32} {u : Mm} {K : Mm → Prop} : cSw n y 5 u K = w_X4_readBar n u K := by unfold cSw; simp only [br_if]; rfl
theorem cSw6 {n : Nat} {y : Int32} {u : Mm} {K : Mm → Prop} : cSw n y 6 u K = w_X4_readChange n 0 u K := by unfold cSw; simp only [br_if]; rfl
theorem cSw7 {n : Nat} {y : Int32} {u : Mm} {K : Mm → Prop} : cSw n y 7 u K = w_X4_readGroup n 0 u K := by unfold cSw; simp only [br_if]; rfl
theorem cSw8 {n : Nat} {y : Int32} {u : Mm} {K : Mm → Prop} : cSw n y 8 u K = w_X4_readTuplet n u K := by unfold cSw; simp only [br_if]; rfl
theorem cSw9 {n : Nat} {y : Int32} {u : Mm} {K : Mm → Prop} : cSw n y 9 u K = w_X4_readSlur n u K := by unfold cSw; simp only [br_if]; rfl
theorem cSw10 {n : Nat} {y : Int32} {u : Mm} {K : Mm → Prop} : cSw n y 10 u K = w_X4_readBroken n y u K := by unfold cSw; simp only [br_if]; rfl
theorem cSw11 {n : Nat} {y : Int32} {u : Mm} {K : Mm → Prop} : cSw n y 11 u K = w_X4_readOrnament n u K := by unfold cSw; simp only [br_if]; rfl
theorem cSw12 {n : Nat} {y : Int32} {u : Mm} {K : Mm → Prop} : cSw n y 12 u K = w_X4_readWord n u K := by unfold cSw; simp only [br_if]; rfl
theorem cSw0 {n : Nat} {y : Int32} {u : Mm} {K : Mm → Prop} : cSw n y 0 u K = w_X5_fail n 1 (u.1 33 2) u K := by unfold cSw; simp only [br_if]; rfl
/-- what a turn leaves -/
def LIP (z : Mm × Mm) (T : Nat → Nat) (sz B e s p : Nat) (u' v' : Mm) : Prop := ∃ q c' w', p < q ∧ q ≤ s ∧ Rm z T sz B e s q c' c' w' u' v' ∧ bhd c' w' u' v'
theorem othP.li {z : Mm × Mm} {T : Nat → Nat} {sz B e s p : Nat} {u' v' : Mm} {x y : Int32} (h : othP z T sz B e s p x y u' v') (hx : x = 0) (hy : y = -1) : LIP z T sz B e s p u' v' := by
  obtain ⟨q, c', w', h1, h2, h3, h4, h5⟩ := h
  exact ⟨q, c', w', h1, h2, h3, Or.inl ⟨h4.trans hx, h5.trans hy⟩⟩
theorem timP.li {z : Mm × Mm} {T : Nat → Nat} {sz B e s p c w : Nat} {u' v' : Mm} (h : timP z T sz B e s p c w u' v') : LIP z T sz B e s p u' (setI v' 0 63 (v'.1 0 49)) := by
  obtain ⟨q, cnt, m, srt, h1, h2, h3, ⟨q', f1, f2, f3, f4, f5, f6, f7, f8, f9, f10⟩, h5⟩ := h
  rw [f4]
  refine ⟨q', c + cnt, w, by omega, f2, f3, Or.inr ⟨f5, c, cnt, m, srt, Nat.le_refl _, h2, h3, by simp (disch := omega) only [gIs, gIn, gIj, gIr, gJs, gJn, gJi, gJr, gPr, gPi, gPj, hu_s, hu_n, hv_s, hv_n]; exact f4, ?_, f6, f7.cg rfl rfl rfl rfl rfl (by intros; first | rfl | (simp (disch := omega) only [gIs, gIn, gIj, gIr, gJs, gJn, gJi, gJr, gPr, gPi, gPj, hu_s, hu_n, hv_s, hv_n]; done) | (constructor <;> (simp (disch := omega) only [gIs, gIn, gIj, gIr, gJs, gJn, gJi, gJr, gPr, gPi, gPj, hu_s, hu_n, hv_s, hv_n]; done)) | (simp (disch := omega) only [gI_if, gIj, gIr, gJ_if, gJi, gJr, gPr, gPi, gPj, hu_if, hv_if, Nat.reduceEqDiff, eq_self, reduceIte, if_neg, if_pos, and_self]; done) | (simp (disch := omega) only [gI_if, gIj, gIr, gJ_if, gJi, gJr, gPr, gPi, gPj, hu_if, hv_if, Nat.reduceEqDiff, eq_self, reduceIte, if_neg, if_pos, and_self]; split <;> first | rfl | (simp (disch := omega) only [gI_if, gIj, gIr, gJ_if, gJi, gJr, gPr, gPi, gPj, hu_if, hv_if, Nat.reduceEqDiff, eq_self, reduceIte, if_neg, if_pos, and_self]; done))) (by intros; first | rfl | (simp (disch := omega) only [gIs, gIn, gIj, gIr, gJs, gJn, gJi, gJr, gPr, gPi, gPj, hu_s, hu_n, hv_s, hv_n]; done) | (constructor <;> (simp (disch := omega) only [gIs, gIn, gIj, gIr, gJs, gJn, gJi, gJr, gPr, gPi, gPj, hu_s, hu_n, hv_s, hv_n]; done)) | (simp (disch := omega) only [gI_if, gIj, gIr, gJ_if, gJi, gJr, gPr, gPi, gPj, hu_if, hv_if, Nat.reduceEqDiff, eq_self, reduceIte, if_neg, if_pos, and_self]; done) | (simp (disch := omega) only [gI_if, gIj, gIr, gJ_if, gJi, gJr, gPr, gPi, gPj, hu_if, hv_if, Nat.reduceEqDiff, eq_self, reduceIte, if_neg, if_pos, and_self]; split <;> first | rfl | (simp (disch := omega) only [gI_if, gIj, gIr, gJ_if, gJi, gJr, gPr, gPi, gPj, hu_if, hv_if, Nat.reduceEqDiff, eq_self, reduceIte, if_neg, if_pos, and_self]; done))) (by intros; first | rfl | (simp (disch := omega) only [gIs, gIn, gIj, gIr, gJs, gJn, gJi, gJr, gPr, gPi, gPj, hu_s, hu_n, hv_s, hv_n]; done) | (constructor <;> (simp (disch := omega) only [gIs, gIn, gIj, gIr, gJs, gJn, gJi, gJr, gPr, gPi, gPj, hu_s, hu_n, hv_s, hv_n]; done)) | (simp (disch := omega) only [gI_if, gIj, gIr, gJ_if, gJi, gJr, gPr, gPi, gPj, hu_if, hv_if, Nat.reduceEqDiff, eq_self, reduceIte, if_neg, if_pos, and_self]; done) | (simp (disch := omega) only [gI_if, gIj, gIr, gJ_if, gJi, gJr, gPr, gPi, gPj, hu_if, hv_if, Nat.reduceEqDiff, eq_self, reduceIte, if_neg, if_pos, and_self]; split <;> first | rfl | (simp (disch := omega) only [gI_if, gIj, gIr, gJ_if, gJi, gJr, gPr, gPi, gPj, hu_if, hv_if, Nat.reduceEqDiff, eq_self, reduceIte, if_neg, if_pos, and_self]; done))) (by intros; first | rfl | (simp (disch := omega) only [gIs, gIn, gIj, gIr, gJs, gJn, gJi, gJr, gPr, gPi, gPj, hu_s, hu_n, hv_s, hv_n]; done) | (constructor <;> (simp (disch := omega) only [gIs, gIn, gIj, gIr, gJs, gJn, gJi, gJr, gPr, gPi, gPj, hu_s, hu_n, hv_s, hv_n]; done)) | (simp (disch := omega) only [gI_if, gIj, gIr, gJ_if, gJi, gJr, gPr, gPi, gPj, hu_if, hv_if, Nat.reduceEqDiff, eq_self, reduceIte, if_neg, if_pos, and_self]; done) | (simp (disch := omega) only [gI_if, gIj, gIr, gJ_if, gJi, gJr, gPr, gPi, gPj, hu_if, hv_if, Nat.reduceEqDiff, eq_self, reduceIte, if_neg, if_pos, and_self]; split <;> first | rfl | (simp (disch := omega) only [gI_if, gIj, gIr, gJ_if, gJi, gJr, gPr, gPi, gPj, hu_if, hv_if, Nat.reduceEqDiff, eq_self, reduceIte, if_neg, if_pos, and_self]; done))) (by intros; first | rfl | (simp (disch := omega) only [gIs, gIn, gIj, gIr, gJs, gJn, gJi, gJr, gPr, gPi, gPj, hu_s, hu_n, hv_s, hv_n]; done) | (constructor <;> (simp (disch := omega) only [gIs, gIn, gIj, gIr, gJs, gJn, gJi, gJr, gPr, gPi, gPj, hu_s, hu_n, hv_s, hv_n]; done)) | (simp (disch := omega) only [gI_if, gIj, gIr, gJ_if, gJi, gJr, gPr, gPi, gPj, hu_if, hv_if, Nat.reduceEqDiff, eq_self, reduceIte, if_neg, if_pos, and_self]; done) | (simp (disch := omega) only [gI_if, gIj, gIr, gJ_if, gJi, gJr, gPr, gPi, gPj, hu_if, hv_if, Nat.reduceEqDiff, eq_self, reduceIte, if_neg, if_pos, and_self]; split <;> first | rfl | (simp (disch := omega) only [gI_if, gIj, gIr, gJ_if, gJi, gJr, gPr, gPi, gPj, hu_if, hv_if, Nat.reduceEqDiff, eq_self, reduceIte, if_neg, if_pos, and_self]; done))) (by intros; first | rfl | (simp (disch := omega) only [gIs, gIn, gIj, gIr, gJs, gJn, gJi, gJr, gPr, gPi, gPj, hu_s, hu_n, hv_s, hv_n]; done) | (constructor <;> (simp (disch := omega) only [gIs, gIn, gIj, gIr, gJs, gJn, gJi, gJr, gPr, gPi, gPj, hu_s, hu_n, hv_s, hv_n]; done)) | (simp (disch := omega) only [gI_if, gIj, gIr, gJ_if, gJi, gJr, gPr, gPi, gPj, hu_if, hv_if, Nat.reduceEqDiff, eq_self, reduceIte, if_neg, if_pos, and_self]; done) | (simp (disch := omega) only [gI_if, gIj, gIr, gJ_if, gJi, gJr, gPr, gPi, gPj, hu_if, hv_if, Nat.reduceEqDiff, eq_self, reduceIte, if_neg, if_pos, and_self]; split <;> first | rfl | (simp (disch := omega) only [gI_if, gIj, gIr, gJ_if, gJi, gJr, gPr, gPi, gPj, hu_if, hv_if, Nat.reduceEqDiff, eq_self, reduceIte, if_neg, if_pos, and_self]; done))), by simp (disch := omega) only [gIs, gIn, gIj, gIr, gJs, gJn, gJi, gJr, gPr, gPi, gPj, hu_s, hu_n, hv_s, hv_n]; exact f8, fun h => by simp (disch := omega) only [gIs, gIn, gIj, gIr, gJs, gJn, gJi, gJr, gPr, gPi, gPj, hu_s, hu_n, hv_s, hv_n]; exact f9 h, h5, fun i hi => f10 i hi⟩⟩
  have := f3.2.2.2.2.2.2.2.2.2.2.1.1
  rw [this]
  simp (disch := omega) only [gIs, gIn, gIj, gIr, gJs, gJn, gJi, gJr, gPr, gPi, gPj, hu_s, hu_n, hv_s, hv_n]
/-- a timed -/
theorem S_tim {z : Mm × Mm} {n : Nat} {T : Nat → Nat} {sz B e s p c w : Nat} {y : Int32} {u v : Mm} (hn : 5000 ≤ n) (hR : Rm z T sz B e s p c c w u v) (ht : isTm (bv T s p) (bv T s (p + 1)) (bv T s (p + 2))) : jV z (fun K => cSw n y (frm (bv T s p) (bv T s (p + 1)) (bv T s (p + 2))) u K) (fun Q T' => w_X12_readTimed n v (fun v1 => Q (setI v1 0 63 (v1.1 0 49))) T') (LIP z T sz B e s p) := by
  rcases frm_tm ht with ⟨h, -, h1, h2, h3⟩ | ⟨h, h1⟩ | ⟨h, h1⟩
  · rw [h]
    exact jV_cong (fun Q => cSw1) (fun Q T' => rfl) (jV_map (g := fun v1 => setI v1 0 63 (v1.1 0 49)) (S_single hn hR h1 h2 h3) (fun u v h => h.li))
  · rw [h]
    exact jV_cong (fun Q => cSw2) (fun Q T' => rfl) (jV_map (g := fun v1 => setI v1 0 63 (v1.1 0 49)) (S_group hn hR h1) (fun u v h => h.li))
  · rw [h]
    exact jV_cong (fun Q => cSw3) (fun Q T' => rfl) (jV_map (g := fun v1 => setI v1 0 63 (v1.1 0 49)) (S_rest hn hR h1) (fun u v h => h.li))
