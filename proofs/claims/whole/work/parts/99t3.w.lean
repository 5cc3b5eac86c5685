/-! octaves written -/
theorem le_i {x y : Int32} {a b : Int} (hx : x.toInt = a) (hy : y.toInt = b) : x ≤ y ↔ a ≤ b := by
  rw [Int32.le_iff_toInt_le, hx, hy]
theorem add_1 {x : Int32} {a : Int} (hx : x.toInt = a) (h : -100 ≤ a ∧ a ≤ 100) : (x + 1).toInt = a + 1 := by
  rw [i32_add (by rw [hx, show (1 : Int32).toInt = 1 from rfl]; clear hx; omega) (by rw [hx, show (1 : Int32).toInt = 1 from rfl]; clear hx; omega), hx]
  rfl
theorem add_m {x : Int32} {a : Int} (hx : x.toInt = a) (h : -100 ≤ a ∧ a ≤ 100) : (x + -1).toInt = a + -1 := by
  rw [i32_add (by rw [hx, show (-1 : Int32).toInt = -1 from rfl]; clear hx; omega) (by rw [hx, show (-1 : Int32).toInt = -1 from rfl]; clear hx; omega), hx]
  rfl
/-- commas -/
theorem comS {n : Nat} {b x2 : Int32} {N M : Int64} {z : Int} (hz : -2 ≤ z ∧ z ≤ 9) (hx2 : x2.toInt = z) : ∀ (d k k' m : Nat) (x4 x14 : Int32) (u v : Mm), d ≤ 6 → d < k → d < k' → m + d < 24 → x4.toInt = z + d → x14.toInt = 4 - d → WR m u v → ∃ u' v', (∀ Q, w_X9_writeLetter_61 n Q k x2 x4 u = Q u') ∧ (∀ Q T', w_X12_written_285 n Q T' k' b N M x14 v = w_X12_written_285 n Q T' (k' - d) b N M 4 v') ∧ WP (m + d) u v u' v' := by
  have t44 : (44 : Int32) = nI 44 := rfl
  intro d
  induction d with
  | zero =>
    intro k k' m x4 x14 u v hd hk hk' hm h4 h14 hW
    obtain ⟨k, rfl⟩ : ∃ k1, k = k1 + 1 := ⟨k - 1, by clear h4 h14 hx2; omega⟩
    have hle : x4 ≤ x2 := (le_i h4 hx2).mpr (by clear h4 h14 hx2; omega)
    have h4' : x14 = 4 := Int32.toInt_inj.mp (h14.trans rfl)
    refine ⟨u, v, fun Q => ?_, fun Q T' => ?_, hW, wF.refl, vF.refl⟩
    · rw [w_X9_writeLetter_61, br_if, if_pos hle]
    · rw [h4']; rfl
  | succ d ih =>
    intro k k' m x4 x14 u v hd hk hk' hm h4 h14 hW
    obtain ⟨k, rfl⟩ : ∃ k1, k = k1 + 1 := ⟨k - 1, by clear h4 h14 hx2; omega⟩
    obtain ⟨k', rfl⟩ : ∃ k1, k' = k1 + 1 := ⟨k' - 1, by clear h4 h14 hx2; omega⟩
    obtain ⟨u1, v1, a1, a2, a3⟩ := putS (n := n) (x := 44) hW (by clear h4 h14 hx2; omega) (by clear h4 h14 hx2; omega)
    have hle : ¬ x4 ≤ x2 := fun y => absurd ((le_i h4 hx2).mp y) (by clear h4 h14 hx2; omega)
    have hle2 : ¬ (4 : Int32) ≤ x14 := fun y => absurd ((le_i (show (4 : Int32).toInt = 4 from rfl) h14).mp y) (by clear h4 h14 hx2; omega)
    have s4 : (x4 + -1).toInt = z + d := (add_m h4 (by clear h4 h14 hx2; omega)).trans (by clear h4 h14 hx2; omega)
    have s14 : (x14 + 1).toInt = 4 - d := (add_1 h14 (by clear s4 h4 h14 hx2; omega)).trans (by clear s4 h4 h14 hx2; omega)
    obtain ⟨u', v', b1, b2, b3⟩ := ih k k' (m + 1) (x4 + -1) (x14 + 1) u1 v1 (by clear s4 s14 h4 h14 hx2; omega) (by clear s4 s14 h4 h14 hx2; omega) (by clear s4 s14 h4 h14 hx2; omega) (by clear s4 s14 h4 h14 hx2; omega) s4 s14 a3.1
    clear s4 s14 h4 h14
    refine ⟨u', v', fun Q => ?_, fun Q T' => ?_, ?_⟩
    · rw [w_X9_writeLetter_61, br_if, if_neg hle, t44, a1, b1]
    · rw [w_X12_written_285, br_if, if_neg hle2, t44, a2, b2, show k' + 1 - (d + 1) = k' - d from by clear hx2; omega]
    · have := a3.trans b3
      rw [show m + 1 + d = m + (d + 1) from by clear hx2; omega] at this
      exact this
/-- apostrophes -/
theorem apoS {n : Nat} {b x2 : Int32} {N M : Int64} {z : Int} (hz : -2 ≤ z ∧ z ≤ 9) (hx2 : x2.toInt = z) : ∀ (d k k' m : Nat) (x4 x14 : Int32) (u v : Mm), d ≤ 4 → d < k → d < k' → m + d < 24 → x4.toInt = z - d → x14.toInt = 5 + d → WR m u v → ∃ u' v', (∀ Q, w_X9_writeLetter_40 n Q k x2 x4 u = w_X9_writeLetter_61 n Q n x2 4 u') ∧ (∀ Q T', w_X12_written_263 n Q T' k' b N M x2 x14 v = w_X12_written_285 n Q T' n b N M x2 v') ∧ WP (m + d) u v u' v' := by
  have t39 : (39 : Int32) = nI 39 := rfl
  intro d
  induction d with
  | zero =>
    intro k k' m x4 x14 u v hd hk hk' hm h4 h14 hW
    obtain ⟨k, rfl⟩ : ∃ k1, k = k1 + 1 := ⟨k - 1, by clear h4 h14 hx2; omega⟩
    obtain ⟨k', rfl⟩ : ∃ k1, k' = k1 + 1 := ⟨k' - 1, by clear h4 h14 hx2; omega⟩
    have hle : x2 ≤ x4 := (le_i hx2 h4).mpr (by clear h4 h14 hx2; omega)
    have hle2 : x14 ≤ (5 : Int32) := (le_i h14 (show (5 : Int32).toInt = 5 from rfl)).mpr (by clear h4 h14 hx2; omega)
    refine ⟨u, v, fun Q => ?_, fun Q T' => ?_, hW, wF.refl, vF.refl⟩
    · rw [w_X9_writeLetter_40, br_if, if_pos hle]
    · rw [w_X12_written_263, br_if, if_pos hle2]
  | succ d ih =>
    intro k k' m x4 x14 u v hd hk hk' hm h4 h14 hW
    obtain ⟨k, rfl⟩ : ∃ k1, k = k1 + 1 := ⟨k - 1, by clear h4 h14 hx2; omega⟩
    obtain ⟨k', rfl⟩ : ∃ k1, k' = k1 + 1 := ⟨k' - 1, by clear h4 h14 hx2; omega⟩
    obtain ⟨u1, v1, a1, a2, a3⟩ := putS (n := n) (x := 39) hW (by clear h4 h14 hx2; omega) (by clear h4 h14 hx2; omega)
    have hle : ¬ x2 ≤ x4 := fun y => absurd ((le_i hx2 h4).mp y) (by clear h4 h14 hx2; omega)
    have hle2 : ¬ x14 ≤ (5 : Int32) := fun y => absurd ((le_i h14 (show (5 : Int32).toInt = 5 from rfl)).mp y) (by clear h4 h14 hx2; omega)
    have s4 : (x4 + 1).toInt = z - d := (add_1 h4 (by clear h4 h14 hx2; omega)).trans (by clear h4 h14 hx2; omega)
    have s14 : (x14 + -1).toInt = 5 + d := (add_m h14 (by clear s4 h4 h14 hx2; omega)).trans (by clear s4 h4 h14 hx2; omega)
    obtain ⟨u', v', b1, b2, b3⟩ := ih k k' (m + 1) (x4 + 1) (x14 + -1) u1 v1 (by clear s4 s14 h4 h14 hx2; omega) (by clear s4 s14 h4 h14 hx2; omega) (by clear s4 s14 h4 h14 hx2; omega) (by clear s4 s14 h4 h14 hx2; omega) s4 s14 a3.1
    clear s4 s14 h4 h14
    refine ⟨u', v', fun Q => ?_, fun Q T' => ?_, ?_⟩
    · rw [w_X9_writeLetter_40, br_if, if_neg hle, t39, a1, b1]
    · rw [w_X12_written_263, br_if, if_neg hle2, t39, a2, b2]
    · have := a3.trans b3
      rw [show m + 1 + d = m + (d + 1) from by clear hx2; omega] at this
      exact this
