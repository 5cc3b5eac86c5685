/-! pure: equations of the reference's small methods -/
theorem mlet_iff {σ : Mm} {f : Mm → Prop} : mlet σ f ↔ f σ := Iff.rfl
theorem ilet_iff {x : Int32} {f : Int32 → Prop} : ilet x f ↔ f x := Iff.rfl
theorem jlet_iff {x : Int64} {f : Int64 → Prop} : jlet x f ↔ f x := Iff.rfl
theorem br_pos {c A B : Prop} (h : c) : ((c → A) ∧ (¬ c → B)) ↔ A := ⟨fun z => z.1 h, fun a => ⟨fun _ => a, fun n => absurd h n⟩⟩
theorem br_neg {c A B : Prop} (h : ¬ c) : ((c → A) ∧ (¬ c → B)) ↔ B := ⟨fun z => z.2 h, fun b => ⟨fun n => absurd n h, fun _ => b⟩⟩
theorem br_pos' {c A B : Prop} (h : c) : ((¬ c → B) ∧ (c → A)) ↔ A := ⟨fun z => z.2 h, fun a => ⟨fun n => absurd h n, fun _ => a⟩⟩
theorem br_neg' {c A B : Prop} (h : ¬ c) : ((¬ c → B) ∧ (c → A)) ↔ B := ⟨fun z => z.1 h, fun b => ⟨fun _ => b, fun n => absurd n h⟩⟩
theorem and_pos {c A : Prop} (h : c) : (c ∧ A) ↔ A := ⟨fun z => z.2, fun a => ⟨h, a⟩⟩
theorem nb0 : narrow .boolean (.int 0) = .int 0 := rfl
theorem nb1 : narrow .boolean (.int 1) = .int 1 := rfl
def bI (c : Prop) [Decidable c] : Int32 := if c then 1 else 0
theorem q_in {n : Nat} {x lo hi : Int64} {u : Mm} {Q : Int32 → Mm → Prop} {T : Mm → Prop} : w_X12_in n x lo hi u Q T ↔ Q (bI (lo ≤ x ∧ x ≤ hi)) u := by
  unfold w_X12_in w_X12_in_17 w_X12_in_18 bI
  by_cases h1 : lg_cmp x lo < 0
  · rw [br_pos h1, and_pos nb0]
    have h2 : ¬ (lo ≤ x ∧ x ≤ hi) := fun z => absurd ((lg_cmp_ge x lo).mpr z.1) (Int32.not_le.mpr h1)
    rw [if_neg h2]
  · rw [br_neg h1]
    have h3 : lo ≤ x := (lg_cmp_ge x lo).mp (Int32.not_lt.mp h1)
    by_cases h2 : 0 < lg_cmp x hi
    · rw [br_pos h2, and_pos nb0]
      have h4 : ¬ (lo ≤ x ∧ x ≤ hi) := fun z => absurd ((lg_cmp_le x hi).mpr z.2) (Int32.not_le.mpr h2)
      rw [if_neg h4]
    · rw [br_neg h2, and_pos nb1]
      rw [if_pos ⟨h3, (lg_cmp_le x hi).mp (Int32.not_lt.mp h2)⟩]
/-- what stands at place k of the line at hand, 10 behind its end -/
def pk (u : Mm) (k : Int32) : Int32 := if u.1 0 9 ≤ k then 10 else u.1 3 (ix k) &&& 255
theorem q_peek {n : Nat} {k : Int32} {u : Mm} {Q : Int32 → Mm → Prop} {T : Mm → Prop} (h : vp_in k 2420) : w_X12_peek n k u Q T ↔ Q (pk u k) u := by
  unfold w_X12_peek w_X12_peek_23 pk
  by_cases h1 : u.1 0 9 ≤ k
  · rw [br_pos h1, if_pos h1]
  · rw [br_neg h1, and_pos h, if_neg h1]
theorem q_here {n : Nat} {u : Mm} {Q : Int32 → Mm → Prop} {T : Mm → Prop} (h : vp_in (u.1 0 7) 2420) : w_X12_here n u Q T ↔ Q (pk u (u.1 0 7)) u := by
  unfold w_X12_here
  rw [q_peek h]
theorem q_is {n : Nat} {c : Int32} {u : Mm} {Q : Int32 → Mm → Prop} {T : Mm → Prop} (h : vp_in (u.1 0 7) 2420) : w_X12_is n c u Q T ↔ Q (bI (pk u (u.1 0 7) = c)) u := by
  unfold w_X12_is w_X12_is_13 bI
  rw [q_here h]
  by_cases h1 : pk u (u.1 0 7) = c
  · rw [br_pos' h1, and_pos nb1, if_pos h1]
  · rw [br_neg' h1, and_pos nb0, if_neg h1]
theorem q_fail {n : Nat} {a b : Int32} {u : Mm} {Q T : Mm → Prop} : w_X12_fail n a b u Q T ↔ T (setI (setI u 1 6 a) 1 7 b) := Iff.rfl
