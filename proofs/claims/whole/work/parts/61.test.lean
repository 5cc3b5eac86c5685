theorem tt1 (a : Int32) (h1 : 0 ≤ a.toInt) (h2 : a.toInt < 1000) : (a+1).toInt = a.toInt + 1 := by
  rw [Int32.toInt_add]; simp; omega
theorem tt2 (a : Int32) (h1 : 0 ≤ a) (h2 : a < 1000) : a < a + 1 := by
  grind
theorem tt3 (u : Mm) (x : Int32) : (setI u 33 2 x).1 33 6 = u.1 33 6 := by
  simp [setI]
theorem tt4 (u : Mm) (x : Int32) : (setI u 33 2 x).1 46 = u.1 46 := rfl
theorem tt5 (u : Mm) (x : Int32) (w : Nat) (hw : w < 3) : (setI u (50+w) 2 x).1 46 = u.1 46 := by
  simp [setI]
theorem tt6 (u : Mm) (x y : Int32) : (setI (setI u 33 2 x) 33 2 y) = setI u 33 2 y := by
  grind [setI]
theorem tt7 (u : Mm) (x y : Int32) : (setI (setI u 33 2 x) 33 2 y) = setI u 33 2 y := by
  simp only [setI]; congr 1; funext a c; simp; intros; simp_all
theorem tt8 (a b : Nat) (h : a < 1000) (h2 : b < 1000) (h3 : nI a < nI b) : a < b := by
  grind [nI]
theorem tt9 (a : Nat) (h : a < 127) (h3 : nI a = 58) : a = 58 := by
  grind [nI]
theorem tt10 (a : Nat) (h : a < 127) (h3 : ¬ nI a < 48) (h4 : ¬ 57 < nI a): 48 ≤ a ∧ a ≤ 57 := by
  grind [nI]
theorem tt11 : (0 : Int32) = nI 0 := rfl
theorem tt12 : (58 : Int32) = nI 58 := rfl
theorem tt13 (a : Nat) : nI a + 1 = nI (a + 1) := by
  grind [nI]
theorem tt14 (u : Mm) (x y : Int32) : (setI (setI u 33 2 x) 38 2 y) = setI (setI u 38 2 y) 33 2 x := by
  grind [setI]
theorem tt15 (A B C D: Prop) (c d : Prop) (h : c) : (((c → (d → A) ∧ (¬ d → B)) ∧ (¬ c → C))) = if d then A else B := by
  grind
theorem tt16 (n : Nat) (u : Mm) (Q : Int32 → Mm → Prop) (b : Nat → Nat) (p s : Nat) (h1 : u.1 33 2 = nI p) (h2 : u.1 33 4 = nI s) (h3 : p < s) (h4 : s ≤ 1300) (h5 : u.1 (u.2.2 1) p = nI (b p)) (h6 : b p ≤ 126) : w_X5_peek n 0 u Q ↔ Q (nI (b p)) u := by
  unfold w_X5_peek w_X5_peek_41 w_X5_peek_42 ilet
  rw [h1, h2]
  rw [br_neg (by grind [nI]), br_neg (by grind [nI]), br_neg (by grind [nI]), and_pos (by rw [vp_in_iff]; grind [nI])]
  rw [Int32.add_zero, nI_clamp (by omega), h5]
  have : nI (b p) &&& 255 = nI (b p) := by
    rw [pk_andN (by omega) 8 rfl]; rw [Nat.mod_eq_of_lt (by omega)]
  rw [this]
