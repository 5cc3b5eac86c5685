/-! the relation between the two memories while the body is read -/
def sbv (c : Nat) : Int32 := (nI c).toInt8.toInt32
theorem sbv_lo : ∀ c, c < 128 → sbv c = nI c := by decide +kernel
theorem sbv_and {c : Nat} (h : c < 256) : sbv c &&& 255 = nI c := sc_k8 c h
/-- whether what stands at i is passed over, by a % ahead of it in its line -/
def ps (T : Nat → Nat) : Nat → Bool
  | 0 => false
  | i + 1 => if T i = 10 then false else if T i = 37 then true else ps T i
def cln (T : Nat → Nat) (sz : Nat) : Prop := ∀ i, i < sz → ps T i = false → T i = 10 ∨ T i = 37 ∨ (32 ≤ T i ∧ T i ≤ 126)
def eK (z : Mm × Mm) (u v : Mm) : Prop := jKc z.1 u ∧ jKm z.2 v ∧ u.1 33 6 = 0
def eT (T : Nat → Nat) (sz B : Nat) (u v : Mm) : Prop := sz ≤ 1300 ∧ (B = 41 ∨ B = 42) ∧ u.2.2 1 = B ∧ u.1 33 1 = nI sz ∧ v.1 0 6 = nI sz ∧ (∀ i, i < sz → u.1 B i = sbv (T i) ∧ v.1 3 i = sbv (T i) ∧ T i < 256)
def eL (T : Nat → Nat) (sz e s p : Nat) (u v : Mm) : Prop := u.1 33 2 = nI p ∧ u.1 33 4 = nI s ∧ u.1 33 5 = nI (e + 1) ∧ v.1 0 7 = nI p ∧ v.1 0 9 = nI s ∧ v.1 0 8 = nI e ∧ p ≤ s ∧ s ≤ e ∧ e ≤ sz ∧ (∀ i, p ≤ i → i < s → 32 ≤ T i ∧ T i ≤ 126)
def okUn (k : Nat) : Prop := k = 1 ∨ k = 2 ∨ k = 4 ∨ k = 8 ∨ k = 16 ∨ k = 32 ∨ k = 64
def okMt (a b : Nat) : Prop := (a = 0 ∧ b = 0) ∨ (1 ≤ a ∧ a ≤ 32 ∧ (b = 1 ∨ b = 2 ∨ b = 4 ∨ b = 8 ∨ b = 16 ∨ b = 32))
def eC (c : Nat) (u v : Mm) : Prop := u.1 36 3 = nI c ∧ v.1 0 27 = nI c ∧ c ≤ 400 ∧ (∀ i, i < c → (∀ w, w < 17 → u.1 46 (19 * i + w) = v.1 6 (17 * i + w)) ∧ u.2.1 47 i = v.2.1 7 i ∧ u.2.1 48 i = v.2.1 8 i ∧ u.1 46 (19 * i + 17) = v.1 9 i ∧ u.1 46 (19 * i + 18) = (if v.1 6 (17 * i + 6) = v.1 10 i then 0 else 1))
/-- what is told of finished things: times, units, letters, octaves, signs of notes -/
def eD (c : Nat) (v : Mm) : Prop := ∀ i, i < c → (∃ k, v.1 9 i = nI k ∧ okUn k) ∧ (v.1 6 (17 * i) = 0 → (∃ t : Nat, v.2.1 7 i = lN t ∧ 1 ≤ t ∧ t ≤ 10321920) ∧ (∃ l : Nat, v.1 6 (17 * i + 4) = nI l ∧ l < 7) ∧ (-2 ≤ (v.1 6 (17 * i + 5)).toInt ∧ (v.1 6 (17 * i + 5)).toInt ≤ 9) ∧ (-2 ≤ (v.1 6 (17 * i + 6)).toInt ∧ (v.1 6 (17 * i + 6)).toInt ≤ 2))
def rlW (a b : Int64) : Prop := (b = -1 ∧ a = 0) ∨ (b = a ∧ 0 < a)
def eM (u v : Mm) : Prop := ∀ w, w < 3 → ∃ m so : Nat, m ≤ 300 ∧ so ≤ 1 ∧ so ≤ m ∧ u.1 (50 + w) 4 = nI m ∧ v.1 19 w = nI m ∧ u.1 (50 + w) 5 = nI so ∧ v.1 18 w = nI so ∧ v.1 17 w = nI (m - so) ∧ u.2.1 (50 + w) 6 = v.2.1 16 w ∧ (∀ j, j < m → u.2.1 (53 + w) j = v.2.1 20 (300 * w + j) ∧ rlW (u.2.1 (56 + w) j) (v.2.1 21 (300 * w + j)))
def eU (u v : Mm) : Prop := ∀ w, w < 3 → (u.1 (50 + w) 7 = v.1 12 w ∧ -7 ≤ (v.1 12 w).toInt ∧ (v.1 12 w).toInt ≤ 7) ∧ (∃ a b : Nat, u.1 (50 + w) 8 = nI a ∧ v.1 13 w = nI a ∧ u.1 (50 + w) 9 = nI b ∧ v.1 14 w = nI b ∧ okMt a b) ∧ (∃ k : Nat, u.1 (50 + w) 10 = nI k ∧ v.1 15 w = nI k ∧ okUn k)
def rlS (a b : Int32) : Prop := (a = 0 ∧ b = 100) ∨ (∃ j : Nat, 1 ≤ j ∧ j ≤ 5 ∧ a = nI j ∧ b = nI j - 3)
def okS (b : Int32) : Prop := b = 100 ∨ (∃ j : Nat, 1 ≤ j ∧ j ≤ 5 ∧ b = nI j - 3)
def eS (u v : Mm) : Prop := ∀ w, w < 3 → (v.1 0 2 = 0 → ∀ l, l < 7 → rlS (u.1 (59 + w) l) (v.1 22 (448 * w + 64 * l))) ∧ (v.1 0 2 ≠ 0 → ∀ l o, l < 7 → o < 12 → rlS (u.1 (59 + w) (7 * o + l)) (v.1 22 (448 * w + 64 * l + o + 18))) ∧ (u.1 (50 + w) 3 = 0 → ∀ j, j < 84 → u.1 (59 + w) j = 0) ∧ (∀ k, k < 448 → okS (v.1 22 (448 * w + k)))
def eI (c : Nat) (u v : Mm) : Prop := ∀ w, w < 3 → (u.1 (50 + w) 11 = 1 ∧ ∃ f k : Nat, u.1 (50 + w) 12 = nI f ∧ u.1 (50 + w) 13 = nI k ∧ v.1 23 w = nI f ∧ f + k ≤ c ∧ 1 ≤ k ∧ (∀ i, f ≤ i → i < f + k → v.1 6 (17 * i) = 0) ∧ v.1 6 (17 * f + 8) = 1 ∧ v.1 6 (17 * f + 9) = nI k) ∨ (u.1 (50 + w) 11 = 0 ∧ (v.1 23 w = -1 ∨ ∃ f : Nat, f < c ∧ v.1 23 w = nI f ∧ (v.1 6 (17 * f) ≠ 0 ∨ v.1 6 (17 * f + 8) ≠ 1)))
def eW (w : Nat) (u v : Mm) : Prop := w < 3 ∧ u.1 38 9 = nI (w + 1) ∧ v.1 0 28 = nI w ∧ u.2.2 2 = 50 + w ∧ (∃ mv : Nat, u.1 43 8 = nI mv ∧ v.1 0 29 = nI mv ∧ 1 ≤ mv ∧ mv ≤ 3) ∧ u.1 35 0 = v.1 0 2 ∧ (v.1 0 2 = 0 ∨ v.1 0 2 = 1)
def eN (u v : Mm) : Prop := u.1 39 0 = v.1 0 42 ∧ u.1 39 1 = v.1 0 43 ∧ u.1 39 2 = v.1 0 44 ∧ (∃ so : Nat, so ≤ 4 ∧ u.1 38 11 = nI so ∧ v.1 0 45 = nI so) ∧ (∃ tl tq tp : Nat, tl ≤ 9 ∧ u.1 39 3 = nI tl ∧ v.1 0 46 = nI tl ∧ (0 < tl → 1 ≤ tq ∧ tq ≤ 9 ∧ 2 ≤ tp ∧ tp ≤ 9 ∧ u.1 39 4 = nI tq ∧ v.1 0 48 = nI tq ∧ u.1 39 5 = nI tp ∧ v.1 0 47 = nI tp)) ∧ (∃ a b : Nat, 1 ≤ a ∧ a ≤ 15 ∧ (b = 1 ∨ b = 2 ∨ b = 4 ∨ b = 8) ∧ u.1 39 6 = nI a ∧ v.1 0 59 = nI a ∧ u.1 39 7 = nI b ∧ v.1 0 60 = nI b)
/-- the latest timed of the text -/
def eB (c : Nat) (u v : Mm) : Prop := u.1 38 12 = v.1 0 63 ∧ (v.1 0 63 = -1 ∨ ∃ f : Nat, f < c ∧ v.1 0 63 = nI f ∧ v.1 6 (17 * f) ≠ 4)
/-- what the bars between measures tell -/
def wbr (g k e : Int32) : Int32 :=
  let g1 : Int32 := if k = 4 ∨ k = 6 then g ||| 1 else g
  let g2 : Int32 := if k = 5 ∨ k = 6 then g1 ||| 2 else g1
  let g3 : Int32 := if k ≠ 0 ∨ e ≠ 0 then g2 ||| 4 else g2
  if e ≠ 0 then (g3 &&& (7 : Int32)) ||| (e <<< ((3 : Int32) &&& 31)) else g3
def gapOf (th em : Nat → Int32) : Nat → Nat → Int32
  | 0, _ => 0
  | t + 1, k => if th (17 * t) = 4 ∧ th (17 * t + 1) = 1 ∧ th (17 * t + 2) + em t = nI k then wbr (gapOf th em t k) (th (17 * t + 3)) (th (17 * t + 15)) else gapOf th em t k
def eG (c : Nat) (u v : Mm) : Prop := (∀ k, k ≤ 300 → u.1 62 k = gapOf (v.1 6) (v.1 11) c k) ∧ (∀ t, t < c → v.1 6 (17 * t) = 4 → v.1 6 (17 * t + 1) = 1 → ((∃ k : Nat, k ≤ 300 ∧ v.1 6 (17 * t + 2) + v.1 11 t = nI k) ∧ (v.1 11 t = 0 ∨ v.1 11 t = 1) ∧ (∃ k : Nat, k ≤ 300 ∧ v.1 6 (17 * t + 2) = nI k) ∧ (∃ k : Nat, k ≤ 7 ∧ v.1 6 (17 * t + 3) = nI k) ∧ (∃ k : Nat, k ≤ 4 ∧ v.1 6 (17 * t + 15) = nI k)))
def eH (sz : Nat) (u v : Mm) : Prop := u.1 43 0 = v.1 0 12 ∧ (∃ tt : Nat, tt ≤ 3 ∧ u.1 35 8 = nI tt ∧ v.1 0 13 = nI tt ∧ ∀ i, i < tt → ∃ a b : Nat, u.1 44 i = nI a ∧ v.1 4 i = nI a ∧ u.1 45 i = nI b ∧ v.1 5 i = nI b ∧ a + b ≤ sz) ∧ u.1 43 2 = v.1 0 16 ∧ u.1 43 3 = v.1 0 17 ∧ u.1 43 4 = v.1 0 18 ∧ u.1 43 5 = v.1 0 19 ∧ u.1 43 6 = v.1 0 20
/-! what leaves a group as it is -/
theorem eC.cg {c : Nat} {u v u' v' : Mm} (h : eC c u v) (h1 : u'.1 36 3 = u.1 36 3) (h2 : u'.1 46 = u.1 46) (h3 : u'.2.1 47 = u.2.1 47) (h4 : u'.2.1 48 = u.2.1 48) (k1 : v'.1 0 27 = v.1 0 27) (k2 : v'.1 6 = v.1 6) (k3 : v'.2.1 7 = v.2.1 7) (k4 : v'.2.1 8 = v.2.1 8) (k5 : v'.1 9 = v.1 9) (k6 : v'.1 10 = v.1 10) : eC c u' v' := by
  unfold eC; rw [h1, h2, h3, h4, k1, k2, k3, k4, k5, k6]; exact h
theorem eD.cg {c : Nat} {v v' : Mm} (h : eD c v) (k2 : v'.1 6 = v.1 6) (k3 : v'.2.1 7 = v.2.1 7) (k5 : v'.1 9 = v.1 9) : eD c v' := by
  unfold eD; rw [k2, k3, k5]; exact h
theorem eT.cg {T : Nat → Nat} {sz B : Nat} {u v u' v' : Mm} (h : eT T sz B u v) (h1 : u'.2.2 1 = u.2.2 1) (h2 : u'.1 33 1 = u.1 33 1) (h3 : u'.1 41 = u.1 41) (h4 : u'.1 42 = u.1 42) (k1 : v'.1 0 6 = v.1 0 6) (k2 : v'.1 3 = v.1 3) : eT T sz B u' v' := by
  have hB : u'.1 B = u.1 B := by rcases h.2.1 with e | e <;> rw [e] <;> assumption
  unfold eT; rw [h1, h2, hB, k1, k2]; exact h
theorem eM.cg {u v u' v' : Mm} (h : eM u v) (h1 : ∀ q, 50 ≤ q → q ≤ 52 → u'.1 q 4 = u.1 q 4 ∧ u'.1 q 5 = u.1 q 5) (h2 : ∀ q, 50 ≤ q → q ≤ 58 → u'.2.1 q = u.2.1 q) (k1 : v'.1 19 = v.1 19) (k2 : v'.1 18 = v.1 18) (k3 : v'.1 17 = v.1 17) (k4 : v'.2.1 16 = v.2.1 16) (k5 : v'.2.1 20 = v.2.1 20) (k6 : v'.2.1 21 = v.2.1 21) : eM u' v' := by
  intro w hw
  have := h w hw
  rw [(h1 (50 + w) (by omega) (by omega)).1, (h1 (50 + w) (by omega) (by omega)).2, h2 (50 + w) (by omega) (by omega), h2 (53 + w) (by omega) (by omega), h2 (56 + w) (by omega) (by omega), k1, k2, k3, k4, k5, k6]
  exact this
theorem eU.cg {u v u' v' : Mm} (h : eU u v) (h1 : ∀ q k, 50 ≤ q → q ≤ 52 → 7 ≤ k → k ≤ 10 → u'.1 q k = u.1 q k) (k1 : v'.1 12 = v.1 12) (k2 : v'.1 13 = v.1 13) (k3 : v'.1 14 = v.1 14) (k4 : v'.1 15 = v.1 15) : eU u' v' := by
  intro w hw
  have := h w hw
  rw [h1 (50 + w) 7 (by omega) (by omega) (by omega) (by omega), h1 (50 + w) 8 (by omega) (by omega) (by omega) (by omega), h1 (50 + w) 9 (by omega) (by omega) (by omega) (by omega), h1 (50 + w) 10 (by omega) (by omega) (by omega) (by omega), k1, k2, k3, k4]
  exact this
theorem eS.cg {u v u' v' : Mm} (h : eS u v) (h1 : ∀ q, 50 ≤ q → q ≤ 52 → u'.1 q 3 = u.1 q 3) (h2 : ∀ q, 59 ≤ q → q ≤ 61 → u'.1 q = u.1 q) (k1 : v'.1 0 2 = v.1 0 2) (k2 : v'.1 22 = v.1 22) : eS u' v' := by
  intro w hw
  have := h w hw
  rw [h1 (50 + w) (by omega) (by omega), h2 (59 + w) (by omega) (by omega), k1, k2]
  exact this
theorem eI.cg {c : Nat} {u v u' v' : Mm} (h : eI c u v) (h1 : ∀ q k, 50 ≤ q → q ≤ 52 → 11 ≤ k → k ≤ 13 → u'.1 q k = u.1 q k) (k1 : v'.1 23 = v.1 23) (k2 : v'.1 6 = v.1 6) : eI c u' v' := by
  intro w hw
  have := h w hw
  rw [h1 (50 + w) 11 (by omega) (by omega) (by omega) (by omega), h1 (50 + w) 12 (by omega) (by omega) (by omega) (by omega), h1 (50 + w) 13 (by omega) (by omega) (by omega) (by omega), k1, k2]
  exact this
theorem eW.cg {w : Nat} {u v u' v' : Mm} (h : eW w u v) (h1 : u'.1 38 9 = u.1 38 9) (h2 : u'.2.2 2 = u.2.2 2) (h3 : u'.1 43 8 = u.1 43 8) (h4 : u'.1 35 0 = u.1 35 0) (k1 : v'.1 0 28 = v.1 0 28) (k2 : v'.1 0 29 = v.1 0 29) (k3 : v'.1 0 2 = v.1 0 2) : eW w u' v' := by
  unfold eW; rw [h1, h2, h3, h4, k1, k2, k3]; exact h
theorem eN.cg {u v u' v' : Mm} (h : eN u v) (h1 : u'.1 39 = u.1 39) (h2 : u'.1 38 11 = u.1 38 11) (k1 : ∀ k, (42 ≤ k ∧ k ≤ 48) ∨ k = 59 ∨ k = 60 → v'.1 0 k = v.1 0 k) : eN u' v' := by
  unfold eN
  rw [h1, h2, k1 42 (by omega), k1 43 (by omega), k1 44 (by omega), k1 45 (by omega), k1 46 (by omega), k1 47 (by omega), k1 48 (by omega), k1 59 (by omega), k1 60 (by omega)]; exact h
theorem eB.cg {c : Nat} {u v u' v' : Mm} (h : eB c u v) (h1 : u'.1 38 12 = u.1 38 12) (k1 : v'.1 0 63 = v.1 0 63) (k2 : v'.1 6 = v.1 6) : eB c u' v' := by
  unfold eB; rw [h1, k1, k2]; exact h
theorem eG.cg {c : Nat} {u v u' v' : Mm} (h : eG c u v) (h1 : u'.1 62 = u.1 62) (k1 : v'.1 6 = v.1 6) (k2 : v'.1 11 = v.1 11) : eG c u' v' := by
  unfold eG; rw [h1, k1, k2]; exact h
theorem eH.cg {sz : Nat} {u v u' v' : Mm} (h : eH sz u v) (h1 : ∀ k, k ≤ 6 → u'.1 43 k = u.1 43 k) (h2 : u'.1 35 8 = u.1 35 8) (h3 : u'.1 44 = u.1 44) (h4 : u'.1 45 = u.1 45) (k1 : ∀ k, 12 ≤ k → k ≤ 20 → v'.1 0 k = v.1 0 k) (k2 : v'.1 4 = v.1 4) (k3 : v'.1 5 = v.1 5) : eH sz u' v' := by
  unfold eH
  rw [h1 0 (by omega), h1 2 (by omega), h1 3 (by omega), h1 4 (by omega), h1 5 (by omega), h1 6 (by omega), h2, h3, h4, k1 12 (by omega) (by omega), k1 13 (by omega) (by omega), k1 16 (by omega) (by omega), k1 17 (by omega) (by omega), k1 18 (by omega) (by omega), k1 19 (by omega) (by omega), k1 20 (by omega) (by omega), k2, k3]; exact h
