/-! rows of memory -/
theorem xfk_lt {ci f : Nat} (h : (xfk ci f).1 < 9) : f < xnF ci := by
  rcases Nat.lt_or_ge f (xnF ci) with h1 | h1
  · exact h1
  · have h2 : xfk ci f = (9, 0) := by unfold xfk; rw [List.getD_eq_getElem?_getD, List.getElem?_eq_none h1]; rfl
    rw [h2] at h
    exact absurd h (by decide)
theorem xfs_get {g : Gb} {σ : Mm} {q ci f : Nat} (h : f < xnF ci) : (xfs g σ q ci)[f]? = some (xfv (gR g) σ q ci f) := by
  simp [xfs, h]
theorem xfs_len (g : Gb) (σ : Mm) (q ci : Nat) : (xfs g σ q ci).length = xnF ci := by simp [xfs]
theorem xent_o {g : Gb} {σ : Mm} {q ci n : Nat} (h : xlay q = (0, ci, n)) : xent g σ q = .inr (ci, xfs g σ q ci) := by simp [xent, h]
theorem xent_i {g : Gb} {σ : Mm} {q t n : Nat} (h : xlay q = (1, t, n)) (ht : t ≠ 3) : xent g σ q = .inl (gA g t, n, .inl (σ.1 q)) := by
  unfold xent
  rw [h]
  split
  · rename_i e; cases e
  · rename_i e; injection e with _ e; injection e with e _; exact absurd e ht
  · rename_i e; injection e with _ e; injection e with e1 e2; subst e1; subst e2; rfl
  · rename_i e; injection e with e _; cases e
  · rename_i h1 h2 h3 h4; exact absurd rfl (h3 t n)
theorem xent_j {g : Gb} {σ : Mm} {q n : Nat} (h : xlay q = (1, 3, n)) : xent g σ q = .inl (gA g 3, n, .inr (.inl (σ.2.1 q))) := by simp [xent, h]
theorem xent_v {g : Gb} {σ : Mm} {q b n : Nat} (h : xlay q = (2, b, n)) : xent g σ q = .inl (gA g 4, n, .inr (.inr (.inr (.inr (fun j => some (gR g (b + j))))))) := by simp [xent, h]
theorem setI_row {σ : Mm} {q k j : Nat} {v : Int32} (h : j ≠ q) : (setI σ q k v).1 j = σ.1 j := by funext b; simp [setI, h]
theorem setI_same {σ : Mm} {q k : Nat} {v : Int32} : (setI σ q k v).1 q = upd (σ.1 q) k v := by funext b; simp [setI, upd]
theorem setJ_row {σ : Mm} {q k j : Nat} {v : Int64} (h : j ≠ q) : (setJ σ q k v).2.1 j = σ.2.1 j := by funext b; simp [setJ, h]
theorem setJ_same {σ : Mm} {q k : Nat} {v : Int64} : (setJ σ q k v).2.1 q = vp_updL (σ.2.1 q) k v := by funext b; simp [setJ, vp_updL]
theorem xfv_setI {r : Nat → Nat} {σ : Mm} {q k j ci f : Nat} {v : Int32} (h : j ≠ q ∨ f ≠ k) : xfv r (setI σ q k v) j ci f = xfv r σ j ci f := by
  have h1 : (setI σ q k v).1 j f = σ.1 j f := by
    show (if j = q ∧ f = k then v else σ.1 j f) = σ.1 j f
    rw [if_neg]; rintro ⟨h2, h3⟩; rcases h with h | h; exact h h2; exact h h3
  unfold xfv; rw [h1]; rfl
theorem xfv_setJ {r : Nat → Nat} {σ : Mm} {q k j ci f : Nat} {v : Int64} (h : j ≠ q ∨ f ≠ k) : xfv r (setJ σ q k v) j ci f = xfv r σ j ci f := by
  have h1 : (setJ σ q k v).2.1 j f = σ.2.1 j f := by
    show (if j = q ∧ f = k then v else σ.2.1 j f) = σ.2.1 j f
    rw [if_neg]; rintro ⟨h2, h3⟩; rcases h with h | h; exact h h2; exact h h3
  unfold xfv; rw [h1]; rfl
theorem xfs_row {g : Gb} {σ σ' : Mm} {q ci : Nat} (h : ∀ f, xfv (gR g) σ' q ci f = xfv (gR g) σ q ci f) : xfs g σ' q ci = xfs g σ q ci := by
  unfold xfs; congr 1; funext f; exact h f
theorem xfs_set {g : Gb} {σ σ' : Mm} {q ci k : Nat} {v : Value} (hk : k < xnF ci) (hv : xfv (gR g) σ' q ci k = v) (h : ∀ f, f ≠ k → xfv (gR g) σ' q ci f = xfv (gR g) σ q ci f) : xfs g σ' q ci = (xfs g σ q ci).set k v := by
  apply List.ext_getElem?
  intro i
  rcases Nat.lt_or_ge i (xnF ci) with hi | hi
  · rw [List.getElem?_set, xfs_get hi]
    by_cases he : k = i
    · subst he; rw [if_pos rfl, if_pos (by rw [xfs_len]; exact hi), hv]
    · rw [if_neg he, xfs_get hi, h i (fun z => he z.symm)]
  · rw [List.getElem?_eq_none (by rw [xfs_len]; exact hi), List.getElem?_eq_none (by rw [List.length_set, xfs_len]; exact hi)]
theorem xent_eq {g : Gb} {σ σ' : Mm} {q : Nat} (hf : ∀ ci f, xfv (gR g) σ' q ci f = xfv (gR g) σ q ci f) (h1 : σ'.1 q = σ.1 q) (h2 : σ'.2.1 q = σ.2.1 q) : xent g σ' q = xent g σ q := by
  unfold xent
  split
  · rw [xfs_row (hf _)]
  · rw [h2]
  · rw [h1]
  · rfl
  · rfl
theorem xent_setI {g : Gb} {σ : Mm} {q k j : Nat} {v : Int32} (h : j ≠ q) : xent g (setI σ q k v) j = xent g σ j := xent_eq (fun _ _ => xfv_setI (Or.inl h)) (setI_row h) rfl
theorem xent_setJ {g : Gb} {σ : Mm} {q k j : Nat} {v : Int64} (h : j ≠ q) : xent g (setJ σ q k v) j = xent g σ j := xent_eq (fun _ _ => xfv_setJ (Or.inl h)) rfl (setJ_row h)
/-- a field's link; a field that is written -/
def xF (own : String) (idx ci f : Nat) : Prop := ∃ r : vw_C, xCl[ci]? = some r ∧ f < r.2.2 ∧ Cond.fieldLink own idx (r.2.1 f).1 (r.2.1 f).2.1 (r.2.1 f).2.2.1 ∈ xtbl
def xTT (r : vw_C) : Prop := ∃ ty0 : Nat → FieldType, (∀ k, k < r.2.2 → parseFieldDescriptor (r.2.1 k).2.2.1 = some (ty0 k)) ∧ ∀ a, a < r.2.2 → ∀ b, b < r.2.2 → a ≠ b → (r.2.1 a).2.1 ≠ (r.2.1 b).2.1
theorem xtt {ci : Nat} {r : vw_C} (h : xCl[ci]? = some r) : xTT r := by
  have hlt : ci < 12 := (List.getElem?_eq_some_iff.mp h).1
  match ci, hlt, h with
  | 0, _, h => cases h; exact ⟨tyX0, tyX0_ok, nmX0⟩
  | 1, _, h => cases h; exact ⟨tyX1, tyX1_ok, nmX1⟩
  | 2, _, h => cases h; exact ⟨tyX2, tyX2_ok, nmX2⟩
  | 3, _, h => cases h; exact ⟨tyX4, tyX4_ok, nmX4⟩
  | 4, _, h => cases h; exact ⟨tyX5, tyX5_ok, nmX5⟩
  | 5, _, h => cases h; exact ⟨tyX6, tyX6_ok, nmX6⟩
  | 6, _, h => cases h; exact ⟨tyX7, tyX7_ok, nmX7⟩
  | 7, _, h => cases h; exact ⟨tyX8, tyX8_ok, nmX8⟩
  | 8, _, h => cases h; exact ⟨tyX9, tyX9_ok, nmX9⟩
  | 9, _, h => cases h; exact ⟨tyX10, tyX10_ok, nmX10⟩
  | 10, _, h => cases h; exact ⟨tyX11, tyX11_ok, nmX11⟩
  | 11, _, h => cases h; exact ⟨tyX12, tyX12_ok, nmX12⟩
def xG (own : String) (idx ci f : Nat) (ty : FieldType) : Prop := ∃ r : vw_C, xCl[ci]? = some r ∧ f < r.2.2 ∧ Cond.fieldLink own idx (r.2.1 f).1 (r.2.1 f).2.1 (r.2.1 f).2.2.1 ∈ xtbl ∧ (r.2.1 f).2.2.2 = false ∧ parseFieldDescriptor (r.2.1 f).2.2.1 = some ty
def xbz (v : Int32) : Prop := v = 0 ∨ v = 1
section XM
variable {g : Gb} {me : Me} {Po : Outcome → Mm → Prop} {pc k : Nat} {lv lv' : List (Nat × Value)} {st : List Value} {σ : Mm}
theorem e_ty (kk : xTy σ → xE g me Po pc lv st σ) : xE g me Po pc lv st σ := fun p e s m args below meth c H locs ls C hP hS hl => kk hP.2 p e s m args below meth c H locs ls C hP hS hl
theorem e_get {q ci f idx : Nat} (hd : me.2.1[k]? = some (pc, .getfield idx, 3)) (hf : xF me.1 idx ci f) (hq : xlay q = (0, ci, 0)) (hx : (xfk ci f).1 < 9) (kk : xE g me Po (pc + 3) lv (xfv (gR g) σ q ci f :: st) σ) : xE g me Po pc lv (.ref (gR g q) :: st) σ := by
  intro p e s m args below meth c H locs ls C hP hS hl
  obtain ⟨⟨C0, T, N⟩, hc, hN, hw⟩ := hf
  obtain ⟨c1, c2, c3, c4, c5, c6, c7, c8, c9⟩ := id C
  have hlt : q < 67 := xlay_lt (by simp [hq])
  exact va_get c1 rfl c7 (xin hc) c5 c8 hP.1 q (by rw [xw_get hlt, xent_o hq]) hc f hN (c7 _ hw) (fun x h => h) (xfs_get (xfk_lt hx)) (xdec C hd) (kk p e s m args below meth c H locs ls C hP hS hl)
theorem e_getI {q ci f idx x : Nat} (hd : me.2.1[k]? = some (pc, .getfield idx, 3)) (hf : xF me.1 idx ci f) (hq : xlay q = (0, ci, 0)) (hx : xfk ci f = (0, x)) (kk : xE g me Po (pc + 3) lv (.int (σ.1 q f) :: st) σ) : xE g me Po pc lv (.ref (gR g q) :: st) σ :=
  e_get hd hf hq (by simp [hx]) (by simpa [xfv, hx] using kk)
theorem e_getJ {q ci f idx x : Nat} (hd : me.2.1[k]? = some (pc, .getfield idx, 3)) (hf : xF me.1 idx ci f) (hq : xlay q = (0, ci, 0)) (hx : xfk ci f = (1, x)) (kk : xE g me Po (pc + 3) lv (.long (σ.2.1 q f) :: st) σ) : xE g me Po pc lv (.ref (gR g q) :: st) σ :=
  e_get hd hf hq (by simp [hx]) (by simpa [xfv, hx] using kk)
theorem e_getC {q ci f idx x : Nat} (hd : me.2.1[k]? = some (pc, .getfield idx, 3)) (hf : xF me.1 idx ci f) (hq : xlay q = (0, ci, 0)) (hx : xfk ci f = (2, x)) (kk : xE g me Po (pc + 3) lv (.ref (gR g x) :: st) σ) : xE g me Po pc lv (.ref (gR g q) :: st) σ :=
  e_get hd hf hq (by simp [hx]) (by simpa [xfv, hx] using kk)
theorem e_getP {q ci f idx x : Nat} (hd : me.2.1[k]? = some (pc, .getfield idx, 3)) (hf : xF me.1 idx ci f) (hq : xlay q = (0, ci, 0)) (hx : xfk ci f = (3, x)) (kk : xTy σ → xE g me Po (pc + 3) lv (.ref (gR g (σ.2.2 x)) :: st) σ) : xE g me Po pc lv (.ref (gR g q) :: st) σ :=
  e_get hd hf hq (by simp [hx]) (by simpa [xfv, hx] using e_ty kk)
theorem e_getR {q ci f idx x : Nat} (hd : me.2.1[k]? = some (pc, .getfield idx, 3)) (hf : xF me.1 idx ci f) (hq : xlay q = (0, ci, 0)) (hx : xfk ci f = (4, x)) (kk : xE g me Po (pc + 3) lv (.ref (gR g (q + x)) :: st) σ) : xE g me Po pc lv (.ref (gR g q) :: st) σ :=
  e_get hd hf hq (by simp [hx]) (by simpa [xfv, hx] using kk)
theorem e_put {q ci f idx : Nat} {ty : FieldType} {v : Value} {σ' : Mm} (hd : me.2.1[k]? = some (pc, .putfield idx, 3)) (hf : xG me.1 idx ci f ty) (hq : xlay q = (0, ci, 0)) (hx : (xfk ci f).1 < 9) (hn : narrow ty v = v) (hfit : fits ty v = true) (he : xent g σ' q = .inr (ci, (xfs g σ q ci).set f v)) (ho : ∀ j, j ≠ q → xent g σ' j = xent g σ j) (hty : xTy σ → xTy σ')
    (kk : xE g me Po (pc + 3) lv st σ') : xE g me Po pc lv (v :: .ref (gR g q) :: st) σ := by
  intro p e s m args below meth c H locs ls C hP hS hl
  obtain ⟨⟨C0, T, N⟩, hc, hN, hw, hfin, hty0⟩ := hf
  obtain ⟨c1, c2, c3, c4, c5, c6, c7, c8, c9, c10, c11⟩ := id C
  have hlt : q < 67 := xlay_lt (by simp [hq])
  obtain ⟨ty0, ht0, hnm⟩ := xtt hc
  refine va_put c1 rfl c7 (xin hc) ty0 ht0 hnm c5 c8 hP.1 (xD c10) hS q (by rw [xw_get hlt, xent_o hq]) hc f hN (c7 _ hw) (fun x h => h) hfin hty0 hn hfit (by rw [xfs_len]; exact xfk_lt hx) (xdec C hd) (fun H1 locs1 hP1 _ hS1 => ?_)
  rw [xw_set hlt he ho] at hP1
  exact kk p e s m args below meth c H1 locs1 ls C ⟨hP1, hty hP.2⟩ hS1 hl
theorem e_putI {q ci f idx x : Nat} {v : Int32} (hd : me.2.1[k]? = some (pc, .putfield idx, 3)) (hf : xG me.1 idx ci f .int) (hq : xlay q = (0, ci, 0)) (hx : xfk ci f = (0, x)) (kk : xE g me Po (pc + 3) lv st (setI σ q f v)) : xE g me Po pc lv (.int v :: .ref (gR g q) :: st) σ :=
  e_put hd hf hq (by simp [hx]) rfl rfl (by rw [xent_o hq, xfs_set (v := .int v) (xfk_lt (by simp [hx])) (by simp [xfv, hx, setI]) (fun f' h => xfv_setI (Or.inr h))]) (fun j h => xent_setI h) (fun h => h) kk
theorem e_putZ {q ci f idx x : Nat} {v : Int32} (hd : me.2.1[k]? = some (pc, .putfield idx, 3)) (hf : xG me.1 idx ci f .boolean) (hq : xlay q = (0, ci, 0)) (hx : xfk ci f = (0, x)) (hb : xbz v) (kk : xE g me Po (pc + 3) lv st (setI σ q f v)) : xE g me Po pc lv (.int v :: .ref (gR g q) :: st) σ :=
  e_put hd hf hq (by simp [hx]) (by rcases hb with rfl | rfl <;> rfl) (by rcases hb with rfl | rfl <;> rfl) (by rw [xent_o hq, xfs_set (v := .int v) (xfk_lt (by simp [hx])) (by simp [xfv, hx, setI]) (fun f' h => xfv_setI (Or.inr h))]) (fun j h => xent_setI h) (fun h => h) kk
theorem e_putJ {q ci f idx x : Nat} {v : Int64} (hd : me.2.1[k]? = some (pc, .putfield idx, 3)) (hf : xG me.1 idx ci f .long) (hq : xlay q = (0, ci, 0)) (hx : xfk ci f = (1, x)) (kk : xE g me Po (pc + 3) lv st (setJ σ q f v)) : xE g me Po pc lv (.long v :: .ref (gR g q) :: st) σ :=
  e_put hd hf hq (by simp [hx]) rfl rfl (by rw [xent_o hq, xfs_set (v := .long v) (xfk_lt (by simp [hx])) (by simp [xfv, hx, setJ]) (fun f' h => xfv_setJ (Or.inr h))]) (fun j h => xent_setJ h) (fun h => h) kk
end XM
