/-! the changing references, a nest mate's fields, calls -/
def xonly (x q : Nat) : Bool := (List.range 67).all (fun j => j == q || (if (xlay j).1 = 0 then (xfkL.getD (xlay j).2.1 []).all (fun r => !(r == (3, x))) else true))
theorem xonly_0 : xonly 0 32 = true := by decide +kernel
theorem xonly_1 : xonly 1 33 = true := by decide +kernel
theorem xonly_2 : xonly 2 38 = true := by decide +kernel
theorem xgetD_mem {α : Type} (L : List α) (f : Nat) (d : α) (h : f < L.length) : L.getD f d ∈ L := by
  rw [List.getD_eq_getElem?_getD, List.getElem?_eq_getElem h]
  exact List.getElem_mem h
theorem xfv_setP {r : Nat → Nat} {σ : Mm} {x v j ci f : Nat} (h : xfk ci f ≠ (3, x)) : xfv r (setP σ x v) j ci f = xfv r σ j ci f := by
  unfold xfv
  split
  · rfl
  · rfl
  · rfl
  · rename_i y e
    have hy : y ≠ x := fun z => h (by rw [e, z])
    show Value.ref (r (if y = x then v else σ.2.2 y)) = _
    rw [if_neg hy]
  · rfl
  · rfl
theorem xent_setP {g : Gb} {σ : Mm} {x q v j : Nat} (ho : xonly x q = true) (h : j ≠ q) : xent g (setP σ x v) j = xent g σ j := by
  rcases Nat.lt_or_ge j 67 with hj | hj
  · have h1 := List.all_eq_true.mp ho j (List.mem_range.mpr hj)
    simp only [Bool.or_eq_true, beq_iff_eq] at h1
    rcases h1 with h1 | h1
    · exact absurd h1 h
    · unfold xent
      split
      · rename_i ci n e
        rw [e] at h1
        simp only [if_true] at h1
        rw [xfs_row (σ := σ) (σ' := setP σ x v) (fun f => ?_)]
        by_cases hx : xfk ci f = (3, x)
        · exfalso
          have hlt : f < xnF ci := xfk_lt (by simp [hx])
          have hm : xfk ci f ∈ xfkL.getD ci [] := xgetD_mem _ _ _ hlt
          have := List.all_eq_true.mp h1 _ hm
          rw [hx] at this
          simp at this
        · exact xfv_setP hx
      · rfl
      · rfl
      · rfl
      · rfl
  · have h2 : xlay j = (9, 0, 0) := by unfold xlay; rw [List.getD_eq_getElem?_getD, List.getElem?_eq_none (show xlayL.length ≤ j from hj)]; rfl
    simp [xent, h2]
def xN (own host : String) (idx ci f : Nat) : Prop := ∃ r : vw_C, xCl[ci]? = some r ∧ f < r.2.2 ∧ (own, idx, (r.2.1 f).1, (r.2.1 f).2.1, (r.2.1 f).2.2.1, host) ∈ xnl ∧ (r.2.1 f).2.2.2 = false ∧ parseFieldDescriptor (r.2.1 f).2.2.1 = some .int
section XCL
variable {g : Gb} {me : Me} {Po : Outcome → Mm → Prop} {pc k : Nat} {lv lv' : List (Nat × Value)} {st : List Value} {σ : Mm}
theorem e_getN {q ci f idx x : Nat} {host : String} (hd : me.2.1[k]? = some (pc, .getfield idx, 3)) (hf : xN me.1 host idx ci f) (hq : xlay q = (0, ci, 0)) (hx : xfk ci f = (0, x)) (kk : xE g me Po (pc + 3) lv (.int (σ.1 q f) :: st) σ) : xE g me Po pc lv (.ref (gR g q) :: st) σ := by
  intro p e s m args below meth c H locs ls C hP hS hl
  obtain ⟨⟨C0, T, N⟩, hc, hN, hw, -⟩ := hf
  obtain ⟨c1, c2, c3, c4, c5, c6, c7, c8, c9, c10, c11⟩ := id C
  have hlt : q < 67 := xlay_lt (by simp [hq])
  exact va_getN c1 rfl c7 (xin hc) c5 c8 hP.1 q (by rw [xw_get hlt, xent_o hq]) hc f hN (va_Nw.use rfl (c11.2.2.2.2.2 _ hw)) (fun x h => h) (v := .int (σ.1 q f)) (by rw [xfs_get (xfk_lt (by simp [hx]))]; simp [xfv, hx]) (xdec C hd) (kk p e s m args below meth c H locs ls C hP hS hl)
theorem e_putN {q ci f idx x : Nat} {v : Int32} {host : String} (hd : me.2.1[k]? = some (pc, .putfield idx, 3)) (hf : xN me.1 host idx ci f) (hq : xlay q = (0, ci, 0)) (hx : xfk ci f = (0, x)) (kk : xE g me Po (pc + 3) lv st (setI σ q f v)) : xE g me Po pc lv (.int v :: .ref (gR g q) :: st) σ := by
  intro p e s m args below meth c H locs ls C hP hS hl
  obtain ⟨⟨C0, T, N⟩, hc, hN, hw, hfin, hty0⟩ := hf
  obtain ⟨c1, c2, c3, c4, c5, c6, c7, c8, c9, c10, c11⟩ := id C
  have hlt : q < 67 := xlay_lt (by simp [hq])
  obtain ⟨ty0, ht0, hnm⟩ := xtt hc
  refine va_putN c1 rfl c7 (xin hc) ty0 ht0 hnm c5 c8 hP.1 (xD c10) hS q (by rw [xw_get hlt, xent_o hq]) hc f hN (va_Nw.use rfl (c11.2.2.2.2.2 _ hw)) (fun x h => h) hfin hty0 rfl rfl (by rw [xfs_len]; exact xfk_lt (by simp [hx])) (xdec C hd) (fun H1 locs1 hP1 _ hS1 => ?_)
  rw [xw_set (σ' := setI σ q f v) hlt (by rw [xent_o hq, xfs_set (v := .int v) (xfk_lt (by simp [hx])) (by simp [xfv, hx, setI]) (fun f' h => xfv_setI (Or.inr h))]) (fun j h => xent_setI h)] at hP1
  exact kk p e s m args below meth c H1 locs1 ls C ⟨hP1, hP.2⟩ hS1 hl
theorem e_putP {q ci f idx x v : Nat} {ty : FieldType} (hd : me.2.1[k]? = some (pc, .putfield idx, 3)) (hf : xG me.1 idx ci f ty) (hq : xlay q = (0, ci, 0)) (hx : xfk ci f = (3, x)) (hu : ∀ f', f' ≠ f → xfk ci f' ≠ (3, x)) (ho : xonly x q = true) (hn : narrow ty (.ref (gR g v)) = .ref (gR g v)) (hfit : fits ty (.ref (gR g v)) = true) (hty : xTy σ → xTy (setP σ x v)) (kk : xE g me Po (pc + 3) lv st (setP σ x v)) : xE g me Po pc lv (.ref (gR g v) :: .ref (gR g q) :: st) σ :=
  e_put hd hf hq (by simp [hx]) hn hfit (by rw [xent_o hq, xfs_set (v := .ref (gR g v)) (xfk_lt (by simp [hx])) (by simp [xfv, hx, setP]) (fun f' h => xfv_setP (hu f' h))]) (fun j h => xent_setP ho h) hty kk
end XCL
