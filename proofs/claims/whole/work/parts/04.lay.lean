/-! the layout: names of cells, fields by kind (0 int, 1 long, 2 a constant cell, 3 one of the changing references, 4 a cell at a distance, 5 null) -/
/-- the tables' words that hold at every later state -/
def xtbl : List Cond := lw_tbl.filter goodWord
theorem xgood {w : Cond} (h : w ∈ xtbl) : goodWord w = true := (List.mem_filter.mp h).2
theorem xmem {w : Cond} (h : w ∈ lw_tbl) (hg : goodWord w = true) : w ∈ xtbl := List.mem_filter.mpr ⟨h, hg⟩
def xCl : List vw_C := [(RX0, TX0, 5), (RX1, TX1, 6), (RX2, TX2, 8), (RX4, TX4, 15), (RX5, TX5, 8), (RX6, TX6, 4), (RX7, TX7, 10), (RX8, TX8, 14), (RX9, TX9, 2), (RX10, TX10, 9), (RX11, TX11, 8), (RX12, TX12, 72)]
def xlayL : List (Nat × Nat × Nat) := [(0, 11, 0), (0, 10, 0), (1, 1, 2420), (1, 1, 2420), (1, 0, 3), (1, 0, 3), (1, 0, 6800), (1, 3, 400), (1, 3, 400), (1, 0, 400), (1, 0, 400), (1, 2, 400), (1, 0, 3), (1, 0, 3), (1, 0, 3), (1, 0, 3), (1, 3, 3), (1, 0, 3), (1, 2, 3), (1, 0, 3), (1, 3, 900), (1, 3, 900), (1, 0, 1344), (1, 0, 3), (1, 0, 12), (1, 0, 12), (1, 2, 301), (1, 2, 301), (1, 2, 301), (1, 0, 301), (1, 0, 1000), (1, 1, 200), (0, 9, 0), (0, 4, 0), (0, 0, 0), (0, 6, 0), (0, 5, 0), (0, 1, 0), (0, 3, 0), (0, 2, 0), (0, 8, 0), (1, 1, 2400), (1, 1, 2400), (1, 0, 10), (1, 0, 3), (1, 0, 3), (1, 0, 7600), (1, 3, 400), (1, 3, 400), (2, 50, 3), (0, 7, 0), (0, 7, 0), (0, 7, 0), (1, 3, 300), (1, 3, 300), (1, 3, 300), (1, 3, 300), (1, 3, 300), (1, 3, 300), (1, 0, 84), (1, 0, 84), (1, 0, 84), (1, 0, 301), (1, 0, 1000), (1, 0, 12), (1, 0, 12), (1, 1, 24)]
def xfkL : List (List (Nat × Nat)) := [[(2, 33), (0, 0), (0, 0), (0, 0), (0, 0)], [(2, 33), (2, 34), (2, 35), (0, 1), (0, 1), (0, 1)], [(0, 0), (0, 0), (0, 0), (0, 0), (0, 0), (0, 0), (0, 0), (0, 0)], [(2, 33), (2, 34), (2, 35), (2, 36), (2, 39), (2, 64), (2, 65), (0, 0), (0, 0), (0, 0), (3, 2), (0, 0), (0, 0), (0, 0), (0, 1)], [(3, 1), (0, 0), (0, 0), (0, 0), (0, 0), (0, 0), (0, 0), (0, 0)], [(2, 46), (2, 47), (2, 48), (0, 0)], [(0, 0), (2, 43), (2, 44), (2, 45), (2, 36), (2, 49), (2, 62), (2, 63), (0, 0), (0, 0)], [(4, 3), (4, 6), (4, 9), (0, 1), (0, 0), (0, 1), (1, 0), (0, 0), (0, 0), (0, 0), (0, 0), (0, 1), (0, 0), (0, 0)], [(2, 66), (0, 0)], [(2, 33), (2, 35), (2, 37), (2, 38), (2, 40), (3, 0), (0, 0), (0, 1), (0, 0)], [(5, 0), (5, 0), (5, 0), (5, 0), (5, 0), (0, 0), (0, 0), (0, 0)], [(0, 0), (2, 1), (0, 0), (2, 2), (0, 0), (2, 3), (0, 0), (0, 0), (0, 0), (0, 0), (0, 1), (0, 0), (0, 0), (0, 0), (2, 4), (2, 5), (0, 0), (0, 0), (0, 0), (0, 0), (0, 0), (2, 6), (2, 7), (2, 8), (2, 9), (2, 10), (2, 11), (0, 0), (0, 0), (0, 0), (2, 12), (2, 13), (2, 14), (2, 15), (2, 16), (2, 17), (2, 18), (2, 19), (2, 20), (2, 21), (2, 22), (2, 23), (0, 0), (0, 0), (0, 0), (0, 0), (0, 0), (0, 0), (0, 0), (0, 0), (0, 0), (0, 0), (0, 0), (0, 0), (0, 0), (0, 1), (0, 0), (0, 0), (0, 0), (0, 0), (0, 0), (2, 24), (2, 25), (0, 0), (2, 26), (2, 27), (2, 28), (2, 29), (2, 30), (0, 0), (2, 31), (0, 0)]]
def xlay (q : Nat) : Nat × Nat × Nat := xlayL.getD q (9, 0, 0)
def xnF (ci : Nat) : Nat := (xfkL.getD ci []).length
def xfk (ci k : Nat) : Nat × Nat := (xfkL.getD ci []).getD k (9, 0)
theorem xlay_lt {q : Nat} (h : (xlay q).1 < 9) : q < 67 := by
  rcases Nat.lt_or_ge q 67 with h1 | h1
  · exact h1
  · have h2 : xlay q = (9, 0, 0) := by unfold xlay; rw [List.getD_eq_getElem?_getD, List.getElem?_eq_none (show xlayL.length ≤ q from h1)]; rfl
    rw [h2] at h
    exact absurd h (by decide)
theorem xin_0 : ∀ q, xCl[0]? = some q → ∀ w ∈ u_ws q.1 q.2.1 q.2.2, w ∈ xtbl := fun q h => by cases h; decide +kernel
theorem xin_1 : ∀ q, xCl[1]? = some q → ∀ w ∈ u_ws q.1 q.2.1 q.2.2, w ∈ xtbl := fun q h => by cases h; decide +kernel
theorem xin_2 : ∀ q, xCl[2]? = some q → ∀ w ∈ u_ws q.1 q.2.1 q.2.2, w ∈ xtbl := fun q h => by cases h; decide +kernel
theorem xin_3 : ∀ q, xCl[3]? = some q → ∀ w ∈ u_ws q.1 q.2.1 q.2.2, w ∈ xtbl := fun q h => by cases h; decide +kernel
theorem xin_4 : ∀ q, xCl[4]? = some q → ∀ w ∈ u_ws q.1 q.2.1 q.2.2, w ∈ xtbl := fun q h => by cases h; decide +kernel
theorem xin_5 : ∀ q, xCl[5]? = some q → ∀ w ∈ u_ws q.1 q.2.1 q.2.2, w ∈ xtbl := fun q h => by cases h; decide +kernel
theorem xin_6 : ∀ q, xCl[6]? = some q → ∀ w ∈ u_ws q.1 q.2.1 q.2.2, w ∈ xtbl := fun q h => by cases h; decide +kernel
theorem xin_7 : ∀ q, xCl[7]? = some q → ∀ w ∈ u_ws q.1 q.2.1 q.2.2, w ∈ xtbl := fun q h => by cases h; decide +kernel
theorem xin_8 : ∀ q, xCl[8]? = some q → ∀ w ∈ u_ws q.1 q.2.1 q.2.2, w ∈ xtbl := fun q h => by cases h; decide +kernel
theorem xin_9 : ∀ q, xCl[9]? = some q → ∀ w ∈ u_ws q.1 q.2.1 q.2.2, w ∈ xtbl := fun q h => by cases h; decide +kernel
theorem xin_10 : ∀ q, xCl[10]? = some q → ∀ w ∈ u_ws q.1 q.2.1 q.2.2, w ∈ xtbl := fun q h => by cases h; decide +kernel
theorem xin_11 : ∀ q, xCl[11]? = some q → ∀ w ∈ u_ws q.1 q.2.1 q.2.2, w ∈ xtbl := fun q h => by cases h; decide +kernel
theorem xin {ci : Nat} {q : vw_C} (h : xCl[ci]? = some q) : ∀ w ∈ u_ws q.1 q.2.1 q.2.2, w ∈ xtbl := by
  have hlt : ci < 12 := (List.getElem?_eq_some_iff.mp h).1
  match ci, hlt, h with
  | 0, _, h => exact xin_0 q h
  | 1, _, h => exact xin_1 q h
  | 2, _, h => exact xin_2 q h
  | 3, _, h => exact xin_3 q h
  | 4, _, h => exact xin_4 q h
  | 5, _, h => exact xin_5 q h
  | 6, _, h => exact xin_6 q h
  | 7, _, h => exact xin_7 q h
  | 8, _, h => exact xin_8 q h
  | 9, _, h => exact xin_9 q h
  | 10, _, h => exact xin_10 q h
  | 11, _, h => exact xin_11 q h
