/-! bytes fed -/
theorem nar_b {x : Int32} : vp_nar .byte x = x.toInt8.toInt32 := rfl
theorem i8_back {z : Int8} : z.toInt32.toInt8 = z := by simp
def bt (x : Int32) (r : Nat) : Int32 := (x >>> (nI (24 - 8 * r) &&& 31)).toInt8.toInt32
theorem sh_bits {x : Int32} {k : Nat} (hk : k + 8 ≤ 32) : (BitVec.signExtend 8 (x.toBitVec.sshiftRight k)) = BitVec.signExtend 8 (x.toBitVec >>> k) := by
  ext i hi
  simp only [BitVec.getElem_signExtend, BitVec.getLsbD_eq_getElem, BitVec.getElem_sshiftRight]
  have h1 : i < 32 := by omega
  have h2 : k + i < 32 := by omega
  simp [h1, h2, BitVec.getElem_sshiftRight]
theorem sh_24 (x : Int32) : (x >>> (24 : Int32)).toInt8 = (x.toUInt32 >>> (24 : UInt32)).toInt32.toInt8 := by
  apply Int8.toBitVec_inj.mp
  exact sh_bits (x := x) (k := 24) (by omega)
theorem sh_16 (x : Int32) : (x >>> (16 : Int32)).toInt8 = (x.toUInt32 >>> (16 : UInt32)).toInt32.toInt8 := by
  apply Int8.toBitVec_inj.mp
  exact sh_bits (x := x) (k := 16) (by omega)
theorem sh_8 (x : Int32) : (x >>> (8 : Int32)).toInt8 = (x.toUInt32 >>> (8 : UInt32)).toInt32.toInt8 := by
  apply Int8.toBitVec_inj.mp
  exact sh_bits (x := x) (k := 8) (by omega)
theorem sh_0 (x : Int32) : (x >>> (0 : Int32)).toInt8 = (x.toUInt32 >>> (0 : UInt32)).toInt32.toInt8 := by
  apply Int8.toBitVec_inj.mp
  exact sh_bits (x := x) (k := 0) (by omega)
theorem b_amt : ∀ k, k < 20 → (((24 : Int32) - 8 * (nI k - nI k / 4 * 4)).toUInt32 &&& Int32.toUInt32 31) = UInt32.ofNat (24 - 8 * (k % 4)) := by decide +kernel
theorem bt_ref {x : Int32} {k : Nat} (hk : k < 20) : vp_nar .byte (x.toUInt32 >>> (((24 : Int32) - 8 * (nI k - nI k / 4 * 4)).toUInt32 &&& Int32.toUInt32 31)).toInt32.toInt8.toInt32 = bt x (k % 4) := by
  rw [b_amt k hk, nar_b, i8_back]
  unfold bt
  have : k % 4 = 0 ∨ k % 4 = 1 ∨ k % 4 = 2 ∨ k % 4 = 3 := by omega
  rcases this with h | h | h | h <;> rw [h]
  · exact congrArg Int8.toInt32 (sh_24 x).symm
  · exact congrArg Int8.toInt32 (sh_16 x).symm
  · exact congrArg Int8.toInt32 (sh_8 x).symm
  · exact congrArg Int8.toInt32 (sh_0 x).symm
theorem sbv_int : ∀ x, x < 256 → (sbv x).toInt = if x < 128 then (x : Int) else (x : Int) - 256 := by decide +kernel
theorem i8_sbv (z : Int8) : ∃ x : Nat, x < 256 ∧ z.toInt32 = sbv x := by
  have h1 := Int8.le_toInt z
  have h2 := Int8.toInt_lt z
  by_cases h : 0 ≤ z.toInt
  · refine ⟨z.toInt.toNat, by omega, Int32.toInt_inj.mp ?_⟩
    rw [Int8.toInt_toInt32, sbv_int _ (by omega), if_pos (by omega)]
    omega
  · refine ⟨(z.toInt + 256).toNat, by omega, Int32.toInt_inj.mp ?_⟩
    rw [Int8.toInt_toInt32, sbv_int _ (by omega), if_neg (by omega)]
    omega
