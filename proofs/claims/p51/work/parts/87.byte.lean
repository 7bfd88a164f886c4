/-! 87: a byte of a word, with a sign and without one -/
theorem byte_and (v : Int32) : (v &&& Int32.ofInt 255).toInt = ((v.toBitVec.toNat % 256 : Nat) : Int) := by
  have e : (v &&& Int32.ofInt 255).toBitVec.toNat = v.toBitVec.toNat % 256 := by
    rw [Int32.toBitVec_and, BitVec.toNat_and]
    exact Nat.and_two_pow_sub_one_eq_mod v.toBitVec.toNat 8
  show (v &&& Int32.ofInt 255).toBitVec.toInt = _
  rw [BitVec.toInt_eq_toNat_cond, e]
  have : v.toBitVec.toNat % 256 < 256 := Nat.mod_lt _ (by decide)
  rw [if_pos (by omega)]
theorem byte_i2b (v : Int32) : v.toInt8.toInt32.toInt = v.toInt.bmod 256 := by
  rw [Int8.toInt_toInt32, Int32.toInt_toInt8]
theorem byte_rel (x : Int) : (0 ≤ bAnd x 255 ∧ bAnd x 255 ≤ 255) ∧ (bAnd x 255 < 128 → bI2b x = bAnd x 255) ∧ (128 ≤ bAnd x 255 → bI2b x = bAnd x 255 - 256) := by
  unfold bAnd bI2b
  rw [byte_and, byte_i2b]
  have e : (Int32.ofInt x).toInt = (Int32.ofInt x).toBitVec.toInt := rfl
  rw [e, BitVec.toInt_eq_toNat_cond]
  unfold Int.bmod
  have h := (Int32.ofInt x).toBitVec.isLt
  dsimp only
  generalize (Int32.ofInt x).toBitVec.toNat = m at h ⊢
  by_cases q : 2 * m < 2 ^ 32
  · rw [if_pos q]
    refine ⟨by omega, fun z => ?_, fun z => ?_⟩
    · rw [if_pos (by omega)]; omega
    · rw [if_neg (by omega)]; omega
  · rw [if_neg q]
    refine ⟨by omega, fun z => ?_, fun z => ?_⟩
    · rw [if_pos (by omega)]; omega
    · rw [if_neg (by omega)]; omega
theorem nar_b0 : ∀ k : Nat, k < 256 → vp_nar .byte (Int32.ofInt ((k : Int) - 128)) = Int32.ofInt ((k : Int) - 128) := by decide +kernel
theorem nar_byte (x : Int) : vp_nar .byte (Int32.ofInt (bI2b x)) = Int32.ofInt (bI2b x) := by
  have h := byte_rel x
  have b : -128 ≤ bI2b x ∧ bI2b x ≤ 127 := by omega
  have := nar_b0 (bI2b x + 128).toNat (by omega)
  rw [show (((bI2b x + 128).toNat : Nat) : Int) - 128 = bI2b x by omega] at this
  exact this
