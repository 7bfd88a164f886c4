/-! 09: sets as numbers: the bits of an int -/
def bit (x : Int) (i : Nat) : Bool := (Int32.ofInt x).toBitVec.getLsbD i
theorem bit_ext {x y : Int} (hx : inR x) (hy : inR y) (h : ∀ i, i < 32 → bit x i = bit y i) : x = y := by
  apply oi_inj hx hy
  apply Int32.toBitVec_inj.mp
  apply BitVec.eq_of_getLsbD_eq
  intro i hi
  exact h i hi
theorem bit_big {x : Int} {i : Nat} (h : 32 ≤ i) : bit x i = false := BitVec.getLsbD_of_ge _ _ h
theorem bit_toInt (a : Int32) (i : Nat) : bit a.toInt i = a.toBitVec.getLsbD i := by unfold bit; rw [Int32.ofInt_toInt]
theorem bit_and (x y : Int) (i : Nat) : bit (bAnd x y) i = (bit x i && bit y i) := by
  unfold bAnd
  rw [bit_toInt, Int32.toBitVec_and, BitVec.getLsbD_and]
  rfl
theorem bit_or (x y : Int) (i : Nat) : bit (bOr x y) i = (bit x i || bit y i) := by
  unfold bOr
  rw [bit_toInt, Int32.toBitVec_or, BitVec.getLsbD_or]
  rfl
theorem shl_bv (a : Int32) : ∀ (n : Nat), n < 32 → (a <<< (Int32.ofInt (n : Int) &&& 31)).toBitVec = a.toBitVec <<< n
  | 0, _ => rfl
  | 1, _ => rfl
  | 2, _ => rfl
  | 3, _ => rfl
  | 4, _ => rfl
  | 5, _ => rfl
  | 6, _ => rfl
  | 7, _ => rfl
  | 8, _ => rfl
  | 9, _ => rfl
  | 10, _ => rfl
  | 11, _ => rfl
  | 12, _ => rfl
  | 13, _ => rfl
  | 14, _ => rfl
  | 15, _ => rfl
  | 16, _ => rfl
  | 17, _ => rfl
  | 18, _ => rfl
  | 19, _ => rfl
  | 20, _ => rfl
  | 21, _ => rfl
  | 22, _ => rfl
  | 23, _ => rfl
  | 24, _ => rfl
  | 25, _ => rfl
  | 26, _ => rfl
  | 27, _ => rfl
  | 28, _ => rfl
  | 29, _ => rfl
  | 30, _ => rfl
  | 31, _ => rfl
  | n + 32, h => absurd h (by omega)
theorem shr_bv (a : Int32) : ∀ (n : Nat), n < 32 → (a >>> (Int32.ofInt (n : Int) &&& 31)).toBitVec = a.toBitVec.sshiftRight n
  | 0, _ => rfl
  | 1, _ => rfl
  | 2, _ => rfl
  | 3, _ => rfl
  | 4, _ => rfl
  | 5, _ => rfl
  | 6, _ => rfl
  | 7, _ => rfl
  | 8, _ => rfl
  | 9, _ => rfl
  | 10, _ => rfl
  | 11, _ => rfl
  | 12, _ => rfl
  | 13, _ => rfl
  | 14, _ => rfl
  | 15, _ => rfl
  | 16, _ => rfl
  | 17, _ => rfl
  | 18, _ => rfl
  | 19, _ => rfl
  | 20, _ => rfl
  | 21, _ => rfl
  | 22, _ => rfl
  | 23, _ => rfl
  | 24, _ => rfl
  | 25, _ => rfl
  | 26, _ => rfl
  | 27, _ => rfl
  | 28, _ => rfl
  | 29, _ => rfl
  | 30, _ => rfl
  | 31, _ => rfl
  | n + 32, h => absurd h (by omega)
theorem bit_shl (x : Int) {n : Nat} (hn : n < 32) (i : Nat) : bit (bShl x (n : Int)) i = (decide (i < 32) && !decide (i < n) && bit x (i - n)) := by
  unfold bShl
  rw [bit_toInt, shl_bv _ n hn, BitVec.getLsbD_shiftLeft]
  rfl
theorem bv_nat {x : Int} (h0 : 0 ≤ x) (h1 : x ≤ 2147483647) : (Int32.ofInt x).toBitVec.toNat = x.toNat := by
  obtain ⟨n, rfl⟩ : ∃ n : Nat, x = (n : Int) := ⟨x.toNat, by omega⟩
  show (BitVec.ofInt 32 (n : Int)).toNat = (n : Int).toNat
  rw [BitVec.ofInt_natCast, BitVec.toNat_ofNat]
  exact Nat.mod_eq_of_lt (by omega)
theorem bit_nat {x : Int} (h0 : 0 ≤ x) (h1 : x ≤ 2147483647) (i : Nat) : bit x i = x.toNat.testBit i := by
  unfold bit
  rw [BitVec.getLsbD, bv_nat h0 h1]
theorem bit_shr {x : Int} (h0 : 0 ≤ x) (h1 : x ≤ 2147483647) {n : Nat} (hn : n < 32) (i : Nat) : bit (bShr x (n : Int)) i = bit x (n + i) := by
  unfold bShr
  rw [bit_toInt, shr_bv _ n hn, BitVec.getLsbD_sshiftRight]
  have hm : (Int32.ofInt x).toBitVec.msb = false := by
    rw [BitVec.msb_eq_false_iff_two_mul_lt, bv_nat h0 h1]
    omega
  by_cases hi : 32 ≤ i
  · rw [bit_big (show 32 ≤ n + i by omega)]
    simp [hi]
  · by_cases hj : n + i < 32
    · simp [hi, hj, bit]
    · rw [bit_big (show 32 ≤ n + i by omega)]
      have hm2 : (BitVec.ofInt 32 x).msb = false := hm
      simp [hi, hj, hm2]
/-- the number of the set of those below n that P holds of -/
def setN (P : Nat → Bool) : Nat → Nat
  | 0 => 0
  | n + 1 => setN P n + (if P n then 2 ^ n else 0)
def setI (P : Nat → Bool) (n : Nat) : Int := (setN P n : Nat)
theorem setN_lt (P : Nat → Bool) : ∀ n, setN P n < 2 ^ n
  | 0 => Nat.one_pos
  | n + 1 => by
    have ih := setN_lt P n
    show setN P n + (if P n then 2 ^ n else 0) < 2 ^ (n + 1)
    rw [Nat.pow_succ]
    split <;> omega
theorem setN_bit (P : Nat → Bool) : ∀ n i, (setN P n).testBit i = (decide (i < n) && P i)
  | 0, i => by simp [setN]
  | n + 1, i => by
    have ih := setN_bit P n i
    have hl := setN_lt P n
    show (setN P n + (if P n then 2 ^ n else 0)).testBit i = _
    by_cases hp : P n = true
    · rw [if_pos hp, Nat.add_comm]
      by_cases e : i = n
      · subst e
        rw [Nat.testBit_two_pow_add_eq, Nat.testBit_lt_two_pow hl]
        simp [hp]
      · by_cases g : i < n
        · rw [Nat.testBit_two_pow_add_gt g, ih]
          simp [g, Nat.lt_succ_of_lt g]
        · have h9 : 2 ^ n + setN P n < 2 ^ i := by
            have : 2 ^ (n + 1) ≤ 2 ^ i := Nat.pow_le_pow_right (by decide) (by omega)
            rw [Nat.pow_succ] at this
            omega
          rw [Nat.testBit_lt_two_pow h9]
          simp [show ¬ i < n + 1 by omega]
    · rw [if_neg hp, Nat.add_zero, ih]
      by_cases e : i = n
      · subst e; simp [hp]
      · by_cases g : i < n
        · simp [g, Nat.lt_succ_of_lt g]
        · simp [g, show ¬ i < n + 1 by omega]
theorem setI_bd {P : Nat → Bool} {n : Nat} (hn : n ≤ 24) : 0 ≤ setI P n ∧ setI P n < 16777216 := by
  have h := setN_lt P n
  have h2 : 2 ^ n ≤ 2 ^ 24 := Nat.pow_le_pow_right (by decide) hn
  unfold setI
  omega
theorem setI_bit {P : Nat → Bool} {n : Nat} (hn : n ≤ 24) (i : Nat) : bit (setI P n) i = (decide (i < n) && P i) := by
  have h := setI_bd (P := P) hn
  rw [bit_nat h.1 (by omega), ← setN_bit P n i]
  rfl
theorem setI_eq {P : Nat → Bool} {n : Nat} (hn : n ≤ 24) {x : Int} (hx : inR x) (h : ∀ i, i < 32 → bit x i = (decide (i < n) && P i)) : x = setI P n := by
  have hb := setI_bd (P := P) hn
  refine bit_ext hx (by unfold inR; omega) (fun i hi => ?_)
  rw [h i hi, setI_bit hn]
theorem setI_congr {P Q : Nat → Bool} {n : Nat} (hn : n ≤ 24) (h : ∀ i, i < n → P i = Q i) : setI P n = setI Q n := by
  have hb := setI_bd (P := P) hn
  refine setI_eq hn (by unfold inR; omega) (fun i hi => ?_)
  rw [setI_bit hn]
  by_cases g : i < n
  · simp [g, h i g]
  · simp [g]
