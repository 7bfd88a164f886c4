/-! 33: how many bits: the JDK's way and the reference's -/
theorem bv_int {b : BitVec 32} (h : b.toNat < 2147483648) : b.toInt = (b.toNat : Int) := BitVec.toInt_eq_toNat_of_lt (by omega)
theorem ush_nat {x n : Nat} (hx : x ≤ 2147483647) (hb : ∀ a : Int32, ((a.toUInt32 >>> ((Int32.ofInt (n : Int)).toUInt32 &&& Int32.toUInt32 31)).toInt32).toBitVec = a.toBitVec >>> n) : bUshr (x : Int) (n : Int) = ((x / 2 ^ n : Nat) : Int) := by
  have h1 := bv_nat (x := (x : Int)) (by omega) (by omega)
  have h2 : (((Int32.ofInt (x : Int)).toUInt32 >>> ((Int32.ofInt (n : Int)).toUInt32 &&& Int32.toUInt32 31)).toInt32).toBitVec.toNat = x / 2 ^ n := by
    rw [hb, BitVec.toNat_ushiftRight, h1, Nat.shiftRight_eq_div_pow]
    rfl
  have h3 : x / 2 ^ n ≤ x := Nat.div_le_self _ _
  show (((Int32.ofInt (x : Int)).toUInt32 >>> ((Int32.ofInt (n : Int)).toUInt32 &&& Int32.toUInt32 31)).toInt32).toBitVec.toInt = _
  rw [bv_int (by omega), h2]
theorem ush_1 {x : Nat} (hx : x ≤ 2147483647) : bUshr (x : Int) 1 = ((x / 2 : Nat) : Int) := ush_nat (n := 1) hx (fun _ => rfl)
theorem ush_2 {x : Nat} (hx : x ≤ 2147483647) : bUshr (x : Int) 2 = ((x / 4 : Nat) : Int) := ush_nat (n := 2) hx (fun _ => rfl)
theorem ush_4 {x : Nat} (hx : x ≤ 2147483647) : bUshr (x : Int) 4 = ((x / 16 : Nat) : Int) := ush_nat (n := 4) hx (fun _ => rfl)
theorem ush_8 {x : Nat} (hx : x ≤ 2147483647) : bUshr (x : Int) 8 = ((x / 256 : Nat) : Int) := ush_nat (n := 8) hx (fun _ => rfl)
theorem ush_16 {x : Nat} (hx : x ≤ 2147483647) : bUshr (x : Int) 16 = ((x / 65536 : Nat) : Int) := ush_nat (n := 16) hx (fun _ => rfl)
theorem and_nat {x y : Nat} (hx : x ≤ 2147483647) (hy : y ≤ 2147483647) : bAnd (x : Int) (y : Int) = ((x &&& y : Nat) : Int) := by
  have h1 := bv_nat (x := (x : Int)) (by omega) (by omega)
  have h2 := bv_nat (x := (y : Int)) (by omega) (by omega)
  have h3 : (Int32.ofInt (x : Int) &&& Int32.ofInt (y : Int)).toBitVec.toNat = x &&& y := by
    rw [Int32.toBitVec_and, BitVec.toNat_and, h1, h2]
    rfl
  have h4 : x &&& y ≤ x := Nat.and_le_left
  show (Int32.ofInt (x : Int) &&& Int32.ofInt (y : Int)).toBitVec.toInt = _
  rw [bv_int (by omega), h3]
theorem land_split (a b k m : Nat) (ha : a < 256) (hk : k < 256) : (256 * b + a) &&& (256 * m + k) = 256 * (b &&& m) + (a &&& k) := by
  have hak : a &&& k < 2 ^ 8 := Nat.and_lt_two_pow _ hk
  apply Nat.eq_of_testBit_eq
  intro i
  rw [Nat.testBit_and]
  have e1 := Nat.testBit_two_pow_mul_add b (i := 8) ha i
  have e2 := Nat.testBit_two_pow_mul_add m (i := 8) hk i
  have e3 := Nat.testBit_two_pow_mul_add (b &&& m) (i := 8) hak i
  rw [show (2 : Nat) ^ 8 = 256 by rfl] at e1 e2 e3
  rw [e1, e2, e3]
  split
  · rw [Nat.testBit_and]
  · rw [Nat.testBit_and]
def bF1 (b : Nat) : Nat := (b / 2) &&& 85
def bF2 (b : Nat) : Nat := (b &&& 51) + ((b / 4) &&& 51)
def bF3 (b : Nat) : Nat := (b + b / 16) % 16
def bP8 (b : Nat) : Nat := b / 1 % 2 + b / 2 % 2 + b / 4 % 2 + b / 8 % 2 + b / 16 % 2 + b / 32 % 2 + b / 64 % 2 + b / 128 % 2
theorem bF_all : ∀ b, b < 256 → (bF1 b ≤ b ∧ b - bF1 b < 256) ∧ (bF2 (b - bF1 b) ≤ 68 ∧ bF2 (b - bF1 b) / 16 ≤ 4 ∧ bF2 (b - bF1 b) % 16 ≤ 4) ∧ bF3 (bF2 (b - bF1 b)) = bP8 b ∧ bP8 b ≤ 8 := by decide +kernel
theorem bF1_hi : ∀ b, b < 128 → ∀ u, u < 2 → (128 * u + b) &&& 85 = b &&& 85 := by decide +kernel
theorem bF2_hi : ∀ b, b < 64 → ∀ u, u < 4 → (64 * u + b) &&& 51 = b &&& 51 := by decide +kernel
theorem bF3_hi : ∀ b, b < 256 → b &&& 15 = b % 16 := by decide +kernel
theorem sw1 (a b c : Nat) (ha : a < 256) (hb : b < 256) (hc : c < 256) : ((65536 * c + 256 * b + a) / 2) &&& 1431655765 = 65536 * bF1 c + 256 * bF1 b + bF1 a := by
  rw [show (65536 * c + 256 * b + a) / 2 = 256 * (256 * (c / 2) + (128 * (c % 2) + b / 2)) + (128 * (b % 2) + a / 2) by omega, show (1431655765 : Nat) = 256 * (256 * 21845 + 85) + 85 by rfl, land_split _ _ _ _ (by omega) (by decide), land_split _ _ _ _ (by omega) (by decide), bF1_hi (a / 2) (by omega) (b % 2) (by omega), bF1_hi (b / 2) (by omega) (c % 2) (by omega)]
  have e : (c / 2) &&& 21845 = bF1 c := by
    have := land_split (c / 2) 0 85 85 (by omega) (by decide)
    rw [show 256 * 0 + c / 2 = c / 2 by omega, show (256 * 85 + 85 : Nat) = 21845 by rfl, Nat.zero_and] at this
    rw [this]
    unfold bF1
    omega
  rw [e]
  unfold bF1
  omega
theorem sw2 (a b c : Nat) (ha : a < 256) (hb : b < 256) (hc : c < 256) : ((65536 * c + 256 * b + a) &&& 858993459) + (((65536 * c + 256 * b + a) / 4) &&& 858993459) = 65536 * bF2 c + 256 * bF2 b + bF2 a := by
  have top : ∀ c, c < 256 → c &&& 13107 = c &&& 51 := fun c hc => by
    have := land_split c 0 51 51 hc (by decide)
    rw [show 256 * 0 + c = c by omega, show (256 * 51 + 51 : Nat) = 13107 by rfl, Nat.zero_and] at this
    omega
  have e1 : (65536 * c + 256 * b + a) &&& 858993459 = 65536 * (c &&& 51) + 256 * (b &&& 51) + (a &&& 51) := by
    rw [show 65536 * c + 256 * b + a = 256 * (256 * c + b) + a by omega, show (858993459 : Nat) = 256 * (256 * 13107 + 51) + 51 by rfl, land_split _ _ _ _ (by omega) (by decide), land_split _ _ _ _ (by omega) (by decide), top c hc]
    omega
  have e2 : ((65536 * c + 256 * b + a) / 4) &&& 858993459 = 65536 * ((c / 4) &&& 51) + 256 * ((b / 4) &&& 51) + ((a / 4) &&& 51) := by
    rw [show (65536 * c + 256 * b + a) / 4 = 256 * (256 * (c / 4) + (64 * (c % 4) + b / 4)) + (64 * (b % 4) + a / 4) by omega, show (858993459 : Nat) = 256 * (256 * 13107 + 51) + 51 by rfl, land_split _ _ _ _ (by omega) (by decide), land_split _ _ _ _ (by omega) (by decide), bF2_hi (a / 4) (by omega) (b % 4) (by omega), bF2_hi (b / 4) (by omega) (c % 4) (by omega), top (c / 4) (by omega)]
    omega
  rw [e1, e2]
  unfold bF2
  omega
theorem sw3 (a b c : Nat) (ha : a ≤ 68 ∧ a / 16 ≤ 4 ∧ a % 16 ≤ 4) (hb : b ≤ 68 ∧ b / 16 ≤ 4 ∧ b % 16 ≤ 4) (hc : c ≤ 68 ∧ c / 16 ≤ 4 ∧ c % 16 ≤ 4) : ((65536 * c + 256 * b + a) + (65536 * c + 256 * b + a) / 16) &&& 252645135 = 65536 * bF3 c + 256 * bF3 b + bF3 a := by
  have top : ∀ c, c < 256 → c &&& 3855 = c % 16 := fun c hc => by
    have := land_split c 0 15 15 hc (by decide)
    rw [show 256 * 0 + c = c by omega, show (256 * 15 + 15 : Nat) = 3855 by rfl, Nat.zero_and, bF3_hi c hc] at this
    omega
  rw [show (65536 * c + 256 * b + a) + (65536 * c + 256 * b + a) / 16 = 256 * (256 * (c + c / 16) + (b + b / 16 + 16 * (c % 16))) + (a + a / 16 + 16 * (b % 16)) by omega, show (252645135 : Nat) = 256 * (256 * 3855 + 15) + 15 by rfl, land_split _ _ _ _ (by omega) (by decide), land_split _ _ _ _ (by omega) (by decide), top _ (by omega), bF3_hi _ (by omega), bF3_hi _ (by omega)]
  unfold bF3
  omega
theorem pcN_split {a b c : Nat} (ha : a < 256) (hb : b < 256) (hc : c < 256) : pcN (((65536 * c + 256 * b + a : Nat)) : Int) 24 = bP8 a + bP8 b + bP8 c := by
  have h0 : ∀ i, (if bit (((65536 * c + 256 * b + a : Nat)) : Int) i then 1 else 0) = (65536 * c + 256 * b + a) / 2 ^ i % 2 := by
    intro i
    rw [bit_nat (by omega) (by omega), Int.toNat_natCast, Nat.testBit_eq_decide_div_mod_eq]
    have : (65536 * c + 256 * b + a) / 2 ^ i % 2 < 2 := Nat.mod_lt _ (by decide)
    by_cases e : (65536 * c + 256 * b + a) / 2 ^ i % 2 = 1
    · simp [e]
    · simp [e]
      omega
  have lo : ∀ x y : Nat, x < 256 → (256 * y + x) / 1 % 2 = x / 1 % 2 ∧ (256 * y + x) / 2 % 2 = x / 2 % 2 ∧ (256 * y + x) / 4 % 2 = x / 4 % 2 ∧ (256 * y + x) / 8 % 2 = x / 8 % 2 ∧ (256 * y + x) / 16 % 2 = x / 16 % 2 ∧ (256 * y + x) / 32 % 2 = x / 32 % 2 ∧ (256 * y + x) / 64 % 2 = x / 64 % 2 ∧ (256 * y + x) / 128 % 2 = x / 128 % 2 := fun x y hx => by
    refine ⟨?_, ?_, ?_, ?_, ?_, ?_, ?_, ?_⟩ <;> omega
  have e8 : ∀ k, (65536 * c + 256 * b + a) / (256 * k) = (256 * c + b) / k := fun k => by rw [← Nat.div_div_eq_div_mul, show (65536 * c + 256 * b + a) / 256 = 256 * c + b by omega]
  have e16 : ∀ k, (65536 * c + 256 * b + a) / (65536 * k) = c / k := fun k => by rw [← Nat.div_div_eq_div_mul, show (65536 * c + 256 * b + a) / 65536 = c by omega]
  have l1 := lo a (256 * c + b) ha
  have l2 := lo b c hb
  rw [show 256 * (256 * c + b) + a = 65536 * c + 256 * b + a by omega] at l1
  obtain ⟨a0, a1, a2, a3, a4, a5, a6, a7⟩ := l1
  obtain ⟨b0, b1, b2, b3, b4, b5, b6, b7⟩ := l2
  rw [← e8] at b0 b1 b2 b3 b4 b5 b6 b7
  have c0 := congrArg (· % 2) (e16 1)
  have c1 := congrArg (· % 2) (e16 2)
  have c2 := congrArg (· % 2) (e16 4)
  have c3 := congrArg (· % 2) (e16 8)
  have c4 := congrArg (· % 2) (e16 16)
  have c5 := congrArg (· % 2) (e16 32)
  have c6 := congrArg (· % 2) (e16 64)
  have c7 := congrArg (· % 2) (e16 128)
  unfold bP8
  rw [← a0, ← a1, ← a2, ← a3, ← a4, ← a5, ← a6, ← a7, ← b0, ← b1, ← b2, ← b3, ← b4, ← b5, ← b6, ← b7, ← c0, ← c1, ← c2, ← c3, ← c4, ← c5, ← c6, ← c7]
  simp only [pcN, h0]
  generalize (65536 * c + 256 * b + a) = x
  simp only [Nat.reducePow, Nat.reduceMul]
  omega
def swS1 (x : Int) : Int := x - bAnd (bUshr x 1) 1431655765
def swS2 (x : Int) : Int := bAnd x 858993459 + bAnd (bUshr x 2) 858993459
def swS3 (x : Int) : Int := bAnd (x + bUshr x 4) 252645135
def swS4 (x : Int) : Int := x + bUshr x 8
def swS5 (x : Int) : Int := x + bUshr x 16
theorem swar {x : Int} (h : 0 ≤ x ∧ x < 16777216) : bAnd (swS5 (swS4 (swS3 (swS2 (swS1 x))))) 63 = (pcN x 24 : Int) := by
  obtain ⟨n, rfl⟩ : ∃ n : Nat, x = (n : Int) := ⟨x.toNat, by omega⟩
  obtain ⟨a, b, c, rfl, ha, hb, hc⟩ : ∃ a b c, n = 65536 * c + 256 * b + a ∧ a < 256 ∧ b < 256 ∧ c < 256 := ⟨n % 256, n / 256 % 256, n / 65536, by omega, by omega, by omega, by omega⟩
  obtain ⟨pa, qa, ra, sa⟩ := bF_all a ha
  obtain ⟨pb, qb, rb, sb⟩ := bF_all b hb
  obtain ⟨pc, qc, rc, sc⟩ := bF_all c hc
  have e1 : swS1 ((65536 * c + 256 * b + a : Nat) : Int) = ((65536 * (c - bF1 c) + 256 * (b - bF1 b) + (a - bF1 a) : Nat) : Int) := by
    unfold swS1
    rw [ush_1 (by omega), show (1431655765 : Int) = ((1431655765 : Nat) : Int) by rfl, and_nat (by have := Nat.div_le_self (65536 * c + 256 * b + a) 2; omega) (by decide), sw1 a b c ha hb hc]
    omega
  have e2 : ∀ A B C, A < 256 → B < 256 → C < 256 → swS2 ((65536 * C + 256 * B + A : Nat) : Int) = ((65536 * bF2 C + 256 * bF2 B + bF2 A : Nat) : Int) := fun A B C hA hB hC => by
    unfold swS2
    rw [ush_2 (by omega), show (858993459 : Int) = ((858993459 : Nat) : Int) by rfl, and_nat (by omega) (by decide), and_nat (by have := Nat.div_le_self (65536 * C + 256 * B + A) 4; omega) (by decide), ← sw2 A B C hA hB hC]
    rfl
  have e3 : ∀ A B C, (A ≤ 68 ∧ A / 16 ≤ 4 ∧ A % 16 ≤ 4) → (B ≤ 68 ∧ B / 16 ≤ 4 ∧ B % 16 ≤ 4) → (C ≤ 68 ∧ C / 16 ≤ 4 ∧ C % 16 ≤ 4) → swS3 ((65536 * C + 256 * B + A : Nat) : Int) = ((65536 * bF3 C + 256 * bF3 B + bF3 A : Nat) : Int) := fun A B C hA hB hC => by
    have hd := Nat.div_le_self (65536 * C + 256 * B + A) 16
    unfold swS3
    rw [ush_4 (by omega), show (252645135 : Int) = ((252645135 : Nat) : Int) by rfl, ← Int.natCast_add, and_nat (by omega) (by decide), sw3 A B C hA hB hC]
  rw [e1, e2 _ _ _ pa.2 pb.2 pc.2, e3 _ _ _ qa qb qc, ra, rb, rc, pcN_split ha hb hc]
  generalize bP8 a = A at *
  generalize bP8 b = B at *
  generalize bP8 c = C at *
  have e4 : swS4 ((65536 * C + 256 * B + A : Nat) : Int) = ((65536 * C + 256 * (B + C) + (A + B) : Nat) : Int) := by
    unfold swS4
    rw [ush_8 (by omega)]
    omega
  have e5 : swS5 ((65536 * C + 256 * (B + C) + (A + B) : Nat) : Int) = ((65536 * C + 256 * (B + C) + (A + B + C) : Nat) : Int) := by
    unfold swS5
    rw [ush_16 (by omega)]
    omega
  rw [e4, e5, show (63 : Int) = ((63 : Nat) : Int) by rfl, and_nat (by omega) (by decide), show (63 : Nat) = 2 ^ 6 - 1 by rfl, Nat.and_two_pow_sub_one_eq_mod]
  omega