/-! 33: how many bits: the JDK's way and the reference's -/
theorem bv_int {b : BitVec 32} (h : b.toNat < 2147483648) : b.toInt = (b.toNat : Int) := BitVec.toInt_eq_toNat_of_lt (by omega)
theorem ush_nat {x n : Nat} (hx : x ≤ 2147483647) (hb : ∀ a : Int32, ((a.toUInt32 >>> ((Int32.ofInt (n : Int)).toUInt32 &&& Int32.toUInt32 31)).toInt32).toBitVec = a.toBitVec >>> n) : bUshr (x : Int) (n : Int) = ((x / 2 ^ n : Nat) : Int) := by
  have h1 := bv_nat (x := (x : Int)) (by omega) (by omega)
  have h2 : (((Int32.ofInt (x : Int)).toUInt32 >>> ((Int32.ofInt (n : Int)).toUInt32 &&& Int32.toUInt32 31)).toInt32).toBitVec.toNat = x / 2 ^ n := by
    rw [hb, BitVec.toNat_ushiftRight, h1, Nat.shiftRight_eq_div_pow]
    rfl
  have h3 : x / 2 ^ n ≤ x := Nat.div_le_self _ _
  show (((Int32.ofInt (x : Int)).toUInt32 >>> ((Int32.ofInt (n : Int)).toUInt32 &&& Int32.toUInt32 31)).toInt32).toBitVec.toInt = _
  rw [bv_int (by omega), h2]
theorem ush_1 {x : Nat} (hx : x ≤ 2147483647) : bUshr (x : Int) 1 = ((x / 2 : Nat) : Int) := ush_nat (n := 1) hx (fun _ => rfl)
theorem ush_2 {x : Nat} (hx : x ≤ 2147483647) : bUshr (x : Int) 2 = ((x / 4 : Nat) : Int) := ush_nat (n := 2) hx (fun _ => rfl)
theorem ush_4 {x : Nat} (hx : x ≤ 2147483647) : bUshr (x : Int) 4 = ((x / 16 : Nat) : Int) := ush_nat (n := 4) hx (fun _ => rfl)
theorem ush_8 {x : Nat} (hx : x ≤ 2147483647) : bUshr (x : Int) 8 = ((x / 256 : Nat) : Int) := ush_nat (n := 8) hx (fun _ => rfl)
theorem ush_16 {x : Nat} (hx : x ≤ 2147483647) : bUshr (x : Int) 16 = ((x / 65536 : Nat) : Int) := ush_nat (n := 16) hx (fun _ => rfl)
theorem and_nat {x y : Nat} (hx : x ≤ 2147483647) (hy : y ≤ 2147483647) : bAnd (x : Int) (y : Int) = ((x &&& y : Nat) : Int) := by
  have h1 := bv_nat (x := (x : Int)) (by omega) (by omega)
  have h2 := bv_nat (x := (y : Int)) (by omega) (by omega)
  have h3 : (Int32.ofInt (x : Int) &&& Int32.ofInt (y : Int)).toBitVec.toNat = x &&& y := by
    rw [Int32.toBitVec_and, BitVec.toNat_and, h1, h2]
    rfl
  have h4 : x &&& y ≤ x := Nat.and_le_left
  show (Int32.ofInt (x : Int) &&& Int32.ofInt (y : Int)).toBitVec.toInt = _
  rw [bv_int (by omega), h3]
theorem land_split (a b k m : Nat) (ha : a < 256) (hk : k < 256) : (256 * b + a) &&& (256 * m + k) = 256 * (b &&& m) + (a &&& k) := by
  have hak : a &&& k < 2 ^ 8 := Nat.and_lt_two_pow _ hk
  apply Nat.eq_of_testBit_eq
  intro i
  rw [Nat.testBit_and]
  have e1 := Nat.testBit_two_pow_mul_add b (i := 8) ha i
  have e2 := Nat.testBit_two_pow_mul_add m (i := 8) hk i
  have e3 := Nat.testBit_two_pow_mul_add (b &&& m) (i := 8) hak i
  rw [show (2 : Nat) ^ 8 = 256 by rfl] at e1 e2 e3
  rw [e1, e2, e3]
  split
  · rw [Nat.testBit_and]
  · rw [Nat.testBit_and]
def bF1 (b : Nat) : Nat := (b / 2) &&& 85
def bF2 (b : Nat) : Nat := (b &&& 51) + ((b / 4) &&& 51)
def bF3 (b : Nat) : Nat := (b + b / 16) % 16
def bP8 (b : Nat) : Nat := b / 1 % 2 + b / 2 % 2 + b / 4 % 2 + b / 8 % 2 + b / 16 % 2 + b / 32 % 2 + b / 64 % 2 + b / 128 % 2
theorem bF_all : ∀ b, b < 256 → (bF1 b ≤ b ∧ b - bF1 b < 256) ∧ (bF2 (b - bF1 b) ≤ 68 ∧ bF2 (b - bF1 b) / 16 ≤ 4 ∧ bF2 (b - bF1 b) % 16 ≤ 4) ∧ bF3 (bF2 (b - bF1 b)) = bP8 b ∧ bP8 b ≤ 8 := by decide +kernel
theorem bF1_hi : ∀ b, b < 128 → ∀ u, u < 2 → (128 * u + b) &&& 85 = b &&& 85 := by decide +kernel
theorem bF2_hi : ∀ b, b < 64 → ∀ u, u < 4 → (64 * u + b) &&& 51 = b &&& 51 := by decide +kernel
theorem bF3_hi : ∀ b, b < 256 → b &&& 15 = b % 16 := by decide +kernel
theorem sw1 (a b c : Nat) (ha : a < 256) (hb : b < 256) (hc : c < 256) : ((65536 * c + 256 * b + a) / 2) &&& 1431655765 = 65536 * bF1 c + 256 * bF1 b + bF1 a := by
  rw [show (65536 * c + 256 * b + a) / 2 = 256 * (256 * (c / 2) + (128 * (c % 2) + b / 2)) + (128 * (b % 2) + a / 2) by omega, show (1431655765 : Nat) = 256 * (256 * 21845 + 85) + 85 by rfl, land_split _ _ _ _ (by omega) (by decide), land_split _ _ _ _ (by omega) (by decide), bF1_hi (a / 2) (by omega) (b % 2) (by omega), bF1_hi (b / 2) (by omega) (c % 2) (by omega)]
  have e : (c / 2) &&& 21845 = bF1 c := by
    have := land_split (c / 2) 0 85 85 (by omega) (by decide)
    rw [show 256 * 0 + c / 2 = c / 2 by omega, show (256 * 85 + 85 : Nat) = 21845 by rfl, Nat.zero_and] at this
    rw [this]
    unfold bF1
    omega
  rw [e]
  unfold bF1
  omega
theorem sw2 (a b c : Nat) (ha : a < 256) (hb : b < 256) (hc : c < 256) : ((65536 * c + 256 * b + a) &&& 858993459) + (((65536 * c + 256 * b + a) / 4) &&& 858993459) = 65536 * bF2 c + 256 * bF2 b + bF2 a := by
  have top : ∀ c, c < 256 → c &&& 13107 = c &&& 51 := fun c hc => by
    have := land_split c 0 51 51 hc (by decide)
    rw [show 256 * 0 + c = c by omega, show (256 * 51 + 51 : Nat) = 13107 by rfl, Nat.zero_and] at this
    omega
  have e1 : (65536 * c + 256 * b + a) &&& 858993459 = 65536 * (c &&& 51) + 256 * (b &&& 51) + (a &&& 51) := by
    rw [show 65536 * c + 256 * b + a = 256 * (256 * c + b) + a by omega, show (858993459 : Nat) = 256 * (256 * 13107 + 51) + 51 by rfl, land_split _ _ _ _ (by omega) (by decide), land_split _ _ _ _ (by omega) (by decide), top c hc]
    omega
  have e2 : ((65536 * c + 256 * b + a) / 4) &&& 858993459 = 65536 * ((c / 4) &&& 51) + 256 * ((b / 4) &&& 51) + ((a / 4) &&& 51) := by
    rw [show (65536 * c + 256 * b + a) / 4 = 256 * (256 * (c / 4) + (64 * (c % 4) + b / 4)) + (64 * (b % 4) + a / 4) by omega, show (858993459 : Nat) = 256 * (256 * 13107 + 51) + 51 by rfl, land_split _ _ _ _ (by omega) (by decide), land_split _ _ _ _ (by omega) (by decide), bF2_hi (a / 4) (by omega) (b % 4) (by omega), bF2_hi (b / 4) (by omega) (c % 4) (by omega), top (c / 4) (by omega)]
    omega
  rw [e1, e2]
  unfold bF2
  omega
theorem sw3 (a b c : Nat) (ha : a ≤ 68 ∧ a / 16 ≤ 4 ∧ a % 16 ≤ 4) (hb : b ≤ 68 ∧ b / 16 ≤ 4 ∧ b % 16 ≤ 4) (hc : c ≤ 68 ∧ c / 16 ≤ 4 ∧ c % 16 ≤ 4) : ((65536 * c + 256 * b + a) + (65536 * c + 256 * b + a) / 16) &&& 252645135 = 65536 * bF3 c + 256 * bF3 b + bF3 a := by
  have top : ∀ c, c < 256 → c &&& 3855 = c % 16 := fun c hc => by
    have := land_split c 0 15 15 hc (by decide)
    rw [show 256 * 0 + c = c by omega, show (256 * 15 + 15 : Nat) = 3855 by rfl, Nat.zero_and, bF3_hi c hc] at this
    omega
  rw [show (65536 * c + 256 * b + a) + (65536 * c + 256 * b + a) / 16 = 256 * (256 * (c + c / 16) + (b + b / 16 + 16 * (c % 16))) + (a + a / 16 + 16 * (b % 16)) by omega, show (252645135 : Nat) = 256 * (256 * 3855 + 15) + 15 by rfl, land_split _ _ _ _ (by omega) (by decide), land_split _ _ _ _ (by omega) (by decide), top _ (by omega), bF3_hi _ (by omega), bF3_hi _ (by omega)]
  unfold bF3
  omega
theorem pcN_split {a b c : Nat} (ha : a < 256) (hb : b < 256) (hc : c < 256) : pcN (((65536 * c + 256 * b + a : Nat)) : Int) 24 = bP8 a + bP8 b + bP8 c := by
  have h0 : ∀ i, (if bit (((65536 * c + 256 * b + a : Nat)) : Int) i then 1 else 0) = (65536 * c + 256 * b + a) / 2 ^ i % 2 := by
    intro i
    rw [bit_nat (by omega) (by omega), Int.toNat_natCast, Nat.testBit_eq_decide_div_mod_eq]
    have : (65536 * c + 256 * b + a) / 2 ^ i % 2 < 2 := Nat.mod_lt _ (by decide)
    by_cases e : (65536 * c + 256 * b + a) / 2 ^ i % 2 = 1
    · simp [e]
    · simp [e]
      omega
  have lo : ∀ x y : Nat, x < 256 → (256 * y + x) / 1 % 2 = x / 1 % 2 ∧ (256 * y + x) / 2 % 2 = x / 2 % 2 ∧ (256 * y + x) / 4 % 2 = x / 4 % 2 ∧ (256 * y + x) / 8 % 2 = x / 8 % 2 ∧ (256 * y + x) / 16 % 2 = x / 16 % 2 ∧ (256 * y + x) / 32 % 2 = x / 32 % 2 ∧ (256 * y + x) / 64 % 2 = x / 64 % 2 ∧ (256 * y + x) / 128 % 2 = x / 128 % 2 := fun x y hx => by
    refine ⟨?_, ?_, ?_, ?_, ?_, ?_, ?_, ?_⟩ <;> omega
  have e8 : ∀ k, (65536 * c + 256 * b + a) / (256 * k) = (256 * c + b) / k := fun k => by rw [← Nat.div_div_eq_div_mul, show (65536 * c + 256 * b + a) / 256 = 256 * c + b by omega]
  have e16 : ∀ k, (65536 * c + 256 * b + a) / (65536 * k) = c / k := fun k => by rw [← Nat.div_div_eq_div_mul, show (65536 * c + 256 * b + a) / 65536 = c by omega]
  have l1 := lo a (256 * c + b) ha
  have l2 := lo b c hb
  rw [show 256 * (256 * c + b) + a = 65536 * c + 256 * b + a by omega] at l1
  obtain ⟨a0, a1, a2, a3, a4, a5, a6, a7⟩ := l1
  obtain ⟨b0, b1, b2, b3, b4, b5, b6, b7⟩ := l2
  rw [← e8] at b0 b1 b2 b3 b4 b5 b6 b7
  have c0 := congrArg (· % 2) (e16 1)
  have c1 := congrArg (· % 2) (e16 2)
  have c2 := congrArg (· % 2) (e16 4)
  have c3 := congrArg (· % 2) (e16 8)
  have c4 := congrArg (· % 2) (e16 16)
  have c5 := congrArg (· % 2) (e16 32)
  have c6 := congrArg (· % 2) (e16 64)
  have c7 := congrArg (· % 2) (e16 128)
  unfold bP8
  rw [← a0, ← a1, ← a2, ← a3, ← a4, ← a5, ← a6, ← a7, ← b0, ← b1, ← b2, ← b3, ← b4, ← b5, ← b6, ← b7, ← c0, ← c1, ← c2, ← c3, ← c4, ← c5, ← c6, ← c7]
  simp only [pcN, h0]
  generalize (65536 * c + 256 * b + a) = x
  simp only [Nat.reducePow, Nat.reduceMul]
  omega
def swS1 (x : Int) : Int := x - bAnd (bUshr x 1) 1431655765
def swS2 (x : Int) : Int := bAnd x 858993459 + bAnd (bUshr x 2) 858993459
def swS3 (x : Int) : Int := bAnd (x + bUshr x 4) 252645135
def swS4 (x : Int) : Int := x + bUshr x 8
def swS5 (x : Int) : Int := x + bUshr x 16
theorem swar {x : Int} (h : 0 ≤ x ∧ x < 16777216) : bAnd (swS5 (swS4 (swS3 (swS2 (swS1 x))))) 63 = (pcN x 24 : Int) := by
  obtain ⟨n, rfl⟩ : ∃ n : Nat, x = (n : Int) := ⟨x.toNat, by omega⟩
  obtain ⟨a, b, c, rfl, ha, hb, hc⟩ : ∃ a b c, n = 65536 * c + 256 * b + a ∧ a < 256 ∧ b < 256 ∧ c < 256 := ⟨n % 256, n / 256 % 256, n / 65536, by omega, by omega, by omega, by omega⟩
  obtain ⟨pa, qa, ra, sa⟩ := bF_all a ha
  obtain ⟨pb, qb, rb, sb⟩ := bF_all b hb
  obtain ⟨pc, qc, rc, sc⟩ := bF_all c hc
  have e1 : swS1 ((65536 * c + 256 * b + a : Nat) : Int) = ((65536 * (c - bF1 c) + 256 * (b - bF1 b) + (a - bF1 a) : Nat) : Int) := by
    unfold swS1
    rw [ush_1 (by omega), show (1431655765 : Int) = ((1431655765 : Nat) : Int) by rfl, and_nat (by have := Nat.div_le_self (65536 * c + 256 * b + a) 2; omega) (by decide), sw1 a b c ha hb hc]
    omega
  have e2 : ∀ A B C, A < 256 → B < 256 → C < 256 → swS2 ((65536 * C + 256 * B + A : Nat) : Int) = ((65536 * bF2 C + 256 * bF2 B + bF2 A : Nat) : Int) := fun A B C hA hB hC => by
    unfold swS2
    rw [ush_2 (by omega), show (858993459 : Int) = ((858993459 : Nat) : Int) by rfl, and_nat (by omega) (by decide), and_nat (by have := Nat.div_le_self (65536 * C + 256 * B + A) 4; omega) (by decide), ← sw2 A B C hA hB hC]
    rfl
  have e3 : ∀ A B C, (A ≤ 68 ∧ A / 16 ≤ 4 ∧ A % 16 ≤ 4) → (B ≤ 68 ∧ B / 16 ≤ 4 ∧ B % 16 ≤ 4) → (C ≤ 68 ∧ C / 16 ≤ 4 ∧ C % 16 ≤ 4) → swS3 ((65536 * C + 256 * B + A : Nat) : Int) = ((65536 * bF3 C + 256 * bF3 B + bF3 A : Nat) : Int) := fun A B C hA hB hC => by
    have hd := Nat.div_le_self (65536 * C + 256 * B + A) 16
    unfold swS3
    rw [ush_4 (by omega), show (252645135 : Int) = ((252645135 : Nat) : Int) by rfl, ← Int.natCast_add, and_nat (by omega) (by decide), sw3 A B C hA hB hC]
  rw [e1, e2 _ _ _ pa.2 pb.2 pc.2, e3 _ _ _ qa qb qc, ra, rb, rc, pcN_split ha hb hc]
  generalize bP8 a = A at *
  generalize bP8 b = B at *
  generalize bP8 c = C at *
  have e4 : swS4 ((65536 * C + 256 * B + A : Nat) : Int) = ((65536 * C + 256 * (B + C) + (A + B) : Nat) : Int) := by
    unfold swS4
    rw [ush_8 (by omega)]
    omega
  have e5 : swS5 ((65536 * C + 256 * (B + C) + (A + B) : Nat) : Int) = ((65536 * C + 256 * (B + C) + (A + B + C) : Nat) : Int) := by
    unfold swS5
    rw [ush_16 (by omega)]
    omega
  rw [e4, e5, show (63 : Int) = ((63 : Nat) : Int) by rfl, and_nat (by omega) (by decide), show (63 : Nat) = 2 ^ 6 - 1 by rfl, Nat.and_two_pow_sub_one_eq_mod]
  omega
/-- one bit less -/
theorem pcN_one {x y : Int} {i : Nat} (hx : bit x i = true) (hy : bit y i = false) (h : ∀ j, j ≠ i → bit y j = bit x j) : ∀ n, pcN y n + (if i < n then 1 else 0) = pcN x n
  | 0 => by simp [pcN]
  | n + 1 => by
    have ih := pcN_one hx hy h n
    show pcN y n + (if bit y n then 1 else 0) + (if i < n + 1 then 1 else 0) = pcN x n + (if bit x n then 1 else 0)
    by_cases e : n = i
    · subst e
      rw [hx, hy]
      simp at ih ⊢
      omega
    · rw [h n e]
      by_cases g : i < n
      · simp [g, show i < n + 1 by omega] at ih ⊢
        omega
      · simp [g, show ¬ i < n + 1 by omega] at ih ⊢
        omega
theorem low_bit : ∀ n : Nat, 0 < n → ∃ i a, n = 2 ^ i * (2 * a + 1) := by
  intro n
  induction n using Nat.strongRecOn with
  | _ n ih =>
    intro h
    by_cases e : n % 2 = 1
    · exact ⟨0, n / 2, by omega⟩
    · obtain ⟨i, a, q⟩ := ih (n / 2) (by omega) (by omega)
      refine ⟨i + 1, a, ?_⟩
      rw [Nat.pow_succ, Nat.mul_assoc, Nat.mul_comm 2, ← Nat.mul_assoc, ← q]
      omega
/-- n & (n - 1) has one bit less -/
theorem pcN_step {x : Int} (h : 0 < x ∧ x < 16777216) : (0 ≤ bAnd x (x - 1) ∧ bAnd x (x - 1) < x) ∧ pcN (bAnd x (x - 1)) 24 + 1 = pcN x 24 := by
  obtain ⟨n, rfl⟩ : ∃ n : Nat, x = (n : Int) := ⟨x.toNat, by omega⟩
  obtain ⟨i, a, q⟩ := low_bit n (by omega)
  have hp : 0 < 2 ^ i := Nat.two_pow_pos i
  have e0 : ((n : Int) - 1) = ((n - 1 : Nat) : Int) := by omega
  have e1 := and_nat (x := n) (y := n - 1) (by omega) (by omega)
  have hn1 : n = 2 ^ i * (2 * a + 1) + 0 := by omega
  have hm : 2 ^ i * (2 * a + 1) = 2 ^ i * (2 * a) + 2 ^ i := by rw [Nat.mul_add, Nat.mul_one]
  have hn2 : n - 1 = 2 ^ i * (2 * a) + (2 ^ i - 1) := by omega
  have hle : n &&& (n - 1) ≤ n - 1 := Nat.and_le_right
  have t1 : ∀ j, n.testBit j = if j < i then false else (2 * a + 1).testBit (j - i) := fun j => by
    rw [hn1, Nat.testBit_two_pow_mul_add _ hp, Nat.zero_testBit]
  have t2 : ∀ j, ¬ j < i → (n - 1).testBit j = (2 * a).testBit (j - i) := fun j hj => by
    rw [hn2, Nat.testBit_two_pow_mul_add _ (by omega), if_neg hj]
  have i24 : i < 24 := Classical.byContradiction fun z => by
    have : 2 ^ 24 ≤ 2 ^ i := Nat.pow_le_pow_right (by decide) (by omega)
    have : 2 ^ i * 1 ≤ 2 ^ i * (2 * a + 1) := Nat.mul_le_mul_left _ (by omega)
    omega
  rw [e0, e1]
  refine ⟨⟨by omega, by omega⟩, ?_⟩
  have bn : ∀ k : Nat, k ≤ 2147483647 → ∀ j, bit (k : Int) j = k.testBit j := fun k hk j => by rw [bit_nat (by omega) (by omega), Int.toNat_natCast]
  have := pcN_one (x := (n : Int)) (y := ((n &&& (n - 1) : Nat) : Int)) (i := i) (by rw [bn _ (by omega), t1, if_neg (by omega), Nat.sub_self, Nat.testBit_zero]; simp) (by rw [bn _ (by omega), Nat.testBit_and, t2 i (by omega), Nat.sub_self, Nat.testBit_zero]; simp) (fun j hj => by
    rw [bn _ (by omega), bn _ (by omega), Nat.testBit_and]
    by_cases g : j < i
    · rw [t1, if_pos g, Bool.false_and]
    · obtain ⟨k, hk⟩ : ∃ k, j - i = k + 1 := ⟨j - i - 1, by omega⟩
      rw [t2 j g, t1, if_neg g, hk, Nat.testBit_succ, Nat.testBit_succ, show (2 * a + 1) / 2 = a by omega, show 2 * a / 2 = a by omega, Bool.and_self]) 24
  rw [if_pos i24] at this
  exact this
theorem pcN_0 : ∀ n, pcN 0 n = 0
  | 0 => rfl
  | n + 1 => by
    show pcN 0 n + (if bit 0 n then 1 else 0) = 0
    rw [pcN_0 n, bit_0]
    rfl
/-- the sign of an exclusive or -/
theorem bXor_neg {x y : Int} (hx : inR x) (hy : 0 ≤ y ∧ y ≤ 2147483647) : bXor x y < 0 ↔ x < 0 := by
  have e1 : (Int32.ofInt x ^^^ Int32.ofInt y).toBitVec.msb = ((Int32.ofInt x).toBitVec.msb ^^ (Int32.ofInt y).toBitVec.msb) := by
    rw [Int32.toBitVec_xor, BitVec.msb_xor]
  rw [BitVec.msb_eq_toInt, BitVec.msb_eq_toInt, BitVec.msb_eq_toInt] at e1
  have e2 : (Int32.ofInt x).toBitVec.toInt = x := oi_inR hx
  have e3 : (Int32.ofInt y).toBitVec.toInt = y := oi_inR (by unfold inR; omega)
  rw [e2, e3, decide_eq_false (show ¬ y < 0 by omega), Bool.xor_false] at e1
  show (Int32.ofInt x ^^^ Int32.ofInt y).toBitVec.toInt < 0 ↔ x < 0
  exact decide_eq_decide.mp e1
theorem fdiv_pos {x T : Int} (hT : 0 < T) (h : 0 ≤ x ∨ x.tdiv T * T = x) : x.tdiv T = x / T := by
  rcases h with h | h
  · exact Int.tdiv_eq_ediv_of_nonneg h
  · have := Int.mul_ediv_cancel (x.tdiv T) (show T ≠ 0 by omega)
    rw [h] at this
    exact this.symm
theorem fdiv_neg {x T : Int} (hT : 0 < T) (h : x < 0) (h2 : ¬ x.tdiv T * T = x) : x.tdiv T - 1 = x / T := by
  have h1 := Int.mul_tdiv_add_tmod x T
  have h3 := Int.lt_tmod_of_pos x hT
  have h4 : x.tmod T ≤ 0 := by
    obtain ⟨z, rfl⟩ : ∃ z, x = -z := ⟨-x, by omega⟩
    rw [Int.neg_tmod]
    have := Int.tmod_nonneg T (show 0 ≤ z by omega)
    omega
  have hc : x.tdiv T * T = T * x.tdiv T := Int.mul_comm _ _
  have e : x = (x.tmod T + T) + T * (x.tdiv T - 1) := by rw [Int.mul_sub, Int.mul_one]; omega
  have e2 := Int.add_mul_ediv_left (x.tmod T + T) (x.tdiv T - 1) (show T ≠ 0 by omega)
  rw [← e, Int.ediv_eq_zero_of_lt (a := x.tmod T + T) (b := T) (by omega) (by omega)] at e2
  omega
