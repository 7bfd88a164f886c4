/-! e9: the differences that two events may have, by the spans between them -/
def dOK (S : Int → Int) (a b d n : Int) : Prop := ∀ k, 0 ≤ k → k < n → (frS S k = a ∧ toS S k = b → kpBy S k (slBy S k d)) ∧ (frS S k = b ∧ toS S k = a → kpBy S k (slBy S k (-d)))
theorem lay_bits {S A : Int → Int} (h : Ok S) (hA : MatOk (S 0).toNat A) (hs : SymA (S 0).toNat (S 1) A) : ∀ n : Nat, (n : Int) ≤ S 20 → ∀ (a b : Int) (i : Nat), (0 ≤ a ∧ a < S 1) → (0 ≤ b ∧ b < S 1) → a ≠ b → i < (S 0).toNat → (bit (layN S A n (6 * a + b)) i = true ↔ bit (A (6 * a + b)) i = true ∧ ∀ k, 0 ≤ k → k < (n : Int) → (frS S k = a ∧ toS S k = b → bit (keptI S k) i = true) ∧ (frS S k = b ∧ toS S k = a → bit (keptI S k) (((S 0).toNat - i) % (S 0).toNat) = true))
  | 0, _, a, b, i, _, _, _, _ => ⟨fun z => ⟨z, fun k k0 k1 => by omega⟩, fun z => z.1⟩
  | n + 1, hn, a, b, i, ha, hb, hab, hi => by
    have hT := h.1
    have hE := h.2.1
    have z := h.2.2.2.2 n (by omega) (by omega)
    unfold SpOk at z
    have ih := lay_bits h hA hs n (by omega) a b i ha hb hab hi
    have hsy := layN_sym h hA hs n (by omega)
    have key : bit (layN S A (n + 1) (6 * a + b)) i = true ↔ bit (layN S A n (6 * a + b)) i = true ∧ (frS S n = a ∧ toS S n = b → bit (keptI S n) i = true) ∧ (frS S n = b ∧ toS S n = a → bit (keptI S n) (((S 0).toNat - i) % (S 0).toNat) = true) := by
      show bit (narA (S 0).toNat (layN S A n) (frS S n) (toS S n) (keptI S n) (6 * a + b)) i = true ↔ _
      have z1 : 0 ≤ frS S n ∧ frS S n < S 1 := z.1
      have z2 : 0 ≤ toS S n ∧ toS S n < S 1 := z.2.1
      have z3 : frS S n ≠ toS S n := z.2.2.1
      unfold narA
      by_cases e1 : 6 * a + b = 6 * toS S n + frS S n
      · have ea : a = toS S n := by omega
        have eb : b = frS S n := by omega
        rw [e1, upS_same, turn_bit (by omega), bit_and, decide_eq_true hi, Bool.true_and, Bool.and_eq_true]
        rw [hsy (frS S n) (toS S n) z1.1 z1.2 z2.1 z2.2 z3, turn_bit (by omega), decide_eq_true hi, Bool.true_and]
        constructor
        · rintro ⟨p, q⟩
          exact ⟨p, fun w => absurd (by omega) z3, fun _ => q⟩
        · rintro ⟨p, -, q⟩
          exact ⟨p, q ⟨by omega, by omega⟩⟩
      · rw [upS_ne e1]
        by_cases e2 : 6 * a + b = 6 * frS S n + toS S n
        · have ea : a = frS S n := by omega
          have eb : b = toS S n := by omega
          rw [e2, upS_same, bit_and, Bool.and_eq_true]
          constructor
          · rintro ⟨p, q⟩
            exact ⟨p, fun _ => q, fun w => absurd (by omega) z3⟩
          · rintro ⟨p, q, -⟩
            exact ⟨p, q ⟨by omega, by omega⟩⟩
        · rw [upS_ne e2]
          exact ⟨fun p => ⟨p, fun w => absurd (by omega) e2, fun w => absurd (by omega) e1⟩, fun p => p.1⟩
    rw [key, ih]
    constructor
    · rintro ⟨⟨p, q⟩, r⟩
      refine ⟨p, fun k k0 k1 => ?_⟩
      by_cases y : k = n
      · rw [y]; exact r
      · exact q k k0 (by omega)
    · rintro ⟨p, q⟩
      exact ⟨⟨p, fun k k0 k1 => q k k0 (by omega)⟩, q n (by omega) (by omega)⟩
theorem lay_diag {S A : Int → Int} (h : Ok S) {a : Int} (ha : 0 ≤ a ∧ a < S 1) : ∀ n : Nat, (n : Int) ≤ S 20 → layN S A n (6 * a + a) = A (6 * a + a)
  | 0, _ => rfl
  | n + 1, hn => by
    have hE := h.2.1
    have z := h.2.2.2.2 n (by omega) (by omega)
    unfold SpOk at z
    have z1 : 0 ≤ frS S n ∧ frS S n < S 1 := z.1
    have z2 : 0 ≤ toS S n ∧ toS S n < S 1 := z.2.1
    have z3 : frS S n ≠ toS S n := z.2.2.1
    show narA (S 0).toNat (layN S A n) (frS S n) (toS S n) (keptI S n) (6 * a + a) = _
    unfold narA
    rw [upS_ne (by omega), upS_ne (by omega)]
    exact lay_diag h ha n (by omega)
theorem kept_d {S : Int → Int} (h : Ok S) {k : Int} {i : Nat} (hi : i < (S 0).toNat) : bit (keptI S k) i = true ↔ kpBy S k (slBy S k (i : Int)) := by
  have hT := h.1
  unfold keptI
  rw [setI_bit (by omega), decide_eq_true hi, Bool.true_and, decide_eq_true_iff]
theorem ly_bit {S : Int → Int} (h : Ok S) {a b d : Int} (ha : 0 ≤ a ∧ a < S 1) (hb : 0 ≤ b ∧ b < S 1) (hab : a ≠ b) (hd : 0 ≤ d ∧ d < S 0) : bit (lyS S (6 * a + b)) d.toNat = true ↔ dOK S a b d (S 20) := by
  have hT := h.1
  have hE := h.2.1
  have hN := h.2.2.1
  have e := lay_bits h (lay0_ok (T := (S 0).toNat) (by omega) (by omega) (fun _ => 0)) (lay0_sym (by omega) (by omega) _) (S 20).toNat (by omega) a b d.toNat ha hb hab (by omega)
  have e2 : bit (fillA (fun _ => 0) (lay0 (S 0).toNat) 36 (6 * a + b)) d.toNat = true := by
    unfold fillA
    rw [if_pos (by omega), lay0_at (by omega), if_neg hab]
    unfold allI
    rw [setI_bit (by omega), decide_eq_true (show d.toNat < (S 0).toNat by omega)]
    rfl
  unfold lyS
  rw [e]
  have hr : ∀ k : Int, slBy S k (((((S 0).toNat - d.toNat) % (S 0).toNat : Nat)) : Int) = slBy S k (-d) := fun k => by
    have e3 : (((((S 0).toNat - d.toNat) % (S 0).toNat : Nat)) : Int) = (-d + S 0 * 1) % S 0 := by
      rw [Int.natCast_emod, show (((S 0).toNat - d.toNat : Nat) : Int) = -d + S 0 * 1 by omega, show (((S 0).toNat : Nat) : Int) = S 0 by omega]
    rw [e3, slBy_mod.1, slBy_per]
  constructor
  · rintro ⟨-, q⟩ k k0 k1
    obtain ⟨q1, q2⟩ := q k k0 (by omega)
    refine ⟨fun w => ?_, fun w => ?_⟩
    · have := (kept_d h (by omega)).mp (q1 w)
      rw [show ((d.toNat : Nat) : Int) = d by omega] at this
      exact this
    · have := (kept_d h (Nat.mod_lt _ (by omega))).mp (q2 w)
      rw [hr] at this
      exact this
  · intro q
    refine ⟨e2, fun k k0 k1 => ?_⟩
    obtain ⟨q1, q2⟩ := q k k0 (by omega)
    refine ⟨fun w => (kept_d h (by omega)).mpr ?_, fun w => (kept_d h (Nat.mod_lt _ (by omega))).mpr ?_⟩
    · rw [show ((d.toNat : Nat) : Int) = d by omega]
      exact q1 w
    · rw [hr]
      exact q2 w
theorem ly_diag {S : Int → Int} (h : Ok S) {a d : Int} (ha : 0 ≤ a ∧ a < S 1) (hd : 0 ≤ d ∧ d < S 0) : bit (lyS S (6 * a + a)) d.toNat = true ↔ d = 0 := by
  have hE := h.2.1
  have hN := h.2.2.1
  unfold lyS
  rw [lay_diag h ha _ (by omega)]
  unfold fillA
  rw [if_pos (by omega), lay0_at (by omega), if_pos rfl, bit_1, decide_eq_true_iff]
  omega
theorem pcN_top {T : Nat} {x : Int} (h : Set24 T x) : ∀ n : Nat, pcN x (T + n) = pcN x T
  | 0 => rfl
  | n + 1 => by
    show pcN x (T + n) + (if bit x (T + n) then 1 else 0) = pcN x T
    rw [pcN_top h n, h.2 (T + n) (by omega)]
    rfl
theorem turn_cnt : ∀ T : Nat, T < 7 → ∀ x : Nat, x < 2 ^ T → pcN (turnI T (x : Int)) 24 = pcN (x : Int) 24 := by decide +kernel
theorem set_lt {T : Nat} {x : Int} (h : Set24 T x) : x.toNat < 2 ^ T := by
  obtain ⟨⟨h0, h1⟩, h2⟩ := h
  refine Nat.lt_pow_two_of_testBit _ (fun i hi => ?_)
  rw [← bit_nat h0 (by omega)]
  exact h2 i hi
theorem al_sym {S : Int → Int} (h : Ok S) (hp : S 0 ≤ 6) {a b : Int} (ha : 0 ≤ a ∧ a < S 1) (hb : 0 ≤ b ∧ b < S 1) : alS S a b 1 = alS S b a 1 := by
  have hT := h.1
  have hE := h.2.1
  unfold alS
  rw [if_neg (by decide)]
  by_cases z : a = b
  · rw [z]
  · rw [tgS_sym h a b ha.1 ha.2 hb.1 hb.2 z]
    have hx := tgS_ok h (6 * a + b) (by omega) (by omega)
    have e := turn_cnt (S 0).toNat (by omega) (tgS S (6 * a + b)).toNat (set_lt hx)
    rw [show (((tgS S (6 * a + b)).toNat : Nat) : Int) = tgS S (6 * a + b) by have := hx.1.1; omega] at e
    rw [e]
theorem tg_ly {S : Int → Int} {a b : Int} {i : Nat} (h : bit (tgS S (6 * a + b)) i = true) : bit (lyS S (6 * a + b)) i = true := itR_sub (rdS S + 1) _ _ h
theorem al_le {S : Int → Int} {a b : Int} : alS S a b 1 ≤ alS S a b 0 := by
  unfold alS
  rw [if_neg (by decide), if_pos rfl]
  have := pcN_le (x := tgS S (6 * a + b)) (y := lyS S (6 * a + b)) (fun i hi => tg_ly hi) 24
  omega
theorem al_0 {S : Int → Int} (h : Ok S) {a b : Int} (ha : 0 ≤ a ∧ a < S 1) (hb : 0 ≤ b ∧ b < S 1) : alS S a b 0 = pcN (lyS S (6 * a + b)) (S 0).toNat := by
  have hT := h.1
  have hE := h.2.1
  unfold alS
  rw [if_pos rfl]
  have := pcN_top (lyS_ok h (6 * a + b) (by omega) (by omega)) (24 - (S 0).toNat)
  rw [show (S 0).toNat + (24 - (S 0).toNat) = 24 by omega] at this
  rw [this]
theorem al_bd {S : Int → Int} {a b t : Int} : 0 ≤ alS S a b t ∧ alS S a b t ≤ 24 := by
  have key : ∀ (x : Int) (n : Nat), pcN x n ≤ n := fun x n => by
    induction n with
    | zero => exact Nat.le_refl 0
    | succ n ih =>
      show pcN x n + (if bit x n then 1 else 0) ≤ n + 1
      split <;> omega
  unfold alS
  have := key ((if t = 0 then lyS S else tgS S) (6 * a + b)) 24
  omega
