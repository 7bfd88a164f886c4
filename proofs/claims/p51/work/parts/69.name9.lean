/-! 69: the reference's names -/
/-- letters from a to b -/
def LT (B : Int → Int) (a b : Int) : Prop := ∀ k, a ≤ k → k < b → 97 ≤ B k ∧ B k ≤ 122
theorem cdN_bd {B : Int → Int} {a b : Int} (h : LT B a b) : ∀ n : Nat, a + n ≤ b → n ≤ 4 → 0 ≤ cdN B a n ∧ (n = 0 → cdN B a n = 0) ∧ (n = 1 → cdN B a n ≤ 26) ∧ (n = 2 → cdN B a n ≤ 728) ∧ (n = 3 → cdN B a n ≤ 19682) ∧ (n = 4 → cdN B a n ≤ 531440)
  | 0, _, _ => by unfold cdN; omega
  | n + 1, hn, h4 => by
    have ih := cdN_bd h n (by omega) (by omega)
    have := h (a + n) (by omega) (by omega)
    unfold cdN
    omega
theorem cdI_bd {B : Int → Int} {a b : Int} (h : LT B a b) (h4 : b - a ≤ 4) : 0 ≤ cdI B a b ∧ cdI B a b ≤ 531440 := by
  by_cases z : a ≤ b
  · have := cdN_bd h (b - a).toNat (by omega) (by omega)
    unfold cdI
    omega
  · unfold cdI
    rw [show (b - a).toNat = 0 by omega]
    unfold cdN
    omega
/-- the names' codes are small -/
def NB (S : Int → Int) : Prop := ∀ j, 2 ≤ j → j < 14 → 0 ≤ S j ∧ S j ≤ 531440
theorem kd2_lt {B : Int → Int} {n i : Int} (hx : TX B n i) (hk : kdT B n i = 2) : LT B (stT B n i) (nxT B n i) ∧ stT B n i < nxT B n i ∧ nxT B n i - stT B n i ≤ 8 := by
  obtain ⟨hy, hn, h0, h1⟩ := hx
  have sb := stT_bd (B := B) h1
  have hk' : tkS B n (stT B n i) = 2 := hk
  by_cases z : n ≤ stT B n i
  · rw [(tk_e z).2] at hk'; exact absurd hk' (by decide)
  · by_cases y : isLt (B (stT B n i)) = true
    · have g := tk_w (B := B) (n := n) (s := stT B n i) ⟨by omega, y⟩
      have g2 := tnS_gt (B := B) (n := n) (s := stT B n i) (by omega)
      rw [g.2] at hk'
      have w : ¬ 8 < rn isLt B n (stT B n i) - stT B n i := fun w => by rw [if_pos w] at hk'; exact absurd hk' (by decide)
      have e : nxT B n i = rn isLt B n (stT B n i) := g.1
      rw [e]
      rw [g.1] at g2
      exact ⟨fun k k0 k1 => isLt_iff.mp ((rn_at (p := isLt) (B := B) (n := n) (i := stT B n i)).2.1 k k0 k1).2, g2, by omega⟩
    · by_cases x : isDg (B (stT B n i)) = true
      · rw [(tk_d (n := n) ⟨by omega, y, x⟩).2] at hk'
        split at hk' <;> omega
      · rw [(tk_p (n := n) ⟨by omega, y, x⟩).2] at hk'
        split at hk' <;> omega