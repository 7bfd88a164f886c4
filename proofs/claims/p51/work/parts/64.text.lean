/-! 64: the text's tokens -/
def runB (p : Int → Bool) (B : Int → Int) (n : Int) : Nat → Int → Int
  | 0, i => i
  | f + 1, i => if i < n ∧ p (B i) = true then runB p B n f (i + 1) else i
def rn (p : Int → Bool) (B : Int → Int) (n i : Int) : Int := runB p B n (n - i).toNat i
theorem rn_no {p : Int → Bool} {B : Int → Int} {n i : Int} (h : ¬ (i < n ∧ p (B i) = true)) : rn p B n i = i := by
  unfold rn
  cases (n - i).toNat with
  | zero => rfl
  | succ f => exact if_neg h
theorem rn_go {p : Int → Bool} {B : Int → Int} {n i : Int} (h : i < n ∧ p (B i) = true) : rn p B n i = rn p B n (i + 1) := by
  unfold rn
  obtain ⟨f, hf⟩ : ∃ f, (n - i).toNat = f + 1 := ⟨(n - i).toNat - 1, by omega⟩
  rw [hf, show (n - (i + 1)).toNat = f by omega]
  exact if_pos h
theorem rn_ind {p : Int → Bool} {B : Int → Int} {n : Int} : ∀ (f : Nat) (i : Int), (n - i).toNat = f → (i ≤ rn p B n i ∧ (rn p B n i ≤ n ∨ rn p B n i = i)) ∧ (∀ k, i ≤ k → k < rn p B n i → k < n ∧ p (B k) = true) ∧ ¬ (rn p B n i < n ∧ p (B (rn p B n i)) = true)
  | 0, i, hf => by
    have h : ¬ (i < n ∧ p (B i) = true) := fun z => by omega
    rw [rn_no h]
    exact ⟨⟨by omega, by omega⟩, fun k k0 k1 => absurd k1 (by omega), h⟩
  | f + 1, i, hf => by
    by_cases h : i < n ∧ p (B i) = true
    · obtain ⟨⟨a, b⟩, c, d⟩ := rn_ind (p := p) (B := B) (n := n) f (i + 1) (by omega)
      rw [rn_go h]
      refine ⟨⟨by omega, by omega⟩, fun k k0 k1 => ?_, d⟩
      by_cases z : k = i
      · rw [z]; exact h
      · exact c k (by omega) k1
    · rw [rn_no h]
      exact ⟨⟨by omega, by omega⟩, fun k k0 k1 => absurd k1 (by omega), h⟩
theorem rn_at {p : Int → Bool} {B : Int → Int} {n i : Int} : (i ≤ rn p B n i ∧ (rn p B n i ≤ n ∨ rn p B n i = i)) ∧ (∀ k, i ≤ k → k < rn p B n i → k < n ∧ p (B k) = true) ∧ ¬ (rn p B n i < n ∧ p (B (rn p B n i)) = true) := rn_ind _ i rfl
def isWs (c : Int) : Bool := decide (c = 32 ∨ c = 10)
def isLt (c : Int) : Bool := decide (97 ≤ c ∧ c ≤ 122)
def isDg (c : Int) : Bool := decide (48 ≤ c ∧ c ≤ 57)
/-- the token behind place i: where it starts, its end, its kind, its number -/
def stT (B : Int → Int) (n i : Int) : Int := rn isWs B n i
def tnS (B : Int → Int) (n s : Int) : Int := if n ≤ s then s else if isLt (B s) = true then rn isLt B n s else if isDg (B s) = true then rn isDg B n s else s + 1
def nxT (B : Int → Int) (n i : Int) : Int := tnS B n (stT B n i)
def tkS (B : Int → Int) (n s : Int) : Int := if n ≤ s then 0 else if isLt (B s) = true then (if 8 < rn isLt B n s - s then 1 else 2) else if isDg (B s) = true then (if 2 < rn isDg B n s - s then 1 else 3) else if B s = 59 then 4 else 1
def kdT (B : Int → Int) (n i : Int) : Int := tkS B n (stT B n i)
def tvS (B : Int → Int) (n s : Int) : Int := if rn isDg B n s - s = 1 then B s - 48 else 10 * (B s - 48) + B (s + 1) - 48
def vlT (B : Int → Int) (n i : Int) : Int := tvS B n (stT B n i)
theorem stT_bd {B : Int → Int} {n i : Int} (h : i ≤ n) : i ≤ stT B n i ∧ stT B n i ≤ n := by
  have := (rn_at (p := isWs) (B := B) (n := n) (i := i)).1
  unfold stT
  omega
theorem tnS_bd {B : Int → Int} {n s : Int} (h : s ≤ n) : s ≤ tnS B n s ∧ tnS B n s ≤ n := by
  have a := (rn_at (p := isLt) (B := B) (n := n) (i := s)).1
  have b := (rn_at (p := isDg) (B := B) (n := n) (i := s)).1
  unfold tnS
  split
  · omega
  · split
    · omega
    · split <;> omega
theorem tnS_gt {B : Int → Int} {n s : Int} (h : s < n) : s < tnS B n s := by
  unfold tnS
  rw [if_neg (by omega)]
  by_cases z : isLt (B s) = true
  · rw [if_pos z, rn_go ⟨h, z⟩]
    have a := (rn_at (p := isLt) (B := B) (n := n) (i := s + 1)).1
    omega
  · rw [if_neg z]
    by_cases y : isDg (B s) = true
    · rw [if_pos y, rn_go ⟨h, y⟩]
      have a := (rn_at (p := isDg) (B := B) (n := n) (i := s + 1)).1
      omega
    · rw [if_neg y]; omega
theorem nxT_bd {B : Int → Int} {n i : Int} (h : i ≤ n) : i ≤ nxT B n i ∧ nxT B n i ≤ n := by
  have a := stT_bd (B := B) h
  have b := tnS_bd (B := B) a.2
  unfold nxT
  omega
theorem tkS_bd {B : Int → Int} {n s : Int} : 0 ≤ tkS B n s ∧ tkS B n s ≤ 4 := by
  unfold tkS
  split
  · omega
  · split
    · split <;> omega
    · split
      · split <;> omega
      · split <;> omega
theorem tk_w {B : Int → Int} {n s : Int} (h : s < n ∧ isLt (B s) = true) : tnS B n s = rn isLt B n s ∧ tkS B n s = if 8 < rn isLt B n s - s then 1 else 2 := by
  unfold tnS tkS
  rw [if_neg (show ¬ n ≤ s by omega), if_pos h.2, if_neg (show ¬ n ≤ s by omega), if_pos h.2]
  exact ⟨rfl, rfl⟩
theorem tk_d {B : Int → Int} {n s : Int} (h : s < n ∧ ¬ isLt (B s) = true ∧ isDg (B s) = true) : tnS B n s = rn isDg B n s ∧ tkS B n s = if 2 < rn isDg B n s - s then 1 else 3 := by
  unfold tnS tkS
  rw [if_neg (show ¬ n ≤ s by omega), if_neg h.2.1, if_pos h.2.2, if_neg (show ¬ n ≤ s by omega), if_neg h.2.1, if_pos h.2.2]
  exact ⟨rfl, rfl⟩
theorem tk_p {B : Int → Int} {n s : Int} (h : s < n ∧ ¬ isLt (B s) = true ∧ ¬ isDg (B s) = true) : tnS B n s = s + 1 ∧ tkS B n s = if B s = 59 then 4 else 1 := by
  unfold tnS tkS
  rw [if_neg (show ¬ n ≤ s by omega), if_neg h.2.1, if_neg h.2.2, if_neg (show ¬ n ≤ s by omega), if_neg h.2.1, if_neg h.2.2]
  exact ⟨rfl, rfl⟩
theorem tk_e {B : Int → Int} {n s : Int} (h : n ≤ s) : tnS B n s = s ∧ tkS B n s = 0 := by
  unfold tnS tkS
  rw [if_pos h, if_pos h]
  exact ⟨rfl, rfl⟩
theorem ite12 {c : Prop} [Decidable c] : (if c then (1 : Int) else 2) ≠ 3 := by split <;> decide
theorem ite14 {c : Prop} [Decidable c] : (if c then (4 : Int) else 1) ≠ 3 := by split <;> decide
