/-! 43: the best move, and improving -/
theorem cst_bd {S : Int → Int} (h : Ok S) : 0 ≤ cst S ∧ cst S ≤ 6440 := by
  have hN := h.2.2.1
  have := sumI_bd (f := fun k => S (21 + 5 * k + 4) * slOf S k) (c := 460) (S 20).toNat (fun k h0 h1 => by
    have z := h.2.2.2.2 k h0 (by omega)
    have z2 := slOf_bd h k
    unfold SpOk at z
    have z3 : 0 ≤ S (21 + 5 * k + 4) := z.2.2.2.2.2.1
    have z4 : S (21 + 5 * k + 4) ≤ 20 := z.2.2.2.2.2.2
    have e1 := Int.mul_nonneg z3 z2.1
    have e2 := Int.mul_le_mul z4 z2.2 z2.1 (by decide)
    omega)
  unfold cst
  omega
def kyS (S : Int → Int) : Int := brk S * 6441 + cst S
/-- the row with a move made; (-1, ..): none -/
def cand (S : Int → Int) (p : Int × Int) : Int → Int := if p.1 = -1 then S else upS S (14 + p.1) p.2
def mvR (S : Int → Int) (m : Nat) : Int → Int := upS S (14 + ((m / (S 0).toNat : Nat) : Int)) ((m % (S 0).toNat : Nat) : Int)
/-- the class's best move among the first m, the reference's -/
def clN (S : Int → Int) : Nat → Int × Int
  | 0 => (-1, -1)
  | m + 1 => if kyS (mvR S m) < kyS (cand S (clN S m)) then (((m / (S 0).toNat : Nat) : Int), ((m % (S 0).toNat : Nat) : Int)) else clN S m
def bmS (S : Int → Int) : Int × Int := clN S ((S 0).toNat * (S 1).toNat)
abbrev bet (S : Int → Int) : Prop := ¬ (bmS S).1 = -1
def nxS (S : Int → Int) : Int → Int := cand S (bmS S)
def itI (S : Int → Int) : Nat → Int → Int
  | 0 => S
  | n + 1 => nxS (itI S n)
def MvN (S : Int → Int) (N : Nat) : Prop := (∀ i, i < N → bet (itI S i)) ∧ ¬ bet (itI S N)
theorem MvN.uniq {S : Int → Int} {a b : Nat} (h : MvN S a) (h' : MvN S b) : a = b := by
  rcases Nat.lt_trichotomy a b with z | z | z
  · exact absurd (h'.1 a z) h.2
  · exact z
  · exact absurd (h.1 b z) h'.2