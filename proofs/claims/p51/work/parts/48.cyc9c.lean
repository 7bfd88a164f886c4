/-! 48: the reference's tree, its cycles, and the questions of them -/
def chT (M M' : Id4 → Int → Int) : Prop := ∀ q k, ¬ ((q = (9, 0, 0, 0) ∧ k = 21) ∨ q = (9, 0, 19, 0) ∨ q = (9, 0, 20, 0) ∨ q = (9, 0, 21, 0)) → M' q k = M q k
theorem chT.rf {M : Id4 → Int → Int} : chT M M := fun _ _ _ => rfl
theorem chT.up {M M1 : Id4 → Int → Int} {q : Id4} {k v : Int} (h1 : chT M M1) (h : (q = (9, 0, 0, 0) ∧ k = 21) ∨ q = (9, 0, 19, 0) ∨ q = (9, 0, 20, 0) ∨ q = (9, 0, 21, 0)) : chT M (updM M1 q k v) := fun q' k' h' => by
  rw [upd_ne (by
    by_cases e : q' = q
    · right
      intro z
      rw [e, z] at h'
      exact h' h
    · exact Or.inl e)]
  exact h1 q' k' h'
theorem chT.s {M M' : Id4 → Int → Int} (h : chT M M') : M' (9, 0, 1, 0) = M (9, 0, 1, 0) := funext fun k => h _ k (by simp)
def treK (S : Int → Int) (n : Nat) (M : Id4 → Int → Int) : Prop := M (9, 0, 0, 0) 21 = cyN S n ∧ (∀ k : Nat, k < n → M (9, 0, 19, 0) k = b2i (tre S k)) ∧ ∀ c, 0 ≤ c → c < cyN S n → M (9, 0, 21, 0) c = cloS S n c
def treR (S : Int → Int) (M : Id4 → Int → Int) : Prop := treK S (S 20).toNat M
/-! a cycle: its spans, their directions, how many -/