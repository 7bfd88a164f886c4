/-! 46: the reference's cycles -/
def chW (M M' : Id4 → Int → Int) : Prop := ∀ q k, ¬ ((q = (9, 0, 0, 0) ∧ k = 24) ∨ q = (9, 0, 23, 0) ∨ q = (9, 0, 24, 0)) → M' q k = M q k
theorem chW.rf {M : Id4 → Int → Int} : chW M M := fun _ _ _ => rfl
theorem chW.tr {M M1 M2 : Id4 → Int → Int} (h1 : chW M M1) (h2 : chW M1 M2) : chW M M2 := fun q k h => (h2 q k h).trans (h1 q k h)
theorem chW.up {M M1 : Id4 → Int → Int} {q : Id4} {k v : Int} (h1 : chW M M1) (h : (q = (9, 0, 0, 0) ∧ k = 24) ∨ q = (9, 0, 23, 0) ∨ q = (9, 0, 24, 0)) : chW M (updM M1 q k v) := fun q' k' h' => by
  rw [upd_ne (by
    by_cases e : q' = q
    · right
      intro z
      rw [e, z] at h'
      exact h' h
    · exact Or.inl e)]
  exact h1 q' k' h'
theorem chW.s {M M' : Id4 → Int → Int} (h : chW M M') : M' (9, 0, 1, 0) = M (9, 0, 1, 0) := funext fun k => h _ k (by simp)
theorem chW.t {M M' : Id4 → Int → Int} (h : chW M M') : M' (9, 0, 19, 0) = M (9, 0, 19, 0) := funext fun k => h _ k (by simp)
/-- the tree is told -/
def treA (S : Int → Int) (M : Id4 → Int → Int) : Prop := ∀ k : Nat, (k : Int) < S 20 → M (9, 0, 19, 0) k = b2i (tre S k)