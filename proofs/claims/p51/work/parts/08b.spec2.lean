/-! 08b: what a question of the reference leaves: its scratch cells alone may change -/
def scr9 (q : Id4) (k : Int) : Prop := q.1 = 9 ∧ ((q.2.2.1 = 0 ∧ ¬ (k = 3 ∨ k = 6 ∨ k = 7 ∨ k = 8 ∨ k = 33)) ∨ q.2.2.1 = 2 ∨ q.2.2.1 = 17 ∨ q.2.2.1 = 19 ∨ q.2.2.1 = 20 ∨ q.2.2.1 = 21 ∨ q.2.2.1 = 23 ∨ q.2.2.1 = 24 ∨ q.2.2.1 = 26 ∨ q.2.2.1 = 27)
def same9 (M M' : Id4 → Int → Int) : Prop := ∀ q k, ¬ scr9 q k → M' q k = M q k
theorem same9.rf {M : Id4 → Int → Int} : same9 M M := fun _ _ _ => rfl
theorem same9.tr {M M1 M2 : Id4 → Int → Int} (h1 : same9 M M1) (h2 : same9 M1 M2) : same9 M M2 := fun q k h => (h2 q k h).trans (h1 q k h)
theorem same9.up {M M1 : Id4 → Int → Int} {q : Id4} {k v : Int} (h1 : same9 M M1) (h : scr9 q k) : same9 M (updM M1 q k v) := fun q' k' h' => by
  rw [upd_ne (by
    by_cases e : q' = q
    · right
      intro z
      rw [e, z] at h'
      exact h' h
    · exact Or.inl e)]
  exact h1 q' k' h'
theorem same9.s {M M' : Id4 → Int → Int} (h : same9 M M') : M' (9, 0, 1, 0) = M (9, 0, 1, 0) := funext fun k => h _ k (by unfold scr9; simp)
def t2 (c1 c2 : Prop) [Decidable c1] [Decidable c2] : Int := if b2i c1 = 0 then 1 else if b2i c2 = 0 then 2 else 0
/-- the first of n places from i on that P holds of, or the place behind them -/
def fstB (P : Int → Prop) [DecidablePred P] : Nat → Int → Int
  | 0, i => i
  | n + 1, i => if P i then i else fstB P n (i + 1)
def upS (S : Int → Int) (i v : Int) : Int → Int := fun j => if j = i then v else S j
