/-! 08b: what a question of the reference leaves: its scratch cells alone may change -/
def scr9 (q : Id4) (k : Int) : Prop := q.1 = 9 ∧ ((q.2.2.1 = 0 ∧ ¬ (k = 3 ∨ k = 6 ∨ k = 7 ∨ k = 8 ∨ k = 33)) ∨ q.2.2.1 = 2 ∨ q.2.2.1 = 17 ∨ q.2.2.1 = 19 ∨ q.2.2.1 = 20 ∨ q.2.2.1 = 21 ∨ q.2.2.1 = 23 ∨ q.2.2.1 = 24 ∨ q.2.2.1 = 26 ∨ q.2.2.1 = 27)
def same9 (M M' : Id4 → Int → Int) : Prop := ∀ q k, ¬ scr9 q k → M' q k = M q k
theorem same9.rf {M : Id4 → Int → Int} : same9 M M := fun _ _ _ => rfl
theorem same9.tr {M M1 M2 : Id4 → Int → Int} (h1 : same9 M M1) (h2 : same9 M1 M2) : same9 M M2 := fun q k h => (h2 q k h).trans (h1 q k h)
theorem same9.up {M M1 : Id4 → Int → Int} {q : Id4} {k v : Int} (h1 : same9 M M1) (h : scr9 q k) : same9 M (updM M1 q k v) := fun q' k' h' => by
  rw [upd_ne (by
    by_cases e : q' = q
    · right
      intro z
      rw [e, z] at h'
      exact h' h
    · exact Or.inl e)]
  exact h1 q' k' h'
theorem same9_thr {M : Id4 → Int → Int} {t : Int} : same9 M (thr M t) := same9.rf.up (by unfold scr9; decide)
theorem same9.s {M M' : Id4 → Int → Int} (h : same9 M M') : M' (9, 0, 1, 0) = M (9, 0, 1, 0) := funext fun k => h _ k (by unfold scr9; simp)
theorem thr_s {M : Id4 → Int → Int} {t : Int} : thr M t (9, 0, 1, 0) = M (9, 0, 1, 0) := same9_thr.s
theorem thr_u {M : Id4 → Int → Int} {t : Int} : updM M (9, 0, 0, 0) 4 t (9, 0, 1, 0) = M (9, 0, 1, 0) := thr_s
/-- the end of a question: t is told as thrown, v is answered where t is 0 -/
def QP (M : Id4 → Int → Int) (b : Bool) (t v : Int) : Int → Hp → Prop := fun r σ' => ∃ M', σ' = (M', R0 b) ∧ same9 M M' ∧ M' (9, 0, 0, 0) 4 = t ∧ (t = 0 → r = v)
def t2 (c1 c2 : Prop) [Decidable c1] [Decidable c2] : Int := if b2i c1 = 0 then 1 else if b2i c2 = 0 then 2 else 0
theorem t2_0 {c1 c2 : Prop} [Decidable c1] [Decidable c2] (h1 : c1) (h2 : c2) : t2 c1 c2 = 0 := by unfold t2; rw [b2i_pos h1, b2i_pos h2]; rfl
theorem t2_1 {c1 c2 : Prop} [Decidable c1] [Decidable c2] (h1 : ¬ c1) : t2 c1 c2 = 1 := by unfold t2; rw [b2i_neg h1]; rfl
theorem t2_2 {c1 c2 : Prop} [Decidable c1] [Decidable c2] (h1 : c1) (h2 : ¬ c2) : t2 c1 c2 = 2 := by unfold t2; rw [b2i_pos h1, b2i_neg h2]; rfl
theorem t2_ne {c1 c2 : Prop} [Decidable c1] [Decidable c2] (h : ¬ (c1 ∧ c2)) : t2 c1 c2 ≠ 0 := by
  by_cases h1 : c1
  · rw [t2_2 h1 (fun z => h ⟨h1, z⟩)]; decide
  · rw [t2_1 h1]; decide
theorem qp1 {M : Id4 → Int → Int} {b : Bool} {c : Prop} [Decidable c] {v r : Int} (h : c → r = v) : QP M b (1 - b2i c) v r (thr M (1 - b2i c), R0 b) :=
  ⟨_, rfl, same9_thr, upd_same, fun z => h (Classical.byContradiction fun n => by rw [b2i_neg n] at z; omega)⟩
theorem qp2 {M : Id4 → Int → Int} {b : Bool} {c1 c2 : Prop} [Decidable c1] [Decidable c2] {v r : Int} (h : c1 → c2 → r = v) : QP M b (t2 c1 c2) v r (thr M (t2 c1 c2), R0 b) :=
  ⟨_, rfl, same9_thr, upd_same, fun z => by
    by_cases g : c1 ∧ c2
    · exact h g.1 g.2
    · exact absurd z (t2_ne g)⟩
/-- the first of n places from i on that P holds of, or the place behind them -/
def fstB (P : Int → Prop) [DecidablePred P] : Nat → Int → Int
  | 0, i => i
  | n + 1, i => if P i then i else fstB P n (i + 1)
def upS (S : Int → Int) (i v : Int) : Int → Int := fun j => if j = i then v else S j
