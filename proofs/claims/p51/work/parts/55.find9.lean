/-! 55: the reference finds, solves -/
noncomputable def goS (S : Int → Int) (first : Int) : StT := @ite StT (emp (S 1) (tgS S)) (Classical.propDecidable _) (-1, fun _ => 0) (ful S first (S 1).toNat 0 (fun _ => 0) (-1, fun _ => 0))
/-- the row with the times tau -/
def soS2 (S tau : Int → Int) (i : Int) : Int → Int := fun j => if 14 ≤ j ∧ j < 14 + i then tau (j - 14) else S j
theorem soS2_off {S tau : Int → Int} {i j : Int} (h : ¬ (14 ≤ j ∧ j < 14 + i)) : soS2 S tau i j = S j := if_neg h
theorem soS2_at {S tau : Int → Int} {i a : Int} (h : 0 ≤ a ∧ a < i) : soS2 S tau i (14 + a) = tau a := by
  unfold soS2
  rw [if_pos (by omega)]
  congr 1
  omega
def stI (S : Int → Int) (st : StT) : Prop := st.1 = -1 ∨ (st.1 = CT S st.2 ∧ VAL S st.2 ∧ ∀ a, 0 ≤ a → a < S 1 → 0 ≤ st.2 a ∧ st.2 a < S 0)
theorem ful_inv {S : Int → Int} (h : Ok S) {first : Int} : ∀ (j e : Nat) (tau : Int → Int) (st : StT), (e : Int) + j = S 1 → (∀ a, 0 ≤ a → a < (e : Int) → 0 ≤ tau a ∧ tau a < S 0) → stI S st → stI S (ful S first j e tau st)
  | 0, e, tau, st, he, ht, hi => by
    show stI S (updT S first tau st)
    unfold updT
    by_cases z : VAL S tau ∧ wnt first st (CT S tau)
    · rw [if_pos z]
      exact Or.inr ⟨rfl, z.1, fun a a0 a1 => ht a a0 (by omega)⟩
    · rw [if_neg z]; exact hi
  | j + 1, e, tau, st, he, ht, hi => by
    rw [ful_s]
    have : ∀ n : Nat, n ≤ (S 0).toNat → stI S (flT (fun t st => ful S first j (e + 1) (upS tau e t) st) n st) := by
      intro n
      induction n with
      | zero => intro _; exact hi
      | succ n ih =>
        intro hn
        refine ful_inv h j (e + 1) _ _ (by omega) (fun a a0 a1 => ?_) (ih (by omega))
        by_cases z : a = e
        · rw [z, upS_same]; omega
        · rw [upS_ne z]; exact ht a a0 (by omega)
    exact this _ (Nat.le_refl _)
theorem goS_inv {S : Int → Int} (h : Ok S) {first : Int} : stI S (goS S first) := by
  have hE := h.2.1
  unfold goS
  by_cases z : emp (S 1) (tgS S)
  · rw [if_pos z]; exact Or.inl rfl
  · rw [if_neg z]; exact ful_inv h _ _ _ _ (by omega) (fun a a0 a1 => absurd a1 (by omega)) (Or.inl rfl)
noncomputable abbrev solR (S : Int → Int) (first : Int) : Int → Int := soS2 S (goS S first).2 (S 1)