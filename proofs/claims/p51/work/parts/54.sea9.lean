/-! 54: the reference tries -/
def stB (st : StT) : Prop := st.1 = -1 ∨ (0 ≤ st.1 ∧ st.1 ≤ 40000)
def chS (M M' : Id4 → Int → Int) : Prop := ∀ q k, ¬ ((q = (9, 0, 0, 0) ∧ k = 27) ∨ q = (9, 0, 26, 0) ∨ q = (9, 0, 27, 0)) → M' q k = M q k
theorem chS.rf {M : Id4 → Int → Int} : chS M M := fun _ _ _ => rfl
theorem chS.tr {M M1 M2 : Id4 → Int → Int} (h1 : chS M M1) (h2 : chS M1 M2) : chS M M2 := fun q k h => (h2 q k h).trans (h1 q k h)
theorem chS.up {M M1 : Id4 → Int → Int} {q : Id4} {k v : Int} (h1 : chS M M1) (h : (q = (9, 0, 0, 0) ∧ k = 27) ∨ q = (9, 0, 26, 0) ∨ q = (9, 0, 27, 0)) : chS M (updM M1 q k v) := fun q' k' h' => by
  rw [upd_ne (by
    by_cases e : q' = q
    · right
      intro z
      rw [e, z] at h'
      exact h' h
    · exact Or.inl e)]
  exact h1 q' k' h'
theorem chS.s {M M' : Id4 → Int → Int} (h : chS M M') : M' (9, 0, 1, 0) = M (9, 0, 1, 0) := funext fun k => h _ k (by simp)
theorem VL_agr {S tau tau' : Int → Int} {e : Int} (h0 : 0 ≤ e) (h1 : ∀ a, 0 ≤ a → a ≤ e → tau' a = tau a) : VL S tau' e ↔ VL S tau e := by
  unfold VL
  have e0 : tau' 0 = tau 0 := h1 0 (by decide) h0
  have ee : tau' e = tau e := h1 e h0 (Int.le_refl _)
  rw [e0, ee]
  exact and_congr Iff.rfl ⟨fun q a a0 a1 => by rw [← h1 a a0 (by omega)]; exact q a a0 a1, fun q a a0 a1 => by rw [h1 a a0 (by omega)]; exact q a a0 a1⟩