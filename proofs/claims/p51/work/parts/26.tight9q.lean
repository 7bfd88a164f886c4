/-! 26: the reference's questions of the differences -/
theorem same9.st {M M1 : Id4 → Int → Int} {q : Id4} {A : Int → Int} (h1 : same9 M M1) (h : ∀ k, scr9 q k) : same9 M (setA M1 q A) := fun q' k' h' => by
  rw [setA_ne (fun (z : q' = q) => h' (z ▸ h k'))]
  exact h1 q' k' h'