/-! 49: the questions of the cycles, of the reference -/
theorem treR.ch {S : Int → Int} {M M' : Id4 → Int → Int} (ht : treR S M) (hc : chW M M') : treR S M' := by
  obtain ⟨a, b, c⟩ := ht
  exact ⟨by rw [hc _ _ (by simp)]; exact a, fun k hk => by rw [hc _ _ (by simp)]; exact b k hk, fun c1 q0 q1 => by rw [hc _ _ (by simp)]; exact c c1 q0 q1⟩