/-! 71: the reference's span statement -/
theorem evIn_ex {B : Int → Int} {n idx but i : Int} {S : Int → Int} (h : (evIn B n idx but S i).1 = 0) : ∃ e, (0 ≤ e ∧ e < S 1 ∧ ¬ e = but) ∧ evIn B n idx but S i = goodP (upS S idx e) (nxT B n i) := by
  obtain ⟨a, -, c, d⟩ := evIn_good h
  exact ⟨_, ⟨c.1, c.2, d⟩, a⟩
theorem numP_ex {B : Int → Int} {n idx lo hi i : Int} {S : Int → Int} (h : (numP B n idx lo hi S i).1 = 0) : ∃ v, (lo ≤ v ∧ v ≤ hi) ∧ numP B n idx lo hi S i = goodP (upS S idx v) (nxT B n i) := by
  obtain ⟨a, -, c, d⟩ := numP_good h
  exact ⟨_, ⟨c, d⟩, a⟩
theorem NB.up {S : Int → Int} {k v : Int} (h : NB S) (hk : 14 ≤ k) : NB (upS S k v) := fun j j0 j1 => by rw [upS_ne (by omega)]; exact h j j0 j1