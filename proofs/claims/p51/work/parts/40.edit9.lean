/-! 40: the reference's edits -/
theorem hR9.st {M : Id4 → Int → Int} {n : Int} {Hs : Int → Int → Int} {k v : Int} (h : hR9 M n Hs) : hR9 (updM M (9, 0, 1, 0) k v) n Hs := by
  obtain ⟨⟨a, b⟩, c⟩ := h
  exact ⟨⟨by rw [upd_ne (Or.inl (by decide))]; exact a, b⟩, fun i j i0 i1 j0 j1 => by rw [upd_ne (Or.inl (by decide))]; exact c i j i0 i1 j0 j1⟩
theorem same9e.r {M M1 : Id4 → Int → Int} {k v : Int} (h1 : same9e M M1) : same9e M (updM M1 (9, 0, 1, 0) k v) := h1.up (Or.inr (Or.inl rfl))
def t3 (c1 c2 c3 : Prop) [Decidable c1] [Decidable c2] [Decidable c3] : Int := if b2i c1 = 0 then 1 else if b2i c2 = 0 then 2 else if b2i c3 = 0 then 3 else 0