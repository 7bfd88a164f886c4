/-! 16: the reference tightens: told by the row S alone -/
theorem tg_agr {T E : Nat} {S A0 : Int → Int} (h : Ok S) (hT : S 0 = (T : Int)) (hE : S 1 = (E : Int)) (ha : Agr (S 1) A0 (lyS S)) {k : Nat} (hr : Rnd T E A0 k) : k = rdS S ∧ Agr (S 1) (itR T E A0 (k + 1)) (tgS S) := by
  have h2 := h.2.1
  have q := (rdS_is h).1
  unfold tgS
  rw [hT, hE] at q ⊢
  rw [hE] at ha
  simp only [Int.toNat_natCast] at q ⊢
  have e : k = rdS S := (Rnd_agr (by omega) ha hr).uniq q
  rw [← e]
  exact ⟨rfl, itR_agr (by omega) ha (k + 1)⟩