/-! 16: the reference tightens: told by the row S alone -/
theorem a0_agr {T : Nat} {S A : Int → Int} (h : Ok S) (hT : S 0 = (T : Int)) : Agr (S 1) (layN S (fillA A (lay0 T) 36) (S 20).toNat) (lyS S) := by
  have h3 := h.2.2.1
  have h2 := h.2.1
  unfold lyS
  rw [hT]
  refine layN_agr h (fun a b p q r s => ?_) _ (by omega)
  unfold fillA
  rw [if_pos (by omega), if_pos (by omega)]
  rfl
theorem agr_symA {T : Nat} {E : Int} {A B : Int → Int} (h : Agr E A B) (hs : SymA T E B) : SymA T E A := by
  intro a b h1 h2 h3 h4 h5
  rw [h b a h3 h4 h1 h2, h a b h1 h2 h3 h4]
  exact hs a b h1 h2 h3 h4 h5
theorem tg_agr {T E : Nat} {S A0 : Int → Int} (h : Ok S) (hT : S 0 = (T : Int)) (hE : S 1 = (E : Int)) (ha : Agr (S 1) A0 (lyS S)) {k : Nat} (hr : Rnd T E A0 k) : k = rdS S ∧ Agr (S 1) (itR T E A0 (k + 1)) (tgS S) := by
  have h2 := h.2.1
  have q := (rdS_is h).1
  unfold tgS
  rw [hT, hE] at q ⊢
  rw [hE] at ha
  simp only [Int.toNat_natCast] at q ⊢
  have e : k = rdS S := (Rnd_agr (by omega) ha hr).uniq q
  rw [← e]
  exact ⟨rfl, itR_agr (by omega) ha (k + 1)⟩
theorem ct9_tightensS (M : Id4 → Int → Int) (b9 : Bool) (S : Int → Int) (hS : M (9, 0, 1, 0) = S) (h : Ok S) : CtV 6 0 yX9_tightens cX9_tightens 1 none [aR (9, 0, 0, 0)] (M, R0 b9) (fun σ' => ∃ A', Agr (S 1) A' (tgS S) ∧ MatOk (S 0).toNat A' ∧ σ' = (setA (updM M (9, 0, 0, 0) 17 ((rdS S : Int) + 1)) (9, 0, 17, 0) A', R0 b9)) := by
  subst hS
  have hT := h.1
  have hE := h.2.1
  have hN := h.2.2.1
  obtain ⟨T, eT⟩ : ∃ T : Nat, M (9, 0, 1, 0) 0 = (T : Int) := ⟨(M (9, 0, 1, 0) 0).toNat, by omega⟩
  obtain ⟨E, eE⟩ : ∃ E : Nat, M (9, 0, 1, 0) 1 = (E : Int) := ⟨(M (9, 0, 1, 0) 1).toNat, by omega⟩
  have ha := a0_agr (T := T) (A := M (9, 0, 17, 0)) h eT
  have hs : SymA T E (layN (M (9, 0, 1, 0)) (fillA (M (9, 0, 17, 0)) (lay0 T) 36) (M (9, 0, 1, 0) 20).toNat) := by
    have := lyS_sym h
    rw [eT] at this
    rw [← eE]
    exact agr_symA ha this
  have hm : MatOk T (layN (M (9, 0, 1, 0)) (fillA (M (9, 0, 17, 0)) (lay0 T) 36) (M (9, 0, 1, 0) 20).toNat) := by
    have := layN_ok (A := fillA (M (9, 0, 17, 0)) (lay0 T) 36) h (by rw [eT]; exact lay0_ok (by omega) (by omega) _) (M (9, 0, 1, 0) 20).toNat (by omega)
    rw [eT] at this
    exact this
  refine (ct9_tightens M b9 T E _ eT eE h rfl hs).mono (fun σ' hq => ?_)
  obtain ⟨k, hr, hσ⟩ := hq
  obtain ⟨e1, e2⟩ := tg_agr h eT eE ha hr
  refine ⟨_, e2, ?_, ?_⟩
  · rw [eT]
    exact itR_ok (by omega) (by omega) hm _
  · rw [hσ, e1]
