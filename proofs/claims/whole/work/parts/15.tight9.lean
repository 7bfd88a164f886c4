/-! 15: the reference tightens -/
theorem ct9_tightens (M : Id4 → Int → Int) (b9 : Bool) (T E : Nat) (A0 : Int → Int) (hT : M (9, 0, 1, 0) 0 = (T : Int)) (hE : M (9, 0, 1, 0) 1 = (E : Int)) (h : Ok (M (9, 0, 1, 0))) (hA0 : A0 = layN (M (9, 0, 1, 0)) (fillA (M (9, 0, 17, 0)) (lay0 T) 36) (M (9, 0, 1, 0) 20).toNat) (hs : SymA T E A0) : CtV 6 0 yX9_tightens cX9_tightens 1 none [aR (9, 0, 0, 0)] (M, R0 b9) (fun σ' => ∃ k, Rnd T E A0 k ∧ σ' = (setA (updM M (9, 0, 0, 0) 17 ((k : Int) + 1)) (9, 0, 17, 0) (itR T E A0 (k + 1)), R0 b9)) := by
  refine CtV.mk (by decide +kernel) rfl (Nat.le_of_ble_eq_true rfl) (fun X K F hk => ?_)
  have hT2 : 2 ≤ T ∧ T ≤ 24 := by have := h.1; omega
  have hE2 : E ≤ 6 := by have := h.2.1; omega
  have hN := h.2.2.1
  have hA1 : MatOk T A0 := by
    have := layN_ok (A := fillA (M (9, 0, 17, 0)) (lay0 T) 36) h (by rw [hT]; exact lay0_ok (by omega) (by omega) _) (M (9, 0, 1, 0) 20).toNat (by omega)
    rw [hA0]
    rw [hT] at this
    exact this
  have key : ∀ (n k : Nat) (M' : Id4 → Int → Int), muN (itR T E A0 k) 36 ≤ n → (∀ i, i < k → chK T E A0 i) → M' = setA (updM M (9, 0, 0, 0) 17 ((k : Int) + 1)) (9, 0, 17, 0) (itR T E A0 k) → AW X K 9 [aR (9, 0, 0, 0)] [] (M', R0 b9) 0 (EV X K 0 (fun σ' => ∃ k, Rnd T E A0 k ∧ σ' = (setA (updM M (9, 0, 0, 0) 17 ((k : Int) + 1)) (9, 0, 17, 0) (itR T E A0 (k + 1)), R0 b9))) := by
    intro n
    induction n with
    | zero =>
      intro k M' hmu hch hM
      have s1 : M' (9, 0, 1, 0) = M (9, 0, 1, 0) := by rw [hM, setA_ne (by decide)]; exact funext fun j => upd_ne (Or.inl (by decide))
      have sA : M' (9, 0, 17, 0) = itR T E A0 k := by rw [hM]; exact setA_same
      refine aw_aload0 (pc := 9) F dX9_tightens_9 ?_
      refine aw_callVI0 (pc := 10) F dX9_tightens_10 ml_9_255 rfl (by first | decide | (simp only [inB, cnt, rcnt]; omega)) (ct9_goesRound _ _ T (by rw [s1]; exact hT) (by rw [s1]; exact h) (by rw [sA]; exact itR_ok hT2.2 hE2 hA1 k) (by rw [sA, s1, hE]; exact itR_sym hT2.2 hE2 hs k)) (Nat.le_of_ble_eq_true rfl) (by decide) (Nat.zero_le _) (fun v9 σ9 h9_10 => ?_)
      obtain ⟨hv, h9⟩ := h9_10
      rw [sA, s1, hE, Int.toNat_natCast] at hv h9
      rw [hM, setA_setA] at h9
      subst h9
      have hv0 : ¬ chK T E A0 k := fun z => by have := itR_mu hT2.2 hE2 hA1 z; omega
      have hxb := isB_bd hv
      rcases hv with ⟨rfl, hv⟩ | ⟨_, hv⟩
      rotate_left
      · exact absurd hv hv0
      refine aw_if_eq (tgt := 29) (pc := 13) F dX9_tightens_13 (by decide) (by unfold inR; omega) (fun c13 => ?_) (fun c13 => ?_)
      · exact aw_vret (pc := 29) F dX9_tightens_29 (Nat.zero_le _) ⟨k, ⟨hch, hv0⟩, rfl⟩
      · exact absurd rfl c13
    | succ n ih =>
      intro k M' hmu hch hM
      have s1 : M' (9, 0, 1, 0) = M (9, 0, 1, 0) := by rw [hM, setA_ne (by decide)]; exact funext fun j => upd_ne (Or.inl (by decide))
      have sA : M' (9, 0, 17, 0) = itR T E A0 k := by rw [hM]; exact setA_same
      refine aw_aload0 (pc := 9) F dX9_tightens_9 ?_
      refine aw_callVI0 (pc := 10) F dX9_tightens_10 ml_9_255 rfl (by first | decide | (simp only [inB, cnt, rcnt]; omega)) (ct9_goesRound _ _ T (by rw [s1]; exact hT) (by rw [s1]; exact h) (by rw [sA]; exact itR_ok hT2.2 hE2 hA1 k) (by rw [sA, s1, hE]; exact itR_sym hT2.2 hE2 hs k)) (Nat.le_of_ble_eq_true rfl) (by decide) (Nat.zero_le _) (fun v9 σ9 h9_10 => ?_)
      obtain ⟨hv, h9⟩ := h9_10
      rw [sA, s1, hE, Int.toNat_natCast] at hv h9
      rw [hM, setA_setA] at h9
      subst h9
      have hxb := isB_bd hv
      have hv1 : v9 = 0 → ¬ chK T E A0 k := fun z => (hv.resolve_right (fun y => by omega)).2
      have hv2 : ¬ v9 = 0 → chK T E A0 k := fun z => (hv.resolve_left (fun y => z y.1)).2
      refine aw_if_eq (tgt := 29) (pc := 13) F dX9_tightens_13 (by decide) (by unfold inR; omega) (fun c13 => ?_) (fun c13 => ?_)
      · exact aw_vret (pc := 29) F dX9_tightens_29 (Nat.zero_le _) ⟨k, ⟨hch, hv1 c13⟩, rfl⟩
      · refine aw_aload0 (pc := 16) F dX9_tightens_16 ?_
        refine aw_dupR (pc := 17) F dX9_tightens_17 ?_
        refine aw_getI (pc := 18) F dX9_tightens_18 fl_9_252 rfl (by first | decide | (simp only [inB, cnt, rcnt]; omega)) rfl nz17 ?_
        refine aw_iconst (pc := 21) F dX9_tightens_21 ?_
        refine aw_iadd (pc := 22) F dX9_tightens_22 ?_
        refine aw_putI (pc := 23) F dX9_tightens_23 fl_9_252 fpi_9_17 rfl (by first | decide | (simp only [inB, cnt, rcnt]; omega)) rfl nz17 ?_
        refine aw_goto (tgt := 9) (pc := 26) F dX9_tightens_26 (by decide) ?_
        refine ih (k + 1) _ (by have := itR_mu hT2.2 hE2 hA1 (hv2 c13); omega) (fun i hi => ?_) ?_
        · by_cases e : i = k
          · rw [e]; exact hv2 c13
          · exact hch i (by omega)
        · rw [show (setA (updM M (9, 0, 0, 0) 17 ((k : Int) + 1)) (9, 0, 17, 0) (phN T E (itR T E A0 k) E)) (9, 0, 0, 0) 17 = (k : Int) + 1 by rw [setA_ne (by decide)]; exact upd_same, upd_setA_ne (by decide), upd_upd]; rfl
  refine aw_aload0 (pc := 0) F dX9_tightens_0 ?_
  refine aw_callVV0 (pc := 1) F dX9_tightens_1 ml_9_249 rfl (by first | decide | (simp only [inB, cnt, rcnt]; omega)) (ct9_laysSets _ _ T hT h) (Nat.le_of_ble_eq_true rfl) (by decide) (Nat.zero_le _) (fun σ9 h9_1 => ?_)
  obtain rfl := h9_1
  refine aw_aload0 (pc := 4) F dX9_tightens_4 ?_
  refine aw_iconst (pc := 5) F dX9_tightens_5 ?_
  refine aw_putI (pc := 6) F dX9_tightens_6 fl_9_252 fpi_9_17 rfl (by first | decide | (simp only [inB, cnt, rcnt]; omega)) rfl nz17 ?_
  exact key 864 0 _ (by have := muN_bd A0 36; show muN A0 36 ≤ 864; omega) (fun i hi => absurd hi (by omega)) (by rw [← hA0, upd_setA_ne (by decide)]; rfl)
