/-! 13: the reference lays its sets -/
theorem ct9_narrows (M : Id4 → Int → Int) (b : Bool) (T : Nat) (a c x : Int) (hT : M (9, 0, 1, 0) 0 = (T : Int)) (h : 2 ≤ T ∧ T ≤ 24) (hA : MatOk T (M (9, 0, 17, 0))) (ha : 0 ≤ a ∧ a < 6) (hc : 0 ≤ c ∧ c < 6) : CtV 3 0 yX9_narrows cX9_narrows 4 none [aR (9, 0, 0, 0), aI a, aI c, aI x] (M, R0 b) (fun σ' => σ' = (setA M (9, 0, 17, 0) (narA T (M (9, 0, 17, 0)) a c x), R0 b)) := by
  refine CtV.mk (by decide +kernel) rfl (Nat.le_of_ble_eq_true rfl) (fun X K F hk => ?_)
  have h1 := (hA (6 * a + c) (by omega) (by omega)).and h.2 x
  have e1 : ∀ v, updM M (9, 0, 17, 0) (6 * a + c) v (9, 0, 17, 0) (6 * a + c) = v := fun v => upd_same
  refine aw_aload0 (pc := 0) F dX9_narrows_0 ?_
  refine aw_getR (pc := 1) F dX9_narrows_1 fl_9_26 rfl (by first | decide | (simp only [inB, cnt, rcnt]; omega)) rfl nz16 rfl ?_
  refine aw_iload1 (pc := 4) F dX9_narrows_4 ?_
  refine aw_iload2 (pc := 5) F dX9_narrows_5 ?_
  refine aw_pcallS2 (pc := 6) F dX9_narrows_6 ml_9_230 (ct9_pair _ _ _ _) (Nat.le_of_ble_eq_true rfl) (by decide) (Nat.zero_le _) ?_
  refine aw_dup2 (pc := 9) F dX9_narrows_9 ?_
  refine aw_iald (pc := 10) F dX9_narrows_10 rfl (by first | decide | (simp only [inB, cnt, rcnt]; omega)) (by omega) ?_
  refine aw_iload3 (pc := 11) F dX9_narrows_11 ?_
  refine aw_iand (pc := 12) F dX9_narrows_12 ?_
  refine aw_iast (pc := 13) F dX9_narrows_13 rfl (by first | decide | (simp only [inB, cnt, rcnt]; omega)) (by omega) ?_
  refine aw_aload0 (pc := 14) F dX9_narrows_14 ?_
  refine aw_getR (pc := 15) F dX9_narrows_15 fl_9_26 rfl (by first | decide | (simp only [inB, cnt, rcnt]; omega)) rfl nz16 rfl ?_
  refine aw_iload2 (pc := 18) F dX9_narrows_18 ?_
  refine aw_iload1 (pc := 19) F dX9_narrows_19 ?_
  refine aw_pcallS2 (pc := 20) F dX9_narrows_20 ml_9_230 (ct9_pair _ _ _ _) (Nat.le_of_ble_eq_true rfl) (by decide) (Nat.zero_le _) ?_
  refine aw_aload0 (pc := 23) F dX9_narrows_23 ?_
  refine aw_aload0 (pc := 24) F dX9_narrows_24 ?_
  refine aw_getR (pc := 25) F dX9_narrows_25 fl_9_26 rfl (by first | decide | (simp only [inB, cnt, rcnt]; omega)) rfl nz16 rfl ?_
  refine aw_iload1 (pc := 28) F dX9_narrows_28 ?_
  refine aw_iload2 (pc := 29) F dX9_narrows_29 ?_
  refine aw_pcallS2 (pc := 30) F dX9_narrows_30 ml_9_230 (ct9_pair _ _ _ _) (Nat.le_of_ble_eq_true rfl) (by decide) (Nat.zero_le _) ?_
  refine aw_iald (pc := 33) F dX9_narrows_33 rfl (by first | decide | (simp only [inB, cnt, rcnt]; omega)) (by omega) ?_
  refine aw_pcallV1 (pc := 34) F dX9_narrows_34 ml_9_233 rfl (by first | decide | (simp only [inB, cnt, rcnt]; omega)) (ct9_turned _ _ T _ hT h (by rw [e1]; exact h1)) (Nat.le_of_ble_eq_true rfl) (by decide) (Nat.zero_le _) ?_
  refine aw_iast (pc := 37) F dX9_narrows_37 rfl (by first | decide | (simp only [inB, cnt, rcnt]; omega)) (by omega) ?_
  exact aw_vret (pc := 38) F dX9_narrows_38 (Nat.zero_le _) (by rw [e1, upd_asA, upd_asA, setA_setA, setA_same]; rfl)
theorem ct9_laysSets (M : Id4 → Int → Int) (b : Bool) (T : Nat) (hT : M (9, 0, 1, 0) 0 = (T : Int)) (h : Ok (M (9, 0, 1, 0))) : CtV 5 0 yX9_laysSets cX9_laysSets 3 none [aR (9, 0, 0, 0)] (M, R0 b) (fun σ' => σ' = (setA M (9, 0, 17, 0) (layN (M (9, 0, 1, 0)) (fillA (M (9, 0, 17, 0)) (lay0 T) 36) (M (9, 0, 1, 0) 20).toNat), R0 b)) := by
  refine CtV.mk (by decide +kernel) rfl (Nat.le_of_ble_eq_true rfl) (fun X K F hk => ?_)
  have hT2 : 2 ≤ T ∧ T ≤ 24 := by have := h.1; omega
  have eT : (M (9, 0, 1, 0) 0).toNat = T := by omega
  sorry
