/-! 60: the class solves -/
theorem cx8_requireGood (M : Id4 → Int → Int) (b : Bool) (x : Int) (h1 : x = 0 ∨ x = 1) : CxV 12 1 yX8_requireGood cX8_requireGood 1 none [aI x] (M, R0 b) (fun σ' => σ' = (M, R0 b) ∧ x = 1) (fun E σ' => E = eNS ∧ σ' = (M, R0 b) ∧ x = 0) := by
  refine CxV.mk (by decide +kernel) rfl (Nat.le_of_ble_eq_true rfl) (fun X K F hk => ?_)
  refine aw_iload0 (pc := 0) F dX8_requireGood_0 ?_
  refine aw_if_ne (tgt := 15) (pc := 1) F dX8_requireGood_1 (by decide) (by unfold inR; omega) (fun c1 => ?_) (fun c1 => ?_)
  · exact aw_xvret (pc := 15) F dX8_requireGood_15 (by decide) ⟨rfl, by omega⟩
  · exact aw_throwNVW (pc := 4) F dX8_requireGood_4 dX8_requireGood_7 dX8_requireGood_8 dX8_requireGood_11 dX8_requireGood_14 tn_163_331_167 (by decide) (by decide) (Nat.le_of_ble_eq_true rfl) ⟨rfl, rfl, by omega⟩
theorem ct8_isSolvable (M : Id4 → Int → Int) (b : Bool) (S : Int → Int) (hR : plR M 0 S) (h : Ok S) : CtI 30 0 yX8_isSolvable cX8_isSolvable 1 (some .boolean) [aR (8, 0, 0, 0)] (M, R0 b) (fun v σ' => v = b2i (¬ (goS S 1).1 = -1) ∧ ∃ M', σ' = (M', R0 b) ∧ same8 M M') := by
  refine CtI.mk (by decide +kernel) rfl (Nat.le_of_ble_eq_true rfl) (fun X K F hk => ?_)
  refine aw_aload0 (pc := 0) F dX8_isSolvable_0 ?_
  refine aw_getR (pc := 1) F dX8_isSolvable_1 fl_8_65 rfl (by first | decide | (simp only [inB, cnt, rcnt]; omega)) rfl nz9 rfl ?_
  refine aw_aload0 (pc := 4) F dX8_isSolvable_4 ?_
  refine aw_getR (pc := 5) F dX8_isSolvable_5 fl_8_34 rfl (by first | decide | (simp only [inB, cnt, rcnt]; omega)) rfl nz4 rfl ?_
  refine aw_iconst (pc := 8) F dX8_isSolvable_8 ?_
  refine aw_callVI2 (pc := 9) F dX8_isSolvable_9 ml_8_245 rfl (by first | decide | (simp only [inB, cnt, rcnt]; omega)) (ct7_findGood _ _ S 0 1 (Or.inr rfl) (by decide) hR h) (Nat.le_of_ble_eq_true rfl) (by decide) (Nat.zero_le _) (fun v9 σ9 h9_9 => ?_)
  obtain ⟨rfl, M2, rfl, c1, c2⟩ := h9_9
  exact aw_iret (pc := 12) F dX8_isSolvable_12 (nar_bool (by first | exact b2i_01 | decide)) (Nat.zero_le _) ⟨rfl, M2, rfl, c1.s8⟩
theorem cx8_leastCost (M : Id4 → Int → Int) (b : Bool) (S : Int → Int) (hR : plR M 0 S) (h : Ok S) : CxI 30 1 yX8_leastCost cX8_leastCost 1 (some .int) [aR (8, 0, 0, 0)] (M, R0 b) (fun v σ' => v = (goS S 0).1 ∧ ¬ (goS S 0).1 = -1 ∧ ∃ M', σ' = (M', R0 b) ∧ same8 M M') (fun E σ' => (E = eNS ∧ (goS S 0).1 = -1) ∧ ∃ M', σ' = (M', R0 b) ∧ same8 M M') := by
  refine CxI.mk (by decide +kernel) rfl (Nat.le_of_ble_eq_true rfl) (fun X K F hk => ?_)
  refine aw_aload0 (pc := 0) F dX8_leastCost_0 ?_
  refine aw_getR (pc := 1) F dX8_leastCost_1 fl_8_65 rfl (by first | decide | (simp only [inB, cnt, rcnt]; omega)) rfl nz9 rfl ?_
  refine aw_aload0 (pc := 4) F dX8_leastCost_4 ?_
  refine aw_getR (pc := 5) F dX8_leastCost_5 fl_8_34 rfl (by first | decide | (simp only [inB, cnt, rcnt]; omega)) rfl nz4 rfl ?_
  refine aw_iconst (pc := 8) F dX8_leastCost_8 ?_
  refine aw_callVI2 (pc := 9) F dX8_leastCost_9 ml_8_245 rfl (by first | decide | (simp only [inB, cnt, rcnt]; omega)) (ct7_findGood _ _ S 0 0 (Or.inl rfl) (by decide) hR h) (Nat.le_of_ble_eq_true rfl) (by decide) (by decide) (fun v9 σ9 h9_9 => ?_)
  obtain ⟨hv, M2, rfl, c1, c2⟩ := h9_9
  refine aw_xcallSVI1 (pc := 12) F dX8_leastCost_12 ml_8_249 (cx8_requireGood _ _ _ (by rw [hv]; exact b2i_01)) (Nat.le_of_ble_eq_true rfl) (by decide) (by decide) (fun _ _ h => ⟨⟨h.1, Classical.byContradiction fun z => by rw [hv, b2i_pos z] at h; exact absurd h.2.2 (by decide)⟩, M2, h.2.1, c1.s8⟩) (fun σ9 h9_12 => ?_)
  obtain ⟨rfl, q⟩ := h9_12
  refine aw_aload0 (pc := 15) F dX8_leastCost_15 ?_
  refine aw_getR (pc := 16) F dX8_leastCost_16 fl_8_65 rfl (by first | decide | (simp only [inB, cnt, rcnt]; omega)) rfl nz9 rfl ?_
  refine aw_getI (pc := 19) F dX8_leastCost_19 fl_8_253 rfl (by first | decide | (simp only [inB, cnt, rcnt]; omega)) rfl nz0 ?_
  exact aw_xiret (pc := 22) F dX8_leastCost_22 rfl (by decide) (by
    have z : ¬ (goS S 0).1 = -1 := fun z => by rw [hv, b2i_neg (fun w => w z)] at q; exact absurd q (by decide)
    exact ⟨c2.1.trans ((bst_bd c2.2.1).2.2.2 z).1, z, M2, rfl, c1.s8⟩)
theorem soS2_1 {S tau : Int → Int} {n : Int} : soS2 S tau n 1 = S 1 := soS2_off (by omega)
theorem pl_best {M : Id4 → Int → Int} {S tau : Int → Int} (h : Ok S) (hR : plR M 0 S) (ht : ∀ a, 0 ≤ a → a < S 1 → M (7, 0, 2, 0) a = tau a) : plR (cpyM M (7, 0, 2, 0) 0 (5, 0, 4, 0) 0 (S 1)) 0 (soS2 S tau (S 1)) := by
  have hE := h.2.1
  have hN := h.2.2.1
  obtain ⟨⟨a, b, c⟩, d, g⟩ := hR
  have s0 : soS2 S tau (S 1) 0 = S 0 := soS2_off (by omega)
  have s20 : soS2 S tau (S 1) 20 = S 20 := soS2_off (by omega)
  refine ⟨⟨?_, ?_, ?_⟩, fun e e0 e1 => ?_, fun k k0 k1 => ?_⟩
  · rw [cpy_off (by decide), s0]; exact a
  · rw [cpy_off (by decide), soS2_1]; exact b
  · rw [cpy_off (by decide), s20]; exact c
  · rw [soS2_1] at e1
    rw [cpy_at ⟨e0, e1⟩, soS2_at ⟨e0, e1⟩]
    exact ht e e0 e1
  · rw [s20] at k1
    have z := g k k0 k1
    rw [cpy_off (by decide), cpy_off (by decide), cpy_off (by decide), cpy_off (by decide), cpy_off (by decide), soS2_off (by omega), soS2_off (by omega), soS2_off (by omega), soS2_off (by omega), soS2_off (by omega)]
    exact z
theorem ct8_takeBest (M : Id4 → Int → Int) (b : Bool) (S : Int → Int) (nx n : Int) (Hs : Int → Int → Int) (st : StT) (hR : plR M 0 S) (h : Ok S) (hH : hR8 M nx n Hs) (hst : stP S M st) (hf : ¬ st.1 = -1) : CtI 5 0 yX8_takeBest cX8_takeBest 1 (some .int) [aR (8, 0, 0, 0)] (M, R0 b) (fun v σ' => v = st.1 ∧ E8 M b (soS2 S st.2 (S 1)) (min (n + 1) 10) (pushH n Hs S) σ') := by
  refine CtI.mk (by decide +kernel) rfl (Nat.le_of_ble_eq_true rfl) (fun X K F hk => ?_)
  have hE := h.2.1
  refine aw_aload0 (pc := 0) F dX8_takeBest_0 ?_
  refine aw_getR (pc := 1) F dX8_takeBest_1 fl_8_44 rfl (by first | decide | (simp only [inB, cnt, rcnt]; omega)) rfl nz6 rfl ?_
  refine aw_aload0 (pc := 4) F dX8_takeBest_4 ?_
  refine aw_getR (pc := 5) F dX8_takeBest_5 fl_8_34 rfl (by first | decide | (simp only [inB, cnt, rcnt]; omega)) rfl nz4 rfl ?_
  refine aw_callVV1 (pc := 8) F dX8_takeBest_8 ml_8_259 rfl (by first | decide | (simp only [inB, cnt, rcnt]; omega)) (ct2_remember _ _ S nx n Hs hR h hH) (Nat.le_of_ble_eq_true rfl) (by decide) (Nat.zero_le _) (fun σ9 h9_8 => ?_)
  obtain ⟨M1, nx1, h9, c1, c2⟩ := h9_8
  subst h9
  have p1 : M1 (5, 0, 0, 0) 1 = S 1 := (c1.pl hR).1.2.1
  have b7 : ∀ c : Nat, M1 (7, 0, c, 0) = M (7, 0, c, 0) := fun c => c1 _ (by simp) (by simp)
  refine aw_aload0 (pc := 11) F dX8_takeBest_11 ?_
  refine aw_getR (pc := 12) F dX8_takeBest_12 fl_8_65 rfl (by first | decide | (simp only [inB, cnt, rcnt]; omega)) rfl nz9 rfl ?_
  refine aw_getR (pc := 15) F dX8_takeBest_15 fl_8_281 rfl (by first | decide | (simp only [inB, cnt, rcnt]; omega)) rfl nz1 rfl ?_
  refine aw_iconst (pc := 18) F dX8_takeBest_18 ?_
  refine aw_aload0 (pc := 19) F dX8_takeBest_19 ?_
  refine aw_getR (pc := 20) F dX8_takeBest_20 fl_8_34 rfl (by first | decide | (simp only [inB, cnt, rcnt]; omega)) rfl nz4 rfl ?_
  refine aw_getR (pc := 23) F dX8_takeBest_23 fl_8_122 rfl (by first | decide | (simp only [inB, cnt, rcnt]; omega)) rfl nz3 rfl ?_
  refine aw_iconst (pc := 26) F dX8_takeBest_26 ?_
  refine aw_aload0 (pc := 27) F dX8_takeBest_27 ?_
  refine aw_getR (pc := 28) F dX8_takeBest_28 fl_8_34 rfl (by first | decide | (simp only [inB, cnt, rcnt]; omega)) rfl nz4 rfl ?_
  refine aw_getI (pc := 31) F dX8_takeBest_31 fl_8_112 rfl (by first | decide | (simp only [inB, cnt, rcnt]; omega)) rfl nz1 ?_
  rw [p1]
  refine aw_copy (pc := 34) F dX8_takeBest_34 mc_8_284 rfl rfl (by first | decide | omega) (by first | decide | (simp only [inB, cnt, rcnt]; omega)) (by first | decide | (simp only [inB, cnt, rcnt]; omega)) (by omega) (by omega) (by omega) (fun _ _ _ => rfl) (Nat.le_of_ble_eq_true rfl) (by first | decide | omega) ?_
  refine aw_aload0 (pc := 37) F dX8_takeBest_37 ?_
  refine aw_getR (pc := 38) F dX8_takeBest_38 fl_8_65 rfl (by first | decide | (simp only [inB, cnt, rcnt]; omega)) rfl nz9 rfl ?_
  refine aw_getI (pc := 41) F dX8_takeBest_41 fl_8_253 rfl (by first | decide | (simp only [inB, cnt, rcnt]; omega)) rfl nz0 ?_
  exact aw_iret (pc := 44) F dX8_takeBest_44 rfl (Nat.zero_le _) ⟨by rw [cpy_off (by decide), b7]; exact hst.1.trans ((bst_bd hst.2.1).2.2.2 hf).1, _, nx1, rfl, fun q z => (cpy_off (fun y => z (by rw [y]; exact Or.inr (Or.inr (Or.inr (Or.inl rfl)))))).trans (c1.e q z), pl_best h (c1.pl hR) (fun a a0 a1 => by rw [b7]; exact hst.2.2 hf a a0 a1), c2.chg (cpy_off (by decide)) (fun p c hp => cpy_off (fun z => by
    have := congrArg (fun q : Id4 => q.2.1) z
    dsimp only at this
    omega))⟩
theorem same17.e {M M' : Id4 → Int → Int} (h : same17 M M') : sameE M M' := h.s8.e
theorem cx8_solve (M : Id4 → Int → Int) (b : Bool) (S : Int → Int) (nx n : Int) (Hs : Int → Int → Int) (hR : plR M 0 S) (h : Ok S) (hH : hR8 M nx n Hs) : CxI 30 1 yX8_solve cX8_solve 1 (some .int) [aR (8, 0, 0, 0)] (M, R0 b) (fun v σ' => v = (goS S 1).1 ∧ ¬ (goS S 1).1 = -1 ∧ E8 M b (solR S 1) (min (n + 1) 10) (pushH n Hs S) σ') (fun E σ' => (E = eNS ∧ (goS S 1).1 = -1) ∧ ∃ M', σ' = (M', R0 b) ∧ same8 M M') := by
  refine CxI.mk (by decide +kernel) rfl (Nat.le_of_ble_eq_true rfl) (fun X K F hk => ?_)
  refine aw_aload0 (pc := 0) F dX8_solve_0 ?_
  refine aw_getR (pc := 1) F dX8_solve_1 fl_8_65 rfl (by first | decide | (simp only [inB, cnt, rcnt]; omega)) rfl nz9 rfl ?_
  refine aw_aload0 (pc := 4) F dX8_solve_4 ?_
  refine aw_getR (pc := 5) F dX8_solve_5 fl_8_34 rfl (by first | decide | (simp only [inB, cnt, rcnt]; omega)) rfl nz4 rfl ?_
  refine aw_iconst (pc := 8) F dX8_solve_8 ?_
  refine aw_callVI2 (pc := 9) F dX8_solve_9 ml_8_245 rfl (by first | decide | (simp only [inB, cnt, rcnt]; omega)) (ct7_findGood _ _ S 0 1 (Or.inr rfl) (by decide) hR h) (Nat.le_of_ble_eq_true rfl) (by decide) (by decide) (fun v9 σ9 h9_9 => ?_)
  obtain ⟨hv, M2, rfl, c1, c2⟩ := h9_9
  refine aw_xcallSVI1 (pc := 12) F dX8_solve_12 ml_8_249 (cx8_requireGood _ _ _ (by rw [hv]; exact b2i_01)) (Nat.le_of_ble_eq_true rfl) (by decide) (by decide) (fun _ _ h => ⟨⟨h.1, Classical.byContradiction fun z => by rw [hv, b2i_pos z] at h; exact absurd h.2.2 (by decide)⟩, M2, h.2.1, c1.s8⟩) (fun σ9 h9_12 => ?_)
  obtain ⟨rfl, q⟩ := h9_12
  have z : ¬ (goS S 1).1 = -1 := fun z => by rw [hv, b2i_neg (fun w => w z)] at q; exact absurd q (by decide)
  refine aw_aload0 (pc := 15) F dX8_solve_15 ?_
  refine aw_callVI0 (pc := 16) F dX8_solve_16 ml_8_278 rfl (by first | decide | (simp only [inB, cnt, rcnt]; omega)) (ct8_takeBest _ _ S nx n Hs _ (c1.pl hR) h (hH.s8 c1.s8) c2 z) (Nat.le_of_ble_eq_true rfl) (by decide) (by decide) (fun v8 σ8 h9_16 => ?_)
  obtain ⟨rfl, M3, nx3, rfl, d1, d2, d3⟩ := h9_16
  exact aw_xiret (pc := 19) F dX8_solve_19 rfl (by decide) ⟨rfl, z, M3, nx3, rfl, c1.e.tr d1, d2, d3⟩
theorem cx8_cheapen (M : Id4 → Int → Int) (b : Bool) (S : Int → Int) (nx n : Int) (Hs : Int → Int → Int) (hR : plR M 0 S) (h : Ok S) (hH : hR8 M nx n Hs) : CxI 30 1 yX8_cheapen cX8_cheapen 1 (some .int) [aR (8, 0, 0, 0)] (M, R0 b) (fun v σ' => v = (goS S 0).1 ∧ ¬ (goS S 0).1 = -1 ∧ E8 M b (solR S 0) (min (n + 1) 10) (pushH n Hs S) σ') (fun E σ' => (E = eNS ∧ (goS S 0).1 = -1) ∧ ∃ M', σ' = (M', R0 b) ∧ same8 M M') := by
  refine CxI.mk (by decide +kernel) rfl (Nat.le_of_ble_eq_true rfl) (fun X K F hk => ?_)
  refine aw_aload0 (pc := 0) F dX8_cheapen_0 ?_
  refine aw_getR (pc := 1) F dX8_cheapen_1 fl_8_65 rfl (by first | decide | (simp only [inB, cnt, rcnt]; omega)) rfl nz9 rfl ?_
  refine aw_aload0 (pc := 4) F dX8_cheapen_4 ?_
  refine aw_getR (pc := 5) F dX8_cheapen_5 fl_8_34 rfl (by first | decide | (simp only [inB, cnt, rcnt]; omega)) rfl nz4 rfl ?_
  refine aw_iconst (pc := 8) F dX8_cheapen_8 ?_
  refine aw_callVI2 (pc := 9) F dX8_cheapen_9 ml_8_245 rfl (by first | decide | (simp only [inB, cnt, rcnt]; omega)) (ct7_findGood _ _ S 0 0 (Or.inl rfl) (by decide) hR h) (Nat.le_of_ble_eq_true rfl) (by decide) (by decide) (fun v9 σ9 h9_9 => ?_)
  obtain ⟨hv, M2, rfl, c1, c2⟩ := h9_9
  refine aw_xcallSVI1 (pc := 12) F dX8_cheapen_12 ml_8_249 (cx8_requireGood _ _ _ (by rw [hv]; exact b2i_01)) (Nat.le_of_ble_eq_true rfl) (by decide) (by decide) (fun _ _ h => ⟨⟨h.1, Classical.byContradiction fun z => by rw [hv, b2i_pos z] at h; exact absurd h.2.2 (by decide)⟩, M2, h.2.1, c1.s8⟩) (fun σ9 h9_12 => ?_)
  obtain ⟨rfl, q⟩ := h9_12
  have z : ¬ (goS S 0).1 = -1 := fun z => by rw [hv, b2i_neg (fun w => w z)] at q; exact absurd q (by decide)
  refine aw_aload0 (pc := 15) F dX8_cheapen_15 ?_
  refine aw_callVI0 (pc := 16) F dX8_cheapen_16 ml_8_278 rfl (by first | decide | (simp only [inB, cnt, rcnt]; omega)) (ct8_takeBest _ _ S nx n Hs _ (c1.pl hR) h (hH.s8 c1.s8) c2 z) (Nat.le_of_ble_eq_true rfl) (by decide) (by decide) (fun v8 σ8 h9_16 => ?_)
  obtain ⟨rfl, M3, nx3, rfl, d1, d2, d3⟩ := h9_16
  exact aw_xiret (pc := 19) F dX8_cheapen_19 rfl (by decide) ⟨rfl, z, M3, nx3, rfl, c1.e.tr d1, d2, d3⟩
theorem chg5.s8 {M M' : Id4 → Int → Int} (h : chg5 1 M M') : same8 M M' := fun q z => h q (fun y => z (Or.inr (Or.inr (Or.inr y))))