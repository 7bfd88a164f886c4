/-! 42: what a move would cost -/
theorem ct9_costBy (M : Id4 → Int → Int) (b : Bool) (k v : Int) (hk9 : 0 ≤ k ∧ k < 91) (h : Ok (upS (M (9, 0, 1, 0)) k v)) : CtI 6 0 yX9_costBy cX9_costBy 5 (some .int) [aR (9, 0, 0, 0), aI k, aI v] (M, R0 b) (PU (M, R0 b) (cst (upS (M (9, 0, 1, 0)) k v))) := by
  refine CtI.mk (by decide +kernel) rfl (Nat.le_of_ble_eq_true rfl) (fun X K F hk => ?_)
  have s1 : updM M (9, 0, 1, 0) k v (9, 0, 1, 0) = upS (M (9, 0, 1, 0)) k v := upd_row
  have g := ct9_costNow (updM M (9, 0, 1, 0) k v) b (by rw [s1]; exact h)
  rw [s1] at g
  refine aw_aload0 (pc := 0) F dX9_costBy_0 ?_
  refine aw_getR (pc := 1) F dX9_costBy_1 fl_9_7 rfl (by first | decide | (simp only [inB, cnt, rcnt]; omega)) rfl nz0 rfl ?_
  refine aw_iload1 (pc := 4) F dX9_costBy_4 ?_
  refine aw_iald (pc := 5) F dX9_costBy_5 rfl (by first | decide | (simp only [inB, cnt, rcnt]; omega)) (by omega) ?_
  refine aw_istore3 (pc := 6) F dX9_costBy_6 rfl hk.symm ?_
  refine aw_aload0 (pc := 7) F dX9_costBy_7 ?_
  refine aw_getR (pc := 8) F dX9_costBy_8 fl_9_7 rfl (by first | decide | (simp only [inB, cnt, rcnt]; omega)) rfl nz0 rfl ?_
  refine aw_iload1 (pc := 11) F dX9_costBy_11 ?_
  refine aw_iload2 (pc := 12) F dX9_costBy_12 ?_
  refine aw_iast (pc := 13) F dX9_costBy_13 rfl (by first | decide | (simp only [inB, cnt, rcnt]; omega)) (by omega) ?_
  refine aw_aload0 (pc := 14) F dX9_costBy_14 ?_
  refine aw_pcallV0 (pc := 15) F dX9_costBy_15 ml_9_221 rfl (by first | decide | (simp only [inB, cnt, rcnt]; omega)) g (Nat.le_of_ble_eq_true rfl) (by decide) (Nat.zero_le _) ?_
  refine aw_istore4 (pc := 18) F dX9_costBy_18 rfl hk.symm ?_
  refine aw_aload0 (pc := 20) F dX9_costBy_20 ?_
  refine aw_getR (pc := 21) F dX9_costBy_21 fl_9_7 rfl (by first | decide | (simp only [inB, cnt, rcnt]; omega)) rfl nz0 rfl ?_
  refine aw_iload1 (pc := 24) F dX9_costBy_24 ?_
  refine aw_iload3 (pc := 25) F dX9_costBy_25 ?_
  refine aw_iast (pc := 26) F dX9_costBy_26 rfl (by first | decide | (simp only [inB, cnt, rcnt]; omega)) (by omega) ?_
  refine aw_iload4 (pc := 27) F dX9_costBy_27 ?_
  exact aw_iret (pc := 29) F dX9_costBy_29 rfl (Nat.zero_le _) ⟨rfl, by rw [upd_upd, upd_id]⟩
theorem cq9_costIf (M : Id4 → Int → Int) (b : Bool) (S : Int → Int) (e t : Int) (h1 : inR e) (h2 : inR t) (hS : M (9, 0, 1, 0) = S) (h : Ok S) : CtI 7 0 yX9_costIf cX9_costIf 3 (some .int) [aR (9, 0, 0, 0), aI e, aI t] (M, R0 b) (QP M b (t2 (0 ≤ e ∧ e ≤ S 1 - 1) (0 ≤ t ∧ t ≤ S 0 - 1)) (cst (upS S (14 + e) t))) := by
  refine CtI.mk (by decide +kernel) rfl (Nat.le_of_ble_eq_true rfl) (fun X K F hk => ?_)
  have hT := h.1
  have hE := h.2.1
  have sq : CtI 2 0 yX9_isEvent cX9_isEvent 2 (some .boolean) [aR (9, 0, 0, 0), aI e] (M, R0 b) (PU (M, R0 b) (b2i (0 ≤ e ∧ e ≤ S 1 - 1))) := by
    have z := ct9_isEvent M b e h1 (by rw [hS]; exact hE)
    rw [hS] at z
    exact z
  have st : CtI 2 0 yX9_isTime cX9_isTime 2 (some .boolean) [aR (9, 0, 0, 0), aI t] (M, R0 b) (PU (M, R0 b) (b2i (0 ≤ t ∧ t ≤ S 0 - 1))) := by
    have z := ct9_isTime M b t h2 (by rw [hS]; exact hT)
    rw [hS] at z
    exact z
  refine aw_aload0 (pc := 0) F dX9_costIf_0 ?_
  refine aw_aload0 (pc := 1) F dX9_costIf_1 ?_
  refine aw_iload1 (pc := 2) F dX9_costIf_2 ?_
  refine aw_pcallV1 (pc := 3) F dX9_costIf_3 ml_9_191 rfl (by first | decide | (simp only [inB, cnt, rcnt]; omega)) sq (Nat.le_of_ble_eq_true rfl) (by decide) (Nat.zero_le _) ?_
  refine aw_aload0 (pc := 6) F dX9_costIf_6 ?_
  refine aw_iload2 (pc := 7) F dX9_costIf_7 ?_
  refine aw_pcallV1 (pc := 8) F dX9_costIf_8 ml_9_267 rfl (by first | decide | (simp only [inB, cnt, rcnt]; omega)) st (Nat.le_of_ble_eq_true rfl) (by decide) (Nat.zero_le _) ?_
  refine aw_callVI2 (pc := 11) F dX9_costIf_11 ml_9_197 rfl (by first | decide | (simp only [inB, cnt, rcnt]; omega)) (ct9_good2 _ _ _ _ (by first | exact b2i_01 | decide) (by first | exact b2i_01 | decide)) (Nat.le_of_ble_eq_true rfl) (by decide) (Nat.zero_le _) (fun v9 σ9 h9_11 => ?_)
  obtain ⟨rfl, rfl⟩ := h9_11
  refine aw_ifb_eq (tgt := 29) (pc := 14) F dX9_costIf_14 (by decide) (fun c14 => ?_) (fun c14 => ?_)
  · refine aw_iconst (pc := 29) F dX9_costIf_29 ?_
    exact aw_iret (pc := 30) F dX9_costIf_30 rfl (Nat.zero_le _) (by first | exact qp2 (fun z1 z2 => by rw [thr_s, hS]) | exact qp2 (fun z1 z2 => absurd ⟨b2i_pos z1, b2i_pos z2⟩ c14))
  · rw [b2i_1, b2i_1] at c14
    have s1 := same9_thr (t := t2 (0 ≤ e ∧ e ≤ S 1 - 1) (0 ≤ t ∧ t ≤ S 0 - 1)).s.trans hS
    refine aw_aload0 (pc := 17) F dX9_costIf_17 ?_
    refine aw_bipush (pc := 18) F dX9_costIf_18 (by decide) ?_
    refine aw_iload1 (pc := 20) F dX9_costIf_20 ?_
    refine aw_iadd (pc := 21) F dX9_costIf_21 ?_
    refine aw_iload2 (pc := 22) F dX9_costIf_22 ?_
    refine aw_pcallV2 (pc := 23) F dX9_costIf_23 ml_9_336 rfl (by first | decide | (simp only [inB, cnt, rcnt]; omega)) (ct9_costBy _ _ _ _ (by omega) (by rw [thr_s, hS]; exact ok_time h (by omega) (by omega))) (Nat.le_of_ble_eq_true rfl) (by decide) (Nat.zero_le _) ?_
    refine aw_goto (tgt := 30) (pc := 26) F dX9_costIf_26 (by decide) ?_
    exact aw_iret (pc := 30) F dX9_costIf_30 rfl (Nat.zero_le _) (by first | exact qp2 (fun z1 z2 => by rw [thr_s, hS]) | exact qp2 (fun z1 z2 => absurd ⟨b2i_pos z1, b2i_pos z2⟩ c14))
theorem cx8_costIf (M : Id4 → Int → Int) (b : Bool) (S : Int → Int) (e t : Int) (h1 : inR e) (h2 : inR t) (hR : plR M 0 S) (h : Ok S) : CxI 13 2 yX8_costIf cX8_costIf 3 (some .int) [aR (8, 0, 0, 0), aI e, aI t] (M, R0 b) (fun v σ' => v = cst (upS S (14 + e) t) ∧ ((0 ≤ e ∧ e < S 1) ∧ 0 ≤ t ∧ t ≤ S 0 - 1) ∧ ∃ M', σ' = (M', R0 b) ∧ same8 M M') (fun E σ' => σ' = (M, R0 b) ∧ ((E = eIO ∧ ¬ (0 ≤ e ∧ e < S 1)) ∨ (E = eIA ∧ (0 ≤ e ∧ e < S 1) ∧ ¬ (0 ≤ t ∧ t ≤ S 0 - 1)))) := by
  refine CxI.mk (by decide +kernel) rfl (Nat.le_of_ble_eq_true rfl) (fun X K F hk => ?_)
  have hT := h.1
  have hE := h.2.1
  have hp0 := hR.1.1
  refine aw_aload0 (pc := 0) F dX8_costIf_0 ?_
  refine aw_iload1 (pc := 1) F dX8_costIf_1 ?_
  refine aw_xcallVVI1 (pc := 2) F dX8_costIf_2 ml_8_119 rfl (by first | decide | (simp only [inB, cnt, rcnt]; omega)) (cx8_requireEvent _ _ S _ h1 hR h) (Nat.le_of_ble_eq_true rfl) (by decide) (by decide) (fun _ _ h => ⟨h.2.1, Or.inl ⟨h.1, h.2.2⟩⟩) (fun σ9 h9_2 => ?_)
  obtain ⟨rfl, q1, q2⟩ := h9_2
  refine aw_iload2 (pc := 5) F dX8_costIf_5 ?_
  refine aw_iconst (pc := 6) F dX8_costIf_6 ?_
  refine aw_aload0 (pc := 7) F dX8_costIf_7 ?_
  refine aw_getR (pc := 8) F dX8_costIf_8 fl_8_34 rfl (by first | decide | (simp only [inB, cnt, rcnt]; omega)) rfl nz4 rfl ?_
  refine aw_getI (pc := 11) F dX8_costIf_11 fl_8_109 rfl (by first | decide | (simp only [inB, cnt, rcnt]; omega)) rfl nz0 ?_
  refine aw_iconst (pc := 14) F dX8_costIf_14 ?_
  refine aw_isub (pc := 15) F dX8_costIf_15 ?_
  refine aw_xcallSVI3 (pc := 16) F dX8_costIf_16 ml_8_80 (cx8_requireRange _ _ _ _ _ h2 (by unfold inR; omega) (by unfold inR; omega)) (Nat.le_of_ble_eq_true rfl) (by decide) (by decide) (fun _ _ h => ⟨h.2.1, Or.inr ⟨h.1, ⟨q1, q2⟩, fun z => h.2.2 (by omega)⟩⟩) (fun σ9 h9_16 => ?_)
  obtain ⟨rfl, q3, q4⟩ := h9_16
  refine aw_aload0 (pc := 19) F dX8_costIf_19 ?_
  refine aw_getR (pc := 20) F dX8_costIf_20 fl_8_38 rfl (by first | decide | (simp only [inB, cnt, rcnt]; omega)) rfl nz5 rfl ?_
  refine aw_aload0 (pc := 23) F dX8_costIf_23 ?_
  refine aw_getR (pc := 24) F dX8_costIf_24 fl_8_34 rfl (by first | decide | (simp only [inB, cnt, rcnt]; omega)) rfl nz4 rfl ?_
  refine aw_callVV1 (pc := 27) F dX8_costIf_27 ml_8_89 rfl (by first | decide | (simp only [inB, cnt, rcnt]; omega)) (ct5_copyFrom _ _ _ _ (by decide) (by decide) (by decide)) (Nat.le_of_ble_eq_true rfl) (by decide) (by decide) (fun σ9 h9_27 => ?_)
  obtain ⟨M1, h9, c1, c2⟩ := h9_27
  subst h9
  have r1 := pl_time (e := e) (t := t) (by omega) (c2 S h hR)
  refine aw_aload0 (pc := 30) F dX8_costIf_30 ?_
  refine aw_getR (pc := 31) F dX8_costIf_31 fl_8_38 rfl (by first | decide | (simp only [inB, cnt, rcnt]; omega)) rfl nz5 rfl ?_
  refine aw_getR (pc := 34) F dX8_costIf_34 fl_8_122 rfl (by first | decide | (simp only [inB, cnt, rcnt]; omega)) rfl nz3 rfl ?_
  refine aw_iload1 (pc := 37) F dX8_costIf_37 ?_
  refine aw_iload2 (pc := 38) F dX8_costIf_38 ?_
  refine aw_iast (pc := 39) F dX8_costIf_39 rfl (by first | decide | (simp only [inB, cnt, rcnt]; omega)) (by omega) ?_
  refine aw_aload0 (pc := 40) F dX8_costIf_40 ?_
  refine aw_getR (pc := 41) F dX8_costIf_41 fl_8_38 rfl (by first | decide | (simp only [inB, cnt, rcnt]; omega)) rfl nz5 rfl ?_
  refine aw_pcallV0 (pc := 44) F dX8_costIf_44 ml_8_168 rfl (by first | decide | (simp only [inB, cnt, rcnt]; omega)) (ct5_sumCosts _ _ (upS S (14 + e) t) _ (by decide) r1 (ok_time h ⟨q1, q2⟩ (by omega))) (Nat.le_of_ble_eq_true rfl) (by decide) (by decide) ?_
  exact aw_xiret (pc := 47) F dX8_costIf_47 rfl (by decide) ⟨rfl, ⟨⟨q1, q2⟩, q3, by omega⟩, _, rfl, fun q z => (upd_off (fun y => z (by rw [y]; exact Or.inr (Or.inr (Or.inr ⟨rfl, rfl⟩))))).trans (c1 q (fun y => z (Or.inr (Or.inr (Or.inr y)))))⟩
theorem ct9_putAside (M : Id4 → Int → Int) (b : Bool) : CtV 1 0 yX9_putAside cX9_putAside 2 none [aR (9, 0, 0, 0)] (M, R0 b) (fun σ' => σ' = (setA M (9, 0, 2, 0) (ovr (M (9, 0, 2, 0)) (M (9, 0, 1, 0)) 91), R0 b)) := by
  refine CtV.mk (by decide +kernel) rfl (Nat.le_of_ble_eq_true rfl) (fun X K F hk => ?_)
  have key : ∀ (j i : Nat) (M' : Id4 → Int → Int), i + j = 91 → M' = setA M (9, 0, 2, 0) (ovr (M (9, 0, 2, 0)) (M (9, 0, 1, 0)) i) → AW X K 2 [aR (9, 0, 0, 0), aI i] [] (M', R0 b) 0 (EV X K 0 (fun σ' => σ' = (setA M (9, 0, 2, 0) (ovr (M (9, 0, 2, 0)) (M (9, 0, 1, 0)) 91), R0 b))) := by
    intro j
    induction j with
    | zero =>
      intro i M' hi hM
      obtain rfl : i = 91 := by omega
      refine aw_iload1 (pc := 2) F dX9_putAside_2 ?_
      refine aw_bipush (pc := 3) F dX9_putAside_3 (by decide) ?_
      refine aw_icmp_ge (tgt := 26) (pc := 5) F dX9_putAside_5 (by decide) (by unfold inR; omega) (by unfold inR; omega) (fun c5 => ?_) (fun c5 => ?_)
      · exact aw_vret (pc := 26) F dX9_putAside_26 (Nat.zero_le _) (by rw [hM]; rfl)
      · omega
    | succ j ih =>
      intro i M' hi hM
      have s1 : M' (9, 0, 1, 0) = M (9, 0, 1, 0) := by rw [hM, setA_ne (by decide)]
      refine aw_iload1 (pc := 2) F dX9_putAside_2 ?_
      refine aw_bipush (pc := 3) F dX9_putAside_3 (by decide) ?_
      refine aw_icmp_ge (tgt := 26) (pc := 5) F dX9_putAside_5 (by decide) (by unfold inR; omega) (by unfold inR; omega) (fun c5 => ?_) (fun c5 => ?_)
      · omega
      · refine aw_aload0 (pc := 8) F dX9_putAside_8 ?_
        refine aw_getR (pc := 9) F dX9_putAside_9 fl_9_13 rfl (by first | decide | (simp only [inB, cnt, rcnt]; omega)) rfl nz1 rfl ?_
        refine aw_iload1 (pc := 12) F dX9_putAside_12 ?_
        refine aw_aload0 (pc := 13) F dX9_putAside_13 ?_
        refine aw_getR (pc := 14) F dX9_putAside_14 fl_9_7 rfl (by first | decide | (simp only [inB, cnt, rcnt]; omega)) rfl nz0 rfl ?_
        refine aw_iload1 (pc := 17) F dX9_putAside_17 ?_
        refine aw_iald (pc := 18) F dX9_putAside_18 rfl (by first | decide | (simp only [inB, cnt, rcnt]; omega)) (by omega) ?_
        refine aw_iast (pc := 19) F dX9_putAside_19 rfl (by first | decide | (simp only [inB, cnt, rcnt]; omega)) (by omega) ?_
        refine aw_iinc1 (pc := 20) F dX9_putAside_20 rfl hk.symm ?_
        refine aw_goto (tgt := 2) (pc := 23) F dX9_putAside_23 (by decide) ?_
        exact ih (i + 1) _ (by omega) (by rw [s1, hM, upd_setA, ovr_step (by omega)]; rfl)
  refine aw_iconst (pc := 0) F dX9_putAside_0 ?_
  refine aw_istore1 (pc := 1) F dX9_putAside_1 rfl hk.symm ?_
  exact key 91 0 M (by omega) (by rw [show ((0 : Nat) : Int) = 0 by rfl, ovr_0, setA_id])
theorem ct9_layBack (M : Id4 → Int → Int) (b : Bool) : CtV 1 0 yX9_layBack cX9_layBack 2 none [aR (9, 0, 0, 0)] (M, R0 b) (fun σ' => σ' = (setA M (9, 0, 1, 0) (ovr (M (9, 0, 1, 0)) (M (9, 0, 2, 0)) 91), R0 b)) := by
  refine CtV.mk (by decide +kernel) rfl (Nat.le_of_ble_eq_true rfl) (fun X K F hk => ?_)
  have key : ∀ (j i : Nat) (M' : Id4 → Int → Int), i + j = 91 → M' = setA M (9, 0, 1, 0) (ovr (M (9, 0, 1, 0)) (M (9, 0, 2, 0)) i) → AW X K 2 [aR (9, 0, 0, 0), aI i] [] (M', R0 b) 0 (EV X K 0 (fun σ' => σ' = (setA M (9, 0, 1, 0) (ovr (M (9, 0, 1, 0)) (M (9, 0, 2, 0)) 91), R0 b))) := by
    intro j
    induction j with
    | zero =>
      intro i M' hi hM
      obtain rfl : i = 91 := by omega
      refine aw_iload1 (pc := 2) F dX9_layBack_2 ?_
      refine aw_bipush (pc := 3) F dX9_layBack_3 (by decide) ?_
      refine aw_icmp_ge (tgt := 26) (pc := 5) F dX9_layBack_5 (by decide) (by unfold inR; omega) (by unfold inR; omega) (fun c5 => ?_) (fun c5 => ?_)
      · exact aw_vret (pc := 26) F dX9_layBack_26 (Nat.zero_le _) (by rw [hM]; rfl)
      · omega
    | succ j ih =>
      intro i M' hi hM
      have s1 : M' (9, 0, 2, 0) = M (9, 0, 2, 0) := by rw [hM, setA_ne (by decide)]
      refine aw_iload1 (pc := 2) F dX9_layBack_2 ?_
      refine aw_bipush (pc := 3) F dX9_layBack_3 (by decide) ?_
      refine aw_icmp_ge (tgt := 26) (pc := 5) F dX9_layBack_5 (by decide) (by unfold inR; omega) (by unfold inR; omega) (fun c5 => ?_) (fun c5 => ?_)
      · omega
      · refine aw_aload0 (pc := 8) F dX9_layBack_8 ?_
        refine aw_getR (pc := 9) F dX9_layBack_9 fl_9_7 rfl (by first | decide | (simp only [inB, cnt, rcnt]; omega)) rfl nz0 rfl ?_
        refine aw_iload1 (pc := 12) F dX9_layBack_12 ?_
        refine aw_aload0 (pc := 13) F dX9_layBack_13 ?_
        refine aw_getR (pc := 14) F dX9_layBack_14 fl_9_13 rfl (by first | decide | (simp only [inB, cnt, rcnt]; omega)) rfl nz1 rfl ?_
        refine aw_iload1 (pc := 17) F dX9_layBack_17 ?_
        refine aw_iald (pc := 18) F dX9_layBack_18 rfl (by first | decide | (simp only [inB, cnt, rcnt]; omega)) (by omega) ?_
        refine aw_iast (pc := 19) F dX9_layBack_19 rfl (by first | decide | (simp only [inB, cnt, rcnt]; omega)) (by omega) ?_
        refine aw_iinc1 (pc := 20) F dX9_layBack_20 rfl hk.symm ?_
        refine aw_goto (tgt := 2) (pc := 23) F dX9_layBack_23 (by decide) ?_
        exact ih (i + 1) _ (by omega) (by rw [s1, hM, upd_setA, ovr_step (by omega)]; rfl)
  refine aw_iconst (pc := 0) F dX9_layBack_0 ?_
  refine aw_istore1 (pc := 1) F dX9_layBack_1 rfl hk.symm ?_
  exact key 91 0 M (by omega) (by rw [show ((0 : Nat) : Int) = 0 by rfl, ovr_0, setA_id])
