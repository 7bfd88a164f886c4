/-! 20: the class's Plan: its methods over a plan p that tells the row S -/
def plR (M : Id4 → Int → Int) (p : Int) (S : Int → Int) : Prop := (M (5, p, 0, 0) 0 = S 0 ∧ M (5, p, 0, 0) 1 = S 1 ∧ M (5, p, 0, 0) 2 = S 20) ∧ (∀ e, 0 ≤ e → e < S 1 → M (5, p, 4, 0) e = S (14 + e)) ∧ ∀ k, 0 ≤ k → k < S 20 → M (5, p, 5, 0) k = S (21 + 5 * k + 0) ∧ M (5, p, 6, 0) k = S (21 + 5 * k + 1) ∧ M (5, p, 7, 0) k = S (21 + 5 * k + 2) ∧ M (5, p, 8, 0) k = S (21 + 5 * k + 3) ∧ M (5, p, 9, 0) k = S (21 + 5 * k + 4)
theorem ct8_modulo (M : Id4 → Int → Int) (b : Bool) (a T : Int) (h1 : inR a) (h2 : 2 ≤ T ∧ T ≤ 24) : CtI 1 0 yX8_modulo cX8_modulo 3 (some .int) [aI a, aI T] (M, R0 b) (PU (M, R0 b) (a % T)) := by
  refine CtI.mk (by decide +kernel) rfl (Nat.le_of_ble_eq_true rfl) (fun X K F hk => ?_)
  have h3 := Int.lt_tmod_of_pos a (show 0 < T by omega)
  have h4 := Int.tmod_lt_of_pos a (show 0 < T by omega)
  refine aw_iload1 (pc := 0) F dX8_modulo_0 ?_
  refine aw_iconst (pc := 1) F dX8_modulo_1 ?_
  refine aw_icmp_ge (tgt := 7) (pc := 2) F dX8_modulo_2 (by decide) (by first | assumption | (unfold inR; omega)) (by first | assumption | (unfold inR; omega)) (fun c2 => ?_) (fun c2 => ?_)
  · refine aw_iload0 (pc := 7) F dX8_modulo_7 ?_
    refine aw_iload1 (pc := 8) F dX8_modulo_8 ?_
    refine aw_irem (pc := 9) F dX8_modulo_9 (by first | assumption | (unfold inR; omega)) (by first | assumption | (unfold inR; omega)) (by omega) (by omega) ?_
    refine aw_istore2 (pc := 10) F dX8_modulo_10 rfl hk.symm ?_
    refine aw_iload2 (pc := 11) F dX8_modulo_11 ?_
    refine aw_if_ge (tgt := 21) (pc := 12) F dX8_modulo_12 (by decide) (by first | assumption | (unfold inR; omega)) (fun c12 => ?_) (fun c12 => ?_)
    · refine aw_iload2 (pc := 21) F dX8_modulo_21 ?_
      exact aw_iret (pc := 22) F dX8_modulo_22 rfl (Nat.zero_le _) ⟨by first | exact tmod_pos (by omega) (by assumption) | exact tmod_neg (by omega) (by assumption), rfl⟩
    · refine aw_iload2 (pc := 15) F dX8_modulo_15 ?_
      refine aw_iload1 (pc := 16) F dX8_modulo_16 ?_
      refine aw_iadd (pc := 17) F dX8_modulo_17 ?_
      refine aw_goto (tgt := 22) (pc := 18) F dX8_modulo_18 (by decide) ?_
      exact aw_iret (pc := 22) F dX8_modulo_22 rfl (Nat.zero_le _) ⟨by first | exact tmod_pos (by omega) (by assumption) | exact tmod_neg (by omega) (by assumption), rfl⟩
  · omega
theorem ct5_slackWith (M : Id4 → Int → Int) (b : Bool) (S : Int → Int) (p k d : Int) (hp : 0 ≤ p ∧ p < 13) (hR : plR M p S) (h : Ok S) (hk9 : 0 ≤ k ∧ k < S 20) (hd9 : -100000 ≤ d ∧ d ≤ 100000) : CtI 2 0 yX5_slackWith cX5_slackWith 3 (some .int) [aR (5, p, 0, 0), aI k, aI d] (M, R0 b) (PU (M, R0 b) (slBy S k d)) := by
  refine CtI.mk (by decide +kernel) rfl (Nat.le_of_ble_eq_true rfl) (fun X K F hk => ?_)
  obtain ⟨hT, hE, hN, hti, hsp⟩ := h
  obtain ⟨⟨e0, e1, e2⟩, e3, e4⟩ := hR
  have h1 := hsp k hk9.1 hk9.2
  unfold SpOk at h1
  obtain ⟨f0, f1, f2, f3, f4⟩ := e4 k hk9.1 hk9.2
  refine aw_iload2 (pc := 0) F dX5_slackWith_0 ?_
  refine aw_aload0 (pc := 1) F dX5_slackWith_1 ?_
  refine aw_getR (pc := 2) F dX5_slackWith_2 fl_5_31 rfl (by first | decide | (simp only [inB, cnt, rcnt]; omega)) rfl nz6 rfl ?_
  refine aw_iload1 (pc := 5) F dX5_slackWith_5 ?_
  refine aw_iald (pc := 6) F dX5_slackWith_6 rfl (by first | decide | (simp only [inB, cnt, rcnt]; omega)) (by omega) ?_
  refine aw_isub (pc := 7) F dX5_slackWith_7 ?_
  refine aw_aload0 (pc := 8) F dX5_slackWith_8 ?_
  refine aw_getI (pc := 9) F dX5_slackWith_9 fl_5_9 rfl (by first | decide | (simp only [inB, cnt, rcnt]; omega)) rfl nz0 ?_
  refine aw_pcallN2 (pc := 12) F dX5_slackWith_12 ml_5_50 (ct8_modulo _ _ _ _ (by unfold inR; omega) (by omega)) (Nat.le_of_ble_eq_true rfl) (by decide) (Nat.zero_le _) ?_
  exact aw_iret (pc := 15) F dX5_slackWith_15 rfl (Nat.zero_le _) ⟨by unfold slBy; rw [f2, e0], rfl⟩
theorem ct5_slackOf (M : Id4 → Int → Int) (b : Bool) (S : Int → Int) (p k : Int) (hp : 0 ≤ p ∧ p < 13) (hR : plR M p S) (h : Ok S) (hk9 : 0 ≤ k ∧ k < S 20) : CtI 3 0 yX5_slackOf cX5_slackOf 2 (some .int) [aR (5, p, 0, 0), aI k] (M, R0 b) (PU (M, R0 b) (slOf S k)) := by
  refine CtI.mk (by decide +kernel) rfl (Nat.le_of_ble_eq_true rfl) (fun X K F hk => ?_)
  have h0 := h
  have hR0 := hR
  obtain ⟨hT, hE, hN, hti, hsp⟩ := h
  obtain ⟨⟨e0, e1, e2⟩, e3, e4⟩ := hR
  have h1 := hsp k hk9.1 hk9.2
  unfold SpOk at h1
  obtain ⟨f0, f1, f2, f3, f4⟩ := e4 k hk9.1 hk9.2
  have h2 := hti _ h1.1.1 h1.1.2
  have h3 := hti _ h1.2.1.1 h1.2.1.2
  have g0 := e3 _ h1.1.1 h1.1.2
  have g1 := e3 _ h1.2.1.1 h1.2.1.2
  rw [← f0] at g0
  rw [← f1] at g1
  refine aw_aload0 (pc := 0) F dX5_slackOf_0 ?_
  refine aw_iload1 (pc := 1) F dX5_slackOf_1 ?_
  refine aw_aload0 (pc := 2) F dX5_slackOf_2 ?_
  refine aw_getR (pc := 3) F dX5_slackOf_3 fl_5_21 rfl (by first | decide | (simp only [inB, cnt, rcnt]; omega)) rfl nz3 rfl ?_
  refine aw_aload0 (pc := 6) F dX5_slackOf_6 ?_
  refine aw_getR (pc := 7) F dX5_slackOf_7 fl_5_28 rfl (by first | decide | (simp only [inB, cnt, rcnt]; omega)) rfl nz5 rfl ?_
  refine aw_iload1 (pc := 10) F dX5_slackOf_10 ?_
  refine aw_iald (pc := 11) F dX5_slackOf_11 rfl (by first | decide | (simp only [inB, cnt, rcnt]; omega)) (by omega) ?_
  refine aw_iald (pc := 12) F dX5_slackOf_12 rfl (by first | decide | (simp only [inB, cnt, rcnt]; omega)) (by omega) ?_
  refine aw_aload0 (pc := 13) F dX5_slackOf_13 ?_
  refine aw_getR (pc := 14) F dX5_slackOf_14 fl_5_21 rfl (by first | decide | (simp only [inB, cnt, rcnt]; omega)) rfl nz3 rfl ?_
  refine aw_aload0 (pc := 17) F dX5_slackOf_17 ?_
  refine aw_getR (pc := 18) F dX5_slackOf_18 fl_5_25 rfl (by first | decide | (simp only [inB, cnt, rcnt]; omega)) rfl nz4 rfl ?_
  refine aw_iload1 (pc := 21) F dX5_slackOf_21 ?_
  refine aw_iald (pc := 22) F dX5_slackOf_22 rfl (by first | decide | (simp only [inB, cnt, rcnt]; omega)) (by omega) ?_
  refine aw_iald (pc := 23) F dX5_slackOf_23 rfl (by first | decide | (simp only [inB, cnt, rcnt]; omega)) (by omega) ?_
  refine aw_isub (pc := 24) F dX5_slackOf_24 ?_
  refine aw_pcallV2 (pc := 25) F dX5_slackOf_25 ml_5_46 rfl (by first | decide | (simp only [inB, cnt, rcnt]; omega)) (ct5_slackWith _ _ S _ _ _ hp hR0 h0 hk9 (by rw [g0, g1, f0, f1]; omega)) (Nat.le_of_ble_eq_true rfl) (by decide) (Nat.zero_le _) ?_
  exact aw_iret (pc := 28) F dX5_slackOf_28 rfl (Nat.zero_le _) ⟨by unfold slOf; rw [g0, g1, f0, f1], rfl⟩
theorem ct5_keeps (M : Id4 → Int → Int) (b : Bool) (S : Int → Int) (p k : Int) (hp : 0 ≤ p ∧ p < 13) (hR : plR M p S) (h : Ok S) (hk9 : 0 ≤ k ∧ k < S 20) : CtI 4 0 yX5_keeps cX5_keeps 2 (some .boolean) [aR (5, p, 0, 0), aI k] (M, R0 b) (PU (M, R0 b) (b2i (kept S k))) := by
  refine CtI.mk (by decide +kernel) rfl (Nat.le_of_ble_eq_true rfl) (fun X K F hk => ?_)
  have h0 := h
  have hR0 := hR
  obtain ⟨hT, hE, hN, hti, hsp⟩ := h
  obtain ⟨⟨e0, e1, e2⟩, e3, e4⟩ := hR
  have h1 := hsp k hk9.1 hk9.2
  unfold SpOk at h1
  obtain ⟨f0, f1, f2, f3, f4⟩ := e4 k hk9.1 hk9.2
  have hs := slOf_bd h0 k
  refine aw_aload0 (pc := 0) F dX5_keeps_0 ?_
  refine aw_getR (pc := 1) F dX5_keeps_1 fl_5_31 rfl (by first | decide | (simp only [inB, cnt, rcnt]; omega)) rfl nz6 rfl ?_
  refine aw_iload1 (pc := 4) F dX5_keeps_4 ?_
  refine aw_iald (pc := 5) F dX5_keeps_5 rfl (by first | decide | (simp only [inB, cnt, rcnt]; omega)) (by omega) ?_
  refine aw_aload0 (pc := 6) F dX5_keeps_6 ?_
  refine aw_iload1 (pc := 7) F dX5_keeps_7 ?_
  refine aw_pcallV1 (pc := 8) F dX5_keeps_8 ml_5_53 rfl (by first | decide | (simp only [inB, cnt, rcnt]; omega)) (ct5_slackOf _ _ S _ _ hp hR0 h0 hk9) (Nat.le_of_ble_eq_true rfl) (by decide) (Nat.zero_le _) ?_
  refine aw_iadd (pc := 11) F dX5_keeps_11 ?_
  refine aw_aload0 (pc := 12) F dX5_keeps_12 ?_
  refine aw_getR (pc := 13) F dX5_keeps_13 fl_5_34 rfl (by first | decide | (simp only [inB, cnt, rcnt]; omega)) rfl nz7 rfl ?_
  refine aw_iload1 (pc := 16) F dX5_keeps_16 ?_
  refine aw_iald (pc := 17) F dX5_keeps_17 rfl (by first | decide | (simp only [inB, cnt, rcnt]; omega)) (by omega) ?_
  refine aw_icmp_gt (tgt := 25) (pc := 18) F dX5_keeps_18 (by decide) (by unfold inR; omega) (by unfold inR; omega) (fun c18 => ?_) (fun c18 => ?_)
  · refine aw_iconst (pc := 25) F dX5_keeps_25 ?_
    exact aw_iret (pc := 26) F dX5_keeps_26 (nar_bool (by first | exact b2i_01 | decide)) (Nat.zero_le _) ⟨by first | exact (b2i_pos (show slOf S k ≤ S (21 + 5 * k + 3) - S (21 + 5 * k + 2) by omega)).symm | exact (b2i_neg (show ¬ slOf S k ≤ S (21 + 5 * k + 3) - S (21 + 5 * k + 2) by omega)).symm, rfl⟩
  · refine aw_iconst (pc := 21) F dX5_keeps_21 ?_
    refine aw_goto (tgt := 26) (pc := 22) F dX5_keeps_22 (by decide) ?_
    exact aw_iret (pc := 26) F dX5_keeps_26 (nar_bool (by first | exact b2i_01 | decide)) (Nat.zero_le _) ⟨by first | exact (b2i_pos (show slOf S k ≤ S (21 + 5 * k + 3) - S (21 + 5 * k + 2) by omega)).symm | exact (b2i_neg (show ¬ slOf S k ≤ S (21 + 5 * k + 3) - S (21 + 5 * k + 2) by omega)).symm, rfl⟩
theorem ct5_countBroken (M : Id4 → Int → Int) (b : Bool) (S : Int → Int) (p : Int) (hp : 0 ≤ p ∧ p < 13) (hR : plR M p S) (h : Ok S) : CtI 5 0 yX5_countBroken cX5_countBroken 3 (some .int) [aR (5, p, 0, 0)] (M, R0 b) (PU (M, R0 b) (brk S)) := by
  refine CtI.mk (by decide +kernel) rfl (Nat.le_of_ble_eq_true rfl) (fun X K F hk => ?_)
  have hN := h.2.2.1
  have e2 := hR.1.2.2
  have key : ∀ (j i : Nat), (i : Int) + j = S 20 → AW X K 4 [aR (5, p, 0, 0), aI (sumI (fun k => if kept S k then 0 else 1) i), aI i] [] (M, R0 b) 0 (EI X K 0 (PU (M, R0 b) (brk S))) := by
    intro j
    induction j with
    | zero =>
      intro i hi
      refine aw_iload2 (pc := 4) F dX5_countBroken_4 ?_
      refine aw_aload0 (pc := 5) F dX5_countBroken_5 ?_
      refine aw_getI (pc := 6) F dX5_countBroken_6 fl_5_18 rfl (by first | decide | (simp only [inB, cnt, rcnt]; omega)) rfl nz2 ?_
      refine aw_icmp_ge (tgt := 29) (pc := 9) F dX5_countBroken_9 (by decide) (by unfold inR; omega) (by unfold inR; omega) (fun c9 => ?_) (fun c9 => ?_)
      · refine aw_iload1 (pc := 29) F dX5_countBroken_29 ?_
        exact aw_iret (pc := 30) F dX5_countBroken_30 rfl (Nat.zero_le _) ⟨by unfold brk; rw [show (S 20).toNat = i by omega], rfl⟩
      · omega
    | succ j ih =>
      intro i hi
      have e : sumI (fun k => if kept S k then 0 else 1) (i + 1) = sumI (fun k => if kept S k then 0 else 1) i + (if kept S i then 0 else 1) := rfl
      have g := ih (i + 1) (by omega)
      refine aw_iload2 (pc := 4) F dX5_countBroken_4 ?_
      refine aw_aload0 (pc := 5) F dX5_countBroken_5 ?_
      refine aw_getI (pc := 6) F dX5_countBroken_6 fl_5_18 rfl (by first | decide | (simp only [inB, cnt, rcnt]; omega)) rfl nz2 ?_
      refine aw_icmp_ge (tgt := 29) (pc := 9) F dX5_countBroken_9 (by decide) (by unfold inR; omega) (by unfold inR; omega) (fun c9 => ?_) (fun c9 => ?_)
      · omega
      · refine aw_aload0 (pc := 12) F dX5_countBroken_12 ?_
        refine aw_iload2 (pc := 13) F dX5_countBroken_13 ?_
        refine aw_pcallV1 (pc := 14) F dX5_countBroken_14 ml_5_57 rfl (by first | decide | (simp only [inB, cnt, rcnt]; omega)) (ct5_keeps _ _ S _ _ hp hR h (by omega)) (Nat.le_of_ble_eq_true rfl) (by decide) (Nat.zero_le _) ?_
        refine aw_ifb_ne (tgt := 23) (pc := 17) F dX5_countBroken_17 (by decide) (fun c17 => ?_) (fun c17 => ?_)
        · refine aw_iinc2 (pc := 23) F dX5_countBroken_23 rfl hk.symm ?_
          refine aw_goto (tgt := 4) (pc := 26) F dX5_countBroken_26 (by decide) ?_
          first | (rw [e, if_pos (by assumption), Int.add_zero] at g; exact g) | (rw [e, if_neg (by assumption)] at g; exact g)
        · refine aw_iinc1 (pc := 20) F dX5_countBroken_20 rfl hk.symm ?_
          refine aw_iinc2 (pc := 23) F dX5_countBroken_23 rfl hk.symm ?_
          refine aw_goto (tgt := 4) (pc := 26) F dX5_countBroken_26 (by decide) ?_
          first | (rw [e, if_pos (by assumption), Int.add_zero] at g; exact g) | (rw [e, if_neg (by assumption)] at g; exact g)
  refine aw_iconst (pc := 0) F dX5_countBroken_0 ?_
  refine aw_istore1 (pc := 1) F dX5_countBroken_1 rfl hk.symm ?_
  refine aw_iconst (pc := 2) F dX5_countBroken_2 ?_
  refine aw_istore2 (pc := 3) F dX5_countBroken_3 rfl hk.symm ?_
  exact key (S 20).toNat 0 (by omega)
theorem ct5_sumCosts (M : Id4 → Int → Int) (b : Bool) (S : Int → Int) (p : Int) (hp : 0 ≤ p ∧ p < 13) (hR : plR M p S) (h : Ok S) : CtI 4 0 yX5_sumCosts cX5_sumCosts 3 (some .int) [aR (5, p, 0, 0)] (M, R0 b) (PU (M, R0 b) (cst S)) := by
  refine CtI.mk (by decide +kernel) rfl (Nat.le_of_ble_eq_true rfl) (fun X K F hk => ?_)
  have hN := h.2.2.1
  have e2 := hR.1.2.2
  have key : ∀ (j i : Nat), (i : Int) + j = S 20 → AW X K 4 [aR (5, p, 0, 0), aI (sumI (fun k => S (21 + 5 * k + 4) * slOf S k) i), aI i] [] (M, R0 b) 0 (EI X K 0 (PU (M, R0 b) (cst S))) := by
    intro j
    induction j with
    | zero =>
      intro i hi
      refine aw_iload2 (pc := 4) F dX5_sumCosts_4 ?_
      refine aw_aload0 (pc := 5) F dX5_sumCosts_5 ?_
      refine aw_getI (pc := 6) F dX5_sumCosts_6 fl_5_18 rfl (by first | decide | (simp only [inB, cnt, rcnt]; omega)) rfl nz2 ?_
      refine aw_icmp_ge (tgt := 33) (pc := 9) F dX5_sumCosts_9 (by decide) (by unfold inR; omega) (by unfold inR; omega) (fun c9 => ?_) (fun c9 => ?_)
      · refine aw_iload1 (pc := 33) F dX5_sumCosts_33 ?_
        exact aw_iret (pc := 34) F dX5_sumCosts_34 rfl (Nat.zero_le _) ⟨by unfold cst; rw [show (S 20).toNat = i by omega], rfl⟩
      · omega
    | succ j ih =>
      intro i hi
      have g := ih (i + 1) (by omega)
      have f4 := (hR.2.2 i (by omega) (by omega)).2.2.2.2
      refine aw_iload2 (pc := 4) F dX5_sumCosts_4 ?_
      refine aw_aload0 (pc := 5) F dX5_sumCosts_5 ?_
      refine aw_getI (pc := 6) F dX5_sumCosts_6 fl_5_18 rfl (by first | decide | (simp only [inB, cnt, rcnt]; omega)) rfl nz2 ?_
      refine aw_icmp_ge (tgt := 33) (pc := 9) F dX5_sumCosts_9 (by decide) (by unfold inR; omega) (by unfold inR; omega) (fun c9 => ?_) (fun c9 => ?_)
      · omega
      · refine aw_iload1 (pc := 12) F dX5_sumCosts_12 ?_
        refine aw_aload0 (pc := 13) F dX5_sumCosts_13 ?_
        refine aw_getR (pc := 14) F dX5_sumCosts_14 fl_5_37 rfl (by first | decide | (simp only [inB, cnt, rcnt]; omega)) rfl nz8 rfl ?_
        refine aw_iload2 (pc := 17) F dX5_sumCosts_17 ?_
        refine aw_iald (pc := 18) F dX5_sumCosts_18 rfl (by first | decide | (simp only [inB, cnt, rcnt]; omega)) (by omega) ?_
        refine aw_aload0 (pc := 19) F dX5_sumCosts_19 ?_
        refine aw_iload2 (pc := 20) F dX5_sumCosts_20 ?_
        refine aw_pcallV1 (pc := 21) F dX5_sumCosts_21 ml_5_53 rfl (by first | decide | (simp only [inB, cnt, rcnt]; omega)) (ct5_slackOf _ _ S _ _ hp hR h (by omega)) (Nat.le_of_ble_eq_true rfl) (by decide) (Nat.zero_le _) ?_
        refine aw_imul (pc := 24) F dX5_sumCosts_24 ?_
        refine aw_iadd (pc := 25) F dX5_sumCosts_25 ?_
        refine aw_istore1 (pc := 26) F dX5_sumCosts_26 rfl hk.symm ?_
        refine aw_iinc2 (pc := 27) F dX5_sumCosts_27 rfl hk.symm ?_
        refine aw_goto (tgt := 4) (pc := 30) F dX5_sumCosts_30 (by decide) ?_
        rw [f4]
        exact g
  refine aw_iconst (pc := 0) F dX5_sumCosts_0 ?_
  refine aw_istore1 (pc := 1) F dX5_sumCosts_1 rfl hk.symm ?_
  refine aw_iconst (pc := 2) F dX5_sumCosts_2 ?_
  refine aw_istore2 (pc := 3) F dX5_sumCosts_3 rfl hk.symm ?_
  exact key (S 20).toNat 0 (by omega)
theorem ct5_sumWeights (M : Id4 → Int → Int) (b : Bool) (S : Int → Int) (p : Int) (hp : 0 ≤ p ∧ p < 13) (hR : plR M p S) (h : Ok S) : CtI 1 0 yX5_sumWeights cX5_sumWeights 3 (some .int) [aR (5, p, 0, 0)] (M, R0 b) (PU (M, R0 b) (wts S)) := by
  refine CtI.mk (by decide +kernel) rfl (Nat.le_of_ble_eq_true rfl) (fun X K F hk => ?_)
  have hN := h.2.2.1
  have e2 := hR.1.2.2
  have key : ∀ (j i : Nat), (i : Int) + j = S 20 → AW X K 4 [aR (5, p, 0, 0), aI (sumI (fun k => S (21 + 5 * k + 4)) i), aI i] [] (M, R0 b) 0 (EI X K 0 (PU (M, R0 b) (wts S))) := by
    intro j
    induction j with
    | zero =>
      intro i hi
      refine aw_iload2 (pc := 4) F dX5_sumWeights_4 ?_
      refine aw_aload0 (pc := 5) F dX5_sumWeights_5 ?_
      refine aw_getI (pc := 6) F dX5_sumWeights_6 fl_5_18 rfl (by first | decide | (simp only [inB, cnt, rcnt]; omega)) rfl nz2 ?_
      refine aw_icmp_ge (tgt := 27) (pc := 9) F dX5_sumWeights_9 (by decide) (by unfold inR; omega) (by unfold inR; omega) (fun c9 => ?_) (fun c9 => ?_)
      · refine aw_iload1 (pc := 27) F dX5_sumWeights_27 ?_
        exact aw_iret (pc := 28) F dX5_sumWeights_28 rfl (Nat.zero_le _) ⟨by unfold wts; rw [show (S 20).toNat = i by omega], rfl⟩
      · omega
    | succ j ih =>
      intro i hi
      have g := ih (i + 1) (by omega)
      have f4 := (hR.2.2 i (by omega) (by omega)).2.2.2.2
      refine aw_iload2 (pc := 4) F dX5_sumWeights_4 ?_
      refine aw_aload0 (pc := 5) F dX5_sumWeights_5 ?_
      refine aw_getI (pc := 6) F dX5_sumWeights_6 fl_5_18 rfl (by first | decide | (simp only [inB, cnt, rcnt]; omega)) rfl nz2 ?_
      refine aw_icmp_ge (tgt := 27) (pc := 9) F dX5_sumWeights_9 (by decide) (by unfold inR; omega) (by unfold inR; omega) (fun c9 => ?_) (fun c9 => ?_)
      · omega
      · refine aw_iload1 (pc := 12) F dX5_sumWeights_12 ?_
        refine aw_aload0 (pc := 13) F dX5_sumWeights_13 ?_
        refine aw_getR (pc := 14) F dX5_sumWeights_14 fl_5_37 rfl (by first | decide | (simp only [inB, cnt, rcnt]; omega)) rfl nz8 rfl ?_
        refine aw_iload2 (pc := 17) F dX5_sumWeights_17 ?_
        refine aw_iald (pc := 18) F dX5_sumWeights_18 rfl (by first | decide | (simp only [inB, cnt, rcnt]; omega)) (by omega) ?_
        refine aw_iadd (pc := 19) F dX5_sumWeights_19 ?_
        refine aw_istore1 (pc := 20) F dX5_sumWeights_20 rfl hk.symm ?_
        refine aw_iinc2 (pc := 21) F dX5_sumWeights_21 rfl hk.symm ?_
        refine aw_goto (tgt := 4) (pc := 24) F dX5_sumWeights_24 (by decide) ?_
        rw [f4]
        exact g
  refine aw_iconst (pc := 0) F dX5_sumWeights_0 ?_
  refine aw_istore1 (pc := 1) F dX5_sumWeights_1 rfl hk.symm ?_
  refine aw_iconst (pc := 2) F dX5_sumWeights_2 ?_
  refine aw_istore2 (pc := 3) F dX5_sumWeights_3 rfl hk.symm ?_
  exact key (S 20).toNat 0 (by omega)
