/-! 96: the mean slack, both sides -/
def mnS (S : Int → Int) : UInt32 := if 0 < wts S then meanF (cst S) (wts S) else FP.fconst0
theorem ct8_meanSlack (M : Id4 → Int → Int) (b : Bool) (S : Int → Int) (hR : plR M 0 S) (h : Ok S) : CtF 5 0 yX8_meanSlack cX8_meanSlack 2 (some .float) [aR (8, 0, 0, 0)] (M, R0 b) (fun v σ' => v = mnS S ∧ σ' = (M, R0 b)) := by
  refine CtF.mk (by decide +kernel) rfl (Nat.le_of_ble_eq_true rfl) (fun X K F hk => ?_)
  have w1 := wts_bd h
  have w2 := cst_bd h
  refine aw_aload0 (pc := 0) F dX8_meanSlack_0 ?_
  refine aw_getR (pc := 1) F dX8_meanSlack_1 fl_8_34 rfl (by first | decide | (simp only [inB, cnt, rcnt]; omega)) rfl nz4 rfl ?_
  refine aw_pcallV0 (pc := 4) F dX8_meanSlack_4 ml_8_171 rfl (by first | decide | (simp only [inB, cnt, rcnt]; omega)) (ct5_sumWeights _ _ S _ (by decide) hR h) (Nat.le_of_ble_eq_true rfl) (by decide) (Nat.zero_le _) ?_
  refine aw_istore1 (pc := 7) F dX8_meanSlack_7 rfl hk.symm ?_
  refine aw_iload1 (pc := 8) F dX8_meanSlack_8 ?_
  refine aw_if_gt (tgt := 16) (pc := 9) F dX8_meanSlack_9 (by decide) (by unfold inR; omega) (fun c9 => ?_) (fun c9 => ?_)
  · refine aw_aload0 (pc := 16) F dX8_meanSlack_16 ?_
    refine aw_getR (pc := 17) F dX8_meanSlack_17 fl_8_34 rfl (by first | decide | (simp only [inB, cnt, rcnt]; omega)) rfl nz4 rfl ?_
    refine aw_pcallV0 (pc := 20) F dX8_meanSlack_20 ml_8_168 rfl (by first | decide | (simp only [inB, cnt, rcnt]; omega)) (ct5_sumCosts _ _ S _ (by decide) hR h) (Nat.le_of_ble_eq_true rfl) (by decide) (Nat.zero_le _) ?_
    refine aw_i2f (pc := 23) F dX8_meanSlack_23 ?_
    refine aw_iload1 (pc := 24) F dX8_meanSlack_24 ?_
    refine aw_i2f (pc := 25) F dX8_meanSlack_25 ?_
    refine aw_fdivM (pc := 26) F dX8_meanSlack_26 (by omega) (by omega) ?_
    exact aw_fret (pc := 27) F dX8_meanSlack_27 (Nat.zero_le _) ⟨by unfold mnS; first | exact (if_pos (by omega)).symm | exact (if_neg (by omega)).symm, rfl⟩
  · refine aw_fconst0 (pc := 12) F dX8_meanSlack_12 ?_
    refine aw_goto (tgt := 27) (pc := 13) F dX8_meanSlack_13 (by decide) ?_
    exact aw_fret (pc := 27) F dX8_meanSlack_27 (Nat.zero_le _) ⟨by unfold mnS; first | exact (if_pos (by omega)).symm | exact (if_neg (by omega)).symm, rfl⟩