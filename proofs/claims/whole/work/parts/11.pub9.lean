/-! 11: the reference's plain questions -/
theorem ct9_thrown (M : Id4 → Int → Int) (b : Bool) : CtI 1 0 yX9_thrown cX9_thrown 1 (some .int) [aR (9, 0, 0, 0)] (M, R0 b) (PU (M, R0 b) (M (9, 0, 0, 0) 4)) := by
  refine CtI.mk (by decide +kernel) rfl (Nat.le_of_ble_eq_true rfl) (fun X K F hk => ?_)
  refine aw_aload0 (pc := 0) F dX9_thrown_0 ?_
  refine aw_getI (pc := 1) F dX9_thrown_1 fl_9_54 rfl (by first | decide | (simp only [inB, cnt, rcnt]; omega)) rfl nz4 ?_
  exact aw_iret (pc := 4) F dX9_thrown_4 rfl (Nat.zero_le _) ⟨rfl, rfl⟩
theorem cq9_period (M : Id4 → Int → Int) (b : Bool) : CtI 1 0 yX9_period cX9_period 1 (some .int) [aR (9, 0, 0, 0)] (M, R0 b) (QP M b 0 (M (9, 0, 1, 0) 0)) := by
  refine CtI.mk (by decide +kernel) rfl (Nat.le_of_ble_eq_true rfl) (fun X K F hk => ?_)
  refine aw_aload0 (pc := 0) F dX9_period_0 ?_
  refine aw_iconst (pc := 1) F dX9_period_1 ?_
  refine aw_putI (pc := 2) F dX9_period_2 fl_9_54 fpi_9_4 rfl (by first | decide | (simp only [inB, cnt, rcnt]; omega)) rfl nz4 ?_
  refine aw_aload0 (pc := 5) F dX9_period_5 ?_
  refine aw_getR (pc := 6) F dX9_period_6 fl_9_7 rfl (by first | decide | (simp only [inB, cnt, rcnt]; omega)) rfl nz0 rfl ?_
  refine aw_iconst (pc := 9) F dX9_period_9 ?_
  refine aw_iald (pc := 10) F dX9_period_10 rfl (by first | decide | (simp only [inB, cnt, rcnt]; omega)) (by omega) ?_
  exact aw_iret (pc := 11) F dX9_period_11 rfl (Nat.zero_le _) ⟨_, rfl, same9_thr, upd_same, fun _ => rfl⟩
theorem cq9_events (M : Id4 → Int → Int) (b : Bool) : CtI 1 0 yX9_events cX9_events 1 (some .int) [aR (9, 0, 0, 0)] (M, R0 b) (QP M b 0 (M (9, 0, 1, 0) 1)) := by
  refine CtI.mk (by decide +kernel) rfl (Nat.le_of_ble_eq_true rfl) (fun X K F hk => ?_)
  refine aw_aload0 (pc := 0) F dX9_events_0 ?_
  refine aw_iconst (pc := 1) F dX9_events_1 ?_
  refine aw_putI (pc := 2) F dX9_events_2 fl_9_54 fpi_9_4 rfl (by first | decide | (simp only [inB, cnt, rcnt]; omega)) rfl nz4 ?_
  refine aw_aload0 (pc := 5) F dX9_events_5 ?_
  refine aw_getR (pc := 6) F dX9_events_6 fl_9_7 rfl (by first | decide | (simp only [inB, cnt, rcnt]; omega)) rfl nz0 rfl ?_
  refine aw_iconst (pc := 9) F dX9_events_9 ?_
  refine aw_iald (pc := 10) F dX9_events_10 rfl (by first | decide | (simp only [inB, cnt, rcnt]; omega)) (by omega) ?_
  exact aw_iret (pc := 11) F dX9_events_11 rfl (Nat.zero_le _) ⟨_, rfl, same9_thr, upd_same, fun _ => rfl⟩
theorem cq9_spans (M : Id4 → Int → Int) (b : Bool) : CtI 1 0 yX9_spans cX9_spans 1 (some .int) [aR (9, 0, 0, 0)] (M, R0 b) (QP M b 0 (M (9, 0, 1, 0) 20)) := by
  refine CtI.mk (by decide +kernel) rfl (Nat.le_of_ble_eq_true rfl) (fun X K F hk => ?_)
  refine aw_aload0 (pc := 0) F dX9_spans_0 ?_
  refine aw_iconst (pc := 1) F dX9_spans_1 ?_
  refine aw_putI (pc := 2) F dX9_spans_2 fl_9_54 fpi_9_4 rfl (by first | decide | (simp only [inB, cnt, rcnt]; omega)) rfl nz4 ?_
  refine aw_aload0 (pc := 5) F dX9_spans_5 ?_
  refine aw_getR (pc := 6) F dX9_spans_6 fl_9_7 rfl (by first | decide | (simp only [inB, cnt, rcnt]; omega)) rfl nz0 rfl ?_
  refine aw_bipush (pc := 9) F dX9_spans_9 (by decide) ?_
  refine aw_iald (pc := 11) F dX9_spans_11 rfl (by first | decide | (simp only [inB, cnt, rcnt]; omega)) (by omega) ?_
  exact aw_iret (pc := 12) F dX9_spans_12 rfl (Nat.zero_le _) ⟨_, rfl, same9_thr, upd_same, fun _ => rfl⟩
theorem cq9_errorKind (M : Id4 → Int → Int) (b : Bool) : CtI 1 0 yX9_errorKind cX9_errorKind 1 (some .int) [aR (9, 0, 0, 0)] (M, R0 b) (QP M b 0 (M (9, 0, 0, 0) 7)) := by
  refine CtI.mk (by decide +kernel) rfl (Nat.le_of_ble_eq_true rfl) (fun X K F hk => ?_)
  refine aw_aload0 (pc := 0) F dX9_errorKind_0 ?_
  refine aw_iconst (pc := 1) F dX9_errorKind_1 ?_
  refine aw_putI (pc := 2) F dX9_errorKind_2 fl_9_54 fpi_9_4 rfl (by first | decide | (simp only [inB, cnt, rcnt]; omega)) rfl nz4 ?_
  refine aw_aload0 (pc := 5) F dX9_errorKind_5 ?_
  refine aw_getI (pc := 6) F dX9_errorKind_6 fl_9_185 rfl (by first | decide | (simp only [inB, cnt, rcnt]; omega)) rfl nz7 ?_
  exact aw_iret (pc := 9) F dX9_errorKind_9 rfl (Nat.zero_le _) ⟨_, rfl, same9_thr, upd_same, fun _ => rfl⟩
theorem cq9_errorPosition (M : Id4 → Int → Int) (b : Bool) : CtI 1 0 yX9_errorPosition cX9_errorPosition 1 (some .int) [aR (9, 0, 0, 0)] (M, R0 b) (QP M b 0 (M (9, 0, 0, 0) 8)) := by
  refine CtI.mk (by decide +kernel) rfl (Nat.le_of_ble_eq_true rfl) (fun X K F hk => ?_)
  refine aw_aload0 (pc := 0) F dX9_errorPosition_0 ?_
  refine aw_iconst (pc := 1) F dX9_errorPosition_1 ?_
  refine aw_putI (pc := 2) F dX9_errorPosition_2 fl_9_54 fpi_9_4 rfl (by first | decide | (simp only [inB, cnt, rcnt]; omega)) rfl nz4 ?_
  refine aw_aload0 (pc := 5) F dX9_errorPosition_5 ?_
  refine aw_getI (pc := 6) F dX9_errorPosition_6 fl_9_22 rfl (by first | decide | (simp only [inB, cnt, rcnt]; omega)) rfl nz8 ?_
  exact aw_iret (pc := 9) F dX9_errorPosition_9 rfl (Nat.zero_le _) ⟨_, rfl, same9_thr, upd_same, fun _ => rfl⟩
theorem cq9_time (M : Id4 → Int → Int) (b : Bool) (e : Int) (h1 : inR e) (h : Ok (M (9, 0, 1, 0))) : CtI 3 0 yX9_time cX9_time 2 (some .int) [aR (9, 0, 0, 0), aI e] (M, R0 b) (QP M b (1 - b2i (0 ≤ e ∧ e ≤ M (9, 0, 1, 0) 1 - 1)) (M (9, 0, 1, 0) (14 + e))) := by
  refine CtI.mk (by decide +kernel) rfl (Nat.le_of_ble_eq_true rfl) (fun X K F hk => ?_)
  have hE := h.2.1
  refine aw_aload0 (pc := 0) F dX9_time_0 ?_
  refine aw_aload0 (pc := 1) F dX9_time_1 ?_
  refine aw_iload1 (pc := 2) F dX9_time_2 ?_
  refine aw_pcallV1 (pc := 3) F dX9_time_3 ml_9_191 rfl (by first | decide | (simp only [inB, cnt, rcnt]; omega)) (ct9_isEvent _ _ _ h1 h.2.1) (Nat.le_of_ble_eq_true rfl) (by decide) (Nat.zero_le _) ?_
  refine aw_callVI1 (pc := 6) F dX9_time_6 ml_9_176 rfl (by first | decide | (simp only [inB, cnt, rcnt]; omega)) (ct9_good1 _ _ _ (by first | exact b2i_01 | decide)) (Nat.le_of_ble_eq_true rfl) (by decide) (Nat.zero_le _) (fun v9 σ9 h9_6 => ?_)
  obtain ⟨rfl, rfl⟩ := h9_6
  refine aw_ifb_eq (tgt := 24) (pc := 9) F dX9_time_9 (by decide) (fun c9 => ?_) (fun c9 => ?_)
  · refine aw_iconst (pc := 24) F dX9_time_24 ?_
    exact aw_iret (pc := 25) F dX9_time_25 rfl (Nat.zero_le _) (qp1 (fun z => by first | rfl | exact absurd z (by assumption)))
  · refine aw_aload0 (pc := 12) F dX9_time_12 ?_
    refine aw_getR (pc := 13) F dX9_time_13 fl_9_7 rfl (by first | decide | (simp only [inB, cnt, rcnt]; omega)) rfl nz0 rfl ?_
    refine aw_bipush (pc := 16) F dX9_time_16 (by decide) ?_
    refine aw_iload1 (pc := 18) F dX9_time_18 ?_
    refine aw_iadd (pc := 19) F dX9_time_19 ?_
    refine aw_iald (pc := 20) F dX9_time_20 rfl (by first | decide | (simp only [inB, cnt, rcnt]; omega)) (by omega) ?_
    refine aw_goto (tgt := 25) (pc := 21) F dX9_time_21 (by decide) ?_
    exact aw_iret (pc := 25) F dX9_time_25 rfl (Nat.zero_le _) (qp1 (fun z => by first | rfl | exact absurd z (by assumption)))
theorem cq9_span (M : Id4 → Int → Int) (b : Bool) (e w : Int) (h1 : inR e) (h2 : inR w) (h : Ok (M (9, 0, 1, 0))) : CtI 3 0 yX9_span cX9_span 3 (some .int) [aR (9, 0, 0, 0), aI e, aI w] (M, R0 b) (QP M b (t2 (0 ≤ e ∧ e ≤ M (9, 0, 1, 0) 20 - 1) (0 ≤ w ∧ w ≤ 4)) (M (9, 0, 1, 0) (21 + 5 * e + w))) := by
  refine CtI.mk (by decide +kernel) rfl (Nat.le_of_ble_eq_true rfl) (fun X K F hk => ?_)
  have hE := h.2.2.1
  refine aw_aload0 (pc := 0) F dX9_span_0 ?_
  refine aw_aload0 (pc := 1) F dX9_span_1 ?_
  refine aw_iload1 (pc := 2) F dX9_span_2 ?_
  refine aw_pcallV1 (pc := 3) F dX9_span_3 ml_9_194 rfl (by first | decide | (simp only [inB, cnt, rcnt]; omega)) (ct9_isSpan _ _ _ h1 h.2.2.1) (Nat.le_of_ble_eq_true rfl) (by decide) (Nat.zero_le _) ?_
  refine aw_iload2 (pc := 6) F dX9_span_6 ?_
  refine aw_iconst (pc := 7) F dX9_span_7 ?_
  refine aw_iconst (pc := 8) F dX9_span_8 ?_
  refine aw_pcallS3 (pc := 9) F dX9_span_9 ml_9_121 (ct9_isIn _ _ _ _ _ (by first | assumption | (unfold inR; omega)) (by first | assumption | (unfold inR; omega)) (by first | assumption | (unfold inR; omega))) (Nat.le_of_ble_eq_true rfl) (by decide) (Nat.zero_le _) ?_
  refine aw_callVI2 (pc := 12) F dX9_span_12 ml_9_197 rfl (by first | decide | (simp only [inB, cnt, rcnt]; omega)) (ct9_good2 _ _ _ _ (by first | exact b2i_01 | decide) (by first | exact b2i_01 | decide)) (Nat.le_of_ble_eq_true rfl) (by decide) (Nat.zero_le _) (fun v9 σ9 h9_12 => ?_)
  obtain ⟨rfl, rfl⟩ := h9_12
  refine aw_ifb_eq (tgt := 27) (pc := 15) F dX9_span_15 (by decide) (fun c15 => ?_) (fun c15 => ?_)
  · exact aw_iconst (pc := 27) F dX9_span_27 (aw_iret F dX9_span_28 rfl (Nat.zero_le _) (qp2 (fun z1 z2 => absurd ⟨b2i_pos z1, b2i_pos z2⟩ c15)))
  · rw [b2i_1, b2i_1] at c15
    refine aw_aload0 (pc := 18) F dX9_span_18 ?_
    refine aw_iload1 (pc := 19) F dX9_span_19 ?_
    refine aw_iload2 (pc := 20) F dX9_span_20 ?_
    refine aw_pcallV2 (pc := 21) F dX9_span_21 ml_9_200 rfl (by first | decide | (simp only [inB, cnt, rcnt]; omega)) (ct9_of _ _ _ _ (by omega) (by omega)) (Nat.le_of_ble_eq_true rfl) (by decide) (Nat.zero_le _) ?_
    refine aw_goto (tgt := 28) (pc := 24) F dX9_span_24 (by decide) ?_
    exact aw_iret (pc := 28) F dX9_span_28 rfl (Nat.zero_le _) (qp2 (fun _ _ => rfl))
theorem cq9_duration (M : Id4 → Int → Int) (b : Bool) (e : Int) (h1 : inR e) (h : Ok (M (9, 0, 1, 0))) : CtI 6 0 yX9_duration cX9_duration 2 (some .int) [aR (9, 0, 0, 0), aI e] (M, R0 b) (QP M b (1 - b2i (0 ≤ e ∧ e ≤ M (9, 0, 1, 0) 20 - 1)) (M (9, 0, 1, 0) (21 + 5 * e + 2) + slOf (M (9, 0, 1, 0)) e)) := by
  refine CtI.mk (by decide +kernel) rfl (Nat.le_of_ble_eq_true rfl) (fun X K F hk => ?_)
  refine aw_aload0 (pc := 0) F dX9_duration_0 ?_
  refine aw_aload0 (pc := 1) F dX9_duration_1 ?_
  refine aw_iload1 (pc := 2) F dX9_duration_2 ?_
  refine aw_pcallV1 (pc := 3) F dX9_duration_3 ml_9_194 rfl (by first | decide | (simp only [inB, cnt, rcnt]; omega)) (ct9_isSpan _ _ _ h1 h.2.2.1) (Nat.le_of_ble_eq_true rfl) (by decide) (Nat.zero_le _) ?_
  refine aw_callVI1 (pc := 6) F dX9_duration_6 ml_9_176 rfl (by first | decide | (simp only [inB, cnt, rcnt]; omega)) (ct9_good1 _ _ _ (by first | exact b2i_01 | decide)) (Nat.le_of_ble_eq_true rfl) (by decide) (Nat.zero_le _) (fun v9 σ9 h9_6 => ?_)
  obtain ⟨rfl, rfl⟩ := h9_6
  refine aw_ifb_eq (tgt := 20) (pc := 9) F dX9_duration_9 (by decide) (fun c9 => ?_) (fun c9 => ?_)
  · refine aw_iconst (pc := 20) F dX9_duration_20 ?_
    exact aw_iret (pc := 21) F dX9_duration_21 rfl (Nat.zero_le _) (qp1 (fun z => by first | (rw [thr_s]; done) | (rw [thr_s]; rfl) | exact absurd z (by assumption)))
  · refine aw_aload0 (pc := 12) F dX9_duration_12 ?_
    refine aw_iload1 (pc := 13) F dX9_duration_13 ?_
    refine aw_pcallV1 (pc := 14) F dX9_duration_14 ml_9_212 rfl (by first | decide | (simp only [inB, cnt, rcnt]; omega)) (ct9_durationOf _ _ _ (by show 0 ≤ e ∧ e < M (9, 0, 1, 0) 20; omega) (by rw [thr_s]; exact h)) (Nat.le_of_ble_eq_true rfl) (by decide) (Nat.zero_le _) ?_
    refine aw_goto (tgt := 21) (pc := 17) F dX9_duration_17 (by decide) ?_
    exact aw_iret (pc := 21) F dX9_duration_21 rfl (Nat.zero_le _) (qp1 (fun z => by first | (rw [thr_s]; done) | (rw [thr_s]; rfl) | exact absurd z (by assumption)))
theorem cq9_slack (M : Id4 → Int → Int) (b : Bool) (e : Int) (h1 : inR e) (h : Ok (M (9, 0, 1, 0))) : CtI 5 0 yX9_slack cX9_slack 2 (some .int) [aR (9, 0, 0, 0), aI e] (M, R0 b) (QP M b (1 - b2i (0 ≤ e ∧ e ≤ M (9, 0, 1, 0) 20 - 1)) (slOf (M (9, 0, 1, 0)) e)) := by
  refine CtI.mk (by decide +kernel) rfl (Nat.le_of_ble_eq_true rfl) (fun X K F hk => ?_)
  refine aw_aload0 (pc := 0) F dX9_slack_0 ?_
  refine aw_aload0 (pc := 1) F dX9_slack_1 ?_
  refine aw_iload1 (pc := 2) F dX9_slack_2 ?_
  refine aw_pcallV1 (pc := 3) F dX9_slack_3 ml_9_194 rfl (by first | decide | (simp only [inB, cnt, rcnt]; omega)) (ct9_isSpan _ _ _ h1 h.2.2.1) (Nat.le_of_ble_eq_true rfl) (by decide) (Nat.zero_le _) ?_
  refine aw_callVI1 (pc := 6) F dX9_slack_6 ml_9_176 rfl (by first | decide | (simp only [inB, cnt, rcnt]; omega)) (ct9_good1 _ _ _ (by first | exact b2i_01 | decide)) (Nat.le_of_ble_eq_true rfl) (by decide) (Nat.zero_le _) (fun v9 σ9 h9_6 => ?_)
  obtain ⟨rfl, rfl⟩ := h9_6
  refine aw_ifb_eq (tgt := 20) (pc := 9) F dX9_slack_9 (by decide) (fun c9 => ?_) (fun c9 => ?_)
  · refine aw_iconst (pc := 20) F dX9_slack_20 ?_
    exact aw_iret (pc := 21) F dX9_slack_21 rfl (Nat.zero_le _) (qp1 (fun z => by first | (rw [thr_s]; done) | exact absurd z (by assumption)))
  · refine aw_aload0 (pc := 12) F dX9_slack_12 ?_
    refine aw_iload1 (pc := 13) F dX9_slack_13 ?_
    refine aw_pcallV1 (pc := 14) F dX9_slack_14 ml_9_209 rfl (by first | decide | (simp only [inB, cnt, rcnt]; omega)) (ct9_slackOf _ _ _ (by show 0 ≤ e ∧ e < M (9, 0, 1, 0) 20; omega) (by rw [thr_s]; exact h)) (Nat.le_of_ble_eq_true rfl) (by decide) (Nat.zero_le _) ?_
    refine aw_goto (tgt := 21) (pc := 17) F dX9_slack_17 (by decide) ?_
    exact aw_iret (pc := 21) F dX9_slack_21 rfl (Nat.zero_le _) (qp1 (fun z => by first | (rw [thr_s]; done) | exact absurd z (by assumption)))
theorem cq9_isKept (M : Id4 → Int → Int) (b : Bool) (e : Int) (h1 : inR e) (h : Ok (M (9, 0, 1, 0))) : CtI 5 0 yX9_isKept cX9_isKept 2 (some .boolean) [aR (9, 0, 0, 0), aI e] (M, R0 b) (QP M b (1 - b2i (0 ≤ e ∧ e ≤ M (9, 0, 1, 0) 20 - 1)) (b2i (kept (M (9, 0, 1, 0)) e))) := by
  refine CtI.mk (by decide +kernel) rfl (Nat.le_of_ble_eq_true rfl) (fun X K F hk => ?_)
  have hs := slOf_bd h e
  refine aw_aload0 (pc := 0) F dX9_isKept_0 ?_
  refine aw_aload0 (pc := 1) F dX9_isKept_1 ?_
  refine aw_iload1 (pc := 2) F dX9_isKept_2 ?_
  refine aw_pcallV1 (pc := 3) F dX9_isKept_3 ml_9_194 rfl (by first | decide | (simp only [inB, cnt, rcnt]; omega)) (ct9_isSpan _ _ _ h1 h.2.2.1) (Nat.le_of_ble_eq_true rfl) (by decide) (Nat.zero_le _) ?_
  refine aw_callVI1 (pc := 6) F dX9_isKept_6 ml_9_176 rfl (by first | decide | (simp only [inB, cnt, rcnt]; omega)) (ct9_good1 _ _ _ (by first | exact b2i_01 | decide)) (Nat.le_of_ble_eq_true rfl) (by decide) (Nat.zero_le _) (fun v9 σ9 h9_6 => ?_)
  obtain ⟨rfl, rfl⟩ := h9_6
  refine aw_ifb_eq (tgt := 29) (pc := 9) F dX9_isKept_9 (by decide) (fun c9 => ?_) (fun c9 => ?_)
  · refine aw_iconst (pc := 29) F dX9_isKept_29 ?_
    exact aw_iret (pc := 30) F dX9_isKept_30 (nar_bool (by first | exact b2i_01 | decide)) (Nat.zero_le _) (qp1 (fun z => by first | exact absurd z (by assumption) | (rw [thr_s] at c22; first | exact (b2i_pos c22).symm | exact (b2i_neg c22).symm)))
  · refine aw_aload0 (pc := 12) F dX9_isKept_12 ?_
    refine aw_iload1 (pc := 13) F dX9_isKept_13 ?_
    refine aw_aload0 (pc := 14) F dX9_isKept_14 ?_
    refine aw_iload1 (pc := 15) F dX9_isKept_15 ?_
    refine aw_pcallV1 (pc := 16) F dX9_isKept_16 ml_9_209 rfl (by first | decide | (simp only [inB, cnt, rcnt]; omega)) (ct9_slackOf _ _ _ (by show 0 ≤ e ∧ e < M (9, 0, 1, 0) 20; omega) (by rw [thr_s]; exact h)) (Nat.le_of_ble_eq_true rfl) (by decide) (Nat.zero_le _) ?_
    refine aw_pcallV2 (pc := 19) F dX9_isKept_19 ml_9_215 rfl (by first | decide | (simp only [inB, cnt, rcnt]; omega)) (ct9_isKeptBy _ _ _ _ (by show 0 ≤ e ∧ e < M (9, 0, 1, 0) 20; omega) (by rw [thr_s]; unfold inR; omega) (by rw [thr_s]; exact h)) (Nat.le_of_ble_eq_true rfl) (by decide) (Nat.zero_le _) ?_
    refine aw_ifb_eq (tgt := 29) (pc := 22) F dX9_isKept_22 (by decide) (fun c22 => ?_) (fun c22 => ?_)
    · refine aw_iconst (pc := 29) F dX9_isKept_29 ?_
      exact aw_iret (pc := 30) F dX9_isKept_30 (nar_bool (by first | exact b2i_01 | decide)) (Nat.zero_le _) (qp1 (fun z => by first | exact absurd z (by assumption) | (rw [thr_s] at c22; first | exact (b2i_pos c22).symm | exact (b2i_neg c22).symm)))
    · refine aw_iconst (pc := 25) F dX9_isKept_25 ?_
      refine aw_goto (tgt := 30) (pc := 26) F dX9_isKept_26 (by decide) ?_
      exact aw_iret (pc := 30) F dX9_isKept_30 (nar_bool (by first | exact b2i_01 | decide)) (Nat.zero_le _) (qp1 (fun z => by first | exact absurd z (by assumption) | (rw [thr_s] at c22; first | exact (b2i_pos c22).symm | exact (b2i_neg c22).symm)))
theorem cq9_broken (M : Id4 → Int → Int) (b : Bool) (h : Ok (M (9, 0, 1, 0))) : CtI 6 0 yX9_broken cX9_broken 1 (some .int) [aR (9, 0, 0, 0)] (M, R0 b) (QP M b 0 (brk (M (9, 0, 1, 0)))) := by
  refine CtI.mk (by decide +kernel) rfl (Nat.le_of_ble_eq_true rfl) (fun X K F hk => ?_)
  refine aw_aload0 (pc := 0) F dX9_broken_0 ?_
  refine aw_iconst (pc := 1) F dX9_broken_1 ?_
  refine aw_putI (pc := 2) F dX9_broken_2 fl_9_54 fpi_9_4 rfl (by first | decide | (simp only [inB, cnt, rcnt]; omega)) rfl nz4 ?_
  refine aw_aload0 (pc := 5) F dX9_broken_5 ?_
  refine aw_pcallV0 (pc := 6) F dX9_broken_6 ml_9_218 rfl (by first | decide | (simp only [inB, cnt, rcnt]; omega)) (ct9_brokenMany _ _ (by rw [thr_u]; exact h)) (Nat.le_of_ble_eq_true rfl) (by decide) (Nat.zero_le _) ?_
  exact aw_iret (pc := 9) F dX9_broken_9 rfl (Nat.zero_le _) ⟨_, rfl, same9_thr, upd_same, fun _ => by rw [thr_u]⟩
theorem cq9_cost (M : Id4 → Int → Int) (b : Bool) (h : Ok (M (9, 0, 1, 0))) : CtI 6 0 yX9_cost cX9_cost 1 (some .int) [aR (9, 0, 0, 0)] (M, R0 b) (QP M b 0 (cst (M (9, 0, 1, 0)))) := by
  refine CtI.mk (by decide +kernel) rfl (Nat.le_of_ble_eq_true rfl) (fun X K F hk => ?_)
  refine aw_aload0 (pc := 0) F dX9_cost_0 ?_
  refine aw_iconst (pc := 1) F dX9_cost_1 ?_
  refine aw_putI (pc := 2) F dX9_cost_2 fl_9_54 fpi_9_4 rfl (by first | decide | (simp only [inB, cnt, rcnt]; omega)) rfl nz4 ?_
  refine aw_aload0 (pc := 5) F dX9_cost_5 ?_
  refine aw_pcallV0 (pc := 6) F dX9_cost_6 ml_9_221 rfl (by first | decide | (simp only [inB, cnt, rcnt]; omega)) (ct9_costNow _ _ (by rw [thr_u]; exact h)) (Nat.le_of_ble_eq_true rfl) (by decide) (Nat.zero_le _) ?_
  exact aw_iret (pc := 9) F dX9_cost_9 rfl (Nat.zero_le _) ⟨_, rfl, same9_thr, upd_same, fun _ => by rw [thr_u]⟩
