/-! 21: the class's refusals, and its plain questions -/
abbrev eIO : String := "java/lang/IndexOutOfBoundsException"
abbrev eIA : String := "java/lang/IllegalArgumentException"
abbrev eIS : String := "java/lang/IllegalStateException"
abbrev eNS : String := "java/util/NoSuchElementException"
theorem cx8_requireEvent (M : Id4 → Int → Int) (b : Bool) (S : Int → Int) (e : Int) (h1 : inR e) (hR : plR M 0 S) (h : Ok S) : CxV 12 1 yX8_requireEvent cX8_requireEvent 2 none [aR (8, 0, 0, 0), aI e] (M, R0 b) (fun σ' => σ' = (M, R0 b) ∧ 0 ≤ e ∧ e < S 1) (fun E σ' => E = eIO ∧ σ' = (M, R0 b) ∧ ¬ (0 ≤ e ∧ e < S 1)) := by
  refine CxV.mk (by decide +kernel) rfl (Nat.le_of_ble_eq_true rfl) (fun X K F hk => ?_)
  have hE := h.2.1
  have e1 := hR.1.2.1
  refine aw_iload1 (pc := 0) F dX8_requireEvent_0 ?_
  refine aw_if_lt (tgt := 15) (pc := 1) F dX8_requireEvent_1 (by decide) (by first | assumption | (unfold inR; omega)) (fun c1 => ?_) (fun c1 => ?_)
  · exact aw_throwVW (pc := 15) F dX8_requireEvent_15 dX8_requireEvent_18 dX8_requireEvent_19 dX8_requireEvent_22 dX8_requireEvent_25 th_313_321_317 (by decide) (by decide) (Nat.le_of_ble_eq_true rfl) ⟨rfl, rfl, by omega⟩
  · refine aw_iload1 (pc := 4) F dX8_requireEvent_4 ?_
    refine aw_aload0 (pc := 5) F dX8_requireEvent_5 ?_
    refine aw_getR (pc := 6) F dX8_requireEvent_6 fl_8_34 rfl (by first | decide | (simp only [inB, cnt, rcnt]; omega)) rfl nz4 rfl ?_
    refine aw_getI (pc := 9) F dX8_requireEvent_9 fl_8_112 rfl (by first | decide | (simp only [inB, cnt, rcnt]; omega)) rfl nz1 ?_
    refine aw_icmp_lt (tgt := 26) (pc := 12) F dX8_requireEvent_12 (by decide) (by first | assumption | (unfold inR; omega)) (by first | assumption | (unfold inR; omega)) (fun c12 => ?_) (fun c12 => ?_)
    · exact aw_xvret (pc := 26) F dX8_requireEvent_26 (by decide) ⟨rfl, by omega, by omega⟩
    · exact aw_throwVW (pc := 15) F dX8_requireEvent_15 dX8_requireEvent_18 dX8_requireEvent_19 dX8_requireEvent_22 dX8_requireEvent_25 th_313_321_317 (by decide) (by decide) (Nat.le_of_ble_eq_true rfl) ⟨rfl, rfl, by omega⟩
theorem cx8_requireSpan (M : Id4 → Int → Int) (b : Bool) (S : Int → Int) (e : Int) (h1 : inR e) (hR : plR M 0 S) (h : Ok S) : CxV 12 1 yX8_requireSpan cX8_requireSpan 2 none [aR (8, 0, 0, 0), aI e] (M, R0 b) (fun σ' => σ' = (M, R0 b) ∧ 0 ≤ e ∧ e < S 20) (fun E σ' => E = eIO ∧ σ' = (M, R0 b) ∧ ¬ (0 ≤ e ∧ e < S 20)) := by
  refine CxV.mk (by decide +kernel) rfl (Nat.le_of_ble_eq_true rfl) (fun X K F hk => ?_)
  have hE := h.2.2.1
  have e1 := hR.1.2.2
  refine aw_iload1 (pc := 0) F dX8_requireSpan_0 ?_
  refine aw_if_lt (tgt := 15) (pc := 1) F dX8_requireSpan_1 (by decide) (by first | assumption | (unfold inR; omega)) (fun c1 => ?_) (fun c1 => ?_)
  · exact aw_throwVW (pc := 15) F dX8_requireSpan_15 dX8_requireSpan_18 dX8_requireSpan_19 dX8_requireSpan_22 dX8_requireSpan_25 th_313_323_317 (by decide) (by decide) (Nat.le_of_ble_eq_true rfl) ⟨rfl, rfl, by omega⟩
  · refine aw_iload1 (pc := 4) F dX8_requireSpan_4 ?_
    refine aw_aload0 (pc := 5) F dX8_requireSpan_5 ?_
    refine aw_getR (pc := 6) F dX8_requireSpan_6 fl_8_34 rfl (by first | decide | (simp only [inB, cnt, rcnt]; omega)) rfl nz4 rfl ?_
    refine aw_getI (pc := 9) F dX8_requireSpan_9 fl_8_100 rfl (by first | decide | (simp only [inB, cnt, rcnt]; omega)) rfl nz2 ?_
    refine aw_icmp_lt (tgt := 26) (pc := 12) F dX8_requireSpan_12 (by decide) (by first | assumption | (unfold inR; omega)) (by first | assumption | (unfold inR; omega)) (fun c12 => ?_) (fun c12 => ?_)
    · exact aw_xvret (pc := 26) F dX8_requireSpan_26 (by decide) ⟨rfl, by omega, by omega⟩
    · exact aw_throwVW (pc := 15) F dX8_requireSpan_15 dX8_requireSpan_18 dX8_requireSpan_19 dX8_requireSpan_22 dX8_requireSpan_25 th_313_323_317 (by decide) (by decide) (Nat.le_of_ble_eq_true rfl) ⟨rfl, rfl, by omega⟩
theorem cx8_requireRange (M : Id4 → Int → Int) (b : Bool) (x lo hi : Int) (h1 : inR x) (h2 : inR lo) (h3 : inR hi) : CxV 12 1 yX8_requireRange cX8_requireRange 3 none [aI x, aI lo, aI hi] (M, R0 b) (fun σ' => σ' = (M, R0 b) ∧ lo ≤ x ∧ x ≤ hi) (fun E σ' => E = eIA ∧ σ' = (M, R0 b) ∧ ¬ (lo ≤ x ∧ x ≤ hi)) := by
  refine CxV.mk (by decide +kernel) rfl (Nat.le_of_ble_eq_true rfl) (fun X K F hk => ?_)
  refine aw_iload0 (pc := 0) F dX8_requireRange_0 ?_
  refine aw_iload1 (pc := 1) F dX8_requireRange_1 ?_
  refine aw_icmp_lt (tgt := 10) (pc := 2) F dX8_requireRange_2 (by decide) (by assumption) (by assumption) (fun c2 => ?_) (fun c2 => ?_)
  · exact aw_throwVW (pc := 10) F dX8_requireRange_10 dX8_requireRange_13 dX8_requireRange_14 dX8_requireRange_17 dX8_requireRange_20 th_144_329_148 (by decide) (by decide) (Nat.le_of_ble_eq_true rfl) ⟨rfl, rfl, by omega⟩
  · refine aw_iload0 (pc := 5) F dX8_requireRange_5 ?_
    refine aw_iload2 (pc := 6) F dX8_requireRange_6 ?_
    refine aw_icmp_le (tgt := 21) (pc := 7) F dX8_requireRange_7 (by decide) (by assumption) (by assumption) (fun c7 => ?_) (fun c7 => ?_)
    · exact aw_xvret (pc := 21) F dX8_requireRange_21 (by decide) ⟨rfl, by omega, by omega⟩
    · exact aw_throwVW (pc := 10) F dX8_requireRange_10 dX8_requireRange_13 dX8_requireRange_14 dX8_requireRange_17 dX8_requireRange_20 th_144_329_148 (by decide) (by decide) (Nat.le_of_ble_eq_true rfl) ⟨rfl, rfl, by omega⟩
theorem cx8_time (M : Id4 → Int → Int) (b : Bool) (S : Int → Int) (e : Int) (h1 : inR e) (hR : plR M 0 S) (h : Ok S) : CxI 13 1 yX8_time cX8_time 2 (some .int) [aR (8, 0, 0, 0), aI e] (M, R0 b) (fun v σ' => v = S (14 + e) ∧ σ' = (M, R0 b) ∧ 0 ≤ e ∧ e < S 1) (fun E σ' => E = eIO ∧ σ' = (M, R0 b) ∧ ¬ (0 ≤ e ∧ e < S 1)) := by
  refine CxI.mk (by decide +kernel) rfl (Nat.le_of_ble_eq_true rfl) (fun X K F hk => ?_)
  have hE := h.2.1
  refine aw_aload0 (pc := 0) F dX8_time_0 ?_
  refine aw_iload1 (pc := 1) F dX8_time_1 ?_
  refine aw_xcallVVI1 (pc := 2) F dX8_time_2 ml_8_119 rfl (by first | decide | (simp only [inB, cnt, rcnt]; omega)) (cx8_requireEvent _ _ S _ h1 hR h) (Nat.le_of_ble_eq_true rfl) (by decide) (by decide) (fun _ _ h => h) (fun σ9 h9_2 => ?_)
  obtain ⟨rfl, q1, q2⟩ := h9_2
  refine aw_aload0 (pc := 5) F dX8_time_5 ?_
  refine aw_getR (pc := 6) F dX8_time_6 fl_8_34 rfl (by first | decide | (simp only [inB, cnt, rcnt]; omega)) rfl nz4 rfl ?_
  refine aw_getR (pc := 9) F dX8_time_9 fl_8_122 rfl (by first | decide | (simp only [inB, cnt, rcnt]; omega)) rfl nz3 rfl ?_
  refine aw_iload1 (pc := 12) F dX8_time_12 ?_
  refine aw_iald (pc := 13) F dX8_time_13 rfl (by first | decide | (simp only [inB, cnt, rcnt]; omega)) (by omega) ?_
  exact aw_xiret (pc := 14) F dX8_time_14 rfl (by decide) ⟨hR.2.1 e q1 q2, rfl, q1, q2⟩
theorem cx8_span (M : Id4 → Int → Int) (b : Bool) (S : Int → Int) (e w : Int) (h1 : inR e) (h2 : inR w) (hR : plR M 0 S) (h : Ok S) : CxI 13 2 yX8_span cX8_span 3 (some .int) [aR (8, 0, 0, 0), aI e, aI w] (M, R0 b) (fun v σ' => v = S (21 + 5 * e + w) ∧ σ' = (M, R0 b) ∧ (0 ≤ e ∧ e < S 20) ∧ 0 ≤ w ∧ w ≤ 4) (fun E σ' => σ' = (M, R0 b) ∧ ((E = eIO ∧ ¬ (0 ≤ e ∧ e < S 20)) ∨ (E = eIA ∧ (0 ≤ e ∧ e < S 20) ∧ ¬ (0 ≤ w ∧ w ≤ 4)))) := by
  refine CxI.mk (by decide +kernel) rfl (Nat.le_of_ble_eq_true rfl) (fun X K F hk => ?_)
  have hE := h.2.2.1
  refine aw_aload0 (pc := 0) F dX8_span_0 ?_
  refine aw_iload1 (pc := 1) F dX8_span_1 ?_
  refine aw_xcallVVI1 (pc := 2) F dX8_span_2 ml_8_126 rfl (by first | decide | (simp only [inB, cnt, rcnt]; omega)) (cx8_requireSpan _ _ S _ h1 hR h) (Nat.le_of_ble_eq_true rfl) (by decide) (by decide) (fun _ _ h => ⟨h.2.1, Or.inl ⟨h.1, h.2.2⟩⟩) (fun σ9 h9_2 => ?_)
  obtain ⟨rfl, q1, q2⟩ := h9_2
  obtain ⟨f0, f1, f2, f3, f4⟩ := hR.2.2 e q1 q2
  refine aw_iload2 (pc := 5) F dX8_span_5 ?_
  rcases (show w < 0 ∨ 4 < w ∨ w = 0 ∨ w = 1 ∨ w = 2 ∨ w = 3 ∨ w = 4 by omega) with c6 | c6 | c6 | c6 | c6 | c6 | c6
  · refine aw_tabOut (tgt := 90) (pc := 6) F dX8_span_6 h2 (Or.inl c6) (by decide) ?_
    exact aw_throwI (pc := 90) F dX8_span_90 dX8_span_93 dX8_span_94 dX8_span_96 dX8_span_99 th_144_146_148 (by decide) (by decide) (Nat.le_of_ble_eq_true rfl) ⟨rfl, Or.inr ⟨rfl, ⟨q1, q2⟩, by omega⟩⟩
  · refine aw_tabOut (tgt := 90) (pc := 6) F dX8_span_6 h2 (Or.inr c6) (by decide) ?_
    exact aw_throwI (pc := 90) F dX8_span_90 dX8_span_93 dX8_span_94 dX8_span_96 dX8_span_99 th_144_146_148 (by decide) (by decide) (Nat.le_of_ble_eq_true rfl) ⟨rfl, Or.inr ⟨rfl, ⟨q1, q2⟩, by omega⟩⟩
  · refine aw_tabIn (tgt := 40) (pc := 6) F dX8_span_6 h2 (by omega) (by rw [c6]; rfl) (by decide) ?_
    refine aw_aload0 (pc := 40) F dX8_span_40 ?_
    refine aw_getR (pc := 41) F dX8_span_41 fl_8_34 rfl (by first | decide | (simp only [inB, cnt, rcnt]; omega)) rfl nz4 rfl ?_
    refine aw_getR (pc := 44) F dX8_span_44 fl_8_129 rfl (by first | decide | (simp only [inB, cnt, rcnt]; omega)) rfl nz4 rfl ?_
    refine aw_iload1 (pc := 47) F dX8_span_47 ?_
    refine aw_iald (pc := 48) F dX8_span_48 rfl (by first | decide | (simp only [inB, cnt, rcnt]; omega)) (by omega) ?_
    exact aw_xiret (pc := 49) F dX8_span_49 rfl (by decide) ⟨by rw [c6]; assumption, rfl, ⟨q1, q2⟩, by omega, by omega⟩
  · refine aw_tabIn (tgt := 50) (pc := 6) F dX8_span_6 h2 (by omega) (by rw [c6]; rfl) (by decide) ?_
    refine aw_aload0 (pc := 50) F dX8_span_50 ?_
    refine aw_getR (pc := 51) F dX8_span_51 fl_8_34 rfl (by first | decide | (simp only [inB, cnt, rcnt]; omega)) rfl nz4 rfl ?_
    refine aw_getR (pc := 54) F dX8_span_54 fl_8_132 rfl (by first | decide | (simp only [inB, cnt, rcnt]; omega)) rfl nz5 rfl ?_
    refine aw_iload1 (pc := 57) F dX8_span_57 ?_
    refine aw_iald (pc := 58) F dX8_span_58 rfl (by first | decide | (simp only [inB, cnt, rcnt]; omega)) (by omega) ?_
    exact aw_xiret (pc := 59) F dX8_span_59 rfl (by decide) ⟨by rw [c6]; assumption, rfl, ⟨q1, q2⟩, by omega, by omega⟩
  · refine aw_tabIn (tgt := 60) (pc := 6) F dX8_span_6 h2 (by omega) (by rw [c6]; rfl) (by decide) ?_
    refine aw_aload0 (pc := 60) F dX8_span_60 ?_
    refine aw_getR (pc := 61) F dX8_span_61 fl_8_34 rfl (by first | decide | (simp only [inB, cnt, rcnt]; omega)) rfl nz4 rfl ?_
    refine aw_getR (pc := 64) F dX8_span_64 fl_8_135 rfl (by first | decide | (simp only [inB, cnt, rcnt]; omega)) rfl nz6 rfl ?_
    refine aw_iload1 (pc := 67) F dX8_span_67 ?_
    refine aw_iald (pc := 68) F dX8_span_68 rfl (by first | decide | (simp only [inB, cnt, rcnt]; omega)) (by omega) ?_
    exact aw_xiret (pc := 69) F dX8_span_69 rfl (by decide) ⟨by rw [c6]; assumption, rfl, ⟨q1, q2⟩, by omega, by omega⟩
  · refine aw_tabIn (tgt := 70) (pc := 6) F dX8_span_6 h2 (by omega) (by rw [c6]; rfl) (by decide) ?_
    refine aw_aload0 (pc := 70) F dX8_span_70 ?_
    refine aw_getR (pc := 71) F dX8_span_71 fl_8_34 rfl (by first | decide | (simp only [inB, cnt, rcnt]; omega)) rfl nz4 rfl ?_
    refine aw_getR (pc := 74) F dX8_span_74 fl_8_138 rfl (by first | decide | (simp only [inB, cnt, rcnt]; omega)) rfl nz7 rfl ?_
    refine aw_iload1 (pc := 77) F dX8_span_77 ?_
    refine aw_iald (pc := 78) F dX8_span_78 rfl (by first | decide | (simp only [inB, cnt, rcnt]; omega)) (by omega) ?_
    exact aw_xiret (pc := 79) F dX8_span_79 rfl (by decide) ⟨by rw [c6]; assumption, rfl, ⟨q1, q2⟩, by omega, by omega⟩
  · refine aw_tabIn (tgt := 80) (pc := 6) F dX8_span_6 h2 (by omega) (by rw [c6]; rfl) (by decide) ?_
    refine aw_aload0 (pc := 80) F dX8_span_80 ?_
    refine aw_getR (pc := 81) F dX8_span_81 fl_8_34 rfl (by first | decide | (simp only [inB, cnt, rcnt]; omega)) rfl nz4 rfl ?_
    refine aw_getR (pc := 84) F dX8_span_84 fl_8_141 rfl (by first | decide | (simp only [inB, cnt, rcnt]; omega)) rfl nz8 rfl ?_
    refine aw_iload1 (pc := 87) F dX8_span_87 ?_
    refine aw_iald (pc := 88) F dX8_span_88 rfl (by first | decide | (simp only [inB, cnt, rcnt]; omega)) (by omega) ?_
    exact aw_xiret (pc := 89) F dX8_span_89 rfl (by decide) ⟨by rw [c6]; assumption, rfl, ⟨q1, q2⟩, by omega, by omega⟩
theorem cx8_duration (M : Id4 → Int → Int) (b : Bool) (S : Int → Int) (e : Int) (h1 : inR e) (hR : plR M 0 S) (h : Ok S) : CxI 13 1 yX8_duration cX8_duration 2 (some .int) [aR (8, 0, 0, 0), aI e] (M, R0 b) (fun v σ' => v = S (21 + 5 * e + 2) + slOf S e ∧ σ' = (M, R0 b) ∧ 0 ≤ e ∧ e < S 20) (fun E σ' => E = eIO ∧ σ' = (M, R0 b) ∧ ¬ (0 ≤ e ∧ e < S 20)) := by
  refine CxI.mk (by decide +kernel) rfl (Nat.le_of_ble_eq_true rfl) (fun X K F hk => ?_)
  have hE := h.2.2.1
  refine aw_aload0 (pc := 0) F dX8_duration_0 ?_
  refine aw_iload1 (pc := 1) F dX8_duration_1 ?_
  refine aw_xcallVVI1 (pc := 2) F dX8_duration_2 ml_8_126 rfl (by first | decide | (simp only [inB, cnt, rcnt]; omega)) (cx8_requireSpan _ _ S _ h1 hR h) (Nat.le_of_ble_eq_true rfl) (by decide) (by decide) (fun _ _ h => h) (fun σ9 h9_2 => ?_)
  obtain ⟨rfl, q1, q2⟩ := h9_2
  refine aw_aload0 (pc := 5) F dX8_duration_5 ?_
  refine aw_getR (pc := 6) F dX8_duration_6 fl_8_34 rfl (by first | decide | (simp only [inB, cnt, rcnt]; omega)) rfl nz4 rfl ?_
  refine aw_getR (pc := 9) F dX8_duration_9 fl_8_135 rfl (by first | decide | (simp only [inB, cnt, rcnt]; omega)) rfl nz6 rfl ?_
  refine aw_iload1 (pc := 12) F dX8_duration_12 ?_
  refine aw_iald (pc := 13) F dX8_duration_13 rfl (by first | decide | (simp only [inB, cnt, rcnt]; omega)) (by omega) ?_
  refine aw_aload0 (pc := 14) F dX8_duration_14 ?_
  refine aw_getR (pc := 15) F dX8_duration_15 fl_8_34 rfl (by first | decide | (simp only [inB, cnt, rcnt]; omega)) rfl nz4 rfl ?_
  refine aw_iload1 (pc := 18) F dX8_duration_18 ?_
  refine aw_pcallV1 (pc := 19) F dX8_duration_19 ml_8_151 rfl (by first | decide | (simp only [inB, cnt, rcnt]; omega)) (ct5_slackOf _ _ S _ _ (by decide) hR h ⟨q1, q2⟩) (Nat.le_of_ble_eq_true rfl) (by decide) (by decide) ?_
  refine aw_iadd (pc := 22) F dX8_duration_22 ?_
  exact aw_xiret (pc := 23) F dX8_duration_23 rfl (by decide) ⟨by rw [(hR.2.2 e q1 q2).2.2.1], rfl, q1, q2⟩
theorem cx8_slack (M : Id4 → Int → Int) (b : Bool) (S : Int → Int) (e : Int) (h1 : inR e) (hR : plR M 0 S) (h : Ok S) : CxI 13 1 yX8_slack cX8_slack 2 (some .int) [aR (8, 0, 0, 0), aI e] (M, R0 b) (fun v σ' => v = slOf S e ∧ σ' = (M, R0 b) ∧ 0 ≤ e ∧ e < S 20) (fun E σ' => E = eIO ∧ σ' = (M, R0 b) ∧ ¬ (0 ≤ e ∧ e < S 20)) := by
  refine CxI.mk (by decide +kernel) rfl (Nat.le_of_ble_eq_true rfl) (fun X K F hk => ?_)
  refine aw_aload0 (pc := 0) F dX8_slack_0 ?_
  refine aw_iload1 (pc := 1) F dX8_slack_1 ?_
  refine aw_xcallVVI1 (pc := 2) F dX8_slack_2 ml_8_126 rfl (by first | decide | (simp only [inB, cnt, rcnt]; omega)) (cx8_requireSpan _ _ S _ h1 hR h) (Nat.le_of_ble_eq_true rfl) (by decide) (by decide) (fun _ _ h => h) (fun σ9 h9_2 => ?_)
  obtain ⟨rfl, q1, q2⟩ := h9_2
  refine aw_aload0 (pc := 5) F dX8_slack_5 ?_
  refine aw_getR (pc := 6) F dX8_slack_6 fl_8_34 rfl (by first | decide | (simp only [inB, cnt, rcnt]; omega)) rfl nz4 rfl ?_
  refine aw_iload1 (pc := 9) F dX8_slack_9 ?_
  refine aw_pcallV1 (pc := 10) F dX8_slack_10 ml_8_151 rfl (by first | decide | (simp only [inB, cnt, rcnt]; omega)) (ct5_slackOf _ _ S _ _ (by decide) hR h ⟨q1, q2⟩) (Nat.le_of_ble_eq_true rfl) (by decide) (by decide) ?_
  exact aw_xiret (pc := 13) F dX8_slack_13 rfl (by decide) ⟨rfl, rfl, q1, q2⟩
theorem cx8_isKept (M : Id4 → Int → Int) (b : Bool) (S : Int → Int) (e : Int) (h1 : inR e) (hR : plR M 0 S) (h : Ok S) : CxI 13 1 yX8_isKept cX8_isKept 2 (some .boolean) [aR (8, 0, 0, 0), aI e] (M, R0 b) (fun v σ' => v = b2i (kept S e) ∧ σ' = (M, R0 b) ∧ 0 ≤ e ∧ e < S 20) (fun E σ' => E = eIO ∧ σ' = (M, R0 b) ∧ ¬ (0 ≤ e ∧ e < S 20)) := by
  refine CxI.mk (by decide +kernel) rfl (Nat.le_of_ble_eq_true rfl) (fun X K F hk => ?_)
  refine aw_aload0 (pc := 0) F dX8_isKept_0 ?_
  refine aw_iload1 (pc := 1) F dX8_isKept_1 ?_
  refine aw_xcallVVI1 (pc := 2) F dX8_isKept_2 ml_8_126 rfl (by first | decide | (simp only [inB, cnt, rcnt]; omega)) (cx8_requireSpan _ _ S _ h1 hR h) (Nat.le_of_ble_eq_true rfl) (by decide) (by decide) (fun _ _ h => h) (fun σ9 h9_2 => ?_)
  obtain ⟨rfl, q1, q2⟩ := h9_2
  refine aw_aload0 (pc := 5) F dX8_isKept_5 ?_
  refine aw_getR (pc := 6) F dX8_isKept_6 fl_8_34 rfl (by first | decide | (simp only [inB, cnt, rcnt]; omega)) rfl nz4 rfl ?_
  refine aw_iload1 (pc := 9) F dX8_isKept_9 ?_
  refine aw_pcallV1 (pc := 10) F dX8_isKept_10 ml_8_155 rfl (by first | decide | (simp only [inB, cnt, rcnt]; omega)) (ct5_keeps _ _ S _ _ (by decide) hR h ⟨q1, q2⟩) (Nat.le_of_ble_eq_true rfl) (by decide) (by decide) ?_
  exact aw_xiret (pc := 13) F dX8_isKept_13 (nar_bool (by first | exact b2i_01 | decide)) (by decide) ⟨rfl, rfl, q1, q2⟩
theorem ct8_broken (M : Id4 → Int → Int) (b : Bool) (S : Int → Int) (hR : plR M 0 S) (h : Ok S) : CtI 6 0 yX8_broken cX8_broken 1 (some .int) [aR (8, 0, 0, 0)] (M, R0 b) (PU (M, R0 b) (brk S)) := by
  refine CtI.mk (by decide +kernel) rfl (Nat.le_of_ble_eq_true rfl) (fun X K F hk => ?_)
  refine aw_aload0 (pc := 0) F dX8_broken_0 ?_
  refine aw_getR (pc := 1) F dX8_broken_1 fl_8_34 rfl (by first | decide | (simp only [inB, cnt, rcnt]; omega)) rfl nz4 rfl ?_
  refine aw_pcallV0 (pc := 4) F dX8_broken_4 ml_8_159 rfl (by first | decide | (simp only [inB, cnt, rcnt]; omega)) (ct5_countBroken _ _ S _ (by decide) hR h) (Nat.le_of_ble_eq_true rfl) (by decide) (Nat.zero_le _) ?_
  exact aw_iret (pc := 7) F dX8_broken_7 rfl (Nat.zero_le _) ⟨rfl, rfl⟩
theorem ct8_cost (M : Id4 → Int → Int) (b : Bool) (S : Int → Int) (hR : plR M 0 S) (h : Ok S) : CtI 5 0 yX8_cost cX8_cost 1 (some .int) [aR (8, 0, 0, 0)] (M, R0 b) (PU (M, R0 b) (cst S)) := by
  refine CtI.mk (by decide +kernel) rfl (Nat.le_of_ble_eq_true rfl) (fun X K F hk => ?_)
  refine aw_aload0 (pc := 0) F dX8_cost_0 ?_
  refine aw_getR (pc := 1) F dX8_cost_1 fl_8_34 rfl (by first | decide | (simp only [inB, cnt, rcnt]; omega)) rfl nz4 rfl ?_
  refine aw_pcallV0 (pc := 4) F dX8_cost_4 ml_8_168 rfl (by first | decide | (simp only [inB, cnt, rcnt]; omega)) (ct5_sumCosts _ _ S _ (by decide) hR h) (Nat.le_of_ble_eq_true rfl) (by decide) (Nat.zero_le _) ?_
  exact aw_iret (pc := 7) F dX8_cost_7 rfl (Nat.zero_le _) ⟨rfl, rfl⟩
