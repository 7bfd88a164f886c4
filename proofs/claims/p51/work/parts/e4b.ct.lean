/-! e4b: questions within their bounds make no cell -/
theorem ct8_reqEvent0 (M : Id4 → Int → Int) (b : Bool) (S : Int → Int) (e : Int) (hR : plR M 0 S) (h : Ok S) (he : 0 ≤ e ∧ e < S 1) : CtV 12 0 yX8_requireEvent cX8_requireEvent 2 none [aR (8, 0, 0, 0), aI e] (M, R0 b) (fun σ' => σ' = (M, R0 b)) := by
  refine CtV.mk (by decide +kernel) rfl (Nat.le_of_ble_eq_true rfl) (fun X K F hk => ?_)
  have hE := h.2.1
  have e1 := hR.1.2.1
  refine aw_iload1 (pc := 0) F dX8_requireEvent_0 ?_
  refine aw_if_lt (tgt := 15) (pc := 1) F dX8_requireEvent_1 (by decide) (by first | assumption | (unfold inR; omega)) (fun c1 => ?_) (fun c1 => ?_)
  · omega
  · refine aw_iload1 (pc := 4) F dX8_requireEvent_4 ?_
    refine aw_aload0 (pc := 5) F dX8_requireEvent_5 ?_
    refine aw_getR (pc := 6) F dX8_requireEvent_6 fl_8_34 rfl (by first | decide | (simp only [inB, cnt, rcnt]; omega)) rfl nz4 rfl ?_
    refine aw_getI (pc := 9) F dX8_requireEvent_9 fl_8_112 rfl (by first | decide | (simp only [inB, cnt, rcnt]; omega)) rfl nz1 ?_
    refine aw_icmp_lt (tgt := 26) (pc := 12) F dX8_requireEvent_12 (by decide) (by first | assumption | (unfold inR; omega)) (by first | assumption | (unfold inR; omega)) (fun c12 => ?_) (fun c12 => ?_)
    · exact aw_vret (pc := 26) F dX8_requireEvent_26 (Nat.zero_le _) rfl
    · omega
theorem ct8_reqSpan0 (M : Id4 → Int → Int) (b : Bool) (S : Int → Int) (e : Int) (hR : plR M 0 S) (h : Ok S) (he : 0 ≤ e ∧ e < S 20) : CtV 12 0 yX8_requireSpan cX8_requireSpan 2 none [aR (8, 0, 0, 0), aI e] (M, R0 b) (fun σ' => σ' = (M, R0 b)) := by
  refine CtV.mk (by decide +kernel) rfl (Nat.le_of_ble_eq_true rfl) (fun X K F hk => ?_)
  have hE := h.2.2.1
  have e1 := hR.1.2.2
  refine aw_iload1 (pc := 0) F dX8_requireSpan_0 ?_
  refine aw_if_lt (tgt := 15) (pc := 1) F dX8_requireSpan_1 (by decide) (by first | assumption | (unfold inR; omega)) (fun c1 => ?_) (fun c1 => ?_)
  · omega
  · refine aw_iload1 (pc := 4) F dX8_requireSpan_4 ?_
    refine aw_aload0 (pc := 5) F dX8_requireSpan_5 ?_
    refine aw_getR (pc := 6) F dX8_requireSpan_6 fl_8_34 rfl (by first | decide | (simp only [inB, cnt, rcnt]; omega)) rfl nz4 rfl ?_
    refine aw_getI (pc := 9) F dX8_requireSpan_9 fl_8_100 rfl (by first | decide | (simp only [inB, cnt, rcnt]; omega)) rfl nz2 ?_
    refine aw_icmp_lt (tgt := 26) (pc := 12) F dX8_requireSpan_12 (by decide) (by first | assumption | (unfold inR; omega)) (by first | assumption | (unfold inR; omega)) (fun c12 => ?_) (fun c12 => ?_)
    · exact aw_vret (pc := 26) F dX8_requireSpan_26 (Nat.zero_le _) rfl
    · omega
theorem ct8_time0 (M : Id4 → Int → Int) (b : Bool) (S : Int → Int) (e : Int) (hR : plR M 0 S) (h : Ok S) (he : 0 ≤ e ∧ e < S 1) : CtI 13 0 yX8_time cX8_time 2 (some .int) [aR (8, 0, 0, 0), aI e] (M, R0 b) (PU (M, R0 b) (S (14 + e))) := by
  refine CtI.mk (by decide +kernel) rfl (Nat.le_of_ble_eq_true rfl) (fun X K F hk => ?_)
  have hE := h.2.1
  refine aw_aload0 (pc := 0) F dX8_time_0 ?_
  refine aw_iload1 (pc := 1) F dX8_time_1 ?_
  refine aw_callVV1 (pc := 2) F dX8_time_2 ml_8_119 rfl (by first | decide | (simp only [inB, cnt, rcnt]; omega)) (ct8_reqEvent0 _ _ S _ hR h he) (Nat.le_of_ble_eq_true rfl) (by decide) (Nat.zero_le _) (fun σ9 h9_2 => ?_)
  obtain rfl := h9_2
  refine aw_aload0 (pc := 5) F dX8_time_5 ?_
  refine aw_getR (pc := 6) F dX8_time_6 fl_8_34 rfl (by first | decide | (simp only [inB, cnt, rcnt]; omega)) rfl nz4 rfl ?_
  refine aw_getR (pc := 9) F dX8_time_9 fl_8_122 rfl (by first | decide | (simp only [inB, cnt, rcnt]; omega)) rfl nz3 rfl ?_
  refine aw_iload1 (pc := 12) F dX8_time_12 ?_
  refine aw_iald (pc := 13) F dX8_time_13 rfl (by first | decide | (simp only [inB, cnt, rcnt]; omega)) (by omega) ?_
  exact aw_iret (pc := 14) F dX8_time_14 rfl (Nat.zero_le _) ⟨hR.2.1 e he.1 he.2, rfl⟩
theorem ct8_span0 (M : Id4 → Int → Int) (b : Bool) (S : Int → Int) (e w : Int) (hR : plR M 0 S) (h : Ok S) (he : 0 ≤ e ∧ e < S 20) (hw : 0 ≤ w ∧ w ≤ 4) : CtI 13 0 yX8_span cX8_span 3 (some .int) [aR (8, 0, 0, 0), aI e, aI w] (M, R0 b) (PU (M, R0 b) (S (21 + 5 * e + w))) := by
  refine CtI.mk (by decide +kernel) rfl (Nat.le_of_ble_eq_true rfl) (fun X K F hk => ?_)
  have hE := h.2.2.1
  refine aw_aload0 (pc := 0) F dX8_span_0 ?_
  refine aw_iload1 (pc := 1) F dX8_span_1 ?_
  refine aw_callVV1 (pc := 2) F dX8_span_2 ml_8_126 rfl (by first | decide | (simp only [inB, cnt, rcnt]; omega)) (ct8_reqSpan0 _ _ S _ hR h he) (Nat.le_of_ble_eq_true rfl) (by decide) (Nat.zero_le _) (fun σ9 h9_2 => ?_)
  obtain rfl := h9_2
  obtain ⟨f0, f1, f2, f3, f4⟩ := hR.2.2 e he.1 he.2
  refine aw_iload2 (pc := 5) F dX8_span_5 ?_
  rcases (show w < 0 ∨ 4 < w ∨ w = 0 ∨ w = 1 ∨ w = 2 ∨ w = 3 ∨ w = 4 by omega) with c6 | c6 | c6 | c6 | c6 | c6 | c6
  · refine aw_tabOut (tgt := 90) (pc := 6) F dX8_span_6 (by unfold inR; omega) (Or.inl c6) (by decide) ?_
    omega
  · refine aw_tabOut (tgt := 90) (pc := 6) F dX8_span_6 (by unfold inR; omega) (Or.inr c6) (by decide) ?_
    omega
  · refine aw_tabIn (tgt := 40) (pc := 6) F dX8_span_6 (by unfold inR; omega) (by omega) (by rw [c6]; rfl) (by decide) ?_
    refine aw_aload0 (pc := 40) F dX8_span_40 ?_
    refine aw_getR (pc := 41) F dX8_span_41 fl_8_34 rfl (by first | decide | (simp only [inB, cnt, rcnt]; omega)) rfl nz4 rfl ?_
    refine aw_getR (pc := 44) F dX8_span_44 fl_8_129 rfl (by first | decide | (simp only [inB, cnt, rcnt]; omega)) rfl nz4 rfl ?_
    refine aw_iload1 (pc := 47) F dX8_span_47 ?_
    refine aw_iald (pc := 48) F dX8_span_48 rfl (by first | decide | (simp only [inB, cnt, rcnt]; omega)) (by omega) ?_
    exact aw_iret (pc := 49) F dX8_span_49 rfl (Nat.zero_le _) ⟨by rw [c6]; assumption, rfl⟩
  · refine aw_tabIn (tgt := 50) (pc := 6) F dX8_span_6 (by unfold inR; omega) (by omega) (by rw [c6]; rfl) (by decide) ?_
    refine aw_aload0 (pc := 50) F dX8_span_50 ?_
    refine aw_getR (pc := 51) F dX8_span_51 fl_8_34 rfl (by first | decide | (simp only [inB, cnt, rcnt]; omega)) rfl nz4 rfl ?_
    refine aw_getR (pc := 54) F dX8_span_54 fl_8_132 rfl (by first | decide | (simp only [inB, cnt, rcnt]; omega)) rfl nz5 rfl ?_
    refine aw_iload1 (pc := 57) F dX8_span_57 ?_
    refine aw_iald (pc := 58) F dX8_span_58 rfl (by first | decide | (simp only [inB, cnt, rcnt]; omega)) (by omega) ?_
    exact aw_iret (pc := 59) F dX8_span_59 rfl (Nat.zero_le _) ⟨by rw [c6]; assumption, rfl⟩
  · refine aw_tabIn (tgt := 60) (pc := 6) F dX8_span_6 (by unfold inR; omega) (by omega) (by rw [c6]; rfl) (by decide) ?_
    refine aw_aload0 (pc := 60) F dX8_span_60 ?_
    refine aw_getR (pc := 61) F dX8_span_61 fl_8_34 rfl (by first | decide | (simp only [inB, cnt, rcnt]; omega)) rfl nz4 rfl ?_
    refine aw_getR (pc := 64) F dX8_span_64 fl_8_135 rfl (by first | decide | (simp only [inB, cnt, rcnt]; omega)) rfl nz6 rfl ?_
    refine aw_iload1 (pc := 67) F dX8_span_67 ?_
    refine aw_iald (pc := 68) F dX8_span_68 rfl (by first | decide | (simp only [inB, cnt, rcnt]; omega)) (by omega) ?_
    exact aw_iret (pc := 69) F dX8_span_69 rfl (Nat.zero_le _) ⟨by rw [c6]; assumption, rfl⟩
  · refine aw_tabIn (tgt := 70) (pc := 6) F dX8_span_6 (by unfold inR; omega) (by omega) (by rw [c6]; rfl) (by decide) ?_
    refine aw_aload0 (pc := 70) F dX8_span_70 ?_
    refine aw_getR (pc := 71) F dX8_span_71 fl_8_34 rfl (by first | decide | (simp only [inB, cnt, rcnt]; omega)) rfl nz4 rfl ?_
    refine aw_getR (pc := 74) F dX8_span_74 fl_8_138 rfl (by first | decide | (simp only [inB, cnt, rcnt]; omega)) rfl nz7 rfl ?_
    refine aw_iload1 (pc := 77) F dX8_span_77 ?_
    refine aw_iald (pc := 78) F dX8_span_78 rfl (by first | decide | (simp only [inB, cnt, rcnt]; omega)) (by omega) ?_
    exact aw_iret (pc := 79) F dX8_span_79 rfl (Nat.zero_le _) ⟨by rw [c6]; assumption, rfl⟩
  · refine aw_tabIn (tgt := 80) (pc := 6) F dX8_span_6 (by unfold inR; omega) (by omega) (by rw [c6]; rfl) (by decide) ?_
    refine aw_aload0 (pc := 80) F dX8_span_80 ?_
    refine aw_getR (pc := 81) F dX8_span_81 fl_8_34 rfl (by first | decide | (simp only [inB, cnt, rcnt]; omega)) rfl nz4 rfl ?_
    refine aw_getR (pc := 84) F dX8_span_84 fl_8_141 rfl (by first | decide | (simp only [inB, cnt, rcnt]; omega)) rfl nz8 rfl ?_
    refine aw_iload1 (pc := 87) F dX8_span_87 ?_
    refine aw_iald (pc := 88) F dX8_span_88 rfl (by first | decide | (simp only [inB, cnt, rcnt]; omega)) (by omega) ?_
    exact aw_iret (pc := 89) F dX8_span_89 rfl (Nat.zero_le _) ⟨by rw [c6]; assumption, rfl⟩
