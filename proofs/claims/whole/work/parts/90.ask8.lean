/-! 90: small questions of the class; the page -/
theorem ct8_period (M : Id4 → Int → Int) (b : Bool) : CtI 1 0 yX8_period cX8_period 1 (some .int) [aR (8, 0, 0, 0)] (M, R0 b) (PU (M, R0 b) (M (5, 0, 0, 0) 0)) := by
  refine CtI.mk (by decide +kernel) rfl (Nat.le_of_ble_eq_true rfl) (fun X K F hk => ?_)
  refine aw_aload0 (pc := 0) F dX8_period_0 ?_
  refine aw_getR (pc := 1) F dX8_period_1 fl_8_34 rfl (by first | decide | (simp only [inB, cnt, rcnt]; omega)) rfl nz4 rfl ?_
  refine aw_getI (pc := 4) F dX8_period_4 fl_8_109 rfl (by first | decide | (simp only [inB, cnt, rcnt]; omega)) rfl nz0 ?_
  exact aw_iret (pc := 7) F dX8_period_7 rfl (Nat.zero_le _) ⟨rfl, rfl⟩
theorem ct8_events (M : Id4 → Int → Int) (b : Bool) : CtI 1 0 yX8_events cX8_events 1 (some .int) [aR (8, 0, 0, 0)] (M, R0 b) (PU (M, R0 b) (M (5, 0, 0, 0) 1)) := by
  refine CtI.mk (by decide +kernel) rfl (Nat.le_of_ble_eq_true rfl) (fun X K F hk => ?_)
  refine aw_aload0 (pc := 0) F dX8_events_0 ?_
  refine aw_getR (pc := 1) F dX8_events_1 fl_8_34 rfl (by first | decide | (simp only [inB, cnt, rcnt]; omega)) rfl nz4 rfl ?_
  refine aw_getI (pc := 4) F dX8_events_4 fl_8_112 rfl (by first | decide | (simp only [inB, cnt, rcnt]; omega)) rfl nz1 ?_
  exact aw_iret (pc := 7) F dX8_events_7 rfl (Nat.zero_le _) ⟨rfl, rfl⟩
theorem ct8_spans (M : Id4 → Int → Int) (b : Bool) : CtI 1 0 yX8_spans cX8_spans 1 (some .int) [aR (8, 0, 0, 0)] (M, R0 b) (PU (M, R0 b) (M (5, 0, 0, 0) 2)) := by
  refine CtI.mk (by decide +kernel) rfl (Nat.le_of_ble_eq_true rfl) (fun X K F hk => ?_)
  refine aw_aload0 (pc := 0) F dX8_spans_0 ?_
  refine aw_getR (pc := 1) F dX8_spans_1 fl_8_34 rfl (by first | decide | (simp only [inB, cnt, rcnt]; omega)) rfl nz4 rfl ?_
  refine aw_getI (pc := 4) F dX8_spans_4 fl_8_100 rfl (by first | decide | (simp only [inB, cnt, rcnt]; omega)) rfl nz2 ?_
  exact aw_iret (pc := 7) F dX8_spans_7 rfl (Nat.zero_le _) ⟨rfl, rfl⟩
theorem ct8_errorKind (M : Id4 → Int → Int) (b : Bool) : CtI 1 0 yX8_errorKind cX8_errorKind 1 (some .int) [aR (8, 0, 0, 0)] (M, R0 b) (PU (M, R0 b) (M (6, 0, 0, 0) 2)) := by
  refine CtI.mk (by decide +kernel) rfl (Nat.le_of_ble_eq_true rfl) (fun X K F hk => ?_)
  refine aw_aload0 (pc := 0) F dX8_errorKind_0 ?_
  refine aw_getR (pc := 1) F dX8_errorKind_1 fl_8_20 rfl (by first | decide | (simp only [inB, cnt, rcnt]; omega)) rfl nz2 rfl ?_
  refine aw_getI (pc := 4) F dX8_errorKind_4 fl_8_103 rfl (by first | decide | (simp only [inB, cnt, rcnt]; omega)) rfl nz2 ?_
  exact aw_iret (pc := 7) F dX8_errorKind_7 rfl (Nat.zero_le _) ⟨rfl, rfl⟩
theorem ct8_errorPosition (M : Id4 → Int → Int) (b : Bool) : CtI 1 0 yX8_errorPosition cX8_errorPosition 1 (some .int) [aR (8, 0, 0, 0)] (M, R0 b) (PU (M, R0 b) (M (6, 0, 0, 0) 3)) := by
  refine CtI.mk (by decide +kernel) rfl (Nat.le_of_ble_eq_true rfl) (fun X K F hk => ?_)
  refine aw_aload0 (pc := 0) F dX8_errorPosition_0 ?_
  refine aw_getR (pc := 1) F dX8_errorPosition_1 fl_8_20 rfl (by first | decide | (simp only [inB, cnt, rcnt]; omega)) rfl nz2 rfl ?_
  refine aw_getI (pc := 4) F dX8_errorPosition_4 fl_8_106 rfl (by first | decide | (simp only [inB, cnt, rcnt]; omega)) rfl nz3 ?_
  exact aw_iret (pc := 7) F dX8_errorPosition_7 rfl (Nat.zero_le _) ⟨rfl, rfl⟩
/-- one sign more, if there is room -/
def putS (C : Int → Int) (n c : Int) : Int → Int := if n < 160 then upS C n c else C
def putL (n : Int) : Int := if n < 160 then n + 1 else n
theorem nar_ch {x : Int} (h : 0 ≤ x ∧ x < 65536) : vp_nar .char (Int32.ofInt x) = Int32.ofInt x := oi_char h.1 h.2
theorem ct4_put (M : Id4 → Int → Int) (b : Bool) (c n : Int) (hc : 0 ≤ c ∧ c < 65536) (hn : M (4, 0, 0, 0) 1 = n) (h1 : 0 ≤ n ∧ n ≤ 160) : CtV 1 0 yX4_put cX4_put 2 none [aR (4, 0, 0, 0), aI c] (M, R0 b) (fun σ' => ∃ M', σ' = (M', R0 b) ∧ (∀ q, q.1 ≠ 4 → M' q = M q) ∧ M' (4, 0, 0, 0) 1 = putL n ∧ M' (4, 0, 1, 0) = putS (M (4, 0, 1, 0)) n c) := by
  refine CtV.mk (by decide +kernel) rfl (Nat.le_of_ble_eq_true rfl) (fun X K F hk => ?_)
  refine aw_aload0 (pc := 0) F dX4_put_0 ?_
  refine aw_getI (pc := 1) F dX4_put_1 fl_4_15 rfl (by first | decide | (simp only [inB, cnt, rcnt]; omega)) rfl nz1 ?_
  refine aw_sipush (pc := 4) F dX4_put_4 (by decide) ?_
  refine aw_icmp_ge (tgt := 30) (pc := 7) F dX4_put_7 (by decide) (by unfold inR; omega) (by unfold inR; omega) (fun c7 => ?_) (fun c7 => ?_)
  · exact aw_vret (pc := 30) F dX4_put_30 (Nat.zero_le _) (by
      first
      | exact ⟨M, rfl, fun _ _ => rfl, by unfold putL; rw [if_neg (by omega)]; exact hn, by unfold putS; rw [if_neg (by omega)]⟩
      | exact ⟨_, rfl, fun q hq => by rw [upd_off (fun z => hq (by rw [z])), upd_off (fun z => hq (by rw [z]))], by unfold putL; rw [upd_same, if_pos (by omega), upd_ne (Or.inl (by decide)), hn], by unfold putS; rw [if_pos (by omega), upd_off (by decide), upd_row, hn]⟩)
  · refine aw_aload0 (pc := 10) F dX4_put_10 ?_
    refine aw_getR (pc := 11) F dX4_put_11 fl_4_9 rfl (by first | decide | (simp only [inB, cnt, rcnt]; omega)) rfl nz0 rfl ?_
    refine aw_aload0 (pc := 14) F dX4_put_14 ?_
    refine aw_getI (pc := 15) F dX4_put_15 fl_4_15 rfl (by first | decide | (simp only [inB, cnt, rcnt]; omega)) rfl nz1 ?_
    refine aw_iload1 (pc := 18) F dX4_put_18 ?_
    refine aw_cast (pc := 19) F dX4_put_19 rfl (by first | decide | (simp only [inB, cnt, rcnt]; omega)) (by omega) (nar_ch hc) ?_
    refine aw_aload0 (pc := 20) F dX4_put_20 ?_
    refine aw_dupR (pc := 21) F dX4_put_21 ?_
    refine aw_getI (pc := 22) F dX4_put_22 fl_4_15 rfl (by first | decide | (simp only [inB, cnt, rcnt]; omega)) rfl nz1 ?_
    refine aw_iconst (pc := 25) F dX4_put_25 ?_
    refine aw_iadd (pc := 26) F dX4_put_26 ?_
    refine aw_putI (pc := 27) F dX4_put_27 fl_4_15 fpi_4_1 rfl (by first | decide | (simp only [inB, cnt, rcnt]; omega)) rfl nz1 ?_
    exact aw_vret (pc := 30) F dX4_put_30 (Nat.zero_le _) (by
      first
      | exact ⟨M, rfl, fun _ _ => rfl, by unfold putL; rw [if_neg (by omega)]; exact hn, by unfold putS; rw [if_neg (by omega)]⟩
      | exact ⟨_, rfl, fun q hq => by rw [upd_off (fun z => hq (by rw [z])), upd_off (fun z => hq (by rw [z]))], by unfold putL; rw [upd_same, if_pos (by omega), upd_ne (Or.inl (by decide)), hn], by unfold putS; rw [if_pos (by omega), upd_off (by decide), upd_row, hn]⟩)
theorem ct4_clear (M : Id4 → Int → Int) (b : Bool) : CtV 1 0 yX4_clear cX4_clear 1 none [aR (4, 0, 0, 0)] (M, R0 b) (fun σ' => σ' = (updM M (4, 0, 0, 0) 1 0, R0 b)) := by
  refine CtV.mk (by decide +kernel) rfl (Nat.le_of_ble_eq_true rfl) (fun X K F hk => ?_)
  refine aw_aload0 (pc := 0) F dX4_clear_0 ?_
  refine aw_iconst (pc := 1) F dX4_clear_1 ?_
  refine aw_putI (pc := 2) F dX4_clear_2 fl_4_15 fpi_4_1 rfl (by first | decide | (simp only [inB, cnt, rcnt]; omega)) rfl nz1 ?_
  exact aw_vret (pc := 5) F dX4_clear_5 (Nat.zero_le _) rfl
