/-! 10: the reference's plain methods -/
theorem ct9_at (M : Id4 → Int → Int) (b : Bool) (k : Int) : CtI 1 0 yX9_at cX9_at 1 (some .int) [aI k] (M, R0 b) (PU (M, R0 b) (21 + 5 * k)) := by
  refine CtI.mk (by decide +kernel) rfl (Nat.le_of_ble_eq_true rfl) (fun X K F hk => ?_)
  refine aw_bipush (pc := 0) F dX9_at_0 (by decide) ?_
  refine aw_iconst (pc := 2) F dX9_at_2 ?_
  refine aw_iload0 (pc := 3) F dX9_at_3 ?_
  refine aw_imul (pc := 4) F dX9_at_4 ?_
  refine aw_iadd (pc := 5) F dX9_at_5 ?_
  exact aw_iret (pc := 6) F dX9_at_6 rfl (Nat.zero_le _) ⟨rfl, rfl⟩
theorem ct9_of (M : Id4 → Int → Int) (b : Bool) (k w : Int) (h1 : 0 ≤ k ∧ k < 14) (h2 : 0 ≤ w ∧ w < 5) : CtI 2 0 yX9_of cX9_of 3 (some .int) [aR (9, 0, 0, 0), aI k, aI w] (M, R0 b) (PU (M, R0 b) (M (9, 0, 1, 0) (21 + 5 * k + w))) := by
  refine CtI.mk (by decide +kernel) rfl (Nat.le_of_ble_eq_true rfl) (fun X K F hk => ?_)
  refine aw_aload0 (pc := 0) F dX9_of_0 ?_
  refine aw_getR (pc := 1) F dX9_of_1 fl_9_7 rfl (by first | decide | (simp only [inB, cnt, rcnt]; omega)) rfl nz0 rfl ?_
  refine aw_iload1 (pc := 4) F dX9_of_4 ?_
  refine aw_pcallS1 (pc := 5) F dX9_of_5 ml_9_150 (ct9_at _ _ _) (Nat.le_of_ble_eq_true rfl) (by decide) (Nat.zero_le _) ?_
  refine aw_iload2 (pc := 8) F dX9_of_8 ?_
  refine aw_iadd (pc := 9) F dX9_of_9 ?_
  refine aw_iald (pc := 10) F dX9_of_10 rfl (by first | decide | (simp only [inB, cnt, rcnt]; omega)) (by omega) ?_
  exact aw_iret (pc := 11) F dX9_of_11 rfl (Nat.zero_le _) ⟨rfl, rfl⟩
theorem ct9_isIn (M : Id4 → Int → Int) (b : Bool) (v lo hi : Int) (h1 : inR v) (h2 : inR lo) (h3 : inR hi) : CtI 1 0 yX9_isIn cX9_isIn 3 (some .boolean) [aI v, aI lo, aI hi] (M, R0 b) (PU (M, R0 b) (b2i (lo ≤ v ∧ v ≤ hi))) := by
  refine CtI.mk (by decide +kernel) rfl (Nat.le_of_ble_eq_true rfl) (fun X K F hk => ?_)
  refine aw_iload0 (pc := 0) F dX9_isIn_0 ?_
  refine aw_iload1 (pc := 1) F dX9_isIn_1 ?_
  refine aw_icmp_lt (tgt := 14) (pc := 2) F dX9_isIn_2 (by decide) (by assumption) (by assumption) (fun c2 => ?_) (fun c2 => ?_)
  · refine aw_iconst (pc := 14) F dX9_isIn_14 ?_
    exact aw_iret (pc := 15) F dX9_isIn_15 (nar_bool (by first | exact b2i_01 | decide)) (Nat.zero_le _) ⟨by first | exact (b2i_pos ⟨by assumption, by assumption⟩).symm | exact (b2i_neg (by omega)).symm, rfl⟩
  · refine aw_iload0 (pc := 5) F dX9_isIn_5 ?_
    refine aw_iload2 (pc := 6) F dX9_isIn_6 ?_
    refine aw_icmp_gt (tgt := 14) (pc := 7) F dX9_isIn_7 (by decide) (by assumption) (by assumption) (fun c7 => ?_) (fun c7 => ?_)
    · refine aw_iconst (pc := 14) F dX9_isIn_14 ?_
      exact aw_iret (pc := 15) F dX9_isIn_15 (nar_bool (by first | exact b2i_01 | decide)) (Nat.zero_le _) ⟨by first | exact (b2i_pos ⟨by assumption, by assumption⟩).symm | exact (b2i_neg (by omega)).symm, rfl⟩
    · refine aw_iconst (pc := 10) F dX9_isIn_10 ?_
      refine aw_goto (tgt := 15) (pc := 11) F dX9_isIn_11 (by decide) ?_
      exact aw_iret (pc := 15) F dX9_isIn_15 (nar_bool (by first | exact b2i_01 | decide)) (Nat.zero_le _) ⟨by first | exact (b2i_pos ⟨by assumption, by assumption⟩).symm | exact (b2i_neg (by omega)).symm, rfl⟩
theorem ct9_good1 (M : Id4 → Int → Int) (b : Bool) (x : Int) (h1 : x = 0 ∨ x = 1) : CtI 1 0 yX9_good cX9_good 2 (some .boolean) [aR (9, 0, 0, 0), aI x] (M, R0 b) (fun v σ' => v = x ∧ σ' = (thr M (1 - x), R0 b)) := by
  refine CtI.mk (by decide +kernel) rfl (Nat.le_of_ble_eq_true rfl) (fun X K F hk => ?_)
  refine aw_aload0 (pc := 0) F dX9_good_0 ?_
  refine aw_iload1 (pc := 1) F dX9_good_1 ?_
  refine aw_if_eq (tgt := 9) (pc := 2) F dX9_good_2 (by decide) (by unfold inR; omega) (fun c2 => ?_) (fun c2 => ?_)
  · refine aw_iconst (pc := 9) F dX9_good_9 ?_
    refine aw_putI (pc := 10) F dX9_good_10 fl_9_54 fpi_9_4 rfl (by first | decide | (simp only [inB, cnt, rcnt]; omega)) rfl nz4 ?_
    refine aw_iload1 (pc := 13) F dX9_good_13 ?_
    exact aw_iret (pc := 14) F dX9_good_14 (nar_bool h1) (Nat.zero_le _) ⟨rfl, by first | (rw [show x = 0 by assumption]; rfl) | (rw [show x = 1 by omega]; rfl)⟩
  · refine aw_iconst (pc := 5) F dX9_good_5 ?_
    refine aw_goto (tgt := 10) (pc := 6) F dX9_good_6 (by decide) ?_
    refine aw_putI (pc := 10) F dX9_good_10 fl_9_54 fpi_9_4 rfl (by first | decide | (simp only [inB, cnt, rcnt]; omega)) rfl nz4 ?_
    refine aw_iload1 (pc := 13) F dX9_good_13 ?_
    exact aw_iret (pc := 14) F dX9_good_14 (nar_bool h1) (Nat.zero_le _) ⟨rfl, by first | (rw [show x = 0 by assumption]; rfl) | (rw [show x = 1 by omega]; rfl)⟩
theorem ct9_modulo (M : Id4 → Int → Int) (b : Bool) (a : Int) (h1 : inR a) (h2 : 2 ≤ M (9, 0, 1, 0) 0 ∧ M (9, 0, 1, 0) 0 ≤ 24) : CtI 1 0 yX9_modulo cX9_modulo 3 (some .int) [aR (9, 0, 0, 0), aI a] (M, R0 b) (PU (M, R0 b) (a % M (9, 0, 1, 0) 0)) := by
  refine CtI.mk (by decide +kernel) rfl (Nat.le_of_ble_eq_true rfl) (fun X K F hk => ?_)
  have h3 := Int.lt_tmod_of_pos a (show 0 < M (9, 0, 1, 0) 0 by omega)
  have h4 := Int.tmod_lt_of_pos a (show 0 < M (9, 0, 1, 0) 0 by omega)
  refine aw_iload1 (pc := 0) F dX9_modulo_0 ?_
  refine aw_aload0 (pc := 1) F dX9_modulo_1 ?_
  refine aw_getR (pc := 2) F dX9_modulo_2 fl_9_7 rfl (by first | decide | (simp only [inB, cnt, rcnt]; omega)) rfl nz0 rfl ?_
  refine aw_iconst (pc := 5) F dX9_modulo_5 ?_
  refine aw_iald (pc := 6) F dX9_modulo_6 rfl (by first | decide | (simp only [inB, cnt, rcnt]; omega)) (by omega) ?_
  refine aw_irem (pc := 7) F dX9_modulo_7 (by first | assumption | (unfold inR; omega)) (by first | assumption | (unfold inR; omega)) (by omega) (by omega) ?_
  refine aw_istore2 (pc := 8) F dX9_modulo_8 rfl hk.symm ?_
  refine aw_iload2 (pc := 9) F dX9_modulo_9 ?_
  refine aw_if_ge (tgt := 24) (pc := 10) F dX9_modulo_10 (by decide) (by first | assumption | (unfold inR; omega)) (fun c10 => ?_) (fun c10 => ?_)
  · refine aw_iload2 (pc := 24) F dX9_modulo_24 ?_
    exact aw_iret (pc := 25) F dX9_modulo_25 rfl (Nat.zero_le _) ⟨by first | exact tmod_pos (by omega) (by assumption) | exact tmod_neg (by omega) (by assumption), rfl⟩
  · refine aw_iload2 (pc := 13) F dX9_modulo_13 ?_
    refine aw_aload0 (pc := 14) F dX9_modulo_14 ?_
    refine aw_getR (pc := 15) F dX9_modulo_15 fl_9_7 rfl (by first | decide | (simp only [inB, cnt, rcnt]; omega)) rfl nz0 rfl ?_
    refine aw_iconst (pc := 18) F dX9_modulo_18 ?_
    refine aw_iald (pc := 19) F dX9_modulo_19 rfl (by first | decide | (simp only [inB, cnt, rcnt]; omega)) (by omega) ?_
    refine aw_iadd (pc := 20) F dX9_modulo_20 ?_
    refine aw_goto (tgt := 25) (pc := 21) F dX9_modulo_21 (by decide) ?_
    exact aw_iret (pc := 25) F dX9_modulo_25 rfl (Nat.zero_le _) ⟨by first | exact tmod_pos (by omega) (by assumption) | exact tmod_neg (by omega) (by assumption), rfl⟩
theorem ct9_slackBy (M : Id4 → Int → Int) (b : Bool) (k d : Int) (hk9 : 0 ≤ k ∧ k < M (9, 0, 1, 0) 20) (hd9 : -100000 ≤ d ∧ d ≤ 100000) (h : Ok (M (9, 0, 1, 0))) : CtI 3 0 yX9_slackBy cX9_slackBy 3 (some .int) [aR (9, 0, 0, 0), aI k, aI d] (M, R0 b) (PU (M, R0 b) (slBy (M (9, 0, 1, 0)) k d)) := by
  refine CtI.mk (by decide +kernel) rfl (Nat.le_of_ble_eq_true rfl) (fun X K F hk => ?_)
  obtain ⟨hT, hE, hN, hti, hsp⟩ := h
  have h1 := hsp k hk9.1 hk9.2
  unfold SpOk at h1
  refine aw_aload0 (pc := 0) F dX9_slackBy_0 ?_
  refine aw_iload2 (pc := 1) F dX9_slackBy_1 ?_
  refine aw_aload0 (pc := 2) F dX9_slackBy_2 ?_
  refine aw_iload1 (pc := 3) F dX9_slackBy_3 ?_
  refine aw_iconst (pc := 4) F dX9_slackBy_4 ?_
  refine aw_pcallV2 (pc := 5) F dX9_slackBy_5 ml_9_200 rfl (by first | decide | (simp only [inB, cnt, rcnt]; omega)) (ct9_of _ _ _ _ (by omega) (by omega)) (Nat.le_of_ble_eq_true rfl) (by decide) (Nat.zero_le _) ?_
  refine aw_isub (pc := 8) F dX9_slackBy_8 ?_
  refine aw_pcallV1 (pc := 9) F dX9_slackBy_9 ml_9_203 rfl (by first | decide | (simp only [inB, cnt, rcnt]; omega)) (ct9_modulo _ _ _ (by unfold inR; omega) (by omega)) (Nat.le_of_ble_eq_true rfl) (by decide) (Nat.zero_le _) ?_
  exact aw_iret (pc := 12) F dX9_slackBy_12 rfl (Nat.zero_le _) ⟨rfl, rfl⟩
theorem ct9_slackOf (M : Id4 → Int → Int) (b : Bool) (k : Int) (hk9 : 0 ≤ k ∧ k < M (9, 0, 1, 0) 20) (h : Ok (M (9, 0, 1, 0))) : CtI 4 0 yX9_slackOf cX9_slackOf 2 (some .int) [aR (9, 0, 0, 0), aI k] (M, R0 b) (PU (M, R0 b) (slOf (M (9, 0, 1, 0)) k)) := by
  refine CtI.mk (by decide +kernel) rfl (Nat.le_of_ble_eq_true rfl) (fun X K F hk => ?_)
  have h0 := h
  obtain ⟨hT, hE, hN, hti, hsp⟩ := h
  have h1 := hsp k hk9.1 hk9.2
  unfold SpOk at h1
  have h2 := hti _ h1.1.1 h1.1.2
  have h3 := hti _ h1.2.1.1 h1.2.1.2
  refine aw_aload0 (pc := 0) F dX9_slackOf_0 ?_
  refine aw_iload1 (pc := 1) F dX9_slackOf_1 ?_
  refine aw_aload0 (pc := 2) F dX9_slackOf_2 ?_
  refine aw_getR (pc := 3) F dX9_slackOf_3 fl_9_7 rfl (by first | decide | (simp only [inB, cnt, rcnt]; omega)) rfl nz0 rfl ?_
  refine aw_bipush (pc := 6) F dX9_slackOf_6 (by decide) ?_
  refine aw_aload0 (pc := 8) F dX9_slackOf_8 ?_
  refine aw_iload1 (pc := 9) F dX9_slackOf_9 ?_
  refine aw_iconst (pc := 10) F dX9_slackOf_10 ?_
  refine aw_pcallV2 (pc := 11) F dX9_slackOf_11 ml_9_200 rfl (by first | decide | (simp only [inB, cnt, rcnt]; omega)) (ct9_of _ _ _ _ (by omega) (by omega)) (Nat.le_of_ble_eq_true rfl) (by decide) (Nat.zero_le _) ?_
  refine aw_iadd (pc := 14) F dX9_slackOf_14 ?_
  refine aw_iald (pc := 15) F dX9_slackOf_15 rfl (by first | decide | (simp only [inB, cnt, rcnt]; omega)) (by omega) ?_
  refine aw_aload0 (pc := 16) F dX9_slackOf_16 ?_
  refine aw_getR (pc := 17) F dX9_slackOf_17 fl_9_7 rfl (by first | decide | (simp only [inB, cnt, rcnt]; omega)) rfl nz0 rfl ?_
  refine aw_bipush (pc := 20) F dX9_slackOf_20 (by decide) ?_
  refine aw_aload0 (pc := 22) F dX9_slackOf_22 ?_
  refine aw_iload1 (pc := 23) F dX9_slackOf_23 ?_
  refine aw_iconst (pc := 24) F dX9_slackOf_24 ?_
  refine aw_pcallV2 (pc := 25) F dX9_slackOf_25 ml_9_200 rfl (by first | decide | (simp only [inB, cnt, rcnt]; omega)) (ct9_of _ _ _ _ (by omega) (by omega)) (Nat.le_of_ble_eq_true rfl) (by decide) (Nat.zero_le _) ?_
  refine aw_iadd (pc := 28) F dX9_slackOf_28 ?_
  refine aw_iald (pc := 29) F dX9_slackOf_29 rfl (by first | decide | (simp only [inB, cnt, rcnt]; omega)) (by omega) ?_
  refine aw_isub (pc := 30) F dX9_slackOf_30 ?_
  refine aw_pcallV2 (pc := 31) F dX9_slackOf_31 ml_9_206 rfl (by first | decide | (simp only [inB, cnt, rcnt]; omega)) (ct9_slackBy _ _ _ _ hk9 (by omega) h0) (Nat.le_of_ble_eq_true rfl) (by decide) (Nat.zero_le _) ?_
  exact aw_iret (pc := 34) F dX9_slackOf_34 rfl (Nat.zero_le _) ⟨rfl, rfl⟩
theorem ct9_isKeptBy (M : Id4 → Int → Int) (b : Bool) (k d : Int) (hk9 : 0 ≤ k ∧ k < M (9, 0, 1, 0) 20) (hd9 : inR d) (h : Ok (M (9, 0, 1, 0))) : CtI 3 0 yX9_isKeptBy cX9_isKeptBy 3 (some .boolean) [aR (9, 0, 0, 0), aI k, aI d] (M, R0 b) (PU (M, R0 b) (b2i (kpBy (M (9, 0, 1, 0)) k d))) := by
  refine CtI.mk (by decide +kernel) rfl (Nat.le_of_ble_eq_true rfl) (fun X K F hk => ?_)
  obtain ⟨hT, hE, hN, hti, hsp⟩ := h
  have h1 := hsp k hk9.1 hk9.2
  unfold SpOk at h1
  refine aw_iload2 (pc := 0) F dX9_isKeptBy_0 ?_
  refine aw_aload0 (pc := 1) F dX9_isKeptBy_1 ?_
  refine aw_iload1 (pc := 2) F dX9_isKeptBy_2 ?_
  refine aw_iconst (pc := 3) F dX9_isKeptBy_3 ?_
  refine aw_pcallV2 (pc := 4) F dX9_isKeptBy_4 ml_9_200 rfl (by first | decide | (simp only [inB, cnt, rcnt]; omega)) (ct9_of _ _ _ _ (by omega) (by omega)) (Nat.le_of_ble_eq_true rfl) (by decide) (Nat.zero_le _) ?_
  refine aw_aload0 (pc := 7) F dX9_isKeptBy_7 ?_
  refine aw_iload1 (pc := 8) F dX9_isKeptBy_8 ?_
  refine aw_iconst (pc := 9) F dX9_isKeptBy_9 ?_
  refine aw_pcallV2 (pc := 10) F dX9_isKeptBy_10 ml_9_200 rfl (by first | decide | (simp only [inB, cnt, rcnt]; omega)) (ct9_of _ _ _ _ (by omega) (by omega)) (Nat.le_of_ble_eq_true rfl) (by decide) (Nat.zero_le _) ?_
  refine aw_isub (pc := 13) F dX9_isKeptBy_13 ?_
  refine aw_icmp_gt (tgt := 21) (pc := 14) F dX9_isKeptBy_14 (by decide) (by first | assumption | (unfold inR; omega)) (by first | assumption | (unfold inR; omega)) (fun c14 => ?_) (fun c14 => ?_)
  · refine aw_iconst (pc := 21) F dX9_isKeptBy_21 ?_
    exact aw_iret (pc := 22) F dX9_isKeptBy_22 (nar_bool (by first | exact b2i_01 | decide)) (Nat.zero_le _) ⟨by first | exact (b2i_pos (by assumption)).symm | exact (b2i_neg (by unfold kpBy; omega)).symm, rfl⟩
  · refine aw_iconst (pc := 17) F dX9_isKeptBy_17 ?_
    refine aw_goto (tgt := 22) (pc := 18) F dX9_isKeptBy_18 (by decide) ?_
    exact aw_iret (pc := 22) F dX9_isKeptBy_22 (nar_bool (by first | exact b2i_01 | decide)) (Nat.zero_le _) ⟨by first | exact (b2i_pos (by assumption)).symm | exact (b2i_neg (by unfold kpBy; omega)).symm, rfl⟩
theorem ct9_brokenMany (M : Id4 → Int → Int) (b : Bool) (h : Ok (M (9, 0, 1, 0))) : CtI 5 0 yX9_brokenMany cX9_brokenMany 3 (some .int) [aR (9, 0, 0, 0)] (M, R0 b) (PU (M, R0 b) (brk (M (9, 0, 1, 0)))) := by
  refine CtI.mk (by decide +kernel) rfl (Nat.le_of_ble_eq_true rfl) (fun X K F hk => ?_)
  have h0 := h
  obtain ⟨hT, hE, hN, hti, hsp⟩ := h
  have key : ∀ (j i : Nat), (i : Int) + j = M (9, 0, 1, 0) 20 → AW X K 4 [aR (9, 0, 0, 0), aI (sumI (fun k => if kept (M (9, 0, 1, 0)) k then 0 else 1) i), aI i] [] (M, R0 b) 0 (EI X K 0 (PU (M, R0 b) (brk (M (9, 0, 1, 0))))) := by
    intro j
    induction j with
    | zero =>
      intro i hi
      have hbd := sumI_bd (f := fun k => if kept (M (9, 0, 1, 0)) k then 0 else 1) (c := 1) i (fun k _ _ => by split <;> omega)
      refine aw_iload2 (pc := 4) F dX9_brokenMany_4 ?_
      refine aw_aload0 (pc := 5) F dX9_brokenMany_5 ?_
      refine aw_getR (pc := 6) F dX9_brokenMany_6 fl_9_7 rfl (by first | decide | (simp only [inB, cnt, rcnt]; omega)) rfl nz0 rfl ?_
      refine aw_bipush (pc := 9) F dX9_brokenMany_9 (by decide) ?_
      refine aw_iald (pc := 11) F dX9_brokenMany_11 rfl (by first | decide | (simp only [inB, cnt, rcnt]; omega)) (by omega) ?_
      refine aw_icmp_ge (tgt := 37) (pc := 12) F dX9_brokenMany_12 (by decide) (by unfold inR; omega) (by unfold inR; omega) (fun c12 => ?_) (fun c12 => ?_)
      · refine aw_iload1 (pc := 37) F dX9_brokenMany_37 ?_
        exact aw_iret (pc := 38) F dX9_brokenMany_38 rfl (Nat.zero_le _) ⟨by unfold brk; rw [show (M (9, 0, 1, 0) 20).toNat = i by omega], rfl⟩
      · omega
    | succ j ih =>
      intro i hi
      have hs := slOf_bd h0 i
      have e : sumI (fun k => if kept (M (9, 0, 1, 0)) k then 0 else 1) (i + 1) = sumI (fun k => if kept (M (9, 0, 1, 0)) k then 0 else 1) i + (if kept (M (9, 0, 1, 0)) i then 0 else 1) := rfl
      have g := ih (i + 1) (by omega)
      refine aw_iload2 (pc := 4) F dX9_brokenMany_4 ?_
      refine aw_aload0 (pc := 5) F dX9_brokenMany_5 ?_
      refine aw_getR (pc := 6) F dX9_brokenMany_6 fl_9_7 rfl (by first | decide | (simp only [inB, cnt, rcnt]; omega)) rfl nz0 rfl ?_
      refine aw_bipush (pc := 9) F dX9_brokenMany_9 (by decide) ?_
      refine aw_iald (pc := 11) F dX9_brokenMany_11 rfl (by first | decide | (simp only [inB, cnt, rcnt]; omega)) (by omega) ?_
      refine aw_icmp_ge (tgt := 37) (pc := 12) F dX9_brokenMany_12 (by decide) (by unfold inR; omega) (by unfold inR; omega) (fun c12 => ?_) (fun c12 => ?_)
      · omega
      · refine aw_aload0 (pc := 15) F dX9_brokenMany_15 ?_
        refine aw_iload2 (pc := 16) F dX9_brokenMany_16 ?_
        refine aw_aload0 (pc := 17) F dX9_brokenMany_17 ?_
        refine aw_iload2 (pc := 18) F dX9_brokenMany_18 ?_
        refine aw_pcallV1 (pc := 19) F dX9_brokenMany_19 ml_9_209 rfl (by first | decide | (simp only [inB, cnt, rcnt]; omega)) (ct9_slackOf _ _ _ (by omega) h0) (Nat.le_of_ble_eq_true rfl) (by decide) (Nat.zero_le _) ?_
        refine aw_pcallV2 (pc := 22) F dX9_brokenMany_22 ml_9_215 rfl (by first | decide | (simp only [inB, cnt, rcnt]; omega)) (ct9_isKeptBy _ _ _ _ (by omega) (by unfold inR; omega) h0) (Nat.le_of_ble_eq_true rfl) (by decide) (Nat.zero_le _) ?_
        refine aw_ifb_ne (tgt := 31) (pc := 25) F dX9_brokenMany_25 (by decide) (fun c25 => ?_) (fun c25 => ?_)
        · refine aw_iinc2 (pc := 31) F dX9_brokenMany_31 rfl hk.symm ?_
          refine aw_goto (tgt := 4) (pc := 34) F dX9_brokenMany_34 (by decide) ?_
          first | (rw [e, if_pos (by assumption), Int.add_zero] at g; exact g) | (rw [e, if_neg (by assumption)] at g; exact g)
        · refine aw_iinc1 (pc := 28) F dX9_brokenMany_28 rfl hk.symm ?_
          refine aw_iinc2 (pc := 31) F dX9_brokenMany_31 rfl hk.symm ?_
          refine aw_goto (tgt := 4) (pc := 34) F dX9_brokenMany_34 (by decide) ?_
          first | (rw [e, if_pos (by assumption), Int.add_zero] at g; exact g) | (rw [e, if_neg (by assumption)] at g; exact g)
  refine aw_iconst (pc := 0) F dX9_brokenMany_0 ?_
  refine aw_istore1 (pc := 1) F dX9_brokenMany_1 rfl hk.symm ?_
  refine aw_iconst (pc := 2) F dX9_brokenMany_2 ?_
  refine aw_istore2 (pc := 3) F dX9_brokenMany_3 rfl hk.symm ?_
  exact key (M (9, 0, 1, 0) 20).toNat 0 (by omega)
theorem ct9_good3 (M : Id4 → Int → Int) (b : Bool) (x y z : Int) (h1 : x = 0 ∨ x = 1) (h2 : y = 0 ∨ y = 1) (h3 : z = 0 ∨ z = 1) : CtI 1 0 yX9_good__ cX9_good__ 4 (some .boolean) [aR (9, 0, 0, 0), aI x, aI y, aI z] (M, R0 b) (fun v σ' => v = b2i (x = 1 ∧ y = 1 ∧ z = 1) ∧ σ' = (thr M (if x = 0 then 1 else if y = 0 then 2 else if z = 0 then 3 else 0), R0 b)) := by
  refine CtI.mk (by decide +kernel) rfl (Nat.le_of_ble_eq_true rfl) (fun X K F hk => ?_)
  refine aw_aload0 (pc := 0) F dX9_good___0 ?_
  refine aw_iconst (pc := 1) F dX9_good___1 ?_
  refine aw_putI (pc := 2) F dX9_good___2 fl_9_54 fpi_9_4 rfl (by first | decide | (simp only [inB, cnt, rcnt]; omega)) rfl nz4 ?_
  refine aw_iload1 (pc := 5) F dX9_good___5 ?_
  refine aw_if_ne (tgt := 17) (pc := 6) F dX9_good___6 (by decide) (by unfold inR; omega) (fun c6 => ?_) (fun c6 => ?_)
  · refine aw_iload2 (pc := 17) F dX9_good___17 ?_
    refine aw_if_ne (tgt := 29) (pc := 18) F dX9_good___18 (by decide) (by unfold inR; omega) (fun c18 => ?_) (fun c18 => ?_)
    · refine aw_iload3 (pc := 29) F dX9_good___29 ?_
      refine aw_if_ne (tgt := 38) (pc := 30) F dX9_good___30 (by decide) (by unfold inR; omega) (fun c30 => ?_) (fun c30 => ?_)
      · refine aw_aload0 (pc := 38) F dX9_good___38 ?_
        refine aw_getI (pc := 39) F dX9_good___39 fl_9_54 rfl (by first | decide | (simp only [inB, cnt, rcnt]; omega)) rfl nz4 ?_
        refine aw_if_ne (tgt := 49) (pc := 42) F dX9_good___42 (by decide) (by first | exact inR0 | (show inR 1; unfold inR; omega) | (show inR 2; unfold inR; omega) | (show inR 3; unfold inR; omega)) (fun c42 => ?_) (fun c42 => ?_)
        · refine aw_iconst (pc := 49) F dX9_good___49 ?_
          exact aw_iret (pc := 50) F dX9_good___50 (nar_bool (by first | exact b2i_01 | decide)) (Nat.zero_le _) (by first | exact absurd rfl c42 | exact absurd (show (1 : Int) = 0 from c42) (by decide) | exact absurd (show (2 : Int) = 0 from c42) (by decide) | exact absurd (show (3 : Int) = 0 from c42) (by decide) | exact ⟨by first | exact (b2i_pos (by omega)).symm | exact (b2i_neg (by omega)).symm, by simp [upd_upd, thr, *]⟩)
        · refine aw_iconst (pc := 45) F dX9_good___45 ?_
          refine aw_goto (tgt := 50) (pc := 46) F dX9_good___46 (by decide) ?_
          exact aw_iret (pc := 50) F dX9_good___50 (nar_bool (by first | exact b2i_01 | decide)) (Nat.zero_le _) (by first | exact absurd rfl c42 | exact absurd (show (1 : Int) = 0 from c42) (by decide) | exact absurd (show (2 : Int) = 0 from c42) (by decide) | exact absurd (show (3 : Int) = 0 from c42) (by decide) | exact ⟨by first | exact (b2i_pos (by omega)).symm | exact (b2i_neg (by omega)).symm, by simp [upd_upd, thr, *]⟩)
      · refine aw_aload0 (pc := 33) F dX9_good___33 ?_
        refine aw_iconst (pc := 34) F dX9_good___34 ?_
        refine aw_putI (pc := 35) F dX9_good___35 fl_9_54 fpi_9_4 rfl (by first | decide | (simp only [inB, cnt, rcnt]; omega)) rfl nz4 ?_
        refine aw_aload0 (pc := 38) F dX9_good___38 ?_
        refine aw_getI (pc := 39) F dX9_good___39 fl_9_54 rfl (by first | decide | (simp only [inB, cnt, rcnt]; omega)) rfl nz4 ?_
        refine aw_if_ne (tgt := 49) (pc := 42) F dX9_good___42 (by decide) (by first | exact inR0 | (show inR 1; unfold inR; omega) | (show inR 2; unfold inR; omega) | (show inR 3; unfold inR; omega)) (fun c42 => ?_) (fun c42 => ?_)
        · refine aw_iconst (pc := 49) F dX9_good___49 ?_
          exact aw_iret (pc := 50) F dX9_good___50 (nar_bool (by first | exact b2i_01 | decide)) (Nat.zero_le _) (by first | exact absurd rfl c42 | exact absurd (show (1 : Int) = 0 from c42) (by decide) | exact absurd (show (2 : Int) = 0 from c42) (by decide) | exact absurd (show (3 : Int) = 0 from c42) (by decide) | exact ⟨by first | exact (b2i_pos (by omega)).symm | exact (b2i_neg (by omega)).symm, by simp [upd_upd, thr, *]⟩)
        · refine aw_iconst (pc := 45) F dX9_good___45 ?_
          refine aw_goto (tgt := 50) (pc := 46) F dX9_good___46 (by decide) ?_
          exact aw_iret (pc := 50) F dX9_good___50 (nar_bool (by first | exact b2i_01 | decide)) (Nat.zero_le _) (by first | exact absurd rfl c42 | exact absurd (show (1 : Int) = 0 from c42) (by decide) | exact absurd (show (2 : Int) = 0 from c42) (by decide) | exact absurd (show (3 : Int) = 0 from c42) (by decide) | exact ⟨by first | exact (b2i_pos (by omega)).symm | exact (b2i_neg (by omega)).symm, by simp [upd_upd, thr, *]⟩)
    · refine aw_aload0 (pc := 21) F dX9_good___21 ?_
      refine aw_iconst (pc := 22) F dX9_good___22 ?_
      refine aw_putI (pc := 23) F dX9_good___23 fl_9_54 fpi_9_4 rfl (by first | decide | (simp only [inB, cnt, rcnt]; omega)) rfl nz4 ?_
      refine aw_goto (tgt := 38) (pc := 26) F dX9_good___26 (by decide) ?_
      refine aw_aload0 (pc := 38) F dX9_good___38 ?_
      refine aw_getI (pc := 39) F dX9_good___39 fl_9_54 rfl (by first | decide | (simp only [inB, cnt, rcnt]; omega)) rfl nz4 ?_
      refine aw_if_ne (tgt := 49) (pc := 42) F dX9_good___42 (by decide) (by first | exact inR0 | (show inR 1; unfold inR; omega) | (show inR 2; unfold inR; omega) | (show inR 3; unfold inR; omega)) (fun c42 => ?_) (fun c42 => ?_)
      · refine aw_iconst (pc := 49) F dX9_good___49 ?_
        exact aw_iret (pc := 50) F dX9_good___50 (nar_bool (by first | exact b2i_01 | decide)) (Nat.zero_le _) (by first | exact absurd rfl c42 | exact absurd (show (1 : Int) = 0 from c42) (by decide) | exact absurd (show (2 : Int) = 0 from c42) (by decide) | exact absurd (show (3 : Int) = 0 from c42) (by decide) | exact ⟨by first | exact (b2i_pos (by omega)).symm | exact (b2i_neg (by omega)).symm, by simp [upd_upd, thr, *]⟩)
      · refine aw_iconst (pc := 45) F dX9_good___45 ?_
        refine aw_goto (tgt := 50) (pc := 46) F dX9_good___46 (by decide) ?_
        exact aw_iret (pc := 50) F dX9_good___50 (nar_bool (by first | exact b2i_01 | decide)) (Nat.zero_le _) (by first | exact absurd rfl c42 | exact absurd (show (1 : Int) = 0 from c42) (by decide) | exact absurd (show (2 : Int) = 0 from c42) (by decide) | exact absurd (show (3 : Int) = 0 from c42) (by decide) | exact ⟨by first | exact (b2i_pos (by omega)).symm | exact (b2i_neg (by omega)).symm, by simp [upd_upd, thr, *]⟩)
  · refine aw_aload0 (pc := 9) F dX9_good___9 ?_
    refine aw_iconst (pc := 10) F dX9_good___10 ?_
    refine aw_putI (pc := 11) F dX9_good___11 fl_9_54 fpi_9_4 rfl (by first | decide | (simp only [inB, cnt, rcnt]; omega)) rfl nz4 ?_
    refine aw_goto (tgt := 38) (pc := 14) F dX9_good___14 (by decide) ?_
    refine aw_aload0 (pc := 38) F dX9_good___38 ?_
    refine aw_getI (pc := 39) F dX9_good___39 fl_9_54 rfl (by first | decide | (simp only [inB, cnt, rcnt]; omega)) rfl nz4 ?_
    refine aw_if_ne (tgt := 49) (pc := 42) F dX9_good___42 (by decide) (by first | exact inR0 | (show inR 1; unfold inR; omega) | (show inR 2; unfold inR; omega) | (show inR 3; unfold inR; omega)) (fun c42 => ?_) (fun c42 => ?_)
    · refine aw_iconst (pc := 49) F dX9_good___49 ?_
      exact aw_iret (pc := 50) F dX9_good___50 (nar_bool (by first | exact b2i_01 | decide)) (Nat.zero_le _) (by first | exact absurd rfl c42 | exact absurd (show (1 : Int) = 0 from c42) (by decide) | exact absurd (show (2 : Int) = 0 from c42) (by decide) | exact absurd (show (3 : Int) = 0 from c42) (by decide) | exact ⟨by first | exact (b2i_pos (by omega)).symm | exact (b2i_neg (by omega)).symm, by simp [upd_upd, thr, *]⟩)
    · refine aw_iconst (pc := 45) F dX9_good___45 ?_
      refine aw_goto (tgt := 50) (pc := 46) F dX9_good___46 (by decide) ?_
      exact aw_iret (pc := 50) F dX9_good___50 (nar_bool (by first | exact b2i_01 | decide)) (Nat.zero_le _) (by first | exact absurd rfl c42 | exact absurd (show (1 : Int) = 0 from c42) (by decide) | exact absurd (show (2 : Int) = 0 from c42) (by decide) | exact absurd (show (3 : Int) = 0 from c42) (by decide) | exact ⟨by first | exact (b2i_pos (by omega)).symm | exact (b2i_neg (by omega)).symm, by simp [upd_upd, thr, *]⟩)
theorem ct9_good2 (M : Id4 → Int → Int) (b : Bool) (x y : Int) (h1 : x = 0 ∨ x = 1) (h2 : y = 0 ∨ y = 1) : CtI 2 0 yX9_good_ cX9_good_ 3 (some .boolean) [aR (9, 0, 0, 0), aI x, aI y] (M, R0 b) (fun v σ' => v = b2i (x = 1 ∧ y = 1) ∧ σ' = (thr M (if x = 0 then 1 else if y = 0 then 2 else 0), R0 b)) := by
  refine CtI.mk (by decide +kernel) rfl (Nat.le_of_ble_eq_true rfl) (fun X K F hk => ?_)
  refine aw_aload0 (pc := 0) F dX9_good__0 ?_
  refine aw_iload1 (pc := 1) F dX9_good__1 ?_
  refine aw_iload2 (pc := 2) F dX9_good__2 ?_
  refine aw_iconst (pc := 3) F dX9_good__3 ?_
  refine aw_callVI3 (pc := 4) F dX9_good__4 ml_9_57 rfl (by first | decide | (simp only [inB, cnt, rcnt]; omega)) (ct9_good3 _ _ _ _ _ h1 h2 (Or.inr rfl)) (Nat.le_of_ble_eq_true rfl) (by decide) (Nat.zero_le _) (fun v9 σ9 h9_4 => ?_)
  obtain ⟨h9a, h9b⟩ := h9_4
  subst h9b
  exact aw_iret (pc := 7) F dX9_good__7 (nar_bool (by rw [h9a]; exact b2i_01)) (Nat.zero_le _) ⟨by rw [h9a]; exact b2i_congr (by omega), by simp⟩
theorem ct9_isEvent (M : Id4 → Int → Int) (b : Bool) (e : Int) (h1 : inR e) (h2 : 0 ≤ M (9, 0, 1, 0) 1 ∧ M (9, 0, 1, 0) 1 ≤ 6) : CtI 2 0 yX9_isEvent cX9_isEvent 2 (some .boolean) [aR (9, 0, 0, 0), aI e] (M, R0 b) (PU (M, R0 b) (b2i (0 ≤ e ∧ e ≤ M (9, 0, 1, 0) 1 - 1))) := by
  refine CtI.mk (by decide +kernel) rfl (Nat.le_of_ble_eq_true rfl) (fun X K F hk => ?_)
  refine aw_iload1 (pc := 0) F dX9_isEvent_0 ?_
  refine aw_iconst (pc := 1) F dX9_isEvent_1 ?_
  refine aw_aload0 (pc := 2) F dX9_isEvent_2 ?_
  refine aw_getR (pc := 3) F dX9_isEvent_3 fl_9_7 rfl (by first | decide | (simp only [inB, cnt, rcnt]; omega)) rfl nz0 rfl ?_
  refine aw_iconst (pc := 6) F dX9_isEvent_6 ?_
  refine aw_iald (pc := 7) F dX9_isEvent_7 rfl (by first | decide | (simp only [inB, cnt, rcnt]; omega)) (by omega) ?_
  refine aw_iconst (pc := 8) F dX9_isEvent_8 ?_
  refine aw_isub (pc := 9) F dX9_isEvent_9 ?_
  refine aw_pcallS3 (pc := 10) F dX9_isEvent_10 ml_9_121 (ct9_isIn _ _ _ _ _ (by first | assumption | (unfold inR; omega)) (by first | assumption | (unfold inR; omega)) (by first | assumption | (unfold inR; omega))) (Nat.le_of_ble_eq_true rfl) (by decide) (Nat.zero_le _) ?_
  exact aw_iret (pc := 13) F dX9_isEvent_13 (nar_bool (by first | exact b2i_01 | decide)) (Nat.zero_le _) ⟨rfl, rfl⟩
theorem ct9_isSpan (M : Id4 → Int → Int) (b : Bool) (e : Int) (h1 : inR e) (h2 : 0 ≤ M (9, 0, 1, 0) 20 ∧ M (9, 0, 1, 0) 20 ≤ 14) : CtI 2 0 yX9_isSpan cX9_isSpan 2 (some .boolean) [aR (9, 0, 0, 0), aI e] (M, R0 b) (PU (M, R0 b) (b2i (0 ≤ e ∧ e ≤ M (9, 0, 1, 0) 20 - 1))) := by
  refine CtI.mk (by decide +kernel) rfl (Nat.le_of_ble_eq_true rfl) (fun X K F hk => ?_)
  refine aw_iload1 (pc := 0) F dX9_isSpan_0 ?_
  refine aw_iconst (pc := 1) F dX9_isSpan_1 ?_
  refine aw_aload0 (pc := 2) F dX9_isSpan_2 ?_
  refine aw_getR (pc := 3) F dX9_isSpan_3 fl_9_7 rfl (by first | decide | (simp only [inB, cnt, rcnt]; omega)) rfl nz0 rfl ?_
  refine aw_bipush (pc := 6) F dX9_isSpan_6 (by decide) ?_
  refine aw_iald (pc := 8) F dX9_isSpan_8 rfl (by first | decide | (simp only [inB, cnt, rcnt]; omega)) (by omega) ?_
  refine aw_iconst (pc := 9) F dX9_isSpan_9 ?_
  refine aw_isub (pc := 10) F dX9_isSpan_10 ?_
  refine aw_pcallS3 (pc := 11) F dX9_isSpan_11 ml_9_121 (ct9_isIn _ _ _ _ _ (by first | assumption | (unfold inR; omega)) (by first | assumption | (unfold inR; omega)) (by first | assumption | (unfold inR; omega))) (Nat.le_of_ble_eq_true rfl) (by decide) (Nat.zero_le _) ?_
  exact aw_iret (pc := 14) F dX9_isSpan_14 (nar_bool (by first | exact b2i_01 | decide)) (Nat.zero_le _) ⟨rfl, rfl⟩
theorem ct9_isTime (M : Id4 → Int → Int) (b : Bool) (e : Int) (h1 : inR e) (h2 : 2 ≤ M (9, 0, 1, 0) 0 ∧ M (9, 0, 1, 0) 0 ≤ 24) : CtI 2 0 yX9_isTime cX9_isTime 2 (some .boolean) [aR (9, 0, 0, 0), aI e] (M, R0 b) (PU (M, R0 b) (b2i (0 ≤ e ∧ e ≤ M (9, 0, 1, 0) 0 - 1))) := by
  refine CtI.mk (by decide +kernel) rfl (Nat.le_of_ble_eq_true rfl) (fun X K F hk => ?_)
  refine aw_iload1 (pc := 0) F dX9_isTime_0 ?_
  refine aw_iconst (pc := 1) F dX9_isTime_1 ?_
  refine aw_aload0 (pc := 2) F dX9_isTime_2 ?_
  refine aw_getR (pc := 3) F dX9_isTime_3 fl_9_7 rfl (by first | decide | (simp only [inB, cnt, rcnt]; omega)) rfl nz0 rfl ?_
  refine aw_iconst (pc := 6) F dX9_isTime_6 ?_
  refine aw_iald (pc := 7) F dX9_isTime_7 rfl (by first | decide | (simp only [inB, cnt, rcnt]; omega)) (by omega) ?_
  refine aw_iconst (pc := 8) F dX9_isTime_8 ?_
  refine aw_isub (pc := 9) F dX9_isTime_9 ?_
  refine aw_pcallS3 (pc := 10) F dX9_isTime_10 ml_9_121 (ct9_isIn _ _ _ _ _ (by first | assumption | (unfold inR; omega)) (by first | assumption | (unfold inR; omega)) (by first | assumption | (unfold inR; omega))) (Nat.le_of_ble_eq_true rfl) (by decide) (Nat.zero_le _) ?_
  exact aw_iret (pc := 13) F dX9_isTime_13 (nar_bool (by first | exact b2i_01 | decide)) (Nat.zero_le _) ⟨rfl, rfl⟩
theorem ct9_areEvents (M : Id4 → Int → Int) (b : Bool) (x y : Int) (h1 : inR x) (h3 : inR y) (h2 : 0 ≤ M (9, 0, 1, 0) 1 ∧ M (9, 0, 1, 0) 1 ≤ 6) : CtI 3 0 yX9_areEvents cX9_areEvents 3 (some .boolean) [aR (9, 0, 0, 0), aI x, aI y] (M, R0 b) (PU (M, R0 b) (b2i ((0 ≤ x ∧ x ≤ M (9, 0, 1, 0) 1 - 1) ∧ (0 ≤ y ∧ y ≤ M (9, 0, 1, 0) 1 - 1)))) := by
  refine CtI.mk (by decide +kernel) rfl (Nat.le_of_ble_eq_true rfl) (fun X K F hk => ?_)
  refine aw_aload0 (pc := 0) F dX9_areEvents_0 ?_
  refine aw_iload1 (pc := 1) F dX9_areEvents_1 ?_
  refine aw_pcallV1 (pc := 2) F dX9_areEvents_2 ml_9_191 rfl (by first | decide | (simp only [inB, cnt, rcnt]; omega)) (ct9_isEvent _ _ _ (by assumption) (by assumption)) (Nat.le_of_ble_eq_true rfl) (by decide) (Nat.zero_le _) ?_
  refine aw_ifb_eq (tgt := 20) (pc := 5) F dX9_areEvents_5 (by decide) (fun c5 => ?_) (fun c5 => ?_)
  · refine aw_iconst (pc := 20) F dX9_areEvents_20 ?_
    exact aw_iret (pc := 21) F dX9_areEvents_21 (nar_bool (by first | exact b2i_01 | decide)) (Nat.zero_le _) ⟨by first | exact (b2i_pos (by omega)).symm | exact (b2i_neg (by omega)).symm, rfl⟩
  · refine aw_aload0 (pc := 8) F dX9_areEvents_8 ?_
    refine aw_iload2 (pc := 9) F dX9_areEvents_9 ?_
    refine aw_pcallV1 (pc := 10) F dX9_areEvents_10 ml_9_191 rfl (by first | decide | (simp only [inB, cnt, rcnt]; omega)) (ct9_isEvent _ _ _ (by assumption) (by assumption)) (Nat.le_of_ble_eq_true rfl) (by decide) (Nat.zero_le _) ?_
    refine aw_ifb_eq (tgt := 20) (pc := 13) F dX9_areEvents_13 (by decide) (fun c13 => ?_) (fun c13 => ?_)
    · refine aw_iconst (pc := 20) F dX9_areEvents_20 ?_
      exact aw_iret (pc := 21) F dX9_areEvents_21 (nar_bool (by first | exact b2i_01 | decide)) (Nat.zero_le _) ⟨by first | exact (b2i_pos (by omega)).symm | exact (b2i_neg (by omega)).symm, rfl⟩
    · refine aw_iconst (pc := 16) F dX9_areEvents_16 ?_
      refine aw_goto (tgt := 21) (pc := 17) F dX9_areEvents_17 (by decide) ?_
      exact aw_iret (pc := 21) F dX9_areEvents_21 (nar_bool (by first | exact b2i_01 | decide)) (Nat.zero_le _) ⟨by first | exact (b2i_pos (by omega)).symm | exact (b2i_neg (by omega)).symm, rfl⟩
theorem ct9_durationOf (M : Id4 → Int → Int) (b : Bool) (k : Int) (hk9 : 0 ≤ k ∧ k < M (9, 0, 1, 0) 20) (h : Ok (M (9, 0, 1, 0))) : CtI 5 0 yX9_durationOf cX9_durationOf 2 (some .int) [aR (9, 0, 0, 0), aI k] (M, R0 b) (PU (M, R0 b) (M (9, 0, 1, 0) (21 + 5 * k + 2) + slOf (M (9, 0, 1, 0)) k)) := by
  refine CtI.mk (by decide +kernel) rfl (Nat.le_of_ble_eq_true rfl) (fun X K F hk => ?_)
  have hN := h.2.2.1
  refine aw_aload0 (pc := 0) F dX9_durationOf_0 ?_
  refine aw_iload1 (pc := 1) F dX9_durationOf_1 ?_
  refine aw_iconst (pc := 2) F dX9_durationOf_2 ?_
  refine aw_pcallV2 (pc := 3) F dX9_durationOf_3 ml_9_200 rfl (by first | decide | (simp only [inB, cnt, rcnt]; omega)) (ct9_of _ _ _ _ (by omega) (by omega)) (Nat.le_of_ble_eq_true rfl) (by decide) (Nat.zero_le _) ?_
  refine aw_aload0 (pc := 6) F dX9_durationOf_6 ?_
  refine aw_iload1 (pc := 7) F dX9_durationOf_7 ?_
  refine aw_pcallV1 (pc := 8) F dX9_durationOf_8 ml_9_209 rfl (by first | decide | (simp only [inB, cnt, rcnt]; omega)) (ct9_slackOf _ _ _ hk9 h) (Nat.le_of_ble_eq_true rfl) (by decide) (Nat.zero_le _) ?_
  refine aw_iadd (pc := 11) F dX9_durationOf_11 ?_
  exact aw_iret (pc := 12) F dX9_durationOf_12 rfl (Nat.zero_le _) ⟨rfl, rfl⟩
theorem ct9_costNow (M : Id4 → Int → Int) (b : Bool) (h : Ok (M (9, 0, 1, 0))) : CtI 5 0 yX9_costNow cX9_costNow 3 (some .int) [aR (9, 0, 0, 0)] (M, R0 b) (PU (M, R0 b) (cst (M (9, 0, 1, 0)))) := by
  refine CtI.mk (by decide +kernel) rfl (Nat.le_of_ble_eq_true rfl) (fun X K F hk => ?_)
  have hN := h.2.2.1
  have key : ∀ (j i : Nat), (i : Int) + j = M (9, 0, 1, 0) 20 → AW X K 4 [aR (9, 0, 0, 0), aI (sumI (fun k => M (9, 0, 1, 0) (21 + 5 * k + 4) * slOf (M (9, 0, 1, 0)) k) i), aI i] [] (M, R0 b) 0 (EI X K 0 (PU (M, R0 b) (cst (M (9, 0, 1, 0))))) := by
    intro j
    induction j with
    | zero =>
      intro i hi
      refine aw_iload2 (pc := 4) F dX9_costNow_4 ?_
      refine aw_aload0 (pc := 5) F dX9_costNow_5 ?_
      refine aw_getR (pc := 6) F dX9_costNow_6 fl_9_7 rfl (by first | decide | (simp only [inB, cnt, rcnt]; omega)) rfl nz0 rfl ?_
      refine aw_bipush (pc := 9) F dX9_costNow_9 (by decide) ?_
      refine aw_iald (pc := 11) F dX9_costNow_11 rfl (by first | decide | (simp only [inB, cnt, rcnt]; omega)) (by omega) ?_
      refine aw_icmp_ge (tgt := 36) (pc := 12) F dX9_costNow_12 (by decide) (by unfold inR; omega) (by unfold inR; omega) (fun c12 => ?_) (fun c12 => ?_)
      · refine aw_iload1 (pc := 36) F dX9_costNow_36 ?_
        exact aw_iret (pc := 37) F dX9_costNow_37 rfl (Nat.zero_le _) ⟨by unfold cst; rw [show (M (9, 0, 1, 0) 20).toNat = i by omega], rfl⟩
      · omega
    | succ j ih =>
      intro i hi
      have g := ih (i + 1) (by omega)
      refine aw_iload2 (pc := 4) F dX9_costNow_4 ?_
      refine aw_aload0 (pc := 5) F dX9_costNow_5 ?_
      refine aw_getR (pc := 6) F dX9_costNow_6 fl_9_7 rfl (by first | decide | (simp only [inB, cnt, rcnt]; omega)) rfl nz0 rfl ?_
      refine aw_bipush (pc := 9) F dX9_costNow_9 (by decide) ?_
      refine aw_iald (pc := 11) F dX9_costNow_11 rfl (by first | decide | (simp only [inB, cnt, rcnt]; omega)) (by omega) ?_
      refine aw_icmp_ge (tgt := 36) (pc := 12) F dX9_costNow_12 (by decide) (by unfold inR; omega) (by unfold inR; omega) (fun c12 => ?_) (fun c12 => ?_)
      · omega
      · refine aw_iload1 (pc := 15) F dX9_costNow_15 ?_
        refine aw_aload0 (pc := 16) F dX9_costNow_16 ?_
        refine aw_iload2 (pc := 17) F dX9_costNow_17 ?_
        refine aw_iconst (pc := 18) F dX9_costNow_18 ?_
        refine aw_pcallV2 (pc := 19) F dX9_costNow_19 ml_9_200 rfl (by first | decide | (simp only [inB, cnt, rcnt]; omega)) (ct9_of _ _ _ _ (by omega) (by omega)) (Nat.le_of_ble_eq_true rfl) (by decide) (Nat.zero_le _) ?_
        refine aw_aload0 (pc := 22) F dX9_costNow_22 ?_
        refine aw_iload2 (pc := 23) F dX9_costNow_23 ?_
        refine aw_pcallV1 (pc := 24) F dX9_costNow_24 ml_9_209 rfl (by first | decide | (simp only [inB, cnt, rcnt]; omega)) (ct9_slackOf _ _ _ (by omega) h) (Nat.le_of_ble_eq_true rfl) (by decide) (Nat.zero_le _) ?_
        refine aw_imul (pc := 27) F dX9_costNow_27 ?_
        refine aw_iadd (pc := 28) F dX9_costNow_28 ?_
        refine aw_istore1 (pc := 29) F dX9_costNow_29 rfl hk.symm ?_
        refine aw_iinc2 (pc := 30) F dX9_costNow_30 rfl hk.symm ?_
        refine aw_goto (tgt := 4) (pc := 33) F dX9_costNow_33 (by decide) ?_
        exact g
  refine aw_iconst (pc := 0) F dX9_costNow_0 ?_
  refine aw_istore1 (pc := 1) F dX9_costNow_1 rfl hk.symm ?_
  refine aw_iconst (pc := 2) F dX9_costNow_2 ?_
  refine aw_istore2 (pc := 3) F dX9_costNow_3 rfl hk.symm ?_
  exact key (M (9, 0, 1, 0) 20).toNat 0 (by omega)
theorem ct9_weights (M : Id4 → Int → Int) (b : Bool) (h : Ok (M (9, 0, 1, 0))) : CtI 3 0 yX9_weights cX9_weights 3 (some .int) [aR (9, 0, 0, 0)] (M, R0 b) (PU (M, R0 b) (wts (M (9, 0, 1, 0)))) := by
  refine CtI.mk (by decide +kernel) rfl (Nat.le_of_ble_eq_true rfl) (fun X K F hk => ?_)
  have hN := h.2.2.1
  have key : ∀ (j i : Nat), (i : Int) + j = M (9, 0, 1, 0) 20 → AW X K 4 [aR (9, 0, 0, 0), aI (sumI (fun k => M (9, 0, 1, 0) (21 + 5 * k + 4)) i), aI i] [] (M, R0 b) 0 (EI X K 0 (PU (M, R0 b) (wts (M (9, 0, 1, 0))))) := by
    intro j
    induction j with
    | zero =>
      intro i hi
      refine aw_iload2 (pc := 4) F dX9_weights_4 ?_
      refine aw_aload0 (pc := 5) F dX9_weights_5 ?_
      refine aw_getR (pc := 6) F dX9_weights_6 fl_9_7 rfl (by first | decide | (simp only [inB, cnt, rcnt]; omega)) rfl nz0 rfl ?_
      refine aw_bipush (pc := 9) F dX9_weights_9 (by decide) ?_
      refine aw_iald (pc := 11) F dX9_weights_11 rfl (by first | decide | (simp only [inB, cnt, rcnt]; omega)) (by omega) ?_
      refine aw_icmp_ge (tgt := 30) (pc := 12) F dX9_weights_12 (by decide) (by unfold inR; omega) (by unfold inR; omega) (fun c12 => ?_) (fun c12 => ?_)
      · refine aw_iload1 (pc := 30) F dX9_weights_30 ?_
        exact aw_iret (pc := 31) F dX9_weights_31 rfl (Nat.zero_le _) ⟨by unfold wts; rw [show (M (9, 0, 1, 0) 20).toNat = i by omega], rfl⟩
      · omega
    | succ j ih =>
      intro i hi
      have g := ih (i + 1) (by omega)
      refine aw_iload2 (pc := 4) F dX9_weights_4 ?_
      refine aw_aload0 (pc := 5) F dX9_weights_5 ?_
      refine aw_getR (pc := 6) F dX9_weights_6 fl_9_7 rfl (by first | decide | (simp only [inB, cnt, rcnt]; omega)) rfl nz0 rfl ?_
      refine aw_bipush (pc := 9) F dX9_weights_9 (by decide) ?_
      refine aw_iald (pc := 11) F dX9_weights_11 rfl (by first | decide | (simp only [inB, cnt, rcnt]; omega)) (by omega) ?_
      refine aw_icmp_ge (tgt := 30) (pc := 12) F dX9_weights_12 (by decide) (by unfold inR; omega) (by unfold inR; omega) (fun c12 => ?_) (fun c12 => ?_)
      · omega
      · refine aw_iload1 (pc := 15) F dX9_weights_15 ?_
        refine aw_aload0 (pc := 16) F dX9_weights_16 ?_
        refine aw_iload2 (pc := 17) F dX9_weights_17 ?_
        refine aw_iconst (pc := 18) F dX9_weights_18 ?_
        refine aw_pcallV2 (pc := 19) F dX9_weights_19 ml_9_200 rfl (by first | decide | (simp only [inB, cnt, rcnt]; omega)) (ct9_of _ _ _ _ (by omega) (by omega)) (Nat.le_of_ble_eq_true rfl) (by decide) (Nat.zero_le _) ?_
        refine aw_iadd (pc := 22) F dX9_weights_22 ?_
        refine aw_istore1 (pc := 23) F dX9_weights_23 rfl hk.symm ?_
        refine aw_iinc2 (pc := 24) F dX9_weights_24 rfl hk.symm ?_
        refine aw_goto (tgt := 4) (pc := 27) F dX9_weights_27 (by decide) ?_
        exact g
  refine aw_iconst (pc := 0) F dX9_weights_0 ?_
  refine aw_istore1 (pc := 1) F dX9_weights_1 rfl hk.symm ?_
  refine aw_iconst (pc := 2) F dX9_weights_2 ?_
  refine aw_istore2 (pc := 3) F dX9_weights_3 rfl hk.symm ?_
  exact key (M (9, 0, 1, 0) 20).toNat 0 (by omega)
