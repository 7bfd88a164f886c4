/-! 52: the class's questions of the cycles -/
theorem ct0_sumOf23 (M : Id4 → Int → Int) (b9 : Bool) (S : Int → Int) (c : Int) (hR : plR M 0 S) (h : Ok S) (h0 : 0 ≤ c) (h1 : c < cyM S) (hc : cyR S M c) : CtI 1 0 yX0_sumOf cX0_sumOf 7 (some .int) [aR (0, 0, 0, 0), aI c, aR (5, 0, 7, 0), aR (5, 0, 8, 0)] (M, R0 b9) (PU (M, R0 b9) (soN S c 2 3 (cyL S c))) := by
  refine CtI.mk (by decide +kernel) rfl (Nat.le_of_ble_eq_true rfl) (fun X K F hk => ?_)
  have hN := h.2.2.1
  have hE := h.2.1
  have c14 : c < 14 := by have : cyM S ≤ ((S 20).toNat : Int) := (cyN_bd (S := S) (S 20).toNat).2; omega
  obtain ⟨w1, w2⟩ := hc
  have lb := cyL_bd h h0 h1
  have key : ∀ (j i : Nat) (w6 : AV), i + j = cyL S c → wide w6 = false → AW X K 6 [aR (0, 0, 0, 0), aI c, aR (5, 0, 7, 0), aR (5, 0, 8, 0), aI (soN S c 2 3 i), aI i, w6] [] (M, R0 b9) 0 (EI X K 0 (PU (M, R0 b9) (soN S c 2 3 (cyL S c)))) := by
    intro j
    induction j with
    | zero =>
      intro i w6 hi g6
      refine aw_iload5 (pc := 6) F dX0_sumOf_6 ?_
      refine aw_aload0 (pc := 8) F dX0_sumOf_8 ?_
      refine aw_getR (pc := 9) F dX0_sumOf_9 fl_0_15 rfl (by first | decide | (simp only [inB, cnt, rcnt]; omega)) rfl nz1 rfl ?_
      refine aw_iload1 (pc := 12) F dX0_sumOf_12 ?_
      refine aw_iald (pc := 13) F dX0_sumOf_13 rfl (by first | decide | (simp only [inB, cnt, rcnt]; omega)) (by omega) ?_
      refine aw_icmp_ge (tgt := 63) (pc := 14) F dX0_sumOf_14 (by decide) (by unfold inR; omega) (by unfold inR; omega) (fun c14 => ?_) (fun c14 => ?_)
      · refine aw_iload4 (pc := 63) F dX0_sumOf_63 ?_
        exact aw_iret (pc := 65) F dX0_sumOf_65 rfl (Nat.zero_le _) ⟨by rw [show i = cyL S c by omega], rfl⟩
      · omega
    | succ j ih =>
      intro i w6 hi g6
      obtain ⟨v1, v2⟩ := w2 i (by omega)
      have kin := cyK_in h h0 h1 i (by omega)
      have b01 := cyB_01 (S := S) (c := c) i
      have e9 : soN S c 2 3 (i + 1) = soN S c 2 3 i + (if cyB S c i = 0 then - S (21 + 5 * cyK S c i + 3) else S (21 + 5 * cyK S c i + 2)) := rfl
      have g := fun w6 => ih (i + 1) w6 (by omega)
      obtain ⟨f0, f1, f2, f3, f4⟩ := hR.2.2 _ kin.1 kin.2
      have gv : (0 < cyG S c i ↔ ¬ cyB S c i = 0) := by
        unfold cyG
        split
        · rename_i z; exact ⟨fun q => absurd q (by decide), fun q => absurd z q⟩
        · rename_i z; exact ⟨fun _ => z, fun _ => by decide⟩
      have gi : inR (cyG S c i) := by unfold cyG inR; split <;> decide
      refine aw_iload5 (pc := 6) F dX0_sumOf_6 ?_
      refine aw_aload0 (pc := 8) F dX0_sumOf_8 ?_
      refine aw_getR (pc := 9) F dX0_sumOf_9 fl_0_15 rfl (by first | decide | (simp only [inB, cnt, rcnt]; omega)) rfl nz1 rfl ?_
      refine aw_iload1 (pc := 12) F dX0_sumOf_12 ?_
      refine aw_iald (pc := 13) F dX0_sumOf_13 rfl (by first | decide | (simp only [inB, cnt, rcnt]; omega)) (by omega) ?_
      refine aw_icmp_ge (tgt := 63) (pc := 14) F dX0_sumOf_14 (by decide) (by unfold inR; omega) (by unfold inR; omega) (fun c14 => ?_) (fun c14 => ?_)
      · omega
      · refine aw_aload0 (pc := 17) F dX0_sumOf_17 ?_
        refine aw_getR (pc := 18) F dX0_sumOf_18 fl_0_21 rfl (by first | decide | (simp only [inB, cnt, rcnt]; omega)) rfl nz2 rfl ?_
        refine aw_iload1 (pc := 21) F dX0_sumOf_21 ?_
        refine aw_aald (pc := 22) F dX0_sumOf_22 rfl (by decide) (by first | decide | (simp only [inB, cnt, rcnt]; omega)) (by omega) rfl ?_
        refine aw_iload5 (pc := 23) F dX0_sumOf_23 ?_
        refine aw_iald (pc := 25) F dX0_sumOf_25 rfl (by first | decide | (simp only [inB, cnt, rcnt]; omega)) (by omega) ?_
        rw [v1]
        refine aw_istore6 (pc := 26) F dX0_sumOf_26 (by simp only [List.all_cons, List.all_nil, g6]; rfl) hk.symm ?_
        refine aw_iload4 (pc := 28) F dX0_sumOf_28 ?_
        refine aw_aload0 (pc := 30) F dX0_sumOf_30 ?_
        refine aw_getR (pc := 31) F dX0_sumOf_31 fl_0_24 rfl (by first | decide | (simp only [inB, cnt, rcnt]; omega)) rfl nz3 rfl ?_
        refine aw_iload1 (pc := 34) F dX0_sumOf_34 ?_
        refine aw_aald (pc := 35) F dX0_sumOf_35 rfl (by decide) (by first | decide | (simp only [inB, cnt, rcnt]; omega)) (by omega) rfl ?_
        refine aw_iload5 (pc := 36) F dX0_sumOf_36 ?_
        refine aw_iald (pc := 38) F dX0_sumOf_38 rfl (by first | decide | (simp only [inB, cnt, rcnt]; omega)) (by omega) ?_
        rw [v2]
        refine aw_if_le (tgt := 49) (pc := 39) F dX0_sumOf_39 (by decide) gi (fun c39 => ?_) (fun c39 => ?_)
        · refine aw_aload3 (pc := 49) F dX0_sumOf_49 ?_
          refine aw_iload6 (pc := 50) F dX0_sumOf_50 ?_
          refine aw_iald (pc := 52) F dX0_sumOf_52 rfl (by first | decide | (simp only [inB, cnt, rcnt]; omega)) (by omega) ?_
          refine aw_ineg (pc := 53) F dX0_sumOf_53 ?_
          refine aw_iadd (pc := 54) F dX0_sumOf_54 ?_
          refine aw_istore4 (pc := 55) F dX0_sumOf_55 (by simp only [List.all_cons, List.all_nil, g6]; rfl) hk.symm ?_
          refine aw_iinc5 (pc := 57) F dX0_sumOf_57 (by simp only [List.all_cons, List.all_nil, g6]; rfl) hk.symm ?_
          refine aw_goto (tgt := 6) (pc := 60) F dX0_sumOf_60 (by decide) ?_
          have g2 := g (aI (cyK S c i)) rfl
          rw [e9] at g2
          first | (rw [if_neg (gv.mp c39)] at g2; rw [f2]; exact g2) | (rw [if_pos (Classical.byContradiction fun z => by have := gv.mpr z; omega)] at g2; rw [f3]; exact g2)
        · refine aw_aload2 (pc := 42) F dX0_sumOf_42 ?_
          refine aw_iload6 (pc := 43) F dX0_sumOf_43 ?_
          refine aw_iald (pc := 45) F dX0_sumOf_45 rfl (by first | decide | (simp only [inB, cnt, rcnt]; omega)) (by omega) ?_
          refine aw_goto (tgt := 54) (pc := 46) F dX0_sumOf_46 (by decide) ?_
          refine aw_iadd (pc := 54) F dX0_sumOf_54 ?_
          refine aw_istore4 (pc := 55) F dX0_sumOf_55 (by simp only [List.all_cons, List.all_nil, g6]; rfl) hk.symm ?_
          refine aw_iinc5 (pc := 57) F dX0_sumOf_57 (by simp only [List.all_cons, List.all_nil, g6]; rfl) hk.symm ?_
          refine aw_goto (tgt := 6) (pc := 60) F dX0_sumOf_60 (by decide) ?_
          have g2 := g (aI (cyK S c i)) rfl
          rw [e9] at g2
          first | (rw [if_neg (gv.mp c39)] at g2; rw [f2]; exact g2) | (rw [if_pos (Classical.byContradiction fun z => by have := gv.mpr z; omega)] at g2; rw [f3]; exact g2)
  refine aw_iconst (pc := 0) F dX0_sumOf_0 ?_
  refine aw_istore4 (pc := 1) F dX0_sumOf_1 rfl hk.symm ?_
  refine aw_iconst (pc := 3) F dX0_sumOf_3 ?_
  refine aw_istore5 (pc := 4) F dX0_sumOf_4 rfl hk.symm ?_
  exact key (cyL S c) 0 aX (by omega) rfl
theorem ct0_sumOf32 (M : Id4 → Int → Int) (b9 : Bool) (S : Int → Int) (c : Int) (hR : plR M 0 S) (h : Ok S) (h0 : 0 ≤ c) (h1 : c < cyM S) (hc : cyR S M c) : CtI 1 0 yX0_sumOf cX0_sumOf 7 (some .int) [aR (0, 0, 0, 0), aI c, aR (5, 0, 8, 0), aR (5, 0, 7, 0)] (M, R0 b9) (PU (M, R0 b9) (soN S c 3 2 (cyL S c))) := by
  refine CtI.mk (by decide +kernel) rfl (Nat.le_of_ble_eq_true rfl) (fun X K F hk => ?_)
  have hN := h.2.2.1
  have hE := h.2.1
  have c14 : c < 14 := by have : cyM S ≤ ((S 20).toNat : Int) := (cyN_bd (S := S) (S 20).toNat).2; omega
  obtain ⟨w1, w2⟩ := hc
  have lb := cyL_bd h h0 h1
  have key : ∀ (j i : Nat) (w6 : AV), i + j = cyL S c → wide w6 = false → AW X K 6 [aR (0, 0, 0, 0), aI c, aR (5, 0, 8, 0), aR (5, 0, 7, 0), aI (soN S c 3 2 i), aI i, w6] [] (M, R0 b9) 0 (EI X K 0 (PU (M, R0 b9) (soN S c 3 2 (cyL S c)))) := by
    intro j
    induction j with
    | zero =>
      intro i w6 hi g6
      refine aw_iload5 (pc := 6) F dX0_sumOf_6 ?_
      refine aw_aload0 (pc := 8) F dX0_sumOf_8 ?_
      refine aw_getR (pc := 9) F dX0_sumOf_9 fl_0_15 rfl (by first | decide | (simp only [inB, cnt, rcnt]; omega)) rfl nz1 rfl ?_
      refine aw_iload1 (pc := 12) F dX0_sumOf_12 ?_
      refine aw_iald (pc := 13) F dX0_sumOf_13 rfl (by first | decide | (simp only [inB, cnt, rcnt]; omega)) (by omega) ?_
      refine aw_icmp_ge (tgt := 63) (pc := 14) F dX0_sumOf_14 (by decide) (by unfold inR; omega) (by unfold inR; omega) (fun c14 => ?_) (fun c14 => ?_)
      · refine aw_iload4 (pc := 63) F dX0_sumOf_63 ?_
        exact aw_iret (pc := 65) F dX0_sumOf_65 rfl (Nat.zero_le _) ⟨by rw [show i = cyL S c by omega], rfl⟩
      · omega
    | succ j ih =>
      intro i w6 hi g6
      obtain ⟨v1, v2⟩ := w2 i (by omega)
      have kin := cyK_in h h0 h1 i (by omega)
      have b01 := cyB_01 (S := S) (c := c) i
      have e9 : soN S c 3 2 (i + 1) = soN S c 3 2 i + (if cyB S c i = 0 then - S (21 + 5 * cyK S c i + 2) else S (21 + 5 * cyK S c i + 3)) := rfl
      have g := fun w6 => ih (i + 1) w6 (by omega)
      obtain ⟨f0, f1, f2, f3, f4⟩ := hR.2.2 _ kin.1 kin.2
      have gv : (0 < cyG S c i ↔ ¬ cyB S c i = 0) := by
        unfold cyG
        split
        · rename_i z; exact ⟨fun q => absurd q (by decide), fun q => absurd z q⟩
        · rename_i z; exact ⟨fun _ => z, fun _ => by decide⟩
      have gi : inR (cyG S c i) := by unfold cyG inR; split <;> decide
      refine aw_iload5 (pc := 6) F dX0_sumOf_6 ?_
      refine aw_aload0 (pc := 8) F dX0_sumOf_8 ?_
      refine aw_getR (pc := 9) F dX0_sumOf_9 fl_0_15 rfl (by first | decide | (simp only [inB, cnt, rcnt]; omega)) rfl nz1 rfl ?_
      refine aw_iload1 (pc := 12) F dX0_sumOf_12 ?_
      refine aw_iald (pc := 13) F dX0_sumOf_13 rfl (by first | decide | (simp only [inB, cnt, rcnt]; omega)) (by omega) ?_
      refine aw_icmp_ge (tgt := 63) (pc := 14) F dX0_sumOf_14 (by decide) (by unfold inR; omega) (by unfold inR; omega) (fun c14 => ?_) (fun c14 => ?_)
      · omega
      · refine aw_aload0 (pc := 17) F dX0_sumOf_17 ?_
        refine aw_getR (pc := 18) F dX0_sumOf_18 fl_0_21 rfl (by first | decide | (simp only [inB, cnt, rcnt]; omega)) rfl nz2 rfl ?_
        refine aw_iload1 (pc := 21) F dX0_sumOf_21 ?_
        refine aw_aald (pc := 22) F dX0_sumOf_22 rfl (by decide) (by first | decide | (simp only [inB, cnt, rcnt]; omega)) (by omega) rfl ?_
        refine aw_iload5 (pc := 23) F dX0_sumOf_23 ?_
        refine aw_iald (pc := 25) F dX0_sumOf_25 rfl (by first | decide | (simp only [inB, cnt, rcnt]; omega)) (by omega) ?_
        rw [v1]
        refine aw_istore6 (pc := 26) F dX0_sumOf_26 (by simp only [List.all_cons, List.all_nil, g6]; rfl) hk.symm ?_
        refine aw_iload4 (pc := 28) F dX0_sumOf_28 ?_
        refine aw_aload0 (pc := 30) F dX0_sumOf_30 ?_
        refine aw_getR (pc := 31) F dX0_sumOf_31 fl_0_24 rfl (by first | decide | (simp only [inB, cnt, rcnt]; omega)) rfl nz3 rfl ?_
        refine aw_iload1 (pc := 34) F dX0_sumOf_34 ?_
        refine aw_aald (pc := 35) F dX0_sumOf_35 rfl (by decide) (by first | decide | (simp only [inB, cnt, rcnt]; omega)) (by omega) rfl ?_
        refine aw_iload5 (pc := 36) F dX0_sumOf_36 ?_
        refine aw_iald (pc := 38) F dX0_sumOf_38 rfl (by first | decide | (simp only [inB, cnt, rcnt]; omega)) (by omega) ?_
        rw [v2]
        refine aw_if_le (tgt := 49) (pc := 39) F dX0_sumOf_39 (by decide) gi (fun c39 => ?_) (fun c39 => ?_)
        · refine aw_aload3 (pc := 49) F dX0_sumOf_49 ?_
          refine aw_iload6 (pc := 50) F dX0_sumOf_50 ?_
          refine aw_iald (pc := 52) F dX0_sumOf_52 rfl (by first | decide | (simp only [inB, cnt, rcnt]; omega)) (by omega) ?_
          refine aw_ineg (pc := 53) F dX0_sumOf_53 ?_
          refine aw_iadd (pc := 54) F dX0_sumOf_54 ?_
          refine aw_istore4 (pc := 55) F dX0_sumOf_55 (by simp only [List.all_cons, List.all_nil, g6]; rfl) hk.symm ?_
          refine aw_iinc5 (pc := 57) F dX0_sumOf_57 (by simp only [List.all_cons, List.all_nil, g6]; rfl) hk.symm ?_
          refine aw_goto (tgt := 6) (pc := 60) F dX0_sumOf_60 (by decide) ?_
          have g2 := g (aI (cyK S c i)) rfl
          rw [e9] at g2
          first | (rw [if_neg (gv.mp c39)] at g2; rw [f3]; exact g2) | (rw [if_pos (Classical.byContradiction fun z => by have := gv.mpr z; omega)] at g2; rw [f2]; exact g2)
        · refine aw_aload2 (pc := 42) F dX0_sumOf_42 ?_
          refine aw_iload6 (pc := 43) F dX0_sumOf_43 ?_
          refine aw_iald (pc := 45) F dX0_sumOf_45 rfl (by first | decide | (simp only [inB, cnt, rcnt]; omega)) (by omega) ?_
          refine aw_goto (tgt := 54) (pc := 46) F dX0_sumOf_46 (by decide) ?_
          refine aw_iadd (pc := 54) F dX0_sumOf_54 ?_
          refine aw_istore4 (pc := 55) F dX0_sumOf_55 (by simp only [List.all_cons, List.all_nil, g6]; rfl) hk.symm ?_
          refine aw_iinc5 (pc := 57) F dX0_sumOf_57 (by simp only [List.all_cons, List.all_nil, g6]; rfl) hk.symm ?_
          refine aw_goto (tgt := 6) (pc := 60) F dX0_sumOf_60 (by decide) ?_
          have g2 := g (aI (cyK S c i)) rfl
          rw [e9] at g2
          first | (rw [if_neg (gv.mp c39)] at g2; rw [f3]; exact g2) | (rw [if_pos (Classical.byContradiction fun z => by have := gv.mpr z; omega)] at g2; rw [f2]; exact g2)
  refine aw_iconst (pc := 0) F dX0_sumOf_0 ?_
  refine aw_istore4 (pc := 1) F dX0_sumOf_1 rfl hk.symm ?_
  refine aw_iconst (pc := 3) F dX0_sumOf_3 ?_
  refine aw_istore5 (pc := 4) F dX0_sumOf_4 rfl hk.symm ?_
  exact key (cyL S c) 0 aX (by omega) rfl
theorem ct0_quotient (M : Id4 → Int → Int) (b : Bool) (x T : Int) (h : -1000000 ≤ x ∧ x ≤ 1000000) (h2 : 2 ≤ T ∧ T ≤ 24) : CtI 3 0 yX0_quotient cX0_quotient 2 (some .int) [aI x, aI T] (M, R0 b) (PU (M, R0 b) (x / T)) := by
  refine CtI.mk (by decide +kernel) rfl (Nat.le_of_ble_eq_true rfl) (fun X K F hk => ?_)
  refine aw_iload1 (pc := 0) F dX0_quotient_0 ?_
  refine aw_iconst (pc := 1) F dX0_quotient_1 ?_
  refine aw_icmp_ge (tgt := 9) (pc := 2) F dX0_quotient_2 (by decide) (by unfold inR; omega) (by unfold inR; omega) (fun c2 => ?_) (fun c2 => ?_)
  · refine aw_iload0 (pc := 9) F dX0_quotient_9 ?_
    refine aw_iload1 (pc := 10) F dX0_quotient_10 ?_
    refine aw_pcallS2 (pc := 11) F dX0_quotient_11 ml_0_81 (ctJ_floorDiv _ _ _ _ h h2) (Nat.le_of_ble_eq_true rfl) (by decide) (Nat.zero_le _) ?_
    exact aw_iret (pc := 14) F dX0_quotient_14 rfl (Nat.zero_le _) ⟨rfl, rfl⟩
  · omega
theorem ct0_turnsNow (M : Id4 → Int → Int) (b9 : Bool) (S : Int → Int) (c : Int) (hR : plR M 0 S) (h : Ok S) (h0 : 0 ≤ c) (h1 : c < cyM S) (hc : cyR S M c) : CtI 4 0 yX0_turnsNow cX0_turnsNow 6 (some .int) [aR (0, 0, 0, 0), aR (5, 0, 0, 0), aI c] (M, R0 b9) (PU (M, R0 b9) (nowS S c)) := by
  refine CtI.mk (by decide +kernel) rfl (Nat.le_of_ble_eq_true rfl) (fun X K F hk => ?_)
  have hT := h.1
  have hN := h.2.2.1
  have hE := h.2.1
  have e0 := hR.1.1
  have c14 : c < 14 := by have : cyM S ≤ ((S 20).toNat : Int) := (cyN_bd (S := S) (S 20).toNat).2; omega
  obtain ⟨w1, w2⟩ := hc
  have lb := cyL_bd h h0 h1
  have tb := tnN_bd h h0 h1 _ (Nat.le_refl _)
  have key : ∀ (j i : Nat) (w5 : AV), i + j = cyL S c → wide w5 = false → AW X K 5 [aR (0, 0, 0, 0), aR (5, 0, 0, 0), aI c, aI (tnN S c i), aI i, w5] [] (M, R0 b9) 0 (EI X K 0 (PU (M, R0 b9) (nowS S c))) := by
    intro j
    induction j with
    | zero =>
      intro i w5 hi g5
      obtain rfl : i = cyL S c := by omega
      refine aw_iload4 (pc := 5) F dX0_turnsNow_5 ?_
      refine aw_aload0 (pc := 7) F dX0_turnsNow_7 ?_
      refine aw_getR (pc := 8) F dX0_turnsNow_8 fl_0_15 rfl (by first | decide | (simp only [inB, cnt, rcnt]; omega)) rfl nz1 rfl ?_
      refine aw_iload2 (pc := 11) F dX0_turnsNow_11 ?_
      refine aw_iald (pc := 12) F dX0_turnsNow_12 rfl (by first | decide | (simp only [inB, cnt, rcnt]; omega)) (by omega) ?_
      refine aw_icmp_ge (tgt := 60) (pc := 13) F dX0_turnsNow_13 (by decide) (by unfold inR; omega) (by unfold inR; omega) (fun c13 => ?_) (fun c13 => ?_)
      · refine aw_iload3 (pc := 60) F dX0_turnsNow_60 ?_
        refine aw_aload1 (pc := 61) F dX0_turnsNow_61 ?_
        refine aw_getI (pc := 62) F dX0_turnsNow_62 fl_0_67 rfl (by first | decide | (simp only [inB, cnt, rcnt]; omega)) rfl nz0 ?_
        refine aw_pcallS2 (pc := 65) F dX0_turnsNow_65 ml_0_70 (ct0_quotient _ _ _ _ (by omega) (by omega)) (Nat.le_of_ble_eq_true rfl) (by decide) (Nat.zero_le _) ?_
        exact aw_iret (pc := 68) F dX0_turnsNow_68 rfl (Nat.zero_le _) ⟨by rw [e0]; rfl, rfl⟩
      · omega
    | succ j ih =>
      intro i w5 hi g5
      obtain ⟨v1, v2⟩ := w2 i (by omega)
      have kin := cyK_in h h0 h1 i (by omega)
      have b01 := cyB_01 (S := S) (c := c) i
      have g := ih (i + 1) (aI (cyK S c i)) (by omega) rfl
      have e9 : tnN S c (i + 1) = tnN S c i + (if cyB S c i = 0 then - durS S (cyK S c i) else durS S (cyK S c i)) := rfl
      obtain ⟨f0, f1, f2, f3, f4⟩ := hR.2.2 _ kin.1 kin.2
      have gm : cyG S c i * (S (21 + 5 * cyK S c i + 2) + slOf S (cyK S c i)) = (if cyB S c i = 0 then - durS S (cyK S c i) else durS S (cyK S c i)) := by
        unfold cyG
        split
        · show -1 * durS S (cyK S c i) = _; omega
        · show 1 * durS S (cyK S c i) = _; omega
      refine aw_iload4 (pc := 5) F dX0_turnsNow_5 ?_
      refine aw_aload0 (pc := 7) F dX0_turnsNow_7 ?_
      refine aw_getR (pc := 8) F dX0_turnsNow_8 fl_0_15 rfl (by first | decide | (simp only [inB, cnt, rcnt]; omega)) rfl nz1 rfl ?_
      refine aw_iload2 (pc := 11) F dX0_turnsNow_11 ?_
      refine aw_iald (pc := 12) F dX0_turnsNow_12 rfl (by first | decide | (simp only [inB, cnt, rcnt]; omega)) (by omega) ?_
      refine aw_icmp_ge (tgt := 60) (pc := 13) F dX0_turnsNow_13 (by decide) (by unfold inR; omega) (by unfold inR; omega) (fun c13 => ?_) (fun c13 => ?_)
      · omega
      · refine aw_aload0 (pc := 16) F dX0_turnsNow_16 ?_
        refine aw_getR (pc := 17) F dX0_turnsNow_17 fl_0_21 rfl (by first | decide | (simp only [inB, cnt, rcnt]; omega)) rfl nz2 rfl ?_
        refine aw_iload2 (pc := 20) F dX0_turnsNow_20 ?_
        refine aw_aald (pc := 21) F dX0_turnsNow_21 rfl (by decide) (by first | decide | (simp only [inB, cnt, rcnt]; omega)) (by omega) rfl ?_
        refine aw_iload4 (pc := 22) F dX0_turnsNow_22 ?_
        refine aw_iald (pc := 24) F dX0_turnsNow_24 rfl (by first | decide | (simp only [inB, cnt, rcnt]; omega)) (by omega) ?_
        rw [v1]
        refine aw_istore5 (pc := 25) F dX0_turnsNow_25 (by simp only [List.all_cons, List.all_nil, g5]; rfl) hk.symm ?_
        refine aw_iload3 (pc := 27) F dX0_turnsNow_27 ?_
        refine aw_aload0 (pc := 28) F dX0_turnsNow_28 ?_
        refine aw_getR (pc := 29) F dX0_turnsNow_29 fl_0_24 rfl (by first | decide | (simp only [inB, cnt, rcnt]; omega)) rfl nz3 rfl ?_
        refine aw_iload2 (pc := 32) F dX0_turnsNow_32 ?_
        refine aw_aald (pc := 33) F dX0_turnsNow_33 rfl (by decide) (by first | decide | (simp only [inB, cnt, rcnt]; omega)) (by omega) rfl ?_
        refine aw_iload4 (pc := 34) F dX0_turnsNow_34 ?_
        refine aw_iald (pc := 36) F dX0_turnsNow_36 rfl (by first | decide | (simp only [inB, cnt, rcnt]; omega)) (by omega) ?_
        rw [v2]
        refine aw_aload1 (pc := 37) F dX0_turnsNow_37 ?_
        refine aw_getR (pc := 38) F dX0_turnsNow_38 fl_0_60 rfl (by first | decide | (simp only [inB, cnt, rcnt]; omega)) rfl nz6 rfl ?_
        refine aw_iload5 (pc := 41) F dX0_turnsNow_41 ?_
        refine aw_iald (pc := 43) F dX0_turnsNow_43 rfl (by first | decide | (simp only [inB, cnt, rcnt]; omega)) (by omega) ?_
        rw [f2]
        refine aw_aload1 (pc := 44) F dX0_turnsNow_44 ?_
        refine aw_iload5 (pc := 45) F dX0_turnsNow_45 ?_
        refine aw_pcallV1 (pc := 47) F dX0_turnsNow_47 ml_0_63 rfl (by first | decide | (simp only [inB, cnt, rcnt]; omega)) (ct5_slackOf _ _ S _ _ (by decide) hR h kin) (Nat.le_of_ble_eq_true rfl) (by decide) (Nat.zero_le _) ?_
        refine aw_iadd (pc := 50) F dX0_turnsNow_50 ?_
        refine aw_imul (pc := 51) F dX0_turnsNow_51 ?_
        refine aw_iadd (pc := 52) F dX0_turnsNow_52 ?_
        refine aw_istore3 (pc := 53) F dX0_turnsNow_53 (by simp only [List.all_cons, List.all_nil, g5]; rfl) hk.symm ?_
        refine aw_iinc4 (pc := 54) F dX0_turnsNow_54 (by simp only [List.all_cons, List.all_nil, g5]; rfl) hk.symm ?_
        refine aw_goto (tgt := 5) (pc := 57) F dX0_turnsNow_57 (by decide) ?_
        rw [e9, ← gm] at g
        exact g
  refine aw_iconst (pc := 0) F dX0_turnsNow_0 ?_
  refine aw_istore3 (pc := 1) F dX0_turnsNow_1 rfl hk.symm ?_
  refine aw_iconst (pc := 2) F dX0_turnsNow_2 ?_
  refine aw_istore4 (pc := 3) F dX0_turnsNow_3 rfl hk.symm ?_
  exact key (cyL S c) 0 aX (by omega) rfl
theorem ct0_mostTurns (M : Id4 → Int → Int) (b9 : Bool) (S : Int → Int) (c : Int) (hR : plR M 0 S) (h : Ok S) (h0 : 0 ≤ c) (h1 : c < cyM S) (hc : cyR S M c) : CtI 4 0 yX0_mostTurns cX0_mostTurns 3 (some .int) [aR (0, 0, 0, 0), aR (5, 0, 0, 0), aI c] (M, R0 b9) (PU (M, R0 b9) (mstS S c)) := by
  refine CtI.mk (by decide +kernel) rfl (Nat.le_of_ble_eq_true rfl) (fun X K F hk => ?_)
  have hT := h.1
  have hE := h.2.1
  have e0 := hR.1.1
  have lb := cyL_bd h h0 h1
  have sb := soN_bd h (a := 3) (b := 2) (Or.inr rfl) (Or.inl rfl) h0 h1 _ (Nat.le_refl _)
  refine aw_aload0 (pc := 0) F dX0_mostTurns_0 ?_
  refine aw_iload2 (pc := 1) F dX0_mostTurns_1 ?_
  refine aw_aload1 (pc := 2) F dX0_mostTurns_2 ?_
  refine aw_getR (pc := 3) F dX0_mostTurns_3 fl_0_74 rfl (by first | decide | (simp only [inB, cnt, rcnt]; omega)) rfl nz7 rfl ?_
  refine aw_aload1 (pc := 6) F dX0_mostTurns_6 ?_
  refine aw_getR (pc := 7) F dX0_mostTurns_7 fl_0_60 rfl (by first | decide | (simp only [inB, cnt, rcnt]; omega)) rfl nz6 rfl ?_
  refine aw_pcallV3 (pc := 10) F dX0_mostTurns_10 ml_0_77 rfl (by first | decide | (simp only [inB, cnt, rcnt]; omega)) (ct0_sumOf32 _ _ S c hR h h0 h1 hc) (Nat.le_of_ble_eq_true rfl) (by decide) (Nat.zero_le _) ?_
  refine aw_aload1 (pc := 13) F dX0_mostTurns_13 ?_
  refine aw_getI (pc := 14) F dX0_mostTurns_14 fl_0_67 rfl (by first | decide | (simp only [inB, cnt, rcnt]; omega)) rfl nz0 ?_
  rw [e0]
  refine aw_pcallS2 (pc := 17) F dX0_mostTurns_17 ml_0_70 (ct0_quotient _ _ _ _ (by omega) (by omega)) (Nat.le_of_ble_eq_true rfl) (by decide) (Nat.zero_le _) ?_
  exact aw_iret (pc := 20) F dX0_mostTurns_20 rfl (Nat.zero_le _) ⟨rfl, rfl⟩
theorem ct0_leastTurns (M : Id4 → Int → Int) (b9 : Bool) (S : Int → Int) (c : Int) (hR : plR M 0 S) (h : Ok S) (h0 : 0 ≤ c) (h1 : c < cyM S) (hc : cyR S M c) : CtI 4 0 yX0_leastTurns cX0_leastTurns 3 (some .int) [aR (0, 0, 0, 0), aR (5, 0, 0, 0), aI c] (M, R0 b9) (PU (M, R0 b9) (lstS S c)) := by
  refine CtI.mk (by decide +kernel) rfl (Nat.le_of_ble_eq_true rfl) (fun X K F hk => ?_)
  have hT := h.1
  have hE := h.2.1
  have e0 := hR.1.1
  have lb := cyL_bd h h0 h1
  have sb := soN_bd h (a := 2) (b := 3) (Or.inl rfl) (Or.inr rfl) h0 h1 _ (Nat.le_refl _)
  refine aw_aload0 (pc := 0) F dX0_leastTurns_0 ?_
  refine aw_iload2 (pc := 1) F dX0_leastTurns_1 ?_
  refine aw_aload1 (pc := 2) F dX0_leastTurns_2 ?_
  refine aw_getR (pc := 3) F dX0_leastTurns_3 fl_0_60 rfl (by first | decide | (simp only [inB, cnt, rcnt]; omega)) rfl nz6 rfl ?_
  refine aw_aload1 (pc := 6) F dX0_leastTurns_6 ?_
  refine aw_getR (pc := 7) F dX0_leastTurns_7 fl_0_74 rfl (by first | decide | (simp only [inB, cnt, rcnt]; omega)) rfl nz7 rfl ?_
  refine aw_pcallV3 (pc := 10) F dX0_leastTurns_10 ml_0_77 rfl (by first | decide | (simp only [inB, cnt, rcnt]; omega)) (ct0_sumOf23 _ _ S c hR h h0 h1 hc) (Nat.le_of_ble_eq_true rfl) (by decide) (Nat.zero_le _) ?_
  refine aw_ineg (pc := 13) F dX0_leastTurns_13 ?_
  refine aw_aload1 (pc := 14) F dX0_leastTurns_14 ?_
  refine aw_getI (pc := 15) F dX0_leastTurns_15 fl_0_67 rfl (by first | decide | (simp only [inB, cnt, rcnt]; omega)) rfl nz0 ?_
  rw [e0]
  refine aw_pcallS2 (pc := 18) F dX0_leastTurns_18 ml_0_70 (ct0_quotient _ _ _ _ (by omega) (by omega)) (Nat.le_of_ble_eq_true rfl) (by decide) (Nat.zero_le _) ?_
  refine aw_ineg (pc := 21) F dX0_leastTurns_21 ?_
  exact aw_iret (pc := 22) F dX0_leastTurns_22 rfl (Nat.zero_le _) ⟨rfl, rfl⟩
/-- the cycles are closed -/
def clR (S : Int → Int) (M : Id4 → Int → Int) : Prop := M (0, 0, 0, 0) 0 = cyM S ∧ ∀ c, 0 ≤ c → c < cyM S → cyR S M c
theorem ct8_cycles (M : Id4 → Int → Int) (b : Bool) (S : Int → Int) (hR : plR M 0 S) (h : Ok S) : CtI 4 0 yX8_cycles cX8_cycles 1 (some .int) [aR (8, 0, 0, 0)] (M, R0 b) (fun v σ' => v = cyM S ∧ ∃ M', σ' = (M', R0 b) ∧ same8 M M') := by
  refine CtI.mk (by decide +kernel) rfl (Nat.le_of_ble_eq_true rfl) (fun X K F hk => ?_)
  refine aw_aload0 (pc := 0) F dX8_cycles_0 ?_
  refine aw_getR (pc := 1) F dX8_cycles_1 fl_8_58 rfl (by first | decide | (simp only [inB, cnt, rcnt]; omega)) rfl nz8 rfl ?_
  refine aw_aload0 (pc := 4) F dX8_cycles_4 ?_
  refine aw_getR (pc := 5) F dX8_cycles_5 fl_8_34 rfl (by first | decide | (simp only [inB, cnt, rcnt]; omega)) rfl nz4 rfl ?_
  refine aw_callVV1 (pc := 8) F dX8_cycles_8 ml_8_208 rfl (by first | decide | (simp only [inB, cnt, rcnt]; omega)) (ct0_closeAll _ _ S hR h) (Nat.le_of_ble_eq_true rfl) (by decide) (Nat.zero_le _) (fun σ9 h9_8 => ?_)
  obtain ⟨M1, h9, c1, c2, c3⟩ := h9_8
  subst h9
  refine aw_aload0 (pc := 11) F dX8_cycles_11 ?_
  refine aw_getR (pc := 12) F dX8_cycles_12 fl_8_58 rfl (by first | decide | (simp only [inB, cnt, rcnt]; omega)) rfl nz8 rfl ?_
  refine aw_getI (pc := 15) F dX8_cycles_15 fl_8_211 rfl (by first | decide | (simp only [inB, cnt, rcnt]; omega)) rfl nz0 ?_
  exact aw_iret (pc := 18) F dX8_cycles_18 rfl (Nat.zero_le _) ⟨c2, M1, rfl, c1.s8⟩
theorem cx8_requireCycle (M : Id4 → Int → Int) (b : Bool) (S : Int → Int) (c : Int) (h9 : inR c) (hR : plR M 0 S) (h : Ok S) : CxV 12 1 yX8_requireCycle cX8_requireCycle 2 none [aR (8, 0, 0, 0), aI c] (M, R0 b) (fun σ' => cyc S c ∧ ∃ M', σ' = (M', R0 b) ∧ same0 M M' ∧ clR S M') (fun E σ' => E = eIO ∧ ¬ cyc S c ∧ ∃ M', σ' = (M', R0 b) ∧ same8 M M') := by
  refine CxV.mk (by decide +kernel) rfl (Nat.le_of_ble_eq_true rfl) (fun X K F hk => ?_)
  have hN := h.2.2.1
  have cb : 0 ≤ cyM S ∧ cyM S ≤ ((S 20).toNat : Int) := cyN_bd (S := S) (S 20).toNat
  refine aw_aload0 (pc := 0) F dX8_requireCycle_0 ?_
  refine aw_getR (pc := 1) F dX8_requireCycle_1 fl_8_58 rfl (by first | decide | (simp only [inB, cnt, rcnt]; omega)) rfl nz8 rfl ?_
  refine aw_aload0 (pc := 4) F dX8_requireCycle_4 ?_
  refine aw_getR (pc := 5) F dX8_requireCycle_5 fl_8_34 rfl (by first | decide | (simp only [inB, cnt, rcnt]; omega)) rfl nz4 rfl ?_
  refine aw_callVV1 (pc := 8) F dX8_requireCycle_8 ml_8_208 rfl (by first | decide | (simp only [inB, cnt, rcnt]; omega)) (ct0_closeAll _ _ S hR h) (Nat.le_of_ble_eq_true rfl) (by decide) (by decide) (fun σ9 h9_8 => ?_)
  obtain ⟨M1, h9', c1, c2, c3⟩ := h9_8
  subst h9'
  refine aw_iload1 (pc := 11) F dX8_requireCycle_11 ?_
  refine aw_if_lt (tgt := 26) (pc := 12) F dX8_requireCycle_12 (by decide) (by first | assumption | (unfold inR; omega)) (fun c12 => ?_) (fun c12 => ?_)
  · exact aw_throwVW (pc := 26) F dX8_requireCycle_26 dX8_requireCycle_29 dX8_requireCycle_30 dX8_requireCycle_33 dX8_requireCycle_36 th_313_325_317 (by decide) (by decide) (Nat.le_of_ble_eq_true rfl) ⟨rfl, fun z => by have := z.1; have := z.2; omega, M1, rfl, c1.s8⟩
  · refine aw_iload1 (pc := 15) F dX8_requireCycle_15 ?_
    refine aw_aload0 (pc := 16) F dX8_requireCycle_16 ?_
    refine aw_getR (pc := 17) F dX8_requireCycle_17 fl_8_58 rfl (by first | decide | (simp only [inB, cnt, rcnt]; omega)) rfl nz8 rfl ?_
    refine aw_getI (pc := 20) F dX8_requireCycle_20 fl_8_211 rfl (by first | decide | (simp only [inB, cnt, rcnt]; omega)) rfl nz0 ?_
    refine aw_icmp_lt (tgt := 37) (pc := 23) F dX8_requireCycle_23 (by decide) (by first | assumption | (unfold inR; omega)) (by first | assumption | (unfold inR; omega)) (fun c23 => ?_) (fun c23 => ?_)
    · exact aw_xvret (pc := 37) F dX8_requireCycle_37 (by decide) ⟨⟨by omega, by omega⟩, M1, rfl, c1, c2, c3⟩
    · exact aw_throwVW (pc := 26) F dX8_requireCycle_26 dX8_requireCycle_29 dX8_requireCycle_30 dX8_requireCycle_33 dX8_requireCycle_36 th_313_325_317 (by decide) (by decide) (Nat.le_of_ble_eq_true rfl) ⟨rfl, fun z => by have := z.1; have := z.2; omega, M1, rfl, c1.s8⟩
theorem cx8_cycleLength (M : Id4 → Int → Int) (b : Bool) (S : Int → Int) (c : Int) (h9 : inR c) (hR : plR M 0 S) (h : Ok S) : CxI 13 1 yX8_cycleLength cX8_cycleLength 2 (some .int) [aR (8, 0, 0, 0), aI c] (M, R0 b) (fun v σ' => v = cyL S c ∧ cyc S c ∧ ∃ M', σ' = (M', R0 b) ∧ same8 M M') (fun E σ' => E = eIO ∧ ¬ cyc S c ∧ ∃ M', σ' = (M', R0 b) ∧ same8 M M') := by
  refine CxI.mk (by decide +kernel) rfl (Nat.le_of_ble_eq_true rfl) (fun X K F hk => ?_)
  have hN := h.2.2.1
  have cb : 0 ≤ cyM S ∧ cyM S ≤ ((S 20).toNat : Int) := cyN_bd (S := S) (S 20).toNat
  refine aw_aload0 (pc := 0) F dX8_cycleLength_0 ?_
  refine aw_iload1 (pc := 1) F dX8_cycleLength_1 ?_
  refine aw_xcallVVI1 (pc := 2) F dX8_cycleLength_2 ml_8_214 rfl (by first | decide | (simp only [inB, cnt, rcnt]; omega)) (cx8_requireCycle _ _ S _ h9 hR h) (Nat.le_of_ble_eq_true rfl) (by decide) (by decide) (fun _ _ h => h) (fun σ9 h9_2 => ?_)
  obtain ⟨q1, M1, h9', c1, c2⟩ := h9_2
  subst h9'
  have c3 := c2.2 c q1.1 (by have := q1.2; omega)
  refine aw_aload0 (pc := 5) F dX8_cycleLength_5 ?_
  refine aw_getR (pc := 6) F dX8_cycleLength_6 fl_8_58 rfl (by first | decide | (simp only [inB, cnt, rcnt]; omega)) rfl nz8 rfl ?_
  refine aw_getR (pc := 9) F dX8_cycleLength_9 fl_8_217 rfl (by first | decide | (simp only [inB, cnt, rcnt]; omega)) rfl nz1 rfl ?_
  refine aw_iload1 (pc := 12) F dX8_cycleLength_12 ?_
  refine aw_iald (pc := 13) F dX8_cycleLength_13 rfl (by first | decide | (simp only [inB, cnt, rcnt]; omega)) (by omega) ?_
  exact aw_xiret (pc := 14) F dX8_cycleLength_14 rfl (by decide) ⟨c3.1, q1, M1, rfl, c1.s8⟩
theorem cx8_requireStep (M : Id4 → Int → Int) (b : Bool) (S : Int → Int) (c i : Int) (h9 : inR c) (h8 : inR i) (hR : plR M 0 S) (h : Ok S) : CxV 13 2 yX8_requireStep cX8_requireStep 3 none [aR (8, 0, 0, 0), aI c, aI i] (M, R0 b) (fun σ' => stp S c i ∧ ∃ M', σ' = (M', R0 b) ∧ same0 M M' ∧ clR S M') (fun E σ' => E = eIO ∧ ¬ stp S c i ∧ ∃ M', σ' = (M', R0 b) ∧ same8 M M') := by
  refine CxV.mk (by decide +kernel) rfl (Nat.le_of_ble_eq_true rfl) (fun X K F hk => ?_)
  have hN := h.2.2.1
  have hE := h.2.1
  have cb : 0 ≤ cyM S ∧ cyM S ≤ ((S 20).toNat : Int) := cyN_bd (S := S) (S 20).toNat
  refine aw_aload0 (pc := 0) F dX8_requireStep_0 ?_
  refine aw_iload1 (pc := 1) F dX8_requireStep_1 ?_
  refine aw_xcallVVV1 (pc := 2) F dX8_requireStep_2 ml_8_214 rfl (by first | decide | (simp only [inB, cnt, rcnt]; omega)) (cx8_requireCycle _ _ S _ h9 hR h) (Nat.le_of_ble_eq_true rfl) (by decide) (by decide) (fun _ _ h => ⟨h.1, fun z => h.2.1 z.1, h.2.2⟩) (fun σ9 h9_2 => ?_)
  obtain ⟨q1, M1, h9', c1, c2⟩ := h9_2
  subst h9'
  have c3 := (c2.2 c q1.1 (by have := q1.2; omega)).1
  have lb := cyL_bd h q1.1 (show c < cyM S by have := q1.2; omega)
  refine aw_iload2 (pc := 5) F dX8_requireStep_5 ?_
  refine aw_if_lt (tgt := 22) (pc := 6) F dX8_requireStep_6 (by decide) (by first | assumption | (unfold inR; omega)) (fun c6 => ?_) (fun c6 => ?_)
  · exact aw_throwVW (pc := 22) F dX8_requireStep_22 dX8_requireStep_25 dX8_requireStep_26 dX8_requireStep_29 dX8_requireStep_32 th_313_327_317 (by decide) (by decide) (Nat.le_of_ble_eq_true rfl) ⟨rfl, fun z => by have := z.2.1; have := z.2.2; omega, M1, rfl, c1.s8⟩
  · refine aw_iload2 (pc := 9) F dX8_requireStep_9 ?_
    refine aw_aload0 (pc := 10) F dX8_requireStep_10 ?_
    refine aw_getR (pc := 11) F dX8_requireStep_11 fl_8_58 rfl (by first | decide | (simp only [inB, cnt, rcnt]; omega)) rfl nz8 rfl ?_
    refine aw_getR (pc := 14) F dX8_requireStep_14 fl_8_217 rfl (by first | decide | (simp only [inB, cnt, rcnt]; omega)) rfl nz1 rfl ?_
    refine aw_iload1 (pc := 17) F dX8_requireStep_17 ?_
    refine aw_iald (pc := 18) F dX8_requireStep_18 rfl (by first | decide | (simp only [inB, cnt, rcnt]; omega)) (by omega) ?_
    refine aw_icmp_lt (tgt := 33) (pc := 19) F dX8_requireStep_19 (by decide) (by first | assumption | (unfold inR; omega)) (by first | assumption | (unfold inR; omega)) (fun c19 => ?_) (fun c19 => ?_)
    · exact aw_xvret (pc := 33) F dX8_requireStep_33 (by decide) ⟨⟨q1, by omega, by omega⟩, M1, rfl, c1, c2⟩
    · exact aw_throwVW (pc := 22) F dX8_requireStep_22 dX8_requireStep_25 dX8_requireStep_26 dX8_requireStep_29 dX8_requireStep_32 th_313_327_317 (by decide) (by decide) (Nat.le_of_ble_eq_true rfl) ⟨rfl, fun z => by have := z.2.1; have := z.2.2; omega, M1, rfl, c1.s8⟩
theorem cx8_cycleSpan (M : Id4 → Int → Int) (b : Bool) (S : Int → Int) (c i : Int) (h9 : inR c) (h8 : inR i) (hR : plR M 0 S) (h : Ok S) : CxI 14 2 yX8_cycleSpan cX8_cycleSpan 3 (some .int) [aR (8, 0, 0, 0), aI c, aI i] (M, R0 b) (fun v σ' => v = cyK S c i.toNat ∧ stp S c i ∧ ∃ M', σ' = (M', R0 b) ∧ same8 M M') (fun E σ' => E = eIO ∧ ¬ stp S c i ∧ ∃ M', σ' = (M', R0 b) ∧ same8 M M') := by
  refine CxI.mk (by decide +kernel) rfl (Nat.le_of_ble_eq_true rfl) (fun X K F hk => ?_)
  have hN := h.2.2.1
  have hE := h.2.1
  have cb : 0 ≤ cyM S ∧ cyM S ≤ ((S 20).toNat : Int) := cyN_bd (S := S) (S 20).toNat
  refine aw_aload0 (pc := 0) F dX8_cycleSpan_0 ?_
  refine aw_iload1 (pc := 1) F dX8_cycleSpan_1 ?_
  refine aw_iload2 (pc := 2) F dX8_cycleSpan_2 ?_
  refine aw_xcallVVI2 (pc := 3) F dX8_cycleSpan_3 ml_8_220 rfl (by first | decide | (simp only [inB, cnt, rcnt]; omega)) (cx8_requireStep _ _ S _ _ h9 h8 hR h) (Nat.le_of_ble_eq_true rfl) (by decide) (by decide) (fun _ _ h => h) (fun σ9 h9_3 => ?_)
  obtain ⟨q1, M1, h9', c1, c2⟩ := h9_3
  subst h9'
  have q2 := q1.1.2
  have q3 := q1.1.1
  have c3 := (c2.2 c q3 (by omega)).2 i.toNat (by have := q1.2.1; have := q1.2.2; omega)
  have lb := cyL_bd h q3 (show c < cyM S by omega)
  have q4 := q1.2.1
  have q5 := q1.2.2
  rw [show ((i.toNat : Nat) : Int) = i by omega] at c3
  refine aw_aload0 (pc := 6) F dX8_cycleSpan_6 ?_
  refine aw_getR (pc := 7) F dX8_cycleSpan_7 fl_8_58 rfl (by first | decide | (simp only [inB, cnt, rcnt]; omega)) rfl nz8 rfl ?_
  refine aw_getR (pc := 10) F dX8_cycleSpan_10 fl_8_224 rfl (by first | decide | (simp only [inB, cnt, rcnt]; omega)) rfl nz2 rfl ?_
  refine aw_iload1 (pc := 13) F dX8_cycleSpan_13 ?_
  refine aw_aald (pc := 14) F dX8_cycleSpan_14 rfl (by decide) (by first | decide | (simp only [inB, cnt, rcnt]; omega)) (by omega) rfl ?_
  refine aw_iload2 (pc := 15) F dX8_cycleSpan_15 ?_
  refine aw_iald (pc := 16) F dX8_cycleSpan_16 rfl (by first | decide | (simp only [inB, cnt, rcnt]; omega)) (by omega) ?_
  exact aw_xiret (pc := 17) F dX8_cycleSpan_17 rfl (by decide) ⟨c3.1, q1, M1, rfl, c1.s8⟩
theorem cx8_isForward (M : Id4 → Int → Int) (b : Bool) (S : Int → Int) (c i : Int) (h9 : inR c) (h8 : inR i) (hR : plR M 0 S) (h : Ok S) : CxI 14 2 yX8_isForward cX8_isForward 3 (some .boolean) [aR (8, 0, 0, 0), aI c, aI i] (M, R0 b) (fun v σ' => v = cyB S c i.toNat ∧ stp S c i ∧ ∃ M', σ' = (M', R0 b) ∧ same8 M M') (fun E σ' => E = eIO ∧ ¬ stp S c i ∧ ∃ M', σ' = (M', R0 b) ∧ same8 M M') := by
  refine CxI.mk (by decide +kernel) rfl (Nat.le_of_ble_eq_true rfl) (fun X K F hk => ?_)
  have hN := h.2.2.1
  have hE := h.2.1
  have cb : 0 ≤ cyM S ∧ cyM S ≤ ((S 20).toNat : Int) := cyN_bd (S := S) (S 20).toNat
  have b01 := cyB_01 (S := S) (c := c) i.toNat
  have gi : inR (cyG S c i.toNat) := by unfold cyG inR; split <;> decide
  refine aw_aload0 (pc := 0) F dX8_isForward_0 ?_
  refine aw_iload1 (pc := 1) F dX8_isForward_1 ?_
  refine aw_iload2 (pc := 2) F dX8_isForward_2 ?_
  refine aw_xcallVVI2 (pc := 3) F dX8_isForward_3 ml_8_220 rfl (by first | decide | (simp only [inB, cnt, rcnt]; omega)) (cx8_requireStep _ _ S _ _ h9 h8 hR h) (Nat.le_of_ble_eq_true rfl) (by decide) (by decide) (fun _ _ h => h) (fun σ9 h9_3 => ?_)
  obtain ⟨q1, M1, h9', c1, c2⟩ := h9_3
  subst h9'
  have q2 := q1.1.2
  have q3 := q1.1.1
  have c3 := (c2.2 c q3 (by omega)).2 i.toNat (by have := q1.2.1; have := q1.2.2; omega)
  have lb := cyL_bd h q3 (show c < cyM S by omega)
  have q4 := q1.2.1
  have q5 := q1.2.2
  rw [show ((i.toNat : Nat) : Int) = i by omega] at c3
  refine aw_aload0 (pc := 6) F dX8_isForward_6 ?_
  refine aw_getR (pc := 7) F dX8_isForward_7 fl_8_58 rfl (by first | decide | (simp only [inB, cnt, rcnt]; omega)) rfl nz8 rfl ?_
  refine aw_getR (pc := 10) F dX8_isForward_10 fl_8_228 rfl (by first | decide | (simp only [inB, cnt, rcnt]; omega)) rfl nz3 rfl ?_
  refine aw_iload1 (pc := 13) F dX8_isForward_13 ?_
  refine aw_aald (pc := 14) F dX8_isForward_14 rfl (by decide) (by first | decide | (simp only [inB, cnt, rcnt]; omega)) (by omega) rfl ?_
  refine aw_iload2 (pc := 15) F dX8_isForward_15 ?_
  refine aw_iald (pc := 16) F dX8_isForward_16 rfl (by first | decide | (simp only [inB, cnt, rcnt]; omega)) (by omega) ?_
  rw [c3.2]
  refine aw_if_le (tgt := 24) (pc := 17) F dX8_isForward_17 (by decide) gi (fun c17 => ?_) (fun c17 => ?_)
  · refine aw_iconst (pc := 24) F dX8_isForward_24 ?_
    exact aw_xiret (pc := 25) F dX8_isForward_25 (nar_bool (by first | exact b2i_01 | decide)) (by decide) ⟨by unfold cyG at c17; split at c17 <;> omega, q1, M1, rfl, c1.s8⟩
  · refine aw_iconst (pc := 20) F dX8_isForward_20 ?_
    refine aw_goto (tgt := 25) (pc := 21) F dX8_isForward_21 (by decide) ?_
    exact aw_xiret (pc := 25) F dX8_isForward_25 (nar_bool (by first | exact b2i_01 | decide)) (by decide) ⟨by unfold cyG at c17; split at c17 <;> omega, q1, M1, rfl, c1.s8⟩
theorem cx8_turns (M : Id4 → Int → Int) (b : Bool) (S : Int → Int) (c w : Int) (h9 : inR c) (h8 : inR w) (hR : plR M 0 S) (h : Ok S) : CxI 13 2 yX8_turns cX8_turns 3 (some .int) [aR (8, 0, 0, 0), aI c, aI w] (M, R0 b) (fun v σ' => v = trnS S c w ∧ (cyc S c ∧ 0 ≤ w ∧ w ≤ 2) ∧ ∃ M', σ' = (M', R0 b) ∧ same8 M M') (fun E σ' => (∃ M', σ' = (M', R0 b) ∧ same8 M M') ∧ ((E = eIO ∧ ¬ cyc S c) ∨ (E = eIA ∧ cyc S c ∧ ¬ (0 ≤ w ∧ w ≤ 2)))) := by
  refine CxI.mk (by decide +kernel) rfl (Nat.le_of_ble_eq_true rfl) (fun X K F hk => ?_)
  have hN := h.2.2.1
  have cb : 0 ≤ cyM S ∧ cyM S ≤ ((S 20).toNat : Int) := cyN_bd (S := S) (S 20).toNat
  refine aw_aload0 (pc := 0) F dX8_turns_0 ?_
  refine aw_iload1 (pc := 1) F dX8_turns_1 ?_
  refine aw_xcallVVI1 (pc := 2) F dX8_turns_2 ml_8_214 rfl (by first | decide | (simp only [inB, cnt, rcnt]; omega)) (cx8_requireCycle _ _ S _ h9 hR h) (Nat.le_of_ble_eq_true rfl) (by decide) (by decide) (fun _ _ h => ⟨h.2.2, Or.inl ⟨h.1, h.2.1⟩⟩) (fun σ9 h9_2 => ?_)
  obtain ⟨q1, M1, h9', c1, c2⟩ := h9_2
  subst h9'
  have q2 : c < cyM S := by have := q1.2; omega
  have c3 := c2.2 c q1.1 q2
  refine aw_iload2 (pc := 5) F dX8_turns_5 ?_
  rcases (show w < 0 ∨ 2 < w ∨ w = 0 ∨ w = 1 ∨ w = 2 by omega) with c6 | c6 | c6 | c6 | c6
  · refine aw_tabOut (tgt := 71) (pc := 6) F dX8_turns_6 h8 (Or.inl c6) (by decide) ?_
    exact aw_throwI (pc := 71) F dX8_turns_71 dX8_turns_74 dX8_turns_75 dX8_turns_77 dX8_turns_80 th_144_241_148 (by decide) (by decide) (Nat.le_of_ble_eq_true rfl) ⟨⟨M1, rfl, c1.s8⟩, Or.inr ⟨rfl, q1, by omega⟩⟩
  · refine aw_tabOut (tgt := 71) (pc := 6) F dX8_turns_6 h8 (Or.inr c6) (by decide) ?_
    exact aw_throwI (pc := 71) F dX8_turns_71 dX8_turns_74 dX8_turns_75 dX8_turns_77 dX8_turns_80 th_144_241_148 (by decide) (by decide) (Nat.le_of_ble_eq_true rfl) ⟨⟨M1, rfl, c1.s8⟩, Or.inr ⟨rfl, q1, by omega⟩⟩
  · refine aw_tabIn (tgt := 32) (pc := 6) F dX8_turns_6 h8 (by omega) (by rw [c6]; rfl) (by decide) ?_
    refine aw_aload0 (pc := 32) F dX8_turns_32 ?_
    refine aw_getR (pc := 33) F dX8_turns_33 fl_8_58 rfl (by first | decide | (simp only [inB, cnt, rcnt]; omega)) rfl nz8 rfl ?_
    refine aw_aload0 (pc := 36) F dX8_turns_36 ?_
    refine aw_getR (pc := 37) F dX8_turns_37 fl_8_34 rfl (by first | decide | (simp only [inB, cnt, rcnt]; omega)) rfl nz4 rfl ?_
    refine aw_iload1 (pc := 40) F dX8_turns_40 ?_
    refine aw_pcallV2 (pc := 41) F dX8_turns_41 ml_8_231 rfl (by first | decide | (simp only [inB, cnt, rcnt]; omega)) (ct0_turnsNow _ _ S _ (c1.pl hR) h q1.1 q2 c3) (Nat.le_of_ble_eq_true rfl) (by decide) (by decide) ?_
    exact aw_xiret (pc := 44) F dX8_turns_44 rfl (by decide) ⟨by rw [c6]; rfl, ⟨q1, by omega, by omega⟩, M1, rfl, c1.s8⟩
  · refine aw_tabIn (tgt := 45) (pc := 6) F dX8_turns_6 h8 (by omega) (by rw [c6]; rfl) (by decide) ?_
    refine aw_aload0 (pc := 45) F dX8_turns_45 ?_
    refine aw_getR (pc := 46) F dX8_turns_46 fl_8_58 rfl (by first | decide | (simp only [inB, cnt, rcnt]; omega)) rfl nz8 rfl ?_
    refine aw_aload0 (pc := 49) F dX8_turns_49 ?_
    refine aw_getR (pc := 50) F dX8_turns_50 fl_8_34 rfl (by first | decide | (simp only [inB, cnt, rcnt]; omega)) rfl nz4 rfl ?_
    refine aw_iload1 (pc := 53) F dX8_turns_53 ?_
    refine aw_pcallV2 (pc := 54) F dX8_turns_54 ml_8_235 rfl (by first | decide | (simp only [inB, cnt, rcnt]; omega)) (ct0_leastTurns _ _ S _ (c1.pl hR) h q1.1 q2 c3) (Nat.le_of_ble_eq_true rfl) (by decide) (by decide) ?_
    exact aw_xiret (pc := 57) F dX8_turns_57 rfl (by decide) ⟨by rw [c6]; rfl, ⟨q1, by omega, by omega⟩, M1, rfl, c1.s8⟩
  · refine aw_tabIn (tgt := 58) (pc := 6) F dX8_turns_6 h8 (by omega) (by rw [c6]; rfl) (by decide) ?_
    refine aw_aload0 (pc := 58) F dX8_turns_58 ?_
    refine aw_getR (pc := 59) F dX8_turns_59 fl_8_58 rfl (by first | decide | (simp only [inB, cnt, rcnt]; omega)) rfl nz8 rfl ?_
    refine aw_aload0 (pc := 62) F dX8_turns_62 ?_
    refine aw_getR (pc := 63) F dX8_turns_63 fl_8_34 rfl (by first | decide | (simp only [inB, cnt, rcnt]; omega)) rfl nz4 rfl ?_
    refine aw_iload1 (pc := 66) F dX8_turns_66 ?_
    refine aw_pcallV2 (pc := 67) F dX8_turns_67 ml_8_238 rfl (by first | decide | (simp only [inB, cnt, rcnt]; omega)) (ct0_mostTurns _ _ S _ (c1.pl hR) h q1.1 q2 c3) (Nat.le_of_ble_eq_true rfl) (by decide) (by decide) ?_
    exact aw_xiret (pc := 70) F dX8_turns_70 rfl (by decide) ⟨by rw [c6]; rfl, ⟨q1, by omega, by omega⟩, M1, rfl, c1.s8⟩
theorem tm_in {S : Int → Int} (h : Ok S) {c : Int} (h0 : 0 ≤ c) (h1 : c < cyM S) : inR (mstS S c) ∧ inR (lstS S c) := by
  have hT := h.1
  have hE := h.2.1
  have lb := cyL_bd h h0 h1
  have m1 := soN_bd h (a := 3) (b := 2) (Or.inr rfl) (Or.inl rfl) h0 h1 _ (Nat.le_refl _)
  have m2 := soN_bd h (a := 2) (b := 3) (Or.inl rfl) (Or.inr rfl) h0 h1 _ (Nat.le_refl _)
  have dv : ∀ x : Int, -1000 ≤ x → x ≤ 1000 → -1000 ≤ x / S 0 ∧ x / S 0 ≤ 1000 := fun x x0 x1 => by
    have p1 := Int.mul_ediv_add_emod x (S 0)
    have p2 := Int.emod_nonneg x (show S 0 ≠ 0 by omega)
    have p3 := Int.emod_lt_of_pos x (show 0 < S 0 by omega)
    exact ⟨(Int.le_ediv_iff_mul_le (show 0 < S 0 by omega)).mpr (by
      have : -1000 * S 0 ≤ -1000 := by omega
      omega), Int.le_of_lt_add_one ((Int.ediv_lt_iff_lt_mul (show 0 < S 0 by omega)).mpr (by omega))⟩
  have d1 := dv (soN S c 3 2 (cyL S c)) (by omega) (by omega)
  have d2 := dv (- soN S c 2 3 (cyL S c)) (by omega) (by omega)
  exact ⟨by unfold mstS inR; omega, by unfold lstS inR; omega⟩
theorem cx8_firstImpossible (M : Id4 → Int → Int) (b : Bool) (S : Int → Int) (hR : plR M 0 S) (h : Ok S) : CxI 12 1 yX8_firstImpossible cX8_firstImpossible 2 (some .int) [aR (8, 0, 0, 0)] (M, R0 b) (fun v σ' => v = fiS S ∧ fiS S < cyM S ∧ ∃ M', σ' = (M', R0 b) ∧ same8 M M') (fun E σ' => E = eNS ∧ ¬ fiS S < cyM S ∧ ∃ M', σ' = (M', R0 b) ∧ same8 M M') := by
  refine CxI.mk (by decide +kernel) rfl (Nat.le_of_ble_eq_true rfl) (fun X K F hk => ?_)
  have hN := h.2.2.1
  have cb : 0 ≤ cyM S ∧ cyM S ≤ ((S 20).toNat : Int) := cyN_bd (S := S) (S 20).toNat
  obtain ⟨Q9, hQ⟩ : ∃ Q9, Q9 = XI X K 1 (fun v σ' => v = fiS S ∧ fiS S < cyM S ∧ ∃ M', σ' = (M', R0 b) ∧ same8 M M') (fun E σ' => E = eNS ∧ ¬ fiS S < cyM S ∧ ∃ M', σ' = (M', R0 b) ∧ same8 M M') := ⟨_, rfl⟩
  have key : ∀ M', same0 M M' → clR S M' → ∀ (j i : Nat), (i : Int) + j = cyM S → fstB (fun c => mstS S c < lstS S c) j (i : Int) = fiS S → AW X K 13 [aR (8, 0, 0, 0), aI i] [] (M', R0 b) 0 Q9 := by
    intro M' c1 c2 j
    have cc := c2.1
    induction j with
    | zero =>
      intro i hi hf
      have e1 : fiS S = i := hf.symm
      refine aw_iload1 (pc := 13) F dX8_firstImpossible_13 ?_
      refine aw_aload0 (pc := 14) F dX8_firstImpossible_14 ?_
      refine aw_getR (pc := 15) F dX8_firstImpossible_15 fl_8_58 rfl (by first | decide | (simp only [inB, cnt, rcnt]; omega)) rfl nz8 rfl ?_
      refine aw_getI (pc := 18) F dX8_firstImpossible_18 fl_8_211 rfl (by first | decide | (simp only [inB, cnt, rcnt]; omega)) rfl nz0 ?_
      refine aw_icmp_ge (tgt := 59) (pc := 21) F dX8_firstImpossible_21 (by decide) (by unfold inR; omega) (by unfold inR; omega) (fun c21 => ?_) (fun c21 => ?_)
      · rw [hQ]
        exact aw_throwNI (pc := 59) F dX8_firstImpossible_59 dX8_firstImpossible_62 dX8_firstImpossible_63 dX8_firstImpossible_65 dX8_firstImpossible_68 tn_163_243_167 (by decide) (by decide) (Nat.le_of_ble_eq_true rfl) ⟨rfl, by omega, M', rfl, c1.s8⟩
      · omega
    | succ j ih =>
      intro i hi hf
      have hi0 : 0 ≤ (i : Int) := by omega
      have hi1 : (i : Int) < cyM S := by omega
      have tin := tm_in h hi0 hi1
      have c3 := c2.2 i hi0 hi1
      unfold fstB at hf
      have yes : mstS S i < lstS S i → fiS S = i := fun z => by rw [if_pos z] at hf; exact hf.symm
      have no : ¬ mstS S i < lstS S i → fstB (fun c => mstS S c < lstS S c) j ((i : Int) + 1) = fiS S := fun z => by rw [if_neg z] at hf; exact hf
      refine aw_iload1 (pc := 13) F dX8_firstImpossible_13 ?_
      refine aw_aload0 (pc := 14) F dX8_firstImpossible_14 ?_
      refine aw_getR (pc := 15) F dX8_firstImpossible_15 fl_8_58 rfl (by first | decide | (simp only [inB, cnt, rcnt]; omega)) rfl nz8 rfl ?_
      refine aw_getI (pc := 18) F dX8_firstImpossible_18 fl_8_211 rfl (by first | decide | (simp only [inB, cnt, rcnt]; omega)) rfl nz0 ?_
      refine aw_icmp_ge (tgt := 59) (pc := 21) F dX8_firstImpossible_21 (by decide) (by unfold inR; omega) (by unfold inR; omega) (fun c21 => ?_) (fun c21 => ?_)
      · omega
      · refine aw_aload0 (pc := 24) F dX8_firstImpossible_24 ?_
        refine aw_getR (pc := 25) F dX8_firstImpossible_25 fl_8_58 rfl (by first | decide | (simp only [inB, cnt, rcnt]; omega)) rfl nz8 rfl ?_
        refine aw_aload0 (pc := 28) F dX8_firstImpossible_28 ?_
        refine aw_getR (pc := 29) F dX8_firstImpossible_29 fl_8_34 rfl (by first | decide | (simp only [inB, cnt, rcnt]; omega)) rfl nz4 rfl ?_
        refine aw_iload1 (pc := 32) F dX8_firstImpossible_32 ?_
        refine aw_pcallV2 (pc := 33) F dX8_firstImpossible_33 ml_8_235 rfl (by first | decide | (simp only [inB, cnt, rcnt]; omega)) (ct0_leastTurns _ _ S _ (c1.pl hR) h hi0 hi1 c3) (Nat.le_of_ble_eq_true rfl) (by decide) (by decide) ?_
        refine aw_aload0 (pc := 36) F dX8_firstImpossible_36 ?_
        refine aw_getR (pc := 37) F dX8_firstImpossible_37 fl_8_58 rfl (by first | decide | (simp only [inB, cnt, rcnt]; omega)) rfl nz8 rfl ?_
        refine aw_aload0 (pc := 40) F dX8_firstImpossible_40 ?_
        refine aw_getR (pc := 41) F dX8_firstImpossible_41 fl_8_34 rfl (by first | decide | (simp only [inB, cnt, rcnt]; omega)) rfl nz4 rfl ?_
        refine aw_iload1 (pc := 44) F dX8_firstImpossible_44 ?_
        refine aw_pcallV2 (pc := 45) F dX8_firstImpossible_45 ml_8_238 rfl (by first | decide | (simp only [inB, cnt, rcnt]; omega)) (ct0_mostTurns _ _ S _ (c1.pl hR) h hi0 hi1 c3) (Nat.le_of_ble_eq_true rfl) (by decide) (by decide) ?_
        refine aw_icmp_le (tgt := 53) (pc := 48) F dX8_firstImpossible_48 (by decide) (by first | exact tin.1 | exact tin.2) (by first | exact tin.1 | exact tin.2) (fun c48 => ?_) (fun c48 => ?_)
        · refine aw_iinc1 (pc := 53) F dX8_firstImpossible_53 rfl hk.symm ?_
          refine aw_goto (tgt := 13) (pc := 56) F dX8_firstImpossible_56 (by decide) ?_
          exact ih (i + 1) (by omega) (no (by omega))
        · rw [hQ]
          refine aw_iload1 (pc := 51) F dX8_firstImpossible_51 ?_
          exact aw_xiret (pc := 52) F dX8_firstImpossible_52 rfl (by decide) ⟨(yes c48).symm, by have := yes c48; omega, M', rfl, c1.s8⟩
  refine aw_aload0 (pc := 0) F dX8_firstImpossible_0 ?_
  refine aw_getR (pc := 1) F dX8_firstImpossible_1 fl_8_58 rfl (by first | decide | (simp only [inB, cnt, rcnt]; omega)) rfl nz8 rfl ?_
  refine aw_aload0 (pc := 4) F dX8_firstImpossible_4 ?_
  refine aw_getR (pc := 5) F dX8_firstImpossible_5 fl_8_34 rfl (by first | decide | (simp only [inB, cnt, rcnt]; omega)) rfl nz4 rfl ?_
  refine aw_callVV1 (pc := 8) F dX8_firstImpossible_8 ml_8_208 rfl (by first | decide | (simp only [inB, cnt, rcnt]; omega)) (ct0_closeAll _ _ S hR h) (Nat.le_of_ble_eq_true rfl) (by decide) (by decide) (fun σ9 h9_8 => ?_)
  obtain ⟨M1, h9', c1, c2, c3⟩ := h9_8
  subst h9'
  refine aw_iconst (pc := 11) F dX8_firstImpossible_11 ?_
  refine aw_istore1 (pc := 12) F dX8_firstImpossible_12 rfl hk.symm ?_
  rw [← hQ]
  exact key M1 c1 ⟨c2, c3⟩ (cyM S).toNat 0 (by omega) rfl
