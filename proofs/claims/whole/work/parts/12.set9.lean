/-! 12: the reference's sets -/
theorem ct9_pair (M : Id4 → Int → Int) (b : Bool) (x y : Int) : CtI 1 0 yX9_pair cX9_pair 2 (some .int) [aI x, aI y] (M, R0 b) (PU (M, R0 b) (6 * x + y)) := by
  refine CtI.mk (by decide +kernel) rfl (Nat.le_of_ble_eq_true rfl) (fun X K F hk => ?_)
  refine aw_bipush (pc := 0) F dX9_pair_0 (by decide) ?_
  refine aw_iload0 (pc := 2) F dX9_pair_2 ?_
  refine aw_imul (pc := 3) F dX9_pair_3 ?_
  refine aw_iload1 (pc := 4) F dX9_pair_4 ?_
  refine aw_iadd (pc := 5) F dX9_pair_5 ?_
  exact aw_iret (pc := 6) F dX9_pair_6 rfl (Nat.zero_le _) ⟨rfl, rfl⟩
theorem ct9_has (M : Id4 → Int → Int) (b : Bool) (x : Int) (i : Nat) (h1 : 0 ≤ x ∧ x ≤ 2147483647) (h2 : i < 32) : CtI 1 0 yX9_has cX9_has 2 (some .boolean) [aI x, aI (i : Int)] (M, R0 b) (PU (M, R0 b) (b2i (bit x i = true))) := by
  refine CtI.mk (by decide +kernel) rfl (Nat.le_of_ble_eq_true rfl) (fun X K F hk => ?_)
  have e : bAnd (bShr x (i : Int)) 1 = if bit x i then 1 else 0 := by
    have e0 : ∀ j, j < 32 → bit (bAnd (bShr x (i : Int)) 1) j = bit (if bit x i then 1 else 0) j := by
      intro j hj
      rw [bit_and, bit_shr h1.1 h1.2 h2, bit_1]
      by_cases ej : j = 0
      · subst ej
        by_cases hb : bit x i = true
        · simp [hb, bit_1]
        · simp [hb, bit_0]
      · by_cases hb : bit x i = true
        · simp [hb, bit_1, ej]
        · simp [hb, bit_0, ej]
    exact bit_ext (bAnd_inR _ _) (by split <;> unfold inR <;> omega) e0
  have e1 : inR (bAnd (bShr x (i : Int)) 1) := bAnd_inR _ _
  refine aw_iload0 (pc := 0) F dX9_has_0 ?_
  refine aw_iload1 (pc := 1) F dX9_has_1 ?_
  refine aw_ishr (pc := 2) F dX9_has_2 ?_
  refine aw_iconst (pc := 3) F dX9_has_3 ?_
  refine aw_iand (pc := 4) F dX9_has_4 ?_
  refine aw_iconst (pc := 5) F dX9_has_5 ?_
  refine aw_icmp_ne (tgt := 13) (pc := 6) F dX9_has_6 (by decide) (by first | exact e1 | (unfold inR; omega)) (by first | exact e1 | (unfold inR; omega)) (fun c6 => ?_) (fun c6 => ?_)
  · refine aw_iconst (pc := 13) F dX9_has_13 ?_
    exact aw_iret (pc := 14) F dX9_has_14 (nar_bool (by first | exact b2i_01 | decide)) (Nat.zero_le _) (by rw [e] at c6; first | exact ⟨(b2i_neg (fun z => c6 (by rw [if_pos z]))).symm, rfl⟩ | exact ⟨(b2i_pos (Classical.byContradiction fun z => by rw [if_neg z] at c6; omega)).symm, rfl⟩)
  · refine aw_iconst (pc := 9) F dX9_has_9 ?_
    refine aw_goto (tgt := 14) (pc := 10) F dX9_has_10 (by decide) ?_
    exact aw_iret (pc := 14) F dX9_has_14 (nar_bool (by first | exact b2i_01 | decide)) (Nat.zero_le _) (by rw [e] at c6; first | exact ⟨(b2i_neg (fun z => c6 (by rw [if_pos z]))).symm, rfl⟩ | exact ⟨(b2i_pos (Classical.byContradiction fun z => by rw [if_neg z] at c6; omega)).symm, rfl⟩)
theorem ct9_allBits (M : Id4 → Int → Int) (b : Bool) (T : Nat) (hT : M (9, 0, 1, 0) 0 = (T : Int)) (h : T ≤ 24) : CtI 1 0 yX9_allBits cX9_allBits 1 (some .int) [aR (9, 0, 0, 0)] (M, R0 b) (PU (M, R0 b) (allI T)) := by
  refine CtI.mk (by decide +kernel) rfl (Nat.le_of_ble_eq_true rfl) (fun X K F hk => ?_)
  refine aw_iconst (pc := 0) F dX9_allBits_0 ?_
  refine aw_aload0 (pc := 1) F dX9_allBits_1 ?_
  refine aw_getR (pc := 2) F dX9_allBits_2 fl_9_7 rfl (by first | decide | (simp only [inB, cnt, rcnt]; omega)) rfl nz0 rfl ?_
  refine aw_iconst (pc := 5) F dX9_allBits_5 ?_
  refine aw_iald (pc := 6) F dX9_allBits_6 rfl (by first | decide | (simp only [inB, cnt, rcnt]; omega)) (by omega) ?_
  refine aw_ishl (pc := 7) F dX9_allBits_7 ?_
  refine aw_iconst (pc := 8) F dX9_allBits_8 ?_
  refine aw_isub (pc := 9) F dX9_allBits_9 ?_
  exact aw_iret (pc := 10) F dX9_allBits_10 rfl (Nat.zero_le _) ⟨by rw [hT]; exact (allI_eq h), rfl⟩
theorem ct9_turned (M : Id4 → Int → Int) (b : Bool) (T : Nat) (x : Int) (hT : M (9, 0, 1, 0) 0 = (T : Int)) (h : 2 ≤ T ∧ T ≤ 24) (hx : Set24 T x) : CtI 2 0 yX9_turned cX9_turned 4 (some .int) [aR (9, 0, 0, 0), aI x] (M, R0 b) (PU (M, R0 b) (turnI T x)) := by
  refine CtI.mk (by decide +kernel) rfl (Nat.le_of_ble_eq_true rfl) (fun X K F hk => ?_)
  have hx0 := hx.1
  have key : ∀ (j i : Nat), i + j = T → AW X K 4 [aR (9, 0, 0, 0), aI x, aI (setI (fun m => turnP T x m && decide ((T - m) % T < i)) T), aI i] [] (M, R0 b) 0 (EI X K 0 (PU (M, R0 b) (turnI T x))) := by
    intro j
    induction j with
    | zero =>
      intro i hi
      refine aw_iload3 (pc := 4) F dX9_turned_4 ?_
      refine aw_aload0 (pc := 5) F dX9_turned_5 ?_
      refine aw_getR (pc := 6) F dX9_turned_6 fl_9_7 rfl (by first | decide | (simp only [inB, cnt, rcnt]; omega)) rfl nz0 rfl ?_
      refine aw_iconst (pc := 9) F dX9_turned_9 ?_
      refine aw_iald (pc := 10) F dX9_turned_10 rfl (by first | decide | (simp only [inB, cnt, rcnt]; omega)) (by omega) ?_
      refine aw_icmp_ge (tgt := 43) (pc := 11) F dX9_turned_11 (by decide) (by unfold inR; omega) (by unfold inR; omega) (fun c11 => ?_) (fun c11 => ?_)
      · refine aw_iload2 (pc := 43) F dX9_turned_43 ?_
        exact aw_iret (pc := 44) F dX9_turned_44 rfl (Nat.zero_le _) ⟨setI_congr h.2 (fun m hm => by have := Nat.mod_lt (T - m) (show T > 0 by omega); simp; omega), rfl⟩
      · omega
    | succ j ih =>
      intro i hi
      have g := ih (i + 1) (by omega)
      have r9 : (T - i) % T < T := Nat.mod_lt _ (by omega)
      refine aw_iload3 (pc := 4) F dX9_turned_4 ?_
      refine aw_aload0 (pc := 5) F dX9_turned_5 ?_
      refine aw_getR (pc := 6) F dX9_turned_6 fl_9_7 rfl (by first | decide | (simp only [inB, cnt, rcnt]; omega)) rfl nz0 rfl ?_
      refine aw_iconst (pc := 9) F dX9_turned_9 ?_
      refine aw_iald (pc := 10) F dX9_turned_10 rfl (by first | decide | (simp only [inB, cnt, rcnt]; omega)) (by omega) ?_
      refine aw_icmp_ge (tgt := 43) (pc := 11) F dX9_turned_11 (by decide) (by unfold inR; omega) (by unfold inR; omega) (fun c11 => ?_) (fun c11 => ?_)
      · omega
      · refine aw_iload2 (pc := 14) F dX9_turned_14 ?_
        refine aw_iload1 (pc := 15) F dX9_turned_15 ?_
        refine aw_iload3 (pc := 16) F dX9_turned_16 ?_
        refine aw_pcallS2 (pc := 17) F dX9_turned_17 ml_9_227 (ct9_has _ _ _ i (by omega) (by omega)) (Nat.le_of_ble_eq_true rfl) (by decide) (Nat.zero_le _) ?_
        refine aw_ifb_eq (tgt := 34) (pc := 20) F dX9_turned_20 (by decide) (fun c20 => ?_) (fun c20 => ?_)
        · refine aw_iconst (pc := 34) F dX9_turned_34 ?_
          refine aw_ior (pc := 35) F dX9_turned_35 ?_
          refine aw_istore2 (pc := 36) F dX9_turned_36 rfl hk.symm ?_
          refine aw_iinc3 (pc := 37) F dX9_turned_37 rfl hk.symm ?_
          refine aw_goto (tgt := 4) (pc := 40) F dX9_turned_40 (by decide) ?_
          first | (rw [turn_no h.2 (by omega) c20]; exact g) | (rw [hT, turn_yes h.2 (by omega) c20]; exact g)
        · refine aw_iconst (pc := 23) F dX9_turned_23 ?_
          refine aw_aload0 (pc := 24) F dX9_turned_24 ?_
          refine aw_iload3 (pc := 25) F dX9_turned_25 ?_
          refine aw_ineg (pc := 26) F dX9_turned_26 ?_
          refine aw_pcallV1 (pc := 27) F dX9_turned_27 ml_9_203 rfl (by first | decide | (simp only [inB, cnt, rcnt]; omega)) (ct9_modulo _ _ _ (by unfold inR; omega) (by omega)) (Nat.le_of_ble_eq_true rfl) (by decide) (Nat.zero_le _) ?_
          refine aw_ishl (pc := 30) F dX9_turned_30 ?_
          refine aw_goto (tgt := 35) (pc := 31) F dX9_turned_31 (by decide) ?_
          refine aw_ior (pc := 35) F dX9_turned_35 ?_
          refine aw_istore2 (pc := 36) F dX9_turned_36 rfl hk.symm ?_
          refine aw_iinc3 (pc := 37) F dX9_turned_37 rfl hk.symm ?_
          refine aw_goto (tgt := 4) (pc := 40) F dX9_turned_40 (by decide) ?_
          first | (rw [turn_no h.2 (by omega) c20]; exact g) | (rw [hT, turn_yes h.2 (by omega) c20]; exact g)
  refine aw_iconst (pc := 0) F dX9_turned_0 ?_
  refine aw_istore2 (pc := 1) F dX9_turned_1 rfl hk.symm ?_
  refine aw_iconst (pc := 2) F dX9_turned_2 ?_
  refine aw_istore3 (pc := 3) F dX9_turned_3 rfl hk.symm ?_
  have g := key T 0 (by omega)
  rw [setI_none (fun m => by simp)] at g
  exact g
theorem ct9_keptBits (M : Id4 → Int → Int) (b : Bool) (T : Nat) (k : Int) (hT : M (9, 0, 1, 0) 0 = (T : Int)) (h : Ok (M (9, 0, 1, 0))) (hk9 : 0 ≤ k ∧ k < M (9, 0, 1, 0) 20) : CtI 4 0 yX9_keptBits cX9_keptBits 4 (some .int) [aR (9, 0, 0, 0), aI k] (M, R0 b) (PU (M, R0 b) (keptI (M (9, 0, 1, 0)) k)) := by
  refine CtI.mk (by decide +kernel) rfl (Nat.le_of_ble_eq_true rfl) (fun X K F hk => ?_)
  have h0 := h.1
  have eT : (M (9, 0, 1, 0) 0).toNat = T := by omega
  have key : ∀ (j i : Nat), i + j = T → AW X K 4 [aR (9, 0, 0, 0), aI k, aI (setI (fun m => decide (m < i) && decide (kpBy (M (9, 0, 1, 0)) k (slBy (M (9, 0, 1, 0)) k (m : Int)))) T), aI i] [] (M, R0 b) 0 (EI X K 0 (PU (M, R0 b) (keptI (M (9, 0, 1, 0)) k))) := by
    intro j
    induction j with
    | zero =>
      intro i hi
      refine aw_iload3 (pc := 4) F dX9_keptBits_4 ?_
      refine aw_aload0 (pc := 5) F dX9_keptBits_5 ?_
      refine aw_getR (pc := 6) F dX9_keptBits_6 fl_9_7 rfl (by first | decide | (simp only [inB, cnt, rcnt]; omega)) rfl nz0 rfl ?_
      refine aw_iconst (pc := 9) F dX9_keptBits_9 ?_
      refine aw_iald (pc := 10) F dX9_keptBits_10 rfl (by first | decide | (simp only [inB, cnt, rcnt]; omega)) (by omega) ?_
      refine aw_icmp_ge (tgt := 44) (pc := 11) F dX9_keptBits_11 (by decide) (by unfold inR; omega) (by unfold inR; omega) (fun c11 => ?_) (fun c11 => ?_)
      · refine aw_iload2 (pc := 44) F dX9_keptBits_44 ?_
        exact aw_iret (pc := 45) F dX9_keptBits_45 rfl (Nat.zero_le _) ⟨by unfold keptI; rw [eT]; exact setI_congr (by omega) (fun m hm => by simp [show m < i by omega]), rfl⟩
      · omega
    | succ j ih =>
      intro i hi
      have g := ih (i + 1) (by omega)
      have hs := slBy_bd h k (i : Int)
      refine aw_iload3 (pc := 4) F dX9_keptBits_4 ?_
      refine aw_aload0 (pc := 5) F dX9_keptBits_5 ?_
      refine aw_getR (pc := 6) F dX9_keptBits_6 fl_9_7 rfl (by first | decide | (simp only [inB, cnt, rcnt]; omega)) rfl nz0 rfl ?_
      refine aw_iconst (pc := 9) F dX9_keptBits_9 ?_
      refine aw_iald (pc := 10) F dX9_keptBits_10 rfl (by first | decide | (simp only [inB, cnt, rcnt]; omega)) (by omega) ?_
      refine aw_icmp_ge (tgt := 44) (pc := 11) F dX9_keptBits_11 (by decide) (by unfold inR; omega) (by unfold inR; omega) (fun c11 => ?_) (fun c11 => ?_)
      · omega
      · refine aw_iload2 (pc := 14) F dX9_keptBits_14 ?_
        refine aw_aload0 (pc := 15) F dX9_keptBits_15 ?_
        refine aw_iload1 (pc := 16) F dX9_keptBits_16 ?_
        refine aw_aload0 (pc := 17) F dX9_keptBits_17 ?_
        refine aw_iload1 (pc := 18) F dX9_keptBits_18 ?_
        refine aw_iload3 (pc := 19) F dX9_keptBits_19 ?_
        refine aw_pcallV2 (pc := 20) F dX9_keptBits_20 ml_9_206 rfl (by first | decide | (simp only [inB, cnt, rcnt]; omega)) (ct9_slackBy _ _ _ _ hk9 (by omega) h) (Nat.le_of_ble_eq_true rfl) (by decide) (Nat.zero_le _) ?_
        refine aw_pcallV2 (pc := 23) F dX9_keptBits_23 ml_9_215 rfl (by first | decide | (simp only [inB, cnt, rcnt]; omega)) (ct9_isKeptBy _ _ _ _ hk9 (by unfold inR; omega) h) (Nat.le_of_ble_eq_true rfl) (by decide) (Nat.zero_le _) ?_
        refine aw_ifb_eq (tgt := 35) (pc := 26) F dX9_keptBits_26 (by decide) (fun c26 => ?_) (fun c26 => ?_)
        · refine aw_iconst (pc := 35) F dX9_keptBits_35 ?_
          refine aw_ior (pc := 36) F dX9_keptBits_36 ?_
          refine aw_istore2 (pc := 37) F dX9_keptBits_37 rfl hk.symm ?_
          refine aw_iinc3 (pc := 38) F dX9_keptBits_38 rfl hk.symm ?_
          refine aw_goto (tgt := 4) (pc := 41) F dX9_keptBits_41 (by decide) ?_
          first | (rw [upto_no (P := fun m => decide (kpBy (M (9, 0, 1, 0)) k (slBy (M (9, 0, 1, 0)) k (m : Int)))) (by omega) (decide_eq_false c26)]; exact g) | (rw [upto_yes (P := fun m => decide (kpBy (M (9, 0, 1, 0)) k (slBy (M (9, 0, 1, 0)) k (m : Int)))) (by omega) (by omega) (decide_eq_true c26)]; exact g)
        · refine aw_iconst (pc := 29) F dX9_keptBits_29 ?_
          refine aw_iload3 (pc := 30) F dX9_keptBits_30 ?_
          refine aw_ishl (pc := 31) F dX9_keptBits_31 ?_
          refine aw_goto (tgt := 36) (pc := 32) F dX9_keptBits_32 (by decide) ?_
          refine aw_ior (pc := 36) F dX9_keptBits_36 ?_
          refine aw_istore2 (pc := 37) F dX9_keptBits_37 rfl hk.symm ?_
          refine aw_iinc3 (pc := 38) F dX9_keptBits_38 rfl hk.symm ?_
          refine aw_goto (tgt := 4) (pc := 41) F dX9_keptBits_41 (by decide) ?_
          first | (rw [upto_no (P := fun m => decide (kpBy (M (9, 0, 1, 0)) k (slBy (M (9, 0, 1, 0)) k (m : Int)))) (by omega) (decide_eq_false c26)]; exact g) | (rw [upto_yes (P := fun m => decide (kpBy (M (9, 0, 1, 0)) k (slBy (M (9, 0, 1, 0)) k (m : Int)))) (by omega) (by omega) (decide_eq_true c26)]; exact g)
  refine aw_iconst (pc := 0) F dX9_keptBits_0 ?_
  refine aw_istore2 (pc := 1) F dX9_keptBits_1 rfl hk.symm ?_
  refine aw_iconst (pc := 2) F dX9_keptBits_2 ?_
  refine aw_istore3 (pc := 3) F dX9_keptBits_3 rfl hk.symm ?_
  have g := key T 0 (by omega)
  rw [setI_none (fun m => by simp)] at g
  exact g
theorem ct9_sums (M : Id4 → Int → Int) (b : Bool) (T : Nat) (x y : Int) (hT : M (9, 0, 1, 0) 0 = (T : Int)) (h : 2 ≤ T ∧ T ≤ 24) (hx : Set24 T x) (hy : Set24 T y) : CtI 2 0 yX9_sums cX9_sums 6 (some .int) [aR (9, 0, 0, 0), aI x, aI y] (M, R0 b) (PU (M, R0 b) (sumsI T x y)) := by
  refine CtI.mk (by decide +kernel) rfl (Nat.le_of_ble_eq_true rfl) (fun X K F hk => ?_)
  have hx0 := hx.1
  have hy0 := hy.1
  have key : ∀ (j i : Nat) (w : AV), wide w = false → i + j = T → AW X K 5 [aR (9, 0, 0, 0), aI x, aI y, aI (setI (sumsP T x y i) T), aI i, w] [] (M, R0 b) 0 (EI X K 0 (PU (M, R0 b) (sumsI T x y))) := by
    intro j
    induction j with
    | zero =>
      intro i w hw hi
      refine aw_iload4 (pc := 5) F dX9_sums_5 ?_
      refine aw_aload0 (pc := 7) F dX9_sums_7 ?_
      refine aw_getR (pc := 8) F dX9_sums_8 fl_9_7 rfl (by first | decide | (simp only [inB, cnt, rcnt]; omega)) rfl nz0 rfl ?_
      refine aw_iconst (pc := 11) F dX9_sums_11 ?_
      refine aw_iald (pc := 12) F dX9_sums_12 rfl (by first | decide | (simp only [inB, cnt, rcnt]; omega)) (by omega) ?_
      refine aw_icmp_ge (tgt := 78) (pc := 13) F dX9_sums_13 (by decide) (by unfold inR; omega) (by unfold inR; omega) (fun c13 => ?_) (fun c13 => ?_)
      · refine aw_iload3 (pc := 78) F dX9_sums_78 ?_
        exact aw_iret (pc := 79) F dX9_sums_79 rfl (Nat.zero_le _) ⟨by rw [show i = T by omega]; rfl, rfl⟩
      · omega
    | succ j ih =>
      intro i w hw hi
      have g := ih (i + 1)
      have inner : ∀ (j2 k : Nat), k + j2 = T → bit x i = true → AW X K 19 [aR (9, 0, 0, 0), aI x, aI y, aI (setI (sumsQ T x y i k) T), aI i, aI k] [] (M, R0 b) 0 (EI X K 0 (PU (M, R0 b) (sumsI T x y))) := by
        intro j2
        induction j2 with
        | zero =>
          intro k hk2 hb9
          refine aw_iload5 (pc := 19) F dX9_sums_19 ?_
          refine aw_aload0 (pc := 21) F dX9_sums_21 ?_
          refine aw_getR (pc := 22) F dX9_sums_22 fl_9_7 rfl (by first | decide | (simp only [inB, cnt, rcnt]; omega)) rfl nz0 rfl ?_
          refine aw_iconst (pc := 25) F dX9_sums_25 ?_
          refine aw_iald (pc := 26) F dX9_sums_26 rfl (by first | decide | (simp only [inB, cnt, rcnt]; omega)) (by omega) ?_
          refine aw_icmp_ge (tgt := 72) (pc := 27) F dX9_sums_27 (by decide) (by unfold inR; omega) (by unfold inR; omega) (fun c27 => ?_) (fun c27 => ?_)
          · refine aw_iinc4 (pc := 72) F dX9_sums_72 rfl hk.symm ?_
            refine aw_goto (tgt := 5) (pc := 75) F dX9_sums_75 (by decide) ?_
            rw [show k = T by omega, sumsQ_end h.2 (by omega) hb9]
            exact g _ rfl (by omega)
          · omega
        | succ j2 ih2 =>
          intro k hk2 hb9
          have g2 := ih2 (k + 1) (by omega) hb9
          refine aw_iload5 (pc := 19) F dX9_sums_19 ?_
          refine aw_aload0 (pc := 21) F dX9_sums_21 ?_
          refine aw_getR (pc := 22) F dX9_sums_22 fl_9_7 rfl (by first | decide | (simp only [inB, cnt, rcnt]; omega)) rfl nz0 rfl ?_
          refine aw_iconst (pc := 25) F dX9_sums_25 ?_
          refine aw_iald (pc := 26) F dX9_sums_26 rfl (by first | decide | (simp only [inB, cnt, rcnt]; omega)) (by omega) ?_
          refine aw_icmp_ge (tgt := 72) (pc := 27) F dX9_sums_27 (by decide) (by unfold inR; omega) (by unfold inR; omega) (fun c27 => ?_) (fun c27 => ?_)
          · omega
          · refine aw_iload1 (pc := 30) F dX9_sums_30 ?_
            refine aw_iload4 (pc := 31) F dX9_sums_31 ?_
            refine aw_pcallS2 (pc := 33) F dX9_sums_33 ml_9_227 (ct9_has _ _ _ i (by omega) (by omega)) (Nat.le_of_ble_eq_true rfl) (by decide) (Nat.zero_le _) ?_
            refine aw_ifb_eq (tgt := 72) (pc := 36) F dX9_sums_36 (by decide) (fun c36 => ?_) (fun c36 => ?_)
            · exact absurd hb9 c36
            · refine aw_iload3 (pc := 39) F dX9_sums_39 ?_
              refine aw_iload2 (pc := 40) F dX9_sums_40 ?_
              refine aw_iload5 (pc := 41) F dX9_sums_41 ?_
              refine aw_pcallS2 (pc := 43) F dX9_sums_43 ml_9_227 (ct9_has _ _ _ k (by omega) (by omega)) (Nat.le_of_ble_eq_true rfl) (by decide) (Nat.zero_le _) ?_
              refine aw_ifb_eq (tgt := 63) (pc := 46) F dX9_sums_46 (by decide) (fun c46 => ?_) (fun c46 => ?_)
              · refine aw_iconst (pc := 63) F dX9_sums_63 ?_
                refine aw_ior (pc := 64) F dX9_sums_64 ?_
                refine aw_istore3 (pc := 65) F dX9_sums_65 rfl hk.symm ?_
                refine aw_iinc5 (pc := 66) F dX9_sums_66 rfl hk.symm ?_
                refine aw_goto (tgt := 19) (pc := 69) F dX9_sums_69 (by decide) ?_
                first | (rw [sumsQ_no h.2 c46]; exact g2) | (rw [hT, sumsQ_yes h.2 (by omega) c46]; exact g2)
              · refine aw_iconst (pc := 49) F dX9_sums_49 ?_
                refine aw_aload0 (pc := 50) F dX9_sums_50 ?_
                refine aw_iload4 (pc := 51) F dX9_sums_51 ?_
                refine aw_iload5 (pc := 53) F dX9_sums_53 ?_
                refine aw_iadd (pc := 55) F dX9_sums_55 ?_
                refine aw_pcallV1 (pc := 56) F dX9_sums_56 ml_9_203 rfl (by first | decide | (simp only [inB, cnt, rcnt]; omega)) (ct9_modulo _ _ _ (by unfold inR; omega) (by omega)) (Nat.le_of_ble_eq_true rfl) (by decide) (Nat.zero_le _) ?_
                refine aw_ishl (pc := 59) F dX9_sums_59 ?_
                refine aw_goto (tgt := 64) (pc := 60) F dX9_sums_60 (by decide) ?_
                refine aw_ior (pc := 64) F dX9_sums_64 ?_
                refine aw_istore3 (pc := 65) F dX9_sums_65 rfl hk.symm ?_
                refine aw_iinc5 (pc := 66) F dX9_sums_66 rfl hk.symm ?_
                refine aw_goto (tgt := 19) (pc := 69) F dX9_sums_69 (by decide) ?_
                first | (rw [sumsQ_no h.2 c46]; exact g2) | (rw [hT, sumsQ_yes h.2 (by omega) c46]; exact g2)
      have inner0 : ¬ bit x i = true → AW X K 19 [aR (9, 0, 0, 0), aI x, aI y, aI (setI (sumsP T x y i) T), aI i, aI 0] [] (M, R0 b) 0 (EI X K 0 (PU (M, R0 b) (sumsI T x y))) := by
        intro hb9
        refine aw_iload5 (pc := 19) F dX9_sums_19 ?_
        refine aw_aload0 (pc := 21) F dX9_sums_21 ?_
        refine aw_getR (pc := 22) F dX9_sums_22 fl_9_7 rfl (by first | decide | (simp only [inB, cnt, rcnt]; omega)) rfl nz0 rfl ?_
        refine aw_iconst (pc := 25) F dX9_sums_25 ?_
        refine aw_iald (pc := 26) F dX9_sums_26 rfl (by first | decide | (simp only [inB, cnt, rcnt]; omega)) (by omega) ?_
        refine aw_icmp_ge (tgt := 72) (pc := 27) F dX9_sums_27 (by decide) (by unfold inR; omega) (by unfold inR; omega) (fun c27 => ?_) (fun c27 => ?_)
        · omega
        · refine aw_iload1 (pc := 30) F dX9_sums_30 ?_
          refine aw_iload4 (pc := 31) F dX9_sums_31 ?_
          refine aw_pcallS2 (pc := 33) F dX9_sums_33 ml_9_227 (ct9_has _ _ _ i (by omega) (by omega)) (Nat.le_of_ble_eq_true rfl) (by decide) (Nat.zero_le _) ?_
          refine aw_ifb_eq (tgt := 72) (pc := 36) F dX9_sums_36 (by decide) (fun c36 => ?_) (fun c36 => ?_)
          · refine aw_iinc4 (pc := 72) F dX9_sums_72 rfl hk.symm ?_
            refine aw_goto (tgt := 5) (pc := 75) F dX9_sums_75 (by decide) ?_
            rw [sumsP_no h.2 hb9]
            exact g _ rfl (by omega)
          · exact absurd c36 hb9
      refine aw_iload4 (pc := 5) F dX9_sums_5 ?_
      refine aw_aload0 (pc := 7) F dX9_sums_7 ?_
      refine aw_getR (pc := 8) F dX9_sums_8 fl_9_7 rfl (by first | decide | (simp only [inB, cnt, rcnt]; omega)) rfl nz0 rfl ?_
      refine aw_iconst (pc := 11) F dX9_sums_11 ?_
      refine aw_iald (pc := 12) F dX9_sums_12 rfl (by first | decide | (simp only [inB, cnt, rcnt]; omega)) (by omega) ?_
      refine aw_icmp_ge (tgt := 78) (pc := 13) F dX9_sums_13 (by decide) (by unfold inR; omega) (by unfold inR; omega) (fun c13 => ?_) (fun c13 => ?_)
      · omega
      · refine aw_iconst (pc := 16) F dX9_sums_16 ?_
        refine aw_istore5 (pc := 17) F dX9_sums_17 (by simp only [List.all_cons, List.all_nil, hw]; rfl) hk.symm ?_
        by_cases hb9 : bit x i = true
        · have g3 := inner T 0 (by omega) hb9
          rw [show sumsQ T x y i 0 = sumsP T x y i from funext (sumsQ_0 T x y i)] at g3
          exact g3
        · exact inner0 hb9
  refine aw_iconst (pc := 0) F dX9_sums_0 ?_
  refine aw_istore3 (pc := 1) F dX9_sums_1 rfl hk.symm ?_
  refine aw_iconst (pc := 2) F dX9_sums_2 ?_
  refine aw_istore4 (pc := 3) F dX9_sums_3 rfl hk.symm ?_
  have g := key T 0 aX rfl (by omega)
  rw [setI_none (P := sumsP T x y 0) (fun m => rfl)] at g
  exact g
