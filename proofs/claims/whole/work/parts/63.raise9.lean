/-! 63: the reference raises LOW -/
theorem ct9_finds2 (M : Id4 → Int → Int) (b : Bool) (S : Int → Int) (first : Int) (h01 : first = 0 ∨ first = 1) (hS : M (9, 0, 1, 0) = S) (h : Ok S) : CtI 25 0 yX9_finds cX9_finds 3 (some .boolean) [aR (9, 0, 0, 0), aI first] (M, R0 b) (fun v σ' => v = b2i (¬ (goS S first).1 = -1) ∧ ∃ M', σ' = (M', R0 b) ∧ same9 M M' ∧ M' (9, 0, 0, 0) 4 = M (9, 0, 0, 0) 4 ∧ M' (9, 0, 2, 0) = M (9, 0, 2, 0)) := by
  refine CtI.mk (by decide +kernel) rfl (Nat.le_of_ble_eq_true rfl) (fun X K F hk => ?_)
  have hE := h.2.1
  obtain ⟨M0, hM0⟩ : ∃ M0, M0 = updM M (9, 0, 0, 0) 27 (-1) := ⟨_, rfl⟩
  have s0 : M0 (9, 0, 1, 0) = S := by rw [hM0, upd_off (by decide)]; exact hS
  have q0 : same9 M M0 := by rw [hM0]; exact same9.rf.up (by unfold scr9; decide)
  refine aw_aload0 (pc := 0) F dX9_finds_0 ?_
  refine aw_iconst (pc := 1) F dX9_finds_1 ?_
  refine aw_putI (pc := 2) F dX9_finds_2 fl_9_320 fpi_9_27 rfl (by first | decide | (simp only [inB, cnt, rcnt]; omega)) rfl nz27 ?_
  rw [← hM0]
  refine aw_aload0 (pc := 5) F dX9_finds_5 ?_
  refine aw_callVI0 (pc := 6) F dX9_finds_6 ml_9_270 rfl (by first | decide | (simp only [inB, cnt, rcnt]; omega)) (ct9_isTightNow2 _ _ S s0 h) (Nat.le_of_ble_eq_true rfl) (by decide) (Nat.zero_le _) (fun v9 σ9 h9_6 => ?_)
  obtain ⟨hv, A', hg, h9⟩ := h9_6
  obtain ⟨M1, hM1⟩ : ∃ M1, M1 = setA (updM M0 (9, 0, 0, 0) 17 ((rdS S : Int) + 1)) (9, 0, 17, 0) A' := ⟨_, rfl⟩
  rw [← hM1] at h9
  subst h9
  have hvb := isB_bd hv
  have q1 : same9 M M1 := by rw [hM1]; exact (q0.up (by unfold scr9; decide)).st (fun k => by unfold scr9; simp)
  have s1 : M1 (9, 0, 1, 0) = S := q1.s.trans hS
  have g1 : Agr (S 1) (M1 (9, 0, 17, 0)) (tgS S) := by rw [hM1, setA_same]; exact hg
  have m27 : M1 (9, 0, 0, 0) 27 = -1 := by rw [hM1, setA_ne (by decide), upd_ne (Or.inr (by decide)), hM0, upd_same]
  have m2 : M1 (9, 0, 2, 0) = M (9, 0, 2, 0) := by rw [hM1, setA_ne (by decide), upd_off (by decide), hM0, upd_off (by decide)]
  have m4 : M1 (9, 0, 0, 0) 4 = M (9, 0, 0, 0) 4 := by rw [hM1, setA_ne (by decide), upd_ne (Or.inr (by decide)), hM0, upd_ne (Or.inr (by decide))]
  refine aw_if_ne (tgt := 14) (pc := 9) F dX9_finds_9 (by decide) (by unfold inR; omega) (fun c9 => ?_) (fun c9 => ?_)
  · have ge : goS S first = ful S first (S 1).toNat 0 (fun _ => 0) (-1, fun _ => 0) := by unfold goS; rw [if_neg (hv.resolve_left (fun y => c9 y.1)).2]
    refine aw_aload0 (pc := 14) F dX9_finds_14 ?_
    refine aw_iconst (pc := 15) F dX9_finds_15 ?_
    refine aw_iconst (pc := 16) F dX9_finds_16 ?_
    refine aw_iload1 (pc := 17) F dX9_finds_17 ?_
    refine aw_callVI3 (pc := 18) F dX9_finds_18 ml_9_329 rfl (by first | decide | (simp only [inB, cnt, rcnt]; omega)) (ct9_tries h b first h01 6 0 M1 (fun _ => 0) (-1, fun _ => 0) (by omega) s1 g1 (by omega) (fun a a0 a1 => absurd a1 (by omega)) (fun a a0 a1 => absurd a1 (by omega)) ⟨m27, Or.inl rfl, fun z => absurd rfl z⟩ (fun _ => rfl)) (Nat.le_of_ble_eq_true rfl) (by decide) (Nat.zero_le _) (fun v9 σ9 h9_18 => ?_)
    obtain ⟨M2, h9, d1, d2, d3, d4⟩ := h9_18
    subst h9
    rw [Nat.sub_zero, ← ge] at d2 d4
    obtain ⟨e1, e2, e3⟩ := id d2
    unfold stB at e2
    refine aw_istore2 (pc := 21) F dX9_finds_21 rfl hk.symm ?_
    refine aw_iload2 (pc := 22) F dX9_finds_22 ?_
    refine aw_if_ne (tgt := 33) (pc := 23) F dX9_finds_23 (by decide) (by unfold inR; omega) (fun c23 => ?_) (fun c23 => ?_)
    · refine aw_iconst (pc := 33) F dX9_finds_33 ?_
      refine aw_goto (tgt := 38) (pc := 34) F dX9_finds_34 (by decide) ?_
      exact aw_iret (pc := 38) F dX9_finds_38 (nar_bool (by first | exact b2i_01 | decide)) (Nat.zero_le _) ⟨by first | exact (b2i_pos (d4.resolve_right (fun y => c23 y.1)).2.2).symm | exact (b2i_pos (by omega)).symm | exact (b2i_neg (by omega)).symm, M2, rfl, q1.tr d1.q, by rw [d1 _ _ (by simp), m4], by rw [← m2]; exact funext fun k => d1 _ k (by simp)⟩
    · refine aw_aload0 (pc := 26) F dX9_finds_26 ?_
      refine aw_getI (pc := 27) F dX9_finds_27 fl_9_320 rfl (by first | decide | (simp only [inB, cnt, rcnt]; omega)) rfl nz27 ?_
      refine aw_if_lt (tgt := 37) (pc := 30) F dX9_finds_30 (by decide) (by unfold inR; omega) (fun c30 => ?_) (fun c30 => ?_)
      · refine aw_iconst (pc := 37) F dX9_finds_37 ?_
        exact aw_iret (pc := 38) F dX9_finds_38 (nar_bool (by first | exact b2i_01 | decide)) (Nat.zero_le _) ⟨by first | exact (b2i_pos (d4.resolve_right (fun y => c23 y.1)).2.2).symm | exact (b2i_pos (by omega)).symm | exact (b2i_neg (by omega)).symm, M2, rfl, q1.tr d1.q, by rw [d1 _ _ (by simp), m4], by rw [← m2]; exact funext fun k => d1 _ k (by simp)⟩
      · refine aw_iconst (pc := 33) F dX9_finds_33 ?_
        refine aw_goto (tgt := 38) (pc := 34) F dX9_finds_34 (by decide) ?_
        exact aw_iret (pc := 38) F dX9_finds_38 (nar_bool (by first | exact b2i_01 | decide)) (Nat.zero_le _) ⟨by first | exact (b2i_pos (d4.resolve_right (fun y => c23 y.1)).2.2).symm | exact (b2i_pos (by omega)).symm | exact (b2i_neg (by omega)).symm, M2, rfl, q1.tr d1.q, by rw [d1 _ _ (by simp), m4], by rw [← m2]; exact funext fun k => d1 _ k (by simp)⟩
  · have ge : goS S first = (-1, fun _ => 0) := by unfold goS; rw [if_pos (Classical.byContradiction fun z => by have := (hv.resolve_right (fun y => by omega)).2; exact this z)]
    refine aw_iconst (pc := 12) F dX9_finds_12 ?_
    exact aw_iret (pc := 13) F dX9_finds_13 (nar_bool (by first | exact b2i_01 | decide)) (Nat.zero_le _) ⟨by rw [ge]; exact (b2i_neg (fun z => z rfl)).symm, M1, rfl, q1, m4, m2⟩
theorem ct9_isGoodWith (M : Id4 → Int → Int) (b : Bool) (S : Int → Int) (p x : Int) (hp : 0 ≤ p ∧ p < 91) (hS : M (9, 0, 1, 0) = S) (h : Ok (upS S p x)) : CtI 26 0 yX9_isGoodWith cX9_isGoodWith 5 (some .boolean) [aR (9, 0, 0, 0), aI p, aI x] (M, R0 b) (fun v σ' => v = b2i (¬ (goS (upS S p x) 1).1 = -1) ∧ ∃ M', σ' = (M', R0 b) ∧ same9 M M' ∧ M' (9, 0, 0, 0) 4 = M (9, 0, 0, 0) 4) := by
  refine CtI.mk (by decide +kernel) rfl (Nat.le_of_ble_eq_true rfl) (fun X K F hk => ?_)
  refine aw_aload0 (pc := 0) F dX9_isGoodWith_0 ?_
  refine aw_getR (pc := 1) F dX9_isGoodWith_1 fl_9_7 rfl (by first | decide | (simp only [inB, cnt, rcnt]; omega)) rfl nz0 rfl ?_
  refine aw_iload1 (pc := 4) F dX9_isGoodWith_4 ?_
  refine aw_iald (pc := 5) F dX9_isGoodWith_5 rfl (by first | decide | (simp only [inB, cnt, rcnt]; omega)) (by omega) ?_
  refine aw_istore3 (pc := 6) F dX9_isGoodWith_6 rfl hk.symm ?_
  refine aw_aload0 (pc := 7) F dX9_isGoodWith_7 ?_
  refine aw_getR (pc := 8) F dX9_isGoodWith_8 fl_9_7 rfl (by first | decide | (simp only [inB, cnt, rcnt]; omega)) rfl nz0 rfl ?_
  refine aw_iload1 (pc := 11) F dX9_isGoodWith_11 ?_
  refine aw_iload2 (pc := 12) F dX9_isGoodWith_12 ?_
  refine aw_iast (pc := 13) F dX9_isGoodWith_13 rfl (by first | decide | (simp only [inB, cnt, rcnt]; omega)) (by omega) ?_
  refine aw_aload0 (pc := 14) F dX9_isGoodWith_14 ?_
  refine aw_iconst (pc := 15) F dX9_isGoodWith_15 ?_
  refine aw_callVI1 (pc := 16) F dX9_isGoodWith_16 ml_9_333 rfl (by first | decide | (simp only [inB, cnt, rcnt]; omega)) (ct9_finds2 _ _ (upS S p x) 1 (Or.inr rfl) (by rw [upd_row, hS]) h) (Nat.le_of_ble_eq_true rfl) (by decide) (Nat.zero_le _) (fun v9 σ9 h9_16 => ?_)
  obtain ⟨hv, M2, h9, d1, d2, d3⟩ := h9_16
  subst h9
  have m0 : M (9, 0, 1, 0) p = S p := by rw [hS]
  refine aw_istore4 (pc := 19) F dX9_isGoodWith_19 rfl hk.symm ?_
  refine aw_aload0 (pc := 21) F dX9_isGoodWith_21 ?_
  refine aw_getR (pc := 22) F dX9_isGoodWith_22 fl_9_7 rfl (by first | decide | (simp only [inB, cnt, rcnt]; omega)) rfl nz0 rfl ?_
  refine aw_iload1 (pc := 25) F dX9_isGoodWith_25 ?_
  refine aw_iload3 (pc := 26) F dX9_isGoodWith_26 ?_
  refine aw_iast (pc := 27) F dX9_isGoodWith_27 rfl (by first | decide | (simp only [inB, cnt, rcnt]; omega)) (by omega) ?_
  refine aw_iload4 (pc := 28) F dX9_isGoodWith_28 ?_
  exact aw_iret (pc := 30) F dX9_isGoodWith_30 (nar_bool (by rw [hv]; exact b2i_01)) (Nat.zero_le _) ⟨hv, _, rfl, fun q k z => by
    by_cases y : q = (9, 0, 1, 0) ∧ k = p
    · rw [y.1, y.2, upd_same]
    · have y2 : q ≠ (9, 0, 1, 0) ∨ k ≠ p := by
        by_cases w : q = (9, 0, 1, 0)
        · exact Or.inr (fun u => y ⟨w, u⟩)
        · exact Or.inl w
      rw [upd_ne y2, d1 q k z, upd_ne y2], by rw [upd_ne (Or.inl (by decide)), d2, upd_ne (Or.inl (by decide))]⟩
theorem cq9_canRaise (M : Id4 → Int → Int) (b : Bool) (S : Int → Int) (k : Int) (h1 : inR k) (hS : M (9, 0, 1, 0) = S) (h : Ok S) : CtI 27 0 yX9_canRaise cX9_canRaise 5 (some .int) [aR (9, 0, 0, 0), aI k] (M, R0 b) (QP M b (1 - b2i (0 ≤ k ∧ k ≤ S 20 - 1)) (crS S k)) := by
  refine CtI.mk (by decide +kernel) rfl (Nat.le_of_ble_eq_true rfl) (fun X K F hk => ?_)
  have hN := h.2.2.1
  have hE := h.2.1
  have hT := h.1
  have sk : CtI 2 0 yX9_isSpan cX9_isSpan 2 (some .boolean) [aR (9, 0, 0, 0), aI k] (M, R0 b) (PU (M, R0 b) (b2i (0 ≤ k ∧ k ≤ S 20 - 1))) := by
    have z := ct9_isSpan M b k h1 (by rw [hS]; exact hN)
    rw [hS] at z
    exact z
  obtain ⟨Q9, hQ⟩ : ∃ Q9, Q9 = EI X K 0 (QP M b (1 - b2i (0 ≤ k ∧ k ≤ S 20 - 1)) (crS S k)) := ⟨_, rfl⟩
  have loop : (0 ≤ k ∧ k < S 20) → ∀ (D : Nat), S (21 + 5 * k + 3) - S (21 + 5 * k + 2) = (D : Int) → ∀ (j n : Nat) (M' : Id4 → Int → Int), n + j = D + 1 → same9 M M' → M' (9, 0, 0, 0) 4 = 0 → crN S k n = (n : Int) - 1 → AW X K 33 [aR (9, 0, 0, 0), aI k, aI (S (21 + 5 * k + 2)), aI D, aI ((n : Int) - 1)] [] (M', R0 b) 0 Q9 := by
    intro q D hD j
    have z := h.2.2.2.2 k q.1 q.2
    unfold SpOk at z
    have ec : crS S k = crN S k (D + 1) := by
      unfold crS
      rw [hD, show ((D : Int) + 1).toNat = D + 1 by omega]
    have t0 : 1 - b2i (0 ≤ k ∧ k ≤ S 20 - 1) = 0 := by rw [b2i_pos (by omega)]; rfl
    induction j with
    | zero =>
      intro n M' hj a1 a2 a3
      obtain rfl : n = D + 1 := by omega
      refine aw_iload4 (pc := 33) F dX9_canRaise_33 ?_
      refine aw_iload3 (pc := 35) F dX9_canRaise_35 ?_
      refine aw_icmp_ge (tgt := 64) (pc := 36) F dX9_canRaise_36 (by decide) (by unfold inR; omega) (by unfold inR; omega) (fun c36 => ?_) (fun c36 => ?_)
      · refine aw_iload4 (pc := 64) F dX9_canRaise_64 ?_
        rw [hQ]
        exact aw_iret (pc := 66) F dX9_canRaise_66 rfl (Nat.zero_le _) ⟨M', rfl, a1, by rw [a2, t0], fun _ => by rw [ec, a3]⟩
      · omega
    | succ j ih =>
      intro n M' hj a1 a2 a3
      have ok1 := rs_ok h q (r := (n : Int)) (by omega)
      have g9 := goS_good ok1 (first := 1)
      have cs := crN_s (S := S) (k := k) (n := n)
      refine aw_iload4 (pc := 33) F dX9_canRaise_33 ?_
      refine aw_iload3 (pc := 35) F dX9_canRaise_35 ?_
      refine aw_icmp_ge (tgt := 64) (pc := 36) F dX9_canRaise_36 (by decide) (by unfold inR; omega) (by unfold inR; omega) (fun c36 => ?_) (fun c36 => ?_)
      · omega
      · refine aw_aload0 (pc := 39) F dX9_canRaise_39 ?_
        refine aw_iload1 (pc := 40) F dX9_canRaise_40 ?_
        refine aw_pcallS1 (pc := 41) F dX9_canRaise_41 ml_9_150 (ct9_at _ _ _) (Nat.le_of_ble_eq_true rfl) (by decide) (Nat.zero_le _) ?_
        refine aw_iconst (pc := 44) F dX9_canRaise_44 ?_
        refine aw_iadd (pc := 45) F dX9_canRaise_45 ?_
        refine aw_iload2 (pc := 46) F dX9_canRaise_46 ?_
        refine aw_iload4 (pc := 47) F dX9_canRaise_47 ?_
        refine aw_iadd (pc := 49) F dX9_canRaise_49 ?_
        refine aw_iconst (pc := 50) F dX9_canRaise_50 ?_
        refine aw_iadd (pc := 51) F dX9_canRaise_51 ?_
        rw [show S (21 + 5 * k + 2) + ((n : Int) - 1) + 1 = S (21 + 5 * k + 2) + n by omega]
        refine aw_callVI2 (pc := 52) F dX9_canRaise_52 ml_9_339 rfl (by first | decide | (simp only [inB, cnt, rcnt]; omega)) (ct9_isGoodWith _ _ S _ _ (by omega) (a1.s.trans hS) ok1) (Nat.le_of_ble_eq_true rfl) (by decide) (Nat.zero_le _) (fun v9 σ9 h9_52 => ?_)
        obtain ⟨rfl, M2, rfl, c1, c2⟩ := h9_52
        refine aw_ifb_eq (tgt := 64) (pc := 55) F dX9_canRaise_55 (by decide) (fun c55 => ?_) (fun c55 => ?_)
        · rw [hQ]
          refine aw_iload4 (pc := 64) F dX9_canRaise_64 ?_
          exact aw_iret (pc := 66) F dX9_canRaise_66 rfl (Nat.zero_le _) ⟨M2, rfl, a1.tr c1, by rw [c2, a2, t0], fun _ => by rw [ec, (crN_no h q (fun y => c55 (g9.mpr y)) (D + 1) (by omega)).2, a3]⟩
        · refine aw_iinc4 (pc := 58) F dX9_canRaise_58 rfl hk.symm ?_
          refine aw_goto (tgt := 33) (pc := 61) F dX9_canRaise_61 (by decide) ?_
          rw [show (n : Int) - 1 + 1 = ((n + 1 : Nat) : Int) - 1 by omega]
          exact ih (n + 1) M2 (by omega) (a1.tr c1) (c2.trans a2) (by rw [cs.1 (g9.mp c55)]; omega)
  refine aw_aload0 (pc := 0) F dX9_canRaise_0 ?_
  refine aw_aload0 (pc := 1) F dX9_canRaise_1 ?_
  refine aw_iload1 (pc := 2) F dX9_canRaise_2 ?_
  refine aw_pcallV1 (pc := 3) F dX9_canRaise_3 ml_9_194 rfl (by first | decide | (simp only [inB, cnt, rcnt]; omega)) sk (Nat.le_of_ble_eq_true rfl) (by decide) (Nat.zero_le _) ?_
  refine aw_callVI1 (pc := 6) F dX9_canRaise_6 ml_9_176 rfl (by first | decide | (simp only [inB, cnt, rcnt]; omega)) (ct9_good1 _ _ _ b2i_01) (Nat.le_of_ble_eq_true rfl) (by decide) (Nat.zero_le _) (fun v9 σ9 h9_6 => ?_)
  obtain ⟨rfl, rfl⟩ := h9_6
  refine aw_ifb_ne (tgt := 14) (pc := 9) F dX9_canRaise_9 (by decide) (fun c9 => ?_) (fun c9 => ?_)
  · refine aw_aload0 (pc := 14) F dX9_canRaise_14 ?_
    refine aw_iload1 (pc := 15) F dX9_canRaise_15 ?_
    refine aw_iconst (pc := 16) F dX9_canRaise_16 ?_
    have z := h.2.2.2.2 k c9.1 (by omega)
    unfold SpOk at z
    refine aw_pcallV2 (pc := 17) F dX9_canRaise_17 ml_9_200 rfl (by first | decide | (simp only [inB, cnt, rcnt]; omega)) (ct9_of _ _ _ _ (by omega) (by omega)) (Nat.le_of_ble_eq_true rfl) (by decide) (Nat.zero_le _) ?_
    refine aw_istore2 (pc := 20) F dX9_canRaise_20 rfl hk.symm ?_
    refine aw_aload0 (pc := 21) F dX9_canRaise_21 ?_
    refine aw_iload1 (pc := 22) F dX9_canRaise_22 ?_
    refine aw_iconst (pc := 23) F dX9_canRaise_23 ?_
    refine aw_pcallV2 (pc := 24) F dX9_canRaise_24 ml_9_200 rfl (by first | decide | (simp only [inB, cnt, rcnt]; omega)) (ct9_of _ _ _ _ (by omega) (by omega)) (Nat.le_of_ble_eq_true rfl) (by decide) (Nat.zero_le _) ?_
    refine aw_iload2 (pc := 27) F dX9_canRaise_27 ?_
    refine aw_isub (pc := 28) F dX9_canRaise_28 ?_
    refine aw_istore3 (pc := 29) F dX9_canRaise_29 rfl hk.symm ?_
    refine aw_iconst (pc := 30) F dX9_canRaise_30 ?_
    refine aw_istore4 (pc := 31) F dX9_canRaise_31 rfl hk.symm ?_
    rw [thr_s, hS, ← hQ]
    obtain ⟨D, hD⟩ : ∃ D : Nat, S (21 + 5 * k + 3) - S (21 + 5 * k + 2) = (D : Int) := ⟨(S (21 + 5 * k + 3) - S (21 + 5 * k + 2)).toNat, by omega⟩
    rw [hD]
    exact loop ⟨c9.1, by omega⟩ D hD (D + 1) 0 _ (by omega) same9_thr (by refine upd_same.trans ?_; rw [b2i_pos c9]; rfl) rfl
  · refine aw_iconst (pc := 12) F dX9_canRaise_12 ?_
    exact aw_iret (pc := 13) F dX9_canRaise_13 rfl (Nat.zero_le _) (qp9 same9.rf (fun z => absurd z c9))
theorem cq9_isCritical (M : Id4 → Int → Int) (b : Bool) (S : Int → Int) (k : Int) (h1 : inR k) (hS : M (9, 0, 1, 0) = S) (h : Ok S) : CtI 26 0 yX9_isCritical cX9_isCritical 3 (some .boolean) [aR (9, 0, 0, 0), aI k] (M, R0 b) (QP M b (1 - b2i (0 ≤ k ∧ k ≤ S 20 - 1)) (b2i ((goS S 1).1 = -1 ∧ ¬ (goS (drS S k) 1).1 = -1))) := by
  refine CtI.mk (by decide +kernel) rfl (Nat.le_of_ble_eq_true rfl) (fun X K F hk => ?_)
  have hN := h.2.2.1
  have sk : CtI 2 0 yX9_isSpan cX9_isSpan 2 (some .boolean) [aR (9, 0, 0, 0), aI k] (M, R0 b) (PU (M, R0 b) (b2i (0 ≤ k ∧ k ≤ S 20 - 1))) := by
    have z := ct9_isSpan M b k h1 (by rw [hS]; exact hN)
    rw [hS] at z
    exact z
  refine aw_aload0 (pc := 0) F dX9_isCritical_0 ?_
  refine aw_aload0 (pc := 1) F dX9_isCritical_1 ?_
  refine aw_iload1 (pc := 2) F dX9_isCritical_2 ?_
  refine aw_pcallV1 (pc := 3) F dX9_isCritical_3 ml_9_194 rfl (by first | decide | (simp only [inB, cnt, rcnt]; omega)) sk (Nat.le_of_ble_eq_true rfl) (by decide) (Nat.zero_le _) ?_
  refine aw_callVI1 (pc := 6) F dX9_isCritical_6 ml_9_176 rfl (by first | decide | (simp only [inB, cnt, rcnt]; omega)) (ct9_good1 _ _ _ b2i_01) (Nat.le_of_ble_eq_true rfl) (by decide) (Nat.zero_le _) (fun v9 σ9 h9_6 => ?_)
  obtain ⟨rfl, rfl⟩ := h9_6
  refine aw_ifb_eq (tgt := 20) (pc := 9) F dX9_isCritical_9 (by decide) (fun c9 => ?_) (fun c9 => ?_)
  · refine aw_iconst (pc := 20) F dX9_isCritical_20 ?_
    exact aw_iret (pc := 21) F dX9_isCritical_21 (nar_bool (by first | exact b2i_01 | decide)) (Nat.zero_le _) (by
      first
      | exact qp9 same9.rf (fun z => absurd z c9)
      | exact ⟨M2, rfl, same9_thr.tr d1, by rw [d2]; exact upd_same, fun _ => (b2i_neg (fun z => c17 z.1)).symm⟩)
  · refine aw_aload0 (pc := 12) F dX9_isCritical_12 ?_
    refine aw_iconst (pc := 13) F dX9_isCritical_13 ?_
    refine aw_callVI1 (pc := 14) F dX9_isCritical_14 ml_9_333 rfl (by first | decide | (simp only [inB, cnt, rcnt]; omega)) (ct9_finds2 _ _ S 1 (Or.inr rfl) (by rw [thr_s]; exact hS) h) (Nat.le_of_ble_eq_true rfl) (by decide) (Nat.zero_le _) (fun v9 σ9 h9_14 => ?_)
    obtain ⟨rfl, M2, rfl, d1, d2, d3⟩ := h9_14
    refine aw_ifb_eq (tgt := 22) (pc := 17) F dX9_isCritical_17 (by decide) (fun c17 => ?_) (fun c17 => ?_)
    · refine aw_aload0 (pc := 22) F dX9_isCritical_22 ?_
      refine aw_callVV0 (pc := 23) F dX9_isCritical_23 ml_9_179 rfl (by first | decide | (simp only [inB, cnt, rcnt]; omega)) (ct9_putAside _ _) (Nat.le_of_ble_eq_true rfl) (by decide) (Nat.zero_le _) (fun σ9 h9_23 => ?_)
      obtain rfl := h9_23
      refine aw_aload0 (pc := 26) F dX9_isCritical_26 ?_
      refine aw_iload1 (pc := 27) F dX9_isCritical_27 ?_
      have s2 : M2 (9, 0, 1, 0) = S := d1.s.trans (by rw [thr_s]; exact hS)
      refine aw_callVV1 (pc := 28) F dX9_isCritical_28 ml_9_342 rfl (by first | decide | (simp only [inB, cnt, rcnt]; omega)) (ct9_closes _ _ S k (by rw [setA_ne (by decide)]; exact s2) h ⟨c9.1, by omega⟩) (Nat.le_of_ble_eq_true rfl) (by decide) (Nat.zero_le _) (fun σ9 h9_28 => ?_)
      obtain rfl := h9_28
      refine aw_aload0 (pc := 31) F dX9_isCritical_31 ?_
      refine aw_iconst (pc := 32) F dX9_isCritical_32 ?_
      refine aw_callVI1 (pc := 33) F dX9_isCritical_33 ml_9_333 rfl (by first | decide | (simp only [inB, cnt, rcnt]; omega)) (ct9_finds2 _ _ (drS S k) 1 (Or.inr rfl) setA_same (ok_dr h ⟨c9.1, by omega⟩)) (Nat.le_of_ble_eq_true rfl) (by decide) (Nat.zero_le _) (fun v9 σ9 h9_33 => ?_)
      obtain ⟨hv, M5, h5, d5, d6, d7⟩ := h9_33
      subst h5
      refine aw_istore2 (pc := 36) F dX9_isCritical_36 rfl hk.symm ?_
      refine aw_aload0 (pc := 37) F dX9_isCritical_37 ?_
      refine aw_callVV0 (pc := 38) F dX9_isCritical_38 ml_9_188 rfl (by first | decide | (simp only [inB, cnt, rcnt]; omega)) (ct9_layBack _ _) (Nat.le_of_ble_eq_true rfl) (by decide) (Nat.zero_le _) (fun σ9 h9_38 => ?_)
      obtain rfl := h9_38
      refine aw_iload2 (pc := 41) F dX9_isCritical_41 ?_
      exact aw_iret (pc := 42) F dX9_isCritical_42 (nar_bool (by rw [hv]; exact b2i_01)) (Nat.zero_le _) (by
        have d8 := same9_thr.tr d1
        refine ⟨_, rfl, fun q j z => ?_, ?_, fun _ => ?_⟩
        · by_cases y : q = (9, 0, 1, 0)
          · subst y
            rw [setA_same, d5.s, d7, setA_same, setA_ne (by decide), setA_same, s2, hS]
            unfold ovr
            by_cases w : 0 ≤ j ∧ j < 91
            · rw [if_pos w, if_pos w]
            · rw [if_neg w]
              unfold drS
              rw [if_neg (by omega), if_neg (by omega)]
          · have y2 : q ≠ (9, 0, 2, 0) := fun w => z (by rw [w]; unfold scr9; simp)
            rw [setA_ne y, d5 q j z, setA_ne y, setA_ne y2]
            exact d8 q j z
        · rw [setA_ne (by decide), d6, setA_ne (by decide), setA_ne (by decide), d2]
          exact upd_same
        · rw [hv]
          exact b2i_congr ⟨fun w => ⟨Classical.byContradiction c17, w⟩, fun w => w.2⟩)
    · refine aw_iconst (pc := 20) F dX9_isCritical_20 ?_
      exact aw_iret (pc := 21) F dX9_isCritical_21 (nar_bool (by first | exact b2i_01 | decide)) (Nat.zero_le _) (by
        first
        | exact qp9 same9.rf (fun z => absurd z c9)
        | exact ⟨M2, rfl, same9_thr.tr d1, by rw [d2]; exact upd_same, fun _ => (b2i_neg (fun z => c17 z.1)).symm⟩)
