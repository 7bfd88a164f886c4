/-! 62: the class raises LOW -/
theorem cx8_canRaise (M : Id4 → Int → Int) (b : Bool) (S : Int → Int) (k : Int) (h1 : inR k) (hR : plR M 0 S) (h : Ok S) : CxI 30 1 yX8_canRaise cX8_canRaise 3 (some .int) [aR (8, 0, 0, 0), aI k] (M, R0 b) (fun v σ' => v = crS S k ∧ (0 ≤ k ∧ k < S 20) ∧ ∃ M', σ' = (M', R0 b) ∧ same8 M M') (fun E σ' => E = eIO ∧ σ' = (M, R0 b) ∧ ¬ (0 ≤ k ∧ k < S 20)) := by
  refine CxI.mk (by decide +kernel) rfl (Nat.le_of_ble_eq_true rfl) (fun X K F hk => ?_)
  have hN := h.2.2.1
  have hE := h.2.1
  have hT := h.1
  obtain ⟨Q9, hQ⟩ : ∃ Q9, Q9 = XI X K 1 (fun v σ' => v = crS S k ∧ (0 ≤ k ∧ k < S 20) ∧ ∃ M', σ' = (M', R0 b) ∧ same8 M M') (fun E σ' => E = eIO ∧ σ' = (M, R0 b) ∧ ¬ (0 ≤ k ∧ k < S 20)) := ⟨_, rfl⟩
  have loop : (0 ≤ k ∧ k < S 20) → GOOD (rsS S k 0) → ∀ (r : Nat) (M' : Id4 → Int → Int) (w : Int), (r : Int) ≤ S (21 + 5 * k + 3) - S (21 + 5 * k + 2) → same8 M M' → plR M' 1 (upS S (21 + 5 * k + 2) w) → crS S k = crN S k (r + 1) → AW X K 53 [aR (8, 0, 0, 0), aI k, aI r] [] (M', R0 b) 1 Q9 := by
    intro q hg r
    have z := h.2.2.2.2 k q.1 q.2
    unfold SpOk at z
    induction r with
    | zero =>
      intro M' w hr a1 a2 a3
      refine aw_iload2 (pc := 53) F dX8_canRaise_53 ?_
      refine aw_if_le (tgt := 100) (pc := 54) F dX8_canRaise_54 (by decide) (by unfold inR; omega) (fun c54 => ?_) (fun c54 => ?_)
      · refine aw_iconst (pc := 100) F dX8_canRaise_100 ?_
        rw [hQ]
        exact aw_xiret (pc := 101) F dX8_canRaise_101 rfl (by decide) ⟨by rw [a3]; exact (crN_s.1 hg).symm, q, M', rfl, a1⟩
      · omega
    | succ r ih =>
      intro M' w hr a1 a2 a3
      have l0 : M' (5, 0, 7, 0) k = S (21 + 5 * k + 2) := ((a1.pl hR).2.2 k q.1 q.2).2.2.1
      have p1 : plR (updM M' (5, 1, 7, 0) k (S (21 + 5 * k + 2) + ((r + 1 : Nat) : Int))) 1 (rsS S k ((r + 1 : Nat) : Int)) := by
        have g := pl_span (v := S (21 + 5 * k + 2) + ((r + 1 : Nat) : Int)) (k := k) (w := 2) 7 (by rw [upS_ne (by omega)]; omega) (by omega) (Or.inr (Or.inr (Or.inl ⟨rfl, rfl⟩))) a2
        rw [upS_upS] at g
        exact g
      have ok1 := rs_ok h q (r := ((r + 1 : Nat) : Int)) (by omega)
      have g9 := goS_good ok1 (first := 1)
      have cs := crN_s (S := S) (k := k) (n := r + 1)
      refine aw_iload2 (pc := 53) F dX8_canRaise_53 ?_
      refine aw_if_le (tgt := 100) (pc := 54) F dX8_canRaise_54 (by decide) (by unfold inR; omega) (fun c54 => ?_) (fun c54 => ?_)
      · omega
      · refine aw_aload0 (pc := 57) F dX8_canRaise_57 ?_
        refine aw_getR (pc := 58) F dX8_canRaise_58 fl_8_38 rfl (by first | decide | (simp only [inB, cnt, rcnt]; omega)) rfl nz5 rfl ?_
        refine aw_getR (pc := 61) F dX8_canRaise_61 fl_8_135 rfl (by first | decide | (simp only [inB, cnt, rcnt]; omega)) rfl nz6 rfl ?_
        refine aw_iload1 (pc := 64) F dX8_canRaise_64 ?_
        refine aw_aload0 (pc := 65) F dX8_canRaise_65 ?_
        refine aw_getR (pc := 66) F dX8_canRaise_66 fl_8_34 rfl (by first | decide | (simp only [inB, cnt, rcnt]; omega)) rfl nz4 rfl ?_
        refine aw_getR (pc := 69) F dX8_canRaise_69 fl_8_135 rfl (by first | decide | (simp only [inB, cnt, rcnt]; omega)) rfl nz6 rfl ?_
        refine aw_iload1 (pc := 72) F dX8_canRaise_72 ?_
        refine aw_iald (pc := 73) F dX8_canRaise_73 rfl (by first | decide | (simp only [inB, cnt, rcnt]; omega)) (by omega) ?_
        refine aw_iload2 (pc := 74) F dX8_canRaise_74 ?_
        refine aw_iadd (pc := 75) F dX8_canRaise_75 ?_
        rw [l0]
        refine aw_iast (pc := 76) F dX8_canRaise_76 rfl (by first | decide | (simp only [inB, cnt, rcnt]; omega)) (by omega) ?_
        refine aw_aload0 (pc := 77) F dX8_canRaise_77 ?_
        refine aw_getR (pc := 78) F dX8_canRaise_78 fl_8_65 rfl (by first | decide | (simp only [inB, cnt, rcnt]; omega)) rfl nz9 rfl ?_
        refine aw_aload0 (pc := 81) F dX8_canRaise_81 ?_
        refine aw_getR (pc := 82) F dX8_canRaise_82 fl_8_38 rfl (by first | decide | (simp only [inB, cnt, rcnt]; omega)) rfl nz5 rfl ?_
        refine aw_iconst (pc := 85) F dX8_canRaise_85 ?_
        refine aw_callVI2 (pc := 86) F dX8_canRaise_86 ml_8_245 rfl (by first | decide | (simp only [inB, cnt, rcnt]; omega)) (ct7_findGood _ _ _ 1 1 (Or.inr rfl) (by decide) p1 ok1) (Nat.le_of_ble_eq_true rfl) (by decide) (by decide) (fun v9 σ9 h9_86 => ?_)
        obtain ⟨rfl, M2, rfl, c1, c2⟩ := h9_86
        refine aw_ifb_eq (tgt := 94) (pc := 89) F dX8_canRaise_89 (by decide) (fun c89 => ?_) (fun c89 => ?_)
        · refine aw_iinc2 (pc := 94) F dX8_canRaise_94 rfl hk.symm ?_
          refine aw_goto (tgt := 53) (pc := 97) F dX8_canRaise_97 (by decide) ?_
          rw [show ((r + 1 : Nat) : Int) + -1 = (r : Int) by omega]
          exact ih M2 _ (by omega) ((a1.up (scr8_t)).tr c1.s8) (c1.pl p1) (a3.trans (cs.2 (fun y => c89 (g9.mpr y))))
        · refine aw_iload2 (pc := 92) F dX8_canRaise_92 ?_
          rw [hQ]
          exact aw_xiret (pc := 93) F dX8_canRaise_93 rfl (by decide) ⟨by rw [a3]; exact (cs.1 (g9.mp c89)).symm, q, M2, rfl, (a1.up (scr8_t)).tr c1.s8⟩
  refine aw_aload0 (pc := 0) F dX8_canRaise_0 ?_
  refine aw_iload1 (pc := 1) F dX8_canRaise_1 ?_
  refine aw_xcallVVI1 (pc := 2) F dX8_canRaise_2 ml_8_126 rfl (by first | decide | (simp only [inB, cnt, rcnt]; omega)) (cx8_requireSpan _ _ S _ h1 hR h) (Nat.le_of_ble_eq_true rfl) (by decide) (by decide) (fun _ _ h => h) (fun σ9 h9_2 => ?_)
  obtain ⟨rfl, q⟩ := h9_2
  refine aw_aload0 (pc := 5) F dX8_canRaise_5 ?_
  refine aw_getR (pc := 6) F dX8_canRaise_6 fl_8_65 rfl (by first | decide | (simp only [inB, cnt, rcnt]; omega)) rfl nz9 rfl ?_
  refine aw_aload0 (pc := 9) F dX8_canRaise_9 ?_
  refine aw_getR (pc := 10) F dX8_canRaise_10 fl_8_34 rfl (by first | decide | (simp only [inB, cnt, rcnt]; omega)) rfl nz4 rfl ?_
  refine aw_iconst (pc := 13) F dX8_canRaise_13 ?_
  refine aw_callVI2 (pc := 14) F dX8_canRaise_14 ml_8_245 rfl (by first | decide | (simp only [inB, cnt, rcnt]; omega)) (ct7_findGood _ _ S 0 1 (Or.inr rfl) (by decide) hR h) (Nat.le_of_ble_eq_true rfl) (by decide) (by decide) (fun v9 σ9 h9_14 => ?_)
  obtain ⟨rfl, M2, rfl, c1, c2⟩ := h9_14
  refine aw_ifb_ne (tgt := 22) (pc := 17) F dX8_canRaise_17 (by decide) (fun c17 => ?_) (fun c17 => ?_)
  · refine aw_aload0 (pc := 22) F dX8_canRaise_22 ?_
    refine aw_getR (pc := 23) F dX8_canRaise_23 fl_8_38 rfl (by first | decide | (simp only [inB, cnt, rcnt]; omega)) rfl nz5 rfl ?_
    refine aw_aload0 (pc := 26) F dX8_canRaise_26 ?_
    refine aw_getR (pc := 27) F dX8_canRaise_27 fl_8_34 rfl (by first | decide | (simp only [inB, cnt, rcnt]; omega)) rfl nz4 rfl ?_
    refine aw_callVV1 (pc := 30) F dX8_canRaise_30 ml_8_89 rfl (by first | decide | (simp only [inB, cnt, rcnt]; omega)) (ct5_copyFrom _ _ 0 1 (by decide) (by decide) (by decide)) (Nat.le_of_ble_eq_true rfl) (by decide) (by decide) (fun σ9 h9_30 => ?_)
    obtain ⟨M3, rfl, c3, c4⟩ := h9_30
    refine aw_aload0 (pc := 33) F dX8_canRaise_33 ?_
    refine aw_getR (pc := 34) F dX8_canRaise_34 fl_8_34 rfl (by first | decide | (simp only [inB, cnt, rcnt]; omega)) rfl nz4 rfl ?_
    refine aw_getR (pc := 37) F dX8_canRaise_37 fl_8_138 rfl (by first | decide | (simp only [inB, cnt, rcnt]; omega)) rfl nz7 rfl ?_
    refine aw_iload1 (pc := 40) F dX8_canRaise_40 ?_
    refine aw_iald (pc := 41) F dX8_canRaise_41 rfl (by first | decide | (simp only [inB, cnt, rcnt]; omega)) (by omega) ?_
    refine aw_aload0 (pc := 42) F dX8_canRaise_42 ?_
    refine aw_getR (pc := 43) F dX8_canRaise_43 fl_8_34 rfl (by first | decide | (simp only [inB, cnt, rcnt]; omega)) rfl nz4 rfl ?_
    refine aw_getR (pc := 46) F dX8_canRaise_46 fl_8_135 rfl (by first | decide | (simp only [inB, cnt, rcnt]; omega)) rfl nz6 rfl ?_
    refine aw_iload1 (pc := 49) F dX8_canRaise_49 ?_
    refine aw_iald (pc := 50) F dX8_canRaise_50 rfl (by first | decide | (simp only [inB, cnt, rcnt]; omega)) (by omega) ?_
    refine aw_isub (pc := 51) F dX8_canRaise_51 ?_
    refine aw_istore2 (pc := 52) F dX8_canRaise_52 rfl hk.symm ?_
    have z := h.2.2.2.2 k q.1 q.2
    unfold SpOk at z
    have s8 := c1.s8.tr c3.s8
    have pp := (s8.pl hR).2.2 k q.1 q.2
    obtain ⟨D, hD⟩ : ∃ D : Nat, S (21 + 5 * k + 3) - S (21 + 5 * k + 2) = (D : Int) := ⟨(S (21 + 5 * k + 3) - S (21 + 5 * k + 2)).toNat, by omega⟩
    rw [pp.2.2.1, pp.2.2.2.1, hD, ← hQ]
    refine loop q (by rw [show rsS S k 0 = S from upS_id (by omega)]; exact (goS_good h).mp c17) D M3 (S (21 + 5 * k + 2)) (by omega) s8 (by rw [upS_id rfl]; exact c4 S h (c1.pl hR)) ?_
    unfold crS
    rw [hD, show ((D : Int) + 1).toNat = D + 1 by omega]
  · refine aw_iconst (pc := 20) F dX8_canRaise_20 ?_
    exact aw_xiret (pc := 21) F dX8_canRaise_21 rfl (by decide) (by
      have z := h.2.2.2.2 k q.1 q.2
      unfold SpOk at z
      have n0 : ¬ GOOD (rsS S k ((0 : Nat) : Int)) := fun y => c17 ((goS_good h).mpr (by rw [show rsS S k ((0 : Nat) : Int) = S from upS_id (by omega)] at y; exact y))
      refine ⟨?_, q, M2, rfl, c1.s8⟩
      exact (((crN_no h q n0 _ (Nat.zero_le _)).2)).symm)
