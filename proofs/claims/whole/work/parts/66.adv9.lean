/-! 66: the reference goes to the next token -/
/-- the token behind place i stands in the reference's fields -/
def TK (B : Int → Int) (n i : Int) (M : Id4 → Int → Int) : Prop := M (9, 0, 0, 0) 10 = stT B n i ∧ M (9, 0, 0, 0) 11 = nxT B n i ∧ M (9, 0, 0, 0) 12 = kdT B n i ∧ (kdT B n i = 3 → M (9, 0, 0, 0) 13 = vlT B n i)
theorem ct9_advance (M : Id4 → Int → Int) (b : Bool) (B : Int → Int) (n i : Int) (hB : M (9, 0, 6, 0) = B) (hy : BY B) (hn : M (9, 0, 0, 0) 9 = n) (hn2 : 0 ≤ n ∧ n ≤ 500) (hi9 : M (9, 0, 0, 0) 11 = i) (h1 : 0 ≤ i ∧ i ≤ n) : CtI 3 0 yX9_advance cX9_advance 2 (some .boolean) [aR (9, 0, 0, 0)] (M, R0 b) (fun v σ' => v = 1 ∧ ∃ M', σ' = (M', R0 b) ∧ chX M M' ∧ TK B n i M') := by
  refine CtI.mk (by decide +kernel) rfl (Nat.le_of_ble_eq_true rfl) (fun X K F hk => ?_)
  obtain ⟨Q9, hQ⟩ : ∃ Q9, Q9 = EI X K 0 (fun v σ' => v = 1 ∧ ∃ M', σ' = (M', R0 b) ∧ chX M M' ∧ TK B n i M') := ⟨_, rfl⟩
  have sb := stT_bd (B := B) h1.2
  have done : ∀ (M' : Id4 → Int → Int) (w : AV), chX M M' → TK B n i M' → AW X K 122 [aR (9, 0, 0, 0), w] [] (M', R0 b) 0 Q9 := by
    intro M' w a1 a2
    refine aw_iconst (pc := 122) F dX9_advance_122 ?_
    rw [hQ]
    exact aw_iret (pc := 123) F dX9_advance_123 (nar_bool (by first | exact b2i_01 | decide)) (Nat.zero_le _) ⟨rfl, M', rfl, a1, a2⟩
  have tok : ∀ (M' : Id4 → Int → Int), chX M M' → M' (9, 0, 0, 0) 11 = stT B n i → AW X K 39 [aR (9, 0, 0, 0), aX] [] (M', R0 b) 0 Q9 := by
    intro M' a1 a3
    have a2 := (show chX M (updM M' (9, 0, 0, 0) 10 (stT B n i)) from a1.up (by decide))
    have e9 := a2.n.trans hn
    have eB : updM M' (9, 0, 0, 0) 10 (stT B n i) (9, 0, 6, 0) = B := by rw [a2.off (by decide), hB]
    have e11 : updM M' (9, 0, 0, 0) 10 (stT B n i) (9, 0, 0, 0) 11 = stT B n i := by rw [upd_ne (Or.inr (by decide))]; exact a3
    have bj : stT B n i < n → 0 ≤ B (stT B n i) ∧ B (stT B n i) ≤ 255 := fun z => hy _ (by omega) (by omega)
    refine aw_aload0 (pc := 39) F dX9_advance_39 ?_
    refine aw_aload0 (pc := 40) F dX9_advance_40 ?_
    refine aw_getI (pc := 41) F dX9_advance_41 fl_9_74 rfl (by first | decide | (simp only [inB, cnt, rcnt]; omega)) rfl nz11 ?_
    rw [a3]
    refine aw_putI (pc := 44) F dX9_advance_44 fl_9_85 fpi_9_10 rfl (by first | decide | (simp only [inB, cnt, rcnt]; omega)) rfl nz10 ?_
    refine aw_aload0 (pc := 47) F dX9_advance_47 ?_
    refine aw_aload0 (pc := 48) F dX9_advance_48 ?_
    refine aw_getI (pc := 49) F dX9_advance_49 fl_9_74 rfl (by first | decide | (simp only [inB, cnt, rcnt]; omega)) rfl nz11 ?_
    rw [e11]
    refine aw_callVI1 (pc := 52) F dX9_advance_52 ml_9_77 rfl (by first | decide | (simp only [inB, cnt, rcnt]; omega)) (ct9_byteAt _ _ n (stT B n i) e9 (by omega) (by omega) (by unfold inR; omega) (by unfold inR; omega)) (Nat.le_of_ble_eq_true rfl) (by decide) (Nat.zero_le _) (fun v9 σ9 h9_52 => ?_)
    obtain ⟨q1, q2, rfl⟩ := h9_52
    rw [eB] at q1
    refine aw_istore1 (pc := 55) F dX9_advance_55 rfl hk.symm ?_
    refine aw_iload1 (pc := 56) F dX9_advance_56 ?_
    refine aw_iconst (pc := 57) F dX9_advance_57 ?_
    refine aw_icmp_ne (tgt := 69) (pc := 58) F dX9_advance_58 (by decide) (by unfold inR; omega) (by unfold inR; omega) (fun c58 => ?_) (fun c58 => ?_)
    · refine aw_iload1 (pc := 69) F dX9_advance_69 ?_
      refine aw_pcallS1 (pc := 70) F dX9_advance_70 ml_9_81 (ct9_isLetter _ _ _ (by unfold inR; omega)) (Nat.le_of_ble_eq_true rfl) (by decide) (Nat.zero_le _) ?_
      refine aw_ifb_eq (tgt := 83) (pc := 73) F dX9_advance_73 (by decide) (fun c73 => ?_) (fun c73 => ?_)
      · refine aw_iload1 (pc := 83) F dX9_advance_83 ?_
        refine aw_pcallS1 (pc := 84) F dX9_advance_84 ml_9_94 (ct9_isDigit _ _ _ (by unfold inR; omega)) (Nat.le_of_ble_eq_true rfl) (by decide) (Nat.zero_le _) ?_
        refine aw_ifb_eq (tgt := 97) (pc := 87) F dX9_advance_87 (by decide) (fun c87 => ?_) (fun c87 => ?_)
        · have z1 : stT B n i < n ∧ ¬ isLt (B (stT B n i)) = true ∧ ¬ isDg (B (stT B n i)) = true := by
            by_cases z : stT B n i < n
            · exact ⟨z, fun y => by have := q1 z; have := isLt_iff.mp y; omega, fun y => by have := q1 z; have := isDg_iff.mp y; omega⟩
            · have := q2 z; omega
          have hv := q1 z1.1
          have hs2 : ∀ x : Int, x = (if B (stT B n i) = 59 then 4 else 1) → AW X K 122 [aR (9, 0, 0, 0), aI v9] [] (updM (updM (updM M' (9, 0, 0, 0) 10 (stT B n i)) (9, 0, 0, 0) 11 (stT B n i + 1)) (9, 0, 0, 0) 12 x, R0 b) 0 Q9 := fun x hx => done _ _ ((a2.up (by decide)).up (by decide)) ⟨by rw [upd_ne (Or.inr (by decide)), upd_ne (Or.inr (by decide))]; exact upd_same, by rw [upd_ne (Or.inr (by decide)), upd_same]; exact (tk_p z1).1.symm, by rw [upd_same, hx]; exact (tk_p z1).2.symm, fun z => absurd ((tk_p z1).2.symm.trans z) ite14⟩
          refine aw_aload0 (pc := 97) F dX9_advance_97 ?_
          refine aw_dupR (pc := 98) F dX9_advance_98 ?_
          refine aw_getI (pc := 99) F dX9_advance_99 fl_9_74 rfl (by first | decide | (simp only [inB, cnt, rcnt]; omega)) rfl nz11 ?_
          refine aw_iconst (pc := 102) F dX9_advance_102 ?_
          refine aw_iadd (pc := 103) F dX9_advance_103 ?_
          rw [e11]
          refine aw_putI (pc := 104) F dX9_advance_104 fl_9_74 fpi_9_11 rfl (by first | decide | (simp only [inB, cnt, rcnt]; omega)) rfl nz11 ?_
          refine aw_aload0 (pc := 107) F dX9_advance_107 ?_
          refine aw_iload1 (pc := 108) F dX9_advance_108 ?_
          refine aw_bipush (pc := 109) F dX9_advance_109 (by decide) ?_
          refine aw_icmp_ne (tgt := 118) (pc := 111) F dX9_advance_111 (by decide) (by unfold inR; omega) (by unfold inR; omega) (fun c111 => ?_) (fun c111 => ?_)
          · refine aw_iconst (pc := 118) F dX9_advance_118 ?_
            refine aw_putI (pc := 119) F dX9_advance_119 fl_9_88 fpi_9_12 rfl (by first | decide | (simp only [inB, cnt, rcnt]; omega)) rfl nz12 ?_
            first | exact done _ _ (a2.up (by decide)) ⟨by rw [upd_ne (Or.inr (by decide))]; exact upd_same, by rw [upd_ne (Or.inr (by decide)), e11]; exact (tk_e (by omega)).1.symm, by rw [upd_same]; exact (tk_e (by omega)).2.symm, fun z => absurd ((tk_e (by omega)).2.symm.trans z) (by decide)⟩ | exact hw2 | exact hd2 | exact hs2 _ (by first | rw [if_pos (by omega)] | rw [if_neg (by omega)])
          · refine aw_iconst (pc := 114) F dX9_advance_114 ?_
            refine aw_goto (tgt := 119) (pc := 115) F dX9_advance_115 (by decide) ?_
            refine aw_putI (pc := 119) F dX9_advance_119 fl_9_88 fpi_9_12 rfl (by first | decide | (simp only [inB, cnt, rcnt]; omega)) rfl nz12 ?_
            first | exact done _ _ (a2.up (by decide)) ⟨by rw [upd_ne (Or.inr (by decide))]; exact upd_same, by rw [upd_ne (Or.inr (by decide)), e11]; exact (tk_e (by omega)).1.symm, by rw [upd_same]; exact (tk_e (by omega)).2.symm, fun z => absurd ((tk_e (by omega)).2.symm.trans z) (by decide)⟩ | exact hw2 | exact hd2 | exact hs2 _ (by first | rw [if_pos (by omega)] | rw [if_neg (by omega)])
        · refine aw_aload0 (pc := 90) F dX9_advance_90 ?_
          refine aw_callVV0 (pc := 91) F dX9_advance_91 ml_9_100 rfl (by first | decide | (simp only [inB, cnt, rcnt]; omega)) (ct9_readNumber _ _ B n (stT B n i) eB hy e9 hn2 e11 upd_same (by omega)) (Nat.le_of_ble_eq_true rfl) (by decide) (Nat.zero_le _) (fun σ9 h9_91 => ?_)
          obtain ⟨M3, rfl, c1, c2, c3, c4, c5⟩ := h9_91
          have z1 : stT B n i < n ∧ ¬ isLt (B (stT B n i)) = true ∧ isDg (B (stT B n i)) = true := by
            by_cases z : stT B n i < n
            · exact ⟨z, fun y => by have := q1 z; have := isLt_iff.mp y; omega, isDg_iff.mpr (by have := q1 z; omega)⟩
            · have := q2 z; omega
          have g0 := tnS_gt (B := B) z1.1
          have hd2 := done M3 (aI v9) (a2.tr c1) ⟨c2, c3.trans (tk_d z1).1.symm, c4.trans (tk_d z1).2.symm, fun z => c5 (by rw [← (tk_d z1).1]; exact g0)⟩
          refine aw_goto (tgt := 122) (pc := 94) F dX9_advance_94 (by decide) ?_
          first | exact done _ _ (a2.up (by decide)) ⟨by rw [upd_ne (Or.inr (by decide))]; exact upd_same, by rw [upd_ne (Or.inr (by decide)), e11]; exact (tk_e (by omega)).1.symm, by rw [upd_same]; exact (tk_e (by omega)).2.symm, fun z => absurd ((tk_e (by omega)).2.symm.trans z) (by decide)⟩ | exact hw2 | exact hd2 | exact hs2 _ (by first | rw [if_pos (by omega)] | rw [if_neg (by omega)])
      · refine aw_aload0 (pc := 76) F dX9_advance_76 ?_
        refine aw_callVV0 (pc := 77) F dX9_advance_77 ml_9_97 rfl (by first | decide | (simp only [inB, cnt, rcnt]; omega)) (ct9_readWord _ _ B n (stT B n i) (stT B n i) eB hy e9 hn2 e11 upd_same (by omega)) (Nat.le_of_ble_eq_true rfl) (by decide) (Nat.zero_le _) (fun σ9 h9_77 => ?_)
        obtain ⟨M3, rfl, c1, c2, c3, c4⟩ := h9_77
        have z1 : stT B n i < n ∧ isLt (B (stT B n i)) = true := by
          by_cases z : stT B n i < n
          · exact ⟨z, isLt_iff.mpr (by have := q1 z; omega)⟩
          · have := q2 z; omega
        have hw2 := done M3 (aI v9) (a2.tr c1) ⟨c2, c3.trans (tk_w z1).1.symm, c4.trans (tk_w z1).2.symm, fun z => absurd ((tk_w z1).2.symm.trans z) ite12⟩
        refine aw_goto (tgt := 122) (pc := 80) F dX9_advance_80 (by decide) ?_
        first | exact done _ _ (a2.up (by decide)) ⟨by rw [upd_ne (Or.inr (by decide))]; exact upd_same, by rw [upd_ne (Or.inr (by decide)), e11]; exact (tk_e (by omega)).1.symm, by rw [upd_same]; exact (tk_e (by omega)).2.symm, fun z => absurd ((tk_e (by omega)).2.symm.trans z) (by decide)⟩ | exact hw2 | exact hd2 | exact hs2 _ (by first | rw [if_pos (by omega)] | rw [if_neg (by omega)])
    · refine aw_aload0 (pc := 61) F dX9_advance_61 ?_
      refine aw_iconst (pc := 62) F dX9_advance_62 ?_
      refine aw_putI (pc := 63) F dX9_advance_63 fl_9_88 fpi_9_12 rfl (by first | decide | (simp only [inB, cnt, rcnt]; omega)) rfl nz12 ?_
      refine aw_goto (tgt := 122) (pc := 66) F dX9_advance_66 (by decide) ?_
      first | exact done _ _ (a2.up (by decide)) ⟨by rw [upd_ne (Or.inr (by decide))]; exact upd_same, by rw [upd_ne (Or.inr (by decide)), e11]; exact (tk_e (by omega)).1.symm, by rw [upd_same]; exact (tk_e (by omega)).2.symm, fun z => absurd ((tk_e (by omega)).2.symm.trans z) (by decide)⟩ | exact hw2 | exact hd2 | exact hs2 _ (by first | rw [if_pos (by omega)] | rw [if_neg (by omega)])
  have loop : ∀ (f : Nat) (j : Int) (M' : Id4 → Int → Int), (n - j).toNat = f → i ≤ j → j ≤ n → stT B n i = rn isWs B n j → chX M M' → M' (9, 0, 0, 0) 11 = j → AW X K 0 [aR (9, 0, 0, 0), aX] [] (M', R0 b) 0 Q9 := by
    intro f
    induction f with
    | zero =>
      intro j M' hf j1 j2 hr a1 a3
      have e9 := a1.n.trans hn
      have st := rn_no (p := isWs) (B := B) (n := n) (i := j) (fun z => by omega)
      refine aw_aload0 (pc := 0) F dX9_advance_0 ?_
      refine aw_aload0 (pc := 1) F dX9_advance_1 ?_
      refine aw_getI (pc := 2) F dX9_advance_2 fl_9_74 rfl (by first | decide | (simp only [inB, cnt, rcnt]; omega)) rfl nz11 ?_
      rw [a3]
      refine aw_callVI1 (pc := 5) F dX9_advance_5 ml_9_77 rfl (by first | decide | (simp only [inB, cnt, rcnt]; omega)) (ct9_byteAt _ _ n j e9 (by omega) (by omega) (by unfold inR; omega) (by unfold inR; omega)) (Nat.le_of_ble_eq_true rfl) (by decide) (Nat.zero_le _) (fun v9 σ9 h9_5 => ?_)
      obtain ⟨-, q2, rfl⟩ := h9_5
      refine aw_bipush (pc := 8) F dX9_advance_8 (by decide) ?_
      refine aw_icmp_eq (tgt := 26) (pc := 10) F dX9_advance_10 (by decide) (by unfold inR; omega) (by unfold inR; omega) (fun c10 => ?_) (fun c10 => ?_)
      · omega
      · refine aw_aload0 (pc := 13) F dX9_advance_13 ?_
        refine aw_aload0 (pc := 14) F dX9_advance_14 ?_
        refine aw_getI (pc := 15) F dX9_advance_15 fl_9_74 rfl (by first | decide | (simp only [inB, cnt, rcnt]; omega)) rfl nz11 ?_
        rw [a3]
        refine aw_callVI1 (pc := 18) F dX9_advance_18 ml_9_77 rfl (by first | decide | (simp only [inB, cnt, rcnt]; omega)) (ct9_byteAt _ _ n j e9 (by omega) (by omega) (by unfold inR; omega) (by unfold inR; omega)) (Nat.le_of_ble_eq_true rfl) (by decide) (Nat.zero_le _) (fun v8 σ8 h9_18 => ?_)
        obtain ⟨-, q3, rfl⟩ := h9_18
        refine aw_bipush (pc := 21) F dX9_advance_21 (by decide) ?_
        refine aw_icmp_ne (tgt := 39) (pc := 23) F dX9_advance_23 (by decide) (by unfold inR; omega) (by unfold inR; omega) (fun c23 => ?_) (fun c23 => ?_)
        · exact tok M' a1 (by rw [a3, hr, st])
        · omega
    | succ f ih =>
      intro j M' hf j1 j2 hr a1 a3
      have e9 := a1.n.trans hn
      have eB : M' (9, 0, 6, 0) j = B j := by rw [a1.off (by decide), hB]
      have bj := hy j (by omega) (by omega)
      refine aw_aload0 (pc := 0) F dX9_advance_0 ?_
      refine aw_aload0 (pc := 1) F dX9_advance_1 ?_
      refine aw_getI (pc := 2) F dX9_advance_2 fl_9_74 rfl (by first | decide | (simp only [inB, cnt, rcnt]; omega)) rfl nz11 ?_
      rw [a3]
      refine aw_callVI1 (pc := 5) F dX9_advance_5 ml_9_77 rfl (by first | decide | (simp only [inB, cnt, rcnt]; omega)) (ct9_byteAt _ _ n j e9 (by omega) (by omega) (by unfold inR; omega) (by unfold inR; omega)) (Nat.le_of_ble_eq_true rfl) (by decide) (Nat.zero_le _) (fun v9 σ9 h9_5 => ?_)
      obtain ⟨q1, -, rfl⟩ := h9_5
      have qv := (q1 (by omega)).trans eB
      refine aw_bipush (pc := 8) F dX9_advance_8 (by decide) ?_
      refine aw_icmp_eq (tgt := 26) (pc := 10) F dX9_advance_10 (by decide) (by unfold inR; omega) (by unfold inR; omega) (fun c10 => ?_) (fun c10 => ?_)
      · refine aw_aload0 (pc := 26) F dX9_advance_26 ?_
        refine aw_dupR (pc := 27) F dX9_advance_27 ?_
        refine aw_getI (pc := 28) F dX9_advance_28 fl_9_74 rfl (by first | decide | (simp only [inB, cnt, rcnt]; omega)) rfl nz11 ?_
        refine aw_iconst (pc := 31) F dX9_advance_31 ?_
        refine aw_iadd (pc := 32) F dX9_advance_32 ?_
        refine aw_putI (pc := 33) F dX9_advance_33 fl_9_74 fpi_9_11 rfl (by first | decide | (simp only [inB, cnt, rcnt]; omega)) rfl nz11 ?_
        refine aw_goto (tgt := 0) (pc := 36) F dX9_advance_36 (by decide) ?_
        rw [a3]
        exact ih (j + 1) _ (by omega) (by omega) (by omega) (hr.trans (rn_go ⟨by omega, isWs_iff.mpr (by omega)⟩)) (a1.up (by decide)) upd_same
      · refine aw_aload0 (pc := 13) F dX9_advance_13 ?_
        refine aw_aload0 (pc := 14) F dX9_advance_14 ?_
        refine aw_getI (pc := 15) F dX9_advance_15 fl_9_74 rfl (by first | decide | (simp only [inB, cnt, rcnt]; omega)) rfl nz11 ?_
        rw [a3]
        refine aw_callVI1 (pc := 18) F dX9_advance_18 ml_9_77 rfl (by first | decide | (simp only [inB, cnt, rcnt]; omega)) (ct9_byteAt _ _ n j e9 (by omega) (by omega) (by unfold inR; omega) (by unfold inR; omega)) (Nat.le_of_ble_eq_true rfl) (by decide) (Nat.zero_le _) (fun v8 σ8 h9_18 => ?_)
        obtain ⟨q3, -, rfl⟩ := h9_18
        have qw := (q3 (by omega)).trans eB
        refine aw_bipush (pc := 21) F dX9_advance_21 (by decide) ?_
        refine aw_icmp_ne (tgt := 39) (pc := 23) F dX9_advance_23 (by decide) (by unfold inR; omega) (by unfold inR; omega) (fun c23 => ?_) (fun c23 => ?_)
        · exact tok M' a1 (by rw [a3, hr, rn_no (fun z => by have := isWs_iff.mp z.2; omega)])
        · refine aw_aload0 (pc := 26) F dX9_advance_26 ?_
          refine aw_dupR (pc := 27) F dX9_advance_27 ?_
          refine aw_getI (pc := 28) F dX9_advance_28 fl_9_74 rfl (by first | decide | (simp only [inB, cnt, rcnt]; omega)) rfl nz11 ?_
          refine aw_iconst (pc := 31) F dX9_advance_31 ?_
          refine aw_iadd (pc := 32) F dX9_advance_32 ?_
          refine aw_putI (pc := 33) F dX9_advance_33 fl_9_74 fpi_9_11 rfl (by first | decide | (simp only [inB, cnt, rcnt]; omega)) rfl nz11 ?_
          refine aw_goto (tgt := 0) (pc := 36) F dX9_advance_36 (by decide) ?_
          rw [a3]
          exact ih (j + 1) _ (by omega) (by omega) (by omega) (hr.trans (rn_go ⟨by omega, isWs_iff.mpr (by omega)⟩)) (a1.up (by decide)) upd_same
  rw [← hQ]
  exact loop _ i M rfl (by omega) (by omega) rfl chX.rf hi9
