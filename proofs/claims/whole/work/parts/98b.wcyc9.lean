/-! 98b: writeCycle and written of the reference -/
theorem cq9_writeCycle (M : Id4 → Int → Int) (b : Bool) (S : Int → Int) (c : Int) (p : Pg) (h9 : inR c) (hS : M (9, 0, 1, 0) = S) (h : Ok S) (hp : PgR9 M p) : CtI 19 0 yX9_writeCycle cX9_writeCycle 3 (some .int) [aR (9, 0, 0, 0), aI c] (M, R0 b) (fun v σ' => ∃ M', σ' = (M', R0 b) ∧ M' (9, 0, 0, 0) 4 = 1 - b2i (cyc S c) ∧ ((cyc S c ∧ v = (wcP S c p).2 ∧ o9 M M' ∧ PgR9 M' (wcP S c p)) ∨ (¬ cyc S c ∧ same9 M M'))) := by
  refine CtI.mk (by decide +kernel) rfl (Nat.le_of_ble_eq_true rfl) (fun X K F hk => ?_)
  have hE := h.2.1
  have hSp := h.2.2.1
  obtain ⟨Q9, hQ⟩ : ∃ Q9, Q9 = EI X K 0 (fun v σ' => ∃ M', σ' = (M', R0 b) ∧ M' (9, 0, 0, 0) 4 = 1 - b2i (cyc S c) ∧ ((cyc S c ∧ v = (wcP S c p).2 ∧ o9 M M' ∧ PgR9 M' (wcP S c p)) ∨ (¬ cyc S c ∧ same9 M M'))) := ⟨_, rfl⟩
  have key : ∀ (M1 : Id4 → Int → Int), same9 M M1 → wayR S c M1 → M1 (9, 0, 0, 0) 4 = 0 → cyc S c → ∀ (f n : Nat) (M' : Id4 → Int → Int), n + f = cyL S c → only9 M1 M' → PgR9 M' (cyW S c (p.1, 0) n) → (cyW S c (p.1, 0) n).2 ≤ 3 * n → AW X K 37 [aR (9, 0, 0, 0), aI c, aI n] [] (M', R0 b) 0 Q9 := by
    intro M1 g1 g2 g3 hc f
    have hc2 : c < cyM S := by have := hc.2; omega
    have lb := cyL_bd h hc.1 hc2
    have way : ∀ M', only9 M1 M' → wayR S c M' := fun M' a => ⟨by rw [a _ _ (by simp)]; exact g2.1, fun i hi => by rw [a (9, 0, 23, 0) _ (by simp), a (9, 0, 24, 0) _ (by simp)]; exact g2.2 i hi⟩
    have row : ∀ M', only9 M1 M' → M' (9, 0, 1, 0) = S := fun M' a => (funext fun k => a _ k (by simp) : M' (9, 0, 1, 0) = M1 (9, 0, 1, 0)).trans (g1.s.trans hS)
    induction f with
    | zero =>
      intro n M' hn a1 a2 a3
      obtain rfl : n = cyL S c := by omega
      have w1 := (way M' a1).1
      have nb := nowS_bd h hc.1 hc2
      refine aw_iload2 (pc := 37) F dX9_writeCycle_37 ?_
      refine aw_aload0 (pc := 38) F dX9_writeCycle_38 ?_
      refine aw_getI (pc := 39) F dX9_writeCycle_39 fl_9_280 rfl (by first | decide | (simp only [inB, cnt, rcnt]; omega)) rfl nz24 ?_
      refine aw_icmp_ge (tgt := 81) (pc := 42) F dX9_writeCycle_42 (by decide) (by unfold inR; omega) (by unfold inR; omega) (fun c42 => ?_) (fun c42 => ?_)
      · refine aw_aload0 (pc := 81) F dX9_writeCycle_81 ?_
        refine aw_bipush (pc := 82) F dX9_writeCycle_82 (by decide) ?_
        refine aw_callVV1 (pc := 84) F dX9_writeCycle_84 ml_9_387 rfl (by first | decide | (simp only [inB, cnt, rcnt]; omega)) (ct9_says _ _ _ _ a2 (by omega)) (Nat.le_of_ble_eq_true rfl) (by decide) (Nat.zero_le _) (fun σ9 h9_84 => ?_)
        obtain ⟨M2, rfl, c1, c2, c3⟩ := h9_84
        refine aw_aload0 (pc := 87) F dX9_writeCycle_87 ?_
        refine aw_aload0 (pc := 88) F dX9_writeCycle_88 ?_
        refine aw_pcallV0 (pc := 89) F dX9_writeCycle_89 ml_9_308 rfl (by first | decide | (simp only [inB, cnt, rcnt]; omega)) (ct9_turnsNow _ _ S _ (row _ (a1.tr c1)) h hc.1 hc2 (way _ (a1.tr c1))) (Nat.le_of_ble_eq_true rfl) (by decide) (Nat.zero_le _) ?_
        refine aw_callVV1 (pc := 92) F dX9_writeCycle_92 ml_9_390 rfl (by first | decide | (simp only [inB, cnt, rcnt]; omega)) (ct9_saysNumber _ _ _ _ nb c2 (by omega)) (Nat.le_of_ble_eq_true rfl) (by decide) (Nat.zero_le _) (fun σ9 h9_92 => ?_)
        obtain ⟨M3, rfl, d1, d2, d3⟩ := h9_92
        refine aw_aload0 (pc := 95) F dX9_writeCycle_95 ?_
        refine aw_getI (pc := 96) F dX9_writeCycle_96 fl_9_384 rfl (by first | decide | (simp only [inB, cnt, rcnt]; omega)) rfl nz33 ?_
        rw [hQ]
        exact aw_iret (pc := 99) F dX9_writeCycle_99 rfl (Nat.zero_le _) ⟨M3, rfl, by rw [b2i_pos hc, ((a1.tr c1).tr d1) _ _ (by simp)]; exact g3, Or.inl ⟨hc, d2.2.1, o9_of g1 ((a1.tr c1).tr d1), d2⟩⟩
      · omega
    | succ f ih =>
      intro n M' hn a1 a2 a3
      have w1 := (way M' a1).1
      have w2 := ((way M' a1).2 n (by omega)).2
      have kin := cyK_in h hc.1 hc2 n (by omega)
      have b01 := cyB_01 (S := S) (c := c) n
      have mid : ∀ x : Int, x = (if cyB S c n = 0 then 45 else 43) → AW X K 62 [aR (9, 0, 0, 0), aI c, aI n] [aI x, aR (9, 0, 0, 0)] (M', R0 b) 0 Q9 := by
        intro x hx
        refine aw_callVV1 (pc := 62) F dX9_writeCycle_62 ml_9_387 rfl (by first | decide | (simp only [inB, cnt, rcnt]; omega)) (ct9_says _ _ _ _ a2 (by omega)) (Nat.le_of_ble_eq_true rfl) (by decide) (Nat.zero_le _) (fun σ9 h9_62 => ?_)
        obtain ⟨M2, rfl, c1, c2, c3⟩ := h9_62
        have w3 := ((way M2 (a1.tr c1)).2 n (by omega)).1
        refine aw_aload0 (pc := 65) F dX9_writeCycle_65 ?_
        refine aw_aload0 (pc := 66) F dX9_writeCycle_66 ?_
        refine aw_getR (pc := 67) F dX9_writeCycle_67 fl_9_39 rfl (by first | decide | (simp only [inB, cnt, rcnt]; omega)) rfl nz22 rfl ?_
        refine aw_iload2 (pc := 70) F dX9_writeCycle_70 ?_
        refine aw_iald (pc := 71) F dX9_writeCycle_71 rfl (by first | decide | (simp only [inB, cnt, rcnt]; omega)) (by omega) ?_
        rw [w3]
        refine aw_callVV1 (pc := 72) F dX9_writeCycle_72 ml_9_390 rfl (by first | decide | (simp only [inB, cnt, rcnt]; omega)) (ct9_saysSmall _ _ _ _ (by omega) c2 (by omega)) (Nat.le_of_ble_eq_true rfl) (by decide) (Nat.zero_le _) (fun σ9 h9_72 => ?_)
        obtain ⟨M3, rfl, d1, d2, d3⟩ := h9_72
        refine aw_iinc2 (pc := 75) F dX9_writeCycle_75 rfl hk.symm ?_
        refine aw_goto (tgt := 37) (pc := 78) F dX9_writeCycle_78 (by decide) ?_
        exact ih (n + 1) M3 (by omega) ((a1.tr c1).tr d1) (by unfold cyW; rw [← hx]; exact d2) (by unfold cyW; rw [← hx]; omega)
      refine aw_iload2 (pc := 37) F dX9_writeCycle_37 ?_
      refine aw_aload0 (pc := 38) F dX9_writeCycle_38 ?_
      refine aw_getI (pc := 39) F dX9_writeCycle_39 fl_9_280 rfl (by first | decide | (simp only [inB, cnt, rcnt]; omega)) rfl nz24 ?_
      refine aw_icmp_ge (tgt := 81) (pc := 42) F dX9_writeCycle_42 (by decide) (by unfold inR; omega) (by unfold inR; omega) (fun c42 => ?_) (fun c42 => ?_)
      · omega
      · refine aw_aload0 (pc := 45) F dX9_writeCycle_45 ?_
        refine aw_aload0 (pc := 46) F dX9_writeCycle_46 ?_
        refine aw_getR (pc := 47) F dX9_writeCycle_47 fl_9_42 rfl (by first | decide | (simp only [inB, cnt, rcnt]; omega)) rfl nz23 rfl ?_
        refine aw_iload2 (pc := 50) F dX9_writeCycle_50 ?_
        refine aw_zald (pc := 51) F dX9_writeCycle_51 rfl (by first | decide | (simp only [inB, cnt, rcnt]; omega)) (by omega) ?_
        rw [w2]
        refine aw_if_eq (tgt := 60) (pc := 52) F dX9_writeCycle_52 (by decide) (by unfold inR; omega) (fun c52 => ?_) (fun c52 => ?_)
        · refine aw_bipush (pc := 60) F dX9_writeCycle_60 (by decide) ?_
          first
          | exact mid _ (by rw [if_neg (by omega)])
          | exact mid _ (by rw [if_pos (by omega)])
        · refine aw_bipush (pc := 55) F dX9_writeCycle_55 (by decide) ?_
          refine aw_goto (tgt := 62) (pc := 57) F dX9_writeCycle_57 (by decide) ?_
          first
          | exact mid _ (by rw [if_neg (by omega)])
          | exact mid _ (by rw [if_pos (by omega)])
  refine aw_aload0 (pc := 0) F dX9_writeCycle_0 ?_
  refine aw_aload0 (pc := 1) F dX9_writeCycle_1 ?_
  refine aw_iload1 (pc := 2) F dX9_writeCycle_2 ?_
  refine aw_callVI1 (pc := 3) F dX9_writeCycle_3 ml_9_293 rfl (by first | decide | (simp only [inB, cnt, rcnt]; omega)) (ct9_isCycle _ _ S _ h9 hS h) (Nat.le_of_ble_eq_true rfl) (by decide) (Nat.zero_le _) (fun v9 σ9 h9_3 => ?_)
  obtain ⟨hv, M1, g9, c1, c2⟩ := h9_3
  subst g9
  subst hv
  refine aw_ifb_eq (tgt := 21) (pc := 6) F dX9_writeCycle_6 (by decide) (fun c6 => ?_) (fun c6 => ?_)
  · refine aw_iconst (pc := 21) F dX9_writeCycle_21 ?_
    refine aw_callVI1 (pc := 22) F dX9_writeCycle_22 ml_9_176 rfl (by first | decide | (simp only [inB, cnt, rcnt]; omega)) (ct9_good1 _ _ _ (by first | exact Or.inl rfl | exact Or.inr rfl)) (Nat.le_of_ble_eq_true rfl) (by decide) (Nat.zero_le _) (fun v9 σ9 h9_22 => ?_)
    obtain ⟨rfl, rfl⟩ := h9_22
    refine aw_if_ne (tgt := 30) (pc := 25) F dX9_writeCycle_25 (by decide) (by unfold inR; omega) (fun c9 => absurd c9 (by decide)) (fun _ => ?_)
    refine aw_iconst (pc := 28) F dX9_writeCycle_28 ?_
    exact aw_iret (pc := 29) F dX9_writeCycle_29 rfl (Nat.zero_le _) ⟨_, rfl, by rw [b2i_neg c6]; exact upd_same, Or.inr ⟨c6, c1.q.tr same9_thr⟩⟩
  · refine aw_aload0 (pc := 9) F dX9_writeCycle_9 ?_
    refine aw_iload1 (pc := 10) F dX9_writeCycle_10 ?_
    refine aw_callVI1 (pc := 11) F dX9_writeCycle_11 ml_9_296 rfl (by first | decide | (simp only [inB, cnt, rcnt]; omega)) (ct9_isCyc2 _ _ S _ (c1.s.trans hS) h c2 c6) (Nat.le_of_ble_eq_true rfl) (by decide) (Nat.zero_le _) (fun v9 σ9 h9_11 => ?_)
    obtain ⟨hv, M2, g9, d1, d2⟩ := h9_11
    subst g9
    subst hv
    refine aw_if_eq (tgt := 21) (pc := 14) F dX9_writeCycle_14 (by decide) (by unfold inR; omega) (fun c9 => absurd c9 (by decide)) (fun _ => ?_)
    refine aw_iconst (pc := 17) F dX9_writeCycle_17 ?_
    refine aw_goto (tgt := 22) (pc := 18) F dX9_writeCycle_18 (by decide) ?_
    refine aw_callVI1 (pc := 22) F dX9_writeCycle_22 ml_9_176 rfl (by first | decide | (simp only [inB, cnt, rcnt]; omega)) (ct9_good1 _ _ _ (by first | exact Or.inl rfl | exact Or.inr rfl)) (Nat.le_of_ble_eq_true rfl) (by decide) (Nat.zero_le _) (fun v9 σ9 h9_22 => ?_)
    obtain ⟨rfl, rfl⟩ := h9_22
    refine aw_if_ne (tgt := 30) (pc := 25) F dX9_writeCycle_25 (by decide) (by unfold inR; omega) (fun _ => ?_) (fun c9 => absurd c9 (by decide))
    refine aw_aload0 (pc := 30) F dX9_writeCycle_30 ?_
    refine aw_iconst (pc := 31) F dX9_writeCycle_31 ?_
    refine aw_putI (pc := 32) F dX9_writeCycle_32 fl_9_384 fpi_9_33 rfl (by first | decide | (simp only [inB, cnt, rcnt]; omega)) rfl nz33 ?_
    refine aw_iconst (pc := 35) F dX9_writeCycle_35 ?_
    refine aw_istore2 (pc := 36) F dX9_writeCycle_36 rfl hk.symm ?_
    rw [← hQ]
    exact key _ ((c1.q.tr d1.q).tr same9_thr) d2.th upd_same c6 (cyL S c) 0 _ (by omega) (fun q k z => upd_ne (by
      by_cases y : q = (9, 0, 0, 0)
      · exact Or.inr (fun w => z (Or.inr ⟨y, w⟩))
      · exact Or.inl y)) (pg9_clear (pg9_of ((c1.q.tr d1.q).tr same9_thr) hp)) (Int.le_refl 0)
theorem cq9_written (M : Id4 → Int → Int) (b : Bool) (k : Int) (p : Pg) (h9 : inR k) (hp : PgR9 M p) (hc : 0 ≤ k → k < p.2 → 0 ≤ p.1 k ∧ p.1 k < 65536) : CtI 2 0 yX9_written cX9_written 2 (some .char) [aR (9, 0, 0, 0), aI k] (M, R0 b) (QP M b (1 - b2i (0 ≤ k ∧ k < p.2)) (p.1 k)) := by
  refine CtI.mk (by decide +kernel) rfl (Nat.le_of_ble_eq_true rfl) (fun X K F hk => ?_)
  obtain ⟨p1, p2, p3, p4⟩ := hp
  have r1 : ∀ t, thr M t (9, 0, 33, 0) k = p.1 k := fun t => by rw [show thr M t (9, 0, 33, 0) = M (9, 0, 33, 0) from upd_off (by decide), p1]
  have eb : b2i (0 ≤ k ∧ k ≤ M (9, 0, 0, 0) 33 - 1) = b2i (0 ≤ k ∧ k < p.2) := b2i_congr (by rw [p2]; omega)
  refine aw_aload0 (pc := 0) F dX9_written_0 ?_
  refine aw_iload1 (pc := 1) F dX9_written_1 ?_
  refine aw_iconst (pc := 2) F dX9_written_2 ?_
  refine aw_aload0 (pc := 3) F dX9_written_3 ?_
  refine aw_getI (pc := 4) F dX9_written_4 fl_9_384 rfl (by first | decide | (simp only [inB, cnt, rcnt]; omega)) rfl nz33 ?_
  refine aw_iconst (pc := 7) F dX9_written_7 ?_
  refine aw_isub (pc := 8) F dX9_written_8 ?_
  refine aw_pcallS3 (pc := 9) F dX9_written_9 ml_9_121 (ct9_isIn _ _ _ _ _ h9 (by unfold inR; omega) (by unfold inR; omega)) (Nat.le_of_ble_eq_true rfl) (by decide) (Nat.zero_le _) ?_
  rw [eb]
  refine aw_callVI1 (pc := 12) F dX9_written_12 ml_9_176 rfl (by first | decide | (simp only [inB, cnt, rcnt]; omega)) (ct9_good1 _ _ _ b2i_01) (Nat.le_of_ble_eq_true rfl) (by decide) (Nat.zero_le _) (fun v9 σ9 h9_12 => ?_)
  obtain ⟨rfl, rfl⟩ := h9_12
  refine aw_ifb_eq (tgt := 28) (pc := 15) F dX9_written_15 (by decide) (fun c15 => ?_) (fun c15 => ?_)
  · refine aw_iconst (pc := 28) F dX9_written_28 ?_
    exact aw_iret (pc := 29) F dX9_written_29 (by first | exact congrArg Value.int (nar_ch hc2) | rfl) (Nat.zero_le _) ⟨_, rfl, same9_thr, upd_same, fun z => by first | rfl | (rw [b2i_neg c15] at z; omega)⟩
  · refine aw_aload0 (pc := 18) F dX9_written_18 ?_
    refine aw_getR (pc := 19) F dX9_written_19 fl_9_51 rfl (by first | decide | (simp only [inB, cnt, rcnt]; omega)) rfl nz32 rfl ?_
    refine aw_iload1 (pc := 22) F dX9_written_22 ?_
    refine aw_iald (pc := 23) F dX9_written_23 rfl (by first | decide | (simp only [inB, cnt, rcnt]; omega)) (by omega) ?_
    rw [r1]
    have hc2 := hc (by omega) (by omega)
    refine aw_i2c (pc := 24) F dX9_written_24 (by omega) (by omega) ?_
    refine aw_goto (tgt := 29) (pc := 25) F dX9_written_25 (by decide) ?_
    exact aw_iret (pc := 29) F dX9_written_29 (by first | exact congrArg Value.int (nar_ch hc2) | rfl) (Nat.zero_le _) ⟨_, rfl, same9_thr, upd_same, fun z => by first | rfl | (rw [b2i_neg c15] at z; omega)⟩
