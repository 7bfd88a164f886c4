/-! 24: the class's Differences: tightening, start, questions -/
theorem upd_id' {M : Id4 → Int → Int} {q : Id4} {k v : Int} (h : M q k = v) : updM M q k v = M := by
  funext q' j
  by_cases e : q' = q ∧ j = k
  · obtain ⟨rfl, rfl⟩ := e
    rw [upd_same, h]
  · exact if_neg e
theorem ct1_tighten (M : Id4 → Int → Int) (b9 : Bool) (T E : Nat) (d : Int) (B : Int → Int) (hd : 0 ≤ d ∧ d < 2) (h0 : M (1, d, 0, 0) 0 = 0) (hT : M (1, d, 0, 0) 3 = (T : Int)) (hE : M (1, d, 0, 0) 2 = (E : Int)) (hall : M (1, d, 0, 0) 4 = allI T) (hT2 : 2 ≤ T ∧ T ≤ 24) (hE2 : E ≤ 6) (hA : Agr E (M (1, d, 2, 0)) B) (hB : MatOk T B) (hs : SymA T E B) : CtV 4 0 yX1_tighten cX1_tighten 2 none [aR (1, d, 0, 0)] (M, R0 b9) (fun σ' => ∃ k A', Rnd T E B k ∧ Agr E A' (itR T E B (k + 1)) ∧ σ' = (setA (updM M (1, d, 0, 0) 0 ((k : Int) + 1)) (1, d, 2, 0) A', R0 b9)) := by
  refine CtV.mk (by decide +kernel) rfl (Nat.le_of_ble_eq_true rfl) (fun X K F hk => ?_)
  have hne : ((1, d, 0, 0) : Id4) ≠ (1, d, 2, 0) := fun z => by cases z
  have hne2 : ((1, d, 2, 0) : Id4) ≠ (1, d, 0, 0) := fun z => by cases z
  generalize hQ : EV X K 0 (fun σ' => ∃ k A', Rnd T E B k ∧ Agr E A' (itR T E B (k + 1)) ∧ σ' = (setA (updM M (1, d, 0, 0) 0 ((k : Int) + 1)) (1, d, 2, 0) A', R0 b9)) = Q9
  have fin : ∀ (k : Nat) (M' : Id4 → Int → Int) (A' : Int → Int), Rnd T E B k → Agr E A' (itR T E B (k + 1)) → M' = setA (updM M (1, d, 0, 0) 0 ((k : Int) + 1)) (1, d, 2, 0) A' → AW X K 2 [aR (1, d, 0, 0), aI 0] [] (M', R0 b9) 0 Q9 := by
    intro k M' A' hr hAg hM
    refine aw_iload1 (pc := 2) F dX1_tighten_2 ?_
    refine aw_if_eq (tgt := 34) (pc := 3) F dX1_tighten_3 (by decide) (by unfold inR; omega) (fun c3 => ?_) (fun c3 => ?_)
    · rw [← hQ]
      exact aw_vret (pc := 34) F dX1_tighten_34 (Nat.zero_le _) ⟨k, A', hr, hAg, by rw [hM]⟩
    · exact absurd rfl c3
  have key : ∀ (n k : Nat) (M' : Id4 → Int → Int) (A' : Int → Int), muN (itR T E B k) 36 ≤ n → (∀ i, i < k → chK T E B i) → Agr E A' (itR T E B k) → M' = setA (updM M (1, d, 0, 0) 0 (k : Int)) (1, d, 2, 0) A' → AW X K 2 [aR (1, d, 0, 0), aI 1] [] (M', R0 b9) 0 Q9 := by
    intro n
    induction n with
    | zero =>
      intro k M' A' hmu hch hAg hM
      have hk8 := itR_cnt hT2.2 hE2 hB k hch
      have hk0 : M' (1, d, 0, 0) 0 = (k : Int) := by rw [hM, setA_ne hne]; exact upd_same
      have s1 : ∀ j : Int, j ≠ 0 → M' (1, d, 0, 0) j = M (1, d, 0, 0) j := fun j hj => by rw [hM, setA_ne hne]; exact upd_ne (Or.inr hj)
      have sA : M' (1, d, 2, 0) = A' := by rw [hM]; exact setA_same
      refine aw_iload1 (pc := 2) F dX1_tighten_2 ?_
      refine aw_if_eq (tgt := 34) (pc := 3) F dX1_tighten_3 (by decide) (by first | (unfold inR; omega) | (rw [setA_ne hne, upd_same]; unfold inR; omega)) (fun c3 => ?_) (fun c3 => ?_)
      · omega
      · refine aw_aload0 (pc := 6) F dX1_tighten_6 ?_
        refine aw_getI (pc := 7) F dX1_tighten_7 fl_1_9 rfl (by first | decide | (simp only [inB, cnt, rcnt]; omega)) rfl nz0 ?_
        refine aw_sipush (pc := 10) F dX1_tighten_10 (by decide) ?_
        refine aw_icmp_ge (tgt := 34) (pc := 13) F dX1_tighten_13 (by decide) (by first | (unfold inR; omega) | (rw [setA_ne hne, upd_same]; unfold inR; omega)) (by first | (unfold inR; omega) | (rw [setA_ne hne, upd_same]; unfold inR; omega)) (fun c13 => ?_) (fun c13 => ?_)
        · omega
        · refine aw_aload0 (pc := 16) F dX1_tighten_16 ?_
          refine aw_callVI0 (pc := 17) F dX1_tighten_17 ml_1_64 rfl (by first | decide | (simp only [inB, cnt, rcnt]; omega)) (ct1_makeRound _ _ T E _ (itR T E B k) hd (by rw [s1 3 (by decide)]; exact hT) (by rw [s1 2 (by decide)]; exact hE) (by rw [s1 4 (by decide)]; exact hall) hT2 hE2 (by rw [sA]; exact hAg) (itR_ok hT2.2 hE2 hB k) (itR_sym hT2.2 hE2 hs k)) (Nat.le_of_ble_eq_true rfl) (by decide) (Nat.zero_le _) (fun v9 σ9 h9_17 => ?_)
          obtain ⟨hv, A2, hg2, h9⟩ := h9_17
          rw [hM, setA_setA] at h9
          subst h9
          have hv0 : ¬ chK T E B k := fun z => by have := itR_mu hT2.2 hE2 hB z; omega
          have hxb := isB_bd hv
          obtain rfl : v9 = 0 := (hv.resolve_right (fun z => hv0 z.2)).1
          refine aw_istore1 (pc := 20) F dX1_tighten_20 rfl hk.symm ?_
          refine aw_aload0 (pc := 21) F dX1_tighten_21 ?_
          refine aw_dupR (pc := 22) F dX1_tighten_22 ?_
          refine aw_getI (pc := 23) F dX1_tighten_23 fl_1_9 rfl (by first | decide | (simp only [inB, cnt, rcnt]; omega)) rfl nz0 ?_
          refine aw_iconst (pc := 26) F dX1_tighten_26 ?_
          refine aw_iadd (pc := 27) F dX1_tighten_27 ?_
          refine aw_putI (pc := 28) F dX1_tighten_28 fl_1_9 fpi_1_0 rfl (by first | decide | (simp only [inB, cnt, rcnt]; omega)) rfl nz0 ?_
          refine aw_goto (tgt := 2) (pc := 31) F dX1_tighten_31 (by decide) ?_
          exact fin k _ A2 ⟨hch, hv0⟩ hg2 (by rw [show (setA (updM M (1, d, 0, 0) 0 (k : Int)) (1, d, 2, 0) A2) (1, d, 0, 0) 0 = (k : Int) by rw [setA_ne hne]; exact upd_same, upd_setA_ne hne, upd_upd])
    | succ n ih =>
      intro k M' A' hmu hch hAg hM
      have hk8 := itR_cnt hT2.2 hE2 hB k hch
      have hk0 : M' (1, d, 0, 0) 0 = (k : Int) := by rw [hM, setA_ne hne]; exact upd_same
      have s1 : ∀ j : Int, j ≠ 0 → M' (1, d, 0, 0) j = M (1, d, 0, 0) j := fun j hj => by rw [hM, setA_ne hne]; exact upd_ne (Or.inr hj)
      have sA : M' (1, d, 2, 0) = A' := by rw [hM]; exact setA_same
      refine aw_iload1 (pc := 2) F dX1_tighten_2 ?_
      refine aw_if_eq (tgt := 34) (pc := 3) F dX1_tighten_3 (by decide) (by first | (unfold inR; omega) | (rw [setA_ne hne, upd_same]; unfold inR; omega)) (fun c3 => ?_) (fun c3 => ?_)
      · omega
      · refine aw_aload0 (pc := 6) F dX1_tighten_6 ?_
        refine aw_getI (pc := 7) F dX1_tighten_7 fl_1_9 rfl (by first | decide | (simp only [inB, cnt, rcnt]; omega)) rfl nz0 ?_
        refine aw_sipush (pc := 10) F dX1_tighten_10 (by decide) ?_
        refine aw_icmp_ge (tgt := 34) (pc := 13) F dX1_tighten_13 (by decide) (by first | (unfold inR; omega) | (rw [setA_ne hne, upd_same]; unfold inR; omega)) (by first | (unfold inR; omega) | (rw [setA_ne hne, upd_same]; unfold inR; omega)) (fun c13 => ?_) (fun c13 => ?_)
        · omega
        · refine aw_aload0 (pc := 16) F dX1_tighten_16 ?_
          refine aw_callVI0 (pc := 17) F dX1_tighten_17 ml_1_64 rfl (by first | decide | (simp only [inB, cnt, rcnt]; omega)) (ct1_makeRound _ _ T E _ (itR T E B k) hd (by rw [s1 3 (by decide)]; exact hT) (by rw [s1 2 (by decide)]; exact hE) (by rw [s1 4 (by decide)]; exact hall) hT2 hE2 (by rw [sA]; exact hAg) (itR_ok hT2.2 hE2 hB k) (itR_sym hT2.2 hE2 hs k)) (Nat.le_of_ble_eq_true rfl) (by decide) (Nat.zero_le _) (fun v9 σ9 h9_17 => ?_)
          obtain ⟨hv, A2, hg2, h9⟩ := h9_17
          rw [hM, setA_setA] at h9
          subst h9
          have hxb := isB_bd hv
          have e9 : updM (setA (updM M (1, d, 0, 0) 0 (k : Int)) (1, d, 2, 0) A2) (1, d, 0, 0) 0 ((setA (updM M (1, d, 0, 0) 0 (k : Int)) (1, d, 2, 0) A2) (1, d, 0, 0) 0 + 1) = setA (updM M (1, d, 0, 0) 0 ((k : Int) + 1)) (1, d, 2, 0) A2 := by
            rw [show (setA (updM M (1, d, 0, 0) 0 (k : Int)) (1, d, 2, 0) A2) (1, d, 0, 0) 0 = (k : Int) by rw [setA_ne hne]; exact upd_same, upd_setA_ne hne, upd_upd]
          refine aw_istore1 (pc := 20) F dX1_tighten_20 rfl hk.symm ?_
          refine aw_aload0 (pc := 21) F dX1_tighten_21 ?_
          refine aw_dupR (pc := 22) F dX1_tighten_22 ?_
          refine aw_getI (pc := 23) F dX1_tighten_23 fl_1_9 rfl (by first | decide | (simp only [inB, cnt, rcnt]; omega)) rfl nz0 ?_
          refine aw_iconst (pc := 26) F dX1_tighten_26 ?_
          refine aw_iadd (pc := 27) F dX1_tighten_27 ?_
          refine aw_putI (pc := 28) F dX1_tighten_28 fl_1_9 fpi_1_0 rfl (by first | decide | (simp only [inB, cnt, rcnt]; omega)) rfl nz0 ?_
          refine aw_goto (tgt := 2) (pc := 31) F dX1_tighten_31 (by decide) ?_
          rcases hv with ⟨rfl, hv0⟩ | ⟨rfl, hv1⟩
          · exact fin k _ A2 ⟨hch, hv0⟩ hg2 e9
          · refine ih (k + 1) _ A2 (by have := itR_mu hT2.2 hE2 hB hv1; omega) (fun i hi => ?_) hg2 e9
            by_cases e : i = k
            · rw [e]; exact hv1
            · exact hch i (by omega)
  refine aw_iconst (pc := 0) F dX1_tighten_0 ?_
  refine aw_istore1 (pc := 1) F dX1_tighten_1 rfl hk.symm ?_
  exact key 864 0 M (M (1, d, 2, 0)) (by have := muN_bd B 36; show muN B 36 ≤ 864; omega) (fun i hi => absurd hi (by omega)) hA (by rw [upd_id' (show M (1, d, 0, 0) 0 = ((0 : Nat) : Int) from h0), setA_id])
theorem ct1_allows (M : Id4 → Int → Int) (b : Bool) (d x y : Int) (i : Nat) (hd : 0 ≤ d ∧ d < 2) (hx : 0 ≤ x ∧ x < 6) (hy : 0 ≤ y ∧ y < 6) (h1 : 0 ≤ M (1, d, 2, 0) (6 * x + y) ∧ M (1, d, 2, 0) (6 * x + y) ≤ 2147483647) (h2 : i < 32) : CtI 2 0 yX1_allows cX1_allows 4 (some .boolean) [aR (1, d, 0, 0), aI x, aI y, aI (i : Int)] (M, R0 b) (PU (M, R0 b) (b2i (bit (M (1, d, 2, 0) (6 * x + y)) i = true))) := by
  refine CtI.mk (by decide +kernel) rfl (Nat.le_of_ble_eq_true rfl) (fun X K F hk => ?_)
  refine aw_aload0 (pc := 0) F dX1_allows_0 ?_
  refine aw_iload1 (pc := 1) F dX1_allows_1 ?_
  refine aw_iload2 (pc := 2) F dX1_allows_2 ?_
  refine aw_pcallV2 (pc := 3) F dX1_allows_3 ml_1_61 rfl (by first | decide | (simp only [inB, cnt, rcnt]; omega)) (ct1_between _ _ _ _ _ hd hx hy) (Nat.le_of_ble_eq_true rfl) (by decide) (Nat.zero_le _) ?_
  refine aw_iload3 (pc := 6) F dX1_allows_6 ?_
  refine aw_ishr (pc := 7) F dX1_allows_7 ?_
  refine aw_iconst (pc := 8) F dX1_allows_8 ?_
  refine aw_iand (pc := 9) F dX1_allows_9 ?_
  refine aw_iconst (pc := 10) F dX1_allows_10 ?_
  refine aw_icmp_ne (tgt := 18) (pc := 11) F dX1_allows_11 (by decide) (by first | exact bAnd_inR _ _ | (unfold inR; omega)) (by first | exact bAnd_inR _ _ | (unfold inR; omega)) (fun c11 => ?_) (fun c11 => ?_)
  · refine aw_iconst (pc := 18) F dX1_allows_18 ?_
    exact aw_iret (pc := 19) F dX1_allows_19 (nar_bool (by first | exact b2i_01 | decide)) (Nat.zero_le _) ⟨by first | exact (b2i_pos (shr_yes h1 h2 c11)).symm | exact (b2i_neg (shr_no h1 h2 c11)).symm, rfl⟩
  · refine aw_iconst (pc := 14) F dX1_allows_14 ?_
    refine aw_goto (tgt := 19) (pc := 15) F dX1_allows_15 (by decide) ?_
    exact aw_iret (pc := 19) F dX1_allows_19 (nar_bool (by first | exact b2i_01 | decide)) (Nat.zero_le _) ⟨by first | exact (b2i_pos (shr_yes h1 h2 c11)).symm | exact (b2i_neg (shr_no h1 h2 c11)).symm, rfl⟩
def emp (E : Int) (A : Int → Int) : Prop := ∃ a b, (0 ≤ a ∧ a < E) ∧ (0 ≤ b ∧ b < E) ∧ A (6 * a + b) = 0
theorem ct1_hasEmptySet (M : Id4 → Int → Int) (b9 : Bool) (E : Nat) (d : Int) (hd : 0 ≤ d ∧ d < 2) (hE : M (1, d, 0, 0) 2 = (E : Int)) (hE2 : E ≤ 6) (hin : ∀ a b, 0 ≤ a → a < (E : Int) → 0 ≤ b → b < (E : Int) → inR (M (1, d, 2, 0) (6 * a + b))) : CtI 2 0 yX1_hasEmptySet cX1_hasEmptySet 3 (some .boolean) [aR (1, d, 0, 0)] (M, R0 b9) (fun v σ' => isB v (emp E (M (1, d, 2, 0))) ∧ σ' = (M, R0 b9)) := by
  refine CtI.mk (by decide +kernel) rfl (Nat.le_of_ble_eq_true rfl) (fun X K F hk => ?_)
  have keyB : ∀ (a : Nat), a < E → (∀ x y : Int, 0 ≤ x → x < a → 0 ≤ y → y < E → M (1, d, 2, 0) (6 * x + y) ≠ 0) → (∀ w : AV, wide w = false → (∀ x y : Int, 0 ≤ x → x < ((a + 1 : Nat) : Int) → 0 ≤ y → y < E → M (1, d, 2, 0) (6 * x + y) ≠ 0) → AW X K 2 [aR (1, d, 0, 0), aI ((a + 1 : Nat) : Int), w] [] (M, R0 b9) 0 (EI X K 0 (fun v σ' => isB v (emp E (M (1, d, 2, 0))) ∧ σ' = (M, R0 b9)))) → ∀ (j b : Nat), b + j = E → (∀ y : Int, 0 ≤ y → y < b → M (1, d, 2, 0) (6 * a + y) ≠ 0) → AW X K 12 [aR (1, d, 0, 0), aI a, aI b] [] (M, R0 b9) 0 (EI X K 0 (fun v σ' => isB v (emp E (M (1, d, 2, 0))) ∧ σ' = (M, R0 b9))) := by
    intro a ha hp cont j
    induction j with
    | zero =>
      intro b hb hq
      refine aw_iload2 (pc := 12) F dX1_hasEmptySet_12 ?_
      refine aw_aload0 (pc := 13) F dX1_hasEmptySet_13 ?_
      refine aw_getI (pc := 14) F dX1_hasEmptySet_14 fl_1_19 rfl (by first | decide | (simp only [inB, cnt, rcnt]; omega)) rfl nz2 ?_
      refine aw_icmp_ge (tgt := 37) (pc := 17) F dX1_hasEmptySet_17 (by decide) (by unfold inR; omega) (by unfold inR; omega) (fun c17 => ?_) (fun c17 => ?_)
      · refine aw_iinc1 (pc := 37) F dX1_hasEmptySet_37 rfl hk.symm ?_
        refine aw_goto (tgt := 2) (pc := 40) F dX1_hasEmptySet_40 (by decide) ?_
        refine cont _ rfl (fun x y h1 h2 h3 h4 => ?_)
        by_cases e : x = a
        · rw [e]; exact hq y h3 (by omega)
        · exact hp x y h1 (by omega) h3 h4
      · omega
    | succ j ih =>
      intro b hb hq
      have i1 := hin a b (by omega) (by omega) (by omega) (by omega)
      refine aw_iload2 (pc := 12) F dX1_hasEmptySet_12 ?_
      refine aw_aload0 (pc := 13) F dX1_hasEmptySet_13 ?_
      refine aw_getI (pc := 14) F dX1_hasEmptySet_14 fl_1_19 rfl (by first | decide | (simp only [inB, cnt, rcnt]; omega)) rfl nz2 ?_
      refine aw_icmp_ge (tgt := 37) (pc := 17) F dX1_hasEmptySet_17 (by decide) (by first | exact i1 | (unfold inR; omega)) (by first | exact i1 | (unfold inR; omega)) (fun c17 => ?_) (fun c17 => ?_)
      · omega
      · refine aw_aload0 (pc := 20) F dX1_hasEmptySet_20 ?_
        refine aw_iload1 (pc := 21) F dX1_hasEmptySet_21 ?_
        refine aw_iload2 (pc := 22) F dX1_hasEmptySet_22 ?_
        refine aw_pcallV2 (pc := 23) F dX1_hasEmptySet_23 ml_1_61 rfl (by first | decide | (simp only [inB, cnt, rcnt]; omega)) (ct1_between _ _ _ _ _ hd (by omega) (by omega)) (Nat.le_of_ble_eq_true rfl) (by decide) (Nat.zero_le _) ?_
        refine aw_if_ne (tgt := 31) (pc := 26) F dX1_hasEmptySet_26 (by decide) (by first | exact i1 | (unfold inR; omega)) (fun c26 => ?_) (fun c26 => ?_)
        · refine aw_iinc2 (pc := 31) F dX1_hasEmptySet_31 rfl hk.symm ?_
          refine aw_goto (tgt := 12) (pc := 34) F dX1_hasEmptySet_34 (by decide) ?_
          refine ih (b + 1) (by omega) (fun y h1 h2 => ?_)
          by_cases e : y = b
          · rw [e]; exact c26
          · exact hq y h1 (by omega)
        · refine aw_iconst (pc := 29) F dX1_hasEmptySet_29 ?_
          exact aw_iret (pc := 30) F dX1_hasEmptySet_30 (nar_bool (by first | exact b2i_01 | decide)) (Nat.zero_le _) ⟨Or.inr ⟨rfl, a, b, by omega, by omega, by first | exact c26 | omega⟩, rfl⟩
  have keyA : ∀ (j a : Nat) (w : AV), a + j = E → wide w = false → (∀ x y : Int, 0 ≤ x → x < a → 0 ≤ y → y < E → M (1, d, 2, 0) (6 * x + y) ≠ 0) → AW X K 2 [aR (1, d, 0, 0), aI a, w] [] (M, R0 b9) 0 (EI X K 0 (fun v σ' => isB v (emp E (M (1, d, 2, 0))) ∧ σ' = (M, R0 b9))) := by
    intro j
    induction j with
    | zero =>
      intro a w ha hw hp
      refine aw_iload1 (pc := 2) F dX1_hasEmptySet_2 ?_
      refine aw_aload0 (pc := 3) F dX1_hasEmptySet_3 ?_
      refine aw_getI (pc := 4) F dX1_hasEmptySet_4 fl_1_19 rfl (by first | decide | (simp only [inB, cnt, rcnt]; omega)) rfl nz2 ?_
      refine aw_icmp_ge (tgt := 43) (pc := 7) F dX1_hasEmptySet_7 (by decide) (by unfold inR; omega) (by unfold inR; omega) (fun c7 => ?_) (fun c7 => ?_)
      · refine aw_iconst (pc := 43) F dX1_hasEmptySet_43 ?_
        exact aw_iret (pc := 44) F dX1_hasEmptySet_44 (nar_bool (by first | exact b2i_01 | decide)) (Nat.zero_le _) ⟨Or.inl ⟨rfl, fun ⟨x, y, h1, h2, h3⟩ => hp x y h1.1 (by omega) h2.1 h2.2 h3⟩, rfl⟩
      · omega
    | succ j ih =>
      intro a w ha hw hp
      refine aw_iload1 (pc := 2) F dX1_hasEmptySet_2 ?_
      refine aw_aload0 (pc := 3) F dX1_hasEmptySet_3 ?_
      refine aw_getI (pc := 4) F dX1_hasEmptySet_4 fl_1_19 rfl (by first | decide | (simp only [inB, cnt, rcnt]; omega)) rfl nz2 ?_
      refine aw_icmp_ge (tgt := 43) (pc := 7) F dX1_hasEmptySet_7 (by decide) (by unfold inR; omega) (by unfold inR; omega) (fun c7 => ?_) (fun c7 => ?_)
      · omega
      · refine aw_iconst (pc := 10) F dX1_hasEmptySet_10 ?_
        refine aw_istore2 (pc := 11) F dX1_hasEmptySet_11 (by simp only [List.all_cons, List.all_nil, hw]; rfl) hk.symm ?_
        exact keyB a (by omega) hp (fun w hw hp2 => ih (a + 1) w (by omega) hw hp2) E 0 (by omega) (fun y h1 h2 => absurd h2 (by omega))
  refine aw_iconst (pc := 0) F dX1_hasEmptySet_0 ?_
  refine aw_istore1 (pc := 1) F dX1_hasEmptySet_1 rfl hk.symm ?_
  exact keyA E 0 aX (by omega) rfl (fun x y h1 h2 => absurd h2 (by omega))
/-- what startFrom leaves of the object's own fields -/
def dfA (S : Int → Int) (M : Id4 → Int → Int) (d : Int) : Id4 → Int → Int := updM (updM (updM (updM M (1, d, 0, 0) 2 (S 1)) (1, d, 0, 0) 3 (S 0)) (1, d, 0, 0) 4 (allI (S 0).toNat)) (1, d, 0, 0) 0 0
theorem ct1_startFrom (M : Id4 → Int → Int) (b9 : Bool) (S : Int → Int) (p d : Int) (hp : 0 ≤ p ∧ p < 13) (hd : 0 ≤ d ∧ d < 2) (hR : plR M p S) (h : Ok S) : CtV 4 0 yX1_startFrom cX1_startFrom 4 none [aR (1, d, 0, 0), aR (5, p, 0, 0)] (M, R0 b9) (fun σ' => ∃ A', Agr (S 1) A' (lyS S) ∧ σ' = (setA (dfA S M d) (1, d, 2, 0) A', R0 b9)) := by
  refine CtV.mk (by decide +kernel) rfl (Nat.le_of_ble_eq_true rfl) (fun X K F hk => ?_)
  have hne : ((1, d, 0, 0) : Id4) ≠ (1, d, 2, 0) := fun z => by cases z
  have n5 : ∀ c : Nat, ((5, p, c, 0) : Id4) ≠ (1, d, 0, 0) := fun c z => by cases z
  have n5' : ∀ c : Nat, ((5, p, c, 0) : Id4) ≠ (1, d, 2, 0) := fun c z => by cases z
  have hO := h
  obtain ⟨hT, hE0, hN, hti, hsp⟩ := h
  obtain ⟨T, eT⟩ : ∃ T : Nat, S 0 = (T : Int) := ⟨(S 0).toNat, by omega⟩
  obtain ⟨E, eE⟩ : ∃ E : Nat, S 1 = (E : Int) := ⟨(S 1).toNat, by omega⟩
  have tT : (S 0).toNat = T := by omega
  have hall := allI_eq (show T ≤ 24 by omega)
  have d5 : ∀ c : Nat, dfA S M d (5, p, c, 0) = M (5, p, c, 0) := by
    intro c
    funext j
    unfold dfA
    rw [upd_ne (Or.inl (n5 c)), upd_ne (Or.inl (n5 c)), upd_ne (Or.inl (n5 c)), upd_ne (Or.inl (n5 c))]
  have dE : dfA S M d (1, d, 0, 0) 2 = (E : Int) := by
    unfold dfA
    rw [upd_ne (Or.inr (by decide)), upd_ne (Or.inr (by decide)), upd_ne (Or.inr (by decide)), upd_same, eE]
  have dT : dfA S M d (1, d, 0, 0) 3 = (T : Int) := by
    unfold dfA
    rw [upd_ne (Or.inr (by decide)), upd_ne (Or.inr (by decide)), upd_same, eT]
  have dA : dfA S M d (1, d, 0, 0) 4 = allI T := by
    unfold dfA
    rw [upd_ne (Or.inr (by decide)), upd_same, tT]
  have hsA := (setI_S (P := fun _ => true) (show T ≤ 24 by omega)).1
  have hsB : 0 ≤ allI T ∧ allI T < 16777216 := hsA
  generalize hQ : EV X K 0 (fun σ' => ∃ A', Agr (S 1) A' (lyS S) ∧ σ' = (setA (dfA S M d) (1, d, 2, 0) A', R0 b9)) = Q9
  have keyS : ∀ (j n : Nat) (M' : Id4 → Int → Int) (A' : Int → Int) (w : AV), wide w = false → (n : Int) + j = S 20 → Agr (S 1) A' (layN S (fillA (fun _ => 0) (lay0 T) 36) n) → M' = setA (dfA S M d) (1, d, 2, 0) A' → AW X K 91 [aR (1, d, 0, 0), aR (5, p, 0, 0), aI n, w] [] (M', R0 b9) 0 Q9 := by
    intro j
    induction j with
    | zero =>
      intro n M' A' w hw hn hAg hM
      have s5 : ∀ c : Nat, M' (5, p, c, 0) = M (5, p, c, 0) := fun c => by rw [hM, setA_ne (n5' c), d5]
      have s2 := congrFun (s5 0) 2
      have hR1 := hR.1
      refine aw_iload2 (pc := 91) F dX1_startFrom_91 ?_
      refine aw_aload1 (pc := 92) F dX1_startFrom_92 ?_
      refine aw_getI (pc := 93) F dX1_startFrom_93 fl_1_34 rfl (by first | decide | (simp only [inB, cnt, rcnt]; omega)) rfl nz2 ?_
      refine aw_icmp_ge (tgt := 127) (pc := 96) F dX1_startFrom_96 (by decide) (by unfold inR; omega) (by unfold inR; omega) (fun c96 => ?_) (fun c96 => ?_)
      · rw [← hQ]
        exact aw_vret (pc := 127) F dX1_startFrom_127 (Nat.zero_le _) ⟨A', by unfold lyS; rw [tT, show (S 20).toNat = n by omega]; exact hAg, by rw [hM]⟩
      · omega
    | succ j ih =>
      intro n M' A' w hw hn hAg hM
      have s5 : ∀ c : Nat, M' (5, p, c, 0) = M (5, p, c, 0) := fun c => by rw [hM, setA_ne (n5' c), d5]
      have s2 := congrFun (s5 0) 2
      have hR1 := hR.1
      obtain ⟨f0, f1, f2, f3, f4⟩ := hR.2.2 n (by omega) (by omega)
      have g0 := congrFun (s5 5) n
      have g1 := congrFun (s5 6) n
      have h3 := hsp n (by omega) (by omega)
      unfold SpOk at h3
      have hR' : plR M' p S := by unfold plR at hR ⊢; rw [s5, s5, s5, s5, s5, s5, s5]; exact hR
      have sA : M' (1, d, 2, 0) = A' := by rw [hM]; exact setA_same
      have s1 : M' (1, d, 0, 0) = dfA S M d (1, d, 0, 0) := by rw [hM, setA_ne hne]
      have hok : MatOk T (layN S (fillA (fun _ => 0) (lay0 T) 36) n) := by
        have := layN_ok (A := fillA (fun _ => 0) (lay0 T) 36) hO (by rw [tT]; exact lay0_ok (by omega) (by omega) _) n (by omega)
        rw [tT] at this
        exact this
      refine aw_iload2 (pc := 91) F dX1_startFrom_91 ?_
      refine aw_aload1 (pc := 92) F dX1_startFrom_92 ?_
      refine aw_getI (pc := 93) F dX1_startFrom_93 fl_1_34 rfl (by first | decide | (simp only [inB, cnt, rcnt]; omega)) rfl nz2 ?_
      refine aw_icmp_ge (tgt := 127) (pc := 96) F dX1_startFrom_96 (by decide) (by unfold inR; omega) (by unfold inR; omega) (fun c96 => ?_) (fun c96 => ?_)
      · omega
      · refine aw_aload0 (pc := 99) F dX1_startFrom_99 ?_
        refine aw_aload1 (pc := 100) F dX1_startFrom_100 ?_
        refine aw_getR (pc := 101) F dX1_startFrom_101 fl_1_37 rfl (by first | decide | (simp only [inB, cnt, rcnt]; omega)) rfl nz4 rfl ?_
        refine aw_iload2 (pc := 104) F dX1_startFrom_104 ?_
        refine aw_iald (pc := 105) F dX1_startFrom_105 rfl (by first | decide | (simp only [inB, cnt, rcnt]; omega)) (by omega) ?_
        refine aw_aload1 (pc := 106) F dX1_startFrom_106 ?_
        refine aw_getR (pc := 107) F dX1_startFrom_107 fl_1_40 rfl (by first | decide | (simp only [inB, cnt, rcnt]; omega)) rfl nz5 rfl ?_
        refine aw_iload2 (pc := 110) F dX1_startFrom_110 ?_
        refine aw_iald (pc := 111) F dX1_startFrom_111 rfl (by first | decide | (simp only [inB, cnt, rcnt]; omega)) (by omega) ?_
        refine aw_aload1 (pc := 112) F dX1_startFrom_112 ?_
        refine aw_iload2 (pc := 113) F dX1_startFrom_113 ?_
        refine aw_pcallS2 (pc := 114) F dX1_startFrom_114 ml_1_43 (ct1_keptWith _ _ S _ _ hp hR' hO (by omega)) (Nat.le_of_ble_eq_true rfl) (by decide) (Nat.zero_le _) ?_
        refine aw_callVI3 (pc := 117) F dX1_startFrom_117 ml_1_47 rfl (by first | decide | (simp only [inB, cnt, rcnt]; omega)) (ct1_narrow _ _ T _ _ _ _ hd (by rw [s1]; exact dT) (by omega) (by rw [sA, hAg _ _ (by omega) (by omega) (by omega) (by omega)]; exact hok _ (by omega) (by omega)) (by omega) (by omega)) (Nat.le_of_ble_eq_true rfl) (by decide) (Nat.zero_le _) (fun v9 σ9 h9_117 => ?_)
        obtain ⟨hv, h9⟩ := h9_117
        rw [sA, g0, g1, f0, f1, hM, setA_setA] at h9
        subst h9
        refine aw_popI (pc := 120) F dX1_startFrom_120 ?_
        refine aw_iinc2 (pc := 121) F dX1_startFrom_121 (by simp only [List.all_cons, List.all_nil, hw]; rfl) hk.symm ?_
        refine aw_goto (tgt := 91) (pc := 124) F dX1_startFrom_124 (by decide) ?_
        refine ih (n + 1) _ _ w hw (by omega) ?_ rfl
        have z := narA_agr (T := T) (x := keptI S n) (show S 1 ≤ 6 by omega) hAg h3.1 h3.2.1
        have z2 : layN S (fillA (fun _ => 0) (lay0 T) 36) (n + 1) = narA T (layN S (fillA (fun _ => 0) (lay0 T) 36) n) (S (21 + 5 * (n : Int) + 0)) (S (21 + 5 * (n : Int) + 1)) (keptI S n) := by show narA (S 0).toNat _ _ _ _ = _; rw [tT]
        rw [z2]
        exact z
  have hlay : ∀ a b : Int, 0 ≤ a → a < (E : Int) → 0 ≤ b → b < (E : Int) → fillA (fun _ => 0) (lay0 T) 36 (6 * a + b) = (if a = b then 1 else allI T) := by
    intro a b h1 h2 h3 h4
    unfold fillA
    rw [if_pos (by omega), lay0_at (by omega)]
  have keyB : ∀ (a : Nat), a < E → (∀ (M2 : Id4 → Int → Int) (A2 : Int → Int) (w : AV), wide w = false → (∀ x y : Int, 0 ≤ x → x < ((a + 1 : Nat) : Int) → 0 ≤ y → y < E → A2 (6 * x + y) = (if x = y then 1 else allI T)) → M2 = setA (dfA S M d) (1, d, 2, 0) A2 → AW X K 35 [aR (1, d, 0, 0), aR (5, p, 0, 0), aI ((a + 1 : Nat) : Int), w] [] (M2, R0 b9) 0 Q9) → ∀ (j b : Nat) (M' : Id4 → Int → Int) (A' : Int → Int), b + j = E → (∀ x y : Int, 0 ≤ x → x < a → 0 ≤ y → y < E → A' (6 * x + y) = (if x = y then 1 else allI T)) → (∀ y : Int, 0 ≤ y → y < b → A' (6 * a + y) = (if (a : Int) = y then 1 else allI T)) → M' = setA (dfA S M d) (1, d, 2, 0) A' → AW X K 45 [aR (1, d, 0, 0), aR (5, p, 0, 0), aI a, aI b] [] (M', R0 b9) 0 Q9 := by
    intro a ha cont j
    induction j with
    | zero =>
      intro b M' A' hb hp1 hp2 hM
      have s1 : M' (1, d, 0, 0) = dfA S M d (1, d, 0, 0) := by rw [hM, setA_ne hne]
      have s2 := congrFun s1 2
      refine aw_iload3 (pc := 45) F dX1_startFrom_45 ?_
      refine aw_aload0 (pc := 46) F dX1_startFrom_46 ?_
      refine aw_getI (pc := 47) F dX1_startFrom_47 fl_1_19 rfl (by first | decide | (simp only [inB, cnt, rcnt]; omega)) rfl nz2 ?_
      refine aw_icmp_ge (tgt := 83) (pc := 50) F dX1_startFrom_50 (by decide) (by unfold inR; omega) (by unfold inR; omega) (fun c50 => ?_) (fun c50 => ?_)
      · refine aw_iinc2 (pc := 83) F dX1_startFrom_83 rfl hk.symm ?_
        refine aw_goto (tgt := 35) (pc := 86) F dX1_startFrom_86 (by decide) ?_
        refine cont M' A' _ rfl (fun x y h1 h2 h3 h4 => ?_) hM
        by_cases e : x = a
        · rw [e]; exact hp2 y h3 (by omega)
        · exact hp1 x y h1 (by omega) h3 h4
      · omega
    | succ j ih =>
      intro b M' A' hb hp1 hp2 hM
      have s1 : M' (1, d, 0, 0) = dfA S M d (1, d, 0, 0) := by rw [hM, setA_ne hne]
      have s2 := congrFun s1 2
      have s4 : M' (1, d, 0, 0) 4 = allI T := by rw [s1]; exact dA
      have fin : ∀ v : Int, v = (if (a : Int) = b then 1 else allI T) → AW X K 45 [aR (1, d, 0, 0), aR (5, p, 0, 0), aI a, aI ((b + 1 : Nat) : Int)] [] (updM M' (1, d, 2, 0) (a * 6 + b) v, R0 b9) 0 Q9 := by
        intro v hv
        refine ih (b + 1) _ (upS A' (6 * a + b) v) (by omega) (fun x y h1 h2 h3 h4 => ?_) (fun y h1 h2 => ?_) ?_
        · rw [upS_ne (by omega)]; exact hp1 x y h1 h2 h3 h4
        · by_cases e : y = b
          · rw [e, upS_same, hv]
          · rw [upS_ne (by omega)]; exact hp2 y h1 (by omega)
        · rw [hM, upd_setA, Int.mul_comm]
      refine aw_iload3 (pc := 45) F dX1_startFrom_45 ?_
      refine aw_aload0 (pc := 46) F dX1_startFrom_46 ?_
      refine aw_getI (pc := 47) F dX1_startFrom_47 fl_1_19 rfl (by first | decide | (simp only [inB, cnt, rcnt]; omega)) rfl nz2 ?_
      refine aw_icmp_ge (tgt := 83) (pc := 50) F dX1_startFrom_50 (by decide) (by unfold inR; omega) (by unfold inR; omega) (fun c50 => ?_) (fun c50 => ?_)
      · omega
      · refine aw_aload0 (pc := 53) F dX1_startFrom_53 ?_
        refine aw_getR (pc := 54) F dX1_startFrom_54 fl_1_15 rfl (by first | decide | (simp only [inB, cnt, rcnt]; omega)) rfl nz1 rfl ?_
        refine aw_iload2 (pc := 57) F dX1_startFrom_57 ?_
        refine aw_bipush (pc := 58) F dX1_startFrom_58 (by decide) ?_
        refine aw_imul (pc := 60) F dX1_startFrom_60 ?_
        refine aw_iload3 (pc := 61) F dX1_startFrom_61 ?_
        refine aw_iadd (pc := 62) F dX1_startFrom_62 ?_
        refine aw_iload2 (pc := 63) F dX1_startFrom_63 ?_
        refine aw_iload3 (pc := 64) F dX1_startFrom_64 ?_
        refine aw_icmp_ne (tgt := 72) (pc := 65) F dX1_startFrom_65 (by decide) (by unfold inR; omega) (by unfold inR; omega) (fun c65 => ?_) (fun c65 => ?_)
        · refine aw_aload0 (pc := 72) F dX1_startFrom_72 ?_
          refine aw_getI (pc := 73) F dX1_startFrom_73 fl_1_25 rfl (by first | decide | (simp only [inB, cnt, rcnt]; omega)) rfl nz4 ?_
          refine aw_iast (pc := 76) F dX1_startFrom_76 rfl (by first | decide | (simp only [inB, cnt, rcnt]; omega)) (by omega) ?_
          refine aw_iinc3 (pc := 77) F dX1_startFrom_77 rfl hk.symm ?_
          refine aw_goto (tgt := 45) (pc := 80) F dX1_startFrom_80 (by decide) ?_
          first | exact fin _ (by rw [if_pos (by omega)]) | exact fin _ (by rw [if_neg (by omega), s4])
        · refine aw_iconst (pc := 68) F dX1_startFrom_68 ?_
          refine aw_goto (tgt := 76) (pc := 69) F dX1_startFrom_69 (by decide) ?_
          refine aw_iast (pc := 76) F dX1_startFrom_76 rfl (by first | decide | (simp only [inB, cnt, rcnt]; omega)) (by omega) ?_
          refine aw_iinc3 (pc := 77) F dX1_startFrom_77 rfl hk.symm ?_
          refine aw_goto (tgt := 45) (pc := 80) F dX1_startFrom_80 (by decide) ?_
          first | exact fin _ (by rw [if_pos (by omega)]) | exact fin _ (by rw [if_neg (by omega), s4])
  have keyA : ∀ (j a : Nat) (M' : Id4 → Int → Int) (A' : Int → Int) (w : AV), a + j = E → wide w = false → (∀ x y : Int, 0 ≤ x → x < a → 0 ≤ y → y < E → A' (6 * x + y) = (if x = y then 1 else allI T)) → M' = setA (dfA S M d) (1, d, 2, 0) A' → AW X K 35 [aR (1, d, 0, 0), aR (5, p, 0, 0), aI a, w] [] (M', R0 b9) 0 Q9 := by
    intro j
    induction j with
    | zero =>
      intro a M' A' w ha hw hp1 hM
      have s1 : M' (1, d, 0, 0) = dfA S M d (1, d, 0, 0) := by rw [hM, setA_ne hne]
      have s2 := congrFun s1 2
      refine aw_iload2 (pc := 35) F dX1_startFrom_35 ?_
      refine aw_aload0 (pc := 36) F dX1_startFrom_36 ?_
      refine aw_getI (pc := 37) F dX1_startFrom_37 fl_1_19 rfl (by first | decide | (simp only [inB, cnt, rcnt]; omega)) rfl nz2 ?_
      refine aw_icmp_ge (tgt := 89) (pc := 40) F dX1_startFrom_40 (by decide) (by unfold inR; omega) (by unfold inR; omega) (fun c40 => ?_) (fun c40 => ?_)
      · refine aw_iconst (pc := 89) F dX1_startFrom_89 ?_
        refine aw_istore2 (pc := 90) F dX1_startFrom_90 (by simp only [List.all_cons, List.all_nil, hw]; rfl) hk.symm ?_
        exact keyS (S 20).toNat 0 M' A' w hw (by omega) (fun x y h1 h2 h3 h4 => by rw [hp1 x y h1 (by omega) h3 (by omega)]; exact (hlay x y h1 (by omega) h3 (by omega)).symm) hM
      · omega
    | succ j ih =>
      intro a M' A' w ha hw hp1 hM
      have s1 : M' (1, d, 0, 0) = dfA S M d (1, d, 0, 0) := by rw [hM, setA_ne hne]
      have s2 := congrFun s1 2
      refine aw_iload2 (pc := 35) F dX1_startFrom_35 ?_
      refine aw_aload0 (pc := 36) F dX1_startFrom_36 ?_
      refine aw_getI (pc := 37) F dX1_startFrom_37 fl_1_19 rfl (by first | decide | (simp only [inB, cnt, rcnt]; omega)) rfl nz2 ?_
      refine aw_icmp_ge (tgt := 89) (pc := 40) F dX1_startFrom_40 (by decide) (by unfold inR; omega) (by unfold inR; omega) (fun c40 => ?_) (fun c40 => ?_)
      · omega
      · refine aw_iconst (pc := 43) F dX1_startFrom_43 ?_
        refine aw_istore3 (pc := 44) F dX1_startFrom_44 (by simp only [List.all_cons, List.all_nil, hw]; rfl) hk.symm ?_
        exact keyB a (by omega) (fun M2 A2 w hw hp2 hM2 => ih (a + 1) M2 A2 w (by omega) hw hp2 hM2) E 0 M' A' (by omega) hp1 (fun y h1 h2 => absurd h2 (by omega)) hM
  obtain ⟨⟨r0, r1, r2⟩, r3, r4⟩ := hR
  have u0 : ∀ v, updM M (1, d, 0, 0) 2 v (5, p, 0, 0) 0 = S 0 := fun v => by rw [upd_ne (Or.inl (n5 0)), r0]
  have u1 : bShl 1 (S 0) - 1 = allI (S 0).toNat := by rw [tT, eT]; exact hall
  have u2 : dfA S M d (1, d, 2, 0) = M (1, d, 2, 0) := by
    funext j
    unfold dfA
    rw [upd_ne (Or.inl hne.symm), upd_ne (Or.inl hne.symm), upd_ne (Or.inl hne.symm), upd_ne (Or.inl hne.symm)]
  refine aw_aload0 (pc := 0) F dX1_startFrom_0 ?_
  refine aw_aload1 (pc := 1) F dX1_startFrom_1 ?_
  refine aw_getI (pc := 2) F dX1_startFrom_2 fl_1_28 rfl (by first | decide | (simp only [inB, cnt, rcnt]; omega)) rfl nz1 ?_
  refine aw_putI (pc := 5) F dX1_startFrom_5 fl_1_19 fpi_1_2 rfl (by first | decide | (simp only [inB, cnt, rcnt]; omega)) rfl nz2 ?_
  refine aw_aload0 (pc := 8) F dX1_startFrom_8 ?_
  refine aw_aload1 (pc := 9) F dX1_startFrom_9 ?_
  refine aw_getI (pc := 10) F dX1_startFrom_10 fl_1_33 rfl (by first | decide | (simp only [inB, cnt, rcnt]; omega)) rfl nz0 ?_
  refine aw_putI (pc := 13) F dX1_startFrom_13 fl_1_22 fpi_1_3 rfl (by first | decide | (simp only [inB, cnt, rcnt]; omega)) rfl nz3 ?_
  refine aw_aload0 (pc := 16) F dX1_startFrom_16 ?_
  refine aw_iconst (pc := 17) F dX1_startFrom_17 ?_
  refine aw_aload0 (pc := 18) F dX1_startFrom_18 ?_
  refine aw_getI (pc := 19) F dX1_startFrom_19 fl_1_22 rfl (by first | decide | (simp only [inB, cnt, rcnt]; omega)) rfl nz3 ?_
  refine aw_ishl (pc := 22) F dX1_startFrom_22 ?_
  refine aw_iconst (pc := 23) F dX1_startFrom_23 ?_
  refine aw_isub (pc := 24) F dX1_startFrom_24 ?_
  refine aw_putI (pc := 25) F dX1_startFrom_25 fl_1_25 fpi_1_4 rfl (by first | decide | (simp only [inB, cnt, rcnt]; omega)) rfl nz4 ?_
  refine aw_aload0 (pc := 28) F dX1_startFrom_28 ?_
  refine aw_iconst (pc := 29) F dX1_startFrom_29 ?_
  refine aw_putI (pc := 30) F dX1_startFrom_30 fl_1_9 fpi_1_0 rfl (by first | decide | (simp only [inB, cnt, rcnt]; omega)) rfl nz0 ?_
  refine aw_iconst (pc := 33) F dX1_startFrom_33 ?_
  refine aw_istore2 (pc := 34) F dX1_startFrom_34 rfl hk.symm ?_
  exact keyA E 0 _ (M (1, d, 2, 0)) aX (by omega) rfl (fun x y h1 h2 => absurd h2 (by omega)) (by rw [r1, u0, upd_same, u1, ← u2, setA_id]; rfl)
