/-! 76: the reference's load and find -/
theorem cq9_load (M : Id4 → Int → Int) (b : Bool) (B S : Int → Int) (n : Int) (h1 : inR n) (hB : M (9, 0, 6, 0) = B) (hy : BY B) (hS : M (9, 0, 1, 0) = S) (h6 : 0 ≤ M (9, 0, 0, 0) 6 ∧ M (9, 0, 0, 0) 6 ≤ 500) : CtI 8 0 yX9_load cX9_load 3 (some .int) [aR (9, 0, 0, 0), aI n] (M, R0 b) (fun v σ' => (¬ (0 ≤ n ∧ n ≤ M (9, 0, 0, 0) 6) ∧ σ' = (thr M 1, R0 b)) ∨ ((0 ≤ n ∧ n ≤ M (9, 0, 0, 0) 6) ∧ L9 M b B S n (M (9, 0, 0, 0) 3) v σ')) := by
  refine CtI.mk (by decide +kernel) rfl (Nat.le_of_ble_eq_true rfl) (fun X K F hk => ?_)
  refine aw_aload0 (pc := 0) F dX9_load_0 ?_
  refine aw_iload1 (pc := 1) F dX9_load_1 ?_
  refine aw_iconst (pc := 2) F dX9_load_2 ?_
  refine aw_aload0 (pc := 3) F dX9_load_3 ?_
  refine aw_getI (pc := 4) F dX9_load_4 fl_9_64 rfl (by first | decide | (simp only [inB, cnt, rcnt]; omega)) rfl nz6 ?_
  refine aw_pcallS3 (pc := 7) F dX9_load_7 ml_9_121 (ct9_isIn0 M b n h1 h6) (Nat.le_of_ble_eq_true rfl) (by decide) (Nat.zero_le _) ?_
  refine aw_callVI1 (pc := 10) F dX9_load_10 ml_9_176 rfl (by first | decide | (simp only [inB, cnt, rcnt]; omega)) (ct9_good1 _ _ _ b2i_01) (Nat.le_of_ble_eq_true rfl) (by decide) (Nat.zero_le _) (fun v9 σ9 h9_10 => ?_)
  obtain ⟨rfl, rfl⟩ := h9_10
  refine aw_ifb_ne (tgt := 18) (pc := 13) F dX9_load_13 (by decide) (fun c13 => ?_) (fun c13 => ?_)
  · rw [b2i_pos c13, show (1 : Int) - 1 = 0 by rfl]
    refine aw_aload0 (pc := 18) F dX9_load_18 ?_
    refine aw_callVV0 (pc := 19) F dX9_load_19 ml_9_179 rfl (by first | decide | (simp only [inB, cnt, rcnt]; omega)) (ct9_putAside _ _) (Nat.le_of_ble_eq_true rfl) (by decide) (Nat.zero_le _) (fun σ9 h9_19 => ?_)
    obtain rfl := h9_19
    obtain ⟨M2, hM2⟩ : ∃ M2, M2 = setA (thr M 0) (9, 0, 2, 0) (ovr (thr M 0 (9, 0, 2, 0)) (thr M 0 (9, 0, 1, 0)) 91) := ⟨_, rfl⟩
    rw [← hM2]
    have s2 : M2 (9, 0, 1, 0) = S := by rw [hM2, setA_ne (by decide), thr_s, hS]
    have b2 : M2 (9, 0, 6, 0) = B := by rw [hM2, setA_ne (by decide)]; exact (upd_off (by decide)).trans hB
    have r2 : ∀ j, 0 ≤ j → j < 91 → M2 (9, 0, 2, 0) j = S j := fun j j0 j1 => by rw [hM2, setA_same, thr_s, hS]; exact if_pos ⟨j0, j1⟩
    have g2 : ∀ q k, ¬ (scr9 q k ∨ q = (9, 0, 1, 0) ∨ (q = (9, 0, 0, 0) ∧ (k = 3 ∨ k = 6 ∨ k = 7 ∨ k = 8))) → M2 q k = M q k := fun q k z => by
      have y : q ≠ (9, 0, 2, 0) := fun w => z (Or.inl (by rw [w]; unfold scr9; simp))
      rw [hM2, setA_ne y]
      exact same9_thr q k (fun w => z (Or.inl w))
    have t2 : M2 (9, 0, 0, 0) 4 = 0 := by rw [hM2, setA_ne (by decide)]; exact upd_same
    have e2 : M2 (9, 0, 0, 0) 3 = M (9, 0, 0, 0) 3 := by rw [hM2, setA_ne (by decide)]; exact upd_ne (Or.inr (by decide))
    refine aw_aload0 (pc := 22) F dX9_load_22 ?_
    refine aw_iload1 (pc := 23) F dX9_load_23 ?_
    refine aw_callVI1 (pc := 24) F dX9_load_24 ml_9_182 rfl (by first | decide | (simp only [inB, cnt, rcnt]; omega)) (ct9_parse _ _ B S n b2 hy s2 (by omega)) (Nat.le_of_ble_eq_true rfl) (by decide) (Nat.zero_le _) (fun v9 σ9 h9_24 => ?_)
    obtain ⟨M3, f3, k6, k14, k15, M4, h4, f4, hr⟩ := h9_24
    subst h4
    have g4 : ∀ q k, ¬ (scr9 q k ∨ q = (9, 0, 1, 0) ∨ (q = (9, 0, 0, 0) ∧ (k = 3 ∨ k = 6 ∨ k = 7 ∨ k = 8))) → M4 q k = M q k := fun q k z => by
      have z1 : q ≠ (9, 0, 1, 0) := fun w => z (Or.inr (Or.inl w))
      have z2 : ∀ x, ¬ (x = 3 ∨ x = 6 ∨ x = 7 ∨ x = 8 ∨ x = 33) → q = (9, 0, 0, 0) → k ≠ x := fun x hx w y => z (Or.inl (by rw [w, y]; exact ⟨rfl, Or.inl ⟨rfl, hx⟩⟩))
      rw [f4 q k (fun w => w.elim (fun w => absurd w.2 (fun w2 => by
        have n10 := z2 10 (by decide) w.1
        have n11 := z2 11 (by decide) w.1
        have n12 := z2 12 (by decide) w.1
        have n13 := z2 13 (by decide) w.1
        have n14 := z2 14 (by decide) w.1
        have n15 := z2 15 (by decide) w.1
        omega)) z1), f3 q k (fun w => by
        have n9 := z2 9 (by decide) w.1
        have n11 := z2 11 (by decide) w.1
        have n14 := z2 14 (by decide) w.1
        have n15 := z2 15 (by decide) w.1
        rcases w.2 with x | x
        · exact z (Or.inr (Or.inr ⟨w.1, by omega⟩))
        · omega) z1]
      exact g2 q k z
    have x4 : M4 (9, 0, 0, 0) 4 = 0 := by rw [f4 _ _ (by decide), f3 _ _ (by decide) (by decide), t2]
    have x6 : M4 (9, 0, 0, 0) 6 = 0 := by rw [f4 _ _ (by decide), k6]
    have x3 : M4 (9, 0, 0, 0) 3 = M (9, 0, 0, 0) 3 := by rw [f4 _ _ (by decide), f3 _ _ (by decide) (by decide), e2]
    have xr : ∀ j, 0 ≤ j → j < 91 → M4 (9, 0, 2, 0) j = S j := fun j j0 j1 => by rw [f4 _ _ (by simp), f3 _ _ (by simp) (by decide), r2 j j0 j1]
    refine aw_istore2 (pc := 27) F dX9_load_27 rfl hk.symm ?_
    refine aw_aload0 (pc := 28) F dX9_load_28 ?_
    refine aw_aload0 (pc := 29) F dX9_load_29 ?_
    refine aw_getI (pc := 30) F dX9_load_30 fl_9_112 rfl (by first | decide | (simp only [inB, cnt, rcnt]; omega)) rfl nz14 ?_
    refine aw_putI (pc := 33) F dX9_load_33 fl_9_185 fpi_9_7 rfl (by first | decide | (simp only [inB, cnt, rcnt]; omega)) rfl nz7 ?_
    refine aw_aload0 (pc := 36) F dX9_load_36 ?_
    refine aw_aload0 (pc := 37) F dX9_load_37 ?_
    refine aw_getI (pc := 38) F dX9_load_38 fl_9_115 rfl (by first | decide | (simp only [inB, cnt, rcnt]; omega)) rfl nz15 ?_
    refine aw_putI (pc := 41) F dX9_load_41 fl_9_22 fpi_9_8 rfl (by first | decide | (simp only [inB, cnt, rcnt]; omega)) rfl nz8 ?_
    refine aw_iload2 (pc := 44) F dX9_load_44 ?_
    refine aw_if_ne (tgt := 55) (pc := 45) F dX9_load_45 (by decide) (by rcases hr with z | z <;> rw [z.2.1] <;> (unfold inR; decide)) (fun c45 => ?_) (fun c45 => ?_)
    · refine aw_aload0 (pc := 55) F dX9_load_55 ?_
      refine aw_iconst (pc := 56) F dX9_load_56 ?_
      refine aw_putI (pc := 57) F dX9_load_57 fl_9_61 fpi_9_3 rfl (by first | decide | (simp only [inB, cnt, rcnt]; omega)) rfl nz3 ?_
      refine aw_aload0 (pc := 60) F dX9_load_60 ?_
      refine aw_getR (pc := 61) F dX9_load_61 fl_9_7 rfl (by first | decide | (simp only [inB, cnt, rcnt]; omega)) rfl nz0 rfl ?_
      refine aw_bipush (pc := 64) F dX9_load_64 (by decide) ?_
      refine aw_iald (pc := 66) F dX9_load_66 rfl (by first | decide | (simp only [inB, cnt, rcnt]; omega)) (by omega) ?_
      exact aw_iret (pc := 67) F dX9_load_67 rfl (Nat.zero_le _) (by
        obtain ⟨q1, q2, q3, q4, q5⟩ := hr.resolve_right (fun z => by have := z.2.1; omega)
        refine Or.inr ⟨c13, _, rfl, fun q k z => ?_, ?_, ?_, Or.inl ⟨q1, ?_, ?_, ?_, ?_, ?_⟩⟩
        · have z7 : q ≠ (9, 0, 0, 0) ∨ k ≠ 7 := by
            by_cases w : q = (9, 0, 0, 0)
            · exact Or.inr (fun y => z (Or.inr (Or.inr ⟨w, by omega⟩)))
            · exact Or.inl w
          have z8 : q ≠ (9, 0, 0, 0) ∨ k ≠ 8 := by
            by_cases w : q = (9, 0, 0, 0)
            · exact Or.inr (fun y => z (Or.inr (Or.inr ⟨w, by omega⟩)))
            · exact Or.inl w
          have z3 : q ≠ (9, 0, 0, 0) ∨ k ≠ 3 := by
            by_cases w : q = (9, 0, 0, 0)
            · exact Or.inr (fun y => z (Or.inr (Or.inr ⟨w, by omega⟩)))
            · exact Or.inl w
          rw [upd_ne z3, upd_ne z8, upd_ne z7]
          exact g4 q k z
        · rw [upd_ne (Or.inr (by decide)), upd_ne (Or.inr (by decide)), upd_ne (Or.inr (by decide)), x4]
        · rw [upd_ne (Or.inr (by decide)), upd_ne (Or.inr (by decide)), upd_ne (Or.inr (by decide)), x6]
        · rw [upd_ne (Or.inl (by decide)), upd_ne (Or.inl (by decide)), upd_ne (Or.inl (by decide)), q3]
        · rw [upd_off (by decide), upd_off (by decide), upd_off (by decide), q3]
        · rw [upd_same]
        · rw [upd_ne (Or.inr (by decide)), upd_ne (Or.inr (by decide)), upd_same, q4, k14]
        · rw [upd_ne (Or.inr (by decide)), upd_same, upd_ne (Or.inr (by decide)), q5, k15])
    · obtain ⟨q1, q2, q3, q4⟩ := hr.resolve_left (fun z => by have := z.2.1; omega)
      obtain ⟨M5, hM5⟩ : ∃ M5, M5 = updM (updM M4 (9, 0, 0, 0) 7 (M4 (9, 0, 0, 0) 14)) (9, 0, 0, 0) 8 (updM M4 (9, 0, 0, 0) 7 (M4 (9, 0, 0, 0) 14) (9, 0, 0, 0) 15) := ⟨_, rfl⟩
      rw [← hM5]
      refine aw_aload0 (pc := 48) F dX9_load_48 ?_
      refine aw_callVV0 (pc := 49) F dX9_load_49 ml_9_188 rfl (by first | decide | (simp only [inB, cnt, rcnt]; omega)) (ct9_layBack _ _) (Nat.le_of_ble_eq_true rfl) (by decide) (Nat.zero_le _) (fun σ8 h9_49 => ?_)
      obtain rfl := h9_49
      refine aw_bipush (pc := 52) F dX9_load_52 (by decide) ?_
      exact aw_iret (pc := 54) F dX9_load_54 rfl (Nat.zero_le _) (Or.inr ⟨c13, _, rfl, fun q k z => by
        have z1 : q ≠ (9, 0, 1, 0) := fun w => z (Or.inr (Or.inl w))
        have z7 : q ≠ (9, 0, 0, 0) ∨ k ≠ 7 := by
          by_cases w : q = (9, 0, 0, 0)
          · exact Or.inr (fun y => z (Or.inr (Or.inr ⟨w, by omega⟩)))
          · exact Or.inl w
        have z8 : q ≠ (9, 0, 0, 0) ∨ k ≠ 8 := by
          by_cases w : q = (9, 0, 0, 0)
          · exact Or.inr (fun y => z (Or.inr (Or.inr ⟨w, by omega⟩)))
          · exact Or.inl w
        rw [setA_ne z1, hM5, upd_ne z8, upd_ne z7]
        exact g4 q k z, by rw [setA_ne (by decide), hM5, upd_ne (Or.inr (by decide)), upd_ne (Or.inr (by decide)), x4], by rw [setA_ne (by decide), hM5, upd_ne (Or.inr (by decide)), upd_ne (Or.inr (by decide)), x6], Or.inr ⟨q1, rfl, fun j j0 j1 => by
          rw [setA_same]
          refine (if_pos ⟨j0, j1⟩).trans ?_
          rw [hM5, upd_ne (Or.inl (by decide)), upd_ne (Or.inl (by decide))]
          exact xr j j0 j1, by rw [setA_ne (by decide), hM5, upd_ne (Or.inr (by decide)), upd_ne (Or.inr (by decide)), x3], by rw [setA_ne (by decide), hM5, upd_ne (Or.inr (by decide)), upd_same, q3], by rw [setA_ne (by decide), hM5, upd_same, upd_ne (Or.inr (by decide)), q4]⟩⟩)
  · refine aw_iconst (pc := 16) F dX9_load_16 ?_
    exact aw_iret (pc := 17) F dX9_load_17 rfl (Nat.zero_le _) (Or.inl ⟨c13, by rw [b2i_neg c13]; rfl⟩)
/-- the event with the name of the first n bytes -/
noncomputable def fdS (B S : Int → Int) (n : Int) : Int := @ite Int ((1 ≤ n ∧ n ≤ 8) ∧ LT B 0 n) (Classical.propDecidable _) (nmD B S 0 n) (-1)
theorem cq9_find (M : Id4 → Int → Int) (b : Bool) (B S : Int → Int) (n : Int) (h1 : inR n) (hB : M (9, 0, 6, 0) = B) (hy : BY B) (hS : M (9, 0, 1, 0) = S) (hO : Ok S) (hN : NB S) (h6 : 0 ≤ M (9, 0, 0, 0) 6 ∧ M (9, 0, 0, 0) 6 ≤ 500) : CtI 4 0 yX9_find cX9_find 4 (some .int) [aR (9, 0, 0, 0), aI n] (M, R0 b) (fun v σ' => (¬ (0 ≤ n ∧ n ≤ M (9, 0, 0, 0) 6) ∧ σ' = (thr M 1, R0 b)) ∨ ((0 ≤ n ∧ n ≤ M (9, 0, 0, 0) 6) ∧ v = fdS B S n ∧ σ' = (updM (thr M 0) (9, 0, 0, 0) 6 0, R0 b))) := by
  refine CtI.mk (by decide +kernel) rfl (Nat.le_of_ble_eq_true rfl) (fun X K F hk => ?_)
  obtain ⟨Q9, hQ⟩ : ∃ Q9, Q9 = EI X K 0 (fun v σ' => (¬ (0 ≤ n ∧ n ≤ M (9, 0, 0, 0) 6) ∧ σ' = (thr M 1, R0 b)) ∨ ((0 ≤ n ∧ n ≤ M (9, 0, 0, 0) 6) ∧ v = fdS B S n ∧ σ' = (updM (thr M 0) (9, 0, 0, 0) 6 0, R0 b))) := ⟨_, rfl⟩
  obtain ⟨M2, hM2⟩ : ∃ M2, M2 = updM (thr M 0) (9, 0, 0, 0) 6 0 := ⟨_, rfl⟩
  have s2 : M2 (9, 0, 1, 0) = S := by rw [hM2, upd_off (by decide), thr_s, hS]
  have b2 : M2 (9, 0, 6, 0) = B := by rw [hM2, upd_off (by decide)]; exact (upd_off (by decide)).trans hB
  have no : (0 ≤ n ∧ n ≤ M (9, 0, 0, 0) 6) → ∀ i : Int, inR i → ¬ ((1 ≤ n ∧ n ≤ 8) ∧ LT B 0 n) → AW X K 58 [aR (9, 0, 0, 0), aI n, aI 0, aI i] [] (M2, R0 b) 0 Q9 := by
    intro hr i hi hz
    refine aw_iload2 (pc := 58) F dX9_find_58 ?_
    refine aw_if_eq (tgt := 71) (pc := 59) F dX9_find_59 (by decide) (by unfold inR; decide) (fun c59 => ?_) (fun c59 => ?_)
    · refine aw_iconst (pc := 71) F dX9_find_71 ?_
      rw [hQ]
      exact aw_iret (pc := 72) F dX9_find_72 rfl (Nat.zero_le _) (Or.inr ⟨hr, (if_neg hz).symm, by rw [hM2]⟩)
    · omega
  have no2 : (0 ≤ n ∧ n ≤ M (9, 0, 0, 0) 6) → ∀ i : Int, inR i → ¬ ((1 ≤ n ∧ n ≤ 8) ∧ LT B 0 n) → AW X K 33 [aR (9, 0, 0, 0), aI n, aI 0, aI i] [] (M2, R0 b) 0 Q9 := by
    intro hr i hi hz
    refine aw_iload3 (pc := 33) F dX9_find_33 ?_
    refine aw_iload1 (pc := 34) F dX9_find_34 ?_
    refine aw_icmp_ge (tgt := 58) (pc := 35) F dX9_find_35 (by decide) (by first | assumption | (unfold inR; decide)) (by first | assumption | (unfold inR; decide)) (fun c35 => ?_) (fun c35 => ?_)
    · exact no hr i hi hz
    · refine aw_iload2 (pc := 38) F dX9_find_38 ?_
      refine aw_if_eq (tgt := 58) (pc := 39) F dX9_find_39 (by decide) (by first | assumption | (unfold inR; decide)) (fun c39 => ?_) (fun c39 => ?_)
      · exact no hr i hi hz
      · omega
  have loop : (0 ≤ n ∧ n ≤ M (9, 0, 0, 0) 6) → (1 ≤ n ∧ n ≤ 8) → ∀ (j i : Nat), (i : Int) + j = n → LT B 0 i → AW X K 33 [aR (9, 0, 0, 0), aI n, aI 1, aI i] [] (M2, R0 b) 0 Q9 := by
    intro hr h18 j
    induction j with
    | zero =>
      intro i hi hl
      have ei : (i : Int) = n := by omega
      refine aw_iload3 (pc := 33) F dX9_find_33 ?_
      refine aw_iload1 (pc := 34) F dX9_find_34 ?_
      refine aw_icmp_ge (tgt := 58) (pc := 35) F dX9_find_35 (by decide) (by unfold inR; omega) (by unfold inR; omega) (fun c35 => ?_) (fun c35 => ?_)
      · refine aw_iload2 (pc := 58) F dX9_find_58 ?_
        refine aw_if_eq (tgt := 71) (pc := 59) F dX9_find_59 (by decide) (by unfold inR; omega) (fun c59 => ?_) (fun c59 => ?_)
        · omega
        · refine aw_aload0 (pc := 62) F dX9_find_62 ?_
          refine aw_iconst (pc := 63) F dX9_find_63 ?_
          refine aw_iload1 (pc := 64) F dX9_find_64 ?_
          refine aw_pcallV2 (pc := 65) F dX9_find_65 ml_9_147 rfl (by first | decide | (simp only [inB, cnt, rcnt]; omega)) (ct9_eventNamed _ _ B S 0 n b2 s2 hO.2.1 hN (by rw [← ei]; exact hl) (by omega) (by omega) (by omega)) (Nat.le_of_ble_eq_true rfl) (by decide) (Nat.zero_le _) ?_
          refine aw_goto (tgt := 72) (pc := 68) F dX9_find_68 (by decide) ?_
          rw [hQ]
          exact aw_iret (pc := 72) F dX9_find_72 rfl (Nat.zero_le _) (Or.inr ⟨hr, (if_pos ⟨h18, by rw [← ei]; exact hl⟩).symm, by rw [hM2]⟩)
      · omega
    | succ j ih =>
      intro i hi hl
      have bi := hy i (by omega) (by omega)
      refine aw_iload3 (pc := 33) F dX9_find_33 ?_
      refine aw_iload1 (pc := 34) F dX9_find_34 ?_
      refine aw_icmp_ge (tgt := 58) (pc := 35) F dX9_find_35 (by decide) (by unfold inR; omega) (by unfold inR; omega) (fun c35 => ?_) (fun c35 => ?_)
      · omega
      · refine aw_iload2 (pc := 38) F dX9_find_38 ?_
        refine aw_if_eq (tgt := 58) (pc := 39) F dX9_find_39 (by decide) (by unfold inR; omega) (fun c39 => ?_) (fun c39 => ?_)
        · omega
        · refine aw_aload0 (pc := 42) F dX9_find_42 ?_
          refine aw_getR (pc := 43) F dX9_find_43 fl_9_19 rfl (by first | decide | (simp only [inB, cnt, rcnt]; omega)) rfl nz5 rfl ?_
          refine aw_iload3 (pc := 46) F dX9_find_46 ?_
          refine aw_iald (pc := 47) F dX9_find_47 rfl (by first | decide | (simp only [inB, cnt, rcnt]; omega)) (by omega) ?_
          rw [b2]
          refine aw_pcallS1 (pc := 48) F dX9_find_48 ml_9_81 (ct9_isLetter _ _ _ (by unfold inR; omega)) (Nat.le_of_ble_eq_true rfl) (by decide) (Nat.zero_le _) ?_
          refine aw_istore2 (pc := 51) F dX9_find_51 rfl hk.symm ?_
          refine aw_iinc3 (pc := 52) F dX9_find_52 rfl hk.symm ?_
          refine aw_goto (tgt := 33) (pc := 55) F dX9_find_55 (by decide) ?_
          by_cases z : 97 ≤ B i ∧ B i ≤ 122
          · rw [b2i_pos z]
            exact ih (i + 1) (by omega) (fun k k0 k1 => by
              by_cases y : k = i
              · rw [y]; exact z
              · exact hl k k0 (by omega))
          · rw [b2i_neg z]
            exact no2 hr _ (by unfold inR; omega) (fun w => z (w.2 i (by omega) (by omega)))
  refine aw_aload0 (pc := 0) F dX9_find_0 ?_
  refine aw_iload1 (pc := 1) F dX9_find_1 ?_
  refine aw_iconst (pc := 2) F dX9_find_2 ?_
  refine aw_aload0 (pc := 3) F dX9_find_3 ?_
  refine aw_getI (pc := 4) F dX9_find_4 fl_9_64 rfl (by first | decide | (simp only [inB, cnt, rcnt]; omega)) rfl nz6 ?_
  refine aw_pcallS3 (pc := 7) F dX9_find_7 ml_9_121 (ct9_isIn0 M b n h1 h6) (Nat.le_of_ble_eq_true rfl) (by decide) (Nat.zero_le _) ?_
  refine aw_callVI1 (pc := 10) F dX9_find_10 ml_9_176 rfl (by first | decide | (simp only [inB, cnt, rcnt]; omega)) (ct9_good1 _ _ _ b2i_01) (Nat.le_of_ble_eq_true rfl) (by decide) (Nat.zero_le _) (fun v9 σ9 h9_10 => ?_)
  obtain ⟨rfl, rfl⟩ := h9_10
  refine aw_ifb_ne (tgt := 18) (pc := 13) F dX9_find_13 (by decide) (fun c13 => ?_) (fun c13 => ?_)
  · rw [b2i_pos c13, show (1 : Int) - 1 = 0 by rfl]
    refine aw_aload0 (pc := 18) F dX9_find_18 ?_
    refine aw_iconst (pc := 19) F dX9_find_19 ?_
    refine aw_putI (pc := 20) F dX9_find_20 fl_9_64 fpi_9_6 rfl (by first | decide | (simp only [inB, cnt, rcnt]; omega)) rfl nz6 ?_
    refine aw_iload1 (pc := 23) F dX9_find_23 ?_
    refine aw_iconst (pc := 24) F dX9_find_24 ?_
    refine aw_bipush (pc := 25) F dX9_find_25 (by decide) ?_
    refine aw_pcallS3 (pc := 27) F dX9_find_27 ml_9_121 (ct9_isIn _ _ _ _ _ h1 (by unfold inR; decide) (by unfold inR; decide)) (Nat.le_of_ble_eq_true rfl) (by decide) (Nat.zero_le _) ?_
    refine aw_istore2 (pc := 30) F dX9_find_30 rfl hk.symm ?_
    refine aw_iconst (pc := 31) F dX9_find_31 ?_
    refine aw_istore3 (pc := 32) F dX9_find_32 rfl hk.symm ?_
    rw [← hQ, ← hM2]
    by_cases z : 1 ≤ n ∧ n ≤ 8
    · rw [b2i_pos z]
      exact loop c13 z n.toNat 0 (by omega) (fun k k0 k1 => absurd k1 (by omega))
    · rw [b2i_neg z]
      exact no2 c13 0 (by unfold inR; decide) (fun w => z w.1)
  · refine aw_iconst (pc := 16) F dX9_find_16 ?_
    exact aw_iret (pc := 17) F dX9_find_17 rfl (Nat.zero_le _) (Or.inl ⟨c13, by rw [b2i_neg c13]; rfl⟩)
