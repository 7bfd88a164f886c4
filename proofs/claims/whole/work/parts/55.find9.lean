/-! 55: the reference finds, solves -/
theorem ct9_isTightNow2 (M : Id4 → Int → Int) (b9 : Bool) (S : Int → Int) (hS : M (9, 0, 1, 0) = S) (h : Ok S) : CtI 7 0 yX9_isTightNow cX9_isTightNow 4 (some .boolean) [aR (9, 0, 0, 0)] (M, R0 b9) (fun v σ' => isB v (¬ emp (S 1) (tgS S)) ∧ ∃ A', Agr (S 1) A' (tgS S) ∧ σ' = (setA (updM M (9, 0, 0, 0) 17 ((rdS S : Int) + 1)) (9, 0, 17, 0) A', R0 b9)) := by
  refine CtI.mk (by decide +kernel) rfl (Nat.le_of_ble_eq_true rfl) (fun X K F hk => ?_)
  have hE := h.2.1
  have hT := h.1
  obtain ⟨E, eE⟩ : ∃ E : Nat, S 1 = (E : Int) := ⟨(S 1).toNat, by omega⟩
  have key0 : ∀ (A' : Int → Int), Agr (S 1) A' (tgS S) → MatOk (S 0).toNat A' → AW X K 4 [aR (9, 0, 0, 0), aX, aX, aX] [] (setA (updM M (9, 0, 0, 0) 17 ((rdS S : Int) + 1)) (9, 0, 17, 0) A', R0 b9) 0 (EI X K 0 (fun v σ' => isB v (¬ emp (S 1) (tgS S)) ∧ ∃ A', Agr (S 1) A' (tgS S) ∧ σ' = (setA (updM M (9, 0, 0, 0) 17 ((rdS S : Int) + 1)) (9, 0, 17, 0) A', R0 b9))) := by
    intro A' hg hm
    obtain ⟨M', hM⟩ : ∃ M', M' = setA (updM M (9, 0, 0, 0) 17 ((rdS S : Int) + 1)) (9, 0, 17, 0) A' := ⟨_, rfl⟩
    rw [← hM]
    have s1 : M' (9, 0, 1, 0) = S := by rw [hM, setA_ne (by decide), ← hS]; exact funext fun j => upd_ne (Or.inl (by decide))
    have s2 := congrFun s1 1
    have sA : M' (9, 0, 17, 0) = A' := by rw [hM]; exact setA_same
    generalize hQ : EI X K 0 (fun v σ' => isB v (¬ emp (S 1) (tgS S)) ∧ ∃ A', Agr (S 1) A' (tgS S) ∧ σ' = (setA (updM M (9, 0, 0, 0) 17 ((rdS S : Int) + 1)) (9, 0, 17, 0) A', R0 b9)) = Q9
    have keyB : ∀ (a : Nat), a < E → (∀ (x : Int) (w : AV), wide w = false → isB x (∀ u v : Int, 0 ≤ u → u < ((a + 1 : Nat) : Int) → 0 ≤ v → v < E → A' (6 * u + v) ≠ 0) → AW X K 8 [aR (9, 0, 0, 0), aI x, aI ((a + 1 : Nat) : Int), w] [] (M', R0 b9) 0 Q9) → ∀ (j b : Nat) (x : Int), b + j = E → isB x ((∀ u v : Int, 0 ≤ u → u < (a : Int) → 0 ≤ v → v < E → A' (6 * u + v) ≠ 0) ∧ ∀ v : Int, 0 ≤ v → v < b → A' (6 * (a : Int) + v) ≠ 0) → AW X K 20 [aR (9, 0, 0, 0), aI x, aI a, aI b] [] (M', R0 b9) 0 Q9 := by
      intro a ha cont j
      induction j with
      | zero =>
        intro b x hb hx
        have hxb := isB_bd hx
        refine aw_iload3 (pc := 20) F dX9_isTightNow_20 ?_
        refine aw_aload0 (pc := 21) F dX9_isTightNow_21 ?_
        refine aw_getR (pc := 22) F dX9_isTightNow_22 fl_9_7 rfl (by first | decide | (simp only [inB, cnt, rcnt]; omega)) rfl nz0 rfl ?_
        refine aw_iconst (pc := 25) F dX9_isTightNow_25 ?_
        refine aw_iald (pc := 26) F dX9_isTightNow_26 rfl (by first | decide | (simp only [inB, cnt, rcnt]; omega)) (by omega) ?_
        refine aw_icmp_ge (tgt := 59) (pc := 27) F dX9_isTightNow_27 (by decide) (by unfold inR; omega) (by unfold inR; omega) (fun c27 => ?_) (fun c27 => ?_)
        · refine aw_iinc2 (pc := 59) F dX9_isTightNow_59 rfl hk.symm ?_
          refine aw_goto (tgt := 8) (pc := 62) F dX9_isTightNow_62 (by decide) ?_
          refine cont x _ rfl (isB_congr ⟨fun z u v h1 h2 h3 h4 => ?_, fun z => ⟨fun u v h1 h2 h3 h4 => z u v h1 (by omega) h3 h4, fun v h1 h2 => z a v (by omega) (by omega) h1 (by omega)⟩⟩ hx)
          by_cases e : u = a
          · rw [e]; exact z.2 v h3 (by omega)
          · exact z.1 u v h1 (by omega) h3 h4
        · omega
      | succ j ih =>
        intro b x hb hx
        have hxb := isB_bd hx
        have i1 := (hm (6 * (a : Int) + b) (by omega) (by omega)).1
        have i2 : inR (M' (9, 0, 17, 0) (6 * (a : Int) + b)) := by rw [sA]; unfold inR; omega
        have no : (x = 0 ∨ A' (6 * (a : Int) + b) = 0) → isB 0 ((∀ u v : Int, 0 ≤ u → u < (a : Int) → 0 ≤ v → v < E → A' (6 * u + v) ≠ 0) ∧ ∀ v : Int, 0 ≤ v → v < ((b + 1 : Nat) : Int) → A' (6 * (a : Int) + v) ≠ 0) := by
          intro z
          refine Or.inl ⟨rfl, fun q => ?_⟩
          rcases z with z | z
          · exact (hx.resolve_right (fun y => by omega)).2 ⟨q.1, fun v h1 h2 => q.2 v h1 (by omega)⟩
          · exact q.2 b (by omega) (by omega) z
        have yes : ¬ x = 0 → ¬ A' (6 * (a : Int) + b) = 0 → isB 1 ((∀ u v : Int, 0 ≤ u → u < (a : Int) → 0 ≤ v → v < E → A' (6 * u + v) ≠ 0) ∧ ∀ v : Int, 0 ≤ v → v < ((b + 1 : Nat) : Int) → A' (6 * (a : Int) + v) ≠ 0) := by
          intro z z2
          obtain ⟨-, q1, q2⟩ := hx.resolve_left (fun y => z y.1)
          refine Or.inr ⟨rfl, q1, fun v h1 h2 => ?_⟩
          by_cases e : v = b
          · rw [e]; exact z2
          · exact q2 v h1 (by omega)
        refine aw_iload3 (pc := 20) F dX9_isTightNow_20 ?_
        refine aw_aload0 (pc := 21) F dX9_isTightNow_21 ?_
        refine aw_getR (pc := 22) F dX9_isTightNow_22 fl_9_7 rfl (by first | decide | (simp only [inB, cnt, rcnt]; omega)) rfl nz0 rfl ?_
        refine aw_iconst (pc := 25) F dX9_isTightNow_25 ?_
        refine aw_iald (pc := 26) F dX9_isTightNow_26 rfl (by first | decide | (simp only [inB, cnt, rcnt]; omega)) (by omega) ?_
        refine aw_icmp_ge (tgt := 59) (pc := 27) F dX9_isTightNow_27 (by decide) (by first | exact i2 | (unfold inR; omega)) (by first | exact i2 | (unfold inR; omega)) (fun c27 => ?_) (fun c27 => ?_)
        · omega
        · refine aw_iload1 (pc := 30) F dX9_isTightNow_30 ?_
          refine aw_if_eq (tgt := 51) (pc := 31) F dX9_isTightNow_31 (by decide) (by first | exact i2 | (unfold inR; omega)) (fun c31 => ?_) (fun c31 => ?_)
          · refine aw_iconst (pc := 51) F dX9_isTightNow_51 ?_
            refine aw_istore1 (pc := 52) F dX9_isTightNow_52 rfl hk.symm ?_
            refine aw_iinc3 (pc := 53) F dX9_isTightNow_53 rfl hk.symm ?_
            refine aw_goto (tgt := 20) (pc := 56) F dX9_isTightNow_56 (by decide) ?_
            first | exact ih (b + 1) 0 (by omega) (no (Or.inl c31)) | exact ih (b + 1) 0 (by omega) (no (Or.inr (by rw [← sA]; exact c44))) | exact ih (b + 1) 1 (by omega) (yes c31 (by rw [← sA]; exact c44))
          · refine aw_aload0 (pc := 34) F dX9_isTightNow_34 ?_
            refine aw_getR (pc := 35) F dX9_isTightNow_35 fl_9_26 rfl (by first | decide | (simp only [inB, cnt, rcnt]; omega)) rfl nz16 rfl ?_
            refine aw_iload2 (pc := 38) F dX9_isTightNow_38 ?_
            refine aw_iload3 (pc := 39) F dX9_isTightNow_39 ?_
            refine aw_pcallS2 (pc := 40) F dX9_isTightNow_40 ml_9_230 (ct9_pair _ _ _ _) (Nat.le_of_ble_eq_true rfl) (by decide) (Nat.zero_le _) ?_
            refine aw_iald (pc := 43) F dX9_isTightNow_43 rfl (by first | decide | (simp only [inB, cnt, rcnt]; omega)) (by omega) ?_
            refine aw_if_eq (tgt := 51) (pc := 44) F dX9_isTightNow_44 (by decide) (by first | exact i2 | (unfold inR; omega)) (fun c44 => ?_) (fun c44 => ?_)
            · refine aw_iconst (pc := 51) F dX9_isTightNow_51 ?_
              refine aw_istore1 (pc := 52) F dX9_isTightNow_52 rfl hk.symm ?_
              refine aw_iinc3 (pc := 53) F dX9_isTightNow_53 rfl hk.symm ?_
              refine aw_goto (tgt := 20) (pc := 56) F dX9_isTightNow_56 (by decide) ?_
              first | exact ih (b + 1) 0 (by omega) (no (Or.inl c31)) | exact ih (b + 1) 0 (by omega) (no (Or.inr (by rw [← sA]; exact c44))) | exact ih (b + 1) 1 (by omega) (yes c31 (by rw [← sA]; exact c44))
            · refine aw_iconst (pc := 47) F dX9_isTightNow_47 ?_
              refine aw_goto (tgt := 52) (pc := 48) F dX9_isTightNow_48 (by decide) ?_
              refine aw_istore1 (pc := 52) F dX9_isTightNow_52 rfl hk.symm ?_
              refine aw_iinc3 (pc := 53) F dX9_isTightNow_53 rfl hk.symm ?_
              refine aw_goto (tgt := 20) (pc := 56) F dX9_isTightNow_56 (by decide) ?_
              first | exact ih (b + 1) 0 (by omega) (no (Or.inl c31)) | exact ih (b + 1) 0 (by omega) (no (Or.inr (by rw [← sA]; exact c44))) | exact ih (b + 1) 1 (by omega) (yes c31 (by rw [← sA]; exact c44))
    have keyA : ∀ (j a : Nat) (x : Int) (w : AV), a + j = E → wide w = false → isB x (∀ u v : Int, 0 ≤ u → u < (a : Int) → 0 ≤ v → v < E → A' (6 * u + v) ≠ 0) → AW X K 8 [aR (9, 0, 0, 0), aI x, aI a, w] [] (M', R0 b9) 0 Q9 := by
      intro j
      induction j with
      | zero =>
        intro a x w ha hw hx
        have hxb := isB_bd hx
        refine aw_iload2 (pc := 8) F dX9_isTightNow_8 ?_
        refine aw_aload0 (pc := 9) F dX9_isTightNow_9 ?_
        refine aw_getR (pc := 10) F dX9_isTightNow_10 fl_9_7 rfl (by first | decide | (simp only [inB, cnt, rcnt]; omega)) rfl nz0 rfl ?_
        refine aw_iconst (pc := 13) F dX9_isTightNow_13 ?_
        refine aw_iald (pc := 14) F dX9_isTightNow_14 rfl (by first | decide | (simp only [inB, cnt, rcnt]; omega)) (by omega) ?_
        refine aw_icmp_ge (tgt := 65) (pc := 15) F dX9_isTightNow_15 (by decide) (by unfold inR; omega) (by unfold inR; omega) (fun c15 => ?_) (fun c15 => ?_)
        · rw [← hQ]
          refine aw_iload1 (pc := 65) F dX9_isTightNow_65 ?_
          exact aw_iret (pc := 66) F dX9_isTightNow_66 (nar_bool (by omega)) (Nat.zero_le _) ⟨isB_congr ⟨fun z q => by rw [← emp_agr hg] at q; obtain ⟨u, v, h1, h2, h3⟩ := q; exact z u v h1.1 (by omega) h2.1 (by omega) h3, fun z u v h1 h2 h3 h4 h5 => z ((emp_agr hg).mp ⟨u, v, ⟨h1, by omega⟩, ⟨h3, by omega⟩, h5⟩)⟩ hx, A', hg, by rw [hM]⟩
        · omega
      | succ j ih =>
        intro a x w ha hw hx
        have hxb := isB_bd hx
        refine aw_iload2 (pc := 8) F dX9_isTightNow_8 ?_
        refine aw_aload0 (pc := 9) F dX9_isTightNow_9 ?_
        refine aw_getR (pc := 10) F dX9_isTightNow_10 fl_9_7 rfl (by first | decide | (simp only [inB, cnt, rcnt]; omega)) rfl nz0 rfl ?_
        refine aw_iconst (pc := 13) F dX9_isTightNow_13 ?_
        refine aw_iald (pc := 14) F dX9_isTightNow_14 rfl (by first | decide | (simp only [inB, cnt, rcnt]; omega)) (by omega) ?_
        refine aw_icmp_ge (tgt := 65) (pc := 15) F dX9_isTightNow_15 (by decide) (by unfold inR; omega) (by unfold inR; omega) (fun c15 => ?_) (fun c15 => ?_)
        · omega
        · refine aw_iconst (pc := 18) F dX9_isTightNow_18 ?_
          refine aw_istore3 (pc := 19) F dX9_isTightNow_19 (by simp only [List.all_cons, List.all_nil, hw]; rfl) hk.symm ?_
          exact keyB a (by omega) (fun x w hw hx2 => ih (a + 1) x w (by omega) hw hx2) E 0 x (by omega) (isB_congr ⟨fun z => ⟨z, fun v h1 h2 => absurd h2 (by omega)⟩, fun z => z.1⟩ hx)
    refine aw_iconst (pc := 4) F dX9_isTightNow_4 ?_
    refine aw_istore1 (pc := 5) F dX9_isTightNow_5 rfl hk.symm ?_
    refine aw_iconst (pc := 6) F dX9_isTightNow_6 ?_
    refine aw_istore2 (pc := 7) F dX9_isTightNow_7 rfl hk.symm ?_
    exact keyA E 0 1 aX (by omega) rfl (Or.inr ⟨rfl, fun u v h1 h2 => absurd h2 (by omega)⟩)
  refine aw_aload0 (pc := 0) F dX9_isTightNow_0 ?_
  refine aw_callVV0 (pc := 1) F dX9_isTightNow_1 ml_9_261 rfl (by first | decide | (simp only [inB, cnt, rcnt]; omega)) (ct9_tightensS _ _ S hS h) (Nat.le_of_ble_eq_true rfl) (by decide) (Nat.zero_le _) (fun σ9 h9_1 => ?_)
  obtain ⟨A2, hg2, hm2, h9⟩ := h9_1
  subst h9
  exact key0 A2 hg2 hm2
noncomputable def goS (S : Int → Int) (first : Int) : StT := @ite StT (emp (S 1) (tgS S)) (Classical.propDecidable _) (-1, fun _ => 0) (ful S first (S 1).toNat 0 (fun _ => 0) (-1, fun _ => 0))
theorem ct9_finds (M : Id4 → Int → Int) (b : Bool) (S : Int → Int) (first : Int) (h01 : first = 0 ∨ first = 1) (hS : M (9, 0, 1, 0) = S) (h : Ok S) : CtI 25 0 yX9_finds cX9_finds 3 (some .boolean) [aR (9, 0, 0, 0), aI first] (M, R0 b) (fun v σ' => v = b2i (¬ (goS S first).1 = -1) ∧ ∃ M', σ' = (M', R0 b) ∧ same9 M M' ∧ M' (9, 0, 0, 0) 4 = M (9, 0, 0, 0) 4 ∧ stR S M' (goS S first)) := by
  refine CtI.mk (by decide +kernel) rfl (Nat.le_of_ble_eq_true rfl) (fun X K F hk => ?_)
  have hE := h.2.1
  obtain ⟨M0, hM0⟩ : ∃ M0, M0 = updM M (9, 0, 0, 0) 27 (-1) := ⟨_, rfl⟩
  have s0 : M0 (9, 0, 1, 0) = S := by rw [hM0, upd_off (by decide)]; exact hS
  have q0 : same9 M M0 := by rw [hM0]; exact same9.rf.up (by unfold scr9; decide)
  refine aw_aload0 (pc := 0) F dX9_finds_0 ?_
  refine aw_iconst (pc := 1) F dX9_finds_1 ?_
  refine aw_putI (pc := 2) F dX9_finds_2 fl_9_320 fpi_9_27 rfl (by first | decide | (simp only [inB, cnt, rcnt]; omega)) rfl nz27 ?_
  rw [← hM0]
  refine aw_aload0 (pc := 5) F dX9_finds_5 ?_
  refine aw_callVI0 (pc := 6) F dX9_finds_6 ml_9_270 rfl (by first | decide | (simp only [inB, cnt, rcnt]; omega)) (ct9_isTightNow2 _ _ S s0 h) (Nat.le_of_ble_eq_true rfl) (by decide) (Nat.zero_le _) (fun v9 σ9 h9_6 => ?_)
  obtain ⟨hv, A', hg, h9⟩ := h9_6
  obtain ⟨M1, hM1⟩ : ∃ M1, M1 = setA (updM M0 (9, 0, 0, 0) 17 ((rdS S : Int) + 1)) (9, 0, 17, 0) A' := ⟨_, rfl⟩
  rw [← hM1] at h9
  subst h9
  have hvb := isB_bd hv
  have q1 : same9 M M1 := by rw [hM1]; exact (q0.up (by unfold scr9; decide)).st (fun k => by unfold scr9; simp)
  have s1 : M1 (9, 0, 1, 0) = S := q1.s.trans hS
  have g1 : Agr (S 1) (M1 (9, 0, 17, 0)) (tgS S) := by rw [hM1, setA_same]; exact hg
  have m27 : M1 (9, 0, 0, 0) 27 = -1 := by rw [hM1, setA_ne (by decide), upd_ne (Or.inr (by decide)), hM0, upd_same]
  have m4 : M1 (9, 0, 0, 0) 4 = M (9, 0, 0, 0) 4 := by rw [hM1, setA_ne (by decide), upd_ne (Or.inr (by decide)), hM0, upd_ne (Or.inr (by decide))]
  refine aw_if_ne (tgt := 14) (pc := 9) F dX9_finds_9 (by decide) (by unfold inR; omega) (fun c9 => ?_) (fun c9 => ?_)
  · have ge : goS S first = ful S first (S 1).toNat 0 (fun _ => 0) (-1, fun _ => 0) := by unfold goS; rw [if_neg (hv.resolve_left (fun y => c9 y.1)).2]
    refine aw_aload0 (pc := 14) F dX9_finds_14 ?_
    refine aw_iconst (pc := 15) F dX9_finds_15 ?_
    refine aw_iconst (pc := 16) F dX9_finds_16 ?_
    refine aw_iload1 (pc := 17) F dX9_finds_17 ?_
    refine aw_callVI3 (pc := 18) F dX9_finds_18 ml_9_329 rfl (by first | decide | (simp only [inB, cnt, rcnt]; omega)) (ct9_tries h b first h01 6 0 M1 (fun _ => 0) (-1, fun _ => 0) (by omega) s1 g1 (by omega) (fun a a0 a1 => absurd a1 (by omega)) (fun a a0 a1 => absurd a1 (by omega)) ⟨m27, Or.inl rfl, fun z => absurd rfl z⟩ (fun _ => rfl)) (Nat.le_of_ble_eq_true rfl) (by decide) (Nat.zero_le _) (fun v9 σ9 h9_18 => ?_)
    obtain ⟨M2, h9, d1, d2, d3, d4⟩ := h9_18
    subst h9
    rw [Nat.sub_zero, ← ge] at d2 d4
    obtain ⟨e1, e2, e3⟩ := id d2
    unfold stB at e2
    refine aw_istore2 (pc := 21) F dX9_finds_21 rfl hk.symm ?_
    refine aw_iload2 (pc := 22) F dX9_finds_22 ?_
    refine aw_if_ne (tgt := 33) (pc := 23) F dX9_finds_23 (by decide) (by unfold inR; omega) (fun c23 => ?_) (fun c23 => ?_)
    · refine aw_iconst (pc := 33) F dX9_finds_33 ?_
      refine aw_goto (tgt := 38) (pc := 34) F dX9_finds_34 (by decide) ?_
      exact aw_iret (pc := 38) F dX9_finds_38 (nar_bool (by first | exact b2i_01 | decide)) (Nat.zero_le _) ⟨by first | exact (b2i_pos (d4.resolve_right (fun y => c23 y.1)).2.2).symm | exact (b2i_pos (by omega)).symm | exact (b2i_neg (by omega)).symm, M2, rfl, q1.tr d1.q, by rw [d1 _ _ (by simp), m4], d2⟩
    · refine aw_aload0 (pc := 26) F dX9_finds_26 ?_
      refine aw_getI (pc := 27) F dX9_finds_27 fl_9_320 rfl (by first | decide | (simp only [inB, cnt, rcnt]; omega)) rfl nz27 ?_
      refine aw_if_lt (tgt := 37) (pc := 30) F dX9_finds_30 (by decide) (by unfold inR; omega) (fun c30 => ?_) (fun c30 => ?_)
      · refine aw_iconst (pc := 37) F dX9_finds_37 ?_
        exact aw_iret (pc := 38) F dX9_finds_38 (nar_bool (by first | exact b2i_01 | decide)) (Nat.zero_le _) ⟨by first | exact (b2i_pos (d4.resolve_right (fun y => c23 y.1)).2.2).symm | exact (b2i_pos (by omega)).symm | exact (b2i_neg (by omega)).symm, M2, rfl, q1.tr d1.q, by rw [d1 _ _ (by simp), m4], d2⟩
      · refine aw_iconst (pc := 33) F dX9_finds_33 ?_
        refine aw_goto (tgt := 38) (pc := 34) F dX9_finds_34 (by decide) ?_
        exact aw_iret (pc := 38) F dX9_finds_38 (nar_bool (by first | exact b2i_01 | decide)) (Nat.zero_le _) ⟨by first | exact (b2i_pos (d4.resolve_right (fun y => c23 y.1)).2.2).symm | exact (b2i_pos (by omega)).symm | exact (b2i_neg (by omega)).symm, M2, rfl, q1.tr d1.q, by rw [d1 _ _ (by simp), m4], d2⟩
  · have ge : goS S first = (-1, fun _ => 0) := by unfold goS; rw [if_pos (Classical.byContradiction fun z => by have := (hv.resolve_right (fun y => by omega)).2; exact this z)]
    refine aw_iconst (pc := 12) F dX9_finds_12 ?_
    exact aw_iret (pc := 13) F dX9_finds_13 (nar_bool (by first | exact b2i_01 | decide)) (Nat.zero_le _) ⟨by rw [ge]; exact (b2i_neg (fun z => z rfl)).symm, M1, rfl, q1, m4, by rw [ge]; exact ⟨m27, Or.inl rfl, fun z => absurd rfl z⟩⟩
theorem cq9_isSolvable (M : Id4 → Int → Int) (b : Bool) (S : Int → Int) (hS : M (9, 0, 1, 0) = S) (h : Ok S) : CtI 26 0 yX9_isSolvable cX9_isSolvable 1 (some .boolean) [aR (9, 0, 0, 0)] (M, R0 b) (QP M b 0 (b2i (¬ (goS S 1).1 = -1))) := by
  refine CtI.mk (by decide +kernel) rfl (Nat.le_of_ble_eq_true rfl) (fun X K F hk => ?_)
  refine aw_aload0 (pc := 0) F dX9_isSolvable_0 ?_
  refine aw_iconst (pc := 1) F dX9_isSolvable_1 ?_
  refine aw_putI (pc := 2) F dX9_isSolvable_2 fl_9_54 fpi_9_4 rfl (by first | decide | (simp only [inB, cnt, rcnt]; omega)) rfl nz4 ?_
  refine aw_aload0 (pc := 5) F dX9_isSolvable_5 ?_
  refine aw_iconst (pc := 6) F dX9_isSolvable_6 ?_
  refine aw_callVI1 (pc := 7) F dX9_isSolvable_7 ml_9_333 rfl (by first | decide | (simp only [inB, cnt, rcnt]; omega)) (ct9_finds _ _ S 1 (Or.inr rfl) (by rw [thr_u]; exact hS) h) (Nat.le_of_ble_eq_true rfl) (by decide) (Nat.zero_le _) (fun v9 σ9 h9_7 => ?_)
  obtain ⟨hv, M2, h9, d1, d2, d3⟩ := h9_7
  subst h9
  subst hv
  exact aw_iret (pc := 10) F dX9_isSolvable_10 (nar_bool (by first | exact b2i_01 | decide)) (Nat.zero_le _) ⟨M2, rfl, same9_thr.tr d1, by rw [d2]; exact upd_same, fun _ => rfl⟩
theorem cq9_leastCost (M : Id4 → Int → Int) (b : Bool) (S : Int → Int) (hS : M (9, 0, 1, 0) = S) (h : Ok S) : CtI 26 0 yX9_leastCost cX9_leastCost 1 (some .int) [aR (9, 0, 0, 0)] (M, R0 b) (QP M b (1 - b2i (¬ (goS S 0).1 = -1)) (goS S 0).1) := by
  refine CtI.mk (by decide +kernel) rfl (Nat.le_of_ble_eq_true rfl) (fun X K F hk => ?_)
  refine aw_aload0 (pc := 0) F dX9_leastCost_0 ?_
  refine aw_aload0 (pc := 1) F dX9_leastCost_1 ?_
  refine aw_iconst (pc := 2) F dX9_leastCost_2 ?_
  refine aw_callVI1 (pc := 3) F dX9_leastCost_3 ml_9_333 rfl (by first | decide | (simp only [inB, cnt, rcnt]; omega)) (ct9_finds _ _ S 0 (Or.inl rfl) hS h) (Nat.le_of_ble_eq_true rfl) (by decide) (Nat.zero_le _) (fun v9 σ9 h9_3 => ?_)
  obtain ⟨hv, M2, h9, d1, d2, d3⟩ := h9_3
  subst h9
  subst hv
  refine aw_callVI1 (pc := 6) F dX9_leastCost_6 ml_9_176 rfl (by first | decide | (simp only [inB, cnt, rcnt]; omega)) (ct9_good1 _ _ _ b2i_01) (Nat.le_of_ble_eq_true rfl) (by decide) (Nat.zero_le _) (fun v9 σ9 h9_6 => ?_)
  obtain ⟨rfl, rfl⟩ := h9_6
  refine aw_ifb_eq (tgt := 19) (pc := 9) F dX9_leastCost_9 (by decide) (fun c9 => ?_) (fun c9 => ?_)
  · refine aw_iconst (pc := 19) F dX9_leastCost_19 ?_
    exact aw_iret (pc := 20) F dX9_leastCost_20 rfl (Nat.zero_le _) (by first | exact qp9 d1 (fun _ => (upd_ne (Or.inr (by decide))).trans d3.1) | exact qp9 d1 (fun z => absurd z c9))
  · refine aw_aload0 (pc := 12) F dX9_leastCost_12 ?_
    refine aw_getI (pc := 13) F dX9_leastCost_13 fl_9_320 rfl (by first | decide | (simp only [inB, cnt, rcnt]; omega)) rfl nz27 ?_
    refine aw_goto (tgt := 20) (pc := 16) F dX9_leastCost_16 (by decide) ?_
    exact aw_iret (pc := 20) F dX9_leastCost_20 rfl (Nat.zero_le _) (by first | exact qp9 d1 (fun _ => (upd_ne (Or.inr (by decide))).trans d3.1) | exact qp9 d1 (fun z => absurd z c9))
/-- the row with the times tau -/
def soS2 (S tau : Int → Int) (i : Int) : Int → Int := fun j => if 14 ≤ j ∧ j < 14 + i then tau (j - 14) else S j
theorem soS2_0 {S tau : Int → Int} : soS2 S tau 0 = S := funext fun j => if_neg (by omega)
theorem soS2_off {S tau : Int → Int} {i j : Int} (h : ¬ (14 ≤ j ∧ j < 14 + i)) : soS2 S tau i j = S j := if_neg h
theorem soS2_at {S tau : Int → Int} {i a : Int} (h : 0 ≤ a ∧ a < i) : soS2 S tau i (14 + a) = tau a := by
  unfold soS2
  rw [if_pos (by omega)]
  congr 1
  omega
theorem soS2_step {S tau : Int → Int} {i v : Int} (h : 0 ≤ i) (hv : v = tau i) : upS (soS2 S tau i) (14 + i) v = soS2 S tau (i + 1) := by
  funext j
  unfold upS soS2
  by_cases z : j = 14 + i
  · rw [if_pos z, if_pos (by omega), z, hv]
    congr 1
    omega
  · rw [if_neg z]
    by_cases g : 14 ≤ j ∧ j < 14 + i
    · rw [if_pos g, if_pos (by omega)]
    · rw [if_neg g, if_neg (by omega)]
def stI (S : Int → Int) (st : StT) : Prop := st.1 = -1 ∨ (st.1 = CT S st.2 ∧ VAL S st.2 ∧ ∀ a, 0 ≤ a → a < S 1 → 0 ≤ st.2 a ∧ st.2 a < S 0)
theorem ful_inv {S : Int → Int} (h : Ok S) {first : Int} : ∀ (j e : Nat) (tau : Int → Int) (st : StT), (e : Int) + j = S 1 → (∀ a, 0 ≤ a → a < (e : Int) → 0 ≤ tau a ∧ tau a < S 0) → stI S st → stI S (ful S first j e tau st)
  | 0, e, tau, st, he, ht, hi => by
    show stI S (updT S first tau st)
    unfold updT
    by_cases z : VAL S tau ∧ wnt first st (CT S tau)
    · rw [if_pos z]
      exact Or.inr ⟨rfl, z.1, fun a a0 a1 => ht a a0 (by omega)⟩
    · rw [if_neg z]; exact hi
  | j + 1, e, tau, st, he, ht, hi => by
    rw [ful_s]
    have : ∀ n : Nat, n ≤ (S 0).toNat → stI S (flT (fun t st => ful S first j (e + 1) (upS tau e t) st) n st) := by
      intro n
      induction n with
      | zero => intro _; exact hi
      | succ n ih =>
        intro hn
        refine ful_inv h j (e + 1) _ _ (by omega) (fun a a0 a1 => ?_) (ih (by omega))
        by_cases z : a = e
        · rw [z, upS_same]; omega
        · rw [upS_ne z]; exact ht a a0 (by omega)
    exact this _ (Nat.le_refl _)
theorem goS_inv {S : Int → Int} (h : Ok S) {first : Int} : stI S (goS S first) := by
  have hE := h.2.1
  unfold goS
  by_cases z : emp (S 1) (tgS S)
  · rw [if_pos z]; exact Or.inl rfl
  · rw [if_neg z]; exact ful_inv h _ _ _ _ (by omega) (fun a a0 a1 => absurd a1 (by omega)) (Or.inl rfl)
theorem CT_cst {S tau : Int → Int} (h : Ok S) : cst (soS2 S tau (S 1)) = CT S tau := by
  have hN := h.2.2.1
  have hE := h.2.1
  have e1 : ∀ n : Nat, cPar S tau n = sumI (fun e => cA S tau e) n := by
    intro n
    induction n with
    | zero => rfl
    | succ n ih => show cPar S tau n + cA S tau n = _ + _; rw [ih]
  unfold CT
  rw [e1]
  have e2 : sumI (fun e => cA S tau e) (S 1).toNat = sumI (fun e => sumI (fun k => if max (frS S k) (toS S k) = e then spC S tau k else 0) (S 20).toNat) (S 1).toNat := rfl
  rw [e2, sumI_swap]
  unfold cst
  rw [soS2_off (by omega)]
  refine sumI_congr _ (fun k k0 k1 => ?_)
  have z := h.2.2.2.2 k k0 (by omega)
  unfold SpOk at z
  have f0 : 0 ≤ frS S k ∧ frS S k < S 1 := z.1
  have t0 : 0 ≤ toS S k ∧ toS S k < S 1 := z.2.1
  have e3 : sumI (fun e => if max (frS S k) (toS S k) = e then spC S tau k else 0) (S 1).toNat = sumI (fun e => if e = max (frS S k) (toS S k) then spC S tau k else 0) (S 1).toNat := sumI_congr _ (fun e _ _ => by
    by_cases y : max (frS S k) (toS S k) = e
    · rw [if_pos y, if_pos y.symm]
    · rw [if_neg y, if_neg (fun w => y w.symm)])
  rw [e3, sumI_one, if_pos (by omega)]
  unfold spC slOf slBy
  have w0 : soS2 S tau (S 1) (21 + 5 * k + 0) = frS S k := soS2_off (by omega)
  have w1 : soS2 S tau (S 1) (21 + 5 * k + 1) = toS S k := soS2_off (by omega)
  have w2 : soS2 S tau (S 1) (21 + 5 * k + 2) = S (21 + 5 * k + 2) := soS2_off (by omega)
  have w4 : soS2 S tau (S 1) (21 + 5 * k + 4) = S (21 + 5 * k + 4) := soS2_off (by omega)
  have wz : soS2 S tau (S 1) 0 = S 0 := soS2_off (by omega)
  rw [w0, w1, w2, w4, wz, soS2_at t0, soS2_at f0]
theorem so_ok {S tau : Int → Int} (h : Ok S) (ht : ∀ a, 0 ≤ a → a < S 1 → 0 ≤ tau a ∧ tau a < S 0) : Ok (soS2 S tau (S 1)) := by
  obtain ⟨a, b, c, d, g⟩ := h
  have e0 : soS2 S tau (S 1) 0 = S 0 := soS2_off (by omega)
  have e1 : soS2 S tau (S 1) 1 = S 1 := soS2_off (by omega)
  have e2 : soS2 S tau (S 1) 20 = S 20 := soS2_off (by omega)
  refine ⟨by omega, by omega, by omega, fun x x0 x1 => ?_, fun k k0 k1 => SpOk_eq e1 e0 (fun w w0 w1 => soS2_off (by omega)) (g k k0 (by omega))⟩
  rw [e0, soS2_at (by omega)]
  exact ht x x0 (by omega)
noncomputable abbrev solR (S : Int → Int) (first : Int) : Int → Int := soS2 S (goS S first).2 (S 1)
theorem ct9_rememberF (M : Id4 → Int → Int) (b : Bool) (S : Int → Int) (n : Int) (Hs : Int → Int → Int) (hS : M (9, 0, 1, 0) = S) (hH : hR9 M n Hs) : CtV 1 0 yX9_remember cX9_remember 2 none [aR (9, 0, 0, 0)] (M, R0 b) (fun σ' => ∃ M', σ' = (M', R0 b) ∧ same9e M M' ∧ M' (9, 0, 1, 0) = S ∧ M' (9, 0, 0, 0) 4 = M (9, 0, 0, 0) 4 ∧ hR9 M' (min (n + 1) 10) (pushH n Hs S) ∧ M' (9, 0, 27, 0) = M (9, 0, 27, 0)) := by
  refine (ct9_remember M b S n Hs hS hH).mono (fun σ' hq => ?_)
  obtain ⟨A', hσ, hA⟩ := hq
  have hn := hH.1.2
  refine ⟨_, hσ, (same9e.rf.st (Or.inr rfl)).up (Or.inr (Or.inr (Or.inr ⟨rfl, rfl⟩))), ?_, ?_, ⟨⟨upd_same, by omega⟩, fun i j i0 i1 j0 j1 => ?_⟩, ?_⟩
  · rw [upd_off (by decide), setA_ne (by decide), hS]
  · rw [upd_ne (Or.inr (by decide)), setA_ne (by decide)]
  · rw [upd_ne (Or.inl (by decide)), setA_same]
    exact hA i j i0 i1 j0 j1
  · rw [upd_off (by decide), setA_ne (by decide)]
theorem cq9_becomes (M : Id4 → Int → Int) (b : Bool) (S : Int → Int) (n : Int) (Hs : Int → Int → Int) (first : Int) (h01 : first = 0 ∨ first = 1) (hS : M (9, 0, 1, 0) = S) (h : Ok S) (hH : hR9 M n Hs) : CtI 26 0 yX9_becomes cX9_becomes 3 (some .int) [aR (9, 0, 0, 0), aI first] (M, R0 b) (E9 M b (1 - b2i (¬ (goS S first).1 = -1)) (goS S first).1 (solR S first) (min (n + 1) 10) (pushH n Hs S)) := by
  refine CtI.mk (by decide +kernel) rfl (Nat.le_of_ble_eq_true rfl) (fun X K F hk => ?_)
  have hE := h.2.1
  obtain ⟨E, eE⟩ : ∃ E : Nat, S 1 = (E : Int) := ⟨(S 1).toNat, by omega⟩
  have gi := goS_inv h (first := first)
  obtain ⟨Q9, hQ⟩ : ∃ Q9, Q9 = EI X K 0 (E9 M b (1 - b2i (¬ (goS S first).1 = -1)) (goS S first).1 (solR S first) (min (n + 1) 10) (pushH n Hs S)) := ⟨_, rfl⟩
  have key : ¬ (goS S first).1 = -1 → ∀ (j i : Nat) (M' : Id4 → Int → Int), i + j = E → M' (9, 0, 0, 0) 4 = 0 → same9e M M' → M' (9, 0, 1, 0) = soS2 S (goS S first).2 i → hR9 M' (min (n + 1) 10) (pushH n Hs S) → (∀ a, 0 ≤ a → a < S 1 → M' (9, 0, 27, 0) a = (goS S first).2 a) → AW X K 20 [aR (9, 0, 0, 0), aI first, aI i] [] (M', R0 b) 0 Q9 := by
    intro hf j
    obtain ⟨g1, g2, g3⟩ := gi.resolve_left hf
    have ht0 : 1 - b2i (¬ (goS S first).1 = -1) = 0 := by rw [b2i_pos hf]; rfl
    induction j with
    | zero =>
      intro i M' hi a0 a1 a2 a3 a4
      have ei : (i : Int) = S 1 := by omega
      rw [ei] at a2
      have s1 : M' (9, 0, 1, 0) 1 = S 1 := by rw [a2]; exact soS2_off (by omega)
      refine aw_iload2 (pc := 20) F dX9_becomes_20 ?_
      refine aw_aload0 (pc := 21) F dX9_becomes_21 ?_
      refine aw_getR (pc := 22) F dX9_becomes_22 fl_9_7 rfl (by first | decide | (simp only [inB, cnt, rcnt]; omega)) rfl nz0 rfl ?_
      refine aw_iconst (pc := 25) F dX9_becomes_25 ?_
      refine aw_iald (pc := 26) F dX9_becomes_26 rfl (by first | decide | (simp only [inB, cnt, rcnt]; omega)) (by omega) ?_
      refine aw_icmp_ge (tgt := 51) (pc := 27) F dX9_becomes_27 (by decide) (by unfold inR; omega) (by unfold inR; omega) (fun c27 => ?_) (fun c27 => ?_)
      · refine aw_aload0 (pc := 51) F dX9_becomes_51 ?_
        refine aw_pcallV0 (pc := 52) F dX9_becomes_52 ml_9_221 rfl (by first | decide | (simp only [inB, cnt, rcnt]; omega)) (ct9_costNow _ _ (by rw [a2]; exact so_ok h g3)) (Nat.le_of_ble_eq_true rfl) (by decide) (Nat.zero_le _) ?_
        rw [hQ]
        exact aw_iret (pc := 55) F dX9_becomes_55 rfl (Nat.zero_le _) (e9_yes ht0 a0 (by rw [a2, g1]; exact CT_cst h) a1 a2 a3)
      · omega
    | succ j ih =>
      intro i M' hi a0 a1 a2 a3 a4
      have s1 : M' (9, 0, 1, 0) 1 = S 1 := by rw [a2]; exact soS2_off (by omega)
      refine aw_iload2 (pc := 20) F dX9_becomes_20 ?_
      refine aw_aload0 (pc := 21) F dX9_becomes_21 ?_
      refine aw_getR (pc := 22) F dX9_becomes_22 fl_9_7 rfl (by first | decide | (simp only [inB, cnt, rcnt]; omega)) rfl nz0 rfl ?_
      refine aw_iconst (pc := 25) F dX9_becomes_25 ?_
      refine aw_iald (pc := 26) F dX9_becomes_26 rfl (by first | decide | (simp only [inB, cnt, rcnt]; omega)) (by omega) ?_
      refine aw_icmp_ge (tgt := 51) (pc := 27) F dX9_becomes_27 (by decide) (by unfold inR; omega) (by unfold inR; omega) (fun c27 => ?_) (fun c27 => ?_)
      · omega
      · refine aw_aload0 (pc := 30) F dX9_becomes_30 ?_
        refine aw_getR (pc := 31) F dX9_becomes_31 fl_9_7 rfl (by first | decide | (simp only [inB, cnt, rcnt]; omega)) rfl nz0 rfl ?_
        refine aw_bipush (pc := 34) F dX9_becomes_34 (by decide) ?_
        refine aw_iload2 (pc := 36) F dX9_becomes_36 ?_
        refine aw_iadd (pc := 37) F dX9_becomes_37 ?_
        refine aw_aload0 (pc := 38) F dX9_becomes_38 ?_
        refine aw_getR (pc := 39) F dX9_becomes_39 fl_9_48 rfl (by first | decide | (simp only [inB, cnt, rcnt]; omega)) rfl nz26 rfl ?_
        refine aw_iload2 (pc := 42) F dX9_becomes_42 ?_
        refine aw_iald (pc := 43) F dX9_becomes_43 rfl (by first | decide | (simp only [inB, cnt, rcnt]; omega)) (by omega) ?_
        refine aw_iast (pc := 44) F dX9_becomes_44 rfl (by first | decide | (simp only [inB, cnt, rcnt]; omega)) (by omega) ?_
        refine aw_iinc2 (pc := 45) F dX9_becomes_45 rfl hk.symm ?_
        refine aw_goto (tgt := 20) (pc := 48) F dX9_becomes_48 (by decide) ?_
        exact ih (i + 1) _ (by omega) (by rw [upd_ne (Or.inl (by decide))]; exact a0) a1.r (by rw [upd_row, a2]; exact soS2_step (by omega) (a4 i (by omega) (by omega))) a3.st (fun a q0 q1 => by rw [upd_ne (Or.inl (by decide))]; exact a4 a q0 q1)
  refine aw_aload0 (pc := 0) F dX9_becomes_0 ?_
  refine aw_aload0 (pc := 1) F dX9_becomes_1 ?_
  refine aw_iload1 (pc := 2) F dX9_becomes_2 ?_
  refine aw_callVI1 (pc := 3) F dX9_becomes_3 ml_9_333 rfl (by first | decide | (simp only [inB, cnt, rcnt]; omega)) (ct9_finds _ _ S first h01 hS h) (Nat.le_of_ble_eq_true rfl) (by decide) (Nat.zero_le _) (fun v9 σ9 h9_3 => ?_)
  obtain ⟨hv, M2, h9, d1, d2, d3⟩ := h9_3
  subst h9
  subst hv
  refine aw_callVI1 (pc := 6) F dX9_becomes_6 ml_9_176 rfl (by first | decide | (simp only [inB, cnt, rcnt]; omega)) (ct9_good1 _ _ _ b2i_01) (Nat.le_of_ble_eq_true rfl) (by decide) (Nat.zero_le _) (fun v9 σ9 h9_6 => ?_)
  obtain ⟨rfl, rfl⟩ := h9_6
  refine aw_ifb_ne (tgt := 14) (pc := 9) F dX9_becomes_9 (by decide) (fun c9 => ?_) (fun c9 => ?_)
  · refine aw_aload0 (pc := 14) F dX9_becomes_14 ?_
    refine aw_callVV0 (pc := 15) F dX9_becomes_15 ml_9_349 rfl (by first | decide | (simp only [inB, cnt, rcnt]; omega)) (ct9_rememberF _ _ S n Hs (by rw [thr_s, d1.s]; exact hS) ((hH.s9 d1).thr)) (Nat.le_of_ble_eq_true rfl) (by decide) (Nat.zero_le _) (fun σ9 h9_15 => ?_)
    obtain ⟨M3, h9, f1, f2, f3, f4, f5⟩ := h9_15
    subst h9
    refine aw_iconst (pc := 18) F dX9_becomes_18 ?_
    refine aw_istore2 (pc := 19) F dX9_becomes_19 rfl hk.symm ?_
    rw [← hQ]
    exact key c9 E 0 M3 (by omega) (by rw [f3]; refine upd_same.trans ?_; rw [b2i_pos c9]; rfl) ((d1.tr same9_thr).e.tr f1) (by rw [show ((0 : Nat) : Int) = 0 by rfl, soS2_0]; exact f2) f4 (fun a q0 q1 => by rw [f5]; exact (upd_ne (Or.inl (by decide))).trans (d3.2.2 c9 a q0 q1))
  · refine aw_iconst (pc := 12) F dX9_becomes_12 ?_
    exact aw_iret (pc := 13) F dX9_becomes_13 rfl (Nat.zero_le _) ⟨_, rfl, upd_same, Or.inr ⟨by rw [b2i_neg c9]; decide, d1.tr same9_thr⟩⟩
theorem cq9_solve (M : Id4 → Int → Int) (b : Bool) (S : Int → Int) (n : Int) (Hs : Int → Int → Int) (hS : M (9, 0, 1, 0) = S) (h : Ok S) (hH : hR9 M n Hs) : CtI 27 0 yX9_solve cX9_solve 1 (some .int) [aR (9, 0, 0, 0)] (M, R0 b) (E9 M b (1 - b2i (¬ (goS S 1).1 = -1)) (goS S 1).1 (solR S 1) (min (n + 1) 10) (pushH n Hs S)) := by
  refine CtI.mk (by decide +kernel) rfl (Nat.le_of_ble_eq_true rfl) (fun X K F hk => ?_)
  refine aw_aload0 (pc := 0) F dX9_solve_0 ?_
  refine aw_iconst (pc := 1) F dX9_solve_1 ?_
  refine aw_callVI1 (pc := 2) F dX9_solve_2 ml_9_361 rfl (by first | decide | (simp only [inB, cnt, rcnt]; omega)) (cq9_becomes _ _ S n Hs 1 (Or.inr rfl) hS h hH) (Nat.le_of_ble_eq_true rfl) (by decide) (Nat.zero_le _) (fun v9 σ9 h9 => ?_)
  exact aw_iret (pc := 5) F dX9_solve_5 rfl (Nat.zero_le _) h9
theorem cq9_cheapen (M : Id4 → Int → Int) (b : Bool) (S : Int → Int) (n : Int) (Hs : Int → Int → Int) (hS : M (9, 0, 1, 0) = S) (h : Ok S) (hH : hR9 M n Hs) : CtI 27 0 yX9_cheapen cX9_cheapen 1 (some .int) [aR (9, 0, 0, 0)] (M, R0 b) (E9 M b (1 - b2i (¬ (goS S 0).1 = -1)) (goS S 0).1 (solR S 0) (min (n + 1) 10) (pushH n Hs S)) := by
  refine CtI.mk (by decide +kernel) rfl (Nat.le_of_ble_eq_true rfl) (fun X K F hk => ?_)
  refine aw_aload0 (pc := 0) F dX9_cheapen_0 ?_
  refine aw_iconst (pc := 1) F dX9_cheapen_1 ?_
  refine aw_callVI1 (pc := 2) F dX9_cheapen_2 ml_9_361 rfl (by first | decide | (simp only [inB, cnt, rcnt]; omega)) (cq9_becomes _ _ S n Hs 0 (Or.inl rfl) hS h hH) (Nat.le_of_ble_eq_true rfl) (by decide) (Nat.zero_le _) (fun v9 σ9 h9 => ?_)
  exact aw_iret (pc := 5) F dX9_cheapen_5 rfl (Nat.zero_le _) h9
