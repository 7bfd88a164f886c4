/-! 26: the reference's questions of the differences -/
theorem same9.st {M M1 : Id4 → Int → Int} {q : Id4} {A : Int → Int} (h1 : same9 M M1) (h : ∀ k, scr9 q k) : same9 M (setA M1 q A) := fun q' k' h' => by
  rw [setA_ne (fun (z : q' = q) => h' (z ▸ h k'))]
  exact h1 q' k' h'
theorem qpT {M : Id4 → Int → Int} {b : Bool} {t v r w : Int} {A : Int → Int} (h : t = 0 → r = v) : QP M b t v r (setA (updM (thr M t) (9, 0, 0, 0) 17 w) (9, 0, 17, 0) A, R0 b) :=
  ⟨_, rfl, (same9_thr.up (by unfold scr9; decide)).st (fun k => by unfold scr9; simp), by rw [setA_ne (by decide), upd_ne (Or.inr (by decide))]; exact upd_same, h⟩
theorem cq9_rounds (M : Id4 → Int → Int) (b : Bool) (h : Ok (M (9, 0, 1, 0))) : CtI 7 0 yX9_rounds cX9_rounds 1 (some .int) [aR (9, 0, 0, 0)] (M, R0 b) (QP M b 0 ((rdS (M (9, 0, 1, 0)) : Int) + 1)) := by
  refine CtI.mk (by decide +kernel) rfl (Nat.le_of_ble_eq_true rfl) (fun X K F hk => ?_)
  have hk8 := (rdS_is h).2
  refine aw_aload0 (pc := 0) F dX9_rounds_0 ?_
  refine aw_iconst (pc := 1) F dX9_rounds_1 ?_
  refine aw_putI (pc := 2) F dX9_rounds_2 fl_9_54 fpi_9_4 rfl (by first | decide | (simp only [inB, cnt, rcnt]; omega)) rfl nz4 ?_
  refine aw_aload0 (pc := 5) F dX9_rounds_5 ?_
  refine aw_callVV0 (pc := 6) F dX9_rounds_6 ml_9_261 rfl (by first | decide | (simp only [inB, cnt, rcnt]; omega)) (ct9_tightensS _ _ (M (9, 0, 1, 0)) thr_u h) (Nat.le_of_ble_eq_true rfl) (by decide) (Nat.zero_le _) (fun σ9 h9_6 => ?_)
  obtain ⟨A2, hg2, hm2, h9⟩ := h9_6
  subst h9
  refine aw_aload0 (pc := 9) F dX9_rounds_9 ?_
  refine aw_getI (pc := 10) F dX9_rounds_10 fl_9_252 rfl (by first | decide | (simp only [inB, cnt, rcnt]; omega)) rfl nz17 ?_
  exact aw_iret (pc := 13) F dX9_rounds_13 rfl (Nat.zero_le _) (qpT (fun _ => by rw [setA_ne (by decide), upd_same]))
theorem ct9_isTightNow (M : Id4 → Int → Int) (b9 : Bool) (S : Int → Int) (hS : M (9, 0, 1, 0) = S) (h : Ok S) : CtI 7 0 yX9_isTightNow cX9_isTightNow 4 (some .boolean) [aR (9, 0, 0, 0)] (M, R0 b9) (fun v σ' => isB v (¬ emp (S 1) (tgS S)) ∧ ∃ A', σ' = (setA (updM M (9, 0, 0, 0) 17 ((rdS S : Int) + 1)) (9, 0, 17, 0) A', R0 b9)) := by
  refine CtI.mk (by decide +kernel) rfl (Nat.le_of_ble_eq_true rfl) (fun X K F hk => ?_)
  have hE := h.2.1
  have hT := h.1
  obtain ⟨E, eE⟩ : ∃ E : Nat, S 1 = (E : Int) := ⟨(S 1).toNat, by omega⟩
  have key0 : ∀ (A' : Int → Int), Agr (S 1) A' (tgS S) → MatOk (S 0).toNat A' → AW X K 4 [aR (9, 0, 0, 0), aX, aX, aX] [] (setA (updM M (9, 0, 0, 0) 17 ((rdS S : Int) + 1)) (9, 0, 17, 0) A', R0 b9) 0 (EI X K 0 (fun v σ' => isB v (¬ emp (S 1) (tgS S)) ∧ ∃ A', σ' = (setA (updM M (9, 0, 0, 0) 17 ((rdS S : Int) + 1)) (9, 0, 17, 0) A', R0 b9))) := by
    intro A' hg hm
    obtain ⟨M', hM⟩ : ∃ M', M' = setA (updM M (9, 0, 0, 0) 17 ((rdS S : Int) + 1)) (9, 0, 17, 0) A' := ⟨_, rfl⟩
    rw [← hM]
    have s1 : M' (9, 0, 1, 0) = S := by rw [hM, setA_ne (by decide), ← hS]; exact funext fun j => upd_ne (Or.inl (by decide))
    have s2 := congrFun s1 1
    have sA : M' (9, 0, 17, 0) = A' := by rw [hM]; exact setA_same
    generalize hQ : EI X K 0 (fun v σ' => isB v (¬ emp (S 1) (tgS S)) ∧ ∃ A', σ' = (setA (updM M (9, 0, 0, 0) 17 ((rdS S : Int) + 1)) (9, 0, 17, 0) A', R0 b9)) = Q9
    have keyB : ∀ (a : Nat), a < E → (∀ (x : Int) (w : AV), wide w = false → isB x (∀ u v : Int, 0 ≤ u → u < ((a + 1 : Nat) : Int) → 0 ≤ v → v < E → A' (6 * u + v) ≠ 0) → AW X K 8 [aR (9, 0, 0, 0), aI x, aI ((a + 1 : Nat) : Int), w] [] (M', R0 b9) 0 Q9) → ∀ (j b : Nat) (x : Int), b + j = E → isB x ((∀ u v : Int, 0 ≤ u → u < (a : Int) → 0 ≤ v → v < E → A' (6 * u + v) ≠ 0) ∧ ∀ v : Int, 0 ≤ v → v < b → A' (6 * (a : Int) + v) ≠ 0) → AW X K 20 [aR (9, 0, 0, 0), aI x, aI a, aI b] [] (M', R0 b9) 0 Q9 := by
      intro a ha cont j
      induction j with
      | zero =>
        intro b x hb hx
        have hxb := isB_bd hx
        refine aw_iload3 (pc := 20) F dX9_isTightNow_20 ?_
        refine aw_aload0 (pc := 21) F dX9_isTightNow_21 ?_
        refine aw_getR (pc := 22) F dX9_isTightNow_22 fl_9_7 rfl (by first | decide | (simp only [inB, cnt, rcnt]; omega)) rfl nz0 rfl ?_
        refine aw_iconst (pc := 25) F dX9_isTightNow_25 ?_
        refine aw_iald (pc := 26) F dX9_isTightNow_26 rfl (by first | decide | (simp only [inB, cnt, rcnt]; omega)) (by omega) ?_
        refine aw_icmp_ge (tgt := 59) (pc := 27) F dX9_isTightNow_27 (by decide) (by unfold inR; omega) (by unfold inR; omega) (fun c27 => ?_) (fun c27 => ?_)
        · refine aw_iinc2 (pc := 59) F dX9_isTightNow_59 rfl hk.symm ?_
          refine aw_goto (tgt := 8) (pc := 62) F dX9_isTightNow_62 (by decide) ?_
          refine cont x _ rfl (isB_congr ⟨fun z u v h1 h2 h3 h4 => ?_, fun z => ⟨fun u v h1 h2 h3 h4 => z u v h1 (by omega) h3 h4, fun v h1 h2 => z a v (by omega) (by omega) h1 (by omega)⟩⟩ hx)
          by_cases e : u = a
          · rw [e]; exact z.2 v h3 (by omega)
          · exact z.1 u v h1 (by omega) h3 h4
        · omega
      | succ j ih =>
        intro b x hb hx
        have hxb := isB_bd hx
        have i1 := (hm (6 * (a : Int) + b) (by omega) (by omega)).1
        have i2 : inR (M' (9, 0, 17, 0) (6 * (a : Int) + b)) := by rw [sA]; unfold inR; omega
        have no : (x = 0 ∨ A' (6 * (a : Int) + b) = 0) → isB 0 ((∀ u v : Int, 0 ≤ u → u < (a : Int) → 0 ≤ v → v < E → A' (6 * u + v) ≠ 0) ∧ ∀ v : Int, 0 ≤ v → v < ((b + 1 : Nat) : Int) → A' (6 * (a : Int) + v) ≠ 0) := by
          intro z
          refine Or.inl ⟨rfl, fun q => ?_⟩
          rcases z with z | z
          · exact (hx.resolve_right (fun y => by omega)).2 ⟨q.1, fun v h1 h2 => q.2 v h1 (by omega)⟩
          · exact q.2 b (by omega) (by omega) z
        have yes : ¬ x = 0 → ¬ A' (6 * (a : Int) + b) = 0 → isB 1 ((∀ u v : Int, 0 ≤ u → u < (a : Int) → 0 ≤ v → v < E → A' (6 * u + v) ≠ 0) ∧ ∀ v : Int, 0 ≤ v → v < ((b + 1 : Nat) : Int) → A' (6 * (a : Int) + v) ≠ 0) := by
          intro z z2
          obtain ⟨-, q1, q2⟩ := hx.resolve_left (fun y => z y.1)
          refine Or.inr ⟨rfl, q1, fun v h1 h2 => ?_⟩
          by_cases e : v = b
          · rw [e]; exact z2
          · exact q2 v h1 (by omega)
        refine aw_iload3 (pc := 20) F dX9_isTightNow_20 ?_
        refine aw_aload0 (pc := 21) F dX9_isTightNow_21 ?_
        refine aw_getR (pc := 22) F dX9_isTightNow_22 fl_9_7 rfl (by first | decide | (simp only [inB, cnt, rcnt]; omega)) rfl nz0 rfl ?_
        refine aw_iconst (pc := 25) F dX9_isTightNow_25 ?_
        refine aw_iald (pc := 26) F dX9_isTightNow_26 rfl (by first | decide | (simp only [inB, cnt, rcnt]; omega)) (by omega) ?_
        refine aw_icmp_ge (tgt := 59) (pc := 27) F dX9_isTightNow_27 (by decide) (by first | exact i2 | (unfold inR; omega)) (by first | exact i2 | (unfold inR; omega)) (fun c27 => ?_) (fun c27 => ?_)
        · omega
        · refine aw_iload1 (pc := 30) F dX9_isTightNow_30 ?_
          refine aw_if_eq (tgt := 51) (pc := 31) F dX9_isTightNow_31 (by decide) (by first | exact i2 | (unfold inR; omega)) (fun c31 => ?_) (fun c31 => ?_)
          · refine aw_iconst (pc := 51) F dX9_isTightNow_51 ?_
            refine aw_istore1 (pc := 52) F dX9_isTightNow_52 rfl hk.symm ?_
            refine aw_iinc3 (pc := 53) F dX9_isTightNow_53 rfl hk.symm ?_
            refine aw_goto (tgt := 20) (pc := 56) F dX9_isTightNow_56 (by decide) ?_
            first | exact ih (b + 1) 0 (by omega) (no (Or.inl c31)) | exact ih (b + 1) 0 (by omega) (no (Or.inr (by rw [← sA]; exact c44))) | exact ih (b + 1) 1 (by omega) (yes c31 (by rw [← sA]; exact c44))
          · refine aw_aload0 (pc := 34) F dX9_isTightNow_34 ?_
            refine aw_getR (pc := 35) F dX9_isTightNow_35 fl_9_26 rfl (by first | decide | (simp only [inB, cnt, rcnt]; omega)) rfl nz16 rfl ?_
            refine aw_iload2 (pc := 38) F dX9_isTightNow_38 ?_
            refine aw_iload3 (pc := 39) F dX9_isTightNow_39 ?_
            refine aw_pcallS2 (pc := 40) F dX9_isTightNow_40 ml_9_230 (ct9_pair _ _ _ _) (Nat.le_of_ble_eq_true rfl) (by decide) (Nat.zero_le _) ?_
            refine aw_iald (pc := 43) F dX9_isTightNow_43 rfl (by first | decide | (simp only [inB, cnt, rcnt]; omega)) (by omega) ?_
            refine aw_if_eq (tgt := 51) (pc := 44) F dX9_isTightNow_44 (by decide) (by first | exact i2 | (unfold inR; omega)) (fun c44 => ?_) (fun c44 => ?_)
            · refine aw_iconst (pc := 51) F dX9_isTightNow_51 ?_
              refine aw_istore1 (pc := 52) F dX9_isTightNow_52 rfl hk.symm ?_
              refine aw_iinc3 (pc := 53) F dX9_isTightNow_53 rfl hk.symm ?_
              refine aw_goto (tgt := 20) (pc := 56) F dX9_isTightNow_56 (by decide) ?_
              first | exact ih (b + 1) 0 (by omega) (no (Or.inl c31)) | exact ih (b + 1) 0 (by omega) (no (Or.inr (by rw [← sA]; exact c44))) | exact ih (b + 1) 1 (by omega) (yes c31 (by rw [← sA]; exact c44))
            · refine aw_iconst (pc := 47) F dX9_isTightNow_47 ?_
              refine aw_goto (tgt := 52) (pc := 48) F dX9_isTightNow_48 (by decide) ?_
              refine aw_istore1 (pc := 52) F dX9_isTightNow_52 rfl hk.symm ?_
              refine aw_iinc3 (pc := 53) F dX9_isTightNow_53 rfl hk.symm ?_
              refine aw_goto (tgt := 20) (pc := 56) F dX9_isTightNow_56 (by decide) ?_
              first | exact ih (b + 1) 0 (by omega) (no (Or.inl c31)) | exact ih (b + 1) 0 (by omega) (no (Or.inr (by rw [← sA]; exact c44))) | exact ih (b + 1) 1 (by omega) (yes c31 (by rw [← sA]; exact c44))
    have keyA : ∀ (j a : Nat) (x : Int) (w : AV), a + j = E → wide w = false → isB x (∀ u v : Int, 0 ≤ u → u < (a : Int) → 0 ≤ v → v < E → A' (6 * u + v) ≠ 0) → AW X K 8 [aR (9, 0, 0, 0), aI x, aI a, w] [] (M', R0 b9) 0 Q9 := by
      intro j
      induction j with
      | zero =>
        intro a x w ha hw hx
        have hxb := isB_bd hx
        refine aw_iload2 (pc := 8) F dX9_isTightNow_8 ?_
        refine aw_aload0 (pc := 9) F dX9_isTightNow_9 ?_
        refine aw_getR (pc := 10) F dX9_isTightNow_10 fl_9_7 rfl (by first | decide | (simp only [inB, cnt, rcnt]; omega)) rfl nz0 rfl ?_
        refine aw_iconst (pc := 13) F dX9_isTightNow_13 ?_
        refine aw_iald (pc := 14) F dX9_isTightNow_14 rfl (by first | decide | (simp only [inB, cnt, rcnt]; omega)) (by omega) ?_
        refine aw_icmp_ge (tgt := 65) (pc := 15) F dX9_isTightNow_15 (by decide) (by unfold inR; omega) (by unfold inR; omega) (fun c15 => ?_) (fun c15 => ?_)
        · rw [← hQ]
          refine aw_iload1 (pc := 65) F dX9_isTightNow_65 ?_
          exact aw_iret (pc := 66) F dX9_isTightNow_66 (nar_bool (by omega)) (Nat.zero_le _) ⟨isB_congr ⟨fun z q => by rw [← emp_agr hg] at q; obtain ⟨u, v, h1, h2, h3⟩ := q; exact z u v h1.1 (by omega) h2.1 (by omega) h3, fun z u v h1 h2 h3 h4 h5 => z ((emp_agr hg).mp ⟨u, v, ⟨h1, by omega⟩, ⟨h3, by omega⟩, h5⟩)⟩ hx, A', by rw [hM]⟩
        · omega
      | succ j ih =>
        intro a x w ha hw hx
        have hxb := isB_bd hx
        refine aw_iload2 (pc := 8) F dX9_isTightNow_8 ?_
        refine aw_aload0 (pc := 9) F dX9_isTightNow_9 ?_
        refine aw_getR (pc := 10) F dX9_isTightNow_10 fl_9_7 rfl (by first | decide | (simp only [inB, cnt, rcnt]; omega)) rfl nz0 rfl ?_
        refine aw_iconst (pc := 13) F dX9_isTightNow_13 ?_
        refine aw_iald (pc := 14) F dX9_isTightNow_14 rfl (by first | decide | (simp only [inB, cnt, rcnt]; omega)) (by omega) ?_
        refine aw_icmp_ge (tgt := 65) (pc := 15) F dX9_isTightNow_15 (by decide) (by unfold inR; omega) (by unfold inR; omega) (fun c15 => ?_) (fun c15 => ?_)
        · omega
        · refine aw_iconst (pc := 18) F dX9_isTightNow_18 ?_
          refine aw_istore3 (pc := 19) F dX9_isTightNow_19 (by simp only [List.all_cons, List.all_nil, hw]; rfl) hk.symm ?_
          exact keyB a (by omega) (fun x w hw hx2 => ih (a + 1) x w (by omega) hw hx2) E 0 x (by omega) (isB_congr ⟨fun z => ⟨z, fun v h1 h2 => absurd h2 (by omega)⟩, fun z => z.1⟩ hx)
    refine aw_iconst (pc := 4) F dX9_isTightNow_4 ?_
    refine aw_istore1 (pc := 5) F dX9_isTightNow_5 rfl hk.symm ?_
    refine aw_iconst (pc := 6) F dX9_isTightNow_6 ?_
    refine aw_istore2 (pc := 7) F dX9_isTightNow_7 rfl hk.symm ?_
    exact keyA E 0 1 aX (by omega) rfl (Or.inr ⟨rfl, fun u v h1 h2 => absurd h2 (by omega)⟩)
  refine aw_aload0 (pc := 0) F dX9_isTightNow_0 ?_
  refine aw_callVV0 (pc := 1) F dX9_isTightNow_1 ml_9_261 rfl (by first | decide | (simp only [inB, cnt, rcnt]; omega)) (ct9_tightensS _ _ S hS h) (Nat.le_of_ble_eq_true rfl) (by decide) (Nat.zero_le _) (fun σ9 h9_1 => ?_)
  obtain ⟨A2, hg2, hm2, h9⟩ := h9_1
  subst h9
  exact key0 A2 hg2 hm2
theorem cq9_isTight (M : Id4 → Int → Int) (b : Bool) (h : Ok (M (9, 0, 1, 0))) : CtI 8 0 yX9_isTight cX9_isTight 1 (some .boolean) [aR (9, 0, 0, 0)] (M, R0 b) (fun v σ' => isB v (¬ emp (M (9, 0, 1, 0) 1) (tgS (M (9, 0, 1, 0)))) ∧ QP M b 0 v v σ') := by
  refine CtI.mk (by decide +kernel) rfl (Nat.le_of_ble_eq_true rfl) (fun X K F hk => ?_)
  refine aw_aload0 (pc := 0) F dX9_isTight_0 ?_
  refine aw_iconst (pc := 1) F dX9_isTight_1 ?_
  refine aw_putI (pc := 2) F dX9_isTight_2 fl_9_54 fpi_9_4 rfl (by first | decide | (simp only [inB, cnt, rcnt]; omega)) rfl nz4 ?_
  refine aw_aload0 (pc := 5) F dX9_isTight_5 ?_
  refine aw_callVI0 (pc := 6) F dX9_isTight_6 ml_9_270 rfl (by first | decide | (simp only [inB, cnt, rcnt]; omega)) (ct9_isTightNow _ _ (M (9, 0, 1, 0)) thr_u h) (Nat.le_of_ble_eq_true rfl) (by decide) (Nat.zero_le _) (fun v9 σ9 h9_6 => ?_)
  obtain ⟨hv, A2, h9⟩ := h9_6
  subst h9
  have hvb := isB_bd hv
  exact aw_iret (pc := 9) F dX9_isTight_9 (nar_bool (by omega)) (Nat.zero_le _) ⟨hv, qpT (fun _ => rfl)⟩
theorem cq9_isAllowed (M : Id4 → Int → Int) (b : Bool) (x y t : Int) (h1 : inR x) (h2 : inR y) (h3 : inR t) (h : Ok (M (9, 0, 1, 0))) : CtI 7 0 yX9_isAllowed cX9_isAllowed 4 (some .boolean) [aR (9, 0, 0, 0), aI x, aI y, aI t] (M, R0 b) (QP M b (t2 ((0 ≤ x ∧ x ≤ M (9, 0, 1, 0) 1 - 1) ∧ (0 ≤ y ∧ y ≤ M (9, 0, 1, 0) 1 - 1)) (0 ≤ t ∧ t ≤ M (9, 0, 1, 0) 0 - 1)) (b2i (bit (tgS (M (9, 0, 1, 0)) (6 * x + y)) t.toNat = true))) := by
  refine CtI.mk (by decide +kernel) rfl (Nat.le_of_ble_eq_true rfl) (fun X K F hk => ?_)
  have hE := h.2.1
  have hT := h.1
  have hm := tgS_ok h
  refine aw_aload0 (pc := 0) F dX9_isAllowed_0 ?_
  refine aw_aload0 (pc := 1) F dX9_isAllowed_1 ?_
  refine aw_iload1 (pc := 2) F dX9_isAllowed_2 ?_
  refine aw_iload2 (pc := 3) F dX9_isAllowed_3 ?_
  refine aw_pcallV2 (pc := 4) F dX9_isAllowed_4 ml_9_258 rfl (by first | decide | (simp only [inB, cnt, rcnt]; omega)) (ct9_areEvents _ _ _ _ h1 h2 h.2.1) (Nat.le_of_ble_eq_true rfl) (by decide) (Nat.zero_le _) ?_
  refine aw_aload0 (pc := 7) F dX9_isAllowed_7 ?_
  refine aw_iload3 (pc := 8) F dX9_isAllowed_8 ?_
  refine aw_pcallV1 (pc := 9) F dX9_isAllowed_9 ml_9_267 rfl (by first | decide | (simp only [inB, cnt, rcnt]; omega)) (ct9_isTime _ _ _ h3 h.1) (Nat.le_of_ble_eq_true rfl) (by decide) (Nat.zero_le _) ?_
  refine aw_callVI2 (pc := 12) F dX9_isAllowed_12 ml_9_197 rfl (by first | decide | (simp only [inB, cnt, rcnt]; omega)) (ct9_good2 _ _ _ _ (by first | exact b2i_01 | decide) (by first | exact b2i_01 | decide)) (Nat.le_of_ble_eq_true rfl) (by decide) (Nat.zero_le _) (fun v9 σ9 h9_12 => ?_)
  obtain ⟨rfl, rfl⟩ := h9_12
  refine aw_ifb_ne (tgt := 20) (pc := 15) F dX9_isAllowed_15 (by decide) (fun c15 => ?_) (fun c15 => ?_)
  · rw [b2i_1, b2i_1] at c15
    refine aw_aload0 (pc := 20) F dX9_isAllowed_20 ?_
    refine aw_callVV0 (pc := 21) F dX9_isAllowed_21 ml_9_261 rfl (by first | decide | (simp only [inB, cnt, rcnt]; omega)) (ct9_tightensS _ _ (M (9, 0, 1, 0)) thr_s h) (Nat.le_of_ble_eq_true rfl) (by decide) (Nat.zero_le _) (fun σ9 h9_21 => ?_)
    obtain ⟨A2, hg2, hm2, h9⟩ := h9_21
    subst h9
    obtain ⟨i, rfl⟩ : ∃ i : Nat, t = (i : Int) := ⟨t.toNat, by omega⟩
    have e9 := hg2 x y (by omega) (by omega) (by omega) (by omega)
    have z9 := (hm (6 * x + y) (by omega) (by omega)).1
    refine aw_aload0 (pc := 24) F dX9_isAllowed_24 ?_
    refine aw_getR (pc := 25) F dX9_isAllowed_25 fl_9_26 rfl (by first | decide | (simp only [inB, cnt, rcnt]; omega)) rfl nz16 rfl ?_
    refine aw_iload1 (pc := 28) F dX9_isAllowed_28 ?_
    refine aw_iload2 (pc := 29) F dX9_isAllowed_29 ?_
    refine aw_pcallS2 (pc := 30) F dX9_isAllowed_30 ml_9_230 (ct9_pair _ _ _ _) (Nat.le_of_ble_eq_true rfl) (by decide) (Nat.zero_le _) ?_
    refine aw_iald (pc := 33) F dX9_isAllowed_33 rfl (by first | decide | (simp only [inB, cnt, rcnt]; omega)) (by omega) ?_
    refine aw_iload3 (pc := 34) F dX9_isAllowed_34 ?_
    refine aw_pcallS2 (pc := 35) F dX9_isAllowed_35 ml_9_227 (ct9_has _ _ _ i (by rw [setA_same, e9]; omega) (by omega)) (Nat.le_of_ble_eq_true rfl) (by decide) (Nat.zero_le _) ?_
    exact aw_iret (pc := 38) F dX9_isAllowed_38 (nar_bool (by first | exact b2i_01 | decide)) (Nat.zero_le _) (qpT (fun _ => by rw [setA_same, e9]; rfl))
  · refine aw_iconst (pc := 18) F dX9_isAllowed_18 ?_
    exact aw_iret (pc := 19) F dX9_isAllowed_19 (nar_bool (by first | exact b2i_01 | decide)) (Nat.zero_le _) (qp2 (fun z1 z2 => absurd ⟨b2i_pos z1, b2i_pos z2⟩ c15))
