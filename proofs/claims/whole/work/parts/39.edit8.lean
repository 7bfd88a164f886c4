/-! 39: the class's edits -/
theorem cx8_requireDurations (M : Id4 → Int → Int) (b : Bool) (S : Int → Int) (lo hi : Int) (h1 : inR lo) (h2 : inR hi) (hR : plR M 0 S) (h : Ok S) : CxV 13 2 yX8_requireDurations cX8_requireDurations 3 none [aR (8, 0, 0, 0), aI lo, aI hi] (M, R0 b) (fun σ' => σ' = (M, R0 b) ∧ (0 ≤ lo ∧ lo ≤ 48) ∧ lo ≤ hi ∧ hi ≤ lo + S 0 - 1) (fun E σ' => E = eIA ∧ σ' = (M, R0 b) ∧ ¬ ((0 ≤ lo ∧ lo ≤ 48) ∧ lo ≤ hi ∧ hi ≤ lo + S 0 - 1)) := by
  refine CxV.mk (by decide +kernel) rfl (Nat.le_of_ble_eq_true rfl) (fun X K F hk => ?_)
  have hT := h.1
  have hp0 := hR.1.1
  refine aw_iload1 (pc := 0) F dX8_requireDurations_0 ?_
  refine aw_iconst (pc := 1) F dX8_requireDurations_1 ?_
  refine aw_bipush (pc := 2) F dX8_requireDurations_2 (by decide) ?_
  refine aw_xcallSVV3 (pc := 4) F dX8_requireDurations_4 ml_8_80 (cx8_requireRange _ _ _ _ _ h1 (by unfold inR; omega) (by unfold inR; omega)) (Nat.le_of_ble_eq_true rfl) (by decide) (by decide) (fun _ _ h => ⟨h.1, h.2.1, fun z => h.2.2 z.1⟩) (fun σ9 h9_4 => ?_)
  obtain ⟨rfl, q1, q2⟩ := h9_4
  refine aw_iload2 (pc := 7) F dX8_requireDurations_7 ?_
  refine aw_iload1 (pc := 8) F dX8_requireDurations_8 ?_
  refine aw_iload1 (pc := 9) F dX8_requireDurations_9 ?_
  refine aw_aload0 (pc := 10) F dX8_requireDurations_10 ?_
  refine aw_getR (pc := 11) F dX8_requireDurations_11 fl_8_34 rfl (by first | decide | (simp only [inB, cnt, rcnt]; omega)) rfl nz4 rfl ?_
  refine aw_getI (pc := 14) F dX8_requireDurations_14 fl_8_109 rfl (by first | decide | (simp only [inB, cnt, rcnt]; omega)) rfl nz0 ?_
  refine aw_iadd (pc := 17) F dX8_requireDurations_17 ?_
  refine aw_iconst (pc := 18) F dX8_requireDurations_18 ?_
  refine aw_isub (pc := 19) F dX8_requireDurations_19 ?_
  refine aw_xcallSVV3 (pc := 20) F dX8_requireDurations_20 ml_8_80 (cx8_requireRange _ _ _ _ _ h2 h1 (by unfold inR; omega)) (Nat.le_of_ble_eq_true rfl) (by decide) (by decide) (fun _ _ h => ⟨h.1, h.2.1, fun z => h.2.2 ⟨z.2.1, by rw [hp0]; exact z.2.2⟩⟩) (fun σ9 h9_20 => ?_)
  obtain ⟨rfl, q3, q4⟩ := h9_20
  exact aw_xvret (pc := 23) F dX8_requireDurations_23 (by decide) ⟨rfl, ⟨q1, q2⟩, q3, by rw [hp0] at q4; exact q4⟩
theorem cx8_move (M : Id4 → Int → Int) (b : Bool) (S : Int → Int) (nx n : Int) (Hs : Int → Int → Int) (e t : Int) (h1 : inR e) (h2 : inR t) (hR : plR M 0 S) (h : Ok S) (hH : hR8 M nx n Hs) : CxI 13 2 yX8_move cX8_move 3 (some .int) [aR (8, 0, 0, 0), aI e, aI t] (M, R0 b) (fun v σ' => v = brk (upS S (14 + e) t) ∧ ((0 ≤ e ∧ e < S 1) ∧ 0 ≤ t ∧ t ≤ S 0 - 1) ∧ E8 M b (upS S (14 + e) t) (min (n + 1) 10) (pushH n Hs S) σ') (fun E σ' => σ' = (M, R0 b) ∧ ((E = eIO ∧ ¬ (0 ≤ e ∧ e < S 1)) ∨ (E = eIA ∧ (0 ≤ e ∧ e < S 1) ∧ ¬ (0 ≤ t ∧ t ≤ S 0 - 1)))) := by
  refine CxI.mk (by decide +kernel) rfl (Nat.le_of_ble_eq_true rfl) (fun X K F hk => ?_)
  have hT := h.1
  have hE := h.2.1
  have hp0 := hR.1.1
  refine aw_aload0 (pc := 0) F dX8_move_0 ?_
  refine aw_iload1 (pc := 1) F dX8_move_1 ?_
  refine aw_xcallVVI1 (pc := 2) F dX8_move_2 ml_8_119 rfl (by first | decide | (simp only [inB, cnt, rcnt]; omega)) (cx8_requireEvent _ _ S _ h1 hR h) (Nat.le_of_ble_eq_true rfl) (by decide) (by decide) (fun _ _ h => ⟨h.2.1, Or.inl ⟨h.1, h.2.2⟩⟩) (fun σ9 h9_2 => ?_)
  obtain ⟨rfl, q1, q2⟩ := h9_2
  refine aw_iload2 (pc := 5) F dX8_move_5 ?_
  refine aw_iconst (pc := 6) F dX8_move_6 ?_
  refine aw_aload0 (pc := 7) F dX8_move_7 ?_
  refine aw_getR (pc := 8) F dX8_move_8 fl_8_34 rfl (by first | decide | (simp only [inB, cnt, rcnt]; omega)) rfl nz4 rfl ?_
  refine aw_getI (pc := 11) F dX8_move_11 fl_8_109 rfl (by first | decide | (simp only [inB, cnt, rcnt]; omega)) rfl nz0 ?_
  refine aw_iconst (pc := 14) F dX8_move_14 ?_
  refine aw_isub (pc := 15) F dX8_move_15 ?_
  refine aw_xcallSVI3 (pc := 16) F dX8_move_16 ml_8_80 (cx8_requireRange _ _ _ _ _ h2 (by unfold inR; omega) (by unfold inR; omega)) (Nat.le_of_ble_eq_true rfl) (by decide) (by decide) (fun _ _ h => ⟨h.2.1, Or.inr ⟨h.1, ⟨q1, q2⟩, fun z => h.2.2 (by omega)⟩⟩) (fun σ9 h9_16 => ?_)
  obtain ⟨rfl, q3, q4⟩ := h9_16
  refine aw_aload0 (pc := 19) F dX8_move_19 ?_
  refine aw_getR (pc := 20) F dX8_move_20 fl_8_44 rfl (by first | decide | (simp only [inB, cnt, rcnt]; omega)) rfl nz6 rfl ?_
  refine aw_aload0 (pc := 23) F dX8_move_23 ?_
  refine aw_getR (pc := 24) F dX8_move_24 fl_8_34 rfl (by first | decide | (simp only [inB, cnt, rcnt]; omega)) rfl nz4 rfl ?_
  refine aw_callVV1 (pc := 27) F dX8_move_27 ml_8_259 rfl (by first | decide | (simp only [inB, cnt, rcnt]; omega)) (ct2_remember _ _ S nx n Hs hR h hH) (Nat.le_of_ble_eq_true rfl) (by decide) (by decide) (fun σ9 h9_27 => ?_)
  obtain ⟨M1, nx1, h9, c1, c2⟩ := h9_27
  subst h9
  have r1 := pl_time (e := e) (t := t) (by omega) (c1.pl hR)
  refine aw_aload0 (pc := 30) F dX8_move_30 ?_
  refine aw_getR (pc := 31) F dX8_move_31 fl_8_34 rfl (by first | decide | (simp only [inB, cnt, rcnt]; omega)) rfl nz4 rfl ?_
  refine aw_getR (pc := 34) F dX8_move_34 fl_8_122 rfl (by first | decide | (simp only [inB, cnt, rcnt]; omega)) rfl nz3 rfl ?_
  refine aw_iload1 (pc := 37) F dX8_move_37 ?_
  refine aw_iload2 (pc := 38) F dX8_move_38 ?_
  refine aw_iast (pc := 39) F dX8_move_39 rfl (by first | decide | (simp only [inB, cnt, rcnt]; omega)) (by omega) ?_
  refine aw_aload0 (pc := 40) F dX8_move_40 ?_
  refine aw_getR (pc := 41) F dX8_move_41 fl_8_34 rfl (by first | decide | (simp only [inB, cnt, rcnt]; omega)) rfl nz4 rfl ?_
  refine aw_pcallV0 (pc := 44) F dX8_move_44 ml_8_159 rfl (by first | decide | (simp only [inB, cnt, rcnt]; omega)) (ct5_countBroken _ _ (upS S (14 + e) t) _ (by decide) r1 (ok_time h ⟨q1, q2⟩ (by omega))) (Nat.le_of_ble_eq_true rfl) (by decide) (by decide) ?_
  exact aw_xiret (pc := 47) F dX8_move_47 rfl (by decide) ⟨rfl, ⟨⟨q1, q2⟩, q3, by omega⟩, _, nx1, rfl, (c1.e).up, r1, c2.up (by decide)⟩
theorem ct8_shift (M : Id4 → Int → Int) (b : Bool) (S : Int → Int) (nx n : Int) (Hs : Int → Int → Int) (y : Int) (h1 : inR y) (hR : plR M 0 S) (h : Ok S) (hH : hR8 M nx n Hs) : CtI 5 0 yX8_shift cX8_shift 4 (some .int) [aR (8, 0, 0, 0), aI y] (M, R0 b) (fun v σ' => v = (if S 1 = 0 then -1 else mtS S (fun x => (x + y % S 0) % S 0) (S 1) 14) ∧ E8 M b (mtS S (fun x => (x + y % S 0) % S 0) (S 1)) (min (n + 1) 10) (pushH n Hs S) σ') := by
  refine CtI.mk (by decide +kernel) rfl (Nat.le_of_ble_eq_true rfl) (fun X K F hk => ?_)
  have hT := h.1
  have hE := h.2.1
  obtain ⟨f, hf⟩ : ∃ f : Int → Int, f = fun x => (x + y % S 0) % S 0 := ⟨_, rfl⟩
  obtain ⟨E, eE⟩ : ∃ E : Nat, S 1 = (E : Int) := ⟨(S 1).toNat, by omega⟩
  have em : 0 ≤ y % S 0 ∧ y % S 0 < S 0 := ⟨Int.emod_nonneg _ (by omega), Int.emod_lt_of_pos _ (by omega)⟩
  rw [← hf]
  obtain ⟨Q9, hQ⟩ : ∃ Q9, Q9 = EI X K 0 (fun v σ' => v = (if S 1 = 0 then -1 else mtS S f (S 1) 14) ∧ E8 M b (mtS S f (S 1)) (min (n + 1) 10) (pushH n Hs S) σ') := ⟨_, rfl⟩
  have key : ∀ (nx1 : Int) (j i : Nat) (M' : Id4 → Int → Int), i + j = E → sameE M M' → plR M' 0 (mtS S f i) → hR8 M' nx1 (min (n + 1) 10) (pushH n Hs S) → AW X K 25 [aR (8, 0, 0, 0), aI y, aI (y % S 0), aI i] [] (M', R0 b) 0 Q9 := by
    intro nx1 j
    induction j with
    | zero =>
      intro i M' hi a1 a2 a3
      have p1 : M' (5, 0, 0, 0) 1 = S 1 := by rw [a2.1.2.1]; exact mtS_off (by omega)
      have ei : (i : Int) = S 1 := by omega
      rw [ei] at a2
      refine aw_iload3 (pc := 25) F dX8_shift_25 ?_
      refine aw_aload0 (pc := 26) F dX8_shift_26 ?_
      refine aw_getR (pc := 27) F dX8_shift_27 fl_8_34 rfl (by first | decide | (simp only [inB, cnt, rcnt]; omega)) rfl nz4 rfl ?_
      refine aw_getI (pc := 30) F dX8_shift_30 fl_8_112 rfl (by first | decide | (simp only [inB, cnt, rcnt]; omega)) rfl nz1 ?_
      refine aw_icmp_ge (tgt := 72) (pc := 33) F dX8_shift_33 (by decide) (by unfold inR; omega) (by unfold inR; omega) (fun c33 => ?_) (fun c33 => ?_)
      · refine aw_aload0 (pc := 72) F dX8_shift_72 ?_
        refine aw_getR (pc := 73) F dX8_shift_73 fl_8_34 rfl (by first | decide | (simp only [inB, cnt, rcnt]; omega)) rfl nz4 rfl ?_
        refine aw_getI (pc := 76) F dX8_shift_76 fl_8_112 rfl (by first | decide | (simp only [inB, cnt, rcnt]; omega)) rfl nz1 ?_
        refine aw_if_le (tgt := 94) (pc := 79) F dX8_shift_79 (by decide) (by unfold inR; omega) (fun c79 => ?_) (fun c79 => ?_)
        · refine aw_iconst (pc := 94) F dX8_shift_94 ?_
          rw [hQ]
          exact aw_iret (pc := 95) F dX8_shift_95 rfl (Nat.zero_le _) ⟨by first | (rw [if_neg (by omega)]; exact a2.2.1 0 (by decide) (by rw [show mtS S f (S 1) 1 = S 1 from mtS_off (by omega)]; omega)) | rw [if_pos (by omega)], M', nx1, rfl, a1, a2, a3⟩
        · refine aw_aload0 (pc := 82) F dX8_shift_82 ?_
          refine aw_getR (pc := 83) F dX8_shift_83 fl_8_34 rfl (by first | decide | (simp only [inB, cnt, rcnt]; omega)) rfl nz4 rfl ?_
          refine aw_getR (pc := 86) F dX8_shift_86 fl_8_122 rfl (by first | decide | (simp only [inB, cnt, rcnt]; omega)) rfl nz3 rfl ?_
          refine aw_iconst (pc := 89) F dX8_shift_89 ?_
          refine aw_iald (pc := 90) F dX8_shift_90 rfl (by first | decide | (simp only [inB, cnt, rcnt]; omega)) (by omega) ?_
          refine aw_goto (tgt := 95) (pc := 91) F dX8_shift_91 (by decide) ?_
          rw [hQ]
          exact aw_iret (pc := 95) F dX8_shift_95 rfl (Nat.zero_le _) ⟨by first | (rw [if_neg (by omega)]; exact a2.2.1 0 (by decide) (by rw [show mtS S f (S 1) 1 = S 1 from mtS_off (by omega)]; omega)) | rw [if_pos (by omega)], M', nx1, rfl, a1, a2, a3⟩
      · omega
    | succ j ih =>
      intro i M' hi a1 a2 a3
      have p1 : M' (5, 0, 0, 0) 1 = S 1 := by rw [a2.1.2.1]; exact mtS_off (by omega)
      have p0 : M' (5, 0, 0, 0) 0 = S 0 := by rw [a2.1.1]; exact mtS_off (by omega)
      have pt : M' (5, 0, 4, 0) i = S (14 + (i : Int)) := by rw [a2.2.1 i (by omega) (by rw [show mtS S f i 1 = S 1 from mtS_off (by omega)]; omega)]; exact mtS_off (by omega)
      have tb := h.2.2.2.1 i (by omega) (by omega)
      refine aw_iload3 (pc := 25) F dX8_shift_25 ?_
      refine aw_aload0 (pc := 26) F dX8_shift_26 ?_
      refine aw_getR (pc := 27) F dX8_shift_27 fl_8_34 rfl (by first | decide | (simp only [inB, cnt, rcnt]; omega)) rfl nz4 rfl ?_
      refine aw_getI (pc := 30) F dX8_shift_30 fl_8_112 rfl (by first | decide | (simp only [inB, cnt, rcnt]; omega)) rfl nz1 ?_
      refine aw_icmp_ge (tgt := 72) (pc := 33) F dX8_shift_33 (by decide) (by unfold inR; omega) (by unfold inR; omega) (fun c33 => ?_) (fun c33 => ?_)
      · omega
      · refine aw_aload0 (pc := 36) F dX8_shift_36 ?_
        refine aw_getR (pc := 37) F dX8_shift_37 fl_8_34 rfl (by first | decide | (simp only [inB, cnt, rcnt]; omega)) rfl nz4 rfl ?_
        refine aw_getR (pc := 40) F dX8_shift_40 fl_8_122 rfl (by first | decide | (simp only [inB, cnt, rcnt]; omega)) rfl nz3 rfl ?_
        refine aw_iload3 (pc := 43) F dX8_shift_43 ?_
        refine aw_aload0 (pc := 44) F dX8_shift_44 ?_
        refine aw_getR (pc := 45) F dX8_shift_45 fl_8_34 rfl (by first | decide | (simp only [inB, cnt, rcnt]; omega)) rfl nz4 rfl ?_
        refine aw_getR (pc := 48) F dX8_shift_48 fl_8_122 rfl (by first | decide | (simp only [inB, cnt, rcnt]; omega)) rfl nz3 rfl ?_
        refine aw_iload3 (pc := 51) F dX8_shift_51 ?_
        refine aw_iald (pc := 52) F dX8_shift_52 rfl (by first | decide | (simp only [inB, cnt, rcnt]; omega)) (by omega) ?_
        refine aw_iload2 (pc := 53) F dX8_shift_53 ?_
        refine aw_iadd (pc := 54) F dX8_shift_54 ?_
        refine aw_aload0 (pc := 55) F dX8_shift_55 ?_
        refine aw_getR (pc := 56) F dX8_shift_56 fl_8_34 rfl (by first | decide | (simp only [inB, cnt, rcnt]; omega)) rfl nz4 rfl ?_
        refine aw_getI (pc := 59) F dX8_shift_59 fl_8_109 rfl (by first | decide | (simp only [inB, cnt, rcnt]; omega)) rfl nz0 ?_
        refine aw_pcallS2 (pc := 62) F dX8_shift_62 ml_8_203 (ct8_modulo _ _ _ _ (by rw [pt]; unfold inR; omega) (by omega)) (Nat.le_of_ble_eq_true rfl) (by decide) (Nat.zero_le _) ?_
        refine aw_iast (pc := 65) F dX8_shift_65 rfl (by first | decide | (simp only [inB, cnt, rcnt]; omega)) (by omega) ?_
        refine aw_iinc3 (pc := 66) F dX8_shift_66 rfl hk.symm ?_
        refine aw_goto (tgt := 25) (pc := 69) F dX8_shift_69 (by decide) ?_
        exact ih (i + 1) _ (by omega) (a1.up) (by rw [pt, p0, show ((i + 1 : Nat) : Int) = (i : Int) + 1 by rfl, ← mtS_step (S := S) (f := f) (i := (i : Int)) (by omega) rfl, hf]; exact pl_time (by omega) (hf ▸ a2)) (a3.up (by decide))
  refine aw_aload0 (pc := 0) F dX8_shift_0 ?_
  refine aw_getR (pc := 1) F dX8_shift_1 fl_8_44 rfl (by first | decide | (simp only [inB, cnt, rcnt]; omega)) rfl nz6 rfl ?_
  refine aw_aload0 (pc := 4) F dX8_shift_4 ?_
  refine aw_getR (pc := 5) F dX8_shift_5 fl_8_34 rfl (by first | decide | (simp only [inB, cnt, rcnt]; omega)) rfl nz4 rfl ?_
  refine aw_callVV1 (pc := 8) F dX8_shift_8 ml_8_259 rfl (by first | decide | (simp only [inB, cnt, rcnt]; omega)) (ct2_remember _ _ S nx n Hs hR h hH) (Nat.le_of_ble_eq_true rfl) (by decide) (Nat.zero_le _) (fun σ9 h9_8 => ?_)
  obtain ⟨M1, nx1, h9, c1, c2⟩ := h9_8
  subst h9
  have p0 : M1 (5, 0, 0, 0) 0 = S 0 := (c1.pl hR).1.1
  refine aw_iload1 (pc := 11) F dX8_shift_11 ?_
  refine aw_aload0 (pc := 12) F dX8_shift_12 ?_
  refine aw_getR (pc := 13) F dX8_shift_13 fl_8_34 rfl (by first | decide | (simp only [inB, cnt, rcnt]; omega)) rfl nz4 rfl ?_
  refine aw_getI (pc := 16) F dX8_shift_16 fl_8_109 rfl (by first | decide | (simp only [inB, cnt, rcnt]; omega)) rfl nz0 ?_
  refine aw_pcallS2 (pc := 19) F dX8_shift_19 ml_8_203 (ct8_modulo _ _ _ _ h1 (by omega)) (Nat.le_of_ble_eq_true rfl) (by decide) (Nat.zero_le _) ?_
  refine aw_istore2 (pc := 22) F dX8_shift_22 rfl hk.symm ?_
  refine aw_iconst (pc := 23) F dX8_shift_23 ?_
  refine aw_istore3 (pc := 24) F dX8_shift_24 rfl hk.symm ?_
  rw [p0, ← hQ]
  exact key nx1 E 0 M1 (by omega) c1.e (by rw [show ((0 : Nat) : Int) = 0 by rfl, mtS_0]; exact c1.pl hR) c2
theorem cx8_setSpan (M : Id4 → Int → Int) (b : Bool) (S : Int → Int) (nx n : Int) (Hs : Int → Int → Int) (k lo hi : Int) (h1 : inR k) (h2 : inR lo) (h3 : inR hi) (hR : plR M 0 S) (h : Ok S) (hH : hR8 M nx n Hs) : CxI 14 3 yX8_setSpan cX8_setSpan 4 (some .int) [aR (8, 0, 0, 0), aI k, aI lo, aI hi] (M, R0 b) (fun v σ' => v = lo + slOf (upS (upS S (21 + 5 * k + 2) lo) (21 + 5 * k + 3) hi) k ∧ ((0 ≤ k ∧ k < S 20) ∧ (0 ≤ lo ∧ lo ≤ 48) ∧ lo ≤ hi ∧ hi ≤ lo + S 0 - 1) ∧ E8 M b (upS (upS S (21 + 5 * k + 2) lo) (21 + 5 * k + 3) hi) (min (n + 1) 10) (pushH n Hs S) σ') (fun E σ' => σ' = (M, R0 b) ∧ ((E = eIO ∧ ¬ (0 ≤ k ∧ k < S 20)) ∨ (E = eIA ∧ (0 ≤ k ∧ k < S 20) ∧ ¬ ((0 ≤ lo ∧ lo ≤ 48) ∧ lo ≤ hi ∧ hi ≤ lo + S 0 - 1)))) := by
  refine CxI.mk (by decide +kernel) rfl (Nat.le_of_ble_eq_true rfl) (fun X K F hk => ?_)
  have hT := h.1
  have hN := h.2.2.1
  refine aw_aload0 (pc := 0) F dX8_setSpan_0 ?_
  refine aw_iload1 (pc := 1) F dX8_setSpan_1 ?_
  refine aw_xcallVVI1 (pc := 2) F dX8_setSpan_2 ml_8_126 rfl (by first | decide | (simp only [inB, cnt, rcnt]; omega)) (cx8_requireSpan _ _ S _ h1 hR h) (Nat.le_of_ble_eq_true rfl) (by decide) (by decide) (fun _ _ h => ⟨h.2.1, Or.inl ⟨h.1, h.2.2⟩⟩) (fun σ9 h9_2 => ?_)
  obtain ⟨rfl, q1, q2⟩ := h9_2
  refine aw_aload0 (pc := 5) F dX8_setSpan_5 ?_
  refine aw_iload2 (pc := 6) F dX8_setSpan_6 ?_
  refine aw_iload3 (pc := 7) F dX8_setSpan_7 ?_
  refine aw_xcallVVI2 (pc := 8) F dX8_setSpan_8 ml_8_262 rfl (by first | decide | (simp only [inB, cnt, rcnt]; omega)) (cx8_requireDurations _ _ S _ _ h2 h3 hR h) (Nat.le_of_ble_eq_true rfl) (by decide) (by decide) (fun _ _ h => ⟨h.2.1, Or.inr ⟨h.1, ⟨q1, q2⟩, h.2.2⟩⟩) (fun σ9 h9_8 => ?_)
  obtain ⟨rfl, q3, q4⟩ := h9_8
  refine aw_aload0 (pc := 11) F dX8_setSpan_11 ?_
  refine aw_getR (pc := 12) F dX8_setSpan_12 fl_8_44 rfl (by first | decide | (simp only [inB, cnt, rcnt]; omega)) rfl nz6 rfl ?_
  refine aw_aload0 (pc := 15) F dX8_setSpan_15 ?_
  refine aw_getR (pc := 16) F dX8_setSpan_16 fl_8_34 rfl (by first | decide | (simp only [inB, cnt, rcnt]; omega)) rfl nz4 rfl ?_
  refine aw_callVV1 (pc := 19) F dX8_setSpan_19 ml_8_259 rfl (by first | decide | (simp only [inB, cnt, rcnt]; omega)) (ct2_remember _ _ S nx n Hs hR h hH) (Nat.le_of_ble_eq_true rfl) (by decide) (by decide) (fun σ9 h9_19 => ?_)
  obtain ⟨M1, nx1, h9, c1, c2⟩ := h9_19
  subst h9
  have r1 := pl_span (k := k) (w := 2) (v := lo) 7 h.2.1.2 (by omega) (by decide) (c1.pl hR)
  have r2 := pl_span (k := k) (w := 3) (v := hi) 8 (by rw [upS_ne (by omega)]; exact h.2.1.2) (by omega) (by decide) r1
  refine aw_aload0 (pc := 22) F dX8_setSpan_22 ?_
  refine aw_getR (pc := 23) F dX8_setSpan_23 fl_8_34 rfl (by first | decide | (simp only [inB, cnt, rcnt]; omega)) rfl nz4 rfl ?_
  refine aw_getR (pc := 26) F dX8_setSpan_26 fl_8_135 rfl (by first | decide | (simp only [inB, cnt, rcnt]; omega)) rfl nz6 rfl ?_
  refine aw_iload1 (pc := 29) F dX8_setSpan_29 ?_
  refine aw_iload2 (pc := 30) F dX8_setSpan_30 ?_
  refine aw_iast (pc := 31) F dX8_setSpan_31 rfl (by first | decide | (simp only [inB, cnt, rcnt]; omega)) (by omega) ?_
  refine aw_aload0 (pc := 32) F dX8_setSpan_32 ?_
  refine aw_getR (pc := 33) F dX8_setSpan_33 fl_8_34 rfl (by first | decide | (simp only [inB, cnt, rcnt]; omega)) rfl nz4 rfl ?_
  refine aw_getR (pc := 36) F dX8_setSpan_36 fl_8_138 rfl (by first | decide | (simp only [inB, cnt, rcnt]; omega)) rfl nz7 rfl ?_
  refine aw_iload1 (pc := 39) F dX8_setSpan_39 ?_
  refine aw_iload3 (pc := 40) F dX8_setSpan_40 ?_
  refine aw_iast (pc := 41) F dX8_setSpan_41 rfl (by first | decide | (simp only [inB, cnt, rcnt]; omega)) (by omega) ?_
  refine aw_iload2 (pc := 42) F dX8_setSpan_42 ?_
  refine aw_aload0 (pc := 43) F dX8_setSpan_43 ?_
  refine aw_getR (pc := 44) F dX8_setSpan_44 fl_8_34 rfl (by first | decide | (simp only [inB, cnt, rcnt]; omega)) rfl nz4 rfl ?_
  refine aw_iload1 (pc := 47) F dX8_setSpan_47 ?_
  refine aw_pcallV1 (pc := 48) F dX8_setSpan_48 ml_8_151 rfl (by first | decide | (simp only [inB, cnt, rcnt]; omega)) (ct5_slackOf _ _ (upS (upS S (21 + 5 * k + 2) lo) (21 + 5 * k + 3) hi) _ _ (by decide) r2 (ok_set h ⟨q1, q2⟩ q3 q4) ⟨q1, by rw [upS_ne (by omega), upS_ne (by omega)]; exact q2⟩) (Nat.le_of_ble_eq_true rfl) (by decide) (by decide) ?_
  refine aw_iadd (pc := 51) F dX8_setSpan_51 ?_
  exact aw_xiret (pc := 52) F dX8_setSpan_52 rfl (by decide) ⟨rfl, ⟨⟨q1, q2⟩, q3, q4⟩, _, nx1, rfl, ((c1.e).up).up, r2, (c2.up (by decide)).up (by decide)⟩
theorem cx8_setWeight (M : Id4 → Int → Int) (b : Bool) (S : Int → Int) (nx n : Int) (Hs : Int → Int → Int) (k w : Int) (h1 : inR k) (h2 : inR w) (hR : plR M 0 S) (h : Ok S) (hH : hR8 M nx n Hs) : CxI 13 2 yX8_setWeight cX8_setWeight 4 (some .int) [aR (8, 0, 0, 0), aI k, aI w] (M, R0 b) (fun v σ' => v = S (21 + 5 * k + 4) ∧ ((0 ≤ k ∧ k < S 20) ∧ 0 ≤ w ∧ w ≤ 20) ∧ E8 M b (upS S (21 + 5 * k + 4) w) (min (n + 1) 10) (pushH n Hs S) σ') (fun E σ' => σ' = (M, R0 b) ∧ ((E = eIO ∧ ¬ (0 ≤ k ∧ k < S 20)) ∨ (E = eIA ∧ (0 ≤ k ∧ k < S 20) ∧ ¬ (0 ≤ w ∧ w ≤ 20)))) := by
  refine CxI.mk (by decide +kernel) rfl (Nat.le_of_ble_eq_true rfl) (fun X K F hk => ?_)
  have hN := h.2.2.1
  refine aw_aload0 (pc := 0) F dX8_setWeight_0 ?_
  refine aw_iload1 (pc := 1) F dX8_setWeight_1 ?_
  refine aw_xcallVVI1 (pc := 2) F dX8_setWeight_2 ml_8_126 rfl (by first | decide | (simp only [inB, cnt, rcnt]; omega)) (cx8_requireSpan _ _ S _ h1 hR h) (Nat.le_of_ble_eq_true rfl) (by decide) (by decide) (fun _ _ h => ⟨h.2.1, Or.inl ⟨h.1, h.2.2⟩⟩) (fun σ9 h9_2 => ?_)
  obtain ⟨rfl, q1, q2⟩ := h9_2
  refine aw_iload2 (pc := 5) F dX8_setWeight_5 ?_
  refine aw_iconst (pc := 6) F dX8_setWeight_6 ?_
  refine aw_bipush (pc := 7) F dX8_setWeight_7 (by decide) ?_
  refine aw_xcallSVI3 (pc := 9) F dX8_setWeight_9 ml_8_80 (cx8_requireRange _ _ _ _ _ h2 (by unfold inR; omega) (by unfold inR; omega)) (Nat.le_of_ble_eq_true rfl) (by decide) (by decide) (fun _ _ h => ⟨h.2.1, Or.inr ⟨h.1, ⟨q1, q2⟩, h.2.2⟩⟩) (fun σ9 h9_9 => ?_)
  obtain ⟨rfl, q3, q4⟩ := h9_9
  refine aw_aload0 (pc := 12) F dX8_setWeight_12 ?_
  refine aw_getR (pc := 13) F dX8_setWeight_13 fl_8_44 rfl (by first | decide | (simp only [inB, cnt, rcnt]; omega)) rfl nz6 rfl ?_
  refine aw_aload0 (pc := 16) F dX8_setWeight_16 ?_
  refine aw_getR (pc := 17) F dX8_setWeight_17 fl_8_34 rfl (by first | decide | (simp only [inB, cnt, rcnt]; omega)) rfl nz4 rfl ?_
  refine aw_callVV1 (pc := 20) F dX8_setWeight_20 ml_8_259 rfl (by first | decide | (simp only [inB, cnt, rcnt]; omega)) (ct2_remember _ _ S nx n Hs hR h hH) (Nat.le_of_ble_eq_true rfl) (by decide) (by decide) (fun σ9 h9_20 => ?_)
  obtain ⟨M1, nx1, h9, c1, c2⟩ := h9_20
  subst h9
  have r0 := c1.pl hR
  have r1 := pl_span (k := k) (w := 4) (v := w) 9 h.2.1.2 (by omega) (by decide) r0
  refine aw_aload0 (pc := 23) F dX8_setWeight_23 ?_
  refine aw_getR (pc := 24) F dX8_setWeight_24 fl_8_34 rfl (by first | decide | (simp only [inB, cnt, rcnt]; omega)) rfl nz4 rfl ?_
  refine aw_getR (pc := 27) F dX8_setWeight_27 fl_8_141 rfl (by first | decide | (simp only [inB, cnt, rcnt]; omega)) rfl nz8 rfl ?_
  refine aw_iload1 (pc := 30) F dX8_setWeight_30 ?_
  refine aw_iald (pc := 31) F dX8_setWeight_31 rfl (by first | decide | (simp only [inB, cnt, rcnt]; omega)) (by omega) ?_
  refine aw_istore3 (pc := 32) F dX8_setWeight_32 rfl hk.symm ?_
  refine aw_aload0 (pc := 33) F dX8_setWeight_33 ?_
  refine aw_getR (pc := 34) F dX8_setWeight_34 fl_8_34 rfl (by first | decide | (simp only [inB, cnt, rcnt]; omega)) rfl nz4 rfl ?_
  refine aw_getR (pc := 37) F dX8_setWeight_37 fl_8_141 rfl (by first | decide | (simp only [inB, cnt, rcnt]; omega)) rfl nz8 rfl ?_
  refine aw_iload1 (pc := 40) F dX8_setWeight_40 ?_
  refine aw_iload2 (pc := 41) F dX8_setWeight_41 ?_
  refine aw_iast (pc := 42) F dX8_setWeight_42 rfl (by first | decide | (simp only [inB, cnt, rcnt]; omega)) (by omega) ?_
  refine aw_iload3 (pc := 43) F dX8_setWeight_43 ?_
  exact aw_xiret (pc := 44) F dX8_setWeight_44 rfl (by decide) ⟨(r0.2.2 k q1 q2).2.2.2.2, ⟨⟨q1, q2⟩, q3, q4⟩, _, nx1, rfl, (c1.e).up, r1, c2.up (by decide)⟩
theorem cx8_addSpan (M : Id4 → Int → Int) (b : Bool) (S : Int → Int) (nx n : Int) (Hs : Int → Int → Int) (x y lo hi w : Int) (h1 : inR x) (h2 : inR y) (h3 : inR lo) (h4 : inR hi) (h5 : inR w) (hR : plR M 0 S) (h : Ok S) (hH : hR8 M nx n Hs) : CxI 14 6 yX8_addSpan cX8_addSpan 6 (some .int) [aR (8, 0, 0, 0), aI x, aI y, aI lo, aI hi, aI w] (M, R0 b) (fun v σ' => v = S 20 ∧ (((0 ≤ x ∧ x < S 1) ∧ 0 ≤ y ∧ y < S 1) ∧ (x ≠ y ∧ ((0 ≤ lo ∧ lo ≤ 48) ∧ lo ≤ hi ∧ hi ≤ lo + S 0 - 1) ∧ 0 ≤ w ∧ w ≤ 20) ∧ S 20 < 14) ∧ E8 M b (apS S x y lo hi w) (min (n + 1) 10) (pushH n Hs S) σ') (fun E σ' => σ' = (M, R0 b) ∧ ((E = eIO ∧ ¬ ((0 ≤ x ∧ x < S 1) ∧ 0 ≤ y ∧ y < S 1)) ∨ (E = eIA ∧ ((0 ≤ x ∧ x < S 1) ∧ 0 ≤ y ∧ y < S 1) ∧ ¬ (x ≠ y ∧ ((0 ≤ lo ∧ lo ≤ 48) ∧ lo ≤ hi ∧ hi ≤ lo + S 0 - 1) ∧ 0 ≤ w ∧ w ≤ 20)) ∨ (E = eIS ∧ ((0 ≤ x ∧ x < S 1) ∧ 0 ≤ y ∧ y < S 1) ∧ (x ≠ y ∧ ((0 ≤ lo ∧ lo ≤ 48) ∧ lo ≤ hi ∧ hi ≤ lo + S 0 - 1) ∧ 0 ≤ w ∧ w ≤ 20) ∧ ¬ S 20 < 14))) := by
  refine CxI.mk (by decide +kernel) rfl (Nat.le_of_ble_eq_true rfl) (fun X K F hk => ?_)
  have hN := h.2.2.1
  have hT := h.1
  have e2 := hR.1.2.2
  refine aw_aload0 (pc := 0) F dX8_addSpan_0 ?_
  refine aw_iload1 (pc := 1) F dX8_addSpan_1 ?_
  refine aw_xcallVVI1 (pc := 2) F dX8_addSpan_2 ml_8_119 rfl (by first | decide | (simp only [inB, cnt, rcnt]; omega)) (cx8_requireEvent _ _ S _ h1 hR h) (Nat.le_of_ble_eq_true rfl) (by decide) (by decide) (fun _ _ h => ⟨h.2.1, Or.inl ⟨h.1, fun z => h.2.2 z.1⟩⟩) (fun σ9 h9_2 => ?_)
  obtain ⟨rfl, q1, q2⟩ := h9_2
  refine aw_aload0 (pc := 5) F dX8_addSpan_5 ?_
  refine aw_iload2 (pc := 6) F dX8_addSpan_6 ?_
  refine aw_xcallVVI1 (pc := 7) F dX8_addSpan_7 ml_8_119 rfl (by first | decide | (simp only [inB, cnt, rcnt]; omega)) (cx8_requireEvent _ _ S _ h2 hR h) (Nat.le_of_ble_eq_true rfl) (by decide) (by decide) (fun _ _ h => ⟨h.2.1, Or.inl ⟨h.1, fun z => h.2.2 z.2⟩⟩) (fun σ9 h9_7 => ?_)
  obtain ⟨rfl, q3, q4⟩ := h9_7
  refine aw_aload0 (pc := 10) F dX8_addSpan_10 ?_
  refine aw_iload3 (pc := 11) F dX8_addSpan_11 ?_
  refine aw_iload4 (pc := 12) F dX8_addSpan_12 ?_
  refine aw_xcallVVI2 (pc := 14) F dX8_addSpan_14 ml_8_262 rfl (by first | decide | (simp only [inB, cnt, rcnt]; omega)) (cx8_requireDurations _ _ S _ _ h3 h4 hR h) (Nat.le_of_ble_eq_true rfl) (by decide) (by decide) (fun _ _ h => ⟨h.2.1, Or.inr (Or.inl ⟨h.1, ⟨⟨q1, q2⟩, q3, q4⟩, fun z => h.2.2 z.2.1⟩)⟩) (fun σ9 h9_14 => ?_)
  obtain ⟨rfl, q5, q6⟩ := h9_14
  refine aw_iload5 (pc := 17) F dX8_addSpan_17 ?_
  refine aw_iconst (pc := 19) F dX8_addSpan_19 ?_
  refine aw_bipush (pc := 20) F dX8_addSpan_20 (by decide) ?_
  refine aw_xcallSVI3 (pc := 22) F dX8_addSpan_22 ml_8_80 (cx8_requireRange _ _ _ _ _ h5 (by unfold inR; omega) (by unfold inR; omega)) (Nat.le_of_ble_eq_true rfl) (by decide) (by decide) (fun _ _ h => ⟨h.2.1, Or.inr (Or.inl ⟨h.1, ⟨⟨q1, q2⟩, q3, q4⟩, fun z => h.2.2 z.2.2⟩)⟩) (fun σ9 h9_22 => ?_)
  obtain ⟨rfl, q7, q8⟩ := h9_22
  refine aw_iload1 (pc := 25) F dX8_addSpan_25 ?_
  refine aw_iload2 (pc := 26) F dX8_addSpan_26 ?_
  refine aw_icmp_ne (tgt := 41) (pc := 27) F dX8_addSpan_27 (by decide) (by assumption) (by assumption) (fun c27 => ?_) (fun c27 => ?_)
  · refine aw_aload0 (pc := 41) F dX8_addSpan_41 ?_
    refine aw_getR (pc := 42) F dX8_addSpan_42 fl_8_34 rfl (by first | decide | (simp only [inB, cnt, rcnt]; omega)) rfl nz4 rfl ?_
    refine aw_getI (pc := 45) F dX8_addSpan_45 fl_8_100 rfl (by first | decide | (simp only [inB, cnt, rcnt]; omega)) rfl nz2 ?_
    refine aw_bipush (pc := 48) F dX8_addSpan_48 (by decide) ?_
    refine aw_icmp_lt (tgt := 64) (pc := 50) F dX8_addSpan_50 (by decide) (by unfold inR; omega) (by unfold inR; omega) (fun c50 => ?_) (fun c50 => ?_)
    · refine aw_aload0 (pc := 64) F dX8_addSpan_64 ?_
      refine aw_getR (pc := 65) F dX8_addSpan_65 fl_8_44 rfl (by first | decide | (simp only [inB, cnt, rcnt]; omega)) rfl nz6 rfl ?_
      refine aw_aload0 (pc := 68) F dX8_addSpan_68 ?_
      refine aw_getR (pc := 69) F dX8_addSpan_69 fl_8_34 rfl (by first | decide | (simp only [inB, cnt, rcnt]; omega)) rfl nz4 rfl ?_
      refine aw_callVV1 (pc := 72) F dX8_addSpan_72 ml_8_259 rfl (by first | decide | (simp only [inB, cnt, rcnt]; omega)) (ct2_remember _ _ S nx n Hs hR h hH) (Nat.le_of_ble_eq_true rfl) (by decide) (by decide) (fun σ9 h9_72 => ?_)
      obtain ⟨M1, nx1, h9, c1, c2⟩ := h9_72
      subst h9
      refine aw_aload0 (pc := 75) F dX8_addSpan_75 ?_
      refine aw_getR (pc := 76) F dX8_addSpan_76 fl_8_34 rfl (by first | decide | (simp only [inB, cnt, rcnt]; omega)) rfl nz4 rfl ?_
      refine aw_iload1 (pc := 79) F dX8_addSpan_79 ?_
      refine aw_iload2 (pc := 80) F dX8_addSpan_80 ?_
      refine aw_iload3 (pc := 81) F dX8_addSpan_81 ?_
      refine aw_iload4 (pc := 82) F dX8_addSpan_82 ?_
      refine aw_iload5 (pc := 84) F dX8_addSpan_84 ?_
      refine aw_callVV5 (pc := 86) F dX8_addSpan_86 ml_8_272 rfl (by first | decide | (simp only [inB, cnt, rcnt]; omega)) (ct5_appendSpan _ _ S _ _ _ _ _ _ (by decide) (c1.pl hR) h (by omega)) (Nat.le_of_ble_eq_true rfl) (by decide) (by decide) (fun σ9 h9_86 => ?_)
      obtain ⟨M2, h9, c3, c4⟩ := h9_86
      subst h9
      have m2 : M2 (5, 0, 0, 0) 2 = S 20 + 1 := by rw [c4.1.2.2]; exact apS_n hN.1
      refine aw_aload0 (pc := 89) F dX8_addSpan_89 ?_
      refine aw_getR (pc := 90) F dX8_addSpan_90 fl_8_34 rfl (by first | decide | (simp only [inB, cnt, rcnt]; omega)) rfl nz4 rfl ?_
      refine aw_getI (pc := 93) F dX8_addSpan_93 fl_8_100 rfl (by first | decide | (simp only [inB, cnt, rcnt]; omega)) rfl nz2 ?_
      refine aw_iconst (pc := 96) F dX8_addSpan_96 ?_
      refine aw_isub (pc := 97) F dX8_addSpan_97 ?_
      exact aw_xiret (pc := 98) F dX8_addSpan_98 rfl (by decide) ⟨by rw [m2]; omega, ⟨⟨⟨q1, q2⟩, q3, q4⟩, ⟨c27, ⟨q5, q6⟩, q7, q8⟩, by omega⟩, M2, nx1, rfl, (c1.e).tr c3.e, c4, c2.c5 (by decide) c3⟩
    · exact aw_throwIW (pc := 53) F dX8_addSpan_53 dX8_addSpan_56 dX8_addSpan_57 dX8_addSpan_60 dX8_addSpan_63 th_267_269_271 (by decide) (by decide) (Nat.le_of_ble_eq_true rfl) ⟨rfl, Or.inr (Or.inr ⟨rfl, ⟨⟨q1, q2⟩, q3, q4⟩, ⟨c27, ⟨q5, q6⟩, q7, q8⟩, by omega⟩)⟩
  · exact aw_throwIW (pc := 30) F dX8_addSpan_30 dX8_addSpan_33 dX8_addSpan_34 dX8_addSpan_37 dX8_addSpan_40 th_144_265_148 (by decide) (by decide) (Nat.le_of_ble_eq_true rfl) ⟨rfl, Or.inr (Or.inl ⟨rfl, ⟨⟨q1, q2⟩, q3, q4⟩, fun z => z.1 c27⟩)⟩
theorem cx8_removeSpan (M : Id4 → Int → Int) (b : Bool) (S : Int → Int) (nx n : Int) (Hs : Int → Int → Int) (k : Int) (h1 : inR k) (hR : plR M 0 S) (h : Ok S) (hH : hR8 M nx n Hs) : CxI 13 1 yX8_removeSpan cX8_removeSpan 2 (some .int) [aR (8, 0, 0, 0), aI k] (M, R0 b) (fun v σ' => v = S 20 - 1 ∧ (0 ≤ k ∧ k < S 20) ∧ E8 M b (drS S k) (min (n + 1) 10) (pushH n Hs S) σ') (fun E σ' => σ' = (M, R0 b) ∧ E = eIO ∧ ¬ (0 ≤ k ∧ k < S 20)) := by
  refine CxI.mk (by decide +kernel) rfl (Nat.le_of_ble_eq_true rfl) (fun X K F hk => ?_)
  have hN := h.2.2.1
  refine aw_aload0 (pc := 0) F dX8_removeSpan_0 ?_
  refine aw_iload1 (pc := 1) F dX8_removeSpan_1 ?_
  refine aw_xcallVVI1 (pc := 2) F dX8_removeSpan_2 ml_8_126 rfl (by first | decide | (simp only [inB, cnt, rcnt]; omega)) (cx8_requireSpan _ _ S _ h1 hR h) (Nat.le_of_ble_eq_true rfl) (by decide) (by decide) (fun _ _ h => ⟨h.2.1, h.1, h.2.2⟩) (fun σ9 h9_2 => ?_)
  obtain ⟨rfl, q1, q2⟩ := h9_2
  refine aw_aload0 (pc := 5) F dX8_removeSpan_5 ?_
  refine aw_getR (pc := 6) F dX8_removeSpan_6 fl_8_44 rfl (by first | decide | (simp only [inB, cnt, rcnt]; omega)) rfl nz6 rfl ?_
  refine aw_aload0 (pc := 9) F dX8_removeSpan_9 ?_
  refine aw_getR (pc := 10) F dX8_removeSpan_10 fl_8_34 rfl (by first | decide | (simp only [inB, cnt, rcnt]; omega)) rfl nz4 rfl ?_
  refine aw_callVV1 (pc := 13) F dX8_removeSpan_13 ml_8_259 rfl (by first | decide | (simp only [inB, cnt, rcnt]; omega)) (ct2_remember _ _ S nx n Hs hR h hH) (Nat.le_of_ble_eq_true rfl) (by decide) (by decide) (fun σ9 h9_13 => ?_)
  obtain ⟨M1, nx1, h9, c1, c2⟩ := h9_13
  subst h9
  refine aw_aload0 (pc := 16) F dX8_removeSpan_16 ?_
  refine aw_getR (pc := 17) F dX8_removeSpan_17 fl_8_34 rfl (by first | decide | (simp only [inB, cnt, rcnt]; omega)) rfl nz4 rfl ?_
  refine aw_iload1 (pc := 20) F dX8_removeSpan_20 ?_
  refine aw_callVV1 (pc := 21) F dX8_removeSpan_21 ml_8_256 rfl (by first | decide | (simp only [inB, cnt, rcnt]; omega)) (ct5_dropSpan _ _ S _ _ (by decide) (c1.pl hR) h ⟨q1, q2⟩) (Nat.le_of_ble_eq_true rfl) (by decide) (by decide) (fun σ9 h9_21 => ?_)
  obtain ⟨M2, h9, c3, c4⟩ := h9_21
  subst h9
  refine aw_aload0 (pc := 24) F dX8_removeSpan_24 ?_
  refine aw_getR (pc := 25) F dX8_removeSpan_25 fl_8_34 rfl (by first | decide | (simp only [inB, cnt, rcnt]; omega)) rfl nz4 rfl ?_
  refine aw_getI (pc := 28) F dX8_removeSpan_28 fl_8_100 rfl (by first | decide | (simp only [inB, cnt, rcnt]; omega)) rfl nz2 ?_
  exact aw_xiret (pc := 31) F dX8_removeSpan_31 rfl (by decide) ⟨c4.1.2.2, ⟨q1, q2⟩, M2, nx1, rfl, (c1.e).tr c3.e, c4, c2.c5 (by decide) c3⟩
theorem ct8_undo (M : Id4 → Int → Int) (b : Bool) (nx n : Int) (Hs : Int → Int → Int) (hH : hR8 M nx n Hs) : CtI 5 0 yX8_undo cX8_undo 1 (some .int) [aR (8, 0, 0, 0)] (M, R0 b) (fun v σ' => ∃ M' nx', σ' = (M', R0 b) ∧ sameE M M' ∧ ((n = 0 ∧ v = -1 ∧ M' = M) ∨ (0 < n ∧ v = n - 1 ∧ hR8 M' nx' (n - 1) Hs ∧ (Ok (Hs (n - 1)) → plR M' 0 (Hs (n - 1)))))) := by
  refine CtI.mk (by decide +kernel) rfl (Nat.le_of_ble_eq_true rfl) (fun X K F hk => ?_)
  refine aw_aload0 (pc := 0) F dX8_undo_0 ?_
  refine aw_getR (pc := 1) F dX8_undo_1 fl_8_44 rfl (by first | decide | (simp only [inB, cnt, rcnt]; omega)) rfl nz6 rfl ?_
  refine aw_aload0 (pc := 4) F dX8_undo_4 ?_
  refine aw_getR (pc := 5) F dX8_undo_5 fl_8_34 rfl (by first | decide | (simp only [inB, cnt, rcnt]; omega)) rfl nz4 rfl ?_
  refine aw_callVI1 (pc := 8) F dX8_undo_8 ml_8_294 rfl (by first | decide | (simp only [inB, cnt, rcnt]; omega)) (ct2_restore _ _ nx n Hs hH) (Nat.le_of_ble_eq_true rfl) (by decide) (Nat.zero_le _) (fun v9 σ9 h9_8 => ?_)
  obtain ⟨M1, nx1, h9, c1, c2⟩ := h9_8
  subst h9
  exact aw_iret (pc := 11) F dX8_undo_11 rfl (Nat.zero_le _) ⟨M1, nx1, rfl, fun q z => c1 q (fun y => z (by rw [y]; exact Or.inr (Or.inr (Or.inr (Or.inr rfl))))) (fun y => z (Or.inr (Or.inr (Or.inr (Or.inl y.1))))), c2⟩
def fitS (S : Int → Int) (T : Int) : Prop := ∀ k, 0 ≤ k → k < S 20 → S (21 + 5 * k + 3) ≤ S (21 + 5 * k + 2) + T - 1
theorem ok_period {S : Int → Int} {T : Int} (h : Ok S) (hT : 2 ≤ T ∧ T ≤ 24) (hf : fitS S T) : Ok (mtS (upS S 0 T) (fun x => x % T) (S 1)) := by
  obtain ⟨a, b, c, d, g⟩ := h
  have e : ∀ j, j ≠ 0 → upS S 0 T j = S j := fun j hj => upS_ne hj
  have e1 := e 1 (by decide)
  have e2 := e 20 (by decide)
  have e0 : upS S 0 T 0 = T := upS_same
  rw [← e1]
  refine ok_mt (by omega) (by omega) (by omega) (fun k k0 k1 => ?_) (fun x => ?_)
  · have s := g k k0 (by omega)
    have f := hf k k0 (by omega)
    unfold SpOk at s ⊢
    rw [e0, e1, e _ (by omega), e _ (by omega), e _ (by omega), e _ (by omega), e _ (by omega)]
    omega
  · rw [e0]
    exact ⟨Int.emod_nonneg _ (by omega), Int.emod_lt_of_pos _ (by omega)⟩
theorem pl_period {M : Id4 → Int → Int} {p : Int} {S : Int → Int} {T : Int} (hE : 0 ≤ S 1) (hR : plR M p S) : plR (updM M (5, p, 0, 0) 0 T) p (upS S 0 T) := by
  obtain ⟨⟨a, b, c⟩, d, g⟩ := hR
  have e : ∀ j, j ≠ 0 → upS S 0 T j = S j := fun j hj => upS_ne hj
  refine ⟨⟨?_, ?_, ?_⟩, fun x x0 x1 => ?_, fun k k0 k1 => ?_⟩
  · rw [upd_same, upS_same]
  · rw [e 1 (by decide), upd_ne (Or.inr (by decide))]; exact b
  · rw [e 20 (by decide), upd_ne (Or.inr (by decide))]; exact c
  · rw [e 1 (by decide)] at x1
    rw [upd_off (by simp), e _ (by omega)]; exact d x x0 x1
  · rw [e 20 (by decide)] at k1
    rw [upd_off (by simp), upd_off (by simp), upd_off (by simp), upd_off (by simp), upd_off (by simp), e _ (by omega), e _ (by omega), e _ (by omega), e _ (by omega), e _ (by omega)]
    exact g k k0 k1
theorem cx8_setPeriod (M : Id4 → Int → Int) (b : Bool) (S : Int → Int) (nx n : Int) (Hs : Int → Int → Int) (T : Int) (h1 : inR T) (hR : plR M 0 S) (h : Ok S) (hH : hR8 M nx n Hs) : CxI 13 2 yX8_setPeriod cX8_setPeriod 4 (some .int) [aR (8, 0, 0, 0), aI T] (M, R0 b) (fun v σ' => v = S 0 ∧ ((2 ≤ T ∧ T ≤ 24) ∧ fitS S T) ∧ E8 M b (mtS (upS S 0 T) (fun x => x % T) (S 1)) (min (n + 1) 10) (pushH n Hs S) σ') (fun E σ' => σ' = (M, R0 b) ∧ ((E = eIA ∧ ¬ (2 ≤ T ∧ T ≤ 24)) ∨ (E = eIS ∧ (2 ≤ T ∧ T ≤ 24) ∧ ¬ fitS S T))) := by
  refine CxI.mk (by decide +kernel) rfl (Nat.le_of_ble_eq_true rfl) (fun X K F hk => ?_)
  have hN := h.2.2.1
  have hE := h.2.1
  have hP := h.1
  have e2 := hR.1.2.2
  obtain ⟨E, eE⟩ : ∃ E : Nat, S 1 = (E : Int) := ⟨(S 1).toNat, by omega⟩
  obtain ⟨Q9, hQ⟩ : ∃ Q9, Q9 = XI X K 2 (fun v σ' => v = S 0 ∧ ((2 ≤ T ∧ T ≤ 24) ∧ fitS S T) ∧ E8 M b (mtS (upS S 0 T) (fun x => x % T) (S 1)) (min (n + 1) 10) (pushH n Hs S) σ') (fun E σ' => σ' = (M, R0 b) ∧ ((E = eIA ∧ ¬ (2 ≤ T ∧ T ≤ 24)) ∨ (E = eIS ∧ (2 ≤ T ∧ T ≤ 24) ∧ ¬ fitS S T))) := ⟨_, rfl⟩
  have key2 : (2 ≤ T ∧ T ≤ 24) → fitS S T → ∀ (nx1 : Int) (j i : Nat) (M' : Id4 → Int → Int), i + j = E → sameE M M' → plR M' 0 (mtS (upS S 0 T) (fun x => x % T) i) → hR8 M' nx1 (min (n + 1) 10) (pushH n Hs S) → AW X K 91 [aR (8, 0, 0, 0), aI T, aI (S 0), aI i] [] (M', R0 b) 1 Q9 := by
    intro hT hF nx1 j
    have u : ∀ j, j ≠ 0 → upS S 0 T j = S j := fun j hj => upS_ne hj
    induction j with
    | zero =>
      intro i M' hi a1 a2 a3
      have p1 : M' (5, 0, 0, 0) 1 = S 1 := by rw [a2.1.2.1, mtS_off (by omega)]; exact u 1 (by decide)
      have ei : (i : Int) = S 1 := by omega
      rw [ei] at a2
      refine aw_iload3 (pc := 91) F dX8_setPeriod_91 ?_
      refine aw_aload0 (pc := 92) F dX8_setPeriod_92 ?_
      refine aw_getR (pc := 93) F dX8_setPeriod_93 fl_8_34 rfl (by first | decide | (simp only [inB, cnt, rcnt]; omega)) rfl nz4 rfl ?_
      refine aw_getI (pc := 96) F dX8_setPeriod_96 fl_8_112 rfl (by first | decide | (simp only [inB, cnt, rcnt]; omega)) rfl nz1 ?_
      refine aw_icmp_ge (tgt := 130) (pc := 99) F dX8_setPeriod_99 (by decide) (by unfold inR; omega) (by unfold inR; omega) (fun c99 => ?_) (fun c99 => ?_)
      · rw [hQ]
        refine aw_iload2 (pc := 130) F dX8_setPeriod_130 ?_
        exact aw_xiret (pc := 131) F dX8_setPeriod_131 rfl (by decide) ⟨rfl, ⟨hT, hF⟩, M', nx1, rfl, a1, a2, a3⟩
      · omega
    | succ j ih =>
      intro i M' hi a1 a2 a3
      have p1 : M' (5, 0, 0, 0) 1 = S 1 := by rw [a2.1.2.1, mtS_off (by omega)]; exact u 1 (by decide)
      have pt : M' (5, 0, 4, 0) i = upS S 0 T (14 + (i : Int)) := by rw [a2.2.1 i (by omega) (by rw [mtS_off (by omega), u 1 (by decide)]; omega)]; exact mtS_off (by omega)
      have pt2 := u (14 + (i : Int)) (by omega)
      have tb := h.2.2.2.1 i (by omega) (by omega)
      refine aw_iload3 (pc := 91) F dX8_setPeriod_91 ?_
      refine aw_aload0 (pc := 92) F dX8_setPeriod_92 ?_
      refine aw_getR (pc := 93) F dX8_setPeriod_93 fl_8_34 rfl (by first | decide | (simp only [inB, cnt, rcnt]; omega)) rfl nz4 rfl ?_
      refine aw_getI (pc := 96) F dX8_setPeriod_96 fl_8_112 rfl (by first | decide | (simp only [inB, cnt, rcnt]; omega)) rfl nz1 ?_
      refine aw_icmp_ge (tgt := 130) (pc := 99) F dX8_setPeriod_99 (by decide) (by unfold inR; omega) (by unfold inR; omega) (fun c99 => ?_) (fun c99 => ?_)
      · omega
      · refine aw_aload0 (pc := 102) F dX8_setPeriod_102 ?_
        refine aw_getR (pc := 103) F dX8_setPeriod_103 fl_8_34 rfl (by first | decide | (simp only [inB, cnt, rcnt]; omega)) rfl nz4 rfl ?_
        refine aw_getR (pc := 106) F dX8_setPeriod_106 fl_8_122 rfl (by first | decide | (simp only [inB, cnt, rcnt]; omega)) rfl nz3 rfl ?_
        refine aw_iload3 (pc := 109) F dX8_setPeriod_109 ?_
        refine aw_aload0 (pc := 110) F dX8_setPeriod_110 ?_
        refine aw_getR (pc := 111) F dX8_setPeriod_111 fl_8_34 rfl (by first | decide | (simp only [inB, cnt, rcnt]; omega)) rfl nz4 rfl ?_
        refine aw_getR (pc := 114) F dX8_setPeriod_114 fl_8_122 rfl (by first | decide | (simp only [inB, cnt, rcnt]; omega)) rfl nz3 rfl ?_
        refine aw_iload3 (pc := 117) F dX8_setPeriod_117 ?_
        refine aw_iald (pc := 118) F dX8_setPeriod_118 rfl (by first | decide | (simp only [inB, cnt, rcnt]; omega)) (by omega) ?_
        refine aw_iload1 (pc := 119) F dX8_setPeriod_119 ?_
        refine aw_pcallS2 (pc := 120) F dX8_setPeriod_120 ml_8_203 (ct8_modulo _ _ _ _ (by rw [pt, pt2]; unfold inR; omega) (by omega)) (Nat.le_of_ble_eq_true rfl) (by decide) (by decide) ?_
        refine aw_iast (pc := 123) F dX8_setPeriod_123 rfl (by first | decide | (simp only [inB, cnt, rcnt]; omega)) (by omega) ?_
        refine aw_iinc3 (pc := 124) F dX8_setPeriod_124 rfl hk.symm ?_
        refine aw_goto (tgt := 91) (pc := 127) F dX8_setPeriod_127 (by decide) ?_
        exact ih (i + 1) _ (by omega) (a1.up) (by rw [pt, show ((i + 1 : Nat) : Int) = (i : Int) + 1 by rfl, ← mtS_step (S := upS S 0 T) (f := fun x => x % T) (i := (i : Int)) (by omega) rfl]; exact pl_time (by omega) a2) (a3.up (by decide))
  have key1 : (2 ≤ T ∧ T ≤ 24) → ∀ (j i : Nat) (w : AV), (i : Int) + j = S 20 → wide w = false → (∀ k : Int, 0 ≤ k → k < i → S (21 + 5 * k + 3) ≤ S (21 + 5 * k + 2) + T - 1) → AW X K 9 [aR (8, 0, 0, 0), aI T, aI i, w] [] (M, R0 b) 1 Q9 := by
    intro hT j
    induction j with
    | zero =>
      intro i w hi hw hf
      have hF : fitS S T := fun k k0 k1 => hf k k0 (by omega)
      refine aw_iload2 (pc := 9) F dX8_setPeriod_9 ?_
      refine aw_aload0 (pc := 10) F dX8_setPeriod_10 ?_
      refine aw_getR (pc := 11) F dX8_setPeriod_11 fl_8_34 rfl (by first | decide | (simp only [inB, cnt, rcnt]; omega)) rfl nz4 rfl ?_
      refine aw_getI (pc := 14) F dX8_setPeriod_14 fl_8_100 rfl (by first | decide | (simp only [inB, cnt, rcnt]; omega)) rfl nz2 ?_
      refine aw_icmp_ge (tgt := 62) (pc := 17) F dX8_setPeriod_17 (by decide) (by unfold inR; omega) (by unfold inR; omega) (fun c17 => ?_) (fun c17 => ?_)
      · refine aw_aload0 (pc := 62) F dX8_setPeriod_62 ?_
        refine aw_getR (pc := 63) F dX8_setPeriod_63 fl_8_44 rfl (by first | decide | (simp only [inB, cnt, rcnt]; omega)) rfl nz6 rfl ?_
        refine aw_aload0 (pc := 66) F dX8_setPeriod_66 ?_
        refine aw_getR (pc := 67) F dX8_setPeriod_67 fl_8_34 rfl (by first | decide | (simp only [inB, cnt, rcnt]; omega)) rfl nz4 rfl ?_
        refine aw_callVV1 (pc := 70) F dX8_setPeriod_70 ml_8_259 rfl (by first | decide | (simp only [inB, cnt, rcnt]; omega)) (ct2_remember _ _ S nx n Hs hR h hH) (Nat.le_of_ble_eq_true rfl) (by decide) (by decide) (fun σ9 h9_70 => ?_)
        obtain ⟨M1, nx1, h9, c1, c2⟩ := h9_70
        subst h9
        have r0 := c1.pl hR
        refine aw_aload0 (pc := 73) F dX8_setPeriod_73 ?_
        refine aw_getR (pc := 74) F dX8_setPeriod_74 fl_8_34 rfl (by first | decide | (simp only [inB, cnt, rcnt]; omega)) rfl nz4 rfl ?_
        refine aw_getI (pc := 77) F dX8_setPeriod_77 fl_8_109 rfl (by first | decide | (simp only [inB, cnt, rcnt]; omega)) rfl nz0 ?_
        rw [r0.1.1]
        refine aw_istore2 (pc := 80) F dX8_setPeriod_80 (by simp only [List.all_cons, List.all_nil, hw]; rfl) hk.symm ?_
        refine aw_aload0 (pc := 81) F dX8_setPeriod_81 ?_
        refine aw_getR (pc := 82) F dX8_setPeriod_82 fl_8_34 rfl (by first | decide | (simp only [inB, cnt, rcnt]; omega)) rfl nz4 rfl ?_
        refine aw_iload1 (pc := 85) F dX8_setPeriod_85 ?_
        refine aw_putI (pc := 86) F dX8_setPeriod_86 fl_8_109 fpi_5_0 rfl (by first | decide | (simp only [inB, cnt, rcnt]; omega)) rfl nz0 ?_
        refine aw_iconst (pc := 89) F dX8_setPeriod_89 ?_
        refine aw_istore3 (pc := 90) F dX8_setPeriod_90 (by simp only [List.all_cons, List.all_nil, hw]; rfl) hk.symm ?_
        exact key2 hT hF nx1 E 0 _ (by omega) (c1.e.up) (by rw [show ((0 : Nat) : Int) = 0 by rfl, mtS_0]; exact pl_period hE.1 r0) (c2.up (by decide))
      · omega
    | succ j ih =>
      intro i w hi hw hf
      obtain ⟨f0, f1, f2, f3, f4⟩ := hR.2.2 i (by omega) (by omega)
      have s := h.2.2.2.2 i (by omega) (by omega)
      unfold SpOk at s
      refine aw_iload2 (pc := 9) F dX8_setPeriod_9 ?_
      refine aw_aload0 (pc := 10) F dX8_setPeriod_10 ?_
      refine aw_getR (pc := 11) F dX8_setPeriod_11 fl_8_34 rfl (by first | decide | (simp only [inB, cnt, rcnt]; omega)) rfl nz4 rfl ?_
      refine aw_getI (pc := 14) F dX8_setPeriod_14 fl_8_100 rfl (by first | decide | (simp only [inB, cnt, rcnt]; omega)) rfl nz2 ?_
      refine aw_icmp_ge (tgt := 62) (pc := 17) F dX8_setPeriod_17 (by decide) (by unfold inR; omega) (by unfold inR; omega) (fun c17 => ?_) (fun c17 => ?_)
      · omega
      · refine aw_aload0 (pc := 20) F dX8_setPeriod_20 ?_
        refine aw_getR (pc := 21) F dX8_setPeriod_21 fl_8_34 rfl (by first | decide | (simp only [inB, cnt, rcnt]; omega)) rfl nz4 rfl ?_
        refine aw_getR (pc := 24) F dX8_setPeriod_24 fl_8_138 rfl (by first | decide | (simp only [inB, cnt, rcnt]; omega)) rfl nz7 rfl ?_
        refine aw_iload2 (pc := 27) F dX8_setPeriod_27 ?_
        refine aw_iald (pc := 28) F dX8_setPeriod_28 rfl (by first | decide | (simp only [inB, cnt, rcnt]; omega)) (by omega) ?_
        refine aw_aload0 (pc := 29) F dX8_setPeriod_29 ?_
        refine aw_getR (pc := 30) F dX8_setPeriod_30 fl_8_34 rfl (by first | decide | (simp only [inB, cnt, rcnt]; omega)) rfl nz4 rfl ?_
        refine aw_getR (pc := 33) F dX8_setPeriod_33 fl_8_135 rfl (by first | decide | (simp only [inB, cnt, rcnt]; omega)) rfl nz6 rfl ?_
        refine aw_iload2 (pc := 36) F dX8_setPeriod_36 ?_
        refine aw_iald (pc := 37) F dX8_setPeriod_37 rfl (by first | decide | (simp only [inB, cnt, rcnt]; omega)) (by omega) ?_
        refine aw_iload1 (pc := 38) F dX8_setPeriod_38 ?_
        refine aw_iadd (pc := 39) F dX8_setPeriod_39 ?_
        refine aw_iconst (pc := 40) F dX8_setPeriod_40 ?_
        refine aw_isub (pc := 41) F dX8_setPeriod_41 ?_
        refine aw_icmp_le (tgt := 56) (pc := 42) F dX8_setPeriod_42 (by decide) (by unfold inR; omega) (by unfold inR; omega) (fun c42 => ?_) (fun c42 => ?_)
        · refine aw_iinc2 (pc := 56) F dX8_setPeriod_56 (by simp only [List.all_cons, List.all_nil, hw]; rfl) hk.symm ?_
          refine aw_goto (tgt := 9) (pc := 59) F dX8_setPeriod_59 (by decide) ?_
          exact ih (i + 1) w (by omega) hw (fun k k0 k1 => by
            by_cases z : k = i
            · rw [z]; omega
            · exact hf k k0 (by omega))
        · rw [hQ]
          exact aw_throwIW (pc := 45) F dX8_setPeriod_45 dX8_setPeriod_48 dX8_setPeriod_49 dX8_setPeriod_52 dX8_setPeriod_55 th_267_276_271 (by decide) (by decide) (Nat.le_of_ble_eq_true rfl) ⟨rfl, Or.inr ⟨rfl, hT, fun z => by have := z i (by omega) (by omega); omega⟩⟩
  refine aw_iload1 (pc := 0) F dX8_setPeriod_0 ?_
  refine aw_iconst (pc := 1) F dX8_setPeriod_1 ?_
  refine aw_bipush (pc := 2) F dX8_setPeriod_2 (by decide) ?_
  refine aw_xcallSVI3 (pc := 4) F dX8_setPeriod_4 ml_8_80 (cx8_requireRange _ _ _ _ _ h1 (by unfold inR; omega) (by unfold inR; omega)) (Nat.le_of_ble_eq_true rfl) (by decide) (by decide) (fun _ _ h => ⟨h.2.1, Or.inl ⟨h.1, h.2.2⟩⟩) (fun σ9 h9_4 => ?_)
  obtain ⟨rfl, q1, q2⟩ := h9_4
  refine aw_iconst (pc := 7) F dX8_setPeriod_7 ?_
  refine aw_istore2 (pc := 8) F dX8_setPeriod_8 rfl hk.symm ?_
  rw [← hQ]
  exact key1 ⟨q1, q2⟩ (S 20).toNat 0 aX (by omega) rfl (fun k k0 k1 => absurd k1 (by omega))
