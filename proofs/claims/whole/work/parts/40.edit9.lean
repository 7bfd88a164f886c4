/-! 40: the reference's edits -/
/-- what an edit of the reference leaves -/
def E9 (M : Id4 → Int → Int) (b : Bool) (t v : Int) (S' : Int → Int) (n' : Int) (Hs' : Int → Int → Int) : Int → Hp → Prop := fun r σ' => ∃ M', σ' = (M', R0 b) ∧ M' (9, 0, 0, 0) 4 = t ∧ ((t = 0 ∧ r = v ∧ same9e M M' ∧ M' (9, 0, 1, 0) = S' ∧ hR9 M' n' Hs') ∨ (¬ t = 0 ∧ same9 M M'))
theorem e9_no {M : Id4 → Int → Int} {b : Bool} {t v r : Int} {S' : Int → Int} {n' : Int} {Hs' : Int → Int → Int} (h : ¬ t = 0) : E9 M b t v S' n' Hs' r (thr M t, R0 b) := ⟨_, rfl, upd_same, Or.inr ⟨h, same9_thr⟩⟩
theorem e9_yes {M M' : Id4 → Int → Int} {b : Bool} {t v r : Int} {S' : Int → Int} {n' : Int} {Hs' : Int → Int → Int} (h0 : t = 0) (h4 : M' (9, 0, 0, 0) 4 = 0) (hr : r = v) (hs : same9e M M') (h1 : M' (9, 0, 1, 0) = S') (hH : hR9 M' n' Hs') : E9 M b t v S' n' Hs' r (M', R0 b) := ⟨_, rfl, by rw [h4, h0], Or.inl ⟨h0, hr, hs, h1, hH⟩⟩
theorem hR9.st {M : Id4 → Int → Int} {n : Int} {Hs : Int → Int → Int} {k v : Int} (h : hR9 M n Hs) : hR9 (updM M (9, 0, 1, 0) k v) n Hs := by
  obtain ⟨⟨a, b⟩, c⟩ := h
  exact ⟨⟨by rw [upd_ne (Or.inl (by decide))]; exact a, b⟩, fun i j i0 i1 j0 j1 => by rw [upd_ne (Or.inl (by decide))]; exact c i j i0 i1 j0 j1⟩
theorem hR9.s9 {M M' : Id4 → Int → Int} {n : Int} {Hs : Int → Int → Int} (hs : same9 M M') (h : hR9 M n Hs) : hR9 M' n Hs := by
  obtain ⟨⟨a, b⟩, c⟩ := h
  exact ⟨⟨by rw [hs _ _ (by unfold scr9; decide)]; exact a, b⟩, fun i j i0 i1 j0 j1 => by rw [hs _ _ (by unfold scr9; simp)]; exact c i j i0 i1 j0 j1⟩
theorem hR9.thr {M : Id4 → Int → Int} {n t : Int} {Hs : Int → Int → Int} (h : hR9 M n Hs) : hR9 (thr M t) n Hs := h.s9 same9_thr
theorem ct9_rememberE (M : Id4 → Int → Int) (b : Bool) (S : Int → Int) (n : Int) (Hs : Int → Int → Int) (hS : M (9, 0, 1, 0) = S) (hH : hR9 M n Hs) : CtV 1 0 yX9_remember cX9_remember 2 none [aR (9, 0, 0, 0)] (M, R0 b) (fun σ' => ∃ M', σ' = (M', R0 b) ∧ same9e M M' ∧ M' (9, 0, 1, 0) = S ∧ M' (9, 0, 0, 0) 4 = M (9, 0, 0, 0) 4 ∧ hR9 M' (min (n + 1) 10) (pushH n Hs S)) := by
  refine (ct9_remember M b S n Hs hS hH).mono (fun σ' hq => ?_)
  obtain ⟨A', hσ, hA⟩ := hq
  have hn := hH.1.2
  refine ⟨_, hσ, (same9e.rf.st (Or.inr rfl)).up (Or.inr (Or.inr (Or.inr ⟨rfl, rfl⟩))), ?_, ?_, ⟨⟨upd_same, by omega⟩, fun i j i0 i1 j0 j1 => ?_⟩⟩
  · rw [upd_off (by decide), setA_ne (by decide), hS]
  · rw [upd_ne (Or.inr (by decide)), setA_ne (by decide)]
  · rw [upd_ne (Or.inl (by decide)), setA_same]
    exact hA i j i0 i1 j0 j1
theorem same9e.r {M M1 : Id4 → Int → Int} {k v : Int} (h1 : same9e M M1) : same9e M (updM M1 (9, 0, 1, 0) k v) := h1.up (Or.inr (Or.inl rfl))
theorem cq9_move (M : Id4 → Int → Int) (b : Bool) (S : Int → Int) (n : Int) (Hs : Int → Int → Int) (e t : Int) (h1 : inR e) (h2 : inR t) (hS : M (9, 0, 1, 0) = S) (h : Ok S) (hH : hR9 M n Hs) : CtI 6 0 yX9_move cX9_move 3 (some .int) [aR (9, 0, 0, 0), aI e, aI t] (M, R0 b) (E9 M b (t2 (0 ≤ e ∧ e ≤ S 1 - 1) (0 ≤ t ∧ t ≤ S 0 - 1)) (brk (upS S (14 + e) t)) (upS S (14 + e) t) (min (n + 1) 10) (pushH n Hs S)) := by
  refine CtI.mk (by decide +kernel) rfl (Nat.le_of_ble_eq_true rfl) (fun X K F hk => ?_)
  have hT := h.1
  have hE := h.2.1
  have sq : CtI 2 0 yX9_isEvent cX9_isEvent 2 (some .boolean) [aR (9, 0, 0, 0), aI e] (M, R0 b) (PU (M, R0 b) (b2i (0 ≤ e ∧ e ≤ S 1 - 1))) := by
    have z := ct9_isEvent M b e h1 (by rw [hS]; exact hE)
    rw [hS] at z
    exact z
  have st : CtI 2 0 yX9_isTime cX9_isTime 2 (some .boolean) [aR (9, 0, 0, 0), aI t] (M, R0 b) (PU (M, R0 b) (b2i (0 ≤ t ∧ t ≤ S 0 - 1))) := by
    have z := ct9_isTime M b t h2 (by rw [hS]; exact hT)
    rw [hS] at z
    exact z
  refine aw_aload0 (pc := 0) F dX9_move_0 ?_
  refine aw_aload0 (pc := 1) F dX9_move_1 ?_
  refine aw_iload1 (pc := 2) F dX9_move_2 ?_
  refine aw_pcallV1 (pc := 3) F dX9_move_3 ml_9_191 rfl (by first | decide | (simp only [inB, cnt, rcnt]; omega)) sq (Nat.le_of_ble_eq_true rfl) (by decide) (Nat.zero_le _) ?_
  refine aw_aload0 (pc := 6) F dX9_move_6 ?_
  refine aw_iload2 (pc := 7) F dX9_move_7 ?_
  refine aw_pcallV1 (pc := 8) F dX9_move_8 ml_9_267 rfl (by first | decide | (simp only [inB, cnt, rcnt]; omega)) st (Nat.le_of_ble_eq_true rfl) (by decide) (Nat.zero_le _) ?_
  refine aw_callVI2 (pc := 11) F dX9_move_11 ml_9_197 rfl (by first | decide | (simp only [inB, cnt, rcnt]; omega)) (ct9_good2 _ _ _ _ (by first | exact b2i_01 | decide) (by first | exact b2i_01 | decide)) (Nat.le_of_ble_eq_true rfl) (by decide) (Nat.zero_le _) (fun v9 σ9 h9_11 => ?_)
  obtain ⟨rfl, rfl⟩ := h9_11
  refine aw_ifb_ne (tgt := 19) (pc := 14) F dX9_move_14 (by decide) (fun c14 => ?_) (fun c14 => ?_)
  · rw [b2i_1, b2i_1] at c14
    have ht0 : t2 (0 ≤ e ∧ e ≤ S 1 - 1) (0 ≤ t ∧ t ≤ S 0 - 1) = 0 := t2_0 c14.1 c14.2
    refine aw_aload0 (pc := 19) F dX9_move_19 ?_
    refine aw_callVV0 (pc := 20) F dX9_move_20 ml_9_349 rfl (by first | decide | (simp only [inB, cnt, rcnt]; omega)) (ct9_rememberE _ _ S n Hs (by rw [thr_s]; exact hS) hH.thr) (Nat.le_of_ble_eq_true rfl) (by decide) (Nat.zero_le _) (fun σ9 h9_20 => ?_)
    obtain ⟨M2, h9, d1, d2, d3, d4⟩ := h9_20
    subst h9
    have s2 : updM M2 (9, 0, 1, 0) (14 + e) t (9, 0, 1, 0) = upS S (14 + e) t := by rw [upd_row, d2]
    refine aw_aload0 (pc := 23) F dX9_move_23 ?_
    refine aw_getR (pc := 24) F dX9_move_24 fl_9_7 rfl (by first | decide | (simp only [inB, cnt, rcnt]; omega)) rfl nz0 rfl ?_
    refine aw_bipush (pc := 27) F dX9_move_27 (by decide) ?_
    refine aw_iload1 (pc := 29) F dX9_move_29 ?_
    refine aw_iadd (pc := 30) F dX9_move_30 ?_
    refine aw_iload2 (pc := 31) F dX9_move_31 ?_
    refine aw_iast (pc := 32) F dX9_move_32 rfl (by first | decide | (simp only [inB, cnt, rcnt]; omega)) (by omega) ?_
    refine aw_aload0 (pc := 33) F dX9_move_33 ?_
    refine aw_pcallV0 (pc := 34) F dX9_move_34 ml_9_218 rfl (by first | decide | (simp only [inB, cnt, rcnt]; omega)) (ct9_brokenMany _ _ (by rw [s2]; exact ok_time h (by omega) (by omega))) (Nat.le_of_ble_eq_true rfl) (by decide) (Nat.zero_le _) ?_
    exact aw_iret (pc := 37) F dX9_move_37 rfl (Nat.zero_le _) (e9_yes ht0 (by rw [upd_ne (Or.inl (by decide)), d3]; exact upd_same.trans ht0) (by rw [s2]) ((same9_thr.e.tr d1).r) s2 d4.st)
  · refine aw_iconst (pc := 17) F dX9_move_17 ?_
    exact aw_iret (pc := 18) F dX9_move_18 rfl (Nat.zero_le _) (e9_no (t2_ne (fun z => c14 ⟨b2i_pos z.1, b2i_pos z.2⟩)))
theorem cq9_shift (M : Id4 → Int → Int) (b : Bool) (S : Int → Int) (n : Int) (Hs : Int → Int → Int) (y : Int) (h1 : inR y) (hS : M (9, 0, 1, 0) = S) (h : Ok S) (hH : hR9 M n Hs) : CtI 2 0 yX9_shift cX9_shift 4 (some .int) [aR (9, 0, 0, 0), aI y] (M, R0 b) (E9 M b 0 (if S 1 = 0 then -1 else mtS S (fun x => (x + y % S 0) % S 0) (S 1) 14) (mtS S (fun x => (x + y % S 0) % S 0) (S 1)) (min (n + 1) 10) (pushH n Hs S)) := by
  refine CtI.mk (by decide +kernel) rfl (Nat.le_of_ble_eq_true rfl) (fun X K F hk => ?_)
  have hT := h.1
  have hE := h.2.1
  obtain ⟨f, hf⟩ : ∃ f : Int → Int, f = fun x => (x + y % S 0) % S 0 := ⟨_, rfl⟩
  obtain ⟨E, eE⟩ : ∃ E : Nat, S 1 = (E : Int) := ⟨(S 1).toNat, by omega⟩
  have em : 0 ≤ y % S 0 ∧ y % S 0 < S 0 := ⟨Int.emod_nonneg _ (by omega), Int.emod_lt_of_pos _ (by omega)⟩
  rw [← hf]
  obtain ⟨Q9, hQ⟩ : ∃ Q9, Q9 = EI X K 0 (E9 M b 0 (if S 1 = 0 then -1 else mtS S f (S 1) 14) (mtS S f (S 1)) (min (n + 1) 10) (pushH n Hs S)) := ⟨_, rfl⟩
  have key : ∀ (j i : Nat) (M' : Id4 → Int → Int), i + j = E → M' (9, 0, 0, 0) 4 = 0 → same9e M M' → M' (9, 0, 1, 0) = mtS S f i → hR9 M' (min (n + 1) 10) (pushH n Hs S) → AW X K 17 [aR (9, 0, 0, 0), aI y, aI (y % S 0), aI i] [] (M', R0 b) 0 Q9 := by
    intro j
    induction j with
    | zero =>
      intro i M' hi a0 a1 a2 a3
      have p1 : M' (9, 0, 1, 0) 1 = S 1 := by rw [a2]; exact mtS_off (by omega)
      have ei : (i : Int) = S 1 := by omega
      rw [ei] at a2
      refine aw_iload3 (pc := 17) F dX9_shift_17 ?_
      refine aw_aload0 (pc := 18) F dX9_shift_18 ?_
      refine aw_getR (pc := 19) F dX9_shift_19 fl_9_7 rfl (by first | decide | (simp only [inB, cnt, rcnt]; omega)) rfl nz0 rfl ?_
      refine aw_iconst (pc := 22) F dX9_shift_22 ?_
      refine aw_iald (pc := 23) F dX9_shift_23 rfl (by first | decide | (simp only [inB, cnt, rcnt]; omega)) (by omega) ?_
      refine aw_icmp_ge (tgt := 57) (pc := 24) F dX9_shift_24 (by decide) (by unfold inR; omega) (by unfold inR; omega) (fun c24 => ?_) (fun c24 => ?_)
      · refine aw_aload0 (pc := 57) F dX9_shift_57 ?_
        refine aw_getR (pc := 58) F dX9_shift_58 fl_9_7 rfl (by first | decide | (simp only [inB, cnt, rcnt]; omega)) rfl nz0 rfl ?_
        refine aw_iconst (pc := 61) F dX9_shift_61 ?_
        refine aw_iald (pc := 62) F dX9_shift_62 rfl (by first | decide | (simp only [inB, cnt, rcnt]; omega)) (by omega) ?_
        refine aw_if_ne (tgt := 70) (pc := 63) F dX9_shift_63 (by decide) (by unfold inR; omega) (fun c63 => ?_) (fun c63 => ?_)
        · refine aw_aload0 (pc := 70) F dX9_shift_70 ?_
          refine aw_getR (pc := 71) F dX9_shift_71 fl_9_7 rfl (by first | decide | (simp only [inB, cnt, rcnt]; omega)) rfl nz0 rfl ?_
          refine aw_bipush (pc := 74) F dX9_shift_74 (by decide) ?_
          refine aw_iald (pc := 76) F dX9_shift_76 rfl (by first | decide | (simp only [inB, cnt, rcnt]; omega)) (by omega) ?_
          rw [hQ]
          exact aw_iret (pc := 77) F dX9_shift_77 rfl (Nat.zero_le _) (e9_yes rfl a0 (by first | (rw [if_neg (by omega), a2]; done) | rw [if_pos (by omega)]) a1 a2 a3)
        · refine aw_iconst (pc := 66) F dX9_shift_66 ?_
          refine aw_goto (tgt := 77) (pc := 67) F dX9_shift_67 (by decide) ?_
          rw [hQ]
          exact aw_iret (pc := 77) F dX9_shift_77 rfl (Nat.zero_le _) (e9_yes rfl a0 (by first | (rw [if_neg (by omega), a2]; done) | rw [if_pos (by omega)]) a1 a2 a3)
      · omega
    | succ j ih =>
      intro i M' hi a0 a1 a2 a3
      have p1 : M' (9, 0, 1, 0) 1 = S 1 := by rw [a2]; exact mtS_off (by omega)
      have p0 : M' (9, 0, 1, 0) 0 = S 0 := by rw [a2]; exact mtS_off (by omega)
      have pt : M' (9, 0, 1, 0) (14 + (i : Int)) = S (14 + (i : Int)) := by rw [a2]; exact mtS_off (by omega)
      have tb := h.2.2.2.1 i (by omega) (by omega)
      refine aw_iload3 (pc := 17) F dX9_shift_17 ?_
      refine aw_aload0 (pc := 18) F dX9_shift_18 ?_
      refine aw_getR (pc := 19) F dX9_shift_19 fl_9_7 rfl (by first | decide | (simp only [inB, cnt, rcnt]; omega)) rfl nz0 rfl ?_
      refine aw_iconst (pc := 22) F dX9_shift_22 ?_
      refine aw_iald (pc := 23) F dX9_shift_23 rfl (by first | decide | (simp only [inB, cnt, rcnt]; omega)) (by omega) ?_
      refine aw_icmp_ge (tgt := 57) (pc := 24) F dX9_shift_24 (by decide) (by unfold inR; omega) (by unfold inR; omega) (fun c24 => ?_) (fun c24 => ?_)
      · omega
      · refine aw_aload0 (pc := 27) F dX9_shift_27 ?_
        refine aw_getR (pc := 28) F dX9_shift_28 fl_9_7 rfl (by first | decide | (simp only [inB, cnt, rcnt]; omega)) rfl nz0 rfl ?_
        refine aw_bipush (pc := 31) F dX9_shift_31 (by decide) ?_
        refine aw_iload3 (pc := 33) F dX9_shift_33 ?_
        refine aw_iadd (pc := 34) F dX9_shift_34 ?_
        refine aw_aload0 (pc := 35) F dX9_shift_35 ?_
        refine aw_aload0 (pc := 36) F dX9_shift_36 ?_
        refine aw_getR (pc := 37) F dX9_shift_37 fl_9_7 rfl (by first | decide | (simp only [inB, cnt, rcnt]; omega)) rfl nz0 rfl ?_
        refine aw_bipush (pc := 40) F dX9_shift_40 (by decide) ?_
        refine aw_iload3 (pc := 42) F dX9_shift_42 ?_
        refine aw_iadd (pc := 43) F dX9_shift_43 ?_
        refine aw_iald (pc := 44) F dX9_shift_44 rfl (by first | decide | (simp only [inB, cnt, rcnt]; omega)) (by omega) ?_
        refine aw_iload2 (pc := 45) F dX9_shift_45 ?_
        refine aw_iadd (pc := 46) F dX9_shift_46 ?_
        refine aw_pcallV1 (pc := 47) F dX9_shift_47 ml_9_203 rfl (by first | decide | (simp only [inB, cnt, rcnt]; omega)) (ct9_modulo _ _ _ (by rw [pt]; unfold inR; omega) (by omega)) (Nat.le_of_ble_eq_true rfl) (by decide) (Nat.zero_le _) ?_
        refine aw_iast (pc := 50) F dX9_shift_50 rfl (by first | decide | (simp only [inB, cnt, rcnt]; omega)) (by omega) ?_
        refine aw_iinc3 (pc := 51) F dX9_shift_51 rfl hk.symm ?_
        refine aw_goto (tgt := 17) (pc := 54) F dX9_shift_54 (by decide) ?_
        exact ih (i + 1) _ (by omega) (by rw [upd_ne (Or.inl (by decide))]; exact a0) (a1.r) (by rw [upd_row, pt, p0, a2]; exact mtS_step (by omega) (by rw [hf])) a3.st
  refine aw_aload0 (pc := 0) F dX9_shift_0 ?_
  refine aw_iconst (pc := 1) F dX9_shift_1 ?_
  refine aw_putI (pc := 2) F dX9_shift_2 fl_9_54 fpi_9_4 rfl (by first | decide | (simp only [inB, cnt, rcnt]; omega)) rfl nz4 ?_
  refine aw_aload0 (pc := 5) F dX9_shift_5 ?_
  refine aw_callVV0 (pc := 6) F dX9_shift_6 ml_9_349 rfl (by first | decide | (simp only [inB, cnt, rcnt]; omega)) (ct9_rememberE _ _ S n Hs (by rw [thr_u]; exact hS) hH.thr) (Nat.le_of_ble_eq_true rfl) (by decide) (Nat.zero_le _) (fun σ9 h9_6 => ?_)
  obtain ⟨M2, h9, d1, d2, d3, d4⟩ := h9_6
  subst h9
  have p0 : M2 (9, 0, 1, 0) 0 = S 0 := by rw [d2]
  refine aw_aload0 (pc := 9) F dX9_shift_9 ?_
  refine aw_iload1 (pc := 10) F dX9_shift_10 ?_
  refine aw_pcallV1 (pc := 11) F dX9_shift_11 ml_9_203 rfl (by first | decide | (simp only [inB, cnt, rcnt]; omega)) (ct9_modulo _ _ _ h1 (by omega)) (Nat.le_of_ble_eq_true rfl) (by decide) (Nat.zero_le _) ?_
  refine aw_istore2 (pc := 14) F dX9_shift_14 rfl hk.symm ?_
  refine aw_iconst (pc := 15) F dX9_shift_15 ?_
  refine aw_istore3 (pc := 16) F dX9_shift_16 rfl hk.symm ?_
  rw [p0, ← hQ]
  exact key E 0 M2 (by omega) (by rw [d3]; exact upd_same) (same9_thr.e.tr d1) (by rw [show ((0 : Nat) : Int) = 0 by rfl, mtS_0, d2]) d4
theorem ct9_isRange (M : Id4 → Int → Int) (b : Bool) (lo hi : Int) (h1 : inR lo) (h2 : inR hi) (hT : 2 ≤ M (9, 0, 1, 0) 0 ∧ M (9, 0, 1, 0) 0 ≤ 24) : CtI 2 0 yX9_isRange cX9_isRange 3 (some .boolean) [aR (9, 0, 0, 0), aI lo, aI hi] (M, R0 b) (PU (M, R0 b) (b2i ((0 ≤ lo ∧ lo ≤ 48) ∧ lo ≤ hi ∧ hi ≤ lo + M (9, 0, 1, 0) 0 - 1))) := by
  refine CtI.mk (by decide +kernel) rfl (Nat.le_of_ble_eq_true rfl) (fun X K F hk => ?_)
  refine aw_iload1 (pc := 0) F dX9_isRange_0 ?_
  refine aw_iconst (pc := 1) F dX9_isRange_1 ?_
  refine aw_bipush (pc := 2) F dX9_isRange_2 (by decide) ?_
  refine aw_pcallS3 (pc := 4) F dX9_isRange_4 ml_9_121 (ct9_isIn _ _ _ _ _ h1 (by unfold inR; omega) (by unfold inR; omega)) (Nat.le_of_ble_eq_true rfl) (by decide) (Nat.zero_le _) ?_
  refine aw_ifb_eq (tgt := 32) (pc := 7) F dX9_isRange_7 (by decide) (fun c7 => ?_) (fun c7 => ?_)
  · refine aw_iconst (pc := 32) F dX9_isRange_32 ?_
    exact aw_iret (pc := 33) F dX9_isRange_33 (nar_bool (by first | exact b2i_01 | decide)) (Nat.zero_le _) ⟨by first | exact (b2i_pos ⟨by assumption, by assumption⟩).symm | exact (b2i_neg (fun z => by first | exact absurd z.1 (by assumption) | exact absurd z.2 (by assumption))).symm, rfl⟩
  · refine aw_iload2 (pc := 10) F dX9_isRange_10 ?_
    refine aw_iload1 (pc := 11) F dX9_isRange_11 ?_
    refine aw_iload1 (pc := 12) F dX9_isRange_12 ?_
    refine aw_aload0 (pc := 13) F dX9_isRange_13 ?_
    refine aw_getR (pc := 14) F dX9_isRange_14 fl_9_7 rfl (by first | decide | (simp only [inB, cnt, rcnt]; omega)) rfl nz0 rfl ?_
    refine aw_iconst (pc := 17) F dX9_isRange_17 ?_
    refine aw_iald (pc := 18) F dX9_isRange_18 rfl (by first | decide | (simp only [inB, cnt, rcnt]; omega)) (by omega) ?_
    refine aw_iadd (pc := 19) F dX9_isRange_19 ?_
    refine aw_iconst (pc := 20) F dX9_isRange_20 ?_
    refine aw_isub (pc := 21) F dX9_isRange_21 ?_
    refine aw_pcallS3 (pc := 22) F dX9_isRange_22 ml_9_121 (ct9_isIn _ _ _ _ _ h2 h1 (by unfold inR; omega)) (Nat.le_of_ble_eq_true rfl) (by decide) (Nat.zero_le _) ?_
    refine aw_ifb_eq (tgt := 32) (pc := 25) F dX9_isRange_25 (by decide) (fun c25 => ?_) (fun c25 => ?_)
    · refine aw_iconst (pc := 32) F dX9_isRange_32 ?_
      exact aw_iret (pc := 33) F dX9_isRange_33 (nar_bool (by first | exact b2i_01 | decide)) (Nat.zero_le _) ⟨by first | exact (b2i_pos ⟨by assumption, by assumption⟩).symm | exact (b2i_neg (fun z => by first | exact absurd z.1 (by assumption) | exact absurd z.2 (by assumption))).symm, rfl⟩
    · refine aw_iconst (pc := 28) F dX9_isRange_28 ?_
      refine aw_goto (tgt := 33) (pc := 29) F dX9_isRange_29 (by decide) ?_
      exact aw_iret (pc := 33) F dX9_isRange_33 (nar_bool (by first | exact b2i_01 | decide)) (Nat.zero_le _) ⟨by first | exact (b2i_pos ⟨by assumption, by assumption⟩).symm | exact (b2i_neg (fun z => by first | exact absurd z.1 (by assumption) | exact absurd z.2 (by assumption))).symm, rfl⟩
theorem cq9_setSpan (M : Id4 → Int → Int) (b : Bool) (S : Int → Int) (n : Int) (Hs : Int → Int → Int) (k lo hi : Int) (h1 : inR k) (h2 : inR lo) (h3 : inR hi) (hS : M (9, 0, 1, 0) = S) (h : Ok S) (hH : hR9 M n Hs) : CtI 6 0 yX9_setSpan cX9_setSpan 4 (some .int) [aR (9, 0, 0, 0), aI k, aI lo, aI hi] (M, R0 b) (E9 M b (t2 (0 ≤ k ∧ k ≤ S 20 - 1) ((0 ≤ lo ∧ lo ≤ 48) ∧ lo ≤ hi ∧ hi ≤ lo + S 0 - 1)) (lo + slOf (upS (upS S (21 + 5 * k + 2) lo) (21 + 5 * k + 3) hi) k) (upS (upS S (21 + 5 * k + 2) lo) (21 + 5 * k + 3) hi) (min (n + 1) 10) (pushH n Hs S)) := by
  refine CtI.mk (by decide +kernel) rfl (Nat.le_of_ble_eq_true rfl) (fun X K F hk => ?_)
  have hT := h.1
  have hN := h.2.2.1
  have sq : CtI 2 0 yX9_isSpan cX9_isSpan 2 (some .boolean) [aR (9, 0, 0, 0), aI k] (M, R0 b) (PU (M, R0 b) (b2i (0 ≤ k ∧ k ≤ S 20 - 1))) := by
    have z := ct9_isSpan M b k h1 (by rw [hS]; exact hN)
    rw [hS] at z
    exact z
  have st : CtI 2 0 yX9_isRange cX9_isRange 3 (some .boolean) [aR (9, 0, 0, 0), aI lo, aI hi] (M, R0 b) (PU (M, R0 b) (b2i ((0 ≤ lo ∧ lo ≤ 48) ∧ lo ≤ hi ∧ hi ≤ lo + S 0 - 1))) := by
    have z := ct9_isRange M b lo hi h2 h3 (by rw [hS]; exact hT)
    rw [hS] at z
    exact z
  refine aw_aload0 (pc := 0) F dX9_setSpan_0 ?_
  refine aw_aload0 (pc := 1) F dX9_setSpan_1 ?_
  refine aw_iload1 (pc := 2) F dX9_setSpan_2 ?_
  refine aw_pcallV1 (pc := 3) F dX9_setSpan_3 ml_9_194 rfl (by first | decide | (simp only [inB, cnt, rcnt]; omega)) sq (Nat.le_of_ble_eq_true rfl) (by decide) (Nat.zero_le _) ?_
  refine aw_aload0 (pc := 6) F dX9_setSpan_6 ?_
  refine aw_iload2 (pc := 7) F dX9_setSpan_7 ?_
  refine aw_iload3 (pc := 8) F dX9_setSpan_8 ?_
  refine aw_pcallV2 (pc := 9) F dX9_setSpan_9 ml_9_352 rfl (by first | decide | (simp only [inB, cnt, rcnt]; omega)) st (Nat.le_of_ble_eq_true rfl) (by decide) (Nat.zero_le _) ?_
  refine aw_callVI2 (pc := 12) F dX9_setSpan_12 ml_9_197 rfl (by first | decide | (simp only [inB, cnt, rcnt]; omega)) (ct9_good2 _ _ _ _ (by first | exact b2i_01 | decide) (by first | exact b2i_01 | decide)) (Nat.le_of_ble_eq_true rfl) (by decide) (Nat.zero_le _) (fun v9 σ9 h9_12 => ?_)
  obtain ⟨rfl, rfl⟩ := h9_12
  refine aw_ifb_ne (tgt := 20) (pc := 15) F dX9_setSpan_15 (by decide) (fun c15 => ?_) (fun c15 => ?_)
  · rw [b2i_1, b2i_1] at c15
    have ht0 : t2 (0 ≤ k ∧ k ≤ S 20 - 1) ((0 ≤ lo ∧ lo ≤ 48) ∧ lo ≤ hi ∧ hi ≤ lo + S 0 - 1) = 0 := t2_0 c15.1 c15.2
    refine aw_aload0 (pc := 20) F dX9_setSpan_20 ?_
    refine aw_callVV0 (pc := 21) F dX9_setSpan_21 ml_9_349 rfl (by first | decide | (simp only [inB, cnt, rcnt]; omega)) (ct9_rememberE _ _ S n Hs (by rw [thr_s]; exact hS) hH.thr) (Nat.le_of_ble_eq_true rfl) (by decide) (Nat.zero_le _) (fun σ9 h9_21 => ?_)
    obtain ⟨M2, h9, d1, d2, d3, d4⟩ := h9_21
    subst h9
    have s2 : updM (updM M2 (9, 0, 1, 0) (21 + 5 * k + 2) lo) (9, 0, 1, 0) (21 + 5 * k + 3) hi (9, 0, 1, 0) = upS (upS S (21 + 5 * k + 2) lo) (21 + 5 * k + 3) hi := by rw [upd_row, upd_row, d2]
    have s20 : upS (upS S (21 + 5 * k + 2) lo) (21 + 5 * k + 3) hi 20 = S 20 := by rw [upS_ne (by omega), upS_ne (by omega)]
    refine aw_aload0 (pc := 24) F dX9_setSpan_24 ?_
    refine aw_getR (pc := 25) F dX9_setSpan_25 fl_9_7 rfl (by first | decide | (simp only [inB, cnt, rcnt]; omega)) rfl nz0 rfl ?_
    refine aw_iload1 (pc := 28) F dX9_setSpan_28 ?_
    refine aw_pcallS1 (pc := 29) F dX9_setSpan_29 ml_9_150 (ct9_at _ _ _) (Nat.le_of_ble_eq_true rfl) (by decide) (Nat.zero_le _) ?_
    refine aw_iconst (pc := 32) F dX9_setSpan_32 ?_
    refine aw_iadd (pc := 33) F dX9_setSpan_33 ?_
    refine aw_iload2 (pc := 34) F dX9_setSpan_34 ?_
    refine aw_iast (pc := 35) F dX9_setSpan_35 rfl (by first | decide | (simp only [inB, cnt, rcnt]; omega)) (by omega) ?_
    refine aw_aload0 (pc := 36) F dX9_setSpan_36 ?_
    refine aw_getR (pc := 37) F dX9_setSpan_37 fl_9_7 rfl (by first | decide | (simp only [inB, cnt, rcnt]; omega)) rfl nz0 rfl ?_
    refine aw_iload1 (pc := 40) F dX9_setSpan_40 ?_
    refine aw_pcallS1 (pc := 41) F dX9_setSpan_41 ml_9_150 (ct9_at _ _ _) (Nat.le_of_ble_eq_true rfl) (by decide) (Nat.zero_le _) ?_
    refine aw_iconst (pc := 44) F dX9_setSpan_44 ?_
    refine aw_iadd (pc := 45) F dX9_setSpan_45 ?_
    refine aw_iload3 (pc := 46) F dX9_setSpan_46 ?_
    refine aw_iast (pc := 47) F dX9_setSpan_47 rfl (by first | decide | (simp only [inB, cnt, rcnt]; omega)) (by omega) ?_
    refine aw_aload0 (pc := 48) F dX9_setSpan_48 ?_
    refine aw_iload1 (pc := 49) F dX9_setSpan_49 ?_
    refine aw_pcallV1 (pc := 50) F dX9_setSpan_50 ml_9_212 rfl (by first | decide | (simp only [inB, cnt, rcnt]; omega)) (ct9_durationOf _ _ _ (by rw [s2, s20]; omega) (by rw [s2]; exact ok_set h (by omega) c15.2.1 c15.2.2)) (Nat.le_of_ble_eq_true rfl) (by decide) (Nat.zero_le _) ?_
    exact aw_iret (pc := 53) F dX9_setSpan_53 rfl (Nat.zero_le _) (e9_yes ht0 (by rw [upd_ne (Or.inl (by decide)), upd_ne (Or.inl (by decide)), d3]; exact upd_same.trans ht0) (by rw [s2, upS_ne (by omega), upS_same]) ((same9_thr.e.tr d1).r.r) s2 d4.st.st)
  · refine aw_iconst (pc := 18) F dX9_setSpan_18 ?_
    exact aw_iret (pc := 19) F dX9_setSpan_19 rfl (Nat.zero_le _) (e9_no (t2_ne (fun z => c15 ⟨b2i_pos z.1, b2i_pos z.2⟩)))
theorem ct9_isWeight (M : Id4 → Int → Int) (b : Bool) (w : Int) (h1 : inR w) : CtI 2 0 yX9_isWeight cX9_isWeight 1 (some .boolean) [aI w] (M, R0 b) (PU (M, R0 b) (b2i (0 ≤ w ∧ w ≤ 20))) := by
  refine CtI.mk (by decide +kernel) rfl (Nat.le_of_ble_eq_true rfl) (fun X K F hk => ?_)
  refine aw_iload0 (pc := 0) F dX9_isWeight_0 ?_
  refine aw_iconst (pc := 1) F dX9_isWeight_1 ?_
  refine aw_bipush (pc := 2) F dX9_isWeight_2 (by decide) ?_
  refine aw_pcallS3 (pc := 4) F dX9_isWeight_4 ml_9_121 (ct9_isIn _ _ _ _ _ h1 (by unfold inR; omega) (by unfold inR; omega)) (Nat.le_of_ble_eq_true rfl) (by decide) (Nat.zero_le _) ?_
  exact aw_iret (pc := 7) F dX9_isWeight_7 (nar_bool (by first | exact b2i_01 | decide)) (Nat.zero_le _) ⟨rfl, rfl⟩
theorem cq9_setWeight (M : Id4 → Int → Int) (b : Bool) (S : Int → Int) (n : Int) (Hs : Int → Int → Int) (k w : Int) (h1 : inR k) (h2 : inR w) (hS : M (9, 0, 1, 0) = S) (h : Ok S) (hH : hR9 M n Hs) : CtI 3 0 yX9_setWeight cX9_setWeight 4 (some .int) [aR (9, 0, 0, 0), aI k, aI w] (M, R0 b) (E9 M b (t2 (0 ≤ k ∧ k ≤ S 20 - 1) (0 ≤ w ∧ w ≤ 20)) (S (21 + 5 * k + 4)) (upS S (21 + 5 * k + 4) w) (min (n + 1) 10) (pushH n Hs S)) := by
  refine CtI.mk (by decide +kernel) rfl (Nat.le_of_ble_eq_true rfl) (fun X K F hk => ?_)
  have hN := h.2.2.1
  have sq : CtI 2 0 yX9_isSpan cX9_isSpan 2 (some .boolean) [aR (9, 0, 0, 0), aI k] (M, R0 b) (PU (M, R0 b) (b2i (0 ≤ k ∧ k ≤ S 20 - 1))) := by
    have z := ct9_isSpan M b k h1 (by rw [hS]; exact hN)
    rw [hS] at z
    exact z
  refine aw_aload0 (pc := 0) F dX9_setWeight_0 ?_
  refine aw_aload0 (pc := 1) F dX9_setWeight_1 ?_
  refine aw_iload1 (pc := 2) F dX9_setWeight_2 ?_
  refine aw_pcallV1 (pc := 3) F dX9_setWeight_3 ml_9_194 rfl (by first | decide | (simp only [inB, cnt, rcnt]; omega)) sq (Nat.le_of_ble_eq_true rfl) (by decide) (Nat.zero_le _) ?_
  refine aw_iload2 (pc := 6) F dX9_setWeight_6 ?_
  refine aw_pcallS1 (pc := 7) F dX9_setWeight_7 ml_9_355 (ct9_isWeight _ _ _ h2) (Nat.le_of_ble_eq_true rfl) (by decide) (Nat.zero_le _) ?_
  refine aw_callVI2 (pc := 10) F dX9_setWeight_10 ml_9_197 rfl (by first | decide | (simp only [inB, cnt, rcnt]; omega)) (ct9_good2 _ _ _ _ (by first | exact b2i_01 | decide) (by first | exact b2i_01 | decide)) (Nat.le_of_ble_eq_true rfl) (by decide) (Nat.zero_le _) (fun v9 σ9 h9_10 => ?_)
  obtain ⟨rfl, rfl⟩ := h9_10
  refine aw_ifb_ne (tgt := 18) (pc := 13) F dX9_setWeight_13 (by decide) (fun c13 => ?_) (fun c13 => ?_)
  · rw [b2i_1, b2i_1] at c13
    have ht0 : t2 (0 ≤ k ∧ k ≤ S 20 - 1) (0 ≤ w ∧ w ≤ 20) = 0 := t2_0 c13.1 c13.2
    refine aw_aload0 (pc := 18) F dX9_setWeight_18 ?_
    refine aw_callVV0 (pc := 19) F dX9_setWeight_19 ml_9_349 rfl (by first | decide | (simp only [inB, cnt, rcnt]; omega)) (ct9_rememberE _ _ S n Hs (by rw [thr_s]; exact hS) hH.thr) (Nat.le_of_ble_eq_true rfl) (by decide) (Nat.zero_le _) (fun σ9 h9_19 => ?_)
    obtain ⟨M2, h9, d1, d2, d3, d4⟩ := h9_19
    subst h9
    have s2 : updM M2 (9, 0, 1, 0) (21 + 5 * k + 4) w (9, 0, 1, 0) = upS S (21 + 5 * k + 4) w := by rw [upd_row, d2]
    refine aw_aload0 (pc := 22) F dX9_setWeight_22 ?_
    refine aw_iload1 (pc := 23) F dX9_setWeight_23 ?_
    refine aw_iconst (pc := 24) F dX9_setWeight_24 ?_
    refine aw_pcallV2 (pc := 25) F dX9_setWeight_25 ml_9_200 rfl (by first | decide | (simp only [inB, cnt, rcnt]; omega)) (ct9_of _ _ _ _ (by omega) (by omega)) (Nat.le_of_ble_eq_true rfl) (by decide) (Nat.zero_le _) ?_
    refine aw_istore3 (pc := 28) F dX9_setWeight_28 rfl hk.symm ?_
    refine aw_aload0 (pc := 29) F dX9_setWeight_29 ?_
    refine aw_getR (pc := 30) F dX9_setWeight_30 fl_9_7 rfl (by first | decide | (simp only [inB, cnt, rcnt]; omega)) rfl nz0 rfl ?_
    refine aw_iload1 (pc := 33) F dX9_setWeight_33 ?_
    refine aw_pcallS1 (pc := 34) F dX9_setWeight_34 ml_9_150 (ct9_at _ _ _) (Nat.le_of_ble_eq_true rfl) (by decide) (Nat.zero_le _) ?_
    refine aw_iconst (pc := 37) F dX9_setWeight_37 ?_
    refine aw_iadd (pc := 38) F dX9_setWeight_38 ?_
    refine aw_iload2 (pc := 39) F dX9_setWeight_39 ?_
    refine aw_iast (pc := 40) F dX9_setWeight_40 rfl (by first | decide | (simp only [inB, cnt, rcnt]; omega)) (by omega) ?_
    refine aw_iload3 (pc := 41) F dX9_setWeight_41 ?_
    exact aw_iret (pc := 42) F dX9_setWeight_42 rfl (Nat.zero_le _) (e9_yes ht0 (by rw [upd_ne (Or.inl (by decide)), d3]; exact upd_same.trans ht0) (by rw [d2]) ((same9_thr.e.tr d1).r) s2 d4.st)
  · refine aw_iconst (pc := 16) F dX9_setWeight_16 ?_
    exact aw_iret (pc := 17) F dX9_setWeight_17 rfl (Nat.zero_le _) (e9_no (t2_ne (fun z => c13 ⟨b2i_pos z.1, b2i_pos z.2⟩)))
def t3 (c1 c2 c3 : Prop) [Decidable c1] [Decidable c2] [Decidable c3] : Int := if b2i c1 = 0 then 1 else if b2i c2 = 0 then 2 else if b2i c3 = 0 then 3 else 0
theorem t3_0 {c1 c2 c3 : Prop} [Decidable c1] [Decidable c2] [Decidable c3] (h1 : c1) (h2 : c2) (h3 : c3) : t3 c1 c2 c3 = 0 := by unfold t3; rw [b2i_pos h1, b2i_pos h2, b2i_pos h3]; rfl
theorem t3_1 {c1 c2 c3 : Prop} [Decidable c1] [Decidable c2] [Decidable c3] (h1 : ¬ c1) : t3 c1 c2 c3 = 1 := by unfold t3; rw [b2i_neg h1]; rfl
theorem t3_2 {c1 c2 c3 : Prop} [Decidable c1] [Decidable c2] [Decidable c3] (h1 : c1) (h2 : ¬ c2) : t3 c1 c2 c3 = 2 := by unfold t3; rw [b2i_pos h1, b2i_neg h2]; rfl
theorem t3_3 {c1 c2 c3 : Prop} [Decidable c1] [Decidable c2] [Decidable c3] (h1 : c1) (h2 : c2) (h3 : ¬ c3) : t3 c1 c2 c3 = 3 := by unfold t3; rw [b2i_pos h1, b2i_pos h2, b2i_neg h3]; rfl
theorem t3_ne {c1 c2 c3 : Prop} [Decidable c1] [Decidable c2] [Decidable c3] (h : ¬ (c1 ∧ c2 ∧ c3)) : ¬ t3 c1 c2 c3 = 0 := by
  by_cases h1 : c1
  · by_cases h2 : c2
    · rw [t3_3 h1 h2 (fun z => h ⟨h1, h2, z⟩)]; decide
    · rw [t3_2 h1 h2]; decide
  · rw [t3_1 h1]; decide
