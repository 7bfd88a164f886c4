/-! 31: the reference's bound, asked -/
theorem cq9_bound (M : Id4 → Int → Int) (b : Bool) (S : Int → Int) (k hi : Int) (h1 : inR k) (hh : hi = 0 ∨ hi = 1) (hS : M (9, 0, 1, 0) = S) (h : Ok S) : CtI 8 0 yX9_bound cX9_bound 5 (some .int) [aR (9, 0, 0, 0), aI k, aI hi] (M, R0 b) (QP M b (t2 (0 ≤ k ∧ k ≤ S 20 - 1) (¬ bdB S k hi (S 0).toNat = -1)) (bdB S k hi (S 0).toNat)) := by
  refine CtI.mk (by decide +kernel) rfl (Nat.le_of_ble_eq_true rfl) (fun X K F hk => ?_)
  have hN := h.2.2.1
  have hT := h.1
  have sq : CtI 2 0 yX9_isSpan cX9_isSpan 2 (some .boolean) [aR (9, 0, 0, 0), aI k] (M, R0 b) (PU (M, R0 b) (b2i (0 ≤ k ∧ k ≤ S 20 - 1))) := by
    have z := ct9_isSpan M b k h1 (by rw [hS]; exact hN)
    rw [hS] at z
    exact z
  have bi : b2i (0 ≤ k ∧ k ≤ S 20 - 1) = 0 ∨ b2i (0 ≤ k ∧ k ≤ S 20 - 1) = 1 := b2i_01
  refine aw_aload0 (pc := 0) F dX9_bound_0 ?_
  refine aw_iload1 (pc := 1) F dX9_bound_1 ?_
  refine aw_pcallV1 (pc := 2) F dX9_bound_2 ml_9_194 rfl (by first | decide | (simp only [inB, cnt, rcnt]; omega)) sq (Nat.le_of_ble_eq_true rfl) (by decide) (Nat.zero_le _) ?_
  refine aw_istore3 (pc := 5) F dX9_bound_5 rfl hk.symm ?_
  refine aw_iload3 (pc := 6) F dX9_bound_6 ?_
  refine aw_if_eq (tgt := 19) (pc := 7) F dX9_bound_7 (by decide) (by unfold inR; omega) (fun c7 => ?_) (fun c7 => ?_)
  · have c7' : ¬ (0 ≤ k ∧ k ≤ S 20 - 1) := fun z => by rw [b2i_pos z] at c7; omega
    refine aw_iconst (pc := 19) F dX9_bound_19 ?_
    refine aw_istore4 (pc := 20) F dX9_bound_20 rfl hk.symm ?_
    refine aw_aload0 (pc := 22) F dX9_bound_22 ?_
    refine aw_iload3 (pc := 23) F dX9_bound_23 ?_
    refine aw_iload4 (pc := 24) F dX9_bound_24 ?_
    refine aw_iconst (pc := 26) F dX9_bound_26 ?_
    refine aw_icmp_eq (tgt := 34) (pc := 27) F dX9_bound_27 (by decide) (by unfold inR; omega) (by unfold inR; omega) (fun c27 => ?_) (fun c27 => ?_)
    · refine aw_iconst (pc := 34) F dX9_bound_34 ?_
      refine aw_callVI2 (pc := 35) F dX9_bound_35 ml_9_197 rfl (by first | decide | (simp only [inB, cnt, rcnt]; omega)) (ct9_good2 _ _ _ _ (by first | exact b2i_01 | decide) (by first | exact b2i_01 | decide)) (Nat.le_of_ble_eq_true rfl) (by decide) (Nat.zero_le _) (fun v9 σ9 h9_35 => ?_)
      obtain ⟨rfl, rfl⟩ := h9_35
      refine aw_ifb_eq (tgt := 46) (pc := 38) F dX9_bound_38 (by decide) (fun c38 => ?_) (fun c38 => ?_)
      · refine aw_iconst (pc := 46) F dX9_bound_46 ?_
        exact aw_iret (pc := 47) F dX9_bound_47 rfl (Nat.zero_le _) (by first | exact ⟨_, rfl, sm.up (by unfold scr9; decide), (by show updM _ _ _ _ _ _ = _; rw [upd_same]; subst hv; first | (rw [t2_0 (by omega) (by omega), b2i_pos (by omega)]; rfl) | (rw [t2_2 (by omega) (by omega), b2i_pos (by omega)]; rfl)), fun z => by subst hv; first | rfl | (rw [t2_2 (by omega) (by omega)] at z; omega)⟩ | exact ⟨_, rfl, same9_thr, (by show updM _ _ _ _ _ _ = _; rw [upd_same, t2_1 (by omega), b2i_neg (by omega)]; rfl), fun z => by rw [t2_1 (by omega)] at z; omega⟩)
      · refine aw_iload4 (pc := 41) F dX9_bound_41 ?_
        refine aw_goto (tgt := 47) (pc := 43) F dX9_bound_43 (by decide) ?_
        exact aw_iret (pc := 47) F dX9_bound_47 rfl (Nat.zero_le _) (by first | exact ⟨_, rfl, sm.up (by unfold scr9; decide), (by show updM _ _ _ _ _ _ = _; rw [upd_same]; subst hv; first | (rw [t2_0 (by omega) (by omega), b2i_pos (by omega)]; rfl) | (rw [t2_2 (by omega) (by omega), b2i_pos (by omega)]; rfl)), fun z => by subst hv; first | rfl | (rw [t2_2 (by omega) (by omega)] at z; omega)⟩ | exact ⟨_, rfl, same9_thr, (by show updM _ _ _ _ _ _ = _; rw [upd_same, t2_1 (by omega), b2i_neg (by omega)]; rfl), fun z => by rw [t2_1 (by omega)] at z; omega⟩)
    · refine aw_iconst (pc := 30) F dX9_bound_30 ?_
      refine aw_goto (tgt := 35) (pc := 31) F dX9_bound_31 (by decide) ?_
      refine aw_callVI2 (pc := 35) F dX9_bound_35 ml_9_197 rfl (by first | decide | (simp only [inB, cnt, rcnt]; omega)) (ct9_good2 _ _ _ _ (by first | exact b2i_01 | decide) (by first | exact b2i_01 | decide)) (Nat.le_of_ble_eq_true rfl) (by decide) (Nat.zero_le _) (fun v9 σ9 h9_35 => ?_)
      obtain ⟨rfl, rfl⟩ := h9_35
      refine aw_ifb_eq (tgt := 46) (pc := 38) F dX9_bound_38 (by decide) (fun c38 => ?_) (fun c38 => ?_)
      · refine aw_iconst (pc := 46) F dX9_bound_46 ?_
        exact aw_iret (pc := 47) F dX9_bound_47 rfl (Nat.zero_le _) (by first | exact ⟨_, rfl, sm.up (by unfold scr9; decide), (by show updM _ _ _ _ _ _ = _; rw [upd_same]; subst hv; first | (rw [t2_0 (by omega) (by omega), b2i_pos (by omega)]; rfl) | (rw [t2_2 (by omega) (by omega), b2i_pos (by omega)]; rfl)), fun z => by subst hv; first | rfl | (rw [t2_2 (by omega) (by omega)] at z; omega)⟩ | exact ⟨_, rfl, same9_thr, (by show updM _ _ _ _ _ _ = _; rw [upd_same, t2_1 (by omega), b2i_neg (by omega)]; rfl), fun z => by rw [t2_1 (by omega)] at z; omega⟩)
      · refine aw_iload4 (pc := 41) F dX9_bound_41 ?_
        refine aw_goto (tgt := 47) (pc := 43) F dX9_bound_43 (by decide) ?_
        exact aw_iret (pc := 47) F dX9_bound_47 rfl (Nat.zero_le _) (by first | exact ⟨_, rfl, sm.up (by unfold scr9; decide), (by show updM _ _ _ _ _ _ = _; rw [upd_same]; subst hv; first | (rw [t2_0 (by omega) (by omega), b2i_pos (by omega)]; rfl) | (rw [t2_2 (by omega) (by omega), b2i_pos (by omega)]; rfl)), fun z => by subst hv; first | rfl | (rw [t2_2 (by omega) (by omega)] at z; omega)⟩ | exact ⟨_, rfl, same9_thr, (by show updM _ _ _ _ _ _ = _; rw [upd_same, t2_1 (by omega), b2i_neg (by omega)]; rfl), fun z => by rw [t2_1 (by omega)] at z; omega⟩)
  · have c7' : 0 ≤ k ∧ k ≤ S 20 - 1 := Classical.byContradiction fun z => c7 (b2i_neg z)
    refine aw_aload0 (pc := 10) F dX9_bound_10 ?_
    refine aw_iload1 (pc := 11) F dX9_bound_11 ?_
    refine aw_iload2 (pc := 12) F dX9_bound_12 ?_
    refine aw_callVI2 (pc := 13) F dX9_bound_13 ml_9_273 rfl (by first | decide | (simp only [inB, cnt, rcnt]; omega)) (ct9_boundOf _ _ S _ _ hS h (by omega) hh) (Nat.le_of_ble_eq_true rfl) (by decide) (Nat.zero_le _) (fun v9 σ9 h9_13 => ?_)
    obtain ⟨hv, A2, h9⟩ := h9_13
    subst h9
    have h3 := h.2.2.2.2 k (by omega) (by omega)
    unfold SpOk at h3
    have bb := bdB_bd (S := S) (k := k) (hi := hi) (by omega) (S 0).toNat (by omega)
    have sm : same9 M (setA (updM M (9, 0, 0, 0) 17 ((rdS S : Int) + 1)) (9, 0, 17, 0) A2) := (same9.rf.up (by unfold scr9; decide)).st (fun k => by unfold scr9; simp)
    refine aw_goto (tgt := 20) (pc := 16) F dX9_bound_16 (by decide) ?_
    refine aw_istore4 (pc := 20) F dX9_bound_20 rfl hk.symm ?_
    refine aw_aload0 (pc := 22) F dX9_bound_22 ?_
    refine aw_iload3 (pc := 23) F dX9_bound_23 ?_
    refine aw_iload4 (pc := 24) F dX9_bound_24 ?_
    refine aw_iconst (pc := 26) F dX9_bound_26 ?_
    refine aw_icmp_eq (tgt := 34) (pc := 27) F dX9_bound_27 (by decide) (by unfold inR; omega) (by unfold inR; omega) (fun c27 => ?_) (fun c27 => ?_)
    · refine aw_iconst (pc := 34) F dX9_bound_34 ?_
      refine aw_callVI2 (pc := 35) F dX9_bound_35 ml_9_197 rfl (by first | decide | (simp only [inB, cnt, rcnt]; omega)) (ct9_good2 _ _ _ _ (by first | exact b2i_01 | decide) (by first | exact b2i_01 | decide)) (Nat.le_of_ble_eq_true rfl) (by decide) (Nat.zero_le _) (fun v9 σ9 h9_35 => ?_)
      obtain ⟨rfl, rfl⟩ := h9_35
      refine aw_ifb_eq (tgt := 46) (pc := 38) F dX9_bound_38 (by decide) (fun c38 => ?_) (fun c38 => ?_)
      · refine aw_iconst (pc := 46) F dX9_bound_46 ?_
        exact aw_iret (pc := 47) F dX9_bound_47 rfl (Nat.zero_le _) (by first | exact ⟨_, rfl, sm.up (by unfold scr9; decide), (by show updM _ _ _ _ _ _ = _; rw [upd_same]; subst hv; first | (rw [t2_0 (by omega) (by omega), b2i_pos (by omega)]; rfl) | (rw [t2_2 (by omega) (by omega), b2i_pos (by omega)]; rfl)), fun z => by subst hv; first | rfl | (rw [t2_2 (by omega) (by omega)] at z; omega)⟩ | exact ⟨_, rfl, same9_thr, (by show updM _ _ _ _ _ _ = _; rw [upd_same, t2_1 (by omega), b2i_neg (by omega)]; rfl), fun z => by rw [t2_1 (by omega)] at z; omega⟩)
      · refine aw_iload4 (pc := 41) F dX9_bound_41 ?_
        refine aw_goto (tgt := 47) (pc := 43) F dX9_bound_43 (by decide) ?_
        exact aw_iret (pc := 47) F dX9_bound_47 rfl (Nat.zero_le _) (by first | exact ⟨_, rfl, sm.up (by unfold scr9; decide), (by show updM _ _ _ _ _ _ = _; rw [upd_same]; subst hv; first | (rw [t2_0 (by omega) (by omega), b2i_pos (by omega)]; rfl) | (rw [t2_2 (by omega) (by omega), b2i_pos (by omega)]; rfl)), fun z => by subst hv; first | rfl | (rw [t2_2 (by omega) (by omega)] at z; omega)⟩ | exact ⟨_, rfl, same9_thr, (by show updM _ _ _ _ _ _ = _; rw [upd_same, t2_1 (by omega), b2i_neg (by omega)]; rfl), fun z => by rw [t2_1 (by omega)] at z; omega⟩)
    · refine aw_iconst (pc := 30) F dX9_bound_30 ?_
      refine aw_goto (tgt := 35) (pc := 31) F dX9_bound_31 (by decide) ?_
      refine aw_callVI2 (pc := 35) F dX9_bound_35 ml_9_197 rfl (by first | decide | (simp only [inB, cnt, rcnt]; omega)) (ct9_good2 _ _ _ _ (by first | exact b2i_01 | decide) (by first | exact b2i_01 | decide)) (Nat.le_of_ble_eq_true rfl) (by decide) (Nat.zero_le _) (fun v9 σ9 h9_35 => ?_)
      obtain ⟨rfl, rfl⟩ := h9_35
      refine aw_ifb_eq (tgt := 46) (pc := 38) F dX9_bound_38 (by decide) (fun c38 => ?_) (fun c38 => ?_)
      · refine aw_iconst (pc := 46) F dX9_bound_46 ?_
        exact aw_iret (pc := 47) F dX9_bound_47 rfl (Nat.zero_le _) (by first | exact ⟨_, rfl, sm.up (by unfold scr9; decide), (by show updM _ _ _ _ _ _ = _; rw [upd_same]; subst hv; first | (rw [t2_0 (by omega) (by omega), b2i_pos (by omega)]; rfl) | (rw [t2_2 (by omega) (by omega), b2i_pos (by omega)]; rfl)), fun z => by subst hv; first | rfl | (rw [t2_2 (by omega) (by omega)] at z; omega)⟩ | exact ⟨_, rfl, same9_thr, (by show updM _ _ _ _ _ _ = _; rw [upd_same, t2_1 (by omega), b2i_neg (by omega)]; rfl), fun z => by rw [t2_1 (by omega)] at z; omega⟩)
      · refine aw_iload4 (pc := 41) F dX9_bound_41 ?_
        refine aw_goto (tgt := 47) (pc := 43) F dX9_bound_43 (by decide) ?_
        exact aw_iret (pc := 47) F dX9_bound_47 rfl (Nat.zero_le _) (by first | exact ⟨_, rfl, sm.up (by unfold scr9; decide), (by show updM _ _ _ _ _ _ = _; rw [upd_same]; subst hv; first | (rw [t2_0 (by omega) (by omega), b2i_pos (by omega)]; rfl) | (rw [t2_2 (by omega) (by omega), b2i_pos (by omega)]; rfl)), fun z => by subst hv; first | rfl | (rw [t2_2 (by omega) (by omega)] at z; omega)⟩ | exact ⟨_, rfl, same9_thr, (by show updM _ _ _ _ _ _ = _; rw [upd_same, t2_1 (by omega), b2i_neg (by omega)]; rfl), fun z => by rw [t2_1 (by omega)] at z; omega⟩)
