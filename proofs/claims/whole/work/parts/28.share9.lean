/-! 28: the reference's shares -/
theorem ct9_restOf (M : Id4 → Int → Int) (b : Bool) (S : Int → Int) (s n : Int) (hS : M (9, 0, 1, 0) = S) (h : Ok S) (hs : 0 ≤ s ∧ s < S 20) (hn : 0 ≤ n ∧ n ≤ 999) (hw : 0 < wts S) : CtI 3 0 yX9_restOf cX9_restOf 4 (some .int) [aR (9, 0, 0, 0), aI s, aI n, aI (wts S)] (M, R0 b) (PU (M, R0 b) (shR S n s)) := by
  refine CtI.mk (by decide +kernel) rfl (Nat.le_of_ble_eq_true rfl) (fun X K F hk => ?_)
  have hN := h.2.2.1
  have hW := wts_bd h
  have ps := shP_bd h hn hs
  have es' : n * M (9, 0, 1, 0) (21 + 5 * s + 4) = shP S n s := by rw [hS]; rfl
  refine aw_iload2 (pc := 0) F dX9_restOf_0 ?_
  refine aw_aload0 (pc := 1) F dX9_restOf_1 ?_
  refine aw_iload1 (pc := 2) F dX9_restOf_2 ?_
  refine aw_iconst (pc := 3) F dX9_restOf_3 ?_
  refine aw_pcallV2 (pc := 4) F dX9_restOf_4 ml_9_200 rfl (by first | decide | (simp only [inB, cnt, rcnt]; omega)) (ct9_of _ _ _ _ (by omega) (by omega)) (Nat.le_of_ble_eq_true rfl) (by decide) (Nat.zero_le _) ?_
  refine aw_imul (pc := 7) F dX9_restOf_7 ?_
  refine aw_iload3 (pc := 8) F dX9_restOf_8 ?_
  refine aw_irem (pc := 9) F dX9_restOf_9 (by first | (unfold inR; omega) | (rw [es']; unfold inR; omega)) (by first | (unfold inR; omega) | (rw [es']; unfold inR; omega)) (by omega) (by omega) ?_
  exact aw_iret (pc := 10) F dX9_restOf_10 rfl (Nat.zero_le _) ⟨by rw [es']; rfl, rfl⟩
theorem cq9_share (M : Id4 → Int → Int) (b : Bool) (S : Int → Int) (s n : Int) (h1 : inR s) (h2 : inR n) (hS : M (9, 0, 1, 0) = S) (h : Ok S) : CtI 4 0 yX9_share cX9_share 9 (some .int) [aR (9, 0, 0, 0), aI s, aI n] (M, R0 b) (QP M b (t2 (0 ≤ s ∧ s ≤ S 20 - 1) (0 ≤ n ∧ n ≤ 999)) (shS S n s)) := by
  subst hS
  refine CtI.mk (by decide +kernel) rfl (Nat.le_of_ble_eq_true rfl) (fun X K F hk => ?_)
  have hN := h.2.2.1
  have hW := wts_bd h
  obtain ⟨S, hS⟩ : ∃ S, S = M (9, 0, 1, 0) := ⟨_, rfl⟩
  rw [← hS] at h hN hW
  rw [← hS]
  obtain ⟨t, ht⟩ : ∃ t, t = t2 (0 ≤ s ∧ s ≤ S 20 - 1) (0 ≤ n ∧ n ≤ 999) := ⟨_, rfl⟩
  have s1 : thr M t (9, 0, 1, 0) = S := by rw [thr_s, hS]
  have s20 := congrFun s1 20
  obtain ⟨Q9, hQ⟩ : ∃ Q9, Q9 = EI X K 0 (QP M b (t2 (0 ≤ s ∧ s ≤ S 20 - 1) (0 ≤ n ∧ n ≤ 999)) (shS S n s)) := ⟨_, rfl⟩
  have key : (0 ≤ s ∧ s < S 20) → (0 ≤ n ∧ n ≤ 999) → 0 < wts S → ∀ (j k : Nat) (w8 : AV), (k : Int) + j = S 20 → wide w8 = false → AW X K 52 [aR (9, 0, 0, 0), aI s, aI n, aI (wts S), aI (shL S n k), aI (shC S n s k), aI (shR S n s), aI k, w8] [] (thr M t, R0 b) 0 Q9 := by
    intro hs hn hw j
    have es' : n * thr M t (9, 0, 1, 0) (21 + 5 * s + 4) = shP S n s := by rw [s1]; rfl
    have ps := shP_bd h hn hs
    have ms := shM_bd ps ⟨hw, hW.2⟩
    induction j with
    | zero =>
      intro k w8 hk9 g8
      have bl := shL_bd h hn k (by omega)
      have bc := shC_bd (S := S) (n := n) (s := s) k
      have nk : (S 20).toNat = k := by omega
      refine aw_iload7 (pc := 52) F dX9_share_52 ?_
      refine aw_aload0 (pc := 54) F dX9_share_54 ?_
      refine aw_getR (pc := 55) F dX9_share_55 fl_9_7 rfl (by first | decide | (simp only [inB, cnt, rcnt]; omega)) rfl nz0 rfl ?_
      refine aw_bipush (pc := 58) F dX9_share_58 (by decide) ?_
      refine aw_iald (pc := 60) F dX9_share_60 rfl (by first | decide | (simp only [inB, cnt, rcnt]; omega)) (by omega) ?_
      refine aw_icmp_ge (tgt := 119) (pc := 61) F dX9_share_61 (by decide) (by first | (unfold inR; omega) | (rw [es']; unfold inR; omega)) (by first | (unfold inR; omega) | (rw [es']; unfold inR; omega)) (fun c61 => ?_) (fun c61 => ?_)
      · refine aw_iload2 (pc := 119) F dX9_share_119 ?_
        refine aw_aload0 (pc := 120) F dX9_share_120 ?_
        refine aw_iload1 (pc := 121) F dX9_share_121 ?_
        refine aw_iconst (pc := 122) F dX9_share_122 ?_
        refine aw_pcallV2 (pc := 123) F dX9_share_123 ml_9_200 rfl (by first | decide | (simp only [inB, cnt, rcnt]; omega)) (ct9_of _ _ _ _ (by omega) (by omega)) (Nat.le_of_ble_eq_true rfl) (by decide) (Nat.zero_le _) ?_
        refine aw_imul (pc := 126) F dX9_share_126 ?_
        refine aw_iload3 (pc := 127) F dX9_share_127 ?_
        refine aw_idiv (pc := 128) F dX9_share_128 (by first | (unfold inR; omega) | (rw [es']; unfold inR; omega)) (by first | (unfold inR; omega) | (rw [es']; unfold inR; omega)) (by omega) (by omega) ?_
        refine aw_iload5 (pc := 129) F dX9_share_129 ?_
        refine aw_iload4 (pc := 131) F dX9_share_131 ?_
        refine aw_icmp_ge (tgt := 140) (pc := 133) F dX9_share_133 (by decide) (by first | (unfold inR; omega) | (rw [es']; unfold inR; omega)) (by first | (unfold inR; omega) | (rw [es']; unfold inR; omega)) (fun c133 => ?_) (fun c133 => ?_)
        · refine aw_iconst (pc := 140) F dX9_share_140 ?_
          refine aw_iadd (pc := 141) F dX9_share_141 ?_
          rw [hQ]
          exact aw_iret (pc := 142) F dX9_share_142 rfl (Nat.zero_le _) ⟨_, rfl, same9_thr, ht ▸ upd_same, fun _ => by unfold shS; rw [if_neg (by omega), nk, es']; first | rw [b2i_pos c133] | rw [b2i_neg (Int.not_lt.mpr c133)]⟩
        · refine aw_iconst (pc := 136) F dX9_share_136 ?_
          refine aw_goto (tgt := 141) (pc := 137) F dX9_share_137 (by decide) ?_
          refine aw_iadd (pc := 141) F dX9_share_141 ?_
          rw [hQ]
          exact aw_iret (pc := 142) F dX9_share_142 rfl (Nat.zero_le _) ⟨_, rfl, same9_thr, ht ▸ upd_same, fun _ => by unfold shS; rw [if_neg (by omega), nk, es']; first | rw [b2i_pos c133] | rw [b2i_neg (Int.not_lt.mpr c133)]⟩
      · omega
    | succ j ih =>
      intro k w8 hk9 g8
      have bl := shL_bd h hn k (by omega)
      have bc := shC_bd (S := S) (n := n) (s := s) k
      have ek' : n * thr M t (9, 0, 1, 0) (21 + 5 * (k : Int) + 4) = shP S n k := by rw [s1]; rfl
      have pk := shP_bd h hn (k := (k : Int)) (by omega)
      have mk9 := shM_bd pk ⟨hw, hW.2⟩
      have yes : shB S n s k → shC S n s (k + 1) = shC S n s k + 1 := fun z => by show _ + b2i (shB S n s (k : Int)) = _; rw [b2i_pos z]
      have no : ¬ shB S n s k → shC S n s (k + 1) = shC S n s k := fun z => by show _ + b2i (shB S n s (k : Int)) = _; rw [b2i_neg z]; omega
      have g := fun w8 => ih (k + 1) w8 (by omega)
      have ri : inR (shR S n (k : Int)) := by show inR ((shP S n k).tmod (wts S)); unfold inR; omega
      have rs : inR (shR S n s) := by show inR ((shP S n s).tmod (wts S)); unfold inR; omega
      refine aw_iload7 (pc := 52) F dX9_share_52 ?_
      refine aw_aload0 (pc := 54) F dX9_share_54 ?_
      refine aw_getR (pc := 55) F dX9_share_55 fl_9_7 rfl (by first | decide | (simp only [inB, cnt, rcnt]; omega)) rfl nz0 rfl ?_
      refine aw_bipush (pc := 58) F dX9_share_58 (by decide) ?_
      refine aw_iald (pc := 60) F dX9_share_60 rfl (by first | decide | (simp only [inB, cnt, rcnt]; omega)) (by omega) ?_
      refine aw_icmp_ge (tgt := 119) (pc := 61) F dX9_share_61 (by decide) (by first | exact ri | exact rs | (unfold inR; omega)) (by first | exact ri | exact rs | (unfold inR; omega)) (fun c61 => ?_) (fun c61 => ?_)
      · omega
      · refine aw_iload4 (pc := 64) F dX9_share_64 ?_
        refine aw_iload2 (pc := 66) F dX9_share_66 ?_
        refine aw_aload0 (pc := 67) F dX9_share_67 ?_
        refine aw_iload7 (pc := 68) F dX9_share_68 ?_
        refine aw_iconst (pc := 70) F dX9_share_70 ?_
        refine aw_pcallV2 (pc := 71) F dX9_share_71 ml_9_200 rfl (by first | decide | (simp only [inB, cnt, rcnt]; omega)) (ct9_of _ _ _ _ (by omega) (by omega)) (Nat.le_of_ble_eq_true rfl) (by decide) (Nat.zero_le _) ?_
        refine aw_imul (pc := 74) F dX9_share_74 ?_
        rw [ek']
        refine aw_iload3 (pc := 75) F dX9_share_75 ?_
        refine aw_idiv (pc := 76) F dX9_share_76 (by first | exact ri | exact rs | (unfold inR; omega)) (by first | exact ri | exact rs | (unfold inR; omega)) (by omega) (by omega) ?_
        refine aw_isub (pc := 77) F dX9_share_77 ?_
        refine aw_istore4 (pc := 78) F dX9_share_78 (by simp only [List.all_cons, List.all_nil, g8]; rfl) hk.symm ?_
        refine aw_aload0 (pc := 80) F dX9_share_80 ?_
        refine aw_iload7 (pc := 81) F dX9_share_81 ?_
        refine aw_iload2 (pc := 83) F dX9_share_83 ?_
        refine aw_iload3 (pc := 84) F dX9_share_84 ?_
        refine aw_pcallV3 (pc := 85) F dX9_share_85 ml_9_345 rfl (by first | decide | (simp only [inB, cnt, rcnt]; omega)) (ct9_restOf _ _ S _ _ s1 h (by omega) hn hw) (Nat.le_of_ble_eq_true rfl) (by decide) (Nat.zero_le _) ?_
        refine aw_istore8 (pc := 88) F dX9_share_88 (by simp only [List.all_cons, List.all_nil, g8]; rfl) hk.symm ?_
        refine aw_iload8 (pc := 90) F dX9_share_90 ?_
        refine aw_iload6 (pc := 92) F dX9_share_92 ?_
        refine aw_icmp_gt (tgt := 110) (pc := 94) F dX9_share_94 (by decide) (by first | exact ri | exact rs | (unfold inR; omega)) (by first | exact ri | exact rs | (unfold inR; omega)) (fun c94 => ?_) (fun c94 => ?_)
        · refine aw_iinc5 (pc := 110) F dX9_share_110 (by simp only [List.all_cons, List.all_nil, g8]; rfl) hk.symm ?_
          refine aw_iinc7 (pc := 113) F dX9_share_113 (by simp only [List.all_cons, List.all_nil, g8]; rfl) hk.symm ?_
          refine aw_goto (tgt := 52) (pc := 116) F dX9_share_116 (by decide) ?_
          have g2 := g (aI (shR S n k)) rfl
          first | (rw [yes (Or.inl c94)] at g2; exact g2) | (rw [yes (Or.inr ⟨c101, c107⟩)] at g2; exact g2) | (rw [no (fun z => z.elim (fun z => Int.not_lt.mpr c94 z) (fun z => by first | exact c101 z.1 | exact Int.not_lt.mpr c107 z.2))] at g2; exact g2)
        · refine aw_iload8 (pc := 97) F dX9_share_97 ?_
          refine aw_iload6 (pc := 99) F dX9_share_99 ?_
          refine aw_icmp_ne (tgt := 113) (pc := 101) F dX9_share_101 (by decide) (by first | exact ri | exact rs | (unfold inR; omega)) (by first | exact ri | exact rs | (unfold inR; omega)) (fun c101 => ?_) (fun c101 => ?_)
          · refine aw_iinc7 (pc := 113) F dX9_share_113 (by simp only [List.all_cons, List.all_nil, g8]; rfl) hk.symm ?_
            refine aw_goto (tgt := 52) (pc := 116) F dX9_share_116 (by decide) ?_
            have g2 := g (aI (shR S n k)) rfl
            first | (rw [yes (Or.inl c94)] at g2; exact g2) | (rw [yes (Or.inr ⟨c101, c107⟩)] at g2; exact g2) | (rw [no (fun z => z.elim (fun z => Int.not_lt.mpr c94 z) (fun z => by first | exact c101 z.1 | exact Int.not_lt.mpr c107 z.2))] at g2; exact g2)
          · refine aw_iload7 (pc := 104) F dX9_share_104 ?_
            refine aw_iload1 (pc := 106) F dX9_share_106 ?_
            refine aw_icmp_ge (tgt := 113) (pc := 107) F dX9_share_107 (by decide) (by first | exact ri | exact rs | (unfold inR; omega)) (by first | exact ri | exact rs | (unfold inR; omega)) (fun c107 => ?_) (fun c107 => ?_)
            · refine aw_iinc7 (pc := 113) F dX9_share_113 (by simp only [List.all_cons, List.all_nil, g8]; rfl) hk.symm ?_
              refine aw_goto (tgt := 52) (pc := 116) F dX9_share_116 (by decide) ?_
              have g2 := g (aI (shR S n k)) rfl
              first | (rw [yes (Or.inl c94)] at g2; exact g2) | (rw [yes (Or.inr ⟨c101, c107⟩)] at g2; exact g2) | (rw [no (fun z => z.elim (fun z => Int.not_lt.mpr c94 z) (fun z => by first | exact c101 z.1 | exact Int.not_lt.mpr c107 z.2))] at g2; exact g2)
            · refine aw_iinc5 (pc := 110) F dX9_share_110 (by simp only [List.all_cons, List.all_nil, g8]; rfl) hk.symm ?_
              refine aw_iinc7 (pc := 113) F dX9_share_113 (by simp only [List.all_cons, List.all_nil, g8]; rfl) hk.symm ?_
              refine aw_goto (tgt := 52) (pc := 116) F dX9_share_116 (by decide) ?_
              have g2 := g (aI (shR S n k)) rfl
              first | (rw [yes (Or.inl c94)] at g2; exact g2) | (rw [yes (Or.inr ⟨c101, c107⟩)] at g2; exact g2) | (rw [no (fun z => z.elim (fun z => Int.not_lt.mpr c94 z) (fun z => by first | exact c101 z.1 | exact Int.not_lt.mpr c107 z.2))] at g2; exact g2)
  have wq : ∀ u, CtI 3 0 yX9_weights cX9_weights 3 (some .int) [aR (9, 0, 0, 0)] (thr M u, R0 b) (PU (thr M u, R0 b) (wts S)) := fun u => by
    have z := ct9_weights (thr M u) b (by rw [thr_s, ← hS]; exact h)
    rw [thr_s, ← hS] at z
    exact z
  have sq : CtI 2 0 yX9_isSpan cX9_isSpan 2 (some .boolean) [aR (9, 0, 0, 0), aI s] (M, R0 b) (PU (M, R0 b) (b2i (0 ≤ s ∧ s ≤ S 20 - 1))) := by
    have z := ct9_isSpan M b s h1 (by rw [← hS]; exact hN)
    rw [← hS] at z
    exact z
  refine aw_aload0 (pc := 0) F dX9_share_0 ?_
  refine aw_aload0 (pc := 1) F dX9_share_1 ?_
  refine aw_iload1 (pc := 2) F dX9_share_2 ?_
  refine aw_pcallV1 (pc := 3) F dX9_share_3 ml_9_194 rfl (by first | decide | (simp only [inB, cnt, rcnt]; omega)) sq (Nat.le_of_ble_eq_true rfl) (by decide) (Nat.zero_le _) ?_
  refine aw_iload2 (pc := 6) F dX9_share_6 ?_
  refine aw_iconst (pc := 7) F dX9_share_7 ?_
  refine aw_sipush (pc := 8) F dX9_share_8 (by decide) ?_
  refine aw_pcallS3 (pc := 11) F dX9_share_11 ml_9_121 (ct9_isIn _ _ _ _ _ h2 (by unfold inR; omega) (by unfold inR; omega)) (Nat.le_of_ble_eq_true rfl) (by decide) (Nat.zero_le _) ?_
  refine aw_callVI2 (pc := 14) F dX9_share_14 ml_9_197 rfl (by first | decide | (simp only [inB, cnt, rcnt]; omega)) (ct9_good2 _ _ _ _ (by first | exact b2i_01 | decide) (by first | exact b2i_01 | decide)) (Nat.le_of_ble_eq_true rfl) (by decide) (Nat.zero_le _) (fun v9 σ9 h9_14 => ?_)
  obtain ⟨rfl, rfl⟩ := h9_14
  refine aw_ifb_eq (tgt := 27) (pc := 17) F dX9_share_17 (by decide) (fun c17 => ?_) (fun c17 => ?_)
  · refine aw_iconst (pc := 27) F dX9_share_27 ?_
    exact aw_iret (pc := 28) F dX9_share_28 rfl (Nat.zero_le _) (by first | exact qp2 (fun z1 z2 => absurd ⟨b2i_pos z1, b2i_pos z2⟩ c17) | exact ⟨_, rfl, same9_thr, upd_same, fun _ => by unfold shS; rw [if_pos (by omega)]⟩)
  · rw [b2i_1, b2i_1] at c17
    refine aw_aload0 (pc := 20) F dX9_share_20 ?_
    refine aw_pcallV0 (pc := 21) F dX9_share_21 ml_9_224 rfl (by first | decide | (simp only [inB, cnt, rcnt]; omega)) (wq _) (Nat.le_of_ble_eq_true rfl) (by decide) (Nat.zero_le _) ?_
    refine aw_if_ne (tgt := 29) (pc := 24) F dX9_share_24 (by decide) (by unfold inR; omega) (fun c24 => ?_) (fun c24 => ?_)
    · refine aw_aload0 (pc := 29) F dX9_share_29 ?_
      refine aw_pcallV0 (pc := 30) F dX9_share_30 ml_9_224 rfl (by first | decide | (simp only [inB, cnt, rcnt]; omega)) (wq _) (Nat.le_of_ble_eq_true rfl) (by decide) (Nat.zero_le _) ?_
      refine aw_istore3 (pc := 33) F dX9_share_33 rfl hk.symm ?_
      refine aw_iload2 (pc := 34) F dX9_share_34 ?_
      refine aw_istore4 (pc := 35) F dX9_share_35 rfl hk.symm ?_
      refine aw_iconst (pc := 37) F dX9_share_37 ?_
      refine aw_istore5 (pc := 38) F dX9_share_38 rfl hk.symm ?_
      refine aw_aload0 (pc := 40) F dX9_share_40 ?_
      refine aw_iload1 (pc := 41) F dX9_share_41 ?_
      refine aw_iload2 (pc := 42) F dX9_share_42 ?_
      refine aw_iload3 (pc := 43) F dX9_share_43 ?_
      refine aw_pcallV3 (pc := 44) F dX9_share_44 ml_9_345 rfl (by first | decide | (simp only [inB, cnt, rcnt]; omega)) (ct9_restOf _ _ S _ _ (by rw [thr_s, hS]) h (by omega) (by omega) (by omega)) (Nat.le_of_ble_eq_true rfl) (by decide) (Nat.zero_le _) ?_
      refine aw_istore6 (pc := 47) F dX9_share_47 rfl hk.symm ?_
      refine aw_iconst (pc := 49) F dX9_share_49 ?_
      refine aw_istore7 (pc := 50) F dX9_share_50 rfl hk.symm ?_
      have g := key (by omega) (by omega) (by omega) (S 20).toNat 0 aX (by omega) rfl
      rw [hQ, ht] at g
      exact g
    · refine aw_iconst (pc := 27) F dX9_share_27 ?_
      exact aw_iret (pc := 28) F dX9_share_28 rfl (Nat.zero_le _) (by first | exact qp2 (fun z1 z2 => absurd ⟨b2i_pos z1, b2i_pos z2⟩ c17) | exact ⟨_, rfl, same9_thr, upd_same, fun _ => by unfold shS; rw [if_pos (by omega)]⟩)
