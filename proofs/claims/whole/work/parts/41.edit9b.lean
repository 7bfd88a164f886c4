/-! 41: the reference's further edits -/
theorem cq9_addSpan (M : Id4 → Int → Int) (b : Bool) (S : Int → Int) (n : Int) (Hs : Int → Int → Int) (x y lo hi w : Int) (h1 : inR x) (h2 : inR y) (h3 : inR lo) (h4 : inR hi) (h5 : inR w) (hS : M (9, 0, 1, 0) = S) (h : Ok S) (hH : hR9 M n Hs) : CtI 4 0 yX9_addSpan cX9_addSpan 8 (some .int) [aR (9, 0, 0, 0), aI x, aI y, aI lo, aI hi, aI w] (M, R0 b) (E9 M b (t3 ((0 ≤ x ∧ x ≤ S 1 - 1) ∧ (0 ≤ y ∧ y ≤ S 1 - 1)) (x ≠ y ∧ ((0 ≤ lo ∧ lo ≤ 48) ∧ lo ≤ hi ∧ hi ≤ lo + S 0 - 1) ∧ 0 ≤ w ∧ w ≤ 20) (S 20 < 14)) (S 20) (apS S x y lo hi w) (min (n + 1) 10) (pushH n Hs S)) := by
  refine CtI.mk (by decide +kernel) rfl (Nat.le_of_ble_eq_true rfl) (fun X K F hk => ?_)
  have hT := h.1
  have hN := h.2.2.1
  have hE := h.2.1
  have s20 := congrFun hS 20
  have sq : CtI 3 0 yX9_areEvents cX9_areEvents 3 (some .boolean) [aR (9, 0, 0, 0), aI x, aI y] (M, R0 b) (PU (M, R0 b) (b2i ((0 ≤ x ∧ x ≤ S 1 - 1) ∧ (0 ≤ y ∧ y ≤ S 1 - 1)))) := by
    have z := ct9_areEvents M b x y h1 h2 (by rw [hS]; exact hE)
    rw [hS] at z
    exact z
  have st : CtI 2 0 yX9_isRange cX9_isRange 3 (some .boolean) [aR (9, 0, 0, 0), aI lo, aI hi] (M, R0 b) (PU (M, R0 b) (b2i ((0 ≤ lo ∧ lo ≤ 48) ∧ lo ≤ hi ∧ hi ≤ lo + S 0 - 1))) := by
    have z := ct9_isRange M b lo hi h3 h4 (by rw [hS]; exact hT)
    rw [hS] at z
    exact z
  obtain ⟨A, hA⟩ : ∃ A : Prop, A = ((0 ≤ x ∧ x ≤ S 1 - 1) ∧ (0 ≤ y ∧ y ≤ S 1 - 1)) := ⟨_, rfl⟩
  have go : ∀ v, v = b2i (x ≠ y ∧ ((0 ≤ lo ∧ lo ≤ 48) ∧ lo ≤ hi ∧ hi ≤ lo + S 0 - 1) ∧ 0 ≤ w ∧ w ≤ 20) → AW X K 30 [aR (9, 0, 0, 0), aI x, aI y, aI lo, aI hi, aI w, aI v, aX] [] (M, R0 b) 0 (EI X K 0 (E9 M b (t3 ((0 ≤ x ∧ x ≤ S 1 - 1) ∧ (0 ≤ y ∧ y ≤ S 1 - 1)) (x ≠ y ∧ ((0 ≤ lo ∧ lo ≤ 48) ∧ lo ≤ hi ∧ hi ≤ lo + S 0 - 1) ∧ 0 ≤ w ∧ w ≤ 20) (S 20 < 14)) (S 20) (apS S x y lo hi w) (min (n + 1) 10) (pushH n Hs S))) := by
    intro v hv
    have hv1 : v = 0 ∨ v = 1 := by rw [hv]; exact b2i_01
    have main : ∀ z : Int, z = b2i (S 20 < 14) → AW X K 56 [aR (9, 0, 0, 0), aI x, aI y, aI lo, aI hi, aI w, aI v, aX] [aI z, aI v, aI (b2i ((0 ≤ x ∧ x ≤ S 1 - 1) ∧ (0 ≤ y ∧ y ≤ S 1 - 1))), aR (9, 0, 0, 0)] (M, R0 b) 0 (EI X K 0 (E9 M b (t3 ((0 ≤ x ∧ x ≤ S 1 - 1) ∧ (0 ≤ y ∧ y ≤ S 1 - 1)) (x ≠ y ∧ ((0 ≤ lo ∧ lo ≤ 48) ∧ lo ≤ hi ∧ hi ≤ lo + S 0 - 1) ∧ 0 ≤ w ∧ w ≤ 20) (S 20 < 14)) (S 20) (apS S x y lo hi w) (min (n + 1) 10) (pushH n Hs S))) := by
      intro z hz
      have hz1 : z = 0 ∨ z = 1 := by rw [hz]; exact b2i_01
      refine aw_callVI3 (pc := 56) F dX9_addSpan_56 ml_9_57 rfl (by first | decide | (simp only [inB, cnt, rcnt]; omega)) (ct9_good3 _ _ _ _ _ b2i_01 hv1 hz1) (Nat.le_of_ble_eq_true rfl) (by decide) (Nat.zero_le _) (fun v9 σ9 h9_56 => ?_)
      obtain ⟨g1, g2⟩ := h9_56
      subst g1
      subst g2
      rw [hv, hz, show (if b2i ((0 ≤ x ∧ x ≤ S 1 - 1) ∧ (0 ≤ y ∧ y ≤ S 1 - 1)) = 0 then (1 : Int) else if b2i (x ≠ y ∧ ((0 ≤ lo ∧ lo ≤ 48) ∧ lo ≤ hi ∧ hi ≤ lo + S 0 - 1) ∧ 0 ≤ w ∧ w ≤ 20) = 0 then 2 else if b2i (S 20 < 14) = 0 then 3 else 0) = t3 ((0 ≤ x ∧ x ≤ S 1 - 1) ∧ (0 ≤ y ∧ y ≤ S 1 - 1)) (x ≠ y ∧ ((0 ≤ lo ∧ lo ≤ 48) ∧ lo ≤ hi ∧ hi ≤ lo + S 0 - 1) ∧ 0 ≤ w ∧ w ≤ 20) (S 20 < 14) by rfl]
      refine aw_ifb_ne (tgt := 64) (pc := 59) F dX9_addSpan_59 (by decide) (fun c59 => ?_) (fun c59 => ?_)
      · rw [b2i_1, b2i_1, b2i_1] at c59
        have ht0 : t3 ((0 ≤ x ∧ x ≤ S 1 - 1) ∧ (0 ≤ y ∧ y ≤ S 1 - 1)) (x ≠ y ∧ ((0 ≤ lo ∧ lo ≤ 48) ∧ lo ≤ hi ∧ hi ≤ lo + S 0 - 1) ∧ 0 ≤ w ∧ w ≤ 20) (S 20 < 14) = 0 := t3_0 c59.1 c59.2.1 c59.2.2
        refine aw_aload0 (pc := 64) F dX9_addSpan_64 ?_
        refine aw_callVV0 (pc := 65) F dX9_addSpan_65 ml_9_349 rfl (by first | decide | (simp only [inB, cnt, rcnt]; omega)) (ct9_rememberE _ _ S n Hs (by rw [thr_s]; exact hS) hH.thr) (Nat.le_of_ble_eq_true rfl) (by decide) (Nat.zero_le _) (fun σ9 h9_65 => ?_)
        obtain ⟨M2, h9, d1, d2, d3, d4⟩ := h9_65
        subst h9
        have m20 : M2 (9, 0, 1, 0) 20 = S 20 := by rw [d2]
        refine aw_aload0 (pc := 68) F dX9_addSpan_68 ?_
        refine aw_getR (pc := 69) F dX9_addSpan_69 fl_9_7 rfl (by first | decide | (simp only [inB, cnt, rcnt]; omega)) rfl nz0 rfl ?_
        refine aw_bipush (pc := 72) F dX9_addSpan_72 (by decide) ?_
        refine aw_iald (pc := 74) F dX9_addSpan_74 rfl (by first | decide | (simp only [inB, cnt, rcnt]; omega)) (by omega) ?_
        refine aw_istore7 (pc := 75) F dX9_addSpan_75 rfl hk.symm ?_
        rw [m20]
        refine aw_aload0 (pc := 77) F dX9_addSpan_77 ?_
        refine aw_getR (pc := 78) F dX9_addSpan_78 fl_9_7 rfl (by first | decide | (simp only [inB, cnt, rcnt]; omega)) rfl nz0 rfl ?_
        refine aw_bipush (pc := 81) F dX9_addSpan_81 (by decide) ?_
        refine aw_dup2 (pc := 83) F dX9_addSpan_83 ?_
        refine aw_iald (pc := 84) F dX9_addSpan_84 rfl (by first | decide | (simp only [inB, cnt, rcnt]; omega)) (by omega) ?_
        refine aw_iconst (pc := 85) F dX9_addSpan_85 ?_
        refine aw_iadd (pc := 86) F dX9_addSpan_86 ?_
        refine aw_iast (pc := 87) F dX9_addSpan_87 rfl (by first | decide | (simp only [inB, cnt, rcnt]; omega)) (by omega) ?_
        refine aw_aload0 (pc := 88) F dX9_addSpan_88 ?_
        refine aw_getR (pc := 89) F dX9_addSpan_89 fl_9_7 rfl (by first | decide | (simp only [inB, cnt, rcnt]; omega)) rfl nz0 rfl ?_
        refine aw_iload7 (pc := 92) F dX9_addSpan_92 ?_
        refine aw_pcallS1 (pc := 94) F dX9_addSpan_94 ml_9_150 (ct9_at _ _ _) (Nat.le_of_ble_eq_true rfl) (by decide) (Nat.zero_le _) ?_
        refine aw_iconst (pc := 97) F dX9_addSpan_97 ?_
        refine aw_iadd (pc := 98) F dX9_addSpan_98 ?_
        refine aw_iload1 (pc := 99) F dX9_addSpan_99 ?_
        refine aw_iast (pc := 100) F dX9_addSpan_100 rfl (by first | decide | (simp only [inB, cnt, rcnt]; omega)) (by omega) ?_
        refine aw_aload0 (pc := 101) F dX9_addSpan_101 ?_
        refine aw_getR (pc := 102) F dX9_addSpan_102 fl_9_7 rfl (by first | decide | (simp only [inB, cnt, rcnt]; omega)) rfl nz0 rfl ?_
        refine aw_iload7 (pc := 105) F dX9_addSpan_105 ?_
        refine aw_pcallS1 (pc := 107) F dX9_addSpan_107 ml_9_150 (ct9_at _ _ _) (Nat.le_of_ble_eq_true rfl) (by decide) (Nat.zero_le _) ?_
        refine aw_iconst (pc := 110) F dX9_addSpan_110 ?_
        refine aw_iadd (pc := 111) F dX9_addSpan_111 ?_
        refine aw_iload2 (pc := 112) F dX9_addSpan_112 ?_
        refine aw_iast (pc := 113) F dX9_addSpan_113 rfl (by first | decide | (simp only [inB, cnt, rcnt]; omega)) (by omega) ?_
        refine aw_aload0 (pc := 114) F dX9_addSpan_114 ?_
        refine aw_getR (pc := 115) F dX9_addSpan_115 fl_9_7 rfl (by first | decide | (simp only [inB, cnt, rcnt]; omega)) rfl nz0 rfl ?_
        refine aw_iload7 (pc := 118) F dX9_addSpan_118 ?_
        refine aw_pcallS1 (pc := 120) F dX9_addSpan_120 ml_9_150 (ct9_at _ _ _) (Nat.le_of_ble_eq_true rfl) (by decide) (Nat.zero_le _) ?_
        refine aw_iconst (pc := 123) F dX9_addSpan_123 ?_
        refine aw_iadd (pc := 124) F dX9_addSpan_124 ?_
        refine aw_iload3 (pc := 125) F dX9_addSpan_125 ?_
        refine aw_iast (pc := 126) F dX9_addSpan_126 rfl (by first | decide | (simp only [inB, cnt, rcnt]; omega)) (by omega) ?_
        refine aw_aload0 (pc := 127) F dX9_addSpan_127 ?_
        refine aw_getR (pc := 128) F dX9_addSpan_128 fl_9_7 rfl (by first | decide | (simp only [inB, cnt, rcnt]; omega)) rfl nz0 rfl ?_
        refine aw_iload7 (pc := 131) F dX9_addSpan_131 ?_
        refine aw_pcallS1 (pc := 133) F dX9_addSpan_133 ml_9_150 (ct9_at _ _ _) (Nat.le_of_ble_eq_true rfl) (by decide) (Nat.zero_le _) ?_
        refine aw_iconst (pc := 136) F dX9_addSpan_136 ?_
        refine aw_iadd (pc := 137) F dX9_addSpan_137 ?_
        refine aw_iload4 (pc := 138) F dX9_addSpan_138 ?_
        refine aw_iast (pc := 140) F dX9_addSpan_140 rfl (by first | decide | (simp only [inB, cnt, rcnt]; omega)) (by omega) ?_
        refine aw_aload0 (pc := 141) F dX9_addSpan_141 ?_
        refine aw_getR (pc := 142) F dX9_addSpan_142 fl_9_7 rfl (by first | decide | (simp only [inB, cnt, rcnt]; omega)) rfl nz0 rfl ?_
        refine aw_iload7 (pc := 145) F dX9_addSpan_145 ?_
        refine aw_pcallS1 (pc := 147) F dX9_addSpan_147 ml_9_150 (ct9_at _ _ _) (Nat.le_of_ble_eq_true rfl) (by decide) (Nat.zero_le _) ?_
        refine aw_iconst (pc := 150) F dX9_addSpan_150 ?_
        refine aw_iadd (pc := 151) F dX9_addSpan_151 ?_
        refine aw_iload5 (pc := 152) F dX9_addSpan_152 ?_
        refine aw_iast (pc := 154) F dX9_addSpan_154 rfl (by first | decide | (simp only [inB, cnt, rcnt]; omega)) (by omega) ?_
        refine aw_iload7 (pc := 155) F dX9_addSpan_155 ?_
        exact aw_iret (pc := 157) F dX9_addSpan_157 rfl (Nat.zero_le _) (e9_yes ht0 (by rw [upd_ne (Or.inl (by decide)), upd_ne (Or.inl (by decide)), upd_ne (Or.inl (by decide)), upd_ne (Or.inl (by decide)), upd_ne (Or.inl (by decide)), upd_ne (Or.inl (by decide)), d3]; exact upd_same.trans ht0) rfl ((same9_thr.e.tr d1).r.r.r.r.r.r) (by rw [upd_row, upd_row, upd_row, upd_row, upd_row, upd_row, d2]; rfl) d4.st.st.st.st.st.st)
      · refine aw_iconst (pc := 62) F dX9_addSpan_62 ?_
        exact aw_iret (pc := 63) F dX9_addSpan_63 rfl (Nat.zero_le _) (e9_no (t3_ne (fun z => c59 ⟨b2i_pos z.1, b2i_pos z.2.1, b2i_pos z.2.2⟩)))
    refine aw_aload0 (pc := 30) F dX9_addSpan_30 ?_
    refine aw_aload0 (pc := 31) F dX9_addSpan_31 ?_
    refine aw_iload1 (pc := 32) F dX9_addSpan_32 ?_
    refine aw_iload2 (pc := 33) F dX9_addSpan_33 ?_
    refine aw_pcallV2 (pc := 34) F dX9_addSpan_34 ml_9_258 rfl (by first | decide | (simp only [inB, cnt, rcnt]; omega)) sq (Nat.le_of_ble_eq_true rfl) (by decide) (Nat.zero_le _) ?_
    refine aw_iload6 (pc := 37) F dX9_addSpan_37 ?_
    refine aw_aload0 (pc := 39) F dX9_addSpan_39 ?_
    refine aw_getR (pc := 40) F dX9_addSpan_40 fl_9_7 rfl (by first | decide | (simp only [inB, cnt, rcnt]; omega)) rfl nz0 rfl ?_
    refine aw_bipush (pc := 43) F dX9_addSpan_43 (by decide) ?_
    refine aw_iald (pc := 45) F dX9_addSpan_45 rfl (by first | decide | (simp only [inB, cnt, rcnt]; omega)) (by omega) ?_
    refine aw_bipush (pc := 46) F dX9_addSpan_46 (by decide) ?_
    refine aw_icmp_ge (tgt := 55) (pc := 48) F dX9_addSpan_48 (by decide) (by unfold inR; omega) (by unfold inR; omega) (fun c48 => ?_) (fun c48 => ?_)
    · refine aw_iconst (pc := 55) F dX9_addSpan_55 ?_
      exact main _ (by first | exact (b2i_pos (by omega)).symm | exact (b2i_neg (by omega)).symm)
    · refine aw_iconst (pc := 51) F dX9_addSpan_51 ?_
      refine aw_goto (tgt := 56) (pc := 52) F dX9_addSpan_52 (by decide) ?_
      exact main _ (by first | exact (b2i_pos (by omega)).symm | exact (b2i_neg (by omega)).symm)
  refine aw_iload1 (pc := 0) F dX9_addSpan_0 ?_
  refine aw_iload2 (pc := 1) F dX9_addSpan_1 ?_
  refine aw_icmp_eq (tgt := 27) (pc := 2) F dX9_addSpan_2 (by decide) (by first | assumption | (unfold inR; omega)) (by first | assumption | (unfold inR; omega)) (fun c2 => ?_) (fun c2 => ?_)
  · refine aw_iconst (pc := 27) F dX9_addSpan_27 ?_
    refine aw_istore6 (pc := 28) F dX9_addSpan_28 rfl hk.symm ?_
    exact go _ (by first | exact (b2i_pos (by omega)).symm | exact (b2i_neg (by omega)).symm)
  · refine aw_aload0 (pc := 5) F dX9_addSpan_5 ?_
    refine aw_iload3 (pc := 6) F dX9_addSpan_6 ?_
    refine aw_iload4 (pc := 7) F dX9_addSpan_7 ?_
    refine aw_pcallV2 (pc := 9) F dX9_addSpan_9 ml_9_352 rfl (by first | decide | (simp only [inB, cnt, rcnt]; omega)) st (Nat.le_of_ble_eq_true rfl) (by decide) (Nat.zero_le _) ?_
    refine aw_ifb_eq (tgt := 27) (pc := 12) F dX9_addSpan_12 (by decide) (fun c12 => ?_) (fun c12 => ?_)
    · refine aw_iconst (pc := 27) F dX9_addSpan_27 ?_
      refine aw_istore6 (pc := 28) F dX9_addSpan_28 rfl hk.symm ?_
      exact go _ (by first | exact (b2i_pos (by omega)).symm | exact (b2i_neg (by omega)).symm)
    · refine aw_iload5 (pc := 15) F dX9_addSpan_15 ?_
      refine aw_pcallS1 (pc := 17) F dX9_addSpan_17 ml_9_355 (ct9_isWeight _ _ _ h5) (Nat.le_of_ble_eq_true rfl) (by decide) (Nat.zero_le _) ?_
      refine aw_ifb_eq (tgt := 27) (pc := 20) F dX9_addSpan_20 (by decide) (fun c20 => ?_) (fun c20 => ?_)
      · refine aw_iconst (pc := 27) F dX9_addSpan_27 ?_
        refine aw_istore6 (pc := 28) F dX9_addSpan_28 rfl hk.symm ?_
        exact go _ (by first | exact (b2i_pos (by omega)).symm | exact (b2i_neg (by omega)).symm)
      · refine aw_iconst (pc := 23) F dX9_addSpan_23 ?_
        refine aw_goto (tgt := 28) (pc := 24) F dX9_addSpan_24 (by decide) ?_
        refine aw_istore6 (pc := 28) F dX9_addSpan_28 rfl hk.symm ?_
        exact go _ (by first | exact (b2i_pos (by omega)).symm | exact (b2i_neg (by omega)).symm)
def shS5 (S : Int → Int) (a i : Int) : Int → Int := fun j => if j = 20 then S 20 - 1 else if a ≤ j ∧ j < i then S (j + 5) else S j
theorem shS5_step {S : Int → Int} {a i : Int} (ha : a ≤ i) (h21 : 21 ≤ a) : upS (shS5 S a i) i (shS5 S a i (i + 5)) = shS5 S a (i + 1) := by
  funext j
  unfold upS shS5
  by_cases e : j = i
  · rw [if_pos e, if_neg (by omega), if_neg (by omega), if_neg (by omega), if_pos (by omega), e]
  · rw [if_neg e]
    by_cases z : j = 20
    · rw [if_pos z, if_pos z]
    · rw [if_neg z, if_neg z]
      by_cases g : a ≤ j ∧ j < i
      · rw [if_pos g, if_pos (by omega)]
      · rw [if_neg g, if_neg (by omega)]
theorem ct9_closes (M : Id4 → Int → Int) (b : Bool) (S : Int → Int) (k : Int) (hS : M (9, 0, 1, 0) = S) (h : Ok S) (hk9 : 0 ≤ k ∧ k < S 20) : CtV 2 0 yX9_closes cX9_closes 3 none [aR (9, 0, 0, 0), aI k] (M, R0 b) (fun σ' => σ' = (setA M (9, 0, 1, 0) (drS S k), R0 b)) := by
  refine CtV.mk (by decide +kernel) rfl (Nat.le_of_ble_eq_true rfl) (fun X K F hk => ?_)
  have hN := h.2.2.1
  have key : ∀ (j i : Nat) (M' : Id4 → Int → Int), (i : Int) + j = 21 + 5 * (S 20 - 1) → 21 + 5 * k ≤ i → M' = setA M (9, 0, 1, 0) (shS5 S (21 + 5 * k) i) → AW X K 16 [aR (9, 0, 0, 0), aI k, aI i] [] (M', R0 b) 0 (EV X K 0 (fun σ' => σ' = (setA M (9, 0, 1, 0) (drS S k), R0 b))) := by
    intro j
    induction j with
    | zero =>
      intro i M' hi hki hM
      have s20 : M' (9, 0, 1, 0) 20 = S 20 - 1 := by rw [hM, setA_same]; rfl
      have ei : (i : Int) = 21 + 5 * (S 20 - 1) := by omega
      refine aw_iload2 (pc := 16) F dX9_closes_16 ?_
      refine aw_aload0 (pc := 17) F dX9_closes_17 ?_
      refine aw_getR (pc := 18) F dX9_closes_18 fl_9_7 rfl (by first | decide | (simp only [inB, cnt, rcnt]; omega)) rfl nz0 rfl ?_
      refine aw_bipush (pc := 21) F dX9_closes_21 (by decide) ?_
      refine aw_iald (pc := 23) F dX9_closes_23 rfl (by first | decide | (simp only [inB, cnt, rcnt]; omega)) (by omega) ?_
      refine aw_pcallS1 (pc := 24) F dX9_closes_24 ml_9_150 (ct9_at _ _ _) (Nat.le_of_ble_eq_true rfl) (by decide) (Nat.zero_le _) ?_
      refine aw_icmp_ge (tgt := 50) (pc := 27) F dX9_closes_27 (by decide) (by unfold inR; omega) (by unfold inR; omega) (fun c27 => ?_) (fun c27 => ?_)
      · exact aw_vret (pc := 50) F dX9_closes_50 (Nat.zero_le _) (by rw [hM, ei]; rfl)
      · omega
    | succ j ih =>
      intro i M' hi hki hM
      have s20 : M' (9, 0, 1, 0) 20 = S 20 - 1 := by rw [hM, setA_same]; rfl
      refine aw_iload2 (pc := 16) F dX9_closes_16 ?_
      refine aw_aload0 (pc := 17) F dX9_closes_17 ?_
      refine aw_getR (pc := 18) F dX9_closes_18 fl_9_7 rfl (by first | decide | (simp only [inB, cnt, rcnt]; omega)) rfl nz0 rfl ?_
      refine aw_bipush (pc := 21) F dX9_closes_21 (by decide) ?_
      refine aw_iald (pc := 23) F dX9_closes_23 rfl (by first | decide | (simp only [inB, cnt, rcnt]; omega)) (by omega) ?_
      refine aw_pcallS1 (pc := 24) F dX9_closes_24 ml_9_150 (ct9_at _ _ _) (Nat.le_of_ble_eq_true rfl) (by decide) (Nat.zero_le _) ?_
      refine aw_icmp_ge (tgt := 50) (pc := 27) F dX9_closes_27 (by decide) (by unfold inR; omega) (by unfold inR; omega) (fun c27 => ?_) (fun c27 => ?_)
      · omega
      · refine aw_aload0 (pc := 30) F dX9_closes_30 ?_
        refine aw_getR (pc := 31) F dX9_closes_31 fl_9_7 rfl (by first | decide | (simp only [inB, cnt, rcnt]; omega)) rfl nz0 rfl ?_
        refine aw_iload2 (pc := 34) F dX9_closes_34 ?_
        refine aw_aload0 (pc := 35) F dX9_closes_35 ?_
        refine aw_getR (pc := 36) F dX9_closes_36 fl_9_7 rfl (by first | decide | (simp only [inB, cnt, rcnt]; omega)) rfl nz0 rfl ?_
        refine aw_iload2 (pc := 39) F dX9_closes_39 ?_
        refine aw_iconst (pc := 40) F dX9_closes_40 ?_
        refine aw_iadd (pc := 41) F dX9_closes_41 ?_
        refine aw_iald (pc := 42) F dX9_closes_42 rfl (by first | decide | (simp only [inB, cnt, rcnt]; omega)) (by omega) ?_
        refine aw_iast (pc := 43) F dX9_closes_43 rfl (by first | decide | (simp only [inB, cnt, rcnt]; omega)) (by omega) ?_
        refine aw_iinc2 (pc := 44) F dX9_closes_44 rfl hk.symm ?_
        refine aw_goto (tgt := 16) (pc := 47) F dX9_closes_47 (by decide) ?_
        exact ih (i + 1) _ (by omega) (by omega) (by rw [hM, setA_same, upd_setA, shS5_step (by omega) (by omega)]; rfl)
  refine aw_aload0 (pc := 0) F dX9_closes_0 ?_
  refine aw_getR (pc := 1) F dX9_closes_1 fl_9_7 rfl (by first | decide | (simp only [inB, cnt, rcnt]; omega)) rfl nz0 rfl ?_
  refine aw_bipush (pc := 4) F dX9_closes_4 (by decide) ?_
  refine aw_dup2 (pc := 6) F dX9_closes_6 ?_
  refine aw_iald (pc := 7) F dX9_closes_7 rfl (by first | decide | (simp only [inB, cnt, rcnt]; omega)) (by omega) ?_
  refine aw_iconst (pc := 8) F dX9_closes_8 ?_
  refine aw_isub (pc := 9) F dX9_closes_9 ?_
  refine aw_iast (pc := 10) F dX9_closes_10 rfl (by first | decide | (simp only [inB, cnt, rcnt]; omega)) (by omega) ?_
  refine aw_iload1 (pc := 11) F dX9_closes_11 ?_
  refine aw_pcallS1 (pc := 12) F dX9_closes_12 ml_9_150 (ct9_at _ _ _) (Nat.le_of_ble_eq_true rfl) (by decide) (Nat.zero_le _) ?_
  refine aw_istore2 (pc := 15) F dX9_closes_15 rfl hk.symm ?_
  obtain ⟨a, ha⟩ : ∃ a : Nat, 21 + 5 * k = (a : Int) := ⟨(21 + 5 * k).toNat, by omega⟩
  have e0 : shS5 S (21 + 5 * k) a = upS S 20 (S 20 - 1) := by
    funext j
    unfold upS shS5
    by_cases z : j = 20
    · rw [if_pos z, if_pos z]
    · rw [if_neg z, if_neg z, if_neg (by omega)]
  have g := key (21 + 5 * (S 20 - 1) - a).toNat a (updM M (9, 0, 1, 0) 20 (M (9, 0, 1, 0) 20 - 1)) (by omega) (by omega) (by rw [e0, upd_asA, hS])
  rw [ha]
  exact g
theorem cq9_removeSpan (M : Id4 → Int → Int) (b : Bool) (S : Int → Int) (n : Int) (Hs : Int → Int → Int) (k : Int) (h1 : inR k) (hS : M (9, 0, 1, 0) = S) (h : Ok S) (hH : hR9 M n Hs) : CtI 3 0 yX9_removeSpan cX9_removeSpan 2 (some .int) [aR (9, 0, 0, 0), aI k] (M, R0 b) (E9 M b (1 - b2i (0 ≤ k ∧ k ≤ S 20 - 1)) (S 20 - 1) (drS S k) (min (n + 1) 10) (pushH n Hs S)) := by
  refine CtI.mk (by decide +kernel) rfl (Nat.le_of_ble_eq_true rfl) (fun X K F hk => ?_)
  have hN := h.2.2.1
  have sq : CtI 2 0 yX9_isSpan cX9_isSpan 2 (some .boolean) [aR (9, 0, 0, 0), aI k] (M, R0 b) (PU (M, R0 b) (b2i (0 ≤ k ∧ k ≤ S 20 - 1))) := by
    have z := ct9_isSpan M b k h1 (by rw [hS]; exact hN)
    rw [hS] at z
    exact z
  refine aw_aload0 (pc := 0) F dX9_removeSpan_0 ?_
  refine aw_aload0 (pc := 1) F dX9_removeSpan_1 ?_
  refine aw_iload1 (pc := 2) F dX9_removeSpan_2 ?_
  refine aw_pcallV1 (pc := 3) F dX9_removeSpan_3 ml_9_194 rfl (by first | decide | (simp only [inB, cnt, rcnt]; omega)) sq (Nat.le_of_ble_eq_true rfl) (by decide) (Nat.zero_le _) ?_
  refine aw_callVI1 (pc := 6) F dX9_removeSpan_6 ml_9_176 rfl (by first | decide | (simp only [inB, cnt, rcnt]; omega)) (ct9_good1 _ _ _ (by first | exact b2i_01 | decide)) (Nat.le_of_ble_eq_true rfl) (by decide) (Nat.zero_le _) (fun v9 σ9 h9_6 => ?_)
  obtain ⟨rfl, rfl⟩ := h9_6
  refine aw_ifb_ne (tgt := 14) (pc := 9) F dX9_removeSpan_9 (by decide) (fun c9 => ?_) (fun c9 => ?_)
  · have ht0 : 1 - b2i (0 ≤ k ∧ k ≤ S 20 - 1) = 0 := by rw [b2i_pos c9]; rfl
    refine aw_aload0 (pc := 14) F dX9_removeSpan_14 ?_
    refine aw_callVV0 (pc := 15) F dX9_removeSpan_15 ml_9_349 rfl (by first | decide | (simp only [inB, cnt, rcnt]; omega)) (ct9_rememberE _ _ S n Hs (by rw [thr_s]; exact hS) hH.thr) (Nat.le_of_ble_eq_true rfl) (by decide) (Nat.zero_le _) (fun σ9 h9_15 => ?_)
    obtain ⟨M2, h9, d1, d2, d3, d4⟩ := h9_15
    subst h9
    refine aw_aload0 (pc := 18) F dX9_removeSpan_18 ?_
    refine aw_iload1 (pc := 19) F dX9_removeSpan_19 ?_
    refine aw_callVV1 (pc := 20) F dX9_removeSpan_20 ml_9_342 rfl (by first | decide | (simp only [inB, cnt, rcnt]; omega)) (ct9_closes _ _ S _ d2 h (by omega)) (Nat.le_of_ble_eq_true rfl) (by decide) (Nat.zero_le _) (fun σ9 h9 => ?_)
    subst h9
    refine aw_aload0 (pc := 23) F dX9_removeSpan_23 ?_
    refine aw_getR (pc := 24) F dX9_removeSpan_24 fl_9_7 rfl (by first | decide | (simp only [inB, cnt, rcnt]; omega)) rfl nz0 rfl ?_
    refine aw_bipush (pc := 27) F dX9_removeSpan_27 (by decide) ?_
    refine aw_iald (pc := 29) F dX9_removeSpan_29 rfl (by first | decide | (simp only [inB, cnt, rcnt]; omega)) (by omega) ?_
    exact aw_iret (pc := 30) F dX9_removeSpan_30 rfl (Nat.zero_le _) (e9_yes ht0 (by rw [setA_ne (by decide), d3]; exact upd_same.trans ht0) (by rw [setA_same]; rfl) ((same9_thr.e.tr d1).st (Or.inl rfl)) setA_same ⟨⟨by rw [setA_ne (by decide)]; exact d4.1.1, d4.1.2⟩, fun i j i0 i1 j0 j1 => by rw [setA_ne (by decide)]; exact d4.2 i j i0 i1 j0 j1⟩)
  · refine aw_iconst (pc := 12) F dX9_removeSpan_12 ?_
    exact aw_iret (pc := 13) F dX9_removeSpan_13 rfl (Nat.zero_le _) (e9_no (by rw [b2i_neg c9]; decide))
theorem ct9_allFit (M : Id4 → Int → Int) (b : Bool) (S : Int → Int) (T : Int) (h1 : 2 ≤ T ∧ T ≤ 24) (hS : M (9, 0, 1, 0) = S) (h : Ok S) : CtI 3 0 yX9_allFit cX9_allFit 4 (some .boolean) [aR (9, 0, 0, 0), aI T] (M, R0 b) (fun v σ' => isB v (fitS S T) ∧ σ' = (M, R0 b)) := by
  refine CtI.mk (by decide +kernel) rfl (Nat.le_of_ble_eq_true rfl) (fun X K F hk => ?_)
  have hN := h.2.2.1
  have s20 := congrFun hS 20
  have key : ∀ (j i : Nat) (x : Int), (i : Int) + j = S 20 → isB x (∀ k : Int, 0 ≤ k → k < i → S (21 + 5 * k + 3) ≤ S (21 + 5 * k + 2) + T - 1) → AW X K 4 [aR (9, 0, 0, 0), aI T, aI x, aI i] [] (M, R0 b) 0 (EI X K 0 (fun v σ' => isB v (fitS S T) ∧ σ' = (M, R0 b))) := by
    intro j
    induction j with
    | zero =>
      intro i x hi hx
      have hxb := isB_bd hx
      refine aw_iload3 (pc := 4) F dX9_allFit_4 ?_
      refine aw_aload0 (pc := 5) F dX9_allFit_5 ?_
      refine aw_getR (pc := 6) F dX9_allFit_6 fl_9_7 rfl (by first | decide | (simp only [inB, cnt, rcnt]; omega)) rfl nz0 rfl ?_
      refine aw_bipush (pc := 9) F dX9_allFit_9 (by decide) ?_
      refine aw_iald (pc := 11) F dX9_allFit_11 rfl (by first | decide | (simp only [inB, cnt, rcnt]; omega)) (by omega) ?_
      refine aw_icmp_ge (tgt := 50) (pc := 12) F dX9_allFit_12 (by decide) (by unfold inR; omega) (by unfold inR; omega) (fun c12 => ?_) (fun c12 => ?_)
      · refine aw_iload2 (pc := 50) F dX9_allFit_50 ?_
        exact aw_iret (pc := 51) F dX9_allFit_51 (nar_bool (by omega)) (Nat.zero_le _) ⟨isB_congr ⟨fun z k k0 k1 => z k k0 (by omega), fun z k k0 k1 => z k k0 (by omega)⟩ hx, rfl⟩
      · omega
    | succ j ih =>
      intro i x hi hx
      have hxb := isB_bd hx
      have s := h.2.2.2.2 i (by omega) (by omega)
      unfold SpOk at s
      have no0 : x = 0 → isB 0 (∀ k : Int, 0 ≤ k → k < ((i + 1 : Nat) : Int) → S (21 + 5 * k + 3) ≤ S (21 + 5 * k + 2) + T - 1) := fun z => Or.inl ⟨rfl, fun q => (hx.resolve_right (fun y => by omega)).2 (fun k k0 k1 => q k k0 (by omega))⟩
      have no1 : ¬ S (21 + 5 * (i : Int) + 3) ≤ S (21 + 5 * (i : Int) + 2) + T - 1 → isB 0 (∀ k : Int, 0 ≤ k → k < ((i + 1 : Nat) : Int) → S (21 + 5 * k + 3) ≤ S (21 + 5 * k + 2) + T - 1) := fun z => Or.inl ⟨rfl, fun q => z (q i (by omega) (by omega))⟩
      have yes : ¬ x = 0 → S (21 + 5 * (i : Int) + 3) ≤ S (21 + 5 * (i : Int) + 2) + T - 1 → isB 1 (∀ k : Int, 0 ≤ k → k < ((i + 1 : Nat) : Int) → S (21 + 5 * k + 3) ≤ S (21 + 5 * k + 2) + T - 1) := fun z z2 => Or.inr ⟨rfl, fun k k0 k1 => by
        by_cases e : k = i
        · rw [e]; exact z2
        · exact (hx.resolve_left (fun y => z y.1)).2 k k0 (by omega)⟩
      refine aw_iload3 (pc := 4) F dX9_allFit_4 ?_
      refine aw_aload0 (pc := 5) F dX9_allFit_5 ?_
      refine aw_getR (pc := 6) F dX9_allFit_6 fl_9_7 rfl (by first | decide | (simp only [inB, cnt, rcnt]; omega)) rfl nz0 rfl ?_
      refine aw_bipush (pc := 9) F dX9_allFit_9 (by decide) ?_
      refine aw_iald (pc := 11) F dX9_allFit_11 rfl (by first | decide | (simp only [inB, cnt, rcnt]; omega)) (by omega) ?_
      refine aw_icmp_ge (tgt := 50) (pc := 12) F dX9_allFit_12 (by decide) (by first | (unfold inR; omega) | (rw [hS]; unfold inR; omega)) (by first | (unfold inR; omega) | (rw [hS]; unfold inR; omega)) (fun c12 => ?_) (fun c12 => ?_)
      · omega
      · refine aw_iload2 (pc := 15) F dX9_allFit_15 ?_
        refine aw_if_eq (tgt := 42) (pc := 16) F dX9_allFit_16 (by decide) (by first | (unfold inR; omega) | (rw [hS]; unfold inR; omega)) (fun c16 => ?_) (fun c16 => ?_)
        · refine aw_iconst (pc := 42) F dX9_allFit_42 ?_
          refine aw_istore2 (pc := 43) F dX9_allFit_43 rfl hk.symm ?_
          refine aw_iinc3 (pc := 44) F dX9_allFit_44 rfl hk.symm ?_
          refine aw_goto (tgt := 4) (pc := 47) F dX9_allFit_47 (by decide) ?_
          first | exact ih (i + 1) _ (by omega) (no0 c16) | (rw [hS] at c35; first | exact ih (i + 1) _ (by omega) (no1 (by omega)) | exact ih (i + 1) _ (by omega) (yes c16 (by omega)))
        · refine aw_aload0 (pc := 19) F dX9_allFit_19 ?_
          refine aw_iload3 (pc := 20) F dX9_allFit_20 ?_
          refine aw_iconst (pc := 21) F dX9_allFit_21 ?_
          refine aw_pcallV2 (pc := 22) F dX9_allFit_22 ml_9_200 rfl (by first | decide | (simp only [inB, cnt, rcnt]; omega)) (ct9_of _ _ _ _ (by omega) (by omega)) (Nat.le_of_ble_eq_true rfl) (by decide) (Nat.zero_le _) ?_
          refine aw_aload0 (pc := 25) F dX9_allFit_25 ?_
          refine aw_iload3 (pc := 26) F dX9_allFit_26 ?_
          refine aw_iconst (pc := 27) F dX9_allFit_27 ?_
          refine aw_pcallV2 (pc := 28) F dX9_allFit_28 ml_9_200 rfl (by first | decide | (simp only [inB, cnt, rcnt]; omega)) (ct9_of _ _ _ _ (by omega) (by omega)) (Nat.le_of_ble_eq_true rfl) (by decide) (Nat.zero_le _) ?_
          refine aw_iload1 (pc := 31) F dX9_allFit_31 ?_
          refine aw_iadd (pc := 32) F dX9_allFit_32 ?_
          refine aw_iconst (pc := 33) F dX9_allFit_33 ?_
          refine aw_isub (pc := 34) F dX9_allFit_34 ?_
          refine aw_icmp_gt (tgt := 42) (pc := 35) F dX9_allFit_35 (by decide) (by first | (unfold inR; omega) | (rw [hS]; unfold inR; omega)) (by first | (unfold inR; omega) | (rw [hS]; unfold inR; omega)) (fun c35 => ?_) (fun c35 => ?_)
          · refine aw_iconst (pc := 42) F dX9_allFit_42 ?_
            refine aw_istore2 (pc := 43) F dX9_allFit_43 rfl hk.symm ?_
            refine aw_iinc3 (pc := 44) F dX9_allFit_44 rfl hk.symm ?_
            refine aw_goto (tgt := 4) (pc := 47) F dX9_allFit_47 (by decide) ?_
            first | exact ih (i + 1) _ (by omega) (no0 c16) | (rw [hS] at c35; first | exact ih (i + 1) _ (by omega) (no1 (by omega)) | exact ih (i + 1) _ (by omega) (yes c16 (by omega)))
          · refine aw_iconst (pc := 38) F dX9_allFit_38 ?_
            refine aw_goto (tgt := 43) (pc := 39) F dX9_allFit_39 (by decide) ?_
            refine aw_istore2 (pc := 43) F dX9_allFit_43 rfl hk.symm ?_
            refine aw_iinc3 (pc := 44) F dX9_allFit_44 rfl hk.symm ?_
            refine aw_goto (tgt := 4) (pc := 47) F dX9_allFit_47 (by decide) ?_
            first | exact ih (i + 1) _ (by omega) (no0 c16) | (rw [hS] at c35; first | exact ih (i + 1) _ (by omega) (no1 (by omega)) | exact ih (i + 1) _ (by omega) (yes c16 (by omega)))
  refine aw_iconst (pc := 0) F dX9_allFit_0 ?_
  refine aw_istore2 (pc := 1) F dX9_allFit_1 rfl hk.symm ?_
  refine aw_iconst (pc := 2) F dX9_allFit_2 ?_
  refine aw_istore3 (pc := 3) F dX9_allFit_3 rfl hk.symm ?_
  exact key (S 20).toNat 0 1 (by omega) (Or.inr ⟨rfl, fun k k0 k1 => absurd k1 (by omega)⟩)
theorem cq9_setPeriod (M : Id4 → Int → Int) (b : Bool) (S : Int → Int) (n : Int) (Hs : Int → Int → Int) (T : Int) (h1 : inR T) (hS : M (9, 0, 1, 0) = S) (h : Ok S) (hH : hR9 M n Hs) : CtI 4 0 yX9_setPeriod cX9_setPeriod 5 (some .int) [aR (9, 0, 0, 0), aI T] (M, R0 b) (fun r σ' => ∃ t, (2 ≤ T ∧ T ≤ 24 → (fitS S T → t = 0) ∧ (¬ fitS S T → t = 2)) ∧ (¬ (2 ≤ T ∧ T ≤ 24) → t = 1) ∧ E9 M b t (S 0) (mtS (upS S 0 T) (fun x => x % T) (S 1)) (min (n + 1) 10) (pushH n Hs S) r σ') := by
  refine CtI.mk (by decide +kernel) rfl (Nat.le_of_ble_eq_true rfl) (fun X K F hk => ?_)
  have hN := h.2.2.1
  have hE := h.2.1
  obtain ⟨E, eE⟩ : ∃ E : Nat, S 1 = (E : Int) := ⟨(S 1).toNat, by omega⟩
  obtain ⟨Q9, hQ⟩ : ∃ Q9, Q9 = EI X K 0 (fun r σ' => ∃ t, (2 ≤ T ∧ T ≤ 24 → (fitS S T → t = 0) ∧ (¬ fitS S T → t = 2)) ∧ (¬ (2 ≤ T ∧ T ≤ 24) → t = 1) ∧ E9 M b t (S 0) (mtS (upS S 0 T) (fun x => x % T) (S 1)) (min (n + 1) 10) (pushH n Hs S) r σ') := ⟨_, rfl⟩
  have key : (2 ≤ T ∧ T ≤ 24) → fitS S T → ∀ (x : Int) (j i : Nat) (M' : Id4 → Int → Int), i + j = E → M' (9, 0, 0, 0) 4 = 0 → same9e M M' → M' (9, 0, 1, 0) = mtS (upS S 0 T) (fun x => x % T) i → hR9 M' (min (n + 1) 10) (pushH n Hs S) → AW X K 56 [aR (9, 0, 0, 0), aI T, aI x, aI (S 0), aI i] [] (M', R0 b) 0 Q9 := by
    intro hT hF x j
    have u : ∀ j, j ≠ 0 → upS S 0 T j = S j := fun j hj => upS_ne hj
    induction j with
    | zero =>
      intro i M' hi a0 a1 a2 a3
      have p1 : M' (9, 0, 1, 0) 1 = S 1 := by rw [a2, mtS_off (by omega)]; exact u 1 (by decide)
      have ei : (i : Int) = S 1 := by omega
      rw [ei] at a2
      refine aw_iload4 (pc := 56) F dX9_setPeriod_56 ?_
      refine aw_aload0 (pc := 58) F dX9_setPeriod_58 ?_
      refine aw_getR (pc := 59) F dX9_setPeriod_59 fl_9_7 rfl (by first | decide | (simp only [inB, cnt, rcnt]; omega)) rfl nz0 rfl ?_
      refine aw_iconst (pc := 62) F dX9_setPeriod_62 ?_
      refine aw_iald (pc := 63) F dX9_setPeriod_63 rfl (by first | decide | (simp only [inB, cnt, rcnt]; omega)) (by omega) ?_
      refine aw_icmp_ge (tgt := 97) (pc := 64) F dX9_setPeriod_64 (by decide) (by unfold inR; omega) (by unfold inR; omega) (fun c64 => ?_) (fun c64 => ?_)
      · refine aw_iload3 (pc := 97) F dX9_setPeriod_97 ?_
        rw [hQ]
        exact aw_iret (pc := 98) F dX9_setPeriod_98 rfl (Nat.zero_le _) ⟨0, fun _ => ⟨fun _ => rfl, fun z => absurd hF z⟩, fun z => absurd hT z, e9_yes rfl a0 rfl a1 a2 a3⟩
      · omega
    | succ j ih =>
      intro i M' hi a0 a1 a2 a3
      have p1 : M' (9, 0, 1, 0) 1 = S 1 := by rw [a2, mtS_off (by omega)]; exact u 1 (by decide)
      have p0 : M' (9, 0, 1, 0) 0 = T := by rw [a2, mtS_off (by omega)]; exact upS_same
      have pt : M' (9, 0, 1, 0) (14 + (i : Int)) = upS S 0 T (14 + (i : Int)) := by rw [a2]; exact mtS_off (by omega)
      have pt2 := u (14 + (i : Int)) (by omega)
      have tb := h.2.2.2.1 i (by omega) (by omega)
      have hP := h.1
      refine aw_iload4 (pc := 56) F dX9_setPeriod_56 ?_
      refine aw_aload0 (pc := 58) F dX9_setPeriod_58 ?_
      refine aw_getR (pc := 59) F dX9_setPeriod_59 fl_9_7 rfl (by first | decide | (simp only [inB, cnt, rcnt]; omega)) rfl nz0 rfl ?_
      refine aw_iconst (pc := 62) F dX9_setPeriod_62 ?_
      refine aw_iald (pc := 63) F dX9_setPeriod_63 rfl (by first | decide | (simp only [inB, cnt, rcnt]; omega)) (by omega) ?_
      refine aw_icmp_ge (tgt := 97) (pc := 64) F dX9_setPeriod_64 (by decide) (by unfold inR; omega) (by unfold inR; omega) (fun c64 => ?_) (fun c64 => ?_)
      · omega
      · refine aw_aload0 (pc := 67) F dX9_setPeriod_67 ?_
        refine aw_getR (pc := 68) F dX9_setPeriod_68 fl_9_7 rfl (by first | decide | (simp only [inB, cnt, rcnt]; omega)) rfl nz0 rfl ?_
        refine aw_bipush (pc := 71) F dX9_setPeriod_71 (by decide) ?_
        refine aw_iload4 (pc := 73) F dX9_setPeriod_73 ?_
        refine aw_iadd (pc := 75) F dX9_setPeriod_75 ?_
        refine aw_aload0 (pc := 76) F dX9_setPeriod_76 ?_
        refine aw_aload0 (pc := 77) F dX9_setPeriod_77 ?_
        refine aw_getR (pc := 78) F dX9_setPeriod_78 fl_9_7 rfl (by first | decide | (simp only [inB, cnt, rcnt]; omega)) rfl nz0 rfl ?_
        refine aw_bipush (pc := 81) F dX9_setPeriod_81 (by decide) ?_
        refine aw_iload4 (pc := 83) F dX9_setPeriod_83 ?_
        refine aw_iadd (pc := 85) F dX9_setPeriod_85 ?_
        refine aw_iald (pc := 86) F dX9_setPeriod_86 rfl (by first | decide | (simp only [inB, cnt, rcnt]; omega)) (by omega) ?_
        refine aw_pcallV1 (pc := 87) F dX9_setPeriod_87 ml_9_203 rfl (by first | decide | (simp only [inB, cnt, rcnt]; omega)) (ct9_modulo _ _ _ (by rw [pt, pt2]; unfold inR; omega) (by omega)) (Nat.le_of_ble_eq_true rfl) (by decide) (Nat.zero_le _) ?_
        refine aw_iast (pc := 90) F dX9_setPeriod_90 rfl (by first | decide | (simp only [inB, cnt, rcnt]; omega)) (by omega) ?_
        refine aw_iinc4 (pc := 91) F dX9_setPeriod_91 rfl hk.symm ?_
        refine aw_goto (tgt := 56) (pc := 94) F dX9_setPeriod_94 (by decide) ?_
        exact ih (i + 1) _ (by omega) (by rw [upd_ne (Or.inl (by decide))]; exact a0) (a1.r) (by rw [upd_row, pt, p0, a2]; exact mtS_step (f := fun x => x % T) (by omega) rfl) a3.st
  have go : ∀ v, isB v (fitS S T) ∨ v = 0 → (v = 0 ∨ v = 1) → ((2 ≤ T ∧ T ≤ 24) → isB v (fitS S T)) → AW X K 27 [aR (9, 0, 0, 0), aI T, aI (b2i (2 ≤ T ∧ T ≤ 24)), aX, aX] [aI v, aI (b2i (2 ≤ T ∧ T ≤ 24)), aR (9, 0, 0, 0)] (M, R0 b) 0 Q9 := by
    intro v _ hv1 hv
    refine aw_callVI2 (pc := 27) F dX9_setPeriod_27 ml_9_197 rfl (by first | decide | (simp only [inB, cnt, rcnt]; omega)) (ct9_good2 _ _ _ _ b2i_01 hv1) (Nat.le_of_ble_eq_true rfl) (by decide) (Nat.zero_le _) (fun v9 σ9 h9_27 => ?_)
    obtain ⟨g1, g2⟩ := h9_27
    subst g1
    subst g2
    refine aw_ifb_ne (tgt := 35) (pc := 30) F dX9_setPeriod_30 (by decide) (fun c30 => ?_) (fun c30 => ?_)
    · rw [b2i_1] at c30
      obtain ⟨q, y⟩ := c30
      have hF := ((hv q).resolve_left (fun z => by omega)).2
      rw [b2i_pos q, y, show (if (1 : Int) = 0 then (1 : Int) else if (1 : Int) = 0 then 2 else 0) = 0 by rfl]
      refine aw_aload0 (pc := 35) F dX9_setPeriod_35 ?_
      refine aw_callVV0 (pc := 36) F dX9_setPeriod_36 ml_9_349 rfl (by first | decide | (simp only [inB, cnt, rcnt]; omega)) (ct9_rememberE _ _ S n Hs (by rw [thr_s]; exact hS) hH.thr) (Nat.le_of_ble_eq_true rfl) (by decide) (Nat.zero_le _) (fun σ9 h9_36 => ?_)
      obtain ⟨M2, h9, d1, d2, d3, d4⟩ := h9_36
      subst h9
      refine aw_aload0 (pc := 39) F dX9_setPeriod_39 ?_
      refine aw_getR (pc := 40) F dX9_setPeriod_40 fl_9_7 rfl (by first | decide | (simp only [inB, cnt, rcnt]; omega)) rfl nz0 rfl ?_
      refine aw_iconst (pc := 43) F dX9_setPeriod_43 ?_
      refine aw_iald (pc := 44) F dX9_setPeriod_44 rfl (by first | decide | (simp only [inB, cnt, rcnt]; omega)) (by omega) ?_
      rw [d2]
      refine aw_istore3 (pc := 45) F dX9_setPeriod_45 rfl hk.symm ?_
      refine aw_aload0 (pc := 46) F dX9_setPeriod_46 ?_
      refine aw_getR (pc := 47) F dX9_setPeriod_47 fl_9_7 rfl (by first | decide | (simp only [inB, cnt, rcnt]; omega)) rfl nz0 rfl ?_
      refine aw_iconst (pc := 50) F dX9_setPeriod_50 ?_
      refine aw_iload1 (pc := 51) F dX9_setPeriod_51 ?_
      refine aw_iast (pc := 52) F dX9_setPeriod_52 rfl (by first | decide | (simp only [inB, cnt, rcnt]; omega)) (by omega) ?_
      refine aw_iconst (pc := 53) F dX9_setPeriod_53 ?_
      refine aw_istore4 (pc := 54) F dX9_setPeriod_54 rfl hk.symm ?_
      exact key q hF _ E 0 _ (by omega) (by rw [upd_ne (Or.inl (by decide)), d3]; exact upd_same) ((same9_thr.e.tr d1).r) (by rw [upd_row, d2, show ((0 : Nat) : Int) = 0 by rfl, mtS_0]) d4.st
    · refine aw_iconst (pc := 33) F dX9_setPeriod_33 ?_
      rw [b2i_1] at c30
      rw [hQ]
      exact aw_iret (pc := 34) F dX9_setPeriod_34 rfl (Nat.zero_le _) ⟨if b2i (2 ≤ T ∧ T ≤ 24) = 0 then 1 else if v = 0 then 2 else 0, fun q => ⟨fun f => by rw [if_neg (by rw [b2i_pos q]; decide)]; exact absurd ⟨q, ((hv q).resolve_left (fun y => y.2 f)).1⟩ c30, fun f => by rw [if_neg (by rw [b2i_pos q]; decide), if_pos ((hv q).resolve_right (fun y => f y.2)).1]⟩, fun q => if_pos (b2i_neg q), e9_no (fun z => c30 (by
        by_cases q : 2 ≤ T ∧ T ≤ 24
        · rw [if_neg (by rw [b2i_pos q]; decide)] at z
          refine ⟨q, ?_⟩
          rcases hv1 with y | y
          · rw [if_pos y] at z; exact absurd z (by decide)
          · exact y
        · rw [if_pos (b2i_neg q)] at z; exact absurd z (by decide)))⟩
  refine aw_iload1 (pc := 0) F dX9_setPeriod_0 ?_
  refine aw_iconst (pc := 1) F dX9_setPeriod_1 ?_
  refine aw_bipush (pc := 2) F dX9_setPeriod_2 (by decide) ?_
  refine aw_pcallS3 (pc := 4) F dX9_setPeriod_4 ml_9_121 (ct9_isIn _ _ _ _ _ h1 (by unfold inR; omega) (by unfold inR; omega)) (Nat.le_of_ble_eq_true rfl) (by decide) (Nat.zero_le _) ?_
  refine aw_istore2 (pc := 7) F dX9_setPeriod_7 rfl hk.symm ?_
  refine aw_aload0 (pc := 8) F dX9_setPeriod_8 ?_
  refine aw_iload2 (pc := 9) F dX9_setPeriod_9 ?_
  refine aw_iload2 (pc := 10) F dX9_setPeriod_10 ?_
  rw [← hQ]
  refine aw_if_eq (tgt := 26) (pc := 11) F dX9_setPeriod_11 (by decide) b2i_inR (fun c11 => ?_) (fun c11 => ?_)
  · refine aw_iconst (pc := 26) F dX9_setPeriod_26 ?_
    first | exact go 0 (Or.inr rfl) (Or.inl rfl) (fun z => absurd c11 (by rw [b2i_pos z]; decide)) | exact go 0 (Or.inr rfl) (Or.inl rfl) (fun z => by rw [c19] at hv; exact hv) | exact go 1 (Or.inl (by rw [show v9 = 1 by omega] at hv; exact hv)) (Or.inr rfl) (fun z => by rw [show v9 = 1 by omega] at hv; exact hv)
  · refine aw_aload0 (pc := 14) F dX9_setPeriod_14 ?_
    refine aw_iload1 (pc := 15) F dX9_setPeriod_15 ?_
    refine aw_callVI1 (pc := 16) F dX9_setPeriod_16 ml_9_358 rfl (by first | decide | (simp only [inB, cnt, rcnt]; omega)) (ct9_allFit _ _ S _ (Classical.byContradiction fun z => c11 (b2i_neg z)) hS h) (Nat.le_of_ble_eq_true rfl) (by decide) (Nat.zero_le _) (fun v9 σ9 h9_16 => ?_)
    obtain ⟨hv, h9⟩ := h9_16
    subst h9
    have hvb := isB_bd hv
    refine aw_if_eq (tgt := 26) (pc := 19) F dX9_setPeriod_19 (by decide) (by unfold inR; omega) (fun c19 => ?_) (fun c19 => ?_)
    · refine aw_iconst (pc := 26) F dX9_setPeriod_26 ?_
      first | exact go 0 (Or.inr rfl) (Or.inl rfl) (fun z => absurd c11 (by rw [b2i_pos z]; decide)) | exact go 0 (Or.inr rfl) (Or.inl rfl) (fun z => by rw [c19] at hv; exact hv) | exact go 1 (Or.inl (by rw [show v9 = 1 by omega] at hv; exact hv)) (Or.inr rfl) (fun z => by rw [show v9 = 1 by omega] at hv; exact hv)
    · refine aw_iconst (pc := 22) F dX9_setPeriod_22 ?_
      refine aw_goto (tgt := 27) (pc := 23) F dX9_setPeriod_23 (by decide) ?_
      first | exact go 0 (Or.inr rfl) (Or.inl rfl) (fun z => absurd c11 (by rw [b2i_pos z]; decide)) | exact go 0 (Or.inr rfl) (Or.inl rfl) (fun z => by rw [c19] at hv; exact hv) | exact go 1 (Or.inl (by rw [show v9 = 1 by omega] at hv; exact hv)) (Or.inr rfl) (fun z => by rw [show v9 = 1 by omega] at hv; exact hv)
