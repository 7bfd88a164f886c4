/-! 22: the class's Differences -/
theorem shr_bit {x : Int} {i : Nat} (h1 : 0 ≤ x ∧ x ≤ 2147483647) (h2 : i < 32) : bAnd (bShr x (i : Int)) 1 = if bit x i then 1 else 0 := by
  have e0 : ∀ j, j < 32 → bit (bAnd (bShr x (i : Int)) 1) j = bit (if bit x i then 1 else 0) j := by
    intro j hj
    rw [bit_and, bit_shr h1.1 h1.2 h2, bit_1]
    by_cases ej : j = 0
    · subst ej
      by_cases hb : bit x i = true
      · simp [hb, bit_1]
      · simp [hb, bit_0]
    · by_cases hb : bit x i = true
      · simp [hb, bit_1, ej]
      · simp [hb, bit_0, ej]
  exact bit_ext (bAnd_inR _ _) (by split <;> unfold inR <;> omega) e0
theorem shr_yes {x : Int} {i : Nat} (h1 : 0 ≤ x ∧ x ≤ 2147483647) (h2 : i < 32) (h : bAnd (bShr x (i : Int)) 1 = 1) : bit x i = true := by
  rw [shr_bit h1 h2] at h
  exact Classical.byContradiction fun z => by rw [if_neg z] at h; omega
theorem shr_no {x : Int} {i : Nat} (h1 : 0 ≤ x ∧ x ≤ 2147483647) (h2 : i < 32) (h : ¬ bAnd (bShr x (i : Int)) 1 = 1) : ¬ bit x i = true := by
  rw [shr_bit h1 h2] at h
  exact fun z => h (if_pos z)
theorem turn_0 {T : Nat} {x : Int} (hT : 2 ≤ T ∧ T ≤ 24) (hx : Set24 T x) : bAnd x 1 = setI (fun m => turnP T x m && decide ((T - m) % T < 1)) T := by
  refine (hx.and hT.2 1).ext (setI_S hT.2) (fun m hm => ?_)
  rw [bit_and, setI_bit hT.2, bit_1]
  unfold turnP
  by_cases e : m = 0
  · subst e
    simp [show 0 < T by omega]
  · rw [Nat.mod_eq_of_lt (show T - m < T by omega)]
    simp [e, show ¬ T - m = 0 by omega]
theorem sums_step {T i : Nat} {x y v : Int} (hT : 2 ≤ T ∧ T ≤ 24) (hi : i < T) (hy : Set24 T y) (hb : bit x i = true) (hv : ∀ m, m < T → bit v m = sumsP T x y i m) : ∀ m, m < T → bit (bOr v (bOr (bShl y (i : Int)) (bShr y ((T : Int) - (i : Int))))) m = sumsP T x y (i + 1) m := by
  intro m hm
  have h0 := hy.1
  rw [bit_or, bit_or, hv m hm, sumsP_succ, hb, Bool.true_and, bit_shl y (by omega), show (T : Int) - (i : Int) = ((T - i : Nat) : Int) by omega, bit_shr (by omega) (by omega) (by omega)]
  congr 1
  by_cases g : i ≤ m
  · rw [hy.2 (T - i + m) (by omega), show m + T - i = (m - i) + T by omega, Nat.add_mod_right, Nat.mod_eq_of_lt (show m - i < T by omega)]
    simp [show m < 32 by omega, show ¬ m < i by omega]
  · rw [Nat.mod_eq_of_lt (show m + T - i < T by omega), show T - i + m = m + T - i by omega]
    simp [show m < i by omega]
theorem sums_stay {T i : Nat} {x y v : Int} (hb : ¬ bit x i = true) (hv : ∀ m, m < T → bit v m = sumsP T x y i m) : ∀ m, m < T → bit v m = sumsP T x y (i + 1) m := by
  intro m hm
  rw [hv m hm, sumsP_succ]
  simp [hb]
theorem sums_end {T : Nat} {x y v : Int} (hT : 2 ≤ T ∧ T ≤ 24) (hv : ∀ m, m < T → bit v m = sumsP T x y T m) : bAnd v (allI T) = sumsI T x y := by
  have h1 : Set24 T (sumsI T x y) := setI_S hT.2
  refine bit_ext (bAnd_inR _ _) (by have := h1.1; unfold inR; omega) (fun i hi => ?_)
  rw [bit_and, allI_bit hT.2, sums_bit hT.2]
  by_cases e : i < T
  · rw [hv i e]
    simp [e]
  · simp [e]
theorem ct1_between (M : Id4 → Int → Int) (b : Bool) (d x y : Int) (hd : 0 ≤ d ∧ d < 2) (hx : 0 ≤ x ∧ x < 6) (hy : 0 ≤ y ∧ y < 6) : CtI 1 0 yX1_between cX1_between 3 (some .int) [aR (1, d, 0, 0), aI x, aI y] (M, R0 b) (PU (M, R0 b) (M (1, d, 2, 0) (6 * x + y))) := by
  refine CtI.mk (by decide +kernel) rfl (Nat.le_of_ble_eq_true rfl) (fun X K F hk => ?_)
  refine aw_aload0 (pc := 0) F dX1_between_0 ?_
  refine aw_getR (pc := 1) F dX1_between_1 fl_1_15 rfl (by first | decide | (simp only [inB, cnt, rcnt]; omega)) rfl nz1 rfl ?_
  refine aw_iload1 (pc := 4) F dX1_between_4 ?_
  refine aw_bipush (pc := 5) F dX1_between_5 (by decide) ?_
  refine aw_imul (pc := 7) F dX1_between_7 ?_
  refine aw_iload2 (pc := 8) F dX1_between_8 ?_
  refine aw_iadd (pc := 9) F dX1_between_9 ?_
  refine aw_iald (pc := 10) F dX1_between_10 rfl (by first | decide | (simp only [inB, cnt, rcnt]; omega)) (by omega) ?_
  exact aw_iret (pc := 11) F dX1_between_11 rfl (Nat.zero_le _) ⟨by rw [Int.mul_comm x 6], rfl⟩
theorem ct1_negated (M : Id4 → Int → Int) (b : Bool) (T : Nat) (d x : Int) (hd : 0 ≤ d ∧ d < 2) (hT : M (1, d, 0, 0) 3 = (T : Int)) (h : 2 ≤ T ∧ T ≤ 24) (hx : Set24 T x) : CtI 1 0 yX1_negated cX1_negated 4 (some .int) [aR (1, d, 0, 0), aI x] (M, R0 b) (PU (M, R0 b) (turnI T x)) := by
  refine CtI.mk (by decide +kernel) rfl (Nat.le_of_ble_eq_true rfl) (fun X K F hk => ?_)
  have hx0 := hx.1
  have key : ∀ (j i : Nat), i + j = T → 1 ≤ i → AW X K 6 [aR (1, d, 0, 0), aI x, aI (setI (fun m => turnP T x m && decide ((T - m) % T < i)) T), aI i] [] (M, R0 b) 0 (EI X K 0 (PU (M, R0 b) (turnI T x))) := by
    intro j
    induction j with
    | zero =>
      intro i hi h1
      refine aw_iload3 (pc := 6) F dX1_negated_6 ?_
      refine aw_aload0 (pc := 7) F dX1_negated_7 ?_
      refine aw_getI (pc := 8) F dX1_negated_8 fl_1_22 rfl (by first | decide | (simp only [inB, cnt, rcnt]; omega)) rfl nz3 ?_
      refine aw_icmp_ge (tgt := 40) (pc := 11) F dX1_negated_11 (by decide) (by unfold inR; omega) (by unfold inR; omega) (fun c11 => ?_) (fun c11 => ?_)
      · refine aw_iload2 (pc := 40) F dX1_negated_40 ?_
        exact aw_iret (pc := 41) F dX1_negated_41 rfl (Nat.zero_le _) ⟨setI_congr h.2 (fun m hm => by have := Nat.mod_lt (T - m) (show T > 0 by omega); simp; omega), rfl⟩
      · omega
    | succ j ih =>
      intro i hi h1
      have g := ih (i + 1) (by omega) (by omega)
      have e9 : (-(i : Int)) % (T : Int) = (T : Int) - (i : Int) := by rw [negmod (by omega), Nat.mod_eq_of_lt (by omega)]; omega
      refine aw_iload3 (pc := 6) F dX1_negated_6 ?_
      refine aw_aload0 (pc := 7) F dX1_negated_7 ?_
      refine aw_getI (pc := 8) F dX1_negated_8 fl_1_22 rfl (by first | decide | (simp only [inB, cnt, rcnt]; omega)) rfl nz3 ?_
      refine aw_icmp_ge (tgt := 40) (pc := 11) F dX1_negated_11 (by decide) (by first | exact bAnd_inR _ _ | (unfold inR; omega)) (by first | exact bAnd_inR _ _ | (unfold inR; omega)) (fun c11 => ?_) (fun c11 => ?_)
      · omega
      · refine aw_iload1 (pc := 14) F dX1_negated_14 ?_
        refine aw_iload3 (pc := 15) F dX1_negated_15 ?_
        refine aw_ishr (pc := 16) F dX1_negated_16 ?_
        refine aw_iconst (pc := 17) F dX1_negated_17 ?_
        refine aw_iand (pc := 18) F dX1_negated_18 ?_
        refine aw_iconst (pc := 19) F dX1_negated_19 ?_
        refine aw_icmp_ne (tgt := 34) (pc := 20) F dX1_negated_20 (by decide) (by first | exact bAnd_inR _ _ | (unfold inR; omega)) (by first | exact bAnd_inR _ _ | (unfold inR; omega)) (fun c20 => ?_) (fun c20 => ?_)
        · refine aw_iinc3 (pc := 34) F dX1_negated_34 rfl hk.symm ?_
          refine aw_goto (tgt := 6) (pc := 37) F dX1_negated_37 (by decide) ?_
          first | (rw [← turn_no h.2 (by omega) (shr_no (by omega) (by omega) c20), setI_or0 h.2] at g; exact g) | (rw [← turn_yes h.2 (by omega) (shr_yes (by omega) (by omega) c20), e9, ← hT] at g; exact g)
        · refine aw_iload2 (pc := 23) F dX1_negated_23 ?_
          refine aw_iconst (pc := 24) F dX1_negated_24 ?_
          refine aw_aload0 (pc := 25) F dX1_negated_25 ?_
          refine aw_getI (pc := 26) F dX1_negated_26 fl_1_22 rfl (by first | decide | (simp only [inB, cnt, rcnt]; omega)) rfl nz3 ?_
          refine aw_iload3 (pc := 29) F dX1_negated_29 ?_
          refine aw_isub (pc := 30) F dX1_negated_30 ?_
          refine aw_ishl (pc := 31) F dX1_negated_31 ?_
          refine aw_ior (pc := 32) F dX1_negated_32 ?_
          refine aw_istore2 (pc := 33) F dX1_negated_33 rfl hk.symm ?_
          refine aw_iinc3 (pc := 34) F dX1_negated_34 rfl hk.symm ?_
          refine aw_goto (tgt := 6) (pc := 37) F dX1_negated_37 (by decide) ?_
          first | (rw [← turn_no h.2 (by omega) (shr_no (by omega) (by omega) c20), setI_or0 h.2] at g; exact g) | (rw [← turn_yes h.2 (by omega) (shr_yes (by omega) (by omega) c20), e9, ← hT] at g; exact g)
  refine aw_iload1 (pc := 0) F dX1_negated_0 ?_
  refine aw_iconst (pc := 1) F dX1_negated_1 ?_
  refine aw_iand (pc := 2) F dX1_negated_2 ?_
  refine aw_istore2 (pc := 3) F dX1_negated_3 rfl hk.symm ?_
  refine aw_iconst (pc := 4) F dX1_negated_4 ?_
  refine aw_istore3 (pc := 5) F dX1_negated_5 rfl hk.symm ?_
  have g := key (T - 1) 1 (by omega) (by omega)
  rw [← turn_0 h hx] at g
  exact g
theorem ct1_sums (M : Id4 → Int → Int) (b : Bool) (T : Nat) (d x y : Int) (hd : 0 ≤ d ∧ d < 2) (hT : M (1, d, 0, 0) 3 = (T : Int)) (hall : M (1, d, 0, 0) 4 = allI T) (h : 2 ≤ T ∧ T ≤ 24) (hx : Set24 T x) (hy : Set24 T y) : CtI 1 0 yX1_sums cX1_sums 5 (some .int) [aR (1, d, 0, 0), aI x, aI y] (M, R0 b) (PU (M, R0 b) (sumsI T x y)) := by
  refine CtI.mk (by decide +kernel) rfl (Nat.le_of_ble_eq_true rfl) (fun X K F hk => ?_)
  have hx0 := hx.1
  have hy0 := hy.1
  have key : ∀ (j i : Nat) (v : Int), i + j = T → (∀ m, m < T → bit v m = sumsP T x y i m) → AW X K 5 [aR (1, d, 0, 0), aI x, aI y, aI v, aI i] [] (M, R0 b) 0 (EI X K 0 (PU (M, R0 b) (sumsI T x y))) := by
    intro j
    induction j with
    | zero =>
      intro i v hi hv
      obtain rfl : i = T := by omega
      have hr : inR (bAnd v (M (1, d, 0, 0) 4)) := bAnd_inR _ _
      refine aw_iload4 (pc := 5) F dX1_sums_5 ?_
      refine aw_aload0 (pc := 7) F dX1_sums_7 ?_
      refine aw_getI (pc := 8) F dX1_sums_8 fl_1_22 rfl (by first | decide | (simp only [inB, cnt, rcnt]; omega)) rfl nz3 ?_
      refine aw_icmp_ge (tgt := 47) (pc := 11) F dX1_sums_11 (by decide) (by first | exact hr | (unfold inR; omega)) (by first | exact hr | (unfold inR; omega)) (fun c11 => ?_) (fun c11 => ?_)
      · refine aw_iload3 (pc := 47) F dX1_sums_47 ?_
        refine aw_aload0 (pc := 48) F dX1_sums_48 ?_
        refine aw_getI (pc := 49) F dX1_sums_49 fl_1_25 rfl (by first | decide | (simp only [inB, cnt, rcnt]; omega)) rfl nz4 ?_
        refine aw_iand (pc := 52) F dX1_sums_52 ?_
        exact aw_iret (pc := 53) F dX1_sums_53 rfl (Nat.zero_le _) ⟨by rw [hall]; exact sums_end h hv, rfl⟩
      · omega
    | succ j ih =>
      intro i v hi hv
      refine aw_iload4 (pc := 5) F dX1_sums_5 ?_
      refine aw_aload0 (pc := 7) F dX1_sums_7 ?_
      refine aw_getI (pc := 8) F dX1_sums_8 fl_1_22 rfl (by first | decide | (simp only [inB, cnt, rcnt]; omega)) rfl nz3 ?_
      refine aw_icmp_ge (tgt := 47) (pc := 11) F dX1_sums_11 (by decide) (by first | exact bAnd_inR _ _ | (unfold inR; omega)) (by first | exact bAnd_inR _ _ | (unfold inR; omega)) (fun c11 => ?_) (fun c11 => ?_)
      · omega
      · refine aw_iload1 (pc := 14) F dX1_sums_14 ?_
        refine aw_iload4 (pc := 15) F dX1_sums_15 ?_
        refine aw_ishr (pc := 17) F dX1_sums_17 ?_
        refine aw_iconst (pc := 18) F dX1_sums_18 ?_
        refine aw_iand (pc := 19) F dX1_sums_19 ?_
        refine aw_iconst (pc := 20) F dX1_sums_20 ?_
        refine aw_icmp_ne (tgt := 41) (pc := 21) F dX1_sums_21 (by decide) (by first | exact bAnd_inR _ _ | (unfold inR; omega)) (by first | exact bAnd_inR _ _ | (unfold inR; omega)) (fun c21 => ?_) (fun c21 => ?_)
        · refine aw_iinc4 (pc := 41) F dX1_sums_41 rfl hk.symm ?_
          refine aw_goto (tgt := 5) (pc := 44) F dX1_sums_44 (by decide) ?_
          first | exact ih (i + 1) _ (by omega) (sums_stay (shr_no (by omega) (by omega) c21) hv) | exact ih (i + 1) _ (by omega) (by rw [hT]; exact sums_step h (by omega) hy (shr_yes (by omega) (by omega) c21) hv)
        · refine aw_iload3 (pc := 24) F dX1_sums_24 ?_
          refine aw_iload2 (pc := 25) F dX1_sums_25 ?_
          refine aw_iload4 (pc := 26) F dX1_sums_26 ?_
          refine aw_ishl (pc := 28) F dX1_sums_28 ?_
          refine aw_iload2 (pc := 29) F dX1_sums_29 ?_
          refine aw_aload0 (pc := 30) F dX1_sums_30 ?_
          refine aw_getI (pc := 31) F dX1_sums_31 fl_1_22 rfl (by first | decide | (simp only [inB, cnt, rcnt]; omega)) rfl nz3 ?_
          refine aw_iload4 (pc := 34) F dX1_sums_34 ?_
          refine aw_isub (pc := 36) F dX1_sums_36 ?_
          refine aw_ishr (pc := 37) F dX1_sums_37 ?_
          refine aw_ior (pc := 38) F dX1_sums_38 ?_
          refine aw_ior (pc := 39) F dX1_sums_39 ?_
          refine aw_istore3 (pc := 40) F dX1_sums_40 rfl hk.symm ?_
          refine aw_iinc4 (pc := 41) F dX1_sums_41 rfl hk.symm ?_
          refine aw_goto (tgt := 5) (pc := 44) F dX1_sums_44 (by decide) ?_
          first | exact ih (i + 1) _ (by omega) (sums_stay (shr_no (by omega) (by omega) c21) hv) | exact ih (i + 1) _ (by omega) (by rw [hT]; exact sums_step h (by omega) hy (shr_yes (by omega) (by omega) c21) hv)
  refine aw_iconst (pc := 0) F dX1_sums_0 ?_
  refine aw_istore3 (pc := 1) F dX1_sums_1 rfl hk.symm ?_
  refine aw_iconst (pc := 2) F dX1_sums_2 ?_
  refine aw_istore4 (pc := 3) F dX1_sums_3 rfl hk.symm ?_
  exact key T 0 0 (by omega) (fun m hm => bit_0 m)
theorem ct1_narrow (M : Id4 → Int → Int) (b : Bool) (T : Nat) (d x y z : Int) (hd : 0 ≤ d ∧ d < 2) (hT : M (1, d, 0, 0) 3 = (T : Int)) (h : 2 ≤ T ∧ T ≤ 24) (h0 : Set24 T (M (1, d, 2, 0) (6 * x + y))) (hx : 0 ≤ x ∧ x < 6) (hy : 0 ≤ y ∧ y < 6) : CtI 2 0 yX1_narrow cX1_narrow 6 (some .boolean) [aR (1, d, 0, 0), aI x, aI y, aI z] (M, R0 b) (fun v σ' => isB v (bAnd (M (1, d, 2, 0) (6 * x + y)) z ≠ M (1, d, 2, 0) (6 * x + y)) ∧ σ' = (setA M (1, d, 2, 0) (narA T (M (1, d, 2, 0)) x y z), R0 b)) := by
  refine CtI.mk (by decide +kernel) rfl (Nat.le_of_ble_eq_true rfl) (fun X K F hk => ?_)
  have h1 := h0.and h.2 z
  have i0 := h0.1
  have i1 := h1.1
  have e1 : setA M (1, d, 2, 0) (narA T (M (1, d, 2, 0)) x y z) = updM (updM M (1, d, 2, 0) (x * 6 + y) (bAnd (M (1, d, 2, 0) (6 * x + y)) z)) (1, d, 2, 0) (y * 6 + x) (turnI T (bAnd (M (1, d, 2, 0) (6 * x + y)) z)) := by
    rw [upd_asA, upd_asA, setA_setA, setA_same, Int.mul_comm x 6, Int.mul_comm y 6]
    rfl
  refine aw_aload0 (pc := 0) F dX1_narrow_0 ?_
  refine aw_iload1 (pc := 1) F dX1_narrow_1 ?_
  refine aw_iload2 (pc := 2) F dX1_narrow_2 ?_
  refine aw_pcallV2 (pc := 3) F dX1_narrow_3 ml_1_61 rfl (by first | decide | (simp only [inB, cnt, rcnt]; omega)) (ct1_between _ _ _ _ _ hd hx hy) (Nat.le_of_ble_eq_true rfl) (by decide) (Nat.zero_le _) ?_
  refine aw_istore4 (pc := 6) F dX1_narrow_6 rfl hk.symm ?_
  refine aw_iload4 (pc := 8) F dX1_narrow_8 ?_
  refine aw_iload3 (pc := 10) F dX1_narrow_10 ?_
  refine aw_iand (pc := 11) F dX1_narrow_11 ?_
  refine aw_istore5 (pc := 12) F dX1_narrow_12 rfl hk.symm ?_
  refine aw_aload0 (pc := 14) F dX1_narrow_14 ?_
  refine aw_getR (pc := 15) F dX1_narrow_15 fl_1_15 rfl (by first | decide | (simp only [inB, cnt, rcnt]; omega)) rfl nz1 rfl ?_
  refine aw_iload1 (pc := 18) F dX1_narrow_18 ?_
  refine aw_bipush (pc := 19) F dX1_narrow_19 (by decide) ?_
  refine aw_imul (pc := 21) F dX1_narrow_21 ?_
  refine aw_iload2 (pc := 22) F dX1_narrow_22 ?_
  refine aw_iadd (pc := 23) F dX1_narrow_23 ?_
  refine aw_iload5 (pc := 24) F dX1_narrow_24 ?_
  refine aw_iast (pc := 26) F dX1_narrow_26 rfl (by first | decide | (simp only [inB, cnt, rcnt]; omega)) (by omega) ?_
  refine aw_aload0 (pc := 27) F dX1_narrow_27 ?_
  refine aw_getR (pc := 28) F dX1_narrow_28 fl_1_15 rfl (by first | decide | (simp only [inB, cnt, rcnt]; omega)) rfl nz1 rfl ?_
  refine aw_iload2 (pc := 31) F dX1_narrow_31 ?_
  refine aw_bipush (pc := 32) F dX1_narrow_32 (by decide) ?_
  refine aw_imul (pc := 34) F dX1_narrow_34 ?_
  refine aw_iload1 (pc := 35) F dX1_narrow_35 ?_
  refine aw_iadd (pc := 36) F dX1_narrow_36 ?_
  refine aw_aload0 (pc := 37) F dX1_narrow_37 ?_
  refine aw_iload5 (pc := 38) F dX1_narrow_38 ?_
  refine aw_pcallV1 (pc := 40) F dX1_narrow_40 ml_1_71 rfl (by first | decide | (simp only [inB, cnt, rcnt]; omega)) (ct1_negated _ _ T _ _ hd (by rw [upd_ne (Or.inl (fun z => by cases z))]; exact hT) h h1) (Nat.le_of_ble_eq_true rfl) (by decide) (Nat.zero_le _) ?_
  refine aw_iast (pc := 43) F dX1_narrow_43 rfl (by first | decide | (simp only [inB, cnt, rcnt]; omega)) (by omega) ?_
  refine aw_iload5 (pc := 44) F dX1_narrow_44 ?_
  refine aw_iload4 (pc := 46) F dX1_narrow_46 ?_
  refine aw_icmp_eq (tgt := 55) (pc := 48) F dX1_narrow_48 (by decide) (by unfold inR; omega) (by unfold inR; omega) (fun c48 => ?_) (fun c48 => ?_)
  · refine aw_iconst (pc := 55) F dX1_narrow_55 ?_
    exact aw_iret (pc := 56) F dX1_narrow_56 (nar_bool (by first | exact b2i_01 | decide)) (Nat.zero_le _) ⟨by first | exact Or.inl ⟨rfl, fun z => z c48⟩ | exact Or.inr ⟨rfl, c48⟩, by rw [e1]⟩
  · refine aw_iconst (pc := 51) F dX1_narrow_51 ?_
    refine aw_goto (tgt := 56) (pc := 52) F dX1_narrow_52 (by decide) ?_
    exact aw_iret (pc := 56) F dX1_narrow_56 (nar_bool (by first | exact b2i_01 | decide)) (Nat.zero_le _) ⟨by first | exact Or.inl ⟨rfl, fun z => z c48⟩ | exact Or.inr ⟨rfl, c48⟩, by rw [e1]⟩
theorem ct1_keptWith (M : Id4 → Int → Int) (b : Bool) (S : Int → Int) (p k : Int) (hp : 0 ≤ p ∧ p < 13) (hR : plR M p S) (h : Ok S) (hk9 : 0 ≤ k ∧ k < S 20) : CtI 3 0 yX1_keptWith cX1_keptWith 4 (some .int) [aR (5, p, 0, 0), aI k] (M, R0 b) (PU (M, R0 b) (keptI S k)) := by
  refine CtI.mk (by decide +kernel) rfl (Nat.le_of_ble_eq_true rfl) (fun X K F hk => ?_)
  have hR0 := hR
  obtain ⟨⟨e0, e1, e2⟩, e3, e4⟩ := hR
  have h0 := h.1
  have hN := h.2.2.1
  have h1 := h.2.2.2.2 k hk9.1 hk9.2
  unfold SpOk at h1
  obtain ⟨f0, f1, f2, f3, f4⟩ := e4 k hk9.1 hk9.2
  obtain ⟨T, eT⟩ : ∃ T : Nat, S 0 = (T : Int) := ⟨(S 0).toNat, by omega⟩
  have key : ∀ (j i : Nat), i + j = T → AW X K 4 [aR (5, p, 0, 0), aI k, aI (setI (fun m => decide (m < i) && decide (kpBy S k (slBy S k (m : Int)))) T), aI i] [] (M, R0 b) 0 (EI X K 0 (PU (M, R0 b) (keptI S k))) := by
    intro j
    induction j with
    | zero =>
      intro i hi
      refine aw_iload3 (pc := 4) F dX1_keptWith_4 ?_
      refine aw_aload0 (pc := 5) F dX1_keptWith_5 ?_
      refine aw_getI (pc := 6) F dX1_keptWith_6 fl_1_33 rfl (by first | decide | (simp only [inB, cnt, rcnt]; omega)) rfl nz0 ?_
      refine aw_icmp_ge (tgt := 46) (pc := 9) F dX1_keptWith_9 (by decide) (by unfold inR; omega) (by unfold inR; omega) (fun c9 => ?_) (fun c9 => ?_)
      · refine aw_iload2 (pc := 46) F dX1_keptWith_46 ?_
        exact aw_iret (pc := 47) F dX1_keptWith_47 rfl (Nat.zero_le _) ⟨by unfold keptI; rw [eT]; exact setI_congr (by omega) (fun m hm => by simp [show m < i by omega]), rfl⟩
      · omega
    | succ j ih =>
      intro i hi
      have g := ih (i + 1) (by omega)
      have hs := slBy_bd h k (i : Int)
      refine aw_iload3 (pc := 4) F dX1_keptWith_4 ?_
      refine aw_aload0 (pc := 5) F dX1_keptWith_5 ?_
      refine aw_getI (pc := 6) F dX1_keptWith_6 fl_1_33 rfl (by first | decide | (simp only [inB, cnt, rcnt]; omega)) rfl nz0 ?_
      refine aw_icmp_ge (tgt := 46) (pc := 9) F dX1_keptWith_9 (by decide) (by unfold inR; omega) (by unfold inR; omega) (fun c9 => ?_) (fun c9 => ?_)
      · omega
      · refine aw_aload0 (pc := 12) F dX1_keptWith_12 ?_
        refine aw_getR (pc := 13) F dX1_keptWith_13 fl_1_51 rfl (by first | decide | (simp only [inB, cnt, rcnt]; omega)) rfl nz6 rfl ?_
        refine aw_iload1 (pc := 16) F dX1_keptWith_16 ?_
        refine aw_iald (pc := 17) F dX1_keptWith_17 rfl (by first | decide | (simp only [inB, cnt, rcnt]; omega)) (by omega) ?_
        refine aw_aload0 (pc := 18) F dX1_keptWith_18 ?_
        refine aw_iload1 (pc := 19) F dX1_keptWith_19 ?_
        refine aw_iload3 (pc := 20) F dX1_keptWith_20 ?_
        refine aw_pcallV2 (pc := 21) F dX1_keptWith_21 ml_1_54 rfl (by first | decide | (simp only [inB, cnt, rcnt]; omega)) (ct5_slackWith _ _ S _ _ _ hp hR0 h hk9 (by omega)) (Nat.le_of_ble_eq_true rfl) (by decide) (Nat.zero_le _) ?_
        refine aw_iadd (pc := 24) F dX1_keptWith_24 ?_
        refine aw_aload0 (pc := 25) F dX1_keptWith_25 ?_
        refine aw_getR (pc := 26) F dX1_keptWith_26 fl_1_58 rfl (by first | decide | (simp only [inB, cnt, rcnt]; omega)) rfl nz7 rfl ?_
        refine aw_iload1 (pc := 29) F dX1_keptWith_29 ?_
        refine aw_iald (pc := 30) F dX1_keptWith_30 rfl (by first | decide | (simp only [inB, cnt, rcnt]; omega)) (by omega) ?_
        refine aw_icmp_gt (tgt := 40) (pc := 31) F dX1_keptWith_31 (by decide) (by unfold inR; omega) (by unfold inR; omega) (fun c31 => ?_) (fun c31 => ?_)
        · refine aw_iinc3 (pc := 40) F dX1_keptWith_40 rfl hk.symm ?_
          refine aw_goto (tgt := 4) (pc := 43) F dX1_keptWith_43 (by decide) ?_
          first | (rw [← upto_no (P := fun m => decide (kpBy S k (slBy S k (m : Int)))) (by omega) (decide_eq_false (by unfold kpBy; omega)), setI_or0 (by omega)] at g; exact g) | (rw [← upto_yes (P := fun m => decide (kpBy S k (slBy S k (m : Int)))) (by omega) (by omega) (decide_eq_true (by unfold kpBy; omega))] at g; exact g)
        · refine aw_iload2 (pc := 34) F dX1_keptWith_34 ?_
          refine aw_iconst (pc := 35) F dX1_keptWith_35 ?_
          refine aw_iload3 (pc := 36) F dX1_keptWith_36 ?_
          refine aw_ishl (pc := 37) F dX1_keptWith_37 ?_
          refine aw_ior (pc := 38) F dX1_keptWith_38 ?_
          refine aw_istore2 (pc := 39) F dX1_keptWith_39 rfl hk.symm ?_
          refine aw_iinc3 (pc := 40) F dX1_keptWith_40 rfl hk.symm ?_
          refine aw_goto (tgt := 4) (pc := 43) F dX1_keptWith_43 (by decide) ?_
          first | (rw [← upto_no (P := fun m => decide (kpBy S k (slBy S k (m : Int)))) (by omega) (decide_eq_false (by unfold kpBy; omega)), setI_or0 (by omega)] at g; exact g) | (rw [← upto_yes (P := fun m => decide (kpBy S k (slBy S k (m : Int)))) (by omega) (by omega) (decide_eq_true (by unfold kpBy; omega))] at g; exact g)
  refine aw_iconst (pc := 0) F dX1_keptWith_0 ?_
  refine aw_istore2 (pc := 1) F dX1_keptWith_1 rfl hk.symm ?_
  refine aw_iconst (pc := 2) F dX1_keptWith_2 ?_
  refine aw_istore3 (pc := 3) F dX1_keptWith_3 rfl hk.symm ?_
  have g := key T 0 (by omega)
  rw [setI_none (fun m => by simp)] at g
  exact g
