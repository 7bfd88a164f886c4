/-! 23: the class's Differences: rounds -/
def PrC (E a b x y : Int) : Prop := (0 ≤ x ∧ x < y ∧ y < E) ∧ (x < a ∨ (x = a ∧ y < b))
theorem ct1_makeRound (M : Id4 → Int → Int) (b9 : Bool) (T E : Nat) (d : Int) (B : Int → Int) (hd : 0 ≤ d ∧ d < 2) (hT : M (1, d, 0, 0) 3 = (T : Int)) (hE : M (1, d, 0, 0) 2 = (E : Int)) (hall : M (1, d, 0, 0) 4 = allI T) (hT2 : 2 ≤ T ∧ T ≤ 24) (hE2 : E ≤ 6) (hA : Agr E (M (1, d, 2, 0)) B) (hB : MatOk T B) (hs : SymA T E B) : CtI 3 0 yX1_makeRound cX1_makeRound 5 (some .boolean) [aR (1, d, 0, 0)] (M, R0 b9) (fun v σ' => isB v (chN T E B E) ∧ ∃ A', Agr E A' (phN T E B E) ∧ σ' = (setA M (1, d, 2, 0) A', R0 b9)) := by
  refine CtI.mk (by decide +kernel) rfl (Nat.le_of_ble_eq_true rfl) (fun X K F hk => ?_)
  have hne : ((1, d, 0, 0) : Id4) ≠ (1, d, 2, 0) := fun z => by cases z
  generalize hQ : EI X K 0 (fun v σ' => isB v (chN T E B E) ∧ ∃ A', Agr E A' (phN T E B E) ∧ σ' = (setA M (1, d, 2, 0) A', R0 b9)) = Q9
  have keyB : ∀ (A : Int → Int) (ch0 : Prop) (c a : Nat), MatOk T A → SymA T (E : Int) A → c < E → a < E → (∀ (x : Int) (M2 : Id4 → Int → Int) (A2 : Int → Int) (w : AV), wide w = false → isB x (ch0 ∨ chg T E A c (PrC E ((a + 1 : Nat) : Int) ((a + 1 : Nat) + 1 : Int))) → Agr E A2 (mixA T E A c (PrC E ((a + 1 : Nat) : Int) ((a + 1 : Nat) + 1 : Int))) → M2 = setA M (1, d, 2, 0) A2 → AW X K 14 [aR (1, d, 0, 0), aI x, aI c, aI ((a + 1 : Nat) : Int), w] [] (M2, R0 b9) 0 Q9) →
      ∀ (j b : Nat) (x : Int) (M' : Id4 → Int → Int) (A' : Int → Int), b + j = E → a < b → isB x (ch0 ∨ chg T E A c (PrC E a b)) → Agr E A' (mixA T E A c (PrC E a b)) → M' = setA M (1, d, 2, 0) A' → AW X K 27 [aR (1, d, 0, 0), aI x, aI c, aI a, aI b] [] (M', R0 b9) 0 Q9 := by
    intro A ch0 c a hA1 hs1 hc ha cont j
    induction j with
    | zero =>
      intro b x M' A' hb hab hx hAg hM
      have hxb := isB_bd hx
      obtain rfl : b = E := by omega
      have s1 : M' (1, d, 0, 0) = M (1, d, 0, 0) := by rw [hM]; exact setA_ne hne
      have hPr : ∀ x y, PrC b a b x y ↔ PrC b ((a + 1 : Nat) : Int) ((a + 1 : Nat) + 1 : Int) x y := by intro x y; unfold PrC; omega
      have s2 := congrFun s1 2
      refine aw_iload4 (pc := 27) F dX1_makeRound_27 ?_
      refine aw_aload0 (pc := 29) F dX1_makeRound_29 ?_
      refine aw_getI (pc := 30) F dX1_makeRound_30 fl_1_19 rfl (by first | decide | (simp only [inB, cnt, rcnt]; omega)) rfl nz2 ?_
      refine aw_icmp_ge (tgt := 82) (pc := 33) F dX1_makeRound_33 (by decide) (by unfold inR; omega) (by unfold inR; omega) (fun c33 => ?_) (fun c33 => ?_)
      · refine aw_iinc3 (pc := 82) F dX1_makeRound_82 rfl hk.symm ?_
        refine aw_goto (tgt := 14) (pc := 85) F dX1_makeRound_85 (by decide) ?_
        exact cont x M' A' _ rfl (isB_congr (or_congr Iff.rfl (chg_congr hPr)) hx) (by rw [← mix_congr hPr]; exact hAg) hM
      · omega
    | succ j ih =>
      intro b x M' A' hb hab hx hAg hM
      have hxb := isB_bd hx
      have s1 : M' (1, d, 0, 0) = M (1, d, 0, 0) := by rw [hM]; exact setA_ne hne
      have s2 := congrFun s1 2
      have sA : M' (1, d, 2, 0) = A' := by rw [hM]; exact setA_same
      have hmix : MatOk T (mixA T E A c (PrC E a b)) := mixA_ok hT2.2 (by omega) hA1
      have hP : ∀ x y, PrC E a ((b + 1 : Nat) : Int) x y ↔ (PrC E a b x y ∨ (x = a ∧ y = b)) := by intro x y; unfold PrC; omega
      have e1 : M' (1, d, 2, 0) (6 * (a : Int) + c) = A (6 * (a : Int) + c) := by rw [sA, hAg _ _ (by omega) (by omega) (by omega) (by omega)]; exact mixA_c (by omega)
      have e2 : M' (1, d, 2, 0) (6 * (c : Int) + b) = A (6 * (c : Int) + b) := by rw [sA, hAg _ _ (by omega) (by omega) (by omega) (by omega)]; exact mixA_c2 (by omega)
      have e3 : M' (1, d, 2, 0) (6 * (a : Int) + b) = mixA T E A c (PrC E a b) (6 * (a : Int) + b) := by rw [sA, hAg _ _ (by omega) (by omega) (by omega) (by omega)]
      have skip : ¬ dst E a b c → AW X K 27 [aR (1, d, 0, 0), aI x, aI c, aI a, aI ((b + 1 : Nat) : Int)] [] (M', R0 b9) 0 Q9 := fun hd => ih (b + 1) x M' A' (by omega) (by omega) (isB_congr (or_congr Iff.rfl (chg_skip hd hP).symm) hx) (by rw [← mix_skip (by omega) (by omega) hd hP]; exact hAg) hM
      refine aw_iload4 (pc := 27) F dX1_makeRound_27 ?_
      refine aw_aload0 (pc := 29) F dX1_makeRound_29 ?_
      refine aw_getI (pc := 30) F dX1_makeRound_30 fl_1_19 rfl (by first | decide | (simp only [inB, cnt, rcnt]; omega)) rfl nz2 ?_
      refine aw_icmp_ge (tgt := 82) (pc := 33) F dX1_makeRound_33 (by decide) (by unfold inR; omega) (by unfold inR; omega) (fun c33 => ?_) (fun c33 => ?_)
      · omega
      · refine aw_iload2 (pc := 36) F dX1_makeRound_36 ?_
        refine aw_iload3 (pc := 37) F dX1_makeRound_37 ?_
        refine aw_icmp_eq (tgt := 76) (pc := 38) F dX1_makeRound_38 (by decide) (by unfold inR; omega) (by unfold inR; omega) (fun c38 => ?_) (fun c38 => ?_)
        · refine aw_iinc4 (pc := 76) F dX1_makeRound_76 rfl hk.symm ?_
          refine aw_goto (tgt := 27) (pc := 79) F dX1_makeRound_79 (by decide) ?_
          first | exact skip (fun z => by obtain ⟨z1, z2, z3, z4, z5⟩ := z; omega) | exact ih (b + 1) _ _ A2 (by omega) (by omega) (isB_congr (or_congr Iff.rfl (t4.trans ⟨fun z => z.resolve_right (fun q => (hv.resolve_right (fun w => by omega)).2 q), Or.inl⟩).symm) hx) hg2 rfl | exact ih (b + 1) _ _ A2 (by omega) (by omega) (Or.inr ⟨rfl, Or.inr (t4.mpr (Or.inr (hv.resolve_left (fun w => c71 w.1)).2))⟩) hg2 rfl
        · refine aw_iload2 (pc := 41) F dX1_makeRound_41 ?_
          refine aw_iload4 (pc := 42) F dX1_makeRound_42 ?_
          refine aw_icmp_eq (tgt := 76) (pc := 44) F dX1_makeRound_44 (by decide) (by unfold inR; omega) (by unfold inR; omega) (fun c44 => ?_) (fun c44 => ?_)
          · refine aw_iinc4 (pc := 76) F dX1_makeRound_76 rfl hk.symm ?_
            refine aw_goto (tgt := 27) (pc := 79) F dX1_makeRound_79 (by decide) ?_
            first | exact skip (fun z => by obtain ⟨z1, z2, z3, z4, z5⟩ := z; omega) | exact ih (b + 1) _ _ A2 (by omega) (by omega) (isB_congr (or_congr Iff.rfl (t4.trans ⟨fun z => z.resolve_right (fun q => (hv.resolve_right (fun w => by omega)).2 q), Or.inl⟩).symm) hx) hg2 rfl | exact ih (b + 1) _ _ A2 (by omega) (by omega) (Or.inr ⟨rfl, Or.inr (t4.mpr (Or.inr (hv.resolve_left (fun w => c71 w.1)).2))⟩) hg2 rfl
          · refine aw_aload0 (pc := 47) F dX1_makeRound_47 ?_
            refine aw_iload3 (pc := 48) F dX1_makeRound_48 ?_
            refine aw_iload4 (pc := 49) F dX1_makeRound_49 ?_
            refine aw_aload0 (pc := 51) F dX1_makeRound_51 ?_
            refine aw_aload0 (pc := 52) F dX1_makeRound_52 ?_
            refine aw_iload3 (pc := 53) F dX1_makeRound_53 ?_
            refine aw_iload2 (pc := 54) F dX1_makeRound_54 ?_
            refine aw_pcallV2 (pc := 55) F dX1_makeRound_55 ml_1_61 rfl (by first | decide | (simp only [inB, cnt, rcnt]; omega)) (ct1_between _ _ _ _ _ hd (by omega) (by omega)) (Nat.le_of_ble_eq_true rfl) (by decide) (Nat.zero_le _) ?_
            refine aw_aload0 (pc := 58) F dX1_makeRound_58 ?_
            refine aw_iload2 (pc := 59) F dX1_makeRound_59 ?_
            refine aw_iload4 (pc := 60) F dX1_makeRound_60 ?_
            refine aw_pcallV2 (pc := 62) F dX1_makeRound_62 ml_1_61 rfl (by first | decide | (simp only [inB, cnt, rcnt]; omega)) (ct1_between _ _ _ _ _ hd (by omega) (by omega)) (Nat.le_of_ble_eq_true rfl) (by decide) (Nat.zero_le _) ?_
            refine aw_pcallV2 (pc := 65) F dX1_makeRound_65 ml_1_68 rfl (by first | decide | (simp only [inB, cnt, rcnt]; omega)) (ct1_sums _ _ T _ _ _ hd (by rw [s1]; exact hT) (by rw [s1]; exact hall) hT2 (by rw [e1]; exact hA1 _ (by omega) (by omega)) (by rw [e2]; exact hA1 _ (by omega) (by omega))) (Nat.le_of_ble_eq_true rfl) (by decide) (Nat.zero_le _) ?_
            refine aw_callVI3 (pc := 68) F dX1_makeRound_68 ml_1_47 rfl (by first | decide | (simp only [inB, cnt, rcnt]; omega)) (ct1_narrow _ _ T _ _ _ _ hd (by rw [s1]; exact hT) hT2 (by rw [e3]; exact hmix _ (by omega) (by omega)) (by omega) (by omega)) (Nat.le_of_ble_eq_true rfl) (by decide) (Nat.zero_le _) (fun v9 σ9 h9_68 => ?_)
            obtain ⟨hv, h9⟩ := h9_68
            have hds : dst E a b c := ⟨by omega, by omega, by omega, by omega, by omega⟩
            obtain ⟨m1, m2⟩ := mix_step (Pr := PrC E a b) hT2.2 (by omega) hs1 (by omega) hds hP
            have hph : bAnd (mixA T E A c (PrC E a b) (6 * (a : Int) + b)) (sumsI T (A (6 * (a : Int) + c)) (A (6 * (c : Int) + b))) = phV T A c a b := by
              have z := congrFun m1 (6 * (a : Int) + b)
              unfold narA at z
              rw [upS_ne (by omega), upS_same, m2, phA_in (by omega) hds] at z
              exact z
            have hg2 := narA_agr (T := T) (x := sumsI T (A (6 * (a : Int) + c)) (A (6 * (c : Int) + b))) (show (E : Int) ≤ 6 by omega) hAg (show 0 ≤ (a : Int) ∧ (a : Int) < E by omega) (show 0 ≤ (b : Int) ∧ (b : Int) < E by omega)
            rw [m1] at hg2
            rw [e1, e2, e3, hph] at hv
            rw [e1, e2, sA, hM, setA_setA] at h9
            generalize narA T A' a b (sumsI T (A (6 * (a : Int) + c)) (A (6 * (c : Int) + b))) = A2 at h9 hg2
            subst h9
            have t4 := chg_step (Pr := PrC E a b) hT2.2 (by omega) hs1 (by omega) hds hP
            have hvb := isB_bd hv
            refine aw_if_eq (tgt := 76) (pc := 71) F dX1_makeRound_71 (by decide) (by unfold inR; omega) (fun c71 => ?_) (fun c71 => ?_)
            · refine aw_iinc4 (pc := 76) F dX1_makeRound_76 rfl hk.symm ?_
              refine aw_goto (tgt := 27) (pc := 79) F dX1_makeRound_79 (by decide) ?_
              first | exact skip (fun z => by obtain ⟨z1, z2, z3, z4, z5⟩ := z; omega) | exact ih (b + 1) _ _ A2 (by omega) (by omega) (isB_congr (or_congr Iff.rfl (t4.trans ⟨fun z => z.resolve_right (fun q => (hv.resolve_right (fun w => by omega)).2 q), Or.inl⟩).symm) hx) hg2 rfl | exact ih (b + 1) _ _ A2 (by omega) (by omega) (Or.inr ⟨rfl, Or.inr (t4.mpr (Or.inr (hv.resolve_left (fun w => c71 w.1)).2))⟩) hg2 rfl
            · refine aw_iconst (pc := 74) F dX1_makeRound_74 ?_
              refine aw_istore1 (pc := 75) F dX1_makeRound_75 rfl hk.symm ?_
              refine aw_iinc4 (pc := 76) F dX1_makeRound_76 rfl hk.symm ?_
              refine aw_goto (tgt := 27) (pc := 79) F dX1_makeRound_79 (by decide) ?_
              first | exact skip (fun z => by obtain ⟨z1, z2, z3, z4, z5⟩ := z; omega) | exact ih (b + 1) _ _ A2 (by omega) (by omega) (isB_congr (or_congr Iff.rfl (t4.trans ⟨fun z => z.resolve_right (fun q => (hv.resolve_right (fun w => by omega)).2 q), Or.inl⟩).symm) hx) hg2 rfl | exact ih (b + 1) _ _ A2 (by omega) (by omega) (Or.inr ⟨rfl, Or.inr (t4.mpr (Or.inr (hv.resolve_left (fun w => c71 w.1)).2))⟩) hg2 rfl
  have keyA : ∀ (A : Int → Int) (ch0 : Prop) (c : Nat), MatOk T A → SymA T (E : Int) A → c < E → (∀ (x : Int) (M2 : Id4 → Int → Int) (A2 : Int → Int) (w3 w4 : AV), wide w3 = false → wide w4 = false → isB x (ch0 ∨ chg T E A c (fun _ _ => True)) → Agr E A2 (phA T E A c) → M2 = setA M (1, d, 2, 0) A2 → AW X K 4 [aR (1, d, 0, 0), aI x, aI ((c + 1 : Nat) : Int), w3, w4] [] (M2, R0 b9) 0 Q9) →
      ∀ (j a : Nat) (x : Int) (M' : Id4 → Int → Int) (A' : Int → Int) (w4 : AV), a + j = E → wide w4 = false → isB x (ch0 ∨ chg T E A c (PrC E a (a + 1))) → Agr E A' (mixA T E A c (PrC E a (a + 1))) → M' = setA M (1, d, 2, 0) A' → AW X K 14 [aR (1, d, 0, 0), aI x, aI c, aI a, w4] [] (M', R0 b9) 0 Q9 := by
    intro A ch0 c hA1 hs1 hc cont j
    induction j with
    | zero =>
      intro a x M' A' w4 ha hw4 hx hAg hM
      have hxb := isB_bd hx
      obtain rfl : a = E := by omega
      have s1 : M' (1, d, 0, 0) = M (1, d, 0, 0) := by rw [hM]; exact setA_ne hne
      have s2 := congrFun s1 2
      have hall9 : ∀ x y, dst a x y c → PrC a a (a + 1) x y ∨ PrC a a (a + 1) y x := by
        intro x y hd
        obtain ⟨z1, z2, z3, z4, z5⟩ := hd
        unfold PrC
        omega
      have hcg : chg T a A c (PrC a a (a + 1)) ↔ chg T a A c (fun _ _ => True) := ⟨fun ⟨x, y, q1, q2, q3⟩ => ⟨x, y, Or.inl trivial, q2, q3⟩, fun ⟨x, y, _, q2, q3⟩ => ⟨x, y, hall9 x y q2, q2, q3⟩⟩
      refine aw_iload3 (pc := 14) F dX1_makeRound_14 ?_
      refine aw_aload0 (pc := 15) F dX1_makeRound_15 ?_
      refine aw_getI (pc := 16) F dX1_makeRound_16 fl_1_19 rfl (by first | decide | (simp only [inB, cnt, rcnt]; omega)) rfl nz2 ?_
      refine aw_icmp_ge (tgt := 88) (pc := 19) F dX1_makeRound_19 (by decide) (by unfold inR; omega) (by unfold inR; omega) (fun c19 => ?_) (fun c19 => ?_)
      · refine aw_iinc2 (pc := 88) F dX1_makeRound_88 (by simp only [List.all_cons, List.all_nil, hw4]; rfl) hk.symm ?_
        refine aw_goto (tgt := 4) (pc := 91) F dX1_makeRound_91 (by decide) ?_
        exact cont x M' A' _ w4 rfl hw4 (isB_congr (or_congr Iff.rfl hcg) hx) (by rw [← mix_all hall9]; exact hAg) hM
      · omega
    | succ j ih =>
      intro a x M' A' w4 ha hw4 hx hAg hM
      have hxb := isB_bd hx
      have s1 : M' (1, d, 0, 0) = M (1, d, 0, 0) := by rw [hM]; exact setA_ne hne
      have s2 := congrFun s1 2
      refine aw_iload3 (pc := 14) F dX1_makeRound_14 ?_
      refine aw_aload0 (pc := 15) F dX1_makeRound_15 ?_
      refine aw_getI (pc := 16) F dX1_makeRound_16 fl_1_19 rfl (by first | decide | (simp only [inB, cnt, rcnt]; omega)) rfl nz2 ?_
      refine aw_icmp_ge (tgt := 88) (pc := 19) F dX1_makeRound_19 (by decide) (by unfold inR; omega) (by unfold inR; omega) (fun c19 => ?_) (fun c19 => ?_)
      · omega
      · refine aw_iload3 (pc := 22) F dX1_makeRound_22 ?_
        refine aw_iconst (pc := 23) F dX1_makeRound_23 ?_
        refine aw_iadd (pc := 24) F dX1_makeRound_24 ?_
        refine aw_istore4 (pc := 25) F dX1_makeRound_25 (by simp only [List.all_cons, List.all_nil, hw4]; rfl) hk.symm ?_
        exact keyB A ch0 c a hA1 hs1 hc (by omega) (fun x M2 A2 w hw hx2 hA2 hM2 => ih (a + 1) x M2 A2 w (by omega) hw hx2 hA2 hM2) j (a + 1) x M' A' (by omega) (by omega) hx hAg hM
  have keyC : ∀ (j c : Nat) (x : Int) (M' : Id4 → Int → Int) (A' : Int → Int) (w3 w4 : AV), c + j = E → wide w3 = false → wide w4 = false → isB x (chN T E B c) → Agr E A' (phN T E B c) → M' = setA M (1, d, 2, 0) A' → MatOk T (phN T E B c) → SymA T E (phN T E B c) → AW X K 4 [aR (1, d, 0, 0), aI x, aI c, w3, w4] [] (M', R0 b9) 0 Q9 := by
    intro j
    induction j with
    | zero =>
      intro c x M' A' w3 w4 hc hw3 hw4 hx hAg hM hm1 hm2
      have hxb := isB_bd hx
      obtain rfl : c = E := by omega
      have s1 : M' (1, d, 0, 0) = M (1, d, 0, 0) := by rw [hM]; exact setA_ne hne
      have s2 := congrFun s1 2
      refine aw_iload2 (pc := 4) F dX1_makeRound_4 ?_
      refine aw_aload0 (pc := 5) F dX1_makeRound_5 ?_
      refine aw_getI (pc := 6) F dX1_makeRound_6 fl_1_19 rfl (by first | decide | (simp only [inB, cnt, rcnt]; omega)) rfl nz2 ?_
      refine aw_icmp_ge (tgt := 94) (pc := 9) F dX1_makeRound_9 (by decide) (by unfold inR; omega) (by unfold inR; omega) (fun c9 => ?_) (fun c9 => ?_)
      · rw [← hQ]
        refine aw_iload1 (pc := 94) F dX1_makeRound_94 ?_
        exact aw_iret (pc := 95) F dX1_makeRound_95 (nar_bool (by omega)) (Nat.zero_le _) ⟨hx, A', hAg, by rw [hM]⟩
      · omega
    | succ j ih =>
      intro c x M' A' w3 w4 hc hw3 hw4 hx hAg hM hm1 hm2
      have hxb := isB_bd hx
      have s1 : M' (1, d, 0, 0) = M (1, d, 0, 0) := by rw [hM]; exact setA_ne hne
      have s2 := congrFun s1 2
      have hno : ∀ x y, ¬ PrC E (0 : Nat) ((0 : Nat) + 1) x y := by intro x y; unfold PrC; omega
      refine aw_iload2 (pc := 4) F dX1_makeRound_4 ?_
      refine aw_aload0 (pc := 5) F dX1_makeRound_5 ?_
      refine aw_getI (pc := 6) F dX1_makeRound_6 fl_1_19 rfl (by first | decide | (simp only [inB, cnt, rcnt]; omega)) rfl nz2 ?_
      refine aw_icmp_ge (tgt := 94) (pc := 9) F dX1_makeRound_9 (by decide) (by unfold inR; omega) (by unfold inR; omega) (fun c9 => ?_) (fun c9 => ?_)
      · omega
      · refine aw_iconst (pc := 12) F dX1_makeRound_12 ?_
        refine aw_istore3 (pc := 13) F dX1_makeRound_13 (by simp only [List.all_cons, List.all_nil, hw3, hw4]; rfl) hk.symm ?_
        exact keyA _ (chN T E B c) c hm1 hm2 (by omega) (fun x M2 A2 w3 w4 g3 g4 hx2 hA2 hM2 => ih (c + 1) x M2 A2 _ _ (by omega) g3 g4 hx2 hA2 hM2 (phA_ok hT2.2 hm1 (by omega)) (phA_sym hT2.2 (by omega) hm2 (by omega))) E 0 x M' A' _ (by omega) hw4 (isB_congr ⟨Or.inl, fun z => z.elim id (fun ⟨x, y, q, _⟩ => absurd q (fun z => z.elim (hno x y) (hno y x)))⟩ hx) (by rw [mix_none hno]; exact hAg) hM
  refine aw_iconst (pc := 0) F dX1_makeRound_0 ?_
  refine aw_istore1 (pc := 1) F dX1_makeRound_1 rfl hk.symm ?_
  refine aw_iconst (pc := 2) F dX1_makeRound_2 ?_
  refine aw_istore2 (pc := 3) F dX1_makeRound_3 rfl hk.symm ?_
  exact keyC E 0 0 M (M (1, d, 2, 0)) aX aX (by omega) rfl rfl (Or.inl ⟨rfl, id⟩) hA setA_id.symm hB hs
