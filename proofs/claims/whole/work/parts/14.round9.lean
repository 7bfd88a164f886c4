/-! 14: a round of the reference -/
theorem ct9_goesRound (M : Id4 → Int → Int) (b9 : Bool) (T : Nat) (hT : M (9, 0, 1, 0) 0 = (T : Int)) (h : Ok (M (9, 0, 1, 0))) (hA : MatOk T (M (9, 0, 17, 0))) (hs : SymA T (M (9, 0, 1, 0) 1) (M (9, 0, 17, 0))) : CtI 4 0 yX9_goesRound cX9_goesRound 6 (some .boolean) [aR (9, 0, 0, 0)] (M, R0 b9) (fun v σ' => isB v (chN T (M (9, 0, 1, 0) 1) (M (9, 0, 17, 0)) (M (9, 0, 1, 0) 1).toNat) ∧ σ' = (setA M (9, 0, 17, 0) (phN T (M (9, 0, 1, 0) 1) (M (9, 0, 17, 0)) (M (9, 0, 1, 0) 1).toNat), R0 b9)) := by
  refine CtI.mk (by decide +kernel) rfl (Nat.le_of_ble_eq_true rfl) (fun X K F hk => ?_)
  have hT2 : 2 ≤ T ∧ T ≤ 24 := by have := h.1; omega
  have hE0 := h.2.1
  obtain ⟨E, hE⟩ : ∃ E : Nat, M (9, 0, 1, 0) 1 = (E : Int) := ⟨(M (9, 0, 1, 0) 1).toNat, by omega⟩
  rw [hE] at hs hE0
  rw [hE, show ((E : Int)).toNat = E from rfl]
  generalize hQ : EI X K 0 (fun v σ' => isB v (chN T (E : Int) (M (9, 0, 17, 0)) E) ∧ σ' = (setA M (9, 0, 17, 0) (phN T (E : Int) (M (9, 0, 17, 0)) E), R0 b9)) = Q9
  have keyB : ∀ (A : Int → Int) (ch0 : Prop) (c a : Nat), MatOk T A → SymA T (E : Int) A → c < E → a < E → (∀ (x : Int) (M2 : Id4 → Int → Int) (w : AV), wide w = false → isB x (ch0 ∨ chg T E A c (Pr9 E ((a + 1 : Nat) : Int) 0)) → M2 = setA M (9, 0, 17, 0) (mixA T E A c (Pr9 E ((a + 1 : Nat) : Int) 0)) → AW X K 16 [aR (9, 0, 0, 0), aI x, aI c, aI ((a + 1 : Nat) : Int), aI E, w] [] (M2, R0 b9) 0 Q9) →
      ∀ (j b : Nat) (x : Int) (M' : Id4 → Int → Int) (w : AV), b + j = E → wide w = false → isB x (ch0 ∨ chg T E A c (Pr9 E a b)) → M' = setA M (9, 0, 17, 0) (mixA T E A c (Pr9 E a b)) → AW X K 29 [aR (9, 0, 0, 0), aI x, aI c, aI a, aI b, w] [] (M', R0 b9) 0 Q9 := by
    intro A ch0 c a hA1 hs1 hc ha cont j
    induction j with
    | zero =>
      intro b x M' w hb hw hx hM
      have hxb := isB_bd hx
      obtain rfl : b = E := by omega
      have s1 : M' (9, 0, 1, 0) = M (9, 0, 1, 0) := by rw [hM]; exact setA_ne (by decide)
      have s2 := congrFun s1 1
      have hPr : ∀ x y, Pr9 b a b x y ↔ Pr9 b ((a + 1 : Nat) : Int) 0 x y := by intro x y; unfold Pr9; omega
      refine aw_iload4 (pc := 29) F dX9_goesRound_29 ?_
      refine aw_aload0 (pc := 31) F dX9_goesRound_31 ?_
      refine aw_getR (pc := 32) F dX9_goesRound_32 fl_9_7 rfl (by first | decide | (simp only [inB, cnt, rcnt]; omega)) rfl nz0 rfl ?_
      refine aw_iconst (pc := 35) F dX9_goesRound_35 ?_
      refine aw_iald (pc := 36) F dX9_goesRound_36 rfl (by first | decide | (simp only [inB, cnt, rcnt]; omega)) (by omega) ?_
      refine aw_icmp_ge (tgt := 137) (pc := 37) F dX9_goesRound_37 (by decide) (by unfold inR; omega) (by unfold inR; omega) (fun c37 => ?_) (fun c37 => ?_)
      · refine aw_iinc3 (pc := 137) F dX9_goesRound_137 (by simp only [List.all_cons, List.all_nil, hw]; rfl) hk.symm ?_
        refine aw_goto (tgt := 16) (pc := 140) F dX9_goesRound_140 (by decide) ?_
        exact cont x M' w hw (isB_congr (or_congr Iff.rfl (chg_congr hPr)) hx) (by rw [hM, mix_congr hPr])
      · omega
    | succ j ih =>
      intro b x M' w hb hw hx hM
      have hxb := isB_bd hx
      have s1 : M' (9, 0, 1, 0) = M (9, 0, 1, 0) := by rw [hM]; exact setA_ne (by decide)
      have s2 := congrFun s1 1
      have sA : M' (9, 0, 17, 0) = mixA T E A c (Pr9 E a b) := by rw [hM]; exact setA_same
      have hmat : MatOk T (M' (9, 0, 17, 0)) := by rw [sA]; exact mixA_ok hT2.2 (by omega) hA1
      have hP : ∀ x y, Pr9 E a ((b + 1 : Nat) : Int) x y ↔ (Pr9 E a b x y ∨ (x = a ∧ y = b)) := by intro x y; unfold Pr9; omega
      have e1 : M' (9, 0, 17, 0) (6 * (a : Int) + c) = A (6 * (a : Int) + c) := by rw [sA]; exact mixA_c (by omega)
      have e2 : M' (9, 0, 17, 0) (6 * (c : Int) + b) = A (6 * (c : Int) + b) := by rw [sA]; exact mixA_c2 (by omega)
      have i1 := (hmat (6 * (a : Int) + b) (by omega) (by omega)).1
      have skip : ¬ dst E a b c → AW X K 29 [aR (9, 0, 0, 0), aI x, aI c, aI a, aI ((b + 1 : Nat) : Int), w] [] (M', R0 b9) 0 Q9 := fun hd => ih (b + 1) x M' w (by omega) hw (isB_congr (or_congr Iff.rfl (chg_skip hd hP).symm) hx) (by rw [hM, mix_skip (by omega) (by omega) hd hP])
      refine aw_iload4 (pc := 29) F dX9_goesRound_29 ?_
      refine aw_aload0 (pc := 31) F dX9_goesRound_31 ?_
      refine aw_getR (pc := 32) F dX9_goesRound_32 fl_9_7 rfl (by first | decide | (simp only [inB, cnt, rcnt]; omega)) rfl nz0 rfl ?_
      refine aw_iconst (pc := 35) F dX9_goesRound_35 ?_
      refine aw_iald (pc := 36) F dX9_goesRound_36 rfl (by first | decide | (simp only [inB, cnt, rcnt]; omega)) (by omega) ?_
      refine aw_icmp_ge (tgt := 137) (pc := 37) F dX9_goesRound_37 (by decide) (by unfold inR; omega) (by unfold inR; omega) (fun c37 => ?_) (fun c37 => ?_)
      · omega
      · refine aw_iload3 (pc := 40) F dX9_goesRound_40 ?_
        refine aw_iload4 (pc := 41) F dX9_goesRound_41 ?_
        refine aw_icmp_eq (tgt := 131) (pc := 43) F dX9_goesRound_43 (by decide) (by unfold inR; omega) (by unfold inR; omega) (fun c43 => ?_) (fun c43 => ?_)
        · skip
          refine aw_iinc4 (pc := 131) F dX9_goesRound_131 (by simp only [List.all_cons, List.all_nil, hw]; rfl) hk.symm ?_
          refine aw_goto (tgt := 29) (pc := 134) F dX9_goesRound_134 (by decide) ?_
          first | exact skip (fun z => by obtain ⟨z1, z2, z3, z4, z5⟩ := z; omega) | exact ih (b + 1) _ M2 _ (by omega) rfl (fin _ (by first | exact Or.inl ⟨rfl, Or.inl c106⟩ | exact Or.inl ⟨rfl, Or.inr (by rw [← t1]; exact c122)⟩ | exact Or.inr ⟨rfl, c106, by rw [← t1]; exact c122⟩)) hM2
        · refine aw_iload3 (pc := 46) F dX9_goesRound_46 ?_
          refine aw_iload2 (pc := 47) F dX9_goesRound_47 ?_
          refine aw_icmp_eq (tgt := 131) (pc := 48) F dX9_goesRound_48 (by decide) (by unfold inR; omega) (by unfold inR; omega) (fun c48 => ?_) (fun c48 => ?_)
          · skip
            refine aw_iinc4 (pc := 131) F dX9_goesRound_131 (by simp only [List.all_cons, List.all_nil, hw]; rfl) hk.symm ?_
            refine aw_goto (tgt := 29) (pc := 134) F dX9_goesRound_134 (by decide) ?_
            first | exact skip (fun z => by obtain ⟨z1, z2, z3, z4, z5⟩ := z; omega) | exact ih (b + 1) _ M2 _ (by omega) rfl (fin _ (by first | exact Or.inl ⟨rfl, Or.inl c106⟩ | exact Or.inl ⟨rfl, Or.inr (by rw [← t1]; exact c122)⟩ | exact Or.inr ⟨rfl, c106, by rw [← t1]; exact c122⟩)) hM2
          · refine aw_iload4 (pc := 51) F dX9_goesRound_51 ?_
            refine aw_iload2 (pc := 53) F dX9_goesRound_53 ?_
            refine aw_icmp_ne (tgt := 60) (pc := 54) F dX9_goesRound_54 (by decide) (by unfold inR; omega) (by unfold inR; omega) (fun c54 => ?_) (fun c54 => ?_)
            · refine aw_aload0 (pc := 60) F dX9_goesRound_60 ?_
              refine aw_getR (pc := 61) F dX9_goesRound_61 fl_9_26 rfl (by first | decide | (simp only [inB, cnt, rcnt]; omega)) rfl nz16 rfl ?_
              refine aw_iload3 (pc := 64) F dX9_goesRound_64 ?_
              refine aw_iload4 (pc := 65) F dX9_goesRound_65 ?_
              refine aw_pcallS2 (pc := 67) F dX9_goesRound_67 ml_9_230 (ct9_pair _ _ _ _) (Nat.le_of_ble_eq_true rfl) (by decide) (Nat.zero_le _) ?_
              refine aw_iald (pc := 70) F dX9_goesRound_70 rfl (by first | decide | (simp only [inB, cnt, rcnt]; omega)) (by omega) ?_
              refine aw_istore5 (pc := 71) F dX9_goesRound_71 (by simp only [List.all_cons, List.all_nil, hw]; rfl) hk.symm ?_
              refine aw_aload0 (pc := 73) F dX9_goesRound_73 ?_
              refine aw_iload3 (pc := 74) F dX9_goesRound_74 ?_
              refine aw_iload4 (pc := 75) F dX9_goesRound_75 ?_
              refine aw_aload0 (pc := 77) F dX9_goesRound_77 ?_
              refine aw_aload0 (pc := 78) F dX9_goesRound_78 ?_
              refine aw_getR (pc := 79) F dX9_goesRound_79 fl_9_26 rfl (by first | decide | (simp only [inB, cnt, rcnt]; omega)) rfl nz16 rfl ?_
              refine aw_iload3 (pc := 82) F dX9_goesRound_82 ?_
              refine aw_iload2 (pc := 83) F dX9_goesRound_83 ?_
              refine aw_pcallS2 (pc := 84) F dX9_goesRound_84 ml_9_230 (ct9_pair _ _ _ _) (Nat.le_of_ble_eq_true rfl) (by decide) (Nat.zero_le _) ?_
              refine aw_iald (pc := 87) F dX9_goesRound_87 rfl (by first | decide | (simp only [inB, cnt, rcnt]; omega)) (by omega) ?_
              refine aw_aload0 (pc := 88) F dX9_goesRound_88 ?_
              refine aw_getR (pc := 89) F dX9_goesRound_89 fl_9_26 rfl (by first | decide | (simp only [inB, cnt, rcnt]; omega)) rfl nz16 rfl ?_
              refine aw_iload2 (pc := 92) F dX9_goesRound_92 ?_
              refine aw_iload4 (pc := 93) F dX9_goesRound_93 ?_
              refine aw_pcallS2 (pc := 95) F dX9_goesRound_95 ml_9_230 (ct9_pair _ _ _ _) (Nat.le_of_ble_eq_true rfl) (by decide) (Nat.zero_le _) ?_
              refine aw_iald (pc := 98) F dX9_goesRound_98 rfl (by first | decide | (simp only [inB, cnt, rcnt]; omega)) (by omega) ?_
              refine aw_pcallV2 (pc := 99) F dX9_goesRound_99 ml_9_246 rfl (by first | decide | (simp only [inB, cnt, rcnt]; omega)) (ct9_sums _ _ T _ _ (by rw [s1]; exact hT) hT2 (hmat _ (by omega) (by omega)) (hmat _ (by omega) (by omega))) (Nat.le_of_ble_eq_true rfl) (by decide) (Nat.zero_le _) ?_
              refine aw_callVV3 (pc := 102) F dX9_goesRound_102 ml_9_242 rfl (by first | decide | (simp only [inB, cnt, rcnt]; omega)) (ct9_narrows _ _ T _ _ _ (by rw [s1]; exact hT) hT2 hmat (by omega) (by omega)) (Nat.le_of_ble_eq_true rfl) (by decide) (Nat.zero_le _) (fun σ9 h9 => ?_)
              have hd : dst E a b c := ⟨by omega, by omega, by omega, by omega, by omega⟩
              obtain ⟨m1, m2⟩ := mix_step (Pr := Pr9 E a b) hT2.2 (by omega) hs1 (by omega) hd hP
              rw [e1, e2, sA, m1, hM, setA_setA] at h9
              obtain ⟨M2, hM2⟩ : ∃ M2, M2 = setA M (9, 0, 17, 0) (mixA T E A c (Pr9 E a ((b + 1 : Nat) : Int))) := ⟨_, rfl⟩
              rw [← hM2] at h9
              subst h9
              have t1 : M2 (9, 0, 17, 0) (6 * (a : Int) + b) = phV T A c a b := by rw [hM2, setA_same, m2, phA_in (by omega) hd]
              have t2 : Set24 T (phV T A c a b) := by unfold phV; exact (hA1 _ (by omega) (by omega)).and hT2.2 _
              have t3 := t2.1
              have t4 := chg_step (Pr := Pr9 E a b) hT2.2 (by omega) hs1 (by omega) hd hP
              rw [← sA] at t4
              have fin : ∀ x' : Int, ((x' = 1 ∧ (¬ x = 0 ∨ ¬ phV T A c a b = M' (9, 0, 17, 0) (6 * (a : Int) + b))) ∨ (x' = 0 ∧ x = 0 ∧ phV T A c a b = M' (9, 0, 17, 0) (6 * (a : Int) + b))) → isB x' (ch0 ∨ chg T E A c (Pr9 E a ((b + 1 : Nat) : Int))) := by
                intro x' hx'
                rcases hx with ⟨hx1, hx2⟩ | ⟨hx1, hx2⟩
                · rcases hx' with ⟨q1, q2⟩ | ⟨q1, q2, q3⟩
                  · exact Or.inr ⟨q1, Or.inr (t4.mpr (Or.inr (q2.resolve_left (fun z => z hx1))))⟩
                  · exact Or.inl ⟨q1, fun z => z.elim (fun z => hx2 (Or.inl z)) (fun z => (t4.mp z).elim (fun z => hx2 (Or.inr z)) (fun z => z q3))⟩
                · rcases hx' with ⟨q1, q2⟩ | ⟨q1, q2, q3⟩
                  · exact Or.inr ⟨q1, hx2.imp id (fun z => t4.mpr (Or.inl z))⟩
                  · omega
              refine aw_iload1 (pc := 105) F dX9_goesRound_105 ?_
              refine aw_if_ne (tgt := 125) (pc := 106) F dX9_goesRound_106 (by decide) (by unfold inR; omega) (fun c106 => ?_) (fun c106 => ?_)
              · refine aw_iconst (pc := 125) F dX9_goesRound_125 ?_
                refine aw_goto (tgt := 130) (pc := 126) F dX9_goesRound_126 (by decide) ?_
                refine aw_istore1 (pc := 130) F dX9_goesRound_130 (by simp only [List.all_cons, List.all_nil, hw]; rfl) hk.symm ?_
                skip
                refine aw_iinc4 (pc := 131) F dX9_goesRound_131 (by simp only [List.all_cons, List.all_nil, hw]; rfl) hk.symm ?_
                refine aw_goto (tgt := 29) (pc := 134) F dX9_goesRound_134 (by decide) ?_
                first | exact skip (fun z => by obtain ⟨z1, z2, z3, z4, z5⟩ := z; omega) | exact ih (b + 1) _ M2 _ (by omega) rfl (fin _ (by first | exact Or.inl ⟨rfl, Or.inl c106⟩ | exact Or.inl ⟨rfl, Or.inr (by rw [← t1]; exact c122)⟩ | exact Or.inr ⟨rfl, c106, by rw [← t1]; exact c122⟩)) hM2
              · refine aw_aload0 (pc := 109) F dX9_goesRound_109 ?_
                refine aw_getR (pc := 110) F dX9_goesRound_110 fl_9_26 rfl (by first | decide | (simp only [inB, cnt, rcnt]; omega)) rfl nz16 rfl ?_
                refine aw_iload3 (pc := 113) F dX9_goesRound_113 ?_
                refine aw_iload4 (pc := 114) F dX9_goesRound_114 ?_
                refine aw_pcallS2 (pc := 116) F dX9_goesRound_116 ml_9_230 (ct9_pair _ _ _ _) (Nat.le_of_ble_eq_true rfl) (by decide) (Nat.zero_le _) ?_
                refine aw_iald (pc := 119) F dX9_goesRound_119 rfl (by first | decide | (simp only [inB, cnt, rcnt]; omega)) (by omega) ?_
                refine aw_iload5 (pc := 120) F dX9_goesRound_120 ?_
                refine aw_icmp_eq (tgt := 129) (pc := 122) F dX9_goesRound_122 (by decide) (by unfold inR; omega) (by unfold inR; omega) (fun c122 => ?_) (fun c122 => ?_)
                · refine aw_iconst (pc := 129) F dX9_goesRound_129 ?_
                  refine aw_istore1 (pc := 130) F dX9_goesRound_130 (by simp only [List.all_cons, List.all_nil, hw]; rfl) hk.symm ?_
                  skip
                  refine aw_iinc4 (pc := 131) F dX9_goesRound_131 (by simp only [List.all_cons, List.all_nil, hw]; rfl) hk.symm ?_
                  refine aw_goto (tgt := 29) (pc := 134) F dX9_goesRound_134 (by decide) ?_
                  first | exact skip (fun z => by obtain ⟨z1, z2, z3, z4, z5⟩ := z; omega) | exact ih (b + 1) _ M2 _ (by omega) rfl (fin _ (by first | exact Or.inl ⟨rfl, Or.inl c106⟩ | exact Or.inl ⟨rfl, Or.inr (by rw [← t1]; exact c122)⟩ | exact Or.inr ⟨rfl, c106, by rw [← t1]; exact c122⟩)) hM2
                · refine aw_iconst (pc := 125) F dX9_goesRound_125 ?_
                  refine aw_goto (tgt := 130) (pc := 126) F dX9_goesRound_126 (by decide) ?_
                  refine aw_istore1 (pc := 130) F dX9_goesRound_130 (by simp only [List.all_cons, List.all_nil, hw]; rfl) hk.symm ?_
                  skip
                  refine aw_iinc4 (pc := 131) F dX9_goesRound_131 (by simp only [List.all_cons, List.all_nil, hw]; rfl) hk.symm ?_
                  refine aw_goto (tgt := 29) (pc := 134) F dX9_goesRound_134 (by decide) ?_
                  first | exact skip (fun z => by obtain ⟨z1, z2, z3, z4, z5⟩ := z; omega) | exact ih (b + 1) _ M2 _ (by omega) rfl (fin _ (by first | exact Or.inl ⟨rfl, Or.inl c106⟩ | exact Or.inl ⟨rfl, Or.inr (by rw [← t1]; exact c122)⟩ | exact Or.inr ⟨rfl, c106, by rw [← t1]; exact c122⟩)) hM2
            · refine aw_goto (tgt := 131) (pc := 57) F dX9_goesRound_57 (by decide) ?_
              skip
              refine aw_iinc4 (pc := 131) F dX9_goesRound_131 (by simp only [List.all_cons, List.all_nil, hw]; rfl) hk.symm ?_
              refine aw_goto (tgt := 29) (pc := 134) F dX9_goesRound_134 (by decide) ?_
              first | exact skip (fun z => by obtain ⟨z1, z2, z3, z4, z5⟩ := z; omega) | exact ih (b + 1) _ M2 _ (by omega) rfl (fin _ (by first | exact Or.inl ⟨rfl, Or.inl c106⟩ | exact Or.inl ⟨rfl, Or.inr (by rw [← t1]; exact c122)⟩ | exact Or.inr ⟨rfl, c106, by rw [← t1]; exact c122⟩)) hM2
  have keyA : ∀ (A : Int → Int) (ch0 : Prop) (c : Nat), MatOk T A → SymA T (E : Int) A → c < E → (∀ (x : Int) (M2 : Id4 → Int → Int) (w4 w5 : AV), wide w4 = false → wide w5 = false → isB x (ch0 ∨ chg T E A c (fun _ _ => True)) → M2 = setA M (9, 0, 17, 0) (phA T E A c) → AW X K 4 [aR (9, 0, 0, 0), aI x, aI ((c + 1 : Nat) : Int), aI E, w4, w5] [] (M2, R0 b9) 0 Q9) →
      ∀ (j a : Nat) (x : Int) (M' : Id4 → Int → Int) (w4 w5 : AV), a + j = E → wide w4 = false → wide w5 = false → isB x (ch0 ∨ chg T E A c (Pr9 E a 0)) → M' = setA M (9, 0, 17, 0) (mixA T E A c (Pr9 E a 0)) → AW X K 16 [aR (9, 0, 0, 0), aI x, aI c, aI a, w4, w5] [] (M', R0 b9) 0 Q9 := by
    intro A ch0 c hA1 hs1 hc cont j
    induction j with
    | zero =>
      intro a x M' w4 w5 ha hw4 hw5 hx hM
      have hxb := isB_bd hx
      obtain rfl : a = E := by omega
      have s1 : M' (9, 0, 1, 0) = M (9, 0, 1, 0) := by rw [hM]; exact setA_ne (by decide)
      have s2 := congrFun s1 1
      have hall : ∀ x y, dst a x y c → Pr9 a a 0 x y := by
        intro x y hd
        obtain ⟨z1, z2, z3, z4, z5⟩ := hd
        unfold Pr9
        omega
      have hcg : chg T a A c (Pr9 a a 0) ↔ chg T a A c (fun _ _ => True) := ⟨fun ⟨x, y, q1, q2, q3⟩ => ⟨x, y, Or.inl trivial, q2, q3⟩, fun ⟨x, y, _, q2, q3⟩ => ⟨x, y, Or.inl (hall x y q2), q2, q3⟩⟩
      refine aw_iload3 (pc := 16) F dX9_goesRound_16 ?_
      refine aw_aload0 (pc := 17) F dX9_goesRound_17 ?_
      refine aw_getR (pc := 18) F dX9_goesRound_18 fl_9_7 rfl (by first | decide | (simp only [inB, cnt, rcnt]; omega)) rfl nz0 rfl ?_
      refine aw_iconst (pc := 21) F dX9_goesRound_21 ?_
      refine aw_iald (pc := 22) F dX9_goesRound_22 rfl (by first | decide | (simp only [inB, cnt, rcnt]; omega)) (by omega) ?_
      refine aw_icmp_ge (tgt := 143) (pc := 23) F dX9_goesRound_23 (by decide) (by unfold inR; omega) (by unfold inR; omega) (fun c23 => ?_) (fun c23 => ?_)
      · refine aw_iinc2 (pc := 143) F dX9_goesRound_143 (by simp only [List.all_cons, List.all_nil, hw4, hw5]; rfl) hk.symm ?_
        refine aw_goto (tgt := 4) (pc := 146) F dX9_goesRound_146 (by decide) ?_
        exact cont x M' w4 w5 hw4 hw5 (isB_congr (or_congr Iff.rfl hcg) hx) (by rw [hM, mix_all (fun x y hd => Or.inl (hall x y hd))])
      · omega
    | succ j ih =>
      intro a x M' w4 w5 ha hw4 hw5 hx hM
      have hxb := isB_bd hx
      have s1 : M' (9, 0, 1, 0) = M (9, 0, 1, 0) := by rw [hM]; exact setA_ne (by decide)
      have s2 := congrFun s1 1
      refine aw_iload3 (pc := 16) F dX9_goesRound_16 ?_
      refine aw_aload0 (pc := 17) F dX9_goesRound_17 ?_
      refine aw_getR (pc := 18) F dX9_goesRound_18 fl_9_7 rfl (by first | decide | (simp only [inB, cnt, rcnt]; omega)) rfl nz0 rfl ?_
      refine aw_iconst (pc := 21) F dX9_goesRound_21 ?_
      refine aw_iald (pc := 22) F dX9_goesRound_22 rfl (by first | decide | (simp only [inB, cnt, rcnt]; omega)) (by omega) ?_
      refine aw_icmp_ge (tgt := 143) (pc := 23) F dX9_goesRound_23 (by decide) (by unfold inR; omega) (by unfold inR; omega) (fun c23 => ?_) (fun c23 => ?_)
      · omega
      · refine aw_iconst (pc := 26) F dX9_goesRound_26 ?_
        refine aw_istore4 (pc := 27) F dX9_goesRound_27 (by simp only [List.all_cons, List.all_nil, hw4, hw5]; rfl) hk.symm ?_
        exact keyB A ch0 c a hA1 hs1 hc (by omega) (fun x M2 w hw hx2 hM2 => ih (a + 1) x M2 _ _ (by omega) rfl hw hx2 hM2) E 0 x M' _ (by omega) hw5 hx hM
  have keyC : ∀ (j c : Nat) (x : Int) (M' : Id4 → Int → Int) (w3 w4 w5 : AV), c + j = E → wide w3 = false → wide w4 = false → wide w5 = false → isB x (chN T E (M (9, 0, 17, 0)) c) → M' = setA M (9, 0, 17, 0) (phN T E (M (9, 0, 17, 0)) c) → MatOk T (phN T E (M (9, 0, 17, 0)) c) → SymA T E (phN T E (M (9, 0, 17, 0)) c) → AW X K 4 [aR (9, 0, 0, 0), aI x, aI c, w3, w4, w5] [] (M', R0 b9) 0 Q9 := by
    intro j
    induction j with
    | zero =>
      intro c x M' w3 w4 w5 hc hw3 hw4 hw5 hx hM hm1 hm2
      have hxb := isB_bd hx
      obtain rfl : c = E := by omega
      have s1 : M' (9, 0, 1, 0) = M (9, 0, 1, 0) := by rw [hM]; exact setA_ne (by decide)
      have s2 := congrFun s1 1
      refine aw_iload2 (pc := 4) F dX9_goesRound_4 ?_
      refine aw_aload0 (pc := 5) F dX9_goesRound_5 ?_
      refine aw_getR (pc := 6) F dX9_goesRound_6 fl_9_7 rfl (by first | decide | (simp only [inB, cnt, rcnt]; omega)) rfl nz0 rfl ?_
      refine aw_iconst (pc := 9) F dX9_goesRound_9 ?_
      refine aw_iald (pc := 10) F dX9_goesRound_10 rfl (by first | decide | (simp only [inB, cnt, rcnt]; omega)) (by omega) ?_
      refine aw_icmp_ge (tgt := 149) (pc := 11) F dX9_goesRound_11 (by decide) (by unfold inR; omega) (by unfold inR; omega) (fun c11 => ?_) (fun c11 => ?_)
      · rw [← hQ]
        refine aw_iload1 (pc := 149) F dX9_goesRound_149 ?_
        exact aw_iret (pc := 150) F dX9_goesRound_150 (nar_bool (by omega)) (Nat.zero_le _) ⟨hx, by rw [hM]⟩
      · omega
    | succ j ih =>
      intro c x M' w3 w4 w5 hc hw3 hw4 hw5 hx hM hm1 hm2
      have hxb := isB_bd hx
      have s1 : M' (9, 0, 1, 0) = M (9, 0, 1, 0) := by rw [hM]; exact setA_ne (by decide)
      have s2 := congrFun s1 1
      have hno : ∀ x y, ¬ Pr9 E (0 : Nat) 0 x y := by intro x y; unfold Pr9; omega
      refine aw_iload2 (pc := 4) F dX9_goesRound_4 ?_
      refine aw_aload0 (pc := 5) F dX9_goesRound_5 ?_
      refine aw_getR (pc := 6) F dX9_goesRound_6 fl_9_7 rfl (by first | decide | (simp only [inB, cnt, rcnt]; omega)) rfl nz0 rfl ?_
      refine aw_iconst (pc := 9) F dX9_goesRound_9 ?_
      refine aw_iald (pc := 10) F dX9_goesRound_10 rfl (by first | decide | (simp only [inB, cnt, rcnt]; omega)) (by omega) ?_
      refine aw_icmp_ge (tgt := 149) (pc := 11) F dX9_goesRound_11 (by decide) (by unfold inR; omega) (by unfold inR; omega) (fun c11 => ?_) (fun c11 => ?_)
      · omega
      · refine aw_iconst (pc := 14) F dX9_goesRound_14 ?_
        refine aw_istore3 (pc := 15) F dX9_goesRound_15 (by simp only [List.all_cons, List.all_nil, hw3, hw4, hw5]; rfl) hk.symm ?_
        exact keyA _ (chN T E (M (9, 0, 17, 0)) c) c hm1 hm2 (by omega) (fun x M2 w4 w5 g4 g5 hx2 hM2 => ih (c + 1) x M2 _ _ _ (by omega) rfl g4 g5 hx2 hM2 (phA_ok hT2.2 hm1 (by omega)) (phA_sym hT2.2 (by omega) hm2 (by omega))) E 0 x M' _ _ (by omega) hw4 hw5 (isB_congr ⟨Or.inl, fun z => z.elim id (fun ⟨x, y, q, _⟩ => absurd q (fun z => z.elim (hno x y) (hno y x)))⟩ hx) (by rw [hM, mix_none hno])
  refine aw_iconst (pc := 0) F dX9_goesRound_0 ?_
  refine aw_istore1 (pc := 1) F dX9_goesRound_1 rfl hk.symm ?_
  refine aw_iconst (pc := 2) F dX9_goesRound_2 ?_
  refine aw_istore2 (pc := 3) F dX9_goesRound_3 rfl hk.symm ?_
  exact keyC E 0 0 M aX aX aX (by omega) rfl rfl rfl (Or.inl ⟨rfl, id⟩) setA_id.symm hA hs
