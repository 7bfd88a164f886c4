/-! 88: feed -/
theorem ct8_appendBytes (M : Id4 → Int → Int) (b : Bool) (w bf : Int) (hbf : M (8, 0, 0, 0) 1 = bf) (h1 : 0 ≤ bf ∧ bf ≤ 496) : CtV 1 0 yX8_appendBytes cX8_appendBytes 3 none [aR (8, 0, 0, 0), aI w] (M, R0 b) (fun σ' => ∃ M', σ' = (M', R0 b) ∧ (∀ q k, ¬ (q = (8, 0, 1, 0) ∨ (q = (8, 0, 0, 0) ∧ k = 1)) → M' q k = M q k) ∧ M' (8, 0, 0, 0) 1 = bf + 4 ∧ M' (8, 0, 1, 0) = upS (upS (upS (upS (M (8, 0, 1, 0)) bf (bI2b (bUshr w 24))) (bf + 1) (bI2b (bUshr w 16))) (bf + 2) (bI2b (bUshr w 8))) (bf + 3) (bI2b (bUshr w 0))) := by
  refine CtV.mk (by decide +kernel) rfl (Nat.le_of_ble_eq_true rfl) (fun X K F hk => ?_)
  obtain ⟨Q9, hQ⟩ : ∃ Q9, Q9 = EV X K 0 (fun σ' => ∃ M', σ' = (M', R0 b) ∧ (∀ q k, ¬ (q = (8, 0, 1, 0) ∨ (q = (8, 0, 0, 0) ∧ k = 1)) → M' q k = M q k) ∧ M' (8, 0, 0, 0) 1 = bf + 4 ∧ M' (8, 0, 1, 0) = upS (upS (upS (upS (M (8, 0, 1, 0)) bf (bI2b (bUshr w 24))) (bf + 1) (bI2b (bUshr w 16))) (bf + 2) (bI2b (bUshr w 8))) (bf + 3) (bI2b (bUshr w 0))) := ⟨_, rfl⟩
  have fin : ∀ M' : Id4 → Int → Int, (∀ q k, ¬ (q = (8, 0, 1, 0) ∨ (q = (8, 0, 0, 0) ∧ k = 1)) → M' q k = M q k) → M' (8, 0, 0, 0) 1 = bf + 4 → M' (8, 0, 1, 0) = upS (upS (upS (upS (M (8, 0, 1, 0)) bf (bI2b (bUshr w 24))) (bf + 1) (bI2b (bUshr w 16))) (bf + 2) (bI2b (bUshr w 8))) (bf + 3) (bI2b (bUshr w 0)) → AW X K 3 [aR (8, 0, 0, 0), aI w, aI (-8)] [] (M', R0 b) 0 Q9 := by
    intro M' a1 a2 a3
    refine aw_iload2 (pc := 3) F dX8_appendBytes_3 ?_
    refine aw_if_lt (tgt := 46) (pc := 4) F dX8_appendBytes_4 (by decide) (by unfold inR; decide) (fun c4 => ?_) (fun c4 => ?_)
    · rw [hQ]
      exact aw_vret (pc := 46) F dX8_appendBytes_46 (Nat.zero_le _) ⟨M', rfl, a1, a2, a3⟩
    · omega
  have step : ∀ (s p : Int) (M' : Id4 → Int → Int), 0 ≤ s → s ≤ 24 → 0 ≤ p → p < 500 → (∀ q k, ¬ (q = (8, 0, 1, 0) ∨ (q = (8, 0, 0, 0) ∧ k = 1)) → M' q k = M q k) → M' (8, 0, 0, 0) 1 = p → (∀ M'' : Id4 → Int → Int, (∀ q k, ¬ (q = (8, 0, 1, 0) ∨ (q = (8, 0, 0, 0) ∧ k = 1)) → M'' q k = M q k) → M'' (8, 0, 0, 0) 1 = p + 1 → M'' (8, 0, 1, 0) = upS (M' (8, 0, 1, 0)) p (bI2b (bUshr w s)) → AW X K 3 [aR (8, 0, 0, 0), aI w, aI (s + -8)] [] (M'', R0 b) 0 Q9) → AW X K 3 [aR (8, 0, 0, 0), aI w, aI s] [] (M', R0 b) 0 Q9 := by
    intro s p M' s0 s1 p0 p1 a1 a2 k
    refine aw_iload2 (pc := 3) F dX8_appendBytes_3 ?_
    refine aw_if_lt (tgt := 46) (pc := 4) F dX8_appendBytes_4 (by decide) (by unfold inR; omega) (fun c4 => ?_) (fun c4 => ?_)
    · omega
    · refine aw_aload0 (pc := 7) F dX8_appendBytes_7 ?_
      refine aw_getI (pc := 8) F dX8_appendBytes_8 fl_8_13 rfl (by first | decide | (simp only [inB, cnt, rcnt]; omega)) rfl nz1 ?_
      refine aw_sipush (pc := 11) F dX8_appendBytes_11 (by decide) ?_
      refine aw_icmp_ge (tgt := 46) (pc := 14) F dX8_appendBytes_14 (by decide) (by unfold inR; omega) (by unfold inR; omega) (fun c14 => ?_) (fun c14 => ?_)
      · omega
      · refine aw_aload0 (pc := 17) F dX8_appendBytes_17 ?_
        refine aw_getR (pc := 18) F dX8_appendBytes_18 fl_8_9 rfl (by first | decide | (simp only [inB, cnt, rcnt]; omega)) rfl nz0 rfl ?_
        refine aw_aload0 (pc := 21) F dX8_appendBytes_21 ?_
        refine aw_getI (pc := 22) F dX8_appendBytes_22 fl_8_13 rfl (by first | decide | (simp only [inB, cnt, rcnt]; omega)) rfl nz1 ?_
        refine aw_iload1 (pc := 25) F dX8_appendBytes_25 ?_
        refine aw_iload2 (pc := 26) F dX8_appendBytes_26 ?_
        refine aw_iushr (pc := 27) F dX8_appendBytes_27 ?_
        refine aw_i2b (pc := 28) F dX8_appendBytes_28 ?_
        rw [a2]
        refine aw_bast (pc := 29) F dX8_appendBytes_29 rfl (by first | decide | (simp only [inB, cnt, rcnt]; omega)) (by first | omega | exact ⟨p0, p1⟩) (nar_byte _) ?_
        refine aw_aload0 (pc := 30) F dX8_appendBytes_30 ?_
        refine aw_dupR (pc := 31) F dX8_appendBytes_31 ?_
        refine aw_getI (pc := 32) F dX8_appendBytes_32 fl_8_13 rfl (by first | decide | (simp only [inB, cnt, rcnt]; omega)) rfl nz1 ?_
        refine aw_iconst (pc := 35) F dX8_appendBytes_35 ?_
        refine aw_iadd (pc := 36) F dX8_appendBytes_36 ?_
        refine aw_putI (pc := 37) F dX8_appendBytes_37 fl_8_13 fpi_8_1 rfl (by first | decide | (simp only [inB, cnt, rcnt]; omega)) rfl nz1 ?_
        refine aw_iinc2 (pc := 40) F dX8_appendBytes_40 rfl hk.symm ?_
        refine aw_goto (tgt := 3) (pc := 43) F dX8_appendBytes_43 (by decide) ?_
        refine k _ (fun q x z => ?_) ?_ ?_
        · rw [upd_ne (by
            by_cases y : q = (8, 0, 0, 0)
            · exact Or.inr (fun w => z (Or.inr ⟨y, w⟩))
            · exact Or.inl y), upd_ne (Or.inl (fun y => z (Or.inl y)))]
          exact a1 q x z
        · rw [upd_same, upd_ne (Or.inl (by decide)), a2]
        · rw [upd_off (by decide), upd_row]
  refine aw_bipush (pc := 0) F dX8_appendBytes_0 (by decide) ?_
  refine aw_istore2 (pc := 2) F dX8_appendBytes_2 rfl hk.symm ?_
  rw [← hQ]
  refine step 24 bf M (by decide) (by decide) (by omega) (by omega) (fun _ _ _ => rfl) hbf (fun M1 b1 b2 b3 => ?_)
  refine step 16 (bf + 1) M1 (by decide) (by decide) (by omega) (by omega) b1 b2 (fun M2 d1 d2 d3 => ?_)
  refine step 8 (bf + 1 + 1) M2 (by decide) (by decide) (by omega) (by omega) d1 d2 (fun M3 e1 e2 e3 => ?_)
  refine step 0 (bf + 1 + 1 + 1) M3 (by decide) (by decide) (by omega) (by omega) e1 e2 (fun M4 f1 f2 f3 => ?_)
  refine fin M4 f1 (by omega) ?_
  rw [f3, e3, d3, b3, show bf + 1 + 1 = bf + 2 by omega, show bf + 2 + 1 = bf + 3 by omega]