/-! 35: the class's first broken span, and its bound -/
theorem cx8_firstBroken (M : Id4 → Int → Int) (b : Bool) (S : Int → Int) (hR : plR M 0 S) (h : Ok S) : CxI 12 1 yX8_firstBroken cX8_firstBroken 2 (some .int) [aR (8, 0, 0, 0)] (M, R0 b) (fun v σ' => v = fbS S ∧ σ' = (M, R0 b) ∧ fbS S < S 20) (fun E σ' => E = eNS ∧ σ' = (M, R0 b) ∧ ¬ fbS S < S 20) := by
  refine CxI.mk (by decide +kernel) rfl (Nat.le_of_ble_eq_true rfl) (fun X K F hk => ?_)
  have hN := h.2.2.1
  have e2 := hR.1.2.2
  have key : ∀ (j i : Nat), (i : Int) + j = S 20 → fstB (fun k => ¬ kept S k) j (i : Int) = fbS S → AW X K 2 [aR (8, 0, 0, 0), aI i] [] (M, R0 b) 0 (XI X K 1 (fun v σ' => v = fbS S ∧ σ' = (M, R0 b) ∧ fbS S < S 20) (fun E σ' => E = eNS ∧ σ' = (M, R0 b) ∧ ¬ fbS S < S 20)) := by
    intro j
    induction j with
    | zero =>
      intro i hi hf
      have e1 : fbS S = i := hf.symm
      refine aw_iload1 (pc := 2) F dX8_firstBroken_2 ?_
      refine aw_aload0 (pc := 3) F dX8_firstBroken_3 ?_
      refine aw_getR (pc := 4) F dX8_firstBroken_4 fl_8_34 rfl (by first | decide | (simp only [inB, cnt, rcnt]; omega)) rfl nz4 rfl ?_
      refine aw_getI (pc := 7) F dX8_firstBroken_7 fl_8_100 rfl (by first | decide | (simp only [inB, cnt, rcnt]; omega)) rfl nz2 ?_
      refine aw_icmp_ge (tgt := 32) (pc := 10) F dX8_firstBroken_10 (by decide) (by unfold inR; omega) (by unfold inR; omega) (fun c10 => ?_) (fun c10 => ?_)
      · exact aw_throwNI (pc := 32) F dX8_firstBroken_32 dX8_firstBroken_35 dX8_firstBroken_36 dX8_firstBroken_38 dX8_firstBroken_41 tn_163_165_167 (by decide) (by decide) (Nat.le_of_ble_eq_true rfl) ⟨rfl, rfl, by omega⟩
      · omega
    | succ j ih =>
      intro i hi hf
      unfold fstB at hf
      have yes : kept S (i : Int) → fstB (fun k => ¬ kept S k) j ((i : Int) + 1) = fbS S := fun z => by rw [if_neg (fun q => q z)] at hf; exact hf
      have no : ¬ kept S (i : Int) → fbS S = i := fun z => by rw [if_pos z] at hf; exact hf.symm
      refine aw_iload1 (pc := 2) F dX8_firstBroken_2 ?_
      refine aw_aload0 (pc := 3) F dX8_firstBroken_3 ?_
      refine aw_getR (pc := 4) F dX8_firstBroken_4 fl_8_34 rfl (by first | decide | (simp only [inB, cnt, rcnt]; omega)) rfl nz4 rfl ?_
      refine aw_getI (pc := 7) F dX8_firstBroken_7 fl_8_100 rfl (by first | decide | (simp only [inB, cnt, rcnt]; omega)) rfl nz2 ?_
      refine aw_icmp_ge (tgt := 32) (pc := 10) F dX8_firstBroken_10 (by decide) (by unfold inR; omega) (by unfold inR; omega) (fun c10 => ?_) (fun c10 => ?_)
      · omega
      · refine aw_aload0 (pc := 13) F dX8_firstBroken_13 ?_
        refine aw_getR (pc := 14) F dX8_firstBroken_14 fl_8_34 rfl (by first | decide | (simp only [inB, cnt, rcnt]; omega)) rfl nz4 rfl ?_
        refine aw_iload1 (pc := 17) F dX8_firstBroken_17 ?_
        refine aw_pcallV1 (pc := 18) F dX8_firstBroken_18 ml_8_155 rfl (by first | decide | (simp only [inB, cnt, rcnt]; omega)) (ct5_keeps _ _ S _ _ (by decide) hR h (by omega)) (Nat.le_of_ble_eq_true rfl) (by decide) (by decide) ?_
        refine aw_ifb_ne (tgt := 26) (pc := 21) F dX8_firstBroken_21 (by decide) (fun c21 => ?_) (fun c21 => ?_)
        · refine aw_iinc1 (pc := 26) F dX8_firstBroken_26 rfl hk.symm ?_
          refine aw_goto (tgt := 2) (pc := 29) F dX8_firstBroken_29 (by decide) ?_
          exact ih (i + 1) (by omega) (yes c21)
        · refine aw_iload1 (pc := 24) F dX8_firstBroken_24 ?_
          exact aw_xiret (pc := 25) F dX8_firstBroken_25 rfl (by decide) ⟨(no c21).symm, rfl, by rw [no c21]; omega⟩
  refine aw_iconst (pc := 0) F dX8_firstBroken_0 ?_
  refine aw_istore1 (pc := 1) F dX8_firstBroken_1 rfl hk.symm ?_
  exact key (S 20).toNat 0 (by omega) rfl