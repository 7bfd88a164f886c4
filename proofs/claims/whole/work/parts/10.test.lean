/-! test -/
theorem ct_at (M : Id4 → Int → Int) (b : Bool) (k : Int) : CtI 1 0 yX9_at cX9_at 1 (some .int) [aI k] (M, R0 b) (PU (M, R0 b) (21 + 5 * k)) := by
  refine CtI.mk (by decide +kernel) rfl (by decide) (fun X K F hk => ?_)
  refine aw_bipush F dX9_at_0 (by decide) ?_
  refine aw_iconst F dX9_at_2 ?_
  refine aw_iload0 F dX9_at_3 ?_
  refine aw_imul F dX9_at_4 ?_
  refine aw_iadd F dX9_at_5 ?_
  exact aw_iretE F dX9_at_6 rfl (Nat.zero_le _) ⟨rfl, rfl⟩
theorem ct_of (M : Id4 → Int → Int) (b : Bool) (k w : Int) (h1 : 0 ≤ k ∧ k < 14) (h2 : 0 ≤ w ∧ w < 5) : CtI 2 0 yX9_of cX9_of 3 (some .int) [aR (9, 0, 0, 0), aI k, aI w] (M, R0 b) (PU (M, R0 b) (M (9, 0, 1, 0) (21 + 5 * k + w))) := by
  refine CtI.mk (by decide +kernel) rfl (by decide) (fun X K F hk => ?_)
  refine aw_aload0 F dX9_of_0 ?_
  refine aw_getR F dX9_of_1 fl_9_7 rfl (by first | decide | (simp only [inB, cnt, rcnt]; omega)) rfl rfl ?_
  refine aw_iload1 F dX9_of_4 ?_
  refine aw_pcallS1 F dX9_of_5 ml_9_150 (ct_at M b k) (Nat.le_of_ble_eq_true rfl) (by decide) (Nat.zero_le _) ?_
  refine aw_iload2 F dX9_of_8 ?_
  refine aw_iadd F dX9_of_9 ?_
  refine aw_iald F dX9_of_10 rfl (by first | decide | (simp only [inB, cnt, rcnt]; omega)) (by omega) ?_
  exact aw_iretE F dX9_of_11 rfl (Nat.zero_le _) ⟨rfl, rfl⟩
