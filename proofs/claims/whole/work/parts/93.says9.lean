/-! 93: the reference's page -/
def PgR9 (M : Id4 → Int → Int) (p : Pg) : Prop := M (9, 0, 33, 0) = p.1 ∧ M (9, 0, 0, 0) 33 = p.2 ∧ 0 ≤ p.2 ∧ p.2 ≤ 160
def only9 (M M' : Id4 → Int → Int) : Prop := ∀ q k, ¬ (q = (9, 0, 33, 0) ∨ (q = (9, 0, 0, 0) ∧ k = 33)) → M' q k = M q k
theorem only9.rf {M : Id4 → Int → Int} : only9 M M := fun _ _ _ => rfl
theorem only9.tr {M M1 M2 : Id4 → Int → Int} (h1 : only9 M M1) (h2 : only9 M1 M2) : only9 M M2 := fun q k h => (h2 q k h).trans (h1 q k h)
theorem ct9_says (M : Id4 → Int → Int) (b : Bool) (c : Int) (p : Pg) (hp : PgR9 M p) (hr : p.2 < 160) : CtV 1 0 yX9_says cX9_says 2 none [aR (9, 0, 0, 0), aI c] (M, R0 b) (fun σ' => ∃ M', σ' = (M', R0 b) ∧ only9 M M' ∧ PgR9 M' (pPut p c) ∧ (pPut p c).2 = p.2 + 1) := by
  refine CtV.mk (by decide +kernel) rfl (Nat.le_of_ble_eq_true rfl) (fun X K F hk => ?_)
  obtain ⟨p1, p2, p3, p4⟩ := hp
  have e2 : (pPut p c).2 = p.2 + 1 := if_pos hr
  have e1 : (pPut p c).1 = upS p.1 p.2 c := if_pos hr
  refine aw_aload0 (pc := 0) F dX9_says_0 ?_
  refine aw_getR (pc := 1) F dX9_says_1 fl_9_51 rfl (by first | decide | (simp only [inB, cnt, rcnt]; omega)) rfl nz32 rfl ?_
  refine aw_aload0 (pc := 4) F dX9_says_4 ?_
  refine aw_getI (pc := 5) F dX9_says_5 fl_9_384 rfl (by first | decide | (simp only [inB, cnt, rcnt]; omega)) rfl nz33 ?_
  rw [p2]
  refine aw_iload1 (pc := 8) F dX9_says_8 ?_
  refine aw_iast (pc := 9) F dX9_says_9 rfl (by first | decide | (simp only [inB, cnt, rcnt]; omega)) (by omega) ?_
  refine aw_aload0 (pc := 10) F dX9_says_10 ?_
  refine aw_dupR (pc := 11) F dX9_says_11 ?_
  refine aw_getI (pc := 12) F dX9_says_12 fl_9_384 rfl (by first | decide | (simp only [inB, cnt, rcnt]; omega)) rfl nz33 ?_
  refine aw_iconst (pc := 15) F dX9_says_15 ?_
  refine aw_iadd (pc := 16) F dX9_says_16 ?_
  refine aw_putI (pc := 17) F dX9_says_17 fl_9_384 fpi_9_33 rfl (by first | decide | (simp only [inB, cnt, rcnt]; omega)) rfl nz33 ?_
  exact aw_vret (pc := 20) F dX9_says_20 (Nat.zero_le _) ⟨_, rfl, fun q k z => by
    rw [upd_ne (by
      by_cases y : q = (9, 0, 0, 0)
      · exact Or.inr (fun w => z (Or.inr ⟨y, w⟩))
      · exact Or.inl y), upd_ne (Or.inl (fun y => z (Or.inl y)))], ⟨by rw [upd_off (by decide), upd_row, p1, e1], by rw [upd_same, upd_ne (Or.inl (by decide)), p2, e2], by omega, by omega⟩, e2⟩
