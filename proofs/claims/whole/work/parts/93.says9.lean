/-! 93: the reference's page -/
def PgR9 (M : Id4 → Int → Int) (p : Pg) : Prop := M (9, 0, 33, 0) = p.1 ∧ M (9, 0, 0, 0) 33 = p.2 ∧ 0 ≤ p.2 ∧ p.2 ≤ 160
def only9 (M M' : Id4 → Int → Int) : Prop := ∀ q k, ¬ (q = (9, 0, 33, 0) ∨ (q = (9, 0, 0, 0) ∧ k = 33)) → M' q k = M q k
theorem only9.rf {M : Id4 → Int → Int} : only9 M M := fun _ _ _ => rfl
theorem only9.tr {M M1 M2 : Id4 → Int → Int} (h1 : only9 M M1) (h2 : only9 M1 M2) : only9 M M2 := fun q k h => (h2 q k h).trans (h1 q k h)
theorem ct9_says (M : Id4 → Int → Int) (b : Bool) (c : Int) (p : Pg) (hp : PgR9 M p) (hr : p.2 < 160) : CtV 1 0 yX9_says cX9_says 2 none [aR (9, 0, 0, 0), aI c] (M, R0 b) (fun σ' => ∃ M', σ' = (M', R0 b) ∧ only9 M M' ∧ PgR9 M' (pPut p c) ∧ (pPut p c).2 = p.2 + 1) := by
  refine CtV.mk (by decide +kernel) rfl (Nat.le_of_ble_eq_true rfl) (fun X K F hk => ?_)
  obtain ⟨p1, p2, p3, p4⟩ := hp
  have e2 : (pPut p c).2 = p.2 + 1 := if_pos hr
  have e1 : (pPut p c).1 = upS p.1 p.2 c := if_pos hr
  refine aw_aload0 (pc := 0) F dX9_says_0 ?_
  refine aw_getR (pc := 1) F dX9_says_1 fl_9_51 rfl (by first | decide | (simp only [inB, cnt, rcnt]; omega)) rfl nz32 rfl ?_
  refine aw_aload0 (pc := 4) F dX9_says_4 ?_
  refine aw_getI (pc := 5) F dX9_says_5 fl_9_384 rfl (by first | decide | (simp only [inB, cnt, rcnt]; omega)) rfl nz33 ?_
  rw [p2]
  refine aw_iload1 (pc := 8) F dX9_says_8 ?_
  refine aw_iast (pc := 9) F dX9_says_9 rfl (by first | decide | (simp only [inB, cnt, rcnt]; omega)) (by omega) ?_
  refine aw_aload0 (pc := 10) F dX9_says_10 ?_
  refine aw_dupR (pc := 11) F dX9_says_11 ?_
  refine aw_getI (pc := 12) F dX9_says_12 fl_9_384 rfl (by first | decide | (simp only [inB, cnt, rcnt]; omega)) rfl nz33 ?_
  refine aw_iconst (pc := 15) F dX9_says_15 ?_
  refine aw_iadd (pc := 16) F dX9_says_16 ?_
  refine aw_putI (pc := 17) F dX9_says_17 fl_9_384 fpi_9_33 rfl (by first | decide | (simp only [inB, cnt, rcnt]; omega)) rfl nz33 ?_
  exact aw_vret (pc := 20) F dX9_says_20 (Nat.zero_le _) ⟨_, rfl, fun q k z => by
    rw [upd_ne (by
      by_cases y : q = (9, 0, 0, 0)
      · exact Or.inr (fun w => z (Or.inr ⟨y, w⟩))
      · exact Or.inl y), upd_ne (Or.inl (fun y => z (Or.inl y)))], ⟨by rw [upd_off (by decide), upd_row, p1, e1], by rw [upd_same, upd_ne (Or.inl (by decide)), p2, e2], by omega, by omega⟩, e2⟩
theorem ct9_num0 (M : Id4 → Int → Int) (b : Bool) (x : Int) (p : Pg) (hx : 0 ≤ x ∧ x ≤ 9) (hp : PgR9 M p) (hr : p.2 < 160) : CtV 2 0 yX9_saysNumber cX9_saysNumber 2 none [aR (9, 0, 0, 0), aI x] (M, R0 b) (fun σ' => ∃ M', σ' = (M', R0 b) ∧ only9 M M' ∧ PgR9 M' (pPut p (48 + x % 10)) ∧ (pPut p (48 + x % 10)).2 = p.2 + 1) := by
  refine CtV.mk (by decide +kernel) rfl (Nat.le_of_ble_eq_true rfl) (fun X K F hk => ?_)
  have e3 : x.tmod 10 = x % 10 := by rw [Int.tmod_eq_emod_of_nonneg hx.1]
  refine aw_iload1 (pc := 0) F dX9_saysNumber_0 ?_
  refine aw_if_ge (tgt := 17) (pc := 1) F dX9_saysNumber_1 (by decide) (by unfold inR; omega) (fun c1 => ?_) (fun c1 => ?_)
  · refine aw_iload1 (pc := 17) F dX9_saysNumber_17 ?_
    refine aw_bipush (pc := 18) F dX9_saysNumber_18 (by decide) ?_
    refine aw_icmp_le (tgt := 31) (pc := 20) F dX9_saysNumber_20 (by decide) (by unfold inR; omega) (by unfold inR; omega) (fun c20 => ?_) (fun c20 => ?_)
    · refine aw_aload0 (pc := 31) F dX9_saysNumber_31 ?_
      refine aw_bipush (pc := 32) F dX9_saysNumber_32 (by decide) ?_
      refine aw_iload1 (pc := 34) F dX9_saysNumber_34 ?_
      refine aw_bipush (pc := 35) F dX9_saysNumber_35 (by decide) ?_
      refine aw_irem (pc := 37) F dX9_saysNumber_37 (by unfold inR; omega) (by unfold inR; omega) (by omega) (by omega) ?_
      rw [e3]
      refine aw_iadd (pc := 38) F dX9_saysNumber_38 ?_
      refine aw_callVV1 (pc := 39) F dX9_saysNumber_39 ml_9_387 rfl (by first | decide | (simp only [inB, cnt, rcnt]; omega)) (ct9_says _ _ _ p hp hr) (Nat.le_of_ble_eq_true rfl) (by decide) (Nat.zero_le _) (fun σ9 h9_39 => ?_)
      obtain ⟨M2, rfl, c1, c2, c3⟩ := h9_39
      exact aw_vret (pc := 42) F dX9_saysNumber_42 (Nat.zero_le _) ⟨M2, rfl, c1, c2, c3⟩
    · omega
  · omega
theorem ct9_num1 (d : Nat) (M : Id4 → Int → Int) (b : Bool) (x : Int) (p : Pg) (hx : 0 ≤ x ∧ x ≤ 99) (hp : PgR9 M p) (hr : p.2 < 159) : CtV (d + 3) 0 yX9_saysNumber cX9_saysNumber 2 none [aR (9, 0, 0, 0), aI x] (M, R0 b) (fun σ' => ∃ M', σ' = (M', R0 b) ∧ only9 M M' ∧ PgR9 M' (pPut (pTn p x) (48 + x % 10)) ∧ (pPut (pTn p x) (48 + x % 10)).2 ≤ p.2 + 2) := by
  refine CtV.mk (by decide +kernel) rfl (Nat.le_of_ble_eq_true rfl) (fun X K F hk => ?_)
  have e1 : x.tdiv 10 = x / 10 := by rw [Int.tdiv_eq_ediv_of_nonneg hx.1]
  have e3 : x.tmod 10 = x % 10 := by rw [Int.tmod_eq_emod_of_nonneg hx.1]
  have last : ∀ (M' : Id4 → Int → Int) (p' : Pg), only9 M M' → PgR9 M' p' → p' = pTn p x → p'.2 ≤ p.2 + 1 → AW X K 31 [aR (9, 0, 0, 0), aI x] [] (M', R0 b) 0 (EV X K 0 (fun σ' => ∃ M', σ' = (M', R0 b) ∧ only9 M M' ∧ PgR9 M' (pPut (pTn p x) (48 + x % 10)) ∧ (pPut (pTn p x) (48 + x % 10)).2 ≤ p.2 + 2)) := by
    intro M' p' a1 a2 a3 a4
    subst a3
    refine aw_aload0 (pc := 31) F dX9_saysNumber_31 ?_
    refine aw_bipush (pc := 32) F dX9_saysNumber_32 (by decide) ?_
    refine aw_iload1 (pc := 34) F dX9_saysNumber_34 ?_
    refine aw_bipush (pc := 35) F dX9_saysNumber_35 (by decide) ?_
    refine aw_irem (pc := 37) F dX9_saysNumber_37 (by unfold inR; omega) (by unfold inR; omega) (by omega) (by omega) ?_
    rw [e3]
    refine aw_iadd (pc := 38) F dX9_saysNumber_38 ?_
    refine aw_callVV1 (pc := 39) F dX9_saysNumber_39 ml_9_387 rfl (by first | decide | (simp only [inB, cnt, rcnt]; omega)) (ct9_says _ _ _ _ a2 (by omega)) (Nat.le_of_ble_eq_true rfl) (by omega) (Nat.zero_le _) (fun σ9 h9_39 => ?_)
    obtain ⟨M2, rfl, c1, c2, c3⟩ := h9_39
    exact aw_vret (pc := 42) F dX9_saysNumber_42 (Nat.zero_le _) ⟨M2, rfl, a1.tr c1, c2, by omega⟩
  refine aw_iload1 (pc := 0) F dX9_saysNumber_0 ?_
  refine aw_if_ge (tgt := 17) (pc := 1) F dX9_saysNumber_1 (by decide) (by unfold inR; omega) (fun c1 => ?_) (fun c1 => ?_)
  · refine aw_iload1 (pc := 17) F dX9_saysNumber_17 ?_
    refine aw_bipush (pc := 18) F dX9_saysNumber_18 (by decide) ?_
    refine aw_icmp_le (tgt := 31) (pc := 20) F dX9_saysNumber_20 (by decide) (by unfold inR; omega) (by unfold inR; omega) (fun c20 => ?_) (fun c20 => ?_)
    · first
      | exact last M2 _ c1 c2 (by unfold pTn; rw [if_pos (by omega)]) (by omega)
      | exact last M p only9.rf hp (by unfold pTn; rw [if_neg (by omega)]) (by omega)
    · refine aw_aload0 (pc := 23) F dX9_saysNumber_23 ?_
      refine aw_iload1 (pc := 24) F dX9_saysNumber_24 ?_
      refine aw_bipush (pc := 25) F dX9_saysNumber_25 (by decide) ?_
      refine aw_idiv (pc := 27) F dX9_saysNumber_27 (by unfold inR; omega) (by unfold inR; omega) (by omega) (by omega) ?_
      rw [e1]
      refine aw_callVV1 (pc := 28) F dX9_saysNumber_28 ml_9_390 rfl (by first | decide | (simp only [inB, cnt, rcnt]; omega)) (ct9_num0 _ _ (x / 10) p (by omega) hp (by omega)) (Nat.le_of_ble_eq_true rfl) (by omega) (Nat.zero_le _) (fun σ9 h9_28 => ?_)
      obtain ⟨M2, rfl, c1, c2, c3⟩ := h9_28
      first
      | exact last M2 _ c1 c2 (by unfold pTn; rw [if_pos (by omega)]) (by omega)
      | exact last M p only9.rf hp (by unfold pTn; rw [if_neg (by omega)]) (by omega)
  · omega
theorem pH_T {p : Pg} {x : Int} (h : 9 < x) : pHn p x = pTn p (x / 10) := by
  unfold pHn pTn
  by_cases z : 99 < x
  · rw [if_pos z, if_pos (by omega), show x / 100 = x / 10 / 10 by omega]
  · rw [if_neg z, if_neg (by omega)]
theorem ct9_num2 (d : Nat) (M : Id4 → Int → Int) (b : Bool) (x : Int) (p : Pg) (hx : 0 ≤ x ∧ x ≤ 999) (hp : PgR9 M p) (hr : p.2 < 158) : CtV (d + 4) 0 yX9_saysNumber cX9_saysNumber 2 none [aR (9, 0, 0, 0), aI x] (M, R0 b) (fun σ' => ∃ M', σ' = (M', R0 b) ∧ only9 M M' ∧ PgR9 M' (pPut (pTn (pHn p x) x) (48 + x % 10)) ∧ (pPut (pTn (pHn p x) x) (48 + x % 10)).2 ≤ p.2 + 3) := by
  refine CtV.mk (by decide +kernel) rfl (Nat.le_of_ble_eq_true rfl) (fun X K F hk => ?_)
  have e1 : x.tdiv 10 = x / 10 := by rw [Int.tdiv_eq_ediv_of_nonneg hx.1]
  have e3 : x.tmod 10 = x % 10 := by rw [Int.tmod_eq_emod_of_nonneg hx.1]
  have last : ∀ (M' : Id4 → Int → Int) (p' : Pg), only9 M M' → PgR9 M' p' → p' = pTn (pHn p x) x → p'.2 ≤ p.2 + 2 → AW X K 31 [aR (9, 0, 0, 0), aI x] [] (M', R0 b) 0 (EV X K 0 (fun σ' => ∃ M', σ' = (M', R0 b) ∧ only9 M M' ∧ PgR9 M' (pPut (pTn (pHn p x) x) (48 + x % 10)) ∧ (pPut (pTn (pHn p x) x) (48 + x % 10)).2 ≤ p.2 + 3)) := by
    intro M' p' a1 a2 a3 a4
    subst a3
    refine aw_aload0 (pc := 31) F dX9_saysNumber_31 ?_
    refine aw_bipush (pc := 32) F dX9_saysNumber_32 (by decide) ?_
    refine aw_iload1 (pc := 34) F dX9_saysNumber_34 ?_
    refine aw_bipush (pc := 35) F dX9_saysNumber_35 (by decide) ?_
    refine aw_irem (pc := 37) F dX9_saysNumber_37 (by unfold inR; omega) (by unfold inR; omega) (by omega) (by omega) ?_
    rw [e3]
    refine aw_iadd (pc := 38) F dX9_saysNumber_38 ?_
    refine aw_callVV1 (pc := 39) F dX9_saysNumber_39 ml_9_387 rfl (by first | decide | (simp only [inB, cnt, rcnt]; omega)) (ct9_says _ _ _ _ a2 (by omega)) (Nat.le_of_ble_eq_true rfl) (by omega) (Nat.zero_le _) (fun σ9 h9_39 => ?_)
    obtain ⟨M2, rfl, c1, c2, c3⟩ := h9_39
    exact aw_vret (pc := 42) F dX9_saysNumber_42 (Nat.zero_le _) ⟨M2, rfl, a1.tr c1, c2, by omega⟩
  refine aw_iload1 (pc := 0) F dX9_saysNumber_0 ?_
  refine aw_if_ge (tgt := 17) (pc := 1) F dX9_saysNumber_1 (by decide) (by unfold inR; omega) (fun c1 => ?_) (fun c1 => ?_)
  · refine aw_iload1 (pc := 17) F dX9_saysNumber_17 ?_
    refine aw_bipush (pc := 18) F dX9_saysNumber_18 (by decide) ?_
    refine aw_icmp_le (tgt := 31) (pc := 20) F dX9_saysNumber_20 (by decide) (by unfold inR; omega) (by unfold inR; omega) (fun c20 => ?_) (fun c20 => ?_)
    · first
      | exact last M2 _ c1 c2 (by rw [pH_T (by omega)]; unfold pTn; rw [if_pos (show 9 < x by omega)]) (by omega)
      | exact last M p only9.rf hp (by unfold pHn pTn; rw [if_neg (by omega), if_neg (by omega)]) (by omega)
    · refine aw_aload0 (pc := 23) F dX9_saysNumber_23 ?_
      refine aw_iload1 (pc := 24) F dX9_saysNumber_24 ?_
      refine aw_bipush (pc := 25) F dX9_saysNumber_25 (by decide) ?_
      refine aw_idiv (pc := 27) F dX9_saysNumber_27 (by unfold inR; omega) (by unfold inR; omega) (by omega) (by omega) ?_
      rw [e1]
      refine aw_callVV1 (pc := 28) F dX9_saysNumber_28 ml_9_390 rfl (by first | decide | (simp only [inB, cnt, rcnt]; omega)) (ct9_num1 d _ _ (x / 10) p (by omega) hp (by omega)) (Nat.le_of_ble_eq_true rfl) (by omega) (Nat.zero_le _) (fun σ9 h9_28 => ?_)
      obtain ⟨M2, rfl, c1, c2, c3⟩ := h9_28
      first
      | exact last M2 _ c1 c2 (by rw [pH_T (by omega)]; unfold pTn; rw [if_pos (show 9 < x by omega)]) (by omega)
      | exact last M p only9.rf hp (by unfold pHn pTn; rw [if_neg (by omega), if_neg (by omega)]) (by omega)
  · omega
theorem ct9_saysNumber (M : Id4 → Int → Int) (b : Bool) (x : Int) (p : Pg) (hx : -999 ≤ x ∧ x ≤ 999) (hp : PgR9 M p) (hr : p.2 < 157) : CtV 6 0 yX9_saysNumber cX9_saysNumber 2 none [aR (9, 0, 0, 0), aI x] (M, R0 b) (fun σ' => ∃ M', σ' = (M', R0 b) ∧ only9 M M' ∧ PgR9 M' (pNum p x) ∧ (pNum p x).2 ≤ p.2 + 4) := by
  by_cases z : x < 0
  · have ea : absI x = -x := if_pos z
    have es : pSg p x = pPut p 45 := if_pos z
    refine CtV.mk (by decide +kernel) rfl (Nat.le_of_ble_eq_true rfl) (fun X K F hk => ?_)
    refine aw_iload1 (pc := 0) F dX9_saysNumber_0 ?_
    refine aw_if_ge (tgt := 17) (pc := 1) F dX9_saysNumber_1 (by decide) (by unfold inR; omega) (fun c1 => ?_) (fun c1 => ?_)
    · omega
    · refine aw_aload0 (pc := 4) F dX9_saysNumber_4 ?_
      refine aw_bipush (pc := 5) F dX9_saysNumber_5 (by decide) ?_
      refine aw_callVV1 (pc := 7) F dX9_saysNumber_7 ml_9_387 rfl (by first | decide | (simp only [inB, cnt, rcnt]; omega)) (ct9_says _ _ _ p hp (by omega)) (Nat.le_of_ble_eq_true rfl) (by decide) (Nat.zero_le _) (fun σ9 h9_7 => ?_)
      obtain ⟨M2, rfl, c1, c2, c3⟩ := h9_7
      refine aw_aload0 (pc := 10) F dX9_saysNumber_10 ?_
      refine aw_iload1 (pc := 11) F dX9_saysNumber_11 ?_
      refine aw_ineg (pc := 12) F dX9_saysNumber_12 ?_
      refine aw_callVV1 (pc := 13) F dX9_saysNumber_13 ml_9_390 rfl (by first | decide | (simp only [inB, cnt, rcnt]; omega)) (ct9_num2 0 _ _ (-x) _ (by omega) c2 (by omega)) (Nat.le_of_ble_eq_true rfl) (by decide) (Nat.zero_le _) (fun σ8 h9_13 => ?_)
      obtain ⟨M3, rfl, d1, d2, d3⟩ := h9_13
      exact aw_vret (pc := 16) F dX9_saysNumber_16 (Nat.zero_le _) ⟨M3, rfl, c1.tr d1, by unfold pNum; rw [ea, es]; exact d2, by unfold pNum; rw [ea, es]; omega⟩
  · have ea : absI x = x := if_neg z
    have es : pSg p x = p := if_neg z
    refine (ct9_num2 2 M b x p (by omega) hp (by omega)).mono (fun σ' hq => ?_)
    obtain ⟨M', h1, h2, h3, h4⟩ := hq
    exact ⟨M', h1, h2, by unfold pNum; rw [ea, es]; exact h3, by unfold pNum; rw [ea, es]; omega⟩
theorem ct9_saysSmall (M : Id4 → Int → Int) (b : Bool) (x : Int) (p : Pg) (hx : 0 ≤ x ∧ x ≤ 99) (hp : PgR9 M p) (hr : p.2 < 159) : CtV 6 0 yX9_saysNumber cX9_saysNumber 2 none [aR (9, 0, 0, 0), aI x] (M, R0 b) (fun σ' => ∃ M', σ' = (M', R0 b) ∧ only9 M M' ∧ PgR9 M' (pNum p x) ∧ (pNum p x).2 ≤ p.2 + 2) := by
  have ea : absI x = x := if_neg (by omega)
  have es : pSg p x = p := if_neg (by omega)
  refine (ct9_num1 3 M b x p hx hp hr).mono (fun σ' hq => ?_)
  obtain ⟨M', h1, h2, h3, h4⟩ := hq
  exact ⟨M', h1, h2, by rw [pNum2 (by omega), ea, es]; exact h3, by rw [pNum2 (by omega), ea, es]; exact h4⟩
