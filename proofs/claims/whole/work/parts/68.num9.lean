/-! 68: the reference's pieces of a statement -/
def chF (M M' : Id4 → Int → Int) : Prop := ∀ q k, ¬ ((q = (9, 0, 0, 0) ∧ 10 ≤ k ∧ k ≤ 15) ∨ q = (9, 0, 1, 0)) → M' q k = M q k
theorem chF.rf {M : Id4 → Int → Int} : chF M M := fun _ _ _ => rfl
theorem chF.tr {M M1 M2 : Id4 → Int → Int} (h1 : chF M M1) (h2 : chF M1 M2) : chF M M2 := fun q k h => (h2 q k h).trans (h1 q k h)
theorem chF.up {M M1 : Id4 → Int → Int} {k v : Int} (h1 : chF M M1) (hk : 10 ≤ k ∧ k ≤ 15) : chF M (updM M1 (9, 0, 0, 0) k v) := fun q j z => by
  rw [← h1 q j z]
  by_cases y : q = (9, 0, 0, 0)
  · exact upd_ne (Or.inr (fun w => z (Or.inl ⟨y, by omega⟩)))
  · exact upd_ne (Or.inl y)
theorem chF.st {M M1 : Id4 → Int → Int} {k v : Int} (h1 : chF M M1) : chF M (updM M1 (9, 0, 1, 0) k v) := fun q j z => by
  rw [← h1 q j z]
  exact upd_ne (Or.inl (fun w => z (Or.inr w)))
theorem chX.f {M M' : Id4 → Int → Int} (h : chX M M') : chF M M' := fun q k z => h q k (fun y => z (Or.inl ⟨y.1, by omega⟩))
theorem chF.off {M M' : Id4 → Int → Int} (h : chF M M') {q : Id4} (hq : q ≠ (9, 0, 0, 0)) (hq2 : q ≠ (9, 0, 1, 0)) : M' q = M q := funext fun k => h q k (fun z => z.elim (fun y => hq y.1) hq2)
/-- in the text, before the token behind place i, with the row S -/
def RSx (B : Int → Int) (n : Int) (S : Int → Int) (i : Int) (M : Id4 → Int → Int) : Prop := M (9, 0, 6, 0) = B ∧ M (9, 0, 0, 0) 9 = n ∧ M (9, 0, 1, 0) = S ∧ TK B n i M
/-- the text and the place are in order -/
def TX (B : Int → Int) (n i : Int) : Prop := BY B ∧ (0 ≤ n ∧ n ≤ 500) ∧ 0 ≤ i ∧ i ≤ n
theorem TX.nx {B : Int → Int} {n i : Int} (h : TX B n i) : TX B n (nxT B n i) := by
  have := nxT_bd (B := B) h.2.2.2
  exact ⟨h.1, h.2.1, by have := h.2.2.1; omega, this.2⟩
/-- what reading leaves: v and the heap -/
def RRx (B : Int → Int) (n : Int) (M : Id4 → Int → Int) (b : Bool) (r : PR) : Int → Hp → Prop := fun v σ' => ∃ M', σ' = (M', R0 b) ∧ chF M M' ∧ ((r.1 = 0 ∧ v = 1 ∧ RSx B n r.2.2.1 r.2.2.2 M' ∧ TX B n r.2.2.2 ∧ M' (9, 0, 0, 0) 14 = M (9, 0, 0, 0) 14 ∧ M' (9, 0, 0, 0) 15 = M (9, 0, 0, 0) 15) ∨ (¬ r.1 = 0 ∧ v = 0 ∧ M' (9, 0, 0, 0) 14 = r.1 ∧ M' (9, 0, 0, 0) 15 = r.2.1))
theorem ct9_fail (M : Id4 → Int → Int) (b : Bool) (w : Int) (h : inR (M (9, 0, 0, 0) 12)) : CtI 1 0 yX9_fail cX9_fail 2 (some .boolean) [aR (9, 0, 0, 0), aI w] (M, R0 b) (fun v σ' => v = 0 ∧ σ' = (updM (updM M (9, 0, 0, 0) 14 (if M (9, 0, 0, 0) 12 = 1 then 1 else w)) (9, 0, 0, 0) 15 (M (9, 0, 0, 0) 10), R0 b)) := by
  refine CtI.mk (by decide +kernel) rfl (Nat.le_of_ble_eq_true rfl) (fun X K F hk => ?_)
  refine aw_aload0 (pc := 0) F dX9_fail_0 ?_
  refine aw_aload0 (pc := 1) F dX9_fail_1 ?_
  refine aw_getI (pc := 2) F dX9_fail_2 fl_9_88 rfl (by first | decide | (simp only [inB, cnt, rcnt]; omega)) rfl nz12 ?_
  refine aw_iconst (pc := 5) F dX9_fail_5 ?_
  refine aw_icmp_ne (tgt := 13) (pc := 6) F dX9_fail_6 (by decide) (by first | assumption | (unfold inR; omega)) (by first | assumption | (unfold inR; omega)) (fun c6 => ?_) (fun c6 => ?_)
  · refine aw_iload1 (pc := 13) F dX9_fail_13 ?_
    refine aw_putI (pc := 14) F dX9_fail_14 fl_9_112 fpi_9_14 rfl (by first | decide | (simp only [inB, cnt, rcnt]; omega)) rfl nz14 ?_
    refine aw_aload0 (pc := 17) F dX9_fail_17 ?_
    refine aw_aload0 (pc := 18) F dX9_fail_18 ?_
    refine aw_getI (pc := 19) F dX9_fail_19 fl_9_85 rfl (by first | decide | (simp only [inB, cnt, rcnt]; omega)) rfl nz10 ?_
    rw [upd_ne (Or.inr (by decide))]
    refine aw_putI (pc := 22) F dX9_fail_22 fl_9_115 fpi_9_15 rfl (by first | decide | (simp only [inB, cnt, rcnt]; omega)) rfl nz15 ?_
    refine aw_iconst (pc := 25) F dX9_fail_25 ?_
    exact aw_iret (pc := 26) F dX9_fail_26 (nar_bool (by first | exact b2i_01 | decide)) (Nat.zero_le _) ⟨rfl, by first | rw [if_pos (by assumption)] | rw [if_neg (by assumption)]⟩
  · refine aw_iconst (pc := 9) F dX9_fail_9 ?_
    refine aw_goto (tgt := 14) (pc := 10) F dX9_fail_10 (by decide) ?_
    refine aw_putI (pc := 14) F dX9_fail_14 fl_9_112 fpi_9_14 rfl (by first | decide | (simp only [inB, cnt, rcnt]; omega)) rfl nz14 ?_
    refine aw_aload0 (pc := 17) F dX9_fail_17 ?_
    refine aw_aload0 (pc := 18) F dX9_fail_18 ?_
    refine aw_getI (pc := 19) F dX9_fail_19 fl_9_85 rfl (by first | decide | (simp only [inB, cnt, rcnt]; omega)) rfl nz10 ?_
    rw [upd_ne (Or.inr (by decide))]
    refine aw_putI (pc := 22) F dX9_fail_22 fl_9_115 fpi_9_15 rfl (by first | decide | (simp only [inB, cnt, rcnt]; omega)) rfl nz15 ?_
    refine aw_iconst (pc := 25) F dX9_fail_25 ?_
    exact aw_iret (pc := 26) F dX9_fail_26 (nar_bool (by first | exact b2i_01 | decide)) (Nat.zero_le _) ⟨rfl, by first | rw [if_pos (by assumption)] | rw [if_neg (by assumption)]⟩
theorem rr_bad {B : Int → Int} {n i : Int} {S : Int → Int} {M M0 : Id4 → Int → Int} {b : Bool} {w : Int} (hw : ¬ w = 0) (hc : chF M0 M) (hM : RSx B n S i M) : RRx B n M0 b (badP B n i w) 0 (updM (updM M (9, 0, 0, 0) 14 (if M (9, 0, 0, 0) 12 = 1 then 1 else w)) (9, 0, 0, 0) 15 (M (9, 0, 0, 0) 10), R0 b) := by
  obtain ⟨-, -, -, t1, t2, t3, t4⟩ := hM
  refine ⟨_, rfl, (hc.up (by decide)).up (by decide), Or.inr ⟨badP_ne hw, rfl, ?_, ?_⟩⟩
  · rw [upd_ne (Or.inr (by decide)), upd_same, t3]; rfl
  · rw [upd_same, t1]; rfl
theorem TK.bd {B : Int → Int} {n i : Int} {M : Id4 → Int → Int} (h : TK B n i M) : inR (M (9, 0, 0, 0) 12) := by
  rw [h.2.2.1]
  have := tkS_bd (B := B) (n := n) (s := stT B n i)
  unfold kdT inR
  omega
theorem rs_adv {B : Int → Int} {n i : Int} {S : Int → Int} {M M' : Id4 → Int → Int} (hB : M (9, 0, 6, 0) = B) (hn : M (9, 0, 0, 0) 9 = n) (hS : M (9, 0, 1, 0) = S) (hc : chX M M') (ht : TK B n i M') : RSx B n S i M' := ⟨by rw [hc.off (by decide)]; exact hB, hc.n.trans hn, by rw [hc.off (by decide)]; exact hS, ht⟩
theorem vlT_bd {B : Int → Int} {n i : Int} (h : TX B n i) (hk : kdT B n i = 3) : 0 ≤ vlT B n i ∧ vlT B n i ≤ 99 := by
  obtain ⟨hy, hn, h0, h1⟩ := h
  have sb := stT_bd (B := B) h1
  unfold kdT tkS at hk
  by_cases z : n ≤ stT B n i
  · rw [if_pos z] at hk; exact absurd hk (by decide)
  · rw [if_neg z] at hk
    by_cases y : isLt (B (stT B n i)) = true
    · rw [if_pos y] at hk; exact absurd hk ite12
    · rw [if_neg y] at hk
      by_cases x : isDg (B (stT B n i)) = true
      · rw [if_pos x] at hk
        have w : ¬ 2 < rn isDg B n (stT B n i) - stT B n i := fun w => by rw [if_pos w] at hk; exact absurd hk (by decide)
        have d0 := isDg_iff.mp x
        have ra := (rn_at (p := isDg) (B := B) (n := n) (i := stT B n i))
        have g := (tk_d (n := n) ⟨by omega, y, x⟩).1
        have g2 := tnS_gt (B := B) (n := n) (s := stT B n i) (by omega)
        rw [g] at g2
        unfold vlT tvS
        by_cases u : rn isDg B n (stT B n i) - stT B n i = 1
        · rw [if_pos u]; omega
        · rw [if_neg u]
          have d1 := isDg_iff.mp (ra.2.1 (stT B n i + 1) (by omega) (by omega)).2
          omega
      · rw [if_neg x] at hk; exact absurd hk ite14
theorem ct9_number (M : Id4 → Int → Int) (b : Bool) (B S : Int → Int) (n i idx lo hi : Int) (hx : TX B n i) (hM : RSx B n S i M) (h1 : 0 ≤ idx ∧ idx < 91) (h2 : inR lo) (h3 : inR hi) : CtI 4 0 yX9_number cX9_number 4 (some .boolean) [aR (9, 0, 0, 0), aI idx, aI lo, aI hi] (M, R0 b) (RRx B n M b (numP B n idx lo hi S i)) := by
  refine CtI.mk (by decide +kernel) rfl (Nat.le_of_ble_eq_true rfl) (fun X K F hk => ?_)
  obtain ⟨m1, m2, m3, t1, t2, t3, t4⟩ := id hM
  have tb := hM.2.2.2.bd
  have vb := vlT_bd hx
  have xn := hx.nx
  refine aw_aload0 (pc := 0) F dX9_number_0 ?_
  refine aw_getI (pc := 1) F dX9_number_1 fl_9_88 rfl (by first | decide | (simp only [inB, cnt, rcnt]; omega)) rfl nz12 ?_
  refine aw_iconst (pc := 4) F dX9_number_4 ?_
  refine aw_icmp_eq (tgt := 14) (pc := 5) F dX9_number_5 (by decide) (by first | assumption | (unfold inR; omega)) (by first | assumption | (unfold inR; omega)) (fun c5 => ?_) (fun c5 => ?_)
  · have k3 : kdT B n i = 3 := by omega
    have v3 := t4 k3
    refine aw_aload0 (pc := 14) F dX9_number_14 ?_
    refine aw_getI (pc := 15) F dX9_number_15 fl_9_91 rfl (by first | decide | (simp only [inB, cnt, rcnt]; omega)) rfl nz13 ?_
    refine aw_iload2 (pc := 18) F dX9_number_18 ?_
    refine aw_iload3 (pc := 19) F dX9_number_19 ?_
    refine aw_pcallS3 (pc := 20) F dX9_number_20 ml_9_121 (ct9_isIn _ _ _ _ _ (by rw [v3]; have := vb k3; unfold inR; omega) h2 h3) (Nat.le_of_ble_eq_true rfl) (by decide) (Nat.zero_le _) ?_
    refine aw_ifb_ne (tgt := 32) (pc := 23) F dX9_number_23 (by decide) (fun c23 => ?_) (fun c23 => ?_)
    · refine aw_aload0 (pc := 32) F dX9_number_32 ?_
      refine aw_getR (pc := 33) F dX9_number_33 fl_9_7 rfl (by first | decide | (simp only [inB, cnt, rcnt]; omega)) rfl nz0 rfl ?_
      refine aw_iload1 (pc := 36) F dX9_number_36 ?_
      refine aw_aload0 (pc := 37) F dX9_number_37 ?_
      refine aw_getI (pc := 38) F dX9_number_38 fl_9_91 rfl (by first | decide | (simp only [inB, cnt, rcnt]; omega)) rfl nz13 ?_
      refine aw_iast (pc := 41) F dX9_number_41 rfl (by first | decide | (simp only [inB, cnt, rcnt]; omega)) (by omega) ?_
      refine aw_aload0 (pc := 42) F dX9_number_42 ?_
      refine aw_callVI0 (pc := 43) F dX9_number_43 ml_9_125 rfl (by first | decide | (simp only [inB, cnt, rcnt]; omega)) (ct9_advance _ _ B n (nxT B n i) (by rw [upd_off (by decide)]; exact m1) hx.1 (by rw [upd_off (by decide)]; exact m2) hx.2.1 (by rw [upd_off (by decide)]; exact t2) ⟨xn.2.2.1, xn.2.2.2⟩) (Nat.le_of_ble_eq_true rfl) (by decide) (Nat.zero_le _) (fun v9 σ9 h9_43 => ?_)
      obtain ⟨rfl, M2, rfl, c1, c2⟩ := h9_43
      exact aw_iret (pc := 46) F dX9_number_46 (nar_bool (by first | exact b2i_01 | decide)) (Nat.zero_le _) (by
        rw [v3] at c23 c1
        rw [show numP B n idx lo hi S i = goodP (upS S idx (vlT B n i)) (nxT B n i) from (if_neg (fun z => z k3)).trans (if_neg (fun z => z c23))]
        refine ⟨M2, rfl, chF.rf.st.tr c1.f, Or.inl ⟨rfl, rfl, rs_adv ?_ ?_ ?_ c1 c2, xn, ?_, ?_⟩⟩
        · rw [upd_off (by decide)]; exact m1
        · rw [upd_off (by decide)]; exact m2
        · rw [upd_row, m3]; rfl
        · rw [c1 _ _ (by decide), upd_off (by decide)]
        · rw [c1 _ _ (by decide), upd_off (by decide)])
    · refine aw_aload0 (pc := 26) F dX9_number_26 ?_
      refine aw_iconst (pc := 27) F dX9_number_27 ?_
      refine aw_callVI1 (pc := 28) F dX9_number_28 ml_9_118 rfl (by first | decide | (simp only [inB, cnt, rcnt]; omega)) (ct9_fail _ _ _ tb) (Nat.le_of_ble_eq_true rfl) (by decide) (Nat.zero_le _) (fun v9 σ9 h9_28 => ?_)
      obtain ⟨rfl, rfl⟩ := h9_28
      exact aw_iret (pc := 31) F dX9_number_31 (nar_bool (by first | exact b2i_01 | decide)) (Nat.zero_le _) (by
        rw [v3] at c23
        rw [show numP B n idx lo hi S i = badP B n i 3 from (if_neg (fun z => z k3)).trans (if_pos c23)]
        exact rr_bad (by decide) chF.rf hM)
  · refine aw_aload0 (pc := 8) F dX9_number_8 ?_
    refine aw_iconst (pc := 9) F dX9_number_9 ?_
    refine aw_callVI1 (pc := 10) F dX9_number_10 ml_9_118 rfl (by first | decide | (simp only [inB, cnt, rcnt]; omega)) (ct9_fail _ _ _ tb) (Nat.le_of_ble_eq_true rfl) (by decide) (Nat.zero_le _) (fun v9 σ9 h9_10 => ?_)
    obtain ⟨rfl, rfl⟩ := h9_10
    exact aw_iret (pc := 13) F dX9_number_13 (nar_bool (by first | exact b2i_01 | decide)) (Nat.zero_le _) (by rw [show numP B n idx lo hi S i = badP B n i 2 from if_pos (by omega)]; exact rr_bad (by decide) chF.rf hM)
theorem ct9_closed (M : Id4 → Int → Int) (b : Bool) (B S : Int → Int) (n i : Int) (hx : TX B n i) (hM : RSx B n S i M) : CtI 4 0 yX9_closed cX9_closed 1 (some .boolean) [aR (9, 0, 0, 0)] (M, R0 b) (RRx B n M b (closP B n S i)) := by
  refine CtI.mk (by decide +kernel) rfl (Nat.le_of_ble_eq_true rfl) (fun X K F hk => ?_)
  obtain ⟨m1, m2, m3, t1, t2, t3, t4⟩ := id hM
  have tb := hM.2.2.2.bd
  have xn := hx.nx
  refine aw_aload0 (pc := 0) F dX9_closed_0 ?_
  refine aw_getI (pc := 1) F dX9_closed_1 fl_9_88 rfl (by first | decide | (simp only [inB, cnt, rcnt]; omega)) rfl nz12 ?_
  refine aw_iconst (pc := 4) F dX9_closed_4 ?_
  refine aw_icmp_eq (tgt := 14) (pc := 5) F dX9_closed_5 (by decide) (by first | assumption | (unfold inR; omega)) (by first | assumption | (unfold inR; omega)) (fun c5 => ?_) (fun c5 => ?_)
  · refine aw_aload0 (pc := 14) F dX9_closed_14 ?_
    refine aw_callVI0 (pc := 15) F dX9_closed_15 ml_9_125 rfl (by first | decide | (simp only [inB, cnt, rcnt]; omega)) (ct9_advance _ _ B n (nxT B n i) m1 hx.1 m2 hx.2.1 t2 ⟨xn.2.2.1, xn.2.2.2⟩) (Nat.le_of_ble_eq_true rfl) (by decide) (Nat.zero_le _) (fun v9 σ9 h9_15 => ?_)
    obtain ⟨rfl, M2, rfl, c1, c2⟩ := h9_15
    exact aw_iret (pc := 18) F dX9_closed_18 (nar_bool (by first | exact b2i_01 | decide)) (Nat.zero_le _) (by
      rw [show closP B n S i = goodP S (nxT B n i) from if_neg (fun z => z (by omega))]
      exact ⟨M2, rfl, c1.f, Or.inl ⟨rfl, rfl, rs_adv m1 m2 m3 c1 c2, xn, c1 _ _ (by decide), c1 _ _ (by decide)⟩⟩)
  · refine aw_aload0 (pc := 8) F dX9_closed_8 ?_
    refine aw_iconst (pc := 9) F dX9_closed_9 ?_
    refine aw_callVI1 (pc := 10) F dX9_closed_10 ml_9_118 rfl (by first | decide | (simp only [inB, cnt, rcnt]; omega)) (ct9_fail _ _ _ tb) (Nat.le_of_ble_eq_true rfl) (by decide) (Nat.zero_le _) (fun v9 σ9 h9_10 => ?_)
    obtain ⟨rfl, rfl⟩ := h9_10
    exact aw_iret (pc := 13) F dX9_closed_13 (nar_bool (by first | exact b2i_01 | decide)) (Nat.zero_le _) (by rw [show closP B n S i = badP B n i 2 from if_pos (by omega)]; exact rr_bad (by decide) chF.rf hM)
