/-! 65: the reference's tokens -/
def BY (B : Int → Int) : Prop := ∀ i, 0 ≤ i → i < 500 → 0 ≤ B i ∧ B i ≤ 255
/-- the token's fields alone may change -/
def chX (M M' : Id4 → Int → Int) : Prop := ∀ q k, ¬ (q = (9, 0, 0, 0) ∧ 10 ≤ k ∧ k ≤ 13) → M' q k = M q k
theorem chX.rf {M : Id4 → Int → Int} : chX M M := fun _ _ _ => rfl
theorem chX.tr {M M1 M2 : Id4 → Int → Int} (h1 : chX M M1) (h2 : chX M1 M2) : chX M M2 := fun q k h => (h2 q k h).trans (h1 q k h)
theorem chX.up {M M1 : Id4 → Int → Int} {k v : Int} (h1 : chX M M1) (hk : 10 ≤ k ∧ k ≤ 13) : chX M (updM M1 (9, 0, 0, 0) k v) := fun q j z => by
  rw [← h1 q j z]
  by_cases y : q = (9, 0, 0, 0)
  · exact upd_ne (Or.inr (fun w => z ⟨y, by omega⟩))
  · exact upd_ne (Or.inl y)
theorem chX.off {M M' : Id4 → Int → Int} (h : chX M M') {q : Id4} (hq : q ≠ (9, 0, 0, 0)) : M' q = M q := funext fun k => h q k (fun z => hq z.1)
theorem chX.n {M M' : Id4 → Int → Int} (h : chX M M') : M' (9, 0, 0, 0) 9 = M (9, 0, 0, 0) 9 := h _ _ (fun z => absurd z.2.1 (by decide))
theorem ct9_byteAt (M : Id4 → Int → Int) (b : Bool) (n i : Int) (hn : M (9, 0, 0, 0) 9 = n) (hn2 : n ≤ 500) (h1 : 0 ≤ i) (h2 : inR i) (h3 : inR n) : CtI 1 0 yX9_byteAt cX9_byteAt 2 (some .int) [aR (9, 0, 0, 0), aI i] (M, R0 b) (fun v σ' => (i < n → v = M (9, 0, 6, 0) i) ∧ (¬ i < n → v = -1) ∧ σ' = (M, R0 b)) := by
  refine CtI.mk (by decide +kernel) rfl (Nat.le_of_ble_eq_true rfl) (fun X K F hk => ?_)
  refine aw_iload1 (pc := 0) F dX9_byteAt_0 ?_
  refine aw_aload0 (pc := 1) F dX9_byteAt_1 ?_
  refine aw_getI (pc := 2) F dX9_byteAt_2 fl_9_71 rfl (by first | decide | (simp only [inB, cnt, rcnt]; omega)) rfl nz9 ?_
  refine aw_icmp_ge (tgt := 17) (pc := 5) F dX9_byteAt_5 (by decide) (by first | assumption | (rw [hn]; assumption)) (by first | assumption | (rw [hn]; assumption)) (fun c5 => ?_) (fun c5 => ?_)
  · refine aw_iconst (pc := 17) F dX9_byteAt_17 ?_
    exact aw_iret (pc := 18) F dX9_byteAt_18 rfl (Nat.zero_le _) ⟨fun _ => by first | rfl | omega, fun _ => by first | rfl | omega, rfl⟩
  · refine aw_aload0 (pc := 8) F dX9_byteAt_8 ?_
    refine aw_getR (pc := 9) F dX9_byteAt_9 fl_9_19 rfl (by first | decide | (simp only [inB, cnt, rcnt]; omega)) rfl nz5 rfl ?_
    refine aw_iload1 (pc := 12) F dX9_byteAt_12 ?_
    refine aw_iald (pc := 13) F dX9_byteAt_13 rfl (by first | decide | (simp only [inB, cnt, rcnt]; omega)) (by omega) ?_
    refine aw_goto (tgt := 18) (pc := 14) F dX9_byteAt_14 (by decide) ?_
    exact aw_iret (pc := 18) F dX9_byteAt_18 rfl (Nat.zero_le _) ⟨fun _ => by first | rfl | omega, fun _ => by first | rfl | omega, rfl⟩
theorem ct9_isLetter (M : Id4 → Int → Int) (b : Bool) (x : Int) (h : inR x) : CtI 1 0 yX9_isLetter cX9_isLetter 1 (some .boolean) [aI x] (M, R0 b) (PU (M, R0 b) (b2i (97 ≤ x ∧ x ≤ 122))) := by
  refine CtI.mk (by decide +kernel) rfl (Nat.le_of_ble_eq_true rfl) (fun X K F hk => ?_)
  refine aw_iload0 (pc := 0) F dX9_isLetter_0 ?_
  refine aw_bipush (pc := 1) F dX9_isLetter_1 (by decide) ?_
  refine aw_icmp_lt (tgt := 16) (pc := 3) F dX9_isLetter_3 (by decide) (by first | assumption | (unfold inR; omega)) (by first | assumption | (unfold inR; omega)) (fun c3 => ?_) (fun c3 => ?_)
  · refine aw_iconst (pc := 16) F dX9_isLetter_16 ?_
    exact aw_iret (pc := 17) F dX9_isLetter_17 (nar_bool (by first | exact b2i_01 | decide)) (Nat.zero_le _) ⟨by first | exact (b2i_pos (by omega)).symm | exact (b2i_neg (by omega)).symm, rfl⟩
  · refine aw_iload0 (pc := 6) F dX9_isLetter_6 ?_
    refine aw_bipush (pc := 7) F dX9_isLetter_7 (by decide) ?_
    refine aw_icmp_gt (tgt := 16) (pc := 9) F dX9_isLetter_9 (by decide) (by first | assumption | (unfold inR; omega)) (by first | assumption | (unfold inR; omega)) (fun c9 => ?_) (fun c9 => ?_)
    · refine aw_iconst (pc := 16) F dX9_isLetter_16 ?_
      exact aw_iret (pc := 17) F dX9_isLetter_17 (nar_bool (by first | exact b2i_01 | decide)) (Nat.zero_le _) ⟨by first | exact (b2i_pos (by omega)).symm | exact (b2i_neg (by omega)).symm, rfl⟩
    · refine aw_iconst (pc := 12) F dX9_isLetter_12 ?_
      refine aw_goto (tgt := 17) (pc := 13) F dX9_isLetter_13 (by decide) ?_
      exact aw_iret (pc := 17) F dX9_isLetter_17 (nar_bool (by first | exact b2i_01 | decide)) (Nat.zero_le _) ⟨by first | exact (b2i_pos (by omega)).symm | exact (b2i_neg (by omega)).symm, rfl⟩
theorem ct9_isDigit (M : Id4 → Int → Int) (b : Bool) (x : Int) (h : inR x) : CtI 1 0 yX9_isDigit cX9_isDigit 1 (some .boolean) [aI x] (M, R0 b) (PU (M, R0 b) (b2i (48 ≤ x ∧ x ≤ 57))) := by
  refine CtI.mk (by decide +kernel) rfl (Nat.le_of_ble_eq_true rfl) (fun X K F hk => ?_)
  refine aw_iload0 (pc := 0) F dX9_isDigit_0 ?_
  refine aw_bipush (pc := 1) F dX9_isDigit_1 (by decide) ?_
  refine aw_icmp_lt (tgt := 16) (pc := 3) F dX9_isDigit_3 (by decide) (by first | assumption | (unfold inR; omega)) (by first | assumption | (unfold inR; omega)) (fun c3 => ?_) (fun c3 => ?_)
  · refine aw_iconst (pc := 16) F dX9_isDigit_16 ?_
    exact aw_iret (pc := 17) F dX9_isDigit_17 (nar_bool (by first | exact b2i_01 | decide)) (Nat.zero_le _) ⟨by first | exact (b2i_pos (by omega)).symm | exact (b2i_neg (by omega)).symm, rfl⟩
  · refine aw_iload0 (pc := 6) F dX9_isDigit_6 ?_
    refine aw_bipush (pc := 7) F dX9_isDigit_7 (by decide) ?_
    refine aw_icmp_gt (tgt := 16) (pc := 9) F dX9_isDigit_9 (by decide) (by first | assumption | (unfold inR; omega)) (by first | assumption | (unfold inR; omega)) (fun c9 => ?_) (fun c9 => ?_)
    · refine aw_iconst (pc := 16) F dX9_isDigit_16 ?_
      exact aw_iret (pc := 17) F dX9_isDigit_17 (nar_bool (by first | exact b2i_01 | decide)) (Nat.zero_le _) ⟨by first | exact (b2i_pos (by omega)).symm | exact (b2i_neg (by omega)).symm, rfl⟩
    · refine aw_iconst (pc := 12) F dX9_isDigit_12 ?_
      refine aw_goto (tgt := 17) (pc := 13) F dX9_isDigit_13 (by decide) ?_
      exact aw_iret (pc := 17) F dX9_isDigit_17 (nar_bool (by first | exact b2i_01 | decide)) (Nat.zero_le _) ⟨by first | exact (b2i_pos (by omega)).symm | exact (b2i_neg (by omega)).symm, rfl⟩
theorem isLt_iff {c : Int} : isLt c = true ↔ 97 ≤ c ∧ c ≤ 122 := decide_eq_true_iff
theorem isDg_iff {c : Int} : isDg c = true ↔ 48 ≤ c ∧ c ≤ 57 := decide_eq_true_iff
theorem isWs_iff {c : Int} : isWs c = true ↔ c = 32 ∨ c = 10 := decide_eq_true_iff
theorem ct9_readWord (M : Id4 → Int → Int) (b : Bool) (B : Int → Int) (n i s : Int) (hB : M (9, 0, 6, 0) = B) (hy : BY B) (hn : M (9, 0, 0, 0) 9 = n) (hn2 : 0 ≤ n ∧ n ≤ 500) (hi9 : M (9, 0, 0, 0) 11 = i) (hs : M (9, 0, 0, 0) 10 = s) (h1 : 0 ≤ s ∧ s ≤ i ∧ i ≤ n) : CtV 2 0 yX9_readWord cX9_readWord 1 none [aR (9, 0, 0, 0)] (M, R0 b) (fun σ' => ∃ M', σ' = (M', R0 b) ∧ chX M M' ∧ M' (9, 0, 0, 0) 10 = s ∧ M' (9, 0, 0, 0) 11 = rn isLt B n i ∧ M' (9, 0, 0, 0) 12 = (if 8 < rn isLt B n i - s then 1 else 2)) := by
  refine CtV.mk (by decide +kernel) rfl (Nat.le_of_ble_eq_true rfl) (fun X K F hk => ?_)
  obtain ⟨Q9, hQ⟩ : ∃ Q9, Q9 = EV X K 0 (fun σ' => ∃ M', σ' = (M', R0 b) ∧ chX M M' ∧ M' (9, 0, 0, 0) 10 = s ∧ M' (9, 0, 0, 0) 11 = rn isLt B n i ∧ M' (9, 0, 0, 0) 12 = (if 8 < rn isLt B n i - s then 1 else 2)) := ⟨_, rfl⟩
  have loop : ∀ (f : Nat) (j : Int) (M' : Id4 → Int → Int), (n - j).toNat = f → i ≤ j → j ≤ n → rn isLt B n i = rn isLt B n j → chX M M' → M' (9, 0, 0, 0) 10 = s → M' (9, 0, 0, 0) 11 = j → AW X K 0 [aR (9, 0, 0, 0)] [] (M', R0 b) 0 Q9 := by
    intro f
    induction f with
    | zero =>
      intro j M' hf j1 j2 hr a1 a2 a3
      have e9 := a1.n.trans hn
      have st := rn_no (p := isLt) (B := B) (n := n) (i := j) (fun z => by omega)
      refine aw_aload0 (pc := 0) F dX9_readWord_0 ?_
      refine aw_aload0 (pc := 1) F dX9_readWord_1 ?_
      refine aw_getI (pc := 2) F dX9_readWord_2 fl_9_74 rfl (by first | decide | (simp only [inB, cnt, rcnt]; omega)) rfl nz11 ?_
      rw [a3]
      refine aw_callVI1 (pc := 5) F dX9_readWord_5 ml_9_77 rfl (by first | decide | (simp only [inB, cnt, rcnt]; omega)) (ct9_byteAt _ _ n j e9 (by omega) (by omega) (by unfold inR; omega) (by unfold inR; omega)) (Nat.le_of_ble_eq_true rfl) (by decide) (Nat.zero_le _) (fun v9 σ9 h9_5 => ?_)
      obtain ⟨-, q2, rfl⟩ := h9_5
      refine aw_pcallS1 (pc := 8) F dX9_readWord_8 ml_9_81 (ct9_isLetter _ _ _ (by unfold inR; omega)) (Nat.le_of_ble_eq_true rfl) (by decide) (Nat.zero_le _) ?_
      refine aw_ifb_eq (tgt := 27) (pc := 11) F dX9_readWord_11 (by decide) (fun c11 => ?_) (fun c11 => ?_)
      · refine aw_aload0 (pc := 27) F dX9_readWord_27 ?_
        refine aw_aload0 (pc := 28) F dX9_readWord_28 ?_
        refine aw_getI (pc := 29) F dX9_readWord_29 fl_9_74 rfl (by first | decide | (simp only [inB, cnt, rcnt]; omega)) rfl nz11 ?_
        refine aw_aload0 (pc := 32) F dX9_readWord_32 ?_
        refine aw_getI (pc := 33) F dX9_readWord_33 fl_9_85 rfl (by first | decide | (simp only [inB, cnt, rcnt]; omega)) rfl nz10 ?_
        refine aw_isub (pc := 36) F dX9_readWord_36 ?_
        refine aw_bipush (pc := 37) F dX9_readWord_37 (by decide) ?_
        refine aw_icmp_le (tgt := 46) (pc := 39) F dX9_readWord_39 (by decide) (by unfold inR; omega) (by unfold inR; omega) (fun c39 => ?_) (fun c39 => ?_)
        · refine aw_iconst (pc := 46) F dX9_readWord_46 ?_
          refine aw_putI (pc := 47) F dX9_readWord_47 fl_9_88 fpi_9_12 rfl (by first | decide | (simp only [inB, cnt, rcnt]; omega)) rfl nz12 ?_
          rw [hQ]
          exact aw_vret (pc := 50) F dX9_readWord_50 (Nat.zero_le _) ⟨_, rfl, a1.up (by decide), by rw [upd_ne (Or.inr (by decide))]; exact a2, by rw [upd_ne (Or.inr (by decide)), a3, hr, st], by first | (rw [upd_same, hr, st, if_pos (by omega)]) | (rw [upd_same, hr, st, if_neg (by omega)])⟩
        · refine aw_iconst (pc := 42) F dX9_readWord_42 ?_
          refine aw_goto (tgt := 47) (pc := 43) F dX9_readWord_43 (by decide) ?_
          refine aw_putI (pc := 47) F dX9_readWord_47 fl_9_88 fpi_9_12 rfl (by first | decide | (simp only [inB, cnt, rcnt]; omega)) rfl nz12 ?_
          rw [hQ]
          exact aw_vret (pc := 50) F dX9_readWord_50 (Nat.zero_le _) ⟨_, rfl, a1.up (by decide), by rw [upd_ne (Or.inr (by decide))]; exact a2, by rw [upd_ne (Or.inr (by decide)), a3, hr, st], by first | (rw [upd_same, hr, st, if_pos (by omega)]) | (rw [upd_same, hr, st, if_neg (by omega)])⟩
      · omega
    | succ f ih =>
      intro j M' hf j1 j2 hr a1 a2 a3
      have e9 := a1.n.trans hn
      have eB : M' (9, 0, 6, 0) j = B j := by rw [a1.off (by decide), hB]
      have bj := hy j (by omega) (by omega)
      refine aw_aload0 (pc := 0) F dX9_readWord_0 ?_
      refine aw_aload0 (pc := 1) F dX9_readWord_1 ?_
      refine aw_getI (pc := 2) F dX9_readWord_2 fl_9_74 rfl (by first | decide | (simp only [inB, cnt, rcnt]; omega)) rfl nz11 ?_
      rw [a3]
      refine aw_callVI1 (pc := 5) F dX9_readWord_5 ml_9_77 rfl (by first | decide | (simp only [inB, cnt, rcnt]; omega)) (ct9_byteAt _ _ n j e9 (by omega) (by omega) (by unfold inR; omega) (by unfold inR; omega)) (Nat.le_of_ble_eq_true rfl) (by decide) (Nat.zero_le _) (fun v9 σ9 h9_5 => ?_)
      obtain ⟨q1, q2, rfl⟩ := h9_5
      have qv := (q1 (by omega)).trans eB
      refine aw_pcallS1 (pc := 8) F dX9_readWord_8 ml_9_81 (ct9_isLetter _ _ _ (by unfold inR; omega)) (Nat.le_of_ble_eq_true rfl) (by decide) (Nat.zero_le _) ?_
      refine aw_ifb_eq (tgt := 27) (pc := 11) F dX9_readWord_11 (by decide) (fun c11 => ?_) (fun c11 => ?_)
      · have st := rn_no (p := isLt) (B := B) (n := n) (i := j) (fun z => by have := isLt_iff.mp z.2; omega)
        refine aw_aload0 (pc := 27) F dX9_readWord_27 ?_
        refine aw_aload0 (pc := 28) F dX9_readWord_28 ?_
        refine aw_getI (pc := 29) F dX9_readWord_29 fl_9_74 rfl (by first | decide | (simp only [inB, cnt, rcnt]; omega)) rfl nz11 ?_
        refine aw_aload0 (pc := 32) F dX9_readWord_32 ?_
        refine aw_getI (pc := 33) F dX9_readWord_33 fl_9_85 rfl (by first | decide | (simp only [inB, cnt, rcnt]; omega)) rfl nz10 ?_
        refine aw_isub (pc := 36) F dX9_readWord_36 ?_
        refine aw_bipush (pc := 37) F dX9_readWord_37 (by decide) ?_
        refine aw_icmp_le (tgt := 46) (pc := 39) F dX9_readWord_39 (by decide) (by unfold inR; omega) (by unfold inR; omega) (fun c39 => ?_) (fun c39 => ?_)
        · refine aw_iconst (pc := 46) F dX9_readWord_46 ?_
          refine aw_putI (pc := 47) F dX9_readWord_47 fl_9_88 fpi_9_12 rfl (by first | decide | (simp only [inB, cnt, rcnt]; omega)) rfl nz12 ?_
          rw [hQ]
          exact aw_vret (pc := 50) F dX9_readWord_50 (Nat.zero_le _) ⟨_, rfl, a1.up (by decide), by rw [upd_ne (Or.inr (by decide))]; exact a2, by rw [upd_ne (Or.inr (by decide)), a3, hr, st], by first | (rw [upd_same, hr, st, if_pos (by omega)]) | (rw [upd_same, hr, st, if_neg (by omega)])⟩
        · refine aw_iconst (pc := 42) F dX9_readWord_42 ?_
          refine aw_goto (tgt := 47) (pc := 43) F dX9_readWord_43 (by decide) ?_
          refine aw_putI (pc := 47) F dX9_readWord_47 fl_9_88 fpi_9_12 rfl (by first | decide | (simp only [inB, cnt, rcnt]; omega)) rfl nz12 ?_
          rw [hQ]
          exact aw_vret (pc := 50) F dX9_readWord_50 (Nat.zero_le _) ⟨_, rfl, a1.up (by decide), by rw [upd_ne (Or.inr (by decide))]; exact a2, by rw [upd_ne (Or.inr (by decide)), a3, hr, st], by first | (rw [upd_same, hr, st, if_pos (by omega)]) | (rw [upd_same, hr, st, if_neg (by omega)])⟩
      · refine aw_aload0 (pc := 14) F dX9_readWord_14 ?_
        refine aw_dupR (pc := 15) F dX9_readWord_15 ?_
        refine aw_getI (pc := 16) F dX9_readWord_16 fl_9_74 rfl (by first | decide | (simp only [inB, cnt, rcnt]; omega)) rfl nz11 ?_
        refine aw_iconst (pc := 19) F dX9_readWord_19 ?_
        refine aw_iadd (pc := 20) F dX9_readWord_20 ?_
        refine aw_putI (pc := 21) F dX9_readWord_21 fl_9_74 fpi_9_11 rfl (by first | decide | (simp only [inB, cnt, rcnt]; omega)) rfl nz11 ?_
        refine aw_goto (tgt := 0) (pc := 24) F dX9_readWord_24 (by decide) ?_
        rw [a3]
        exact ih (j + 1) _ (by omega) (by omega) (by omega) (hr.trans (rn_go ⟨by omega, isLt_iff.mpr (by omega)⟩)) (a1.up (by decide)) (by rw [upd_ne (Or.inr (by decide))]; exact a2) upd_same
  rw [← hQ]
  exact loop _ i M rfl (by omega) (by omega) rfl chX.rf hs hi9
theorem ct9_readNumber (M : Id4 → Int → Int) (b : Bool) (B : Int → Int) (n s : Int) (hB : M (9, 0, 6, 0) = B) (hy : BY B) (hn : M (9, 0, 0, 0) 9 = n) (hn2 : 0 ≤ n ∧ n ≤ 500) (hi9 : M (9, 0, 0, 0) 11 = s) (hs : M (9, 0, 0, 0) 10 = s) (h1 : 0 ≤ s ∧ s ≤ n) : CtV 2 0 yX9_readNumber cX9_readNumber 1 none [aR (9, 0, 0, 0)] (M, R0 b) (fun σ' => ∃ M', σ' = (M', R0 b) ∧ chX M M' ∧ M' (9, 0, 0, 0) 10 = s ∧ M' (9, 0, 0, 0) 11 = rn isDg B n s ∧ M' (9, 0, 0, 0) 12 = (if 2 < rn isDg B n s - s then 1 else 3) ∧ (s < rn isDg B n s → M' (9, 0, 0, 0) 13 = tvS B n s)) := by
  refine CtV.mk (by decide +kernel) rfl (Nat.le_of_ble_eq_true rfl) (fun X K F hk => ?_)
  obtain ⟨Q9, hQ⟩ : ∃ Q9, Q9 = EV X K 0 (fun σ' => ∃ M', σ' = (M', R0 b) ∧ chX M M' ∧ M' (9, 0, 0, 0) 10 = s ∧ M' (9, 0, 0, 0) 11 = rn isDg B n s ∧ M' (9, 0, 0, 0) 12 = (if 2 < rn isDg B n s - s then 1 else 3) ∧ (s < rn isDg B n s → M' (9, 0, 0, 0) 13 = tvS B n s)) := ⟨_, rfl⟩
  have fin : ∀ (j : Int) (M' : Id4 → Int → Int) (v : Int), rn isDg B n s = j → v = (if j - s = 0 then 0 else if j - s = 1 then B s - 48 else 10 * (B s - 48) + B (s + 1) - 48) → (s < rn isDg B n s → v = tvS B n s) := by
    intro j M' v h2 h3 h4
    unfold tvS
    rw [h3, h2]
    rw [if_neg (by omega)]
  have loop : ∀ (f : Nat) (j : Int) (M' : Id4 → Int → Int), (n - j).toNat = f → s ≤ j → j ≤ n → rn isDg B n s = rn isDg B n j → chX M M' → M' (9, 0, 0, 0) 10 = s → M' (9, 0, 0, 0) 11 = j → M' (9, 0, 0, 0) 13 = (if j - s = 0 then 0 else if j - s = 1 then B s - 48 else 10 * (B s - 48) + B (s + 1) - 48) → AW X K 5 [aR (9, 0, 0, 0)] [] (M', R0 b) 0 Q9 := by
    intro f
    induction f with
    | zero =>
      intro j M' hf j1 j2 hr a1 a2 a3 a4
      have e9 := a1.n.trans hn
      have st := rn_no (p := isDg) (B := B) (n := n) (i := j) (fun z => by omega)
      refine aw_aload0 (pc := 5) F dX9_readNumber_5 ?_
      refine aw_aload0 (pc := 6) F dX9_readNumber_6 ?_
      refine aw_getI (pc := 7) F dX9_readNumber_7 fl_9_74 rfl (by first | decide | (simp only [inB, cnt, rcnt]; omega)) rfl nz11 ?_
      rw [a3]
      refine aw_callVI1 (pc := 10) F dX9_readNumber_10 ml_9_77 rfl (by first | decide | (simp only [inB, cnt, rcnt]; omega)) (ct9_byteAt _ _ n j e9 (by omega) (by omega) (by unfold inR; omega) (by unfold inR; omega)) (Nat.le_of_ble_eq_true rfl) (by decide) (Nat.zero_le _) (fun v9 σ9 h9_10 => ?_)
      obtain ⟨-, q2, rfl⟩ := h9_10
      refine aw_pcallS1 (pc := 13) F dX9_readNumber_13 ml_9_94 (ct9_isDigit _ _ _ (by unfold inR; omega)) (Nat.le_of_ble_eq_true rfl) (by decide) (Nat.zero_le _) ?_
      refine aw_ifb_eq (tgt := 75) (pc := 16) F dX9_readNumber_16 (by decide) (fun c16 => ?_) (fun c16 => ?_)
      · refine aw_aload0 (pc := 75) F dX9_readNumber_75 ?_
        refine aw_aload0 (pc := 76) F dX9_readNumber_76 ?_
        refine aw_getI (pc := 77) F dX9_readNumber_77 fl_9_74 rfl (by first | decide | (simp only [inB, cnt, rcnt]; omega)) rfl nz11 ?_
        refine aw_aload0 (pc := 80) F dX9_readNumber_80 ?_
        refine aw_getI (pc := 81) F dX9_readNumber_81 fl_9_85 rfl (by first | decide | (simp only [inB, cnt, rcnt]; omega)) rfl nz10 ?_
        refine aw_isub (pc := 84) F dX9_readNumber_84 ?_
        refine aw_iconst (pc := 85) F dX9_readNumber_85 ?_
        refine aw_icmp_le (tgt := 93) (pc := 86) F dX9_readNumber_86 (by decide) (by unfold inR; omega) (by unfold inR; omega) (fun c86 => ?_) (fun c86 => ?_)
        · refine aw_iconst (pc := 93) F dX9_readNumber_93 ?_
          refine aw_putI (pc := 94) F dX9_readNumber_94 fl_9_88 fpi_9_12 rfl (by first | decide | (simp only [inB, cnt, rcnt]; omega)) rfl nz12 ?_
          rw [hQ]
          exact aw_vret (pc := 97) F dX9_readNumber_97 (Nat.zero_le _) ⟨_, rfl, a1.up (by decide), by rw [upd_ne (Or.inr (by decide))]; exact a2, by rw [upd_ne (Or.inr (by decide)), a3, hr, st], by first | (rw [upd_same, hr, st, if_pos (by omega)]) | (rw [upd_same, hr, st, if_neg (by omega)]), fun z => by rw [upd_ne (Or.inr (by decide))]; exact fin j M' _ (hr.trans st) a4 z⟩
        · refine aw_iconst (pc := 89) F dX9_readNumber_89 ?_
          refine aw_goto (tgt := 94) (pc := 90) F dX9_readNumber_90 (by decide) ?_
          refine aw_putI (pc := 94) F dX9_readNumber_94 fl_9_88 fpi_9_12 rfl (by first | decide | (simp only [inB, cnt, rcnt]; omega)) rfl nz12 ?_
          rw [hQ]
          exact aw_vret (pc := 97) F dX9_readNumber_97 (Nat.zero_le _) ⟨_, rfl, a1.up (by decide), by rw [upd_ne (Or.inr (by decide))]; exact a2, by rw [upd_ne (Or.inr (by decide)), a3, hr, st], by first | (rw [upd_same, hr, st, if_pos (by omega)]) | (rw [upd_same, hr, st, if_neg (by omega)]), fun z => by rw [upd_ne (Or.inr (by decide))]; exact fin j M' _ (hr.trans st) a4 z⟩
      · omega
    | succ f ih =>
      intro j M' hf j1 j2 hr a1 a2 a3 a4
      have e9 := a1.n.trans hn
      have eB : M' (9, 0, 6, 0) j = B j := by rw [a1.off (by decide), hB]
      have bj := hy j (by omega) (by omega)
      have nx : ∀ v : Int, 48 ≤ B j ∧ B j ≤ 57 → (v = (if j + 1 - s = 0 then 0 else if j + 1 - s = 1 then B s - 48 else 10 * (B s - 48) + B (s + 1) - 48)) → AW X K 5 [aR (9, 0, 0, 0)] [] (updM (updM M' (9, 0, 0, 0) 13 v) (9, 0, 0, 0) 11 (j + 1), R0 b) 0 Q9 := fun v hv hv2 => ih (j + 1) _ (by omega) (by omega) (by omega) (hr.trans (rn_go ⟨by omega, isDg_iff.mpr (by omega)⟩)) ((a1.up (by decide)).up (by decide)) (by rw [upd_ne (Or.inr (by decide)), upd_ne (Or.inr (by decide))]; exact a2) upd_same (by rw [upd_ne (Or.inr (by decide)), upd_same]; exact hv2)
      refine aw_aload0 (pc := 5) F dX9_readNumber_5 ?_
      refine aw_aload0 (pc := 6) F dX9_readNumber_6 ?_
      refine aw_getI (pc := 7) F dX9_readNumber_7 fl_9_74 rfl (by first | decide | (simp only [inB, cnt, rcnt]; omega)) rfl nz11 ?_
      rw [a3]
      refine aw_callVI1 (pc := 10) F dX9_readNumber_10 ml_9_77 rfl (by first | decide | (simp only [inB, cnt, rcnt]; omega)) (ct9_byteAt _ _ n j e9 (by omega) (by omega) (by unfold inR; omega) (by unfold inR; omega)) (Nat.le_of_ble_eq_true rfl) (by decide) (Nat.zero_le _) (fun v9 σ9 h9_10 => ?_)
      obtain ⟨q1, q2, rfl⟩ := h9_10
      have qv := (q1 (by omega)).trans eB
      refine aw_pcallS1 (pc := 13) F dX9_readNumber_13 ml_9_94 (ct9_isDigit _ _ _ (by unfold inR; omega)) (Nat.le_of_ble_eq_true rfl) (by decide) (Nat.zero_le _) ?_
      refine aw_ifb_eq (tgt := 75) (pc := 16) F dX9_readNumber_16 (by decide) (fun c16 => ?_) (fun c16 => ?_)
      · have st := rn_no (p := isDg) (B := B) (n := n) (i := j) (fun z => by have := isDg_iff.mp z.2; omega)
        refine aw_aload0 (pc := 75) F dX9_readNumber_75 ?_
        refine aw_aload0 (pc := 76) F dX9_readNumber_76 ?_
        refine aw_getI (pc := 77) F dX9_readNumber_77 fl_9_74 rfl (by first | decide | (simp only [inB, cnt, rcnt]; omega)) rfl nz11 ?_
        refine aw_aload0 (pc := 80) F dX9_readNumber_80 ?_
        refine aw_getI (pc := 81) F dX9_readNumber_81 fl_9_85 rfl (by first | decide | (simp only [inB, cnt, rcnt]; omega)) rfl nz10 ?_
        refine aw_isub (pc := 84) F dX9_readNumber_84 ?_
        refine aw_iconst (pc := 85) F dX9_readNumber_85 ?_
        refine aw_icmp_le (tgt := 93) (pc := 86) F dX9_readNumber_86 (by decide) (by unfold inR; omega) (by unfold inR; omega) (fun c86 => ?_) (fun c86 => ?_)
        · refine aw_iconst (pc := 93) F dX9_readNumber_93 ?_
          refine aw_putI (pc := 94) F dX9_readNumber_94 fl_9_88 fpi_9_12 rfl (by first | decide | (simp only [inB, cnt, rcnt]; omega)) rfl nz12 ?_
          rw [hQ]
          exact aw_vret (pc := 97) F dX9_readNumber_97 (Nat.zero_le _) ⟨_, rfl, a1.up (by decide), by rw [upd_ne (Or.inr (by decide))]; exact a2, by rw [upd_ne (Or.inr (by decide)), a3, hr, st], by first | (rw [upd_same, hr, st, if_pos (by omega)]) | (rw [upd_same, hr, st, if_neg (by omega)]), fun z => by rw [upd_ne (Or.inr (by decide))]; exact fin j M' _ (hr.trans st) a4 z⟩
        · refine aw_iconst (pc := 89) F dX9_readNumber_89 ?_
          refine aw_goto (tgt := 94) (pc := 90) F dX9_readNumber_90 (by decide) ?_
          refine aw_putI (pc := 94) F dX9_readNumber_94 fl_9_88 fpi_9_12 rfl (by first | decide | (simp only [inB, cnt, rcnt]; omega)) rfl nz12 ?_
          rw [hQ]
          exact aw_vret (pc := 97) F dX9_readNumber_97 (Nat.zero_le _) ⟨_, rfl, a1.up (by decide), by rw [upd_ne (Or.inr (by decide))]; exact a2, by rw [upd_ne (Or.inr (by decide)), a3, hr, st], by first | (rw [upd_same, hr, st, if_pos (by omega)]) | (rw [upd_same, hr, st, if_neg (by omega)]), fun z => by rw [upd_ne (Or.inr (by decide))]; exact fin j M' _ (hr.trans st) a4 z⟩
      · refine aw_aload0 (pc := 19) F dX9_readNumber_19 ?_
        refine aw_aload0 (pc := 20) F dX9_readNumber_20 ?_
        refine aw_getI (pc := 21) F dX9_readNumber_21 fl_9_74 rfl (by first | decide | (simp only [inB, cnt, rcnt]; omega)) rfl nz11 ?_
        refine aw_aload0 (pc := 24) F dX9_readNumber_24 ?_
        refine aw_getI (pc := 25) F dX9_readNumber_25 fl_9_85 rfl (by first | decide | (simp only [inB, cnt, rcnt]; omega)) rfl nz10 ?_
        refine aw_isub (pc := 28) F dX9_readNumber_28 ?_
        refine aw_iconst (pc := 29) F dX9_readNumber_29 ?_
        refine aw_icmp_ge (tgt := 55) (pc := 30) F dX9_readNumber_30 (by decide) (by unfold inR; omega) (by unfold inR; omega) (fun c30 => ?_) (fun c30 => ?_)
        · refine aw_aload0 (pc := 55) F dX9_readNumber_55 ?_
          refine aw_getI (pc := 56) F dX9_readNumber_56 fl_9_91 rfl (by first | decide | (simp only [inB, cnt, rcnt]; omega)) rfl nz13 ?_
          refine aw_putI (pc := 59) F dX9_readNumber_59 fl_9_91 fpi_9_13 rfl (by first | decide | (simp only [inB, cnt, rcnt]; omega)) rfl nz13 ?_
          refine aw_aload0 (pc := 62) F dX9_readNumber_62 ?_
          refine aw_dupR (pc := 63) F dX9_readNumber_63 ?_
          refine aw_getI (pc := 64) F dX9_readNumber_64 fl_9_74 rfl (by first | decide | (simp only [inB, cnt, rcnt]; omega)) rfl nz11 ?_
          refine aw_iconst (pc := 67) F dX9_readNumber_67 ?_
          refine aw_iadd (pc := 68) F dX9_readNumber_68 ?_
          refine aw_putI (pc := 69) F dX9_readNumber_69 fl_9_74 fpi_9_11 rfl (by first | decide | (simp only [inB, cnt, rcnt]; omega)) rfl nz11 ?_
          refine aw_goto (tgt := 5) (pc := 72) F dX9_readNumber_72 (by decide) ?_
          rw [upd_ne (Or.inr (by decide)), a3]
          refine nx _ (by omega) ?_
          first
          | (rw [a4]
             by_cases z : j = s
             · rw [qw, z, if_pos (by omega), if_neg (by omega), if_pos (by omega)]; omega
             · have z2 : j = s + 1 := by omega
               rw [qw, z2, if_neg (by omega), if_pos (by omega), if_neg (by omega), if_neg (by omega)])
          | (rw [a4, if_neg (by omega), if_neg (by omega), if_neg (by omega), if_neg (by omega)])
        · refine aw_bipush (pc := 33) F dX9_readNumber_33 (by decide) ?_
          refine aw_aload0 (pc := 35) F dX9_readNumber_35 ?_
          refine aw_getI (pc := 36) F dX9_readNumber_36 fl_9_91 rfl (by first | decide | (simp only [inB, cnt, rcnt]; omega)) rfl nz13 ?_
          refine aw_imul (pc := 39) F dX9_readNumber_39 ?_
          refine aw_aload0 (pc := 40) F dX9_readNumber_40 ?_
          refine aw_aload0 (pc := 41) F dX9_readNumber_41 ?_
          refine aw_getI (pc := 42) F dX9_readNumber_42 fl_9_74 rfl (by first | decide | (simp only [inB, cnt, rcnt]; omega)) rfl nz11 ?_
          rw [a3]
          refine aw_callVI1 (pc := 45) F dX9_readNumber_45 ml_9_77 rfl (by first | decide | (simp only [inB, cnt, rcnt]; omega)) (ct9_byteAt _ _ n j e9 (by omega) (by omega) (by unfold inR; omega) (by unfold inR; omega)) (Nat.le_of_ble_eq_true rfl) (by decide) (Nat.zero_le _) (fun v8 σ8 h9_45 => ?_)
          obtain ⟨q3, q4, rfl⟩ := h9_45
          have qw := (q3 (by omega)).trans eB
          refine aw_iadd (pc := 48) F dX9_readNumber_48 ?_
          refine aw_bipush (pc := 49) F dX9_readNumber_49 (by decide) ?_
          refine aw_isub (pc := 51) F dX9_readNumber_51 ?_
          refine aw_goto (tgt := 59) (pc := 52) F dX9_readNumber_52 (by decide) ?_
          refine aw_putI (pc := 59) F dX9_readNumber_59 fl_9_91 fpi_9_13 rfl (by first | decide | (simp only [inB, cnt, rcnt]; omega)) rfl nz13 ?_
          refine aw_aload0 (pc := 62) F dX9_readNumber_62 ?_
          refine aw_dupR (pc := 63) F dX9_readNumber_63 ?_
          refine aw_getI (pc := 64) F dX9_readNumber_64 fl_9_74 rfl (by first | decide | (simp only [inB, cnt, rcnt]; omega)) rfl nz11 ?_
          refine aw_iconst (pc := 67) F dX9_readNumber_67 ?_
          refine aw_iadd (pc := 68) F dX9_readNumber_68 ?_
          refine aw_putI (pc := 69) F dX9_readNumber_69 fl_9_74 fpi_9_11 rfl (by first | decide | (simp only [inB, cnt, rcnt]; omega)) rfl nz11 ?_
          refine aw_goto (tgt := 5) (pc := 72) F dX9_readNumber_72 (by decide) ?_
          rw [upd_ne (Or.inr (by decide)), a3]
          refine nx _ (by omega) ?_
          first
          | (rw [a4]
             by_cases z : j = s
             · rw [qw, z, if_pos (by omega), if_neg (by omega), if_pos (by omega)]; omega
             · have z2 : j = s + 1 := by omega
               rw [qw, z2, if_neg (by omega), if_pos (by omega), if_neg (by omega), if_neg (by omega)])
          | (rw [a4, if_neg (by omega), if_neg (by omega), if_neg (by omega), if_neg (by omega)])
  refine aw_aload0 (pc := 0) F dX9_readNumber_0 ?_
  refine aw_iconst (pc := 1) F dX9_readNumber_1 ?_
  refine aw_putI (pc := 2) F dX9_readNumber_2 fl_9_91 fpi_9_13 rfl (by first | decide | (simp only [inB, cnt, rcnt]; omega)) rfl nz13 ?_
  rw [← hQ]
  exact loop _ s _ rfl (by omega) (by omega) rfl (chX.rf.up (by decide)) (by rw [upd_ne (Or.inr (by decide))]; exact hs) (by rw [upd_ne (Or.inr (by decide))]; exact hi9) (by rw [upd_same, if_pos (by omega)])
