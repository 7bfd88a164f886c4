/-! 73: the words of the language -/
theorem wordN {j : Nat} (hj : j < 3) : 0 ≤ wLenI j ∧ wLenI j ≤ 6 := by
  have := wLen_I j hj
  omega
theorem ct9_isWord (M : Id4 → Int → Int) (b : Bool) (B S : Int → Int) (n i : Int) (j : Nat) (hj : j < 3) (hx : TX B n i) (hM : RSx B n S i M) : CtI 5 0 yX9_isWord cX9_isWord 3 (some .boolean) [aR (9, 0, 0, 0), aR (20, (j : Int), 0, 0)] (M, R0 b) (PU (M, R0 b) (wdI B n i j)) := by
  refine CtI.mk (by decide +kernel) rfl (Nat.le_of_ble_eq_true rfl) (fun X K F hk => ?_)
  obtain ⟨m1, m2, m3, t1, t2, t3, t4⟩ := id hM
  have tb := hM.2.2.2.bd
  have xn := hx.nx
  have wl := wordN hj
  have wl2 := wLen_I j hj
  have sb := stT_bd (B := B) hx.2.2.2
  have hn := hx.2.1
  have h0 := hx.2.2.1
  have xb := nxT_bd (B := B) hx.2.2.2
  obtain ⟨Q9, hQ⟩ : ∃ Q9, Q9 = EI X K 0 (PU (M, R0 b) (wdI B n i j)) := ⟨_, rfl⟩
  have loop : kdT B n i = 2 → nxT B n i - stT B n i = wLenI j → ∀ (f k : Nat), (k : Int) + f = wLenI j → (∀ x, 0 ≤ x → x < (k : Int) → B (stT B n i + x) = wBytI j x) → AW X K 28 [aR (9, 0, 0, 0), aR (20, (j : Int), 0, 0), aI k] [] (M, R0 b) 0 Q9 := by
    intro k2 kl f
    induction f with
    | zero =>
      intro k hk9 ha
      refine aw_iload2 (pc := 28) F dX9_isWord_28 ?_
      refine aw_aload1 (pc := 29) F dX9_isWord_29 ?_
      refine aw_tcall0 F hj dX9_isWord_30 ml_9_103 (ctJ_length _ _ j hj) (Nat.le_of_ble_eq_true rfl) (by decide) (Nat.zero_le _) ?_
      refine aw_icmp_ge (tgt := 63) (pc := 33) F dX9_isWord_33 (by decide) (by unfold inR; omega) (by unfold inR; omega) (fun c33 => ?_) (fun c33 => ?_)
      · refine aw_iconst (pc := 63) F dX9_isWord_63 ?_
        rw [hQ]
        exact aw_iret (pc := 64) F dX9_isWord_64 (nar_bool (by first | exact b2i_01 | decide)) (Nat.zero_le _) ⟨(wdI_1 ⟨k2, kl, fun x x0 x1 => ha x x0 (by omega)⟩).symm, rfl⟩
      · omega
    | succ f ih =>
      intro k hk9 ha
      have wb := wByt_I j hj k (by omega)
      have bb := hx.1 (stT B n i + k) (by omega) (by omega)
      refine aw_iload2 (pc := 28) F dX9_isWord_28 ?_
      refine aw_aload1 (pc := 29) F dX9_isWord_29 ?_
      refine aw_tcall0 F hj dX9_isWord_30 ml_9_103 (ctJ_length _ _ j hj) (Nat.le_of_ble_eq_true rfl) (by decide) (Nat.zero_le _) ?_
      refine aw_icmp_ge (tgt := 63) (pc := 33) F dX9_isWord_33 (by decide) (by unfold inR; omega) (by unfold inR; omega) (fun c33 => ?_) (fun c33 => ?_)
      · omega
      · refine aw_aload0 (pc := 36) F dX9_isWord_36 ?_
        refine aw_getR (pc := 37) F dX9_isWord_37 fl_9_19 rfl (by first | decide | (simp only [inB, cnt, rcnt]; omega)) rfl nz5 rfl ?_
        refine aw_aload0 (pc := 40) F dX9_isWord_40 ?_
        refine aw_getI (pc := 41) F dX9_isWord_41 fl_9_85 rfl (by first | decide | (simp only [inB, cnt, rcnt]; omega)) rfl nz10 ?_
        refine aw_iload2 (pc := 44) F dX9_isWord_44 ?_
        refine aw_iadd (pc := 45) F dX9_isWord_45 ?_
        refine aw_iald (pc := 46) F dX9_isWord_46 rfl (by first | decide | (simp only [inB, cnt, rcnt]; omega)) (by rw [t1]; omega) ?_
        refine aw_aload1 (pc := 47) F dX9_isWord_47 ?_
        refine aw_iload2 (pc := 48) F dX9_isWord_48 ?_
        refine aw_tcall1 F hj dX9_isWord_49 ml_9_108 (ctJ_charAt _ _ j k hj (by omega)) (Nat.le_of_ble_eq_true rfl) (by decide) (Nat.zero_le _) ?_
        refine aw_icmp_eq (tgt := 57) (pc := 52) F dX9_isWord_52 (by decide) (by first | (rw [m1, t1]; unfold inR; omega) | (unfold inR; omega)) (by first | (rw [m1, t1]; unfold inR; omega) | (unfold inR; omega)) (fun c52 => ?_) (fun c52 => ?_)
        · refine aw_iinc2 (pc := 57) F dX9_isWord_57 rfl hk.symm ?_
          refine aw_goto (tgt := 28) (pc := 60) F dX9_isWord_60 (by decide) ?_
          exact ih (k + 1) (by omega) (fun x x0 x1 => by
            by_cases z : x = k
            · rw [z, ← c52, m1, t1]
            · exact ha x x0 (by omega))
        · refine aw_iconst (pc := 55) F dX9_isWord_55 ?_
          rw [hQ]
          exact aw_iret (pc := 56) F dX9_isWord_56 (nar_bool (by first | exact b2i_01 | decide)) (Nat.zero_le _) ⟨(wdI_0 (fun z => c52 (by rw [m1, t1]; exact z.2.2 k (by omega) (by omega)))).symm, rfl⟩
  refine aw_aload0 (pc := 0) F dX9_isWord_0 ?_
  refine aw_getI (pc := 1) F dX9_isWord_1 fl_9_88 rfl (by first | decide | (simp only [inB, cnt, rcnt]; omega)) rfl nz12 ?_
  refine aw_iconst (pc := 4) F dX9_isWord_4 ?_
  refine aw_icmp_ne (tgt := 24) (pc := 5) F dX9_isWord_5 (by decide) (by first | assumption | (rw [t1, t2]; unfold inR; omega) | (unfold inR; omega)) (by first | assumption | (rw [t1, t2]; unfold inR; omega) | (unfold inR; omega)) (fun c5 => ?_) (fun c5 => ?_)
  · refine aw_iconst (pc := 24) F dX9_isWord_24 ?_
    exact aw_iret (pc := 25) F dX9_isWord_25 (nar_bool (by first | exact b2i_01 | decide)) (Nat.zero_le _) ⟨(wdI_0 (fun z => by have := z.1; have := z.2.1; omega)).symm, rfl⟩
  · refine aw_aload0 (pc := 8) F dX9_isWord_8 ?_
    refine aw_getI (pc := 9) F dX9_isWord_9 fl_9_74 rfl (by first | decide | (simp only [inB, cnt, rcnt]; omega)) rfl nz11 ?_
    refine aw_aload0 (pc := 12) F dX9_isWord_12 ?_
    refine aw_getI (pc := 13) F dX9_isWord_13 fl_9_85 rfl (by first | decide | (simp only [inB, cnt, rcnt]; omega)) rfl nz10 ?_
    refine aw_isub (pc := 16) F dX9_isWord_16 ?_
    refine aw_aload1 (pc := 17) F dX9_isWord_17 ?_
    refine aw_tcall0 F hj dX9_isWord_18 ml_9_103 (ctJ_length _ _ j hj) (Nat.le_of_ble_eq_true rfl) (by decide) (Nat.zero_le _) ?_
    refine aw_icmp_eq (tgt := 26) (pc := 21) F dX9_isWord_21 (by decide) (by first | assumption | (rw [t1, t2]; unfold inR; omega) | (unfold inR; omega)) (by first | assumption | (rw [t1, t2]; unfold inR; omega) | (unfold inR; omega)) (fun c21 => ?_) (fun c21 => ?_)
    · refine aw_iconst (pc := 26) F dX9_isWord_26 ?_
      refine aw_istore2 (pc := 27) F dX9_isWord_27 rfl hk.symm ?_
      rw [← hQ]
      exact loop (by omega) (by omega) (wLenI j).toNat 0 (by omega) (fun x x0 x1 => absurd x1 (by omega))
    · refine aw_iconst (pc := 24) F dX9_isWord_24 ?_
      exact aw_iret (pc := 25) F dX9_isWord_25 (nar_bool (by first | exact b2i_01 | decide)) (Nat.zero_le _) ⟨(wdI_0 (fun z => by have := z.1; have := z.2.1; omega)).symm, rfl⟩
theorem rr_01 {B : Int → Int} {n : Int} {M : Id4 → Int → Int} {b : Bool} {r : PR} {v : Int} {σ' : Hp} (h : RRx B n M b r v σ') : v = 0 ∨ v = 1 := (rr_cases h).imp (fun z => z.1) (fun z => z.1)
theorem ct9_periodStatement (M : Id4 → Int → Int) (b : Bool) (B S : Int → Int) (n i : Int) (hx : TX B n i) (hM : RSx B n S i M) : CtI 6 0 yX9_periodStatement cX9_periodStatement 1 (some .boolean) [aR (9, 0, 0, 0)] (M, R0 b) (RRx B n M b (perP B n S i)) := by
  refine CtI.mk (by decide +kernel) rfl (Nat.le_of_ble_eq_true rfl) (fun X K F hk => ?_)
  obtain ⟨m1, m2, m3, t1, t2, t3, t4⟩ := id hM
  have tb := hM.2.2.2.bd
  have xn := hx.nx
  refine aw_aload0 (pc := 0) F dX9_periodStatement_0 ?_
  refine aw_ldcS F (tx := "period") (i := 0) dX9_periodStatement_1 (by decide +kernel) ?_
  refine aw_pcallV1 (pc := 3) F dX9_periodStatement_3 ml_9_140 rfl (by first | decide | (simp only [inB, cnt, rcnt]; omega)) (ct9_isWord _ _ B S n i 0 (by decide) hx hM) (Nat.le_of_ble_eq_true rfl) (by decide) (Nat.zero_le _) ?_
  refine aw_if_ne (tgt := 15) (pc := 6) F dX9_periodStatement_6 (by decide) (by rcases wdI_01 (B := B) (n := n) (i := i) (w := ((0 : Nat) : Int)) with z | z <;> rw [z] <;> (unfold inR; decide)) (fun c6 => ?_) (fun c6 => ?_)
  · refine aw_aload0 (pc := 15) F dX9_periodStatement_15 ?_
    refine aw_callVI0 (pc := 16) F dX9_periodStatement_16 ml_9_125 rfl (by first | decide | (simp only [inB, cnt, rcnt]; omega)) (ct9_advance _ _ B n (nxT B n i) m1 hx.1 m2 hx.2.1 t2 ⟨xn.2.2.1, xn.2.2.2⟩) (Nat.le_of_ble_eq_true rfl) (by decide) (Nat.zero_le _) (fun v9 σ9 h9_16 => ?_)
    obtain ⟨rfl, M2, rfl, c1, c2⟩ := h9_16
    refine aw_popI (pc := 19) F dX9_periodStatement_19 ?_
    refine aw_aload0 (pc := 20) F dX9_periodStatement_20 ?_
    refine aw_iconst (pc := 21) F dX9_periodStatement_21 ?_
    refine aw_iconst (pc := 22) F dX9_periodStatement_22 ?_
    refine aw_bipush (pc := 23) F dX9_periodStatement_23 (by decide) ?_
    refine aw_callVI3 (pc := 25) F dX9_periodStatement_25 ml_9_144 rfl (by first | decide | (simp only [inB, cnt, rcnt]; omega)) (ct9_number _ _ B S n _ 0 2 24 xn (rs_adv m1 m2 m3 c1 c2) (by decide) (by unfold inR; decide) (by unfold inR; decide)) (Nat.le_of_ble_eq_true rfl) (by decide) (Nat.zero_le _) (fun v9 σ9 h9 => ?_)
    exact aw_iret (pc := 28) F dX9_periodStatement_28 (nar_bool (rr_01 h9)) (Nat.zero_le _) (by
      rw [show perP B n S i = numP B n 0 2 24 S (nxT B n i) from if_neg c6]
      obtain ⟨M3, h1, h2, h3⟩ := h9
      exact ⟨M3, h1, c1.f.tr h2, h3.imp (fun z => ⟨z.1, z.2.1, z.2.2.1, z.2.2.2.1, z.2.2.2.2.1.trans (c1 _ _ (by decide)), z.2.2.2.2.2.trans (c1 _ _ (by decide))⟩) id⟩)
  · refine aw_aload0 (pc := 9) F dX9_periodStatement_9 ?_
    refine aw_iconst (pc := 10) F dX9_periodStatement_10 ?_
    refine aw_callVI1 (pc := 11) F dX9_periodStatement_11 ml_9_118 rfl (by first | decide | (simp only [inB, cnt, rcnt]; omega)) (ct9_fail _ _ _ tb) (Nat.le_of_ble_eq_true rfl) (by decide) (Nat.zero_le _) (fun v9 σ9 h9_11 => ?_)
    obtain ⟨rfl, rfl⟩ := h9_11
    exact aw_iret (pc := 14) F dX9_periodStatement_14 (nar_bool (by first | exact b2i_01 | decide)) (Nat.zero_le _) (by rw [show perP B n S i = badP B n i 2 from if_pos c6]; exact rr_bad (by decide) chF.rf hM)
theorem ct9_statement (M : Id4 → Int → Int) (b : Bool) (B S : Int → Int) (n i : Int) (hx : TX B n i) (hM : RSx B n S i M) (hO : Ok S) (hN : NB S) : CtI 6 0 yX9_statement cX9_statement 1 (some .boolean) [aR (9, 0, 0, 0)] (M, R0 b) (RRx B n M b (stP1 B n S i)) := by
  refine CtI.mk (by decide +kernel) rfl (Nat.le_of_ble_eq_true rfl) (fun X K F hk => ?_)
  have tb := hM.2.2.2.bd
  refine aw_aload0 (pc := 0) F dX9_statement_0 ?_
  refine aw_ldcS F (tx := "event") (i := 1) dX9_statement_1 (by decide +kernel) ?_
  refine aw_pcallV1 (pc := 3) F dX9_statement_3 ml_9_140 rfl (by first | decide | (simp only [inB, cnt, rcnt]; omega)) (ct9_isWord _ _ B S n i 1 (by decide) hx hM) (Nat.le_of_ble_eq_true rfl) (by decide) (Nat.zero_le _) ?_
  refine aw_if_eq (tgt := 14) (pc := 6) F dX9_statement_6 (by decide) (by rcases wdI_01 (B := B) (n := n) (i := i) (w := ((1 : Nat) : Int)) with z | z <;> rw [z] <;> (unfold inR; decide)) (fun c6 => ?_) (fun c6 => ?_)
  · refine aw_aload0 (pc := 14) F dX9_statement_14 ?_
    refine aw_ldcS F (tx := "span") (i := 2) dX9_statement_15 (by decide +kernel) ?_
    refine aw_pcallV1 (pc := 17) F dX9_statement_17 ml_9_140 rfl (by first | decide | (simp only [inB, cnt, rcnt]; omega)) (ct9_isWord _ _ B S n i 2 (by decide) hx hM) (Nat.le_of_ble_eq_true rfl) (by decide) (Nat.zero_le _) ?_
    refine aw_if_eq (tgt := 30) (pc := 20) F dX9_statement_20 (by decide) (by rcases wdI_01 (B := B) (n := n) (i := i) (w := ((2 : Nat) : Int)) with z | z <;> rw [z] <;> (unfold inR; decide)) (fun c20 => ?_) (fun c20 => ?_)
    · refine aw_aload0 (pc := 30) F dX9_statement_30 ?_
      refine aw_iconst (pc := 31) F dX9_statement_31 ?_
      refine aw_callVI1 (pc := 32) F dX9_statement_32 ml_9_118 rfl (by first | decide | (simp only [inB, cnt, rcnt]; omega)) (ct9_fail _ _ _ tb) (Nat.le_of_ble_eq_true rfl) (by decide) (Nat.zero_le _) (fun v9 σ9 h9_32 => ?_)
      obtain ⟨rfl, rfl⟩ := h9_32
      exact aw_iret (pc := 35) F dX9_statement_35 (by first | exact nar_bool (rr_01 h9) | exact nar_bool (Or.inl rfl)) (Nat.zero_le _) (by first | (rw [show stP1 B n S i = badP B n i 2 from (if_neg (fun z => z c6)).trans (if_neg (fun z => z c20))]; exact rr_bad (by decide) chF.rf hM) | (rw [show stP1 B n S i = spP B n S i from (if_neg (fun z => z c6)).trans (if_pos c20)]; exact h9))
    · refine aw_aload0 (pc := 23) F dX9_statement_23 ?_
      refine aw_callVI0 (pc := 24) F dX9_statement_24 ml_9_164 rfl (by first | decide | (simp only [inB, cnt, rcnt]; omega)) (ct9_spanStatement _ _ B S n i hx hM hO hN) (Nat.le_of_ble_eq_true rfl) (by decide) (Nat.zero_le _) (fun v9 σ9 h9 => ?_)
      refine aw_goto (tgt := 35) (pc := 27) F dX9_statement_27 (by decide) ?_
      exact aw_iret (pc := 35) F dX9_statement_35 (by first | exact nar_bool (rr_01 h9) | exact nar_bool (Or.inl rfl)) (Nat.zero_le _) (by first | (rw [show stP1 B n S i = badP B n i 2 from (if_neg (fun z => z c6)).trans (if_neg (fun z => z c20))]; exact rr_bad (by decide) chF.rf hM) | (rw [show stP1 B n S i = spP B n S i from (if_neg (fun z => z c6)).trans (if_pos c20)]; exact h9))
  · refine aw_aload0 (pc := 9) F dX9_statement_9 ?_
    refine aw_callVI0 (pc := 10) F dX9_statement_10 ml_9_159 rfl (by first | decide | (simp only [inB, cnt, rcnt]; omega)) (ct9_eventStatement _ _ B S n i hx hM hO hN) (Nat.le_of_ble_eq_true rfl) (by decide) (Nat.zero_le _) (fun v9 σ9 h9 => ?_)
    exact aw_iret (pc := 13) F dX9_statement_13 (nar_bool (rr_01 h9)) (Nat.zero_le _) (by rw [show stP1 B n S i = evP B n S i from if_pos c6]; exact h9)
