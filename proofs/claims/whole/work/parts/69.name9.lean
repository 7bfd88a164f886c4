/-! 69: the reference's names -/
/-- letters from a to b -/
def LT (B : Int → Int) (a b : Int) : Prop := ∀ k, a ≤ k → k < b → 97 ≤ B k ∧ B k ≤ 122
theorem cdN_bd {B : Int → Int} {a b : Int} (h : LT B a b) : ∀ n : Nat, a + n ≤ b → n ≤ 4 → 0 ≤ cdN B a n ∧ (n = 0 → cdN B a n = 0) ∧ (n = 1 → cdN B a n ≤ 26) ∧ (n = 2 → cdN B a n ≤ 728) ∧ (n = 3 → cdN B a n ≤ 19682) ∧ (n = 4 → cdN B a n ≤ 531440)
  | 0, _, _ => by unfold cdN; omega
  | n + 1, hn, h4 => by
    have ih := cdN_bd h n (by omega) (by omega)
    have := h (a + n) (by omega) (by omega)
    unfold cdN
    omega
theorem cdI_bd {B : Int → Int} {a b : Int} (h : LT B a b) (h4 : b - a ≤ 4) : 0 ≤ cdI B a b ∧ cdI B a b ≤ 531440 := by
  by_cases z : a ≤ b
  · have := cdN_bd h (b - a).toNat (by omega) (by omega)
    unfold cdI
    omega
  · unfold cdI
    rw [show (b - a).toNat = 0 by omega]
    unfold cdN
    omega
theorem ct9_codeOf (M : Id4 → Int → Int) (b9 : Bool) (B : Int → Int) (a b : Int) (hB : M (9, 0, 6, 0) = B) (hl : LT B a b) (h1 : 0 ≤ a ∧ a ≤ b) (h2 : b ≤ 500) (h4 : b - a ≤ 4) : CtI 1 0 yX9_codeOf cX9_codeOf 5 (some .int) [aR (9, 0, 0, 0), aI a, aI b] (M, R0 b9) (PU (M, R0 b9) (cdI B a b)) := by
  refine CtI.mk (by decide +kernel) rfl (Nat.le_of_ble_eq_true rfl) (fun X K F hk => ?_)
  obtain ⟨Q9, hQ⟩ : ∃ Q9, Q9 = EI X K 0 (PU (M, R0 b9) (cdI B a b)) := ⟨_, rfl⟩
  have key : ∀ (j i : Nat), a + i + j = b → AW X K 5 [aR (9, 0, 0, 0), aI a, aI b, aI (cdN B a i), aI (a + i)] [] (M, R0 b9) 0 Q9 := by
    intro j
    induction j with
    | zero =>
      intro i hi
      refine aw_iload4 (pc := 5) F dX9_codeOf_5 ?_
      refine aw_iload2 (pc := 7) F dX9_codeOf_7 ?_
      refine aw_icmp_ge (tgt := 35) (pc := 8) F dX9_codeOf_8 (by decide) (by unfold inR; omega) (by unfold inR; omega) (fun c8 => ?_) (fun c8 => ?_)
      · refine aw_iload3 (pc := 35) F dX9_codeOf_35 ?_
        rw [hQ]
        exact aw_iret (pc := 36) F dX9_codeOf_36 rfl (Nat.zero_le _) ⟨by unfold cdI; rw [show (b - a).toNat = i by omega], rfl⟩
      · omega
    | succ j ih =>
      intro i hi
      have ci := cdN_bd hl i (by omega) (by omega)
      have bi := hl (a + i) (by omega) (by omega)
      refine aw_iload4 (pc := 5) F dX9_codeOf_5 ?_
      refine aw_iload2 (pc := 7) F dX9_codeOf_7 ?_
      refine aw_icmp_ge (tgt := 35) (pc := 8) F dX9_codeOf_8 (by decide) (by unfold inR; omega) (by unfold inR; omega) (fun c8 => ?_) (fun c8 => ?_)
      · omega
      · refine aw_bipush (pc := 11) F dX9_codeOf_11 (by decide) ?_
        refine aw_iload3 (pc := 13) F dX9_codeOf_13 ?_
        refine aw_imul (pc := 14) F dX9_codeOf_14 ?_
        refine aw_aload0 (pc := 15) F dX9_codeOf_15 ?_
        refine aw_getR (pc := 16) F dX9_codeOf_16 fl_9_19 rfl (by first | decide | (simp only [inB, cnt, rcnt]; omega)) rfl nz5 rfl ?_
        refine aw_iload4 (pc := 19) F dX9_codeOf_19 ?_
        refine aw_iald (pc := 21) F dX9_codeOf_21 rfl (by first | decide | (simp only [inB, cnt, rcnt]; omega)) (by omega) ?_
        rw [hB]
        refine aw_iadd (pc := 22) F dX9_codeOf_22 ?_
        refine aw_bipush (pc := 23) F dX9_codeOf_23 (by decide) ?_
        refine aw_isub (pc := 25) F dX9_codeOf_25 ?_
        refine aw_iconst (pc := 26) F dX9_codeOf_26 ?_
        refine aw_iadd (pc := 27) F dX9_codeOf_27 ?_
        refine aw_istore3 (pc := 28) F dX9_codeOf_28 rfl hk.symm ?_
        refine aw_iinc4 (pc := 29) F dX9_codeOf_29 rfl hk.symm ?_
        refine aw_goto (tgt := 5) (pc := 32) F dX9_codeOf_32 (by decide) ?_
        have g := ih (i + 1) (by omega)
        rw [show a + ((i + 1 : Nat) : Int) = a + i + 1 by omega] at g
        exact g
  refine aw_iconst (pc := 0) F dX9_codeOf_0 ?_
  refine aw_istore3 (pc := 1) F dX9_codeOf_1 rfl hk.symm ?_
  refine aw_iload1 (pc := 2) F dX9_codeOf_2 ?_
  refine aw_istore4 (pc := 3) F dX9_codeOf_3 rfl hk.symm ?_
  rw [← hQ]
  have g := key (b - a).toNat 0 (by omega)
  rw [show a + ((0 : Nat) : Int) = a by omega] at g
  exact g
/-- the names' codes are small -/
def NB (S : Int → Int) : Prop := ∀ j, 2 ≤ j → j < 14 → 0 ≤ S j ∧ S j ≤ 531440
theorem ct9_eventNamed (M : Id4 → Int → Int) (b9 : Bool) (B S : Int → Int) (a b : Int) (hB : M (9, 0, 6, 0) = B) (hS : M (9, 0, 1, 0) = S) (hO : 0 ≤ S 1 ∧ S 1 ≤ 6) (hN : NB S) (hl : LT B a b) (h1 : 0 ≤ a ∧ a ≤ b) (h2 : b ≤ 500) (h4 : b - a ≤ 8) : CtI 3 0 yX9_eventNamed cX9_eventNamed 5 (some .int) [aR (9, 0, 0, 0), aI a, aI b] (M, R0 b9) (PU (M, R0 b9) (nmD B S a b)) := by
  refine CtI.mk (by decide +kernel) rfl (Nat.le_of_ble_eq_true rfl) (fun X K F hk => ?_)
  have s1 : M (9, 0, 1, 0) 1 = S 1 := congrFun hS 1
  obtain ⟨Q9, hQ⟩ : ∃ Q9, Q9 = EI X K 0 (PU (M, R0 b9) (nmD B S a b)) := ⟨_, rfl⟩
  have l1 : LT B a (min b (a + 4)) := fun k k0 k1 => hl k k0 (by omega)
  have l2 : LT B (min b (a + 4)) b := fun k k0 k1 => hl k (by omega) k1
  have b1 := cdI_bd l1 (by omega)
  have b2 := cdI_bd l2 (by omega)
  have key : ∀ (f : Nat) (e : Int), 0 ≤ e → e + f = S 1 → nmD B S a b = nmF B S a b f e → AW X K 11 [aR (9, 0, 0, 0), aI a, aI b, aI (min b (a + 4)), aI e] [] (M, R0 b9) 0 Q9 := by
    intro f
    induction f with
    | zero =>
      intro e e0 he hd
      refine aw_iload4 (pc := 11) F dX9_eventNamed_11 ?_
      refine aw_aload0 (pc := 13) F dX9_eventNamed_13 ?_
      refine aw_getR (pc := 14) F dX9_eventNamed_14 fl_9_7 rfl (by first | decide | (simp only [inB, cnt, rcnt]; omega)) rfl nz0 rfl ?_
      refine aw_iconst (pc := 17) F dX9_eventNamed_17 ?_
      refine aw_iald (pc := 18) F dX9_eventNamed_18 rfl (by first | decide | (simp only [inB, cnt, rcnt]; omega)) (by omega) ?_
      refine aw_icmp_ge (tgt := 73) (pc := 19) F dX9_eventNamed_19 (by decide) (by unfold inR; omega) (by unfold inR; omega) (fun c19 => ?_) (fun c19 => ?_)
      · refine aw_iconst (pc := 73) F dX9_eventNamed_73 ?_
        rw [hQ]
        exact aw_iret (pc := 74) F dX9_eventNamed_74 rfl (Nat.zero_le _) ⟨by rw [hd]; rfl, rfl⟩
      · omega
    | succ f ih =>
      intro e e0 he hd
      have n1 := hN (2 + 2 * e) (by omega) (by omega)
      have n2 := hN (2 + 2 * e + 1) (by omega) (by omega)
      have m1 : M (9, 0, 1, 0) (2 + 2 * e) = S (2 + 2 * e) := congrFun hS _
      have m2 : M (9, 0, 1, 0) (2 + 2 * e + 1) = S (2 + 2 * e + 1) := congrFun hS _
      have st : nmF B S a b (f + 1) e = @ite Int (nmE B S a b e) (Classical.propDecidable _) e (nmF B S a b f (e + 1)) := rfl
      refine aw_iload4 (pc := 11) F dX9_eventNamed_11 ?_
      refine aw_aload0 (pc := 13) F dX9_eventNamed_13 ?_
      refine aw_getR (pc := 14) F dX9_eventNamed_14 fl_9_7 rfl (by first | decide | (simp only [inB, cnt, rcnt]; omega)) rfl nz0 rfl ?_
      refine aw_iconst (pc := 17) F dX9_eventNamed_17 ?_
      refine aw_iald (pc := 18) F dX9_eventNamed_18 rfl (by first | decide | (simp only [inB, cnt, rcnt]; omega)) (by omega) ?_
      refine aw_icmp_ge (tgt := 73) (pc := 19) F dX9_eventNamed_19 (by decide) (by unfold inR; omega) (by unfold inR; omega) (fun c19 => ?_) (fun c19 => ?_)
      · omega
      · refine aw_aload0 (pc := 22) F dX9_eventNamed_22 ?_
        refine aw_getR (pc := 23) F dX9_eventNamed_23 fl_9_7 rfl (by first | decide | (simp only [inB, cnt, rcnt]; omega)) rfl nz0 rfl ?_
        refine aw_iconst (pc := 26) F dX9_eventNamed_26 ?_
        refine aw_iconst (pc := 27) F dX9_eventNamed_27 ?_
        refine aw_iload4 (pc := 28) F dX9_eventNamed_28 ?_
        refine aw_imul (pc := 30) F dX9_eventNamed_30 ?_
        refine aw_iadd (pc := 31) F dX9_eventNamed_31 ?_
        refine aw_iald (pc := 32) F dX9_eventNamed_32 rfl (by first | decide | (simp only [inB, cnt, rcnt]; omega)) (by omega) ?_
        refine aw_aload0 (pc := 33) F dX9_eventNamed_33 ?_
        refine aw_iload1 (pc := 34) F dX9_eventNamed_34 ?_
        refine aw_iload3 (pc := 35) F dX9_eventNamed_35 ?_
        refine aw_pcallV2 (pc := 36) F dX9_eventNamed_36 ml_9_135 rfl (by first | decide | (simp only [inB, cnt, rcnt]; omega)) (ct9_codeOf _ _ B a (min b (a + 4)) hB l1 (by omega) (by omega) (by omega)) (Nat.le_of_ble_eq_true rfl) (by decide) (Nat.zero_le _) ?_
        refine aw_icmp_ne (tgt := 67) (pc := 39) F dX9_eventNamed_39 (by decide) (by unfold inR; omega) (by unfold inR; omega) (fun c39 => ?_) (fun c39 => ?_)
        · refine aw_iinc4 (pc := 67) F dX9_eventNamed_67 rfl hk.symm ?_
          refine aw_goto (tgt := 11) (pc := 70) F dX9_eventNamed_70 (by decide) ?_
          exact ih (e + 1) (by omega) (by omega) (by rw [hd, st, if_neg (fun z => by have z1 := z.1; have z2 := z.2; omega)])
        · refine aw_aload0 (pc := 42) F dX9_eventNamed_42 ?_
          refine aw_getR (pc := 43) F dX9_eventNamed_43 fl_9_7 rfl (by first | decide | (simp only [inB, cnt, rcnt]; omega)) rfl nz0 rfl ?_
          refine aw_iconst (pc := 46) F dX9_eventNamed_46 ?_
          refine aw_iconst (pc := 47) F dX9_eventNamed_47 ?_
          refine aw_iload4 (pc := 48) F dX9_eventNamed_48 ?_
          refine aw_imul (pc := 50) F dX9_eventNamed_50 ?_
          refine aw_iadd (pc := 51) F dX9_eventNamed_51 ?_
          refine aw_iconst (pc := 52) F dX9_eventNamed_52 ?_
          refine aw_iadd (pc := 53) F dX9_eventNamed_53 ?_
          refine aw_iald (pc := 54) F dX9_eventNamed_54 rfl (by first | decide | (simp only [inB, cnt, rcnt]; omega)) (by omega) ?_
          refine aw_aload0 (pc := 55) F dX9_eventNamed_55 ?_
          refine aw_iload3 (pc := 56) F dX9_eventNamed_56 ?_
          refine aw_iload2 (pc := 57) F dX9_eventNamed_57 ?_
          refine aw_pcallV2 (pc := 58) F dX9_eventNamed_58 ml_9_135 rfl (by first | decide | (simp only [inB, cnt, rcnt]; omega)) (ct9_codeOf _ _ B (min b (a + 4)) b hB l2 (by omega) (by omega) (by omega)) (Nat.le_of_ble_eq_true rfl) (by decide) (Nat.zero_le _) ?_
          refine aw_icmp_ne (tgt := 67) (pc := 61) F dX9_eventNamed_61 (by decide) (by unfold inR; omega) (by unfold inR; omega) (fun c61 => ?_) (fun c61 => ?_)
          · refine aw_iinc4 (pc := 67) F dX9_eventNamed_67 rfl hk.symm ?_
            refine aw_goto (tgt := 11) (pc := 70) F dX9_eventNamed_70 (by decide) ?_
            exact ih (e + 1) (by omega) (by omega) (by rw [hd, st, if_neg (fun z => by have z1 := z.1; have z2 := z.2; omega)])
          · refine aw_iload4 (pc := 64) F dX9_eventNamed_64 ?_
            rw [hQ]
            exact aw_iret (pc := 66) F dX9_eventNamed_66 rfl (Nat.zero_le _) ⟨by rw [hd, st, if_pos ⟨by omega, by omega⟩], rfl⟩
  refine aw_iload2 (pc := 0) F dX9_eventNamed_0 ?_
  refine aw_iload1 (pc := 1) F dX9_eventNamed_1 ?_
  refine aw_iconst (pc := 2) F dX9_eventNamed_2 ?_
  refine aw_iadd (pc := 3) F dX9_eventNamed_3 ?_
  refine aw_pcallS2 (pc := 4) F dX9_eventNamed_4 ml_9_129 (ctJ_min _ _ _ _ (by unfold inR; omega) (by unfold inR; omega)) (Nat.le_of_ble_eq_true rfl) (by decide) (Nat.zero_le _) ?_
  refine aw_istore3 (pc := 7) F dX9_eventNamed_7 rfl hk.symm ?_
  refine aw_iconst (pc := 8) F dX9_eventNamed_8 ?_
  refine aw_istore4 (pc := 9) F dX9_eventNamed_9 rfl hk.symm ?_
  rw [← hQ]
  exact key (S 1).toNat 0 (by omega) (by omega) rfl
theorem kd2_lt {B : Int → Int} {n i : Int} (hx : TX B n i) (hk : kdT B n i = 2) : LT B (stT B n i) (nxT B n i) ∧ stT B n i < nxT B n i ∧ nxT B n i - stT B n i ≤ 8 := by
  obtain ⟨hy, hn, h0, h1⟩ := hx
  have sb := stT_bd (B := B) h1
  have hk' : tkS B n (stT B n i) = 2 := hk
  by_cases z : n ≤ stT B n i
  · rw [(tk_e z).2] at hk'; exact absurd hk' (by decide)
  · by_cases y : isLt (B (stT B n i)) = true
    · have g := tk_w (B := B) (n := n) (s := stT B n i) ⟨by omega, y⟩
      have g2 := tnS_gt (B := B) (n := n) (s := stT B n i) (by omega)
      rw [g.2] at hk'
      have w : ¬ 8 < rn isLt B n (stT B n i) - stT B n i := fun w => by rw [if_pos w] at hk'; exact absurd hk' (by decide)
      have e : nxT B n i = rn isLt B n (stT B n i) := g.1
      rw [e]
      rw [g.1] at g2
      exact ⟨fun k k0 k1 => isLt_iff.mp ((rn_at (p := isLt) (B := B) (n := n) (i := stT B n i)).2.1 k k0 k1).2, g2, by omega⟩
    · by_cases x : isDg (B (stT B n i)) = true
      · rw [(tk_d (n := n) ⟨by omega, y, x⟩).2] at hk'
        split at hk' <;> omega
      · rw [(tk_p (n := n) ⟨by omega, y, x⟩).2] at hk'
        split at hk' <;> omega
theorem ct9_eventInto (M : Id4 → Int → Int) (b : Bool) (B S : Int → Int) (n i idx but : Int) (hx : TX B n i) (hM : RSx B n S i M) (hO : 0 ≤ S 1 ∧ S 1 ≤ 6) (hN : NB S) (h1 : 0 ≤ idx ∧ idx < 91) (h2 : inR but) : CtI 4 0 yX9_eventInto cX9_eventInto 4 (some .boolean) [aR (9, 0, 0, 0), aI idx, aI but] (M, R0 b) (RRx B n M b (evIn B n idx but S i)) := by
  refine CtI.mk (by decide +kernel) rfl (Nat.le_of_ble_eq_true rfl) (fun X K F hk => ?_)
  obtain ⟨m1, m2, m3, t1, t2, t3, t4⟩ := id hM
  have tb := hM.2.2.2.bd
  have xn := hx.nx
  have nb := nmD_bd (B := B) (S := S) (a := stT B n i) (b := nxT B n i)
  have sb := stT_bd (B := B) hx.2.2.2
  refine aw_aload0 (pc := 0) F dX9_eventInto_0 ?_
  refine aw_getI (pc := 1) F dX9_eventInto_1 fl_9_88 rfl (by first | decide | (simp only [inB, cnt, rcnt]; omega)) rfl nz12 ?_
  refine aw_iconst (pc := 4) F dX9_eventInto_4 ?_
  refine aw_icmp_eq (tgt := 14) (pc := 5) F dX9_eventInto_5 (by decide) (by first | assumption | (unfold inR; omega)) (by first | assumption | (unfold inR; omega)) (fun c5 => ?_) (fun c5 => ?_)
  · have k3 : kdT B n i = 2 := by omega
    have lt := kd2_lt hx k3
    refine aw_aload0 (pc := 14) F dX9_eventInto_14 ?_
    refine aw_aload0 (pc := 15) F dX9_eventInto_15 ?_
    refine aw_getI (pc := 16) F dX9_eventInto_16 fl_9_85 rfl (by first | decide | (simp only [inB, cnt, rcnt]; omega)) rfl nz10 ?_
    refine aw_aload0 (pc := 19) F dX9_eventInto_19 ?_
    refine aw_getI (pc := 20) F dX9_eventInto_20 fl_9_74 rfl (by first | decide | (simp only [inB, cnt, rcnt]; omega)) rfl nz11 ?_
    rw [t1, t2]
    refine aw_pcallV2 (pc := 23) F dX9_eventInto_23 ml_9_147 rfl (by first | decide | (simp only [inB, cnt, rcnt]; omega)) (ct9_eventNamed _ _ B S _ _ m1 m3 hO hN lt.1 ⟨by have := hx.2.2.1; omega, by omega⟩ (by have := xn.2.2.2; have := hx.2.1; omega) lt.2.2) (Nat.le_of_ble_eq_true rfl) (by decide) (Nat.zero_le _) ?_
    refine aw_istore3 (pc := 26) F dX9_eventInto_26 rfl hk.symm ?_
    refine aw_iload3 (pc := 27) F dX9_eventInto_27 ?_
    refine aw_iconst (pc := 28) F dX9_eventInto_28 ?_
    refine aw_icmp_eq (tgt := 37) (pc := 29) F dX9_eventInto_29 (by decide) (by first | assumption | (unfold inR; omega)) (by first | assumption | (unfold inR; omega)) (fun c29 => ?_) (fun c29 => ?_)
    · refine aw_aload0 (pc := 37) F dX9_eventInto_37 ?_
      refine aw_iconst (pc := 38) F dX9_eventInto_38 ?_
      refine aw_callVI1 (pc := 39) F dX9_eventInto_39 ml_9_118 rfl (by first | decide | (simp only [inB, cnt, rcnt]; omega)) (ct9_fail _ _ _ tb) (Nat.le_of_ble_eq_true rfl) (by decide) (Nat.zero_le _) (fun v9 σ9 h9_39 => ?_)
      obtain ⟨rfl, rfl⟩ := h9_39
      exact aw_iret (pc := 42) F dX9_eventInto_42 (nar_bool (by first | exact b2i_01 | decide)) (Nat.zero_le _) (by
        rw [show evIn B n idx but S i = badP B n i 4 from (if_neg (fun z => z k3)).trans (if_pos (by omega))]
        exact rr_bad (by decide) chF.rf hM)
    · refine aw_iload3 (pc := 32) F dX9_eventInto_32 ?_
      refine aw_iload2 (pc := 33) F dX9_eventInto_33 ?_
      refine aw_icmp_ne (tgt := 43) (pc := 34) F dX9_eventInto_34 (by decide) (by first | assumption | (unfold inR; omega)) (by first | assumption | (unfold inR; omega)) (fun c34 => ?_) (fun c34 => ?_)
      · refine aw_aload0 (pc := 43) F dX9_eventInto_43 ?_
        refine aw_getR (pc := 44) F dX9_eventInto_44 fl_9_7 rfl (by first | decide | (simp only [inB, cnt, rcnt]; omega)) rfl nz0 rfl ?_
        refine aw_iload1 (pc := 47) F dX9_eventInto_47 ?_
        refine aw_iload3 (pc := 48) F dX9_eventInto_48 ?_
        refine aw_iast (pc := 49) F dX9_eventInto_49 rfl (by first | decide | (simp only [inB, cnt, rcnt]; omega)) (by omega) ?_
        refine aw_aload0 (pc := 50) F dX9_eventInto_50 ?_
        refine aw_callVI0 (pc := 51) F dX9_eventInto_51 ml_9_125 rfl (by first | decide | (simp only [inB, cnt, rcnt]; omega)) (ct9_advance _ _ B n (nxT B n i) (by rw [upd_off (by decide)]; exact m1) hx.1 (by rw [upd_off (by decide)]; exact m2) hx.2.1 (by rw [upd_off (by decide)]; exact t2) ⟨xn.2.2.1, xn.2.2.2⟩) (Nat.le_of_ble_eq_true rfl) (by decide) (Nat.zero_le _) (fun v9 σ9 h9_51 => ?_)
        obtain ⟨rfl, M2, rfl, c1, c2⟩ := h9_51
        exact aw_iret (pc := 54) F dX9_eventInto_54 (nar_bool (by first | exact b2i_01 | decide)) (Nat.zero_le _) (by
          rw [show evIn B n idx but S i = goodP (upS S idx (nmD B S (stT B n i) (nxT B n i))) (nxT B n i) from (if_neg (fun z => z k3)).trans (if_neg (by omega))]
          refine ⟨M2, rfl, chF.rf.st.tr c1.f, Or.inl ⟨rfl, rfl, rs_adv ?_ ?_ ?_ c1 c2, xn, ?_, ?_⟩⟩
          · rw [upd_off (by decide)]; exact m1
          · rw [upd_off (by decide)]; exact m2
          · rw [upd_row, m3]; rfl
          · rw [c1 _ _ (by decide), upd_off (by decide)]
          · rw [c1 _ _ (by decide), upd_off (by decide)])
      · refine aw_aload0 (pc := 37) F dX9_eventInto_37 ?_
        refine aw_iconst (pc := 38) F dX9_eventInto_38 ?_
        refine aw_callVI1 (pc := 39) F dX9_eventInto_39 ml_9_118 rfl (by first | decide | (simp only [inB, cnt, rcnt]; omega)) (ct9_fail _ _ _ tb) (Nat.le_of_ble_eq_true rfl) (by decide) (Nat.zero_le _) (fun v9 σ9 h9_39 => ?_)
        obtain ⟨rfl, rfl⟩ := h9_39
        exact aw_iret (pc := 42) F dX9_eventInto_42 (nar_bool (by first | exact b2i_01 | decide)) (Nat.zero_le _) (by
          rw [show evIn B n idx but S i = badP B n i 4 from (if_neg (fun z => z k3)).trans (if_pos (by omega))]
          exact rr_bad (by decide) chF.rf hM)
  · refine aw_aload0 (pc := 8) F dX9_eventInto_8 ?_
    refine aw_iconst (pc := 9) F dX9_eventInto_9 ?_
    refine aw_callVI1 (pc := 10) F dX9_eventInto_10 ml_9_118 rfl (by first | decide | (simp only [inB, cnt, rcnt]; omega)) (ct9_fail _ _ _ tb) (Nat.le_of_ble_eq_true rfl) (by decide) (Nat.zero_le _) (fun v9 σ9 h9_10 => ?_)
    obtain ⟨rfl, rfl⟩ := h9_10
    exact aw_iret (pc := 13) F dX9_eventInto_13 (nar_bool (by first | exact b2i_01 | decide)) (Nat.zero_le _) (by rw [show evIn B n idx but S i = badP B n i 2 from if_pos (by omega)]; exact rr_bad (by decide) chF.rf hM)
