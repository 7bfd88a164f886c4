/-! 81: the class reads a period, an event -/
/-- the class, behind the text's place i, with the row S -/
def CSx (B : Int → Int) (n : Int) (S : Int → Int) (i : Int) (M : Id4 → Int → Int) : Prop := BC B M ∧ M (6, 0, 0, 0) 5 = n ∧ plR M 2 S ∧ NmR M 1 (S 1) S ∧ M (6, 0, 0, 0) 8 = i
/-- what reading leaves of the class -/
def RCx (B : Int → Int) (n : Int) (M : Id4 → Int → Int) (r : PR) : Int → Hp → Prop := fun v σ' => ∃ M', σ' = (M', R0 true) ∧ chRd M M' ∧ ((r.1 = 0 ∧ v = 1 ∧ CSx B n r.2.2.1 r.2.2.2 M' ∧ TX B n r.2.2.2 ∧ M' (6, 0, 0, 0) 6 = 4 ∧ M' (6, 0, 0, 0) 2 = M (6, 0, 0, 0) 2 ∧ M' (6, 0, 0, 0) 3 = M (6, 0, 0, 0) 3) ∨ (¬ r.1 = 0 ∧ v = 0 ∧ M' (6, 0, 0, 0) 2 = r.1 ∧ M' (6, 0, 0, 0) 3 = r.2.1))
theorem rc_bad {B : Int → Int} {n i w : Int} {M M' : Id4 → Int → Int} {r : PR} (hr : r = badP B n i w) (hw : ¬ w = 0) (hc : chRd M M') (hF : FC B n i w M') : RCx B n M r 0 (M', R0 true) := by
  subst hr
  exact ⟨M', rfl, hc, Or.inr ⟨badP_ne hw, rfl, hF.1, hF.2⟩⟩
theorem numP_b2 {B S : Int → Int} {n idx lo hi i : Int} (h : ¬ kdT B n i = 3) : numP B n idx lo hi S i = badP B n i 2 := if_pos h
theorem numP_b3 {B S : Int → Int} {n idx lo hi i : Int} (h : kdT B n i = 3) (h2 : ¬ (lo ≤ vlT B n i ∧ vlT B n i ≤ hi)) : numP B n idx lo hi S i = badP B n i 3 := (if_neg (fun z => z h)).trans (if_pos h2)
theorem numP_ok {B S : Int → Int} {n idx lo hi i : Int} (h : kdT B n i = 3) (h2 : lo ≤ vlT B n i ∧ vlT B n i ≤ hi) : numP B n idx lo hi S i = goodP (upS S idx (vlT B n i)) (nxT B n i) := (if_neg (fun z => z h)).trans (if_neg (fun z => z h2))
theorem closP_b {B S : Int → Int} {n i : Int} (h : ¬ kdT B n i = 4) : closP B n S i = badP B n i 2 := if_pos h
theorem closP_ok {B S : Int → Int} {n i : Int} (h : kdT B n i = 4) : closP B n S i = goodP S (nxT B n i) := if_neg (fun z => z h)
theorem ct6_readPeriod (M : Id4 → Int → Int) (B S : Int → Int) (n i : Int) (hx : TX B n i) (hB : BC B M) (hn : M (6, 0, 0, 0) 5 = n) (hM : TC B n i M) (hN : M (3, 1, 0, 0) 2 = 0) (h1 : S 1 = 0) (h2 : S 20 = 0) : CtI 6 0 yX6_readPeriod cX6_readPeriod 2 (some .boolean) [aR (6, 0, 0, 0)] (M, R0 true) (RCx B n M (bindP (perP B n S i) (closP B n))) := by
  refine CtI.mk (by decide +kernel) rfl (Nat.le_of_ble_eq_true rfl) (fun X K F hk => ?_)
  have x1 := hx.nx
  have vb := vlT_bd x1
  obtain ⟨t1, t2, t3, t4⟩ := id hM
  refine aw_aload0 (pc := 0) F dX6_readPeriod_0 ?_
  refine aw_ldcS F (tx := "period") (i := 0) dX6_readPeriod_1 (by decide +kernel) ?_
  refine aw_pcallV1 (pc := 3) F dX6_readPeriod_3 ml_6_76 rfl (by first | decide | (simp only [inB, cnt, rcnt]; omega)) (ct6_isWord _ B n i 0 (by decide) hB hx hM) (Nat.le_of_ble_eq_true rfl) (by decide) (Nat.zero_le _) ?_
  refine aw_if_ne (tgt := 14) (pc := 6) F dX6_readPeriod_6 (by decide) (by rcases wdI_01 (B := B) (n := n) (i := i) (w := ((0 : Nat) : Int)) with z | z <;> rw [z] <;> (unfold inR; decide)) (fun c6 => ?_) (fun c6 => ?_)
  · have ep : perP B n S i = numP B n 0 2 24 S (nxT B n i) := if_neg c6
    refine aw_aload0 (pc := 14) F dX6_readPeriod_14 ?_
    refine aw_iconst (pc := 15) F dX6_readPeriod_15 ?_
    refine aw_bipush (pc := 16) F dX6_readPeriod_16 (by decide) ?_
    refine aw_callVI2 (pc := 18) F dX6_readPeriod_18 ml_6_83 rfl (by first | decide | (simp only [inB, cnt, rcnt]; omega)) (ct6_readNumber _ B n (nxT B n i) 2 24 hB x1 hn t2 (by unfold inR; decide) (by unfold inR; decide)) (Nat.le_of_ble_eq_true rfl) (by decide) (Nat.zero_le _) (fun v9 σ9 h9_18 => ?_)
    obtain ⟨M2, rfl, c1, c2⟩ := h9_18
    refine aw_istore1 (pc := 21) F dX6_readPeriod_21 rfl hk.symm ?_
    refine aw_iload1 (pc := 22) F dX6_readPeriod_22 ?_
    refine aw_iconst (pc := 23) F dX6_readPeriod_23 ?_
    refine aw_icmp_eq (tgt := 34) (pc := 24) F dX6_readPeriod_24 (by decide) (by first | (unfold inR; decide) | (rcases c2 with q | q <;> (unfold inR; omega))) (by first | (unfold inR; decide) | (rcases c2 with q | q <;> (unfold inR; omega))) (fun c24 => ?_) (fun c24 => ?_)
    · refine aw_iconst (pc := 34) F dX6_readPeriod_34 ?_
      exact aw_iret (pc := 35) F dX6_readPeriod_35 (nar_bool (by first | exact b2i_01 | decide)) (Nat.zero_le _) (by
        first
        | (obtain ⟨q1, q2, q3, q4, q5⟩ := c2.resolve_right (fun z => c24 z.1)
           obtain ⟨p1, p2, p3⟩ := c6'.resolve_left (fun z => by have := z.1; omega)
           refine rc_bad (i := nxT B n (nxT B n i)) (w := 2) ?_ (by decide) (c1.tr c5).w p3
           rw [ep, numP_ok q2 q3, bind_good rfl]
           exact closP_b p2)
        | (obtain ⟨-, q⟩ := c2.resolve_left (fun z => by have := z.1; have := z.2.2.1; omega)
           rcases q with q | q
           · refine rc_bad (i := nxT B n i) (w := 2) ?_ (by decide) c1.w q.2
             rw [ep, numP_b2 q.1]
             exact bind_bad (badP_ne (by decide))
           · refine rc_bad (i := nxT B n i) (w := 3) ?_ (by decide) c1.w q.2.2
             rw [ep, numP_b3 q.1 q.2.1]
             exact bind_bad (badP_ne (by decide))))
    · refine aw_aload0 (pc := 27) F dX6_readPeriod_27 ?_
      refine aw_callVI0 (pc := 28) F dX6_readPeriod_28 ml_6_86 rfl (by first | decide | (simp only [inB, cnt, rcnt]; omega)) (ct6_readSemicolon _ B n (nxT B n (nxT B n i)) (hB.z c1) x1.nx (c1.n.trans hn) ((c2.resolve_right (fun z => c24 z.1)).2.2.2.1.2.1)) (Nat.le_of_ble_eq_true rfl) (by decide) (Nat.zero_le _) (fun v8 σ8 h9_28 => ?_)
      obtain ⟨M4, rfl, c5, c6'⟩ := h9_28
      refine aw_if_ne (tgt := 36) (pc := 31) F dX6_readPeriod_31 (by decide) (by rcases c6' with q | q <;> rw [q.1] <;> (unfold inR; decide)) (fun c31 => ?_) (fun c31 => ?_)
      · refine aw_aload0 (pc := 36) F dX6_readPeriod_36 ?_
        refine aw_getR (pc := 37) F dX6_readPeriod_37 fl_6_12 rfl (by first | decide | (simp only [inB, cnt, rcnt]; omega)) rfl nz0 rfl ?_
        refine aw_iload1 (pc := 40) F dX6_readPeriod_40 ?_
        refine aw_callVV1 (pc := 41) F dX6_readPeriod_41 ml_6_60 rfl (by first | decide | (simp only [inB, cnt, rcnt]; omega)) (ct5_startWith _ _ _) (Nat.le_of_ble_eq_true rfl) (by decide) (Nat.zero_le _) (fun σ7 h9_41 => ?_)
        obtain ⟨M5, rfl, d1, d2⟩ := h9_41
        refine aw_iconst (pc := 44) F dX6_readPeriod_44 ?_
        exact aw_iret (pc := 45) F dX6_readPeriod_45 (nar_bool (by first | exact b2i_01 | decide)) (Nat.zero_le _) (by
          obtain ⟨q1, q2, q3, q4, q5⟩ := c2.resolve_right (fun z => c24 z.1)
          obtain ⟨p1, p2, p3, p4, p5⟩ := c6'.resolve_right (fun z => by have := z.1; omega)
          have e9 : bindP (perP B n S i) (closP B n) = goodP (upS S 0 (vlT B n (nxT B n i))) (nxT B n (nxT B n (nxT B n i))) := by
            rw [ep, numP_ok q2 q3, bind_good rfl]
            exact closP_ok p2
          rw [e9]
          have f1 : upS S 0 (vlT B n (nxT B n i)) 1 = 0 := by rw [upS_ne (by decide)]; exact h1
          have o : ∀ k, M5 (6, 0, 0, 0) k = M4 (6, 0, 0, 0) k := fun k => by rw [d1 _ (by simp)]
          refine ⟨M5, rfl, ((c1.tr c5).w).tr d1.w, Or.inl ⟨rfl, rfl, ⟨(hB.z (c1.tr c5)).w d1.w, ?_, ?_, ?_, ?_⟩, x1.nx.nx, ?_, ?_, ?_⟩⟩
          · rw [o]; exact (c1.tr c5).n.trans hn
          · exact d2 _ (by rw [q1]; show upS S 0 (vlT B n (nxT B n i)) 0 = _; exact upS_same) f1 (by rw [show (goodP (upS S 0 (vlT B n (nxT B n i))) (nxT B n (nxT B n (nxT B n i)))).2.2.1 20 = upS S 0 (vlT B n (nxT B n i)) 20 by rfl, upS_ne (by decide)]; exact h2)
          · show NmR M5 1 (upS S 0 (vlT B n (nxT B n i)) 1) (upS S 0 (vlT B n (nxT B n i)))
            rw [f1]
            exact ⟨by rw [d1 _ (by simp), (c1.tr c5).off (by decide)]; exact hN, fun e e0 e1 => absurd e1 (by omega)⟩
          · rw [o]; exact p3.2.1
          · rw [o, p3.2.2.1, p2]
          · rw [o, p4, q5.1]
          · rw [o, p5, q5.2])
      · refine aw_iconst (pc := 34) F dX6_readPeriod_34 ?_
        exact aw_iret (pc := 35) F dX6_readPeriod_35 (nar_bool (by first | exact b2i_01 | decide)) (Nat.zero_le _) (by
          first
          | (obtain ⟨q1, q2, q3, q4, q5⟩ := c2.resolve_right (fun z => c24 z.1)
             obtain ⟨p1, p2, p3⟩ := c6'.resolve_left (fun z => by have := z.1; omega)
             refine rc_bad (i := nxT B n (nxT B n i)) (w := 2) ?_ (by decide) (c1.tr c5).w p3
             rw [ep, numP_ok q2 q3, bind_good rfl]
             exact closP_b p2)
          | (obtain ⟨-, q⟩ := c2.resolve_left (fun z => by have := z.1; have := z.2.2.1; omega)
             rcases q with q | q
             · refine rc_bad (i := nxT B n i) (w := 2) ?_ (by decide) c1.w q.2
               rw [ep, numP_b2 q.1]
               exact bind_bad (badP_ne (by decide))
             · refine rc_bad (i := nxT B n i) (w := 3) ?_ (by decide) c1.w q.2.2
               rw [ep, numP_b3 q.1 q.2.1]
               exact bind_bad (badP_ne (by decide))))
  · refine aw_aload0 (pc := 9) F dX6_readPeriod_9 ?_
    refine aw_callVI0 (pc := 10) F dX6_readPeriod_10 ml_6_80 rfl (by first | decide | (simp only [inB, cnt, rcnt]; omega)) (ct6_unexpected _ _ B n i hM) (Nat.le_of_ble_eq_true rfl) (by decide) (Nat.zero_le _) (fun v9 σ9 h9_10 => ?_)
    obtain ⟨rfl, M3, rfl, c3, c4⟩ := h9_10
    exact aw_iret (pc := 13) F dX6_readPeriod_13 (nar_bool (Or.inl rfl)) (Nat.zero_le _) (rc_bad ((bind_bad (by rw [show perP B n S i = badP B n i 2 from if_pos c6]; exact badP_ne (by decide))).trans (if_pos c6)) (by decide) c3.w c4)
theorem NmR.p {M M' : Id4 → Int → Int} {c : Int} {S : Int → Int} (h : chg5 2 M M') (hR : NmR M 1 c S) : NmR M' 1 c S := by
  obtain ⟨a, b⟩ := hR
  refine ⟨by rw [h _ (by simp)]; exact a, fun e e0 e1 => ?_⟩
  rw [h _ (by simp), h _ (by simp)]
  exact b e e0 e1
theorem NmR.s {M : Id4 → Int → Int} {c : Int} {S S' : Int → Int} (hR : NmR M 1 c S) (h : ∀ e, 0 ≤ e → e < c → S' (2 + 2 * e) = S (2 + 2 * e) ∧ S' (2 + 2 * e + 1) = S (2 + 2 * e + 1)) : NmR M 1 c S' := ⟨hR.1, fun e e0 e1 => by rw [(h e e0 e1).1, (h e e0 e1).2]; exact hR.2 e e0 e1⟩
theorem chN3.pl {M M' : Id4 → Int → Int} {p : Int} {S : Int → Int} (h : chN3 M M') (hR : plR M p S) : plR M' p S := pl_eq (fun c => h _ (by simp)) hR
theorem ct6_readEvent (M : Id4 → Int → Int) (B S : Int → Int) (n i : Int) (hx : TX B n i) (hC : CSx B n S (nxT B n i) M) (hO : Ok S) (h6 : S 1 < 6) : CtI 4 0 yX6_readEvent cX6_readEvent 2 (some .boolean) [aR (6, 0, 0, 0)] (M, R0 true) (RCx B n M (bindP (evP B n S i) (closP B n))) := by
  refine CtI.mk (by decide +kernel) rfl (Nat.le_of_ble_eq_true rfl) (fun X K F hk => ?_)
  obtain ⟨hB, hn, hR, hN, h8⟩ := hC
  have x1 := hx.nx
  have x2 := x1.nx
  have x3 := x2.nx
  have hE := hO.2.1
  have hT := hO.1
  have n2 := hx.2.1
  have h0 := x1.2.2.1
  have sb := stT_bd (B := B) x1.2.2.2
  have xb := nxT_bd (B := B) x1.2.2.2
  have nb := nmD_bd (B := B) (S := S) (a := stT B n (nxT B n i)) (b := nxT B n (nxT B n i))
  have ne6 : ¬ S 1 = 6 := by omega
  refine aw_aload0 (pc := 0) F dX6_readEvent_0 ?_
  refine aw_callVV0 (pc := 1) F dX6_readEvent_1 ml_6_64 rfl (by first | decide | (simp only [inB, cnt, rcnt]; omega)) (ct6_nextToken _ B n (nxT B n i) hB x1 hn h8) (Nat.le_of_ble_eq_true rfl) (by decide) (Nat.zero_le _) (fun σ9 h9_1 => ?_)
  obtain ⟨M2, rfl, c1, c2⟩ := h9_1
  obtain ⟨t1, t2, t3, t4⟩ := id c2
  have hB2 := hB.y c1
  have hN2 := c1.z.nm hN
  have hR2 := c1.z.pl hR
  refine aw_aload0 (pc := 4) F dX6_readEvent_4 ?_
  refine aw_getI (pc := 5) F dX6_readEvent_5 fl_6_39 rfl (by first | decide | (simp only [inB, cnt, rcnt]; omega)) rfl nz6 ?_
  refine aw_iconst (pc := 8) F dX6_readEvent_8 ?_
  refine aw_icmp_eq (tgt := 17) (pc := 9) F dX6_readEvent_9 (by decide) (by first | exact c2.bd | (unfold inR; decide)) (by first | exact c2.bd | (unfold inR; decide)) (fun c9 => ?_) (fun c9 => ?_)
  · have k2 : kdT B n (nxT B n i) = 2 := by omega
    have lt := kd2_lt x1 k2
    have eq9 : fsF (nmE B S (stT B n (nxT B n i)) (nxT B n (nxT B n i))) (S 1).toNat 0 = nmD B S (stT B n (nxT B n i)) (nxT B n (nxT B n i)) := by unfold nmD; rw [nmF_fs]
    refine aw_aload0 (pc := 17) F dX6_readEvent_17 ?_
    refine aw_getR (pc := 18) F dX6_readEvent_18 fl_6_21 rfl (by first | decide | (simp only [inB, cnt, rcnt]; omega)) rfl nz1 rfl ?_
    refine aw_aload0 (pc := 21) F dX6_readEvent_21 ?_
    refine aw_getR (pc := 22) F dX6_readEvent_22 fl_6_32 rfl (by first | decide | (simp only [inB, cnt, rcnt]; omega)) rfl nz4 rfl ?_
    refine aw_aload0 (pc := 25) F dX6_readEvent_25 ?_
    refine aw_getI (pc := 26) F dX6_readEvent_26 fl_6_42 rfl (by first | decide | (simp only [inB, cnt, rcnt]; omega)) rfl nz7 ?_
    refine aw_aload0 (pc := 29) F dX6_readEvent_29 ?_
    refine aw_getI (pc := 30) F dX6_readEvent_30 fl_6_45 rfl (by first | decide | (simp only [inB, cnt, rcnt]; omega)) rfl nz8 ?_
    refine aw_aload0 (pc := 33) F dX6_readEvent_33 ?_
    refine aw_getI (pc := 34) F dX6_readEvent_34 fl_6_42 rfl (by first | decide | (simp only [inB, cnt, rcnt]; omega)) rfl nz7 ?_
    rw [t1, t2]
    refine aw_isub (pc := 37) F dX6_readEvent_37 ?_
    refine aw_pcallV3 (pc := 38) F dX6_readEvent_38 ml_6_109 rfl (by first | decide | (simp only [inB, cnt, rcnt]; omega)) (ct3_indexOf _ _ B (nmE B S (stT B n (nxT B n i)) (nxT B n (nxT B n i))) 1 (S 1) (stT B n (nxT B n i)) (nxT B n (nxT B n i) - stT B n (nxT B n i)) S (by decide) hN2 hE hB2 hx.1 (by omega) (by omega) (fun e e0 e1 => nm_key (hN2.2 e e0 e1) lt.1 (by omega))) (Nat.le_of_ble_eq_true rfl) (by decide) (Nat.zero_le _) ?_
    rw [eq9]
    refine aw_iconst (pc := 41) F dX6_readEvent_41 ?_
    refine aw_icmp_eq (tgt := 51) (pc := 42) F dX6_readEvent_42 (by decide) (by unfold inR; omega) (by unfold inR; omega) (fun c42 => ?_) (fun c42 => ?_)
    · have ee : evP B n S i = bindP (numP B n (14 + S 1) 0 (S 0 - 1) (nmU B S (stT B n (nxT B n i)) (nxT B n (nxT B n i))) (nxT B n (nxT B n i))) (fun S' i' => goodP (upS S' 1 (S' 1 + 1)) i') := (if_neg ne6).trans ((if_neg (fun z => z k2)).trans (if_neg (fun z => z c42)))
      refine aw_aload0 (pc := 51) F dX6_readEvent_51 ?_
      refine aw_getR (pc := 52) F dX6_readEvent_52 fl_6_21 rfl (by first | decide | (simp only [inB, cnt, rcnt]; omega)) rfl nz1 rfl ?_
      refine aw_aload0 (pc := 55) F dX6_readEvent_55 ?_
      refine aw_getR (pc := 56) F dX6_readEvent_56 fl_6_32 rfl (by first | decide | (simp only [inB, cnt, rcnt]; omega)) rfl nz4 rfl ?_
      refine aw_aload0 (pc := 59) F dX6_readEvent_59 ?_
      refine aw_getI (pc := 60) F dX6_readEvent_60 fl_6_42 rfl (by first | decide | (simp only [inB, cnt, rcnt]; omega)) rfl nz7 ?_
      refine aw_aload0 (pc := 63) F dX6_readEvent_63 ?_
      refine aw_getI (pc := 64) F dX6_readEvent_64 fl_6_45 rfl (by first | decide | (simp only [inB, cnt, rcnt]; omega)) rfl nz8 ?_
      refine aw_aload0 (pc := 67) F dX6_readEvent_67 ?_
      refine aw_getI (pc := 68) F dX6_readEvent_68 fl_6_42 rfl (by first | decide | (simp only [inB, cnt, rcnt]; omega)) rfl nz7 ?_
      rw [t1, t2]
      refine aw_isub (pc := 71) F dX6_readEvent_71 ?_
      refine aw_callVV3 (pc := 72) F dX6_readEvent_72 ml_6_113 rfl (by first | decide | (simp only [inB, cnt, rcnt]; omega)) (ct3_append _ _ B S (stT B n (nxT B n i)) (nxT B n (nxT B n i)) hN2 ⟨hE.1, h6⟩ hB2 lt.1 ⟨by omega, lt.2.1, by omega, by omega⟩) (Nat.le_of_ble_eq_true rfl) (by decide) (Nat.zero_le _) (fun σ8 h9_72 => ?_)
      obtain ⟨M4, rfl, c5, c6, c7⟩ := h9_72
      have o4 : ∀ k, M4 (6, 0, 0, 0) k = M2 (6, 0, 0, 0) k := fun k => by rw [c5 _ (by decide)]
      have hB4 := hB2.w (c5.w c7)
      have hR4 := c5.pl hR2
      have p4 : M4 (5, 2, 0, 0) 0 = S 0 := hR4.1.1
      refine aw_aload0 (pc := 75) F dX6_readEvent_75 ?_
      refine aw_iconst (pc := 76) F dX6_readEvent_76 ?_
      refine aw_aload0 (pc := 77) F dX6_readEvent_77 ?_
      refine aw_getR (pc := 78) F dX6_readEvent_78 fl_6_12 rfl (by first | decide | (simp only [inB, cnt, rcnt]; omega)) rfl nz0 rfl ?_
      refine aw_getI (pc := 81) F dX6_readEvent_81 fl_6_117 rfl (by first | decide | (simp only [inB, cnt, rcnt]; omega)) rfl nz0 ?_
      rw [p4]
      refine aw_iconst (pc := 84) F dX6_readEvent_84 ?_
      refine aw_isub (pc := 85) F dX6_readEvent_85 ?_
      refine aw_callVI2 (pc := 86) F dX6_readEvent_86 ml_6_83 rfl (by first | decide | (simp only [inB, cnt, rcnt]; omega)) (ct6_readNumber _ B n (nxT B n (nxT B n i)) 0 (S 0 - 1) hB4 x2 (by rw [o4]; exact c1.n.trans hn) (by rw [o4]; exact t2) (by unfold inR; omega) (by unfold inR; omega)) (Nat.le_of_ble_eq_true rfl) (by decide) (Nat.zero_le _) (fun v7 σ7 h9_86 => ?_)
      obtain ⟨M5, rfl, d1, d2⟩ := h9_86
      refine aw_istore1 (pc := 89) F dX6_readEvent_89 rfl hk.symm ?_
      refine aw_iload1 (pc := 90) F dX6_readEvent_90 ?_
      refine aw_iconst (pc := 91) F dX6_readEvent_91 ?_
      refine aw_icmp_ne (tgt := 97) (pc := 92) F dX6_readEvent_92 (by decide) (by first | (unfold inR; decide) | (have := vlT_bd x2; rcases d2 with q | q <;> (unfold inR; omega))) (by first | (unfold inR; decide) | (have := vlT_bd x2; rcases d2 with q | q <;> (unfold inR; omega))) (fun c92 => ?_) (fun c92 => ?_)
      · obtain ⟨q1, q2, q3, q4, q5⟩ := d2.resolve_right (fun z => c92 z.1)
        refine aw_aload0 (pc := 97) F dX6_readEvent_97 ?_
        refine aw_getR (pc := 98) F dX6_readEvent_98 fl_6_12 rfl (by first | decide | (simp only [inB, cnt, rcnt]; omega)) rfl nz0 rfl ?_
        refine aw_iload1 (pc := 101) F dX6_readEvent_101 ?_
        refine aw_callVV1 (pc := 102) F dX6_readEvent_102 ml_6_119 rfl (by first | decide | (simp only [inB, cnt, rcnt]; omega)) (ct5_appendEvent _ _ S _ (d1.pl hR4) ⟨hE.1, h6⟩) (Nat.le_of_ble_eq_true rfl) (by decide) (Nat.zero_le _) (fun σ6 h9_102 => ?_)
        obtain ⟨M6, rfl, g1, g2⟩ := h9_102
        have o6 : ∀ k, M6 (6, 0, 0, 0) k = M5 (6, 0, 0, 0) k := fun k => by rw [g1 _ (by simp)]
        refine aw_aload0 (pc := 105) F dX6_readEvent_105 ?_
        refine aw_callVI0 (pc := 106) F dX6_readEvent_106 ml_6_86 rfl (by first | decide | (simp only [inB, cnt, rcnt]; omega)) (ct6_readSemicolon _ B n (nxT B n (nxT B n (nxT B n i))) ((hB4.z d1).w g1.w) x3 (by rw [o6]; exact d1.n.trans (by rw [o4]; exact c1.n.trans hn)) (by rw [o6]; exact q4.2.1)) (Nat.le_of_ble_eq_true rfl) (by decide) (Nat.zero_le _) (fun v5 σ5 h9_106 => ?_)
        obtain ⟨M7, rfl, f1, f2⟩ := h9_106
        exact aw_iret (pc := 109) F dX6_readEvent_109 (nar_bool (by rcases f2 with q | q <;> omega)) (Nat.zero_le _) (by
          have w1 : chRd M M7 := (((c1.z.w.tr (c5.w c7)).tr d1.w).tr g1.w).tr f1.w
          obtain ⟨S', hS'⟩ : ∃ S', S' = upS (upS (nmU B S (stT B n (nxT B n i)) (nxT B n (nxT B n i))) (14 + S 1) (vlT B n (nxT B n (nxT B n i)))) 1 (S 1 + 1) := ⟨_, rfl⟩
          have fo : ∀ j, (j < 2 ∨ 14 ≤ j) → j ≠ 1 → j ≠ 14 + S 1 → S' j = S j := fun j j0 j1 j2 => by
            rw [hS', upS_ne j1, upS_ne j2]
            unfold nmU
            rw [upS_ne (by omega), upS_ne (by omega)]
          have e9 : evP B n S i = goodP S' (nxT B n (nxT B n (nxT B n i))) := by
            rw [ee, numP_ok q2 q3, bind_good rfl, hS']
            have e1 : upS (nmU B S (stT B n (nxT B n i)) (nxT B n (nxT B n i))) (14 + S 1) (vlT B n (nxT B n (nxT B n i))) 1 = S 1 := by
              unfold nmU
              rw [upS_ne (by omega), upS_ne (by omega), upS_ne (by omega)]
            show goodP (upS (upS (nmU B S (stT B n (nxT B n i)) (nxT B n (nxT B n i))) (14 + S 1) (vlT B n (nxT B n (nxT B n i)))) 1 (upS (nmU B S (stT B n (nxT B n i)) (nxT B n (nxT B n i))) (14 + S 1) (vlT B n (nxT B n (nxT B n i))) 1 + 1)) _ = _
            rw [e1]
            rfl
          rcases f2 with p | p
          · obtain ⟨p1, p2, p3, p5, p6⟩ := p
            have e8 : bindP (evP B n S i) (closP B n) = goodP S' (nxT B n (nxT B n (nxT B n (nxT B n i)))) := by
              rw [e9, bind_good rfl]
              exact closP_ok p2
            rw [e8]
            have s1 : S' 1 = S 1 + 1 := by rw [hS', upS_same]
            refine ⟨M7, rfl, w1, Or.inl ⟨rfl, p1, ⟨((hB4.z d1).w g1.w).z f1, f1.n.trans (by rw [o6]; exact d1.n.trans (by rw [o4]; exact c1.n.trans hn)), ?_, ?_, p3.2.1⟩, x3.nx, p3.2.2.1.trans p2, ?_, ?_⟩⟩
            · refine f1.pl (g2 S' (fo 0 (by omega) (by omega) (by omega)) s1 (fo 20 (by omega) (by omega) (by omega)) (fun e e0 e1 => fo _ (by omega) (by omega) (by omega)) ?_ (fun k w k0 w0 w1 => fo _ (by omega) (by omega) (by omega)))
              rw [hS', upS_ne (by omega), upS_same, q1]
            · show NmR M7 1 (S' 1) S'
              rw [s1]
              refine f1.nm (NmR.p g1 (d1.nm (c6.s (fun e e0 e1 => ?_))))
              rw [hS', upS_ne (by omega), upS_ne (by omega), upS_ne (by omega), upS_ne (by omega)]
              exact ⟨rfl, rfl⟩
            · rw [p5, o6, q5.1, o4, c1 _ _ (by decide)]
            · rw [p6, o6, q5.2, o4, c1 _ _ (by decide)]
          · rw [p.1]
            refine rc_bad (i := nxT B n (nxT B n (nxT B n i))) (w := 2) ?_ (by decide) w1 p.2.2
            rw [e9, bind_good rfl]
            exact closP_b p.2.1)
      · refine aw_iconst (pc := 95) F dX6_readEvent_95 ?_
        exact aw_iret (pc := 96) F dX6_readEvent_96 (nar_bool (by first | exact b2i_01 | decide)) (Nat.zero_le _) (by
          obtain ⟨-, q⟩ := d2.resolve_left (fun z => by have := z.1; have := z.2.2.1; omega)
          have w1 : chRd M M5 := (c1.z.w.tr (c5.w c7)).tr d1.w
          rcases q with q | q
          · refine rc_bad (i := nxT B n (nxT B n i)) (w := 2) ?_ (by decide) w1 q.2
            rw [ee, numP_b2 q.1, bind_bad (badP_ne (by decide))]
            exact bind_bad (badP_ne (by decide))
          · refine rc_bad (i := nxT B n (nxT B n i)) (w := 3) ?_ (by decide) w1 q.2.2
            rw [ee, numP_b3 q.1 q.2.1, bind_bad (badP_ne (by decide))]
            exact bind_bad (badP_ne (by decide)))
    · refine aw_aload0 (pc := 45) F dX6_readEvent_45 ?_
      refine aw_iconst (pc := 46) F dX6_readEvent_46 ?_
      refine aw_callVI1 (pc := 47) F dX6_readEvent_47 ml_6_97 rfl (by first | decide | (simp only [inB, cnt, rcnt]; omega)) (ct6_fail _ _ _) (Nat.le_of_ble_eq_true rfl) (by decide) (Nat.zero_le _) (fun v9 σ9 h9_47 => ?_)
      obtain ⟨rfl, rfl⟩ := h9_47
      exact aw_iret (pc := 50) F dX6_readEvent_50 (nar_bool (by first | exact b2i_01 | decide)) (Nat.zero_le _) (rc_bad (i := nxT B n i) (w := 4) (by
        have e : evP B n S i = badP B n (nxT B n i) 4 := (if_neg ne6).trans ((if_neg (fun z => z k2)).trans (if_pos c42))
        rw [e]
        exact bind_bad (badP_ne (by decide))) (by decide) (c1.z.tr ((chZ.rf.up (by decide)).up (by decide))).w (tc_fail c2 (by omega)))
  · refine aw_aload0 (pc := 12) F dX6_readEvent_12 ?_
    refine aw_callVI0 (pc := 13) F dX6_readEvent_13 ml_6_80 rfl (by first | decide | (simp only [inB, cnt, rcnt]; omega)) (ct6_unexpected _ _ B n _ c2) (Nat.le_of_ble_eq_true rfl) (by decide) (Nat.zero_le _) (fun v9 σ9 h9_13 => ?_)
    obtain ⟨rfl, M3, rfl, c3, c4⟩ := h9_13
    exact aw_iret (pc := 16) F dX6_readEvent_16 (nar_bool (Or.inl rfl)) (Nat.zero_le _) (rc_bad (i := nxT B n i) (w := 2) (by
      have e : evP B n S i = badP B n (nxT B n i) 2 := (if_neg ne6).trans (if_pos (by omega))
      rw [e]
      exact bind_bad (badP_ne (by decide))) (by decide) (c1.z.tr c3).w c4)
