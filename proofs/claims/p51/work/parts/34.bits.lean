/-! 34: bits, allowed, and what rests on them -/
theorem kc_J_265 : Cond.constant RJ6 265 (Int32.ofInt 1431655765) ∈ Gw := (gwI 1104 (by decide +kernel) rfl)
theorem kc_J_266 : Cond.constant RJ6 266 (Int32.ofInt 858993459) ∈ Gw := (gwI 1105 (by decide +kernel) rfl)
theorem kc_J_267 : Cond.constant RJ6 267 (Int32.ofInt 252645135) ∈ Gw := (gwI 1106 (by decide +kernel) rfl)
theorem ctJ_bitCount (M : Id4 → Int → Int) (b : Bool) (x : Int) (h : 0 ≤ x ∧ x < 16777216) : CtI 2 0 yJ6_bitCount_0f7a4 cJ6_bitCount_0f7a4 1 (some .int) [aI x] (M, R0 b) (PU (M, R0 b) (pcN x 24 : Int)) := by
  refine CtI.mk (by decide +kernel) rfl (Nat.le_of_ble_eq_true rfl) (fun X K F hk => ?_)
  refine aw_iload0 (pc := 0) F dJ6_bitCount_0f7a4_0 ?_
  refine aw_iload0 (pc := 1) F dJ6_bitCount_0f7a4_1 ?_
  refine aw_iconst (pc := 2) F dJ6_bitCount_0f7a4_2 ?_
  refine aw_iushr (pc := 3) F dJ6_bitCount_0f7a4_3 ?_
  refine aw_ldcw (pc := 4) F dJ6_bitCount_0f7a4_4 kc_J_265 ?_
  refine aw_iand (pc := 7) F dJ6_bitCount_0f7a4_7 ?_
  refine aw_isub (pc := 8) F dJ6_bitCount_0f7a4_8 ?_
  refine aw_istore0 (pc := 9) F dJ6_bitCount_0f7a4_9 rfl hk.symm ?_
  refine aw_iload0 (pc := 10) F dJ6_bitCount_0f7a4_10 ?_
  refine aw_ldcw (pc := 11) F dJ6_bitCount_0f7a4_11 kc_J_266 ?_
  refine aw_iand (pc := 14) F dJ6_bitCount_0f7a4_14 ?_
  refine aw_iload0 (pc := 15) F dJ6_bitCount_0f7a4_15 ?_
  refine aw_iconst (pc := 16) F dJ6_bitCount_0f7a4_16 ?_
  refine aw_iushr (pc := 17) F dJ6_bitCount_0f7a4_17 ?_
  refine aw_ldcw (pc := 18) F dJ6_bitCount_0f7a4_18 kc_J_266 ?_
  refine aw_iand (pc := 21) F dJ6_bitCount_0f7a4_21 ?_
  refine aw_iadd (pc := 22) F dJ6_bitCount_0f7a4_22 ?_
  refine aw_istore0 (pc := 23) F dJ6_bitCount_0f7a4_23 rfl hk.symm ?_
  refine aw_iload0 (pc := 24) F dJ6_bitCount_0f7a4_24 ?_
  refine aw_iload0 (pc := 25) F dJ6_bitCount_0f7a4_25 ?_
  refine aw_iconst (pc := 26) F dJ6_bitCount_0f7a4_26 ?_
  refine aw_iushr (pc := 27) F dJ6_bitCount_0f7a4_27 ?_
  refine aw_iadd (pc := 28) F dJ6_bitCount_0f7a4_28 ?_
  refine aw_ldcw (pc := 29) F dJ6_bitCount_0f7a4_29 kc_J_267 ?_
  refine aw_iand (pc := 32) F dJ6_bitCount_0f7a4_32 ?_
  refine aw_istore0 (pc := 33) F dJ6_bitCount_0f7a4_33 rfl hk.symm ?_
  refine aw_iload0 (pc := 34) F dJ6_bitCount_0f7a4_34 ?_
  refine aw_iload0 (pc := 35) F dJ6_bitCount_0f7a4_35 ?_
  refine aw_bipush (pc := 36) F dJ6_bitCount_0f7a4_36 (by decide) ?_
  refine aw_iushr (pc := 38) F dJ6_bitCount_0f7a4_38 ?_
  refine aw_iadd (pc := 39) F dJ6_bitCount_0f7a4_39 ?_
  refine aw_istore0 (pc := 40) F dJ6_bitCount_0f7a4_40 rfl hk.symm ?_
  refine aw_iload0 (pc := 41) F dJ6_bitCount_0f7a4_41 ?_
  refine aw_iload0 (pc := 42) F dJ6_bitCount_0f7a4_42 ?_
  refine aw_bipush (pc := 43) F dJ6_bitCount_0f7a4_43 (by decide) ?_
  refine aw_iushr (pc := 45) F dJ6_bitCount_0f7a4_45 ?_
  refine aw_iadd (pc := 46) F dJ6_bitCount_0f7a4_46 ?_
  refine aw_istore0 (pc := 47) F dJ6_bitCount_0f7a4_47 rfl hk.symm ?_
  refine aw_iload0 (pc := 48) F dJ6_bitCount_0f7a4_48 ?_
  refine aw_bipush (pc := 49) F dJ6_bitCount_0f7a4_49 (by decide) ?_
  refine aw_iand (pc := 51) F dJ6_bitCount_0f7a4_51 ?_
  exact aw_iret (pc := 52) F dJ6_bitCount_0f7a4_52 rfl (Nat.zero_le _) ⟨swar h, rfl⟩
theorem CtI.mkF {d U : Nat} {y : MethodName} {bc : ByteArray} {mL : Nat} {ret : Option FieldType} {args : List AV} {σ : Hp} {Q : Int → Hp → Prop} (hy : plainFor y = true) (hw : narrowArgs args = true) (hn : args.length ≤ mL) (h : ∀ (X : Cx) (K : Kx), Fx X K bc y.cls ret d U false → K.2.2.2.1 = mL → AW X K 0 (args ++ List.replicate (mL - args.length) aX) [] σ 0 (EI X K U Q)) : CtI d U y bc mL ret args σ Q := by
  intro l g cy ρ sz htr
  refine va_MetF (cc := bc) (maxL := mL) (ret := ret) hy rfl ?_
  intro p e s m args' below meth c s₁ B hml hv
  obtain ⟨rfl, hsz, hP, hK, hD0, hZ⟩ := hv
  subst hsz
  have hts := atoms_spec (ws := Cond.code y bc mL ret :: Gw) B.pre
  have F : Fx (p, l, e, rmOf d U, s, m, (args.map (cv ρ)).toArray, below, meth, c) (g, cy, Aof ρ Lall s.heap.size, mL, ρ, Lall) bc y.cls ret d U false :=
    ⟨B.exec, B.bytes, hml, findClass_of_methodNamed B.named, fun w h => hts w (List.mem_cons_of_mem _ h), hK, Lall_nodup, Aof_D hD0, Aof_hA, B.notSynchronized, B.returns, rfl, htr, hZ, (fun z => by cases z), rfl⟩
  have k := h _ _ F rfl s.heap [] _ hP va_S.rf (lh_entry (ρ := ρ) hw hn)
  rw [lg_entry_eq]
  exact k
theorem ctJ_max (M : Id4 → Int → Int) (b : Bool) (x y : Int) (h : inR x) (h2 : inR y) : CtI 2 0 yJ9_max_7cf53 cJ9_max_7cf53 2 (some .int) [aI x, aI y] (M, R0 b) (PU (M, R0 b) (max x y)) := by
  refine CtI.mkF (by decide +kernel) rfl (Nat.le_of_ble_eq_true rfl) (fun X K F hk => ?_)
  refine aw_iload0 (pc := 0) F dJ9_max_7cf53_0 ?_
  refine aw_iload1 (pc := 1) F dJ9_max_7cf53_1 ?_
  refine aw_icmp_lt (tgt := 9) (pc := 2) F dJ9_max_7cf53_2 (by decide) (by assumption) (by assumption) (fun c2 => ?_) (fun c2 => ?_)
  · refine aw_iload1 (pc := 9) F dJ9_max_7cf53_9 ?_
    exact aw_iret (pc := 10) F dJ9_max_7cf53_10 rfl (Nat.zero_le _) ⟨by omega, rfl⟩
  · refine aw_iload0 (pc := 5) F dJ9_max_7cf53_5 ?_
    refine aw_goto (tgt := 10) (pc := 6) F dJ9_max_7cf53_6 (by decide) ?_
    exact aw_iret (pc := 10) F dJ9_max_7cf53_10 rfl (Nat.zero_le _) ⟨by omega, rfl⟩
theorem ctJ_min (M : Id4 → Int → Int) (b : Bool) (x y : Int) (h : inR x) (h2 : inR y) : CtI 2 0 yJ9_min_7cf53 cJ9_min_7cf53 2 (some .int) [aI x, aI y] (M, R0 b) (PU (M, R0 b) (min x y)) := by
  refine CtI.mkF (by decide +kernel) rfl (Nat.le_of_ble_eq_true rfl) (fun X K F hk => ?_)
  refine aw_iload0 (pc := 0) F dJ9_min_7cf53_0 ?_
  refine aw_iload1 (pc := 1) F dJ9_min_7cf53_1 ?_
  refine aw_icmp_gt (tgt := 9) (pc := 2) F dJ9_min_7cf53_2 (by decide) (by assumption) (by assumption) (fun c2 => ?_) (fun c2 => ?_)
  · refine aw_iload1 (pc := 9) F dJ9_min_7cf53_9 ?_
    exact aw_iret (pc := 10) F dJ9_min_7cf53_10 rfl (Nat.zero_le _) ⟨by omega, rfl⟩
  · refine aw_iload0 (pc := 5) F dJ9_min_7cf53_5 ?_
    refine aw_goto (tgt := 10) (pc := 6) F dJ9_min_7cf53_6 (by decide) ?_
    exact aw_iret (pc := 10) F dJ9_min_7cf53_10 rfl (Nat.zero_le _) ⟨by omega, rfl⟩
/-- how many differences are allowed -/
noncomputable def alS (S : Int → Int) (x y t : Int) : Int := (pcN ((if t = 0 then lyS S else tgS S) (6 * x + y)) 24 : Int)
theorem cx8_allowed (M : Id4 → Int → Int) (b9 : Bool) (S : Int → Int) (x y t : Int) (h1 : inR x) (h2 : inR y) (h3 : t = 0 ∨ t = 1) (hR : plR M 0 S) (h : Ok S) : CxI 13 2 yX8_allowed cX8_allowed 4 (some .int) [aR (8, 0, 0, 0), aI x, aI y, aI t] (M, R0 b9) (fun v σ' => v = alS S x y t ∧ (0 ≤ x ∧ x < S 1) ∧ (0 ≤ y ∧ y < S 1) ∧ ∃ M', σ' = (M', R0 b9) ∧ same8 M M') (fun E σ' => E = eIO ∧ σ' = (M, R0 b9) ∧ ¬ ((0 ≤ x ∧ x < S 1) ∧ (0 ≤ y ∧ y < S 1))) := by
  refine CxI.mk (by decide +kernel) rfl (Nat.le_of_ble_eq_true rfl) (fun X K F hk => ?_)
  have hE := h.2.1
  have hm := tgS_ok h
  have hl := lyS_ok h
  refine aw_aload0 (pc := 0) F dX8_allowed_0 ?_
  refine aw_iload1 (pc := 1) F dX8_allowed_1 ?_
  refine aw_xcallVVI1 (pc := 2) F dX8_allowed_2 ml_8_119 rfl (by first | decide | (simp only [inB, cnt, rcnt]; omega)) (cx8_requireEvent _ _ S _ h1 hR h) (Nat.le_of_ble_eq_true rfl) (by decide) (by decide) (fun _ _ h => ⟨h.1, h.2.1, fun z => h.2.2 z.1⟩) (fun σ9 h9_2 => ?_)
  obtain ⟨rfl, q1, q2⟩ := h9_2
  refine aw_aload0 (pc := 5) F dX8_allowed_5 ?_
  refine aw_iload2 (pc := 6) F dX8_allowed_6 ?_
  refine aw_xcallVVI1 (pc := 7) F dX8_allowed_7 ml_8_119 rfl (by first | decide | (simp only [inB, cnt, rcnt]; omega)) (cx8_requireEvent _ _ S _ h2 hR h) (Nat.le_of_ble_eq_true rfl) (by decide) (by decide) (fun _ _ h => ⟨h.1, h.2.1, fun z => h.2.2 z.2⟩) (fun σ9 h9_7 => ?_)
  obtain ⟨rfl, q3, q4⟩ := h9_7
  refine aw_aload0 (pc := 10) F dX8_allowed_10 ?_
  refine aw_getR (pc := 11) F dX8_allowed_11 fl_8_51 rfl (by first | decide | (simp only [inB, cnt, rcnt]; omega)) rfl nz7 rfl ?_
  refine aw_aload0 (pc := 14) F dX8_allowed_14 ?_
  refine aw_getR (pc := 15) F dX8_allowed_15 fl_8_34 rfl (by first | decide | (simp only [inB, cnt, rcnt]; omega)) rfl nz4 rfl ?_
  refine aw_callVV1 (pc := 18) F dX8_allowed_18 ml_8_174 rfl (by first | decide | (simp only [inB, cnt, rcnt]; omega)) (ct1_startFrom _ _ S _ _ (by decide) (by decide) hR h) (Nat.le_of_ble_eq_true rfl) (by decide) (by decide) (fun σ9 h9_18 => ?_)
  obtain ⟨A1, hg1, h9⟩ := h9_18
  subst h9
  have e8 := hg1 x y q1 q2 q3 q4
  have z8 := (hl (6 * x + y) (by omega) (by omega)).1
  refine aw_iload3 (pc := 21) F dX8_allowed_21 ?_
  refine aw_if_eq (tgt := 32) (pc := 22) F dX8_allowed_22 (by decide) (by unfold inR; omega) (fun c22 => ?_) (fun c22 => ?_)
  · refine aw_aload0 (pc := 32) F dX8_allowed_32 ?_
    refine aw_getR (pc := 33) F dX8_allowed_33 fl_8_51 rfl (by first | decide | (simp only [inB, cnt, rcnt]; omega)) rfl nz7 rfl ?_
    refine aw_iload1 (pc := 36) F dX8_allowed_36 ?_
    refine aw_iload2 (pc := 37) F dX8_allowed_37 ?_
    refine aw_pcallV2 (pc := 38) F dX8_allowed_38 ml_8_180 rfl (by first | decide | (simp only [inB, cnt, rcnt]; omega)) (ct1_between _ _ _ _ _ (by decide) (by omega) (by omega)) (Nat.le_of_ble_eq_true rfl) (by decide) (by decide) ?_
    refine aw_pcallS1 (pc := 41) F dX8_allowed_41 ml_8_184 (ctJ_bitCount _ _ _ (by first | (rw [e9]; exact z9) | (rw [setA_same, e8]; exact z8))) (Nat.le_of_ble_eq_true rfl) (by decide) (by decide) ?_
    exact aw_xiret (pc := 44) F dX8_allowed_44 rfl (by decide) (by first | exact ⟨by rw [e9]; unfold alS; rw [if_neg c22], ⟨q1, q2⟩, ⟨q3, q4⟩, M2, rfl, hs2⟩ | exact ⟨by rw [setA_same, e8]; unfold alS; rw [if_pos c22], ⟨q1, q2⟩, ⟨q3, q4⟩, _, rfl, dfA_same.st scr8_1⟩)
  · refine aw_aload0 (pc := 25) F dX8_allowed_25 ?_
    refine aw_getR (pc := 26) F dX8_allowed_26 fl_8_51 rfl (by first | decide | (simp only [inB, cnt, rcnt]; omega)) rfl nz7 rfl ?_
    refine aw_callVV0 (pc := 29) F dX8_allowed_29 ml_8_177 rfl (by first | decide | (simp only [inB, cnt, rcnt]; omega)) (ct1_tightS _ _ S _ _ (by decide) h hg1) (Nat.le_of_ble_eq_true rfl) (by decide) (by decide) (fun σ8 h9_29 => ?_)
    obtain ⟨M2, h8, hs2, hd2⟩ := h9_29
    subst h8
    have e9 := hd2.2.2 x y q1 q2 q3 q4
    have z9 := (hm (6 * x + y) (by omega) (by omega)).1
    refine aw_aload0 (pc := 32) F dX8_allowed_32 ?_
    refine aw_getR (pc := 33) F dX8_allowed_33 fl_8_51 rfl (by first | decide | (simp only [inB, cnt, rcnt]; omega)) rfl nz7 rfl ?_
    refine aw_iload1 (pc := 36) F dX8_allowed_36 ?_
    refine aw_iload2 (pc := 37) F dX8_allowed_37 ?_
    refine aw_pcallV2 (pc := 38) F dX8_allowed_38 ml_8_180 rfl (by first | decide | (simp only [inB, cnt, rcnt]; omega)) (ct1_between _ _ _ _ _ (by decide) (by omega) (by omega)) (Nat.le_of_ble_eq_true rfl) (by decide) (by decide) ?_
    refine aw_pcallS1 (pc := 41) F dX8_allowed_41 ml_8_184 (ctJ_bitCount _ _ _ (by first | (rw [e9]; exact z9) | (rw [setA_same, e8]; exact z8))) (Nat.le_of_ble_eq_true rfl) (by decide) (by decide) ?_
    exact aw_xiret (pc := 44) F dX8_allowed_44 rfl (by decide) (by first | exact ⟨by rw [e9]; unfold alS; rw [if_neg c22], ⟨q1, q2⟩, ⟨q3, q4⟩, M2, rfl, hs2⟩ | exact ⟨by rw [setA_same, e8]; unfold alS; rw [if_pos c22], ⟨q1, q2⟩, ⟨q3, q4⟩, _, rfl, dfA_same.st scr8_1⟩)
