/-! 71: the reference's span statement -/
theorem evIn_ex {B : Int → Int} {n idx but i : Int} {S : Int → Int} (h : (evIn B n idx but S i).1 = 0) : ∃ e, (0 ≤ e ∧ e < S 1 ∧ ¬ e = but) ∧ evIn B n idx but S i = goodP (upS S idx e) (nxT B n i) := by
  obtain ⟨a, -, c, d⟩ := evIn_good h
  exact ⟨_, ⟨c.1, c.2, d⟩, a⟩
theorem numP_ex {B : Int → Int} {n idx lo hi i : Int} {S : Int → Int} (h : (numP B n idx lo hi S i).1 = 0) : ∃ v, (lo ≤ v ∧ v ≤ hi) ∧ numP B n idx lo hi S i = goodP (upS S idx v) (nxT B n i) := by
  obtain ⟨a, -, c, d⟩ := numP_good h
  exact ⟨_, ⟨c, d⟩, a⟩
theorem NB.up {S : Int → Int} {k v : Int} (h : NB S) (hk : 14 ≤ k) : NB (upS S k v) := fun j j0 j1 => by rw [upS_ne (by omega)]; exact h j j0 j1
/-- good or bad, by what the call returned -/
theorem rr_cases {B : Int → Int} {n : Int} {M : Id4 → Int → Int} {b : Bool} {r : PR} {v : Int} {σ' : Hp} (h : RRx B n M b r v σ') : (v = 0 ∧ ¬ r.1 = 0) ∨ (v = 1 ∧ r.1 = 0 ∧ ∃ M', σ' = (M', R0 b) ∧ chF M M' ∧ RSx B n r.2.2.1 r.2.2.2 M' ∧ TX B n r.2.2.2 ∧ M' (9, 0, 0, 0) 14 = M (9, 0, 0, 0) 14 ∧ M' (9, 0, 0, 0) 15 = M (9, 0, 0, 0) 15) := by
  obtain ⟨M', h1, h2, h3⟩ := h
  rcases h3 with ⟨a, b, c⟩ | ⟨a, b, c⟩
  · exact Or.inr ⟨b, a, M', h1, h2, c⟩
  · exact Or.inl ⟨b, a⟩
theorem rr_v {B : Int → Int} {n : Int} {M : Id4 → Int → Int} {b : Bool} {r : PR} {v : Int} {σ' : Hp} (h : RRx B n M b r v σ') : inR v := by
  rcases rr_cases h with h | h <;> rw [h.1] <;> (unfold inR; decide)
theorem rr_bad0 {B : Int → Int} {n : Int} {M M1 : Id4 → Int → Int} {b : Bool} {r : PR} {f : (Int → Int) → Int → PR} {v : Int} {σ' : Hp} (hv : v = 0) (hc : chF M M1) (h : RRx B n M1 b r v σ') : RRx B n M b (bindP r f) 0 σ' := by
  subst hv
  exact rr_pass ((rr_cases h).resolve_right (fun z => absurd z.1 (by decide))).2 hc h
theorem ct9_spanStatement (M : Id4 → Int → Int) (b : Bool) (B S : Int → Int) (n i : Int) (hx : TX B n i) (hM : RSx B n S i M) (hO : Ok S) (hN : NB S) : CtI 5 0 yX9_spanStatement cX9_spanStatement 3 (some .boolean) [aR (9, 0, 0, 0)] (M, R0 b) (RRx B n M b (spP B n S i)) := by
  refine CtI.mk (by decide +kernel) rfl (Nat.le_of_ble_eq_true rfl) (fun X K F hk => ?_)
  obtain ⟨m1, m2, m3, t1, t2, t3, t4⟩ := id hM
  have tb := hM.2.2.2.bd
  have xn := hx.nx
  have hE := hO.2.1
  have hT := hO.1
  have hW := hO.2.2.1
  have s1 : M (9, 0, 1, 0) 20 = S 20 := congrFun m3 20
  have fin : ∀ (M' : Id4 → Int → Int) (S' : Int → Int) (i' : Int) {w1 w2 : AV}, chF M M' → RSx B n S' i' M' → TX B n i' → M' (9, 0, 0, 0) 14 = M (9, 0, 0, 0) 14 → M' (9, 0, 0, 0) 15 = M (9, 0, 0, 0) 15 → AW X K 157 [aR (9, 0, 0, 0), w1, w2] [] (M', R0 b) 0 (EI X K 0 (RRx B n M b (goodP (upS S' 20 (S' 20 + 1)) i'))) := by
    intro M' S' i' w1 w2 a1 a2 a3 a4 a5
    have e1 : M' (9, 0, 1, 0) 20 = S' 20 := congrFun a2.2.2.1 20
    have a6 := a2.row (k := 20) (v := S' 20 + 1)
    refine aw_aload0 (pc := 157) F dX9_spanStatement_157 ?_
    refine aw_getR (pc := 158) F dX9_spanStatement_158 fl_9_7 rfl (by first | decide | (simp only [inB, cnt, rcnt]; omega)) rfl nz0 rfl ?_
    refine aw_bipush (pc := 161) F dX9_spanStatement_161 (by decide) ?_
    refine aw_dup2 (pc := 163) F dX9_spanStatement_163 ?_
    refine aw_iald (pc := 164) F dX9_spanStatement_164 rfl (by first | decide | (simp only [inB, cnt, rcnt]; omega)) (by omega) ?_
    refine aw_iconst (pc := 165) F dX9_spanStatement_165 ?_
    refine aw_iadd (pc := 166) F dX9_spanStatement_166 ?_
    refine aw_iast (pc := 167) F dX9_spanStatement_167 rfl (by first | decide | (simp only [inB, cnt, rcnt]; omega)) (by omega) ?_
    refine aw_iconst (pc := 168) F dX9_spanStatement_168 ?_
    exact aw_iret (pc := 169) F dX9_spanStatement_169 (nar_bool (by first | exact b2i_01 | decide)) (Nat.zero_le _) (by rw [e1]; exact ⟨_, rfl, a1.st, Or.inl ⟨rfl, rfl, a6, a3, by rw [upd_ne (Or.inl (by decide))]; exact a4, by rw [upd_ne (Or.inl (by decide))]; exact a5⟩⟩)
  refine aw_aload0 (pc := 0) F dX9_spanStatement_0 ?_
  refine aw_getR (pc := 1) F dX9_spanStatement_1 fl_9_7 rfl (by first | decide | (simp only [inB, cnt, rcnt]; omega)) rfl nz0 rfl ?_
  refine aw_bipush (pc := 4) F dX9_spanStatement_4 (by decide) ?_
  refine aw_iald (pc := 6) F dX9_spanStatement_6 rfl (by first | decide | (simp only [inB, cnt, rcnt]; omega)) (by omega) ?_
  rw [s1]
  refine aw_istore1 (pc := 7) F dX9_spanStatement_7 rfl hk.symm ?_
  refine aw_iload1 (pc := 8) F dX9_spanStatement_8 ?_
  refine aw_bipush (pc := 9) F dX9_spanStatement_9 (by decide) ?_
  refine aw_icmp_ne (tgt := 20) (pc := 11) F dX9_spanStatement_11 (by decide) (by unfold inR; omega) (by unfold inR; omega) (fun c11 => ?_) (fun c11 => ?_)
  · refine aw_aload0 (pc := 20) F dX9_spanStatement_20 ?_
    refine aw_callVI0 (pc := 21) F dX9_spanStatement_21 ml_9_125 rfl (by first | decide | (simp only [inB, cnt, rcnt]; omega)) (ct9_advance _ _ B n (nxT B n i) m1 hx.1 m2 hx.2.1 t2 ⟨xn.2.2.1, xn.2.2.2⟩) (Nat.le_of_ble_eq_true rfl) (by decide) (Nat.zero_le _) (fun v9 σ9 h9_21 => ?_)
    obtain ⟨rfl, M2, rfl, c1, c2⟩ := h9_21
    have r2 := rs_adv m1 m2 m3 c1 c2
    have es : spP B n S i = bindP (evIn B n (21 + 5 * S 20 + 0) (-1) S (nxT B n i)) (fun S1 i1 => bindP (evIn B n (21 + 5 * S 20 + 1) (S1 (21 + 5 * S 20 + 0)) S1 i1) (fun S2 i2 => bindP (numP B n (21 + 5 * S 20 + 2) 0 48 S2 i2) (fun S3 i3 => bindP (numP B n (21 + 5 * S 20 + 3) (S3 (21 + 5 * S 20 + 2)) (S3 (21 + 5 * S 20 + 2) + S3 0 - 1) S3 i3) (fun S4 i4 => bindP (weP B n (21 + 5 * S 20 + 4) S4 i4) (fun S5 i5 => goodP (upS S5 20 (S5 20 + 1)) i5))))) := if_neg c11
    rw [es]
    refine aw_popI (pc := 24) F dX9_spanStatement_24 ?_
    refine aw_aload0 (pc := 25) F dX9_spanStatement_25 ?_
    refine aw_iload1 (pc := 26) F dX9_spanStatement_26 ?_
    refine aw_pcallS1 (pc := 27) F dX9_spanStatement_27 ml_9_150 (ct9_at _ _ _) (Nat.le_of_ble_eq_true rfl) (by decide) (Nat.zero_le _) ?_
    refine aw_iconst (pc := 30) F dX9_spanStatement_30 ?_
    refine aw_iadd (pc := 31) F dX9_spanStatement_31 ?_
    refine aw_iconst (pc := 32) F dX9_spanStatement_32 ?_
    refine aw_callVI2 (pc := 33) F dX9_spanStatement_33 ml_9_153 rfl (by first | decide | (simp only [inB, cnt, rcnt]; omega)) (ct9_eventInto _ _ B S n _ (21 + 5 * S 20 + 0) (-1) xn r2 hE hN (by omega) (by unfold inR; omega)) (Nat.le_of_ble_eq_true rfl) (by decide) (Nat.zero_le _) (fun v1 σ1 h1 => ?_)
    refine aw_if_eq (tgt := 79) (pc := 36) F dX9_spanStatement_36 (by decide) (rr_v h1) (fun c36 => ?_) (fun c36 => ?_)
    · refine aw_iconst (pc := 79) F dX9_spanStatement_79 ?_
      exact aw_iret (pc := 80) F dX9_spanStatement_80 (nar_bool (by first | exact b2i_01 | decide)) (Nat.zero_le _) (by first | exact rr_bad0 c36 c1.f h1 | exact rr_bad0 c60 (c1.f.tr d1) h2 | exact rr_bad0 c76 ((c1.f.tr d1).tr d2) h3)
    · obtain ⟨-, g1, M3, hσ1, d1, p1, x1, k1, l1⟩ := (rr_cases h1).resolve_left (fun z => c36 z.1)
      subst hσ1
      obtain ⟨e1, e1b, ge1⟩ := evIn_ex g1
      have r3 : RSx B n (upS S (21 + 5 * S 20 + 0) e1) (nxT B n (nxT B n i)) M3 := by rw [ge1] at p1; exact p1
      have y1 : TX B n (nxT B n (nxT B n i)) := by rw [ge1] at x1; exact x1
      have e3 : M3 (9, 0, 1, 0) (21 + 5 * S 20 + 0) = e1 := by rw [r3.2.2.1, upS_same]
      rw [bind_good g1, ge1]
      dsimp only [goodP]
      rw [upS_same]
      refine aw_aload0 (pc := 39) F dX9_spanStatement_39 ?_
      refine aw_iload1 (pc := 40) F dX9_spanStatement_40 ?_
      refine aw_pcallS1 (pc := 41) F dX9_spanStatement_41 ml_9_150 (ct9_at _ _ _) (Nat.le_of_ble_eq_true rfl) (by decide) (Nat.zero_le _) ?_
      refine aw_iconst (pc := 44) F dX9_spanStatement_44 ?_
      refine aw_iadd (pc := 45) F dX9_spanStatement_45 ?_
      refine aw_aload0 (pc := 46) F dX9_spanStatement_46 ?_
      refine aw_getR (pc := 47) F dX9_spanStatement_47 fl_9_7 rfl (by first | decide | (simp only [inB, cnt, rcnt]; omega)) rfl nz0 rfl ?_
      refine aw_iload1 (pc := 50) F dX9_spanStatement_50 ?_
      refine aw_pcallS1 (pc := 51) F dX9_spanStatement_51 ml_9_150 (ct9_at _ _ _) (Nat.le_of_ble_eq_true rfl) (by decide) (Nat.zero_le _) ?_
      refine aw_iconst (pc := 54) F dX9_spanStatement_54 ?_
      refine aw_iadd (pc := 55) F dX9_spanStatement_55 ?_
      refine aw_iald (pc := 56) F dX9_spanStatement_56 rfl (by first | decide | (simp only [inB, cnt, rcnt]; omega)) (by omega) ?_
      try dsimp only
      rw [e3]
      refine aw_callVI2 (pc := 57) F dX9_spanStatement_57 ml_9_153 rfl (by first | decide | (simp only [inB, cnt, rcnt]; omega)) (ct9_eventInto _ _ B _ n _ (21 + 5 * S 20 + 1) e1 y1 r3 (by rw [upS_ne (by omega)]; exact hE) (hN.up (by omega)) (by omega) (by unfold inR; omega)) (Nat.le_of_ble_eq_true rfl) (by decide) (Nat.zero_le _) (fun v2 σ2 h2 => ?_)
      refine aw_if_eq (tgt := 79) (pc := 60) F dX9_spanStatement_60 (by decide) (rr_v h2) (fun c60 => ?_) (fun c60 => ?_)
      · refine aw_iconst (pc := 79) F dX9_spanStatement_79 ?_
        exact aw_iret (pc := 80) F dX9_spanStatement_80 (nar_bool (by first | exact b2i_01 | decide)) (Nat.zero_le _) (by first | exact rr_bad0 c36 c1.f h1 | exact rr_bad0 c60 (c1.f.tr d1) h2 | exact rr_bad0 c76 ((c1.f.tr d1).tr d2) h3)
      · obtain ⟨-, g2, M4, hσ2, d2, p2, x2, k2, l2⟩ := (rr_cases h2).resolve_left (fun z => c60 z.1)
        subst hσ2
        obtain ⟨e2, e2b, ge2⟩ := evIn_ex g2
        have r4 : RSx B n (upS (upS S (21 + 5 * S 20 + 0) e1) (21 + 5 * S 20 + 1) e2) (nxT B n (nxT B n (nxT B n i))) M4 := by rw [ge2] at p2; exact p2
        have y2 : TX B n (nxT B n (nxT B n (nxT B n i))) := by rw [ge2] at x2; exact x2
        rw [bind_good g2, ge2]
        dsimp only [goodP]
        refine aw_aload0 (pc := 63) F dX9_spanStatement_63 ?_
        refine aw_iload1 (pc := 64) F dX9_spanStatement_64 ?_
        refine aw_pcallS1 (pc := 65) F dX9_spanStatement_65 ml_9_150 (ct9_at _ _ _) (Nat.le_of_ble_eq_true rfl) (by decide) (Nat.zero_le _) ?_
        refine aw_iconst (pc := 68) F dX9_spanStatement_68 ?_
        refine aw_iadd (pc := 69) F dX9_spanStatement_69 ?_
        refine aw_iconst (pc := 70) F dX9_spanStatement_70 ?_
        refine aw_bipush (pc := 71) F dX9_spanStatement_71 (by decide) ?_
        refine aw_callVI3 (pc := 73) F dX9_spanStatement_73 ml_9_144 rfl (by first | decide | (simp only [inB, cnt, rcnt]; omega)) (ct9_number _ _ B _ n _ (21 + 5 * S 20 + 2) 0 48 y2 r4 (by omega) (by unfold inR; omega) (by unfold inR; omega)) (Nat.le_of_ble_eq_true rfl) (by decide) (Nat.zero_le _) (fun v3 σ3 h3 => ?_)
        refine aw_if_ne (tgt := 81) (pc := 76) F dX9_spanStatement_76 (by decide) (rr_v h3) (fun c76 => ?_) (fun c76 => ?_)
        · obtain ⟨-, g3, M5, hσ3, d3, p3, x3, k3, l3⟩ := (rr_cases h3).resolve_left (fun z => c76 z.1)
          subst hσ3
          obtain ⟨lo, lob, ge3⟩ := numP_ex g3
          have r5 : RSx B n (upS (upS (upS S (21 + 5 * S 20 + 0) e1) (21 + 5 * S 20 + 1) e2) (21 + 5 * S 20 + 2) lo) (nxT B n (nxT B n (nxT B n (nxT B n i)))) M5 := by rw [ge3] at p3; exact p3
          have y3 : TX B n (nxT B n (nxT B n (nxT B n (nxT B n i)))) := by rw [ge3] at x3; exact x3
          have e5 : M5 (9, 0, 1, 0) (21 + 5 * S 20 + 2) = lo := by rw [r5.2.2.1, upS_same]
          have e6 : M5 (9, 0, 1, 0) 0 = S 0 := by rw [r5.2.2.1, upS_ne (by omega), upS_ne (by omega), upS_ne (by omega)]
          rw [bind_good g3, ge3]
          dsimp only [goodP]
          rw [upS_same, upS_ne (show (0 : Int) ≠ 21 + 5 * S 20 + 2 by omega), upS_ne (show (0 : Int) ≠ 21 + 5 * S 20 + 1 by omega), upS_ne (show (0 : Int) ≠ 21 + 5 * S 20 + 0 by omega)]
          refine aw_aload0 (pc := 81) F dX9_spanStatement_81 ?_
          refine aw_getR (pc := 82) F dX9_spanStatement_82 fl_9_7 rfl (by first | decide | (simp only [inB, cnt, rcnt]; omega)) rfl nz0 rfl ?_
          refine aw_iload1 (pc := 85) F dX9_spanStatement_85 ?_
          refine aw_pcallS1 (pc := 86) F dX9_spanStatement_86 ml_9_150 (ct9_at _ _ _) (Nat.le_of_ble_eq_true rfl) (by decide) (Nat.zero_le _) ?_
          refine aw_iconst (pc := 89) F dX9_spanStatement_89 ?_
          refine aw_iadd (pc := 90) F dX9_spanStatement_90 ?_
          refine aw_iald (pc := 91) F dX9_spanStatement_91 rfl (by first | decide | (simp only [inB, cnt, rcnt]; omega)) (by omega) ?_
          skip
          rw [e5]
          refine aw_istore2 (pc := 92) F dX9_spanStatement_92 rfl hk.symm ?_
          refine aw_aload0 (pc := 93) F dX9_spanStatement_93 ?_
          refine aw_iload1 (pc := 94) F dX9_spanStatement_94 ?_
          refine aw_pcallS1 (pc := 95) F dX9_spanStatement_95 ml_9_150 (ct9_at _ _ _) (Nat.le_of_ble_eq_true rfl) (by decide) (Nat.zero_le _) ?_
          refine aw_iconst (pc := 98) F dX9_spanStatement_98 ?_
          refine aw_iadd (pc := 99) F dX9_spanStatement_99 ?_
          refine aw_iload2 (pc := 100) F dX9_spanStatement_100 ?_
          refine aw_iload2 (pc := 101) F dX9_spanStatement_101 ?_
          refine aw_aload0 (pc := 102) F dX9_spanStatement_102 ?_
          refine aw_getR (pc := 103) F dX9_spanStatement_103 fl_9_7 rfl (by first | decide | (simp only [inB, cnt, rcnt]; omega)) rfl nz0 rfl ?_
          refine aw_iconst (pc := 106) F dX9_spanStatement_106 ?_
          refine aw_iald (pc := 107) F dX9_spanStatement_107 rfl (by first | decide | (simp only [inB, cnt, rcnt]; omega)) (by omega) ?_
          rw [e6]
          refine aw_iadd (pc := 108) F dX9_spanStatement_108 ?_
          refine aw_iconst (pc := 109) F dX9_spanStatement_109 ?_
          refine aw_isub (pc := 110) F dX9_spanStatement_110 ?_
          refine aw_callVI3 (pc := 111) F dX9_spanStatement_111 ml_9_144 rfl (by first | decide | (simp only [inB, cnt, rcnt]; omega)) (ct9_number _ _ B _ n _ (21 + 5 * S 20 + 3) lo (lo + S 0 - 1) y3 r5 (by omega) (by unfold inR; omega) (by unfold inR; omega)) (Nat.le_of_ble_eq_true rfl) (by decide) (Nat.zero_le _) (fun v4 σ4 h4 => ?_)
          refine aw_if_ne (tgt := 119) (pc := 114) F dX9_spanStatement_114 (by decide) (rr_v h4) (fun c114 => ?_) (fun c114 => ?_)
          · obtain ⟨-, g4, M6, hσ4, d4, p4, x4, k4, l4⟩ := (rr_cases h4).resolve_left (fun z => c114 z.1)
            subst hσ4
            obtain ⟨hi, hib, ge4⟩ := numP_ex g4
            have r6 : RSx B n (upS (upS (upS (upS S (21 + 5 * S 20 + 0) e1) (21 + 5 * S 20 + 1) e2) (21 + 5 * S 20 + 2) lo) (21 + 5 * S 20 + 3) hi) (nxT B n (nxT B n (nxT B n (nxT B n (nxT B n i))))) M6 := by rw [ge4] at p4; exact p4
            have y4 : TX B n (nxT B n (nxT B n (nxT B n (nxT B n (nxT B n i))))) := by rw [ge4] at x4; exact x4
            rw [bind_good g4, ge4]
            dsimp only [goodP]
            have r7 := r6.row (k := 21 + 5 * S 20 + 4) (v := 1)
            have d5 : chF M (updM M6 (9, 0, 1, 0) (21 + 5 * S 20 + 4) 1) := ((((c1.f.tr d1).tr d2).tr d3).tr d4).st
            have kk : updM M6 (9, 0, 1, 0) (21 + 5 * S 20 + 4) 1 (9, 0, 0, 0) 14 = M (9, 0, 0, 0) 14 := by rw [upd_ne (Or.inl (by decide)), k4, k3, k2, k1, c1 _ _ (by decide)]
            have ll : updM M6 (9, 0, 1, 0) (21 + 5 * S 20 + 4) 1 (9, 0, 0, 0) 15 = M (9, 0, 0, 0) 15 := by rw [upd_ne (Or.inl (by decide)), l4, l3, l2, l1, c1 _ _ (by decide)]
            have tk := r7.2.2.2.2.2.1
            refine aw_aload0 (pc := 119) F dX9_spanStatement_119 ?_
            refine aw_getR (pc := 120) F dX9_spanStatement_120 fl_9_7 rfl (by first | decide | (simp only [inB, cnt, rcnt]; omega)) rfl nz0 rfl ?_
            refine aw_iload1 (pc := 123) F dX9_spanStatement_123 ?_
            refine aw_pcallS1 (pc := 124) F dX9_spanStatement_124 ml_9_150 (ct9_at _ _ _) (Nat.le_of_ble_eq_true rfl) (by decide) (Nat.zero_le _) ?_
            refine aw_iconst (pc := 127) F dX9_spanStatement_127 ?_
            refine aw_iadd (pc := 128) F dX9_spanStatement_128 ?_
            refine aw_iconst (pc := 129) F dX9_spanStatement_129 ?_
            refine aw_iast (pc := 130) F dX9_spanStatement_130 rfl (by first | decide | (simp only [inB, cnt, rcnt]; omega)) (by omega) ?_
            refine aw_aload0 (pc := 131) F dX9_spanStatement_131 ?_
            refine aw_getI (pc := 132) F dX9_spanStatement_132 fl_9_88 rfl (by first | decide | (simp only [inB, cnt, rcnt]; omega)) rfl nz12 ?_
            refine aw_iconst (pc := 135) F dX9_spanStatement_135 ?_
            refine aw_icmp_ne (tgt := 157) (pc := 136) F dX9_spanStatement_136 (by decide) (by first | (unfold inR; decide) | skip; rw [tk]; have := tkS_bd (B := B) (n := n) (s := stT B n (nxT B n (nxT B n (nxT B n (nxT B n (nxT B n i)))))); unfold kdT inR; omega) (by first | (unfold inR; decide) | skip; rw [tk]; have := tkS_bd (B := B) (n := n) (s := stT B n (nxT B n (nxT B n (nxT B n (nxT B n (nxT B n i)))))); unfold kdT inR; omega) (fun c136 => ?_) (fun c136 => ?_)
            · first
              | (obtain ⟨-, g5, M7, hσ5, d6, p5, x5, k5, l5⟩ := (rr_cases h5).resolve_left (fun z => c152 z.1)
                 subst hσ5
                 rw [bind_good g5]
                 exact fin M7 _ _ (d5.tr d6) p5 x5 (k5.trans kk) (l5.trans ll))
              | (rw [tk] at c136
                 rw [weP_0 c136, bind_good rfl]
                 exact fin _ _ _ d5 r7 y4 kk ll)
            · rw [tk] at c136
              rw [weP_3 c136]
              refine aw_aload0 (pc := 139) F dX9_spanStatement_139 ?_
              refine aw_iload1 (pc := 140) F dX9_spanStatement_140 ?_
              refine aw_pcallS1 (pc := 141) F dX9_spanStatement_141 ml_9_150 (ct9_at _ _ _) (Nat.le_of_ble_eq_true rfl) (by decide) (Nat.zero_le _) ?_
              refine aw_iconst (pc := 144) F dX9_spanStatement_144 ?_
              refine aw_iadd (pc := 145) F dX9_spanStatement_145 ?_
              refine aw_iconst (pc := 146) F dX9_spanStatement_146 ?_
              refine aw_bipush (pc := 147) F dX9_spanStatement_147 (by decide) ?_
              refine aw_callVI3 (pc := 149) F dX9_spanStatement_149 ml_9_144 rfl (by first | decide | (simp only [inB, cnt, rcnt]; omega)) (ct9_number _ _ B _ n _ (21 + 5 * S 20 + 4) 0 20 y4 r7 (by omega) (by unfold inR; omega) (by unfold inR; omega)) (Nat.le_of_ble_eq_true rfl) (by decide) (Nat.zero_le _) (fun v5 σ5 h5 => ?_)
              refine aw_if_ne (tgt := 157) (pc := 152) F dX9_spanStatement_152 (by decide) (rr_v h5) (fun c152 => ?_) (fun c152 => ?_)
              · first
                | (obtain ⟨-, g5, M7, hσ5, d6, p5, x5, k5, l5⟩ := (rr_cases h5).resolve_left (fun z => c152 z.1)
                   subst hσ5
                   rw [bind_good g5]
                   exact fin M7 _ _ (d5.tr d6) p5 x5 (k5.trans kk) (l5.trans ll))
                | (rw [tk] at c136
                   rw [weP_0 c136, bind_good rfl]
                   exact fin _ _ _ d5 r7 y4 kk ll)
              · refine aw_iconst (pc := 155) F dX9_spanStatement_155 ?_
                exact aw_iret (pc := 156) F dX9_spanStatement_156 (nar_bool (by first | exact b2i_01 | decide)) (Nat.zero_le _) (rr_bad0 c152 d5 h5)
          · refine aw_iconst (pc := 117) F dX9_spanStatement_117 ?_
            exact aw_iret (pc := 118) F dX9_spanStatement_118 (nar_bool (by first | exact b2i_01 | decide)) (Nat.zero_le _) (rr_bad0 c114 (((c1.f.tr d1).tr d2).tr d3) h4)
        · refine aw_iconst (pc := 79) F dX9_spanStatement_79 ?_
          exact aw_iret (pc := 80) F dX9_spanStatement_80 (nar_bool (by first | exact b2i_01 | decide)) (Nat.zero_le _) (by first | exact rr_bad0 c36 c1.f h1 | exact rr_bad0 c60 (c1.f.tr d1) h2 | exact rr_bad0 c76 ((c1.f.tr d1).tr d2) h3)
  · refine aw_aload0 (pc := 14) F dX9_spanStatement_14 ?_
    refine aw_iconst (pc := 15) F dX9_spanStatement_15 ?_
    refine aw_callVI1 (pc := 16) F dX9_spanStatement_16 ml_9_118 rfl (by first | decide | (simp only [inB, cnt, rcnt]; omega)) (ct9_fail _ _ _ tb) (Nat.le_of_ble_eq_true rfl) (by decide) (Nat.zero_le _) (fun v9 σ9 h9_16 => ?_)
    obtain ⟨rfl, rfl⟩ := h9_16
    exact aw_iret (pc := 19) F dX9_spanStatement_19 (nar_bool (by first | exact b2i_01 | decide)) (Nat.zero_le _) (by rw [show spP B n S i = badP B n i 5 from if_pos c11]; exact rr_bad (by decide) chF.rf hM)
