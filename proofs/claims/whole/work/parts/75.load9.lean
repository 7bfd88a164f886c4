/-! 75: the reference reads a text -/
theorem rr_frame {B : Int → Int} {n : Int} {M M1 : Id4 → Int → Int} {b : Bool} {r : PR} {v : Int} {σ' : Hp} (hc : chF M M1) (h14 : M1 (9, 0, 0, 0) 14 = M (9, 0, 0, 0) 14) (h15 : M1 (9, 0, 0, 0) 15 = M (9, 0, 0, 0) 15) (h : RRx B n M1 b r v σ') : RRx B n M b r v σ' := by
  obtain ⟨M', h1, h2, h3⟩ := h
  exact ⟨M', h1, hc.tr h2, h3.imp (fun z => ⟨z.1, z.2.1, z.2.2.1, z.2.2.2.1, z.2.2.2.2.1.trans h14, z.2.2.2.2.2.trans h15⟩) id⟩
/-- what reading a text leaves -/
def PP (M : Id4 → Int → Int) (b : Bool) (r : PR) : Int → Hp → Prop := fun v σ' => ∃ M', σ' = (M', R0 b) ∧ chF M M' ∧ ((r.1 = 0 ∧ v = 1 ∧ M' (9, 0, 1, 0) = r.2.2.1 ∧ M' (9, 0, 0, 0) 14 = M (9, 0, 0, 0) 14 ∧ M' (9, 0, 0, 0) 15 = M (9, 0, 0, 0) 15) ∨ (¬ r.1 = 0 ∧ v = 0 ∧ M' (9, 0, 0, 0) 14 = r.1 ∧ M' (9, 0, 0, 0) 15 = r.2.1))
theorem rr_pp {B : Int → Int} {n : Int} {M : Id4 → Int → Int} {b : Bool} {r : PR} {v : Int} {σ' : Hp} (h : RRx B n M b r v σ') : PP M b r v σ' := by
  obtain ⟨M', h1, h2, h3⟩ := h
  exact ⟨M', h1, h2, h3.imp (fun z => ⟨z.1, z.2.1, z.2.2.1.2.2.1, z.2.2.2.2⟩) id⟩
theorem ct9_parse (M : Id4 → Int → Int) (b : Bool) (B S : Int → Int) (n : Int) (hB : M (9, 0, 6, 0) = B) (hy : BY B) (hS : M (9, 0, 1, 0) = S) (hn : 0 ≤ n ∧ n ≤ 500) : CtI 7 0 yX9_parse cX9_parse 3 (some .boolean) [aR (9, 0, 0, 0), aI n] (M, R0 b) (fun v σ' => ∃ M1, (∀ q k, ¬ (q = (9, 0, 0, 0) ∧ (k = 6 ∨ k = 9 ∨ k = 11 ∨ k = 14 ∨ k = 15)) → q ≠ (9, 0, 1, 0) → M1 q k = M q k) ∧ M1 (9, 0, 0, 0) 6 = 0 ∧ M1 (9, 0, 0, 0) 14 = 0 ∧ M1 (9, 0, 0, 0) 15 = -1 ∧ PP M1 b (prsP B S n) v σ') := by
  refine CtI.mk (by decide +kernel) rfl (Nat.le_of_ble_eq_true rfl) (fun X K F hk => ?_)
  obtain ⟨Q9, hQ⟩ : ∃ Q9, Q9 = EI X K 0 (fun v σ' => ∃ M1, (∀ q k, ¬ (q = (9, 0, 0, 0) ∧ (k = 6 ∨ k = 9 ∨ k = 11 ∨ k = 14 ∨ k = 15)) → q ≠ (9, 0, 1, 0) → M1 q k = M q k) ∧ M1 (9, 0, 0, 0) 6 = 0 ∧ M1 (9, 0, 0, 0) 14 = 0 ∧ M1 (9, 0, 0, 0) 15 = -1 ∧ PP M1 b (prsP B S n) v σ') := ⟨_, rfl⟩
  obtain ⟨Mh, hMh⟩ : ∃ Mh, Mh = updM (updM (updM (updM (updM M (9, 0, 0, 0) 9 n) (9, 0, 0, 0) 6 0) (9, 0, 0, 0) 11 0) (9, 0, 0, 0) 14 0) (9, 0, 0, 0) 15 (-1) := ⟨_, rfl⟩
  obtain ⟨M1, hM1⟩ : ∃ M1, M1 = setA Mh (9, 0, 1, 0) (row0 S) := ⟨_, rfl⟩
  have o1 : ∀ k, M1 (9, 0, 0, 0) k = Mh (9, 0, 0, 0) k := fun k => by rw [hM1, setA_ne (by decide)]
  have f6 : M1 (9, 0, 0, 0) 6 = 0 := by rw [o1, hMh, upd_ne (Or.inr (by decide)), upd_ne (Or.inr (by decide)), upd_ne (Or.inr (by decide)), upd_same]
  have f9 : M1 (9, 0, 0, 0) 9 = n := by rw [o1, hMh, upd_ne (Or.inr (by decide)), upd_ne (Or.inr (by decide)), upd_ne (Or.inr (by decide)), upd_ne (Or.inr (by decide)), upd_same]
  have f11 : M1 (9, 0, 0, 0) 11 = 0 := by rw [o1, hMh, upd_ne (Or.inr (by decide)), upd_ne (Or.inr (by decide)), upd_same]
  have f14 : M1 (9, 0, 0, 0) 14 = 0 := by rw [o1, hMh, upd_ne (Or.inr (by decide)), upd_same]
  have f15 : M1 (9, 0, 0, 0) 15 = -1 := by rw [o1, hMh, upd_same]
  have fB : M1 (9, 0, 6, 0) = B := by rw [hM1, setA_ne (by decide), hMh, upd_off (by decide), upd_off (by decide), upd_off (by decide), upd_off (by decide), upd_off (by decide)]; exact hB
  have fS : M1 (9, 0, 1, 0) = row0 S := by rw [hM1, setA_same]
  have fr : ∀ q k, ¬ (q = (9, 0, 0, 0) ∧ (k = 6 ∨ k = 9 ∨ k = 11 ∨ k = 14 ∨ k = 15)) → q ≠ (9, 0, 1, 0) → M1 q k = M q k := fun q k z1 z2 => by
    rw [hM1, setA_ne z2, hMh]
    by_cases y : q = (9, 0, 0, 0)
    · have z3 : ¬ (k = 6 ∨ k = 9 ∨ k = 11 ∨ k = 14 ∨ k = 15) := fun w => z1 ⟨y, w⟩
      rw [upd_ne (Or.inr (by omega)), upd_ne (Or.inr (by omega)), upd_ne (Or.inr (by omega)), upd_ne (Or.inr (by omega)), upd_ne (Or.inr (by omega))]
    · rw [upd_ne (Or.inl y), upd_ne (Or.inl y), upd_ne (Or.inl y), upd_ne (Or.inl y), upd_ne (Or.inl y)]
  have fin0 : ∀ (M' : Id4 → Int → Int), PP M1 b (prsP B S n) 0 (M', R0 b) → AW X K 86 [aR (9, 0, 0, 0), aI n, aI 0] [] (M', R0 b) 0 Q9 := by
    intro M' hp
    refine aw_iload2 (pc := 86) F dX9_parse_86 ?_
    refine aw_if_eq (tgt := 120) (pc := 87) F dX9_parse_87 (by decide) (by unfold inR; omega) (fun c87 => ?_) (fun c87 => ?_)
    · refine aw_iload2 (pc := 120) F dX9_parse_120 ?_
      rw [hQ]
      exact aw_iret (pc := 121) F dX9_parse_121 (nar_bool (by first | exact b2i_01 | decide)) (Nat.zero_le _) ⟨M1, fr, f6, f14, f15, hp⟩
    · omega
  have loop : ∀ (f : Nat) (S' : Int → Int) (i' : Int) (M' : Id4 → Int → Int), n - i' < (f : Int) → RSx B n S' i' M' → TX B n i' → Ok S' → NB S' → chF M1 M' → M' (9, 0, 0, 0) 14 = M1 (9, 0, 0, 0) 14 → M' (9, 0, 0, 0) 15 = M1 (9, 0, 0, 0) 15 → prsP B S n = stsP B n f S' i' → AW X K 86 [aR (9, 0, 0, 0), aI n, aI 1] [] (M', R0 b) 0 Q9 := by
    intro f
    induction f with
    | zero =>
      intro S' i' M' hf a1 a2
      have := a2.2.2.2
      omega
    | succ f ih =>
      intro S' i' M' hf a1 a2 a3 a4 a5 a6 a7 a8
      have tb := a1.2.2.2.bd
      have tk := a1.2.2.2.2.2.1
      have es : stsP B n (f + 1) S' i' = if kdT B n i' = 0 then goodP S' i' else bindP (stP1 B n S' i') (fun S1 i1 => bindP (closP B n S1 i1) (fun S2 i2 => stsP B n f S2 i2)) := rfl
      refine aw_iload2 (pc := 86) F dX9_parse_86 ?_
      refine aw_if_eq (tgt := 120) (pc := 87) F dX9_parse_87 (by decide) (by unfold inR; omega) (fun c87 => ?_) (fun c87 => ?_)
      · omega
      · refine aw_aload0 (pc := 90) F dX9_parse_90 ?_
        refine aw_getI (pc := 91) F dX9_parse_91 fl_9_88 rfl (by first | decide | (simp only [inB, cnt, rcnt]; omega)) rfl nz12 ?_
        refine aw_if_eq (tgt := 120) (pc := 94) F dX9_parse_94 (by decide) tb (fun c94 => ?_) (fun c94 => ?_)
        · rw [hQ]
          refine aw_iload2 (pc := 120) F dX9_parse_120 ?_
          exact aw_iret (pc := 121) F dX9_parse_121 (nar_bool (by first | exact b2i_01 | decide)) (Nat.zero_le _) ⟨M1, fr, f6, f14, f15, by
            rw [a8, es, if_pos (by omega)]
            exact ⟨M', rfl, a5, Or.inl ⟨rfl, rfl, a1.2.2.1, a6, a7⟩⟩⟩
        · rw [es, if_neg (by omega)] at a8
          refine aw_aload0 (pc := 97) F dX9_parse_97 ?_
          refine aw_callVI0 (pc := 98) F dX9_parse_98 ml_9_173 rfl (by first | decide | (simp only [inB, cnt, rcnt]; omega)) (ct9_statement _ _ B S' n i' a2 a1 a3 a4) (Nat.le_of_ble_eq_true rfl) (by decide) (Nat.zero_le _) (fun v1 σ1 h1 => ?_)
          refine aw_if_eq (tgt := 115) (pc := 101) F dX9_parse_101 (by decide) (rr_v h1) (fun c101 => ?_) (fun c101 => ?_)
          · refine aw_iconst (pc := 115) F dX9_parse_115 ?_
            refine aw_istore2 (pc := 116) F dX9_parse_116 rfl hk.symm ?_
            refine aw_goto (tgt := 86) (pc := 117) F dX9_parse_117 (by decide) ?_
            first
            | (obtain ⟨M5, hσ, hh⟩ := id h2
               subst hσ
               refine fin0 M5 ?_
               rw [a8]
               exact rr_pp (rr_bad0 c108 (a5.tr d1) h2))
            | (obtain ⟨M5, hσ, hh⟩ := id h1
               subst hσ
               refine fin0 M5 ?_
               rw [a8]
               exact rr_pp (rr_bad0 c101 a5 h1))
            | exact ih _ _ M4 (by dsimp only [goodP]; omega) p2 x2 iv.1 iv.2.1 ((a5.tr d1).tr d2) (k2.trans (k1.trans a6)) (l2.trans (l1.trans a7)) a8
          · obtain ⟨-, g1, M3, hσ1, d1, p1, x1, k1, l1⟩ := (rr_cases h1).resolve_left (fun z => c101 z.1)
            subst hσ1
            have iv := stP1_inv a2 a3 a4 g1
            rw [bind_good g1] at a8
            refine aw_aload0 (pc := 104) F dX9_parse_104 ?_
            refine aw_callVI0 (pc := 105) F dX9_parse_105 ml_9_170 rfl (by first | decide | (simp only [inB, cnt, rcnt]; omega)) (ct9_closed _ _ B _ n _ x1 p1) (Nat.le_of_ble_eq_true rfl) (by decide) (Nat.zero_le _) (fun v2 σ2 h2 => ?_)
            refine aw_if_eq (tgt := 115) (pc := 108) F dX9_parse_108 (by decide) (rr_v h2) (fun c108 => ?_) (fun c108 => ?_)
            · refine aw_iconst (pc := 115) F dX9_parse_115 ?_
              refine aw_istore2 (pc := 116) F dX9_parse_116 rfl hk.symm ?_
              refine aw_goto (tgt := 86) (pc := 117) F dX9_parse_117 (by decide) ?_
              first
              | (obtain ⟨M5, hσ, hh⟩ := id h2
                 subst hσ
                 refine fin0 M5 ?_
                 rw [a8]
                 exact rr_pp (rr_bad0 c108 (a5.tr d1) h2))
              | (obtain ⟨M5, hσ, hh⟩ := id h1
                 subst hσ
                 refine fin0 M5 ?_
                 rw [a8]
                 exact rr_pp (rr_bad0 c101 a5 h1))
              | exact ih _ _ M4 (by dsimp only [goodP]; omega) p2 x2 iv.1 iv.2.1 ((a5.tr d1).tr d2) (k2.trans (k1.trans a6)) (l2.trans (l1.trans a7)) a8
            · obtain ⟨-, g2, M4, hσ2, d2, p2, x2, k2, l2⟩ := (rr_cases h2).resolve_left (fun z => c108 z.1)
              subst hσ2
              obtain ⟨ce, cg1, cg2⟩ := closP_ex x1 g2
              rw [bind_good g2, ce] at a8
              rw [ce] at p2 x2
              refine aw_iconst (pc := 111) F dX9_parse_111 ?_
              refine aw_goto (tgt := 116) (pc := 112) F dX9_parse_112 (by decide) ?_
              refine aw_istore2 (pc := 116) F dX9_parse_116 rfl hk.symm ?_
              refine aw_goto (tgt := 86) (pc := 117) F dX9_parse_117 (by decide) ?_
              first
              | (obtain ⟨M5, hσ, hh⟩ := id h2
                 subst hσ
                 refine fin0 M5 ?_
                 rw [a8]
                 exact rr_pp (rr_bad0 c108 (a5.tr d1) h2))
              | (obtain ⟨M5, hσ, hh⟩ := id h1
                 subst hσ
                 refine fin0 M5 ?_
                 rw [a8]
                 exact rr_pp (rr_bad0 c101 a5 h1))
              | exact ih _ _ M4 (by dsimp only [goodP]; omega) p2 x2 iv.1 iv.2.1 ((a5.tr d1).tr d2) (k2.trans (k1.trans a6)) (l2.trans (l1.trans a7)) a8
  have main : AW X K 54 [aR (9, 0, 0, 0), aI n, aI 91] [] (M1, R0 b) 0 Q9 := by
    have tx0 : TX B n 0 := ⟨hy, hn, Int.le_refl _, hn.1⟩
    refine aw_aload0 (pc := 54) F dX9_parse_54 ?_
    refine aw_callVI0 (pc := 55) F dX9_parse_55 ml_9_125 rfl (by first | decide | (simp only [inB, cnt, rcnt]; omega)) (ct9_advance _ _ B n 0 fB hy f9 hn f11 ⟨Int.le_refl _, hn.1⟩) (Nat.le_of_ble_eq_true rfl) (by decide) (Nat.zero_le _) (fun v9 σ9 h9_55 => ?_)
    obtain ⟨rfl, M2, rfl, c1, c2⟩ := h9_55
    have r2 := rs_adv fB f9 fS c1 c2
    have tk := c2.2.2.1
    refine aw_popI (pc := 58) F dX9_parse_58 ?_
    refine aw_aload0 (pc := 59) F dX9_parse_59 ?_
    refine aw_getI (pc := 60) F dX9_parse_60 fl_9_88 rfl (by first | decide | (simp only [inB, cnt, rcnt]; omega)) rfl nz12 ?_
    refine aw_if_eq (tgt := 80) (pc := 63) F dX9_parse_63 (by decide) c2.bd (fun c63 => ?_) (fun c63 => ?_)
    · refine aw_iconst (pc := 80) F dX9_parse_80 ?_
      refine aw_goto (tgt := 85) (pc := 81) F dX9_parse_81 (by decide) ?_
      refine aw_istore2 (pc := 85) F dX9_parse_85 rfl hk.symm ?_
      first
      | (obtain ⟨M5, hσ, hh⟩ := id h2
         subst hσ
         refine fin0 M5 ?_
         rw [ep, bind_good g1]
         exact rr_pp (rr_bad0 c77 (c1.f.tr d1) h2))
      | (obtain ⟨M5, hσ, hh⟩ := id h1
         subst hσ
         refine fin0 M5 ?_
         rw [ep]
         exact rr_pp (rr_bad0 rfl chF.rf (rr_bad0 c70 c1.f h1)))
      | exact loop 501 (row0 S) 0 M2 (by omega) r2 tx0 row0_ok.1 row0_ok.2 c1.f (c1 _ _ (by decide)) (c1 _ _ (by decide)) (by rw [show prsP B S n = goodP (row0 S) 0 from if_pos (by omega), show stsP B n 501 (row0 S) 0 = goodP (row0 S) 0 from if_pos (by omega)])
      | (obtain ⟨-, g2, M4, hσ2, d2, p2, x2, k2, l2⟩ := (rr_cases h2).resolve_left (fun z => c77 z.1)
         subst hσ2
         obtain ⟨ce, cg1, cg2⟩ := closP_ex x1 g2
         rw [bind_good g1, bind_good g2, ce] at ep
         rw [ce] at p2 x2
         exact loop 500 _ _ M4 (by dsimp only [goodP]; have := iv.2.2.1; omega) p2 x2 iv.1 iv.2.1 ((c1.f.tr d1).tr d2) (k2.trans (k1.trans (c1 _ _ (by decide)))) (l2.trans (l1.trans (c1 _ _ (by decide)))) ep)
    · have ep : prsP B S n = bindP (bindP (perP B n (row0 S) 0) (closP B n)) (fun S i => stsP B n 500 S i) := if_neg (by omega)
      refine aw_aload0 (pc := 66) F dX9_parse_66 ?_
      refine aw_callVI0 (pc := 67) F dX9_parse_67 ml_9_167 rfl (by first | decide | (simp only [inB, cnt, rcnt]; omega)) (ct9_periodStatement _ _ B (row0 S) n 0 tx0 r2) (Nat.le_of_ble_eq_true rfl) (by decide) (Nat.zero_le _) (fun v1 σ1 h1 => ?_)
      refine aw_if_eq (tgt := 84) (pc := 70) F dX9_parse_70 (by decide) (rr_v h1) (fun c70 => ?_) (fun c70 => ?_)
      · refine aw_iconst (pc := 84) F dX9_parse_84 ?_
        refine aw_istore2 (pc := 85) F dX9_parse_85 rfl hk.symm ?_
        first
        | (obtain ⟨M5, hσ, hh⟩ := id h2
           subst hσ
           refine fin0 M5 ?_
           rw [ep, bind_good g1]
           exact rr_pp (rr_bad0 c77 (c1.f.tr d1) h2))
        | (obtain ⟨M5, hσ, hh⟩ := id h1
           subst hσ
           refine fin0 M5 ?_
           rw [ep]
           exact rr_pp (rr_bad0 rfl chF.rf (rr_bad0 c70 c1.f h1)))
        | exact loop 501 (row0 S) 0 M2 (by omega) r2 tx0 row0_ok.1 row0_ok.2 c1.f (c1 _ _ (by decide)) (c1 _ _ (by decide)) (by rw [show prsP B S n = goodP (row0 S) 0 from if_pos (by omega), show stsP B n 501 (row0 S) 0 = goodP (row0 S) 0 from if_pos (by omega)])
        | (obtain ⟨-, g2, M4, hσ2, d2, p2, x2, k2, l2⟩ := (rr_cases h2).resolve_left (fun z => c77 z.1)
           subst hσ2
           obtain ⟨ce, cg1, cg2⟩ := closP_ex x1 g2
           rw [bind_good g1, bind_good g2, ce] at ep
           rw [ce] at p2 x2
           exact loop 500 _ _ M4 (by dsimp only [goodP]; have := iv.2.2.1; omega) p2 x2 iv.1 iv.2.1 ((c1.f.tr d1).tr d2) (k2.trans (k1.trans (c1 _ _ (by decide)))) (l2.trans (l1.trans (c1 _ _ (by decide)))) ep)
      · obtain ⟨-, g1, M3, hσ1, d1, p1, x1, k1, l1⟩ := (rr_cases h1).resolve_left (fun z => c70 z.1)
        subst hσ1
        have iv := perP_inv tx0 row0_ok.1 row0_ok.2 (if_pos ⟨by decide, by decide⟩) (if_pos ⟨by decide, by decide⟩) g1
        refine aw_aload0 (pc := 73) F dX9_parse_73 ?_
        refine aw_callVI0 (pc := 74) F dX9_parse_74 ml_9_170 rfl (by first | decide | (simp only [inB, cnt, rcnt]; omega)) (ct9_closed _ _ B _ n _ x1 p1) (Nat.le_of_ble_eq_true rfl) (by decide) (Nat.zero_le _) (fun v2 σ2 h2 => ?_)
        refine aw_if_eq (tgt := 84) (pc := 77) F dX9_parse_77 (by decide) (rr_v h2) (fun c77 => ?_) (fun c77 => ?_)
        · refine aw_iconst (pc := 84) F dX9_parse_84 ?_
          refine aw_istore2 (pc := 85) F dX9_parse_85 rfl hk.symm ?_
          first
          | (obtain ⟨M5, hσ, hh⟩ := id h2
             subst hσ
             refine fin0 M5 ?_
             rw [ep, bind_good g1]
             exact rr_pp (rr_bad0 c77 (c1.f.tr d1) h2))
          | (obtain ⟨M5, hσ, hh⟩ := id h1
             subst hσ
             refine fin0 M5 ?_
             rw [ep]
             exact rr_pp (rr_bad0 rfl chF.rf (rr_bad0 c70 c1.f h1)))
          | exact loop 501 (row0 S) 0 M2 (by omega) r2 tx0 row0_ok.1 row0_ok.2 c1.f (c1 _ _ (by decide)) (c1 _ _ (by decide)) (by rw [show prsP B S n = goodP (row0 S) 0 from if_pos (by omega), show stsP B n 501 (row0 S) 0 = goodP (row0 S) 0 from if_pos (by omega)])
          | (obtain ⟨-, g2, M4, hσ2, d2, p2, x2, k2, l2⟩ := (rr_cases h2).resolve_left (fun z => c77 z.1)
             subst hσ2
             obtain ⟨ce, cg1, cg2⟩ := closP_ex x1 g2
             rw [bind_good g1, bind_good g2, ce] at ep
             rw [ce] at p2 x2
             exact loop 500 _ _ M4 (by dsimp only [goodP]; have := iv.2.2.1; omega) p2 x2 iv.1 iv.2.1 ((c1.f.tr d1).tr d2) (k2.trans (k1.trans (c1 _ _ (by decide)))) (l2.trans (l1.trans (c1 _ _ (by decide)))) ep)
        · refine aw_iconst (pc := 80) F dX9_parse_80 ?_
          refine aw_goto (tgt := 85) (pc := 81) F dX9_parse_81 (by decide) ?_
          refine aw_istore2 (pc := 85) F dX9_parse_85 rfl hk.symm ?_
          first
          | (obtain ⟨M5, hσ, hh⟩ := id h2
             subst hσ
             refine fin0 M5 ?_
             rw [ep, bind_good g1]
             exact rr_pp (rr_bad0 c77 (c1.f.tr d1) h2))
          | (obtain ⟨M5, hσ, hh⟩ := id h1
             subst hσ
             refine fin0 M5 ?_
             rw [ep]
             exact rr_pp (rr_bad0 rfl chF.rf (rr_bad0 c70 c1.f h1)))
          | exact loop 501 (row0 S) 0 M2 (by omega) r2 tx0 row0_ok.1 row0_ok.2 c1.f (c1 _ _ (by decide)) (c1 _ _ (by decide)) (by rw [show prsP B S n = goodP (row0 S) 0 from if_pos (by omega), show stsP B n 501 (row0 S) 0 = goodP (row0 S) 0 from if_pos (by omega)])
          | (obtain ⟨-, g2, M4, hσ2, d2, p2, x2, k2, l2⟩ := (rr_cases h2).resolve_left (fun z => c77 z.1)
             subst hσ2
             obtain ⟨ce, cg1, cg2⟩ := closP_ex x1 g2
             rw [bind_good g1, bind_good g2, ce] at ep
             rw [ce] at p2 x2
             exact loop 500 _ _ M4 (by dsimp only [goodP]; have := iv.2.2.1; omega) p2 x2 iv.1 iv.2.1 ((c1.f.tr d1).tr d2) (k2.trans (k1.trans (c1 _ _ (by decide)))) (l2.trans (l1.trans (c1 _ _ (by decide)))) ep)
  have hrow : ∀ (j i : Nat) (A : Int → Int), i + j = 91 → A = (fun x => if 0 ≤ x ∧ x < (i : Int) then 0 else S x) → AW X K 27 [aR (9, 0, 0, 0), aI n, aI i] [] (setA Mh (9, 0, 1, 0) A, R0 b) 0 Q9 := by
    intro j
    induction j with
    | zero =>
      intro i A hi hA
      obtain rfl : i = 91 := by omega
      have e : upS A 0 12 = row0 S := by
        funext x
        unfold row0
        by_cases z : x = 0
        · rw [z, upS_same]; rfl
        · rw [upS_ne z, hA]
          by_cases y : 0 ≤ x ∧ x < 91
          · rw [if_pos y, if_neg z]; exact if_pos (by omega)
          · rw [if_neg y]; exact if_neg (by omega)
      refine aw_iload2 (pc := 27) F dX9_parse_27 ?_
      refine aw_bipush (pc := 28) F dX9_parse_28 (by decide) ?_
      refine aw_icmp_ge (tgt := 46) (pc := 30) F dX9_parse_30 (by decide) (by unfold inR; decide) (by unfold inR; decide) (fun c30 => ?_) (fun c30 => ?_)
      · refine aw_aload0 (pc := 46) F dX9_parse_46 ?_
        refine aw_getR (pc := 47) F dX9_parse_47 fl_9_7 rfl (by first | decide | (simp only [inB, cnt, rcnt]; omega)) rfl nz0 rfl ?_
        refine aw_iconst (pc := 50) F dX9_parse_50 ?_
        refine aw_bipush (pc := 51) F dX9_parse_51 (by decide) ?_
        refine aw_iast (pc := 53) F dX9_parse_53 rfl (by first | decide | (simp only [inB, cnt, rcnt]; omega)) (by omega) ?_
        rw [upd_setA, e, ← hM1]
        exact main
      · omega
    | succ j ih =>
      intro i A hi hA
      refine aw_iload2 (pc := 27) F dX9_parse_27 ?_
      refine aw_bipush (pc := 28) F dX9_parse_28 (by decide) ?_
      refine aw_icmp_ge (tgt := 46) (pc := 30) F dX9_parse_30 (by decide) (by unfold inR; omega) (by unfold inR; omega) (fun c30 => ?_) (fun c30 => ?_)
      · omega
      · refine aw_aload0 (pc := 33) F dX9_parse_33 ?_
        refine aw_getR (pc := 34) F dX9_parse_34 fl_9_7 rfl (by first | decide | (simp only [inB, cnt, rcnt]; omega)) rfl nz0 rfl ?_
        refine aw_iload2 (pc := 37) F dX9_parse_37 ?_
        refine aw_iconst (pc := 38) F dX9_parse_38 ?_
        refine aw_iast (pc := 39) F dX9_parse_39 rfl (by first | decide | (simp only [inB, cnt, rcnt]; omega)) (by omega) ?_
        refine aw_iinc2 (pc := 40) F dX9_parse_40 rfl hk.symm ?_
        refine aw_goto (tgt := 27) (pc := 43) F dX9_parse_43 (by decide) ?_
        rw [upd_setA]
        refine ih (i + 1) _ (by omega) (funext fun x => ?_)
        by_cases z : x = i
        · rw [z, upS_same]; exact (if_pos (by omega)).symm
        · rw [upS_ne z, hA]
          by_cases y : 0 ≤ x ∧ x < (i : Int)
          · exact (if_pos y).trans (if_pos (by omega)).symm
          · exact (if_neg y).trans (if_neg (by omega)).symm
  refine aw_aload0 (pc := 0) F dX9_parse_0 ?_
  refine aw_iload1 (pc := 1) F dX9_parse_1 ?_
  refine aw_putI (pc := 2) F dX9_parse_2 fl_9_71 fpi_9_9 rfl (by first | decide | (simp only [inB, cnt, rcnt]; omega)) rfl nz9 ?_
  refine aw_aload0 (pc := 5) F dX9_parse_5 ?_
  refine aw_iconst (pc := 6) F dX9_parse_6 ?_
  refine aw_putI (pc := 7) F dX9_parse_7 fl_9_64 fpi_9_6 rfl (by first | decide | (simp only [inB, cnt, rcnt]; omega)) rfl nz6 ?_
  refine aw_aload0 (pc := 10) F dX9_parse_10 ?_
  refine aw_iconst (pc := 11) F dX9_parse_11 ?_
  refine aw_putI (pc := 12) F dX9_parse_12 fl_9_74 fpi_9_11 rfl (by first | decide | (simp only [inB, cnt, rcnt]; omega)) rfl nz11 ?_
  refine aw_aload0 (pc := 15) F dX9_parse_15 ?_
  refine aw_iconst (pc := 16) F dX9_parse_16 ?_
  refine aw_putI (pc := 17) F dX9_parse_17 fl_9_112 fpi_9_14 rfl (by first | decide | (simp only [inB, cnt, rcnt]; omega)) rfl nz14 ?_
  refine aw_aload0 (pc := 20) F dX9_parse_20 ?_
  refine aw_iconst (pc := 21) F dX9_parse_21 ?_
  refine aw_putI (pc := 22) F dX9_parse_22 fl_9_115 fpi_9_15 rfl (by first | decide | (simp only [inB, cnt, rcnt]; omega)) rfl nz15 ?_
  refine aw_iconst (pc := 25) F dX9_parse_25 ?_
  refine aw_istore2 (pc := 26) F dX9_parse_26 rfl hk.symm ?_
  rw [← hMh, ← hQ]
  have g := hrow 91 0 S (by omega) (funext fun x => (if_neg (by omega)).symm)
  have e : setA Mh (9, 0, 1, 0) S = Mh := by
    have e2 : Mh (9, 0, 1, 0) = S := by rw [hMh, upd_off (by decide), upd_off (by decide), upd_off (by decide), upd_off (by decide), upd_off (by decide)]; exact hS
    rw [← e2, setA_id]
  rw [e] at g
  exact g
theorem ct9_isIn0 (M : Id4 → Int → Int) (b : Bool) (n : Int) (h1 : inR n) (h2 : 0 ≤ M (9, 0, 0, 0) 6 ∧ M (9, 0, 0, 0) 6 ≤ 500) : CtI 1 0 yX9_isIn cX9_isIn 3 (some .boolean) [aI n, aI 0, aI (M (9, 0, 0, 0) 6)] (M, R0 b) (PU (M, R0 b) (b2i (0 ≤ n ∧ n ≤ M (9, 0, 0, 0) 6))) := ct9_isIn _ _ _ _ _ h1 (by unfold inR; decide) (by unfold inR; omega)
/-- what load leaves of the reference -/
def L9 (M : Id4 → Int → Int) (b : Bool) (B S : Int → Int) (n q9 : Int) : Int → Hp → Prop := fun v σ' => ∃ M', σ' = (M', R0 b) ∧ (∀ q k, ¬ (scr9 q k ∨ q = (9, 0, 1, 0) ∨ (q = (9, 0, 0, 0) ∧ (k = 3 ∨ k = 6 ∨ k = 7 ∨ k = 8))) → M' q k = M q k) ∧ M' (9, 0, 0, 0) 4 = 0 ∧ M' (9, 0, 0, 0) 6 = 0 ∧ (((prsP B S n).1 = 0 ∧ v = (prsP B S n).2.2.1 20 ∧ M' (9, 0, 1, 0) = (prsP B S n).2.2.1 ∧ M' (9, 0, 0, 0) 3 = 0 ∧ M' (9, 0, 0, 0) 7 = 0 ∧ M' (9, 0, 0, 0) 8 = -1) ∨ (¬ (prsP B S n).1 = 0 ∧ v = -3 ∧ (∀ j, 0 ≤ j → j < 91 → M' (9, 0, 1, 0) j = S j) ∧ M' (9, 0, 0, 0) 3 = q9 ∧ M' (9, 0, 0, 0) 7 = (prsP B S n).1 ∧ M' (9, 0, 0, 0) 8 = (prsP B S n).2.1))
