/-! 70: the reference's statements -/
theorem rr_pass {B : Int → Int} {n : Int} {M M1 : Id4 → Int → Int} {b : Bool} {r : PR} {f : (Int → Int) → Int → PR} {σ' : Hp} (h0 : ¬ r.1 = 0) (hc : chF M M1) (h : RRx B n M1 b r 0 σ') : RRx B n M b (bindP r f) 0 σ' := by
  rw [bind_bad h0]
  obtain ⟨M', h1, h2, h3⟩ := h
  refine ⟨M', h1, hc.tr h2, Or.inr ?_⟩
  exact h3.resolve_left (fun z => h0 z.1)
theorem RSx.row {B : Int → Int} {n i k v : Int} {S : Int → Int} {M : Id4 → Int → Int} (h : RSx B n S i M) : RSx B n (upS S k v) i (updM M (9, 0, 1, 0) k v) := by
  obtain ⟨a, b, c, t1, t2, t3, t4⟩ := h
  have o : ∀ j, updM M (9, 0, 1, 0) k v (9, 0, 0, 0) j = M (9, 0, 0, 0) j := fun j => upd_ne (Or.inl (by decide))
  refine ⟨by rw [upd_off (by decide)]; exact a, by rw [o]; exact b, by rw [upd_row, c], by rw [o]; exact t1, by rw [o]; exact t2, by rw [o]; exact t3, fun z => by rw [o]; exact t4 z⟩
theorem ct9_eventStatement (M : Id4 → Int → Int) (b : Bool) (B S : Int → Int) (n i : Int) (hx : TX B n i) (hM : RSx B n S i M) (hO : Ok S) (hN : NB S) : CtI 5 0 yX9_eventStatement cX9_eventStatement 3 (some .boolean) [aR (9, 0, 0, 0)] (M, R0 b) (RRx B n M b (evP B n S i)) := by
  refine CtI.mk (by decide +kernel) rfl (Nat.le_of_ble_eq_true rfl) (fun X K F hk => ?_)
  obtain ⟨m1, m2, m3, t1, t2, t3, t4⟩ := id hM
  have tb := hM.2.2.2.bd
  have xn := hx.nx
  have hE := hO.2.1
  have hT := hO.1
  have s1 : M (9, 0, 1, 0) 1 = S 1 := congrFun m3 1
  refine aw_aload0 (pc := 0) F dX9_eventStatement_0 ?_
  refine aw_getR (pc := 1) F dX9_eventStatement_1 fl_9_7 rfl (by first | decide | (simp only [inB, cnt, rcnt]; omega)) rfl nz0 rfl ?_
  refine aw_iconst (pc := 4) F dX9_eventStatement_4 ?_
  refine aw_iald (pc := 5) F dX9_eventStatement_5 rfl (by first | decide | (simp only [inB, cnt, rcnt]; omega)) (by omega) ?_
  rw [s1]
  refine aw_istore1 (pc := 6) F dX9_eventStatement_6 rfl hk.symm ?_
  refine aw_iload1 (pc := 7) F dX9_eventStatement_7 ?_
  refine aw_bipush (pc := 8) F dX9_eventStatement_8 (by decide) ?_
  refine aw_icmp_ne (tgt := 19) (pc := 10) F dX9_eventStatement_10 (by decide) (by first | assumption | (unfold inR; omega)) (by first | assumption | (unfold inR; omega)) (fun c10 => ?_) (fun c10 => ?_)
  · refine aw_aload0 (pc := 19) F dX9_eventStatement_19 ?_
    refine aw_callVI0 (pc := 20) F dX9_eventStatement_20 ml_9_125 rfl (by first | decide | (simp only [inB, cnt, rcnt]; omega)) (ct9_advance _ _ B n (nxT B n i) m1 hx.1 m2 hx.2.1 t2 ⟨xn.2.2.1, xn.2.2.2⟩) (Nat.le_of_ble_eq_true rfl) (by decide) (Nat.zero_le _) (fun v9 σ9 h9_20 => ?_)
    obtain ⟨rfl, M2, rfl, c1, c2⟩ := h9_20
    have r2 := rs_adv m1 m2 m3 c1 c2
    have tb2 := c2.bd
    obtain ⟨u1, u2, u3, u4⟩ := id c2
    have xm := xn.nx
    have sb := stT_bd (B := B) xn.2.2.2
    refine aw_popI (pc := 23) F dX9_eventStatement_23 ?_
    refine aw_aload0 (pc := 24) F dX9_eventStatement_24 ?_
    refine aw_getI (pc := 25) F dX9_eventStatement_25 fl_9_88 rfl (by first | decide | (simp only [inB, cnt, rcnt]; omega)) rfl nz12 ?_
    refine aw_iconst (pc := 28) F dX9_eventStatement_28 ?_
    refine aw_icmp_eq (tgt := 38) (pc := 29) F dX9_eventStatement_29 (by decide) (by first | assumption | (unfold inR; omega)) (by first | assumption | (unfold inR; omega)) (fun c29 => ?_) (fun c29 => ?_)
    · have k3 : kdT B n (nxT B n i) = 2 := by omega
      have lt := kd2_lt xn k3
      have nb := nmD_bd (B := B) (S := S) (a := stT B n (nxT B n i)) (b := nxT B n (nxT B n i))
      refine aw_aload0 (pc := 38) F dX9_eventStatement_38 ?_
      refine aw_aload0 (pc := 39) F dX9_eventStatement_39 ?_
      refine aw_getI (pc := 40) F dX9_eventStatement_40 fl_9_85 rfl (by first | decide | (simp only [inB, cnt, rcnt]; omega)) rfl nz10 ?_
      refine aw_aload0 (pc := 43) F dX9_eventStatement_43 ?_
      refine aw_getI (pc := 44) F dX9_eventStatement_44 fl_9_74 rfl (by first | decide | (simp only [inB, cnt, rcnt]; omega)) rfl nz11 ?_
      rw [u1, u2]
      refine aw_pcallV2 (pc := 47) F dX9_eventStatement_47 ml_9_147 rfl (by first | decide | (simp only [inB, cnt, rcnt]; omega)) (ct9_eventNamed _ _ B S _ _ r2.1 r2.2.2.1 hE hN lt.1 ⟨by have := xn.2.2.1; omega, by omega⟩ (by have := xm.2.2.2; have := hx.2.1; omega) lt.2.2) (Nat.le_of_ble_eq_true rfl) (by decide) (Nat.zero_le _) ?_
      refine aw_iconst (pc := 50) F dX9_eventStatement_50 ?_
      refine aw_icmp_eq (tgt := 60) (pc := 51) F dX9_eventStatement_51 (by decide) (by first | assumption | (unfold inR; omega)) (by first | assumption | (unfold inR; omega)) (fun c51 => ?_) (fun c51 => ?_)
      · refine aw_aload0 (pc := 60) F dX9_eventStatement_60 ?_
        refine aw_getI (pc := 61) F dX9_eventStatement_61 fl_9_74 rfl (by first | decide | (simp only [inB, cnt, rcnt]; omega)) rfl nz11 ?_
        refine aw_aload0 (pc := 64) F dX9_eventStatement_64 ?_
        refine aw_getI (pc := 65) F dX9_eventStatement_65 fl_9_85 rfl (by first | decide | (simp only [inB, cnt, rcnt]; omega)) rfl nz10 ?_
        refine aw_iconst (pc := 68) F dX9_eventStatement_68 ?_
        refine aw_iadd (pc := 69) F dX9_eventStatement_69 ?_
        rw [u1, u2]
        refine aw_pcallS2 (pc := 70) F dX9_eventStatement_70 ml_9_129 (ctJ_min _ _ _ _ (by have := xm.2.2.2; have := hx.2.1; have := xn.2.2.1; unfold inR; omega) (by have := xm.2.2.2; have := hx.2.1; have := xn.2.2.1; unfold inR; omega)) (Nat.le_of_ble_eq_true rfl) (by decide) (Nat.zero_le _) ?_
        refine aw_istore2 (pc := 73) F dX9_eventStatement_73 rfl hk.symm ?_
        refine aw_aload0 (pc := 74) F dX9_eventStatement_74 ?_
        refine aw_getR (pc := 75) F dX9_eventStatement_75 fl_9_7 rfl (by first | decide | (simp only [inB, cnt, rcnt]; omega)) rfl nz0 rfl ?_
        refine aw_iconst (pc := 78) F dX9_eventStatement_78 ?_
        refine aw_iconst (pc := 79) F dX9_eventStatement_79 ?_
        refine aw_iload1 (pc := 80) F dX9_eventStatement_80 ?_
        refine aw_imul (pc := 81) F dX9_eventStatement_81 ?_
        refine aw_iadd (pc := 82) F dX9_eventStatement_82 ?_
        refine aw_aload0 (pc := 83) F dX9_eventStatement_83 ?_
        refine aw_aload0 (pc := 84) F dX9_eventStatement_84 ?_
        refine aw_getI (pc := 85) F dX9_eventStatement_85 fl_9_85 rfl (by first | decide | (simp only [inB, cnt, rcnt]; omega)) rfl nz10 ?_
        refine aw_iload2 (pc := 88) F dX9_eventStatement_88 ?_
        rw [u1]
        refine aw_pcallV2 (pc := 89) F dX9_eventStatement_89 ml_9_135 rfl (by first | decide | (simp only [inB, cnt, rcnt]; omega)) (ct9_codeOf _ _ B _ _ r2.1 (fun k k0 k1 => lt.1 k k0 (by omega)) ⟨by have := xn.2.2.1; omega, by omega⟩ (by have := xm.2.2.2; have := hx.2.1; omega) (by omega)) (Nat.le_of_ble_eq_true rfl) (by decide) (Nat.zero_le _) ?_
        refine aw_iast (pc := 92) F dX9_eventStatement_92 rfl (by first | decide | (simp only [inB, cnt, rcnt]; omega)) (by omega) ?_
        refine aw_aload0 (pc := 93) F dX9_eventStatement_93 ?_
        refine aw_getR (pc := 94) F dX9_eventStatement_94 fl_9_7 rfl (by first | decide | (simp only [inB, cnt, rcnt]; omega)) rfl nz0 rfl ?_
        refine aw_iconst (pc := 97) F dX9_eventStatement_97 ?_
        refine aw_iconst (pc := 98) F dX9_eventStatement_98 ?_
        refine aw_iload1 (pc := 99) F dX9_eventStatement_99 ?_
        refine aw_imul (pc := 100) F dX9_eventStatement_100 ?_
        refine aw_iadd (pc := 101) F dX9_eventStatement_101 ?_
        refine aw_iconst (pc := 102) F dX9_eventStatement_102 ?_
        refine aw_iadd (pc := 103) F dX9_eventStatement_103 ?_
        refine aw_aload0 (pc := 104) F dX9_eventStatement_104 ?_
        refine aw_iload2 (pc := 105) F dX9_eventStatement_105 ?_
        refine aw_aload0 (pc := 106) F dX9_eventStatement_106 ?_
        refine aw_getI (pc := 107) F dX9_eventStatement_107 fl_9_74 rfl (by first | decide | (simp only [inB, cnt, rcnt]; omega)) rfl nz11 ?_
        rw [upd_ne (Or.inl (by decide)), u2]
        refine aw_pcallV2 (pc := 110) F dX9_eventStatement_110 ml_9_135 rfl (by first | decide | (simp only [inB, cnt, rcnt]; omega)) (ct9_codeOf _ _ B _ _ (by rw [upd_off (by decide)]; exact r2.1) (fun k k0 k1 => lt.1 k (by omega) k1) ⟨by have := xn.2.2.1; omega, by omega⟩ (by have := xm.2.2.2; have := hx.2.1; omega) (by omega)) (Nat.le_of_ble_eq_true rfl) (by decide) (Nat.zero_le _) ?_
        refine aw_iast (pc := 113) F dX9_eventStatement_113 rfl (by first | decide | (simp only [inB, cnt, rcnt]; omega)) (by omega) ?_
        have r3 := (r2.row (k := 2 + 2 * S 1) (v := cdI B (stT B n (nxT B n i)) (min (nxT B n (nxT B n i)) (stT B n (nxT B n i) + 4)))).row (k := 2 + 2 * S 1 + 1) (v := cdI B (min (nxT B n (nxT B n i)) (stT B n (nxT B n i) + 4)) (nxT B n (nxT B n i)))
        have c3 := ((c1.f.st (k := 2 + 2 * S 1) (v := cdI B (stT B n (nxT B n i)) (min (nxT B n (nxT B n i)) (stT B n (nxT B n i) + 4))))).st (k := 2 + 2 * S 1 + 1) (v := cdI B (min (nxT B n (nxT B n i)) (stT B n (nxT B n i) + 4)) (nxT B n (nxT B n i)))
        refine aw_aload0 (pc := 114) F dX9_eventStatement_114 ?_
        refine aw_callVI0 (pc := 115) F dX9_eventStatement_115 ml_9_125 rfl (by first | decide | (simp only [inB, cnt, rcnt]; omega)) (ct9_advance _ _ B n (nxT B n (nxT B n i)) r3.1 hx.1 r3.2.1 hx.2.1 r3.2.2.2.2.1 ⟨xm.2.2.1, xm.2.2.2⟩) (Nat.le_of_ble_eq_true rfl) (by decide) (Nat.zero_le _) (fun v9 σ9 h9_115 => ?_)
        obtain ⟨rfl, M4, rfl, c4, c5⟩ := h9_115
        have r4 := rs_adv r3.1 r3.2.1 r3.2.2.1 c4 c5
        have z4 : M4 (9, 0, 1, 0) 0 = S 0 := by rw [r4.2.2.1, upS_ne (by omega), upS_ne (by omega)]
        refine aw_popI (pc := 118) F dX9_eventStatement_118 ?_
        refine aw_aload0 (pc := 119) F dX9_eventStatement_119 ?_
        refine aw_bipush (pc := 120) F dX9_eventStatement_120 (by decide) ?_
        refine aw_iload1 (pc := 122) F dX9_eventStatement_122 ?_
        refine aw_iadd (pc := 123) F dX9_eventStatement_123 ?_
        refine aw_iconst (pc := 124) F dX9_eventStatement_124 ?_
        refine aw_aload0 (pc := 125) F dX9_eventStatement_125 ?_
        refine aw_getR (pc := 126) F dX9_eventStatement_126 fl_9_7 rfl (by first | decide | (simp only [inB, cnt, rcnt]; omega)) rfl nz0 rfl ?_
        refine aw_iconst (pc := 129) F dX9_eventStatement_129 ?_
        refine aw_iald (pc := 130) F dX9_eventStatement_130 rfl (by first | decide | (simp only [inB, cnt, rcnt]; omega)) (by omega) ?_
        rw [z4]
        refine aw_iconst (pc := 131) F dX9_eventStatement_131 ?_
        refine aw_isub (pc := 132) F dX9_eventStatement_132 ?_
        refine aw_callVI3 (pc := 133) F dX9_eventStatement_133 ml_9_144 rfl (by first | decide | (simp only [inB, cnt, rcnt]; omega)) (ct9_number _ _ B _ n _ (14 + S 1) 0 (S 0 - 1) xm r4 (by omega) (by unfold inR; omega) (by unfold inR; omega)) (Nat.le_of_ble_eq_true rfl) (by decide) (Nat.zero_le _) (fun v9 σ9 h9 => ?_)
        have ee : evP B n S i = bindP (numP B n (14 + S 1) 0 (S 0 - 1) (nmU B S (stT B n (nxT B n i)) (nxT B n (nxT B n i))) (nxT B n (nxT B n i))) (fun S' i' => goodP (upS S' 1 (S' 1 + 1)) i') := (if_neg c10).trans ((if_neg (fun z => z k3)).trans (if_neg (fun z => z (by omega))))
        have h9' := h9
        obtain ⟨M5, rfl, d1, d2⟩ := h9
        refine aw_if_ne (tgt := 141) (pc := 136) F dX9_eventStatement_136 (by decide) (by rcases d2 with d2 | d2 <;> rw [d2.2.1] <;> (unfold inR; decide)) (fun c136 => ?_) (fun c136 => ?_)
        · obtain ⟨q1, q2, q3, q4, q5, q6⟩ := d2.resolve_right (fun z => by have := z.2.1; omega)
          obtain ⟨g1, g2, g3, g4⟩ := numP_good q1
          refine aw_aload0 (pc := 141) F dX9_eventStatement_141 ?_
          refine aw_getR (pc := 142) F dX9_eventStatement_142 fl_9_7 rfl (by first | decide | (simp only [inB, cnt, rcnt]; omega)) rfl nz0 rfl ?_
          refine aw_iconst (pc := 145) F dX9_eventStatement_145 ?_
          refine aw_dup2 (pc := 146) F dX9_eventStatement_146 ?_
          refine aw_iald (pc := 147) F dX9_eventStatement_147 rfl (by first | decide | (simp only [inB, cnt, rcnt]; omega)) (by omega) ?_
          refine aw_iconst (pc := 148) F dX9_eventStatement_148 ?_
          refine aw_iadd (pc := 149) F dX9_eventStatement_149 ?_
          refine aw_iast (pc := 150) F dX9_eventStatement_150 rfl (by first | decide | (simp only [inB, cnt, rcnt]; omega)) (by omega) ?_
          refine aw_iconst (pc := 151) F dX9_eventStatement_151 ?_
          exact aw_iret (pc := 152) F dX9_eventStatement_152 (nar_bool (by first | exact b2i_01 | decide)) (Nat.zero_le _) (by
            rw [ee]
            unfold nmU
            rw [bind_good q1]
            have q7 := q3.row (k := 1) (v := M5 (9, 0, 1, 0) 1 + 1)
            have e7 : M5 (9, 0, 1, 0) 1 = (numP B n (14 + S 1) 0 (S 0 - 1) (nmU B S (stT B n (nxT B n i)) (nxT B n (nxT B n i))) (nxT B n (nxT B n i))).2.2.1 1 := congrFun q3.2.2.1 1
            rw [e7] at q7
            rw [e7]
            refine ⟨_, rfl, ((c3.tr c4.f).tr d1).st, Or.inl ⟨rfl, rfl, q7, q4, ?_, ?_⟩⟩
            · rw [upd_ne (Or.inl (by decide)), q5, c4 _ _ (by decide), upd_ne (Or.inl (by decide)), upd_ne (Or.inl (by decide)), c1 _ _ (by decide)]
            · rw [upd_ne (Or.inl (by decide)), q6, c4 _ _ (by decide), upd_ne (Or.inl (by decide)), upd_ne (Or.inl (by decide)), c1 _ _ (by decide)])
        · refine aw_iconst (pc := 139) F dX9_eventStatement_139 ?_
          exact aw_iret (pc := 140) F dX9_eventStatement_140 (nar_bool (by first | exact b2i_01 | decide)) (Nat.zero_le _) (by
            rw [ee]
            have q := d2.resolve_left (fun z => by have := z.2.1; omega)
            have v0 : v9 = 0 := q.2.1
            subst v0
            exact rr_pass q.1 (c3.tr c4.f) h9')
      · refine aw_aload0 (pc := 54) F dX9_eventStatement_54 ?_
        refine aw_iconst (pc := 55) F dX9_eventStatement_55 ?_
        refine aw_callVI1 (pc := 56) F dX9_eventStatement_56 ml_9_118 rfl (by first | decide | (simp only [inB, cnt, rcnt]; omega)) (ct9_fail _ _ _ tb2) (Nat.le_of_ble_eq_true rfl) (by decide) (Nat.zero_le _) (fun v9 σ9 h9_56 => ?_)
        obtain ⟨rfl, rfl⟩ := h9_56
        exact aw_iret (pc := 59) F dX9_eventStatement_59 (nar_bool (by first | exact b2i_01 | decide)) (Nat.zero_le _) (by rw [show evP B n S i = badP B n (nxT B n i) 4 from (if_neg c10).trans ((if_neg (fun z => z k3)).trans (if_pos c51))]; exact rr_bad (by decide) c1.f r2)
    · refine aw_aload0 (pc := 32) F dX9_eventStatement_32 ?_
      refine aw_iconst (pc := 33) F dX9_eventStatement_33 ?_
      refine aw_callVI1 (pc := 34) F dX9_eventStatement_34 ml_9_118 rfl (by first | decide | (simp only [inB, cnt, rcnt]; omega)) (ct9_fail _ _ _ tb2) (Nat.le_of_ble_eq_true rfl) (by decide) (Nat.zero_le _) (fun v9 σ9 h9_34 => ?_)
      obtain ⟨rfl, rfl⟩ := h9_34
      exact aw_iret (pc := 37) F dX9_eventStatement_37 (nar_bool (by first | exact b2i_01 | decide)) (Nat.zero_le _) (by rw [show evP B n S i = badP B n (nxT B n i) 2 from (if_neg c10).trans (if_pos (by omega))]; exact rr_bad (by decide) c1.f r2)
  · refine aw_aload0 (pc := 13) F dX9_eventStatement_13 ?_
    refine aw_iconst (pc := 14) F dX9_eventStatement_14 ?_
    refine aw_callVI1 (pc := 15) F dX9_eventStatement_15 ml_9_118 rfl (by first | decide | (simp only [inB, cnt, rcnt]; omega)) (ct9_fail _ _ _ tb) (Nat.le_of_ble_eq_true rfl) (by decide) (Nat.zero_le _) (fun v9 σ9 h9_15 => ?_)
    obtain ⟨rfl, rfl⟩ := h9_15
    exact aw_iret (pc := 18) F dX9_eventStatement_18 (nar_bool (by first | exact b2i_01 | decide)) (Nat.zero_le _) (by rw [show evP B n S i = badP B n i 5 from if_pos c10]; exact rr_bad (by decide) chF.rf hM)
