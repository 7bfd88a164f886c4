/-! 82: the class reads a span -/
theorem evIn_b2 {B S : Int → Int} {n idx but i : Int} (h : ¬ kdT B n i = 2) : evIn B n idx but S i = badP B n i 2 := if_pos h
theorem evIn_b4 {B S : Int → Int} {n idx but i : Int} (h : kdT B n i = 2) (h2 : nmD B S (stT B n i) (nxT B n i) = -1 ∨ nmD B S (stT B n i) (nxT B n i) = but) : evIn B n idx but S i = badP B n i 4 := (if_neg (fun z => z h)).trans (if_pos h2)
theorem evIn_ok {B S : Int → Int} {n idx but i v : Int} (h : kdT B n i = 2) (hv : v = nmD B S (stT B n i) (nxT B n i)) (h1 : ¬ v = -1) (h2 : ¬ v = but) : evIn B n idx but S i = goodP (upS S idx v) (nxT B n i) := by
  subst hv
  exact (if_neg (fun z => z h)).trans (if_neg (by omega))
theorem nmF_s {B S : Int → Int} {a b k v : Int} (hk : 14 ≤ k) : ∀ (f : Nat) (e : Int), e + f ≤ 6 → nmF B (upS S k v) a b f e = nmF B S a b f e
  | 0, _, _ => rfl
  | f + 1, e, h => by
    unfold nmF
    rw [nmF_s hk f (e + 1) (by omega)]
    have : nmE B (upS S k v) a b e ↔ nmE B S a b e := by
      unfold nmE
      rw [upS_ne (by omega), upS_ne (by omega)]
    by_cases z : nmE B S a b e
    · rw [if_pos z, if_pos (this.mpr z)]
    · rw [if_neg z, if_neg (fun y => z (this.mp y))]
theorem nmD_s {B S : Int → Int} {a b k v : Int} (hE : 0 ≤ S 1 ∧ S 1 ≤ 6) (hk : 14 ≤ k) : nmD B (upS S k v) a b = nmD B S a b := by
  unfold nmD
  rw [upS_ne (by omega)]
  exact nmF_s hk _ _ (by omega)
theorem sp_ap {S : Int → Int} {e1 e2 lo hi w : Int} (hW : 0 ≤ S 20) : upS (upS (upS (upS (upS (upS S (21 + 5 * S 20 + 0) e1) (21 + 5 * S 20 + 1) e2) (21 + 5 * S 20 + 2) lo) (21 + 5 * S 20 + 3) hi) (21 + 5 * S 20 + 4) w) 20 (S 20 + 1) = apS S e1 e2 lo hi w := by
  funext x
  by_cases z : x = 20
  · rw [z, upS_same, apS_n hW]
  · rw [upS_ne z]
    unfold apS
    by_cases a4 : x = 21 + 5 * S 20 + 4
    · rw [a4, upS_same, upS_same]
    · rw [upS_ne a4, upS_ne a4]
      by_cases a3 : x = 21 + 5 * S 20 + 3
      · rw [a3, upS_same, upS_same]
      · rw [upS_ne a3, upS_ne a3]
        by_cases a2 : x = 21 + 5 * S 20 + 2
        · rw [a2, upS_same, upS_same]
        · rw [upS_ne a2, upS_ne a2]
          by_cases a1 : x = 21 + 5 * S 20 + 1
          · rw [a1, upS_same, upS_same]
          · rw [upS_ne a1, upS_ne a1]
            by_cases a0 : x = 21 + 5 * S 20 + 0
            · rw [a0, upS_same, upS_same]
            · rw [upS_ne a0, upS_ne a0, upS_ne z]
theorem ct6_readSpan (M : Id4 → Int → Int) (B S : Int → Int) (n i : Int) (hx : TX B n i) (hC : CSx B n S (nxT B n i) M) (hO : Ok S) (h14 : S 20 < 14) : CtI 4 0 yX6_readSpan cX6_readSpan 6 (some .boolean) [aR (6, 0, 0, 0)] (M, R0 true) (RCx B n M (bindP (spP B n S i) (closP B n))) := by
  refine CtI.mk (by decide +kernel) rfl (Nat.le_of_ble_eq_true rfl) (fun X K F hk => ?_)
  obtain ⟨hB, hn, hR, hN, h8⟩ := hC
  have x1 := hx.nx
  have x2 := x1.nx
  have x3 := x2.nx
  have x4 := x3.nx
  have x5 := x4.nx
  have x6 := x5.nx
  have hE := hO.2.1
  have hT := hO.1
  have hW := hO.2.2.1
  have ne14 : ¬ S 20 = 14 := by omega
  have nb1 := nmD_bd (B := B) (S := S) (a := stT B n (nxT B n i)) (b := nxT B n (nxT B n i))
  have nb2 := nmD_bd (B := B) (S := S) (a := stT B n (nxT B n (nxT B n i))) (b := nxT B n (nxT B n (nxT B n i)))
  have vb3 := vlT_bd x3
  have vb4 := vlT_bd x4
  have vb5 := vlT_bd x5
  have es : spP B n S i = bindP (evIn B n (21 + 5 * S 20 + 0) (-1) S (nxT B n i)) (fun S1 i1 => bindP (evIn B n (21 + 5 * S 20 + 1) (S1 (21 + 5 * S 20 + 0)) S1 i1) (fun S2 i2 => bindP (numP B n (21 + 5 * S 20 + 2) 0 48 S2 i2) (fun S3 i3 => bindP (numP B n (21 + 5 * S 20 + 3) (S3 (21 + 5 * S 20 + 2)) (S3 (21 + 5 * S 20 + 2) + S3 0 - 1) S3 i3) (fun S4 i4 => bindP (weP B n (21 + 5 * S 20 + 4) S4 i4) (fun S5 i5 => goodP (upS S5 20 (S5 20 + 1)) i5))))) := if_neg ne14
  obtain ⟨Q9, hQ⟩ : ∃ Q9, Q9 = EI X K 0 (RCx B n M (bindP (spP B n S i) (closP B n))) := ⟨_, rfl⟩
  have bail43 : ∀ (M' : Id4 → Int → Int) {w1 w2 w3 : Int}, RCx B n M (bindP (spP B n S i) (closP B n)) 0 (M', R0 true) → AW X K 43 [aR (6, 0, 0, 0), aI w1, aI w2, aI w3, aX, aX] [] (M', R0 true) 0 Q9 := by
    intro M' w1 w2 w3 hr
    refine aw_iconst (pc := 43) F dX6_readSpan_43 ?_
    refine aw_goto (tgt := 63) (pc := 44) F dX6_readSpan_44 (by decide) ?_
    refine aw_istore4 (pc := 63) F dX6_readSpan_63 rfl hk.symm ?_
    refine aw_iload4 (pc := 65) F dX6_readSpan_65 ?_
    refine aw_iconst (pc := 67) F dX6_readSpan_67 ?_
    refine aw_icmp_ne (tgt := 73) (pc := 68) F dX6_readSpan_68 (by decide) (by unfold inR; decide) (by unfold inR; decide) (fun c68 => ?_) (fun c68 => ?_)
    · omega
    · refine aw_iconst (pc := 71) F dX6_readSpan_71 ?_
      rw [hQ]
      exact aw_iret (pc := 72) F dX6_readSpan_72 (nar_bool (by first | exact b2i_01 | decide)) (Nat.zero_le _) hr
  have bail26 : ∀ (M' : Id4 → Int → Int) {w1 w2 : Int}, RCx B n M (bindP (spP B n S i) (closP B n)) 0 (M', R0 true) → AW X K 26 [aR (6, 0, 0, 0), aI w1, aI w2, aX, aX, aX] [] (M', R0 true) 0 Q9 := by
    intro M' w1 w2 hr
    refine aw_iconst (pc := 26) F dX6_readSpan_26 ?_
    refine aw_goto (tgt := 37) (pc := 27) F dX6_readSpan_27 (by decide) ?_
    refine aw_istore3 (pc := 37) F dX6_readSpan_37 rfl hk.symm ?_
    refine aw_iload3 (pc := 38) F dX6_readSpan_38 ?_
    refine aw_iconst (pc := 39) F dX6_readSpan_39 ?_
    refine aw_icmp_ne (tgt := 47) (pc := 40) F dX6_readSpan_40 (by decide) (by unfold inR; decide) (by unfold inR; decide) (fun c40 => ?_) (fun c40 => ?_)
    · omega
    · exact bail43 M' hr
  have bail11 : ∀ (M' : Id4 → Int → Int) {w1 : Int}, RCx B n M (bindP (spP B n S i) (closP B n)) 0 (M', R0 true) → AW X K 11 [aR (6, 0, 0, 0), aI w1, aX, aX, aX, aX] [] (M', R0 true) 0 Q9 := by
    intro M' w1 hr
    refine aw_iconst (pc := 11) F dX6_readSpan_11 ?_
    refine aw_goto (tgt := 20) (pc := 12) F dX6_readSpan_12 (by decide) ?_
    refine aw_istore2 (pc := 20) F dX6_readSpan_20 rfl hk.symm ?_
    refine aw_iload2 (pc := 21) F dX6_readSpan_21 ?_
    refine aw_iconst (pc := 22) F dX6_readSpan_22 ?_
    refine aw_icmp_ne (tgt := 30) (pc := 23) F dX6_readSpan_23 (by decide) (by unfold inR; decide) (by unfold inR; decide) (fun c23 => ?_) (fun c23 => ?_)
    · omega
    · exact bail26 M' hr
  have bb : ∀ {r : PR} {k w : Int} {g : (Int → Int) → Int → PR}, ¬ w = 0 → r = badP B n k w → bindP r g = badP B n k w := fun {r k w g} hw hr => by
    rw [hr]
    exact bind_bad (badP_ne hw)
  have fin : ∀ (v1 v2 v3 v4 w i5 j : Int) (M' : Id4 → Int → Int), chZ M M' → TX B n j → TC B n j M' → M' (6, 0, 0, 0) 2 = M (6, 0, 0, 0) 2 → M' (6, 0, 0, 0) 3 = M (6, 0, 0, 0) 3 → spP B n S i = bindP (weP B n (21 + 5 * S 20 + 4) (upS (upS (upS (upS S (21 + 5 * S 20 + 0) v1) (21 + 5 * S 20 + 1) v2) (21 + 5 * S 20 + 2) v3) (21 + 5 * S 20 + 3) v4) i5) (fun S5 i5 => goodP (upS S5 20 (S5 20 + 1)) i5) → weP B n (21 + 5 * S 20 + 4) (upS (upS (upS (upS S (21 + 5 * S 20 + 0) v1) (21 + 5 * S 20 + 1) v2) (21 + 5 * S 20 + 2) v3) (21 + 5 * S 20 + 3) v4) i5 = goodP (upS (upS (upS (upS (upS S (21 + 5 * S 20 + 0) v1) (21 + 5 * S 20 + 1) v2) (21 + 5 * S 20 + 2) v3) (21 + 5 * S 20 + 3) v4) (21 + 5 * S 20 + 4) w) j → AW X K 113 [aR (6, 0, 0, 0), aI v1, aI v2, aI v3, aI v4, aI w] [] (M', R0 true) 0 Q9 := by
    intro v1 v2 v3 v4 w i5 j M' a1 a2 a3 a4 a5 a6 a7
    have e5 : spP B n S i = goodP (apS S v1 v2 v3 v4 w) j := by
      rw [a6, a7, bind_good rfl]
      dsimp only [goodP]
      rw [upS_ne (show (20 : Int) ≠ 21 + 5 * S 20 + 4 by omega), upS_ne (show (20 : Int) ≠ 21 + 5 * S 20 + 3 by omega), upS_ne (show (20 : Int) ≠ 21 + 5 * S 20 + 2 by omega), upS_ne (show (20 : Int) ≠ 21 + 5 * S 20 + 1 by omega), upS_ne (show (20 : Int) ≠ 21 + 5 * S 20 + 0 by omega), sp_ap hW.1]
    have t3 := a3.2.2.1
    refine aw_aload0 (pc := 113) F dX6_readSpan_113 ?_
    refine aw_getI (pc := 114) F dX6_readSpan_114 fl_6_39 rfl (by first | decide | (simp only [inB, cnt, rcnt]; omega)) rfl nz6 ?_
    refine aw_iconst (pc := 117) F dX6_readSpan_117 ?_
    refine aw_icmp_eq (tgt := 126) (pc := 118) F dX6_readSpan_118 (by decide) (by first | exact a3.bd | (unfold inR; decide)) (by first | exact a3.bd | (unfold inR; decide)) (fun c118 => ?_) (fun c118 => ?_)
    · refine aw_aload0 (pc := 126) F dX6_readSpan_126 ?_
      refine aw_getR (pc := 127) F dX6_readSpan_127 fl_6_12 rfl (by first | decide | (simp only [inB, cnt, rcnt]; omega)) rfl nz0 rfl ?_
      refine aw_iload1 (pc := 130) F dX6_readSpan_130 ?_
      refine aw_iload2 (pc := 131) F dX6_readSpan_131 ?_
      refine aw_iload3 (pc := 132) F dX6_readSpan_132 ?_
      refine aw_iload4 (pc := 133) F dX6_readSpan_133 ?_
      refine aw_iload5 (pc := 135) F dX6_readSpan_135 ?_
      refine aw_callVV5 (pc := 137) F dX6_readSpan_137 ml_6_126 rfl (by first | decide | (simp only [inB, cnt, rcnt]; omega)) (ct5_appendSpan _ _ S 2 v1 v2 v3 v4 w (by decide) (a1.pl hR) hO h14) (Nat.le_of_ble_eq_true rfl) (by decide) (Nat.zero_le _) (fun σ8 h9_137 => ?_)
      obtain ⟨M5, rfl, d1, d2⟩ := h9_137
      refine aw_iconst (pc := 140) F dX6_readSpan_140 ?_
      rw [hQ]
      exact aw_iret (pc := 141) F dX6_readSpan_141 (nar_bool (by first | exact b2i_01 | decide)) (Nat.zero_le _) (by
        have e6 : bindP (spP B n S i) (closP B n) = goodP (apS S v1 v2 v3 v4 w) (nxT B n j) := by
          rw [e5, bind_good rfl]
          have k4 : kdT B n j = 4 := by omega
          exact closP_ok k4
        rw [e6]
        have o : ∀ k, M5 (6, 0, 0, 0) k = M' (6, 0, 0, 0) k := fun k => by rw [d1 _ (by simp)]
        have s1 : apS S v1 v2 v3 v4 w 1 = S 1 := apS_lo (by decide) (by omega)
        refine ⟨M5, rfl, a1.w.tr d1.w, Or.inl ⟨rfl, rfl, ⟨(hB.z a1).w d1.w, by rw [o]; exact a1.n.trans hn, d2, ?_, by rw [o]; exact a3.2.1⟩, a2.nx, (o 6).trans (by omega), by rw [o, a4], by rw [o, a5]⟩⟩
        show NmR M5 1 (apS S v1 v2 v3 v4 w 1) (apS S v1 v2 v3 v4 w)
        rw [s1]
        exact (NmR.p d1 (a1.nm hN)).s (fun e e0 e1 => ⟨apS_lo (by omega) (by omega), apS_lo (by omega) (by omega)⟩))
    · refine aw_aload0 (pc := 121) F dX6_readSpan_121 ?_
      refine aw_callVI0 (pc := 122) F dX6_readSpan_122 ml_6_80 rfl (by first | decide | (simp only [inB, cnt, rcnt]; omega)) (ct6_unexpected _ _ B n j a3) (Nat.le_of_ble_eq_true rfl) (by decide) (Nat.zero_le _) (fun v9 σ9 h9_122 => ?_)
      obtain ⟨rfl, M3, rfl, c3, c4⟩ := h9_122
      rw [hQ]
      exact aw_iret (pc := 125) F dX6_readSpan_125 (nar_bool (Or.inl rfl)) (Nat.zero_le _) (rc_bad (i := j) (w := 2) (by have k4 : ¬ kdT B n j = 4 := by { omega }; rw [e5, bind_good rfl]; exact closP_b k4) (by decide) (a1.tr c3).w c4)
  rw [← hQ]
  refine aw_aload0 (pc := 0) F dX6_readSpan_0 ?_
  refine aw_iconst (pc := 1) F dX6_readSpan_1 ?_
  refine aw_callVI1 (pc := 2) F dX6_readSpan_2 ml_6_122 rfl (by first | decide | (simp only [inB, cnt, rcnt]; omega)) (ct6_readKnownEvent _ B S n (nxT B n i) (-1) (S 1) hB x1 hn h8 (by unfold inR; decide) hN ⟨rfl, hE⟩) (Nat.le_of_ble_eq_true rfl) (by decide) (Nat.zero_le _) (fun v1 σ1 h9_2 => ?_)
  obtain ⟨M1, rfl, c1, e1⟩ := h9_2
  refine aw_istore1 (pc := 5) F dX6_readSpan_5 rfl hk.symm ?_
  refine aw_iload1 (pc := 6) F dX6_readSpan_6 ?_
  refine aw_iconst (pc := 7) F dX6_readSpan_7 ?_
  refine aw_icmp_ne (tgt := 15) (pc := 8) F dX6_readSpan_8 (by decide) (by first | (unfold inR; decide) | (rcases e1 with q | q <;> (unfold inR; omega))) (by first | (unfold inR; decide) | (rcases e1 with q | q <;> (unfold inR; omega))) (fun c8 => ?_) (fun c8 => ?_)
  · obtain ⟨p1, p2, p3, p4, p5, p6, p7⟩ := e1.resolve_right (fun z => c8 z.1)
    rw [evIn_ok p2 p1 p3 p4, bind_good rfl] at es
    dsimp only [goodP] at es
    rw [upS_same] at es
    refine aw_aload0 (pc := 15) F dX6_readSpan_15 ?_
    refine aw_iload1 (pc := 16) F dX6_readSpan_16 ?_
    refine aw_callVI1 (pc := 17) F dX6_readSpan_17 ml_6_122 rfl (by first | decide | (simp only [inB, cnt, rcnt]; omega)) (ct6_readKnownEvent _ B S n (nxT B n (nxT B n i)) v1 (S 1) (hB.z c1) x2 (c1.n.trans hn) p5.2.1 (by unfold inR; omega) (c1.nm hN) ⟨rfl, hE⟩) (Nat.le_of_ble_eq_true rfl) (by decide) (Nat.zero_le _) (fun v2 σ2 h9_17 => ?_)
    obtain ⟨M2, rfl, c2, e2⟩ := h9_17
    refine aw_istore2 (pc := 20) F dX6_readSpan_20 rfl hk.symm ?_
    refine aw_iload2 (pc := 21) F dX6_readSpan_21 ?_
    refine aw_iconst (pc := 22) F dX6_readSpan_22 ?_
    refine aw_icmp_ne (tgt := 30) (pc := 23) F dX6_readSpan_23 (by decide) (by first | (unfold inR; decide) | (rcases e2 with q | q <;> (unfold inR; omega))) (by first | (unfold inR; decide) | (rcases e2 with q | q <;> (unfold inR; omega))) (fun c23 => ?_) (fun c23 => ?_)
    · obtain ⟨r1, r2, r3, r4, r5, r6, r7⟩ := e2.resolve_right (fun z => c23 z.1)
      rw [evIn_ok (v := v2) r2 (by rw [nmD_s hE (by omega)]; exact r1) r3 r4, bind_good rfl] at es
      dsimp only [goodP] at es
      refine aw_aload0 (pc := 30) F dX6_readSpan_30 ?_
      refine aw_iconst (pc := 31) F dX6_readSpan_31 ?_
      refine aw_bipush (pc := 32) F dX6_readSpan_32 (by decide) ?_
      refine aw_callVI2 (pc := 34) F dX6_readSpan_34 ml_6_83 rfl (by first | decide | (simp only [inB, cnt, rcnt]; omega)) (ct6_readNumber _ B n (nxT B n (nxT B n (nxT B n i))) 0 48 ((hB.z c1).z c2) x3 (c2.n.trans (c1.n.trans hn)) r5.2.1 (by unfold inR; decide) (by unfold inR; decide)) (Nat.le_of_ble_eq_true rfl) (by decide) (Nat.zero_le _) (fun v3 σ3 h9_34 => ?_)
      obtain ⟨M3, rfl, c3, e3⟩ := h9_34
      refine aw_istore3 (pc := 37) F dX6_readSpan_37 rfl hk.symm ?_
      refine aw_iload3 (pc := 38) F dX6_readSpan_38 ?_
      refine aw_iconst (pc := 39) F dX6_readSpan_39 ?_
      refine aw_icmp_ne (tgt := 47) (pc := 40) F dX6_readSpan_40 (by decide) (by first | (unfold inR; decide) | (rcases e3 with q | q <;> (unfold inR; omega))) (by first | (unfold inR; decide) | (rcases e3 with q | q <;> (unfold inR; omega))) (fun c40 => ?_) (fun c40 => ?_)
      · obtain ⟨s1, s2, s3, s4, s5⟩ := e3.resolve_right (fun z => c40 z.1)
        rw [numP_ok s2 s3, bind_good rfl] at es
        dsimp only [goodP] at es
        rw [upS_same, upS_ne (show (0 : Int) ≠ 21 + 5 * S 20 + 2 by omega), upS_ne (show (0 : Int) ≠ 21 + 5 * S 20 + 1 by omega), upS_ne (show (0 : Int) ≠ 21 + 5 * S 20 + 0 by omega), ← s1] at es
        have pe : M3 (5, 2, 0, 0) 0 = S 0 := (((c1.tr c2).tr c3).pl hR).1.1
        refine aw_aload0 (pc := 47) F dX6_readSpan_47 ?_
        refine aw_iload3 (pc := 48) F dX6_readSpan_48 ?_
        refine aw_iload3 (pc := 49) F dX6_readSpan_49 ?_
        refine aw_aload0 (pc := 50) F dX6_readSpan_50 ?_
        refine aw_getR (pc := 51) F dX6_readSpan_51 fl_6_12 rfl (by first | decide | (simp only [inB, cnt, rcnt]; omega)) rfl nz0 rfl ?_
        refine aw_getI (pc := 54) F dX6_readSpan_54 fl_6_117 rfl (by first | decide | (simp only [inB, cnt, rcnt]; omega)) rfl nz0 ?_
        rw [pe]
        refine aw_iadd (pc := 57) F dX6_readSpan_57 ?_
        refine aw_iconst (pc := 58) F dX6_readSpan_58 ?_
        refine aw_isub (pc := 59) F dX6_readSpan_59 ?_
        refine aw_callVI2 (pc := 60) F dX6_readSpan_60 ml_6_83 rfl (by first | decide | (simp only [inB, cnt, rcnt]; omega)) (ct6_readNumber _ B n (nxT B n (nxT B n (nxT B n (nxT B n i)))) v3 (v3 + S 0 - 1) (((hB.z c1).z c2).z c3) x4 (c3.n.trans (c2.n.trans (c1.n.trans hn))) s4.2.1 (by unfold inR; omega) (by unfold inR; omega)) (Nat.le_of_ble_eq_true rfl) (by decide) (Nat.zero_le _) (fun v4 σ4 h9_60 => ?_)
        obtain ⟨M4, rfl, c4, e4⟩ := h9_60
        refine aw_istore4 (pc := 63) F dX6_readSpan_63 rfl hk.symm ?_
        refine aw_iload4 (pc := 65) F dX6_readSpan_65 ?_
        refine aw_iconst (pc := 67) F dX6_readSpan_67 ?_
        refine aw_icmp_ne (tgt := 73) (pc := 68) F dX6_readSpan_68 (by decide) (by first | (unfold inR; decide) | (rcases e4 with q | q <;> (unfold inR; omega))) (by first | (unfold inR; decide) | (rcases e4 with q | q <;> (unfold inR; omega))) (fun c68 => ?_) (fun c68 => ?_)
        · obtain ⟨u1, u2, u3, u4, u5⟩ := e4.resolve_right (fun z => c68 z.1)
          rw [numP_ok u2 u3, bind_good rfl] at es
          dsimp only [goodP] at es
          rw [← u1] at es
          have z4 := ((c1.tr c2).tr c3).tr c4
          refine aw_iconst (pc := 73) F dX6_readSpan_73 ?_
          refine aw_istore5 (pc := 74) F dX6_readSpan_74 rfl hk.symm ?_
          refine aw_aload0 (pc := 76) F dX6_readSpan_76 ?_
          refine aw_callVV0 (pc := 77) F dX6_readSpan_77 ml_6_64 rfl (by first | decide | (simp only [inB, cnt, rcnt]; omega)) (ct6_nextToken _ B n (nxT B n (nxT B n (nxT B n (nxT B n (nxT B n i))))) (hB.z z4) x5 (z4.n.trans hn) u4.2.1) (Nat.le_of_ble_eq_true rfl) (by decide) (Nat.zero_le _) (fun σ5 h9_77 => ?_)
          obtain ⟨M5, rfl, c5, t5⟩ := h9_77
          have z5 := z4.tr c5.z
          have f2 : M5 (6, 0, 0, 0) 2 = M (6, 0, 0, 0) 2 := by rw [c5 _ _ (by decide), u5.1, s5.1, r6, p6]
          have f3 : M5 (6, 0, 0, 0) 3 = M (6, 0, 0, 0) 3 := by rw [c5 _ _ (by decide), u5.2, s5.2, r7, p7]
          refine aw_aload0 (pc := 80) F dX6_readSpan_80 ?_
          refine aw_getI (pc := 81) F dX6_readSpan_81 fl_6_39 rfl (by first | decide | (simp only [inB, cnt, rcnt]; omega)) rfl nz6 ?_
          refine aw_iconst (pc := 84) F dX6_readSpan_84 ?_
          refine aw_icmp_ne (tgt := 113) (pc := 85) F dX6_readSpan_85 (by decide) (by first | exact t5.bd | (unfold inR; decide)) (by first | exact t5.bd | (unfold inR; decide)) (fun c85 => ?_) (fun c85 => ?_)
          · first
            | (rw [v9]
               exact fin _ _ _ _ _ _ _ M6 (z5.tr c6.z) x6 t6 (by rw [c6 _ _ (by decide), f2]) (by rw [c6 _ _ (by decide), f3]) (es) (by rw [weP_3 k3, numP_ok k3 (by omega), upS_upS]) )
            | (have n3 : ¬ kdT B n (nxT B n (nxT B n (nxT B n (nxT B n (nxT B n i))))) = 3 := by have := t5.2.2.1; omega
               exact fin _ _ _ _ _ _ _ M5 z5 x5 t5 f2 f3 es (weP_0 n3))
          · have k3 : kdT B n (nxT B n (nxT B n (nxT B n (nxT B n (nxT B n i))))) = 3 := by have := t5.2.2.1; omega
            have v9 := t5.2.2.2 k3
            have v8 := vb5 k3
            have es3 := es
            rw [weP_3 k3] at es3
            refine aw_aload0 (pc := 88) F dX6_readSpan_88 ?_
            refine aw_getI (pc := 89) F dX6_readSpan_89 fl_6_48 rfl (by first | decide | (simp only [inB, cnt, rcnt]; omega)) rfl nz9 ?_
            refine aw_bipush (pc := 92) F dX6_readSpan_92 (by decide) ?_
            refine aw_icmp_le (tgt := 103) (pc := 94) F dX6_readSpan_94 (by decide) (by first | (rw [t5.2.2.2 (by have := t5.2.2.1; omega)]; have := vb5 (by have := t5.2.2.1; omega); unfold inR; omega) | (unfold inR; decide)) (by first | (rw [t5.2.2.2 (by have := t5.2.2.1; omega)]; have := vb5 (by have := t5.2.2.1; omega); unfold inR; omega) | (unfold inR; decide)) (fun c94 => ?_) (fun c94 => ?_)
            · refine aw_aload0 (pc := 103) F dX6_readSpan_103 ?_
              refine aw_getI (pc := 104) F dX6_readSpan_104 fl_6_48 rfl (by first | decide | (simp only [inB, cnt, rcnt]; omega)) rfl nz9 ?_
              refine aw_istore5 (pc := 107) F dX6_readSpan_107 rfl hk.symm ?_
              refine aw_aload0 (pc := 109) F dX6_readSpan_109 ?_
              refine aw_callVV0 (pc := 110) F dX6_readSpan_110 ml_6_64 rfl (by first | decide | (simp only [inB, cnt, rcnt]; omega)) (ct6_nextToken _ B n (nxT B n (nxT B n (nxT B n (nxT B n (nxT B n (nxT B n i)))))) (hB.z z5) x6 (z5.n.trans hn) t5.2.1) (Nat.le_of_ble_eq_true rfl) (by decide) (Nat.zero_le _) (fun σ6 h9_110 => ?_)
              obtain ⟨M6, rfl, c6, t6⟩ := h9_110
              first
              | (rw [v9]
                 exact fin _ _ _ _ _ _ _ M6 (z5.tr c6.z) x6 t6 (by rw [c6 _ _ (by decide), f2]) (by rw [c6 _ _ (by decide), f3]) (es) (by rw [weP_3 k3, numP_ok k3 (by omega), upS_upS]) )
              | (have n3 : ¬ kdT B n (nxT B n (nxT B n (nxT B n (nxT B n (nxT B n i))))) = 3 := by have := t5.2.2.1; omega
                 exact fin _ _ _ _ _ _ _ M5 z5 x5 t5 f2 f3 es (weP_0 n3))
            · refine aw_aload0 (pc := 97) F dX6_readSpan_97 ?_
              refine aw_iconst (pc := 98) F dX6_readSpan_98 ?_
              refine aw_callVI1 (pc := 99) F dX6_readSpan_99 ml_6_97 rfl (by first | decide | (simp only [inB, cnt, rcnt]; omega)) (ct6_fail _ _ _) (Nat.le_of_ble_eq_true rfl) (by decide) (Nat.zero_le _) (fun v7 σ7 h9_99 => ?_)
              obtain ⟨rfl, rfl⟩ := h9_99
              rw [hQ]
              exact aw_iret (pc := 102) F dX6_readSpan_102 (nar_bool (Or.inl rfl)) (Nat.zero_le _) (rc_bad (i := nxT B n (nxT B n (nxT B n (nxT B n (nxT B n i))))) (w := 3) (bb (by decide) (by rw [es3]; exact bb (by decide) (numP_b3 k3 (by omega)))) (by decide) (z5.tr ((chZ.rf.up (by decide)).up (by decide))).w (tc_fail t5 (by omega)))
        · refine aw_iconst (pc := 71) F dX6_readSpan_71 ?_
          rw [hQ]
          exact aw_iret (pc := 72) F dX6_readSpan_72 (nar_bool (by first | exact b2i_01 | decide)) (Nat.zero_le _) (by
            have w1 := (((c1.tr c2).tr c3).tr c4).w
            obtain ⟨-, q⟩ := e4.resolve_left (fun z => by have := z.2.2.1; omega)
            rcases q with q | q
            · exact rc_bad (i := nxT B n (nxT B n (nxT B n (nxT B n i)))) (w := 2) (bb (by decide) (by rw [es]; exact bb (by decide) (numP_b2 q.1))) (by decide) w1 q.2
            · exact rc_bad (i := nxT B n (nxT B n (nxT B n (nxT B n i)))) (w := 3) (bb (by decide) (by rw [es]; exact bb (by decide) (numP_b3 q.1 q.2.1))) (by decide) w1 q.2.2)
      · refine bail43 M3 ?_
        obtain ⟨-, q⟩ := e3.resolve_left (fun z => by have := z.2.2.1; omega)
        rcases q with q | q
        · exact rc_bad (i := nxT B n (nxT B n (nxT B n i))) (w := 2) (bb (by decide) (by rw [es]; exact bb (by decide) (numP_b2 q.1))) (by decide) ((c1.tr c2).tr c3).w q.2
        · exact rc_bad (i := nxT B n (nxT B n (nxT B n i))) (w := 3) (bb (by decide) (by rw [es]; exact bb (by decide) (numP_b3 q.1 q.2.1))) (by decide) ((c1.tr c2).tr c3).w q.2.2
    · refine bail26 M2 ?_
      obtain ⟨-, q⟩ := e2.resolve_left (fun z => by have := z.2.2.1; omega)
      rcases q with q | q
      · exact rc_bad (i := nxT B n (nxT B n i)) (w := 2) (bb (by decide) (by rw [es]; exact bb (by decide) (evIn_b2 q.1))) (by decide) (c1.tr c2).w q.2
      · exact rc_bad (i := nxT B n (nxT B n i)) (w := 4) (bb (by decide) (by rw [es]; exact bb (by decide) (evIn_b4 q.1 (by rw [nmD_s hE (by omega)]; exact q.2.1)))) (by decide) (c1.tr c2).w q.2.2
  · refine bail11 M1 ?_
    obtain ⟨-, q⟩ := e1.resolve_left (fun z => by have := z.2.2.1; omega)
    rcases q with q | q
    · exact rc_bad (i := nxT B n i) (w := 2) (bb (by decide) (by rw [es]; exact bb (by decide) (evIn_b2 q.1))) (by decide) c1.w q.2
    · exact rc_bad (i := nxT B n i) (w := 4) (bb (by decide) (by rw [es]; exact bb (by decide) (evIn_b4 q.1 q.2.1))) (by decide) c1.w q.2.2
