/-! f4: the law's last test -/
set_option maxRecDepth 100000 in
set_option maxHeartbeats 4000000 in
theorem cdL_isFound (sx : Sx) (S : Int → Int) (L : List Id4) (M : Id4 → Int → Int) (Rf : Id4 → Int → Option Id4) (b : Bool) (hS : TRI S b L M Rf (goS S 1) (goS S 0)) : CdI sx 33 20 yL_isFound cL_isFound 3 (some .boolean) [aR (9, 0, 0, 0), aR (8, 0, 0, 0)] L (M, Rf) (fun v L' σ' => v = 1 ∧ L' = L ∧ CRx b σ'.2 ∧ ∃ S9, CN S9 σ'.1 ∧ S9 1 ≤ 5) := by
  obtain ⟨hCL, hCR, hCC, hw, hWF, ⟨q5, g1, ⟨g2, g3⟩, g4⟩, ⟨q6, k1, ⟨k2, k3⟩, k4⟩, hle⟩ := hS
  obtain ⟨⟨q2, q3, q4⟩, hp, hE, hN⟩ := id hWF
  have hok := hCC.2.1
  have hmin := FO_min hok (nAll S)
  rw [← goS_FO hok (by omega), ← goS_FO hok (by omega)] at hmin
  have hw8 : ¬ ((9, 0, 0, 0) : Id4).1 ≤ 8 := by decide
  refine CdI.mk (by decide +kernel) rfl (Nat.le_of_ble_eq_true rfl) (fun X G ρ F hk hsx => ?_)
  subst hsx
  by_cases hg : (goS S 1).1 = -1
  · have e2 := (g4.resolve_right (fun z => z.1 hg)).2
    refine dw_aload1 (pc := 0) F dL_isFound_0 ?_
    refine dw_cc (as := []) (pc := 1) F dL_isFound_1 ml_L_200 (ct8_isSolvable _ _ S hCC.1 hCC.2.1) hCL hCR (fun v σ9 z => ⟨z.1, by obtain ⟨M9, e9, h9⟩ := z.2; exact ⟨M9, e9, pl_s8 hCC h9⟩⟩) (Nat.le_of_ble_eq_true rfl) (by decide) (by omega) (fun v9 M9 hv9 hCC9 hO9 => ?_)
    rw [b2i_neg (fun z => z hg)] at hv9
    subst hv9
    refine dw_aload0 (pc := 4) F dL_isFound_4 ?_
    refine dw_getR (pc := 5) F dL_isFound_5 fl_L_13 (by first | assumption | rfl) (by first | assumption | (simp [*]; done)) rfl nz5 (by assumption) ?_
    refine dw_alen (pc := 8) F dL_isFound_8 e2 (by decide) g2 rfl ?_
    refine dw_if_le (tgt := 16) (pc := 9) F dL_isFound_9 (by decide) (by unfold inR; omega) (fun c9 => ?_) (fun c9 => absurd c9 (by omega))
    refine dw_iconst (pc := 16) F dL_isFound_16 ?_
    refine dw_icmp_eq (tgt := 22) (pc := 17) F dL_isFound_17 (by decide) (by unfold inR; omega) (by unfold inR; omega) (fun c17 => ?_) (fun c17 => absurd c17 (fun z => z rfl))
    refine dw_aload0 (pc := 22) F dL_isFound_22 ?_
    refine dw_getR (pc := 23) F dL_isFound_23 fl_L_13 (by first | assumption | rfl) (by first | assumption | (simp [*]; done)) rfl nz5 (by assumption) ?_
    refine dw_alen (pc := 26) F dL_isFound_26 e2 (by decide) g2 rfl ?_
    refine dw_if_ne (tgt := 35) (pc := 27) F dL_isFound_27 (by decide) (by unfold inR; omega) (fun c27 => absurd c27 (by omega)) (fun c27 => ?_)
    refine dw_aload1 (pc := 30) F dL_isFound_30 ?_
    refine dw_hcc (S := S) (Pv := fun v => v = 1) (pc := 31) F dL_isFound_31 mh_204 (ch_hopeless M9 b S hCC9 hg) hCL hCR (fun v σ9 z => z) (Nat.le_of_ble_eq_true rfl) (by decide) (by omega) (fun v8 M8 hv8 hCC8 hO8 => ?_)
    subst hv8
    exact dw_iret (pc := 34) F dL_isFound_34 (nar_bool (by first | exact b2i_01 | decide | omega)) (by omega) ⟨rfl, rfl, hCR, S, hCC8.cn, by omega⟩
  · obtain ⟨-, e2, e3⟩ := g4.resolve_left (fun z => hg z.1)
    have hg0 : ¬ (goS S 0).1 = -1 := by omega
    obtain ⟨-, f2, f3⟩ := k4.resolve_left (fun z => hg0 z.1)
    have hle' := hle hg0
    have hemp : ¬ emp (S 1) (tgS S) := fun z => hg (by
      have : goS S 1 = (-1, fun _ => 0) := if_pos z
      rw [this])
    obtain ⟨n1, hk1, hv1⟩ := go_inv hok (by omega) hg
    obtain ⟨n0, hk0, hv0⟩ := go_inv hok (by omega) hg0
    have ct1 := CT_lt hok (tau := tL S n1)
    have ct0 := CT_lt hok (tau := tL S n0)
    have c1 : (goS S 1).1 = CT S (tL S n1) := by rw [hv1]
    have c0 : (goS S 0).1 = CT S (tL S n0) := by rw [hv0]
    have hmin' : (goS S 0).1 ≤ (goS S 1).1 := by omega
    obtain ⟨ha1, ho1, ht1, -⟩ := sol_agt hok (by omega) (by omega) hg
    obtain ⟨S1, hS1⟩ : ∃ S1, S1 = solR S 1 := ⟨_, rfl⟩
    have hb1 := sol_brk hok (by omega) (by omega) hg
    rw [← hS1] at ha1 ho1 ht1 hb1
    have s11 : S1 1 = S 1 := ha1 1 (by omega)
    have hgg : goS S1 0 = goS S 0 := ha1.go hok ho1 (by omega)
    have hg1 : ¬ (goS S1 0).1 = -1 := by rw [hgg]; exact hg0
    obtain ⟨ha2, ho2, ht2, -⟩ := sol_agt ho1 (by omega) (by omega) hg1
    obtain ⟨S2, hS2⟩ : ∃ S2, S2 = solR S1 0 := ⟨_, rfl⟩
    rw [← hS2] at ha2 ho2 ht2
    have s21 : S2 1 = S 1 := (ha2 1 (by omega)).trans s11
    have bt : ∀ j, 0 ≤ j → j < S 1 → 0 ≤ (goS S 1).2 j ∧ (goS S 1).2 j ≤ 1000 := fun j j0 j1 => by
      rw [hv1]
      have := tL_bd hok (n := n1) (by omega) j0 j1
      show 0 ≤ tL S n1 j ∧ tL S n1 j ≤ 1000
      omega
    have bt0 : ∀ j, 0 ≤ j → j < S 1 → 0 ≤ (goS S 0).2 j ∧ (goS S 0).2 j ≤ 1000 := fun j j0 j1 => by
      rw [hv0]
      have := tL_bd hok (n := n0) (by omega) j0 j1
      show 0 ≤ tL S n0 j ∧ tL S n0 j ≤ 1000
      omega
    have loop2 : ∀ (f : Nat) (e : Int) (M1 : Id4 → Int → Int) (u : Nat), e + f = S 1 → 0 ≤ e → u ≤ 15 → (∀ q : Id4, ¬ q.1 ≤ 8 → M1 q = M q) → CN S2 M1 → DW X G ρ L L 120 [aR (9, 0, 0, 0), aR (8, 0, 0, 0), aI e] [] (M1, Rf) u (EId X G ρ L 20 (fun v L' σ' => v = 1 ∧ L' = L ∧ CRx b σ'.2 ∧ ∃ S9, CN S9 σ'.1 ∧ S9 1 ≤ 5)) := by
      intro f
      induction f with
      | zero =>
        intro e M1 u he he0 hu hO hCN
        refine dw_iload2 (pc := 120) F dL_isFound_120 ?_
        refine dw_aload0 (pc := 121) F dL_isFound_121 ?_
        refine dw_getI (pc := 122) F dL_isFound_122 fl_L_64 (by first | assumption | rfl) (by first | assumption | (simp [*]; done)) rfl nz3 ?_
        rw [hO _ hw8, q3]
        refine dw_icmp_ge (tgt := 150) (pc := 125) F dL_isFound_125 (by decide) (by unfold inR; omega) (by unfold inR; omega) (fun c125 => ?_) (fun c125 => absurd c125 (by omega))
        refine dw_iconst (pc := 150) F dL_isFound_150 ?_
        exact dw_iret (pc := 151) F dL_isFound_151 (nar_bool (by first | exact b2i_01 | decide | omega)) (by omega) ⟨rfl, rfl, hCR, S2, hCN, by omega⟩
      | succ f ih =>
        intro e M1 u he he0 hu hO hCN
        have hb := bt0 e he0 (by omega)
        refine dw_iload2 (pc := 120) F dL_isFound_120 ?_
        refine dw_aload0 (pc := 121) F dL_isFound_121 ?_
        refine dw_getI (pc := 122) F dL_isFound_122 fl_L_64 (by first | assumption | rfl) (by first | assumption | (simp [*]; done)) rfl nz3 ?_
        rw [hO _ hw8, q3]
        refine dw_icmp_ge (tgt := 150) (pc := 125) F dL_isFound_125 (by decide) (by unfold inR; omega) (by unfold inR; omega) (fun c125 => absurd c125 (by omega)) (fun c125 => ?_)
        refine dw_aload1 (pc := 128) F dL_isFound_128 ?_
        refine dw_iload2 (pc := 129) F dL_isFound_129 ?_
        refine dw_cp (as := [_]) (pc := 130) F dL_isFound_130 ml_L_106 (ct8_time0 _ _ S2 e hCN.1 hCN.2.1 (by omega)) hCL hCR (fun v σ9 z => z) (Nat.le_of_ble_eq_true rfl) (by decide) (by omega) ?_
        rw [ht2 e he0 (by omega), hgg]
        refine dw_aload0 (pc := 133) F dL_isFound_133 ?_
        refine dw_getR (pc := 134) F dL_isFound_134 fl_L_16 (by first | assumption | rfl) (by first | assumption | (simp [*]; done)) rfl nz6 (by assumption) ?_
        refine dw_iload2 (pc := 137) F dL_isFound_137 ?_
        refine dw_iald (pc := 138) F dL_isFound_138 f2 k2 (by omega) (by omega) ?_
        rw [hO q6 (by omega), f3 e he0 (by omega)]
        refine dw_icmp_eq (tgt := 144) (pc := 139) F dL_isFound_139 (by decide) (by unfold inR; omega) (by unfold inR; omega) (fun c139 => ?_) (fun c139 => absurd c139 (fun z => z rfl))
        refine dw_iinc2 (pc := 144) F dL_isFound_144 rfl hk.symm ?_
        refine dw_goto (tgt := 120) (pc := 147) F dL_isFound_147 (by decide) ?_
        exact ih (e + 1) M1 _ (by omega) (by omega) (by omega) hO hCN
    have loop1 : ∀ (f : Nat) (e : Int) (M1 : Id4 → Int → Int) (u : Nat), e + f = S 1 → 0 ≤ e → u ≤ 10 → (∀ q : Id4, ¬ q.1 ≤ 8 → M1 q = M q) → CN S1 M1 → DW X G ρ L L 75 [aR (9, 0, 0, 0), aR (8, 0, 0, 0), aI e] [] (M1, Rf) u (EId X G ρ L 20 (fun v L' σ' => v = 1 ∧ L' = L ∧ CRx b σ'.2 ∧ ∃ S9, CN S9 σ'.1 ∧ S9 1 ≤ 5)) := by
      intro f
      induction f with
      | zero =>
        intro e M1 u he he0 hu hO hCN
        obtain ⟨p1, p2, nx, n9, Hs, p3⟩ := id hCN
        refine dw_iload2 (pc := 75) F dL_isFound_75 ?_
        refine dw_aload0 (pc := 76) F dL_isFound_76 ?_
        refine dw_getI (pc := 77) F dL_isFound_77 fl_L_64 (by first | assumption | rfl) (by first | assumption | (simp [*]; done)) rfl nz3 ?_
        rw [hO _ hw8, q3]
        refine dw_icmp_ge (tgt := 105) (pc := 80) F dL_isFound_80 (by decide) (by unfold inR; omega) (by unfold inR; omega) (fun c80 => ?_) (fun c80 => absurd c80 (by omega))
        refine dw_aload1 (pc := 105) F dL_isFound_105 ?_
        refine dw_cn (as := []) (S := S2) (Pv := fun v => v = (goS S1 0).1) F dL_isFound_106 ml_L_216 (CxI.ct (cx8_cheapen M1 b S1 nx n9 Hs p1 p2 p3) (fun E9 σ9 z => hg1 z.1.2)) hCL hCR (fun v σ9 z => ⟨z.1, by
          obtain ⟨M9, nx9, e9, -, r1, r2⟩ := z.2.2
          exact ⟨M9, e9, by rw [hS2]; exact r1, ho2, nx9, _, _, r2⟩⟩) (Nat.le_of_ble_eq_true rfl) (by decide) (by omega) (fun v9 M9 hv9 hCN9 hO9 => ?_)
        rw [hgg] at hv9
        subst hv9
        refine dw_aload0 (pc := 109) F dL_isFound_109 ?_
        refine dw_getI (pc := 110) F dL_isFound_110 fl_L_197 (by first | assumption | rfl) (by first | assumption | (simp [*]; done)) rfl nz7 ?_
        rw [hO9 _ hw8, hO _ hw8, hle']
        refine dw_icmp_eq (tgt := 118) (pc := 113) F dL_isFound_113 (by decide) (by unfold inR; omega) (by unfold inR; omega) (fun c113 => ?_) (fun c113 => absurd c113 (fun z => z rfl))
        refine dw_iconst (pc := 118) F dL_isFound_118 ?_
        refine dw_istore2 (pc := 119) F dL_isFound_119 rfl hk.symm ?_
        exact loop2 (S 1).toNat 0 M9 _ (by omega) (by omega) (by omega) (fun q hq => (hO9 q hq).trans (hO q hq)) hCN9
      | succ f ih =>
        intro e M1 u he he0 hu hO hCN
        have hb := bt e he0 (by omega)
        refine dw_iload2 (pc := 75) F dL_isFound_75 ?_
        refine dw_aload0 (pc := 76) F dL_isFound_76 ?_
        refine dw_getI (pc := 77) F dL_isFound_77 fl_L_64 (by first | assumption | rfl) (by first | assumption | (simp [*]; done)) rfl nz3 ?_
        rw [hO _ hw8, q3]
        refine dw_icmp_ge (tgt := 105) (pc := 80) F dL_isFound_80 (by decide) (by unfold inR; omega) (by unfold inR; omega) (fun c80 => absurd c80 (by omega)) (fun c80 => ?_)
        refine dw_aload1 (pc := 83) F dL_isFound_83 ?_
        refine dw_iload2 (pc := 84) F dL_isFound_84 ?_
        refine dw_cp (as := [_]) (pc := 85) F dL_isFound_85 ml_L_106 (ct8_time0 _ _ S1 e hCN.1 hCN.2.1 (by omega)) hCL hCR (fun v σ9 z => z) (Nat.le_of_ble_eq_true rfl) (by decide) (by omega) ?_
        rw [ht1 e he0 (by omega)]
        refine dw_aload0 (pc := 88) F dL_isFound_88 ?_
        refine dw_getR (pc := 89) F dL_isFound_89 fl_L_13 (by first | assumption | rfl) (by first | assumption | (simp [*]; done)) rfl nz5 (by assumption) ?_
        refine dw_iload2 (pc := 92) F dL_isFound_92 ?_
        refine dw_iald (pc := 93) F dL_isFound_93 e2 g2 (by omega) (by omega) ?_
        rw [hO q5 (by omega), e3 e he0 (by omega)]
        refine dw_icmp_eq (tgt := 99) (pc := 94) F dL_isFound_94 (by decide) (by unfold inR; omega) (by unfold inR; omega) (fun c94 => ?_) (fun c94 => absurd c94 (fun z => z rfl))
        refine dw_iinc2 (pc := 99) F dL_isFound_99 rfl hk.symm ?_
        refine dw_goto (tgt := 75) (pc := 102) F dL_isFound_102 (by decide) ?_
        exact ih (e + 1) M1 _ (by omega) (by omega) (by omega) hO hCN
    refine dw_aload1 (pc := 0) F dL_isFound_0 ?_
    refine dw_cc (as := []) (pc := 1) F dL_isFound_1 ml_L_200 (ct8_isSolvable _ _ S hCC.1 hCC.2.1) hCL hCR (fun v σ9 z => ⟨z.1, by obtain ⟨M9, e9, h9⟩ := z.2; exact ⟨M9, e9, pl_s8 hCC h9⟩⟩) (Nat.le_of_ble_eq_true rfl) (by decide) (by omega) (fun v9 M9 hv9 hCC9 hO9 => ?_)
    rw [b2i_pos hg] at hv9
    subst hv9
    have hCC := hCC9
    have hO1 := hO9
    refine dw_aload0 (pc := 4) F dL_isFound_4 ?_
    refine dw_getR (pc := 5) F dL_isFound_5 fl_L_13 (by first | assumption | rfl) (by first | assumption | (simp [*]; done)) rfl nz5 (by assumption) ?_
    refine dw_alen (pc := 8) F dL_isFound_8 e2 (by decide) g2 rfl ?_
    refine dw_if_le (tgt := 16) (pc := 9) F dL_isFound_9 (by decide) (by unfold inR; omega) (fun c9 => absurd c9 (by omega)) (fun c9 => ?_)
    refine dw_iconst (pc := 12) F dL_isFound_12 ?_
    refine dw_goto (tgt := 17) (pc := 13) F dL_isFound_13 (by decide) ?_
    refine dw_icmp_eq (tgt := 22) (pc := 17) F dL_isFound_17 (by decide) (by unfold inR; omega) (by unfold inR; omega) (fun c17 => ?_) (fun c17 => absurd c17 (fun z => z rfl))
    refine dw_aload0 (pc := 22) F dL_isFound_22 ?_
    refine dw_getR (pc := 23) F dL_isFound_23 fl_L_13 (by first | assumption | rfl) (by first | assumption | (simp [*]; done)) rfl nz5 (by assumption) ?_
    refine dw_alen (pc := 26) F dL_isFound_26 e2 (by decide) g2 rfl ?_
    refine dw_if_ne (tgt := 35) (pc := 27) F dL_isFound_27 (by decide) (by unfold inR; omega) (fun c27 => ?_) (fun c27 => absurd c27 (by omega))
    refine dw_aload1 (pc := 35) F dL_isFound_35 ?_
    refine dw_cc (as := []) (pc := 36) F dL_isFound_36 ml_L_207 (ct8_isTight _ _ S hCC.1 hCC.2.1) hCL hCR (fun v σ9 z => ⟨z.1, by obtain ⟨M9, e9, h9⟩ := z.2; exact ⟨M9, e9, pl_s8 hCC h9⟩⟩) (Nat.le_of_ble_eq_true rfl) (by decide) (by omega) (fun v9 M9 hv9 hCC9 hO9 => ?_)
    obtain rfl : v9 = 1 := by
      rcases hv9 with z | z
      · exact absurd hemp z.2
      · exact z.1
    have hO2 : ∀ q : Id4, ¬ q.1 ≤ 8 → M9 q = M q := fun q hq => (hO9 q hq).trans (hO1 q hq)
    have hCC := hCC9
    refine dw_if_eq (tgt := 71) (pc := 39) F dL_isFound_39 (by decide) (by unfold inR; omega) (fun c39 => absurd c39 (by decide)) (fun c39 => ?_)
    refine dw_aload1 (pc := 42) F dL_isFound_42 ?_
    refine dw_cc (as := []) (S := S) (Pv := fun v => v = (goS S 0).1) F dL_isFound_43 ml_L_210 (CxI.ct (cx8_leastCost _ b S hCC.1 hCC.2.1) (fun E9 σ9 z => hg0 z.1.2)) hCL hCR (fun v σ9 z => ⟨z.1, by
      obtain ⟨M9, e9, h9⟩ := z.2.2
      exact ⟨M9, e9, pl_s8 hCC h9⟩⟩) (Nat.le_of_ble_eq_true rfl) (by decide) (by omega) (fun v9 M8 hv9 hCC8 hO8 => ?_)
    subst hv9
    have hO3 : ∀ q : Id4, ¬ q.1 ≤ 8 → M8 q = M q := fun q hq => (hO8 q hq).trans (hO2 q hq)
    refine dw_aload0 (pc := 46) F dL_isFound_46 ?_
    refine dw_getI (pc := 47) F dL_isFound_47 fl_L_197 (by first | assumption | rfl) (by first | assumption | (simp [*]; done)) rfl nz7 ?_
    rw [hO3 _ hw8, hle']
    refine dw_icmp_ne (tgt := 71) (pc := 50) F dL_isFound_50 (by decide) (by unfold inR; omega) (by unfold inR; omega) (fun c50 => absurd c50 (fun z => z rfl)) (fun c50 => ?_)
    obtain ⟨p1, p2, nx, Hs, p3⟩ := id hCC8
    refine dw_aload1 (pc := 53) F dL_isFound_53 ?_
    refine dw_cn (as := []) (S := S1) (Pv := fun v => v = (goS S 1).1) F dL_isFound_54 ml_L_213 (CxI.ct (cx8_solve M8 b S nx 0 Hs p1 p2 p3) (fun E9 σ9 z => hg z.1.2)) hCL hCR (fun v σ9 z => ⟨z.1, by
      obtain ⟨M9, nx9, e9, -, r1, r2⟩ := z.2.2
      exact ⟨M9, e9, by rw [hS1]; exact r1, ho1, nx9, _, _, r2⟩⟩) (Nat.le_of_ble_eq_true rfl) (by decide) (by omega) (fun v9 M7 hv9 hCN7 hO7 => ?_)
    subst hv9
    have hO4 : ∀ q : Id4, ¬ q.1 ≤ 8 → M7 q = M q := fun q hq => (hO7 q hq).trans (hO3 q hq)
    refine dw_aload0 (pc := 57) F dL_isFound_57 ?_
    refine dw_getI (pc := 58) F dL_isFound_58 fl_L_197 (by first | assumption | rfl) (by first | assumption | (simp [*]; done)) rfl nz7 ?_
    rw [hO4 _ hw8, hle']
    refine dw_icmp_lt (tgt := 71) (pc := 61) F dL_isFound_61 (by decide) (by unfold inR; omega) (by unfold inR; omega) (fun c61 => absurd c61 (by omega)) (fun c61 => ?_)
    refine dw_aload1 (pc := 64) F dL_isFound_64 ?_
    refine dw_cp (as := []) (pc := 65) F dL_isFound_65 ml_L_168 (ct8_broken _ _ S1 hCN7.1 hCN7.2.1) hCL hCR (fun v σ9 z => z) (Nat.le_of_ble_eq_true rfl) (by decide) (by omega) ?_
    rw [hb1]
    refine dw_if_eq (tgt := 73) (pc := 68) F dL_isFound_68 (by decide) (by unfold inR; omega) (fun c68 => ?_) (fun c68 => absurd c68 (fun z => z rfl))
    refine dw_iconst (pc := 73) F dL_isFound_73 ?_
    refine dw_istore2 (pc := 74) F dL_isFound_74 rfl hk.symm ?_
    exact loop1 (S 1).toNat 0 M7 _ (by omega) (by omega) (by omega) hO4 hCN7
