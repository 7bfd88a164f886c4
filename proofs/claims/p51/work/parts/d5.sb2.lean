/-! d5: a StringBuilder: its making, numbers put at its end -/
def dg (v : Int) : Nat := if v < 10 then 1 else 2
def dgt (v j : Int) : Int := if v < 10 then 48 + v else if j = 0 then 48 + v / 10 else 48 + v % 10
theorem narB {x : Int} (h : 0 ≤ x ∧ x ≤ 127) : vp_nar .byte (Int32.ofInt x) = Int32.ofInt x := by
  obtain ⟨n, rfl⟩ : ∃ n : Nat, x = (n : Int) := ⟨x.toNat, by omega⟩
  have key : ∀ n : Nat, n < 128 → vp_nar .byte (Int32.ofInt (n : Int)) = Int32.ofInt (n : Int) := by decide +kernel
  exact key n (by omega)
set_option maxRecDepth 100000 in
theorem cdJ_stringSize (sx : Sx) (L : List Id4) (M : Id4 → Int → Int) (Rf : Id4 → Int → Option Id4) (v : Int) (hv : 0 ≤ v ∧ v ≤ 99) : CdI sx 1 0 yJ6_stringSize_0f7a4 cJ6_stringSize_0f7a4 4 (some .int) [aI v] L (M, Rf) (PUd L (M, Rf) (dg v)) := by
  refine CdI.mk (by decide +kernel) rfl (Nat.le_of_ble_eq_true rfl) (fun X G ρ F hk hsx => ?_)
  subst hsx
  have h2 : 10 ≤ v → DW X G ρ L L 16 [aI (-v), aI 0, aI (10 * (-10)), aI (1 + 1)] [] (M, Rf) 0 (EId X G ρ L 0 (PUd L (M, Rf) (dg v))) := fun hv2 => by
    refine dw_iload3 (pc := 16) F dJ6_stringSize_0f7a4_16 ?_
    refine dw_bipush (pc := 17) F dJ6_stringSize_0f7a4_17 (by decide) ?_
    refine dw_icmp_ge (tgt := 42) (pc := 19) F dJ6_stringSize_0f7a4_19 (by decide) (by unfold inR; omega) (by unfold inR; omega) (fun c19 => absurd c19 (by omega)) (fun c19 => ?_)
    refine dw_iload0 (pc := 22) F dJ6_stringSize_0f7a4_22 ?_
    refine dw_iload2 (pc := 23) F dJ6_stringSize_0f7a4_23 ?_
    refine dw_icmp_le (tgt := 31) (pc := 24) F dJ6_stringSize_0f7a4_24 (by decide) (by unfold inR; omega) (by unfold inR; omega) (fun c24 => absurd c24 (by omega)) (fun c24 => ?_)
    refine dw_iload3 (pc := 27) F dJ6_stringSize_0f7a4_27 ?_
    refine dw_iload1 (pc := 28) F dJ6_stringSize_0f7a4_28 ?_
    refine dw_iadd (pc := 29) F dJ6_stringSize_0f7a4_29 ?_
    exact dw_iret (pc := 30) F dJ6_stringSize_0f7a4_30 rfl (by omega) ⟨by rw [show dg v = 2 from if_neg (by omega)]; rfl, rfl, rfl⟩
  have h1 : DW X G ρ L L 16 [aI (-v), aI 0, aI (-10), aI 1] [] (M, Rf) 0 (EId X G ρ L 0 (PUd L (M, Rf) (dg v))) := by
    refine dw_iload3 (pc := 16) F dJ6_stringSize_0f7a4_16 ?_
    refine dw_bipush (pc := 17) F dJ6_stringSize_0f7a4_17 (by decide) ?_
    refine dw_icmp_ge (tgt := 42) (pc := 19) F dJ6_stringSize_0f7a4_19 (by decide) (by unfold inR; omega) (by unfold inR; omega) (fun c19 => absurd c19 (by omega)) (fun c19 => ?_)
    refine dw_iload0 (pc := 22) F dJ6_stringSize_0f7a4_22 ?_
    refine dw_iload2 (pc := 23) F dJ6_stringSize_0f7a4_23 ?_
    refine dw_icmp_le (tgt := 31) (pc := 24) F dJ6_stringSize_0f7a4_24 (by decide) (by unfold inR; omega) (by unfold inR; omega) (fun c24 => ?_) (fun c24 => ?_)
    · refine dw_bipush (pc := 31) F dJ6_stringSize_0f7a4_31 (by decide) ?_
      refine dw_iload2 (pc := 33) F dJ6_stringSize_0f7a4_33 ?_
      refine dw_imul (pc := 34) F dJ6_stringSize_0f7a4_34 ?_
      refine dw_istore2 (pc := 35) F dJ6_stringSize_0f7a4_35 rfl hk.symm ?_
      refine dw_iinc3 (pc := 36) F dJ6_stringSize_0f7a4_36 rfl hk.symm ?_
      refine dw_goto (tgt := 16) (pc := 39) F dJ6_stringSize_0f7a4_39 (by decide) ?_
      exact h2 (by omega)
    · refine dw_iload3 (pc := 27) F dJ6_stringSize_0f7a4_27 ?_
      refine dw_iload1 (pc := 28) F dJ6_stringSize_0f7a4_28 ?_
      refine dw_iadd (pc := 29) F dJ6_stringSize_0f7a4_29 ?_
      exact dw_iret (pc := 30) F dJ6_stringSize_0f7a4_30 rfl (by omega) ⟨by rw [show dg v = 1 from if_pos (by omega)]; rfl, rfl, rfl⟩
  refine dw_iconst (pc := 0) F dJ6_stringSize_0f7a4_0 ?_
  refine dw_istore1 (pc := 1) F dJ6_stringSize_0f7a4_1 rfl hk.symm ?_
  refine dw_iload0 (pc := 2) F dJ6_stringSize_0f7a4_2 ?_
  refine dw_if_lt (tgt := 11) (pc := 3) F dJ6_stringSize_0f7a4_3 (by decide) (by unfold inR; omega) (fun c3 => absurd c3 (by omega)) (fun c3 => ?_)
  refine dw_iconst (pc := 6) F dJ6_stringSize_0f7a4_6 ?_
  refine dw_istore1 (pc := 7) F dJ6_stringSize_0f7a4_7 rfl hk.symm ?_
  refine dw_iload0 (pc := 8) F dJ6_stringSize_0f7a4_8 ?_
  refine dw_ineg (pc := 9) F dJ6_stringSize_0f7a4_9 ?_
  refine dw_istore0 (pc := 10) F dJ6_stringSize_0f7a4_10 rfl hk.symm ?_
  refine dw_bipush (pc := 11) F dJ6_stringSize_0f7a4_11 (by decide) ?_
  refine dw_istore2 (pc := 13) F dJ6_stringSize_0f7a4_13 rfl hk.symm ?_
  refine dw_iconst (pc := 14) F dJ6_stringSize_0f7a4_14 ?_
  refine dw_istore3 (pc := 15) F dJ6_stringSize_0f7a4_15 rfl hk.symm ?_
  exact h1
def wrD (M : Id4 → Int → Int) (bq : Id4) (k v : Int) : Id4 → Int → Int := if v < 10 then updM M bq (k + (-1)) (48 + v % 10) else updM (updM M bq (k + (-1)) (48 + v % 10)) bq (k + (-1) + (-1)) (48 + v / 10)
set_option maxRecDepth 100000 in
theorem cdJ_getChars (sx : Sx) (L : List Id4) (M : Id4 → Int → Int) (Rf : Id4 → Int → Option Id4) (v k : Int) (bq : Id4) (m : Nat) (hv : 0 ≤ v ∧ v ≤ 99) (hkb : kd bq = .inr (1, m)) (hmb : bq ∈ L) (hm : m ≤ 1000) (hk9 : dg v ≤ k ∧ k ≤ m) : CdI sx 1 0 yJ6_getChars_ba4f3 cJ6_getChars_ba4f3 7 (some .int) [aI v, aI k, aR bq] L (M, Rf) (fun _ L' σ' => L' = L ∧ σ' = (wrD M bq k v, Rf)) := by
  have hd9 : v < 10 → dg v = 1 := fun h => if_pos h
  have hd8 : ¬ v < 10 → dg v = 2 := fun h => if_neg h
  refine CdI.mk (by decide +kernel) rfl (Nat.le_of_ble_eq_true rfl) (fun X G ρ F hk hsx => ?_)
  subst hsx
  refine dw_iload1 (pc := 0) F dJ6_getChars_ba4f3_0 ?_
  refine dw_istore5 (pc := 1) F dJ6_getChars_ba4f3_1 rfl hk.symm ?_
  refine dw_iload0 (pc := 3) F dJ6_getChars_ba4f3_3 ?_
  refine dw_if_ge (tgt := 11) (pc := 4) F dJ6_getChars_ba4f3_4 (by decide) (by unfold inR; omega) (fun c4 => ?_) (fun c4 => absurd c4 (by omega))
  refine dw_iconst (pc := 11) F dJ6_getChars_ba4f3_11 ?_
  refine dw_istore6 (pc := 12) F dJ6_getChars_ba4f3_12 rfl hk.symm ?_
  refine dw_iload6 (pc := 14) F dJ6_getChars_ba4f3_14 ?_
  refine dw_if_ne (tgt := 22) (pc := 16) F dJ6_getChars_ba4f3_16 (by decide) (by unfold inR; omega) (fun c16 => absurd c16 (fun z => z rfl)) (fun c16 => ?_)
  refine dw_iload0 (pc := 19) F dJ6_getChars_ba4f3_19 ?_
  refine dw_ineg (pc := 20) F dJ6_getChars_ba4f3_20 ?_
  refine dw_istore0 (pc := 21) F dJ6_getChars_ba4f3_21 rfl hk.symm ?_
  refine dw_iload0 (pc := 22) F dJ6_getChars_ba4f3_22 ?_
  refine dw_bipush (pc := 23) F dJ6_getChars_ba4f3_23 (by decide) ?_
  refine dw_icmp_gt (tgt := 72) (pc := 25) F dJ6_getChars_ba4f3_25 (by decide) (by unfold inR; omega) (by unfold inR; omega) (fun c25 => ?_) (fun c25 => absurd c25 (by omega))
  refine dw_aload2 (pc := 72) F dJ6_getChars_ba4f3_72 ?_
  refine dw_iinc5 (pc := 73) F dJ6_getChars_ba4f3_73 rfl hk.symm ?_
  refine dw_iload5 (pc := 76) F dJ6_getChars_ba4f3_76 ?_
  refine dw_digO (pc := 78) F dJ6_getChars_ba4f3_78 gs_J6_83 ?_
  refine dw_iload0 (pc := 81) F dJ6_getChars_ba4f3_81 ?_
  refine dw_ineg (pc := 82) F dJ6_getChars_ba4f3_82 ?_
  rw [Int.neg_neg]
  refine dw_dald0 (pc := 83) F dJ6_getChars_ba4f3_83 (by omega) ?_
  refine dw_bast (pc := 84) F dJ6_getChars_ba4f3_84 hkb hmb (by omega) (by by_cases z : v < 10; have := hd9 z; omega; have := hd8 z; omega) (narB (by omega)) ?_
  refine dw_iload0 (pc := 85) F dJ6_getChars_ba4f3_85 ?_
  refine dw_bipush (pc := 86) F dJ6_getChars_ba4f3_86 (by decide) ?_
  refine dw_icmp_ge (tgt := 104) (pc := 88) F dJ6_getChars_ba4f3_88 (by decide) (by unfold inR; omega) (by unfold inR; omega) (fun c88 => ?_) (fun c88 => ?_)
  · refine dw_iload6 (pc := 104) F dJ6_getChars_ba4f3_104 ?_
    refine dw_if_eq (tgt := 118) (pc := 106) F dJ6_getChars_ba4f3_106 (by decide) (by unfold inR; omega) (fun c106 => ?_) (fun c106 => absurd c106 (fun z => z rfl))
    refine dw_iload5 (pc := 118) F dJ6_getChars_ba4f3_118 ?_
    exact dw_iret (pc := 120) F dJ6_getChars_ba4f3_120 rfl (by omega) ⟨rfl, by unfold wrD; first | rw [if_pos (by omega)] | rw [if_neg (by omega)]⟩
  · refine dw_aload2 (pc := 91) F dJ6_getChars_ba4f3_91 ?_
    refine dw_iinc5 (pc := 92) F dJ6_getChars_ba4f3_92 rfl hk.symm ?_
    refine dw_iload5 (pc := 95) F dJ6_getChars_ba4f3_95 ?_
    refine dw_digT (pc := 97) F dJ6_getChars_ba4f3_97 gs_J6_87 ?_
    refine dw_iload0 (pc := 100) F dJ6_getChars_ba4f3_100 ?_
    refine dw_ineg (pc := 101) F dJ6_getChars_ba4f3_101 ?_
    rw [Int.neg_neg]
    refine dw_dald1 (pc := 102) F dJ6_getChars_ba4f3_102 (by omega) ?_
    refine dw_bast (pc := 103) F dJ6_getChars_ba4f3_103 hkb hmb (by omega) (by have := hd8 (by omega); omega) (narB (by omega)) ?_
    refine dw_iload6 (pc := 104) F dJ6_getChars_ba4f3_104 ?_
    refine dw_if_eq (tgt := 118) (pc := 106) F dJ6_getChars_ba4f3_106 (by decide) (by unfold inR; omega) (fun c106 => ?_) (fun c106 => absurd c106 (fun z => z rfl))
    refine dw_iload5 (pc := 118) F dJ6_getChars_ba4f3_118 ?_
    exact dw_iret (pc := 120) F dJ6_getChars_ba4f3_120 rfl (by omega) ⟨rfl, by unfold wrD; first | rw [if_pos (by omega)] | rw [if_neg (by omega)]⟩
set_option maxRecDepth 100000 in
theorem cdJ_isLatin5 (sx : Sx) (L : List Id4) (M : Id4 → Int → Int) (Rf : Id4 → Int → Option Id4) (q : Id4) (hm : q ∈ L) (hkq : kd q = .inl 11) (hc : M q 1 = 0) : CdI sx 1 0 yJ5_isLatin1_aae02 cJ5_isLatin1_aae02 1 (some .boolean) [aR q] L (M, Rf) (PUd L (M, Rf) 1) := by
  refine CdI.mk (by decide +kernel) rfl (Nat.le_of_ble_eq_true rfl) (fun X G ρ F hk hsx => ?_)
  subst hsx
  refine dw_comp (pc := 0) F dJ5_isLatin1_aae02_0 gs_J5_18 ?_
  refine dw_if_eq (tgt := 17) (pc := 3) F dJ5_isLatin1_aae02_3 (by decide) (by unfold inR; omega) (fun c9 => absurd c9 (by decide)) (fun _ => ?_)
  refine dw_aload0 (pc := 6) F dJ5_isLatin1_aae02_6 ?_
  refine dw_getI (pc := 7) F dJ5_isLatin1_aae02_7 fl_J5_22 (by first | assumption | rfl) (by first | assumption | (simp [*]; done)) rfl nz1 ?_
  rw [hc]
  refine dw_if_ne (tgt := 17) (pc := 10) F dJ5_isLatin1_aae02_10 (by decide) (by unfold inR; omega) (fun c10 => absurd c10 (fun z => z rfl)) (fun c10 => ?_)
  refine dw_iconst (pc := 13) F dJ5_isLatin1_aae02_13 ?_
  refine dw_goto (tgt := 18) (pc := 14) F dJ5_isLatin1_aae02_14 (by decide) ?_
  exact dw_iret (pc := 18) F dJ5_isLatin1_aae02_18 (nar_bool (by first | exact b2i_01 | decide | omega)) (by omega) ⟨rfl, rfl, rfl⟩
theorem wrD_ne {M : Id4 → Int → Int} {bq x : Id4} {k v : Int} (h : x ≠ bq) : wrD M bq k v x = M x := by
  unfold wrD
  split
  · rw [updM_ne h]
  · rw [updM_ne h, updM_ne h]
theorem wrD_in {M : Id4 → Int → Int} {bq : Id4} {n v j : Int} (h0 : 0 ≤ j) (h1 : j < dg v) (hv : 0 ≤ v) : wrD M bq (n + dg v) v bq (n + j) = dgt v j := by
  unfold wrD dgt
  by_cases z : v < 10
  · rw [if_pos z, if_pos z]
    have e : dg v = 1 := if_pos z
    rw [e] at h1 ⊢
    rw [show n + j = n + ((1 : Nat) : Int) + (-1) by omega, upd_same]
    omega
  · rw [if_neg z, if_neg z]
    have e : dg v = 2 := if_neg z
    rw [e] at h1 ⊢
    by_cases y : j = 0
    · rw [if_pos y, show n + j = n + ((2 : Nat) : Int) + (-1) + (-1) by omega, upd_same]
    · rw [if_neg y, upd_ne (Or.inr (by omega)), show n + j = n + ((2 : Nat) : Int) + (-1) by omega, upd_same]
theorem wrD_out {M : Id4 → Int → Int} {bq : Id4} {n v j : Int} (h : ¬ (n ≤ j ∧ j < n + dg v)) (hv : 0 ≤ v) : wrD M bq (n + dg v) v bq j = M bq j := by
  unfold wrD
  by_cases z : v < 10
  · have e : dg v = 1 := if_pos z
    rw [e] at h ⊢
    rw [if_pos z, upd_ne (Or.inr (by omega))]
  · have e : dg v = 2 := if_neg z
    rw [e] at h ⊢
    rw [if_neg z, upd_ne (Or.inr (by omega)), upd_ne (Or.inr (by omega))]
theorem dgt_byt {v j : Int} (hv : 0 ≤ v ∧ v ≤ 99) : 0 ≤ dgt v j ∧ dgt v j ≤ 127 := by
  unfold dgt
  split
  · omega
  · split <;> omega
theorem dg_le {v : Int} : dg v ≤ 2 := by unfold dg; split <;> decide
theorem apI_end {sx : Sx} {L L1 : List Id4} {M M1 : Id4 → Int → Int} {Rf R1 : Id4 → Int → Option Id4} {q bq bq1 : Id4} {m m1 : Nat} {n v : Int} (hS1 : SBd L1 (M1, R1) q bq1 m1 n) (hS : SBd L (M, Rf) q bq m n) (hv : 0 ≤ v ∧ v ≤ 99) (hc1 : n + (dg v : Int) ≤ (m1 : Int)) (hcp1 : ∀ j : Int, 0 ≤ j → j < m → (M1, R1).1 bq1 j = M bq j) (hK1 : KP L (fun x => x = q) (M, Rf) (M1, R1)) (hb1 : bq1 = bq ∨ bq1 ∉ L) (hqb1 : q ≠ bq1) (hI1 : DI sx L1 (M1, R1)) : APd L M Rf q bq n (dg v) (dgt v) L1 (updM (wrD M1 bq1 (n + dg v) v) q 3 (n + dg v), R1) := by
  obtain ⟨gm, gkq, gc, gv, gkb, gmb, gm9, gn, gn2, gby⟩ := id hS1
  obtain ⟨hm, hkq, hc, hv9, hkb, hmb, hm9, hn, hn2, hby⟩ := id hS
  have e1 : updM (wrD M1 bq1 (n + dg v) v) q 3 (n + dg v) bq1 = wrD M1 bq1 (n + dg v) v bq1 := updM_ne (Ne.symm hqb1)
  refine ⟨bq1, m1, ⟨gm, gkq, ?_, gv, gkb, gmb, gm9, upd_same, by omega, fun j j0 j1 => ?_⟩, fun j j0 j1 => ?_, fun j j0 j1 => ?_, fun x hx hn9 => ⟨?_, ?_⟩, hb1⟩
  · show updM (wrD M1 bq1 (n + dg v) v) q 3 (n + dg v) q 1 = 0
    rw [upd_ne (Or.inr (by decide)), wrD_ne hqb1]
    exact gc
  · show 0 ≤ updM (wrD M1 bq1 (n + dg v) v) q 3 (n + dg v) bq1 j ∧ updM (wrD M1 bq1 (n + dg v) v) q 3 (n + dg v) bq1 j ≤ 127
    rw [e1]
    by_cases z : n ≤ j ∧ j < n + dg v
    · have := wrD_in (M := M1) (bq := bq1) (n := n) (v := v) (j := j - n) (by omega) (by omega) hv.1
      rw [show n + (j - n) = j by omega] at this
      rw [this]
      exact dgt_byt hv
    · rw [wrD_out z hv.1]
      exact gby j j0 j1
  · show updM (wrD M1 bq1 (n + dg v) v) q 3 (n + dg v) bq1 j = M bq j
    rw [e1, wrD_out (by omega) hv.1]
    exact hcp1 j j0 (by omega)
  · show updM (wrD M1 bq1 (n + dg v) v) q 3 (n + dg v) bq1 (n + j) = dgt v j
    rw [e1, wrD_in j0 j1 hv.1]
  · have hx1 : x ≠ bq1 := hb1.elim (fun z w => hn9 (Or.inr (w.trans z))) (fun z => inK_ne hx z (hI1.1 _ gmb))
    show updM (wrD M1 bq1 (n + dg v) v) q 3 (n + dg v) x = M x
    rw [updM_ne (fun z => hn9 (Or.inl z)), wrD_ne hx1]
    exact (hK1 x hx (fun z => hn9 (Or.inl z))).1
  · exact (hK1 x hx (fun z => hn9 (Or.inl z))).2
set_option maxRecDepth 100000 in
theorem cdJ_append5I (sx : Sx) (L : List Id4) (M : Id4 → Int → Int) (Rf : Id4 → Int → Option Id4) (q bq : Id4) (m : Nat) (n v : Int) (hS : SBd L (M, Rf) q bq m n) (hv9 : 0 ≤ v ∧ v ≤ 99) (hn9 : n + 2 ≤ 400) : CdR sx 5 16 yJ5_append_c97b9 cJ5_append_c97b9 4 (some (.object "java/lang/AbstractStringBuilder")) [aR q, aI v] L (M, Rf) (fun r L' σ' => r = q ∧ APd L M Rf q bq n (dg v) (dgt v) L' σ') := by
  obtain ⟨hm, hkq, hc, hv, hkb, hmb, hm9, hn, hn2, hby⟩ := id hS
  have hnM : M q 3 = n := hn
  have hdg := dg_le (v := v)
  refine CdR.mk (by decide +kernel) rfl (Nat.le_of_ble_eq_true rfl) (fun X G ρ F hk hsx => ?_)
  subst hsx
  refine dw_aload0 (pc := 0) F dJ5_append_c97b9_0 ?_
  refine dw_getI (pc := 1) F dJ5_append_c97b9_1 fl_J5_79 (by first | assumption | rfl) (by first | assumption | (simp [*]; done)) rfl nz3 ?_
  rw [hnM]
  refine dw_istore2 (pc := 4) F dJ5_append_c97b9_4 rfl hk.symm ?_
  refine dw_iload2 (pc := 5) F dJ5_append_c97b9_5 ?_
  refine dw_iload1 (pc := 6) F dJ5_append_c97b9_6 ?_
  refine dw_callSI (as := [_]) (pc := 7) F dJ5_append_c97b9_7 ml_J5_245 (cdJ_stringSize _ _ _ _ _ (by omega)) (Nat.le_of_ble_eq_true rfl) (by decide) (by omega) (fun v9 L9 s9 h9 _ => ?_)
  obtain ⟨rfl, rfl, rfl⟩ := h9
  refine dw_iadd (pc := 10) F dJ5_append_c97b9_10 ?_
  refine dw_istore3 (pc := 11) F dJ5_append_c97b9_11 rfl hk.symm ?_
  refine dw_aload0 (pc := 12) F dJ5_append_c97b9_12 ?_
  refine dw_iload3 (pc := 13) F dJ5_append_c97b9_13 ?_
  refine dw_callUV (as := [_]) (pc := 14) F dJ5_append_c97b9_14 ml_J5_100 (by first | assumption | rfl) (by first | assumption | (simp [*]; done)) (cdJ_ensure _ _ _ _ _ _ _ _ _ (by assumption) (by omega)) (Nat.le_of_ble_eq_true rfl) (by decide) (by omega) (fun L9 s9 h9 hLE9 => ?_)
  obtain ⟨bq1, m1, hS1, hc1, hcp1, hK1, hb1⟩ := h9
  obtain ⟨M1, R1⟩ := s9
  obtain ⟨gm, gkq, gc, gv, gkb, gmb, gm9, gn, gn2, gby⟩ := id hS1
  have gcM : M1 q 1 = 0 := gc
  have gvM : R1 q 0 = some bq1 := gv
  have hqb1 : q ≠ bq1 := fun z => by rw [← z, gkq] at gkb; cases gkb
  refine dw_DI F (fun hI1 _ _ _ => ?_)
  refine dw_aload0 (pc := 17) F dJ5_append_c97b9_17 ?_
  refine dw_callUI (as := []) (pc := 18) F dJ5_append_c97b9_18 ml_J5_83 (by first | assumption | rfl) (by first | assumption | (simp [*]; done)) (cdJ_isLatin5 _ _ _ _ _ (by assumption) (by assumption) (by assumption)) (Nat.le_of_ble_eq_true rfl) (by decide) (by omega) (fun v9 L9 s9 h9 _ => ?_)
  obtain ⟨rfl, rfl, rfl⟩ := h9
  refine dw_if_eq (tgt := 37) (pc := 21) F dJ5_append_c97b9_21 (by decide) (by unfold inR; omega) (fun c21 => absurd c21 (by decide)) (fun c21 => ?_)
  refine dw_iload1 (pc := 24) F dJ5_append_c97b9_24 ?_
  refine dw_iload3 (pc := 25) F dJ5_append_c97b9_25 ?_
  refine dw_aload0 (pc := 26) F dJ5_append_c97b9_26 ?_
  refine dw_getR (pc := 27) F dJ5_append_c97b9_27 fl_J5_15 (by first | assumption | rfl) (by first | assumption | (simp [*]; done)) rfl nz0 (by assumption) ?_
  refine dw_callSI (as := [_, _, _]) (pc := 30) F dJ5_append_c97b9_30 ml_J5_248 (cdJ_getChars _ _ _ _ _ _ _ _ (by omega) (by assumption) (by assumption) (by omega) (by omega)) (Nat.le_of_ble_eq_true rfl) (by decide) (by omega) (fun v9 L9 s9 h9 hLE9 => ?_)
  obtain ⟨rfl, rfl⟩ := h9
  refine dw_popI (pc := 33) F dJ5_append_c97b9_33 ?_
  refine dw_goto (tgt := 48) (pc := 34) F dJ5_append_c97b9_34 (by decide) ?_
  refine dw_aload0 (pc := 48) F dJ5_append_c97b9_48 ?_
  refine dw_iload3 (pc := 49) F dJ5_append_c97b9_49 ?_
  refine dw_putI (pc := 50) F dJ5_append_c97b9_50 fl_J5_79 pg_11_3 (by first | assumption | rfl) (by first | assumption | (simp [*]; done)) rfl nz3 ?_
  refine dw_aload0 (pc := 53) F dJ5_append_c97b9_53 ?_
  exact dw_aret (pc := 54) F dJ5_append_c97b9_54 (Or.inl ⟨_, rfl⟩) (by omega) ⟨rfl, apI_end hS1 hS hv9 hc1 hcp1 hK1 hb1 hqb1 hI1⟩
set_option maxRecDepth 100000 in
theorem cdJ_appendI (sx : Sx) (L : List Id4) (M : Id4 → Int → Int) (Rf : Id4 → Int → Option Id4) (q bq : Id4) (m : Nat) (n v : Int) (hS : SBd L (M, Rf) q bq m n) (hv9 : 0 ≤ v ∧ v ≤ 99) (hn9 : n + 2 ≤ 400) : CdR sx 6 16 yJ4_append_bf812 cJ4_append_bf812 2 (some (.object "java/lang/StringBuilder")) [aR q, aI v] L (M, Rf) (fun r L' σ' => r = q ∧ APd L M Rf q bq n (dg v) (dgt v) L' σ') := by
  have hkq := hS.2.1
  have hm := hS.1
  refine CdR.mk (by decide +kernel) rfl (Nat.le_of_ble_eq_true rfl) (fun X G ρ F hk hsx => ?_)
  subst hsx
  refine dw_aload0 (pc := 0) F dJ4_append_bf812_0 ?_
  refine dw_iload1 (pc := 1) F dJ4_append_bf812_1 ?_
  refine dw_callSUR (as := [_]) (pc := 2) F dJ4_append_bf812_2 ml_J4_53 (by first | assumption | rfl) (by first | assumption | (simp [*]; done)) rfl (cdJ_append5I _ _ _ _ _ _ _ _ _ (by assumption) (by omega) (by omega)) (Nat.le_of_ble_eq_true rfl) (by decide) (by omega) (fun r9 L9 s9 h9 hLE9 hin9 => ?_)
  obtain ⟨rfl, h9⟩ := h9
  obtain ⟨M1, R1⟩ := s9
  refine dw_popR (pc := 5) F dJ4_append_bf812_5 ?_
  refine dw_aload0 (pc := 6) F dJ4_append_bf812_6 ?_
  exact dw_aret (pc := 7) F dJ4_append_bf812_7 (Or.inl ⟨_, rfl⟩) (by omega) ⟨rfl, h9⟩
set_option maxRecDepth 100000 in
theorem cdJ_initA (sx : Sx) (L : List Id4) (M : Id4 → Int → Int) (Rf : Id4 → Int → Option Id4) (q : Id4) (hm : q ∈ L) (hkq : kd q = .inl 11) (hz : ∀ k, M q k = 0) : CdV sx 2 1 yJ5_init_d00df cJ5_init_d00df 2 none [aR q, aI 16] L (M, Rf) (fun L' σ' => ∃ bq, SBd L' σ' q bq 16 0 ∧ KP L (fun x => x = q) (M, Rf) σ' ∧ bq ∉ L) := by
  refine CdV.mkI (by decide +kernel) rfl rfl (Nat.le_of_ble_eq_true rfl) (fun X G ρ F hin hk hsx => ?_)
  subst hsx
  refine dw_DI F (fun hI _ _ _ => ?_)
  have hfr : (13, (L.length : Int), 16, 0) ∉ L := hI.fresh (by decide)
  refine dw_aload0 (pc := 0) F dJ5_init_d00df_0 ?_
  refine dw_objinit (pc := 1) F dJ5_init_d00df_1 oi1_J5 oi2 oi3 (by decide) (Nat.le_of_ble_eq_true rfl) ?_
  refine dw_comp (pc := 4) F dJ5_init_d00df_4 gs_J5_18 ?_
  refine dw_if_eq (tgt := 25) (pc := 7) F dJ5_init_d00df_7 (by decide) (by unfold inR; omega) (fun c9 => absurd c9 (by decide)) (fun _ => ?_)
  refine dw_aload0 (pc := 10) F dJ5_init_d00df_10 ?_
  refine dw_iload1 (pc := 11) F dJ5_init_d00df_11 ?_
  refine dw_newB (N := 16) (w := 1) (pc := 12) F dJ5_init_d00df_12 ac_1 rfl (by omega) (by omega) (by omega) ?_
  refine dw_putR (pc := 14) F dJ5_init_d00df_14 fl_J5_15 pg_11_0 (by first | assumption | rfl) (List.mem_append_left _ hm) rfl nz0 ?_
  refine dw_aload0 (pc := 17) F dJ5_init_d00df_17 ?_
  refine dw_iconst (pc := 18) F dJ5_init_d00df_18 ?_
  refine dw_putI (pc := 19) F dJ5_init_d00df_19 fl_J5_22 pg_11_1 (by first | assumption | rfl) (List.mem_append_left _ hm) rfl nz1 ?_
  refine dw_goto (tgt := 38) (pc := 22) F dJ5_init_d00df_22 (by decide) ?_
  exact dw_vret (pc := 38) F dJ5_init_d00df_38 (by omega) ⟨_, ⟨List.mem_append_left _ hm, hkq, upd_same, if_pos ⟨rfl, rfl⟩, rfl, List.mem_append_right _ List.mem_cons_self, by decide, by show updM (zM M _) q 1 0 q 3 = 0; rw [upd_ne (Or.inr (by decide)), zM_ne (ne_of hm hfr)]; exact hz 3, by omega, fun j j0 j1 => by show 0 ≤ updM (zM M _) q 1 0 _ j ∧ updM (zM M _) q 1 0 _ j ≤ 127; rw [updM_ne (Ne.symm (ne_of hm hfr)), zM_same]; exact ⟨Int.le_refl 0, by omega⟩⟩, fun x hx hn9 => ⟨by show updM (zM M _) q 1 0 x = M x; rw [updM_ne hn9, zM_ne (inK_ne hx hfr (Nat.le_of_ble_eq_true rfl))], by show updR (zR Rf _) q 0 _ x = Rf x; rw [updR_ne hn9, zR_ne (inK_ne hx hfr (Nat.le_of_ble_eq_true rfl))]⟩, hfr⟩
set_option maxRecDepth 100000 in
theorem cdJ_initSB (sx : Sx) (L : List Id4) (M : Id4 → Int → Int) (Rf : Id4 → Int → Option Id4) (q : Id4) (hm : q ∈ L) (hkq : kd q = .inl 11) (hz : ∀ k, M q k = 0) : CdV sx 3 1 yJ4_init_da8c8 cJ4_init_da8c8 1 none [aR q] L (M, Rf) (fun L' σ' => ∃ bq, SBd L' σ' q bq 16 0 ∧ KP L (fun x => x = q) (M, Rf) σ' ∧ bq ∉ L) := by
  refine CdV.mkI (by decide +kernel) rfl rfl (Nat.le_of_ble_eq_true rfl) (fun X G ρ F hin hk hsx => ?_)
  subst hsx
  refine dw_aload0 (pc := 0) F dJ4_init_da8c8_0 ?_
  refine dw_bipush (pc := 1) F dJ4_init_da8c8_1 (by decide) ?_
  refine dw_callNV (as := [_]) (pc := 3) F dJ4_init_da8c8_3 ml_J4_1 (cdJ_initA _ _ _ _ _ (by assumption) (by assumption) (by assumption)) (Nat.le_of_ble_eq_true rfl) (by decide) (by omega) (fun L9 s9 h9 hLE9 => ?_)
  exact dw_vret (pc := 6) F dJ4_init_da8c8_6 (by omega) h9
