/-! 82: the class reads a span -/
theorem evIn_b2 {B S : Int → Int} {n idx but i : Int} (h : ¬ kdT B n i = 2) : evIn B n idx but S i = badP B n i 2 := if_pos h
theorem evIn_b4 {B S : Int → Int} {n idx but i : Int} (h : kdT B n i = 2) (h2 : nmD B S (stT B n i) (nxT B n i) = -1 ∨ nmD B S (stT B n i) (nxT B n i) = but) : evIn B n idx but S i = badP B n i 4 := (if_neg (fun z => z h)).trans (if_pos h2)
theorem evIn_ok {B S : Int → Int} {n idx but i v : Int} (h : kdT B n i = 2) (hv : v = nmD B S (stT B n i) (nxT B n i)) (h1 : ¬ v = -1) (h2 : ¬ v = but) : evIn B n idx but S i = goodP (upS S idx v) (nxT B n i) := by
  subst hv
  exact (if_neg (fun z => z h)).trans (if_neg (by omega))
theorem nmF_s {B S : Int → Int} {a b k v : Int} (hk : 14 ≤ k) : ∀ (f : Nat) (e : Int), e + f ≤ 6 → nmF B (upS S k v) a b f e = nmF B S a b f e
  | 0, _, _ => rfl
  | f + 1, e, h => by
    unfold nmF
    rw [nmF_s hk f (e + 1) (by omega)]
    have : nmE B (upS S k v) a b e ↔ nmE B S a b e := by
      unfold nmE
      rw [upS_ne (by omega), upS_ne (by omega)]
    by_cases z : nmE B S a b e
    · rw [if_pos z, if_pos (this.mpr z)]
    · rw [if_neg z, if_neg (fun y => z (this.mp y))]
theorem nmD_s {B S : Int → Int} {a b k v : Int} (hE : 0 ≤ S 1 ∧ S 1 ≤ 6) (hk : 14 ≤ k) : nmD B (upS S k v) a b = nmD B S a b := by
  unfold nmD
  rw [upS_ne (by omega)]
  exact nmF_s hk _ _ (by omega)
theorem ct6_readSpan (M : Id4 → Int → Int) (B S : Int → Int) (n i : Int) (hx : TX B n i) (hC : CSx B n S (nxT B n i) M) (hO : Ok S) (h14 : S 20 < 14) : CtI 4 0 yX6_readSpan cX6_readSpan 6 (some .boolean) [aR (6, 0, 0, 0)] (M, R0 true) (RCx B n M (bindP (spP B n S i) (closP B n))) := by
  refine CtI.mk (by decide +kernel) rfl (Nat.le_of_ble_eq_true rfl) (fun X K F hk => ?_)
  obtain ⟨hB, hn, hR, hN, h8⟩ := hC
  have x1 := hx.nx
  have x2 := x1.nx
  have x3 := x2.nx
  have x4 := x3.nx
  have x5 := x4.nx
  have x6 := x5.nx
  have hE := hO.2.1
  have hT := hO.1
  have hW := hO.2.2.1
  have ne14 : ¬ S 20 = 14 := by omega
  have nb1 := nmD_bd (B := B) (S := S) (a := stT B n (nxT B n i)) (b := nxT B n (nxT B n i))
  have nb2 := nmD_bd (B := B) (S := S) (a := stT B n (nxT B n (nxT B n i))) (b := nxT B n (nxT B n (nxT B n i)))
  have vb3 := vlT_bd x3
  have vb4 := vlT_bd x4
  have vb5 := vlT_bd x5
  have es : spP B n S i = bindP (evIn B n (21 + 5 * S 20 + 0) (-1) S (nxT B n i)) (fun S1 i1 => bindP (evIn B n (21 + 5 * S 20 + 1) (S1 (21 + 5 * S 20 + 0)) S1 i1) (fun S2 i2 => bindP (numP B n (21 + 5 * S 20 + 2) 0 48 S2 i2) (fun S3 i3 => bindP (numP B n (21 + 5 * S 20 + 3) (S3 (21 + 5 * S 20 + 2)) (S3 (21 + 5 * S 20 + 2) + S3 0 - 1) S3 i3) (fun S4 i4 => bindP (weP B n (21 + 5 * S 20 + 4) S4 i4) (fun S5 i5 => goodP (upS S5 20 (S5 20 + 1)) i5))))) := if_neg ne14
  have bb : ∀ {r : PR} {f g : (Int → Int) → Int → PR} {k w : Int}, ¬ w = 0 → r = badP B n k w → bindP (bindP r f) g = badP B n k w := fun {r f g k w} hw hr => by
    rw [hr, bind_bad (badP_ne hw)]
    exact bind_bad (badP_ne hw)
  have d0 : ∀ {M' : Id4 → Int → Int}, chZ M M' → plR M' 2 S := fun h => h.pl hR
  refine aw_aload0 (pc := 0) F dX6_readSpan_0 ?_
  refine aw_iconst (pc := 1) F dX6_readSpan_1 ?_
  refine aw_callVI1 (pc := 2) F dX6_readSpan_2 ml_6_122 rfl (by first | decide | (simp only [inB, cnt, rcnt]; omega)) (ct6_readKnownEvent _ B S n (nxT B n i) (-1) (S 1) hB x1 hn h8 (by unfold inR; decide) hN ⟨rfl, hE⟩) (Nat.le_of_ble_eq_true rfl) (by decide) (Nat.zero_le _) (fun v1 σ1 h9_2 => ?_)
  obtain ⟨M1, rfl, c1, e1⟩ := h9_2
  refine aw_istore1 (pc := 5) F dX6_readSpan_5 rfl hk.symm ?_
  refine aw_iload1 (pc := 6) F dX6_readSpan_6 ?_
  refine aw_iconst (pc := 7) F dX6_readSpan_7 ?_
  refine aw_icmp_ne (tgt := 15) (pc := 8) F dX6_readSpan_8 (by decide) (by first | (unfold inR; decide) | (rcases e1 with q | q <;> (unfold inR; omega))) (by first | (unfold inR; decide) | (rcases e1 with q | q <;> (unfold inR; omega))) (fun c8 => ?_) (fun c8 => ?_)
  · obtain ⟨p1, p2, p3, p4, p5, p6, p7⟩ := e1.resolve_right (fun z => c8 z.1)
    refine aw_aload0 (pc := 15) F dX6_readSpan_15 ?_
    refine aw_iload1 (pc := 16) F dX6_readSpan_16 ?_
    refine aw_callVI1 (pc := 17) F dX6_readSpan_17 ml_6_122 rfl (by first | decide | (simp only [inB, cnt, rcnt]; omega)) (ct6_readKnownEvent _ B S n (nxT B n (nxT B n i)) v1 (S 1) (hB.z c1) x2 (c1.n.trans hn) p5.2.1 (by unfold inR; omega) (c1.nm hN) ⟨rfl, hE⟩) (Nat.le_of_ble_eq_true rfl) (by decide) (Nat.zero_le _) (fun v2 σ2 h9_17 => ?_)
    obtain ⟨M2, rfl, c2, e2⟩ := h9_17
    refine aw_istore2 (pc := 20) F dX6_readSpan_20 rfl hk.symm ?_
    refine aw_iload2 (pc := 21) F dX6_readSpan_21 ?_
    refine aw_iconst (pc := 22) F dX6_readSpan_22 ?_
    refine aw_icmp_ne (tgt := 30) (pc := 23) F dX6_readSpan_23 (by decide) (by first | (unfold inR; decide) | (rcases e2 with q | q <;> (unfold inR; omega))) (by first | (unfold inR; decide) | (rcases e2 with q | q <;> (unfold inR; omega))) (fun c23 => ?_) (fun c23 => ?_)
    · sorry
    · refine aw_iconst (pc := 26) F dX6_readSpan_26 ?_
      refine aw_goto (tgt := 37) (pc := 27) F dX6_readSpan_27 (by decide) ?_
      refine aw_istore3 (pc := 37) F dX6_readSpan_37 rfl hk.symm ?_
      refine aw_iload3 (pc := 38) F dX6_readSpan_38 ?_
      refine aw_iconst (pc := 39) F dX6_readSpan_39 ?_
      refine aw_icmp_ne (tgt := 47) (pc := 40) F dX6_readSpan_40 (by decide) sorry sorry (fun c40 => ?_) (fun c40 => ?_)
      · refine aw_aload0 (pc := 47) F dX6_readSpan_47 ?_
        refine aw_iload3 (pc := 48) F dX6_readSpan_48 ?_
        refine aw_iload3 (pc := 49) F dX6_readSpan_49 ?_
        refine aw_aload0 (pc := 50) F dX6_readSpan_50 ?_
        refine aw_getR (pc := 51) F dX6_readSpan_51 fl_6_12 rfl (by first | decide | (simp only [inB, cnt, rcnt]; omega)) rfl nz0 rfl ?_
        refine aw_getI (pc := 54) F dX6_readSpan_54 fl_6_117 rfl (by first | decide | (simp only [inB, cnt, rcnt]; omega)) rfl nz0 ?_
        refine aw_iadd (pc := 57) F dX6_readSpan_57 ?_
        refine aw_iconst (pc := 58) F dX6_readSpan_58 ?_
        refine aw_isub (pc := 59) F dX6_readSpan_59 ?_
        -- NO CONTRACT at 60: Method readNumber:(II)I
        sorry
      · refine aw_iconst (pc := 43) F dX6_readSpan_43 ?_
        refine aw_goto (tgt := 63) (pc := 44) F dX6_readSpan_44 (by decide) ?_
        refine aw_istore4 (pc := 63) F dX6_readSpan_63 rfl hk.symm ?_
        refine aw_iload4 (pc := 65) F dX6_readSpan_65 ?_
        refine aw_iconst (pc := 67) F dX6_readSpan_67 ?_
        refine aw_icmp_ne (tgt := 73) (pc := 68) F dX6_readSpan_68 (by decide) sorry sorry (fun c68 => ?_) (fun c68 => ?_)
        · sorry
        · refine aw_iconst (pc := 71) F dX6_readSpan_71 ?_
          exact aw_iret (pc := 72) F dX6_readSpan_72 (nar_bool (by first | exact b2i_01 | decide)) (Nat.zero_le _) sorry
  · refine aw_iconst (pc := 11) F dX6_readSpan_11 ?_
    refine aw_goto (tgt := 20) (pc := 12) F dX6_readSpan_12 (by decide) ?_
    refine aw_istore2 (pc := 20) F dX6_readSpan_20 rfl hk.symm ?_
    refine aw_iload2 (pc := 21) F dX6_readSpan_21 ?_
    refine aw_iconst (pc := 22) F dX6_readSpan_22 ?_
    refine aw_icmp_ne (tgt := 30) (pc := 23) F dX6_readSpan_23 (by decide) (by first | (unfold inR; decide) | (rcases e2 with q | q <;> (unfold inR; omega))) (by first | (unfold inR; decide) | (rcases e2 with q | q <;> (unfold inR; omega))) (fun c23 => ?_) (fun c23 => ?_)
    · sorry
    · refine aw_iconst (pc := 26) F dX6_readSpan_26 ?_
      refine aw_goto (tgt := 37) (pc := 27) F dX6_readSpan_27 (by decide) ?_
      refine aw_istore3 (pc := 37) F dX6_readSpan_37 rfl hk.symm ?_
      refine aw_iload3 (pc := 38) F dX6_readSpan_38 ?_
      refine aw_iconst (pc := 39) F dX6_readSpan_39 ?_
      refine aw_icmp_ne (tgt := 47) (pc := 40) F dX6_readSpan_40 (by decide) sorry sorry (fun c40 => ?_) (fun c40 => ?_)
      · refine aw_aload0 (pc := 47) F dX6_readSpan_47 ?_
        refine aw_iload3 (pc := 48) F dX6_readSpan_48 ?_
        refine aw_iload3 (pc := 49) F dX6_readSpan_49 ?_
        refine aw_aload0 (pc := 50) F dX6_readSpan_50 ?_
        refine aw_getR (pc := 51) F dX6_readSpan_51 fl_6_12 rfl (by first | decide | (simp only [inB, cnt, rcnt]; omega)) rfl nz0 rfl ?_
        refine aw_getI (pc := 54) F dX6_readSpan_54 fl_6_117 rfl (by first | decide | (simp only [inB, cnt, rcnt]; omega)) rfl nz0 ?_
        refine aw_iadd (pc := 57) F dX6_readSpan_57 ?_
        refine aw_iconst (pc := 58) F dX6_readSpan_58 ?_
        refine aw_isub (pc := 59) F dX6_readSpan_59 ?_
        -- NO CONTRACT at 60: Method readNumber:(II)I
        sorry
      · refine aw_iconst (pc := 43) F dX6_readSpan_43 ?_
        refine aw_goto (tgt := 63) (pc := 44) F dX6_readSpan_44 (by decide) ?_
        refine aw_istore4 (pc := 63) F dX6_readSpan_63 rfl hk.symm ?_
        refine aw_iload4 (pc := 65) F dX6_readSpan_65 ?_
        refine aw_iconst (pc := 67) F dX6_readSpan_67 ?_
        refine aw_icmp_ne (tgt := 73) (pc := 68) F dX6_readSpan_68 (by decide) sorry sorry (fun c68 => ?_) (fun c68 => ?_)
        · sorry
        · refine aw_iconst (pc := 71) F dX6_readSpan_71 ?_
          exact aw_iret (pc := 72) F dX6_readSpan_72 (nar_bool (by first | exact b2i_01 | decide)) (Nat.zero_le _) sorry
