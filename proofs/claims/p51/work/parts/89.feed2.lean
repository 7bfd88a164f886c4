/-! 89: feed, both sides -/
def G4 (C : Int → Int) (p w : Int) : Int → Int := upS (upS (upS (upS C p (bI2b (bUshr w 24))) (p + 1) (bI2b (bUshr w 16))) (p + 2) (bI2b (bUshr w 8))) (p + 3) (bI2b (bUshr w 0))
abbrev G20 (C : Int → Int) (p a b c d e : Int) : Int → Int := G4 (G4 (G4 (G4 (G4 C p a) (p + 4) b) (p + 8) c) (p + 12) d) (p + 16) e
theorem ct8_feed (M : Id4 → Int → Int) (b : Bool) (bf x1 x2 x3 x4 x5 : Int) (hbf : M (8, 0, 0, 0) 1 = bf) (h1 : 0 ≤ bf ∧ bf ≤ 500) : CtI 2 0 yX8_feed cX8_feed 6 (some .int) [aR (8, 0, 0, 0), aI x1, aI x2, aI x3, aI x4, aI x5] (M, R0 b) (fun v σ' => ∃ M', σ' = (M', R0 b) ∧ (∀ q k, ¬ (q = (8, 0, 1, 0) ∨ (q = (8, 0, 0, 0) ∧ k = 1)) → M' q k = M q k) ∧ ((480 < bf ∧ v = -2 ∧ M' (8, 0, 0, 0) 1 = bf ∧ M' (8, 0, 1, 0) = M (8, 0, 1, 0)) ∨ (bf ≤ 480 ∧ v = bf + 20 ∧ M' (8, 0, 0, 0) 1 = bf + 20 ∧ M' (8, 0, 1, 0) = G20 (M (8, 0, 1, 0)) bf x1 x2 x3 x4 x5))) := by
  refine CtI.mk (by decide +kernel) rfl (Nat.le_of_ble_eq_true rfl) (fun X K F hk => ?_)
  refine aw_aload0 (pc := 0) F dX8_feed_0 ?_
  refine aw_getI (pc := 1) F dX8_feed_1 fl_8_13 rfl (by first | decide | (simp only [inB, cnt, rcnt]; omega)) rfl nz1 ?_
  refine aw_sipush (pc := 4) F dX8_feed_4 (by decide) ?_
  refine aw_icmp_le (tgt := 13) (pc := 7) F dX8_feed_7 (by decide) (by unfold inR; omega) (by unfold inR; omega) (fun c7 => ?_) (fun c7 => ?_)
  · have g0 := hbf
    refine aw_aload0 (pc := 13) F dX8_feed_13 ?_
    refine aw_iload1 (pc := 14) F dX8_feed_14 ?_
    refine aw_callVV1 (pc := 15) F dX8_feed_15 ml_8_76 rfl (by first | decide | (simp only [inB, cnt, rcnt]; omega)) (ct8_appendBytes _ _ _ (bf) g0 (by omega)) (Nat.le_of_ble_eq_true rfl) (by decide) (Nat.zero_le _) (fun σ1 h9_15 => ?_)
    obtain ⟨M1, rfl, a1, b1, c1⟩ := h9_15
    have g1 : M1 (8, 0, 0, 0) 1 = bf + 4 := b1.trans (by omega)
    refine aw_aload0 (pc := 18) F dX8_feed_18 ?_
    refine aw_iload2 (pc := 19) F dX8_feed_19 ?_
    refine aw_callVV1 (pc := 20) F dX8_feed_20 ml_8_76 rfl (by first | decide | (simp only [inB, cnt, rcnt]; omega)) (ct8_appendBytes _ _ _ (bf + 4) g1 (by omega)) (Nat.le_of_ble_eq_true rfl) (by decide) (Nat.zero_le _) (fun σ2 h9_20 => ?_)
    obtain ⟨M2, rfl, a2, b2, c2⟩ := h9_20
    have g2 : M2 (8, 0, 0, 0) 1 = bf + 8 := b2.trans (by omega)
    refine aw_aload0 (pc := 23) F dX8_feed_23 ?_
    refine aw_iload3 (pc := 24) F dX8_feed_24 ?_
    refine aw_callVV1 (pc := 25) F dX8_feed_25 ml_8_76 rfl (by first | decide | (simp only [inB, cnt, rcnt]; omega)) (ct8_appendBytes _ _ _ (bf + 8) g2 (by omega)) (Nat.le_of_ble_eq_true rfl) (by decide) (Nat.zero_le _) (fun σ3 h9_25 => ?_)
    obtain ⟨M3, rfl, a3, b3, c3⟩ := h9_25
    have g3 : M3 (8, 0, 0, 0) 1 = bf + 12 := b3.trans (by omega)
    refine aw_aload0 (pc := 28) F dX8_feed_28 ?_
    refine aw_iload4 (pc := 29) F dX8_feed_29 ?_
    refine aw_callVV1 (pc := 31) F dX8_feed_31 ml_8_76 rfl (by first | decide | (simp only [inB, cnt, rcnt]; omega)) (ct8_appendBytes _ _ _ (bf + 12) g3 (by omega)) (Nat.le_of_ble_eq_true rfl) (by decide) (Nat.zero_le _) (fun σ4 h9_31 => ?_)
    obtain ⟨M4, rfl, a4, b4, c4⟩ := h9_31
    have g4 : M4 (8, 0, 0, 0) 1 = bf + 16 := b4.trans (by omega)
    refine aw_aload0 (pc := 34) F dX8_feed_34 ?_
    refine aw_iload5 (pc := 35) F dX8_feed_35 ?_
    refine aw_callVV1 (pc := 37) F dX8_feed_37 ml_8_76 rfl (by first | decide | (simp only [inB, cnt, rcnt]; omega)) (ct8_appendBytes _ _ _ (bf + 16) g4 (by omega)) (Nat.le_of_ble_eq_true rfl) (by decide) (Nat.zero_le _) (fun σ5 h9_37 => ?_)
    obtain ⟨M5, rfl, a5, b5, c5⟩ := h9_37
    have g5 : M5 (8, 0, 0, 0) 1 = bf + 20 := b5.trans (by omega)
    refine aw_aload0 (pc := 40) F dX8_feed_40 ?_
    refine aw_getI (pc := 41) F dX8_feed_41 fl_8_13 rfl (by first | decide | (simp only [inB, cnt, rcnt]; omega)) rfl nz1 ?_
    exact aw_iret (pc := 44) F dX8_feed_44 rfl (Nat.zero_le _) ⟨M5, rfl, fun q k y => by rw [a5 q k y, a4 q k y, a3 q k y, a2 q k y, a1 q k y], Or.inr ⟨by omega, g5, g5, by rw [c5, c4, c3, c2, c1]; rfl⟩⟩
  · refine aw_bipush (pc := 10) F dX8_feed_10 (by decide) ?_
    exact aw_iret (pc := 12) F dX8_feed_12 rfl (Nat.zero_le _) ⟨M, rfl, fun _ _ _ => rfl, Or.inl ⟨by omega, rfl, hbf, rfl⟩⟩
