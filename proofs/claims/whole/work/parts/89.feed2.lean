/-! 89: feed, both sides -/
def F4 (B : Int → Int) (p w : Int) : Int → Int := upS (upS (upS (upS B p (bAnd (bUshr w 24) 255)) (p + 1) (bAnd (bUshr w 16) 255)) (p + 2) (bAnd (bUshr w 8) 255)) (p + 3) (bAnd (bUshr w 0) 255)
def G4 (C : Int → Int) (p w : Int) : Int → Int := upS (upS (upS (upS C p (bI2b (bUshr w 24))) (p + 1) (bI2b (bUshr w 16))) (p + 2) (bI2b (bUshr w 8))) (p + 3) (bI2b (bUshr w 0))
abbrev F20 (B : Int → Int) (p a b c d e : Int) : Int → Int := F4 (F4 (F4 (F4 (F4 B p a) (p + 4) b) (p + 8) c) (p + 12) d) (p + 16) e
abbrev G20 (C : Int → Int) (p a b c d e : Int) : Int → Int := G4 (G4 (G4 (G4 (G4 C p a) (p + 4) b) (p + 8) c) (p + 12) d) (p + 16) e
def BCr (B C : Int → Int) : Prop := ∀ i, 0 ≤ i → i < 500 → (B i < 128 → C i = B i) ∧ (128 ≤ B i → C i = B i - 256)
theorem bc_20 {B C : Int → Int} {p a b c d e : Int} (hB : BCr B C) (hy : BY B) : BCr (F20 B p a b c d e) (G20 C p a b c d e) ∧ BY (F20 B p a b c d e) := by
  obtain ⟨a1, a2⟩ := bc_four (p := p) (w := a) hB hy
  obtain ⟨b1, b2⟩ := bc_four (p := p + 4) (w := b) a1 a2
  obtain ⟨c1, c2⟩ := bc_four (p := p + 8) (w := c) b1 b2
  obtain ⟨d1, d2⟩ := bc_four (p := p + 12) (w := d) c1 c2
  exact bc_four (p := p + 16) (w := e) d1 d2
theorem cq9_feed (M : Id4 → Int → Int) (b : Bool) (bf x1 x2 x3 x4 x5 : Int) (hbf : M (9, 0, 0, 0) 6 = bf) (h1 : 0 ≤ bf ∧ bf ≤ 500) : CtI 2 0 yX9_feed cX9_feed 6 (some .int) [aR (9, 0, 0, 0), aI x1, aI x2, aI x3, aI x4, aI x5] (M, R0 b) (fun v σ' => ∃ M', σ' = (M', R0 b) ∧ (∀ q k, ¬ (q = (9, 0, 6, 0) ∨ (q = (9, 0, 0, 0) ∧ (k = 6 ∨ k = 4))) → M' q k = M q k) ∧ M' (9, 0, 0, 0) 4 = 0 ∧ ((480 < bf ∧ v = -2 ∧ M' (9, 0, 0, 0) 6 = bf ∧ M' (9, 0, 6, 0) = M (9, 0, 6, 0)) ∨ (bf ≤ 480 ∧ v = bf + 20 ∧ M' (9, 0, 0, 0) 6 = bf + 20 ∧ M' (9, 0, 6, 0) = F20 (M (9, 0, 6, 0)) bf x1 x2 x3 x4 x5))) := by
  refine CtI.mk (by decide +kernel) rfl (Nat.le_of_ble_eq_true rfl) (fun X K F hk => ?_)
  refine aw_aload0 (pc := 0) F dX9_feed_0 ?_
  refine aw_iconst (pc := 1) F dX9_feed_1 ?_
  refine aw_putI (pc := 2) F dX9_feed_2 fl_9_54 fpi_9_4 rfl (by first | decide | (simp only [inB, cnt, rcnt]; omega)) rfl nz4 ?_
  refine aw_aload0 (pc := 5) F dX9_feed_5 ?_
  refine aw_getI (pc := 6) F dX9_feed_6 fl_9_64 rfl (by first | decide | (simp only [inB, cnt, rcnt]; omega)) rfl nz6 ?_
  rw [upd_ne (Or.inr (by decide)), hbf]
  refine aw_bipush (pc := 9) F dX9_feed_9 (by decide) ?_
  refine aw_iadd (pc := 11) F dX9_feed_11 ?_
  refine aw_sipush (pc := 12) F dX9_feed_12 (by decide) ?_
  refine aw_icmp_le (tgt := 21) (pc := 15) F dX9_feed_15 (by decide) (by unfold inR; omega) (by unfold inR; omega) (fun c15 => ?_) (fun c15 => ?_)
  · obtain ⟨M0, hM0⟩ : ∃ M0, M0 = updM M (9, 0, 0, 0) 4 0 := ⟨_, rfl⟩
    rw [← hM0]
    have g0 : M0 (9, 0, 0, 0) 6 = bf := by rw [hM0, upd_ne (Or.inr (by decide))]; exact hbf
    have r0 : M0 (9, 0, 6, 0) = M (9, 0, 6, 0) := by rw [hM0, upd_off (by decide)]
    have t0 : M0 (9, 0, 0, 0) 4 = 0 := by rw [hM0, upd_same]
    have s0 : ∀ q k, ¬ (q = (9, 0, 6, 0) ∨ (q = (9, 0, 0, 0) ∧ (k = 6 ∨ k = 4))) → M0 q k = M q k := fun q k z => by
      rw [hM0]
      by_cases y : q = (9, 0, 0, 0)
      · exact upd_ne (Or.inr (fun w => z (Or.inr ⟨y, Or.inr w⟩)))
      · exact upd_ne (Or.inl y)
    refine aw_aload0 (pc := 21) F dX9_feed_21 ?_
    refine aw_iload1 (pc := 22) F dX9_feed_22 ?_
    refine aw_callVV1 (pc := 23) F dX9_feed_23 ml_9_67 rfl (by first | decide | (simp only [inB, cnt, rcnt]; omega)) (ct9_append _ _ _ (bf) g0 (by omega)) (Nat.le_of_ble_eq_true rfl) (by decide) (Nat.zero_le _) (fun σ1 h9_23 => ?_)
    obtain ⟨M1, rfl, a1, b1, c1⟩ := h9_23
    have g1 : M1 (9, 0, 0, 0) 6 = bf + 4 := b1.trans (by omega)
    refine aw_aload0 (pc := 26) F dX9_feed_26 ?_
    refine aw_iload2 (pc := 27) F dX9_feed_27 ?_
    refine aw_callVV1 (pc := 28) F dX9_feed_28 ml_9_67 rfl (by first | decide | (simp only [inB, cnt, rcnt]; omega)) (ct9_append _ _ _ (bf + 4) g1 (by omega)) (Nat.le_of_ble_eq_true rfl) (by decide) (Nat.zero_le _) (fun σ2 h9_28 => ?_)
    obtain ⟨M2, rfl, a2, b2, c2⟩ := h9_28
    have g2 : M2 (9, 0, 0, 0) 6 = bf + 8 := b2.trans (by omega)
    refine aw_aload0 (pc := 31) F dX9_feed_31 ?_
    refine aw_iload3 (pc := 32) F dX9_feed_32 ?_
    refine aw_callVV1 (pc := 33) F dX9_feed_33 ml_9_67 rfl (by first | decide | (simp only [inB, cnt, rcnt]; omega)) (ct9_append _ _ _ (bf + 8) g2 (by omega)) (Nat.le_of_ble_eq_true rfl) (by decide) (Nat.zero_le _) (fun σ3 h9_33 => ?_)
    obtain ⟨M3, rfl, a3, b3, c3⟩ := h9_33
    have g3 : M3 (9, 0, 0, 0) 6 = bf + 12 := b3.trans (by omega)
    refine aw_aload0 (pc := 36) F dX9_feed_36 ?_
    refine aw_iload4 (pc := 37) F dX9_feed_37 ?_
    refine aw_callVV1 (pc := 39) F dX9_feed_39 ml_9_67 rfl (by first | decide | (simp only [inB, cnt, rcnt]; omega)) (ct9_append _ _ _ (bf + 12) g3 (by omega)) (Nat.le_of_ble_eq_true rfl) (by decide) (Nat.zero_le _) (fun σ4 h9_39 => ?_)
    obtain ⟨M4, rfl, a4, b4, c4⟩ := h9_39
    have g4 : M4 (9, 0, 0, 0) 6 = bf + 16 := b4.trans (by omega)
    refine aw_aload0 (pc := 42) F dX9_feed_42 ?_
    refine aw_iload5 (pc := 43) F dX9_feed_43 ?_
    refine aw_callVV1 (pc := 45) F dX9_feed_45 ml_9_67 rfl (by first | decide | (simp only [inB, cnt, rcnt]; omega)) (ct9_append _ _ _ (bf + 16) g4 (by omega)) (Nat.le_of_ble_eq_true rfl) (by decide) (Nat.zero_le _) (fun σ5 h9_45 => ?_)
    obtain ⟨M5, rfl, a5, b5, c5⟩ := h9_45
    have g5 : M5 (9, 0, 0, 0) 6 = bf + 20 := b5.trans (by omega)
    refine aw_aload0 (pc := 48) F dX9_feed_48 ?_
    refine aw_getI (pc := 49) F dX9_feed_49 fl_9_64 rfl (by first | decide | (simp only [inB, cnt, rcnt]; omega)) rfl nz6 ?_
    exact aw_iret (pc := 52) F dX9_feed_52 rfl (Nat.zero_le _) ⟨M5, rfl, fun q k z => by
      have y : ¬ (q = (9, 0, 6, 0) ∨ (q = (9, 0, 0, 0) ∧ k = 6)) := fun w => z (w.imp id (fun u => ⟨u.1, Or.inl u.2⟩))
      rw [a5 q k y, a4 q k y, a3 q k y, a2 q k y, a1 q k y]
      exact s0 q k z, by rw [a5 _ _ (by decide), a4 _ _ (by decide), a3 _ _ (by decide), a2 _ _ (by decide), a1 _ _ (by decide)]; exact t0, Or.inr ⟨by omega, g5, g5, by rw [c5, c4, c3, c2, c1, r0]; rfl⟩⟩
  · refine aw_bipush (pc := 18) F dX9_feed_18 (by decide) ?_
    exact aw_iret (pc := 20) F dX9_feed_20 rfl (Nat.zero_le _) ⟨_, rfl, fun q k z => by
      by_cases y : q = (9, 0, 0, 0)
      · exact upd_ne (Or.inr (fun w => z (Or.inr ⟨y, Or.inr w⟩)))
      · exact upd_ne (Or.inl y), upd_same, Or.inl ⟨by omega, rfl, by rw [upd_ne (Or.inr (by decide))]; exact hbf, by rw [upd_off (by decide)]⟩⟩
theorem ct8_feed (M : Id4 → Int → Int) (b : Bool) (bf x1 x2 x3 x4 x5 : Int) (hbf : M (8, 0, 0, 0) 1 = bf) (h1 : 0 ≤ bf ∧ bf ≤ 500) : CtI 2 0 yX8_feed cX8_feed 6 (some .int) [aR (8, 0, 0, 0), aI x1, aI x2, aI x3, aI x4, aI x5] (M, R0 b) (fun v σ' => ∃ M', σ' = (M', R0 b) ∧ (∀ q k, ¬ (q = (8, 0, 1, 0) ∨ (q = (8, 0, 0, 0) ∧ k = 1)) → M' q k = M q k) ∧ ((480 < bf ∧ v = -2 ∧ M' (8, 0, 0, 0) 1 = bf ∧ M' (8, 0, 1, 0) = M (8, 0, 1, 0)) ∨ (bf ≤ 480 ∧ v = bf + 20 ∧ M' (8, 0, 0, 0) 1 = bf + 20 ∧ M' (8, 0, 1, 0) = G20 (M (8, 0, 1, 0)) bf x1 x2 x3 x4 x5))) := by
  refine CtI.mk (by decide +kernel) rfl (Nat.le_of_ble_eq_true rfl) (fun X K F hk => ?_)
  refine aw_aload0 (pc := 0) F dX8_feed_0 ?_
  refine aw_getI (pc := 1) F dX8_feed_1 fl_8_13 rfl (by first | decide | (simp only [inB, cnt, rcnt]; omega)) rfl nz1 ?_
  refine aw_sipush (pc := 4) F dX8_feed_4 (by decide) ?_
  refine aw_icmp_le (tgt := 13) (pc := 7) F dX8_feed_7 (by decide) (by unfold inR; omega) (by unfold inR; omega) (fun c7 => ?_) (fun c7 => ?_)
  · have g0 := hbf
    refine aw_aload0 (pc := 13) F dX8_feed_13 ?_
    refine aw_iload1 (pc := 14) F dX8_feed_14 ?_
    refine aw_callVV1 (pc := 15) F dX8_feed_15 ml_8_76 rfl (by first | decide | (simp only [inB, cnt, rcnt]; omega)) (ct8_appendBytes _ _ _ (bf) g0 (by omega)) (Nat.le_of_ble_eq_true rfl) (by decide) (Nat.zero_le _) (fun σ1 h9_15 => ?_)
    obtain ⟨M1, rfl, a1, b1, c1⟩ := h9_15
    have g1 : M1 (8, 0, 0, 0) 1 = bf + 4 := b1.trans (by omega)
    refine aw_aload0 (pc := 18) F dX8_feed_18 ?_
    refine aw_iload2 (pc := 19) F dX8_feed_19 ?_
    refine aw_callVV1 (pc := 20) F dX8_feed_20 ml_8_76 rfl (by first | decide | (simp only [inB, cnt, rcnt]; omega)) (ct8_appendBytes _ _ _ (bf + 4) g1 (by omega)) (Nat.le_of_ble_eq_true rfl) (by decide) (Nat.zero_le _) (fun σ2 h9_20 => ?_)
    obtain ⟨M2, rfl, a2, b2, c2⟩ := h9_20
    have g2 : M2 (8, 0, 0, 0) 1 = bf + 8 := b2.trans (by omega)
    refine aw_aload0 (pc := 23) F dX8_feed_23 ?_
    refine aw_iload3 (pc := 24) F dX8_feed_24 ?_
    refine aw_callVV1 (pc := 25) F dX8_feed_25 ml_8_76 rfl (by first | decide | (simp only [inB, cnt, rcnt]; omega)) (ct8_appendBytes _ _ _ (bf + 8) g2 (by omega)) (Nat.le_of_ble_eq_true rfl) (by decide) (Nat.zero_le _) (fun σ3 h9_25 => ?_)
    obtain ⟨M3, rfl, a3, b3, c3⟩ := h9_25
    have g3 : M3 (8, 0, 0, 0) 1 = bf + 12 := b3.trans (by omega)
    refine aw_aload0 (pc := 28) F dX8_feed_28 ?_
    refine aw_iload4 (pc := 29) F dX8_feed_29 ?_
    refine aw_callVV1 (pc := 31) F dX8_feed_31 ml_8_76 rfl (by first | decide | (simp only [inB, cnt, rcnt]; omega)) (ct8_appendBytes _ _ _ (bf + 12) g3 (by omega)) (Nat.le_of_ble_eq_true rfl) (by decide) (Nat.zero_le _) (fun σ4 h9_31 => ?_)
    obtain ⟨M4, rfl, a4, b4, c4⟩ := h9_31
    have g4 : M4 (8, 0, 0, 0) 1 = bf + 16 := b4.trans (by omega)
    refine aw_aload0 (pc := 34) F dX8_feed_34 ?_
    refine aw_iload5 (pc := 35) F dX8_feed_35 ?_
    refine aw_callVV1 (pc := 37) F dX8_feed_37 ml_8_76 rfl (by first | decide | (simp only [inB, cnt, rcnt]; omega)) (ct8_appendBytes _ _ _ (bf + 16) g4 (by omega)) (Nat.le_of_ble_eq_true rfl) (by decide) (Nat.zero_le _) (fun σ5 h9_37 => ?_)
    obtain ⟨M5, rfl, a5, b5, c5⟩ := h9_37
    have g5 : M5 (8, 0, 0, 0) 1 = bf + 20 := b5.trans (by omega)
    refine aw_aload0 (pc := 40) F dX8_feed_40 ?_
    refine aw_getI (pc := 41) F dX8_feed_41 fl_8_13 rfl (by first | decide | (simp only [inB, cnt, rcnt]; omega)) rfl nz1 ?_
    exact aw_iret (pc := 44) F dX8_feed_44 rfl (Nat.zero_le _) ⟨M5, rfl, fun q k y => by rw [a5 q k y, a4 q k y, a3 q k y, a2 q k y, a1 q k y], Or.inr ⟨by omega, g5, g5, by rw [c5, c4, c3, c2, c1]; rfl⟩⟩
  · refine aw_bipush (pc := 10) F dX8_feed_10 (by decide) ?_
    exact aw_iret (pc := 12) F dX8_feed_12 rfl (Nat.zero_le _) ⟨M, rfl, fun _ _ _ => rfl, Or.inl ⟨by omega, rfl, hbf, rfl⟩⟩
