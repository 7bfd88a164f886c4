/-! 39: the class's edits -/
theorem ct8_undo (M : Id4 → Int → Int) (b : Bool) (nx n : Int) (Hs : Int → Int → Int) (hH : hR8 M nx n Hs) : CtI 5 0 yX8_undo cX8_undo 1 (some .int) [aR (8, 0, 0, 0)] (M, R0 b) (fun v σ' => ∃ M' nx', σ' = (M', R0 b) ∧ sameE M M' ∧ ((n = 0 ∧ v = -1 ∧ M' = M) ∨ (0 < n ∧ v = n - 1 ∧ hR8 M' nx' (n - 1) Hs ∧ (Ok (Hs (n - 1)) → plR M' 0 (Hs (n - 1)))))) := by
  refine CtI.mk (by decide +kernel) rfl (Nat.le_of_ble_eq_true rfl) (fun X K F hk => ?_)
  refine aw_aload0 (pc := 0) F dX8_undo_0 ?_
  refine aw_getR (pc := 1) F dX8_undo_1 fl_8_44 rfl (by first | decide | (simp only [inB, cnt, rcnt]; omega)) rfl nz6 rfl ?_
  refine aw_aload0 (pc := 4) F dX8_undo_4 ?_
  refine aw_getR (pc := 5) F dX8_undo_5 fl_8_34 rfl (by first | decide | (simp only [inB, cnt, rcnt]; omega)) rfl nz4 rfl ?_
  refine aw_callVI1 (pc := 8) F dX8_undo_8 ml_8_294 rfl (by first | decide | (simp only [inB, cnt, rcnt]; omega)) (ct2_restore _ _ nx n Hs hH) (Nat.le_of_ble_eq_true rfl) (by decide) (Nat.zero_le _) (fun v9 σ9 h9_8 => ?_)
  obtain ⟨M1, nx1, h9, c1, c2⟩ := h9_8
  subst h9
  exact aw_iret (pc := 11) F dX8_undo_11 rfl (Nat.zero_le _) ⟨M1, nx1, rfl, fun q z => c1 q (fun y => z (by rw [y]; exact Or.inr (Or.inr (Or.inr (Or.inr rfl))))) (fun y => z (Or.inr (Or.inr (Or.inr (Or.inl y.1))))), c2⟩
def fitS (S : Int → Int) (T : Int) : Prop := ∀ k, 0 ≤ k → k < S 20 → S (21 + 5 * k + 3) ≤ S (21 + 5 * k + 2) + T - 1
theorem pl_period {M : Id4 → Int → Int} {p : Int} {S : Int → Int} {T : Int} (hE : 0 ≤ S 1) (hR : plR M p S) : plR (updM M (5, p, 0, 0) 0 T) p (upS S 0 T) := by
  obtain ⟨⟨a, b, c⟩, d, g⟩ := hR
  have e : ∀ j, j ≠ 0 → upS S 0 T j = S j := fun j hj => upS_ne hj
  refine ⟨⟨?_, ?_, ?_⟩, fun x x0 x1 => ?_, fun k k0 k1 => ?_⟩
  · rw [upd_same, upS_same]
  · rw [e 1 (by decide), upd_ne (Or.inr (by decide))]; exact b
  · rw [e 20 (by decide), upd_ne (Or.inr (by decide))]; exact c
  · rw [e 1 (by decide)] at x1
    rw [upd_off (by simp), e _ (by omega)]; exact d x x0 x1
  · rw [e 20 (by decide)] at k1
    rw [upd_off (by simp), upd_off (by simp), upd_off (by simp), upd_off (by simp), upd_off (by simp), e _ (by omega), e _ (by omega), e _ (by omega), e _ (by omega), e _ (by omega)]
    exact g k k0 k1
theorem cx8_setPeriod (M : Id4 → Int → Int) (b : Bool) (S : Int → Int) (nx n : Int) (Hs : Int → Int → Int) (T : Int) (h1 : inR T) (hR : plR M 0 S) (h : Ok S) (hH : hR8 M nx n Hs) : CxI 13 2 yX8_setPeriod cX8_setPeriod 4 (some .int) [aR (8, 0, 0, 0), aI T] (M, R0 b) (fun v σ' => v = S 0 ∧ ((2 ≤ T ∧ T ≤ 24) ∧ fitS S T) ∧ E8 M b (mtS (upS S 0 T) (fun x => x % T) (S 1)) (min (n + 1) 10) (pushH n Hs S) σ') (fun E σ' => σ' = (M, R0 b) ∧ ((E = eIA ∧ ¬ (2 ≤ T ∧ T ≤ 24)) ∨ (E = eIS ∧ (2 ≤ T ∧ T ≤ 24) ∧ ¬ fitS S T))) := by
  refine CxI.mk (by decide +kernel) rfl (Nat.le_of_ble_eq_true rfl) (fun X K F hk => ?_)
  have hN := h.2.2.1
  have hE := h.2.1
  have hP := h.1
  have e2 := hR.1.2.2
  obtain ⟨E, eE⟩ : ∃ E : Nat, S 1 = (E : Int) := ⟨(S 1).toNat, by omega⟩
  obtain ⟨Q9, hQ⟩ : ∃ Q9, Q9 = XI X K 2 (fun v σ' => v = S 0 ∧ ((2 ≤ T ∧ T ≤ 24) ∧ fitS S T) ∧ E8 M b (mtS (upS S 0 T) (fun x => x % T) (S 1)) (min (n + 1) 10) (pushH n Hs S) σ') (fun E σ' => σ' = (M, R0 b) ∧ ((E = eIA ∧ ¬ (2 ≤ T ∧ T ≤ 24)) ∨ (E = eIS ∧ (2 ≤ T ∧ T ≤ 24) ∧ ¬ fitS S T))) := ⟨_, rfl⟩
  have key2 : (2 ≤ T ∧ T ≤ 24) → fitS S T → ∀ (nx1 : Int) (j i : Nat) (M' : Id4 → Int → Int), i + j = E → sameE M M' → plR M' 0 (mtS (upS S 0 T) (fun x => x % T) i) → hR8 M' nx1 (min (n + 1) 10) (pushH n Hs S) → AW X K 91 [aR (8, 0, 0, 0), aI T, aI (S 0), aI i] [] (M', R0 b) 1 Q9 := by
    intro hT hF nx1 j
    have u : ∀ j, j ≠ 0 → upS S 0 T j = S j := fun j hj => upS_ne hj
    induction j with
    | zero =>
      intro i M' hi a1 a2 a3
      have p1 : M' (5, 0, 0, 0) 1 = S 1 := by rw [a2.1.2.1, mtS_off (by omega)]; exact u 1 (by decide)
      have ei : (i : Int) = S 1 := by omega
      rw [ei] at a2
      refine aw_iload3 (pc := 91) F dX8_setPeriod_91 ?_
      refine aw_aload0 (pc := 92) F dX8_setPeriod_92 ?_
      refine aw_getR (pc := 93) F dX8_setPeriod_93 fl_8_34 rfl (by first | decide | (simp only [inB, cnt, rcnt]; omega)) rfl nz4 rfl ?_
      refine aw_getI (pc := 96) F dX8_setPeriod_96 fl_8_112 rfl (by first | decide | (simp only [inB, cnt, rcnt]; omega)) rfl nz1 ?_
      refine aw_icmp_ge (tgt := 130) (pc := 99) F dX8_setPeriod_99 (by decide) (by unfold inR; omega) (by unfold inR; omega) (fun c99 => ?_) (fun c99 => ?_)
      · rw [hQ]
        refine aw_iload2 (pc := 130) F dX8_setPeriod_130 ?_
        exact aw_xiret (pc := 131) F dX8_setPeriod_131 rfl (by decide) ⟨rfl, ⟨hT, hF⟩, M', nx1, rfl, a1, a2, a3⟩
      · omega
    | succ j ih =>
      intro i M' hi a1 a2 a3
      have p1 : M' (5, 0, 0, 0) 1 = S 1 := by rw [a2.1.2.1, mtS_off (by omega)]; exact u 1 (by decide)
      have pt : M' (5, 0, 4, 0) i = upS S 0 T (14 + (i : Int)) := by rw [a2.2.1 i (by omega) (by rw [mtS_off (by omega), u 1 (by decide)]; omega)]; exact mtS_off (by omega)
      have pt2 := u (14 + (i : Int)) (by omega)
      have tb := h.2.2.2.1 i (by omega) (by omega)
      refine aw_iload3 (pc := 91) F dX8_setPeriod_91 ?_
      refine aw_aload0 (pc := 92) F dX8_setPeriod_92 ?_
      refine aw_getR (pc := 93) F dX8_setPeriod_93 fl_8_34 rfl (by first | decide | (simp only [inB, cnt, rcnt]; omega)) rfl nz4 rfl ?_
      refine aw_getI (pc := 96) F dX8_setPeriod_96 fl_8_112 rfl (by first | decide | (simp only [inB, cnt, rcnt]; omega)) rfl nz1 ?_
      refine aw_icmp_ge (tgt := 130) (pc := 99) F dX8_setPeriod_99 (by decide) (by unfold inR; omega) (by unfold inR; omega) (fun c99 => ?_) (fun c99 => ?_)
      · omega
      · refine aw_aload0 (pc := 102) F dX8_setPeriod_102 ?_
        refine aw_getR (pc := 103) F dX8_setPeriod_103 fl_8_34 rfl (by first | decide | (simp only [inB, cnt, rcnt]; omega)) rfl nz4 rfl ?_
        refine aw_getR (pc := 106) F dX8_setPeriod_106 fl_8_122 rfl (by first | decide | (simp only [inB, cnt, rcnt]; omega)) rfl nz3 rfl ?_
        refine aw_iload3 (pc := 109) F dX8_setPeriod_109 ?_
        refine aw_aload0 (pc := 110) F dX8_setPeriod_110 ?_
        refine aw_getR (pc := 111) F dX8_setPeriod_111 fl_8_34 rfl (by first | decide | (simp only [inB, cnt, rcnt]; omega)) rfl nz4 rfl ?_
        refine aw_getR (pc := 114) F dX8_setPeriod_114 fl_8_122 rfl (by first | decide | (simp only [inB, cnt, rcnt]; omega)) rfl nz3 rfl ?_
        refine aw_iload3 (pc := 117) F dX8_setPeriod_117 ?_
        refine aw_iald (pc := 118) F dX8_setPeriod_118 rfl (by first | decide | (simp only [inB, cnt, rcnt]; omega)) (by omega) ?_
        refine aw_iload1 (pc := 119) F dX8_setPeriod_119 ?_
        refine aw_pcallS2 (pc := 120) F dX8_setPeriod_120 ml_8_203 (ct8_modulo _ _ _ _ (by rw [pt, pt2]; unfold inR; omega) (by omega)) (Nat.le_of_ble_eq_true rfl) (by decide) (by decide) ?_
        refine aw_iast (pc := 123) F dX8_setPeriod_123 rfl (by first | decide | (simp only [inB, cnt, rcnt]; omega)) (by omega) ?_
        refine aw_iinc3 (pc := 124) F dX8_setPeriod_124 rfl hk.symm ?_
        refine aw_goto (tgt := 91) (pc := 127) F dX8_setPeriod_127 (by decide) ?_
        exact ih (i + 1) _ (by omega) (a1.up) (by rw [pt, show ((i + 1 : Nat) : Int) = (i : Int) + 1 by rfl, ← mtS_step (S := upS S 0 T) (f := fun x => x % T) (i := (i : Int)) (by omega) rfl]; exact pl_time (by omega) a2) (a3.up (by decide))
  have key1 : (2 ≤ T ∧ T ≤ 24) → ∀ (j i : Nat) (w : AV), (i : Int) + j = S 20 → wide w = false → (∀ k : Int, 0 ≤ k → k < i → S (21 + 5 * k + 3) ≤ S (21 + 5 * k + 2) + T - 1) → AW X K 9 [aR (8, 0, 0, 0), aI T, aI i, w] [] (M, R0 b) 1 Q9 := by
    intro hT j
    induction j with
    | zero =>
      intro i w hi hw hf
      have hF : fitS S T := fun k k0 k1 => hf k k0 (by omega)
      refine aw_iload2 (pc := 9) F dX8_setPeriod_9 ?_
      refine aw_aload0 (pc := 10) F dX8_setPeriod_10 ?_
      refine aw_getR (pc := 11) F dX8_setPeriod_11 fl_8_34 rfl (by first | decide | (simp only [inB, cnt, rcnt]; omega)) rfl nz4 rfl ?_
      refine aw_getI (pc := 14) F dX8_setPeriod_14 fl_8_100 rfl (by first | decide | (simp only [inB, cnt, rcnt]; omega)) rfl nz2 ?_
      refine aw_icmp_ge (tgt := 62) (pc := 17) F dX8_setPeriod_17 (by decide) (by unfold inR; omega) (by unfold inR; omega) (fun c17 => ?_) (fun c17 => ?_)
      · refine aw_aload0 (pc := 62) F dX8_setPeriod_62 ?_
        refine aw_getR (pc := 63) F dX8_setPeriod_63 fl_8_44 rfl (by first | decide | (simp only [inB, cnt, rcnt]; omega)) rfl nz6 rfl ?_
        refine aw_aload0 (pc := 66) F dX8_setPeriod_66 ?_
        refine aw_getR (pc := 67) F dX8_setPeriod_67 fl_8_34 rfl (by first | decide | (simp only [inB, cnt, rcnt]; omega)) rfl nz4 rfl ?_
        refine aw_callVV1 (pc := 70) F dX8_setPeriod_70 ml_8_259 rfl (by first | decide | (simp only [inB, cnt, rcnt]; omega)) (ct2_remember _ _ S nx n Hs hR h hH) (Nat.le_of_ble_eq_true rfl) (by decide) (by decide) (fun σ9 h9_70 => ?_)
        obtain ⟨M1, nx1, h9, c1, c2⟩ := h9_70
        subst h9
        have r0 := c1.pl hR
        refine aw_aload0 (pc := 73) F dX8_setPeriod_73 ?_
        refine aw_getR (pc := 74) F dX8_setPeriod_74 fl_8_34 rfl (by first | decide | (simp only [inB, cnt, rcnt]; omega)) rfl nz4 rfl ?_
        refine aw_getI (pc := 77) F dX8_setPeriod_77 fl_8_109 rfl (by first | decide | (simp only [inB, cnt, rcnt]; omega)) rfl nz0 ?_
        rw [r0.1.1]
        refine aw_istore2 (pc := 80) F dX8_setPeriod_80 (by simp only [List.all_cons, List.all_nil, hw]; rfl) hk.symm ?_
        refine aw_aload0 (pc := 81) F dX8_setPeriod_81 ?_
        refine aw_getR (pc := 82) F dX8_setPeriod_82 fl_8_34 rfl (by first | decide | (simp only [inB, cnt, rcnt]; omega)) rfl nz4 rfl ?_
        refine aw_iload1 (pc := 85) F dX8_setPeriod_85 ?_
        refine aw_putI (pc := 86) F dX8_setPeriod_86 fl_8_109 fpi_5_0 rfl (by first | decide | (simp only [inB, cnt, rcnt]; omega)) rfl nz0 ?_
        refine aw_iconst (pc := 89) F dX8_setPeriod_89 ?_
        refine aw_istore3 (pc := 90) F dX8_setPeriod_90 (by simp only [List.all_cons, List.all_nil, hw]; rfl) hk.symm ?_
        exact key2 hT hF nx1 E 0 _ (by omega) (c1.e.up) (by rw [show ((0 : Nat) : Int) = 0 by rfl, mtS_0]; exact pl_period hE.1 r0) (c2.up (by decide))
      · omega
    | succ j ih =>
      intro i w hi hw hf
      obtain ⟨f0, f1, f2, f3, f4⟩ := hR.2.2 i (by omega) (by omega)
      have s := h.2.2.2.2 i (by omega) (by omega)
      unfold SpOk at s
      refine aw_iload2 (pc := 9) F dX8_setPeriod_9 ?_
      refine aw_aload0 (pc := 10) F dX8_setPeriod_10 ?_
      refine aw_getR (pc := 11) F dX8_setPeriod_11 fl_8_34 rfl (by first | decide | (simp only [inB, cnt, rcnt]; omega)) rfl nz4 rfl ?_
      refine aw_getI (pc := 14) F dX8_setPeriod_14 fl_8_100 rfl (by first | decide | (simp only [inB, cnt, rcnt]; omega)) rfl nz2 ?_
      refine aw_icmp_ge (tgt := 62) (pc := 17) F dX8_setPeriod_17 (by decide) (by unfold inR; omega) (by unfold inR; omega) (fun c17 => ?_) (fun c17 => ?_)
      · omega
      · refine aw_aload0 (pc := 20) F dX8_setPeriod_20 ?_
        refine aw_getR (pc := 21) F dX8_setPeriod_21 fl_8_34 rfl (by first | decide | (simp only [inB, cnt, rcnt]; omega)) rfl nz4 rfl ?_
        refine aw_getR (pc := 24) F dX8_setPeriod_24 fl_8_138 rfl (by first | decide | (simp only [inB, cnt, rcnt]; omega)) rfl nz7 rfl ?_
        refine aw_iload2 (pc := 27) F dX8_setPeriod_27 ?_
        refine aw_iald (pc := 28) F dX8_setPeriod_28 rfl (by first | decide | (simp only [inB, cnt, rcnt]; omega)) (by omega) ?_
        refine aw_aload0 (pc := 29) F dX8_setPeriod_29 ?_
        refine aw_getR (pc := 30) F dX8_setPeriod_30 fl_8_34 rfl (by first | decide | (simp only [inB, cnt, rcnt]; omega)) rfl nz4 rfl ?_
        refine aw_getR (pc := 33) F dX8_setPeriod_33 fl_8_135 rfl (by first | decide | (simp only [inB, cnt, rcnt]; omega)) rfl nz6 rfl ?_
        refine aw_iload2 (pc := 36) F dX8_setPeriod_36 ?_
        refine aw_iald (pc := 37) F dX8_setPeriod_37 rfl (by first | decide | (simp only [inB, cnt, rcnt]; omega)) (by omega) ?_
        refine aw_iload1 (pc := 38) F dX8_setPeriod_38 ?_
        refine aw_iadd (pc := 39) F dX8_setPeriod_39 ?_
        refine aw_iconst (pc := 40) F dX8_setPeriod_40 ?_
        refine aw_isub (pc := 41) F dX8_setPeriod_41 ?_
        refine aw_icmp_le (tgt := 56) (pc := 42) F dX8_setPeriod_42 (by decide) (by unfold inR; omega) (by unfold inR; omega) (fun c42 => ?_) (fun c42 => ?_)
        · refine aw_iinc2 (pc := 56) F dX8_setPeriod_56 (by simp only [List.all_cons, List.all_nil, hw]; rfl) hk.symm ?_
          refine aw_goto (tgt := 9) (pc := 59) F dX8_setPeriod_59 (by decide) ?_
          exact ih (i + 1) w (by omega) hw (fun k k0 k1 => by
            by_cases z : k = i
            · rw [z]; omega
            · exact hf k k0 (by omega))
        · rw [hQ]
          exact aw_throwIW (pc := 45) F dX8_setPeriod_45 dX8_setPeriod_48 dX8_setPeriod_49 dX8_setPeriod_52 dX8_setPeriod_55 th_267_276_271 (by decide) (by decide) (Nat.le_of_ble_eq_true rfl) ⟨rfl, Or.inr ⟨rfl, hT, fun z => by have := z i (by omega) (by omega); omega⟩⟩
  refine aw_iload1 (pc := 0) F dX8_setPeriod_0 ?_
  refine aw_iconst (pc := 1) F dX8_setPeriod_1 ?_
  refine aw_bipush (pc := 2) F dX8_setPeriod_2 (by decide) ?_
  refine aw_xcallSVI3 (pc := 4) F dX8_setPeriod_4 ml_8_80 (cx8_requireRange _ _ _ _ _ h1 (by unfold inR; omega) (by unfold inR; omega)) (Nat.le_of_ble_eq_true rfl) (by decide) (by decide) (fun _ _ h => ⟨h.2.1, Or.inl ⟨h.1, h.2.2⟩⟩) (fun σ9 h9_4 => ?_)
  obtain ⟨rfl, q1, q2⟩ := h9_4
  refine aw_iconst (pc := 7) F dX8_setPeriod_7 ?_
  refine aw_istore2 (pc := 8) F dX8_setPeriod_8 rfl hk.symm ?_
  rw [← hQ]
  exact key1 ⟨q1, q2⟩ (S 20).toNat 0 aX (by omega) rfl (fun k k0 k1 => absurd k1 (by omega))
