/-! 36: the class's plans: copied, changed; its history -/
theorem cpy_at {M : Id4 → Int → Int} {q0 q1 : Id4} {n k : Int} (h : 0 ≤ k ∧ k < n) : cpyM M q0 0 q1 0 n q1 k = M q0 k := by
  unfold cpyM
  rw [if_pos ⟨rfl, h.1, by omega⟩]
  congr 1
  omega
theorem cpy_off {M : Id4 → Int → Int} {q0 q1 q : Id4} {sp dp n : Int} (h : q ≠ q1) : cpyM M q0 sp q1 dp n q = M q := by
  funext k
  unfold cpyM
  rw [if_neg (fun z => h z.1)]
/-- all but the cells of plan p -/
def chg5 (p : Int) (M M' : Id4 → Int → Int) : Prop := ∀ q, ¬ (q.1 = 5 ∧ q.2.1 = p) → M' q = M q
theorem chg5.rf {p : Int} {M : Id4 → Int → Int} : chg5 p M M := fun _ _ => rfl
theorem chg5.tr {p : Int} {M M1 M2 : Id4 → Int → Int} (h1 : chg5 p M M1) (h2 : chg5 p M1 M2) : chg5 p M M2 := fun q h => (h2 q h).trans (h1 q h)
theorem chg5.up {p : Int} {M M1 : Id4 → Int → Int} {c : Nat} {r k v : Int} (h1 : chg5 p M M1) : chg5 p M (updM M1 (5, p, c, r) k v) := fun q h => by
  rw [← h1 q h]
  funext j
  exact upd_ne (Or.inl (fun z => h (by rw [z]; exact ⟨rfl, rfl⟩)))
theorem chg5.cp {p : Int} {M M1 : Id4 → Int → Int} {q0 : Id4} {c : Nat} {r a b n : Int} (h1 : chg5 p M M1) : chg5 p M (cpyM M1 q0 a (5, p, c, r) b n) := fun q h => by
  rw [← h1 q h]
  exact cpy_off (fun z => h (by rw [z]; exact ⟨rfl, rfl⟩))
theorem chg5.pl {p p' : Int} {M M' : Id4 → Int → Int} {S : Int → Int} (h : chg5 p M M') (hne : p' ≠ p) (hR : plR M p' S) : plR M' p' S := by
  have e : ∀ c : Nat, M' (5, p', c, 0) = M (5, p', c, 0) := fun c => h _ (fun z => hne z.2)
  unfold plR at hR ⊢
  rw [e, e, e, e, e, e, e]
  exact hR
theorem ct5_copyFrom (M : Id4 → Int → Int) (b : Bool) (p q : Int) (hp : 0 ≤ p ∧ p < 13) (hq : 0 ≤ q ∧ q < 13) (hne : p ≠ q) : CtV 3 0 yX5_copyFrom cX5_copyFrom 2 none [aR (5, q, 0, 0), aR (5, p, 0, 0)] (M, R0 b) (fun σ' => ∃ M', σ' = (M', R0 b) ∧ chg5 q M M' ∧ ∀ S, Ok S → plR M p S → plR M' q S) := by
  refine CtV.mk (by decide +kernel) rfl (Nat.le_of_ble_eq_true rfl) (fun X K F hk => ?_)
  refine aw_aload0 (pc := 0) F dX5_copyFrom_0 ?_
  refine aw_aload1 (pc := 1) F dX5_copyFrom_1 ?_
  refine aw_getI (pc := 2) F dX5_copyFrom_2 fl_5_9 rfl (by first | decide | (simp only [inB, cnt, rcnt]; omega)) rfl nz0 ?_
  refine aw_putI (pc := 5) F dX5_copyFrom_5 fl_5_9 fpi_5_0 rfl (by first | decide | (simp only [inB, cnt, rcnt]; omega)) rfl nz0 ?_
  refine aw_aload0 (pc := 8) F dX5_copyFrom_8 ?_
  refine aw_aload1 (pc := 9) F dX5_copyFrom_9 ?_
  refine aw_getI (pc := 10) F dX5_copyFrom_10 fl_5_15 rfl (by first | decide | (simp only [inB, cnt, rcnt]; omega)) rfl nz1 ?_
  refine aw_putI (pc := 13) F dX5_copyFrom_13 fl_5_15 fpi_5_1 rfl (by first | decide | (simp only [inB, cnt, rcnt]; omega)) rfl nz1 ?_
  refine aw_aload0 (pc := 16) F dX5_copyFrom_16 ?_
  refine aw_aload1 (pc := 17) F dX5_copyFrom_17 ?_
  refine aw_getI (pc := 18) F dX5_copyFrom_18 fl_5_18 rfl (by first | decide | (simp only [inB, cnt, rcnt]; omega)) rfl nz2 ?_
  refine aw_putI (pc := 21) F dX5_copyFrom_21 fl_5_18 fpi_5_2 rfl (by first | decide | (simp only [inB, cnt, rcnt]; omega)) rfl nz2 ?_
  refine aw_aload1 (pc := 24) F dX5_copyFrom_24 ?_
  refine aw_getR (pc := 25) F dX5_copyFrom_25 fl_5_21 rfl (by first | decide | (simp only [inB, cnt, rcnt]; omega)) rfl nz3 rfl ?_
  refine aw_iconst (pc := 28) F dX5_copyFrom_28 ?_
  refine aw_aload0 (pc := 29) F dX5_copyFrom_29 ?_
  refine aw_getR (pc := 30) F dX5_copyFrom_30 fl_5_21 rfl (by first | decide | (simp only [inB, cnt, rcnt]; omega)) rfl nz3 rfl ?_
  refine aw_iconst (pc := 33) F dX5_copyFrom_33 ?_
  refine aw_bipush (pc := 34) F dX5_copyFrom_34 (by decide) ?_
  refine aw_copy (pc := 36) F dX5_copyFrom_36 mc_5_40 rfl rfl (by first | decide | omega) (by first | decide | (simp only [inB, cnt, rcnt]; omega)) (by first | decide | (simp only [inB, cnt, rcnt]; omega)) (by omega) (by omega) (by omega) (fun _ _ _ => rfl) (Nat.le_of_ble_eq_true rfl) (by first | decide | omega) ?_
  refine aw_aload1 (pc := 39) F dX5_copyFrom_39 ?_
  refine aw_getR (pc := 40) F dX5_copyFrom_40 fl_5_25 rfl (by first | decide | (simp only [inB, cnt, rcnt]; omega)) rfl nz4 rfl ?_
  refine aw_iconst (pc := 43) F dX5_copyFrom_43 ?_
  refine aw_aload0 (pc := 44) F dX5_copyFrom_44 ?_
  refine aw_getR (pc := 45) F dX5_copyFrom_45 fl_5_25 rfl (by first | decide | (simp only [inB, cnt, rcnt]; omega)) rfl nz4 rfl ?_
  refine aw_iconst (pc := 48) F dX5_copyFrom_48 ?_
  refine aw_bipush (pc := 49) F dX5_copyFrom_49 (by decide) ?_
  refine aw_copy (pc := 51) F dX5_copyFrom_51 mc_5_40 rfl rfl (by first | decide | omega) (by first | decide | (simp only [inB, cnt, rcnt]; omega)) (by first | decide | (simp only [inB, cnt, rcnt]; omega)) (by omega) (by omega) (by omega) (fun _ _ _ => rfl) (Nat.le_of_ble_eq_true rfl) (by first | decide | omega) ?_
  refine aw_aload1 (pc := 54) F dX5_copyFrom_54 ?_
  refine aw_getR (pc := 55) F dX5_copyFrom_55 fl_5_28 rfl (by first | decide | (simp only [inB, cnt, rcnt]; omega)) rfl nz5 rfl ?_
  refine aw_iconst (pc := 58) F dX5_copyFrom_58 ?_
  refine aw_aload0 (pc := 59) F dX5_copyFrom_59 ?_
  refine aw_getR (pc := 60) F dX5_copyFrom_60 fl_5_28 rfl (by first | decide | (simp only [inB, cnt, rcnt]; omega)) rfl nz5 rfl ?_
  refine aw_iconst (pc := 63) F dX5_copyFrom_63 ?_
  refine aw_bipush (pc := 64) F dX5_copyFrom_64 (by decide) ?_
  refine aw_copy (pc := 66) F dX5_copyFrom_66 mc_5_40 rfl rfl (by first | decide | omega) (by first | decide | (simp only [inB, cnt, rcnt]; omega)) (by first | decide | (simp only [inB, cnt, rcnt]; omega)) (by omega) (by omega) (by omega) (fun _ _ _ => rfl) (Nat.le_of_ble_eq_true rfl) (by first | decide | omega) ?_
  refine aw_aload1 (pc := 69) F dX5_copyFrom_69 ?_
  refine aw_getR (pc := 70) F dX5_copyFrom_70 fl_5_31 rfl (by first | decide | (simp only [inB, cnt, rcnt]; omega)) rfl nz6 rfl ?_
  refine aw_iconst (pc := 73) F dX5_copyFrom_73 ?_
  refine aw_aload0 (pc := 74) F dX5_copyFrom_74 ?_
  refine aw_getR (pc := 75) F dX5_copyFrom_75 fl_5_31 rfl (by first | decide | (simp only [inB, cnt, rcnt]; omega)) rfl nz6 rfl ?_
  refine aw_iconst (pc := 78) F dX5_copyFrom_78 ?_
  refine aw_bipush (pc := 79) F dX5_copyFrom_79 (by decide) ?_
  refine aw_copy (pc := 81) F dX5_copyFrom_81 mc_5_40 rfl rfl (by first | decide | omega) (by first | decide | (simp only [inB, cnt, rcnt]; omega)) (by first | decide | (simp only [inB, cnt, rcnt]; omega)) (by omega) (by omega) (by omega) (fun _ _ _ => rfl) (Nat.le_of_ble_eq_true rfl) (by first | decide | omega) ?_
  refine aw_aload1 (pc := 84) F dX5_copyFrom_84 ?_
  refine aw_getR (pc := 85) F dX5_copyFrom_85 fl_5_34 rfl (by first | decide | (simp only [inB, cnt, rcnt]; omega)) rfl nz7 rfl ?_
  refine aw_iconst (pc := 88) F dX5_copyFrom_88 ?_
  refine aw_aload0 (pc := 89) F dX5_copyFrom_89 ?_
  refine aw_getR (pc := 90) F dX5_copyFrom_90 fl_5_34 rfl (by first | decide | (simp only [inB, cnt, rcnt]; omega)) rfl nz7 rfl ?_
  refine aw_iconst (pc := 93) F dX5_copyFrom_93 ?_
  refine aw_bipush (pc := 94) F dX5_copyFrom_94 (by decide) ?_
  refine aw_copy (pc := 96) F dX5_copyFrom_96 mc_5_40 rfl rfl (by first | decide | omega) (by first | decide | (simp only [inB, cnt, rcnt]; omega)) (by first | decide | (simp only [inB, cnt, rcnt]; omega)) (by omega) (by omega) (by omega) (fun _ _ _ => rfl) (Nat.le_of_ble_eq_true rfl) (by first | decide | omega) ?_
  refine aw_aload1 (pc := 99) F dX5_copyFrom_99 ?_
  refine aw_getR (pc := 100) F dX5_copyFrom_100 fl_5_37 rfl (by first | decide | (simp only [inB, cnt, rcnt]; omega)) rfl nz8 rfl ?_
  refine aw_iconst (pc := 103) F dX5_copyFrom_103 ?_
  refine aw_aload0 (pc := 104) F dX5_copyFrom_104 ?_
  refine aw_getR (pc := 105) F dX5_copyFrom_105 fl_5_37 rfl (by first | decide | (simp only [inB, cnt, rcnt]; omega)) rfl nz8 rfl ?_
  refine aw_iconst (pc := 108) F dX5_copyFrom_108 ?_
  refine aw_bipush (pc := 109) F dX5_copyFrom_109 (by decide) ?_
  refine aw_copy (pc := 111) F dX5_copyFrom_111 mc_5_40 rfl rfl (by first | decide | omega) (by first | decide | (simp only [inB, cnt, rcnt]; omega)) (by first | decide | (simp only [inB, cnt, rcnt]; omega)) (by omega) (by omega) (by omega) (fun _ _ _ => rfl) (Nat.le_of_ble_eq_true rfl) (by first | decide | omega) ?_
  exact aw_vret (pc := 114) F dX5_copyFrom_114 (Nat.zero_le _) ⟨_, rfl, ((((((((chg5.rf.up).up).up).cp).cp).cp).cp).cp).cp, fun S hO hR => by
    have hE := hO.2.1
    have hN := hO.2.2.1
    have hne' : ¬ q = p := fun z => hne z.symm
    refine ⟨⟨?_, ?_, ?_⟩, fun e h0 h1 => ?_, fun k h0 h1 => ⟨?_, ?_, ?_, ?_, ?_⟩⟩
    · rw [← hR.1.1]; simp [cpyM, updM, hne, hne']
    · rw [← hR.1.2.1]; simp [cpyM, updM, hne, hne']
    · rw [← hR.1.2.2]; simp [cpyM, updM, hne, hne']
    · rw [← hR.2.1 e h0 h1]; simp [cpyM, updM, hne, hne', h0, show e < 6 by omega]
    · rw [← (hR.2.2 k h0 h1).1]; simp [cpyM, updM, hne, hne', h0, show k < 14 by omega]
    · rw [← (hR.2.2 k h0 h1).2.1]; simp [cpyM, updM, hne, hne', h0, show k < 14 by omega]
    · rw [← (hR.2.2 k h0 h1).2.2.1]; simp [cpyM, updM, hne, hne', h0, show k < 14 by omega]
    · rw [← (hR.2.2 k h0 h1).2.2.2.1]; simp [cpyM, updM, hne, hne', h0, show k < 14 by omega]
    · rw [← (hR.2.2 k h0 h1).2.2.2.2]; simp [cpyM, updM, hne, hne', h0, show k < 14 by omega]⟩
/-- a row with one span more -/
def apS (S : Int → Int) (x y lo hi w : Int) : Int → Int := upS (upS (upS (upS (upS (upS S 20 (S 20 + 1)) (21 + 5 * S 20 + 0) x) (21 + 5 * S 20 + 1) y) (21 + 5 * S 20 + 2) lo) (21 + 5 * S 20 + 3) hi) (21 + 5 * S 20 + 4) w
theorem apS_lo {S : Int → Int} {x y lo hi w j : Int} (h : j ≠ 20) (h2 : j < 21 + 5 * S 20) : apS S x y lo hi w j = S j := by
  unfold apS
  rw [upS_ne (by omega), upS_ne (by omega), upS_ne (by omega), upS_ne (by omega), upS_ne (by omega), upS_ne h]
theorem apS_n {S : Int → Int} {x y lo hi w : Int} (h : 0 ≤ S 20) : apS S x y lo hi w 20 = S 20 + 1 := by
  unfold apS
  rw [upS_ne (by omega), upS_ne (by omega), upS_ne (by omega), upS_ne (by omega), upS_ne (by omega), upS_same]
theorem apS_at {S : Int → Int} {x y lo hi w : Int} : apS S x y lo hi w (21 + 5 * S 20 + 0) = x ∧ apS S x y lo hi w (21 + 5 * S 20 + 1) = y ∧ apS S x y lo hi w (21 + 5 * S 20 + 2) = lo ∧ apS S x y lo hi w (21 + 5 * S 20 + 3) = hi ∧ apS S x y lo hi w (21 + 5 * S 20 + 4) = w := by
  unfold apS
  refine ⟨?_, ?_, ?_, ?_, ?_⟩
  · rw [upS_ne (by omega), upS_ne (by omega), upS_ne (by omega), upS_ne (by omega), upS_same]
  · rw [upS_ne (by omega), upS_ne (by omega), upS_ne (by omega), upS_same]
  · rw [upS_ne (by omega), upS_ne (by omega), upS_same]
  · rw [upS_ne (by omega), upS_same]
  · rw [upS_same]
theorem ct5_appendSpan (M : Id4 → Int → Int) (b : Bool) (S : Int → Int) (p x y lo hi w : Int) (hp : 0 ≤ p ∧ p < 13) (hR : plR M p S) (h : Ok S) (hk9 : S 20 < 14) : CtV 1 0 yX5_appendSpan cX5_appendSpan 6 none [aR (5, p, 0, 0), aI x, aI y, aI lo, aI hi, aI w] (M, R0 b) (fun σ' => ∃ M', σ' = (M', R0 b) ∧ chg5 p M M' ∧ plR M' p (apS S x y lo hi w)) := by
  refine CtV.mk (by decide +kernel) rfl (Nat.le_of_ble_eq_true rfl) (fun X K F hk => ?_)
  have hN := h.2.2.1
  have hE := h.2.1
  have e2 := hR.1.2.2
  refine aw_aload0 (pc := 0) F dX5_appendSpan_0 ?_
  refine aw_getI (pc := 1) F dX5_appendSpan_1 fl_5_18 rfl (by first | decide | (simp only [inB, cnt, rcnt]; omega)) rfl nz2 ?_
  refine aw_bipush (pc := 4) F dX5_appendSpan_4 (by decide) ?_
  refine aw_icmp_ge (tgt := 71) (pc := 6) F dX5_appendSpan_6 (by decide) (by unfold inR; omega) (by unfold inR; omega) (fun c6 => ?_) (fun c6 => ?_)
  · omega
  · refine aw_aload0 (pc := 9) F dX5_appendSpan_9 ?_
    refine aw_getR (pc := 10) F dX5_appendSpan_10 fl_5_25 rfl (by first | decide | (simp only [inB, cnt, rcnt]; omega)) rfl nz4 rfl ?_
    refine aw_aload0 (pc := 13) F dX5_appendSpan_13 ?_
    refine aw_getI (pc := 14) F dX5_appendSpan_14 fl_5_18 rfl (by first | decide | (simp only [inB, cnt, rcnt]; omega)) rfl nz2 ?_
    refine aw_iload1 (pc := 17) F dX5_appendSpan_17 ?_
    refine aw_iast (pc := 18) F dX5_appendSpan_18 rfl (by first | decide | (simp only [inB, cnt, rcnt]; omega)) (by first | omega | (simp [updM]; omega)) ?_
    refine aw_aload0 (pc := 19) F dX5_appendSpan_19 ?_
    refine aw_getR (pc := 20) F dX5_appendSpan_20 fl_5_28 rfl (by first | decide | (simp only [inB, cnt, rcnt]; omega)) rfl nz5 rfl ?_
    refine aw_aload0 (pc := 23) F dX5_appendSpan_23 ?_
    refine aw_getI (pc := 24) F dX5_appendSpan_24 fl_5_18 rfl (by first | decide | (simp only [inB, cnt, rcnt]; omega)) rfl nz2 ?_
    refine aw_iload2 (pc := 27) F dX5_appendSpan_27 ?_
    refine aw_iast (pc := 28) F dX5_appendSpan_28 rfl (by first | decide | (simp only [inB, cnt, rcnt]; omega)) (by first | omega | (simp [updM]; omega)) ?_
    refine aw_aload0 (pc := 29) F dX5_appendSpan_29 ?_
    refine aw_getR (pc := 30) F dX5_appendSpan_30 fl_5_31 rfl (by first | decide | (simp only [inB, cnt, rcnt]; omega)) rfl nz6 rfl ?_
    refine aw_aload0 (pc := 33) F dX5_appendSpan_33 ?_
    refine aw_getI (pc := 34) F dX5_appendSpan_34 fl_5_18 rfl (by first | decide | (simp only [inB, cnt, rcnt]; omega)) rfl nz2 ?_
    refine aw_iload3 (pc := 37) F dX5_appendSpan_37 ?_
    refine aw_iast (pc := 38) F dX5_appendSpan_38 rfl (by first | decide | (simp only [inB, cnt, rcnt]; omega)) (by first | omega | (simp [updM]; omega)) ?_
    refine aw_aload0 (pc := 39) F dX5_appendSpan_39 ?_
    refine aw_getR (pc := 40) F dX5_appendSpan_40 fl_5_34 rfl (by first | decide | (simp only [inB, cnt, rcnt]; omega)) rfl nz7 rfl ?_
    refine aw_aload0 (pc := 43) F dX5_appendSpan_43 ?_
    refine aw_getI (pc := 44) F dX5_appendSpan_44 fl_5_18 rfl (by first | decide | (simp only [inB, cnt, rcnt]; omega)) rfl nz2 ?_
    refine aw_iload4 (pc := 47) F dX5_appendSpan_47 ?_
    refine aw_iast (pc := 49) F dX5_appendSpan_49 rfl (by first | decide | (simp only [inB, cnt, rcnt]; omega)) (by first | omega | (simp [updM]; omega)) ?_
    refine aw_aload0 (pc := 50) F dX5_appendSpan_50 ?_
    refine aw_getR (pc := 51) F dX5_appendSpan_51 fl_5_37 rfl (by first | decide | (simp only [inB, cnt, rcnt]; omega)) rfl nz8 rfl ?_
    refine aw_aload0 (pc := 54) F dX5_appendSpan_54 ?_
    refine aw_getI (pc := 55) F dX5_appendSpan_55 fl_5_18 rfl (by first | decide | (simp only [inB, cnt, rcnt]; omega)) rfl nz2 ?_
    refine aw_iload5 (pc := 58) F dX5_appendSpan_58 ?_
    refine aw_iast (pc := 60) F dX5_appendSpan_60 rfl (by first | decide | (simp only [inB, cnt, rcnt]; omega)) (by first | omega | (simp [updM]; omega)) ?_
    refine aw_aload0 (pc := 61) F dX5_appendSpan_61 ?_
    refine aw_dupR (pc := 62) F dX5_appendSpan_62 ?_
    refine aw_getI (pc := 63) F dX5_appendSpan_63 fl_5_18 rfl (by first | decide | (simp only [inB, cnt, rcnt]; omega)) rfl nz2 ?_
    refine aw_iconst (pc := 66) F dX5_appendSpan_66 ?_
    refine aw_iadd (pc := 67) F dX5_appendSpan_67 ?_
    refine aw_putI (pc := 68) F dX5_appendSpan_68 fl_5_18 fpi_5_2 rfl (by first | decide | (simp only [inB, cnt, rcnt]; omega)) rfl nz2 ?_
    exact aw_vret (pc := 71) F dX5_appendSpan_71 (Nat.zero_le _) ⟨_, rfl, (((((chg5.rf.up).up).up).up).up).up, by
      refine ⟨⟨?_, ?_, ?_⟩, fun e h0 h1 => ?_, fun k h0 h1 => ?_⟩
      · rw [apS_lo (by decide) (by omega), ← hR.1.1]; simp [updM]
      · rw [apS_lo (by decide) (by omega), ← hR.1.2.1]; simp [updM]
      · rw [apS_n hN.1, ← e2]; simp [updM]
      · rw [apS_lo (by decide) (by omega)] at h1
        rw [apS_lo (by omega) (by omega), ← hR.2.1 e h0 h1]; simp [updM]
      · rw [apS_n hN.1] at h1
        by_cases z : k = S 20
        · obtain ⟨q0, q1, q2, q3, q4⟩ := apS_at (S := S) (x := x) (y := y) (lo := lo) (hi := hi) (w := w)
          rw [z, q0, q1, q2, q3, q4]; simp [updM, e2]
        · rw [apS_lo (by omega) (by omega), apS_lo (by omega) (by omega), apS_lo (by omega) (by omega), apS_lo (by omega) (by omega), apS_lo (by omega) (by omega)]
          obtain ⟨r0, r1, r2, r3, r4⟩ := hR.2.2 k h0 (by omega)
          rw [← r0, ← r1, ← r2, ← r3, ← r4]; simp [updM, e2, z]⟩
