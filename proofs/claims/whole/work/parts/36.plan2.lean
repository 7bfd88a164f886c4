/-! 36: the class's plans: copied, changed; its history -/
theorem cpy_at {M : Id4 → Int → Int} {q0 q1 : Id4} {n k : Int} (h : 0 ≤ k ∧ k < n) : cpyM M q0 0 q1 0 n q1 k = M q0 k := by
  unfold cpyM
  rw [if_pos ⟨rfl, h.1, by omega⟩]
  congr 1
  omega
theorem cpy_off {M : Id4 → Int → Int} {q0 q1 q : Id4} {sp dp n : Int} (h : q ≠ q1) : cpyM M q0 sp q1 dp n q = M q := by
  funext k
  unfold cpyM
  rw [if_neg (fun z => h z.1)]
/-- all but the cells of plan p -/
def chg5 (p : Int) (M M' : Id4 → Int → Int) : Prop := ∀ q, ¬ (q.1 = 5 ∧ q.2.1 = p) → M' q = M q
theorem chg5.rf {p : Int} {M : Id4 → Int → Int} : chg5 p M M := fun _ _ => rfl
theorem chg5.tr {p : Int} {M M1 M2 : Id4 → Int → Int} (h1 : chg5 p M M1) (h2 : chg5 p M1 M2) : chg5 p M M2 := fun q h => (h2 q h).trans (h1 q h)
theorem chg5.up {p : Int} {M M1 : Id4 → Int → Int} {c : Nat} {r k v : Int} (h1 : chg5 p M M1) : chg5 p M (updM M1 (5, p, c, r) k v) := fun q h => by
  rw [← h1 q h]
  funext j
  exact upd_ne (Or.inl (fun z => h (by rw [z]; exact ⟨rfl, rfl⟩)))
theorem chg5.cp {p : Int} {M M1 : Id4 → Int → Int} {q0 : Id4} {c : Nat} {r a b n : Int} (h1 : chg5 p M M1) : chg5 p M (cpyM M1 q0 a (5, p, c, r) b n) := fun q h => by
  rw [← h1 q h]
  exact cpy_off (fun z => h (by rw [z]; exact ⟨rfl, rfl⟩))
theorem chg5.pl {p p' : Int} {M M' : Id4 → Int → Int} {S : Int → Int} (h : chg5 p M M') (hne : p' ≠ p) (hR : plR M p' S) : plR M' p' S := by
  have e : ∀ c : Nat, M' (5, p', c, 0) = M (5, p', c, 0) := fun c => h _ (fun z => hne z.2)
  unfold plR at hR ⊢
  rw [e, e, e, e, e, e, e]
  exact hR
theorem ct5_copyFrom (M : Id4 → Int → Int) (b : Bool) (p q : Int) (hp : 0 ≤ p ∧ p < 13) (hq : 0 ≤ q ∧ q < 13) (hne : p ≠ q) : CtV 3 0 yX5_copyFrom cX5_copyFrom 2 none [aR (5, q, 0, 0), aR (5, p, 0, 0)] (M, R0 b) (fun σ' => ∃ M', σ' = (M', R0 b) ∧ chg5 q M M' ∧ ∀ S, Ok S → plR M p S → plR M' q S) := by
  refine CtV.mk (by decide +kernel) rfl (Nat.le_of_ble_eq_true rfl) (fun X K F hk => ?_)
  refine aw_aload0 (pc := 0) F dX5_copyFrom_0 ?_
  refine aw_aload1 (pc := 1) F dX5_copyFrom_1 ?_
  refine aw_getI (pc := 2) F dX5_copyFrom_2 fl_5_9 rfl (by first | decide | (simp only [inB, cnt, rcnt]; omega)) rfl nz0 ?_
  refine aw_putI (pc := 5) F dX5_copyFrom_5 fl_5_9 fpi_5_0 rfl (by first | decide | (simp only [inB, cnt, rcnt]; omega)) rfl nz0 ?_
  refine aw_aload0 (pc := 8) F dX5_copyFrom_8 ?_
  refine aw_aload1 (pc := 9) F dX5_copyFrom_9 ?_
  refine aw_getI (pc := 10) F dX5_copyFrom_10 fl_5_15 rfl (by first | decide | (simp only [inB, cnt, rcnt]; omega)) rfl nz1 ?_
  refine aw_putI (pc := 13) F dX5_copyFrom_13 fl_5_15 fpi_5_1 rfl (by first | decide | (simp only [inB, cnt, rcnt]; omega)) rfl nz1 ?_
  refine aw_aload0 (pc := 16) F dX5_copyFrom_16 ?_
  refine aw_aload1 (pc := 17) F dX5_copyFrom_17 ?_
  refine aw_getI (pc := 18) F dX5_copyFrom_18 fl_5_18 rfl (by first | decide | (simp only [inB, cnt, rcnt]; omega)) rfl nz2 ?_
  refine aw_putI (pc := 21) F dX5_copyFrom_21 fl_5_18 fpi_5_2 rfl (by first | decide | (simp only [inB, cnt, rcnt]; omega)) rfl nz2 ?_
  refine aw_aload1 (pc := 24) F dX5_copyFrom_24 ?_
  refine aw_getR (pc := 25) F dX5_copyFrom_25 fl_5_21 rfl (by first | decide | (simp only [inB, cnt, rcnt]; omega)) rfl nz3 rfl ?_
  refine aw_iconst (pc := 28) F dX5_copyFrom_28 ?_
  refine aw_aload0 (pc := 29) F dX5_copyFrom_29 ?_
  refine aw_getR (pc := 30) F dX5_copyFrom_30 fl_5_21 rfl (by first | decide | (simp only [inB, cnt, rcnt]; omega)) rfl nz3 rfl ?_
  refine aw_iconst (pc := 33) F dX5_copyFrom_33 ?_
  refine aw_bipush (pc := 34) F dX5_copyFrom_34 (by decide) ?_
  refine aw_copy (pc := 36) F dX5_copyFrom_36 mc_5_40 rfl rfl (by first | decide | omega) (by first | decide | (simp only [inB, cnt, rcnt]; omega)) (by first | decide | (simp only [inB, cnt, rcnt]; omega)) (by omega) (by omega) (by omega) (fun _ _ _ => rfl) (Nat.le_of_ble_eq_true rfl) (by first | decide | omega) ?_
  refine aw_aload1 (pc := 39) F dX5_copyFrom_39 ?_
  refine aw_getR (pc := 40) F dX5_copyFrom_40 fl_5_25 rfl (by first | decide | (simp only [inB, cnt, rcnt]; omega)) rfl nz4 rfl ?_
  refine aw_iconst (pc := 43) F dX5_copyFrom_43 ?_
  refine aw_aload0 (pc := 44) F dX5_copyFrom_44 ?_
  refine aw_getR (pc := 45) F dX5_copyFrom_45 fl_5_25 rfl (by first | decide | (simp only [inB, cnt, rcnt]; omega)) rfl nz4 rfl ?_
  refine aw_iconst (pc := 48) F dX5_copyFrom_48 ?_
  refine aw_bipush (pc := 49) F dX5_copyFrom_49 (by decide) ?_
  refine aw_copy (pc := 51) F dX5_copyFrom_51 mc_5_40 rfl rfl (by first | decide | omega) (by first | decide | (simp only [inB, cnt, rcnt]; omega)) (by first | decide | (simp only [inB, cnt, rcnt]; omega)) (by omega) (by omega) (by omega) (fun _ _ _ => rfl) (Nat.le_of_ble_eq_true rfl) (by first | decide | omega) ?_
  refine aw_aload1 (pc := 54) F dX5_copyFrom_54 ?_
  refine aw_getR (pc := 55) F dX5_copyFrom_55 fl_5_28 rfl (by first | decide | (simp only [inB, cnt, rcnt]; omega)) rfl nz5 rfl ?_
  refine aw_iconst (pc := 58) F dX5_copyFrom_58 ?_
  refine aw_aload0 (pc := 59) F dX5_copyFrom_59 ?_
  refine aw_getR (pc := 60) F dX5_copyFrom_60 fl_5_28 rfl (by first | decide | (simp only [inB, cnt, rcnt]; omega)) rfl nz5 rfl ?_
  refine aw_iconst (pc := 63) F dX5_copyFrom_63 ?_
  refine aw_bipush (pc := 64) F dX5_copyFrom_64 (by decide) ?_
  refine aw_copy (pc := 66) F dX5_copyFrom_66 mc_5_40 rfl rfl (by first | decide | omega) (by first | decide | (simp only [inB, cnt, rcnt]; omega)) (by first | decide | (simp only [inB, cnt, rcnt]; omega)) (by omega) (by omega) (by omega) (fun _ _ _ => rfl) (Nat.le_of_ble_eq_true rfl) (by first | decide | omega) ?_
  refine aw_aload1 (pc := 69) F dX5_copyFrom_69 ?_
  refine aw_getR (pc := 70) F dX5_copyFrom_70 fl_5_31 rfl (by first | decide | (simp only [inB, cnt, rcnt]; omega)) rfl nz6 rfl ?_
  refine aw_iconst (pc := 73) F dX5_copyFrom_73 ?_
  refine aw_aload0 (pc := 74) F dX5_copyFrom_74 ?_
  refine aw_getR (pc := 75) F dX5_copyFrom_75 fl_5_31 rfl (by first | decide | (simp only [inB, cnt, rcnt]; omega)) rfl nz6 rfl ?_
  refine aw_iconst (pc := 78) F dX5_copyFrom_78 ?_
  refine aw_bipush (pc := 79) F dX5_copyFrom_79 (by decide) ?_
  refine aw_copy (pc := 81) F dX5_copyFrom_81 mc_5_40 rfl rfl (by first | decide | omega) (by first | decide | (simp only [inB, cnt, rcnt]; omega)) (by first | decide | (simp only [inB, cnt, rcnt]; omega)) (by omega) (by omega) (by omega) (fun _ _ _ => rfl) (Nat.le_of_ble_eq_true rfl) (by first | decide | omega) ?_
  refine aw_aload1 (pc := 84) F dX5_copyFrom_84 ?_
  refine aw_getR (pc := 85) F dX5_copyFrom_85 fl_5_34 rfl (by first | decide | (simp only [inB, cnt, rcnt]; omega)) rfl nz7 rfl ?_
  refine aw_iconst (pc := 88) F dX5_copyFrom_88 ?_
  refine aw_aload0 (pc := 89) F dX5_copyFrom_89 ?_
  refine aw_getR (pc := 90) F dX5_copyFrom_90 fl_5_34 rfl (by first | decide | (simp only [inB, cnt, rcnt]; omega)) rfl nz7 rfl ?_
  refine aw_iconst (pc := 93) F dX5_copyFrom_93 ?_
  refine aw_bipush (pc := 94) F dX5_copyFrom_94 (by decide) ?_
  refine aw_copy (pc := 96) F dX5_copyFrom_96 mc_5_40 rfl rfl (by first | decide | omega) (by first | decide | (simp only [inB, cnt, rcnt]; omega)) (by first | decide | (simp only [inB, cnt, rcnt]; omega)) (by omega) (by omega) (by omega) (fun _ _ _ => rfl) (Nat.le_of_ble_eq_true rfl) (by first | decide | omega) ?_
  refine aw_aload1 (pc := 99) F dX5_copyFrom_99 ?_
  refine aw_getR (pc := 100) F dX5_copyFrom_100 fl_5_37 rfl (by first | decide | (simp only [inB, cnt, rcnt]; omega)) rfl nz8 rfl ?_
  refine aw_iconst (pc := 103) F dX5_copyFrom_103 ?_
  refine aw_aload0 (pc := 104) F dX5_copyFrom_104 ?_
  refine aw_getR (pc := 105) F dX5_copyFrom_105 fl_5_37 rfl (by first | decide | (simp only [inB, cnt, rcnt]; omega)) rfl nz8 rfl ?_
  refine aw_iconst (pc := 108) F dX5_copyFrom_108 ?_
  refine aw_bipush (pc := 109) F dX5_copyFrom_109 (by decide) ?_
  refine aw_copy (pc := 111) F dX5_copyFrom_111 mc_5_40 rfl rfl (by first | decide | omega) (by first | decide | (simp only [inB, cnt, rcnt]; omega)) (by first | decide | (simp only [inB, cnt, rcnt]; omega)) (by omega) (by omega) (by omega) (fun _ _ _ => rfl) (Nat.le_of_ble_eq_true rfl) (by first | decide | omega) ?_
  exact aw_vret (pc := 114) F dX5_copyFrom_114 (Nat.zero_le _) ⟨_, rfl, ((((((((chg5.rf.up).up).up).cp).cp).cp).cp).cp).cp, fun S hO hR => by
    have hE := hO.2.1
    have hN := hO.2.2.1
    have hne' : ¬ q = p := fun z => hne z.symm
    refine ⟨⟨?_, ?_, ?_⟩, fun e h0 h1 => ?_, fun k h0 h1 => ⟨?_, ?_, ?_, ?_, ?_⟩⟩
    · rw [← hR.1.1]; simp [cpyM, updM, hne, hne']
    · rw [← hR.1.2.1]; simp [cpyM, updM, hne, hne']
    · rw [← hR.1.2.2]; simp [cpyM, updM, hne, hne']
    · rw [← hR.2.1 e h0 h1]; simp [cpyM, updM, hne, hne', h0, show e < 6 by omega]
    · rw [← (hR.2.2 k h0 h1).1]; simp [cpyM, updM, hne, hne', h0, show k < 14 by omega]
    · rw [← (hR.2.2 k h0 h1).2.1]; simp [cpyM, updM, hne, hne', h0, show k < 14 by omega]
    · rw [← (hR.2.2 k h0 h1).2.2.1]; simp [cpyM, updM, hne, hne', h0, show k < 14 by omega]
    · rw [← (hR.2.2 k h0 h1).2.2.2.1]; simp [cpyM, updM, hne, hne', h0, show k < 14 by omega]
    · rw [← (hR.2.2 k h0 h1).2.2.2.2]; simp [cpyM, updM, hne, hne', h0, show k < 14 by omega]⟩
/-- a row without span k -/
def drS (S : Int → Int) (k : Int) : Int → Int := fun j => if j = 20 then S 20 - 1 else if 21 + 5 * k ≤ j ∧ j < 21 + 5 * (S 20 - 1) then S (j + 5) else S j
def shA (A : Int → Int) (k i : Int) : Int → Int := fun j => if k ≤ j ∧ j < i then A (j + 1) else A j
theorem shA_0 {A : Int → Int} {k : Int} : shA A k k = A := funext fun j => if_neg (by omega)
theorem shA_step {A B : Int → Int} {k i : Int} (hk : k ≤ i) (h : B = shA A k i) : upS B i (B (i + 1)) = shA A k (i + 1) := by
  funext j
  subst h
  unfold upS shA
  by_cases e : j = i
  · subst e
    rw [if_pos rfl, if_neg (by omega), if_pos (by omega)]
  · rw [if_neg e]
    by_cases g : k ≤ j ∧ j < i
    · rw [if_pos g, if_pos (by omega)]
    · rw [if_neg g, if_neg (by omega)]
theorem ct5_dropSpan (M : Id4 → Int → Int) (b : Bool) (S : Int → Int) (p k : Int) (hp : 0 ≤ p ∧ p < 13) (hR : plR M p S) (h : Ok S) (hk9 : 0 ≤ k ∧ k < S 20) : CtV 1 0 yX5_dropSpan cX5_dropSpan 3 none [aR (5, p, 0, 0), aI k] (M, R0 b) (fun σ' => ∃ M', σ' = (M', R0 b) ∧ chg5 p M M' ∧ plR M' p (drS S k)) := by
  refine CtV.mk (by decide +kernel) rfl (Nat.le_of_ble_eq_true rfl) (fun X K F hk => ?_)
  have hN := h.2.2.1
  have e2 := hR.1.2.2
  obtain ⟨M0, hM0⟩ : ∃ M0, M0 = updM M (5, p, 0, 0) 2 (M (5, p, 0, 0) 2 - 1) := ⟨_, rfl⟩
  have n0 : M0 (5, p, 0, 0) 2 = S 20 - 1 := by rw [hM0, upd_same, e2]
  have fin : ∀ M', chg5 p M M' → M' (5, p, 0, 0) = M0 (5, p, 0, 0) → M' (5, p, 4, 0) = M0 (5, p, 4, 0) → M' (5, p, 5, 0) = shA (M0 (5, p, 5, 0)) k (S 20 - 1) → M' (5, p, 6, 0) = shA (M0 (5, p, 6, 0)) k (S 20 - 1) → M' (5, p, 7, 0) = shA (M0 (5, p, 7, 0)) k (S 20 - 1) → M' (5, p, 8, 0) = shA (M0 (5, p, 8, 0)) k (S 20 - 1) → M' (5, p, 9, 0) = shA (M0 (5, p, 9, 0)) k (S 20 - 1) → plR M' p (drS S k) := by
    intro M' _ a0 a4 a5 a6 a7 a8 a9
    have g : ∀ c : Nat, c ≠ 0 → M0 (5, p, c, 0) = M (5, p, c, 0) := fun c hc => by rw [hM0]; funext j; exact upd_ne (Or.inl (by simp [hc]))
    have g0 : M0 (5, p, 0, 0) 0 = M (5, p, 0, 0) 0 := by rw [hM0]; exact upd_ne (Or.inr (by decide))
    have g1 : M0 (5, p, 0, 0) 1 = M (5, p, 0, 0) 1 := by rw [hM0]; exact upd_ne (Or.inr (by decide))
    have d : ∀ j, (j = 0 ∨ j = 1 ∨ (14 ≤ j ∧ j < 20)) → drS S k j = S j := fun j hj => by unfold drS; rw [if_neg (by omega), if_neg (by omega)]
    have ds : ∀ (k2 w : Int), 0 ≤ k2 → k2 < S 20 - 1 → 0 ≤ w → w < 5 → drS S k (21 + 5 * k2 + w) = if k ≤ k2 then S (21 + 5 * (k2 + 1) + w) else S (21 + 5 * k2 + w) := fun k2 w q0 q1 q2 q3 => by
      unfold drS
      rw [if_neg (by omega)]
      by_cases z : k ≤ k2
      · rw [if_pos (by omega), if_pos z]; congr 1; omega
      · rw [if_neg (by omega), if_neg z]
    have tl : ∀ (A : Int → Int) (k2 : Int), k2 < S 20 - 1 → shA A k (S 20 - 1) k2 = if k ≤ k2 then A (k2 + 1) else A k2 := fun A k2 q => by
      unfold shA
      by_cases z : k ≤ k2
      · rw [if_pos ⟨z, q⟩, if_pos z]
      · rw [if_neg (fun y => z y.1), if_neg z]
    refine ⟨⟨?_, ?_, ?_⟩, fun e h0 h1 => ?_, fun k2 h0 h1 => ?_⟩
    · rw [a0, g0, hR.1.1, d 0 (by omega)]
    · rw [a0, g1, hR.1.2.1, d 1 (by omega)]
    · rw [a0, n0]; rfl
    · rw [d 1 (by omega)] at h1
      rw [a4, g 4 (by decide), hR.2.1 e h0 h1, d _ (by have := h.2.1; omega)]
    · have h1' : k2 < S 20 - 1 := h1
      rw [a5, a6, a7, a8, a9, g 5 (by decide), g 6 (by decide), g 7 (by decide), g 8 (by decide), g 9 (by decide), tl _ _ h1', tl _ _ h1', tl _ _ h1', tl _ _ h1', tl _ _ h1', ds _ 0 h0 h1' (by decide) (by decide), ds _ 1 h0 h1' (by decide) (by decide), ds _ 2 h0 h1' (by decide) (by decide), ds _ 3 h0 h1' (by decide) (by decide), ds _ 4 h0 h1' (by decide) (by decide)]
      by_cases z : k ≤ k2
      · simp only [if_pos z]
        exact hR.2.2 (k2 + 1) (by omega) (by omega)
      · simp only [if_neg z]
        exact hR.2.2 k2 (by omega) (by omega)
  have key : ∀ (j i : Nat) (M' : Id4 → Int → Int), (i : Int) + j = S 20 - 1 → k ≤ i → chg5 p M M' → M' (5, p, 0, 0) = M0 (5, p, 0, 0) → M' (5, p, 4, 0) = M0 (5, p, 4, 0) → M' (5, p, 5, 0) = shA (M0 (5, p, 5, 0)) k i → M' (5, p, 6, 0) = shA (M0 (5, p, 6, 0)) k i → M' (5, p, 7, 0) = shA (M0 (5, p, 7, 0)) k i → M' (5, p, 8, 0) = shA (M0 (5, p, 8, 0)) k i → M' (5, p, 9, 0) = shA (M0 (5, p, 9, 0)) k i → AW X K 12 [aR (5, p, 0, 0), aI k, aI i] [] (M', R0 b) 0 (EV X K 0 (fun σ' => ∃ M', σ' = (M', R0 b) ∧ chg5 p M M' ∧ plR M' p (drS S k))) := by
    intro j
    induction j with
    | zero =>
      intro i M' hi hki c a0 a4 a5 a6 a7 a8 a9
      have n1 : M' (5, p, 0, 0) 2 = S 20 - 1 := by rw [a0, n0]
      have ei : (i : Int) = S 20 - 1 := by omega
      refine aw_iload2 (pc := 12) F dX5_dropSpan_12 ?_
      refine aw_aload0 (pc := 13) F dX5_dropSpan_13 ?_
      refine aw_getI (pc := 14) F dX5_dropSpan_14 fl_5_18 rfl (by first | decide | (simp only [inB, cnt, rcnt]; omega)) rfl nz2 ?_
      refine aw_icmp_ge (tgt := 96) (pc := 17) F dX5_dropSpan_17 (by decide) (by unfold inR; omega) (by unfold inR; omega) (fun c17 => ?_) (fun c17 => ?_)
      · exact aw_vret (pc := 96) F dX5_dropSpan_96 (Nat.zero_le _) ⟨M', rfl, c, by rw [ei] at a5 a6 a7 a8 a9; exact fin M' c a0 a4 a5 a6 a7 a8 a9⟩
      · omega
    | succ j ih =>
      intro i M' hi hki c a0 a4 a5 a6 a7 a8 a9
      have n1 : M' (5, p, 0, 0) 2 = S 20 - 1 := by rw [a0, n0]
      refine aw_iload2 (pc := 12) F dX5_dropSpan_12 ?_
      refine aw_aload0 (pc := 13) F dX5_dropSpan_13 ?_
      refine aw_getI (pc := 14) F dX5_dropSpan_14 fl_5_18 rfl (by first | decide | (simp only [inB, cnt, rcnt]; omega)) rfl nz2 ?_
      refine aw_icmp_ge (tgt := 96) (pc := 17) F dX5_dropSpan_17 (by decide) (by unfold inR; omega) (by unfold inR; omega) (fun c17 => ?_) (fun c17 => ?_)
      · omega
      · refine aw_aload0 (pc := 20) F dX5_dropSpan_20 ?_
        refine aw_getR (pc := 21) F dX5_dropSpan_21 fl_5_25 rfl (by first | decide | (simp only [inB, cnt, rcnt]; omega)) rfl nz4 rfl ?_
        refine aw_iload2 (pc := 24) F dX5_dropSpan_24 ?_
        refine aw_aload0 (pc := 25) F dX5_dropSpan_25 ?_
        refine aw_getR (pc := 26) F dX5_dropSpan_26 fl_5_25 rfl (by first | decide | (simp only [inB, cnt, rcnt]; omega)) rfl nz4 rfl ?_
        refine aw_iload2 (pc := 29) F dX5_dropSpan_29 ?_
        refine aw_iconst (pc := 30) F dX5_dropSpan_30 ?_
        refine aw_iadd (pc := 31) F dX5_dropSpan_31 ?_
        refine aw_iald (pc := 32) F dX5_dropSpan_32 rfl (by first | decide | (simp only [inB, cnt, rcnt]; omega)) (by omega) ?_
        refine aw_iast (pc := 33) F dX5_dropSpan_33 rfl (by first | decide | (simp only [inB, cnt, rcnt]; omega)) (by omega) ?_
        refine aw_aload0 (pc := 34) F dX5_dropSpan_34 ?_
        refine aw_getR (pc := 35) F dX5_dropSpan_35 fl_5_28 rfl (by first | decide | (simp only [inB, cnt, rcnt]; omega)) rfl nz5 rfl ?_
        refine aw_iload2 (pc := 38) F dX5_dropSpan_38 ?_
        refine aw_aload0 (pc := 39) F dX5_dropSpan_39 ?_
        refine aw_getR (pc := 40) F dX5_dropSpan_40 fl_5_28 rfl (by first | decide | (simp only [inB, cnt, rcnt]; omega)) rfl nz5 rfl ?_
        refine aw_iload2 (pc := 43) F dX5_dropSpan_43 ?_
        refine aw_iconst (pc := 44) F dX5_dropSpan_44 ?_
        refine aw_iadd (pc := 45) F dX5_dropSpan_45 ?_
        refine aw_iald (pc := 46) F dX5_dropSpan_46 rfl (by first | decide | (simp only [inB, cnt, rcnt]; omega)) (by omega) ?_
        refine aw_iast (pc := 47) F dX5_dropSpan_47 rfl (by first | decide | (simp only [inB, cnt, rcnt]; omega)) (by omega) ?_
        refine aw_aload0 (pc := 48) F dX5_dropSpan_48 ?_
        refine aw_getR (pc := 49) F dX5_dropSpan_49 fl_5_31 rfl (by first | decide | (simp only [inB, cnt, rcnt]; omega)) rfl nz6 rfl ?_
        refine aw_iload2 (pc := 52) F dX5_dropSpan_52 ?_
        refine aw_aload0 (pc := 53) F dX5_dropSpan_53 ?_
        refine aw_getR (pc := 54) F dX5_dropSpan_54 fl_5_31 rfl (by first | decide | (simp only [inB, cnt, rcnt]; omega)) rfl nz6 rfl ?_
        refine aw_iload2 (pc := 57) F dX5_dropSpan_57 ?_
        refine aw_iconst (pc := 58) F dX5_dropSpan_58 ?_
        refine aw_iadd (pc := 59) F dX5_dropSpan_59 ?_
        refine aw_iald (pc := 60) F dX5_dropSpan_60 rfl (by first | decide | (simp only [inB, cnt, rcnt]; omega)) (by omega) ?_
        refine aw_iast (pc := 61) F dX5_dropSpan_61 rfl (by first | decide | (simp only [inB, cnt, rcnt]; omega)) (by omega) ?_
        refine aw_aload0 (pc := 62) F dX5_dropSpan_62 ?_
        refine aw_getR (pc := 63) F dX5_dropSpan_63 fl_5_34 rfl (by first | decide | (simp only [inB, cnt, rcnt]; omega)) rfl nz7 rfl ?_
        refine aw_iload2 (pc := 66) F dX5_dropSpan_66 ?_
        refine aw_aload0 (pc := 67) F dX5_dropSpan_67 ?_
        refine aw_getR (pc := 68) F dX5_dropSpan_68 fl_5_34 rfl (by first | decide | (simp only [inB, cnt, rcnt]; omega)) rfl nz7 rfl ?_
        refine aw_iload2 (pc := 71) F dX5_dropSpan_71 ?_
        refine aw_iconst (pc := 72) F dX5_dropSpan_72 ?_
        refine aw_iadd (pc := 73) F dX5_dropSpan_73 ?_
        refine aw_iald (pc := 74) F dX5_dropSpan_74 rfl (by first | decide | (simp only [inB, cnt, rcnt]; omega)) (by omega) ?_
        refine aw_iast (pc := 75) F dX5_dropSpan_75 rfl (by first | decide | (simp only [inB, cnt, rcnt]; omega)) (by omega) ?_
        refine aw_aload0 (pc := 76) F dX5_dropSpan_76 ?_
        refine aw_getR (pc := 77) F dX5_dropSpan_77 fl_5_37 rfl (by first | decide | (simp only [inB, cnt, rcnt]; omega)) rfl nz8 rfl ?_
        refine aw_iload2 (pc := 80) F dX5_dropSpan_80 ?_
        refine aw_aload0 (pc := 81) F dX5_dropSpan_81 ?_
        refine aw_getR (pc := 82) F dX5_dropSpan_82 fl_5_37 rfl (by first | decide | (simp only [inB, cnt, rcnt]; omega)) rfl nz8 rfl ?_
        refine aw_iload2 (pc := 85) F dX5_dropSpan_85 ?_
        refine aw_iconst (pc := 86) F dX5_dropSpan_86 ?_
        refine aw_iadd (pc := 87) F dX5_dropSpan_87 ?_
        refine aw_iald (pc := 88) F dX5_dropSpan_88 rfl (by first | decide | (simp only [inB, cnt, rcnt]; omega)) (by omega) ?_
        refine aw_iast (pc := 89) F dX5_dropSpan_89 rfl (by first | decide | (simp only [inB, cnt, rcnt]; omega)) (by omega) ?_
        refine aw_iinc2 (pc := 90) F dX5_dropSpan_90 rfl hk.symm ?_
        refine aw_goto (tgt := 12) (pc := 93) F dX5_dropSpan_93 (by decide) ?_
        refine ih (i + 1) _ (by omega) (by omega) (((((c.up).up).up).up).up) ?_ ?_ ?_ ?_ ?_ ?_ ?_
        · rw [← a0]; funext j; simp [updM]
        · rw [← a4]; funext j; simp [updM]
        · refine Eq.trans (funext fun j => ?_) (shA_step hki a5); simp [updM, upS]
        · refine Eq.trans (funext fun j => ?_) (shA_step hki a6); simp [updM, upS]
        · refine Eq.trans (funext fun j => ?_) (shA_step hki a7); simp [updM, upS]
        · refine Eq.trans (funext fun j => ?_) (shA_step hki a8); simp [updM, upS]
        · refine Eq.trans (funext fun j => ?_) (shA_step hki a9); simp [updM, upS]
  refine aw_aload0 (pc := 0) F dX5_dropSpan_0 ?_
  refine aw_dupR (pc := 1) F dX5_dropSpan_1 ?_
  refine aw_getI (pc := 2) F dX5_dropSpan_2 fl_5_18 rfl (by first | decide | (simp only [inB, cnt, rcnt]; omega)) rfl nz2 ?_
  refine aw_iconst (pc := 5) F dX5_dropSpan_5 ?_
  refine aw_isub (pc := 6) F dX5_dropSpan_6 ?_
  refine aw_putI (pc := 7) F dX5_dropSpan_7 fl_5_18 fpi_5_2 rfl (by first | decide | (simp only [inB, cnt, rcnt]; omega)) rfl nz2 ?_
  refine aw_iload1 (pc := 10) F dX5_dropSpan_10 ?_
  refine aw_istore2 (pc := 11) F dX5_dropSpan_11 rfl hk.symm ?_
  obtain ⟨k', rfl⟩ : ∃ k' : Nat, k = (k' : Int) := ⟨k.toNat, by omega⟩
  rw [← hM0]
  exact key (S 20 - 1 - k').toNat k' M0 (by omega) (by omega) (by rw [hM0]; exact chg5.rf.up) rfl rfl shA_0.symm shA_0.symm shA_0.symm shA_0.symm shA_0.symm
/-- a row with one span more -/
def apS (S : Int → Int) (x y lo hi w : Int) : Int → Int := upS (upS (upS (upS (upS (upS S 20 (S 20 + 1)) (21 + 5 * S 20 + 0) x) (21 + 5 * S 20 + 1) y) (21 + 5 * S 20 + 2) lo) (21 + 5 * S 20 + 3) hi) (21 + 5 * S 20 + 4) w
theorem apS_lo {S : Int → Int} {x y lo hi w j : Int} (h : j ≠ 20) (h2 : j < 21 + 5 * S 20) : apS S x y lo hi w j = S j := by
  unfold apS
  rw [upS_ne (by omega), upS_ne (by omega), upS_ne (by omega), upS_ne (by omega), upS_ne (by omega), upS_ne h]
theorem apS_n {S : Int → Int} {x y lo hi w : Int} (h : 0 ≤ S 20) : apS S x y lo hi w 20 = S 20 + 1 := by
  unfold apS
  rw [upS_ne (by omega), upS_ne (by omega), upS_ne (by omega), upS_ne (by omega), upS_ne (by omega), upS_same]
theorem apS_at {S : Int → Int} {x y lo hi w : Int} : apS S x y lo hi w (21 + 5 * S 20 + 0) = x ∧ apS S x y lo hi w (21 + 5 * S 20 + 1) = y ∧ apS S x y lo hi w (21 + 5 * S 20 + 2) = lo ∧ apS S x y lo hi w (21 + 5 * S 20 + 3) = hi ∧ apS S x y lo hi w (21 + 5 * S 20 + 4) = w := by
  unfold apS
  refine ⟨?_, ?_, ?_, ?_, ?_⟩
  · rw [upS_ne (by omega), upS_ne (by omega), upS_ne (by omega), upS_ne (by omega), upS_same]
  · rw [upS_ne (by omega), upS_ne (by omega), upS_ne (by omega), upS_same]
  · rw [upS_ne (by omega), upS_ne (by omega), upS_same]
  · rw [upS_ne (by omega), upS_same]
  · rw [upS_same]
theorem ct5_appendSpan (M : Id4 → Int → Int) (b : Bool) (S : Int → Int) (p x y lo hi w : Int) (hp : 0 ≤ p ∧ p < 13) (hR : plR M p S) (h : Ok S) (hk9 : S 20 < 14) : CtV 1 0 yX5_appendSpan cX5_appendSpan 6 none [aR (5, p, 0, 0), aI x, aI y, aI lo, aI hi, aI w] (M, R0 b) (fun σ' => ∃ M', σ' = (M', R0 b) ∧ chg5 p M M' ∧ plR M' p (apS S x y lo hi w)) := by
  refine CtV.mk (by decide +kernel) rfl (Nat.le_of_ble_eq_true rfl) (fun X K F hk => ?_)
  have hN := h.2.2.1
  have hE := h.2.1
  have e2 := hR.1.2.2
  refine aw_aload0 (pc := 0) F dX5_appendSpan_0 ?_
  refine aw_getI (pc := 1) F dX5_appendSpan_1 fl_5_18 rfl (by first | decide | (simp only [inB, cnt, rcnt]; omega)) rfl nz2 ?_
  refine aw_bipush (pc := 4) F dX5_appendSpan_4 (by decide) ?_
  refine aw_icmp_ge (tgt := 71) (pc := 6) F dX5_appendSpan_6 (by decide) (by unfold inR; omega) (by unfold inR; omega) (fun c6 => ?_) (fun c6 => ?_)
  · omega
  · refine aw_aload0 (pc := 9) F dX5_appendSpan_9 ?_
    refine aw_getR (pc := 10) F dX5_appendSpan_10 fl_5_25 rfl (by first | decide | (simp only [inB, cnt, rcnt]; omega)) rfl nz4 rfl ?_
    refine aw_aload0 (pc := 13) F dX5_appendSpan_13 ?_
    refine aw_getI (pc := 14) F dX5_appendSpan_14 fl_5_18 rfl (by first | decide | (simp only [inB, cnt, rcnt]; omega)) rfl nz2 ?_
    refine aw_iload1 (pc := 17) F dX5_appendSpan_17 ?_
    refine aw_iast (pc := 18) F dX5_appendSpan_18 rfl (by first | decide | (simp only [inB, cnt, rcnt]; omega)) (by first | omega | (simp [updM]; omega)) ?_
    refine aw_aload0 (pc := 19) F dX5_appendSpan_19 ?_
    refine aw_getR (pc := 20) F dX5_appendSpan_20 fl_5_28 rfl (by first | decide | (simp only [inB, cnt, rcnt]; omega)) rfl nz5 rfl ?_
    refine aw_aload0 (pc := 23) F dX5_appendSpan_23 ?_
    refine aw_getI (pc := 24) F dX5_appendSpan_24 fl_5_18 rfl (by first | decide | (simp only [inB, cnt, rcnt]; omega)) rfl nz2 ?_
    refine aw_iload2 (pc := 27) F dX5_appendSpan_27 ?_
    refine aw_iast (pc := 28) F dX5_appendSpan_28 rfl (by first | decide | (simp only [inB, cnt, rcnt]; omega)) (by first | omega | (simp [updM]; omega)) ?_
    refine aw_aload0 (pc := 29) F dX5_appendSpan_29 ?_
    refine aw_getR (pc := 30) F dX5_appendSpan_30 fl_5_31 rfl (by first | decide | (simp only [inB, cnt, rcnt]; omega)) rfl nz6 rfl ?_
    refine aw_aload0 (pc := 33) F dX5_appendSpan_33 ?_
    refine aw_getI (pc := 34) F dX5_appendSpan_34 fl_5_18 rfl (by first | decide | (simp only [inB, cnt, rcnt]; omega)) rfl nz2 ?_
    refine aw_iload3 (pc := 37) F dX5_appendSpan_37 ?_
    refine aw_iast (pc := 38) F dX5_appendSpan_38 rfl (by first | decide | (simp only [inB, cnt, rcnt]; omega)) (by first | omega | (simp [updM]; omega)) ?_
    refine aw_aload0 (pc := 39) F dX5_appendSpan_39 ?_
    refine aw_getR (pc := 40) F dX5_appendSpan_40 fl_5_34 rfl (by first | decide | (simp only [inB, cnt, rcnt]; omega)) rfl nz7 rfl ?_
    refine aw_aload0 (pc := 43) F dX5_appendSpan_43 ?_
    refine aw_getI (pc := 44) F dX5_appendSpan_44 fl_5_18 rfl (by first | decide | (simp only [inB, cnt, rcnt]; omega)) rfl nz2 ?_
    refine aw_iload4 (pc := 47) F dX5_appendSpan_47 ?_
    refine aw_iast (pc := 49) F dX5_appendSpan_49 rfl (by first | decide | (simp only [inB, cnt, rcnt]; omega)) (by first | omega | (simp [updM]; omega)) ?_
    refine aw_aload0 (pc := 50) F dX5_appendSpan_50 ?_
    refine aw_getR (pc := 51) F dX5_appendSpan_51 fl_5_37 rfl (by first | decide | (simp only [inB, cnt, rcnt]; omega)) rfl nz8 rfl ?_
    refine aw_aload0 (pc := 54) F dX5_appendSpan_54 ?_
    refine aw_getI (pc := 55) F dX5_appendSpan_55 fl_5_18 rfl (by first | decide | (simp only [inB, cnt, rcnt]; omega)) rfl nz2 ?_
    refine aw_iload5 (pc := 58) F dX5_appendSpan_58 ?_
    refine aw_iast (pc := 60) F dX5_appendSpan_60 rfl (by first | decide | (simp only [inB, cnt, rcnt]; omega)) (by first | omega | (simp [updM]; omega)) ?_
    refine aw_aload0 (pc := 61) F dX5_appendSpan_61 ?_
    refine aw_dupR (pc := 62) F dX5_appendSpan_62 ?_
    refine aw_getI (pc := 63) F dX5_appendSpan_63 fl_5_18 rfl (by first | decide | (simp only [inB, cnt, rcnt]; omega)) rfl nz2 ?_
    refine aw_iconst (pc := 66) F dX5_appendSpan_66 ?_
    refine aw_iadd (pc := 67) F dX5_appendSpan_67 ?_
    refine aw_putI (pc := 68) F dX5_appendSpan_68 fl_5_18 fpi_5_2 rfl (by first | decide | (simp only [inB, cnt, rcnt]; omega)) rfl nz2 ?_
    exact aw_vret (pc := 71) F dX5_appendSpan_71 (Nat.zero_le _) ⟨_, rfl, (((((chg5.rf.up).up).up).up).up).up, by
      refine ⟨⟨?_, ?_, ?_⟩, fun e h0 h1 => ?_, fun k h0 h1 => ?_⟩
      · rw [apS_lo (by decide) (by omega), ← hR.1.1]; simp [updM]
      · rw [apS_lo (by decide) (by omega), ← hR.1.2.1]; simp [updM]
      · rw [apS_n hN.1, ← e2]; simp [updM]
      · rw [apS_lo (by decide) (by omega)] at h1
        rw [apS_lo (by omega) (by omega), ← hR.2.1 e h0 h1]; simp [updM]
      · rw [apS_n hN.1] at h1
        by_cases z : k = S 20
        · obtain ⟨q0, q1, q2, q3, q4⟩ := apS_at (S := S) (x := x) (y := y) (lo := lo) (hi := hi) (w := w)
          rw [z, q0, q1, q2, q3, q4]; simp [updM, e2]
        · rw [apS_lo (by omega) (by omega), apS_lo (by omega) (by omega), apS_lo (by omega) (by omega), apS_lo (by omega) (by omega), apS_lo (by omega) (by omega)]
          obtain ⟨r0, r1, r2, r3, r4⟩ := hR.2.2 k h0 (by omega)
          rw [← r0, ← r1, ← r2, ← r3, ← r4]; simp [updM, e2, z]⟩
