/-! 56: the class's prices -/
def same7 (M M' : Id4 → Int → Int) : Prop := ∀ q, ¬ q.1 = 7 → M' q = M q
theorem same7.rf {M : Id4 → Int → Int} : same7 M M := fun _ _ => rfl
theorem same7.tr {M M1 M2 : Id4 → Int → Int} (h1 : same7 M M1) (h2 : same7 M1 M2) : same7 M M2 := fun q h => (h2 q h).trans (h1 q h)
theorem same7.up {M M1 : Id4 → Int → Int} {i : Int} {c : Nat} {r k v : Int} (h1 : same7 M M1) : same7 M (updM M1 (7, i, c, r) k v) := fun q h => (upd_off (fun z => h (by rw [z]))).trans (h1 q h)
theorem same7.cp {M M1 : Id4 → Int → Int} {q0 : Id4} {i : Int} {c : Nat} {r a b n : Int} (h1 : same7 M M1) : same7 M (cpyM M1 q0 a (7, i, c, r) b n) := fun q h => (cpy_off (fun z => h (by rw [z]))).trans (h1 q h)
theorem same7.pl {M M' : Id4 → Int → Int} {p : Int} {S : Int → Int} (h : same7 M M') (hR : plR M p S) : plR M' p S := pl_eq (fun c => h _ (by simp)) hR
theorem same7.s8 {M M' : Id4 → Int → Int} (h : same7 M M') : same8 M M' := fun q z => h q (fun y => z (Or.inr (Or.inr (Or.inl y))))
/-- only the pairs' rows; only one row of the events' costs -/
def ch14 (M M' : Id4 → Int → Int) : Prop := ∀ q, ¬ (q.1 = 7 ∧ q.2.2.1 = 14) → M' q = M q
theorem ch14.rf {M : Id4 → Int → Int} : ch14 M M := fun _ _ => rfl
theorem ch14.tr {M M1 M2 : Id4 → Int → Int} (h1 : ch14 M M1) (h2 : ch14 M1 M2) : ch14 M M2 := fun q h => (h2 q h).trans (h1 q h)
theorem ch14.up {M M1 : Id4 → Int → Int} {i r k v : Int} (h1 : ch14 M M1) : ch14 M (updM M1 (7, i, 14, r) k v) := fun q h => (upd_off (fun z => h (by rw [z]; exact ⟨rfl, rfl⟩))).trans (h1 q h)
theorem ch14.s7 {M M' : Id4 → Int → Int} (h : ch14 M M') : same7 M M' := fun q z => h q (fun y => z y.1)
theorem ch14.pl {M M' : Id4 → Int → Int} {p : Int} {S : Int → Int} (h : ch14 M M') (hR : plR M p S) : plR M' p S := h.s7.pl hR
def prR (S : Int → Int) (n : Nat) (M : Id4 → Int → Int) : Prop := ∀ a b d, 0 ≤ a → a < b → b < S 1 → 0 ≤ d → d < S 0 → M (7, 0, 14, 6 * a + b) d = pcN2 S a b d n
theorem ct7_leastPrice (M : Id4 → Int → Int) (b9 : Bool) (T : Nat) (r : Int) (hr : 0 ≤ r ∧ r < 36) (hT : M (7, 0, 0, 0) 8 = (T : Int)) (hT2 : T ≤ 24) (hb : ∀ d : Int, 0 ≤ d → d < T → 0 ≤ M (7, 0, 14, r) d ∧ M (7, 0, 14, r) d ≤ 2000000) : CtI 3 0 yX7_leastPrice cX7_leastPrice 4 (some .int) [aR (7, 0, 0, 0), aR (7, 0, 14, r)] (M, R0 b9) (PU (M, R0 b9) (mnN (M (7, 0, 14, r)) T)) := by
  refine CtI.mk (by decide +kernel) rfl (Nat.le_of_ble_eq_true rfl) (fun X K F hk => ?_)
  have key : ∀ (j i : Nat), i + j = T → AW X K 5 [aR (7, 0, 0, 0), aR (7, 0, 14, r), aI (mnN (M (7, 0, 14, r)) i), aI i] [] (M, R0 b9) 0 (EI X K 0 (PU (M, R0 b9) (mnN (M (7, 0, 14, r)) T))) := by
    intro j
    induction j with
    | zero =>
      intro i hi
      obtain rfl : i = T := by omega
      refine aw_iload3 (pc := 5) F dX7_leastPrice_5 ?_
      refine aw_aload0 (pc := 6) F dX7_leastPrice_6 ?_
      refine aw_getI (pc := 7) F dX7_leastPrice_7 fl_7_44 rfl (by first | decide | (simp only [inB, cnt, rcnt]; omega)) rfl nz8 ?_
      refine aw_icmp_ge (tgt := 27) (pc := 10) F dX7_leastPrice_10 (by decide) (by unfold inR; omega) (by unfold inR; omega) (fun c10 => ?_) (fun c10 => ?_)
      · refine aw_iload2 (pc := 27) F dX7_leastPrice_27 ?_
        exact aw_iret (pc := 28) F dX7_leastPrice_28 rfl (Nat.zero_le _) ⟨rfl, rfl⟩
      · omega
    | succ j ih =>
      intro i hi
      have g := ih (i + 1) (by omega)
      have mb := mnN_bd (f := M (7, 0, 14, r)) i (fun d d0 d1 => (hb d d0 (by omega)).1)
      have hbi := hb i (by omega) (by omega)
      refine aw_iload3 (pc := 5) F dX7_leastPrice_5 ?_
      refine aw_aload0 (pc := 6) F dX7_leastPrice_6 ?_
      refine aw_getI (pc := 7) F dX7_leastPrice_7 fl_7_44 rfl (by first | decide | (simp only [inB, cnt, rcnt]; omega)) rfl nz8 ?_
      refine aw_icmp_ge (tgt := 27) (pc := 10) F dX7_leastPrice_10 (by decide) (by unfold inR; omega) (by unfold inR; omega) (fun c10 => ?_) (fun c10 => ?_)
      · omega
      · refine aw_iload2 (pc := 13) F dX7_leastPrice_13 ?_
        refine aw_aload1 (pc := 14) F dX7_leastPrice_14 ?_
        refine aw_iload3 (pc := 15) F dX7_leastPrice_15 ?_
        refine aw_iald (pc := 16) F dX7_leastPrice_16 rfl (by first | decide | (simp only [inB, cnt, rcnt]; omega)) (by omega) ?_
        refine aw_pcallS2 (pc := 17) F dX7_leastPrice_17 ml_7_98 (ctJ_min _ _ _ _ (by unfold inR; omega) (by unfold inR; omega)) (Nat.le_of_ble_eq_true rfl) (by decide) (Nat.zero_le _) ?_
        refine aw_istore2 (pc := 20) F dX7_leastPrice_20 rfl hk.symm ?_
        refine aw_iinc3 (pc := 21) F dX7_leastPrice_21 rfl hk.symm ?_
        refine aw_goto (tgt := 5) (pc := 24) F dX7_leastPrice_24 (by decide) ?_
        exact g
  refine aw_ldc (pc := 0) F dX7_leastPrice_0 kc_7_11 ?_
  refine aw_istore2 (pc := 2) F dX7_leastPrice_2 rfl hk.symm ?_
  refine aw_iconst (pc := 3) F dX7_leastPrice_3 ?_
  refine aw_istore3 (pc := 4) F dX7_leastPrice_4 rfl hk.symm ?_
  exact key T 0 (by omega)
theorem ct7_priceSpan (M : Id4 → Int → Int) (b9 : Bool) (S : Int → Int) (p : Int) (n : Nat) (hp : 0 ≤ p ∧ p < 13) (hR : plR M p S) (h : Ok S) (hT : M (7, 0, 0, 0) 8 = S 0) (hn : (n : Int) < S 20) (hpr : prR S n M) : CtV 3 0 yX7_priceSpan cX7_priceSpan 7 none [aR (7, 0, 0, 0), aR (5, p, 0, 0), aI n] (M, R0 b9) (fun σ' => ∃ M', σ' = (M', R0 b9) ∧ ch14 M M' ∧ prR S (n + 1) M') := by
  refine CtV.mk (by decide +kernel) rfl (Nat.le_of_ble_eq_true rfl) (fun X K F hk => ?_)
  have hN := h.2.2.1
  have hE := h.2.1
  have hP := h.1
  obtain ⟨T, eT⟩ : ∃ T : Nat, S 0 = (T : Int) := ⟨(S 0).toNat, by omega⟩
  have sp := h.2.2.2.2 n (by omega) hn
  unfold SpOk at sp
  obtain ⟨f0, f1, -, -, f4⟩ := hR.2.2 n (by omega) hn
  have f0' : M (5, p, 5, 0) n = frS S n := f0
  have f1' : M (5, p, 6, 0) n = toS S n := f1
  have fb : 0 ≤ frS S n ∧ frS S n < S 1 := sp.1
  have tb : 0 ≤ toS S n ∧ toS S n < S 1 := sp.2.1
  have ne : frS S n ≠ toS S n := sp.2.2.1
  obtain ⟨a0, ha0⟩ : ∃ a0, a0 = min (frS S n) (toS S n) := ⟨_, rfl⟩
  obtain ⟨b0, hb0⟩ : ∃ b0, b0 = max (frS S n) (toS S n) := ⟨_, rfl⟩
  obtain ⟨Q9, hQ⟩ : ∃ Q9, Q9 = EV X K 0 (fun σ' => ∃ M', σ' = (M', R0 b9) ∧ ch14 M M' ∧ prR S (n + 1) M') := ⟨_, rfl⟩
  have key : ∀ sg : Int, sg = (if frS S n = a0 then 1 else -1) → ∀ (j i : Nat) (M' : Id4 → Int → Int), i + j = T → ch14 M M' → (∀ r d, ¬ (r = 6 * a0 + b0 ∧ 0 ≤ d ∧ d < (i : Int)) → M' (7, 0, 14, r) d = M (7, 0, 14, r) d) → (∀ d, 0 ≤ d → d < (i : Int) → M' (7, 0, 14, 6 * a0 + b0) d = pcN2 S a0 b0 d (n + 1)) → AW X K 53 [aR (7, 0, 0, 0), aR (5, p, 0, 0), aI n, aI a0, aI b0, aI sg, aI i] [] (M', R0 b9) 0 Q9 := by
    intro sg hsg j
    induction j with
    | zero =>
      intro i M' hi a1 a2 a3
      have hT' : M' (7, 0, 0, 0) 8 = S 0 := by rw [a1 _ (fun z => absurd z.2 (by decide))]; exact hT
      refine aw_iload6 (pc := 53) F dX7_priceSpan_53 ?_
      refine aw_aload0 (pc := 55) F dX7_priceSpan_55 ?_
      refine aw_getI (pc := 56) F dX7_priceSpan_56 fl_7_44 rfl (by first | decide | (simp only [inB, cnt, rcnt]; omega)) rfl nz8 ?_
      refine aw_icmp_ge (tgt := 103) (pc := 59) F dX7_priceSpan_59 (by decide) (by unfold inR; omega) (by unfold inR; omega) (fun c59 => ?_) (fun c59 => ?_)
      · rw [hQ]
        exact aw_vret (pc := 103) F dX7_priceSpan_103 (Nat.zero_le _) ⟨M', rfl, a1, fun a b d q0 q1 q2 q3 q4 => by
          by_cases z : a = a0 ∧ b = b0
          · rw [z.1, z.2]; exact a3 d q3 (by omega)
          · rw [a2 _ _ (fun y => z (by omega)), hpr a b d q0 q1 q2 q3 q4]
            show _ = (if bit (tgS S (6 * a + b)) d.toNat = true then 0 else 1048576) + (sumI (gSp S a b d) n + gSp S a b d n)
            have g0 : gSp S a b d n = 0 := by
              unfold gSp
              rw [if_neg (fun y => z ⟨by omega, by omega⟩)]
            rw [g0]
            unfold pcN2
            omega⟩
      · omega
    | succ j ih =>
      intro i M' hi a1 a2 a3
      have hT' : M' (7, 0, 0, 0) 8 = S 0 := by rw [a1 _ (fun z => absurd z.2 (by decide))]; exact hT
      have hR' := a1.pl hR
      have w4 := (hR'.2.2 n (by omega) hn).2.2.2.2
      have old := a2 (6 * a0 + b0) i (by omega)
      rw [hpr a0 b0 i (by omega) (by omega) (by omega) (by omega) (by omega)] at old
      have pb := pcN2_bd h (a := a0) (b := b0) (d := (i : Int)) (n := n) (by omega)
      have sgb : sg * (i : Int) = (if frS S n = a0 then (i : Int) else -(i : Int)) := by
        rw [hsg]; split <;> omega
      have nw : pcN2 S a0 b0 i (n + 1) = pcN2 S a0 b0 i n + S (21 + 5 * (n : Int) + 4) * slBy S n (sg * (i : Int)) := by
        show (if bit (tgS S (6 * a0 + b0)) (i : Int).toNat = true then 0 else 1048576) + (sumI (gSp S a0 b0 i) n + gSp S a0 b0 i n) = _
        unfold pcN2
        have : gSp S a0 b0 i n = S (21 + 5 * (n : Int) + 4) * slBy S n (sg * (i : Int)) := by
          unfold gSp
          rw [if_pos ⟨ha0.symm, hb0.symm⟩, sgb]
        rw [this]
        omega
      refine aw_iload6 (pc := 53) F dX7_priceSpan_53 ?_
      refine aw_aload0 (pc := 55) F dX7_priceSpan_55 ?_
      refine aw_getI (pc := 56) F dX7_priceSpan_56 fl_7_44 rfl (by first | decide | (simp only [inB, cnt, rcnt]; omega)) rfl nz8 ?_
      refine aw_icmp_ge (tgt := 103) (pc := 59) F dX7_priceSpan_59 (by decide) (by unfold inR; omega) (by unfold inR; omega) (fun c59 => ?_) (fun c59 => ?_)
      · omega
      · refine aw_aload0 (pc := 62) F dX7_priceSpan_62 ?_
        refine aw_getR (pc := 63) F dX7_priceSpan_63 fl_7_29 rfl (by first | decide | (simp only [inB, cnt, rcnt]; omega)) rfl nz3 rfl ?_
        refine aw_iload3 (pc := 66) F dX7_priceSpan_66 ?_
        refine aw_bipush (pc := 67) F dX7_priceSpan_67 (by decide) ?_
        refine aw_imul (pc := 69) F dX7_priceSpan_69 ?_
        refine aw_iload4 (pc := 70) F dX7_priceSpan_70 ?_
        refine aw_iadd (pc := 72) F dX7_priceSpan_72 ?_
        refine aw_aald (pc := 73) F dX7_priceSpan_73 rfl (by decide) (by first | decide | (simp only [inB, cnt, rcnt]; omega)) (by omega) rfl ?_
        rw [show a0 * 6 + b0 = 6 * a0 + b0 by omega]
        refine aw_iload6 (pc := 74) F dX7_priceSpan_74 ?_
        refine aw_dup2 (pc := 76) F dX7_priceSpan_76 ?_
        refine aw_iald (pc := 77) F dX7_priceSpan_77 rfl (by first | decide | (simp only [inB, cnt, rcnt]; omega)) (by omega) ?_
        rw [old]
        refine aw_aload1 (pc := 78) F dX7_priceSpan_78 ?_
        refine aw_getR (pc := 79) F dX7_priceSpan_79 fl_7_107 rfl (by first | decide | (simp only [inB, cnt, rcnt]; omega)) rfl nz8 rfl ?_
        refine aw_iload2 (pc := 82) F dX7_priceSpan_82 ?_
        refine aw_iald (pc := 83) F dX7_priceSpan_83 rfl (by first | decide | (simp only [inB, cnt, rcnt]; omega)) (by omega) ?_
        rw [w4]
        refine aw_aload1 (pc := 84) F dX7_priceSpan_84 ?_
        refine aw_iload2 (pc := 85) F dX7_priceSpan_85 ?_
        refine aw_iload5 (pc := 86) F dX7_priceSpan_86 ?_
        refine aw_iload6 (pc := 88) F dX7_priceSpan_88 ?_
        refine aw_imul (pc := 90) F dX7_priceSpan_90 ?_
        refine aw_pcallV2 (pc := 91) F dX7_priceSpan_91 ml_7_110 rfl (by first | decide | (simp only [inB, cnt, rcnt]; omega)) (ct5_slackWith _ _ S _ _ _ hp hR' h (by omega) (by rw [sgb]; split <;> omega)) (Nat.le_of_ble_eq_true rfl) (by decide) (Nat.zero_le _) ?_
        refine aw_imul (pc := 94) F dX7_priceSpan_94 ?_
        refine aw_iadd (pc := 95) F dX7_priceSpan_95 ?_
        refine aw_iast (pc := 96) F dX7_priceSpan_96 rfl (by first | decide | (simp only [inB, cnt, rcnt]; omega)) (by omega) ?_
        refine aw_iinc6 (pc := 97) F dX7_priceSpan_97 rfl hk.symm ?_
        refine aw_goto (tgt := 53) (pc := 100) F dX7_priceSpan_100 (by decide) ?_
        refine ih (i + 1) _ (by omega) (a1.up) (fun r d q => ?_) (fun d d0 d1 => ?_)
        · by_cases z : r = 6 * a0 + b0 ∧ d = i
          · exact absurd ⟨z.1, by omega, by omega⟩ q
          · have : updM M' (7, 0, 14, 6 * a0 + b0) i (pcN2 S a0 b0 i n + S (21 + 5 * (n : Int) + 4) * slBy S n (sg * (i : Int))) (7, 0, 14, r) d = M' (7, 0, 14, r) d := by
              by_cases y : r = 6 * a0 + b0
              · rw [y, upd_ne (Or.inr (fun w => z ⟨y, w⟩))]
              · rw [upd_ne (Or.inl (by simp [y]))]
            exact this.trans (a2 r d (by omega))
        · by_cases z : d = i
          · rw [z]; exact upd_same.trans nw.symm
          · exact (upd_ne (Or.inr z)).trans (a3 d d0 (by omega))
  refine aw_aload1 (pc := 0) F dX7_priceSpan_0 ?_
  refine aw_getR (pc := 1) F dX7_priceSpan_1 fl_7_92 rfl (by first | decide | (simp only [inB, cnt, rcnt]; omega)) rfl nz4 rfl ?_
  refine aw_iload2 (pc := 4) F dX7_priceSpan_4 ?_
  refine aw_iald (pc := 5) F dX7_priceSpan_5 rfl (by first | decide | (simp only [inB, cnt, rcnt]; omega)) (by omega) ?_
  refine aw_aload1 (pc := 6) F dX7_priceSpan_6 ?_
  refine aw_getR (pc := 7) F dX7_priceSpan_7 fl_7_95 rfl (by first | decide | (simp only [inB, cnt, rcnt]; omega)) rfl nz5 rfl ?_
  refine aw_iload2 (pc := 10) F dX7_priceSpan_10 ?_
  refine aw_iald (pc := 11) F dX7_priceSpan_11 rfl (by first | decide | (simp only [inB, cnt, rcnt]; omega)) (by omega) ?_
  refine aw_pcallS2 (pc := 12) F dX7_priceSpan_12 ml_7_98 (ctJ_min _ _ _ _ (by rw [f0']; unfold inR; omega) (by rw [f1']; unfold inR; omega)) (Nat.le_of_ble_eq_true rfl) (by decide) (Nat.zero_le _) ?_
  refine aw_istore3 (pc := 15) F dX7_priceSpan_15 rfl hk.symm ?_
  refine aw_aload1 (pc := 16) F dX7_priceSpan_16 ?_
  refine aw_getR (pc := 17) F dX7_priceSpan_17 fl_7_92 rfl (by first | decide | (simp only [inB, cnt, rcnt]; omega)) rfl nz4 rfl ?_
  refine aw_iload2 (pc := 20) F dX7_priceSpan_20 ?_
  refine aw_iald (pc := 21) F dX7_priceSpan_21 rfl (by first | decide | (simp only [inB, cnt, rcnt]; omega)) (by omega) ?_
  refine aw_aload1 (pc := 22) F dX7_priceSpan_22 ?_
  refine aw_getR (pc := 23) F dX7_priceSpan_23 fl_7_95 rfl (by first | decide | (simp only [inB, cnt, rcnt]; omega)) rfl nz5 rfl ?_
  refine aw_iload2 (pc := 26) F dX7_priceSpan_26 ?_
  refine aw_iald (pc := 27) F dX7_priceSpan_27 rfl (by first | decide | (simp only [inB, cnt, rcnt]; omega)) (by omega) ?_
  refine aw_pcallS2 (pc := 28) F dX7_priceSpan_28 ml_7_104 (ctJ_max _ _ _ _ (by rw [f0']; unfold inR; omega) (by rw [f1']; unfold inR; omega)) (Nat.le_of_ble_eq_true rfl) (by decide) (Nat.zero_le _) ?_
  refine aw_istore4 (pc := 31) F dX7_priceSpan_31 rfl hk.symm ?_
  rw [f0', f1', ← ha0, ← hb0]
  refine aw_iload3 (pc := 33) F dX7_priceSpan_33 ?_
  refine aw_aload1 (pc := 34) F dX7_priceSpan_34 ?_
  refine aw_getR (pc := 35) F dX7_priceSpan_35 fl_7_92 rfl (by first | decide | (simp only [inB, cnt, rcnt]; omega)) rfl nz4 rfl ?_
  refine aw_iload2 (pc := 38) F dX7_priceSpan_38 ?_
  refine aw_iald (pc := 39) F dX7_priceSpan_39 rfl (by first | decide | (simp only [inB, cnt, rcnt]; omega)) (by omega) ?_
  rw [f0']
  refine aw_icmp_ne (tgt := 47) (pc := 40) F dX7_priceSpan_40 (by decide) (by unfold inR; omega) (by unfold inR; omega) (fun c40 => ?_) (fun c40 => ?_)
  · refine aw_iconst (pc := 47) F dX7_priceSpan_47 ?_
    refine aw_istore5 (pc := 48) F dX7_priceSpan_48 rfl hk.symm ?_
    refine aw_iconst (pc := 50) F dX7_priceSpan_50 ?_
    refine aw_istore6 (pc := 51) F dX7_priceSpan_51 rfl hk.symm ?_
    rw [← hQ]
    exact key _ (by first | (rw [if_pos (by omega)]; done) | (rw [if_neg (by omega)]; done)) T 0 M (by omega) ch14.rf (fun _ _ _ => rfl) (fun d d0 d1 => absurd d1 (by omega))
  · refine aw_iconst (pc := 43) F dX7_priceSpan_43 ?_
    refine aw_goto (tgt := 48) (pc := 44) F dX7_priceSpan_44 (by decide) ?_
    refine aw_istore5 (pc := 48) F dX7_priceSpan_48 rfl hk.symm ?_
    refine aw_iconst (pc := 50) F dX7_priceSpan_50 ?_
    refine aw_istore6 (pc := 51) F dX7_priceSpan_51 rfl hk.symm ?_
    rw [← hQ]
    exact key _ (by first | (rw [if_pos (by omega)]; done) | (rw [if_neg (by omega)]; done)) T 0 M (by omega) ch14.rf (fun _ _ _ => rfl) (fun d d0 d1 => absurd d1 (by omega))
theorem ct7_priceDifferences (M : Id4 → Int → Int) (b9 : Bool) (S : Int → Int) (p : Int) (hp : 0 ≤ p ∧ p < 13) (hR : plR M p S) (h : Ok S) (hT : M (7, 0, 0, 0) 8 = S 0) (hEv : M (7, 0, 0, 0) 7 = S 1) (hd : Agr (S 1) (M (1, 1, 2, 0)) (tgS S)) : CtV 4 0 yX7_priceDifferences cX7_priceDifferences 6 none [aR (7, 0, 0, 0), aR (5, p, 0, 0)] (M, R0 b9) (fun σ' => ∃ M', σ' = (M', R0 b9) ∧ ch14 M M' ∧ prR S (S 20).toNat M') := by
  refine CtV.mk (by decide +kernel) rfl (Nat.le_of_ble_eq_true rfl) (fun X K F hk => ?_)
  have hN := h.2.2.1
  have hE := h.2.1
  have hP := h.1
  have hm := tgS_ok h
  obtain ⟨T, eT⟩ : ∃ T : Nat, S 0 = (T : Int) := ⟨(S 0).toNat, by omega⟩
  obtain ⟨E, eE⟩ : ∃ E : Nat, S 1 = (E : Int) := ⟨(S 1).toNat, by omega⟩
  obtain ⟨N, eN⟩ : ∃ N : Nat, S 20 = (N : Int) := ⟨(S 20).toNat, by omega⟩
  have tN : (S 20).toNat = N := by omega
  obtain ⟨Q9, hQ⟩ : ∃ Q9, Q9 = EV X K 0 (fun σ' => ∃ M', σ' = (M', R0 b9) ∧ ch14 M M' ∧ prR S (S 20).toNat M') := ⟨_, rfl⟩
  have fx : ∀ M', ch14 M M' → M' (7, 0, 0, 0) = M (7, 0, 0, 0) := fun M' a1 => a1 _ (fun z => absurd z.2 (by decide))
  have key4 : ∀ (j n : Nat) (M' : Id4 → Int → Int) (w3 w4 w5 : AV), n + j = N → wide w3 = false → wide w4 = false → wide w5 = false → ch14 M M' → prR S n M' → AW X K 92 [aR (7, 0, 0, 0), aR (5, p, 0, 0), aI n, w3, w4, w5] [] (M', R0 b9) 0 Q9 := by
    intro j
    induction j with
    | zero =>
      intro n M' w3 w4 w5 hn g3 g4 g5 a1 a2
      have e2 := (a1.pl hR).1.2.2
      refine aw_iload2 (pc := 92) F dX7_priceDifferences_92 ?_
      refine aw_aload1 (pc := 93) F dX7_priceDifferences_93 ?_
      refine aw_getI (pc := 94) F dX7_priceDifferences_94 fl_7_85 rfl (by first | decide | (simp only [inB, cnt, rcnt]; omega)) rfl nz2 ?_
      refine aw_icmp_ge (tgt := 112) (pc := 97) F dX7_priceDifferences_97 (by decide) (by unfold inR; omega) (by unfold inR; omega) (fun c97 => ?_) (fun c97 => ?_)
      · rw [hQ]
        exact aw_vret (pc := 112) F dX7_priceDifferences_112 (Nat.zero_le _) ⟨M', rfl, a1, by rw [tN, show N = n by omega]; exact a2⟩
      · omega
    | succ j ih =>
      intro n M' w3 w4 w5 hn g3 g4 g5 a1 a2
      have e2 := (a1.pl hR).1.2.2
      refine aw_iload2 (pc := 92) F dX7_priceDifferences_92 ?_
      refine aw_aload1 (pc := 93) F dX7_priceDifferences_93 ?_
      refine aw_getI (pc := 94) F dX7_priceDifferences_94 fl_7_85 rfl (by first | decide | (simp only [inB, cnt, rcnt]; omega)) rfl nz2 ?_
      refine aw_icmp_ge (tgt := 112) (pc := 97) F dX7_priceDifferences_97 (by decide) (by unfold inR; omega) (by unfold inR; omega) (fun c97 => ?_) (fun c97 => ?_)
      · omega
      · refine aw_aload0 (pc := 100) F dX7_priceDifferences_100 ?_
        refine aw_aload1 (pc := 101) F dX7_priceDifferences_101 ?_
        refine aw_iload2 (pc := 102) F dX7_priceDifferences_102 ?_
        refine aw_callVV2 (pc := 103) F dX7_priceDifferences_103 ml_7_88 rfl (by first | decide | (simp only [inB, cnt, rcnt]; omega)) (ct7_priceSpan _ _ S p n hp (a1.pl hR) h (by rw [fx M' a1]; exact hT) (by omega) a2) (Nat.le_of_ble_eq_true rfl) (by decide) (Nat.zero_le _) (fun σ9 h9_103 => ?_)
        obtain ⟨M2, h9, c1, c2⟩ := h9_103
        subst h9
        refine aw_iinc2 (pc := 106) F dX7_priceDifferences_106 (by simp only [List.all_cons, List.all_nil, g3, g4, g5]; rfl) hk.symm ?_
        refine aw_goto (tgt := 92) (pc := 109) F dX7_priceDifferences_109 (by decide) ?_
        exact ih (n + 1) M2 w3 w4 w5 (by omega) g3 g4 g5 (a1.tr c1) c2
  have key3 : ∀ (a b : Nat), a < b → b < E → (∀ (M' : Id4 → Int → Int) (w4 w5 : AV), wide w4 = false → wide w5 = false → ch14 M M' → (∀ x y d, 0 ≤ x → x < y → y < S 1 → 0 ≤ d → d < S 0 → (x < a ∨ (x = a ∧ y < ((b + 1 : Nat) : Int))) → M' (7, 0, 14, 6 * x + y) d = pcN2 S x y d 0) → AW X K 14 [aR (7, 0, 0, 0), aR (5, p, 0, 0), aI a, aI ((b + 1 : Nat) : Int), w4, w5] [] (M', R0 b9) 0 Q9) → ∀ (j i : Nat) (M' : Id4 → Int → Int) (w5 : AV), i + j = T → wide w5 = false → ch14 M M' → (∀ x y d, 0 ≤ x → x < y → y < S 1 → 0 ≤ d → d < S 0 → (x < a ∨ (x = a ∧ y < (b : Int)) ∨ (x = a ∧ y = b ∧ d < (i : Int))) → M' (7, 0, 14, 6 * x + y) d = pcN2 S x y d 0) → AW X K 25 [aR (7, 0, 0, 0), aR (5, p, 0, 0), aI a, aI b, aI i, w5] [] (M', R0 b9) 0 Q9 := by
    intro a b hab hbE cont j
    induction j with
    | zero =>
      intro i M' w5 hi g5 a1 a2
      have hT' : M' (7, 0, 0, 0) 8 = S 0 := by rw [fx M' a1]; exact hT
      refine aw_iload4 (pc := 25) F dX7_priceDifferences_25 ?_
      refine aw_aload0 (pc := 27) F dX7_priceDifferences_27 ?_
      refine aw_getI (pc := 28) F dX7_priceDifferences_28 fl_7_44 rfl (by first | decide | (simp only [inB, cnt, rcnt]; omega)) rfl nz8 ?_
      refine aw_icmp_ge (tgt := 78) (pc := 31) F dX7_priceDifferences_31 (by decide) (by unfold inR; omega) (by unfold inR; omega) (fun c31 => ?_) (fun c31 => ?_)
      · refine aw_iinc3 (pc := 78) F dX7_priceDifferences_78 (by simp only [List.all_cons, List.all_nil, g5]; rfl) hk.symm ?_
        refine aw_goto (tgt := 14) (pc := 81) F dX7_priceDifferences_81 (by decide) ?_
        exact cont M' _ w5 rfl g5 a1 (fun x y d q0 q1 q2 q3 q4 q5 => a2 x y d q0 q1 q2 q3 q4 (by omega))
      · omega
    | succ j ih =>
      intro i M' w5 hi g5 a1 a2
      have hT' : M' (7, 0, 0, 0) 8 = S 0 := by rw [fx M' a1]; exact hT
      have d1 : M' (1, 1, 2, 0) = M (1, 1, 2, 0) := a1 _ (fun z => absurd z.1 (by decide))
      have e9 := hd a b (by omega) (by omega) (by omega) (by omega)
      have z9 := (hm (6 * (a : Int) + b) (by omega) (by omega)).1
      have st : ∀ v w, v = (if bit (tgS S (6 * (a : Int) + b)) i = true then 0 else 1048576) → wide w = false → AW X K 25 [aR (7, 0, 0, 0), aR (5, p, 0, 0), aI a, aI b, aI ((i + 1 : Nat) : Int), w] [] (updM M' (7, 0, 14, 6 * (a : Int) + b) i v, R0 b9) 0 Q9 := fun v w hv hw => by
        refine ih (i + 1) _ w (by omega) hw (a1.up) (fun x y d q0 q1 q2 q3 q4 q5 => ?_)
        by_cases z : (x = a ∧ y = b) ∧ d = i
        · rw [z.1.1, z.1.2, z.2, upd_same, hv]
          show _ = (if bit (tgS S (6 * (a : Int) + b)) (i : Int).toNat = true then 0 else 1048576) + 0
          rw [Int.toNat_natCast]; omega
        · have : updM M' (7, 0, 14, 6 * (a : Int) + b) i v (7, 0, 14, 6 * x + y) d = M' (7, 0, 14, 6 * x + y) d := by
            by_cases y2 : 6 * x + y = 6 * (a : Int) + b
            · rw [y2, upd_ne (Or.inr (fun w => z ⟨by omega, w⟩))]
            · rw [upd_ne (Or.inl (by simp [y2]))]
          rw [this]
          exact a2 x y d q0 q1 q2 q3 q4 (by omega)
      refine aw_iload4 (pc := 25) F dX7_priceDifferences_25 ?_
      refine aw_aload0 (pc := 27) F dX7_priceDifferences_27 ?_
      refine aw_getI (pc := 28) F dX7_priceDifferences_28 fl_7_44 rfl (by first | decide | (simp only [inB, cnt, rcnt]; omega)) rfl nz8 ?_
      refine aw_icmp_ge (tgt := 78) (pc := 31) F dX7_priceDifferences_31 (by decide) (by unfold inR; omega) (by unfold inR; omega) (fun c31 => ?_) (fun c31 => ?_)
      · omega
      · refine aw_aload0 (pc := 34) F dX7_priceDifferences_34 ?_
        refine aw_getR (pc := 35) F dX7_priceDifferences_35 fl_7_23 rfl (by first | decide | (simp only [inB, cnt, rcnt]; omega)) rfl nz2 rfl ?_
        refine aw_iload2 (pc := 38) F dX7_priceDifferences_38 ?_
        refine aw_iload3 (pc := 39) F dX7_priceDifferences_39 ?_
        refine aw_iload4 (pc := 40) F dX7_priceDifferences_40 ?_
        refine aw_pcallV3 (pc := 42) F dX7_priceDifferences_42 ml_7_81 rfl (by first | decide | (simp only [inB, cnt, rcnt]; omega)) (ct1_allows _ _ _ _ _ i (by decide) (by omega) (by omega) (by rw [d1, e9]; omega) (by omega)) (Nat.le_of_ble_eq_true rfl) (by decide) (Nat.zero_le _) ?_
        rw [d1, e9]
        refine aw_istore5 (pc := 45) F dX7_priceDifferences_45 (by simp only [List.all_cons, List.all_nil, g5]; rfl) hk.symm ?_
        refine aw_aload0 (pc := 47) F dX7_priceDifferences_47 ?_
        refine aw_getR (pc := 48) F dX7_priceDifferences_48 fl_7_29 rfl (by first | decide | (simp only [inB, cnt, rcnt]; omega)) rfl nz3 rfl ?_
        refine aw_iload2 (pc := 51) F dX7_priceDifferences_51 ?_
        refine aw_bipush (pc := 52) F dX7_priceDifferences_52 (by decide) ?_
        refine aw_imul (pc := 54) F dX7_priceDifferences_54 ?_
        refine aw_iload3 (pc := 55) F dX7_priceDifferences_55 ?_
        refine aw_iadd (pc := 56) F dX7_priceDifferences_56 ?_
        rw [show (a : Int) * 6 + b = 6 * (a : Int) + b by omega]
        refine aw_aald (pc := 57) F dX7_priceDifferences_57 rfl (by decide) (by first | decide | (simp only [inB, cnt, rcnt]; omega)) (by omega) rfl ?_
        refine aw_iload4 (pc := 58) F dX7_priceDifferences_58 ?_
        refine aw_iload5 (pc := 60) F dX7_priceDifferences_60 ?_
        refine aw_if_eq (tgt := 69) (pc := 62) F dX7_priceDifferences_62 (by decide) b2i_inR (fun c62 => ?_) (fun c62 => ?_)
        · refine aw_ldc (pc := 69) F dX7_priceDifferences_69 kc_7_11 ?_
          refine aw_iast (pc := 71) F dX7_priceDifferences_71 rfl (by first | decide | (simp only [inB, cnt, rcnt]; omega)) (by omega) ?_
          refine aw_iinc4 (pc := 72) F dX7_priceDifferences_72 (by simp only [List.all_cons, List.all_nil, g5]; rfl) hk.symm ?_
          refine aw_goto (tgt := 25) (pc := 75) F dX7_priceDifferences_75 (by decide) ?_
          first | exact st _ _ (by rw [if_neg (b2i_0.mp c62)]) rfl | exact st _ _ (by rw [if_pos (Classical.byContradiction fun z => c62 (b2i_neg z))]) rfl
        · refine aw_iconst (pc := 65) F dX7_priceDifferences_65 ?_
          refine aw_goto (tgt := 71) (pc := 66) F dX7_priceDifferences_66 (by decide) ?_
          refine aw_iast (pc := 71) F dX7_priceDifferences_71 rfl (by first | decide | (simp only [inB, cnt, rcnt]; omega)) (by omega) ?_
          refine aw_iinc4 (pc := 72) F dX7_priceDifferences_72 (by simp only [List.all_cons, List.all_nil, g5]; rfl) hk.symm ?_
          refine aw_goto (tgt := 25) (pc := 75) F dX7_priceDifferences_75 (by decide) ?_
          first | exact st _ _ (by rw [if_neg (b2i_0.mp c62)]) rfl | exact st _ _ (by rw [if_pos (Classical.byContradiction fun z => c62 (b2i_neg z))]) rfl
  have key2 : ∀ (a : Nat), a < E → (∀ (M' : Id4 → Int → Int) (w3 w4 w5 : AV), wide w3 = false → wide w4 = false → wide w5 = false → ch14 M M' → (∀ x y d, 0 ≤ x → x < y → y < S 1 → 0 ≤ d → d < S 0 → x < ((a + 1 : Nat) : Int) → M' (7, 0, 14, 6 * x + y) d = pcN2 S x y d 0) → AW X K 2 [aR (7, 0, 0, 0), aR (5, p, 0, 0), aI ((a + 1 : Nat) : Int), w3, w4, w5] [] (M', R0 b9) 0 Q9) → ∀ (j b : Nat) (M' : Id4 → Int → Int) (w4 w5 : AV), a < b → b + j = E → wide w4 = false → wide w5 = false → ch14 M M' → (∀ x y d, 0 ≤ x → x < y → y < S 1 → 0 ≤ d → d < S 0 → (x < a ∨ (x = a ∧ y < (b : Int))) → M' (7, 0, 14, 6 * x + y) d = pcN2 S x y d 0) → AW X K 14 [aR (7, 0, 0, 0), aR (5, p, 0, 0), aI a, aI b, w4, w5] [] (M', R0 b9) 0 Q9 := by
    intro a haE cont j
    induction j with
    | zero =>
      intro b M' w4 w5 hab hb g4 g5 a1 a2
      have hT' : M' (7, 0, 0, 0) 7 = S 1 := by rw [fx M' a1]; exact hEv
      refine aw_iload3 (pc := 14) F dX7_priceDifferences_14 ?_
      refine aw_aload0 (pc := 15) F dX7_priceDifferences_15 ?_
      refine aw_getI (pc := 16) F dX7_priceDifferences_16 fl_7_41 rfl (by first | decide | (simp only [inB, cnt, rcnt]; omega)) rfl nz7 ?_
      refine aw_icmp_ge (tgt := 84) (pc := 19) F dX7_priceDifferences_19 (by decide) (by unfold inR; omega) (by unfold inR; omega) (fun c19 => ?_) (fun c19 => ?_)
      · refine aw_iinc2 (pc := 84) F dX7_priceDifferences_84 (by simp only [List.all_cons, List.all_nil, g4, g5]; rfl) hk.symm ?_
        refine aw_goto (tgt := 2) (pc := 87) F dX7_priceDifferences_87 (by decide) ?_
        exact cont M' _ w4 w5 rfl g4 g5 a1 (fun x y d q0 q1 q2 q3 q4 q5 => a2 x y d q0 q1 q2 q3 q4 (by omega))
      · omega
    | succ j ih =>
      intro b M' w4 w5 hab hb g4 g5 a1 a2
      have hT' : M' (7, 0, 0, 0) 7 = S 1 := by rw [fx M' a1]; exact hEv
      refine aw_iload3 (pc := 14) F dX7_priceDifferences_14 ?_
      refine aw_aload0 (pc := 15) F dX7_priceDifferences_15 ?_
      refine aw_getI (pc := 16) F dX7_priceDifferences_16 fl_7_41 rfl (by first | decide | (simp only [inB, cnt, rcnt]; omega)) rfl nz7 ?_
      refine aw_icmp_ge (tgt := 84) (pc := 19) F dX7_priceDifferences_19 (by decide) (by unfold inR; omega) (by unfold inR; omega) (fun c19 => ?_) (fun c19 => ?_)
      · omega
      · refine aw_iconst (pc := 22) F dX7_priceDifferences_22 ?_
        refine aw_istore4 (pc := 23) F dX7_priceDifferences_23 (by simp only [List.all_cons, List.all_nil, g4, g5]; rfl) hk.symm ?_
        exact key3 a b hab (by omega) (fun M2 w4 w5 g4 g5 c1 c2 => ih (b + 1) M2 w4 w5 (by omega) (by omega) g4 g5 c1 c2) T 0 M' w5 (by omega) g5 a1 (fun x y d q0 q1 q2 q3 q4 q5 => a2 x y d q0 q1 q2 q3 q4 (by omega))
  have key1 : ∀ (j a : Nat) (M' : Id4 → Int → Int) (w3 w4 w5 : AV), a + j = E → wide w3 = false → wide w4 = false → wide w5 = false → ch14 M M' → (∀ x y d, 0 ≤ x → x < y → y < S 1 → 0 ≤ d → d < S 0 → x < (a : Int) → M' (7, 0, 14, 6 * x + y) d = pcN2 S x y d 0) → AW X K 2 [aR (7, 0, 0, 0), aR (5, p, 0, 0), aI a, w3, w4, w5] [] (M', R0 b9) 0 Q9 := by
    intro j
    induction j with
    | zero =>
      intro a M' w3 w4 w5 ha g3 g4 g5 a1 a2
      have hT' : M' (7, 0, 0, 0) 7 = S 1 := by rw [fx M' a1]; exact hEv
      refine aw_iload2 (pc := 2) F dX7_priceDifferences_2 ?_
      refine aw_aload0 (pc := 3) F dX7_priceDifferences_3 ?_
      refine aw_getI (pc := 4) F dX7_priceDifferences_4 fl_7_41 rfl (by first | decide | (simp only [inB, cnt, rcnt]; omega)) rfl nz7 ?_
      refine aw_icmp_ge (tgt := 90) (pc := 7) F dX7_priceDifferences_7 (by decide) (by unfold inR; omega) (by unfold inR; omega) (fun c7 => ?_) (fun c7 => ?_)
      · refine aw_iconst (pc := 90) F dX7_priceDifferences_90 ?_
        refine aw_istore2 (pc := 91) F dX7_priceDifferences_91 (by simp only [List.all_cons, List.all_nil, g3, g4, g5]; rfl) hk.symm ?_
        exact key4 N 0 M' w3 w4 w5 (by omega) g3 g4 g5 a1 (fun x y d q0 q1 q2 q3 q4 => a2 x y d q0 q1 q2 q3 q4 (by omega))
      · omega
    | succ j ih =>
      intro a M' w3 w4 w5 ha g3 g4 g5 a1 a2
      have hT' : M' (7, 0, 0, 0) 7 = S 1 := by rw [fx M' a1]; exact hEv
      refine aw_iload2 (pc := 2) F dX7_priceDifferences_2 ?_
      refine aw_aload0 (pc := 3) F dX7_priceDifferences_3 ?_
      refine aw_getI (pc := 4) F dX7_priceDifferences_4 fl_7_41 rfl (by first | decide | (simp only [inB, cnt, rcnt]; omega)) rfl nz7 ?_
      refine aw_icmp_ge (tgt := 90) (pc := 7) F dX7_priceDifferences_7 (by decide) (by unfold inR; omega) (by unfold inR; omega) (fun c7 => ?_) (fun c7 => ?_)
      · omega
      · refine aw_iload2 (pc := 10) F dX7_priceDifferences_10 ?_
        refine aw_iconst (pc := 11) F dX7_priceDifferences_11 ?_
        refine aw_iadd (pc := 12) F dX7_priceDifferences_12 ?_
        refine aw_istore3 (pc := 13) F dX7_priceDifferences_13 (by simp only [List.all_cons, List.all_nil, g3, g4, g5]; rfl) hk.symm ?_
        exact key2 a (by omega) (fun M2 w3 w4 w5 g3 g4 g5 c1 c2 => ih (a + 1) M2 w3 w4 w5 (by omega) g3 g4 g5 c1 c2) (E - (a + 1)) (a + 1) M' w4 w5 (by omega) (by omega) g4 g5 a1 (fun x y d q0 q1 q2 q3 q4 q5 => a2 x y d q0 q1 q2 q3 q4 (by omega))
  refine aw_iconst (pc := 0) F dX7_priceDifferences_0 ?_
  refine aw_istore2 (pc := 1) F dX7_priceDifferences_1 rfl hk.symm ?_
  rw [← hQ]
  exact key1 E 0 M aX aX aX (by omega) rfl rfl rfl ch14.rf (fun x y d q0 q1 q2 q3 q4 q5 => absurd q5 (by omega))
