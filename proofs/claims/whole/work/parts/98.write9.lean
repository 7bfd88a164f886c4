/-! 98: write of the reference -/
def o9 (M M' : Id4 → Int → Int) : Prop := ∀ q k, ¬ (scr9 q k ∨ q = (9, 0, 33, 0) ∨ (q = (9, 0, 0, 0) ∧ k = 33)) → M' q k = M q k
theorem o9_of {M M1 M2 : Id4 → Int → Int} (h1 : same9 M M1) (h2 : only9 M1 M2) : o9 M M2 := fun q k z => (h2 q k (fun y => z (Or.inr y))).trans (h1 q k (fun y => z (Or.inl y)))
theorem o9.tr {M M1 M2 : Id4 → Int → Int} (h1 : o9 M M1) (h2 : only9 M1 M2) : o9 M M2 := fun q k z => (h2 q k (fun y => z (Or.inr y))).trans (h1 q k z)
theorem o9.up {M M1 : Id4 → Int → Int} {v : Int} (h1 : o9 M M1) : o9 M (updM M1 (9, 0, 0, 0) 33 v) := fun q k z => by
  rw [upd_ne (by
    by_cases y : q = (9, 0, 0, 0)
    · exact Or.inr (fun w => z (Or.inr (Or.inr ⟨y, w⟩)))
    · exact Or.inl y)]
  exact h1 q k z
theorem o9.s {M M' : Id4 → Int → Int} (h : o9 M M') : M' (9, 0, 1, 0) = M (9, 0, 1, 0) := funext fun k => h _ k (by unfold scr9; simp)
theorem pg9_clear {M : Id4 → Int → Int} {p : Pg} (hp : PgR9 M p) : PgR9 (updM M (9, 0, 0, 0) 33 0) (p.1, 0) := ⟨(upd_off (by decide)).trans hp.1, upd_same, Int.le_refl 0, by show (0 : Int) ≤ 160; decide⟩
theorem pg9_of {M M1 : Id4 → Int → Int} {p : Pg} (h : same9 M M1) (hp : PgR9 M p) : PgR9 M1 p := ⟨(funext fun k => h _ k (by unfold scr9; simp) : M1 (9, 0, 33, 0) = M (9, 0, 33, 0)).trans hp.1, (h _ _ (by unfold scr9; simp)).trans hp.2.1, hp.2.2⟩
theorem ct9_name (M : Id4 → Int → Int) (b : Bool) (W : Int → Int) (l x y : Int) (p : Pg) (hN : nmOk W l x y) (hp : PgR9 M p) (hr : p.2 + 8 ≤ 160) : ∃ k1 k2 : Nat, k1 ≤ 4 ∧ k2 ≤ 4 ∧ x = cdN W 0 k1 ∧ y = cdN W (min l 4) k2 ∧ (k1 : Int) + k2 = l ∧ (k1 : Int) = min l 4 ∧ pWd (pWd p (fun k => W (0 + k)) k1) (fun k => W (min l 4 + k)) k2 = pWd p W l.toNat := by
  obtain ⟨hl, hL, hx, hy⟩ := hN
  refine ⟨(min l 4 - 0).toNat, (l - min l 4).toNat, by omega, by omega, hx, hy, by omega, by omega, ?_⟩
  have e0 : (fun k => W (0 + k)) = W := funext fun k => by rw [Int.zero_add]
  rw [e0]
  have e1 : min l 4 = (((min l 4 - 0).toNat : Nat) : Int) := by omega
  have e2 : (fun k => W (min l 4 + k)) = fun k => W ((((min l 4 - 0).toNat : Nat) : Int) + k) := by rw [← e1]
  rw [e2, pWd_app]
  congr 1
  omega
theorem cq9_write (M : Id4 → Int → Int) (b : Bool) (W : Int → Int → Int) (l S : Int → Int) (p : Pg) (hS : M (9, 0, 1, 0) = S) (h : Ok S) (hN : ∀ e, 0 ≤ e → e < S 1 → nmOk (W e) (l e) (S (2 + 2 * e)) (S (2 + 2 * e + 1))) (hp : PgR9 M p) : CtI 9 0 yX9_write cX9_write 2 (some .int) [aR (9, 0, 0, 0)] (M, R0 b) (fun v σ' => v = (wrP W l S p).2 ∧ ∃ M', σ' = (M', R0 b) ∧ o9 M M' ∧ PgR9 M' (wrP W l S p)) := by
  refine CtI.mk (by decide +kernel) rfl (Nat.le_of_ble_eq_true rfl) (fun X K F hk => ?_)
  have hT := h.1
  have hE := h.2.1
  have hSp := h.2.2.1
  obtain ⟨Q9, hQ⟩ : ∃ Q9, Q9 = EI X K 0 (fun v σ' => v = (wrP W l S p).2 ∧ ∃ M', σ' = (M', R0 b) ∧ o9 M M' ∧ PgR9 M' (wrP W l S p)) := ⟨_, rfl⟩
  have loop2 : ∀ (f n : Nat) (M' : Id4 → Int → Int), n + f = (S 20).toNat → o9 M M' → PgR9 M' (brW S (evW W l S (p.1, 0) (S 1).toNat) n) → (brW S (evW W l S (p.1, 0) (S 1).toNat) n).2 ≤ 72 + 4 * n → AW X K 89 [aR (9, 0, 0, 0), aI n] [] (M', R0 b) 0 Q9 := by
    intro f
    induction f with
    | zero =>
      intro n M' hn a1 a2 a3
      have s1 := a1.s.trans hS
      obtain rfl : n = (S 20).toNat := by omega
      refine aw_iload1 (pc := 89) F dX9_write_89 ?_
      refine aw_aload0 (pc := 90) F dX9_write_90 ?_
      refine aw_getR (pc := 91) F dX9_write_91 fl_9_7 rfl (by first | decide | (simp only [inB, cnt, rcnt]; omega)) rfl nz0 rfl ?_
      refine aw_bipush (pc := 94) F dX9_write_94 (by decide) ?_
      refine aw_iald (pc := 96) F dX9_write_96 rfl (by first | decide | (simp only [inB, cnt, rcnt]; omega)) (by omega) ?_
      rw [s1]
      refine aw_icmp_ge (tgt := 136) (pc := 97) F dX9_write_97 (by decide) (by unfold inR; omega) (by unfold inR; omega) (fun c97 => ?_) (fun c97 => ?_)
      · refine aw_aload0 (pc := 136) F dX9_write_136 ?_
        refine aw_getI (pc := 137) F dX9_write_137 fl_9_384 rfl (by first | decide | (simp only [inB, cnt, rcnt]; omega)) rfl nz33 ?_
        rw [hQ]
        exact aw_iret (pc := 140) F dX9_write_140 rfl (Nat.zero_le _) ⟨a2.2.1, M', rfl, a1, a2⟩
      · omega
    | succ f ih =>
      intro n M' hn a1 a2 a3
      have s1 := a1.s.trans hS
      have sb := slOf_bd h n
      have sq : CtI 4 0 yX9_slackOf cX9_slackOf 2 (some .int) [aR (9, 0, 0, 0), aI n] (M', R0 b) (PU (M', R0 b) (slOf S n)) := by
        have z := ct9_slackOf M' b n (by rw [s1]; omega) (by rw [s1]; exact h)
        rw [s1] at z
        exact z
      have kq : CtI 3 0 yX9_isKeptBy cX9_isKeptBy 3 (some .boolean) [aR (9, 0, 0, 0), aI n, aI (slOf S n)] (M', R0 b) (PU (M', R0 b) (b2i (kept S n))) := by
        have z := ct9_isKeptBy M' b n (slOf S n) (by rw [s1]; omega) (by unfold inR; omega) (by rw [s1]; exact h)
        rw [s1] at z
        exact z
      refine aw_iload1 (pc := 89) F dX9_write_89 ?_
      refine aw_aload0 (pc := 90) F dX9_write_90 ?_
      refine aw_getR (pc := 91) F dX9_write_91 fl_9_7 rfl (by first | decide | (simp only [inB, cnt, rcnt]; omega)) rfl nz0 rfl ?_
      refine aw_bipush (pc := 94) F dX9_write_94 (by decide) ?_
      refine aw_iald (pc := 96) F dX9_write_96 rfl (by first | decide | (simp only [inB, cnt, rcnt]; omega)) (by omega) ?_
      rw [s1]
      refine aw_icmp_ge (tgt := 136) (pc := 97) F dX9_write_97 (by decide) (by unfold inR; omega) (by unfold inR; omega) (fun c97 => ?_) (fun c97 => ?_)
      · omega
      · refine aw_aload0 (pc := 100) F dX9_write_100 ?_
        refine aw_iload1 (pc := 101) F dX9_write_101 ?_
        refine aw_aload0 (pc := 102) F dX9_write_102 ?_
        refine aw_iload1 (pc := 103) F dX9_write_103 ?_
        refine aw_pcallV1 (pc := 104) F dX9_write_104 ml_9_209 rfl (by first | decide | (simp only [inB, cnt, rcnt]; omega)) sq (Nat.le_of_ble_eq_true rfl) (by decide) (Nat.zero_le _) ?_
        refine aw_pcallV2 (pc := 107) F dX9_write_107 ml_9_215 rfl (by first | decide | (simp only [inB, cnt, rcnt]; omega)) kq (Nat.le_of_ble_eq_true rfl) (by decide) (Nat.zero_le _) ?_
        refine aw_ifb_ne (tgt := 130) (pc := 110) F dX9_write_110 (by decide) (fun c110 => ?_) (fun c110 => ?_)
        · refine aw_iinc1 (pc := 130) F dX9_write_130 rfl hk.symm ?_
          refine aw_goto (tgt := 89) (pc := 133) F dX9_write_133 (by decide) ?_
          first
          | exact ih (n + 1) M4 (by omega) (((a1.tr c1).tr d1).tr e1) (by unfold brW; rw [if_neg (by assumption)]; exact e2) (by unfold brW; rw [if_neg (by assumption)]; omega)
          | exact ih (n + 1) M' (by omega) a1 (by unfold brW; rw [if_pos (by assumption)]; exact a2) (by unfold brW; rw [if_pos (by assumption)]; omega)
        · refine aw_aload0 (pc := 113) F dX9_write_113 ?_
          refine aw_bipush (pc := 114) F dX9_write_114 (by decide) ?_
          refine aw_callVV1 (pc := 116) F dX9_write_116 ml_9_387 rfl (by first | decide | (simp only [inB, cnt, rcnt]; omega)) (ct9_says _ _ _ _ a2 (by omega)) (Nat.le_of_ble_eq_true rfl) (by decide) (Nat.zero_le _) (fun σ9 h9_116 => ?_)
          obtain ⟨M2, rfl, c1, c2, c3⟩ := h9_116
          refine aw_aload0 (pc := 119) F dX9_write_119 ?_
          refine aw_bipush (pc := 120) F dX9_write_120 (by decide) ?_
          refine aw_callVV1 (pc := 122) F dX9_write_122 ml_9_387 rfl (by first | decide | (simp only [inB, cnt, rcnt]; omega)) (ct9_says _ _ _ _ c2 (by omega)) (Nat.le_of_ble_eq_true rfl) (by decide) (Nat.zero_le _) (fun σ9 h9_122 => ?_)
          obtain ⟨M3, rfl, d1, d2, d3⟩ := h9_122
          refine aw_aload0 (pc := 125) F dX9_write_125 ?_
          refine aw_iload1 (pc := 126) F dX9_write_126 ?_
          refine aw_callVV1 (pc := 127) F dX9_write_127 ml_9_390 rfl (by first | decide | (simp only [inB, cnt, rcnt]; omega)) (ct9_saysSmall _ _ _ _ (by omega) d2 (by omega)) (Nat.le_of_ble_eq_true rfl) (by decide) (Nat.zero_le _) (fun σ9 h9_127 => ?_)
          obtain ⟨M4, rfl, e1, e2, e3⟩ := h9_127
          refine aw_iinc1 (pc := 130) F dX9_write_130 rfl hk.symm ?_
          refine aw_goto (tgt := 89) (pc := 133) F dX9_write_133 (by decide) ?_
          first
          | exact ih (n + 1) M4 (by omega) (((a1.tr c1).tr d1).tr e1) (by unfold brW; rw [if_neg (by assumption)]; exact e2) (by unfold brW; rw [if_neg (by assumption)]; omega)
          | exact ih (n + 1) M' (by omega) a1 (by unfold brW; rw [if_pos (by assumption)]; exact a2) (by unfold brW; rw [if_pos (by assumption)]; omega)
  have loop1 : ∀ (f n : Nat) (M' : Id4 → Int → Int), n + f = (S 1).toNat → o9 M M' → PgR9 M' (evW W l S (p.1, 0) n) → (evW W l S (p.1, 0) n).2 ≤ 12 * n → AW X K 12 [aR (9, 0, 0, 0), aI n] [] (M', R0 b) 0 Q9 := by
    intro f
    induction f with
    | zero =>
      intro n M' hn a1 a2 a3
      have s1 := a1.s.trans hS
      obtain rfl : n = (S 1).toNat := by omega
      refine aw_iload1 (pc := 12) F dX9_write_12 ?_
      refine aw_aload0 (pc := 13) F dX9_write_13 ?_
      refine aw_getR (pc := 14) F dX9_write_14 fl_9_7 rfl (by first | decide | (simp only [inB, cnt, rcnt]; omega)) rfl nz0 rfl ?_
      refine aw_iconst (pc := 17) F dX9_write_17 ?_
      refine aw_iald (pc := 18) F dX9_write_18 rfl (by first | decide | (simp only [inB, cnt, rcnt]; omega)) (by omega) ?_
      rw [s1]
      refine aw_icmp_ge (tgt := 87) (pc := 19) F dX9_write_19 (by decide) (by unfold inR; omega) (by unfold inR; omega) (fun c19 => ?_) (fun c19 => ?_)
      · refine aw_iconst (pc := 87) F dX9_write_87 ?_
        refine aw_istore1 (pc := 88) F dX9_write_88 rfl hk.symm ?_
        exact loop2 (S 20).toNat 0 M' (by omega) a1 a2 (by show _ ≤ _; unfold brW; omega)
      · omega
    | succ f ih =>
      intro n M' hn a1 a2 a3
      have s1 := a1.s.trans hS
      have mid : ∀ (M2 : Id4 → Int → Int) (p' : Pg), o9 M M2 → PgR9 M2 p' → p' = (if n = 0 then evW W l S (p.1, 0) n else pPut (evW W l S (p.1, 0) n) 32) → p'.2 ≤ 12 * n + 1 → AW X K 32 [aR (9, 0, 0, 0), aI n] [] (M2, R0 b) 0 Q9 := by
        intro M2 p' b1 b2 b3 b4
        have s2 := b1.s.trans hS
        have nn := hN n (by omega) (by omega)
        obtain ⟨k1, k2, j1, j2, j3, j4, j5, j6, j7⟩ := ct9_name M2 b (W n) (l n) _ _ p' nn b2 (by omega)
        have tm := h.2.2.2.1 n (by omega) (by omega)
        refine aw_aload0 (pc := 32) F dX9_write_32 ?_
        refine aw_aload0 (pc := 33) F dX9_write_33 ?_
        refine aw_getR (pc := 34) F dX9_write_34 fl_9_7 rfl (by first | decide | (simp only [inB, cnt, rcnt]; omega)) rfl nz0 rfl ?_
        refine aw_iconst (pc := 37) F dX9_write_37 ?_
        refine aw_iconst (pc := 38) F dX9_write_38 ?_
        refine aw_iload1 (pc := 39) F dX9_write_39 ?_
        refine aw_imul (pc := 40) F dX9_write_40 ?_
        refine aw_iadd (pc := 41) F dX9_write_41 ?_
        refine aw_iald (pc := 42) F dX9_write_42 rfl (by first | decide | (simp only [inB, cnt, rcnt]; omega)) (by omega) ?_
        rw [s2, j3]
        refine aw_callVV1 (pc := 43) F dX9_write_43 ml_9_393 rfl (by first | decide | (simp only [inB, cnt, rcnt]; omega)) (ct9_saysL (e := l n) nn.2.1 b k1 j1 (by omega) M2 p' b2 (by omega)) (Nat.le_of_ble_eq_true rfl) (by omega) (Nat.zero_le _) (fun σ9 h9_43 => ?_)
        obtain ⟨M3, rfl, c1, c2, c3⟩ := h9_43
        have s3 := (b1.tr c1).s.trans hS
        refine aw_aload0 (pc := 46) F dX9_write_46 ?_
        refine aw_aload0 (pc := 47) F dX9_write_47 ?_
        refine aw_getR (pc := 48) F dX9_write_48 fl_9_7 rfl (by first | decide | (simp only [inB, cnt, rcnt]; omega)) rfl nz0 rfl ?_
        refine aw_iconst (pc := 51) F dX9_write_51 ?_
        refine aw_iconst (pc := 52) F dX9_write_52 ?_
        refine aw_iload1 (pc := 53) F dX9_write_53 ?_
        refine aw_imul (pc := 54) F dX9_write_54 ?_
        refine aw_iadd (pc := 55) F dX9_write_55 ?_
        refine aw_iconst (pc := 56) F dX9_write_56 ?_
        refine aw_iadd (pc := 57) F dX9_write_57 ?_
        refine aw_iald (pc := 58) F dX9_write_58 rfl (by first | decide | (simp only [inB, cnt, rcnt]; omega)) (by omega) ?_
        rw [s3, j4]
        refine aw_callVV1 (pc := 59) F dX9_write_59 ml_9_393 rfl (by first | decide | (simp only [inB, cnt, rcnt]; omega)) (ct9_saysL (e := l n) (fun k k0 k1 => nn.2.1 k (by omega) k1) b k2 j2 (by omega) M3 _ c2 (by omega)) (Nat.le_of_ble_eq_true rfl) (by omega) (Nat.zero_le _) (fun σ9 h9_59 => ?_)
        obtain ⟨M4, rfl, d1, d2, d3⟩ := h9_59
        refine aw_aload0 (pc := 62) F dX9_write_62 ?_
        refine aw_bipush (pc := 63) F dX9_write_63 (by decide) ?_
        refine aw_callVV1 (pc := 65) F dX9_write_65 ml_9_387 rfl (by first | decide | (simp only [inB, cnt, rcnt]; omega)) (ct9_says _ _ _ _ d2 (by omega)) (Nat.le_of_ble_eq_true rfl) (by omega) (Nat.zero_le _) (fun σ9 h9_65 => ?_)
        obtain ⟨M5, rfl, e1, e2, e3⟩ := h9_65
        have s5 := (((b1.tr c1).tr d1).tr e1).s.trans hS
        refine aw_aload0 (pc := 68) F dX9_write_68 ?_
        refine aw_aload0 (pc := 69) F dX9_write_69 ?_
        refine aw_getR (pc := 70) F dX9_write_70 fl_9_7 rfl (by first | decide | (simp only [inB, cnt, rcnt]; omega)) rfl nz0 rfl ?_
        refine aw_bipush (pc := 73) F dX9_write_73 (by decide) ?_
        refine aw_iload1 (pc := 75) F dX9_write_75 ?_
        refine aw_iadd (pc := 76) F dX9_write_76 ?_
        refine aw_iald (pc := 77) F dX9_write_77 rfl (by first | decide | (simp only [inB, cnt, rcnt]; omega)) (by omega) ?_
        rw [s5]
        refine aw_callVV1 (pc := 78) F dX9_write_78 ml_9_390 rfl (by first | decide | (simp only [inB, cnt, rcnt]; omega)) (ct9_saysSmall _ _ _ _ (by omega) e2 (by omega)) (Nat.le_of_ble_eq_true rfl) (by omega) (Nat.zero_le _) (fun σ9 h9_78 => ?_)
        obtain ⟨M6, rfl, f1, f2, f3⟩ := h9_78
        refine aw_iinc1 (pc := 81) F dX9_write_81 rfl hk.symm ?_
        refine aw_goto (tgt := 12) (pc := 84) F dX9_write_84 (by decide) ?_
        exact ih (n + 1) M6 (by omega) ((((b1.tr c1).tr d1).tr e1).tr f1) (by unfold evW; rw [← b3, ← j7]; exact f2) (by unfold evW; rw [← b3, ← j7]; omega)
      refine aw_iload1 (pc := 12) F dX9_write_12 ?_
      refine aw_aload0 (pc := 13) F dX9_write_13 ?_
      refine aw_getR (pc := 14) F dX9_write_14 fl_9_7 rfl (by first | decide | (simp only [inB, cnt, rcnt]; omega)) rfl nz0 rfl ?_
      refine aw_iconst (pc := 17) F dX9_write_17 ?_
      refine aw_iald (pc := 18) F dX9_write_18 rfl (by first | decide | (simp only [inB, cnt, rcnt]; omega)) (by omega) ?_
      rw [s1]
      refine aw_icmp_ge (tgt := 87) (pc := 19) F dX9_write_19 (by decide) (by unfold inR; omega) (by unfold inR; omega) (fun c19 => ?_) (fun c19 => ?_)
      · omega
      · refine aw_iload1 (pc := 22) F dX9_write_22 ?_
        refine aw_if_le (tgt := 32) (pc := 23) F dX9_write_23 (by decide) (by unfold inR; omega) (fun c23 => ?_) (fun c23 => ?_)
        · first
          | exact mid M2 _ (a1.tr c1) c2 (by rw [if_neg (by omega)]) (by omega)
          | exact mid M' _ a1 a2 (by rw [if_pos (by omega)]) (by omega)
        · refine aw_aload0 (pc := 26) F dX9_write_26 ?_
          refine aw_bipush (pc := 27) F dX9_write_27 (by decide) ?_
          refine aw_callVV1 (pc := 29) F dX9_write_29 ml_9_387 rfl (by first | decide | (simp only [inB, cnt, rcnt]; omega)) (ct9_says _ _ _ _ a2 (by omega)) (Nat.le_of_ble_eq_true rfl) (by decide) (Nat.zero_le _) (fun σ9 h9_29 => ?_)
          obtain ⟨M2, rfl, c1, c2, c3⟩ := h9_29
          first
          | exact mid M2 _ (a1.tr c1) c2 (by rw [if_neg (by omega)]) (by omega)
          | exact mid M' _ a1 a2 (by rw [if_pos (by omega)]) (by omega)
  refine aw_aload0 (pc := 0) F dX9_write_0 ?_
  refine aw_iconst (pc := 1) F dX9_write_1 ?_
  refine aw_putI (pc := 2) F dX9_write_2 fl_9_54 fpi_9_4 rfl (by first | decide | (simp only [inB, cnt, rcnt]; omega)) rfl nz4 ?_
  refine aw_aload0 (pc := 5) F dX9_write_5 ?_
  refine aw_iconst (pc := 6) F dX9_write_6 ?_
  refine aw_putI (pc := 7) F dX9_write_7 fl_9_384 fpi_9_33 rfl (by first | decide | (simp only [inB, cnt, rcnt]; omega)) rfl nz33 ?_
  refine aw_iconst (pc := 10) F dX9_write_10 ?_
  refine aw_istore1 (pc := 11) F dX9_write_11 rfl hk.symm ?_
  rw [← hQ]
  exact loop1 (S 1).toNat 0 _ (by omega) (o9_of same9_thr only9.rf).up (pg9_clear (pg9_of same9_thr hp)) (Int.le_refl 0)
