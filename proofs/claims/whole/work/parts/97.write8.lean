/-! 97: write and writeCycle of the class -/
theorem pWd_app (p : Pg) (W : Int → Int) (a : Nat) : ∀ b : Nat, pWd (pWd p W a) (fun k => W (a + k)) b = pWd p W (a + b)
  | 0 => rfl
  | b + 1 => by
    show pPut (pWd (pWd p W a) (fun k => W (a + k)) b) (W (a + b)) = pPut (pWd p W (a + b)) (W ((a + b : Nat) : Int))
    rw [pWd_app p W a b, Int.natCast_add]
/-- the events of the timetable, then what is broken -/
def evW (W : Int → Int → Int) (l S : Int → Int) (p : Pg) : Nat → Pg
  | 0 => p
  | n + 1 => pNum (pPut (pWd (if n = 0 then evW W l S p n else pPut (evW W l S p n) 32) (W n) (l n).toNat) 61) (S (14 + n))
def brW (S : Int → Int) (p : Pg) : Nat → Pg
  | 0 => p
  | n + 1 => if kept S n then brW S p n else pNum (pPut (pPut (brW S p n) 32) 33) n
def wrP (W : Int → Int → Int) (l S : Int → Int) (p : Pg) : Pg := brW S (evW W l S (p.1, 0) (S 1).toNat) (S 20).toNat
theorem only4.n {M M' : Id4 → Int → Int} {c : Int} {S : Int → Int} (h : only4 M M') (hN : NmR M 0 c S) : NmR M' 0 c S := ⟨by rw [h _ (by decide)]; exact hN.1, fun e e0 e1 => by rw [h (3, 0, 11, e) (by simp), h (3, 0, 2, 0) (by decide)]; exact hN.2 e e0 e1⟩
theorem only4.pl {M M' : Id4 → Int → Int} {S : Int → Int} (h : only4 M M') (hR : plR M 0 S) : plR M' 0 S := pl_eq (fun c => h _ (by simp)) hR
theorem only4.up {M : Id4 → Int → Int} {c : Nat} {k v : Int} : only4 M (updM M (4, 0, c, 0) k v) := fun q hq => upd_off (fun z => hq (by rw [z]))
theorem pg_clear {M : Id4 → Int → Int} {p : Pg} (hp : PgR M p) : PgR (updM M (4, 0, 0, 0) 1 0) (p.1, 0) := ⟨(upd_off (by decide)).trans hp.1, upd_same, Int.le_refl 0, by show (0 : Int) ≤ 160; decide⟩
theorem ct8_write (M : Id4 → Int → Int) (b : Bool) (S : Int → Int) (p : Pg) (hR : plR M 0 S) (h : Ok S) (hN : NmR M 0 (S 1) S) (hp : PgR M p) : CtI 5 0 yX8_write cX8_write 2 (some .int) [aR (8, 0, 0, 0)] (M, R0 b) (fun v σ' => v = (wrP (fun e => M (3, 0, 11, e)) (M (3, 0, 2, 0)) S p).2 ∧ ∃ M', σ' = (M', R0 b) ∧ only4 M M' ∧ PgR M' (wrP (fun e => M (3, 0, 11, e)) (M (3, 0, 2, 0)) S p)) := by
  refine CtI.mk (by decide +kernel) rfl (Nat.le_of_ble_eq_true rfl) (fun X K F hk => ?_)
  have hT := h.1
  have hE := h.2.1
  have hSp := h.2.2.1
  obtain ⟨W, hW⟩ : ∃ W : Int → Int → Int, W = fun e => M (3, 0, 11, e) := ⟨_, rfl⟩
  obtain ⟨l, hl⟩ : ∃ l : Int → Int, l = M (3, 0, 2, 0) := ⟨_, rfl⟩
  rw [← hW, ← hl]
  obtain ⟨Q9, hQ⟩ : ∃ Q9, Q9 = EI X K 0 (fun v σ' => v = (wrP W l S p).2 ∧ ∃ M', σ' = (M', R0 b) ∧ only4 M M' ∧ PgR M' (wrP W l S p)) := ⟨_, rfl⟩
  have loop2 : ∀ (f n : Nat) (M' : Id4 → Int → Int), n + f = (S 20).toNat → only4 M M' → PgR M' (brW S (evW W l S (p.1, 0) (S 1).toNat) n) → AW X K 78 [aR (8, 0, 0, 0), aI n] [] (M', R0 b) 0 Q9 := by
    intro f
    induction f with
    | zero =>
      intro n M' hn a1 a2
      have r2 := (a1.pl hR).1.2.2
      obtain rfl : n = (S 20).toNat := by omega
      refine aw_iload1 (pc := 78) F dX8_write_78 ?_
      refine aw_aload0 (pc := 79) F dX8_write_79 ?_
      refine aw_getR (pc := 80) F dX8_write_80 fl_8_34 rfl (by first | decide | (simp only [inB, cnt, rcnt]; omega)) rfl nz4 rfl ?_
      refine aw_getI (pc := 83) F dX8_write_83 fl_8_100 rfl (by first | decide | (simp only [inB, cnt, rcnt]; omega)) rfl nz2 ?_
      refine aw_icmp_ge (tgt := 132) (pc := 86) F dX8_write_86 (by decide) (by unfold inR; omega) (by unfold inR; omega) (fun c86 => ?_) (fun c86 => ?_)
      · refine aw_aload0 (pc := 132) F dX8_write_132 ?_
        refine aw_getR (pc := 133) F dX8_write_133 fl_8_72 rfl (by first | decide | (simp only [inB, cnt, rcnt]; omega)) rfl nz10 rfl ?_
        refine aw_getI (pc := 136) F dX8_write_136 fl_8_310 rfl (by first | decide | (simp only [inB, cnt, rcnt]; omega)) rfl nz1 ?_
        rw [hQ]
        exact aw_iret (pc := 139) F dX8_write_139 rfl (Nat.zero_le _) ⟨a2.2.1, M', rfl, a1, a2⟩
      · omega
    | succ f ih =>
      intro n M' hn a1 a2
      have r2 := (a1.pl hR).1.2.2
      refine aw_iload1 (pc := 78) F dX8_write_78 ?_
      refine aw_aload0 (pc := 79) F dX8_write_79 ?_
      refine aw_getR (pc := 80) F dX8_write_80 fl_8_34 rfl (by first | decide | (simp only [inB, cnt, rcnt]; omega)) rfl nz4 rfl ?_
      refine aw_getI (pc := 83) F dX8_write_83 fl_8_100 rfl (by first | decide | (simp only [inB, cnt, rcnt]; omega)) rfl nz2 ?_
      refine aw_icmp_ge (tgt := 132) (pc := 86) F dX8_write_86 (by decide) (by unfold inR; omega) (by unfold inR; omega) (fun c86 => ?_) (fun c86 => ?_)
      · omega
      · refine aw_aload0 (pc := 89) F dX8_write_89 ?_
        refine aw_getR (pc := 90) F dX8_write_90 fl_8_34 rfl (by first | decide | (simp only [inB, cnt, rcnt]; omega)) rfl nz4 rfl ?_
        refine aw_iload1 (pc := 93) F dX8_write_93 ?_
        refine aw_pcallV1 (pc := 94) F dX8_write_94 ml_8_155 rfl (by first | decide | (simp only [inB, cnt, rcnt]; omega)) (ct5_keeps _ _ S _ _ (by decide) (a1.pl hR) h (by omega)) (Nat.le_of_ble_eq_true rfl) (by decide) (Nat.zero_le _) ?_
        refine aw_ifb_ne (tgt := 126) (pc := 97) F dX8_write_97 (by decide) (fun c97 => ?_) (fun c97 => ?_)
        · refine aw_iinc1 (pc := 126) F dX8_write_126 rfl hk.symm ?_
          refine aw_goto (tgt := 78) (pc := 129) F dX8_write_129 (by decide) ?_
          first
          | exact ih (n + 1) M4 (by omega) (((a1.tr c1).tr d1).tr e1) (by unfold brW; rw [if_neg (by assumption)]; exact e2)
          | exact ih (n + 1) M' (by omega) a1 (by unfold brW; rw [if_pos (by assumption)]; exact a2)
        · refine aw_aload0 (pc := 100) F dX8_write_100 ?_
          refine aw_getR (pc := 101) F dX8_write_101 fl_8_72 rfl (by first | decide | (simp only [inB, cnt, rcnt]; omega)) rfl nz10 rfl ?_
          refine aw_bipush (pc := 104) F dX8_write_104 (by decide) ?_
          refine aw_callVV1 (pc := 106) F dX8_write_106 ml_8_299 rfl (by first | decide | (simp only [inB, cnt, rcnt]; omega)) (ct4_putP _ _ _ _ (by decide) a2) (Nat.le_of_ble_eq_true rfl) (by decide) (Nat.zero_le _) (fun σ9 h9_106 => ?_)
          obtain ⟨M2, rfl, c1, c2⟩ := h9_106
          refine aw_aload0 (pc := 109) F dX8_write_109 ?_
          refine aw_getR (pc := 110) F dX8_write_110 fl_8_72 rfl (by first | decide | (simp only [inB, cnt, rcnt]; omega)) rfl nz10 rfl ?_
          refine aw_bipush (pc := 113) F dX8_write_113 (by decide) ?_
          refine aw_callVV1 (pc := 115) F dX8_write_115 ml_8_299 rfl (by first | decide | (simp only [inB, cnt, rcnt]; omega)) (ct4_putP _ _ _ _ (by decide) c2) (Nat.le_of_ble_eq_true rfl) (by decide) (Nat.zero_le _) (fun σ9 h9_115 => ?_)
          obtain ⟨M3, rfl, d1, d2⟩ := h9_115
          refine aw_aload0 (pc := 118) F dX8_write_118 ?_
          refine aw_getR (pc := 119) F dX8_write_119 fl_8_72 rfl (by first | decide | (simp only [inB, cnt, rcnt]; omega)) rfl nz10 rfl ?_
          refine aw_iload1 (pc := 122) F dX8_write_122 ?_
          refine aw_callVV1 (pc := 123) F dX8_write_123 ml_8_307 rfl (by first | decide | (simp only [inB, cnt, rcnt]; omega)) (ct4_putNumber _ _ _ _ (by omega) d2) (Nat.le_of_ble_eq_true rfl) (by decide) (Nat.zero_le _) (fun σ9 h9_123 => ?_)
          obtain ⟨M4, rfl, e1, e2⟩ := h9_123
          refine aw_iinc1 (pc := 126) F dX8_write_126 rfl hk.symm ?_
          refine aw_goto (tgt := 78) (pc := 129) F dX8_write_129 (by decide) ?_
          first
          | exact ih (n + 1) M4 (by omega) (((a1.tr c1).tr d1).tr e1) (by unfold brW; rw [if_neg (by assumption)]; exact e2)
          | exact ih (n + 1) M' (by omega) a1 (by unfold brW; rw [if_pos (by assumption)]; exact a2)
  have loop1 : ∀ (f n : Nat) (M' : Id4 → Int → Int), n + f = (S 1).toNat → only4 M M' → PgR M' (evW W l S (p.1, 0) n) → AW X K 9 [aR (8, 0, 0, 0), aI n] [] (M', R0 b) 0 Q9 := by
    intro f
    induction f with
    | zero =>
      intro n M' hn a1 a2
      have r1 := (a1.pl hR).1.2.1
      obtain rfl : n = (S 1).toNat := by omega
      refine aw_iload1 (pc := 9) F dX8_write_9 ?_
      refine aw_aload0 (pc := 10) F dX8_write_10 ?_
      refine aw_getR (pc := 11) F dX8_write_11 fl_8_34 rfl (by first | decide | (simp only [inB, cnt, rcnt]; omega)) rfl nz4 rfl ?_
      refine aw_getI (pc := 14) F dX8_write_14 fl_8_112 rfl (by first | decide | (simp only [inB, cnt, rcnt]; omega)) rfl nz1 ?_
      refine aw_icmp_ge (tgt := 76) (pc := 17) F dX8_write_17 (by decide) (by unfold inR; omega) (by unfold inR; omega) (fun c17 => ?_) (fun c17 => ?_)
      · refine aw_iconst (pc := 76) F dX8_write_76 ?_
        refine aw_istore1 (pc := 77) F dX8_write_77 rfl hk.symm ?_
        exact loop2 (S 20).toNat 0 M' (by omega) a1 a2
      · omega
    | succ f ih =>
      intro n M' hn a1 a2
      have r1 := (a1.pl hR).1.2.1
      have mid : ∀ (M2 : Id4 → Int → Int) (p' : Pg), only4 M M2 → PgR M2 p' → p' = (if n = 0 then evW W l S (p.1, 0) n else pPut (evW W l S (p.1, 0) n) 32) → AW X K 33 [aR (8, 0, 0, 0), aI n] [] (M2, R0 b) 0 Q9 := by
        intro M2 p' b1 b2 b3
        have w1 : M2 (3, 0, 11, n) = W n := by rw [b1 _ (by simp), hW]
        have w2 : M2 (3, 0, 2, 0) = l := by rw [b1 _ (by decide), hl]
        refine aw_aload0 (pc := 33) F dX8_write_33 ?_
        refine aw_getR (pc := 34) F dX8_write_34 fl_8_27 rfl (by first | decide | (simp only [inB, cnt, rcnt]; omega)) rfl nz3 rfl ?_
        refine aw_aload0 (pc := 37) F dX8_write_37 ?_
        refine aw_getR (pc := 38) F dX8_write_38 fl_8_72 rfl (by first | decide | (simp only [inB, cnt, rcnt]; omega)) rfl nz10 rfl ?_
        refine aw_iload1 (pc := 41) F dX8_write_41 ?_
        refine aw_callVV2 (pc := 42) F dX8_write_42 ml_8_303 rfl (by first | decide | (simp only [inB, cnt, rcnt]; omega)) (ct3_putOn _ _ (S 1) _ S p' (b1.n hN) (by omega) (by omega) b2) (Nat.le_of_ble_eq_true rfl) (by decide) (Nat.zero_le _) (fun σ9 h9_42 => ?_)
        obtain ⟨M3, rfl, c1, c2⟩ := h9_42
        refine aw_aload0 (pc := 45) F dX8_write_45 ?_
        refine aw_getR (pc := 46) F dX8_write_46 fl_8_72 rfl (by first | decide | (simp only [inB, cnt, rcnt]; omega)) rfl nz10 rfl ?_
        refine aw_bipush (pc := 49) F dX8_write_49 (by decide) ?_
        refine aw_callVV1 (pc := 51) F dX8_write_51 ml_8_299 rfl (by first | decide | (simp only [inB, cnt, rcnt]; omega)) (ct4_putP _ _ _ _ (by decide) c2) (Nat.le_of_ble_eq_true rfl) (by decide) (Nat.zero_le _) (fun σ9 h9_51 => ?_)
        obtain ⟨M4, rfl, d1, d2⟩ := h9_51
        have q3 := (((b1.tr c1).tr d1).pl hR).2.1 n (by omega) (by omega)
        have q4 := h.2.2.2.1 n (by omega) (by omega)
        refine aw_aload0 (pc := 54) F dX8_write_54 ?_
        refine aw_getR (pc := 55) F dX8_write_55 fl_8_72 rfl (by first | decide | (simp only [inB, cnt, rcnt]; omega)) rfl nz10 rfl ?_
        refine aw_aload0 (pc := 58) F dX8_write_58 ?_
        refine aw_getR (pc := 59) F dX8_write_59 fl_8_34 rfl (by first | decide | (simp only [inB, cnt, rcnt]; omega)) rfl nz4 rfl ?_
        refine aw_getR (pc := 62) F dX8_write_62 fl_8_122 rfl (by first | decide | (simp only [inB, cnt, rcnt]; omega)) rfl nz3 rfl ?_
        refine aw_iload1 (pc := 65) F dX8_write_65 ?_
        refine aw_iald (pc := 66) F dX8_write_66 rfl (by first | decide | (simp only [inB, cnt, rcnt]; omega)) (by omega) ?_
        rw [q3]
        refine aw_callVV1 (pc := 67) F dX8_write_67 ml_8_307 rfl (by first | decide | (simp only [inB, cnt, rcnt]; omega)) (ct4_putNumber _ _ _ _ (by omega) d2) (Nat.le_of_ble_eq_true rfl) (by decide) (Nat.zero_le _) (fun σ9 h9_67 => ?_)
        obtain ⟨M5, rfl, e1, e2⟩ := h9_67
        refine aw_iinc1 (pc := 70) F dX8_write_70 rfl hk.symm ?_
        refine aw_goto (tgt := 9) (pc := 73) F dX8_write_73 (by decide) ?_
        exact ih (n + 1) M5 (by omega) (((b1.tr c1).tr d1).tr e1) (by unfold evW; rw [← b3, ← w1, ← w2]; exact e2)
      refine aw_iload1 (pc := 9) F dX8_write_9 ?_
      refine aw_aload0 (pc := 10) F dX8_write_10 ?_
      refine aw_getR (pc := 11) F dX8_write_11 fl_8_34 rfl (by first | decide | (simp only [inB, cnt, rcnt]; omega)) rfl nz4 rfl ?_
      refine aw_getI (pc := 14) F dX8_write_14 fl_8_112 rfl (by first | decide | (simp only [inB, cnt, rcnt]; omega)) rfl nz1 ?_
      refine aw_icmp_ge (tgt := 76) (pc := 17) F dX8_write_17 (by decide) (by unfold inR; omega) (by unfold inR; omega) (fun c17 => ?_) (fun c17 => ?_)
      · omega
      · refine aw_iload1 (pc := 20) F dX8_write_20 ?_
        refine aw_if_le (tgt := 33) (pc := 21) F dX8_write_21 (by decide) (by unfold inR; omega) (fun c21 => ?_) (fun c21 => ?_)
        · first
          | exact mid M2 _ (a1.tr c1) c2 (by rw [if_neg (by omega)])
          | exact mid M' _ a1 a2 (by rw [if_pos (by omega)])
        · refine aw_aload0 (pc := 24) F dX8_write_24 ?_
          refine aw_getR (pc := 25) F dX8_write_25 fl_8_72 rfl (by first | decide | (simp only [inB, cnt, rcnt]; omega)) rfl nz10 rfl ?_
          refine aw_bipush (pc := 28) F dX8_write_28 (by decide) ?_
          refine aw_callVV1 (pc := 30) F dX8_write_30 ml_8_299 rfl (by first | decide | (simp only [inB, cnt, rcnt]; omega)) (ct4_putP _ _ _ _ (by decide) a2) (Nat.le_of_ble_eq_true rfl) (by decide) (Nat.zero_le _) (fun σ9 h9_30 => ?_)
          obtain ⟨M2, rfl, c1, c2⟩ := h9_30
          first
          | exact mid M2 _ (a1.tr c1) c2 (by rw [if_neg (by omega)])
          | exact mid M' _ a1 a2 (by rw [if_pos (by omega)])
  refine aw_aload0 (pc := 0) F dX8_write_0 ?_
  refine aw_getR (pc := 1) F dX8_write_1 fl_8_72 rfl (by first | decide | (simp only [inB, cnt, rcnt]; omega)) rfl nz10 rfl ?_
  refine aw_callVV0 (pc := 4) F dX8_write_4 ml_8_298 rfl (by first | decide | (simp only [inB, cnt, rcnt]; omega)) (ct4_clear _ _) (Nat.le_of_ble_eq_true rfl) (by decide) (Nat.zero_le _) (fun σ9 h9_4 => ?_)
  obtain rfl := h9_4
  refine aw_iconst (pc := 7) F dX8_write_7 ?_
  refine aw_istore1 (pc := 8) F dX8_write_8 rfl hk.symm ?_
  rw [← hQ]
  exact loop1 (S 1).toNat 0 _ (by omega) only4.up (pg_clear hp)
