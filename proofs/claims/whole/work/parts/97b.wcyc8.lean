/-! 97b: writeCycle and written of the class -/
noncomputable def cyW (S : Int → Int) (c : Int) (p : Pg) : Nat → Pg
  | 0 => p
  | n + 1 => pNum (pPut (cyW S c p n) (if cyB S c n = 0 then 45 else 43)) (cyK S c n)
noncomputable def wcP (S : Int → Int) (c : Int) (p : Pg) : Pg := pNum (pPut (cyW S c (p.1, 0) (cyL S c)) 61) (nowS S c)
theorem nowS_bd {S : Int → Int} (h : Ok S) {c : Int} (h0 : 0 ≤ c) (h1 : c < cyM S) : -999 ≤ nowS S c ∧ nowS S c ≤ 999 := by
  have hT := h.1
  have hE := h.2.1
  have lb := cyL_bd h h0 h1
  have tb := tnN_bd h h0 h1 _ (Nat.le_refl _)
  have dv : ∀ x : Int, -999 ≤ x → x ≤ 999 → -999 ≤ x / S 0 ∧ x / S 0 ≤ 999 := fun x x0 x1 => by
    have p1 := Int.mul_ediv_add_emod x (S 0)
    have p2 := Int.emod_nonneg x (show S 0 ≠ 0 by omega)
    have p3 := Int.emod_lt_of_pos x (show 0 < S 0 by omega)
    exact ⟨(Int.le_ediv_iff_mul_le (show 0 < S 0 by omega)).mpr (by
      have : -999 * S 0 ≤ -999 := by omega
      omega), Int.le_of_lt_add_one ((Int.ediv_lt_iff_lt_mul (show 0 < S 0 by omega)).mpr (by omega))⟩
  exact dv _ (by omega) (by omega)
def o8 (M M' : Id4 → Int → Int) : Prop := ∀ q, ¬ (scr8 q ∨ q.1 = 4) → M' q = M q
theorem only4.c {M M' : Id4 → Int → Int} {S : Int → Int} {c : Int} (h : only4 M M') (hc : cyR S M c) : cyR S M' c := ⟨by rw [h _ (by decide)]; exact hc.1, fun i hi => by rw [h (0, 0, 13, c) (by simp), h (0, 0, 14, c) (by simp)]; exact hc.2 i hi⟩
theorem same0.pg {M M' : Id4 → Int → Int} {p : Pg} (h : same0 M M') (hp : PgR M p) : PgR M' p := ⟨by rw [h _ (by decide)]; exact hp.1, by rw [h _ (by decide)]; exact hp.2.1, hp.2.2⟩
theorem o8_of {M M1 M2 : Id4 → Int → Int} (h1 : same0 M M1) (h2 : only4 M1 M2) : o8 M M2 := fun q z => (h2 q (fun y => z (Or.inr y))).trans (h1 q (fun y => z (Or.inl (Or.inl y))))
theorem cx8_writeCycle (M : Id4 → Int → Int) (b : Bool) (S : Int → Int) (c : Int) (p : Pg) (h9 : inR c) (hR : plR M 0 S) (h : Ok S) (hp : PgR M p) : CxI 13 1 yX8_writeCycle cX8_writeCycle 3 (some .int) [aR (8, 0, 0, 0), aI c] (M, R0 b) (fun v σ' => v = (wcP S c p).2 ∧ cyc S c ∧ ∃ M', σ' = (M', R0 b) ∧ o8 M M' ∧ PgR M' (wcP S c p)) (fun E σ' => E = eIO ∧ ¬ cyc S c ∧ ∃ M', σ' = (M', R0 b) ∧ same8 M M') := by
  refine CxI.mk (by decide +kernel) rfl (Nat.le_of_ble_eq_true rfl) (fun X K F hk => ?_)
  have hN := h.2.2.1
  have hE := h.2.1
  have cb : 0 ≤ cyM S ∧ cyM S ≤ ((S 20).toNat : Int) := cyN_bd (S := S) (S 20).toNat
  obtain ⟨Q9, hQ⟩ : ∃ Q9, Q9 = XI X K 1 (fun v σ' => v = (wcP S c p).2 ∧ cyc S c ∧ ∃ M', σ' = (M', R0 b) ∧ o8 M M' ∧ PgR M' (wcP S c p)) (fun E σ' => E = eIO ∧ ¬ cyc S c ∧ ∃ M', σ' = (M', R0 b) ∧ same8 M M') := ⟨_, rfl⟩
  have key : ∀ (M1 : Id4 → Int → Int), same0 M M1 → clR S M1 → cyc S c → ∀ (f n : Nat) (M' : Id4 → Int → Int), n + f = cyL S c → only4 M1 M' → PgR M' (cyW S c (p.1, 0) n) → AW X K 14 [aR (8, 0, 0, 0), aI c, aI n] [] (M', R0 b) (0 + 1) Q9 := by
    intro M1 g1 g2 hc f
    have hc2 : c < cyM S := by have := hc.2; omega
    have cR := g2.2 c hc.1 hc2
    have lb := cyL_bd h hc.1 hc2
    have hc0 := hc.1
    induction f with
    | zero =>
      intro n M' hn a1 a2
      obtain rfl : n = cyL S c := by omega
      have cR' := a1.c cR
      have w1 := cR'.1
      have nb := nowS_bd h hc.1 hc2
      have hR' := a1.pl (g1.pl hR)
      refine aw_iload2 (pc := 14) F dX8_writeCycle_14 ?_
      refine aw_aload0 (pc := 15) F dX8_writeCycle_15 ?_
      refine aw_getR (pc := 16) F dX8_writeCycle_16 fl_8_58 rfl (by first | decide | (simp only [inB, cnt, rcnt]; omega)) rfl nz8 rfl ?_
      refine aw_getR (pc := 19) F dX8_writeCycle_19 fl_8_217 rfl (by first | decide | (simp only [inB, cnt, rcnt]; omega)) rfl nz1 rfl ?_
      refine aw_iload1 (pc := 22) F dX8_writeCycle_22 ?_
      refine aw_iald (pc := 23) F dX8_writeCycle_23 rfl (by first | decide | (simp only [inB, cnt, rcnt]; omega)) (by omega) ?_
      refine aw_icmp_ge (tgt := 79) (pc := 24) F dX8_writeCycle_24 (by decide) (by unfold inR; omega) (by unfold inR; omega) (fun c24 => ?_) (fun c24 => ?_)
      · refine aw_aload0 (pc := 79) F dX8_writeCycle_79 ?_
        refine aw_getR (pc := 80) F dX8_writeCycle_80 fl_8_72 rfl (by first | decide | (simp only [inB, cnt, rcnt]; omega)) rfl nz10 rfl ?_
        refine aw_bipush (pc := 83) F dX8_writeCycle_83 (by decide) ?_
        refine aw_callVV1 (pc := 85) F dX8_writeCycle_85 ml_8_299 rfl (by first | decide | (simp only [inB, cnt, rcnt]; omega)) (ct4_putP _ _ _ _ (by decide) a2) (Nat.le_of_ble_eq_true rfl) (by decide) (by decide) (fun σ9 h9_85 => ?_)
        obtain ⟨M2, rfl, c1, c2⟩ := h9_85
        refine aw_aload0 (pc := 88) F dX8_writeCycle_88 ?_
        refine aw_getR (pc := 89) F dX8_writeCycle_89 fl_8_72 rfl (by first | decide | (simp only [inB, cnt, rcnt]; omega)) rfl nz10 rfl ?_
        refine aw_aload0 (pc := 92) F dX8_writeCycle_92 ?_
        refine aw_getR (pc := 93) F dX8_writeCycle_93 fl_8_58 rfl (by first | decide | (simp only [inB, cnt, rcnt]; omega)) rfl nz8 rfl ?_
        refine aw_aload0 (pc := 96) F dX8_writeCycle_96 ?_
        refine aw_getR (pc := 97) F dX8_writeCycle_97 fl_8_34 rfl (by first | decide | (simp only [inB, cnt, rcnt]; omega)) rfl nz4 rfl ?_
        refine aw_iload1 (pc := 100) F dX8_writeCycle_100 ?_
        refine aw_pcallV2 (pc := 101) F dX8_writeCycle_101 ml_8_231 rfl (by first | decide | (simp only [inB, cnt, rcnt]; omega)) (ct0_turnsNow _ _ S _ (c1.pl hR') h hc.1 hc2 (c1.c cR')) (Nat.le_of_ble_eq_true rfl) (by decide) (by decide) ?_
        refine aw_callVV1 (pc := 104) F dX8_writeCycle_104 ml_8_307 rfl (by first | decide | (simp only [inB, cnt, rcnt]; omega)) (ct4_putWide _ _ _ _ nb c2) (Nat.le_of_ble_eq_true rfl) (by decide) (by decide) (fun σ9 h9_104 => ?_)
        obtain ⟨M3, rfl, d1, d2⟩ := h9_104
        refine aw_aload0 (pc := 107) F dX8_writeCycle_107 ?_
        refine aw_getR (pc := 108) F dX8_writeCycle_108 fl_8_72 rfl (by first | decide | (simp only [inB, cnt, rcnt]; omega)) rfl nz10 rfl ?_
        refine aw_getI (pc := 111) F dX8_writeCycle_111 fl_8_310 rfl (by first | decide | (simp only [inB, cnt, rcnt]; omega)) rfl nz1 ?_
        rw [hQ]
        exact aw_xiret (pc := 114) F dX8_writeCycle_114 rfl (by decide) ⟨d2.2.1, hc, M3, rfl, o8_of g1 ((a1.tr c1).tr d1), d2⟩
      · omega
    | succ f ih =>
      intro n M' hn a1 a2
      have cR' := a1.c cR
      have w1 := cR'.1
      have w2 := (cR'.2 n (by omega)).2
      have kin := cyK_in h hc.1 hc2 n (by omega)
      have gi : inR (cyG S c n) := by unfold cyG inR; split <;> decide
      have gy : cyG S c n ≤ 0 ↔ cyB S c n = 0 := by
        unfold cyG
        split
        · exact ⟨fun _ => by assumption, fun _ => by decide⟩
        · exact ⟨fun z => absurd z (by decide), fun z => absurd z (by assumption)⟩
      have mid : ∀ x : Int, x = (if cyB S c n = 0 then 45 else 43) → AW X K 52 [aR (8, 0, 0, 0), aI c, aI n] [aI x, aR (4, 0, 0, 0)] (M', R0 b) (0 + 1) Q9 := by
        intro x hx
        have xb : 0 ≤ x ∧ x < 65536 := by rw [hx]; split <;> decide
        refine aw_callVV1 (pc := 52) F dX8_writeCycle_52 ml_8_299 rfl (by first | decide | (simp only [inB, cnt, rcnt]; omega)) (ct4_putP _ _ _ _ xb a2) (Nat.le_of_ble_eq_true rfl) (by decide) (by decide) (fun σ9 h9_52 => ?_)
        obtain ⟨M2, rfl, c1, c2⟩ := h9_52
        have w3 := ((c1.c cR').2 n (by omega)).1
        refine aw_aload0 (pc := 55) F dX8_writeCycle_55 ?_
        refine aw_getR (pc := 56) F dX8_writeCycle_56 fl_8_72 rfl (by first | decide | (simp only [inB, cnt, rcnt]; omega)) rfl nz10 rfl ?_
        refine aw_aload0 (pc := 59) F dX8_writeCycle_59 ?_
        refine aw_getR (pc := 60) F dX8_writeCycle_60 fl_8_58 rfl (by first | decide | (simp only [inB, cnt, rcnt]; omega)) rfl nz8 rfl ?_
        refine aw_getR (pc := 63) F dX8_writeCycle_63 fl_8_224 rfl (by first | decide | (simp only [inB, cnt, rcnt]; omega)) rfl nz2 rfl ?_
        refine aw_iload1 (pc := 66) F dX8_writeCycle_66 ?_
        refine aw_aald (pc := 67) F dX8_writeCycle_67 rfl (by decide) (by first | decide | (simp only [inB, cnt, rcnt]; omega)) (by omega) rfl ?_
        refine aw_iload2 (pc := 68) F dX8_writeCycle_68 ?_
        refine aw_iald (pc := 69) F dX8_writeCycle_69 rfl (by first | decide | (simp only [inB, cnt, rcnt]; omega)) (by omega) ?_
        rw [w3]
        refine aw_callVV1 (pc := 70) F dX8_writeCycle_70 ml_8_307 rfl (by first | decide | (simp only [inB, cnt, rcnt]; omega)) (ct4_putNumber _ _ _ _ (by omega) c2) (Nat.le_of_ble_eq_true rfl) (by decide) (by decide) (fun σ9 h9_70 => ?_)
        obtain ⟨M3, rfl, d1, d2⟩ := h9_70
        refine aw_iinc2 (pc := 73) F dX8_writeCycle_73 rfl hk.symm ?_
        refine aw_goto (tgt := 14) (pc := 76) F dX8_writeCycle_76 (by decide) ?_
        exact ih (n + 1) M3 (by omega) ((a1.tr c1).tr d1) (by unfold cyW; rw [← hx]; exact d2)
      refine aw_iload2 (pc := 14) F dX8_writeCycle_14 ?_
      refine aw_aload0 (pc := 15) F dX8_writeCycle_15 ?_
      refine aw_getR (pc := 16) F dX8_writeCycle_16 fl_8_58 rfl (by first | decide | (simp only [inB, cnt, rcnt]; omega)) rfl nz8 rfl ?_
      refine aw_getR (pc := 19) F dX8_writeCycle_19 fl_8_217 rfl (by first | decide | (simp only [inB, cnt, rcnt]; omega)) rfl nz1 rfl ?_
      refine aw_iload1 (pc := 22) F dX8_writeCycle_22 ?_
      refine aw_iald (pc := 23) F dX8_writeCycle_23 rfl (by first | decide | (simp only [inB, cnt, rcnt]; omega)) (by omega) ?_
      refine aw_icmp_ge (tgt := 79) (pc := 24) F dX8_writeCycle_24 (by decide) (by first | exact gi | (unfold inR; omega)) (by first | exact gi | (unfold inR; omega)) (fun c24 => ?_) (fun c24 => ?_)
      · omega
      · refine aw_aload0 (pc := 27) F dX8_writeCycle_27 ?_
        refine aw_getR (pc := 28) F dX8_writeCycle_28 fl_8_72 rfl (by first | decide | (simp only [inB, cnt, rcnt]; omega)) rfl nz10 rfl ?_
        refine aw_aload0 (pc := 31) F dX8_writeCycle_31 ?_
        refine aw_getR (pc := 32) F dX8_writeCycle_32 fl_8_58 rfl (by first | decide | (simp only [inB, cnt, rcnt]; omega)) rfl nz8 rfl ?_
        refine aw_getR (pc := 35) F dX8_writeCycle_35 fl_8_228 rfl (by first | decide | (simp only [inB, cnt, rcnt]; omega)) rfl nz3 rfl ?_
        refine aw_iload1 (pc := 38) F dX8_writeCycle_38 ?_
        refine aw_aald (pc := 39) F dX8_writeCycle_39 rfl (by decide) (by first | decide | (simp only [inB, cnt, rcnt]; omega)) (by omega) rfl ?_
        refine aw_iload2 (pc := 40) F dX8_writeCycle_40 ?_
        refine aw_iald (pc := 41) F dX8_writeCycle_41 rfl (by first | decide | (simp only [inB, cnt, rcnt]; omega)) (by omega) ?_
        rw [w2]
        refine aw_if_le (tgt := 50) (pc := 42) F dX8_writeCycle_42 (by decide) (by first | exact gi | (unfold inR; omega)) (fun c42 => ?_) (fun c42 => ?_)
        · refine aw_bipush (pc := 50) F dX8_writeCycle_50 (by decide) ?_
          first
          | exact mid _ (by rw [if_pos (gy.mp c42)])
          | exact mid _ (by rw [if_neg (fun z => by have := gy.mpr z; omega)])
        · refine aw_bipush (pc := 45) F dX8_writeCycle_45 (by decide) ?_
          refine aw_goto (tgt := 52) (pc := 47) F dX8_writeCycle_47 (by decide) ?_
          first
          | exact mid _ (by rw [if_pos (gy.mp c42)])
          | exact mid _ (by rw [if_neg (fun z => by have := gy.mpr z; omega)])
  refine aw_aload0 (pc := 0) F dX8_writeCycle_0 ?_
  refine aw_iload1 (pc := 1) F dX8_writeCycle_1 ?_
  refine aw_xcallVVI1 (pc := 2) F dX8_writeCycle_2 ml_8_214 rfl (by first | decide | (simp only [inB, cnt, rcnt]; omega)) (cx8_requireCycle _ _ S _ h9 hR h) (Nat.le_of_ble_eq_true rfl) (by decide) (by decide) (fun _ _ h => h) (fun σ9 h9_2 => ?_)
  obtain ⟨q1, M1, h9', c1, c2⟩ := h9_2
  subst h9'
  refine aw_aload0 (pc := 5) F dX8_writeCycle_5 ?_
  refine aw_getR (pc := 6) F dX8_writeCycle_6 fl_8_72 rfl (by first | decide | (simp only [inB, cnt, rcnt]; omega)) rfl nz10 rfl ?_
  refine aw_callVV0 (pc := 9) F dX8_writeCycle_9 ml_8_298 rfl (by first | decide | (simp only [inB, cnt, rcnt]; omega)) (ct4_clear _ _) (Nat.le_of_ble_eq_true rfl) (by decide) (by decide) (fun σ9 h9_9 => ?_)
  obtain rfl := h9_9
  refine aw_iconst (pc := 12) F dX8_writeCycle_12 ?_
  refine aw_istore2 (pc := 13) F dX8_writeCycle_13 rfl hk.symm ?_
  rw [← hQ]
  exact key M1 c1 c2 q1 (cyL S c) 0 _ (by omega) only4.up (pg_clear (c1.pg hp))
theorem cx8_written (M : Id4 → Int → Int) (b : Bool) (k : Int) (p : Pg) (h9 : inR k) (hp : PgR M p) (hc : 0 ≤ k → k < p.2 → 0 ≤ p.1 k ∧ p.1 k < 65536) : CxI 12 1 yX8_written cX8_written 2 (some .char) [aR (8, 0, 0, 0), aI k] (M, R0 b) (fun v σ' => v = p.1 k ∧ (0 ≤ k ∧ k < p.2) ∧ σ' = (M, R0 b)) (fun E σ' => E = eIO ∧ ¬ (0 ≤ k ∧ k < p.2) ∧ σ' = (M, R0 b)) := by
  refine CxI.mk (by decide +kernel) rfl (Nat.le_of_ble_eq_true rfl) (fun X K F hk => ?_)
  obtain ⟨p1, p2, p3, p4⟩ := hp
  refine aw_iload1 (pc := 0) F dX8_written_0 ?_
  refine aw_if_lt (tgt := 15) (pc := 1) F dX8_written_1 (by decide) (by first | exact h9 | (unfold inR; omega)) (fun c1 => ?_) (fun c1 => ?_)
  · exact aw_throwIW (pc := 15) F dX8_written_15 dX8_written_18 dX8_written_19 dX8_written_22 dX8_written_25 th_313_315_317 (by decide) (by decide) (Nat.le_of_ble_eq_true rfl) ⟨rfl, fun z => by omega, rfl⟩
  · refine aw_iload1 (pc := 4) F dX8_written_4 ?_
    refine aw_aload0 (pc := 5) F dX8_written_5 ?_
    refine aw_getR (pc := 6) F dX8_written_6 fl_8_72 rfl (by first | decide | (simp only [inB, cnt, rcnt]; omega)) rfl nz10 rfl ?_
    refine aw_getI (pc := 9) F dX8_written_9 fl_8_310 rfl (by first | decide | (simp only [inB, cnt, rcnt]; omega)) rfl nz1 ?_
    refine aw_icmp_lt (tgt := 26) (pc := 12) F dX8_written_12 (by decide) (by first | exact h9 | (unfold inR; omega)) (by first | exact h9 | (unfold inR; omega)) (fun c12 => ?_) (fun c12 => ?_)
    · refine aw_aload0 (pc := 26) F dX8_written_26 ?_
      refine aw_getR (pc := 27) F dX8_written_27 fl_8_72 rfl (by first | decide | (simp only [inB, cnt, rcnt]; omega)) rfl nz10 rfl ?_
      refine aw_getR (pc := 30) F dX8_written_30 fl_8_318 rfl (by first | decide | (simp only [inB, cnt, rcnt]; omega)) rfl nz0 rfl ?_
      refine aw_iload1 (pc := 33) F dX8_written_33 ?_
      refine aw_cald (pc := 34) F dX8_written_34 rfl (by first | decide | (simp only [inB, cnt, rcnt]; omega)) (by omega) ?_
      rw [p1]
      exact aw_xiret (pc := 35) F dX8_written_35 (congrArg Value.int (nar_ch (hc (by omega) (by omega)))) (by decide) ⟨rfl, ⟨by omega, by omega⟩, rfl⟩
    · exact aw_throwIW (pc := 15) F dX8_written_15 dX8_written_18 dX8_written_19 dX8_written_22 dX8_written_25 th_313_315_317 (by decide) (by decide) (Nat.le_of_ble_eq_true rfl) ⟨rfl, fun z => by omega, rfl⟩
