/-! 49: the questions of the cycles, of the reference -/
def durS (S : Int → Int) (k : Int) : Int := S (21 + 5 * k + 2) + slOf S k
noncomputable def tnN (S : Int → Int) (c : Int) : Nat → Int
  | 0 => 0
  | n + 1 => tnN S c n + (if cyB S c n = 0 then - durS S (cyK S c n) else durS S (cyK S c n))
noncomputable def soN (S : Int → Int) (c a b : Int) : Nat → Int
  | 0 => 0
  | n + 1 => soN S c a b n + (if cyB S c n = 0 then - S (21 + 5 * cyK S c n + b) else S (21 + 5 * cyK S c n + a))
noncomputable def nowS (S : Int → Int) (c : Int) : Int := tnN S c (cyL S c) / S 0
noncomputable def lstS (S : Int → Int) (c : Int) : Int := - ((- soN S c 2 3 (cyL S c)) / S 0)
noncomputable def mstS (S : Int → Int) (c : Int) : Int := soN S c 3 2 (cyL S c) / S 0
theorem durS_bd {S : Int → Int} (h : Ok S) {k : Int} (h0 : 0 ≤ k) (h1 : k < S 20) : 0 ≤ durS S k ∧ durS S k ≤ 94 := by
  have s := h.2.2.2.2 k h0 h1
  have b := slOf_bd h k
  unfold SpOk at s
  unfold durS
  omega
theorem tnN_bd {S : Int → Int} (h : Ok S) {c : Int} (h0 : 0 ≤ c) (h1 : c < cyM S) : ∀ n : Nat, n ≤ cyL S c → -94 * (n : Int) ≤ tnN S c n ∧ tnN S c n ≤ 94 * (n : Int)
  | 0, _ => by unfold tnN; omega
  | n + 1, hn => by
    have ih := tnN_bd h h0 h1 n (by omega)
    have k := cyK_in h h0 h1 n (by omega)
    have d := durS_bd h k.1 k.2
    unfold tnN
    split <;> omega
theorem soN_bd {S : Int → Int} (h : Ok S) {c a b : Int} (ha : a = 2 ∨ a = 3) (hb : b = 2 ∨ b = 3) (h0 : 0 ≤ c) (h1 : c < cyM S) : ∀ n : Nat, n ≤ cyL S c → -71 * (n : Int) ≤ soN S c a b n ∧ soN S c a b n ≤ 71 * (n : Int)
  | 0, _ => by unfold soN; omega
  | n + 1, hn => by
    have ih := soN_bd h ha hb h0 h1 n (by omega)
    have k := cyK_in h h0 h1 n (by omega)
    have s := h.2.2.2.2 _ k.1 k.2
    unfold SpOk at s
    have v : ∀ w, (w = 2 ∨ w = 3) → 0 ≤ S (21 + 5 * cyK S c n + w) ∧ S (21 + 5 * cyK S c n + w) ≤ 71 := fun w hw => by
      rcases hw with rfl | rfl <;> omega
    have va := v a ha
    have vb := v b hb
    unfold soN
    split <;> omega
theorem ct9_sumOf (M : Id4 → Int → Int) (b : Bool) (S : Int → Int) (c x y : Int) (hx : x = 2 ∨ x = 3) (hy : y = 2 ∨ y = 3) (hS : M (9, 0, 1, 0) = S) (h : Ok S) (h0 : 0 ≤ c) (h1 : c < cyM S) (hw : wayR S c M) : CtI 3 0 yX9_sumOf cX9_sumOf 5 (some .int) [aR (9, 0, 0, 0), aI x, aI y] (M, R0 b) (PU (M, R0 b) (soN S c x y (cyL S c))) := by
  refine CtI.mk (by decide +kernel) rfl (Nat.le_of_ble_eq_true rfl) (fun X K F hk => ?_)
  have hN := h.2.2.1
  have hE := h.2.1
  obtain ⟨w1, w2⟩ := hw
  have lb := cyL_bd h h0 h1
  have key : ∀ (j i : Nat), i + j = cyL S c → AW X K 5 [aR (9, 0, 0, 0), aI x, aI y, aI (soN S c x y i), aI i] [] (M, R0 b) 0 (EI X K 0 (PU (M, R0 b) (soN S c x y (cyL S c)))) := by
    intro j
    induction j with
    | zero =>
      intro i hi
      refine aw_iload4 (pc := 5) F dX9_sumOf_5 ?_
      refine aw_aload0 (pc := 7) F dX9_sumOf_7 ?_
      refine aw_getI (pc := 8) F dX9_sumOf_8 fl_9_280 rfl (by first | decide | (simp only [inB, cnt, rcnt]; omega)) rfl nz24 ?_
      refine aw_icmp_ge (tgt := 61) (pc := 11) F dX9_sumOf_11 (by decide) (by unfold inR; omega) (by unfold inR; omega) (fun c11 => ?_) (fun c11 => ?_)
      · refine aw_iload3 (pc := 61) F dX9_sumOf_61 ?_
        exact aw_iret (pc := 62) F dX9_sumOf_62 rfl (Nat.zero_le _) ⟨by rw [show i = cyL S c by omega], rfl⟩
      · omega
    | succ j ih =>
      intro i hi
      obtain ⟨v1, v2⟩ := w2 i (by omega)
      have kin := cyK_in h h0 h1 i (by omega)
      have b01 := cyB_01 (S := S) (c := c) i
      have g := ih (i + 1) (by omega)
      have e9 : soN S c x y (i + 1) = soN S c x y i + (if cyB S c i = 0 then - S (21 + 5 * cyK S c i + y) else S (21 + 5 * cyK S c i + x)) := rfl
      refine aw_iload4 (pc := 5) F dX9_sumOf_5 ?_
      refine aw_aload0 (pc := 7) F dX9_sumOf_7 ?_
      refine aw_getI (pc := 8) F dX9_sumOf_8 fl_9_280 rfl (by first | decide | (simp only [inB, cnt, rcnt]; omega)) rfl nz24 ?_
      refine aw_icmp_ge (tgt := 61) (pc := 11) F dX9_sumOf_11 (by decide) (by unfold inR; omega) (by unfold inR; omega) (fun c11 => ?_) (fun c11 => ?_)
      · omega
      · refine aw_iload3 (pc := 14) F dX9_sumOf_14 ?_
        refine aw_aload0 (pc := 15) F dX9_sumOf_15 ?_
        refine aw_getR (pc := 16) F dX9_sumOf_16 fl_9_42 rfl (by first | decide | (simp only [inB, cnt, rcnt]; omega)) rfl nz23 rfl ?_
        refine aw_iload4 (pc := 19) F dX9_sumOf_19 ?_
        refine aw_zald (pc := 21) F dX9_sumOf_21 rfl (by first | decide | (simp only [inB, cnt, rcnt]; omega)) (by omega) ?_
        rw [v2]
        refine aw_if_eq (tgt := 40) (pc := 22) F dX9_sumOf_22 (by decide) (by unfold inR; omega) (fun c22 => ?_) (fun c22 => ?_)
        · refine aw_aload0 (pc := 40) F dX9_sumOf_40 ?_
          refine aw_aload0 (pc := 41) F dX9_sumOf_41 ?_
          refine aw_getR (pc := 42) F dX9_sumOf_42 fl_9_39 rfl (by first | decide | (simp only [inB, cnt, rcnt]; omega)) rfl nz22 rfl ?_
          refine aw_iload4 (pc := 45) F dX9_sumOf_45 ?_
          refine aw_iald (pc := 47) F dX9_sumOf_47 rfl (by first | decide | (simp only [inB, cnt, rcnt]; omega)) (by omega) ?_
          rw [v1]
          refine aw_iload2 (pc := 48) F dX9_sumOf_48 ?_
          refine aw_pcallV2 (pc := 49) F dX9_sumOf_49 ml_9_200 rfl (by first | decide | (simp only [inB, cnt, rcnt]; omega)) (ct9_of _ _ _ _ (by omega) (by omega)) (Nat.le_of_ble_eq_true rfl) (by decide) (Nat.zero_le _) ?_
          refine aw_ineg (pc := 52) F dX9_sumOf_52 ?_
          refine aw_iadd (pc := 53) F dX9_sumOf_53 ?_
          refine aw_istore3 (pc := 54) F dX9_sumOf_54 rfl hk.symm ?_
          refine aw_iinc4 (pc := 55) F dX9_sumOf_55 rfl hk.symm ?_
          refine aw_goto (tgt := 5) (pc := 58) F dX9_sumOf_58 (by decide) ?_
          rw [e9] at g
          first | rw [if_pos c22] at g | rw [if_neg c22] at g
          rw [hS]
          exact g
        · refine aw_aload0 (pc := 25) F dX9_sumOf_25 ?_
          refine aw_aload0 (pc := 26) F dX9_sumOf_26 ?_
          refine aw_getR (pc := 27) F dX9_sumOf_27 fl_9_39 rfl (by first | decide | (simp only [inB, cnt, rcnt]; omega)) rfl nz22 rfl ?_
          refine aw_iload4 (pc := 30) F dX9_sumOf_30 ?_
          refine aw_iald (pc := 32) F dX9_sumOf_32 rfl (by first | decide | (simp only [inB, cnt, rcnt]; omega)) (by omega) ?_
          rw [v1]
          refine aw_iload1 (pc := 33) F dX9_sumOf_33 ?_
          refine aw_pcallV2 (pc := 34) F dX9_sumOf_34 ml_9_200 rfl (by first | decide | (simp only [inB, cnt, rcnt]; omega)) (ct9_of _ _ _ _ (by omega) (by omega)) (Nat.le_of_ble_eq_true rfl) (by decide) (Nat.zero_le _) ?_
          refine aw_goto (tgt := 53) (pc := 37) F dX9_sumOf_37 (by decide) ?_
          refine aw_iadd (pc := 53) F dX9_sumOf_53 ?_
          refine aw_istore3 (pc := 54) F dX9_sumOf_54 rfl hk.symm ?_
          refine aw_iinc4 (pc := 55) F dX9_sumOf_55 rfl hk.symm ?_
          refine aw_goto (tgt := 5) (pc := 58) F dX9_sumOf_58 (by decide) ?_
          rw [e9] at g
          first | rw [if_pos c22] at g | rw [if_neg c22] at g
          rw [hS]
          exact g
  refine aw_iconst (pc := 0) F dX9_sumOf_0 ?_
  refine aw_istore3 (pc := 1) F dX9_sumOf_1 rfl hk.symm ?_
  refine aw_iconst (pc := 2) F dX9_sumOf_2 ?_
  refine aw_istore4 (pc := 3) F dX9_sumOf_3 rfl hk.symm ?_
  exact key (cyL S c) 0 (by omega)
/-- the turns of a timetable are whole -/
theorem dur_mod {S : Int → Int} (h : Ok S) (k : Int) : ∃ q, durS S k = S (14 + toS S k) - S (14 + frS S k) - S 0 * q := by
  have hT := h.1
  refine ⟨(S (14 + toS S k) - S (14 + frS S k) - S (21 + 5 * k + 2)) / S 0, ?_⟩
  have := Int.mul_ediv_add_emod (S (14 + toS S k) - S (14 + frS S k) - S (21 + 5 * k + 2)) (S 0)
  unfold durS slOf slBy
  show S (21 + 5 * k + 2) + (S (14 + toS S k) - S (14 + frS S k) - S (21 + 5 * k + 2)) % S 0 = _
  omega
theorem tn_mod {S : Int → Int} (h : Ok S) {c : Int} (h0 : 0 ≤ c) (h1 : c < cyM S) : ∀ i : Nat, i < cyL S c → ∃ q, tnN S c (i + 1) = S 0 * q + S (14 + pvS S (frS S (ckS S c)) (toS S (ckS S c)) i) - S (14 + frS S (ckS S c)) := by
  obtain ⟨k, q1, q2, q3, f0, t0, w⟩ := cy_in h h0 h1
  rw [q1]
  intro i
  induction i with
  | zero =>
    intro _
    obtain ⟨q, e⟩ := dur_mod h k
    refine ⟨-q, ?_⟩
    show 0 + (if (1 : Int) = 0 then - durS S (ckS S c) else durS S (ckS S c)) = S 0 * (-q) + S (14 + toS S k) - S (14 + frS S k)
    rw [if_neg (by decide), q1, e, Int.mul_neg]
    omega
  | succ i ih =>
    intro hi
    obtain ⟨q, e⟩ := ih (by omega)
    have hi2 : i < dpS S (frS S k) (toS S k) := by unfold cyL at hi; rw [q1] at hi; omega
    obtain ⟨a1, ⟨a2, a3⟩, a4⟩ := pv_d h f0.1 f0.2 t0.1 t0.2 w i (by omega)
    have ng : pvS S (frS S k) (toS S k) i ≠ frS S k := fun z => by
      have := (dp_0 h f0.1 f0.2 a2 a3 a4).mpr z
      omega
    obtain ⟨k2, p1, p2, p3, p4, -⟩ := wy_step h f0.1 f0.2 a2 a3 ng a4
    have ek : cyK S c (i + 1) = k2 := by
      show wyS S (frS S (ckS S c)) (pvS S (frS S (ckS S c)) (toS S (ckS S c)) i) = k2
      rw [q1]; exact p1
    have eb : cyB S c (i + 1) = b2i (frS S k2 = pvS S (frS S k) (toS S k) i) := by
      show b2i (frS S (cyK S c (i + 1)) = pvS S (frS S (ckS S c)) (toS S (ckS S c)) i) = _
      rw [ek, q1]
    have ev : pvS S (frS S k) (toS S k) (i + 1) = othS S k2 (pvS S (frS S k) (toS S k) i) := by
      show othS S (wyS S (frS S k) (pvS S (frS S k) (toS S k) i)) _ = _
      rw [p1]
    obtain ⟨q', e'⟩ := dur_mod h k2
    show ∃ q, tnN S c (i + 1) + (if cyB S c (i + 1) = 0 then - durS S (cyK S c (i + 1)) else durS S (cyK S c (i + 1))) = _
    rw [e, ek, eb, ev]
    rcases p4 with ⟨x1, x2⟩ | ⟨x1, x2⟩
    · refine ⟨q - q', ?_⟩
      rw [if_neg (by rw [b2i_pos x1]; decide), e', ← x2, x1, Int.mul_sub]
      omega
    · obtain ⟨-, -, ne⟩ := ends_in h p2 (Or.inr ⟨x1, x2⟩ : (frS S k2 = pvS S (frS S k) (toS S k) i ∧ toS S k2 = othS S k2 (pvS S (frS S k) (toS S k) i)) ∨ _)
      refine ⟨q + q', ?_⟩
      rw [if_pos (b2i_neg (by rw [x2]; exact ne)), e', ← x2, x1, Int.mul_add]
      omega
theorem tn_dvd {S : Int → Int} (h : Ok S) {c : Int} (h0 : 0 ≤ c) (h1 : c < cyM S) : (tnN S c (cyL S c)).tdiv (S 0) = nowS S c := by
  have hT := h.1
  obtain ⟨k, q1, q2, q3, f0, t0, w⟩ := cy_in h h0 h1
  obtain ⟨q, e⟩ := tn_mod h h0 h1 (cyL S c - 1) (by unfold cyL; omega)
  have el : cyL S c - 1 = dpS S (frS S k) (toS S k) := by unfold cyL; rw [q1]; omega
  have ee : cyL S c - 1 + 1 = cyL S c := by unfold cyL; omega
  obtain ⟨a1, ⟨a2, a3⟩, a4⟩ := pv_d h f0.1 f0.2 t0.1 t0.2 w _ (Nat.le_refl _)
  have ng : pvS S (frS S k) (toS S k) (dpS S (frS S k) (toS S k)) = frS S k := (dp_0 h f0.1 f0.2 a2 a3 a4).mp (by omega)
  rw [ee, q1, el, ng] at e
  have e2 : tnN S c (cyL S c) = S 0 * q := by omega
  unfold nowS
  rw [e2, Int.mul_tdiv_cancel_left _ (by omega), Int.mul_ediv_cancel_left _ (by omega)]
theorem ct9_turnsNow (M : Id4 → Int → Int) (b : Bool) (S : Int → Int) (c : Int) (hS : M (9, 0, 1, 0) = S) (h : Ok S) (h0 : 0 ≤ c) (h1 : c < cyM S) (hw : wayR S c M) : CtI 6 0 yX9_turnsNow cX9_turnsNow 3 (some .int) [aR (9, 0, 0, 0)] (M, R0 b) (PU (M, R0 b) (nowS S c)) := by
  refine CtI.mk (by decide +kernel) rfl (Nat.le_of_ble_eq_true rfl) (fun X K F hk => ?_)
  have hT := h.1
  have hN := h.2.2.1
  have hE := h.2.1
  have s0 := congrFun hS 0
  obtain ⟨w1, w2⟩ := hw
  have lb := cyL_bd h h0 h1
  have tb := tnN_bd h h0 h1 _ (Nat.le_refl _)
  have key : ∀ (j i : Nat), i + j = cyL S c → AW X K 4 [aR (9, 0, 0, 0), aI (tnN S c i), aI i] [] (M, R0 b) 0 (EI X K 0 (PU (M, R0 b) (nowS S c))) := by
    intro j
    induction j with
    | zero =>
      intro i hi
      obtain rfl : i = cyL S c := by omega
      refine aw_iload2 (pc := 4) F dX9_turnsNow_4 ?_
      refine aw_aload0 (pc := 5) F dX9_turnsNow_5 ?_
      refine aw_getI (pc := 6) F dX9_turnsNow_6 fl_9_280 rfl (by first | decide | (simp only [inB, cnt, rcnt]; omega)) rfl nz24 ?_
      refine aw_icmp_ge (tgt := 54) (pc := 9) F dX9_turnsNow_9 (by decide) (by unfold inR; omega) (by unfold inR; omega) (fun c9 => ?_) (fun c9 => ?_)
      · refine aw_iload1 (pc := 54) F dX9_turnsNow_54 ?_
        refine aw_aload0 (pc := 55) F dX9_turnsNow_55 ?_
        refine aw_getR (pc := 56) F dX9_turnsNow_56 fl_9_7 rfl (by first | decide | (simp only [inB, cnt, rcnt]; omega)) rfl nz0 rfl ?_
        refine aw_iconst (pc := 59) F dX9_turnsNow_59 ?_
        refine aw_iald (pc := 60) F dX9_turnsNow_60 rfl (by first | decide | (simp only [inB, cnt, rcnt]; omega)) (by omega) ?_
        refine aw_idiv (pc := 61) F dX9_turnsNow_61 (by unfold inR; omega) (by unfold inR; omega) (by omega) (by omega) ?_
        exact aw_iret (pc := 62) F dX9_turnsNow_62 rfl (Nat.zero_le _) ⟨by rw [s0]; exact tn_dvd h h0 h1, rfl⟩
      · omega
    | succ j ih =>
      intro i hi
      obtain ⟨v1, v2⟩ := w2 i (by omega)
      have kin := cyK_in h h0 h1 i (by omega)
      have b01 := cyB_01 (S := S) (c := c) i
      have g := ih (i + 1) (by omega)
      have e9 : tnN S c (i + 1) = tnN S c i + (if cyB S c i = 0 then - durS S (cyK S c i) else durS S (cyK S c i)) := rfl
      refine aw_iload2 (pc := 4) F dX9_turnsNow_4 ?_
      refine aw_aload0 (pc := 5) F dX9_turnsNow_5 ?_
      refine aw_getI (pc := 6) F dX9_turnsNow_6 fl_9_280 rfl (by first | decide | (simp only [inB, cnt, rcnt]; omega)) rfl nz24 ?_
      refine aw_icmp_ge (tgt := 54) (pc := 9) F dX9_turnsNow_9 (by decide) (by unfold inR; omega) (by unfold inR; omega) (fun c9 => ?_) (fun c9 => ?_)
      · omega
      · refine aw_iload1 (pc := 12) F dX9_turnsNow_12 ?_
        refine aw_aload0 (pc := 13) F dX9_turnsNow_13 ?_
        refine aw_getR (pc := 14) F dX9_turnsNow_14 fl_9_42 rfl (by first | decide | (simp only [inB, cnt, rcnt]; omega)) rfl nz23 rfl ?_
        refine aw_iload2 (pc := 17) F dX9_turnsNow_17 ?_
        refine aw_zald (pc := 18) F dX9_turnsNow_18 rfl (by first | decide | (simp only [inB, cnt, rcnt]; omega)) (by omega) ?_
        rw [v2]
        refine aw_if_eq (tgt := 35) (pc := 19) F dX9_turnsNow_19 (by decide) (by unfold inR; omega) (fun c19 => ?_) (fun c19 => ?_)
        · refine aw_aload0 (pc := 35) F dX9_turnsNow_35 ?_
          refine aw_aload0 (pc := 36) F dX9_turnsNow_36 ?_
          refine aw_getR (pc := 37) F dX9_turnsNow_37 fl_9_39 rfl (by first | decide | (simp only [inB, cnt, rcnt]; omega)) rfl nz22 rfl ?_
          refine aw_iload2 (pc := 40) F dX9_turnsNow_40 ?_
          refine aw_iald (pc := 41) F dX9_turnsNow_41 rfl (by first | decide | (simp only [inB, cnt, rcnt]; omega)) (by omega) ?_
          rw [v1]
          refine aw_pcallV1 (pc := 42) F dX9_turnsNow_42 ml_9_212 rfl (by first | decide | (simp only [inB, cnt, rcnt]; omega)) (ct9_durationOf _ _ _ (by rw [hS]; exact kin) (by rw [hS]; exact h)) (Nat.le_of_ble_eq_true rfl) (by decide) (Nat.zero_le _) ?_
          refine aw_ineg (pc := 45) F dX9_turnsNow_45 ?_
          refine aw_iadd (pc := 46) F dX9_turnsNow_46 ?_
          refine aw_istore1 (pc := 47) F dX9_turnsNow_47 rfl hk.symm ?_
          refine aw_iinc2 (pc := 48) F dX9_turnsNow_48 rfl hk.symm ?_
          refine aw_goto (tgt := 4) (pc := 51) F dX9_turnsNow_51 (by decide) ?_
          rw [e9] at g
          first | rw [if_pos c19] at g | rw [if_neg c19] at g
          rw [hS]
          exact g
        · refine aw_aload0 (pc := 22) F dX9_turnsNow_22 ?_
          refine aw_aload0 (pc := 23) F dX9_turnsNow_23 ?_
          refine aw_getR (pc := 24) F dX9_turnsNow_24 fl_9_39 rfl (by first | decide | (simp only [inB, cnt, rcnt]; omega)) rfl nz22 rfl ?_
          refine aw_iload2 (pc := 27) F dX9_turnsNow_27 ?_
          refine aw_iald (pc := 28) F dX9_turnsNow_28 rfl (by first | decide | (simp only [inB, cnt, rcnt]; omega)) (by omega) ?_
          rw [v1]
          refine aw_pcallV1 (pc := 29) F dX9_turnsNow_29 ml_9_212 rfl (by first | decide | (simp only [inB, cnt, rcnt]; omega)) (ct9_durationOf _ _ _ (by rw [hS]; exact kin) (by rw [hS]; exact h)) (Nat.le_of_ble_eq_true rfl) (by decide) (Nat.zero_le _) ?_
          refine aw_goto (tgt := 46) (pc := 32) F dX9_turnsNow_32 (by decide) ?_
          refine aw_iadd (pc := 46) F dX9_turnsNow_46 ?_
          refine aw_istore1 (pc := 47) F dX9_turnsNow_47 rfl hk.symm ?_
          refine aw_iinc2 (pc := 48) F dX9_turnsNow_48 rfl hk.symm ?_
          refine aw_goto (tgt := 4) (pc := 51) F dX9_turnsNow_51 (by decide) ?_
          rw [e9] at g
          first | rw [if_pos c19] at g | rw [if_neg c19] at g
          rw [hS]
          exact g
  refine aw_iconst (pc := 0) F dX9_turnsNow_0 ?_
  refine aw_istore1 (pc := 1) F dX9_turnsNow_1 rfl hk.symm ?_
  refine aw_iconst (pc := 2) F dX9_turnsNow_2 ?_
  refine aw_istore2 (pc := 3) F dX9_turnsNow_3 rfl hk.symm ?_
  exact key (cyL S c) 0 (by omega)
theorem ct9_mostTurns (M : Id4 → Int → Int) (b : Bool) (S : Int → Int) (c : Int) (hS : M (9, 0, 1, 0) = S) (h : Ok S) (h0 : 0 ≤ c) (h1 : c < cyM S) (hw : wayR S c M) : CtI 4 0 yX9_mostTurns cX9_mostTurns 1 (some .int) [aR (9, 0, 0, 0)] (M, R0 b) (PU (M, R0 b) (mstS S c)) := by
  refine CtI.mk (by decide +kernel) rfl (Nat.le_of_ble_eq_true rfl) (fun X K F hk => ?_)
  have hT := h.1
  have hE := h.2.1
  have lb := cyL_bd h h0 h1
  have sb := soN_bd h (a := 3) (b := 2) (Or.inr rfl) (Or.inl rfl) h0 h1 _ (Nat.le_refl _)
  have s0 := congrFun hS 0
  refine aw_aload0 (pc := 0) F dX9_mostTurns_0 ?_
  refine aw_iconst (pc := 1) F dX9_mostTurns_1 ?_
  refine aw_iconst (pc := 2) F dX9_mostTurns_2 ?_
  refine aw_pcallV2 (pc := 3) F dX9_mostTurns_3 ml_9_302 rfl (by first | decide | (simp only [inB, cnt, rcnt]; omega)) (ct9_sumOf _ _ S c _ _ (Or.inr rfl) (Or.inl rfl) hS h h0 h1 hw) (Nat.le_of_ble_eq_true rfl) (by decide) (Nat.zero_le _) ?_
  refine aw_aload0 (pc := 6) F dX9_mostTurns_6 ?_
  refine aw_getR (pc := 7) F dX9_mostTurns_7 fl_9_7 rfl (by first | decide | (simp only [inB, cnt, rcnt]; omega)) rfl nz0 rfl ?_
  refine aw_iconst (pc := 10) F dX9_mostTurns_10 ?_
  refine aw_iald (pc := 11) F dX9_mostTurns_11 rfl (by first | decide | (simp only [inB, cnt, rcnt]; omega)) (by omega) ?_
  rw [s0]
  refine aw_pcallS2 (pc := 12) F dX9_mostTurns_12 ml_9_305 (ctJ_floorDiv _ _ _ _ (by omega) (by omega)) (Nat.le_of_ble_eq_true rfl) (by decide) (Nat.zero_le _) ?_
  exact aw_iret (pc := 15) F dX9_mostTurns_15 rfl (Nat.zero_le _) ⟨rfl, rfl⟩
theorem ct9_leastTurns (M : Id4 → Int → Int) (b : Bool) (S : Int → Int) (c : Int) (hS : M (9, 0, 1, 0) = S) (h : Ok S) (h0 : 0 ≤ c) (h1 : c < cyM S) (hw : wayR S c M) : CtI 4 0 yX9_leastTurns cX9_leastTurns 1 (some .int) [aR (9, 0, 0, 0)] (M, R0 b) (PU (M, R0 b) (lstS S c)) := by
  refine CtI.mk (by decide +kernel) rfl (Nat.le_of_ble_eq_true rfl) (fun X K F hk => ?_)
  have hT := h.1
  have hE := h.2.1
  have lb := cyL_bd h h0 h1
  have sb := soN_bd h (a := 2) (b := 3) (Or.inl rfl) (Or.inr rfl) h0 h1 _ (Nat.le_refl _)
  have s0 := congrFun hS 0
  refine aw_aload0 (pc := 0) F dX9_leastTurns_0 ?_
  refine aw_iconst (pc := 1) F dX9_leastTurns_1 ?_
  refine aw_iconst (pc := 2) F dX9_leastTurns_2 ?_
  refine aw_pcallV2 (pc := 3) F dX9_leastTurns_3 ml_9_302 rfl (by first | decide | (simp only [inB, cnt, rcnt]; omega)) (ct9_sumOf _ _ S c _ _ (Or.inl rfl) (Or.inr rfl) hS h h0 h1 hw) (Nat.le_of_ble_eq_true rfl) (by decide) (Nat.zero_le _) ?_
  refine aw_ineg (pc := 6) F dX9_leastTurns_6 ?_
  refine aw_aload0 (pc := 7) F dX9_leastTurns_7 ?_
  refine aw_getR (pc := 8) F dX9_leastTurns_8 fl_9_7 rfl (by first | decide | (simp only [inB, cnt, rcnt]; omega)) rfl nz0 rfl ?_
  refine aw_iconst (pc := 11) F dX9_leastTurns_11 ?_
  refine aw_iald (pc := 12) F dX9_leastTurns_12 rfl (by first | decide | (simp only [inB, cnt, rcnt]; omega)) (by omega) ?_
  rw [s0]
  refine aw_pcallS2 (pc := 13) F dX9_leastTurns_13 ml_9_305 (ctJ_floorDiv _ _ _ _ (by omega) (by omega)) (Nat.le_of_ble_eq_true rfl) (by decide) (Nat.zero_le _) ?_
  refine aw_ineg (pc := 16) F dX9_leastTurns_16 ?_
  exact aw_iret (pc := 17) F dX9_leastTurns_17 rfl (Nat.zero_le _) ⟨rfl, rfl⟩
abbrev cyc (S : Int → Int) (c : Int) : Prop := 0 ≤ c ∧ c ≤ cyM S - 1
abbrev stp (S : Int → Int) (c i : Int) : Prop := cyc S c ∧ 0 ≤ i ∧ i ≤ (cyL S c : Int) - 1
theorem ct9_isCycle (M : Id4 → Int → Int) (b : Bool) (S : Int → Int) (c : Int) (h9 : inR c) (hS : M (9, 0, 1, 0) = S) (h : Ok S) : CtI 4 0 yX9_isCycle cX9_isCycle 2 (some .boolean) [aR (9, 0, 0, 0), aI c] (M, R0 b) (fun v σ' => v = b2i (cyc S c) ∧ ∃ M', σ' = (M', R0 b) ∧ chT M M' ∧ treR S M') := by
  refine CtI.mk (by decide +kernel) rfl (Nat.le_of_ble_eq_true rfl) (fun X K F hk => ?_)
  have hN := h.2.2.1
  have cb := cyN_bd (S := S) (S 20).toNat
  refine aw_aload0 (pc := 0) F dX9_isCycle_0 ?_
  refine aw_callVV0 (pc := 1) F dX9_isCycle_1 ml_9_290 rfl (by first | decide | (simp only [inB, cnt, rcnt]; omega)) (ct9_laysTree _ _ S hS h) (Nat.le_of_ble_eq_true rfl) (by decide) (Nat.zero_le _) (fun σ9 h9_1 => ?_)
  obtain ⟨M1, g9, c1, c2⟩ := h9_1
  subst g9
  refine aw_iload1 (pc := 4) F dX9_isCycle_4 ?_
  refine aw_iconst (pc := 5) F dX9_isCycle_5 ?_
  refine aw_aload0 (pc := 6) F dX9_isCycle_6 ?_
  refine aw_getI (pc := 7) F dX9_isCycle_7 fl_9_277 rfl (by first | decide | (simp only [inB, cnt, rcnt]; omega)) rfl nz21 ?_
  rw [c2.1]
  refine aw_iconst (pc := 10) F dX9_isCycle_10 ?_
  refine aw_isub (pc := 11) F dX9_isCycle_11 ?_
  refine aw_pcallS3 (pc := 12) F dX9_isCycle_12 ml_9_121 (ct9_isIn _ _ _ _ _ h9 (by unfold inR; omega) (by unfold inR; omega)) (Nat.le_of_ble_eq_true rfl) (by decide) (Nat.zero_le _) ?_
  exact aw_iret (pc := 15) F dX9_isCycle_15 (nar_bool (by first | exact b2i_01 | decide)) (Nat.zero_le _) ⟨rfl, M1, rfl, c1, c2⟩
theorem ct9_isCyc2 (M : Id4 → Int → Int) (b : Bool) (S : Int → Int) (c : Int) (hS : M (9, 0, 1, 0) = S) (h : Ok S) (ht : treR S M) (hc : cyc S c) : CtI 18 0 yX9_laysCycle cX9_laysCycle 2 (some .boolean) [aR (9, 0, 0, 0), aI c] (M, R0 b) (fun v σ' => v = 1 ∧ ∃ M', σ' = (M', R0 b) ∧ chW M M' ∧ wayR S c M') := ct9_laysCycle M b S c hS h ht hc.1 (by have := hc.2; omega)
theorem cq9_cycles (M : Id4 → Int → Int) (b : Bool) (S : Int → Int) (hS : M (9, 0, 1, 0) = S) (h : Ok S) : CtI 4 0 yX9_cycles cX9_cycles 1 (some .int) [aR (9, 0, 0, 0)] (M, R0 b) (QP M b 0 (cyM S)) := by
  refine CtI.mk (by decide +kernel) rfl (Nat.le_of_ble_eq_true rfl) (fun X K F hk => ?_)
  refine aw_aload0 (pc := 0) F dX9_cycles_0 ?_
  refine aw_iconst (pc := 1) F dX9_cycles_1 ?_
  refine aw_putI (pc := 2) F dX9_cycles_2 fl_9_54 fpi_9_4 rfl (by first | decide | (simp only [inB, cnt, rcnt]; omega)) rfl nz4 ?_
  refine aw_aload0 (pc := 5) F dX9_cycles_5 ?_
  refine aw_callVV0 (pc := 6) F dX9_cycles_6 ml_9_290 rfl (by first | decide | (simp only [inB, cnt, rcnt]; omega)) (ct9_laysTree _ _ S (by rw [thr_u]; exact hS) h) (Nat.le_of_ble_eq_true rfl) (by decide) (Nat.zero_le _) (fun σ9 h9_6 => ?_)
  obtain ⟨M1, g9, c1, c2⟩ := h9_6
  subst g9
  refine aw_aload0 (pc := 9) F dX9_cycles_9 ?_
  refine aw_getI (pc := 10) F dX9_cycles_10 fl_9_277 rfl (by first | decide | (simp only [inB, cnt, rcnt]; omega)) rfl nz21 ?_
  exact aw_iret (pc := 13) F dX9_cycles_13 rfl (Nat.zero_le _) ⟨M1, rfl, same9_thr.tr c1.q, by rw [c1 _ _ (by simp)]; exact upd_same, fun _ => c2.1⟩
theorem ct9_isStep (M : Id4 → Int → Int) (b : Bool) (S : Int → Int) (c i : Int) (h9 : inR c) (h8 : inR i) (hS : M (9, 0, 1, 0) = S) (h : Ok S) : CtI 19 0 yX9_isStep cX9_isStep 3 (some .boolean) [aR (9, 0, 0, 0), aI c, aI i] (M, R0 b) (fun v σ' => v = b2i (stp S c i) ∧ ∃ M', σ' = (M', R0 b) ∧ same9 M M' ∧ (cyc S c → wayR S c M')) := by
  refine CtI.mk (by decide +kernel) rfl (Nat.le_of_ble_eq_true rfl) (fun X K F hk => ?_)
  have hE := h.2.1
  refine aw_aload0 (pc := 0) F dX9_isStep_0 ?_
  refine aw_iload1 (pc := 1) F dX9_isStep_1 ?_
  refine aw_callVI1 (pc := 2) F dX9_isStep_2 ml_9_293 rfl (by first | decide | (simp only [inB, cnt, rcnt]; omega)) (ct9_isCycle _ _ S _ h9 hS h) (Nat.le_of_ble_eq_true rfl) (by decide) (Nat.zero_le _) (fun v9 σ9 h9_2 => ?_)
  obtain ⟨hv, M1, g9, c1, c2⟩ := h9_2
  subst g9
  subst hv
  refine aw_ifb_eq (tgt := 34) (pc := 5) F dX9_isStep_5 (by decide) (fun c5 => ?_) (fun c5 => ?_)
  · refine aw_iconst (pc := 34) F dX9_isStep_34 ?_
    exact aw_iret (pc := 35) F dX9_isStep_35 (nar_bool (by first | exact b2i_01 | decide)) (Nat.zero_le _) (by first | exact ⟨(b2i_pos ⟨c5, c27⟩).symm, M2, rfl, c1.q.tr d1.q, fun _ => d2⟩ | exact ⟨(b2i_neg (fun z => c27 z.2)).symm, M2, rfl, c1.q.tr d1.q, fun _ => d2⟩ | exact ⟨(b2i_neg (fun z => c5 z.1)).symm, M1, rfl, c1.q, fun z => absurd z c5⟩)
  · refine aw_aload0 (pc := 8) F dX9_isStep_8 ?_
    refine aw_iload1 (pc := 9) F dX9_isStep_9 ?_
    refine aw_callVI1 (pc := 10) F dX9_isStep_10 ml_9_296 rfl (by first | decide | (simp only [inB, cnt, rcnt]; omega)) (ct9_isCyc2 _ _ S _ (c1.s.trans hS) h c2 c5) (Nat.le_of_ble_eq_true rfl) (by decide) (Nat.zero_le _) (fun v9 σ9 h9_10 => ?_)
    obtain ⟨hv, M2, g9, d1, d2⟩ := h9_10
    subst g9
    subst hv
    have lb := cyL_bd h c5.1 (show c < cyM S by have := c5.2; omega)
    have w1 := d2.1
    refine aw_if_eq (tgt := 34) (pc := 13) F dX9_isStep_13 (by decide) (by unfold inR; omega) (fun c9 => absurd c9 (by decide)) (fun _ => ?_)
    refine aw_iload2 (pc := 16) F dX9_isStep_16 ?_
    refine aw_iconst (pc := 17) F dX9_isStep_17 ?_
    refine aw_aload0 (pc := 18) F dX9_isStep_18 ?_
    refine aw_getI (pc := 19) F dX9_isStep_19 fl_9_280 rfl (by first | decide | (simp only [inB, cnt, rcnt]; omega)) rfl nz24 ?_
    rw [w1]
    refine aw_iconst (pc := 22) F dX9_isStep_22 ?_
    refine aw_isub (pc := 23) F dX9_isStep_23 ?_
    refine aw_pcallS3 (pc := 24) F dX9_isStep_24 ml_9_121 (ct9_isIn _ _ _ _ _ h8 (by unfold inR; omega) (by unfold inR; omega)) (Nat.le_of_ble_eq_true rfl) (by decide) (Nat.zero_le _) ?_
    refine aw_ifb_eq (tgt := 34) (pc := 27) F dX9_isStep_27 (by decide) (fun c27 => ?_) (fun c27 => ?_)
    · refine aw_iconst (pc := 34) F dX9_isStep_34 ?_
      exact aw_iret (pc := 35) F dX9_isStep_35 (nar_bool (by first | exact b2i_01 | decide)) (Nat.zero_le _) (by first | exact ⟨(b2i_pos ⟨c5, c27⟩).symm, M2, rfl, c1.q.tr d1.q, fun _ => d2⟩ | exact ⟨(b2i_neg (fun z => c27 z.2)).symm, M2, rfl, c1.q.tr d1.q, fun _ => d2⟩ | exact ⟨(b2i_neg (fun z => c5 z.1)).symm, M1, rfl, c1.q, fun z => absurd z c5⟩)
    · refine aw_iconst (pc := 30) F dX9_isStep_30 ?_
      refine aw_goto (tgt := 35) (pc := 31) F dX9_isStep_31 (by decide) ?_
      exact aw_iret (pc := 35) F dX9_isStep_35 (nar_bool (by first | exact b2i_01 | decide)) (Nat.zero_le _) (by first | exact ⟨(b2i_pos ⟨c5, c27⟩).symm, M2, rfl, c1.q.tr d1.q, fun _ => d2⟩ | exact ⟨(b2i_neg (fun z => c27 z.2)).symm, M2, rfl, c1.q.tr d1.q, fun _ => d2⟩ | exact ⟨(b2i_neg (fun z => c5 z.1)).symm, M1, rfl, c1.q, fun z => absurd z c5⟩)
theorem wayR.th {S : Int → Int} {c t : Int} {M : Id4 → Int → Int} (hw : wayR S c M) : wayR S c (thr M t) := ⟨(upd_ne (Or.inr (by decide))).trans hw.1, fun i hi => ⟨(upd_ne (Or.inl (by decide))).trans (hw.2 i hi).1, (upd_ne (Or.inl (by decide))).trans (hw.2 i hi).2⟩⟩
theorem qp9 {M M1 : Id4 → Int → Int} {b : Bool} {c : Prop} [Decidable c] {v r : Int} (hs : same9 M M1) (h : c → r = v) : QP M b (1 - b2i c) v r (thr M1 (1 - b2i c), R0 b) :=
  ⟨_, rfl, hs.tr same9_thr, upd_same, fun z => h (Classical.byContradiction fun n => by rw [b2i_neg n] at z; omega)⟩
theorem cq9_cycleLength (M : Id4 → Int → Int) (b : Bool) (S : Int → Int) (c : Int) (h9 : inR c) (hS : M (9, 0, 1, 0) = S) (h : Ok S) : CtI 19 0 yX9_cycleLength cX9_cycleLength 2 (some .int) [aR (9, 0, 0, 0), aI c] (M, R0 b) (QP M b (1 - b2i (cyc S c)) (cyL S c)) := by
  refine CtI.mk (by decide +kernel) rfl (Nat.le_of_ble_eq_true rfl) (fun X K F hk => ?_)
  refine aw_aload0 (pc := 0) F dX9_cycleLength_0 ?_
  refine aw_aload0 (pc := 1) F dX9_cycleLength_1 ?_
  refine aw_iload1 (pc := 2) F dX9_cycleLength_2 ?_
  refine aw_callVI1 (pc := 3) F dX9_cycleLength_3 ml_9_293 rfl (by first | decide | (simp only [inB, cnt, rcnt]; omega)) (ct9_isCycle _ _ S _ h9 hS h) (Nat.le_of_ble_eq_true rfl) (by decide) (Nat.zero_le _) (fun v9 σ9 h9_3 => ?_)
  obtain ⟨hv, M1, g9, c1, c2⟩ := h9_3
  subst g9
  subst hv
  refine aw_ifb_eq (tgt := 21) (pc := 6) F dX9_cycleLength_6 (by decide) (fun c6 => ?_) (fun c6 => ?_)
  · refine aw_iconst (pc := 21) F dX9_cycleLength_21 ?_
    refine aw_callVI1 (pc := 22) F dX9_cycleLength_22 ml_9_176 rfl (by first | decide | (simp only [inB, cnt, rcnt]; omega)) (ct9_good1 _ _ _ (by first | exact b2i_01 | decide)) (Nat.le_of_ble_eq_true rfl) (by decide) (Nat.zero_le _) (fun v9 σ9 h9_22 => ?_)
    obtain ⟨rfl, rfl⟩ := h9_22
    refine aw_if_eq (tgt := 35) (pc := 25) F dX9_cycleLength_25 (by decide) (by unfold inR; omega) (fun _ => ?_) (fun c9 => absurd c9 (by decide))
    refine aw_iconst (pc := 35) F dX9_cycleLength_35 ?_
    exact aw_iret (pc := 36) F dX9_cycleLength_36 rfl (Nat.zero_le _) (by first | exact ⟨_, rfl, (c1.q.tr d1.q).tr same9_thr, (by rw [b2i_pos c6]; exact upd_same), fun _ => d2.th.1⟩ | exact ⟨_, rfl, c1.q.tr same9_thr, (by rw [b2i_neg c6]; exact upd_same), fun z => by rw [b2i_neg c6] at z; omega⟩)
  · refine aw_aload0 (pc := 9) F dX9_cycleLength_9 ?_
    refine aw_iload1 (pc := 10) F dX9_cycleLength_10 ?_
    refine aw_callVI1 (pc := 11) F dX9_cycleLength_11 ml_9_296 rfl (by first | decide | (simp only [inB, cnt, rcnt]; omega)) (ct9_isCyc2 _ _ S _ (c1.s.trans hS) h c2 c6) (Nat.le_of_ble_eq_true rfl) (by decide) (Nat.zero_le _) (fun v9 σ9 h9_11 => ?_)
    obtain ⟨hv, M2, g9, d1, d2⟩ := h9_11
    subst g9
    subst hv
    refine aw_if_eq (tgt := 21) (pc := 14) F dX9_cycleLength_14 (by decide) (by unfold inR; omega) (fun c9 => absurd c9 (by decide)) (fun _ => ?_)
    refine aw_iconst (pc := 17) F dX9_cycleLength_17 ?_
    refine aw_goto (tgt := 22) (pc := 18) F dX9_cycleLength_18 (by decide) ?_
    refine aw_callVI1 (pc := 22) F dX9_cycleLength_22 ml_9_176 rfl (by first | decide | (simp only [inB, cnt, rcnt]; omega)) (ct9_good1 _ _ _ (by first | exact b2i_01 | decide)) (Nat.le_of_ble_eq_true rfl) (by decide) (Nat.zero_le _) (fun v9 σ9 h9_22 => ?_)
    obtain ⟨rfl, rfl⟩ := h9_22
    refine aw_if_eq (tgt := 35) (pc := 25) F dX9_cycleLength_25 (by decide) (by unfold inR; omega) (fun c9 => absurd c9 (by decide)) (fun _ => ?_)
    refine aw_aload0 (pc := 28) F dX9_cycleLength_28 ?_
    refine aw_getI (pc := 29) F dX9_cycleLength_29 fl_9_280 rfl (by first | decide | (simp only [inB, cnt, rcnt]; omega)) rfl nz24 ?_
    refine aw_goto (tgt := 36) (pc := 32) F dX9_cycleLength_32 (by decide) ?_
    exact aw_iret (pc := 36) F dX9_cycleLength_36 rfl (Nat.zero_le _) (by first | exact ⟨_, rfl, (c1.q.tr d1.q).tr same9_thr, (by rw [b2i_pos c6]; exact upd_same), fun _ => d2.th.1⟩ | exact ⟨_, rfl, c1.q.tr same9_thr, (by rw [b2i_neg c6]; exact upd_same), fun z => by rw [b2i_neg c6] at z; omega⟩)
theorem cq9_cycleSpan (M : Id4 → Int → Int) (b : Bool) (S : Int → Int) (c i : Int) (h9 : inR c) (h8 : inR i) (hS : M (9, 0, 1, 0) = S) (h : Ok S) : CtI 20 0 yX9_cycleSpan cX9_cycleSpan 3 (some .int) [aR (9, 0, 0, 0), aI c, aI i] (M, R0 b) (QP M b (1 - b2i (stp S c i)) (cyK S c i.toNat)) := by
  refine CtI.mk (by decide +kernel) rfl (Nat.le_of_ble_eq_true rfl) (fun X K F hk => ?_)
  have hE := h.2.1
  refine aw_aload0 (pc := 0) F dX9_cycleSpan_0 ?_
  refine aw_aload0 (pc := 1) F dX9_cycleSpan_1 ?_
  refine aw_iload1 (pc := 2) F dX9_cycleSpan_2 ?_
  refine aw_iload2 (pc := 3) F dX9_cycleSpan_3 ?_
  refine aw_callVI2 (pc := 4) F dX9_cycleSpan_4 ml_9_299 rfl (by first | decide | (simp only [inB, cnt, rcnt]; omega)) (ct9_isStep _ _ S _ _ h9 h8 hS h) (Nat.le_of_ble_eq_true rfl) (by decide) (Nat.zero_le _) (fun v9 σ9 h9_4 => ?_)
  obtain ⟨hv, M1, g9, c1, c2⟩ := h9_4
  subst g9
  subst hv
  refine aw_callVI1 (pc := 7) F dX9_cycleSpan_7 ml_9_176 rfl (by first | decide | (simp only [inB, cnt, rcnt]; omega)) (ct9_good1 _ _ _ b2i_01) (Nat.le_of_ble_eq_true rfl) (by decide) (Nat.zero_le _) (fun v9 σ9 h9_7 => ?_)
  obtain ⟨rfl, rfl⟩ := h9_7
  refine aw_ifb_eq (tgt := 22) (pc := 10) F dX9_cycleSpan_10 (by decide) (fun c10 => ?_) (fun c10 => ?_)
  · refine aw_iconst (pc := 22) F dX9_cycleSpan_22 ?_
    exact aw_iret (pc := 23) F dX9_cycleSpan_23 rfl (Nat.zero_le _) (by first | exact qp9 c1 (fun _ => w2.1) | exact qp9 c1 (fun z => absurd z c10))
  · refine aw_aload0 (pc := 13) F dX9_cycleSpan_13 ?_
    refine aw_getR (pc := 14) F dX9_cycleSpan_14 fl_9_39 rfl (by first | decide | (simp only [inB, cnt, rcnt]; omega)) rfl nz22 rfl ?_
    refine aw_iload2 (pc := 17) F dX9_cycleSpan_17 ?_
    have lb := cyL_bd h c10.1.1 (show c < cyM S by have := c10.1.2; omega)
    have w2 := ((c2 c10.1).th (t := 1 - b2i (stp S c i))).2 i.toNat (by omega)
    rw [show ((i.toNat : Nat) : Int) = i by omega] at w2
    refine aw_iald (pc := 18) F dX9_cycleSpan_18 rfl (by first | decide | (simp only [inB, cnt, rcnt]; omega)) (by omega) ?_
    refine aw_goto (tgt := 23) (pc := 19) F dX9_cycleSpan_19 (by decide) ?_
    exact aw_iret (pc := 23) F dX9_cycleSpan_23 rfl (Nat.zero_le _) (by first | exact qp9 c1 (fun _ => w2.1) | exact qp9 c1 (fun z => absurd z c10))
theorem cq9_isForward (M : Id4 → Int → Int) (b : Bool) (S : Int → Int) (c i : Int) (h9 : inR c) (h8 : inR i) (hS : M (9, 0, 1, 0) = S) (h : Ok S) : CtI 20 0 yX9_isForward cX9_isForward 3 (some .boolean) [aR (9, 0, 0, 0), aI c, aI i] (M, R0 b) (QP M b (1 - b2i (stp S c i)) (cyB S c i.toNat)) := by
  refine CtI.mk (by decide +kernel) rfl (Nat.le_of_ble_eq_true rfl) (fun X K F hk => ?_)
  have hE := h.2.1
  have b01 := cyB_01 (S := S) (c := c) i.toNat
  refine aw_aload0 (pc := 0) F dX9_isForward_0 ?_
  refine aw_aload0 (pc := 1) F dX9_isForward_1 ?_
  refine aw_iload1 (pc := 2) F dX9_isForward_2 ?_
  refine aw_iload2 (pc := 3) F dX9_isForward_3 ?_
  refine aw_callVI2 (pc := 4) F dX9_isForward_4 ml_9_299 rfl (by first | decide | (simp only [inB, cnt, rcnt]; omega)) (ct9_isStep _ _ S _ _ h9 h8 hS h) (Nat.le_of_ble_eq_true rfl) (by decide) (Nat.zero_le _) (fun v9 σ9 h9_4 => ?_)
  obtain ⟨hv, M1, g9, c1, c2⟩ := h9_4
  subst g9
  subst hv
  refine aw_callVI1 (pc := 7) F dX9_isForward_7 ml_9_176 rfl (by first | decide | (simp only [inB, cnt, rcnt]; omega)) (ct9_good1 _ _ _ b2i_01) (Nat.le_of_ble_eq_true rfl) (by decide) (Nat.zero_le _) (fun v9 σ9 h9_7 => ?_)
  obtain ⟨rfl, rfl⟩ := h9_7
  refine aw_ifb_eq (tgt := 26) (pc := 10) F dX9_isForward_10 (by decide) (fun c10 => ?_) (fun c10 => ?_)
  · refine aw_iconst (pc := 26) F dX9_isForward_26 ?_
    exact aw_iret (pc := 27) F dX9_isForward_27 (nar_bool (by first | exact b2i_01 | decide)) (Nat.zero_le _) (by first | exact qp9 c1 (fun z => absurd z c10) | exact qp9 c1 (fun _ => c19.symm) | exact qp9 c1 (fun _ => by omega))
  · refine aw_aload0 (pc := 13) F dX9_isForward_13 ?_
    refine aw_getR (pc := 14) F dX9_isForward_14 fl_9_42 rfl (by first | decide | (simp only [inB, cnt, rcnt]; omega)) rfl nz23 rfl ?_
    refine aw_iload2 (pc := 17) F dX9_isForward_17 ?_
    have lb := cyL_bd h c10.1.1 (show c < cyM S by have := c10.1.2; omega)
    have w2 := ((c2 c10.1).th (t := 1 - b2i (stp S c i))).2 i.toNat (by omega)
    rw [show ((i.toNat : Nat) : Int) = i by omega] at w2
    refine aw_zald (pc := 18) F dX9_isForward_18 rfl (by first | decide | (simp only [inB, cnt, rcnt]; omega)) (by omega) ?_
    rw [w2.2]
    refine aw_if_eq (tgt := 26) (pc := 19) F dX9_isForward_19 (by decide) (by unfold inR; omega) (fun c19 => ?_) (fun c19 => ?_)
    · refine aw_iconst (pc := 26) F dX9_isForward_26 ?_
      exact aw_iret (pc := 27) F dX9_isForward_27 (nar_bool (by first | exact b2i_01 | decide)) (Nat.zero_le _) (by first | exact qp9 c1 (fun z => absurd z c10) | exact qp9 c1 (fun _ => c19.symm) | exact qp9 c1 (fun _ => by omega))
    · refine aw_iconst (pc := 22) F dX9_isForward_22 ?_
      refine aw_goto (tgt := 27) (pc := 23) F dX9_isForward_23 (by decide) ?_
      exact aw_iret (pc := 27) F dX9_isForward_27 (nar_bool (by first | exact b2i_01 | decide)) (Nat.zero_le _) (by first | exact qp9 c1 (fun z => absurd z c10) | exact qp9 c1 (fun _ => c19.symm) | exact qp9 c1 (fun _ => by omega))
noncomputable def trnS (S : Int → Int) (c w : Int) : Int := if w = 0 then nowS S c else if w = 1 then lstS S c else mstS S c
theorem cq9_turns (M : Id4 → Int → Int) (b : Bool) (S : Int → Int) (c w : Int) (h9 : inR c) (h8 : inR w) (hS : M (9, 0, 1, 0) = S) (h : Ok S) : CtI 19 0 yX9_turns cX9_turns 3 (some .int) [aR (9, 0, 0, 0), aI c, aI w] (M, R0 b) (QP M b (t2 (cyc S c) (0 ≤ w ∧ w ≤ 2)) (trnS S c w)) := by
  refine CtI.mk (by decide +kernel) rfl (Nat.le_of_ble_eq_true rfl) (fun X K F hk => ?_)
  obtain ⟨Q9, hQ⟩ : ∃ Q9, Q9 = EI X K 0 (QP M b (t2 (cyc S c) (0 ≤ w ∧ w ≤ 2)) (trnS S c w)) := ⟨_, rfl⟩
  have go : ∀ (M1 : Id4 → Int → Int) (x : Int), x = b2i (cyc S c) → same9 M M1 → (cyc S c → wayR S c M1) → AW X K 22 [aR (9, 0, 0, 0), aI c, aI w] [aI x, aR (9, 0, 0, 0)] (M1, R0 b) 0 Q9 := by
    intro M1 x hx c1 c2
    have s1 : ∀ t, thr M1 t (9, 0, 1, 0) = S := fun t => (same9_thr.s.trans c1.s).trans hS
    refine aw_iload2 (pc := 22) F dX9_turns_22 ?_
    refine aw_iconst (pc := 23) F dX9_turns_23 ?_
    refine aw_iconst (pc := 24) F dX9_turns_24 ?_
    refine aw_pcallS3 (pc := 25) F dX9_turns_25 ml_9_121 (ct9_isIn _ _ _ _ _ h8 (by unfold inR; omega) (by unfold inR; omega)) (Nat.le_of_ble_eq_true rfl) (by decide) (Nat.zero_le _) ?_
    refine aw_callVI2 (pc := 28) F dX9_turns_28 ml_9_197 rfl (by first | decide | (simp only [inB, cnt, rcnt]; omega)) (ct9_good2 _ _ _ _ (by rw [hx]; exact b2i_01) b2i_01) (Nat.le_of_ble_eq_true rfl) (by decide) (Nat.zero_le _) (fun v9 σ9 h9_28 => ?_)
    obtain ⟨rfl, rfl⟩ := h9_28
    rw [hx]
    rw [show (if b2i (cyc S c) = 0 then (1 : Int) else if b2i (0 ≤ w ∧ w ≤ 2) = 0 then 2 else 0) = t2 (cyc S c) (0 ≤ w ∧ w ≤ 2) by rfl]
    refine aw_ifb_ne (tgt := 36) (pc := 31) F dX9_turns_31 (by decide) (fun c31 => ?_) (fun c31 => ?_)
    · rw [b2i_1, b2i_1] at c31
      have h1 : c < cyM S := by have := c31.1.2; omega
      refine aw_iload2 (pc := 36) F dX9_turns_36 ?_
      refine aw_if_ne (tgt := 45) (pc := 37) F dX9_turns_37 (by decide) (by first | assumption | (unfold inR; omega)) (fun c37 => ?_) (fun c37 => ?_)
      · refine aw_iload2 (pc := 45) F dX9_turns_45 ?_
        refine aw_iconst (pc := 46) F dX9_turns_46 ?_
        refine aw_icmp_ne (tgt := 57) (pc := 47) F dX9_turns_47 (by decide) (by first | assumption | (unfold inR; omega)) (by first | assumption | (unfold inR; omega)) (fun c47 => ?_) (fun c47 => ?_)
        · refine aw_aload0 (pc := 57) F dX9_turns_57 ?_
          refine aw_pcallV0 (pc := 58) F dX9_turns_58 ml_9_314 rfl (by first | decide | (simp only [inB, cnt, rcnt]; omega)) (ct9_mostTurns _ _ S c (s1 _) h c31.1.1 h1 (c2 c31.1).th) (Nat.le_of_ble_eq_true rfl) (by decide) (Nat.zero_le _) ?_
          rw [hQ]
          exact aw_iret (pc := 61) F dX9_turns_61 rfl (Nat.zero_le _) ⟨_, rfl, c1.tr same9_thr, upd_same, fun _ => by unfold trnS; first | (rw [if_pos c37]; done) | (rw [if_neg c37, if_pos c47]; done) | (rw [if_neg c37, if_neg c47]; done)⟩
        · refine aw_aload0 (pc := 50) F dX9_turns_50 ?_
          refine aw_pcallV0 (pc := 51) F dX9_turns_51 ml_9_311 rfl (by first | decide | (simp only [inB, cnt, rcnt]; omega)) (ct9_leastTurns _ _ S c (s1 _) h c31.1.1 h1 (c2 c31.1).th) (Nat.le_of_ble_eq_true rfl) (by decide) (Nat.zero_le _) ?_
          refine aw_goto (tgt := 61) (pc := 54) F dX9_turns_54 (by decide) ?_
          rw [hQ]
          exact aw_iret (pc := 61) F dX9_turns_61 rfl (Nat.zero_le _) ⟨_, rfl, c1.tr same9_thr, upd_same, fun _ => by unfold trnS; first | (rw [if_pos c37]; done) | (rw [if_neg c37, if_pos c47]; done) | (rw [if_neg c37, if_neg c47]; done)⟩
      · refine aw_aload0 (pc := 40) F dX9_turns_40 ?_
        refine aw_pcallV0 (pc := 41) F dX9_turns_41 ml_9_308 rfl (by first | decide | (simp only [inB, cnt, rcnt]; omega)) (ct9_turnsNow _ _ S c (s1 _) h c31.1.1 h1 (c2 c31.1).th) (Nat.le_of_ble_eq_true rfl) (by decide) (Nat.zero_le _) ?_
        rw [hQ]
        exact aw_iret (pc := 44) F dX9_turns_44 rfl (Nat.zero_le _) ⟨_, rfl, c1.tr same9_thr, upd_same, fun _ => by unfold trnS; first | (rw [if_pos c37]; done) | (rw [if_neg c37, if_pos c47]; done) | (rw [if_neg c37, if_neg c47]; done)⟩
    · refine aw_iconst (pc := 34) F dX9_turns_34 ?_
      rw [hQ]
      exact aw_iret (pc := 35) F dX9_turns_35 rfl (Nat.zero_le _) ⟨_, rfl, c1.tr same9_thr, upd_same, fun z => absurd (show b2i (cyc S c) = 1 ∧ b2i (0 ≤ w ∧ w ≤ 2) = 1 from ⟨b2i_pos (Classical.byContradiction fun n => t2_ne (fun q => n q.1) z), b2i_pos (Classical.byContradiction fun n => t2_ne (fun q => n q.2) z)⟩) c31⟩
  refine aw_aload0 (pc := 0) F dX9_turns_0 ?_
  refine aw_aload0 (pc := 1) F dX9_turns_1 ?_
  refine aw_iload1 (pc := 2) F dX9_turns_2 ?_
  refine aw_callVI1 (pc := 3) F dX9_turns_3 ml_9_293 rfl (by first | decide | (simp only [inB, cnt, rcnt]; omega)) (ct9_isCycle _ _ S _ h9 hS h) (Nat.le_of_ble_eq_true rfl) (by decide) (Nat.zero_le _) (fun v9 σ9 h9_3 => ?_)
  obtain ⟨hv, M1, g9, c1, c2⟩ := h9_3
  subst g9
  subst hv
  refine aw_ifb_eq (tgt := 21) (pc := 6) F dX9_turns_6 (by decide) (fun c6 => ?_) (fun c6 => ?_)
  · refine aw_iconst (pc := 21) F dX9_turns_21 ?_
    rw [← hQ]
    first | exact go _ _ (b2i_pos c6).symm (c1.q.tr d1.q) (fun _ => d2) | exact go _ _ (b2i_neg c6).symm c1.q (fun z => absurd z c6)
  · refine aw_aload0 (pc := 9) F dX9_turns_9 ?_
    refine aw_iload1 (pc := 10) F dX9_turns_10 ?_
    refine aw_callVI1 (pc := 11) F dX9_turns_11 ml_9_296 rfl (by first | decide | (simp only [inB, cnt, rcnt]; omega)) (ct9_isCyc2 _ _ S _ (c1.s.trans hS) h c2 c6) (Nat.le_of_ble_eq_true rfl) (by decide) (Nat.zero_le _) (fun v9 σ9 h9_11 => ?_)
    obtain ⟨hv, M2, g9, d1, d2⟩ := h9_11
    subst g9
    subst hv
    refine aw_if_eq (tgt := 21) (pc := 14) F dX9_turns_14 (by decide) (by unfold inR; omega) (fun c9 => absurd c9 (by decide)) (fun _ => ?_)
    refine aw_iconst (pc := 17) F dX9_turns_17 ?_
    refine aw_goto (tgt := 22) (pc := 18) F dX9_turns_18 (by decide) ?_
    rw [← hQ]
    first | exact go _ _ (b2i_pos c6).symm (c1.q.tr d1.q) (fun _ => d2) | exact go _ _ (b2i_neg c6).symm c1.q (fun z => absurd z c6)
noncomputable def fiS (S : Int → Int) : Int := fstB (fun c => mstS S c < lstS S c) (cyM S).toNat 0
theorem treR.ch {S : Int → Int} {M M' : Id4 → Int → Int} (ht : treR S M) (hc : chW M M') : treR S M' := by
  obtain ⟨a, b, c⟩ := ht
  exact ⟨by rw [hc _ _ (by simp)]; exact a, fun k hk => by rw [hc _ _ (by simp)]; exact b k hk, fun c1 q0 q1 => by rw [hc _ _ (by simp)]; exact c c1 q0 q1⟩
theorem cq9_firstImpossible (M : Id4 → Int → Int) (b : Bool) (S : Int → Int) (hS : M (9, 0, 1, 0) = S) (h : Ok S) : CtI 19 0 yX9_firstImpossible cX9_firstImpossible 2 (some .int) [aR (9, 0, 0, 0)] (M, R0 b) (QP M b (1 - b2i (fiS S < cyM S)) (fiS S)) := by
  refine CtI.mk (by decide +kernel) rfl (Nat.le_of_ble_eq_true rfl) (fun X K F hk => ?_)
  have hT := h.1
  have hN := h.2.2.1
  have hE := h.2.1
  have cb : 0 ≤ cyM S ∧ cyM S ≤ ((S 20).toNat : Int) := cyN_bd (S := S) (S 20).toNat
  obtain ⟨Q9, hQ⟩ : ∃ Q9, Q9 = EI X K 0 (QP M b (1 - b2i (fiS S < cyM S)) (fiS S)) := ⟨_, rfl⟩
  have key : ∀ (j i : Nat) (M' : Id4 → Int → Int), (i : Int) + j = cyM S → same9 M M' → treR S M' → fstB (fun c => mstS S c < lstS S c) j (i : Int) = fiS S → AW X K 6 [aR (9, 0, 0, 0), aI i] [] (M', R0 b) 0 Q9 := by
    intro j
    induction j with
    | zero =>
      intro i M' hi a1 a2 hf
      have e1 : fiS S = i := hf.symm
      have c21 : M' (9, 0, 0, 0) 21 = cyM S := a2.1
      refine aw_iload1 (pc := 6) F dX9_firstImpossible_6 ?_
      refine aw_aload0 (pc := 7) F dX9_firstImpossible_7 ?_
      refine aw_getI (pc := 8) F dX9_firstImpossible_8 fl_9_277 rfl (by first | decide | (simp only [inB, cnt, rcnt]; omega)) rfl nz21 ?_
      refine aw_icmp_ge (tgt := 46) (pc := 11) F dX9_firstImpossible_11 (by decide) (by unfold inR; omega) (by unfold inR; omega) (fun c11 => ?_) (fun c11 => ?_)
      · refine aw_aload0 (pc := 46) F dX9_firstImpossible_46 ?_
        refine aw_iconst (pc := 47) F dX9_firstImpossible_47 ?_
        refine aw_putI (pc := 48) F dX9_firstImpossible_48 fl_9_54 fpi_9_4 rfl (by first | decide | (simp only [inB, cnt, rcnt]; omega)) rfl nz4 ?_
        refine aw_iconst (pc := 51) F dX9_firstImpossible_51 ?_
        rw [hQ]
        exact aw_iret (pc := 52) F dX9_firstImpossible_52 rfl (Nat.zero_le _) ⟨_, rfl, a1.tr same9_thr, (by rw [b2i_neg (by omega)]; exact upd_same), fun z => by rw [b2i_neg (by omega)] at z; omega⟩
      · omega
    | succ j ih =>
      intro i M' hi a1 a2 hf
      have c21 : M' (9, 0, 0, 0) 21 = cyM S := a2.1
      have hi0 : 0 ≤ (i : Int) := by omega
      have hi1 : (i : Int) < cyM S := by omega
      have lb := cyL_bd h hi0 hi1
      have m1 := soN_bd h (a := 3) (b := 2) (Or.inr rfl) (Or.inl rfl) hi0 hi1 _ (Nat.le_refl _)
      have m2 := soN_bd h (a := 2) (b := 3) (Or.inl rfl) (Or.inr rfl) hi0 hi1 _ (Nat.le_refl _)
      have dv : ∀ x : Int, -1000 ≤ x → x ≤ 1000 → -1000 ≤ x / S 0 ∧ x / S 0 ≤ 1000 := fun x x0 x1 => by
        have p1 := Int.mul_ediv_add_emod x (S 0)
        have p2 := Int.emod_nonneg x (show S 0 ≠ 0 by omega)
        have p3 := Int.emod_lt_of_pos x (show 0 < S 0 by omega)
        exact ⟨(Int.le_ediv_iff_mul_le (show 0 < S 0 by omega)).mpr (by
          have : -1000 * S 0 ≤ -1000 := by omega
          omega), Int.le_of_lt_add_one ((Int.ediv_lt_iff_lt_mul (show 0 < S 0 by omega)).mpr (by omega))⟩
      have d1 := dv (soN S i 3 2 (cyL S i)) (by omega) (by omega)
      have d2 := dv (- soN S i 2 3 (cyL S i)) (by omega) (by omega)
      have i1 : inR (mstS S i) := by unfold mstS inR; omega
      have i2 : inR (lstS S i) := by unfold lstS inR; omega
      unfold fstB at hf
      have yes : mstS S i < lstS S i → fiS S = i := fun z => by rw [if_pos z] at hf; exact hf.symm
      have no : ¬ mstS S i < lstS S i → fstB (fun c => mstS S c < lstS S c) j ((i : Int) + 1) = fiS S := fun z => by rw [if_neg z] at hf; exact hf
      refine aw_iload1 (pc := 6) F dX9_firstImpossible_6 ?_
      refine aw_aload0 (pc := 7) F dX9_firstImpossible_7 ?_
      refine aw_getI (pc := 8) F dX9_firstImpossible_8 fl_9_277 rfl (by first | decide | (simp only [inB, cnt, rcnt]; omega)) rfl nz21 ?_
      refine aw_icmp_ge (tgt := 46) (pc := 11) F dX9_firstImpossible_11 (by decide) (by unfold inR; omega) (by unfold inR; omega) (fun c11 => ?_) (fun c11 => ?_)
      · omega
      · refine aw_aload0 (pc := 14) F dX9_firstImpossible_14 ?_
        refine aw_iload1 (pc := 15) F dX9_firstImpossible_15 ?_
        refine aw_callVI1 (pc := 16) F dX9_firstImpossible_16 ml_9_296 rfl (by first | decide | (simp only [inB, cnt, rcnt]; omega)) (ct9_isCyc2 _ _ S _ (a1.s.trans hS) h a2 ⟨hi0, by omega⟩) (Nat.le_of_ble_eq_true rfl) (by decide) (Nat.zero_le _) (fun v9 σ9 h9_16 => ?_)
        obtain ⟨hv, M2, g9, d3, d4⟩ := h9_16
        subst g9
        subst hv
        have s2 : M2 (9, 0, 1, 0) = S := (d3.s.trans a1.s).trans hS
        refine aw_if_eq (tgt := 40) (pc := 19) F dX9_firstImpossible_19 (by decide) (by unfold inR; omega) (fun c9 => absurd c9 (by decide)) (fun _ => ?_)
        refine aw_aload0 (pc := 22) F dX9_firstImpossible_22 ?_
        refine aw_pcallV0 (pc := 23) F dX9_firstImpossible_23 ml_9_311 rfl (by first | decide | (simp only [inB, cnt, rcnt]; omega)) (ct9_leastTurns _ _ S _ s2 h hi0 hi1 d4) (Nat.le_of_ble_eq_true rfl) (by decide) (Nat.zero_le _) ?_
        refine aw_aload0 (pc := 26) F dX9_firstImpossible_26 ?_
        refine aw_pcallV0 (pc := 27) F dX9_firstImpossible_27 ml_9_314 rfl (by first | decide | (simp only [inB, cnt, rcnt]; omega)) (ct9_mostTurns _ _ S _ s2 h hi0 hi1 d4) (Nat.le_of_ble_eq_true rfl) (by decide) (Nat.zero_le _) ?_
        refine aw_icmp_le (tgt := 40) (pc := 30) F dX9_firstImpossible_30 (by decide) (by assumption) (by assumption) (fun c30 => ?_) (fun c30 => ?_)
        · refine aw_iinc1 (pc := 40) F dX9_firstImpossible_40 rfl hk.symm ?_
          refine aw_goto (tgt := 6) (pc := 43) F dX9_firstImpossible_43 (by decide) ?_
          exact ih (i + 1) M2 (by omega) (a1.tr d3.q) (a2.ch d3) (no (by omega))
        · refine aw_aload0 (pc := 33) F dX9_firstImpossible_33 ?_
          refine aw_iconst (pc := 34) F dX9_firstImpossible_34 ?_
          refine aw_putI (pc := 35) F dX9_firstImpossible_35 fl_9_54 fpi_9_4 rfl (by first | decide | (simp only [inB, cnt, rcnt]; omega)) rfl nz4 ?_
          refine aw_iload1 (pc := 38) F dX9_firstImpossible_38 ?_
          rw [hQ]
          exact aw_iret (pc := 39) F dX9_firstImpossible_39 rfl (Nat.zero_le _) ⟨_, rfl, (a1.tr d3.q).tr same9_thr, (by have := yes c30; rw [b2i_pos (by omega)]; exact upd_same), fun _ => (yes c30).symm⟩
  refine aw_aload0 (pc := 0) F dX9_firstImpossible_0 ?_
  refine aw_callVV0 (pc := 1) F dX9_firstImpossible_1 ml_9_290 rfl (by first | decide | (simp only [inB, cnt, rcnt]; omega)) (ct9_laysTree _ _ S hS h) (Nat.le_of_ble_eq_true rfl) (by decide) (Nat.zero_le _) (fun σ9 h9_1 => ?_)
  obtain ⟨M1, g9, c1, c2⟩ := h9_1
  subst g9
  refine aw_iconst (pc := 4) F dX9_firstImpossible_4 ?_
  refine aw_istore1 (pc := 5) F dX9_firstImpossible_5 rfl hk.symm ?_
  rw [← hQ]
  exact key (cyM S).toNat 0 M1 (by omega) c1.q c2 rfl
