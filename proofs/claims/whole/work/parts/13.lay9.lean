/-! 13: the reference lays its sets -/
theorem ct9_narrows (M : Id4 → Int → Int) (b : Bool) (T : Nat) (a c x : Int) (hT : M (9, 0, 1, 0) 0 = (T : Int)) (h : 2 ≤ T ∧ T ≤ 24) (hA : MatOk T (M (9, 0, 17, 0))) (ha : 0 ≤ a ∧ a < 6) (hc : 0 ≤ c ∧ c < 6) : CtV 3 0 yX9_narrows cX9_narrows 4 none [aR (9, 0, 0, 0), aI a, aI c, aI x] (M, R0 b) (fun σ' => σ' = (setA M (9, 0, 17, 0) (narA T (M (9, 0, 17, 0)) a c x), R0 b)) := by
  refine CtV.mk (by decide +kernel) rfl (Nat.le_of_ble_eq_true rfl) (fun X K F hk => ?_)
  have h1 := (hA (6 * a + c) (by omega) (by omega)).and h.2 x
  have e1 : ∀ v, updM M (9, 0, 17, 0) (6 * a + c) v (9, 0, 17, 0) (6 * a + c) = v := fun v => upd_same
  refine aw_aload0 (pc := 0) F dX9_narrows_0 ?_
  refine aw_getR (pc := 1) F dX9_narrows_1 fl_9_26 rfl (by first | decide | (simp only [inB, cnt, rcnt]; omega)) rfl nz16 rfl ?_
  refine aw_iload1 (pc := 4) F dX9_narrows_4 ?_
  refine aw_iload2 (pc := 5) F dX9_narrows_5 ?_
  refine aw_pcallS2 (pc := 6) F dX9_narrows_6 ml_9_230 (ct9_pair _ _ _ _) (Nat.le_of_ble_eq_true rfl) (by decide) (Nat.zero_le _) ?_
  refine aw_dup2 (pc := 9) F dX9_narrows_9 ?_
  refine aw_iald (pc := 10) F dX9_narrows_10 rfl (by first | decide | (simp only [inB, cnt, rcnt]; omega)) (by omega) ?_
  refine aw_iload3 (pc := 11) F dX9_narrows_11 ?_
  refine aw_iand (pc := 12) F dX9_narrows_12 ?_
  refine aw_iast (pc := 13) F dX9_narrows_13 rfl (by first | decide | (simp only [inB, cnt, rcnt]; omega)) (by omega) ?_
  refine aw_aload0 (pc := 14) F dX9_narrows_14 ?_
  refine aw_getR (pc := 15) F dX9_narrows_15 fl_9_26 rfl (by first | decide | (simp only [inB, cnt, rcnt]; omega)) rfl nz16 rfl ?_
  refine aw_iload2 (pc := 18) F dX9_narrows_18 ?_
  refine aw_iload1 (pc := 19) F dX9_narrows_19 ?_
  refine aw_pcallS2 (pc := 20) F dX9_narrows_20 ml_9_230 (ct9_pair _ _ _ _) (Nat.le_of_ble_eq_true rfl) (by decide) (Nat.zero_le _) ?_
  refine aw_aload0 (pc := 23) F dX9_narrows_23 ?_
  refine aw_aload0 (pc := 24) F dX9_narrows_24 ?_
  refine aw_getR (pc := 25) F dX9_narrows_25 fl_9_26 rfl (by first | decide | (simp only [inB, cnt, rcnt]; omega)) rfl nz16 rfl ?_
  refine aw_iload1 (pc := 28) F dX9_narrows_28 ?_
  refine aw_iload2 (pc := 29) F dX9_narrows_29 ?_
  refine aw_pcallS2 (pc := 30) F dX9_narrows_30 ml_9_230 (ct9_pair _ _ _ _) (Nat.le_of_ble_eq_true rfl) (by decide) (Nat.zero_le _) ?_
  refine aw_iald (pc := 33) F dX9_narrows_33 rfl (by first | decide | (simp only [inB, cnt, rcnt]; omega)) (by omega) ?_
  refine aw_pcallV1 (pc := 34) F dX9_narrows_34 ml_9_233 rfl (by first | decide | (simp only [inB, cnt, rcnt]; omega)) (ct9_turned _ _ T _ hT h (by rw [e1]; exact h1)) (Nat.le_of_ble_eq_true rfl) (by decide) (Nat.zero_le _) ?_
  refine aw_iast (pc := 37) F dX9_narrows_37 rfl (by first | decide | (simp only [inB, cnt, rcnt]; omega)) (by omega) ?_
  exact aw_vret (pc := 38) F dX9_narrows_38 (Nat.zero_le _) (by rw [e1, upd_asA, upd_asA, setA_setA, setA_same]; rfl)
theorem ct9_laysSets (M : Id4 → Int → Int) (b : Bool) (T : Nat) (hT : M (9, 0, 1, 0) 0 = (T : Int)) (h : Ok (M (9, 0, 1, 0))) : CtV 5 0 yX9_laysSets cX9_laysSets 3 none [aR (9, 0, 0, 0)] (M, R0 b) (fun σ' => σ' = (setA M (9, 0, 17, 0) (layN (M (9, 0, 1, 0)) (fillA (M (9, 0, 17, 0)) (lay0 T) 36) (M (9, 0, 1, 0) 20).toNat), R0 b)) := by
  refine CtV.mk (by decide +kernel) rfl (Nat.le_of_ble_eq_true rfl) (fun X K F hk => ?_)
  have hT2 : 2 ≤ T ∧ T ≤ 24 := by have := h.1; omega
  have eT : (M (9, 0, 1, 0) 0).toNat = T := by omega
  have hN := h.2.2.1
  have key3 : ∀ (j n : Nat) (M' : Id4 → Int → Int), (n : Int) + j = M (9, 0, 1, 0) 20 → M' = setA M (9, 0, 17, 0) (layN (M (9, 0, 1, 0)) (fillA (M (9, 0, 17, 0)) (lay0 T) 36) n) → AW X K 53 [aR (9, 0, 0, 0), aI n, aI 6] [] (M', R0 b) 0 (EV X K 0 (fun σ' => σ' = (setA M (9, 0, 17, 0) (layN (M (9, 0, 1, 0)) (fillA (M (9, 0, 17, 0)) (lay0 T) 36) (M (9, 0, 1, 0) 20).toNat), R0 b))) := by
    intro j
    induction j with
    | zero =>
      intro n M' hn hM
      have s1 : M' (9, 0, 1, 0) = M (9, 0, 1, 0) := by rw [hM]; exact setA_ne (by decide)
      have s2 := congrFun s1 20
      refine aw_iload1 (pc := 53) F dX9_laysSets_53 ?_
      refine aw_aload0 (pc := 54) F dX9_laysSets_54 ?_
      refine aw_getR (pc := 55) F dX9_laysSets_55 fl_9_7 rfl (by first | decide | (simp only [inB, cnt, rcnt]; omega)) rfl nz0 rfl ?_
      refine aw_bipush (pc := 58) F dX9_laysSets_58 (by decide) ?_
      refine aw_iald (pc := 60) F dX9_laysSets_60 rfl (by first | decide | (simp only [inB, cnt, rcnt]; omega)) (by omega) ?_
      refine aw_icmp_ge (tgt := 91) (pc := 61) F dX9_laysSets_61 (by decide) (by unfold inR; omega) (by unfold inR; omega) (fun c61 => ?_) (fun c61 => ?_)
      · exact aw_vret (pc := 91) F dX9_laysSets_91 (Nat.zero_le _) (by rw [hM, show (M (9, 0, 1, 0) 20).toNat = n by omega])
      · omega
    | succ j ih =>
      intro n M' hn hM
      have s1 : M' (9, 0, 1, 0) = M (9, 0, 1, 0) := by rw [hM]; exact setA_ne (by decide)
      have s2 := congrFun s1 20
      have sA : M' (9, 0, 17, 0) = layN (M (9, 0, 1, 0)) (fillA (M (9, 0, 17, 0)) (lay0 T) 36) n := by rw [hM]; exact setA_same
      have h3 := h.2.2.2.2 n (by omega) (by omega)
      unfold SpOk at h3
      rw [← s1] at h3
      have hE := h.2.1
      rw [← s1] at hE
      have hmat := layN_ok (A := fillA (M (9, 0, 17, 0)) (lay0 T) 36) h (by rw [eT]; exact lay0_ok (by omega) (by omega) _) n (by omega)
      rw [eT, ← sA] at hmat
      refine aw_iload1 (pc := 53) F dX9_laysSets_53 ?_
      refine aw_aload0 (pc := 54) F dX9_laysSets_54 ?_
      refine aw_getR (pc := 55) F dX9_laysSets_55 fl_9_7 rfl (by first | decide | (simp only [inB, cnt, rcnt]; omega)) rfl nz0 rfl ?_
      refine aw_bipush (pc := 58) F dX9_laysSets_58 (by decide) ?_
      refine aw_iald (pc := 60) F dX9_laysSets_60 rfl (by first | decide | (simp only [inB, cnt, rcnt]; omega)) (by omega) ?_
      refine aw_icmp_ge (tgt := 91) (pc := 61) F dX9_laysSets_61 (by decide) (by unfold inR; omega) (by unfold inR; omega) (fun c61 => ?_) (fun c61 => ?_)
      · omega
      · refine aw_aload0 (pc := 64) F dX9_laysSets_64 ?_
        refine aw_aload0 (pc := 65) F dX9_laysSets_65 ?_
        refine aw_iload1 (pc := 66) F dX9_laysSets_66 ?_
        refine aw_iconst (pc := 67) F dX9_laysSets_67 ?_
        refine aw_pcallV2 (pc := 68) F dX9_laysSets_68 ml_9_200 rfl (by first | decide | (simp only [inB, cnt, rcnt]; omega)) (ct9_of _ _ _ _ (by omega) (by omega)) (Nat.le_of_ble_eq_true rfl) (by decide) (Nat.zero_le _) ?_
        refine aw_aload0 (pc := 71) F dX9_laysSets_71 ?_
        refine aw_iload1 (pc := 72) F dX9_laysSets_72 ?_
        refine aw_iconst (pc := 73) F dX9_laysSets_73 ?_
        refine aw_pcallV2 (pc := 74) F dX9_laysSets_74 ml_9_200 rfl (by first | decide | (simp only [inB, cnt, rcnt]; omega)) (ct9_of _ _ _ _ (by omega) (by omega)) (Nat.le_of_ble_eq_true rfl) (by decide) (Nat.zero_le _) ?_
        refine aw_aload0 (pc := 77) F dX9_laysSets_77 ?_
        refine aw_iload1 (pc := 78) F dX9_laysSets_78 ?_
        refine aw_pcallV1 (pc := 79) F dX9_laysSets_79 ml_9_239 rfl (by first | decide | (simp only [inB, cnt, rcnt]; omega)) (ct9_keptBits _ _ T _ (by rw [s1]; exact hT) (by rw [s1]; exact h) (by omega)) (Nat.le_of_ble_eq_true rfl) (by decide) (Nat.zero_le _) ?_
        refine aw_callVV3 (pc := 82) F dX9_laysSets_82 ml_9_242 rfl (by first | decide | (simp only [inB, cnt, rcnt]; omega)) (ct9_narrows _ _ T _ _ _ (by rw [s1]; exact hT) hT2 hmat (by omega) (by omega)) (Nat.le_of_ble_eq_true rfl) (by decide) (Nat.zero_le _) (fun σ9 h9_82 => ?_)
        obtain rfl := h9_82
        refine aw_iinc1 (pc := 85) F dX9_laysSets_85 rfl hk.symm ?_
        refine aw_goto (tgt := 53) (pc := 88) F dX9_laysSets_88 (by decide) ?_
        exact ih (n + 1) _ (by omega) (by rw [sA, s1, hM, setA_setA]; show _ = setA M (9, 0, 17, 0) (narA (M (9, 0, 1, 0) 0).toNat _ _ _ _); rw [eT])
  have key1 : ∀ (j i k : Nat) (M' : Id4 → Int → Int), i < 6 → k + j = 6 → M' = setA M (9, 0, 17, 0) (fillA (M (9, 0, 17, 0)) (lay0 T) (6 * (i : Int) + (k : Int))) → (∀ M2 : Id4 → Int → Int, M2 = setA M (9, 0, 17, 0) (fillA (M (9, 0, 17, 0)) (lay0 T) (6 * ((i + 1 : Nat) : Int))) → AW X K 2 [aR (9, 0, 0, 0), aI ((i + 1 : Nat) : Int), aI 6] [] (M2, R0 b) 0 (EV X K 0 (fun σ' => σ' = (setA M (9, 0, 17, 0) (layN (M (9, 0, 1, 0)) (fillA (M (9, 0, 17, 0)) (lay0 T) 36) (M (9, 0, 1, 0) 20).toNat), R0 b)))) → AW X K 10 [aR (9, 0, 0, 0), aI i, aI k] [] (M', R0 b) 0 (EV X K 0 (fun σ' => σ' = (setA M (9, 0, 17, 0) (layN (M (9, 0, 1, 0)) (fillA (M (9, 0, 17, 0)) (lay0 T) 36) (M (9, 0, 1, 0) 20).toNat), R0 b))) := by
    intro j
    induction j with
    | zero =>
      intro i k M' hi hk9 hM cont
      obtain rfl : k = 6 := by omega
      refine aw_iload2 (pc := 10) F dX9_laysSets_10 ?_
      refine aw_bipush (pc := 11) F dX9_laysSets_11 (by decide) ?_
      refine aw_icmp_ge (tgt := 45) (pc := 13) F dX9_laysSets_13 (by decide) (by unfold inR; omega) (by unfold inR; omega) (fun c13 => ?_) (fun c13 => ?_)
      · refine aw_iinc1 (pc := 45) F dX9_laysSets_45 rfl hk.symm ?_
        refine aw_goto (tgt := 2) (pc := 48) F dX9_laysSets_48 (by decide) ?_
        exact cont _ (by rw [hM]; congr 2)
      · omega
    | succ j ih =>
      intro i k M' hi hk9 hM cont
      have s1 : M' (9, 0, 1, 0) = M (9, 0, 1, 0) := by rw [hM]; exact setA_ne (by decide)
      have fin : ∀ v, v = lay0 T (6 * (i : Int) + (k : Int)) → updM M' (9, 0, 17, 0) (6 * (i : Int) + (k : Int)) v = setA M (9, 0, 17, 0) (fillA (M (9, 0, 17, 0)) (lay0 T) (6 * (i : Int) + ((k + 1 : Nat) : Int))) := by
        intro v hv
        rw [hM, upd_setA, hv, fillA_step (by omega)]
        congr 2
      refine aw_iload2 (pc := 10) F dX9_laysSets_10 ?_
      refine aw_bipush (pc := 11) F dX9_laysSets_11 (by decide) ?_
      refine aw_icmp_ge (tgt := 45) (pc := 13) F dX9_laysSets_13 (by decide) (by unfold inR; omega) (by unfold inR; omega) (fun c13 => ?_) (fun c13 => ?_)
      · omega
      · refine aw_aload0 (pc := 16) F dX9_laysSets_16 ?_
        refine aw_getR (pc := 17) F dX9_laysSets_17 fl_9_26 rfl (by first | decide | (simp only [inB, cnt, rcnt]; omega)) rfl nz16 rfl ?_
        refine aw_iload1 (pc := 20) F dX9_laysSets_20 ?_
        refine aw_iload2 (pc := 21) F dX9_laysSets_21 ?_
        refine aw_pcallS2 (pc := 22) F dX9_laysSets_22 ml_9_230 (ct9_pair _ _ _ _) (Nat.le_of_ble_eq_true rfl) (by decide) (Nat.zero_le _) ?_
        refine aw_iload1 (pc := 25) F dX9_laysSets_25 ?_
        refine aw_iload2 (pc := 26) F dX9_laysSets_26 ?_
        refine aw_icmp_ne (tgt := 34) (pc := 27) F dX9_laysSets_27 (by decide) (by unfold inR; omega) (by unfold inR; omega) (fun c27 => ?_) (fun c27 => ?_)
        · refine aw_aload0 (pc := 34) F dX9_laysSets_34 ?_
          refine aw_pcallV0 (pc := 35) F dX9_laysSets_35 ml_9_236 rfl (by first | decide | (simp only [inB, cnt, rcnt]; omega)) (ct9_allBits _ _ T (by rw [s1]; exact hT) (by omega)) (Nat.le_of_ble_eq_true rfl) (by decide) (Nat.zero_le _) ?_
          refine aw_iast (pc := 38) F dX9_laysSets_38 rfl (by first | decide | (simp only [inB, cnt, rcnt]; omega)) (by omega) ?_
          refine aw_iinc2 (pc := 39) F dX9_laysSets_39 rfl hk.symm ?_
          refine aw_goto (tgt := 10) (pc := 42) F dX9_laysSets_42 (by decide) ?_
          exact ih i (k + 1) _ hi (by omega) (fin _ (by rw [lay0_at (by omega)]; first | rw [if_pos (by assumption)] | rw [if_neg (by assumption)])) cont
        · refine aw_iconst (pc := 30) F dX9_laysSets_30 ?_
          refine aw_goto (tgt := 38) (pc := 31) F dX9_laysSets_31 (by decide) ?_
          refine aw_iast (pc := 38) F dX9_laysSets_38 rfl (by first | decide | (simp only [inB, cnt, rcnt]; omega)) (by omega) ?_
          refine aw_iinc2 (pc := 39) F dX9_laysSets_39 rfl hk.symm ?_
          refine aw_goto (tgt := 10) (pc := 42) F dX9_laysSets_42 (by decide) ?_
          exact ih i (k + 1) _ hi (by omega) (fin _ (by rw [lay0_at (by omega)]; first | rw [if_pos (by assumption)] | rw [if_neg (by assumption)])) cont
  have key0 : ∀ (j i : Nat) (w : AV) (M' : Id4 → Int → Int), wide w = false → (i = 6 → w = aI 6) → i + j = 6 → M' = setA M (9, 0, 17, 0) (fillA (M (9, 0, 17, 0)) (lay0 T) (6 * (i : Int))) → AW X K 2 [aR (9, 0, 0, 0), aI i, w] [] (M', R0 b) 0 (EV X K 0 (fun σ' => σ' = (setA M (9, 0, 17, 0) (layN (M (9, 0, 1, 0)) (fillA (M (9, 0, 17, 0)) (lay0 T) 36) (M (9, 0, 1, 0) 20).toNat), R0 b))) := by
    intro j
    induction j with
    | zero =>
      intro i w M' hw h6 hi hM
      obtain rfl : i = 6 := by omega
      obtain rfl := h6 rfl
      refine aw_iload1 (pc := 2) F dX9_laysSets_2 ?_
      refine aw_bipush (pc := 3) F dX9_laysSets_3 (by decide) ?_
      refine aw_icmp_ge (tgt := 51) (pc := 5) F dX9_laysSets_5 (by decide) (by unfold inR; omega) (by unfold inR; omega) (fun c5 => ?_) (fun c5 => ?_)
      · refine aw_iconst (pc := 51) F dX9_laysSets_51 ?_
        refine aw_istore1 (pc := 52) F dX9_laysSets_52 rfl hk.symm ?_
        exact key3 (M (9, 0, 1, 0) 20).toNat 0 _ (by omega) hM
      · omega
    | succ j ih =>
      intro i w M' hw h6 hi hM
      refine aw_iload1 (pc := 2) F dX9_laysSets_2 ?_
      refine aw_bipush (pc := 3) F dX9_laysSets_3 (by decide) ?_
      refine aw_icmp_ge (tgt := 51) (pc := 5) F dX9_laysSets_5 (by decide) (by unfold inR; omega) (by unfold inR; omega) (fun c5 => ?_) (fun c5 => ?_)
      · omega
      · refine aw_iconst (pc := 8) F dX9_laysSets_8 ?_
        refine aw_istore2 (pc := 9) F dX9_laysSets_9 (by simp only [List.all_cons, List.all_nil, hw]; rfl) hk.symm ?_
        exact key1 6 i 0 _ (by omega) (by omega) (by rw [hM]; congr 2) (fun M2 h2 => ih (i + 1) (aI 6) M2 rfl (fun _ => rfl) (by omega) h2)
  refine aw_iconst (pc := 0) F dX9_laysSets_0 ?_
  refine aw_istore1 (pc := 1) F dX9_laysSets_1 rfl hk.symm ?_
  exact key0 6 0 aX M rfl (fun z => absurd z (by decide)) (by omega) (by rw [show (6 * ((0 : Nat) : Int)) = 0 by rfl, fillA_0, setA_id])
