/-! 85: the class loads, finds -/
def ch30 (M M' : Id4 → Int → Int) : Prop := ∀ q, ¬ (q.1 = 3 ∧ q.2.1 = 0) → M' q = M q
theorem ch30.rf {M : Id4 → Int → Int} : ch30 M M := fun _ _ => rfl
theorem ch30.up {M M1 : Id4 → Int → Int} {c : Nat} {r k v : Int} (h1 : ch30 M M1) : ch30 M (updM M1 (3, 0, c, r) k v) := fun q h => (upd_off (fun z => h (by rw [z]; exact ⟨rfl, rfl⟩))).trans (h1 q h)
theorem ch30.cp {M M1 : Id4 → Int → Int} {q0 : Id4} {c : Nat} {r a b n : Int} (h1 : ch30 M M1) : ch30 M (cpyM M1 q0 a (3, 0, c, r) b n) := fun q h => (cpy_off (fun z => h (by rw [z]; exact ⟨rfl, rfl⟩))).trans (h1 q h)
theorem nmOk_congr {W W' : Int → Int} {l x y : Int} (h : nmOk W l x y) (hW : ∀ k, 0 ≤ k → k < l → W' k = W k) : nmOk W' l x y := by
  obtain ⟨a, b, c, d⟩ := h
  refine ⟨a, fun k k0 k1 => by rw [hW k k0 k1]; exact b k k0 k1, ?_, ?_⟩
  · rw [c]
    unfold cdI
    exact (cdN_congr _ (fun k k0 k1 => hW _ (by omega) (by omega))).symm
  · rw [d]
    unfold cdI
    exact (cdN_congr _ (fun k k0 k1 => hW _ (by omega) (by omega))).symm
theorem ct3_copyFrom (M : Id4 → Int → Int) (b : Bool) (c : Int) (S : Int → Int) (hN : NmR M 1 c S) (hb : NmB M) (hc : 0 ≤ c ∧ c ≤ 6) : CtV 3 0 yX3_copyFrom cX3_copyFrom 3 none [aR (3, 0, 0, 0), aR (3, 1, 0, 0)] (M, R0 b) (fun σ' => ∃ M', σ' = (M', R0 b) ∧ ch30 M M' ∧ NmR M' 0 c S) := by
  refine CtV.mk (by decide +kernel) rfl (Nat.le_of_ble_eq_true rfl) (fun X K F hk => ?_)
  obtain ⟨Q9, hQ⟩ : ∃ Q9, Q9 = EV X K 0 (fun σ' => ∃ M', σ' = (M', R0 b) ∧ ch30 M M' ∧ NmR M' 0 c S) := ⟨_, rfl⟩
  have loop : ∀ (f : Nat) (i : Int) (M' : Id4 → Int → Int), i + f = c → 0 ≤ i → ch30 M M' → M' (3, 0, 0, 0) 2 = c → (∀ e, 0 ≤ e → e < i → nmOk (M' (3, 0, 11, e)) (M' (3, 0, 2, 0) e) (S (2 + 2 * e)) (S (2 + 2 * e + 1))) → AW X K 10 [aR (3, 0, 0, 0), aR (3, 1, 0, 0), aI i] [] (M', R0 b) 0 Q9 := by
    intro f
    induction f with
    | zero =>
      intro i M' hi i0 a1 a2 a3
      refine aw_iload2 (pc := 10) F dX3_copyFrom_10 ?_
      refine aw_aload0 (pc := 11) F dX3_copyFrom_11 ?_
      refine aw_getI (pc := 12) F dX3_copyFrom_12 fl_3_20 rfl (by first | decide | (simp only [inB, cnt, rcnt]; omega)) rfl nz2 ?_
      refine aw_icmp_ge (tgt := 55) (pc := 15) F dX3_copyFrom_15 (by decide) (by unfold inR; omega) (by unfold inR; omega) (fun c15 => ?_) (fun c15 => ?_)
      · rw [hQ]
        exact aw_vret (pc := 55) F dX3_copyFrom_55 (Nat.zero_le _) ⟨M', rfl, a1, a2, fun e e0 e1 => a3 e e0 (by omega)⟩
      · omega
    | succ f ih =>
      intro i M' hi i0 a1 a2 a3
      have ni := hN.2 i i0 (by omega)
      have l1 : M' (3, 1, 2, 0) = M (3, 1, 2, 0) := a1 _ (by simp)
      have l2 : M' (3, 1, 11, i) = M (3, 1, 11, i) := a1 _ (by simp)
      refine aw_iload2 (pc := 10) F dX3_copyFrom_10 ?_
      refine aw_aload0 (pc := 11) F dX3_copyFrom_11 ?_
      refine aw_getI (pc := 12) F dX3_copyFrom_12 fl_3_20 rfl (by first | decide | (simp only [inB, cnt, rcnt]; omega)) rfl nz2 ?_
      refine aw_icmp_ge (tgt := 55) (pc := 15) F dX3_copyFrom_15 (by decide) (by unfold inR; omega) (by unfold inR; omega) (fun c15 => ?_) (fun c15 => ?_)
      · omega
      · refine aw_aload0 (pc := 18) F dX3_copyFrom_18 ?_
        refine aw_getR (pc := 19) F dX3_copyFrom_19 fl_3_16 rfl (by first | decide | (simp only [inB, cnt, rcnt]; omega)) rfl nz1 rfl ?_
        refine aw_iload2 (pc := 22) F dX3_copyFrom_22 ?_
        refine aw_aload1 (pc := 23) F dX3_copyFrom_23 ?_
        refine aw_getR (pc := 24) F dX3_copyFrom_24 fl_3_16 rfl (by first | decide | (simp only [inB, cnt, rcnt]; omega)) rfl nz1 rfl ?_
        refine aw_iload2 (pc := 27) F dX3_copyFrom_27 ?_
        refine aw_iald (pc := 28) F dX3_copyFrom_28 rfl (by first | decide | (simp only [inB, cnt, rcnt]; omega)) (by omega) ?_
        refine aw_iast (pc := 29) F dX3_copyFrom_29 rfl (by first | decide | (simp only [inB, cnt, rcnt]; omega)) (by omega) ?_
        refine aw_aload1 (pc := 30) F dX3_copyFrom_30 ?_
        refine aw_getR (pc := 31) F dX3_copyFrom_31 fl_3_11 rfl (by first | decide | (simp only [inB, cnt, rcnt]; omega)) rfl nz0 rfl ?_
        refine aw_iload2 (pc := 34) F dX3_copyFrom_34 ?_
        refine aw_aald (pc := 35) F dX3_copyFrom_35 rfl (by decide) (by first | decide | (simp only [inB, cnt, rcnt]; omega)) (by omega) rfl ?_
        refine aw_iconst (pc := 36) F dX3_copyFrom_36 ?_
        refine aw_aload0 (pc := 37) F dX3_copyFrom_37 ?_
        refine aw_getR (pc := 38) F dX3_copyFrom_38 fl_3_11 rfl (by first | decide | (simp only [inB, cnt, rcnt]; omega)) rfl nz0 rfl ?_
        refine aw_iload2 (pc := 41) F dX3_copyFrom_41 ?_
        refine aw_aald (pc := 42) F dX3_copyFrom_42 rfl (by decide) (by first | decide | (simp only [inB, cnt, rcnt]; omega)) (by omega) rfl ?_
        refine aw_iconst (pc := 43) F dX3_copyFrom_43 ?_
        refine aw_bipush (pc := 44) F dX3_copyFrom_44 (by decide) ?_
        refine aw_copy (pc := 46) F dX3_copyFrom_46 mc_3_24 rfl rfl (by first | decide | omega) (by first | decide | (simp only [inB, cnt, rcnt]; omega)) (by first | decide | (simp only [inB, cnt, rcnt]; omega)) (by omega) (by omega) (by omega) (fun k k0 k1 => fit_b (by rw [upd_off (by simp), l2]; exact hb i k (by omega) (by omega) (by omega) (by omega))) (Nat.le_of_ble_eq_true rfl) (by first | decide | omega) ?_
        refine aw_iinc2 (pc := 49) F dX3_copyFrom_49 rfl hk.symm ?_
        refine aw_goto (tgt := 10) (pc := 52) F dX3_copyFrom_52 (by decide) ?_
        refine ih (i + 1) _ (by omega) (by omega) (a1.up.cp) (by rw [cpy_off (by simp), upd_off (by decide)]; exact a2) (fun e e0 e1 => ?_)
        have g2 : cpyM (updM M' (3, 0, 2, 0) i (M' (3, 1, 2, 0) i)) (3, 1, 11, i) 0 (3, 0, 11, i) 0 8 (3, 0, 2, 0) e = updM M' (3, 0, 2, 0) i (M' (3, 1, 2, 0) i) (3, 0, 2, 0) e := by rw [cpy_off (by simp)]
        rw [g2]
        by_cases z : e = i
        · subst z
          rw [upd_same, l1]
          refine nmOk_congr ni (fun k k0 k1 => ?_)
          rw [cpy_at ⟨k0, by have := ni.1; omega⟩, upd_off (by simp), l2]
        · rw [upd_ne (Or.inr z), cpy_off (by simp; exact z), upd_off (by simp)]
          exact a3 e e0 (by omega)
  refine aw_aload0 (pc := 0) F dX3_copyFrom_0 ?_
  refine aw_aload1 (pc := 1) F dX3_copyFrom_1 ?_
  refine aw_getI (pc := 2) F dX3_copyFrom_2 fl_3_20 rfl (by first | decide | (simp only [inB, cnt, rcnt]; omega)) rfl nz2 ?_
  refine aw_putI (pc := 5) F dX3_copyFrom_5 fl_3_20 fpi_3_2 rfl (by first | decide | (simp only [inB, cnt, rcnt]; omega)) rfl nz2 ?_
  refine aw_iconst (pc := 8) F dX3_copyFrom_8 ?_
  refine aw_istore2 (pc := 9) F dX3_copyFrom_9 rfl hk.symm ?_
  rw [hN.1, ← hQ]
  exact loop c.toNat 0 _ (by omega) (by omega) (ch30.rf.up) upd_same (fun e e0 e1 => absurd e1 (by omega))
