/-! 92: a name on the page -/
def pWd (p : Pg) (W : Int → Int) : Nat → Pg
  | 0 => p
  | n + 1 => pPut (pWd p W n) (W n)
theorem ct3_putOn (M : Id4 → Int → Int) (b : Bool) (c e : Int) (S : Int → Int) (p : Pg) (hN : NmR M 0 c S) (hc : c ≤ 6) (he : 0 ≤ e ∧ e < c) (hp : PgR M p) : CtV 2 0 yX3_putOn cX3_putOn 4 none [aR (3, 0, 0, 0), aR (4, 0, 0, 0), aI e] (M, R0 b) (fun σ' => ∃ M', σ' = (M', R0 b) ∧ only4 M M' ∧ PgR M' (pWd p (M (3, 0, 11, e)) (M (3, 0, 2, 0) e).toNat)) := by
  refine CtV.mk (by decide +kernel) rfl (Nat.le_of_ble_eq_true rfl) (fun X K F hk => ?_)
  obtain ⟨hl, hL, -, -⟩ := hN.2 e he.1 he.2
  obtain ⟨l, hl9⟩ : ∃ l : Nat, M (3, 0, 2, 0) e = (l : Int) := ⟨(M (3, 0, 2, 0) e).toNat, by omega⟩
  obtain ⟨Q9, hQ⟩ : ∃ Q9, Q9 = EV X K 0 (fun σ' => ∃ M', σ' = (M', R0 b) ∧ only4 M M' ∧ PgR M' (pWd p (M (3, 0, 11, e)) (M (3, 0, 2, 0) e).toNat)) := ⟨_, rfl⟩
  have loop : ∀ (f k : Nat) (M' : Id4 → Int → Int), k + f = l → only4 M M' → PgR M' (pWd p (M (3, 0, 11, e)) k) → AW X K 2 [aR (3, 0, 0, 0), aR (4, 0, 0, 0), aI e, aI k] [] (M', R0 b) 0 Q9 := by
    intro f
    induction f with
    | zero =>
      intro k M' hk9 a1 a2
      have r2 : M' (3, 0, 2, 0) e = M (3, 0, 2, 0) e := by rw [a1 _ (by decide)]
      refine aw_iload3 (pc := 2) F dX3_putOn_2 ?_
      refine aw_aload0 (pc := 3) F dX3_putOn_3 ?_
      refine aw_getR (pc := 4) F dX3_putOn_4 fl_3_16 rfl (by first | decide | (simp only [inB, cnt, rcnt]; omega)) rfl nz1 rfl ?_
      refine aw_iload2 (pc := 7) F dX3_putOn_7 ?_
      refine aw_iald (pc := 8) F dX3_putOn_8 rfl (by first | decide | (simp only [inB, cnt, rcnt]; omega)) (by omega) ?_
      refine aw_icmp_ge (tgt := 31) (pc := 9) F dX3_putOn_9 (by decide) (by unfold inR; omega) (by unfold inR; omega) (fun c9 => ?_) (fun c9 => ?_)
      · rw [hQ]
        exact aw_vret (pc := 31) F dX3_putOn_31 (Nat.zero_le _) ⟨M', rfl, a1, by rw [show (M (3, 0, 2, 0) e).toNat = k by omega]; exact a2⟩
      · omega
    | succ f ih =>
      intro k M' hk9 a1 a2
      have r2 : M' (3, 0, 2, 0) e = M (3, 0, 2, 0) e := by rw [a1 _ (by decide)]
      have r3 : M' (3, 0, 11, e) k = M (3, 0, 11, e) k := by rw [a1 _ (by simp)]
      have lk := hL k (by omega) (by omega)
      refine aw_iload3 (pc := 2) F dX3_putOn_2 ?_
      refine aw_aload0 (pc := 3) F dX3_putOn_3 ?_
      refine aw_getR (pc := 4) F dX3_putOn_4 fl_3_16 rfl (by first | decide | (simp only [inB, cnt, rcnt]; omega)) rfl nz1 rfl ?_
      refine aw_iload2 (pc := 7) F dX3_putOn_7 ?_
      refine aw_iald (pc := 8) F dX3_putOn_8 rfl (by first | decide | (simp only [inB, cnt, rcnt]; omega)) (by omega) ?_
      refine aw_icmp_ge (tgt := 31) (pc := 9) F dX3_putOn_9 (by decide) (by unfold inR; omega) (by unfold inR; omega) (fun c9 => ?_) (fun c9 => ?_)
      · omega
      · refine aw_aload1 (pc := 12) F dX3_putOn_12 ?_
        refine aw_aload0 (pc := 13) F dX3_putOn_13 ?_
        refine aw_getR (pc := 14) F dX3_putOn_14 fl_3_11 rfl (by first | decide | (simp only [inB, cnt, rcnt]; omega)) rfl nz0 rfl ?_
        refine aw_iload2 (pc := 17) F dX3_putOn_17 ?_
        refine aw_aald (pc := 18) F dX3_putOn_18 rfl (by decide) (by first | decide | (simp only [inB, cnt, rcnt]; omega)) (by omega) rfl ?_
        refine aw_iload3 (pc := 19) F dX3_putOn_19 ?_
        refine aw_bald (pc := 20) F dX3_putOn_20 rfl (by first | decide | (simp only [inB, cnt, rcnt]; omega)) (by omega) ?_
        refine aw_i2c (pc := 21) F dX3_putOn_21 (by omega) (by omega) ?_
        refine aw_callVV1 (pc := 22) F dX3_putOn_22 ml_3_34 rfl (by first | decide | (simp only [inB, cnt, rcnt]; omega)) (ct4_putP _ _ _ _ (by omega) a2) (Nat.le_of_ble_eq_true rfl) (by decide) (Nat.zero_le _) (fun σ9 h9_22 => ?_)
        obtain ⟨M2, rfl, c1, c2⟩ := h9_22
        refine aw_iinc3 (pc := 25) F dX3_putOn_25 rfl hk.symm ?_
        refine aw_goto (tgt := 2) (pc := 28) F dX3_putOn_28 (by decide) ?_
        exact ih (k + 1) M2 (by omega) (a1.tr c1) (by rw [r3] at c2; exact c2)
  refine aw_iconst (pc := 0) F dX3_putOn_0 ?_
  refine aw_istore3 (pc := 1) F dX3_putOn_1 rfl hk.symm ?_
  rw [← hQ]
  exact loop l 0 M (by omega) only4.rf hp
