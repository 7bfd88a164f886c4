/-! 37: the history, on both sides -/
theorem pl_eq {M M' : Id4 → Int → Int} {p : Int} {S : Int → Int} (h : ∀ c : Nat, M' (5, p, c, 0) = M (5, p, c, 0)) (hR : plR M p S) : plR M' p S := by
  unfold plR at hR ⊢
  rw [h, h, h, h, h, h, h]
  exact hR
def hR8 (M : Id4 → Int → Int) (nx n : Int) (Hs : Int → Int → Int) : Prop := (M (2, 0, 0, 0) 1 = nx ∧ M (2, 0, 0, 0) 2 = n ∧ (0 ≤ nx ∧ nx < 10) ∧ (0 ≤ n ∧ n ≤ 10)) ∧ ∀ i, 0 ≤ i → i < n → plR M (3 + (nx + 10 - n + i) % 10) (Hs i)
def pushH (n : Int) (Hs : Int → Int → Int) (S : Int → Int) : Int → Int → Int := fun i => if n < 10 then (if i = n then S else Hs i) else (if i = 9 then S else Hs (i + 1))
/-- the history alone: its next, its count and its plans -/
def chgH (M M' : Id4 → Int → Int) : Prop := ∀ q, q ≠ (2, 0, 0, 0) → ¬ (q.1 = 5 ∧ 3 ≤ q.2.1) → M' q = M q
theorem hR8_push {M M1 M' : Id4 → Int → Int} {nx n nx' : Int} {Hs : Int → Int → Int} {S : Int → Int} (h : hR8 M nx n Hs) (c1 : chg5 (3 + nx) M M1) (c2 : plR M1 (3 + nx) S) (hx : nx' = if nx + 1 < 10 then nx + 1 else 0) (h1 : M' (2, 0, 0, 0) 1 = nx') (h2 : M' (2, 0, 0, 0) 2 = min (n + 1) 10) (h5 : ∀ (p : Int) (c : Nat), M' (5, p, c, 0) = M1 (5, p, c, 0)) : hR8 M' nx' (min (n + 1) 10) (pushH n Hs S) := by
  obtain ⟨⟨g1, g2, g3, g4⟩, g5⟩ := h
  refine ⟨⟨h1, h2, by rw [hx]; split <;> omega, by omega⟩, fun i i0 i1 => ?_⟩
  by_cases hn : n < 10
  · have e1 : (nx' + 10 - min (n + 1) 10 + i) % 10 = (nx + 10 - n + i) % 10 := by rw [hx]; split <;> omega
    rw [e1]
    by_cases z : i = n
    · have e2 : pushH n Hs S i = S := by unfold pushH; rw [if_pos hn, if_pos z]
      rw [e2, show (nx + 10 - n + i) % 10 = nx by omega]
      exact pl_eq (h5 _) c2
    · have e2 : pushH n Hs S i = Hs i := by unfold pushH; rw [if_pos hn, if_neg z]
      rw [e2]
      exact pl_eq (h5 _) (c1.pl (by omega) (g5 i i0 (by omega)))
  · by_cases z : i = 9
    · have e2 : pushH n Hs S i = S := by unfold pushH; rw [if_neg hn, if_pos z]
      rw [e2, show (nx' + 10 - min (n + 1) 10 + i) % 10 = nx by rw [hx]; split <;> omega]
      exact pl_eq (h5 _) c2
    · have e2 : pushH n Hs S i = Hs (i + 1) := by unfold pushH; rw [if_neg hn, if_neg z]
      have e1 : (nx' + 10 - min (n + 1) 10 + i) % 10 = (nx + 10 - n + (i + 1)) % 10 := by rw [hx]; split <;> omega
      rw [e2, e1]
      exact pl_eq (h5 _) (c1.pl (by omega) (g5 (i + 1) (by omega) (by omega)))
theorem ct2_remember (M : Id4 → Int → Int) (b : Bool) (S : Int → Int) (nx n : Int) (Hs : Int → Int → Int) (hR : plR M 0 S) (h : Ok S) (hH : hR8 M nx n Hs) : CtV 4 0 yX2_remember cX2_remember 2 none [aR (2, 0, 0, 0), aR (5, 0, 0, 0)] (M, R0 b) (fun σ' => ∃ M' nx', σ' = (M', R0 b) ∧ chgH M M' ∧ hR8 M' nx' (min (n + 1) 10) (pushH n Hs S)) := by
  refine CtV.mk (by decide +kernel) rfl (Nat.le_of_ble_eq_true rfl) (fun X K F hk => ?_)
  obtain ⟨⟨g1, g2, g3, g4⟩, g5⟩ := id hH
  refine aw_aload0 (pc := 0) F dX2_remember_0 ?_
  refine aw_getR (pc := 1) F dX2_remember_1 fl_2_11 rfl (by first | decide | (simp only [inB, cnt, rcnt]; omega)) rfl nz0 rfl ?_
  refine aw_aload0 (pc := 4) F dX2_remember_4 ?_
  refine aw_getI (pc := 5) F dX2_remember_5 fl_2_17 rfl (by first | decide | (simp only [inB, cnt, rcnt]; omega)) rfl nz1 ?_
  rw [g1]
  refine aw_aald (pc := 8) F dX2_remember_8 rfl (by decide) (by first | decide | (simp only [inB, cnt, rcnt]; omega)) (by omega) rfl ?_
  refine aw_aload1 (pc := 9) F dX2_remember_9 ?_
  refine aw_callVV1 (pc := 10) F dX2_remember_10 ml_2_25 rfl (by first | decide | (simp only [inB, cnt, rcnt]; omega)) (ct5_copyFrom _ _ _ _ (by decide) (by omega) (by omega)) (Nat.le_of_ble_eq_true rfl) (by decide) (Nat.zero_le _) (fun σ9 h9_10 => ?_)
  obtain ⟨M1, h9, c1, c2⟩ := h9_10
  subst h9
  have m1 : M1 (2, 0, 0, 0) = M (2, 0, 0, 0) := c1 _ (fun z => absurd z.1 (by decide))
  have n1 : M1 (2, 0, 0, 0) 1 = nx := by rw [m1, g1]
  have n2 : M1 (2, 0, 0, 0) 2 = n := by rw [m1, g2]
  refine aw_aload0 (pc := 13) F dX2_remember_13 ?_
  refine aw_aload0 (pc := 14) F dX2_remember_14 ?_
  refine aw_getI (pc := 15) F dX2_remember_15 fl_2_17 rfl (by first | decide | (simp only [inB, cnt, rcnt]; omega)) rfl nz1 ?_
  refine aw_iconst (pc := 18) F dX2_remember_18 ?_
  refine aw_iadd (pc := 19) F dX2_remember_19 ?_
  refine aw_bipush (pc := 20) F dX2_remember_20 (by decide) ?_
  refine aw_icmp_ge (tgt := 34) (pc := 22) F dX2_remember_22 (by decide) (by unfold inR; omega) (by unfold inR; omega) (fun c22 => ?_) (fun c22 => ?_)
  · refine aw_iconst (pc := 34) F dX2_remember_34 ?_
    refine aw_putI (pc := 35) F dX2_remember_35 fl_2_17 fpi_2_1 rfl (by first | decide | (simp only [inB, cnt, rcnt]; omega)) rfl nz1 ?_
    refine aw_aload0 (pc := 38) F dX2_remember_38 ?_
    refine aw_aload0 (pc := 39) F dX2_remember_39 ?_
    refine aw_getI (pc := 40) F dX2_remember_40 fl_2_21 rfl (by first | decide | (simp only [inB, cnt, rcnt]; omega)) rfl nz2 ?_
    refine aw_iconst (pc := 43) F dX2_remember_43 ?_
    refine aw_iadd (pc := 44) F dX2_remember_44 ?_
    refine aw_bipush (pc := 45) F dX2_remember_45 (by decide) ?_
    refine aw_pcallS2 (pc := 47) F dX2_remember_47 ml_2_29 (ctJ_min _ _ _ _ (by rw [upd_ne (Or.inr (by decide))]; unfold inR; omega) (by unfold inR; omega)) (Nat.le_of_ble_eq_true rfl) (by decide) (Nat.zero_le _) ?_
    refine aw_putI (pc := 50) F dX2_remember_50 fl_2_21 fpi_2_2 rfl (by first | decide | (simp only [inB, cnt, rcnt]; omega)) rfl nz2 ?_
    exact aw_vret (pc := 53) F dX2_remember_53 (Nat.zero_le _) ⟨_, _, rfl, fun q q1 q2 => by
      refine Eq.trans (funext fun j => ?_) (c1 q (fun z => q2 ⟨z.1, by omega⟩))
      rw [upd_ne (Or.inl q1), upd_ne (Or.inl q1)], hR8_push hH c1 (c2 S h hR) rfl (by rw [upd_ne (Or.inr (by decide)), upd_same]; first | rw [n1, if_pos (by omega)] | rw [if_neg (by omega)]) (by rw [upd_same, upd_ne (Or.inr (by decide)), n2]) (fun p c => by funext j; rw [upd_ne (Or.inl (by simp)), upd_ne (Or.inl (by simp))])⟩
  · refine aw_aload0 (pc := 25) F dX2_remember_25 ?_
    refine aw_getI (pc := 26) F dX2_remember_26 fl_2_17 rfl (by first | decide | (simp only [inB, cnt, rcnt]; omega)) rfl nz1 ?_
    refine aw_iconst (pc := 29) F dX2_remember_29 ?_
    refine aw_iadd (pc := 30) F dX2_remember_30 ?_
    refine aw_goto (tgt := 35) (pc := 31) F dX2_remember_31 (by decide) ?_
    refine aw_putI (pc := 35) F dX2_remember_35 fl_2_17 fpi_2_1 rfl (by first | decide | (simp only [inB, cnt, rcnt]; omega)) rfl nz1 ?_
    refine aw_aload0 (pc := 38) F dX2_remember_38 ?_
    refine aw_aload0 (pc := 39) F dX2_remember_39 ?_
    refine aw_getI (pc := 40) F dX2_remember_40 fl_2_21 rfl (by first | decide | (simp only [inB, cnt, rcnt]; omega)) rfl nz2 ?_
    refine aw_iconst (pc := 43) F dX2_remember_43 ?_
    refine aw_iadd (pc := 44) F dX2_remember_44 ?_
    refine aw_bipush (pc := 45) F dX2_remember_45 (by decide) ?_
    refine aw_pcallS2 (pc := 47) F dX2_remember_47 ml_2_29 (ctJ_min _ _ _ _ (by rw [upd_ne (Or.inr (by decide))]; unfold inR; omega) (by unfold inR; omega)) (Nat.le_of_ble_eq_true rfl) (by decide) (Nat.zero_le _) ?_
    refine aw_putI (pc := 50) F dX2_remember_50 fl_2_21 fpi_2_2 rfl (by first | decide | (simp only [inB, cnt, rcnt]; omega)) rfl nz2 ?_
    exact aw_vret (pc := 53) F dX2_remember_53 (Nat.zero_le _) ⟨_, _, rfl, fun q q1 q2 => by
      refine Eq.trans (funext fun j => ?_) (c1 q (fun z => q2 ⟨z.1, by omega⟩))
      rw [upd_ne (Or.inl q1), upd_ne (Or.inl q1)], hR8_push hH c1 (c2 S h hR) rfl (by rw [upd_ne (Or.inr (by decide)), upd_same]; first | rw [n1, if_pos (by omega)] | rw [if_neg (by omega)]) (by rw [upd_same, upd_ne (Or.inr (by decide)), n2]) (fun p c => by funext j; rw [upd_ne (Or.inl (by simp)), upd_ne (Or.inl (by simp))])⟩
theorem ct2_clear (M : Id4 → Int → Int) (b : Bool) : CtV 1 0 yX2_clear cX2_clear 1 none [aR (2, 0, 0, 0)] (M, R0 b) (fun σ' => σ' = (updM M (2, 0, 0, 0) 2 0, R0 b)) := by
  refine CtV.mk (by decide +kernel) rfl (Nat.le_of_ble_eq_true rfl) (fun X K F hk => ?_)
  refine aw_aload0 (pc := 0) F dX2_clear_0 ?_
  refine aw_iconst (pc := 1) F dX2_clear_1 ?_
  refine aw_putI (pc := 2) F dX2_clear_2 fl_2_21 fpi_2_2 rfl (by first | decide | (simp only [inB, cnt, rcnt]; omega)) rfl nz2 ?_
  exact aw_vret (pc := 5) F dX2_clear_5 (Nat.zero_le _) rfl
theorem ct2_restore (M : Id4 → Int → Int) (b : Bool) (nx n : Int) (Hs : Int → Int → Int) (hH : hR8 M nx n Hs) : CtI 4 0 yX2_restore cX2_restore 2 (some .int) [aR (2, 0, 0, 0), aR (5, 0, 0, 0)] (M, R0 b) (fun v σ' => ∃ M' nx', σ' = (M', R0 b) ∧ (∀ q, q ≠ (2, 0, 0, 0) → ¬ (q.1 = 5 ∧ q.2.1 = 0) → M' q = M q) ∧ ((n = 0 ∧ v = -1 ∧ M' = M) ∨ (0 < n ∧ v = n - 1 ∧ hR8 M' nx' (n - 1) Hs ∧ (Ok (Hs (n - 1)) → plR M' 0 (Hs (n - 1)))))) := by
  refine CtI.mk (by decide +kernel) rfl (Nat.le_of_ble_eq_true rfl) (fun X K F hk => ?_)
  obtain ⟨⟨g1, g2, g3, g4⟩, g5⟩ := id hH
  have fin : ∀ (M1 Mx : Id4 → Int → Int) (nx' : Int), nx' = (if 0 < nx then nx - 1 else 9) → 0 < n → (∀ q, q ≠ (2, 0, 0, 0) → M1 q = M q) → M1 (2, 0, 0, 0) 1 = nx' → M1 (2, 0, 0, 0) 2 = n - 1 → chg5 0 M1 Mx → (∀ S, Ok S → plR M1 (3 + nx') S → plR Mx 0 S) → ∃ M' nx', (Mx, R0 b) = (M', R0 b) ∧ (∀ q, q ≠ (2, 0, 0, 0) → ¬ (q.1 = 5 ∧ q.2.1 = 0) → M' q = M q) ∧ ((n = 0 ∧ n - 1 = -1 ∧ M' = M) ∨ (0 < n ∧ n - 1 = n - 1 ∧ hR8 M' nx' (n - 1) Hs ∧ (Ok (Hs (n - 1)) → plR M' 0 (Hs (n - 1))))) := by
    intro M1 Mx nx' hx hn q1 m1 m2 c1 c2
    have hx2 : 0 ≤ nx' ∧ nx' < 10 := by rw [hx]; split <;> omega
    have e0 : Mx (2, 0, 0, 0) = M1 (2, 0, 0, 0) := c1 _ (fun z => absurd z.1 (by decide))
    have up : ∀ p, plR M p = plR M1 p := fun p => by
      unfold plR
      rw [q1 _ (by simp), q1 _ (by simp), q1 _ (by simp), q1 _ (by simp), q1 _ (by simp), q1 _ (by simp), q1 _ (by simp)]
    refine ⟨Mx, nx', rfl, fun q h1 h2 => (c1 q h2).trans (q1 q h1), Or.inr ⟨hn, rfl, ⟨⟨by rw [e0, m1], by rw [e0, m2], hx2, by omega⟩, fun i i0 i1 => ?_⟩, fun hO => c2 _ hO ?_⟩⟩
    · rw [show (nx' + 10 - (n - 1) + i) % 10 = (nx + 10 - n + i) % 10 by rw [hx]; split <;> omega]
      have := g5 i i0 (by omega)
      rw [up] at this
      exact c1.pl (by omega) this
    · have := g5 (n - 1) (by omega) (by omega)
      rw [up, show (nx + 10 - n + (n - 1)) % 10 = nx' by rw [hx]; split <;> omega] at this
      exact this
  refine aw_aload0 (pc := 0) F dX2_restore_0 ?_
  refine aw_getI (pc := 1) F dX2_restore_1 fl_2_21 rfl (by first | decide | (simp only [inB, cnt, rcnt]; omega)) rfl nz2 ?_
  refine aw_if_ne (tgt := 9) (pc := 4) F dX2_restore_4 (by decide) (by unfold inR; omega) (fun c4 => ?_) (fun c4 => ?_)
  · refine aw_aload0 (pc := 9) F dX2_restore_9 ?_
    refine aw_aload0 (pc := 10) F dX2_restore_10 ?_
    refine aw_getI (pc := 11) F dX2_restore_11 fl_2_17 rfl (by first | decide | (simp only [inB, cnt, rcnt]; omega)) rfl nz1 ?_
    refine aw_if_le (tgt := 26) (pc := 14) F dX2_restore_14 (by decide) (by unfold inR; omega) (fun c14 => ?_) (fun c14 => ?_)
    · refine aw_bipush (pc := 26) F dX2_restore_26 (by decide) ?_
      obtain ⟨nx', hx⟩ : ∃ nx', nx' = (if 0 < nx then nx - 1 else 9) := ⟨_, rfl⟩
      first | rw [show M (2, 0, 0, 0) 1 - 1 = nx' by rw [hx, g1, if_pos (by omega)]] | rw [show (9 : Int) = nx' by rw [hx, if_neg (by omega)]]
      have hx2 : 0 ≤ nx' ∧ nx' < 10 := by rw [hx]; split <;> omega
      refine aw_putI (pc := 28) F dX2_restore_28 fl_2_17 fpi_2_1 rfl (by first | decide | (simp only [inB, cnt, rcnt]; omega)) rfl nz1 ?_
      refine aw_aload0 (pc := 31) F dX2_restore_31 ?_
      refine aw_dupR (pc := 32) F dX2_restore_32 ?_
      refine aw_getI (pc := 33) F dX2_restore_33 fl_2_21 rfl (by first | decide | (simp only [inB, cnt, rcnt]; omega)) rfl nz2 ?_
      refine aw_iconst (pc := 36) F dX2_restore_36 ?_
      refine aw_isub (pc := 37) F dX2_restore_37 ?_
      refine aw_putI (pc := 38) F dX2_restore_38 fl_2_21 fpi_2_2 rfl (by first | decide | (simp only [inB, cnt, rcnt]; omega)) rfl nz2 ?_
      obtain ⟨M1, hM1⟩ : ∃ M1, M1 = updM (updM M (2, 0, 0, 0) 1 nx') (2, 0, 0, 0) 2 (updM M (2, 0, 0, 0) 1 nx' (2, 0, 0, 0) 2 - 1) := ⟨_, rfl⟩
      rw [← hM1]
      have m1 : M1 (2, 0, 0, 0) 1 = nx' := by rw [hM1, upd_ne (Or.inr (by decide)), upd_same]
      have m2 : M1 (2, 0, 0, 0) 2 = n - 1 := by rw [hM1, upd_same, upd_ne (Or.inr (by decide)), g2]
      have q1 : ∀ q, q ≠ (2, 0, 0, 0) → M1 q = M q := fun q hq => by rw [hM1]; funext j; rw [upd_ne (Or.inl hq), upd_ne (Or.inl hq)]
      refine aw_aload1 (pc := 41) F dX2_restore_41 ?_
      refine aw_aload0 (pc := 42) F dX2_restore_42 ?_
      refine aw_getR (pc := 43) F dX2_restore_43 fl_2_11 rfl (by first | decide | (simp only [inB, cnt, rcnt]; omega)) rfl nz0 rfl ?_
      refine aw_aload0 (pc := 46) F dX2_restore_46 ?_
      refine aw_getI (pc := 47) F dX2_restore_47 fl_2_17 rfl (by first | decide | (simp only [inB, cnt, rcnt]; omega)) rfl nz1 ?_
      rw [m1]
      refine aw_aald (pc := 50) F dX2_restore_50 rfl (by decide) (by first | decide | (simp only [inB, cnt, rcnt]; omega)) (by omega) rfl ?_
      refine aw_callVV1 (pc := 51) F dX2_restore_51 ml_2_25 rfl (by first | decide | (simp only [inB, cnt, rcnt]; omega)) (ct5_copyFrom _ _ _ _ (by omega) (by decide) (by omega)) (Nat.le_of_ble_eq_true rfl) (by decide) (Nat.zero_le _) (fun σ9 h9_51 => ?_)
      obtain ⟨Mx, h9, c1, c2⟩ := h9_51
      subst h9
      have e0 : Mx (2, 0, 0, 0) = M1 (2, 0, 0, 0) := c1 _ (fun z => absurd z.1 (by decide))
      refine aw_aload0 (pc := 54) F dX2_restore_54 ?_
      refine aw_getI (pc := 55) F dX2_restore_55 fl_2_21 rfl (by first | decide | (simp only [inB, cnt, rcnt]; omega)) rfl nz2 ?_
      rw [e0, m2]
      exact aw_iret (pc := 58) F dX2_restore_58 rfl (Nat.zero_le _) (fin M1 Mx nx' hx (by omega) q1 m1 m2 c1 c2)
    · refine aw_aload0 (pc := 17) F dX2_restore_17 ?_
      refine aw_getI (pc := 18) F dX2_restore_18 fl_2_17 rfl (by first | decide | (simp only [inB, cnt, rcnt]; omega)) rfl nz1 ?_
      refine aw_iconst (pc := 21) F dX2_restore_21 ?_
      refine aw_isub (pc := 22) F dX2_restore_22 ?_
      refine aw_goto (tgt := 28) (pc := 23) F dX2_restore_23 (by decide) ?_
      obtain ⟨nx', hx⟩ : ∃ nx', nx' = (if 0 < nx then nx - 1 else 9) := ⟨_, rfl⟩
      first | rw [show M (2, 0, 0, 0) 1 - 1 = nx' by rw [hx, g1, if_pos (by omega)]] | rw [show (9 : Int) = nx' by rw [hx, if_neg (by omega)]]
      have hx2 : 0 ≤ nx' ∧ nx' < 10 := by rw [hx]; split <;> omega
      refine aw_putI (pc := 28) F dX2_restore_28 fl_2_17 fpi_2_1 rfl (by first | decide | (simp only [inB, cnt, rcnt]; omega)) rfl nz1 ?_
      refine aw_aload0 (pc := 31) F dX2_restore_31 ?_
      refine aw_dupR (pc := 32) F dX2_restore_32 ?_
      refine aw_getI (pc := 33) F dX2_restore_33 fl_2_21 rfl (by first | decide | (simp only [inB, cnt, rcnt]; omega)) rfl nz2 ?_
      refine aw_iconst (pc := 36) F dX2_restore_36 ?_
      refine aw_isub (pc := 37) F dX2_restore_37 ?_
      refine aw_putI (pc := 38) F dX2_restore_38 fl_2_21 fpi_2_2 rfl (by first | decide | (simp only [inB, cnt, rcnt]; omega)) rfl nz2 ?_
      obtain ⟨M1, hM1⟩ : ∃ M1, M1 = updM (updM M (2, 0, 0, 0) 1 nx') (2, 0, 0, 0) 2 (updM M (2, 0, 0, 0) 1 nx' (2, 0, 0, 0) 2 - 1) := ⟨_, rfl⟩
      rw [← hM1]
      have m1 : M1 (2, 0, 0, 0) 1 = nx' := by rw [hM1, upd_ne (Or.inr (by decide)), upd_same]
      have m2 : M1 (2, 0, 0, 0) 2 = n - 1 := by rw [hM1, upd_same, upd_ne (Or.inr (by decide)), g2]
      have q1 : ∀ q, q ≠ (2, 0, 0, 0) → M1 q = M q := fun q hq => by rw [hM1]; funext j; rw [upd_ne (Or.inl hq), upd_ne (Or.inl hq)]
      refine aw_aload1 (pc := 41) F dX2_restore_41 ?_
      refine aw_aload0 (pc := 42) F dX2_restore_42 ?_
      refine aw_getR (pc := 43) F dX2_restore_43 fl_2_11 rfl (by first | decide | (simp only [inB, cnt, rcnt]; omega)) rfl nz0 rfl ?_
      refine aw_aload0 (pc := 46) F dX2_restore_46 ?_
      refine aw_getI (pc := 47) F dX2_restore_47 fl_2_17 rfl (by first | decide | (simp only [inB, cnt, rcnt]; omega)) rfl nz1 ?_
      rw [m1]
      refine aw_aald (pc := 50) F dX2_restore_50 rfl (by decide) (by first | decide | (simp only [inB, cnt, rcnt]; omega)) (by omega) rfl ?_
      refine aw_callVV1 (pc := 51) F dX2_restore_51 ml_2_25 rfl (by first | decide | (simp only [inB, cnt, rcnt]; omega)) (ct5_copyFrom _ _ _ _ (by omega) (by decide) (by omega)) (Nat.le_of_ble_eq_true rfl) (by decide) (Nat.zero_le _) (fun σ9 h9_51 => ?_)
      obtain ⟨Mx, h9, c1, c2⟩ := h9_51
      subst h9
      have e0 : Mx (2, 0, 0, 0) = M1 (2, 0, 0, 0) := c1 _ (fun z => absurd z.1 (by decide))
      refine aw_aload0 (pc := 54) F dX2_restore_54 ?_
      refine aw_getI (pc := 55) F dX2_restore_55 fl_2_21 rfl (by first | decide | (simp only [inB, cnt, rcnt]; omega)) rfl nz2 ?_
      rw [e0, m2]
      exact aw_iret (pc := 58) F dX2_restore_58 rfl (Nat.zero_le _) (fin M1 Mx nx' hx (by omega) q1 m1 m2 c1 c2)
  · refine aw_iconst (pc := 7) F dX2_restore_7 ?_
    exact aw_iret (pc := 8) F dX2_restore_8 rfl (Nat.zero_le _) ⟨M, nx, rfl, fun _ _ _ => rfl, Or.inl ⟨by omega, rfl, rfl⟩⟩
/-! the reference's -/
def hR9 (M : Id4 → Int → Int) (n : Int) (Hs : Int → Int → Int) : Prop := (M (9, 0, 0, 0) 3 = n ∧ 0 ≤ n ∧ n ≤ 10) ∧ ∀ i j, 0 ≤ i → i < n → 0 ≤ j → j < 91 → M (9, 0, 3, 0) (91 * i + j) = Hs i j
/-- what an edit of the reference may change -/
def same9e (M M' : Id4 → Int → Int) : Prop := ∀ q k, ¬ (scr9 q k ∨ q = (9, 0, 1, 0) ∨ q = (9, 0, 3, 0) ∨ (q = (9, 0, 0, 0) ∧ k = 3)) → M' q k = M q k
theorem same9e.rf {M : Id4 → Int → Int} : same9e M M := fun _ _ _ => rfl
theorem same9e.tr {M M1 M2 : Id4 → Int → Int} (h1 : same9e M M1) (h2 : same9e M1 M2) : same9e M M2 := fun q k h => (h2 q k h).trans (h1 q k h)
theorem same9.e {M M' : Id4 → Int → Int} (h : same9 M M') : same9e M M' := fun q k z => h q k (fun y => z (Or.inl y))
theorem same9e.st {M M1 : Id4 → Int → Int} {q : Id4} {A : Int → Int} (h1 : same9e M M1) (h : q = (9, 0, 1, 0) ∨ q = (9, 0, 3, 0)) : same9e M (setA M1 q A) := fun q' k' h' => by
  rw [setA_ne (fun (z : q' = q) => h' (by rw [z]; exact Or.inr (h.imp id (fun y => Or.inl y))))]
  exact h1 q' k' h'
theorem same9e.up {M M1 : Id4 → Int → Int} {q : Id4} {k v : Int} (h1 : same9e M M1) (h : scr9 q k ∨ q = (9, 0, 1, 0) ∨ q = (9, 0, 3, 0) ∨ (q = (9, 0, 0, 0) ∧ k = 3)) : same9e M (updM M1 q k v) := fun q' k' h' => by
  rw [upd_ne (by
    by_cases e : q' = q
    · right
      intro z
      rw [e, z] at h'
      exact h' h
    · exact Or.inl e)]
  exact h1 q' k' h'