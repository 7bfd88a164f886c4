/-! 37: the history, on both sides -/
theorem pl_eq {M M' : Id4 → Int → Int} {p : Int} {S : Int → Int} (h : ∀ c : Nat, M' (5, p, c, 0) = M (5, p, c, 0)) (hR : plR M p S) : plR M' p S := by
  unfold plR at hR ⊢
  rw [h, h, h, h, h, h, h]
  exact hR
def hR8 (M : Id4 → Int → Int) (nx n : Int) (Hs : Int → Int → Int) : Prop := (M (2, 0, 0, 0) 1 = nx ∧ M (2, 0, 0, 0) 2 = n ∧ (0 ≤ nx ∧ nx < 10) ∧ (0 ≤ n ∧ n ≤ 10)) ∧ ∀ i, 0 ≤ i → i < n → plR M (3 + (nx + 10 - n + i) % 10) (Hs i)
def pushH (n : Int) (Hs : Int → Int → Int) (S : Int → Int) : Int → Int → Int := fun i => if n < 10 then (if i = n then S else Hs i) else (if i = 9 then S else Hs (i + 1))
/-- the history alone: its next, its count and its plans -/
def chgH (M M' : Id4 → Int → Int) : Prop := ∀ q, q ≠ (2, 0, 0, 0) → ¬ (q.1 = 5 ∧ 3 ≤ q.2.1) → M' q = M q
theorem hR8_push {M M1 M' : Id4 → Int → Int} {nx n nx' : Int} {Hs : Int → Int → Int} {S : Int → Int} (h : hR8 M nx n Hs) (c1 : chg5 (3 + nx) M M1) (c2 : plR M1 (3 + nx) S) (hx : nx' = if nx + 1 < 10 then nx + 1 else 0) (h1 : M' (2, 0, 0, 0) 1 = nx') (h2 : M' (2, 0, 0, 0) 2 = min (n + 1) 10) (h5 : ∀ (p : Int) (c : Nat), M' (5, p, c, 0) = M1 (5, p, c, 0)) : hR8 M' nx' (min (n + 1) 10) (pushH n Hs S) := by
  obtain ⟨⟨g1, g2, g3, g4⟩, g5⟩ := h
  refine ⟨⟨h1, h2, by rw [hx]; split <;> omega, by omega⟩, fun i i0 i1 => ?_⟩
  by_cases hn : n < 10
  · have e1 : (nx' + 10 - min (n + 1) 10 + i) % 10 = (nx + 10 - n + i) % 10 := by rw [hx]; split <;> omega
    rw [e1]
    by_cases z : i = n
    · have e2 : pushH n Hs S i = S := by unfold pushH; rw [if_pos hn, if_pos z]
      rw [e2, show (nx + 10 - n + i) % 10 = nx by omega]
      exact pl_eq (h5 _) c2
    · have e2 : pushH n Hs S i = Hs i := by unfold pushH; rw [if_pos hn, if_neg z]
      rw [e2]
      exact pl_eq (h5 _) (c1.pl (by omega) (g5 i i0 (by omega)))
  · by_cases z : i = 9
    · have e2 : pushH n Hs S i = S := by unfold pushH; rw [if_neg hn, if_pos z]
      rw [e2, show (nx' + 10 - min (n + 1) 10 + i) % 10 = nx by rw [hx]; split <;> omega]
      exact pl_eq (h5 _) c2
    · have e2 : pushH n Hs S i = Hs (i + 1) := by unfold pushH; rw [if_neg hn, if_neg z]
      have e1 : (nx' + 10 - min (n + 1) 10 + i) % 10 = (nx + 10 - n + (i + 1)) % 10 := by rw [hx]; split <;> omega
      rw [e2, e1]
      exact pl_eq (h5 _) (c1.pl (by omega) (g5 (i + 1) (by omega) (by omega)))
theorem ct2_remember (M : Id4 → Int → Int) (b : Bool) (S : Int → Int) (nx n : Int) (Hs : Int → Int → Int) (hR : plR M 0 S) (h : Ok S) (hH : hR8 M nx n Hs) : CtV 4 0 yX2_remember cX2_remember 2 none [aR (2, 0, 0, 0), aR (5, 0, 0, 0)] (M, R0 b) (fun σ' => ∃ M' nx', σ' = (M', R0 b) ∧ chgH M M' ∧ hR8 M' nx' (min (n + 1) 10) (pushH n Hs S)) := by
  refine CtV.mk (by decide +kernel) rfl (Nat.le_of_ble_eq_true rfl) (fun X K F hk => ?_)
  obtain ⟨⟨g1, g2, g3, g4⟩, g5⟩ := id hH
  refine aw_aload0 (pc := 0) F dX2_remember_0 ?_
  refine aw_getR (pc := 1) F dX2_remember_1 fl_2_11 rfl (by first | decide | (simp only [inB, cnt, rcnt]; omega)) rfl nz0 rfl ?_
  refine aw_aload0 (pc := 4) F dX2_remember_4 ?_
  refine aw_getI (pc := 5) F dX2_remember_5 fl_2_17 rfl (by first | decide | (simp only [inB, cnt, rcnt]; omega)) rfl nz1 ?_
  rw [g1]
  refine aw_aald (pc := 8) F dX2_remember_8 rfl (by decide) (by first | decide | (simp only [inB, cnt, rcnt]; omega)) (by omega) rfl ?_
  refine aw_aload1 (pc := 9) F dX2_remember_9 ?_
  refine aw_callVV1 (pc := 10) F dX2_remember_10 ml_2_25 rfl (by first | decide | (simp only [inB, cnt, rcnt]; omega)) (ct5_copyFrom _ _ _ _ (by decide) (by omega) (by omega)) (Nat.le_of_ble_eq_true rfl) (by decide) (Nat.zero_le _) (fun σ9 h9_10 => ?_)
  obtain ⟨M1, h9, c1, c2⟩ := h9_10
  subst h9
  have m1 : M1 (2, 0, 0, 0) = M (2, 0, 0, 0) := c1 _ (fun z => absurd z.1 (by decide))
  have n1 : M1 (2, 0, 0, 0) 1 = nx := by rw [m1, g1]
  have n2 : M1 (2, 0, 0, 0) 2 = n := by rw [m1, g2]
  refine aw_aload0 (pc := 13) F dX2_remember_13 ?_
  refine aw_aload0 (pc := 14) F dX2_remember_14 ?_
  refine aw_getI (pc := 15) F dX2_remember_15 fl_2_17 rfl (by first | decide | (simp only [inB, cnt, rcnt]; omega)) rfl nz1 ?_
  refine aw_iconst (pc := 18) F dX2_remember_18 ?_
  refine aw_iadd (pc := 19) F dX2_remember_19 ?_
  refine aw_bipush (pc := 20) F dX2_remember_20 (by decide) ?_
  refine aw_icmp_ge (tgt := 34) (pc := 22) F dX2_remember_22 (by decide) (by unfold inR; omega) (by unfold inR; omega) (fun c22 => ?_) (fun c22 => ?_)
  · refine aw_iconst (pc := 34) F dX2_remember_34 ?_
    refine aw_putI (pc := 35) F dX2_remember_35 fl_2_17 fpi_2_1 rfl (by first | decide | (simp only [inB, cnt, rcnt]; omega)) rfl nz1 ?_
    refine aw_aload0 (pc := 38) F dX2_remember_38 ?_
    refine aw_aload0 (pc := 39) F dX2_remember_39 ?_
    refine aw_getI (pc := 40) F dX2_remember_40 fl_2_21 rfl (by first | decide | (simp only [inB, cnt, rcnt]; omega)) rfl nz2 ?_
    refine aw_iconst (pc := 43) F dX2_remember_43 ?_
    refine aw_iadd (pc := 44) F dX2_remember_44 ?_
    refine aw_bipush (pc := 45) F dX2_remember_45 (by decide) ?_
    refine aw_pcallS2 (pc := 47) F dX2_remember_47 ml_2_29 (ctJ_min _ _ _ _ (by rw [upd_ne (Or.inr (by decide))]; unfold inR; omega) (by unfold inR; omega)) (Nat.le_of_ble_eq_true rfl) (by decide) (Nat.zero_le _) ?_
    refine aw_putI (pc := 50) F dX2_remember_50 fl_2_21 fpi_2_2 rfl (by first | decide | (simp only [inB, cnt, rcnt]; omega)) rfl nz2 ?_
    exact aw_vret (pc := 53) F dX2_remember_53 (Nat.zero_le _) ⟨_, _, rfl, fun q q1 q2 => by
      refine Eq.trans (funext fun j => ?_) (c1 q (fun z => q2 ⟨z.1, by omega⟩))
      rw [upd_ne (Or.inl q1), upd_ne (Or.inl q1)], hR8_push hH c1 (c2 S h hR) rfl (by rw [upd_ne (Or.inr (by decide)), upd_same]; first | rw [n1, if_pos (by omega)] | rw [if_neg (by omega)]) (by rw [upd_same, upd_ne (Or.inr (by decide)), n2]) (fun p c => by funext j; rw [upd_ne (Or.inl (by simp)), upd_ne (Or.inl (by simp))])⟩
  · refine aw_aload0 (pc := 25) F dX2_remember_25 ?_
    refine aw_getI (pc := 26) F dX2_remember_26 fl_2_17 rfl (by first | decide | (simp only [inB, cnt, rcnt]; omega)) rfl nz1 ?_
    refine aw_iconst (pc := 29) F dX2_remember_29 ?_
    refine aw_iadd (pc := 30) F dX2_remember_30 ?_
    refine aw_goto (tgt := 35) (pc := 31) F dX2_remember_31 (by decide) ?_
    refine aw_putI (pc := 35) F dX2_remember_35 fl_2_17 fpi_2_1 rfl (by first | decide | (simp only [inB, cnt, rcnt]; omega)) rfl nz1 ?_
    refine aw_aload0 (pc := 38) F dX2_remember_38 ?_
    refine aw_aload0 (pc := 39) F dX2_remember_39 ?_
    refine aw_getI (pc := 40) F dX2_remember_40 fl_2_21 rfl (by first | decide | (simp only [inB, cnt, rcnt]; omega)) rfl nz2 ?_
    refine aw_iconst (pc := 43) F dX2_remember_43 ?_
    refine aw_iadd (pc := 44) F dX2_remember_44 ?_
    refine aw_bipush (pc := 45) F dX2_remember_45 (by decide) ?_
    refine aw_pcallS2 (pc := 47) F dX2_remember_47 ml_2_29 (ctJ_min _ _ _ _ (by rw [upd_ne (Or.inr (by decide))]; unfold inR; omega) (by unfold inR; omega)) (Nat.le_of_ble_eq_true rfl) (by decide) (Nat.zero_le _) ?_
    refine aw_putI (pc := 50) F dX2_remember_50 fl_2_21 fpi_2_2 rfl (by first | decide | (simp only [inB, cnt, rcnt]; omega)) rfl nz2 ?_
    exact aw_vret (pc := 53) F dX2_remember_53 (Nat.zero_le _) ⟨_, _, rfl, fun q q1 q2 => by
      refine Eq.trans (funext fun j => ?_) (c1 q (fun z => q2 ⟨z.1, by omega⟩))
      rw [upd_ne (Or.inl q1), upd_ne (Or.inl q1)], hR8_push hH c1 (c2 S h hR) rfl (by rw [upd_ne (Or.inr (by decide)), upd_same]; first | rw [n1, if_pos (by omega)] | rw [if_neg (by omega)]) (by rw [upd_same, upd_ne (Or.inr (by decide)), n2]) (fun p c => by funext j; rw [upd_ne (Or.inl (by simp)), upd_ne (Or.inl (by simp))])⟩
theorem ct2_clear (M : Id4 → Int → Int) (b : Bool) : CtV 1 0 yX2_clear cX2_clear 1 none [aR (2, 0, 0, 0)] (M, R0 b) (fun σ' => σ' = (updM M (2, 0, 0, 0) 2 0, R0 b)) := by
  refine CtV.mk (by decide +kernel) rfl (Nat.le_of_ble_eq_true rfl) (fun X K F hk => ?_)
  refine aw_aload0 (pc := 0) F dX2_clear_0 ?_
  refine aw_iconst (pc := 1) F dX2_clear_1 ?_
  refine aw_putI (pc := 2) F dX2_clear_2 fl_2_21 fpi_2_2 rfl (by first | decide | (simp only [inB, cnt, rcnt]; omega)) rfl nz2 ?_
  exact aw_vret (pc := 5) F dX2_clear_5 (Nat.zero_le _) rfl
theorem ct2_restore (M : Id4 → Int → Int) (b : Bool) (nx n : Int) (Hs : Int → Int → Int) (hH : hR8 M nx n Hs) : CtI 4 0 yX2_restore cX2_restore 2 (some .int) [aR (2, 0, 0, 0), aR (5, 0, 0, 0)] (M, R0 b) (fun v σ' => ∃ M' nx', σ' = (M', R0 b) ∧ (∀ q, q ≠ (2, 0, 0, 0) → ¬ (q.1 = 5 ∧ q.2.1 = 0) → M' q = M q) ∧ ((n = 0 ∧ v = -1 ∧ M' = M) ∨ (0 < n ∧ v = n - 1 ∧ hR8 M' nx' (n - 1) Hs ∧ (Ok (Hs (n - 1)) → plR M' 0 (Hs (n - 1)))))) := by
  refine CtI.mk (by decide +kernel) rfl (Nat.le_of_ble_eq_true rfl) (fun X K F hk => ?_)
  obtain ⟨⟨g1, g2, g3, g4⟩, g5⟩ := id hH
  have fin : ∀ (M1 Mx : Id4 → Int → Int) (nx' : Int), nx' = (if 0 < nx then nx - 1 else 9) → 0 < n → (∀ q, q ≠ (2, 0, 0, 0) → M1 q = M q) → M1 (2, 0, 0, 0) 1 = nx' → M1 (2, 0, 0, 0) 2 = n - 1 → chg5 0 M1 Mx → (∀ S, Ok S → plR M1 (3 + nx') S → plR Mx 0 S) → ∃ M' nx', (Mx, R0 b) = (M', R0 b) ∧ (∀ q, q ≠ (2, 0, 0, 0) → ¬ (q.1 = 5 ∧ q.2.1 = 0) → M' q = M q) ∧ ((n = 0 ∧ n - 1 = -1 ∧ M' = M) ∨ (0 < n ∧ n - 1 = n - 1 ∧ hR8 M' nx' (n - 1) Hs ∧ (Ok (Hs (n - 1)) → plR M' 0 (Hs (n - 1))))) := by
    intro M1 Mx nx' hx hn q1 m1 m2 c1 c2
    have hx2 : 0 ≤ nx' ∧ nx' < 10 := by rw [hx]; split <;> omega
    have e0 : Mx (2, 0, 0, 0) = M1 (2, 0, 0, 0) := c1 _ (fun z => absurd z.1 (by decide))
    have up : ∀ p, plR M p = plR M1 p := fun p => by
      unfold plR
      rw [q1 _ (by simp), q1 _ (by simp), q1 _ (by simp), q1 _ (by simp), q1 _ (by simp), q1 _ (by simp), q1 _ (by simp)]
    refine ⟨Mx, nx', rfl, fun q h1 h2 => (c1 q h2).trans (q1 q h1), Or.inr ⟨hn, rfl, ⟨⟨by rw [e0, m1], by rw [e0, m2], hx2, by omega⟩, fun i i0 i1 => ?_⟩, fun hO => c2 _ hO ?_⟩⟩
    · rw [show (nx' + 10 - (n - 1) + i) % 10 = (nx + 10 - n + i) % 10 by rw [hx]; split <;> omega]
      have := g5 i i0 (by omega)
      rw [up] at this
      exact c1.pl (by omega) this
    · have := g5 (n - 1) (by omega) (by omega)
      rw [up, show (nx + 10 - n + (n - 1)) % 10 = nx' by rw [hx]; split <;> omega] at this
      exact this
  refine aw_aload0 (pc := 0) F dX2_restore_0 ?_
  refine aw_getI (pc := 1) F dX2_restore_1 fl_2_21 rfl (by first | decide | (simp only [inB, cnt, rcnt]; omega)) rfl nz2 ?_
  refine aw_if_ne (tgt := 9) (pc := 4) F dX2_restore_4 (by decide) (by unfold inR; omega) (fun c4 => ?_) (fun c4 => ?_)
  · refine aw_aload0 (pc := 9) F dX2_restore_9 ?_
    refine aw_aload0 (pc := 10) F dX2_restore_10 ?_
    refine aw_getI (pc := 11) F dX2_restore_11 fl_2_17 rfl (by first | decide | (simp only [inB, cnt, rcnt]; omega)) rfl nz1 ?_
    refine aw_if_le (tgt := 26) (pc := 14) F dX2_restore_14 (by decide) (by unfold inR; omega) (fun c14 => ?_) (fun c14 => ?_)
    · refine aw_bipush (pc := 26) F dX2_restore_26 (by decide) ?_
      obtain ⟨nx', hx⟩ : ∃ nx', nx' = (if 0 < nx then nx - 1 else 9) := ⟨_, rfl⟩
      first | rw [show M (2, 0, 0, 0) 1 - 1 = nx' by rw [hx, g1, if_pos (by omega)]] | rw [show (9 : Int) = nx' by rw [hx, if_neg (by omega)]]
      have hx2 : 0 ≤ nx' ∧ nx' < 10 := by rw [hx]; split <;> omega
      refine aw_putI (pc := 28) F dX2_restore_28 fl_2_17 fpi_2_1 rfl (by first | decide | (simp only [inB, cnt, rcnt]; omega)) rfl nz1 ?_
      refine aw_aload0 (pc := 31) F dX2_restore_31 ?_
      refine aw_dupR (pc := 32) F dX2_restore_32 ?_
      refine aw_getI (pc := 33) F dX2_restore_33 fl_2_21 rfl (by first | decide | (simp only [inB, cnt, rcnt]; omega)) rfl nz2 ?_
      refine aw_iconst (pc := 36) F dX2_restore_36 ?_
      refine aw_isub (pc := 37) F dX2_restore_37 ?_
      refine aw_putI (pc := 38) F dX2_restore_38 fl_2_21 fpi_2_2 rfl (by first | decide | (simp only [inB, cnt, rcnt]; omega)) rfl nz2 ?_
      obtain ⟨M1, hM1⟩ : ∃ M1, M1 = updM (updM M (2, 0, 0, 0) 1 nx') (2, 0, 0, 0) 2 (updM M (2, 0, 0, 0) 1 nx' (2, 0, 0, 0) 2 - 1) := ⟨_, rfl⟩
      rw [← hM1]
      have m1 : M1 (2, 0, 0, 0) 1 = nx' := by rw [hM1, upd_ne (Or.inr (by decide)), upd_same]
      have m2 : M1 (2, 0, 0, 0) 2 = n - 1 := by rw [hM1, upd_same, upd_ne (Or.inr (by decide)), g2]
      have q1 : ∀ q, q ≠ (2, 0, 0, 0) → M1 q = M q := fun q hq => by rw [hM1]; funext j; rw [upd_ne (Or.inl hq), upd_ne (Or.inl hq)]
      refine aw_aload1 (pc := 41) F dX2_restore_41 ?_
      refine aw_aload0 (pc := 42) F dX2_restore_42 ?_
      refine aw_getR (pc := 43) F dX2_restore_43 fl_2_11 rfl (by first | decide | (simp only [inB, cnt, rcnt]; omega)) rfl nz0 rfl ?_
      refine aw_aload0 (pc := 46) F dX2_restore_46 ?_
      refine aw_getI (pc := 47) F dX2_restore_47 fl_2_17 rfl (by first | decide | (simp only [inB, cnt, rcnt]; omega)) rfl nz1 ?_
      rw [m1]
      refine aw_aald (pc := 50) F dX2_restore_50 rfl (by decide) (by first | decide | (simp only [inB, cnt, rcnt]; omega)) (by omega) rfl ?_
      refine aw_callVV1 (pc := 51) F dX2_restore_51 ml_2_25 rfl (by first | decide | (simp only [inB, cnt, rcnt]; omega)) (ct5_copyFrom _ _ _ _ (by omega) (by decide) (by omega)) (Nat.le_of_ble_eq_true rfl) (by decide) (Nat.zero_le _) (fun σ9 h9_51 => ?_)
      obtain ⟨Mx, h9, c1, c2⟩ := h9_51
      subst h9
      have e0 : Mx (2, 0, 0, 0) = M1 (2, 0, 0, 0) := c1 _ (fun z => absurd z.1 (by decide))
      refine aw_aload0 (pc := 54) F dX2_restore_54 ?_
      refine aw_getI (pc := 55) F dX2_restore_55 fl_2_21 rfl (by first | decide | (simp only [inB, cnt, rcnt]; omega)) rfl nz2 ?_
      rw [e0, m2]
      exact aw_iret (pc := 58) F dX2_restore_58 rfl (Nat.zero_le _) (fin M1 Mx nx' hx (by omega) q1 m1 m2 c1 c2)
    · refine aw_aload0 (pc := 17) F dX2_restore_17 ?_
      refine aw_getI (pc := 18) F dX2_restore_18 fl_2_17 rfl (by first | decide | (simp only [inB, cnt, rcnt]; omega)) rfl nz1 ?_
      refine aw_iconst (pc := 21) F dX2_restore_21 ?_
      refine aw_isub (pc := 22) F dX2_restore_22 ?_
      refine aw_goto (tgt := 28) (pc := 23) F dX2_restore_23 (by decide) ?_
      obtain ⟨nx', hx⟩ : ∃ nx', nx' = (if 0 < nx then nx - 1 else 9) := ⟨_, rfl⟩
      first | rw [show M (2, 0, 0, 0) 1 - 1 = nx' by rw [hx, g1, if_pos (by omega)]] | rw [show (9 : Int) = nx' by rw [hx, if_neg (by omega)]]
      have hx2 : 0 ≤ nx' ∧ nx' < 10 := by rw [hx]; split <;> omega
      refine aw_putI (pc := 28) F dX2_restore_28 fl_2_17 fpi_2_1 rfl (by first | decide | (simp only [inB, cnt, rcnt]; omega)) rfl nz1 ?_
      refine aw_aload0 (pc := 31) F dX2_restore_31 ?_
      refine aw_dupR (pc := 32) F dX2_restore_32 ?_
      refine aw_getI (pc := 33) F dX2_restore_33 fl_2_21 rfl (by first | decide | (simp only [inB, cnt, rcnt]; omega)) rfl nz2 ?_
      refine aw_iconst (pc := 36) F dX2_restore_36 ?_
      refine aw_isub (pc := 37) F dX2_restore_37 ?_
      refine aw_putI (pc := 38) F dX2_restore_38 fl_2_21 fpi_2_2 rfl (by first | decide | (simp only [inB, cnt, rcnt]; omega)) rfl nz2 ?_
      obtain ⟨M1, hM1⟩ : ∃ M1, M1 = updM (updM M (2, 0, 0, 0) 1 nx') (2, 0, 0, 0) 2 (updM M (2, 0, 0, 0) 1 nx' (2, 0, 0, 0) 2 - 1) := ⟨_, rfl⟩
      rw [← hM1]
      have m1 : M1 (2, 0, 0, 0) 1 = nx' := by rw [hM1, upd_ne (Or.inr (by decide)), upd_same]
      have m2 : M1 (2, 0, 0, 0) 2 = n - 1 := by rw [hM1, upd_same, upd_ne (Or.inr (by decide)), g2]
      have q1 : ∀ q, q ≠ (2, 0, 0, 0) → M1 q = M q := fun q hq => by rw [hM1]; funext j; rw [upd_ne (Or.inl hq), upd_ne (Or.inl hq)]
      refine aw_aload1 (pc := 41) F dX2_restore_41 ?_
      refine aw_aload0 (pc := 42) F dX2_restore_42 ?_
      refine aw_getR (pc := 43) F dX2_restore_43 fl_2_11 rfl (by first | decide | (simp only [inB, cnt, rcnt]; omega)) rfl nz0 rfl ?_
      refine aw_aload0 (pc := 46) F dX2_restore_46 ?_
      refine aw_getI (pc := 47) F dX2_restore_47 fl_2_17 rfl (by first | decide | (simp only [inB, cnt, rcnt]; omega)) rfl nz1 ?_
      rw [m1]
      refine aw_aald (pc := 50) F dX2_restore_50 rfl (by decide) (by first | decide | (simp only [inB, cnt, rcnt]; omega)) (by omega) rfl ?_
      refine aw_callVV1 (pc := 51) F dX2_restore_51 ml_2_25 rfl (by first | decide | (simp only [inB, cnt, rcnt]; omega)) (ct5_copyFrom _ _ _ _ (by omega) (by decide) (by omega)) (Nat.le_of_ble_eq_true rfl) (by decide) (Nat.zero_le _) (fun σ9 h9_51 => ?_)
      obtain ⟨Mx, h9, c1, c2⟩ := h9_51
      subst h9
      have e0 : Mx (2, 0, 0, 0) = M1 (2, 0, 0, 0) := c1 _ (fun z => absurd z.1 (by decide))
      refine aw_aload0 (pc := 54) F dX2_restore_54 ?_
      refine aw_getI (pc := 55) F dX2_restore_55 fl_2_21 rfl (by first | decide | (simp only [inB, cnt, rcnt]; omega)) rfl nz2 ?_
      rw [e0, m2]
      exact aw_iret (pc := 58) F dX2_restore_58 rfl (Nat.zero_le _) (fin M1 Mx nx' hx (by omega) q1 m1 m2 c1 c2)
  · refine aw_iconst (pc := 7) F dX2_restore_7 ?_
    exact aw_iret (pc := 8) F dX2_restore_8 rfl (Nat.zero_le _) ⟨M, nx, rfl, fun _ _ _ => rfl, Or.inl ⟨by omega, rfl, rfl⟩⟩
/-! the reference's -/
def hR9 (M : Id4 → Int → Int) (n : Int) (Hs : Int → Int → Int) : Prop := (M (9, 0, 0, 0) 3 = n ∧ 0 ≤ n ∧ n ≤ 10) ∧ ∀ i j, 0 ≤ i → i < n → 0 ≤ j → j < 91 → M (9, 0, 3, 0) (91 * i + j) = Hs i j
def shH (A : Int → Int) (i : Int) : Int → Int := fun j => if 0 ≤ j ∧ j < i - 91 then A (j + 91) else A j
def cpH (A : Int → Int) (e : Int) (S : Int → Int) (i : Int) : Int → Int := fun j => if 91 * e ≤ j ∧ j < 91 * e + i then S (j - 91 * e) else A j
theorem shH_0 {A : Int → Int} : shH A 91 = A := funext fun j => if_neg (by omega)
theorem shH_step {A : Int → Int} {i : Int} (h : 91 ≤ i) : upS (shH A i) (i - 91) (shH A i i) = shH A (i + 1) := by
  funext j
  unfold upS shH
  by_cases e : j = i - 91
  · rw [if_pos e, if_neg (by omega), if_pos (by omega)]
    congr 1
    omega
  · rw [if_neg e]
    by_cases g : 0 ≤ j ∧ j < i - 91
    · rw [if_pos g, if_pos (by omega)]
    · rw [if_neg g, if_neg (by omega)]
theorem cpH_0 {A : Int → Int} {e : Int} {S : Int → Int} : cpH A e S 0 = A := funext fun j => if_neg (by omega)
theorem cpH_step {A : Int → Int} {e : Int} {S : Int → Int} {i : Int} (h : 0 ≤ i) : upS (cpH A e S i) (91 * e + i) (S i) = cpH A e S (i + 1) := by
  funext j
  unfold upS cpH
  by_cases z : j = 91 * e + i
  · rw [if_pos z, if_pos (by omega)]
    congr 1
    omega
  · rw [if_neg z]
    by_cases g : 91 * e ≤ j ∧ j < 91 * e + i
    · rw [if_pos g, if_pos (by omega)]
    · rw [if_neg g, if_neg (by omega)]
theorem pushH_lt {n i : Int} {Hs : Int → Int → Int} {S : Int → Int} (h : n < 10) : pushH n Hs S i = if i = n then S else Hs i := if_pos h
theorem pushH_ge {n i : Int} {Hs : Int → Int → Int} {S : Int → Int} (h : ¬ n < 10) : pushH n Hs S i = if i = 9 then S else Hs (i + 1) := if_neg h
theorem ct9_remember (M : Id4 → Int → Int) (b : Bool) (S : Int → Int) (n : Int) (Hs : Int → Int → Int) (hS : M (9, 0, 1, 0) = S) (hH : hR9 M n Hs) : CtV 1 0 yX9_remember cX9_remember 2 none [aR (9, 0, 0, 0)] (M, R0 b) (fun σ' => ∃ A', σ' = (updM (setA M (9, 0, 3, 0) A') (9, 0, 0, 0) 3 (min (n + 1) 10), R0 b) ∧ ∀ i j, 0 ≤ i → i < min (n + 1) 10 → 0 ≤ j → j < 91 → A' (91 * i + j) = pushH n Hs S i j) := by
  refine CtV.mk (by decide +kernel) rfl (Nat.le_of_ble_eq_true rfl) (fun X K F hk => ?_)
  obtain ⟨⟨g1, g2⟩, g5⟩ := hH
  obtain ⟨Q9, hQ⟩ : ∃ Q9, Q9 = EV X K 0 (fun σ' => ∃ A', σ' = (updM (setA M (9, 0, 3, 0) A') (9, 0, 0, 0) 3 (min (n + 1) 10), R0 b) ∧ ∀ i j, 0 ≤ i → i < min (n + 1) 10 → 0 ≤ j → j < 91 → A' (91 * i + j) = pushH n Hs S i j) := ⟨_, rfl⟩
  have key2 : ∀ (Mx : Id4 → Int → Int) (A : Int → Int) (e : Int), 0 ≤ e → e < 10 → Mx (9, 0, 0, 0) 3 = e → Mx (9, 0, 1, 0) = S → (∃ A', updM (setA Mx (9, 0, 3, 0) (cpH A e S 91)) (9, 0, 0, 0) 3 (e + 1) = updM (setA M (9, 0, 3, 0) A') (9, 0, 0, 0) 3 (min (n + 1) 10) ∧ ∀ i j, 0 ≤ i → i < min (n + 1) 10 → 0 ≤ j → j < 91 → A' (91 * i + j) = pushH n Hs S i j) → ∀ (j i : Nat) (M' : Id4 → Int → Int), i + j = 91 → M' = setA Mx (9, 0, 3, 0) (cpH A e S i) → AW X K 52 [aR (9, 0, 0, 0), aI i] [] (M', R0 b) 0 Q9 := by
    intro Mx A e he0 he1 m3 m1 hfin j
    induction j with
    | zero =>
      intro i M' hi hM
      obtain rfl : i = 91 := by omega
      have s3 : M' (9, 0, 0, 0) 3 = e := by rw [hM, setA_ne (by decide), m3]
      obtain ⟨A', q1, q2⟩ := hfin
      refine aw_iload1 (pc := 52) F dX9_remember_52 ?_
      refine aw_bipush (pc := 53) F dX9_remember_53 (by decide) ?_
      refine aw_icmp_ge (tgt := 84) (pc := 55) F dX9_remember_55 (by decide) (by unfold inR; omega) (by unfold inR; omega) (fun c55 => ?_) (fun c55 => ?_)
      · refine aw_aload0 (pc := 84) F dX9_remember_84 ?_
        refine aw_dupR (pc := 85) F dX9_remember_85 ?_
        refine aw_getI (pc := 86) F dX9_remember_86 fl_9_61 rfl (by first | decide | (simp only [inB, cnt, rcnt]; omega)) rfl nz3 ?_
        refine aw_iconst (pc := 89) F dX9_remember_89 ?_
        refine aw_iadd (pc := 90) F dX9_remember_90 ?_
        refine aw_putI (pc := 91) F dX9_remember_91 fl_9_61 fpi_9_3 rfl (by first | decide | (simp only [inB, cnt, rcnt]; omega)) rfl nz3 ?_
        rw [hQ]
        exact aw_vret (pc := 94) F dX9_remember_94 (Nat.zero_le _) ⟨A', by rw [s3, hM, ← q1]; rfl, q2⟩
      · omega
    | succ j ih =>
      intro i M' hi hM
      have s3 : M' (9, 0, 0, 0) 3 = e := by rw [hM, setA_ne (by decide), m3]
      have s1 : M' (9, 0, 1, 0) = S := by rw [hM, setA_ne (by decide), m1]
      refine aw_iload1 (pc := 52) F dX9_remember_52 ?_
      refine aw_bipush (pc := 53) F dX9_remember_53 (by decide) ?_
      refine aw_icmp_ge (tgt := 84) (pc := 55) F dX9_remember_55 (by decide) (by unfold inR; omega) (by unfold inR; omega) (fun c55 => ?_) (fun c55 => ?_)
      · omega
      · refine aw_aload0 (pc := 58) F dX9_remember_58 ?_
        refine aw_getR (pc := 59) F dX9_remember_59 fl_9_16 rfl (by first | decide | (simp only [inB, cnt, rcnt]; omega)) rfl nz2 rfl ?_
        refine aw_bipush (pc := 62) F dX9_remember_62 (by decide) ?_
        refine aw_aload0 (pc := 64) F dX9_remember_64 ?_
        refine aw_getI (pc := 65) F dX9_remember_65 fl_9_61 rfl (by first | decide | (simp only [inB, cnt, rcnt]; omega)) rfl nz3 ?_
        refine aw_imul (pc := 68) F dX9_remember_68 ?_
        refine aw_iload1 (pc := 69) F dX9_remember_69 ?_
        refine aw_iadd (pc := 70) F dX9_remember_70 ?_
        refine aw_aload0 (pc := 71) F dX9_remember_71 ?_
        refine aw_getR (pc := 72) F dX9_remember_72 fl_9_7 rfl (by first | decide | (simp only [inB, cnt, rcnt]; omega)) rfl nz0 rfl ?_
        refine aw_iload1 (pc := 75) F dX9_remember_75 ?_
        refine aw_iald (pc := 76) F dX9_remember_76 rfl (by first | decide | (simp only [inB, cnt, rcnt]; omega)) (by omega) ?_
        refine aw_iast (pc := 77) F dX9_remember_77 rfl (by first | decide | (simp only [inB, cnt, rcnt]; omega)) (by omega) ?_
        refine aw_iinc1 (pc := 78) F dX9_remember_78 rfl hk.symm ?_
        refine aw_goto (tgt := 52) (pc := 81) F dX9_remember_81 (by decide) ?_
        exact ih (i + 1) _ (by omega) (by rw [s3, s1, hM, upd_setA, cpH_step (by omega)]; rfl)
  have key1 : ∀ (j i : Nat) (M' : Id4 → Int → Int), n = 10 → 91 ≤ i → i + j = 910 → M' = setA M (9, 0, 3, 0) (shH (M (9, 0, 3, 0)) i) → AW X K 12 [aR (9, 0, 0, 0), aI i] [] (M', R0 b) 0 Q9 := by
    intro j
    induction j with
    | zero =>
      intro i M' hn hi0 hi hM
      obtain rfl : i = 910 := by omega
      have s3 : M' (9, 0, 0, 0) 3 = 10 := by rw [hM, setA_ne (by decide), g1, hn]
      have e9 : updM M' (9, 0, 0, 0) 3 (10 - 1) = setA (updM M (9, 0, 0, 0) 3 9) (9, 0, 3, 0) (shH (M (9, 0, 3, 0)) 910) := by rw [hM, upd_setA_ne (by decide)]; rfl
      refine aw_iload1 (pc := 12) F dX9_remember_12 ?_
      refine aw_sipush (pc := 13) F dX9_remember_13 (by decide) ?_
      refine aw_icmp_ge (tgt := 40) (pc := 16) F dX9_remember_16 (by decide) (by unfold inR; omega) (by unfold inR; omega) (fun c16 => ?_) (fun c16 => ?_)
      · refine aw_aload0 (pc := 40) F dX9_remember_40 ?_
        refine aw_dupR (pc := 41) F dX9_remember_41 ?_
        refine aw_getI (pc := 42) F dX9_remember_42 fl_9_61 rfl (by first | decide | (simp only [inB, cnt, rcnt]; omega)) rfl nz3 ?_
        refine aw_iconst (pc := 45) F dX9_remember_45 ?_
        refine aw_isub (pc := 46) F dX9_remember_46 ?_
        rw [s3]
        refine aw_putI (pc := 47) F dX9_remember_47 fl_9_61 fpi_9_3 rfl (by first | decide | (simp only [inB, cnt, rcnt]; omega)) rfl nz3 ?_
        refine aw_iconst (pc := 50) F dX9_remember_50 ?_
        refine aw_istore1 (pc := 51) F dX9_remember_51 rfl hk.symm ?_
        rw [e9]
        refine key2 (setA (updM M (9, 0, 0, 0) 3 9) (9, 0, 3, 0) (shH (M (9, 0, 3, 0)) 910)) (shH (M (9, 0, 3, 0)) 910) 9 (by decide) (by decide) (by rw [setA_ne (by decide), upd_same]) (by rw [setA_ne (by decide), ← hS]; exact funext fun j => upd_ne (Or.inl (by decide))) ⟨cpH (shH (M (9, 0, 3, 0)) 910) 9 S 91, ?_, fun i j i0 i1 j0 j1 => ?_⟩ 91 0 _ (by omega) (by rw [setA_setA, show ((0 : Nat) : Int) = 0 by rfl, cpH_0])
        · rw [setA_setA, upd_setA_ne (by decide), upd_upd, upd_setA_ne (by decide), hn]; rfl
        · rw [pushH_ge (by omega)]
          unfold cpH
          by_cases z : i = 9
          · rw [if_pos (by omega), if_pos z]; congr 1; omega
          · rw [if_neg (by omega), if_neg z]
            unfold shH
            rw [if_pos (by omega), show 91 * i + j + 91 = 91 * (i + 1) + j by omega]
            exact g5 (i + 1) j (by omega) (by omega) j0 j1
      · omega
    | succ j ih =>
      intro i M' hn hi0 hi hM
      refine aw_iload1 (pc := 12) F dX9_remember_12 ?_
      refine aw_sipush (pc := 13) F dX9_remember_13 (by decide) ?_
      refine aw_icmp_ge (tgt := 40) (pc := 16) F dX9_remember_16 (by decide) (by unfold inR; omega) (by unfold inR; omega) (fun c16 => ?_) (fun c16 => ?_)
      · omega
      · refine aw_aload0 (pc := 19) F dX9_remember_19 ?_
        refine aw_getR (pc := 20) F dX9_remember_20 fl_9_16 rfl (by first | decide | (simp only [inB, cnt, rcnt]; omega)) rfl nz2 rfl ?_
        refine aw_iload1 (pc := 23) F dX9_remember_23 ?_
        refine aw_bipush (pc := 24) F dX9_remember_24 (by decide) ?_
        refine aw_isub (pc := 26) F dX9_remember_26 ?_
        refine aw_aload0 (pc := 27) F dX9_remember_27 ?_
        refine aw_getR (pc := 28) F dX9_remember_28 fl_9_16 rfl (by first | decide | (simp only [inB, cnt, rcnt]; omega)) rfl nz2 rfl ?_
        refine aw_iload1 (pc := 31) F dX9_remember_31 ?_
        refine aw_iald (pc := 32) F dX9_remember_32 rfl (by first | decide | (simp only [inB, cnt, rcnt]; omega)) (by omega) ?_
        refine aw_iast (pc := 33) F dX9_remember_33 rfl (by first | decide | (simp only [inB, cnt, rcnt]; omega)) (by omega) ?_
        refine aw_iinc1 (pc := 34) F dX9_remember_34 rfl hk.symm ?_
        refine aw_goto (tgt := 12) (pc := 37) F dX9_remember_37 (by decide) ?_
        exact ih (i + 1) _ hn (by omega) (by omega) (by rw [hM, setA_same, upd_setA, shH_step (by omega)]; rfl)
  refine aw_aload0 (pc := 0) F dX9_remember_0 ?_
  refine aw_getI (pc := 1) F dX9_remember_1 fl_9_61 rfl (by first | decide | (simp only [inB, cnt, rcnt]; omega)) rfl nz3 ?_
  refine aw_bipush (pc := 4) F dX9_remember_4 (by decide) ?_
  refine aw_icmp_ne (tgt := 50) (pc := 6) F dX9_remember_6 (by decide) (by unfold inR; omega) (by unfold inR; omega) (fun c6 => ?_) (fun c6 => ?_)
  · refine aw_iconst (pc := 50) F dX9_remember_50 ?_
    refine aw_istore1 (pc := 51) F dX9_remember_51 rfl hk.symm ?_
    rw [← hQ]
    refine key2 M (M (9, 0, 3, 0)) n (by omega) (by omega) g1 hS ⟨cpH (M (9, 0, 3, 0)) n S 91, by rw [show min (n + 1) 10 = n + 1 by omega], fun i j i0 i1 j0 j1 => ?_⟩ 91 0 M (by omega) (by rw [show ((0 : Nat) : Int) = 0 by rfl, cpH_0, setA_id])
    rw [pushH_lt (by omega)]
    unfold cpH
    by_cases z : i = n
    · rw [if_pos (by omega), if_pos z]; congr 1; omega
    · rw [if_neg (by omega), if_neg z]
      exact g5 i j i0 (by omega) j0 j1
  · refine aw_bipush (pc := 9) F dX9_remember_9 (by decide) ?_
    refine aw_istore1 (pc := 11) F dX9_remember_11 rfl hk.symm ?_
    rw [← hQ]
    exact key1 819 91 M (by omega) (by omega) (by omega) (by rw [show ((91 : Nat) : Int) = 91 by rfl, shH_0, setA_id])
/-- what an edit of the reference may change -/
def same9e (M M' : Id4 → Int → Int) : Prop := ∀ q k, ¬ (scr9 q k ∨ q = (9, 0, 1, 0) ∨ q = (9, 0, 3, 0) ∨ (q = (9, 0, 0, 0) ∧ k = 3)) → M' q k = M q k
theorem same9e.rf {M : Id4 → Int → Int} : same9e M M := fun _ _ _ => rfl
theorem same9e.tr {M M1 M2 : Id4 → Int → Int} (h1 : same9e M M1) (h2 : same9e M1 M2) : same9e M M2 := fun q k h => (h2 q k h).trans (h1 q k h)
theorem same9.e {M M' : Id4 → Int → Int} (h : same9 M M') : same9e M M' := fun q k z => h q k (fun y => z (Or.inl y))
theorem same9e.st {M M1 : Id4 → Int → Int} {q : Id4} {A : Int → Int} (h1 : same9e M M1) (h : q = (9, 0, 1, 0) ∨ q = (9, 0, 3, 0)) : same9e M (setA M1 q A) := fun q' k' h' => by
  rw [setA_ne (fun (z : q' = q) => h' (by rw [z]; exact Or.inr (h.imp id (fun y => Or.inl y))))]
  exact h1 q' k' h'
theorem same9e.up {M M1 : Id4 → Int → Int} {q : Id4} {k v : Int} (h1 : same9e M M1) (h : scr9 q k ∨ q = (9, 0, 1, 0) ∨ q = (9, 0, 3, 0) ∨ (q = (9, 0, 0, 0) ∧ k = 3)) : same9e M (updM M1 q k v) := fun q' k' h' => by
  rw [upd_ne (by
    by_cases e : q' = q
    · right
      intro z
      rw [e, z] at h'
      exact h' h
    · exact Or.inl e)]
  exact h1 q' k' h'
def ovr (S H : Int → Int) (i : Int) : Int → Int := fun j => if 0 ≤ j ∧ j < i then H j else S j
theorem ovr_0 {S H : Int → Int} : ovr S H 0 = S := funext fun j => if_neg (by omega)
theorem ovr_step {S H : Int → Int} {i : Int} (h : 0 ≤ i) : upS (ovr S H i) i (H i) = ovr S H (i + 1) := by
  funext j
  unfold upS ovr
  by_cases z : j = i
  · rw [if_pos z, if_pos (by omega), z]
  · rw [if_neg z]
    by_cases g : 0 ≤ j ∧ j < i
    · rw [if_pos g, if_pos (by omega)]
    · rw [if_neg g, if_neg (by omega)]
theorem cq9_undo (M : Id4 → Int → Int) (b : Bool) (S : Int → Int) (n : Int) (Hs : Int → Int → Int) (hS : M (9, 0, 1, 0) = S) (hH : hR9 M n Hs) : CtI 1 0 yX9_undo cX9_undo 2 (some .int) [aR (9, 0, 0, 0)] (M, R0 b) (fun v σ' => ∃ M', σ' = (M', R0 b) ∧ M' (9, 0, 0, 0) 4 = 0 ∧ ((n = 0 ∧ v = -1 ∧ same9 M M') ∨ (0 < n ∧ v = n - 1 ∧ same9e M M' ∧ M' (9, 0, 1, 0) = ovr S (Hs (n - 1)) 91 ∧ hR9 M' (n - 1) Hs))) := by
  refine CtI.mk (by decide +kernel) rfl (Nat.le_of_ble_eq_true rfl) (fun X K F hk => ?_)
  obtain ⟨⟨g1, g2⟩, g5⟩ := hH
  obtain ⟨Q9, hQ⟩ : ∃ Q9, Q9 = EI X K 0 (fun v σ' => ∃ M', σ' = (M', R0 b) ∧ M' (9, 0, 0, 0) 4 = 0 ∧ ((n = 0 ∧ v = -1 ∧ same9 M M') ∨ (0 < n ∧ v = n - 1 ∧ same9e M M' ∧ M' (9, 0, 1, 0) = ovr S (Hs (n - 1)) 91 ∧ hR9 M' (n - 1) Hs))) := ⟨_, rfl⟩
  have key : ∀ (Mx : Id4 → Int → Int), Mx = updM (thr M 0) (9, 0, 0, 0) 3 (n - 1) → 0 < n → ∀ (j i : Nat) (M' : Id4 → Int → Int), i + j = 91 → M' = setA Mx (9, 0, 1, 0) (ovr S (Hs (n - 1)) i) → AW X K 26 [aR (9, 0, 0, 0), aI i] [] (M', R0 b) 0 Q9 := by
    intro Mx hx hn j
    have x3 : Mx (9, 0, 0, 0) 3 = n - 1 := by rw [hx, upd_same]
    have x4 : Mx (9, 0, 0, 0) 4 = 0 := by rw [hx, upd_ne (Or.inr (by decide))]; exact upd_same
    have xh : Mx (9, 0, 3, 0) = M (9, 0, 3, 0) := by rw [hx]; funext j; exact (upd_ne (Or.inl (by decide))).trans (upd_ne (Or.inl (by decide)))
    induction j with
    | zero =>
      intro i M' hi hM
      obtain rfl : i = 91 := by omega
      have s3 : M' (9, 0, 0, 0) 3 = n - 1 := by rw [hM, setA_ne (by decide), x3]
      have s4 : M' (9, 0, 0, 0) 4 = 0 := by rw [hM, setA_ne (by decide), x4]
      have sh : M' (9, 0, 3, 0) = M (9, 0, 3, 0) := by rw [hM, setA_ne (by decide), xh]
      refine aw_iload1 (pc := 26) F dX9_undo_26 ?_
      refine aw_bipush (pc := 27) F dX9_undo_27 (by decide) ?_
      refine aw_icmp_ge (tgt := 58) (pc := 29) F dX9_undo_29 (by decide) (by unfold inR; omega) (by unfold inR; omega) (fun c29 => ?_) (fun c29 => ?_)
      · refine aw_aload0 (pc := 58) F dX9_undo_58 ?_
        refine aw_getI (pc := 59) F dX9_undo_59 fl_9_61 rfl (by first | decide | (simp only [inB, cnt, rcnt]; omega)) rfl nz3 ?_
        rw [hQ]
        exact aw_iret (pc := 62) F dX9_undo_62 rfl (Nat.zero_le _) ⟨M', rfl, s4, Or.inr ⟨hn, s3, by rw [hM, hx]; exact ((same9_thr.e).up (Or.inr (Or.inr (Or.inr ⟨rfl, rfl⟩)))).st (Or.inl rfl), by rw [hM, setA_same]; rfl, ⟨⟨s3, by omega, by omega⟩, fun i j i0 i1 j0 j1 => by rw [sh]; exact g5 i j i0 (by omega) j0 j1⟩⟩⟩
      · omega
    | succ j ih =>
      intro i M' hi hM
      have s3 : M' (9, 0, 0, 0) 3 = n - 1 := by rw [hM, setA_ne (by decide), x3]
      have sh : M' (9, 0, 3, 0) = M (9, 0, 3, 0) := by rw [hM, setA_ne (by decide), xh]
      refine aw_iload1 (pc := 26) F dX9_undo_26 ?_
      refine aw_bipush (pc := 27) F dX9_undo_27 (by decide) ?_
      refine aw_icmp_ge (tgt := 58) (pc := 29) F dX9_undo_29 (by decide) (by unfold inR; omega) (by unfold inR; omega) (fun c29 => ?_) (fun c29 => ?_)
      · omega
      · refine aw_aload0 (pc := 32) F dX9_undo_32 ?_
        refine aw_getR (pc := 33) F dX9_undo_33 fl_9_7 rfl (by first | decide | (simp only [inB, cnt, rcnt]; omega)) rfl nz0 rfl ?_
        refine aw_iload1 (pc := 36) F dX9_undo_36 ?_
        refine aw_aload0 (pc := 37) F dX9_undo_37 ?_
        refine aw_getR (pc := 38) F dX9_undo_38 fl_9_16 rfl (by first | decide | (simp only [inB, cnt, rcnt]; omega)) rfl nz2 rfl ?_
        refine aw_bipush (pc := 41) F dX9_undo_41 (by decide) ?_
        refine aw_aload0 (pc := 43) F dX9_undo_43 ?_
        refine aw_getI (pc := 44) F dX9_undo_44 fl_9_61 rfl (by first | decide | (simp only [inB, cnt, rcnt]; omega)) rfl nz3 ?_
        refine aw_imul (pc := 47) F dX9_undo_47 ?_
        refine aw_iload1 (pc := 48) F dX9_undo_48 ?_
        refine aw_iadd (pc := 49) F dX9_undo_49 ?_
        refine aw_iald (pc := 50) F dX9_undo_50 rfl (by first | decide | (simp only [inB, cnt, rcnt]; omega)) (by omega) ?_
        refine aw_iast (pc := 51) F dX9_undo_51 rfl (by first | decide | (simp only [inB, cnt, rcnt]; omega)) (by omega) ?_
        refine aw_iinc1 (pc := 52) F dX9_undo_52 rfl hk.symm ?_
        refine aw_goto (tgt := 26) (pc := 55) F dX9_undo_55 (by decide) ?_
        exact ih (i + 1) _ (by omega) (by rw [s3, sh, g5 (n - 1) i (by omega) (by omega) (by omega) (by omega), hM, upd_setA, ovr_step (by omega)]; rfl)
  have u3 : updM M (9, 0, 0, 0) 4 0 (9, 0, 0, 0) 3 = n := by rw [upd_ne (Or.inr (by decide)), g1]
  refine aw_aload0 (pc := 0) F dX9_undo_0 ?_
  refine aw_iconst (pc := 1) F dX9_undo_1 ?_
  refine aw_putI (pc := 2) F dX9_undo_2 fl_9_54 fpi_9_4 rfl (by first | decide | (simp only [inB, cnt, rcnt]; omega)) rfl nz4 ?_
  refine aw_aload0 (pc := 5) F dX9_undo_5 ?_
  refine aw_getI (pc := 6) F dX9_undo_6 fl_9_61 rfl (by first | decide | (simp only [inB, cnt, rcnt]; omega)) rfl nz3 ?_
  refine aw_if_ne (tgt := 14) (pc := 9) F dX9_undo_9 (by decide) (by rw [u3]; unfold inR; omega) (fun c9 => ?_) (fun c9 => ?_)
  · rw [u3] at c9
    refine aw_aload0 (pc := 14) F dX9_undo_14 ?_
    refine aw_dupR (pc := 15) F dX9_undo_15 ?_
    refine aw_getI (pc := 16) F dX9_undo_16 fl_9_61 rfl (by first | decide | (simp only [inB, cnt, rcnt]; omega)) rfl nz3 ?_
    refine aw_iconst (pc := 19) F dX9_undo_19 ?_
    refine aw_isub (pc := 20) F dX9_undo_20 ?_
    refine aw_putI (pc := 21) F dX9_undo_21 fl_9_61 fpi_9_3 rfl (by first | decide | (simp only [inB, cnt, rcnt]; omega)) rfl nz3 ?_
    refine aw_iconst (pc := 24) F dX9_undo_24 ?_
    refine aw_istore1 (pc := 25) F dX9_undo_25 rfl hk.symm ?_
    rw [u3, ← hQ]
    have x1 : (updM (updM M (9, 0, 0, 0) 4 0) (9, 0, 0, 0) 3 (n - 1)) (9, 0, 1, 0) = S := by rw [← hS]; funext j; rw [upd_ne (Or.inl (by decide)), upd_ne (Or.inl (by decide))]
    exact key _ rfl (by omega) 91 0 _ (by omega) (by rw [show ((0 : Nat) : Int) = 0 by rfl, ovr_0, ← x1, setA_id])
  · rw [u3] at c9
    refine aw_iconst (pc := 12) F dX9_undo_12 ?_
    exact aw_iret (pc := 13) F dX9_undo_13 rfl (Nat.zero_le _) ⟨_, rfl, upd_same, Or.inl ⟨c9, rfl, same9_thr⟩⟩
