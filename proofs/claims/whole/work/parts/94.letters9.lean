/-! 94: the reference's letters -/
theorem cdN_pos {W : Int → Int} {a e : Int} (hW : LT W a e) : ∀ n : Nat, a + n ≤ e → n ≠ 0 → 1 ≤ cdN W a n
  | 0, _, h => absurd rfl h
  | m + 1, hm, _ => by
    have := cdN_nn hW m (by omega)
    have := hW (a + m) (by omega) (by omega)
    unfold cdN
    omega
theorem ct9_saysL {W : Int → Int} {a e : Int} (hW : LT W a e) (b : Bool) : ∀ (n : Nat), n ≤ 4 → a + n ≤ e → ∀ (M : Id4 → Int → Int) (p : Pg), PgR9 M p → p.2 + n ≤ 160 → CtV (n + 2) 0 yX9_saysLetters cX9_saysLetters 2 none [aR (9, 0, 0, 0), aI (cdN W a n)] (M, R0 b) (fun σ' => ∃ M', σ' = (M', R0 b) ∧ only9 M M' ∧ PgR9 M' (pWd p (fun k => W (a + k)) n) ∧ (pWd p (fun k => W (a + k)) n).2 = p.2 + n) := by
  intro n
  induction n with
  | zero =>
    intro h4 hn M p hp hr
    refine CtV.mk (by decide +kernel) rfl (Nat.le_of_ble_eq_true rfl) (fun X K F hk => ?_)
    have e0 : cdN W a 0 = 0 := rfl
    refine aw_iload1 (pc := 0) F dX9_saysLetters_0 ?_
    refine aw_bipush (pc := 1) F dX9_saysLetters_1 (by decide) ?_
    refine aw_icmp_lt (tgt := 14) (pc := 3) F dX9_saysLetters_3 (by decide) (by unfold inR; omega) (by unfold inR; omega) (fun c3 => ?_) (fun c3 => ?_)
    · refine aw_iload1 (pc := 14) F dX9_saysLetters_14 ?_
      refine aw_if_le (tgt := 29) (pc := 15) F dX9_saysLetters_15 (by decide) (by unfold inR; omega) (fun c15 => ?_) (fun c15 => ?_)
      · exact aw_vret (pc := 29) F dX9_saysLetters_29 (Nat.zero_le _) ⟨M, rfl, only9.rf, hp, by show p.2 = p.2 + 0; omega⟩
      · omega
    · omega
  | succ n ih =>
    intro h4 hn M p hp hr
    refine CtV.mk (by decide +kernel) rfl (Nat.le_of_ble_eq_true rfl) (fun X K F hk => ?_)
    have bd := cdN_bd hW (n + 1) (by omega) h4
    have b0 := cdN_bd hW n (by omega) (by omega)
    have wl := hW (a + n) (by omega) (by omega)
    obtain ⟨x, hx⟩ : ∃ x, x = cdN W a (n + 1) := ⟨_, rfl⟩
    have ex : x = 27 * cdN W a n + W (a + n) - 97 + 1 := hx
    rw [← hx]
    have x0 : 0 ≤ x ∧ x ≤ 531440 := by omega
    have e1 : x.tdiv 27 = cdN W a n := by rw [Int.tdiv_eq_ediv_of_nonneg x0.1]; omega
    have e3 : x.tmod 27 = W (a + n) - 96 := by rw [Int.tmod_eq_emod_of_nonneg x0.1]; omega
    obtain ⟨Q9, hQ⟩ : ∃ Q9, Q9 = EV X K 0 (fun σ' => ∃ M', σ' = (M', R0 b) ∧ only9 M M' ∧ PgR9 M' (pWd p (fun k => W (a + k)) (n + 1)) ∧ (pWd p (fun k => W (a + k)) (n + 1)).2 = p.2 + ((n + 1 : Nat) : Int)) := ⟨_, rfl⟩
    have last : ∀ (M' : Id4 → Int → Int), only9 M M' → PgR9 M' (pWd p (fun k => W (a + k)) n) → (pWd p (fun k => W (a + k)) n).2 = p.2 + n → AW X K 14 [aR (9, 0, 0, 0), aI x] [] (M', R0 b) 0 Q9 := by
      intro M' a1 a2 a3
      refine aw_iload1 (pc := 14) F dX9_saysLetters_14 ?_
      refine aw_if_le (tgt := 29) (pc := 15) F dX9_saysLetters_15 (by decide) (by unfold inR; omega) (fun c15 => ?_) (fun c15 => ?_)
      · omega
      · refine aw_aload0 (pc := 18) F dX9_saysLetters_18 ?_
        refine aw_bipush (pc := 19) F dX9_saysLetters_19 (by decide) ?_
        refine aw_iload1 (pc := 21) F dX9_saysLetters_21 ?_
        refine aw_bipush (pc := 22) F dX9_saysLetters_22 (by decide) ?_
        refine aw_irem (pc := 24) F dX9_saysLetters_24 (by unfold inR; omega) (by unfold inR; omega) (by omega) (by omega) ?_
        rw [e3]
        refine aw_iadd (pc := 25) F dX9_saysLetters_25 ?_
        rw [show 96 + (W (a + n) - 96) = W (a + n) by omega]
        refine aw_callVV1 (pc := 26) F dX9_saysLetters_26 ml_9_387 rfl (by first | decide | (simp only [inB, cnt, rcnt]; omega)) (ct9_says _ _ _ _ a2 (by omega)) (Nat.le_of_ble_eq_true rfl) (by omega) (Nat.zero_le _) (fun σ9 h9_26 => ?_)
        obtain ⟨M2, rfl, c1, c2, c3⟩ := h9_26
        rw [hQ]
        exact aw_vret (pc := 29) F dX9_saysLetters_29 (Nat.zero_le _) ⟨M2, rfl, a1.tr c1, c2, by rw [show pWd p (fun k => W (a + k)) (n + 1) = pPut (pWd p (fun k => W (a + k)) n) (W (a + n)) from rfl, c3]; omega⟩
    refine aw_iload1 (pc := 0) F dX9_saysLetters_0 ?_
    refine aw_bipush (pc := 1) F dX9_saysLetters_1 (by decide) ?_
    refine aw_icmp_lt (tgt := 14) (pc := 3) F dX9_saysLetters_3 (by decide) (by unfold inR; omega) (by unfold inR; omega) (fun c3 => ?_) (fun c3 => ?_)
    · rw [← hQ]
      first
      | exact last M2 c1 c2 c3
      | (have n0 : n = 0 := Classical.byContradiction fun y => by have := cdN_pos hW n (by omega) y; omega
         subst n0
         exact last M only9.rf hp (by show p.2 = p.2 + 0; omega))
    · refine aw_aload0 (pc := 6) F dX9_saysLetters_6 ?_
      refine aw_iload1 (pc := 7) F dX9_saysLetters_7 ?_
      refine aw_bipush (pc := 8) F dX9_saysLetters_8 (by decide) ?_
      refine aw_idiv (pc := 10) F dX9_saysLetters_10 (by unfold inR; omega) (by unfold inR; omega) (by omega) (by omega) ?_
      rw [e1]
      refine aw_callVV1 (pc := 11) F dX9_saysLetters_11 ml_9_393 rfl (by first | decide | (simp only [inB, cnt, rcnt]; omega)) (ih (by omega) (by omega) M p hp (by omega)) (Nat.le_of_ble_eq_true rfl) (by omega) (Nat.zero_le _) (fun σ9 h9_11 => ?_)
      obtain ⟨M2, rfl, c1, c2, c3⟩ := h9_11
      rw [← hQ]
      first
      | exact last M2 c1 c2 c3
      | (have n0 : n = 0 := Classical.byContradiction fun y => by have := cdN_pos hW n (by omega) y; omega
         subst n0
         exact last M only9.rf hp (by show p.2 = p.2 + 0; omega))
