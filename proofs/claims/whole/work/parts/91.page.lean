/-! 91: the page's numbers -/
abbrev Pg : Type := (Int → Int) × Int
def pPut (p : Pg) (c : Int) : Pg := (putS p.1 p.2 c, putL p.2)
def PgR (M : Id4 → Int → Int) (p : Pg) : Prop := M (4, 0, 1, 0) = p.1 ∧ M (4, 0, 0, 0) 1 = p.2 ∧ 0 ≤ p.2 ∧ p.2 ≤ 160
def only4 (M M' : Id4 → Int → Int) : Prop := ∀ q, q.1 ≠ 4 → M' q = M q
theorem only4.rf {M : Id4 → Int → Int} : only4 M M := fun _ _ => rfl
theorem only4.tr {M M1 M2 : Id4 → Int → Int} (h1 : only4 M M1) (h2 : only4 M1 M2) : only4 M M2 := fun q h => (h2 q h).trans (h1 q h)
theorem ct4_putP (M : Id4 → Int → Int) (b : Bool) (c : Int) (p : Pg) (hc : 0 ≤ c ∧ c < 65536) (hp : PgR M p) : CtV 1 0 yX4_put cX4_put 2 none [aR (4, 0, 0, 0), aI c] (M, R0 b) (fun σ' => ∃ M', σ' = (M', R0 b) ∧ only4 M M' ∧ PgR M' (pPut p c)) := by
  obtain ⟨p1, p2, p3, p4⟩ := hp
  refine (ct4_put M b c p.2 hc p2 ⟨p3, p4⟩).mono (fun σ' hq => ?_)
  obtain ⟨M', h1, h2, h3, h4⟩ := hq
  refine ⟨M', h1, h2, by rw [h4, p1]; rfl, h3, ?_, ?_⟩
  · show 0 ≤ putL p.2
    unfold putL
    split <;> omega
  · show putL p.2 ≤ 160
    unfold putL
    split <;> omega
def absI (x : Int) : Int := if x < 0 then -x else x
def pSg (p : Pg) (x : Int) : Pg := if x < 0 then pPut p 45 else p
def pTn (p : Pg) (x : Int) : Pg := if 9 < x then pPut p (48 + (x / 10) % 10) else p
def pHn (p : Pg) (x : Int) : Pg := if 99 < x then pPut p (48 + (x / 100) % 10) else p
/-- a number of at most three digits -/
def pNum (p : Pg) (x : Int) : Pg := pPut (pTn (pHn (pSg p x) (absI x)) (absI x)) (48 + absI x % 10)
theorem pNum2 {p : Pg} {x : Int} (hx : -99 ≤ x ∧ x ≤ 99) : pNum p x = pPut (pTn (pSg p x) (absI x)) (48 + absI x % 10) := by
  have ab : 0 ≤ absI x ∧ absI x ≤ 99 := by unfold absI; split <;> omega
  unfold pNum
  rw [show pHn (pSg p x) (absI x) = pSg p x from if_neg (by omega)]
theorem ct4_putNumber (M : Id4 → Int → Int) (b : Bool) (x : Int) (p : Pg) (hx : -99 ≤ x ∧ x ≤ 99) (hp : PgR M p) : CtV 2 0 yX4_putNumber cX4_putNumber 3 none [aR (4, 0, 0, 0), aI x] (M, R0 b) (fun σ' => ∃ M', σ' = (M', R0 b) ∧ only4 M M' ∧ PgR M' (pNum p x)) := by
  rw [pNum2 hx]
  refine CtV.mk (by decide +kernel) rfl (Nat.le_of_ble_eq_true rfl) (fun X K F hk => ?_)
  obtain ⟨Q9, hQ⟩ : ∃ Q9, Q9 = EV X K 0 (fun σ' => ∃ M', σ' = (M', R0 b) ∧ only4 M M' ∧ PgR M' (pPut (pTn (pSg p x) (absI x)) (48 + absI x % 10))) := ⟨_, rfl⟩
  have ab : 0 ≤ absI x ∧ absI x ≤ 99 := by unfold absI; split <;> omega
  have e1 : (absI x).tdiv 10 = absI x / 10 := by rw [Int.tdiv_eq_ediv_of_nonneg ab.1]
  have e2 : (absI x / 10).tmod 10 = (absI x / 10) % 10 := by rw [Int.tmod_eq_emod_of_nonneg (by omega)]
  have e3 : (absI x).tmod 10 = absI x % 10 := by rw [Int.tmod_eq_emod_of_nonneg ab.1]
  have last : ∀ (M' : Id4 → Int → Int), only4 M M' → PgR M' (pTn (pSg p x) (absI x)) → AW X K 42 [aR (4, 0, 0, 0), aI x, aI (absI x)] [] (M', R0 b) 0 Q9 := by
    intro M' a1 a2
    refine aw_aload0 (pc := 42) F dX4_putNumber_42 ?_
    refine aw_bipush (pc := 43) F dX4_putNumber_43 (by decide) ?_
    refine aw_iload2 (pc := 45) F dX4_putNumber_45 ?_
    refine aw_bipush (pc := 46) F dX4_putNumber_46 (by decide) ?_
    refine aw_irem (pc := 48) F dX4_putNumber_48 (by unfold inR; omega) (by unfold inR; omega) (by omega) (by omega) ?_
    rw [e3]
    refine aw_iadd (pc := 49) F dX4_putNumber_49 ?_
    refine aw_i2c (pc := 50) F dX4_putNumber_50 (by omega) (by omega) ?_
    refine aw_callVV1 (pc := 51) F dX4_putNumber_51 ml_4_19 rfl (by first | decide | (simp only [inB, cnt, rcnt]; omega)) (ct4_putP _ _ _ _ (by omega) a2) (Nat.le_of_ble_eq_true rfl) (by decide) (Nat.zero_le _) (fun σ9 h9_51 => ?_)
    obtain ⟨M2, rfl, c1, c2⟩ := h9_51
    rw [hQ]
    exact aw_vret (pc := 54) F dX4_putNumber_54 (Nat.zero_le _) ⟨M2, rfl, a1.tr c1, c2⟩
  have mid : ∀ (M' : Id4 → Int → Int), only4 M M' → PgR M' (pSg p x) → AW X K 21 [aR (4, 0, 0, 0), aI x, aI (absI x)] [] (M', R0 b) 0 Q9 := by
    intro M' a1 a2
    refine aw_iload2 (pc := 21) F dX4_putNumber_21 ?_
    refine aw_bipush (pc := 22) F dX4_putNumber_22 (by decide) ?_
    refine aw_icmp_le (tgt := 42) (pc := 24) F dX4_putNumber_24 (by decide) (by unfold inR; omega) (by unfold inR; omega) (fun c24 => ?_) (fun c24 => ?_)
    · first
      | exact last M2 (a1.tr c1) (by unfold pTn; rw [if_pos (by omega)]; exact c2)
      | exact last M' a1 (by unfold pTn; rw [if_neg (by omega)]; exact a2)
    · refine aw_aload0 (pc := 27) F dX4_putNumber_27 ?_
      refine aw_bipush (pc := 28) F dX4_putNumber_28 (by decide) ?_
      refine aw_iload2 (pc := 30) F dX4_putNumber_30 ?_
      refine aw_bipush (pc := 31) F dX4_putNumber_31 (by decide) ?_
      refine aw_idiv (pc := 33) F dX4_putNumber_33 (by unfold inR; omega) (by unfold inR; omega) (by omega) (by omega) ?_
      rw [e1]
      refine aw_bipush (pc := 34) F dX4_putNumber_34 (by decide) ?_
      refine aw_irem (pc := 36) F dX4_putNumber_36 (by unfold inR; omega) (by unfold inR; omega) (by omega) (by omega) ?_
      rw [e2]
      refine aw_iadd (pc := 37) F dX4_putNumber_37 ?_
      refine aw_i2c (pc := 38) F dX4_putNumber_38 (by omega) (by omega) ?_
      refine aw_callVV1 (pc := 39) F dX4_putNumber_39 ml_4_19 rfl (by first | decide | (simp only [inB, cnt, rcnt]; omega)) (ct4_putP _ _ _ _ (by omega) a2) (Nat.le_of_ble_eq_true rfl) (by decide) (Nat.zero_le _) (fun σ9 h9_39 => ?_)
      obtain ⟨M2, rfl, c1, c2⟩ := h9_39
      first
      | exact last M2 (a1.tr c1) (by unfold pTn; rw [if_pos (by omega)]; exact c2)
      | exact last M' a1 (by unfold pTn; rw [if_neg (by omega)]; exact a2)
  refine aw_iload1 (pc := 0) F dX4_putNumber_0 ?_
  refine aw_if_ge (tgt := 9) (pc := 1) F dX4_putNumber_1 (by decide) (by unfold inR; omega) (fun c1 => ?_) (fun c1 => ?_)
  · refine aw_iload1 (pc := 9) F dX4_putNumber_9 ?_
    refine aw_istore2 (pc := 10) F dX4_putNumber_10 rfl hk.symm ?_
    first | rw [show -x = absI x by unfold absI; rw [if_pos (by omega)]] | rw [show (M, R0 b) = (M, R0 b) by rfl]
    refine aw_iload1 (pc := 11) F dX4_putNumber_11 ?_
    refine aw_if_ge (tgt := 21) (pc := 12) F dX4_putNumber_12 (by decide) (by unfold inR; omega) (fun c12 => ?_) (fun c12 => ?_)
    · rw [← hQ]
      first
      | exact mid M2 c1 (by unfold pSg; rw [if_pos (by omega)]; exact c2)
      | (have ea : absI x = x := by unfold absI; rw [if_neg (by omega)]
         have g := mid M only4.rf (by unfold pSg; rw [if_neg (by omega)]; exact hp)
         rw [ea] at g
         exact g)
      | (exfalso; omega)
    · refine aw_aload0 (pc := 15) F dX4_putNumber_15 ?_
      refine aw_bipush (pc := 16) F dX4_putNumber_16 (by decide) ?_
      refine aw_callVV1 (pc := 18) F dX4_putNumber_18 ml_4_19 rfl (by first | decide | (simp only [inB, cnt, rcnt]; omega)) (ct4_putP _ _ _ _ (by decide) hp) (Nat.le_of_ble_eq_true rfl) (by decide) (Nat.zero_le _) (fun σ9 h9_18 => ?_)
      obtain ⟨M2, rfl, c1, c2⟩ := h9_18
      rw [← hQ]
      first
      | exact mid M2 c1 (by unfold pSg; rw [if_pos (by omega)]; exact c2)
      | (have ea : absI x = x := by unfold absI; rw [if_neg (by omega)]
         have g := mid M only4.rf (by unfold pSg; rw [if_neg (by omega)]; exact hp)
         rw [ea] at g
         exact g)
      | (exfalso; omega)
  · refine aw_iload1 (pc := 4) F dX4_putNumber_4 ?_
    refine aw_ineg (pc := 5) F dX4_putNumber_5 ?_
    refine aw_goto (tgt := 10) (pc := 6) F dX4_putNumber_6 (by decide) ?_
    refine aw_istore2 (pc := 10) F dX4_putNumber_10 rfl hk.symm ?_
    first | rw [show -x = absI x by unfold absI; rw [if_pos (by omega)]] | rw [show (M, R0 b) = (M, R0 b) by rfl]
    refine aw_iload1 (pc := 11) F dX4_putNumber_11 ?_
    refine aw_if_ge (tgt := 21) (pc := 12) F dX4_putNumber_12 (by decide) (by unfold inR; omega) (fun c12 => ?_) (fun c12 => ?_)
    · rw [← hQ]
      first
      | exact mid M2 c1 (by unfold pSg; rw [if_pos (by omega)]; exact c2)
      | (have ea : absI x = x := by unfold absI; rw [if_neg (by omega)]
         have g := mid M only4.rf (by unfold pSg; rw [if_neg (by omega)]; exact hp)
         rw [ea] at g
         exact g)
      | (exfalso; omega)
    · refine aw_aload0 (pc := 15) F dX4_putNumber_15 ?_
      refine aw_bipush (pc := 16) F dX4_putNumber_16 (by decide) ?_
      refine aw_callVV1 (pc := 18) F dX4_putNumber_18 ml_4_19 rfl (by first | decide | (simp only [inB, cnt, rcnt]; omega)) (ct4_putP _ _ _ _ (by decide) hp) (Nat.le_of_ble_eq_true rfl) (by decide) (Nat.zero_le _) (fun σ9 h9_18 => ?_)
      obtain ⟨M2, rfl, c1, c2⟩ := h9_18
      rw [← hQ]
      first
      | exact mid M2 c1 (by unfold pSg; rw [if_pos (by omega)]; exact c2)
      | (have ea : absI x = x := by unfold absI; rw [if_neg (by omega)]
         have g := mid M only4.rf (by unfold pSg; rw [if_neg (by omega)]; exact hp)
         rw [ea] at g
         exact g)
      | (exfalso; omega)
