/-! 91: the page's numbers -/
abbrev Pg : Type := (Int → Int) × Int
def pPut (p : Pg) (c : Int) : Pg := (putS p.1 p.2 c, putL p.2)
def PgR (M : Id4 → Int → Int) (p : Pg) : Prop := M (4, 0, 1, 0) = p.1 ∧ M (4, 0, 0, 0) 1 = p.2 ∧ 0 ≤ p.2 ∧ p.2 ≤ 160
def only4 (M M' : Id4 → Int → Int) : Prop := ∀ q, q.1 ≠ 4 → M' q = M q
theorem only4.rf {M : Id4 → Int → Int} : only4 M M := fun _ _ => rfl
theorem only4.tr {M M1 M2 : Id4 → Int → Int} (h1 : only4 M M1) (h2 : only4 M1 M2) : only4 M M2 := fun q h => (h2 q h).trans (h1 q h)
theorem ct4_putP (M : Id4 → Int → Int) (b : Bool) (c : Int) (p : Pg) (hc : 0 ≤ c ∧ c < 65536) (hp : PgR M p) : CtV 1 0 yX4_put cX4_put 2 none [aR (4, 0, 0, 0), aI c] (M, R0 b) (fun σ' => ∃ M', σ' = (M', R0 b) ∧ only4 M M' ∧ PgR M' (pPut p c)) := by
  obtain ⟨p1, p2, p3, p4⟩ := hp
  refine (ct4_put M b c p.2 hc p2 ⟨p3, p4⟩).mono (fun σ' hq => ?_)
  obtain ⟨M', h1, h2, h3, h4⟩ := hq
  refine ⟨M', h1, h2, by rw [h4, p1]; rfl, h3, ?_, ?_⟩
  · show 0 ≤ putL p.2
    unfold putL
    split <;> omega
  · show putL p.2 ≤ 160
    unfold putL
    split <;> omega
def absI (x : Int) : Int := if x < 0 then -x else x
def pSg (p : Pg) (x : Int) : Pg := if x < 0 then pPut p 45 else p
def pTn (p : Pg) (x : Int) : Pg := if 9 < x then pPut p (48 + (x / 10) % 10) else p
def pHn (p : Pg) (x : Int) : Pg := if 99 < x then pPut p (48 + (x / 100) % 10) else p
/-- a number of at most three digits -/
def pNum (p : Pg) (x : Int) : Pg := pPut (pTn (pHn (pSg p x) (absI x)) (absI x)) (48 + absI x % 10)
theorem pNum2 {p : Pg} {x : Int} (hx : -99 ≤ x ∧ x ≤ 99) : pNum p x = pPut (pTn (pSg p x) (absI x)) (48 + absI x % 10) := by
  have ab : 0 ≤ absI x ∧ absI x ≤ 99 := by unfold absI; split <;> omega
  unfold pNum
  rw [show pHn (pSg p x) (absI x) = pSg p x from if_neg (by omega)]
/-- what one unit of a number puts on the page -/
def pDg (p : Pg) (y u : Int) : Pg := if y / u ≠ 0 ∨ u = 1 then pPut p (48 + (y / u) % 10) else p
theorem pDg100 {p : Pg} {y : Int} (hy : 0 ≤ y) : pDg p y 100 = pHn p y := by
  unfold pDg pHn
  by_cases h : 99 < y
  · rw [if_pos (by omega), if_pos h]
  · rw [if_neg (by omega), if_neg h]
theorem pDg10 {p : Pg} {y : Int} (hy : 0 ≤ y) : pDg p y 10 = pTn p y := by
  unfold pDg pTn
  by_cases h : 9 < y
  · rw [if_pos (by omega), if_pos h]
  · rw [if_neg (by omega), if_neg h]
theorem pDg1 {p : Pg} {y : Int} : pDg p y 1 = pPut p (48 + y % 10) := by
  unfold pDg
  rw [if_pos (Or.inr rfl), Int.ediv_one]
theorem ct4_putWide (M : Id4 → Int → Int) (b : Bool) (x : Int) (p : Pg) (hx : -999 ≤ x ∧ x ≤ 999) (hp : PgR M p) : CtV 2 0 yX4_putNumber cX4_putNumber 5 none [aR (4, 0, 0, 0), aI x] (M, R0 b) (fun σ' => ∃ M', σ' = (M', R0 b) ∧ only4 M M' ∧ PgR M' (pNum p x)) := by
  refine CtV.mk (by decide +kernel) rfl (Nat.le_of_ble_eq_true rfl) (fun X K F hk => ?_)
  obtain ⟨Q9, hQ⟩ : ∃ Q9, Q9 = EV X K 0 (fun σ' => ∃ M', σ' = (M', R0 b) ∧ only4 M M' ∧ PgR M' (pNum p x)) := ⟨_, rfl⟩
  have ab : 0 ≤ absI x ∧ absI x ≤ 999 := by unfold absI; split <;> omega
  have sg : x = absI x ∨ (x = -absI x ∧ x < 0) := by unfold absI; split <;> omega
  have step : ∀ (u v : Int) (p' : Pg) (M' : Id4 → Int → Int) (w3 w4 : AV), 0 < u → u ≤ 1000000000 → u.tdiv 10 = v → wide w3 = false → wide w4 = false → only4 M M' → PgR M' p' → (∀ (M2 : Id4 → Int → Int) (w3 w4 : AV), wide w3 = false → wide w4 = false → only4 M M2 → PgR M2 (pDg p' (absI x) u) → AW X K 13 [aR (4, 0, 0, 0), aI x, aI v, w3, w4] [] (M2, R0 b) 0 Q9) → AW X K 13 [aR (4, 0, 0, 0), aI x, aI u, w3, w4] [] (M', R0 b) 0 Q9 := by
    intro u v p' M' w3 w4 hu0 hu1 hv h3 h4 a1 a2 cont
    have q0 : 0 ≤ absI x / u ∧ absI x / u ≤ absI x := ⟨Int.ediv_nonneg ab.1 (by omega), Int.ediv_le_self _ ab.1⟩
    obtain ⟨q, hq⟩ : ∃ q, q = absI x / u := ⟨_, rfl⟩
    rw [← hq] at q0
    obtain ⟨r, hr⟩ : ∃ r, r = x.tdiv u := ⟨_, rfl⟩
    have er : r = q ∨ r = -q := by
      rcases sg with h | h
      · left; rw [hr, hq, ← Int.tdiv_eq_ediv_of_nonneg ab.1, ← h]
      · right; rw [hr, hq, ← Int.tdiv_eq_ediv_of_nonneg ab.1, ← Int.neg_tdiv, ← h.1]
    obtain ⟨s, hs⟩ : ∃ s, s = r.tmod 10 := ⟨_, rfl⟩
    have e1 : q.tmod 10 = q % 10 := Int.tmod_eq_emod_of_nonneg q0.1
    have es : s = q % 10 ∨ s = -(q % 10) := by
      rcases er with h | h
      · left; rw [hs, h, e1]
      · right; rw [hs, h, Int.neg_tmod, e1]
    have hc : ∀ (M2 : Id4 → Int → Int) (c : Int), 48 + q % 10 = c → (q ≠ 0 ∨ u = 1) → PgR M2 (pPut p' c) → PgR M2 (pDg p' (absI x) u) := fun M2 c e h g => by
      unfold pDg
      rw [← hq, if_pos h, e]
      exact g
    have hn : ¬ (q ≠ 0 ∨ u = 1) → PgR M' (pDg p' (absI x) u) := fun h => by
      unfold pDg
      rw [← hq, if_neg h]
      exact a2
    refine aw_iload2 (pc := 13) F dX4_putNumber_13 ?_
    refine aw_if_le (tgt := 65) (pc := 14) F dX4_putNumber_14 (by decide) (by unfold inR; omega) (fun c14 => ?_) (fun c14 => ?_)
    · omega
    · refine aw_iload1 (pc := 17) F dX4_putNumber_17 ?_
      refine aw_iload2 (pc := 18) F dX4_putNumber_18 ?_
      refine aw_idiv (pc := 19) F dX4_putNumber_19 (by unfold inR; omega) (by unfold inR; omega) (by omega) (by omega) ?_
      rw [← hr]
      refine aw_istore3 (pc := 20) F dX4_putNumber_20 (by first | rfl | (simp only [List.all_cons, List.all_nil, h3, h4]; rfl)) hk.symm ?_
      refine aw_iload3 (pc := 21) F dX4_putNumber_21 ?_
      refine aw_if_ne (tgt := 30) (pc := 22) F dX4_putNumber_22 (by decide) (by unfold inR; omega) (fun c22 => ?_) (fun c22 => ?_)
      · refine aw_iload3 (pc := 30) F dX4_putNumber_30 ?_
        refine aw_bipush (pc := 31) F dX4_putNumber_31 (by decide) ?_
        refine aw_irem (pc := 33) F dX4_putNumber_33 (by unfold inR; omega) (by unfold inR; omega) (by omega) (by omega) ?_
        rw [← hs]
        refine aw_istore4 (pc := 34) F dX4_putNumber_34 (by first | rfl | (simp only [List.all_cons, List.all_nil, h3, h4]; rfl)) hk.symm ?_
        refine aw_aload0 (pc := 36) F dX4_putNumber_36 ?_
        refine aw_bipush (pc := 37) F dX4_putNumber_37 (by decide) ?_
        refine aw_iload4 (pc := 39) F dX4_putNumber_39 ?_
        refine aw_if_ge (tgt := 50) (pc := 41) F dX4_putNumber_41 (by decide) (by unfold inR; omega) (fun c41 => ?_) (fun c41 => ?_)
        · refine aw_iload4 (pc := 50) F dX4_putNumber_50 ?_
          refine aw_iadd (pc := 52) F dX4_putNumber_52 ?_
          refine aw_i2c (pc := 53) F dX4_putNumber_53 (by omega) (by omega) ?_
          refine aw_callVV1 (pc := 54) F dX4_putNumber_54 ml_4_19 rfl (by first | decide | (simp only [inB, cnt, rcnt]; omega)) (ct4_putP _ _ _ _ (by omega) a2) (Nat.le_of_ble_eq_true rfl) (by decide) (Nat.zero_le _) (fun σ9 h9_54 => ?_)
          obtain ⟨M2, rfl, c1, c2⟩ := h9_54
          refine aw_iload2 (pc := 57) F dX4_putNumber_57 ?_
          refine aw_bipush (pc := 58) F dX4_putNumber_58 (by decide) ?_
          refine aw_idiv (pc := 60) F dX4_putNumber_60 (by unfold inR; omega) (by unfold inR; omega) (by omega) (by omega) ?_
          rw [hv]
          refine aw_istore2 (pc := 61) F dX4_putNumber_61 (by first | rfl | (simp only [List.all_cons, List.all_nil, h3, h4]; rfl)) hk.symm ?_
          refine aw_goto (tgt := 13) (pc := 62) F dX4_putNumber_62 (by decide) ?_
          first
          | exact cont M2 _ _ rfl rfl (a1.tr c1) (hc M2 _ (by omega) (by omega) c2)
          | exact cont M' _ _ rfl h4 a1 (hn (by omega))
        · refine aw_iload4 (pc := 44) F dX4_putNumber_44 ?_
          refine aw_ineg (pc := 46) F dX4_putNumber_46 ?_
          refine aw_goto (tgt := 52) (pc := 47) F dX4_putNumber_47 (by decide) ?_
          refine aw_iadd (pc := 52) F dX4_putNumber_52 ?_
          refine aw_i2c (pc := 53) F dX4_putNumber_53 (by omega) (by omega) ?_
          refine aw_callVV1 (pc := 54) F dX4_putNumber_54 ml_4_19 rfl (by first | decide | (simp only [inB, cnt, rcnt]; omega)) (ct4_putP _ _ _ _ (by omega) a2) (Nat.le_of_ble_eq_true rfl) (by decide) (Nat.zero_le _) (fun σ9 h9_54 => ?_)
          obtain ⟨M2, rfl, c1, c2⟩ := h9_54
          refine aw_iload2 (pc := 57) F dX4_putNumber_57 ?_
          refine aw_bipush (pc := 58) F dX4_putNumber_58 (by decide) ?_
          refine aw_idiv (pc := 60) F dX4_putNumber_60 (by unfold inR; omega) (by unfold inR; omega) (by omega) (by omega) ?_
          rw [hv]
          refine aw_istore2 (pc := 61) F dX4_putNumber_61 (by first | rfl | (simp only [List.all_cons, List.all_nil, h3, h4]; rfl)) hk.symm ?_
          refine aw_goto (tgt := 13) (pc := 62) F dX4_putNumber_62 (by decide) ?_
          first
          | exact cont M2 _ _ rfl rfl (a1.tr c1) (hc M2 _ (by omega) (by omega) c2)
          | exact cont M' _ _ rfl h4 a1 (hn (by omega))
      · refine aw_iload2 (pc := 25) F dX4_putNumber_25 ?_
        refine aw_iconst (pc := 26) F dX4_putNumber_26 ?_
        refine aw_icmp_ne (tgt := 57) (pc := 27) F dX4_putNumber_27 (by decide) (by unfold inR; omega) (by unfold inR; omega) (fun c27 => ?_) (fun c27 => ?_)
        · refine aw_iload2 (pc := 57) F dX4_putNumber_57 ?_
          refine aw_bipush (pc := 58) F dX4_putNumber_58 (by decide) ?_
          refine aw_idiv (pc := 60) F dX4_putNumber_60 (by unfold inR; omega) (by unfold inR; omega) (by omega) (by omega) ?_
          rw [hv]
          refine aw_istore2 (pc := 61) F dX4_putNumber_61 (by first | rfl | (simp only [List.all_cons, List.all_nil, h3, h4]; rfl)) hk.symm ?_
          refine aw_goto (tgt := 13) (pc := 62) F dX4_putNumber_62 (by decide) ?_
          first
          | exact cont M2 _ _ rfl rfl (a1.tr c1) (hc M2 _ (by omega) (by omega) c2)
          | exact cont M' _ _ rfl h4 a1 (hn (by omega))
        · refine aw_iload3 (pc := 30) F dX4_putNumber_30 ?_
          refine aw_bipush (pc := 31) F dX4_putNumber_31 (by decide) ?_
          refine aw_irem (pc := 33) F dX4_putNumber_33 (by unfold inR; omega) (by unfold inR; omega) (by omega) (by omega) ?_
          rw [← hs]
          refine aw_istore4 (pc := 34) F dX4_putNumber_34 (by first | rfl | (simp only [List.all_cons, List.all_nil, h3, h4]; rfl)) hk.symm ?_
          refine aw_aload0 (pc := 36) F dX4_putNumber_36 ?_
          refine aw_bipush (pc := 37) F dX4_putNumber_37 (by decide) ?_
          refine aw_iload4 (pc := 39) F dX4_putNumber_39 ?_
          refine aw_if_ge (tgt := 50) (pc := 41) F dX4_putNumber_41 (by decide) (by unfold inR; omega) (fun c41 => ?_) (fun c41 => ?_)
          · refine aw_iload4 (pc := 50) F dX4_putNumber_50 ?_
            refine aw_iadd (pc := 52) F dX4_putNumber_52 ?_
            refine aw_i2c (pc := 53) F dX4_putNumber_53 (by omega) (by omega) ?_
            refine aw_callVV1 (pc := 54) F dX4_putNumber_54 ml_4_19 rfl (by first | decide | (simp only [inB, cnt, rcnt]; omega)) (ct4_putP _ _ _ _ (by omega) a2) (Nat.le_of_ble_eq_true rfl) (by decide) (Nat.zero_le _) (fun σ9 h9_54 => ?_)
            obtain ⟨M2, rfl, c1, c2⟩ := h9_54
            refine aw_iload2 (pc := 57) F dX4_putNumber_57 ?_
            refine aw_bipush (pc := 58) F dX4_putNumber_58 (by decide) ?_
            refine aw_idiv (pc := 60) F dX4_putNumber_60 (by unfold inR; omega) (by unfold inR; omega) (by omega) (by omega) ?_
            rw [hv]
            refine aw_istore2 (pc := 61) F dX4_putNumber_61 (by first | rfl | (simp only [List.all_cons, List.all_nil, h3, h4]; rfl)) hk.symm ?_
            refine aw_goto (tgt := 13) (pc := 62) F dX4_putNumber_62 (by decide) ?_
            first
            | exact cont M2 _ _ rfl rfl (a1.tr c1) (hc M2 _ (by omega) (by omega) c2)
            | exact cont M' _ _ rfl h4 a1 (hn (by omega))
          · refine aw_iload4 (pc := 44) F dX4_putNumber_44 ?_
            refine aw_ineg (pc := 46) F dX4_putNumber_46 ?_
            refine aw_goto (tgt := 52) (pc := 47) F dX4_putNumber_47 (by decide) ?_
            refine aw_iadd (pc := 52) F dX4_putNumber_52 ?_
            refine aw_i2c (pc := 53) F dX4_putNumber_53 (by omega) (by omega) ?_
            refine aw_callVV1 (pc := 54) F dX4_putNumber_54 ml_4_19 rfl (by first | decide | (simp only [inB, cnt, rcnt]; omega)) (ct4_putP _ _ _ _ (by omega) a2) (Nat.le_of_ble_eq_true rfl) (by decide) (Nat.zero_le _) (fun σ9 h9_54 => ?_)
            obtain ⟨M2, rfl, c1, c2⟩ := h9_54
            refine aw_iload2 (pc := 57) F dX4_putNumber_57 ?_
            refine aw_bipush (pc := 58) F dX4_putNumber_58 (by decide) ?_
            refine aw_idiv (pc := 60) F dX4_putNumber_60 (by unfold inR; omega) (by unfold inR; omega) (by omega) (by omega) ?_
            rw [hv]
            refine aw_istore2 (pc := 61) F dX4_putNumber_61 (by first | rfl | (simp only [List.all_cons, List.all_nil, h3, h4]; rfl)) hk.symm ?_
            refine aw_goto (tgt := 13) (pc := 62) F dX4_putNumber_62 (by decide) ?_
            first
            | exact cont M2 _ _ rfl rfl (a1.tr c1) (hc M2 _ (by omega) (by omega) c2)
            | exact cont M' _ _ rfl h4 a1 (hn (by omega))
  have fin : ∀ (M' : Id4 → Int → Int) (w3 w4 : AV), only4 M M' → PgR M' (pNum p x) → AW X K 13 [aR (4, 0, 0, 0), aI x, aI 0, w3, w4] [] (M', R0 b) 0 Q9 := by
    intro M' w3 w4 a1 a2
    refine aw_iload2 (pc := 13) F dX4_putNumber_13 ?_
    refine aw_if_le (tgt := 65) (pc := 14) F dX4_putNumber_14 (by decide) (by unfold inR; omega) (fun c14 => ?_) (fun c14 => ?_)
    · rw [hQ]
      exact aw_vret (pc := 65) F dX4_putNumber_65 (Nat.zero_le _) ⟨M', rfl, a1, a2⟩
    · omega
  have big : ∀ (u : Int) (p' : Pg), 1000 ≤ u → pDg p' (absI x) u = p' := fun u p' hu => by
    unfold pDg
    rw [Int.ediv_eq_zero_of_lt ab.1 (by omega)]
    exact if_neg (by omega)
  have all : ∀ (M' : Id4 → Int → Int) (w3 w4 : AV), wide w3 = false → wide w4 = false → only4 M M' → PgR M' (pSg p x) → AW X K 13 [aR (4, 0, 0, 0), aI x, aI 1000000000, w3, w4] [] (M', R0 b) 0 Q9 := by
    intro M' w3 w4 h3 h4 a1 a2
    refine step 1000000000 100000000 _ _ _ _ (by decide) (by decide) (by first | rfl | decide) h3 h4 a1 a2 (fun M' w3 w4 h3 h4 a1 a2 => ?_)
    rw [big _ _ (by decide)] at a2
    refine step 100000000 10000000 _ _ _ _ (by decide) (by decide) (by first | rfl | decide) h3 h4 a1 a2 (fun M' w3 w4 h3 h4 a1 a2 => ?_)
    rw [big _ _ (by decide)] at a2
    refine step 10000000 1000000 _ _ _ _ (by decide) (by decide) (by first | rfl | decide) h3 h4 a1 a2 (fun M' w3 w4 h3 h4 a1 a2 => ?_)
    rw [big _ _ (by decide)] at a2
    refine step 1000000 100000 _ _ _ _ (by decide) (by decide) (by first | rfl | decide) h3 h4 a1 a2 (fun M' w3 w4 h3 h4 a1 a2 => ?_)
    rw [big _ _ (by decide)] at a2
    refine step 100000 10000 _ _ _ _ (by decide) (by decide) (by first | rfl | decide) h3 h4 a1 a2 (fun M' w3 w4 h3 h4 a1 a2 => ?_)
    rw [big _ _ (by decide)] at a2
    refine step 10000 1000 _ _ _ _ (by decide) (by decide) (by first | rfl | decide) h3 h4 a1 a2 (fun M' w3 w4 h3 h4 a1 a2 => ?_)
    rw [big _ _ (by decide)] at a2
    refine step 1000 100 _ _ _ _ (by decide) (by decide) (by first | rfl | decide) h3 h4 a1 a2 (fun M' w3 w4 h3 h4 a1 a2 => ?_)
    rw [big _ _ (by decide)] at a2
    refine step 100 10 _ _ _ _ (by decide) (by decide) (by first | rfl | decide) h3 h4 a1 a2 (fun M' w3 w4 h3 h4 a1 a2 => ?_)
    refine step 10 1 _ _ _ _ (by decide) (by decide) (by first | rfl | decide) h3 h4 a1 a2 (fun M' w3 w4 h3 h4 a1 a2 => ?_)
    refine step 1 0 _ _ _ _ (by decide) (by decide) (by first | rfl | decide) h3 h4 a1 a2 (fun M' w3 w4 h3 h4 a1 a2 => ?_)
    rw [pDg100 ab.1, pDg10 ab.1, pDg1] at a2
    exact fin M' w3 w4 a1 a2
  refine aw_iload1 (pc := 0) F dX4_putNumber_0 ?_
  refine aw_if_ge (tgt := 10) (pc := 1) F dX4_putNumber_1 (by decide) (by unfold inR; omega) (fun c1 => ?_) (fun c1 => ?_)
  · refine aw_ldc (pc := 10) F dX4_putNumber_10 kc_4_23 ?_
    refine aw_istore2 (pc := 12) F dX4_putNumber_12 rfl hk.symm ?_
    rw [← hQ]
    first
    | exact all M2 _ _ rfl rfl c1 (by unfold pSg; rw [if_pos (by omega)]; exact c2)
    | exact all M _ _ rfl rfl only4.rf (by unfold pSg; rw [if_neg (by omega)]; exact hp)
  · refine aw_aload0 (pc := 4) F dX4_putNumber_4 ?_
    refine aw_bipush (pc := 5) F dX4_putNumber_5 (by decide) ?_
    refine aw_callVV1 (pc := 7) F dX4_putNumber_7 ml_4_19 rfl (by first | decide | (simp only [inB, cnt, rcnt]; omega)) (ct4_putP _ _ _ _ (by decide) hp) (Nat.le_of_ble_eq_true rfl) (by decide) (Nat.zero_le _) (fun σ9 h9_7 => ?_)
    obtain ⟨M2, rfl, c1, c2⟩ := h9_7
    refine aw_ldc (pc := 10) F dX4_putNumber_10 kc_4_23 ?_
    refine aw_istore2 (pc := 12) F dX4_putNumber_12 rfl hk.symm ?_
    rw [← hQ]
    first
    | exact all M2 _ _ rfl rfl c1 (by unfold pSg; rw [if_pos (by omega)]; exact c2)
    | exact all M _ _ rfl rfl only4.rf (by unfold pSg; rw [if_neg (by omega)]; exact hp)
theorem ct4_putNumber (M : Id4 → Int → Int) (b : Bool) (x : Int) (p : Pg) (hx : -99 ≤ x ∧ x ≤ 99) (hp : PgR M p) : CtV 2 0 yX4_putNumber cX4_putNumber 5 none [aR (4, 0, 0, 0), aI x] (M, R0 b) (fun σ' => ∃ M', σ' = (M', R0 b) ∧ only4 M M' ∧ PgR M' (pNum p x)) := ct4_putWide M b x p (by omega) hp
