/-! 77: the class's tokens -/
/-- the class's bytes are the reference's, with a sign -/
def BC (B : Int → Int) (M : Id4 → Int → Int) : Prop := ∀ i, 0 ≤ i → i < 500 → (B i < 128 → M (8, 0, 1, 0) i = B i) ∧ (128 ≤ B i → M (8, 0, 1, 0) i = B i - 256)
/-- the token's fields alone may change -/
def chY (M M' : Id4 → Int → Int) : Prop := ∀ q k, ¬ (q = (6, 0, 0, 0) ∧ 6 ≤ k ∧ k ≤ 9) → M' q k = M q k
theorem chY.rf {M : Id4 → Int → Int} : chY M M := fun _ _ _ => rfl
theorem chY.tr {M M1 M2 : Id4 → Int → Int} (h1 : chY M M1) (h2 : chY M1 M2) : chY M M2 := fun q k h => (h2 q k h).trans (h1 q k h)
theorem chY.up {M M1 : Id4 → Int → Int} {k v : Int} (h1 : chY M M1) (hk : 6 ≤ k ∧ k ≤ 9) : chY M (updM M1 (6, 0, 0, 0) k v) := fun q j z => by
  rw [← h1 q j z]
  by_cases y : q = (6, 0, 0, 0)
  · exact upd_ne (Or.inr (fun w => z ⟨y, by omega⟩))
  · exact upd_ne (Or.inl y)
theorem chY.off {M M' : Id4 → Int → Int} (h : chY M M') {q : Id4} (hq : q ≠ (6, 0, 0, 0)) : M' q = M q := funext fun k => h q k (fun z => hq z.1)
theorem chY.n {M M' : Id4 → Int → Int} (h : chY M M') : M' (6, 0, 0, 0) 5 = M (6, 0, 0, 0) 5 := h _ _ (fun z => absurd z.2.1 (by decide))
theorem BC.y {B : Int → Int} {M M' : Id4 → Int → Int} (hc : BC B M) (h : chY M M') : BC B M' := fun i i0 i1 => by rw [h.off (by decide)]; exact hc i i0 i1
theorem rn_gt {p : Int → Bool} {B : Int → Int} {n s : Int} (h : s < n) : s < rn p B n s ↔ p (B s) = true := by
  constructor
  · intro z
    exact ((rn_at (p := p) (B := B) (n := n) (i := s)).2.1 s (Int.le_refl _) z).2
  · intro z
    rw [rn_go ⟨h, z⟩]
    have a := (rn_at (p := p) (B := B) (n := n) (i := s + 1)).1
    omega
theorem ct6_endOfRun (M : Id4 → Int → Int) (B : Int → Int) (p : Int → Bool) (n s lo hi : Int) (hp : ∀ c, p c = true ↔ lo ≤ c ∧ c ≤ hi) (hlo : 0 ≤ lo ∧ lo ≤ 127) (hhi : 0 ≤ hi ∧ hi ≤ 127) (hB : BC B M) (hy : BY B) (hn : M (6, 0, 0, 0) 5 = n) (hn2 : 0 ≤ n ∧ n ≤ 500) (hs : M (6, 0, 0, 0) 7 = s) (h1 : 0 ≤ s ∧ s ≤ n) : CtI 1 0 yX6_endOfRun cX6_endOfRun 4 (some .int) [aR (6, 0, 0, 0), aI lo, aI hi] (M, R0 true) (PU (M, R0 true) (rn p B n s)) := by
  refine CtI.mk (by decide +kernel) rfl (Nat.le_of_ble_eq_true rfl) (fun X K F hk => ?_)
  obtain ⟨Q9, hQ⟩ : ∃ Q9, Q9 = EI X K 0 (PU (M, R0 true) (rn p B n s)) := ⟨_, rfl⟩
  have loop : ∀ (f : Nat) (j : Int), (n - j).toNat = f → s ≤ j → j ≤ n → rn p B n s = rn p B n j → AW X K 5 [aR (6, 0, 0, 0), aI lo, aI hi, aI j] [] (M, R0 true) 0 Q9 := by
    intro f
    induction f with
    | zero =>
      intro j hf j1 j2 hr
      have st := rn_no (p := p) (B := B) (n := n) (i := j) (fun z => by omega)
      refine aw_iload3 (pc := 5) F dX6_endOfRun_5 ?_
      refine aw_aload0 (pc := 6) F dX6_endOfRun_6 ?_
      refine aw_getI (pc := 7) F dX6_endOfRun_7 fl_6_36 rfl (by first | decide | (simp only [inB, cnt, rcnt]; omega)) rfl nz5 ?_
      refine aw_icmp_ge (tgt := 39) (pc := 10) F dX6_endOfRun_10 (by decide) (by unfold inR; omega) (by unfold inR; omega) (fun c10 => ?_) (fun c10 => ?_)
      · refine aw_iload3 (pc := 39) F dX6_endOfRun_39 ?_
        rw [hQ]
        exact aw_iret (pc := 40) F dX6_endOfRun_40 rfl (Nat.zero_le _) ⟨by rw [hr, st], rfl⟩
      · omega
    | succ f ih =>
      intro j hf j1 j2 hr
      have bj := hy j (by omega) (by omega)
      have cj := hB j (by omega) (by omega)
      have cb : -128 ≤ M (8, 0, 1, 0) j ∧ M (8, 0, 1, 0) j ≤ 127 := by omega
      refine aw_iload3 (pc := 5) F dX6_endOfRun_5 ?_
      refine aw_aload0 (pc := 6) F dX6_endOfRun_6 ?_
      refine aw_getI (pc := 7) F dX6_endOfRun_7 fl_6_36 rfl (by first | decide | (simp only [inB, cnt, rcnt]; omega)) rfl nz5 ?_
      refine aw_icmp_ge (tgt := 39) (pc := 10) F dX6_endOfRun_10 (by decide) (by unfold inR; omega) (by unfold inR; omega) (fun c10 => ?_) (fun c10 => ?_)
      · omega
      · refine aw_aload0 (pc := 13) F dX6_endOfRun_13 ?_
        refine aw_getR (pc := 14) F dX6_endOfRun_14 fl_6_32 rfl (by first | decide | (simp only [inB, cnt, rcnt]; omega)) rfl nz4 rfl ?_
        refine aw_iload3 (pc := 17) F dX6_endOfRun_17 ?_
        refine aw_bald (pc := 18) F dX6_endOfRun_18 rfl (by first | decide | (simp only [inB, cnt, rcnt]; omega)) (by omega) ?_
        refine aw_iload1 (pc := 19) F dX6_endOfRun_19 ?_
        refine aw_icmp_lt (tgt := 39) (pc := 20) F dX6_endOfRun_20 (by decide) (by unfold inR; omega) (by unfold inR; omega) (fun c20 => ?_) (fun c20 => ?_)
        · have st := rn_no (p := p) (B := B) (n := n) (i := j) (fun z => by have := (hp _).mp z.2; omega)
          refine aw_iload3 (pc := 39) F dX6_endOfRun_39 ?_
          rw [hQ]
          exact aw_iret (pc := 40) F dX6_endOfRun_40 rfl (Nat.zero_le _) ⟨by rw [hr, st], rfl⟩
        · refine aw_aload0 (pc := 23) F dX6_endOfRun_23 ?_
          refine aw_getR (pc := 24) F dX6_endOfRun_24 fl_6_32 rfl (by first | decide | (simp only [inB, cnt, rcnt]; omega)) rfl nz4 rfl ?_
          refine aw_iload3 (pc := 27) F dX6_endOfRun_27 ?_
          refine aw_bald (pc := 28) F dX6_endOfRun_28 rfl (by first | decide | (simp only [inB, cnt, rcnt]; omega)) (by omega) ?_
          refine aw_iload2 (pc := 29) F dX6_endOfRun_29 ?_
          refine aw_icmp_gt (tgt := 39) (pc := 30) F dX6_endOfRun_30 (by decide) (by unfold inR; omega) (by unfold inR; omega) (fun c30 => ?_) (fun c30 => ?_)
          · have st := rn_no (p := p) (B := B) (n := n) (i := j) (fun z => by have := (hp _).mp z.2; omega)
            refine aw_iload3 (pc := 39) F dX6_endOfRun_39 ?_
            rw [hQ]
            exact aw_iret (pc := 40) F dX6_endOfRun_40 rfl (Nat.zero_le _) ⟨by rw [hr, st], rfl⟩
          · refine aw_iinc3 (pc := 33) F dX6_endOfRun_33 rfl hk.symm ?_
            refine aw_goto (tgt := 5) (pc := 36) F dX6_endOfRun_36 (by decide) ?_
            exact ih (j + 1) (by omega) (by omega) (by omega) (hr.trans (rn_go ⟨by omega, (hp _).mpr (by omega)⟩))
  refine aw_aload0 (pc := 0) F dX6_endOfRun_0 ?_
  refine aw_getI (pc := 1) F dX6_endOfRun_1 fl_6_42 rfl (by first | decide | (simp only [inB, cnt, rcnt]; omega)) rfl nz7 ?_
  refine aw_istore3 (pc := 4) F dX6_endOfRun_4 rfl hk.symm ?_
  rw [hs, ← hQ]
  exact loop _ s rfl (by omega) (by omega) rfl
theorem ct6_valueOfDigits (M : Id4 → Int → Int) (B : Int → Int) (s e : Int) (hB : BC B M) (hs : M (6, 0, 0, 0) 7 = s) (he : M (6, 0, 0, 0) 8 = e) (h1 : 0 ≤ s ∧ s < e ∧ e ≤ s + 2 ∧ e ≤ 500) (hd : ∀ k, s ≤ k → k < e → 48 ≤ B k ∧ B k ≤ 57) : CtI 1 0 yX6_valueOfDigits cX6_valueOfDigits 3 (some .int) [aR (6, 0, 0, 0)] (M, R0 true) (PU (M, R0 true) (if e - s = 1 then B s - 48 else 10 * (B s - 48) + B (s + 1) - 48)) := by
  refine CtI.mk (by decide +kernel) rfl (Nat.le_of_ble_eq_true rfl) (fun X K F hk => ?_)
  obtain ⟨Q9, hQ⟩ : ∃ Q9, Q9 = EI X K 0 (PU (M, R0 true) (if e - s = 1 then B s - 48 else 10 * (B s - 48) + B (s + 1) - 48)) := ⟨_, rfl⟩
  have d0 := hd s (by omega) (by omega)
  have c0 := (hB s (by omega) (by omega)).1 (by omega)
  have k2 : e = s + 2 → AW X K 7 [aR (6, 0, 0, 0), aI (10 * (B s - 48) + B (s + 1) - 48), aI (s + 2)] [] (M, R0 true) 0 Q9 := by
    intro h2
    refine aw_iload2 (pc := 7) F dX6_valueOfDigits_7 ?_
    refine aw_aload0 (pc := 8) F dX6_valueOfDigits_8 ?_
    refine aw_getI (pc := 9) F dX6_valueOfDigits_9 fl_6_45 rfl (by first | decide | (simp only [inB, cnt, rcnt]; omega)) rfl nz8 ?_
    refine aw_icmp_ge (tgt := 36) (pc := 12) F dX6_valueOfDigits_12 (by decide) (by unfold inR; omega) (by unfold inR; omega) (fun c12 => ?_) (fun c12 => ?_)
    · refine aw_iload1 (pc := 36) F dX6_valueOfDigits_36 ?_
      rw [hQ]
      exact aw_iret (pc := 37) F dX6_valueOfDigits_37 rfl (Nat.zero_le _) ⟨by rw [if_neg (by omega)], rfl⟩
    · omega
  have k1 : AW X K 7 [aR (6, 0, 0, 0), aI (B s - 48), aI (s + 1)] [] (M, R0 true) 0 Q9 := by
    by_cases h2 : e = s + 2
    · have d1 := hd (s + 1) (by omega) (by omega)
      have c1 := (hB (s + 1) (by omega) (by omega)).1 (by omega)
      refine aw_iload2 (pc := 7) F dX6_valueOfDigits_7 ?_
      refine aw_aload0 (pc := 8) F dX6_valueOfDigits_8 ?_
      refine aw_getI (pc := 9) F dX6_valueOfDigits_9 fl_6_45 rfl (by first | decide | (simp only [inB, cnt, rcnt]; omega)) rfl nz8 ?_
      refine aw_icmp_ge (tgt := 36) (pc := 12) F dX6_valueOfDigits_12 (by decide) (by unfold inR; omega) (by unfold inR; omega) (fun c12 => ?_) (fun c12 => ?_)
      · omega
      · refine aw_iload1 (pc := 15) F dX6_valueOfDigits_15 ?_
        refine aw_bipush (pc := 16) F dX6_valueOfDigits_16 (by decide) ?_
        refine aw_imul (pc := 18) F dX6_valueOfDigits_18 ?_
        refine aw_aload0 (pc := 19) F dX6_valueOfDigits_19 ?_
        refine aw_getR (pc := 20) F dX6_valueOfDigits_20 fl_6_32 rfl (by first | decide | (simp only [inB, cnt, rcnt]; omega)) rfl nz4 rfl ?_
        refine aw_iload2 (pc := 23) F dX6_valueOfDigits_23 ?_
        refine aw_bald (pc := 24) F dX6_valueOfDigits_24 rfl (by first | decide | (simp only [inB, cnt, rcnt]; omega)) (by omega) ?_
        rw [c1]
        refine aw_bipush (pc := 25) F dX6_valueOfDigits_25 (by decide) ?_
        refine aw_isub (pc := 27) F dX6_valueOfDigits_27 ?_
        refine aw_iadd (pc := 28) F dX6_valueOfDigits_28 ?_
        refine aw_istore1 (pc := 29) F dX6_valueOfDigits_29 rfl hk.symm ?_
        refine aw_iinc2 (pc := 30) F dX6_valueOfDigits_30 rfl hk.symm ?_
        refine aw_goto (tgt := 7) (pc := 33) F dX6_valueOfDigits_33 (by decide) ?_
        rw [show (B s - 48) * 10 + (B (s + 1) - 48) = 10 * (B s - 48) + B (s + 1) - 48 by omega, show s + 1 + 1 = s + 2 by omega]
        exact k2 h2
    · skip
      refine aw_iload2 (pc := 7) F dX6_valueOfDigits_7 ?_
      refine aw_aload0 (pc := 8) F dX6_valueOfDigits_8 ?_
      refine aw_getI (pc := 9) F dX6_valueOfDigits_9 fl_6_45 rfl (by first | decide | (simp only [inB, cnt, rcnt]; omega)) rfl nz8 ?_
      refine aw_icmp_ge (tgt := 36) (pc := 12) F dX6_valueOfDigits_12 (by decide) (by unfold inR; omega) (by unfold inR; omega) (fun c12 => ?_) (fun c12 => ?_)
      · refine aw_iload1 (pc := 36) F dX6_valueOfDigits_36 ?_
        rw [hQ]
        exact aw_iret (pc := 37) F dX6_valueOfDigits_37 rfl (Nat.zero_le _) ⟨by rw [if_pos (by omega)], rfl⟩
      · omega
  have k0 : AW X K 7 [aR (6, 0, 0, 0), aI 0, aI s] [] (M, R0 true) 0 Q9 := by
    refine aw_iload2 (pc := 7) F dX6_valueOfDigits_7 ?_
    refine aw_aload0 (pc := 8) F dX6_valueOfDigits_8 ?_
    refine aw_getI (pc := 9) F dX6_valueOfDigits_9 fl_6_45 rfl (by first | decide | (simp only [inB, cnt, rcnt]; omega)) rfl nz8 ?_
    refine aw_icmp_ge (tgt := 36) (pc := 12) F dX6_valueOfDigits_12 (by decide) (by unfold inR; omega) (by unfold inR; omega) (fun c12 => ?_) (fun c12 => ?_)
    · omega
    · refine aw_iload1 (pc := 15) F dX6_valueOfDigits_15 ?_
      refine aw_bipush (pc := 16) F dX6_valueOfDigits_16 (by decide) ?_
      refine aw_imul (pc := 18) F dX6_valueOfDigits_18 ?_
      refine aw_aload0 (pc := 19) F dX6_valueOfDigits_19 ?_
      refine aw_getR (pc := 20) F dX6_valueOfDigits_20 fl_6_32 rfl (by first | decide | (simp only [inB, cnt, rcnt]; omega)) rfl nz4 rfl ?_
      refine aw_iload2 (pc := 23) F dX6_valueOfDigits_23 ?_
      refine aw_bald (pc := 24) F dX6_valueOfDigits_24 rfl (by first | decide | (simp only [inB, cnt, rcnt]; omega)) (by omega) ?_
      rw [c0]
      refine aw_bipush (pc := 25) F dX6_valueOfDigits_25 (by decide) ?_
      refine aw_isub (pc := 27) F dX6_valueOfDigits_27 ?_
      refine aw_iadd (pc := 28) F dX6_valueOfDigits_28 ?_
      refine aw_istore1 (pc := 29) F dX6_valueOfDigits_29 rfl hk.symm ?_
      refine aw_iinc2 (pc := 30) F dX6_valueOfDigits_30 rfl hk.symm ?_
      refine aw_goto (tgt := 7) (pc := 33) F dX6_valueOfDigits_33 (by decide) ?_
      rw [show (0 : Int) * 10 + (B s - 48) = B s - 48 by omega]
      exact k1
  refine aw_iconst (pc := 0) F dX6_valueOfDigits_0 ?_
  refine aw_istore1 (pc := 1) F dX6_valueOfDigits_1 rfl hk.symm ?_
  refine aw_aload0 (pc := 2) F dX6_valueOfDigits_2 ?_
  refine aw_getI (pc := 3) F dX6_valueOfDigits_3 fl_6_42 rfl (by first | decide | (simp only [inB, cnt, rcnt]; omega)) rfl nz7 ?_
  refine aw_istore2 (pc := 6) F dX6_valueOfDigits_6 rfl hk.symm ?_
  rw [hs, ← hQ]
  exact k0
/-- the token behind place i stands in the class's fields -/
def TC (B : Int → Int) (n i : Int) (M : Id4 → Int → Int) : Prop := M (6, 0, 0, 0) 7 = stT B n i ∧ M (6, 0, 0, 0) 8 = nxT B n i ∧ M (6, 0, 0, 0) 6 = kdT B n i ∧ (kdT B n i = 3 → M (6, 0, 0, 0) 9 = vlT B n i)
theorem ct6_nextToken (M : Id4 → Int → Int) (B : Int → Int) (n i : Int) (hB : BC B M) (hx : TX B n i) (hn : M (6, 0, 0, 0) 5 = n) (hi9 : M (6, 0, 0, 0) 8 = i) : CtV 2 0 yX6_nextToken cX6_nextToken 3 none [aR (6, 0, 0, 0)] (M, R0 true) (fun σ' => ∃ M', σ' = (M', R0 true) ∧ chY M M' ∧ TC B n i M') := by
  refine CtV.mk (by decide +kernel) rfl (Nat.le_of_ble_eq_true rfl) (fun X K F hk => ?_)
  obtain ⟨hy, hn2, h0, h1⟩ := id hx
  have sb := stT_bd (B := B) h1
  obtain ⟨Q9, hQ⟩ : ∃ Q9, Q9 = EV X K 0 (fun σ' => ∃ M', σ' = (M', R0 true) ∧ chY M M' ∧ TC B n i M') := ⟨_, rfl⟩
  have tok : ∀ (M' : Id4 → Int → Int), chY M M' → M' (6, 0, 0, 0) 7 = stT B n i → AW X K 60 [aR (6, 0, 0, 0), aX, aX] [] (M', R0 true) 0 Q9 := by
    intro M' a1 a3
    have e5 := a1.n.trans hn
    have hB' := hB.y a1
    obtain ⟨s, hs⟩ : ∃ s, s = stT B n i := ⟨_, rfl⟩
    rw [← hs] at a3 sb
    have g7 : ∀ (M'' : Id4 → Int → Int), chY M M'' → M'' (6, 0, 0, 0) 7 = s → M'' (6, 0, 0, 0) 8 = tnS B n s → M'' (6, 0, 0, 0) 6 = tkS B n s → (tkS B n s = 3 → M'' (6, 0, 0, 0) 9 = tvS B n s) → ∀ w1 w2 : AV, AW X K 227 [aR (6, 0, 0, 0), w1, w2] [] (M'', R0 true) 0 Q9 := by
      intro M'' b1 b2 b3 b4 b5 w1 w2
      rw [hQ]
      exact aw_vret (pc := 227) F dX6_nextToken_227 (Nat.zero_le _) ⟨M'', rfl, b1, by unfold TC nxT kdT vlT; rw [← hs]; exact ⟨b2, b3, b4, b5⟩⟩
    by_cases se : n ≤ s
    · skip
      refine aw_aload0 (pc := 60) F dX6_nextToken_60 ?_
      refine aw_getI (pc := 61) F dX6_nextToken_61 fl_6_42 rfl (by first | decide | (simp only [inB, cnt, rcnt]; omega)) rfl nz7 ?_
      refine aw_aload0 (pc := 64) F dX6_nextToken_64 ?_
      refine aw_getI (pc := 65) F dX6_nextToken_65 fl_6_36 rfl (by first | decide | (simp only [inB, cnt, rcnt]; omega)) rfl nz5 ?_
      refine aw_icmp_lt (tgt := 85) (pc := 68) F dX6_nextToken_68 (by decide) (by unfold inR; omega) (by unfold inR; omega) (fun c68 => ?_) (fun c68 => ?_)
      · omega
      · refine aw_aload0 (pc := 71) F dX6_nextToken_71 ?_
        refine aw_aload0 (pc := 72) F dX6_nextToken_72 ?_
        refine aw_getI (pc := 73) F dX6_nextToken_73 fl_6_42 rfl (by first | decide | (simp only [inB, cnt, rcnt]; omega)) rfl nz7 ?_
        refine aw_putI (pc := 76) F dX6_nextToken_76 fl_6_45 fpi_6_8 rfl (by first | decide | (simp only [inB, cnt, rcnt]; omega)) rfl nz8 ?_
        refine aw_aload0 (pc := 79) F dX6_nextToken_79 ?_
        refine aw_iconst (pc := 80) F dX6_nextToken_80 ?_
        refine aw_putI (pc := 81) F dX6_nextToken_81 fl_6_39 fpi_6_6 rfl (by first | decide | (simp only [inB, cnt, rcnt]; omega)) rfl nz6 ?_
        rw [hQ]
        exact aw_vret (pc := 84) F dX6_nextToken_84 (Nat.zero_le _) ⟨_, rfl, (a1.up (by decide)).up (by decide), by
          have ek := tk_e (B := B) se
          unfold TC nxT kdT vlT
          rw [← hs]
          refine ⟨by rw [upd_ne (Or.inr (by decide)), upd_ne (Or.inr (by decide))]; exact a3, by rw [upd_ne (Or.inr (by decide)), upd_same, ek.1]; exact a3, by rw [upd_same, ek.2], fun z => absurd (ek.2.symm.trans z) (by decide)⟩⟩
    · have bj := hy s (by omega) (by omega)
      have cj := hB' s (by omega) (by omega)
      have lw := rn_gt (p := isLt) (B := B) (n := n) (s := s) (by omega)
      have ld := rn_gt (p := isDg) (B := B) (n := n) (s := s) (by omega)
      have r7 : ∀ v, updM M' (6, 0, 0, 0) 8 v (6, 0, 0, 0) 7 = s := fun v => by rw [upd_ne (Or.inr (by decide))]; exact a3
      have rw' := (rn_at (p := isLt) (B := B) (n := n) (i := s)).1
      have rd' := (rn_at (p := isDg) (B := B) (n := n) (i := s)).1
      have g8 : ∀ (k : Int) (w1 w2 : AV) (e : Int), tnS B n s = e → tkS B n s = k → k ≠ 3 → AW X K 227 [aR (6, 0, 0, 0), w1, w2] [] (updM (updM M' (6, 0, 0, 0) 8 e) (6, 0, 0, 0) 6 k, R0 true) 0 Q9 := fun k w1 w2 e q1 q2 q3 => g7 _ ((a1.up (by decide)).up (by decide)) (by rw [upd_ne (Or.inr (by decide))]; exact r7 _) (by rw [upd_ne (Or.inr (by decide)), upd_same, q1]) (by rw [upd_same, q2]) (fun z => absurd (q2.symm.trans z) q3) _ _
      have g9 : ∀ (k : Int) (w1 w2 : AV) (e v : Int), tnS B n s = e → tkS B n s = k → (k = 3 → v = tvS B n s) → AW X K 227 [aR (6, 0, 0, 0), w1, w2] [] (updM (updM (updM M' (6, 0, 0, 0) 8 e) (6, 0, 0, 0) 6 k) (6, 0, 0, 0) 9 v, R0 true) 0 Q9 := fun k w1 w2 e v q1 q2 q3 => g7 _ (((a1.up (by decide)).up (by decide)).up (by decide)) (by rw [upd_ne (Or.inr (by decide)), upd_ne (Or.inr (by decide))]; exact r7 _) (by rw [upd_ne (Or.inr (by decide)), upd_ne (Or.inr (by decide)), upd_same, q1]) (by rw [upd_ne (Or.inr (by decide)), upd_same, q2]) (fun z => by rw [upd_same]; exact q3 (q2.symm.trans z)) _ _
      have pW : isLt (B s) = true → AW X K 111 [aR (6, 0, 0, 0), aI (rn isLt B n s), aI (rn isDg B n s)] [] (M', R0 true) 0 Q9 := by
        intro z
        have ek := tk_w (B := B) (n := n) (s := s) ⟨by omega, z⟩
        refine aw_aload0 (pc := 111) F dX6_nextToken_111 ?_
        refine aw_iload1 (pc := 112) F dX6_nextToken_112 ?_
        refine aw_putI (pc := 113) F dX6_nextToken_113 fl_6_45 fpi_6_8 rfl (by first | decide | (simp only [inB, cnt, rcnt]; omega)) rfl nz8 ?_
        refine aw_aload0 (pc := 116) F dX6_nextToken_116 ?_
        refine aw_iload1 (pc := 117) F dX6_nextToken_117 ?_
        refine aw_aload0 (pc := 118) F dX6_nextToken_118 ?_
        refine aw_getI (pc := 119) F dX6_nextToken_119 fl_6_42 rfl (by first | decide | (simp only [inB, cnt, rcnt]; omega)) rfl nz7 ?_
        rw [r7]
        refine aw_isub (pc := 122) F dX6_nextToken_122 ?_
        refine aw_bipush (pc := 123) F dX6_nextToken_123 (by decide) ?_
        refine aw_icmp_gt (tgt := 132) (pc := 125) F dX6_nextToken_125 (by decide) (by unfold inR; omega) (by unfold inR; omega) (fun c125 => ?_) (fun c125 => ?_)
        · refine aw_iconst (pc := 132) F dX6_nextToken_132 ?_
          refine aw_putI (pc := 133) F dX6_nextToken_133 fl_6_39 fpi_6_6 rfl (by first | decide | (simp only [inB, cnt, rcnt]; omega)) rfl nz6 ?_
          refine aw_goto (tgt := 227) (pc := 136) F dX6_nextToken_136 (by decide) ?_
          first | exact g8 1 _ _ _ ek.1 (ek.2.trans (if_pos (by omega))) (by decide) | exact g8 2 _ _ _ ek.1 (ek.2.trans (if_neg (by omega))) (by decide)
        · refine aw_iconst (pc := 128) F dX6_nextToken_128 ?_
          refine aw_goto (tgt := 133) (pc := 129) F dX6_nextToken_129 (by decide) ?_
          refine aw_putI (pc := 133) F dX6_nextToken_133 fl_6_39 fpi_6_6 rfl (by first | decide | (simp only [inB, cnt, rcnt]; omega)) rfl nz6 ?_
          refine aw_goto (tgt := 227) (pc := 136) F dX6_nextToken_136 (by decide) ?_
          first | exact g8 1 _ _ _ ek.1 (ek.2.trans (if_pos (by omega))) (by decide) | exact g8 2 _ _ _ ek.1 (ek.2.trans (if_neg (by omega))) (by decide)
      have pP : ¬ isLt (B s) = true → ¬ isDg (B s) = true → AW X K 194 [aR (6, 0, 0, 0), aI (rn isLt B n s), aI (rn isDg B n s)] [] (M', R0 true) 0 Q9 := by
        intro z y
        have ek := tk_p (B := B) (n := n) (s := s) ⟨by omega, z, y⟩
        refine aw_aload0 (pc := 194) F dX6_nextToken_194 ?_
        refine aw_aload0 (pc := 195) F dX6_nextToken_195 ?_
        refine aw_getI (pc := 196) F dX6_nextToken_196 fl_6_42 rfl (by first | decide | (simp only [inB, cnt, rcnt]; omega)) rfl nz7 ?_
        rw [a3]
        refine aw_iconst (pc := 199) F dX6_nextToken_199 ?_
        refine aw_iadd (pc := 200) F dX6_nextToken_200 ?_
        refine aw_putI (pc := 201) F dX6_nextToken_201 fl_6_45 fpi_6_8 rfl (by first | decide | (simp only [inB, cnt, rcnt]; omega)) rfl nz8 ?_
        refine aw_aload0 (pc := 204) F dX6_nextToken_204 ?_
        refine aw_aload0 (pc := 205) F dX6_nextToken_205 ?_
        refine aw_getR (pc := 206) F dX6_nextToken_206 fl_6_32 rfl (by first | decide | (simp only [inB, cnt, rcnt]; omega)) rfl nz4 rfl ?_
        refine aw_aload0 (pc := 209) F dX6_nextToken_209 ?_
        refine aw_getI (pc := 210) F dX6_nextToken_210 fl_6_42 rfl (by first | decide | (simp only [inB, cnt, rcnt]; omega)) rfl nz7 ?_
        rw [r7]
        refine aw_bald (pc := 213) F dX6_nextToken_213 rfl (by first | decide | (simp only [inB, cnt, rcnt]; omega)) (by omega) ?_
        rw [upd_off (by decide)]
        refine aw_bipush (pc := 214) F dX6_nextToken_214 (by decide) ?_
        refine aw_icmp_ne (tgt := 223) (pc := 216) F dX6_nextToken_216 (by decide) (by unfold inR; omega) (by unfold inR; omega) (fun c216 => ?_) (fun c216 => ?_)
        · refine aw_iconst (pc := 223) F dX6_nextToken_223 ?_
          refine aw_putI (pc := 224) F dX6_nextToken_224 fl_6_39 fpi_6_6 rfl (by first | decide | (simp only [inB, cnt, rcnt]; omega)) rfl nz6 ?_
          first | exact g8 4 _ _ _ ek.1 (ek.2.trans (if_pos (by omega))) (by decide) | exact g8 1 _ _ _ ek.1 (ek.2.trans (if_neg (by omega))) (by decide)
        · refine aw_iconst (pc := 219) F dX6_nextToken_219 ?_
          refine aw_goto (tgt := 224) (pc := 220) F dX6_nextToken_220 (by decide) ?_
          refine aw_putI (pc := 224) F dX6_nextToken_224 fl_6_39 fpi_6_6 rfl (by first | decide | (simp only [inB, cnt, rcnt]; omega)) rfl nz6 ?_
          first | exact g8 4 _ _ _ ek.1 (ek.2.trans (if_pos (by omega))) (by decide) | exact g8 1 _ _ _ ek.1 (ek.2.trans (if_neg (by omega))) (by decide)
      have pD : ¬ isLt (B s) = true → isDg (B s) = true → AW X K 147 [aR (6, 0, 0, 0), aI (rn isLt B n s), aI (rn isDg B n s)] [] (M', R0 true) 0 Q9 := by
        intro z y
        have ek := tk_d (B := B) (n := n) (s := s) ⟨by omega, z, y⟩
        have gt := ld.mpr y
        have dN : 2 < rn isDg B n s - s → AW X K 187 [aR (6, 0, 0, 0), aI (rn isLt B n s), aI (rn isDg B n s)] [aR (6, 0, 0, 0)] (updM (updM M' (6, 0, 0, 0) 8 (rn isDg B n s)) (6, 0, 0, 0) 6 1, R0 true) 0 Q9 := by
          intro q
          refine aw_iconst (pc := 187) F dX6_nextToken_187 ?_
          refine aw_putI (pc := 188) F dX6_nextToken_188 fl_6_48 fpi_6_9 rfl (by first | decide | (simp only [inB, cnt, rcnt]; omega)) rfl nz9 ?_
          refine aw_goto (tgt := 227) (pc := 191) F dX6_nextToken_191 (by decide) ?_
          exact g9 1 _ _ _ _ ek.1 (ek.2.trans (if_pos q)) (fun w => absurd w (by decide))
        have dV : rn isDg B n s - s ≤ 2 → AW X K 180 [aR (6, 0, 0, 0), aI (rn isLt B n s), aI (rn isDg B n s)] [aR (6, 0, 0, 0)] (updM (updM M' (6, 0, 0, 0) 8 (rn isDg B n s)) (6, 0, 0, 0) 6 3, R0 true) 0 Q9 := by
          intro q
          refine aw_aload0 (pc := 180) F dX6_nextToken_180 ?_
          refine aw_pcallV0 (pc := 181) F dX6_nextToken_181 ml_6_143 rfl (by first | decide | (simp only [inB, cnt, rcnt]; omega)) (ct6_valueOfDigits _ B s (rn isDg B n s) (hB'.y ((chY.rf.up (by decide)).up (by decide))) (by rw [upd_ne (Or.inr (by decide))]; exact r7 _) (by rw [upd_ne (Or.inr (by decide)), upd_same]) (by omega) (fun k k0 k1 => isDg_iff.mp ((rn_at (p := isDg) (B := B) (n := n) (i := s)).2.1 k k0 k1).2)) (Nat.le_of_ble_eq_true rfl) (by decide) (Nat.zero_le _) ?_
          refine aw_goto (tgt := 188) (pc := 184) F dX6_nextToken_184 (by decide) ?_
          refine aw_putI (pc := 188) F dX6_nextToken_188 fl_6_48 fpi_6_9 rfl (by first | decide | (simp only [inB, cnt, rcnt]; omega)) rfl nz9 ?_
          refine aw_goto (tgt := 227) (pc := 191) F dX6_nextToken_191 (by decide) ?_
          exact g9 3 _ _ _ _ ek.1 (ek.2.trans (if_neg (by omega))) (fun _ => rfl)
        refine aw_aload0 (pc := 147) F dX6_nextToken_147 ?_
        refine aw_iload2 (pc := 148) F dX6_nextToken_148 ?_
        refine aw_putI (pc := 149) F dX6_nextToken_149 fl_6_45 fpi_6_8 rfl (by first | decide | (simp only [inB, cnt, rcnt]; omega)) rfl nz8 ?_
        refine aw_aload0 (pc := 152) F dX6_nextToken_152 ?_
        refine aw_iload2 (pc := 153) F dX6_nextToken_153 ?_
        refine aw_aload0 (pc := 154) F dX6_nextToken_154 ?_
        refine aw_getI (pc := 155) F dX6_nextToken_155 fl_6_42 rfl (by first | decide | (simp only [inB, cnt, rcnt]; omega)) rfl nz7 ?_
        rw [r7]
        refine aw_isub (pc := 158) F dX6_nextToken_158 ?_
        refine aw_iconst (pc := 159) F dX6_nextToken_159 ?_
        refine aw_icmp_gt (tgt := 167) (pc := 160) F dX6_nextToken_160 (by decide) (by unfold inR; omega) (by unfold inR; omega) (fun c160 => ?_) (fun c160 => ?_)
        · refine aw_iconst (pc := 167) F dX6_nextToken_167 ?_
          refine aw_putI (pc := 168) F dX6_nextToken_168 fl_6_39 fpi_6_6 rfl (by first | decide | (simp only [inB, cnt, rcnt]; omega)) rfl nz6 ?_
          refine aw_aload0 (pc := 171) F dX6_nextToken_171 ?_
          refine aw_aload0 (pc := 172) F dX6_nextToken_172 ?_
          refine aw_getI (pc := 173) F dX6_nextToken_173 fl_6_39 rfl (by first | decide | (simp only [inB, cnt, rcnt]; omega)) rfl nz6 ?_
          rw [upd_same]
          refine aw_iconst (pc := 176) F dX6_nextToken_176 ?_
          refine aw_icmp_ne (tgt := 187) (pc := 177) F dX6_nextToken_177 (by decide) (by unfold inR; omega) (by unfold inR; omega) (fun c177 => ?_) (fun c177 => ?_)
          · first | exact absurd rfl c177 | exact dN (by omega)
          · first | exact absurd c177 (by decide) | exact dV (by omega)
        · refine aw_iconst (pc := 163) F dX6_nextToken_163 ?_
          refine aw_goto (tgt := 168) (pc := 164) F dX6_nextToken_164 (by decide) ?_
          refine aw_putI (pc := 168) F dX6_nextToken_168 fl_6_39 fpi_6_6 rfl (by first | decide | (simp only [inB, cnt, rcnt]; omega)) rfl nz6 ?_
          refine aw_aload0 (pc := 171) F dX6_nextToken_171 ?_
          refine aw_aload0 (pc := 172) F dX6_nextToken_172 ?_
          refine aw_getI (pc := 173) F dX6_nextToken_173 fl_6_39 rfl (by first | decide | (simp only [inB, cnt, rcnt]; omega)) rfl nz6 ?_
          rw [upd_same]
          refine aw_iconst (pc := 176) F dX6_nextToken_176 ?_
          refine aw_icmp_ne (tgt := 187) (pc := 177) F dX6_nextToken_177 (by decide) (by unfold inR; omega) (by unfold inR; omega) (fun c177 => ?_) (fun c177 => ?_)
          · first | exact absurd rfl c177 | exact dN (by omega)
          · first | exact absurd c177 (by decide) | exact dV (by omega)
      refine aw_aload0 (pc := 60) F dX6_nextToken_60 ?_
      refine aw_getI (pc := 61) F dX6_nextToken_61 fl_6_42 rfl (by first | decide | (simp only [inB, cnt, rcnt]; omega)) rfl nz7 ?_
      refine aw_aload0 (pc := 64) F dX6_nextToken_64 ?_
      refine aw_getI (pc := 65) F dX6_nextToken_65 fl_6_36 rfl (by first | decide | (simp only [inB, cnt, rcnt]; omega)) rfl nz5 ?_
      refine aw_icmp_lt (tgt := 85) (pc := 68) F dX6_nextToken_68 (by decide) (by unfold inR; omega) (by unfold inR; omega) (fun c68 => ?_) (fun c68 => ?_)
      · refine aw_aload0 (pc := 85) F dX6_nextToken_85 ?_
        refine aw_bipush (pc := 86) F dX6_nextToken_86 (by decide) ?_
        refine aw_bipush (pc := 88) F dX6_nextToken_88 (by decide) ?_
        refine aw_pcallV2 (pc := 90) F dX6_nextToken_90 ml_6_140 rfl (by first | decide | (simp only [inB, cnt, rcnt]; omega)) (ct6_endOfRun _ B isLt n s 97 122 (fun c => isLt_iff) (by decide) (by decide) hB' hy e5 hn2 a3 (by omega)) (Nat.le_of_ble_eq_true rfl) (by decide) (Nat.zero_le _) ?_
        refine aw_istore1 (pc := 93) F dX6_nextToken_93 rfl hk.symm ?_
        refine aw_aload0 (pc := 94) F dX6_nextToken_94 ?_
        refine aw_bipush (pc := 95) F dX6_nextToken_95 (by decide) ?_
        refine aw_bipush (pc := 97) F dX6_nextToken_97 (by decide) ?_
        refine aw_pcallV2 (pc := 99) F dX6_nextToken_99 ml_6_140 rfl (by first | decide | (simp only [inB, cnt, rcnt]; omega)) (ct6_endOfRun _ B isDg n s 48 57 (fun c => isDg_iff) (by decide) (by decide) hB' hy e5 hn2 a3 (by omega)) (Nat.le_of_ble_eq_true rfl) (by decide) (Nat.zero_le _) ?_
        refine aw_istore2 (pc := 102) F dX6_nextToken_102 rfl hk.symm ?_
        refine aw_iload1 (pc := 103) F dX6_nextToken_103 ?_
        refine aw_aload0 (pc := 104) F dX6_nextToken_104 ?_
        refine aw_getI (pc := 105) F dX6_nextToken_105 fl_6_42 rfl (by first | decide | (simp only [inB, cnt, rcnt]; omega)) rfl nz7 ?_
        refine aw_icmp_le (tgt := 139) (pc := 108) F dX6_nextToken_108 (by decide) (by unfold inR; omega) (by unfold inR; omega) (fun c108 => ?_) (fun c108 => ?_)
        · refine aw_iload2 (pc := 139) F dX6_nextToken_139 ?_
          refine aw_aload0 (pc := 140) F dX6_nextToken_140 ?_
          refine aw_getI (pc := 141) F dX6_nextToken_141 fl_6_42 rfl (by first | decide | (simp only [inB, cnt, rcnt]; omega)) rfl nz7 ?_
          refine aw_icmp_le (tgt := 194) (pc := 144) F dX6_nextToken_144 (by decide) (by unfold inR; omega) (by unfold inR; omega) (fun c144 => ?_) (fun c144 => ?_)
          · exact pP (fun z => by have := lw.mpr z; omega) (fun z => by have := ld.mpr z; omega)
          · exact pD (fun z => by have := lw.mpr z; omega) (ld.mp (by omega))
        · exact pW (lw.mp (by omega))
      · omega
  have loop : ∀ (f : Nat) (j : Int) (M' : Id4 → Int → Int), (n - j).toNat = f → i ≤ j → j ≤ n → stT B n i = rn isWs B n j → chY M M' → M' (6, 0, 0, 0) 7 = j → AW X K 8 [aR (6, 0, 0, 0), aX, aX] [] (M', R0 true) 0 Q9 := by
    intro f
    induction f with
    | zero =>
      intro j M' hf j1 j2 hr a1 a3
      have e5 := a1.n.trans hn
      have st := rn_no (p := isWs) (B := B) (n := n) (i := j) (fun z => by omega)
      refine aw_aload0 (pc := 8) F dX6_nextToken_8 ?_
      refine aw_getI (pc := 9) F dX6_nextToken_9 fl_6_42 rfl (by first | decide | (simp only [inB, cnt, rcnt]; omega)) rfl nz7 ?_
      refine aw_aload0 (pc := 12) F dX6_nextToken_12 ?_
      refine aw_getI (pc := 13) F dX6_nextToken_13 fl_6_36 rfl (by first | decide | (simp only [inB, cnt, rcnt]; omega)) rfl nz5 ?_
      refine aw_icmp_ge (tgt := 60) (pc := 16) F dX6_nextToken_16 (by decide) (by unfold inR; omega) (by unfold inR; omega) (fun c16 => ?_) (fun c16 => ?_)
      · exact tok M' a1 (by rw [a3, hr, st])
      · omega
    | succ f ih =>
      intro j M' hf j1 j2 hr a1 a3
      have e5 := a1.n.trans hn
      have hB' := hB.y a1
      have bj := hy j (by omega) (by omega)
      have cj := hB' j (by omega) (by omega)
      refine aw_aload0 (pc := 8) F dX6_nextToken_8 ?_
      refine aw_getI (pc := 9) F dX6_nextToken_9 fl_6_42 rfl (by first | decide | (simp only [inB, cnt, rcnt]; omega)) rfl nz7 ?_
      refine aw_aload0 (pc := 12) F dX6_nextToken_12 ?_
      refine aw_getI (pc := 13) F dX6_nextToken_13 fl_6_36 rfl (by first | decide | (simp only [inB, cnt, rcnt]; omega)) rfl nz5 ?_
      refine aw_icmp_ge (tgt := 60) (pc := 16) F dX6_nextToken_16 (by decide) (by first | (rw [a3]; unfold inR; omega) | (unfold inR; omega)) (by first | (rw [a3]; unfold inR; omega) | (unfold inR; omega)) (fun c16 => ?_) (fun c16 => ?_)
      · omega
      · refine aw_aload0 (pc := 19) F dX6_nextToken_19 ?_
        refine aw_getR (pc := 20) F dX6_nextToken_20 fl_6_32 rfl (by first | decide | (simp only [inB, cnt, rcnt]; omega)) rfl nz4 rfl ?_
        refine aw_aload0 (pc := 23) F dX6_nextToken_23 ?_
        refine aw_getI (pc := 24) F dX6_nextToken_24 fl_6_42 rfl (by first | decide | (simp only [inB, cnt, rcnt]; omega)) rfl nz7 ?_
        refine aw_bald (pc := 27) F dX6_nextToken_27 rfl (by first | decide | (simp only [inB, cnt, rcnt]; omega)) (by omega) ?_
        rw [a3]
        refine aw_bipush (pc := 28) F dX6_nextToken_28 (by decide) ?_
        refine aw_icmp_eq (tgt := 47) (pc := 30) F dX6_nextToken_30 (by decide) (by first | (rw [a3]; unfold inR; omega) | (unfold inR; omega)) (by first | (rw [a3]; unfold inR; omega) | (unfold inR; omega)) (fun c30 => ?_) (fun c30 => ?_)
        · refine aw_aload0 (pc := 47) F dX6_nextToken_47 ?_
          refine aw_dupR (pc := 48) F dX6_nextToken_48 ?_
          refine aw_getI (pc := 49) F dX6_nextToken_49 fl_6_42 rfl (by first | decide | (simp only [inB, cnt, rcnt]; omega)) rfl nz7 ?_
          refine aw_iconst (pc := 52) F dX6_nextToken_52 ?_
          refine aw_iadd (pc := 53) F dX6_nextToken_53 ?_
          refine aw_putI (pc := 54) F dX6_nextToken_54 fl_6_42 fpi_6_7 rfl (by first | decide | (simp only [inB, cnt, rcnt]; omega)) rfl nz7 ?_
          refine aw_goto (tgt := 8) (pc := 57) F dX6_nextToken_57 (by decide) ?_
          rw [a3]
          exact ih (j + 1) _ (by omega) (by omega) (by omega) (hr.trans (rn_go ⟨by omega, isWs_iff.mpr (by omega)⟩)) (a1.up (by decide)) upd_same
        · refine aw_aload0 (pc := 33) F dX6_nextToken_33 ?_
          refine aw_getR (pc := 34) F dX6_nextToken_34 fl_6_32 rfl (by first | decide | (simp only [inB, cnt, rcnt]; omega)) rfl nz4 rfl ?_
          refine aw_aload0 (pc := 37) F dX6_nextToken_37 ?_
          refine aw_getI (pc := 38) F dX6_nextToken_38 fl_6_42 rfl (by first | decide | (simp only [inB, cnt, rcnt]; omega)) rfl nz7 ?_
          refine aw_bald (pc := 41) F dX6_nextToken_41 rfl (by first | decide | (simp only [inB, cnt, rcnt]; omega)) (by omega) ?_
          rw [a3]
          refine aw_bipush (pc := 42) F dX6_nextToken_42 (by decide) ?_
          refine aw_icmp_ne (tgt := 60) (pc := 44) F dX6_nextToken_44 (by decide) (by first | (rw [a3]; unfold inR; omega) | (unfold inR; omega)) (by first | (rw [a3]; unfold inR; omega) | (unfold inR; omega)) (fun c44 => ?_) (fun c44 => ?_)
          · exact tok M' a1 (by rw [a3, hr, rn_no (fun z => by have := isWs_iff.mp z.2; omega)])
          · refine aw_aload0 (pc := 47) F dX6_nextToken_47 ?_
            refine aw_dupR (pc := 48) F dX6_nextToken_48 ?_
            refine aw_getI (pc := 49) F dX6_nextToken_49 fl_6_42 rfl (by first | decide | (simp only [inB, cnt, rcnt]; omega)) rfl nz7 ?_
            refine aw_iconst (pc := 52) F dX6_nextToken_52 ?_
            refine aw_iadd (pc := 53) F dX6_nextToken_53 ?_
            refine aw_putI (pc := 54) F dX6_nextToken_54 fl_6_42 fpi_6_7 rfl (by first | decide | (simp only [inB, cnt, rcnt]; omega)) rfl nz7 ?_
            refine aw_goto (tgt := 8) (pc := 57) F dX6_nextToken_57 (by decide) ?_
            rw [a3]
            exact ih (j + 1) _ (by omega) (by omega) (by omega) (hr.trans (rn_go ⟨by omega, isWs_iff.mpr (by omega)⟩)) (a1.up (by decide)) upd_same
  refine aw_aload0 (pc := 0) F dX6_nextToken_0 ?_
  refine aw_aload0 (pc := 1) F dX6_nextToken_1 ?_
  refine aw_getI (pc := 2) F dX6_nextToken_2 fl_6_45 rfl (by first | decide | (simp only [inB, cnt, rcnt]; omega)) rfl nz8 ?_
  refine aw_putI (pc := 5) F dX6_nextToken_5 fl_6_42 fpi_6_7 rfl (by first | decide | (simp only [inB, cnt, rcnt]; omega)) rfl nz7 ?_
  rw [hi9, ← hQ]
  exact loop _ i _ rfl (by omega) (by omega) rfl (chY.rf.up (by decide)) upd_same
