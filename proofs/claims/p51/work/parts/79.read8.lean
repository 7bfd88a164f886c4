/-! 79: the class's pieces of a statement -/
def chZ (M M' : Id4 → Int → Int) : Prop := ∀ q k, ¬ (q = (6, 0, 0, 0) ∧ (k = 2 ∨ k = 3 ∨ (6 ≤ k ∧ k ≤ 9))) → M' q k = M q k
theorem chZ.rf {M : Id4 → Int → Int} : chZ M M := fun _ _ _ => rfl
theorem chZ.tr {M M1 M2 : Id4 → Int → Int} (h1 : chZ M M1) (h2 : chZ M1 M2) : chZ M M2 := fun q k h => (h2 q k h).trans (h1 q k h)
theorem chZ.up {M M1 : Id4 → Int → Int} {k v : Int} (h1 : chZ M M1) (hk : k = 2 ∨ k = 3 ∨ (6 ≤ k ∧ k ≤ 9)) : chZ M (updM M1 (6, 0, 0, 0) k v) := fun q j z => by
  rw [← h1 q j z]
  by_cases y : q = (6, 0, 0, 0)
  · exact upd_ne (Or.inr (fun w => z ⟨y, by omega⟩))
  · exact upd_ne (Or.inl y)
theorem chY.z {M M' : Id4 → Int → Int} (h : chY M M') : chZ M M' := fun q k z => h q k (fun y => z ⟨y.1, Or.inr (Or.inr y.2)⟩)
theorem chZ.off {M M' : Id4 → Int → Int} (h : chZ M M') {q : Id4} (hq : q ≠ (6, 0, 0, 0)) : M' q = M q := funext fun k => h q k (fun z => hq z.1)
theorem chZ.n {M M' : Id4 → Int → Int} (h : chZ M M') : M' (6, 0, 0, 0) 5 = M (6, 0, 0, 0) 5 := h _ _ (fun z => by have := z.2; omega)
theorem BC.z {B : Int → Int} {M M' : Id4 → Int → Int} (hc : BC B M) (h : chZ M M') : BC B M' := fun i i0 i1 => by rw [h.off (by decide)]; exact hc i i0 i1
theorem chZ.pl {M M' : Id4 → Int → Int} {p : Int} {S : Int → Int} (h : chZ M M') (hR : plR M p S) : plR M' p S := pl_eq (fun c => h.off (by simp)) hR
theorem chZ.nm {M M' : Id4 → Int → Int} {j c : Int} {S : Int → Int} (h : chZ M M') (hR : NmR M j c S) : NmR M' j c S := by
  obtain ⟨a, b⟩ := hR
  refine ⟨by rw [h.off (by simp)]; exact a, fun e e0 e1 => ?_⟩
  rw [h.off (by simp), h.off (by simp)]
  exact b e e0 e1
/-- the class tells an error of the token behind i -/
def FC (B : Int → Int) (n i w : Int) (M : Id4 → Int → Int) : Prop := M (6, 0, 0, 0) 2 = (badP B n i w).1 ∧ M (6, 0, 0, 0) 3 = (badP B n i w).2.1
theorem ct6_fail (M : Id4 → Int → Int) (b : Bool) (w : Int) : CtI 1 0 yX6_fail cX6_fail 2 (some .boolean) [aR (6, 0, 0, 0), aI w] (M, R0 b) (fun v σ' => v = 0 ∧ σ' = (updM (updM M (6, 0, 0, 0) 2 w) (6, 0, 0, 0) 3 (M (6, 0, 0, 0) 7), R0 b)) := by
  refine CtI.mk (by decide +kernel) rfl (Nat.le_of_ble_eq_true rfl) (fun X K F hk => ?_)
  refine aw_aload0 (pc := 0) F dX6_fail_0 ?_
  refine aw_iload1 (pc := 1) F dX6_fail_1 ?_
  refine aw_putI (pc := 2) F dX6_fail_2 fl_6_25 fpi_6_2 rfl (by first | decide | (simp only [inB, cnt, rcnt]; omega)) rfl nz2 ?_
  refine aw_aload0 (pc := 5) F dX6_fail_5 ?_
  refine aw_aload0 (pc := 6) F dX6_fail_6 ?_
  refine aw_getI (pc := 7) F dX6_fail_7 fl_6_42 rfl (by first | decide | (simp only [inB, cnt, rcnt]; omega)) rfl nz7 ?_
  rw [upd_ne (Or.inr (by decide))]
  refine aw_putI (pc := 10) F dX6_fail_10 fl_6_29 fpi_6_3 rfl (by first | decide | (simp only [inB, cnt, rcnt]; omega)) rfl nz3 ?_
  refine aw_iconst (pc := 13) F dX6_fail_13 ?_
  exact aw_iret (pc := 14) F dX6_fail_14 (nar_bool (by first | exact b2i_01 | decide)) (Nat.zero_le _) ⟨rfl, rfl⟩
theorem tc_fail {B : Int → Int} {n i w : Int} {M : Id4 → Int → Int} (h : TC B n i M) (hk : ¬ kdT B n i = 1) : FC B n i w (updM (updM M (6, 0, 0, 0) 2 w) (6, 0, 0, 0) 3 (M (6, 0, 0, 0) 7)) := by
  unfold FC badP
  dsimp only
  rw [if_neg hk, upd_same, upd_ne (Or.inr (by decide)), upd_same, h.1]
  exact ⟨rfl, rfl⟩
theorem TC.bd {B : Int → Int} {n i : Int} {M : Id4 → Int → Int} (h : TC B n i M) : inR (M (6, 0, 0, 0) 6) := by
  rw [h.2.2.1]
  have := tkS_bd (B := B) (n := n) (s := stT B n i)
  unfold kdT inR
  omega
theorem ct6_unexpected (M : Id4 → Int → Int) (b : Bool) (B : Int → Int) (n i : Int) (h : TC B n i M) : CtI 2 0 yX6_unexpected cX6_unexpected 1 (some .boolean) [aR (6, 0, 0, 0)] (M, R0 b) (fun v σ' => v = 0 ∧ ∃ M', σ' = (M', R0 b) ∧ chZ M M' ∧ FC B n i 2 M') := by
  refine CtI.mk (by decide +kernel) rfl (Nat.le_of_ble_eq_true rfl) (fun X K F hk => ?_)
  have tb := h.bd
  have t3 := h.2.2.1
  refine aw_aload0 (pc := 0) F dX6_unexpected_0 ?_
  refine aw_aload0 (pc := 1) F dX6_unexpected_1 ?_
  refine aw_getI (pc := 2) F dX6_unexpected_2 fl_6_39 rfl (by first | decide | (simp only [inB, cnt, rcnt]; omega)) rfl nz6 ?_
  refine aw_iconst (pc := 5) F dX6_unexpected_5 ?_
  refine aw_icmp_ne (tgt := 13) (pc := 6) F dX6_unexpected_6 (by decide) (by first | assumption | (unfold inR; omega)) (by first | assumption | (unfold inR; omega)) (fun c6 => ?_) (fun c6 => ?_)
  · refine aw_iconst (pc := 13) F dX6_unexpected_13 ?_
    refine aw_callVI1 (pc := 14) F dX6_unexpected_14 ml_6_97 rfl (by first | decide | (simp only [inB, cnt, rcnt]; omega)) (ct6_fail _ _ _) (Nat.le_of_ble_eq_true rfl) (by decide) (Nat.zero_le _) (fun v9 σ9 h9_14 => ?_)
    obtain ⟨rfl, rfl⟩ := h9_14
    exact aw_iret (pc := 17) F dX6_unexpected_17 (nar_bool (by first | exact b2i_01 | decide)) (Nat.zero_le _) ⟨rfl, _, rfl, (chZ.rf.up (by decide)).up (by decide), by
      unfold FC badP
      dsimp only
      rw [upd_same, upd_ne (Or.inr (by decide)), upd_same, h.1]
      first | (rw [if_pos (by omega)]; exact ⟨rfl, rfl⟩) | (rw [if_neg (by omega)]; exact ⟨rfl, rfl⟩)⟩
  · refine aw_iconst (pc := 9) F dX6_unexpected_9 ?_
    refine aw_goto (tgt := 14) (pc := 10) F dX6_unexpected_10 (by decide) ?_
    refine aw_callVI1 (pc := 14) F dX6_unexpected_14 ml_6_97 rfl (by first | decide | (simp only [inB, cnt, rcnt]; omega)) (ct6_fail _ _ _) (Nat.le_of_ble_eq_true rfl) (by decide) (Nat.zero_le _) (fun v9 σ9 h9_14 => ?_)
    obtain ⟨rfl, rfl⟩ := h9_14
    exact aw_iret (pc := 17) F dX6_unexpected_17 (nar_bool (by first | exact b2i_01 | decide)) (Nat.zero_le _) ⟨rfl, _, rfl, (chZ.rf.up (by decide)).up (by decide), by
      unfold FC badP
      dsimp only
      rw [upd_same, upd_ne (Or.inr (by decide)), upd_same, h.1]
      first | (rw [if_pos (by omega)]; exact ⟨rfl, rfl⟩) | (rw [if_neg (by omega)]; exact ⟨rfl, rfl⟩)⟩
theorem ct6_readNumber (M : Id4 → Int → Int) (B : Int → Int) (n i lo hi : Int) (hB : BC B M) (hx : TX B n i) (hn : M (6, 0, 0, 0) 5 = n) (hi9 : M (6, 0, 0, 0) 8 = i) (h1 : inR lo) (h2 : inR hi) : CtI 3 0 yX6_readNumber cX6_readNumber 3 (some .int) [aR (6, 0, 0, 0), aI lo, aI hi] (M, R0 true) (fun v σ' => ∃ M', σ' = (M', R0 true) ∧ chZ M M' ∧ ((v = vlT B n i ∧ kdT B n i = 3 ∧ (lo ≤ vlT B n i ∧ vlT B n i ≤ hi) ∧ TC B n i M' ∧ M' (6, 0, 0, 0) 2 = M (6, 0, 0, 0) 2 ∧ M' (6, 0, 0, 0) 3 = M (6, 0, 0, 0) 3) ∨ (v = -1 ∧ ((¬ kdT B n i = 3 ∧ FC B n i 2 M') ∨ (kdT B n i = 3 ∧ ¬ (lo ≤ vlT B n i ∧ vlT B n i ≤ hi) ∧ FC B n i 3 M'))))) := by
  refine CtI.mk (by decide +kernel) rfl (Nat.le_of_ble_eq_true rfl) (fun X K F hk => ?_)
  have vb := vlT_bd hx
  refine aw_aload0 (pc := 0) F dX6_readNumber_0 ?_
  refine aw_callVV0 (pc := 1) F dX6_readNumber_1 ml_6_64 rfl (by first | decide | (simp only [inB, cnt, rcnt]; omega)) (ct6_nextToken _ B n i hB hx hn hi9) (Nat.le_of_ble_eq_true rfl) (by decide) (Nat.zero_le _) (fun σ9 h9_1 => ?_)
  obtain ⟨M2, rfl, c1, c2⟩ := h9_1
  obtain ⟨t1, t2, t3, t4⟩ := id c2
  refine aw_aload0 (pc := 4) F dX6_readNumber_4 ?_
  refine aw_getI (pc := 5) F dX6_readNumber_5 fl_6_39 rfl (by first | decide | (simp only [inB, cnt, rcnt]; omega)) rfl nz6 ?_
  refine aw_iconst (pc := 8) F dX6_readNumber_8 ?_
  refine aw_icmp_eq (tgt := 19) (pc := 9) F dX6_readNumber_9 (by decide) (by first | exact c2.bd | (unfold inR; decide)) (by first | exact c2.bd | (unfold inR; decide)) (fun c9 => ?_) (fun c9 => ?_)
  · have k3 : kdT B n i = 3 := by omega
    have v3 := t4 k3
    have v4 := vb k3
    refine aw_aload0 (pc := 19) F dX6_readNumber_19 ?_
    refine aw_getI (pc := 20) F dX6_readNumber_20 fl_6_48 rfl (by first | decide | (simp only [inB, cnt, rcnt]; omega)) rfl nz9 ?_
    refine aw_iload1 (pc := 23) F dX6_readNumber_23 ?_
    refine aw_icmp_lt (tgt := 35) (pc := 24) F dX6_readNumber_24 (by decide) (by first | assumption | (rw [v3]; unfold inR; omega)) (by first | assumption | (rw [v3]; unfold inR; omega)) (fun c24 => ?_) (fun c24 => ?_)
    · refine aw_aload0 (pc := 35) F dX6_readNumber_35 ?_
      refine aw_iconst (pc := 36) F dX6_readNumber_36 ?_
      refine aw_callVI1 (pc := 37) F dX6_readNumber_37 ml_6_97 rfl (by first | decide | (simp only [inB, cnt, rcnt]; omega)) (ct6_fail _ _ _) (Nat.le_of_ble_eq_true rfl) (by decide) (Nat.zero_le _) (fun v9 σ9 h9_37 => ?_)
      obtain ⟨rfl, rfl⟩ := h9_37
      refine aw_popI (pc := 40) F dX6_readNumber_40 ?_
      refine aw_iconst (pc := 41) F dX6_readNumber_41 ?_
      exact aw_iret (pc := 42) F dX6_readNumber_42 rfl (Nat.zero_le _) ⟨_, rfl, c1.z.tr ((chZ.rf.up (by decide)).up (by decide)), Or.inr ⟨rfl, Or.inr ⟨k3, by omega, tc_fail c2 (by omega)⟩⟩⟩
    · refine aw_aload0 (pc := 27) F dX6_readNumber_27 ?_
      refine aw_getI (pc := 28) F dX6_readNumber_28 fl_6_48 rfl (by first | decide | (simp only [inB, cnt, rcnt]; omega)) rfl nz9 ?_
      refine aw_iload2 (pc := 31) F dX6_readNumber_31 ?_
      refine aw_icmp_le (tgt := 43) (pc := 32) F dX6_readNumber_32 (by decide) (by first | assumption | (rw [v3]; unfold inR; omega)) (by first | assumption | (rw [v3]; unfold inR; omega)) (fun c32 => ?_) (fun c32 => ?_)
      · refine aw_aload0 (pc := 43) F dX6_readNumber_43 ?_
        refine aw_getI (pc := 44) F dX6_readNumber_44 fl_6_48 rfl (by first | decide | (simp only [inB, cnt, rcnt]; omega)) rfl nz9 ?_
        exact aw_iret (pc := 47) F dX6_readNumber_47 rfl (Nat.zero_le _) ⟨M2, rfl, c1.z, Or.inl ⟨v3, k3, by omega, c2, c1 _ _ (by decide), c1 _ _ (by decide)⟩⟩
      · refine aw_aload0 (pc := 35) F dX6_readNumber_35 ?_
        refine aw_iconst (pc := 36) F dX6_readNumber_36 ?_
        refine aw_callVI1 (pc := 37) F dX6_readNumber_37 ml_6_97 rfl (by first | decide | (simp only [inB, cnt, rcnt]; omega)) (ct6_fail _ _ _) (Nat.le_of_ble_eq_true rfl) (by decide) (Nat.zero_le _) (fun v9 σ9 h9_37 => ?_)
        obtain ⟨rfl, rfl⟩ := h9_37
        refine aw_popI (pc := 40) F dX6_readNumber_40 ?_
        refine aw_iconst (pc := 41) F dX6_readNumber_41 ?_
        exact aw_iret (pc := 42) F dX6_readNumber_42 rfl (Nat.zero_le _) ⟨_, rfl, c1.z.tr ((chZ.rf.up (by decide)).up (by decide)), Or.inr ⟨rfl, Or.inr ⟨k3, by omega, tc_fail c2 (by omega)⟩⟩⟩
  · refine aw_aload0 (pc := 12) F dX6_readNumber_12 ?_
    refine aw_callVI0 (pc := 13) F dX6_readNumber_13 ml_6_80 rfl (by first | decide | (simp only [inB, cnt, rcnt]; omega)) (ct6_unexpected _ _ B n i c2) (Nat.le_of_ble_eq_true rfl) (by decide) (Nat.zero_le _) (fun v9 σ9 h9_13 => ?_)
    obtain ⟨rfl, M3, rfl, c3, c4⟩ := h9_13
    refine aw_popI (pc := 16) F dX6_readNumber_16 ?_
    refine aw_iconst (pc := 17) F dX6_readNumber_17 ?_
    exact aw_iret (pc := 18) F dX6_readNumber_18 rfl (Nat.zero_le _) ⟨M3, rfl, c1.z.tr c3, Or.inr ⟨rfl, Or.inl ⟨by omega, c4⟩⟩⟩
theorem ct6_readSemicolon (M : Id4 → Int → Int) (B : Int → Int) (n i : Int) (hB : BC B M) (hx : TX B n i) (hn : M (6, 0, 0, 0) 5 = n) (hi9 : M (6, 0, 0, 0) 8 = i) : CtI 3 0 yX6_readSemicolon cX6_readSemicolon 1 (some .boolean) [aR (6, 0, 0, 0)] (M, R0 true) (fun v σ' => ∃ M', σ' = (M', R0 true) ∧ chZ M M' ∧ ((v = 1 ∧ kdT B n i = 4 ∧ TC B n i M' ∧ M' (6, 0, 0, 0) 2 = M (6, 0, 0, 0) 2 ∧ M' (6, 0, 0, 0) 3 = M (6, 0, 0, 0) 3) ∨ (v = 0 ∧ ¬ kdT B n i = 4 ∧ FC B n i 2 M'))) := by
  refine CtI.mk (by decide +kernel) rfl (Nat.le_of_ble_eq_true rfl) (fun X K F hk => ?_)
  refine aw_aload0 (pc := 0) F dX6_readSemicolon_0 ?_
  refine aw_callVV0 (pc := 1) F dX6_readSemicolon_1 ml_6_64 rfl (by first | decide | (simp only [inB, cnt, rcnt]; omega)) (ct6_nextToken _ B n i hB hx hn hi9) (Nat.le_of_ble_eq_true rfl) (by decide) (Nat.zero_le _) (fun σ9 h9_1 => ?_)
  obtain ⟨M2, rfl, c1, c2⟩ := h9_1
  obtain ⟨t1, t2, t3, t4⟩ := id c2
  refine aw_aload0 (pc := 4) F dX6_readSemicolon_4 ?_
  refine aw_getI (pc := 5) F dX6_readSemicolon_5 fl_6_39 rfl (by first | decide | (simp only [inB, cnt, rcnt]; omega)) rfl nz6 ?_
  refine aw_iconst (pc := 8) F dX6_readSemicolon_8 ?_
  refine aw_icmp_eq (tgt := 19) (pc := 9) F dX6_readSemicolon_9 (by decide) (by first | exact c2.bd | (unfold inR; decide)) (by first | exact c2.bd | (unfold inR; decide)) (fun c9 => ?_) (fun c9 => ?_)
  · refine aw_iconst (pc := 19) F dX6_readSemicolon_19 ?_
    refine aw_goto (tgt := 24) (pc := 20) F dX6_readSemicolon_20 (by decide) ?_
    exact aw_iret (pc := 24) F dX6_readSemicolon_24 (nar_bool (by first | exact b2i_01 | decide)) (Nat.zero_le _) (by first | exact ⟨M2, rfl, c1.z, Or.inl ⟨rfl, by omega, c2, c1 _ _ (by decide), c1 _ _ (by decide)⟩⟩ | exact ⟨M3, rfl, c1.z.tr c3, Or.inr ⟨rfl, by omega, c4⟩⟩)
  · refine aw_aload0 (pc := 12) F dX6_readSemicolon_12 ?_
    refine aw_callVI0 (pc := 13) F dX6_readSemicolon_13 ml_6_80 rfl (by first | decide | (simp only [inB, cnt, rcnt]; omega)) (ct6_unexpected _ _ B n i c2) (Nat.le_of_ble_eq_true rfl) (by decide) (Nat.zero_le _) (fun v9 σ9 h9_13 => ?_)
    obtain ⟨rfl, M3, rfl, c3, c4⟩ := h9_13
    refine aw_if_eq (tgt := 23) (pc := 16) F dX6_readSemicolon_16 (by decide) (by unfold inR; decide) (fun c16 => ?_) (fun c16 => ?_)
    · refine aw_iconst (pc := 23) F dX6_readSemicolon_23 ?_
      exact aw_iret (pc := 24) F dX6_readSemicolon_24 (nar_bool (by first | exact b2i_01 | decide)) (Nat.zero_le _) (by first | exact ⟨M2, rfl, c1.z, Or.inl ⟨rfl, by omega, c2, c1 _ _ (by decide), c1 _ _ (by decide)⟩⟩ | exact ⟨M3, rfl, c1.z.tr c3, Or.inr ⟨rfl, by omega, c4⟩⟩)
    · omega
theorem ct6_isWord (M : Id4 → Int → Int) (B : Int → Int) (n i : Int) (j : Nat) (hj : j < 3) (hB : BC B M) (hx : TX B n i) (hM : TC B n i M) : CtI 5 0 yX6_isWord cX6_isWord 4 (some .boolean) [aR (6, 0, 0, 0), aR (20, (j : Int), 0, 0)] (M, R0 true) (PU (M, R0 true) (wdI B n i j)) := by
  refine CtI.mk (by decide +kernel) rfl (Nat.le_of_ble_eq_true rfl) (fun X K F hk => ?_)
  obtain ⟨t1, t2, t3, t4⟩ := id hM
  have tb := hM.bd
  have wl := wordN hj
  have wl2 := wLen_I j hj
  have sb := stT_bd (B := B) hx.2.2.2
  have hn := hx.2.1
  have h0 := hx.2.2.1
  have xb := nxT_bd (B := B) hx.2.2.2
  obtain ⟨Q9, hQ⟩ : ∃ Q9, Q9 = EI X K 0 (PU (M, R0 true) (wdI B n i j)) := ⟨_, rfl⟩
  have loop : kdT B n i = 2 → nxT B n i - stT B n i = wLenI j → ∀ (f k : Nat), (k : Int) + f = wLenI j → (∀ x, 0 ≤ x → x < (k : Int) → B (stT B n i + x) = wBytI j x) → AW X K 30 [aR (6, 0, 0, 0), aR (20, (j : Int), 0, 0), aI (wLenI j), aI k] [] (M, R0 true) 0 Q9 := by
    intro k2 kl f
    induction f with
    | zero =>
      intro k hk9 ha
      refine aw_iload3 (pc := 30) F dX6_isWord_30 ?_
      refine aw_iload2 (pc := 31) F dX6_isWord_31 ?_
      refine aw_icmp_ge (tgt := 62) (pc := 32) F dX6_isWord_32 (by decide) (by unfold inR; omega) (by unfold inR; omega) (fun c32 => ?_) (fun c32 => ?_)
      · refine aw_iconst (pc := 62) F dX6_isWord_62 ?_
        rw [hQ]
        exact aw_iret (pc := 63) F dX6_isWord_63 (nar_bool (by first | exact b2i_01 | decide)) (Nat.zero_le _) ⟨(wdI_1 ⟨k2, kl, fun x x0 x1 => ha x x0 (by omega)⟩).symm, rfl⟩
      · omega
    | succ f ih =>
      intro k hk9 ha
      have wb := wByt_I j hj k (by omega)
      have bb := hx.1 (stT B n i + k) (by omega) (by omega)
      have cb := hB (stT B n i + k) (by omega) (by omega)
      refine aw_iload3 (pc := 30) F dX6_isWord_30 ?_
      refine aw_iload2 (pc := 31) F dX6_isWord_31 ?_
      refine aw_icmp_ge (tgt := 62) (pc := 32) F dX6_isWord_32 (by decide) (by unfold inR; omega) (by unfold inR; omega) (fun c32 => ?_) (fun c32 => ?_)
      · omega
      · refine aw_aload0 (pc := 35) F dX6_isWord_35 ?_
        refine aw_getR (pc := 36) F dX6_isWord_36 fl_6_32 rfl (by first | decide | (simp only [inB, cnt, rcnt]; omega)) rfl nz4 rfl ?_
        refine aw_aload0 (pc := 39) F dX6_isWord_39 ?_
        refine aw_getI (pc := 40) F dX6_isWord_40 fl_6_42 rfl (by first | decide | (simp only [inB, cnt, rcnt]; omega)) rfl nz7 ?_
        refine aw_iload3 (pc := 43) F dX6_isWord_43 ?_
        refine aw_iadd (pc := 44) F dX6_isWord_44 ?_
        refine aw_bald (pc := 45) F dX6_isWord_45 rfl (by first | decide | (simp only [inB, cnt, rcnt]; omega)) (by rw [t1]; omega) ?_
        rw [t1]
        refine aw_aload1 (pc := 46) F dX6_isWord_46 ?_
        refine aw_iload3 (pc := 47) F dX6_isWord_47 ?_
        refine aw_tcall1 F hj dX6_isWord_48 ml_6_136 (ctJ_charAt _ _ j k hj (by omega)) (Nat.le_of_ble_eq_true rfl) (by decide) (Nat.zero_le _) ?_
        refine aw_icmp_eq (tgt := 56) (pc := 51) F dX6_isWord_51 (by decide) (by unfold inR; omega) (by unfold inR; omega) (fun c51 => ?_) (fun c51 => ?_)
        · refine aw_iinc3 (pc := 56) F dX6_isWord_56 rfl hk.symm ?_
          refine aw_goto (tgt := 30) (pc := 59) F dX6_isWord_59 (by decide) ?_
          exact ih (k + 1) (by omega) (fun x x0 x1 => by
            by_cases z : x = k
            · rw [z]; omega
            · exact ha x x0 (by omega))
        · refine aw_iconst (pc := 54) F dX6_isWord_54 ?_
          rw [hQ]
          exact aw_iret (pc := 55) F dX6_isWord_55 (nar_bool (by first | exact b2i_01 | decide)) (Nat.zero_le _) ⟨(wdI_0 (fun z => c51 (by have := z.2.2 k (by omega) (by omega); omega))).symm, rfl⟩
  refine aw_aload1 (pc := 0) F dX6_isWord_0 ?_
  refine aw_tcall0 F hj dX6_isWord_1 ml_6_130 (ctJ_length _ _ j hj) (Nat.le_of_ble_eq_true rfl) (by decide) (Nat.zero_le _) ?_
  refine aw_istore2 (pc := 4) F dX6_isWord_4 rfl hk.symm ?_
  refine aw_aload0 (pc := 5) F dX6_isWord_5 ?_
  refine aw_getI (pc := 6) F dX6_isWord_6 fl_6_39 rfl (by first | decide | (simp only [inB, cnt, rcnt]; omega)) rfl nz6 ?_
  refine aw_iconst (pc := 9) F dX6_isWord_9 ?_
  refine aw_icmp_ne (tgt := 26) (pc := 10) F dX6_isWord_10 (by decide) (by first | assumption | (rw [t1, t2]; unfold inR; omega) | (unfold inR; omega)) (by first | assumption | (rw [t1, t2]; unfold inR; omega) | (unfold inR; omega)) (fun c10 => ?_) (fun c10 => ?_)
  · refine aw_iconst (pc := 26) F dX6_isWord_26 ?_
    exact aw_iret (pc := 27) F dX6_isWord_27 (nar_bool (by first | exact b2i_01 | decide)) (Nat.zero_le _) ⟨(wdI_0 (fun z => by have := z.1; have := z.2.1; omega)).symm, rfl⟩
  · refine aw_aload0 (pc := 13) F dX6_isWord_13 ?_
    refine aw_getI (pc := 14) F dX6_isWord_14 fl_6_45 rfl (by first | decide | (simp only [inB, cnt, rcnt]; omega)) rfl nz8 ?_
    refine aw_aload0 (pc := 17) F dX6_isWord_17 ?_
    refine aw_getI (pc := 18) F dX6_isWord_18 fl_6_42 rfl (by first | decide | (simp only [inB, cnt, rcnt]; omega)) rfl nz7 ?_
    refine aw_isub (pc := 21) F dX6_isWord_21 ?_
    refine aw_iload2 (pc := 22) F dX6_isWord_22 ?_
    refine aw_icmp_eq (tgt := 28) (pc := 23) F dX6_isWord_23 (by decide) (by first | assumption | (rw [t1, t2]; unfold inR; omega) | (unfold inR; omega)) (by first | assumption | (rw [t1, t2]; unfold inR; omega) | (unfold inR; omega)) (fun c23 => ?_) (fun c23 => ?_)
    · refine aw_iconst (pc := 28) F dX6_isWord_28 ?_
      refine aw_istore3 (pc := 29) F dX6_isWord_29 rfl hk.symm ?_
      rw [← hQ]
      exact loop (by omega) (by omega) (wLenI j).toNat 0 (by omega) (fun x x0 x1 => absurd x1 (by omega))
    · refine aw_iconst (pc := 26) F dX6_isWord_26 ?_
      exact aw_iret (pc := 27) F dX6_isWord_27 (nar_bool (by first | exact b2i_01 | decide)) (Nat.zero_le _) ⟨(wdI_0 (fun z => by have := z.1; have := z.2.1; omega)).symm, rfl⟩
theorem ct6_readKnownEvent (M : Id4 → Int → Int) (B S : Int → Int) (n i but c : Int) (hB : BC B M) (hx : TX B n i) (hn : M (6, 0, 0, 0) 5 = n) (hi9 : M (6, 0, 0, 0) 8 = i) (h1 : inR but) (hN : NmR M 1 c S) (hc : c = S 1 ∧ 0 ≤ c ∧ c ≤ 6) : CtI 3 0 yX6_readKnownEvent cX6_readKnownEvent 3 (some .int) [aR (6, 0, 0, 0), aI but] (M, R0 true) (fun v σ' => ∃ M', σ' = (M', R0 true) ∧ chZ M M' ∧ ((v = nmD B S (stT B n i) (nxT B n i) ∧ kdT B n i = 2 ∧ ¬ v = -1 ∧ ¬ v = but ∧ TC B n i M' ∧ M' (6, 0, 0, 0) 2 = M (6, 0, 0, 0) 2 ∧ M' (6, 0, 0, 0) 3 = M (6, 0, 0, 0) 3) ∨ (v = -1 ∧ ((¬ kdT B n i = 2 ∧ FC B n i 2 M') ∨ (kdT B n i = 2 ∧ (nmD B S (stT B n i) (nxT B n i) = -1 ∨ nmD B S (stT B n i) (nxT B n i) = but) ∧ FC B n i 4 M'))))) := by
  refine CtI.mk (by decide +kernel) rfl (Nat.le_of_ble_eq_true rfl) (fun X K F hk => ?_)
  have nb := nmD_bd (B := B) (S := S) (a := stT B n i) (b := nxT B n i)
  have sb := stT_bd (B := B) hx.2.2.2
  have xb := nxT_bd (B := B) hx.2.2.2
  have hn2 := hx.2.1
  have h0 := hx.2.2.1
  refine aw_aload0 (pc := 0) F dX6_readKnownEvent_0 ?_
  refine aw_callVV0 (pc := 1) F dX6_readKnownEvent_1 ml_6_64 rfl (by first | decide | (simp only [inB, cnt, rcnt]; omega)) (ct6_nextToken _ B n i hB hx hn hi9) (Nat.le_of_ble_eq_true rfl) (by decide) (Nat.zero_le _) (fun σ9 h9_1 => ?_)
  obtain ⟨M2, rfl, c1, c2⟩ := h9_1
  obtain ⟨t1, t2, t3, t4⟩ := id c2
  have hB2 := hB.y c1
  have hN2 := c1.z.nm hN
  refine aw_aload0 (pc := 4) F dX6_readKnownEvent_4 ?_
  refine aw_getI (pc := 5) F dX6_readKnownEvent_5 fl_6_39 rfl (by first | decide | (simp only [inB, cnt, rcnt]; omega)) rfl nz6 ?_
  refine aw_iconst (pc := 8) F dX6_readKnownEvent_8 ?_
  refine aw_icmp_eq (tgt := 19) (pc := 9) F dX6_readKnownEvent_9 (by decide) (by first | exact c2.bd | (unfold inR; decide)) (by first | exact c2.bd | (unfold inR; decide)) (fun c9 => ?_) (fun c9 => ?_)
  · have k2 : kdT B n i = 2 := by omega
    have lt := kd2_lt hx k2
    have eq9 : fsF (nmE B S (stT B n i) (nxT B n i)) c.toNat 0 = nmD B S (stT B n i) (nxT B n i) := by unfold nmD; rw [nmF_fs, ← hc.1]
    refine aw_aload0 (pc := 19) F dX6_readKnownEvent_19 ?_
    refine aw_getR (pc := 20) F dX6_readKnownEvent_20 fl_6_21 rfl (by first | decide | (simp only [inB, cnt, rcnt]; omega)) rfl nz1 rfl ?_
    refine aw_aload0 (pc := 23) F dX6_readKnownEvent_23 ?_
    refine aw_getR (pc := 24) F dX6_readKnownEvent_24 fl_6_32 rfl (by first | decide | (simp only [inB, cnt, rcnt]; omega)) rfl nz4 rfl ?_
    refine aw_aload0 (pc := 27) F dX6_readKnownEvent_27 ?_
    refine aw_getI (pc := 28) F dX6_readKnownEvent_28 fl_6_42 rfl (by first | decide | (simp only [inB, cnt, rcnt]; omega)) rfl nz7 ?_
    refine aw_aload0 (pc := 31) F dX6_readKnownEvent_31 ?_
    refine aw_getI (pc := 32) F dX6_readKnownEvent_32 fl_6_45 rfl (by first | decide | (simp only [inB, cnt, rcnt]; omega)) rfl nz8 ?_
    refine aw_aload0 (pc := 35) F dX6_readKnownEvent_35 ?_
    refine aw_getI (pc := 36) F dX6_readKnownEvent_36 fl_6_42 rfl (by first | decide | (simp only [inB, cnt, rcnt]; omega)) rfl nz7 ?_
    rw [t1, t2]
    refine aw_isub (pc := 39) F dX6_readKnownEvent_39 ?_
    skip
    refine aw_pcallV3 (pc := 40) F dX6_readKnownEvent_40 ml_6_109 rfl (by first | decide | (simp only [inB, cnt, rcnt]; omega)) (ct3_indexOf _ _ B (nmE B S (stT B n i) (nxT B n i)) 1 c (stT B n i) (nxT B n i - stT B n i) S (by decide) hN2 hc.2 hB2 hx.1 (by omega) (by omega) (fun e e0 e1 => nm_key (hN2.2 e e0 e1) lt.1 (by omega))) (Nat.le_of_ble_eq_true rfl) (by decide) (Nat.zero_le _) ?_
    rw [eq9]
    refine aw_istore2 (pc := 43) F dX6_readKnownEvent_43 rfl hk.symm ?_
    refine aw_iload2 (pc := 44) F dX6_readKnownEvent_44 ?_
    refine aw_iconst (pc := 45) F dX6_readKnownEvent_45 ?_
    refine aw_icmp_eq (tgt := 54) (pc := 46) F dX6_readKnownEvent_46 (by decide) (by first | assumption | (unfold inR; omega)) (by first | assumption | (unfold inR; omega)) (fun c46 => ?_) (fun c46 => ?_)
    · refine aw_aload0 (pc := 54) F dX6_readKnownEvent_54 ?_
      refine aw_iconst (pc := 55) F dX6_readKnownEvent_55 ?_
      refine aw_callVI1 (pc := 56) F dX6_readKnownEvent_56 ml_6_97 rfl (by first | decide | (simp only [inB, cnt, rcnt]; omega)) (ct6_fail _ _ _) (Nat.le_of_ble_eq_true rfl) (by decide) (Nat.zero_le _) (fun v9 σ9 h9_56 => ?_)
      obtain ⟨rfl, rfl⟩ := h9_56
      refine aw_popI (pc := 59) F dX6_readKnownEvent_59 ?_
      refine aw_iconst (pc := 60) F dX6_readKnownEvent_60 ?_
      exact aw_iret (pc := 61) F dX6_readKnownEvent_61 rfl (Nat.zero_le _) ⟨_, rfl, c1.z.tr ((chZ.rf.up (by decide)).up (by decide)), Or.inr ⟨rfl, Or.inr ⟨k2, by omega, tc_fail c2 (by omega)⟩⟩⟩
    · refine aw_iload2 (pc := 49) F dX6_readKnownEvent_49 ?_
      refine aw_iload1 (pc := 50) F dX6_readKnownEvent_50 ?_
      refine aw_icmp_ne (tgt := 62) (pc := 51) F dX6_readKnownEvent_51 (by decide) (by first | assumption | (unfold inR; omega)) (by first | assumption | (unfold inR; omega)) (fun c51 => ?_) (fun c51 => ?_)
      · refine aw_iload2 (pc := 62) F dX6_readKnownEvent_62 ?_
        exact aw_iret (pc := 63) F dX6_readKnownEvent_63 rfl (Nat.zero_le _) ⟨M2, rfl, c1.z, Or.inl ⟨rfl, k2, by omega, by omega, c2, c1 _ _ (by decide), c1 _ _ (by decide)⟩⟩
      · refine aw_aload0 (pc := 54) F dX6_readKnownEvent_54 ?_
        refine aw_iconst (pc := 55) F dX6_readKnownEvent_55 ?_
        refine aw_callVI1 (pc := 56) F dX6_readKnownEvent_56 ml_6_97 rfl (by first | decide | (simp only [inB, cnt, rcnt]; omega)) (ct6_fail _ _ _) (Nat.le_of_ble_eq_true rfl) (by decide) (Nat.zero_le _) (fun v9 σ9 h9_56 => ?_)
        obtain ⟨rfl, rfl⟩ := h9_56
        refine aw_popI (pc := 59) F dX6_readKnownEvent_59 ?_
        refine aw_iconst (pc := 60) F dX6_readKnownEvent_60 ?_
        exact aw_iret (pc := 61) F dX6_readKnownEvent_61 rfl (Nat.zero_le _) ⟨_, rfl, c1.z.tr ((chZ.rf.up (by decide)).up (by decide)), Or.inr ⟨rfl, Or.inr ⟨k2, by omega, tc_fail c2 (by omega)⟩⟩⟩
  · refine aw_aload0 (pc := 12) F dX6_readKnownEvent_12 ?_
    refine aw_callVI0 (pc := 13) F dX6_readKnownEvent_13 ml_6_80 rfl (by first | decide | (simp only [inB, cnt, rcnt]; omega)) (ct6_unexpected _ _ B n i c2) (Nat.le_of_ble_eq_true rfl) (by decide) (Nat.zero_le _) (fun v9 σ9 h9_13 => ?_)
    obtain ⟨rfl, M3, rfl, c3, c4⟩ := h9_13
    refine aw_popI (pc := 16) F dX6_readKnownEvent_16 ?_
    refine aw_iconst (pc := 17) F dX6_readKnownEvent_17 ?_
    exact aw_iret (pc := 18) F dX6_readKnownEvent_18 rfl (Nat.zero_le _) ⟨M3, rfl, c1.z.tr c3, Or.inr ⟨rfl, Or.inl ⟨by omega, c4⟩⟩⟩
