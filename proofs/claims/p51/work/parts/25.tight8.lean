/-! 25: the class's questions of the differences -/
def scr8 (q : Id4) : Prop := q.1 = 0 ∨ q.1 = 1 ∨ q.1 = 7 ∨ (q.1 = 5 ∧ q.2.1 = 1)
def same8 (M M' : Id4 → Int → Int) : Prop := ∀ q, ¬ scr8 q → M' q = M q
theorem same8.rf {M : Id4 → Int → Int} : same8 M M := fun _ _ => rfl
theorem same8.tr {M M1 M2 : Id4 → Int → Int} (h1 : same8 M M1) (h2 : same8 M1 M2) : same8 M M2 := fun q h => (h2 q h).trans (h1 q h)
theorem same8.up {M M1 : Id4 → Int → Int} {q : Id4} {k v : Int} (h1 : same8 M M1) (h : scr8 q) : same8 M (updM M1 q k v) := fun q' h' => by
  rw [← h1 q' h']
  funext j
  exact upd_ne (Or.inl (fun z => h' (z ▸ h)))
theorem same8.st {M M1 : Id4 → Int → Int} {q : Id4} {A : Int → Int} (h1 : same8 M M1) (h : scr8 q) : same8 M (setA M1 q A) := fun q' h' => by
  rw [← h1 q' h']
  exact setA_ne (fun z => h' (z ▸ h))
theorem same8.pl {M M' : Id4 → Int → Int} {S : Int → Int} (h : same8 M M') (hR : plR M 0 S) : plR M' 0 S := by
  have e : ∀ c : Nat, M' (5, 0, c, 0) = M (5, 0, c, 0) := fun c => h _ (by unfold scr8; simp)
  unfold plR at hR ⊢
  rw [e, e, e, e, e, e, e]
  exact hR
def dfR (S : Int → Int) (M : Id4 → Int → Int) (d : Int) : Prop := M (1, d, 0, 0) 0 = (rdS S : Int) + 1 ∧ M (1, d, 0, 0) 2 = S 1 ∧ Agr (S 1) (M (1, d, 2, 0)) (tgS S)
theorem scr8_1 {d : Int} {c : Nat} : scr8 (1, d, c, 0) := Or.inr (Or.inl rfl)
theorem dfA_same {S : Int → Int} {M : Id4 → Int → Int} {d : Int} : same8 M (dfA S M d) := (((same8.rf.up scr8_1).up scr8_1).up scr8_1).up scr8_1
theorem dfA_at {S : Int → Int} {M : Id4 → Int → Int} {d : Int} : dfA S M d (1, d, 0, 0) 0 = 0 ∧ dfA S M d (1, d, 0, 0) 2 = S 1 ∧ dfA S M d (1, d, 0, 0) 3 = S 0 ∧ dfA S M d (1, d, 0, 0) 4 = allI (S 0).toNat := by
  unfold dfA
  refine ⟨upd_same, ?_, ?_, ?_⟩
  · rw [upd_ne (Or.inr (by decide)), upd_ne (Or.inr (by decide)), upd_ne (Or.inr (by decide)), upd_same]
  · rw [upd_ne (Or.inr (by decide)), upd_ne (Or.inr (by decide)), upd_same]
  · rw [upd_ne (Or.inr (by decide)), upd_same]
/-- tightened from the start that startFrom leaves -/
theorem ct1_tightS (M : Id4 → Int → Int) (b9 : Bool) (S : Int → Int) (d : Int) (A1 : Int → Int) (hd : 0 ≤ d ∧ d < 2) (h : Ok S) (hA : Agr (S 1) A1 (lyS S)) : CtV 4 0 yX1_tighten cX1_tighten 2 none [aR (1, d, 0, 0)] (setA (dfA S M d) (1, d, 2, 0) A1, R0 b9) (fun σ' => ∃ M', σ' = (M', R0 b9) ∧ same8 M M' ∧ dfR S M' d) := by
  have hne : ((1, d, 0, 0) : Id4) ≠ (1, d, 2, 0) := fun z => by cases z
  obtain ⟨d0, d2, d3, d4⟩ := dfA_at (S := S) (M := M) (d := d)
  have hT := h.1
  have hE := h.2.1
  obtain ⟨T, eT⟩ : ∃ T : Nat, S 0 = (T : Int) := ⟨(S 0).toNat, by omega⟩
  obtain ⟨E, eE⟩ : ∃ E : Nat, S 1 = (E : Int) := ⟨(S 1).toNat, by omega⟩
  have tT : (S 0).toNat = T := by omega
  have hm := lyS_ok h
  have hs := lyS_sym h
  rw [tT] at hm hs d4
  rw [eE] at hs
  have hA' := hA
  rw [eE] at hA'
  refine (ct1_tighten (setA (dfA S M d) (1, d, 2, 0) A1) b9 T E d (lyS S) hd (by rw [setA_ne hne]; exact d0) (by rw [setA_ne hne]; exact d3.trans eT) (by rw [setA_ne hne]; exact d2.trans eE) (by rw [setA_ne hne]; exact d4) (by omega) (by omega) (by rw [setA_same]; exact hA') hm hs).mono (fun σ' hq => ?_)
  obtain ⟨k, A', hr, hg, hσ⟩ := hq
  obtain ⟨e1, e2⟩ := tg_agr h eT eE Agr.rf hr
  refine ⟨_, hσ, ((dfA_same.st scr8_1).up scr8_1).st scr8_1, ?_, ?_, ?_⟩
  · rw [setA_ne hne, upd_same, e1]
  · rw [setA_ne hne, upd_ne (Or.inr (by decide)), setA_ne hne]; exact d2
  · rw [setA_same, eE]
    rw [eE] at e2
    exact hg.tr e2
theorem ct8_tightenDifferences (M : Id4 → Int → Int) (b9 : Bool) (S : Int → Int) (hR : plR M 0 S) (h : Ok S) : CtV 5 0 yX8_tightenDifferences cX8_tightenDifferences 1 none [aR (8, 0, 0, 0)] (M, R0 b9) (fun σ' => ∃ M', σ' = (M', R0 b9) ∧ same8 M M' ∧ dfR S M' 0) := by
  refine CtV.mk (by decide +kernel) rfl (Nat.le_of_ble_eq_true rfl) (fun X K F hk => ?_)
  refine aw_aload0 (pc := 0) F dX8_tightenDifferences_0 ?_
  refine aw_getR (pc := 1) F dX8_tightenDifferences_1 fl_8_51 rfl (by first | decide | (simp only [inB, cnt, rcnt]; omega)) rfl nz7 rfl ?_
  refine aw_aload0 (pc := 4) F dX8_tightenDifferences_4 ?_
  refine aw_getR (pc := 5) F dX8_tightenDifferences_5 fl_8_34 rfl (by first | decide | (simp only [inB, cnt, rcnt]; omega)) rfl nz4 rfl ?_
  refine aw_callVV1 (pc := 8) F dX8_tightenDifferences_8 ml_8_174 rfl (by first | decide | (simp only [inB, cnt, rcnt]; omega)) (ct1_startFrom _ _ S _ _ (by decide) (by decide) hR h) (Nat.le_of_ble_eq_true rfl) (by decide) (Nat.zero_le _) (fun σ9 h9_8 => ?_)
  obtain ⟨A1, hg1, h9⟩ := h9_8
  subst h9
  refine aw_aload0 (pc := 11) F dX8_tightenDifferences_11 ?_
  refine aw_getR (pc := 12) F dX8_tightenDifferences_12 fl_8_51 rfl (by first | decide | (simp only [inB, cnt, rcnt]; omega)) rfl nz7 rfl ?_
  refine aw_callVV0 (pc := 15) F dX8_tightenDifferences_15 ml_8_177 rfl (by first | decide | (simp only [inB, cnt, rcnt]; omega)) (ct1_tightS _ _ S _ _ (by decide) h hg1) (Nat.le_of_ble_eq_true rfl) (by decide) (Nat.zero_le _) (fun σ8 h9_15 => ?_)
  obtain ⟨M2, h8, hs2, hd2⟩ := h9_15
  subst h8
  exact aw_vret (pc := 18) F dX8_tightenDifferences_18 (Nat.zero_le _) ⟨M2, rfl, hs2, hd2⟩
theorem emp_agr {E : Int} {A B : Int → Int} (h : Agr E A B) : emp E A ↔ emp E B := by
  have key : ∀ {A B : Int → Int}, Agr E A B → emp E A → emp E B := by
    rintro A B h ⟨a, b, h1, h2, h3⟩
    exact ⟨a, b, h1, h2, by rw [← h a b h1.1 h1.2 h2.1 h2.2]; exact h3⟩
  exact ⟨key h, key h.sy⟩
theorem ct8_isTight (M : Id4 → Int → Int) (b9 : Bool) (S : Int → Int) (hR : plR M 0 S) (h : Ok S) : CtI 6 0 yX8_isTight cX8_isTight 1 (some .boolean) [aR (8, 0, 0, 0)] (M, R0 b9) (fun v σ' => isB v (¬ emp (S 1) (tgS S)) ∧ ∃ M', σ' = (M', R0 b9) ∧ same8 M M') := by
  refine CtI.mk (by decide +kernel) rfl (Nat.le_of_ble_eq_true rfl) (fun X K F hk => ?_)
  have hE := h.2.1
  obtain ⟨E, eE⟩ : ∃ E : Nat, S 1 = (E : Int) := ⟨(S 1).toNat, by omega⟩
  have hm := tgS_ok h
  refine aw_aload0 (pc := 0) F dX8_isTight_0 ?_
  refine aw_callVV0 (pc := 1) F dX8_isTight_1 ml_8_189 rfl (by first | decide | (simp only [inB, cnt, rcnt]; omega)) (ct8_tightenDifferences _ _ S hR h) (Nat.le_of_ble_eq_true rfl) (by decide) (Nat.zero_le _) (fun σ8 h9_1 => ?_)
  obtain ⟨M2, h8, hs2, hd2⟩ := h9_1
  subst h8
  refine aw_aload0 (pc := 4) F dX8_isTight_4 ?_
  refine aw_getR (pc := 5) F dX8_isTight_5 fl_8_51 rfl (by first | decide | (simp only [inB, cnt, rcnt]; omega)) rfl nz7 rfl ?_
  refine aw_callVI0 (pc := 8) F dX8_isTight_8 ml_8_199 rfl (by first | decide | (simp only [inB, cnt, rcnt]; omega)) (ct1_hasEmptySet _ _ E _ (by decide) (hd2.2.1.trans eE) (by omega) (fun x y h1 h2 h3 h4 => by have z := (hm (6 * x + y) (by omega) (by omega)).1; rw [hd2.2.2 x y h1 (by omega) h3 (by omega)]; unfold inR; omega)) (Nat.le_of_ble_eq_true rfl) (by decide) (Nat.zero_le _) (fun v7 σ7 h9_8 => ?_)
  obtain ⟨hv, h7⟩ := h9_8
  subst h7
  rw [← eE, emp_agr hd2.2.2] at hv
  have hvb := isB_bd hv
  refine aw_if_ne (tgt := 18) (pc := 11) F dX8_isTight_11 (by decide) (by unfold inR; omega) (fun c11 => ?_) (fun c11 => ?_)
  · refine aw_iconst (pc := 18) F dX8_isTight_18 ?_
    exact aw_iret (pc := 19) F dX8_isTight_19 (nar_bool (by first | exact b2i_01 | decide)) (Nat.zero_le _) ⟨by first | exact Or.inr ⟨rfl, (hv.resolve_right (fun z => by omega)).2⟩ | exact Or.inl ⟨rfl, fun q => q ((hv.resolve_left (fun z => by omega)).2)⟩, M2, rfl, hs2⟩
  · refine aw_iconst (pc := 14) F dX8_isTight_14 ?_
    refine aw_goto (tgt := 19) (pc := 15) F dX8_isTight_15 (by decide) ?_
    exact aw_iret (pc := 19) F dX8_isTight_19 (nar_bool (by first | exact b2i_01 | decide)) (Nat.zero_le _) ⟨by first | exact Or.inr ⟨rfl, (hv.resolve_right (fun z => by omega)).2⟩ | exact Or.inl ⟨rfl, fun q => q ((hv.resolve_left (fun z => by omega)).2)⟩, M2, rfl, hs2⟩
theorem cx8_isAllowed (M : Id4 → Int → Int) (b9 : Bool) (S : Int → Int) (x y t : Int) (h1 : inR x) (h2 : inR y) (h3 : inR t) (hR : plR M 0 S) (h : Ok S) : CxI 13 3 yX8_isAllowed cX8_isAllowed 4 (some .boolean) [aR (8, 0, 0, 0), aI x, aI y, aI t] (M, R0 b9) (fun v σ' => v = b2i (bit (tgS S (6 * x + y)) t.toNat = true) ∧ (0 ≤ x ∧ x < S 1) ∧ (0 ≤ y ∧ y < S 1) ∧ (0 ≤ t ∧ t ≤ S 0 - 1) ∧ ∃ M', σ' = (M', R0 b9) ∧ same8 M M') (fun E σ' => σ' = (M, R0 b9) ∧ ((E = eIO ∧ ¬ ((0 ≤ x ∧ x < S 1) ∧ (0 ≤ y ∧ y < S 1))) ∨ (E = eIA ∧ ((0 ≤ x ∧ x < S 1) ∧ (0 ≤ y ∧ y < S 1)) ∧ ¬ (0 ≤ t ∧ t ≤ S 0 - 1)))) := by
  refine CxI.mk (by decide +kernel) rfl (Nat.le_of_ble_eq_true rfl) (fun X K F hk => ?_)
  have hT := h.1
  have hE := h.2.1
  have hp0 := hR.1.1
  have hm := tgS_ok h
  refine aw_aload0 (pc := 0) F dX8_isAllowed_0 ?_
  refine aw_iload1 (pc := 1) F dX8_isAllowed_1 ?_
  refine aw_xcallVVI1 (pc := 2) F dX8_isAllowed_2 ml_8_119 rfl (by first | decide | (simp only [inB, cnt, rcnt]; omega)) (cx8_requireEvent _ _ S _ h1 hR h) (Nat.le_of_ble_eq_true rfl) (by decide) (by decide) (fun _ _ h => ⟨h.2.1, Or.inl ⟨h.1, fun z => h.2.2 z.1⟩⟩) (fun σ9 h9_2 => ?_)
  obtain ⟨rfl, q1, q2⟩ := h9_2
  refine aw_aload0 (pc := 5) F dX8_isAllowed_5 ?_
  refine aw_iload2 (pc := 6) F dX8_isAllowed_6 ?_
  refine aw_xcallVVI1 (pc := 7) F dX8_isAllowed_7 ml_8_119 rfl (by first | decide | (simp only [inB, cnt, rcnt]; omega)) (cx8_requireEvent _ _ S _ h2 hR h) (Nat.le_of_ble_eq_true rfl) (by decide) (by decide) (fun _ _ h => ⟨h.2.1, Or.inl ⟨h.1, fun z => h.2.2 z.2⟩⟩) (fun σ9 h9_7 => ?_)
  obtain ⟨rfl, q3, q4⟩ := h9_7
  refine aw_iload3 (pc := 10) F dX8_isAllowed_10 ?_
  refine aw_iconst (pc := 11) F dX8_isAllowed_11 ?_
  refine aw_aload0 (pc := 12) F dX8_isAllowed_12 ?_
  refine aw_getR (pc := 13) F dX8_isAllowed_13 fl_8_34 rfl (by first | decide | (simp only [inB, cnt, rcnt]; omega)) rfl nz4 rfl ?_
  refine aw_getI (pc := 16) F dX8_isAllowed_16 fl_8_109 rfl (by first | decide | (simp only [inB, cnt, rcnt]; omega)) rfl nz0 ?_
  refine aw_iconst (pc := 19) F dX8_isAllowed_19 ?_
  refine aw_isub (pc := 20) F dX8_isAllowed_20 ?_
  refine aw_xcallSVI3 (pc := 21) F dX8_isAllowed_21 ml_8_80 (cx8_requireRange _ _ _ _ _ h3 (by unfold inR; omega) (by unfold inR; omega)) (Nat.le_of_ble_eq_true rfl) (by decide) (by decide) (fun _ _ h => ⟨h.2.1, Or.inr ⟨h.1, ⟨⟨q1, q2⟩, q3, q4⟩, by have := h.2.2; omega⟩⟩) (fun σ9 h9_21 => ?_)
  obtain ⟨rfl, q5, q6⟩ := h9_21
  refine aw_aload0 (pc := 24) F dX8_isAllowed_24 ?_
  refine aw_callVV0 (pc := 25) F dX8_isAllowed_25 ml_8_189 rfl (by first | decide | (simp only [inB, cnt, rcnt]; omega)) (ct8_tightenDifferences _ _ S hR h) (Nat.le_of_ble_eq_true rfl) (by decide) (by decide) (fun σ8 h9_25 => ?_)
  obtain ⟨M2, h8, hs2, hd2⟩ := h9_25
  subst h8
  obtain ⟨i, rfl⟩ : ∃ i : Nat, t = (i : Int) := ⟨t.toNat, by omega⟩
  have e9 := hd2.2.2 x y q1 q2 q3 q4
  have z9 := (hm (6 * x + y) (by omega) (by omega)).1
  refine aw_aload0 (pc := 28) F dX8_isAllowed_28 ?_
  refine aw_getR (pc := 29) F dX8_isAllowed_29 fl_8_51 rfl (by first | decide | (simp only [inB, cnt, rcnt]; omega)) rfl nz7 rfl ?_
  refine aw_iload1 (pc := 32) F dX8_isAllowed_32 ?_
  refine aw_iload2 (pc := 33) F dX8_isAllowed_33 ?_
  refine aw_iload3 (pc := 34) F dX8_isAllowed_34 ?_
  refine aw_pcallV3 (pc := 35) F dX8_isAllowed_35 ml_8_192 rfl (by first | decide | (simp only [inB, cnt, rcnt]; omega)) (ct1_allows _ _ _ _ _ i (by decide) (by omega) (by omega) (by rw [e9]; omega) (by omega)) (Nat.le_of_ble_eq_true rfl) (by decide) (by decide) ?_
  exact aw_xiret (pc := 38) F dX8_isAllowed_38 (nar_bool (by first | exact b2i_01 | decide)) (by decide) ⟨by rw [e9]; rfl, ⟨q1, q2⟩, ⟨q3, q4⟩, ⟨by omega, by omega⟩, M2, rfl, hs2⟩
