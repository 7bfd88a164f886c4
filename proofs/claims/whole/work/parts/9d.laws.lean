/-! 9d: the law's methods that call the class and catch -/
def nrm (x : Int) : Int := (Int32.ofInt x).toInt
theorem nrm_in {x : Int} : inR (nrm x) := inR_toInt _
theorem nrm_cv {x : Int} : Int32.ofInt (nrm x) = Int32.ofInt x := Int32.ofInt_toInt _
theorem nrm_id {x : Int} (h : inR x) : nrm x = x := oi_inR h
theorem aw_nrm {X : Cx} {K : Kx} {pc u : Nat} {lv st : List AV} {σ : Hp} {Q : State → Prop} {x : Int} (k : AW X K pc lv (aI (nrm x) :: st) σ u Q) : AW X K pc lv (aI x :: st) σ u Q := by
  obtain ⟨p, l, e, R, s, m, args, below, meth, c⟩ := X
  obtain ⟨g, cy, A, nL, ρ, L⟩ := K
  intro H locs ls hP hS hl
  have kk := k H locs ls hP hS hl
  have e9 : (aI (nrm x) :: st).map (cv ρ) = (aI x :: st).map (cv ρ) := by
    show Value.int (Int32.ofInt (nrm x)) :: _ = Value.int (Int32.ofInt x) :: _
    rw [nrm_cv]
  rw [e9] at kk
  exact kk
def WQ (names : List String) (Q2 : Int → Hp → Prop) (QX2 : String → Hp → Prop) (r : Int) (σ' : Hp) : Prop := (r = 0 ∧ ∃ (v : Int) (M1 : Id4 → Int → Int) (R1 : Id4 → Int → Option Id4), Q2 v (M1, R1) ∧ σ' = (updM M1 (10, 0, 1, 0) 0 (nrm v), R1)) ∨ ∃ (j : Nat) (E : String), names[j]? = some E ∧ r = (j : Int) + 1 ∧ QX2 E σ'
theorem ch_load (M : Id4 → Int → Int) (Rf : Id4 → Int → Option Id4) (p0 : Int) {U2 : Nat} {Q2 : Int → Hp → Prop} {QX2 : String → Hp → Prop} (hc : CxI 13 U2 yX8_load cX8_load 2 (some .int) [aR (8, 0, 0, 0), aI p0] (M, Rf) Q2 QX2) (hE : ∀ E σ', QX2 E σ' → E ∈ [eIA])  : CtH 14 U2 yL_load cL_load 4 (some .int) [(0, 9, 12, 13)] [aR (8, 0, 0, 0), aI p0, aR (10, 0, 1, 0)] (M, Rf) (WQ [eIA] Q2 QX2) := by
  refine CtH.mk (by decide +kernel) rfl (Nat.le_of_ble_eq_true rfl) (fun X K F hT hk => ?_)
  refine aw_aload2 (pc := 0) F dL_load_0 ?_
  refine aw_iconst (pc := 1) F dL_load_1 ?_
  refine aw_aload0 (pc := 2) F dL_load_2 ?_
  refine aw_iload1 (pc := 3) F dL_load_3 ?_
  refine aw_hcallVI (pc := 4) (as9 := [aI p0]) F dL_load_4 ml_L_7 rfl (by first | decide | (simp only [inB, cnt, rcnt]; omega)) hc (Nat.le_of_ble_eq_true rfl) (by decide) (by omega) (fun E σ9 h9 => ?_) (fun v σ9 h9 => ?_)
  · have hE9 := hE E σ9 h9
    obtain ⟨M9, R9⟩ := σ9
    obtain rfl : E = eIA := by simpa using hE9
    refine aw_catch F hT (by decide +kernel) [] (0, 9, 12, 13) [] rfl (fun z hz => absurd hz List.not_mem_nil) (by decide) (by decide) (gwI 701 (by decide +kernel) rfl) (k9 := 3) (n9 := 1) (Or.inr ⟨3, rfl, rfl, dL_load_12⟩) (by rfl) hk.symm (Nat.le_of_ble_eq_true rfl) ?_
    refine aw_iconst (pc := 13) F dL_load_13 ?_
    exact aw_iret (pc := 14) F dL_load_14 rfl (by omega) (Or.inr ⟨0, eIA, rfl, rfl, h9⟩)
  · skip
    obtain ⟨M9, R9⟩ := σ9
    refine aw_nrm ?_
    refine aw_i2l (pc := 7) F dL_load_7 nrm_in ?_
    refine aw_last (pc := 8) F dL_load_8 rfl (by first | decide | (simp only [inB, cnt, rcnt]; omega)) (by decide) ?_
    refine aw_goto (tgt := 15) (pc := 9) F dL_load_9 (by decide) ?_
    refine aw_iconst (pc := 15) F dL_load_15 ?_
    exact aw_iret (pc := 16) F dL_load_16 rfl (by omega) (Or.inl ⟨rfl, v, M9, R9, h9, rfl⟩)
theorem ch_find (M : Id4 → Int → Int) (Rf : Id4 → Int → Option Id4) (p0 : Int) {U2 : Nat} {Q2 : Int → Hp → Prop} {QX2 : String → Hp → Prop} (hc : CxI 13 U2 yX8_find cX8_find 2 (some .int) [aR (8, 0, 0, 0), aI p0] (M, Rf) Q2 QX2) (hE : ∀ E σ', QX2 E σ' → E ∈ [eIA])  : CtH 14 U2 yL_find cL_find 4 (some .int) [(0, 9, 12, 13)] [aR (8, 0, 0, 0), aI p0, aR (10, 0, 1, 0)] (M, Rf) (WQ [eIA] Q2 QX2) := by
  refine CtH.mk (by decide +kernel) rfl (Nat.le_of_ble_eq_true rfl) (fun X K F hT hk => ?_)
  refine aw_aload2 (pc := 0) F dL_find_0 ?_
  refine aw_iconst (pc := 1) F dL_find_1 ?_
  refine aw_aload0 (pc := 2) F dL_find_2 ?_
  refine aw_iload1 (pc := 3) F dL_find_3 ?_
  refine aw_hcallVI (pc := 4) (as9 := [aI p0]) F dL_find_4 ml_L_15 rfl (by first | decide | (simp only [inB, cnt, rcnt]; omega)) hc (Nat.le_of_ble_eq_true rfl) (by decide) (by omega) (fun E σ9 h9 => ?_) (fun v σ9 h9 => ?_)
  · have hE9 := hE E σ9 h9
    obtain ⟨M9, R9⟩ := σ9
    obtain rfl : E = eIA := by simpa using hE9
    refine aw_catch F hT (by decide +kernel) [] (0, 9, 12, 13) [] rfl (fun z hz => absurd hz List.not_mem_nil) (by decide) (by decide) (gwI 701 (by decide +kernel) rfl) (k9 := 3) (n9 := 1) (Or.inr ⟨3, rfl, rfl, dL_find_12⟩) (by rfl) hk.symm (Nat.le_of_ble_eq_true rfl) ?_
    refine aw_iconst (pc := 13) F dL_find_13 ?_
    exact aw_iret (pc := 14) F dL_find_14 rfl (by omega) (Or.inr ⟨0, eIA, rfl, rfl, h9⟩)
  · skip
    obtain ⟨M9, R9⟩ := σ9
    refine aw_nrm ?_
    refine aw_i2l (pc := 7) F dL_find_7 nrm_in ?_
    refine aw_last (pc := 8) F dL_find_8 rfl (by first | decide | (simp only [inB, cnt, rcnt]; omega)) (by decide) ?_
    refine aw_goto (tgt := 15) (pc := 9) F dL_find_9 (by decide) ?_
    refine aw_iconst (pc := 15) F dL_find_15 ?_
    exact aw_iret (pc := 16) F dL_find_16 rfl (by omega) (Or.inl ⟨rfl, v, M9, R9, h9, rfl⟩)
theorem ch_time (M : Id4 → Int → Int) (Rf : Id4 → Int → Option Id4) (p0 : Int) {U2 : Nat} {Q2 : Int → Hp → Prop} {QX2 : String → Hp → Prop} (hc : CxI 13 U2 yX8_time cX8_time 2 (some .int) [aR (8, 0, 0, 0), aI p0] (M, Rf) Q2 QX2) (hE : ∀ E σ', QX2 E σ' → E ∈ [eIO])  : CtH 14 U2 yL_time cL_time 4 (some .int) [(0, 9, 12, 21)] [aR (8, 0, 0, 0), aI p0, aR (10, 0, 1, 0)] (M, Rf) (WQ [eIO] Q2 QX2) := by
  refine CtH.mk (by decide +kernel) rfl (Nat.le_of_ble_eq_true rfl) (fun X K F hT hk => ?_)
  refine aw_aload2 (pc := 0) F dL_time_0 ?_
  refine aw_iconst (pc := 1) F dL_time_1 ?_
  refine aw_aload0 (pc := 2) F dL_time_2 ?_
  refine aw_iload1 (pc := 3) F dL_time_3 ?_
  refine aw_hcallVI (pc := 4) (as9 := [aI p0]) F dL_time_4 ml_L_18 rfl (by first | decide | (simp only [inB, cnt, rcnt]; omega)) hc (Nat.le_of_ble_eq_true rfl) (by decide) (by omega) (fun E σ9 h9 => ?_) (fun v σ9 h9 => ?_)
  · have hE9 := hE E σ9 h9
    obtain ⟨M9, R9⟩ := σ9
    obtain rfl : E = eIO := by simpa using hE9
    refine aw_catch F hT (by decide +kernel) [] (0, 9, 12, 21) [] rfl (fun z hz => absurd hz List.not_mem_nil) (by decide) (by decide) (gwI 934 (by decide +kernel) rfl) (k9 := 3) (n9 := 1) (Or.inr ⟨3, rfl, rfl, dL_time_12⟩) (by rfl) hk.symm (Nat.le_of_ble_eq_true rfl) ?_
    refine aw_iconst (pc := 13) F dL_time_13 ?_
    exact aw_iret (pc := 14) F dL_time_14 rfl (by omega) (Or.inr ⟨0, eIO, rfl, rfl, h9⟩)
  · skip
    obtain ⟨M9, R9⟩ := σ9
    refine aw_nrm ?_
    refine aw_i2l (pc := 7) F dL_time_7 nrm_in ?_
    refine aw_last (pc := 8) F dL_time_8 rfl (by first | decide | (simp only [inB, cnt, rcnt]; omega)) (by decide) ?_
    refine aw_goto (tgt := 15) (pc := 9) F dL_time_9 (by decide) ?_
    refine aw_iconst (pc := 15) F dL_time_15 ?_
    exact aw_iret (pc := 16) F dL_time_16 rfl (by omega) (Or.inl ⟨rfl, v, M9, R9, h9, rfl⟩)
theorem ch_span (M : Id4 → Int → Int) (Rf : Id4 → Int → Option Id4) (p0 p1 : Int) {U2 : Nat} {Q2 : Int → Hp → Prop} {QX2 : String → Hp → Prop} (hc : CxI 13 U2 yX8_span cX8_span 3 (some .int) [aR (8, 0, 0, 0), aI p0, aI p1] (M, Rf) Q2 QX2) (hE : ∀ E σ', QX2 E σ' → E ∈ [eIO, eIA])  : CtH 14 U2 yL_span cL_span 5 (some .int) [(0, 10, 13, 21), (0, 10, 17, 13)] [aR (8, 0, 0, 0), aI p0, aI p1, aR (10, 0, 1, 0)] (M, Rf) (WQ [eIO, eIA] Q2 QX2) := by
  refine CtH.mk (by decide +kernel) rfl (Nat.le_of_ble_eq_true rfl) (fun X K F hT hk => ?_)
  refine aw_aload3 (pc := 0) F dL_span_0 ?_
  refine aw_iconst (pc := 1) F dL_span_1 ?_
  refine aw_aload0 (pc := 2) F dL_span_2 ?_
  refine aw_iload1 (pc := 3) F dL_span_3 ?_
  refine aw_iload2 (pc := 4) F dL_span_4 ?_
  refine aw_hcallVI (pc := 5) (as9 := [aI p0, aI p1]) F dL_span_5 ml_L_23 rfl (by first | decide | (simp only [inB, cnt, rcnt]; omega)) hc (Nat.le_of_ble_eq_true rfl) (by decide) (by omega) (fun E σ9 h9 => ?_) (fun v σ9 h9 => ?_)
  · have hE9 := hE E σ9 h9
    obtain ⟨M9, R9⟩ := σ9
    rcases (show E = eIO ∨ E = eIA by simpa using hE9) with rfl | rfl
    · refine aw_catch F hT (by decide +kernel) [] (0, 10, 13, 21) [(0, 10, 17, 13)] rfl (fun z hz => absurd hz List.not_mem_nil) (by decide) (by decide) (gwI 934 (by decide +kernel) rfl) (k9 := 4) (n9 := 2) (Or.inl ⟨rfl, dL_span_13⟩) (by rfl) hk.symm (Nat.le_of_ble_eq_true rfl) ?_
      refine aw_iconst (pc := 15) F dL_span_15 ?_
      exact aw_iret (pc := 16) F dL_span_16 rfl (by omega) (Or.inr ⟨0, eIO, rfl, rfl, h9⟩)
    · refine aw_catch F hT (by decide +kernel) [(0, 10, 13, 21)] (0, 10, 17, 13) [] rfl (fun z hz => by
          rcases (show z = (0, 10, 13, 21) by simpa using hz) with rfl
          · exact ⟨by decide, eIO, (gwI 934 (by decide +kernel) rfl), by decide +kernel, by decide +kernel⟩) (by decide) (by decide) (gwI 701 (by decide +kernel) rfl) (k9 := 4) (n9 := 2) (Or.inl ⟨rfl, dL_span_17⟩) (by rfl) hk.symm (Nat.le_of_ble_eq_true rfl) ?_
      refine aw_iconst (pc := 19) F dL_span_19 ?_
      exact aw_iret (pc := 20) F dL_span_20 rfl (by omega) (Or.inr ⟨1, eIA, rfl, rfl, h9⟩)
  · skip
    obtain ⟨M9, R9⟩ := σ9
    refine aw_nrm ?_
    refine aw_i2l (pc := 8) F dL_span_8 nrm_in ?_
    refine aw_last (pc := 9) F dL_span_9 rfl (by first | decide | (simp only [inB, cnt, rcnt]; omega)) (by decide) ?_
    refine aw_goto (tgt := 21) (pc := 10) F dL_span_10 (by decide) ?_
    refine aw_iconst (pc := 21) F dL_span_21 ?_
    exact aw_iret (pc := 22) F dL_span_22 rfl (by omega) (Or.inl ⟨rfl, v, M9, R9, h9, rfl⟩)
theorem ch_duration (M : Id4 → Int → Int) (Rf : Id4 → Int → Option Id4) (p0 : Int) {U2 : Nat} {Q2 : Int → Hp → Prop} {QX2 : String → Hp → Prop} (hc : CxI 13 U2 yX8_duration cX8_duration 2 (some .int) [aR (8, 0, 0, 0), aI p0] (M, Rf) Q2 QX2) (hE : ∀ E σ', QX2 E σ' → E ∈ [eIO])  : CtH 14 U2 yL_duration cL_duration 4 (some .int) [(0, 9, 12, 21)] [aR (8, 0, 0, 0), aI p0, aR (10, 0, 1, 0)] (M, Rf) (WQ [eIO] Q2 QX2) := by
  refine CtH.mk (by decide +kernel) rfl (Nat.le_of_ble_eq_true rfl) (fun X K F hT hk => ?_)
  refine aw_aload2 (pc := 0) F dL_duration_0 ?_
  refine aw_iconst (pc := 1) F dL_duration_1 ?_
  refine aw_aload0 (pc := 2) F dL_duration_2 ?_
  refine aw_iload1 (pc := 3) F dL_duration_3 ?_
  refine aw_hcallVI (pc := 4) (as9 := [aI p0]) F dL_duration_4 ml_L_27 rfl (by first | decide | (simp only [inB, cnt, rcnt]; omega)) hc (Nat.le_of_ble_eq_true rfl) (by decide) (by omega) (fun E σ9 h9 => ?_) (fun v σ9 h9 => ?_)
  · have hE9 := hE E σ9 h9
    obtain ⟨M9, R9⟩ := σ9
    obtain rfl : E = eIO := by simpa using hE9
    refine aw_catch F hT (by decide +kernel) [] (0, 9, 12, 21) [] rfl (fun z hz => absurd hz List.not_mem_nil) (by decide) (by decide) (gwI 934 (by decide +kernel) rfl) (k9 := 3) (n9 := 1) (Or.inr ⟨3, rfl, rfl, dL_duration_12⟩) (by rfl) hk.symm (Nat.le_of_ble_eq_true rfl) ?_
    refine aw_iconst (pc := 13) F dL_duration_13 ?_
    exact aw_iret (pc := 14) F dL_duration_14 rfl (by omega) (Or.inr ⟨0, eIO, rfl, rfl, h9⟩)
  · skip
    obtain ⟨M9, R9⟩ := σ9
    refine aw_nrm ?_
    refine aw_i2l (pc := 7) F dL_duration_7 nrm_in ?_
    refine aw_last (pc := 8) F dL_duration_8 rfl (by first | decide | (simp only [inB, cnt, rcnt]; omega)) (by decide) ?_
    refine aw_goto (tgt := 15) (pc := 9) F dL_duration_9 (by decide) ?_
    refine aw_iconst (pc := 15) F dL_duration_15 ?_
    exact aw_iret (pc := 16) F dL_duration_16 rfl (by omega) (Or.inl ⟨rfl, v, M9, R9, h9, rfl⟩)
theorem ch_slack (M : Id4 → Int → Int) (Rf : Id4 → Int → Option Id4) (p0 : Int) {U2 : Nat} {Q2 : Int → Hp → Prop} {QX2 : String → Hp → Prop} (hc : CxI 13 U2 yX8_slack cX8_slack 2 (some .int) [aR (8, 0, 0, 0), aI p0] (M, Rf) Q2 QX2) (hE : ∀ E σ', QX2 E σ' → E ∈ [eIO])  : CtH 14 U2 yL_slack cL_slack 4 (some .int) [(0, 9, 12, 21)] [aR (8, 0, 0, 0), aI p0, aR (10, 0, 1, 0)] (M, Rf) (WQ [eIO] Q2 QX2) := by
  refine CtH.mk (by decide +kernel) rfl (Nat.le_of_ble_eq_true rfl) (fun X K F hT hk => ?_)
  refine aw_aload2 (pc := 0) F dL_slack_0 ?_
  refine aw_iconst (pc := 1) F dL_slack_1 ?_
  refine aw_aload0 (pc := 2) F dL_slack_2 ?_
  refine aw_iload1 (pc := 3) F dL_slack_3 ?_
  refine aw_hcallVI (pc := 4) (as9 := [aI p0]) F dL_slack_4 ml_L_30 rfl (by first | decide | (simp only [inB, cnt, rcnt]; omega)) hc (Nat.le_of_ble_eq_true rfl) (by decide) (by omega) (fun E σ9 h9 => ?_) (fun v σ9 h9 => ?_)
  · have hE9 := hE E σ9 h9
    obtain ⟨M9, R9⟩ := σ9
    obtain rfl : E = eIO := by simpa using hE9
    refine aw_catch F hT (by decide +kernel) [] (0, 9, 12, 21) [] rfl (fun z hz => absurd hz List.not_mem_nil) (by decide) (by decide) (gwI 934 (by decide +kernel) rfl) (k9 := 3) (n9 := 1) (Or.inr ⟨3, rfl, rfl, dL_slack_12⟩) (by rfl) hk.symm (Nat.le_of_ble_eq_true rfl) ?_
    refine aw_iconst (pc := 13) F dL_slack_13 ?_
    exact aw_iret (pc := 14) F dL_slack_14 rfl (by omega) (Or.inr ⟨0, eIO, rfl, rfl, h9⟩)
  · skip
    obtain ⟨M9, R9⟩ := σ9
    refine aw_nrm ?_
    refine aw_i2l (pc := 7) F dL_slack_7 nrm_in ?_
    refine aw_last (pc := 8) F dL_slack_8 rfl (by first | decide | (simp only [inB, cnt, rcnt]; omega)) (by decide) ?_
    refine aw_goto (tgt := 15) (pc := 9) F dL_slack_9 (by decide) ?_
    refine aw_iconst (pc := 15) F dL_slack_15 ?_
    exact aw_iret (pc := 16) F dL_slack_16 rfl (by omega) (Or.inl ⟨rfl, v, M9, R9, h9, rfl⟩)
theorem ch_isKept (M : Id4 → Int → Int) (Rf : Id4 → Int → Option Id4) (p0 : Int) {U2 : Nat} {Q2 : Int → Hp → Prop} {QX2 : String → Hp → Prop} (hc : CxI 13 U2 yX8_isKept cX8_isKept 2 (some .boolean) [aR (8, 0, 0, 0), aI p0] (M, Rf) Q2 QX2) (hE : ∀ E σ', QX2 E σ' → E ∈ [eIO]) (hv : ∀ v σ', Q2 v σ' → v = 0 ∨ v = 1) : CtH 14 U2 yL_isKept cL_isKept 4 (some .int) [(0, 16, 19, 21)] [aR (8, 0, 0, 0), aI p0, aR (10, 0, 1, 0)] (M, Rf) (WQ [eIO] Q2 QX2) := by
  refine CtH.mk (by decide +kernel) rfl (Nat.le_of_ble_eq_true rfl) (fun X K F hT hk => ?_)
  refine aw_aload2 (pc := 0) F dL_isKept_0 ?_
  refine aw_iconst (pc := 1) F dL_isKept_1 ?_
  refine aw_aload0 (pc := 2) F dL_isKept_2 ?_
  refine aw_iload1 (pc := 3) F dL_isKept_3 ?_
  refine aw_hcallVI (pc := 4) (as9 := [aI p0]) F dL_isKept_4 ml_L_33 rfl (by first | decide | (simp only [inB, cnt, rcnt]; omega)) hc (Nat.le_of_ble_eq_true rfl) (by decide) (by omega) (fun E σ9 h9 => ?_) (fun v σ9 h9 => ?_)
  · have hE9 := hE E σ9 h9
    obtain ⟨M9, R9⟩ := σ9
    obtain rfl : E = eIO := by simpa using hE9
    refine aw_catch F hT (by decide +kernel) [] (0, 16, 19, 21) [] rfl (fun z hz => absurd hz List.not_mem_nil) (by decide) (by decide) (gwI 934 (by decide +kernel) rfl) (k9 := 3) (n9 := 1) (Or.inr ⟨3, rfl, rfl, dL_isKept_19⟩) (by rfl) hk.symm (Nat.le_of_ble_eq_true rfl) ?_
    refine aw_iconst (pc := 20) F dL_isKept_20 ?_
    exact aw_iret (pc := 21) F dL_isKept_21 rfl (by omega) (Or.inr ⟨0, eIO, rfl, rfl, h9⟩)
  · have hv9 := hv v σ9 h9
    obtain ⟨M9, R9⟩ := σ9
    refine aw_if_eq (tgt := 14) (pc := 7) F dL_isKept_7 (by decide) (by rcases hv9 with h | h <;> rw [h] <;> unfold inR <;> decide) (fun c9 => ?_) (fun c9 => ?_)
    · subst c9
      refine aw_lconst (pc := 14) F dL_isKept_14 ?_
      refine aw_last (pc := 15) F dL_isKept_15 rfl (by first | decide | (simp only [inB, cnt, rcnt]; omega)) (by decide) ?_
      refine aw_goto (tgt := 22) (pc := 16) F dL_isKept_16 (by decide) ?_
      refine aw_iconst (pc := 22) F dL_isKept_22 ?_
      exact aw_iret (pc := 23) F dL_isKept_23 rfl (by omega) (Or.inl ⟨rfl, 0, M9, R9, h9, rfl⟩)
    · obtain rfl : v = 1 := hv9.resolve_left c9
      refine aw_lconst (pc := 10) F dL_isKept_10 ?_
      refine aw_goto (tgt := 15) (pc := 11) F dL_isKept_11 (by decide) ?_
      refine aw_last (pc := 15) F dL_isKept_15 rfl (by first | decide | (simp only [inB, cnt, rcnt]; omega)) (by decide) ?_
      refine aw_goto (tgt := 22) (pc := 16) F dL_isKept_16 (by decide) ?_
      refine aw_iconst (pc := 22) F dL_isKept_22 ?_
      exact aw_iret (pc := 23) F dL_isKept_23 rfl (by omega) (Or.inl ⟨rfl, 1, M9, R9, h9, rfl⟩)
theorem ch_firstBroken (M : Id4 → Int → Int) (Rf : Id4 → Int → Option Id4)  {U2 : Nat} {Q2 : Int → Hp → Prop} {QX2 : String → Hp → Prop} (hc : CxI 12 U2 yX8_firstBroken cX8_firstBroken 2 (some .int) [aR (8, 0, 0, 0)] (M, Rf) Q2 QX2) (hE : ∀ E σ', QX2 E σ' → E ∈ [eNS])  : CtH 13 U2 yL_firstBroken cL_firstBroken 3 (some .int) [(0, 8, 11, 41)] [aR (8, 0, 0, 0), aR (10, 0, 1, 0)] (M, Rf) (WQ [eNS] Q2 QX2) := by
  refine CtH.mk (by decide +kernel) rfl (Nat.le_of_ble_eq_true rfl) (fun X K F hT hk => ?_)
  refine aw_aload1 (pc := 0) F dL_firstBroken_0 ?_
  refine aw_iconst (pc := 1) F dL_firstBroken_1 ?_
  refine aw_aload0 (pc := 2) F dL_firstBroken_2 ?_
  refine aw_hcallVI (pc := 3) (as9 := []) F dL_firstBroken_3 ml_L_37 rfl (by first | decide | (simp only [inB, cnt, rcnt]; omega)) hc (Nat.le_of_ble_eq_true rfl) (by decide) (by omega) (fun E σ9 h9 => ?_) (fun v σ9 h9 => ?_)
  · have hE9 := hE E σ9 h9
    obtain ⟨M9, R9⟩ := σ9
    obtain rfl : E = eNS := by simpa using hE9
    refine aw_catch F hT (by decide +kernel) [] (0, 8, 11, 41) [] rfl (fun z hz => absurd hz List.not_mem_nil) (by decide) (by decide) (gwI 997 (by decide +kernel) rfl) (k9 := 2) (n9 := 1) (Or.inr ⟨2, rfl, rfl, dL_firstBroken_11⟩) (by rfl) hk.symm (Nat.le_of_ble_eq_true rfl) ?_
    refine aw_iconst (pc := 12) F dL_firstBroken_12 ?_
    exact aw_iret (pc := 13) F dL_firstBroken_13 rfl (by omega) (Or.inr ⟨0, eNS, rfl, rfl, h9⟩)
  · skip
    obtain ⟨M9, R9⟩ := σ9
    refine aw_nrm ?_
    refine aw_i2l (pc := 6) F dL_firstBroken_6 nrm_in ?_
    refine aw_last (pc := 7) F dL_firstBroken_7 rfl (by first | decide | (simp only [inB, cnt, rcnt]; omega)) (by decide) ?_
    refine aw_goto (tgt := 14) (pc := 8) F dL_firstBroken_8 (by decide) ?_
    refine aw_iconst (pc := 14) F dL_firstBroken_14 ?_
    exact aw_iret (pc := 15) F dL_firstBroken_15 rfl (by omega) (Or.inl ⟨rfl, v, M9, R9, h9, rfl⟩)
theorem ch_allowed (M : Id4 → Int → Int) (Rf : Id4 → Int → Option Id4) (p0 p1 p2 : Int) {U2 : Nat} {Q2 : Int → Hp → Prop} {QX2 : String → Hp → Prop} (hc : CxI 13 U2 yX8_allowed cX8_allowed 4 (some .int) [aR (8, 0, 0, 0), aI p0, aI p1, aI p2] (M, Rf) Q2 QX2) (hE : ∀ E σ', QX2 E σ' → E ∈ [eIO])  : CtH 14 U2 yL_allowed cL_allowed 6 (some .int) [(0, 12, 15, 21)] [aR (8, 0, 0, 0), aI p0, aI p1, aI p2, aR (10, 0, 1, 0)] (M, Rf) (WQ [eIO] Q2 QX2) := by
  refine CtH.mk (by decide +kernel) rfl (Nat.le_of_ble_eq_true rfl) (fun X K F hT hk => ?_)
  refine aw_aload4 (pc := 0) F dL_allowed_0 ?_
  refine aw_iconst (pc := 2) F dL_allowed_2 ?_
  refine aw_aload0 (pc := 3) F dL_allowed_3 ?_
  refine aw_iload1 (pc := 4) F dL_allowed_4 ?_
  refine aw_iload2 (pc := 5) F dL_allowed_5 ?_
  refine aw_iload3 (pc := 6) F dL_allowed_6 ?_
  refine aw_hcallVI (pc := 7) (as9 := [aI p0, aI p1, aI p2]) F dL_allowed_7 ml_L_43 rfl (by first | decide | (simp only [inB, cnt, rcnt]; omega)) hc (Nat.le_of_ble_eq_true rfl) (by decide) (by omega) (fun E σ9 h9 => ?_) (fun v σ9 h9 => ?_)
  · have hE9 := hE E σ9 h9
    obtain ⟨M9, R9⟩ := σ9
    obtain rfl : E = eIO := by simpa using hE9
    refine aw_catch F hT (by decide +kernel) [] (0, 12, 15, 21) [] rfl (fun z hz => absurd hz List.not_mem_nil) (by decide) (by decide) (gwI 934 (by decide +kernel) rfl) (k9 := 5) (n9 := 2) (Or.inl ⟨rfl, dL_allowed_15⟩) (by rfl) hk.symm (Nat.le_of_ble_eq_true rfl) ?_
    refine aw_iconst (pc := 17) F dL_allowed_17 ?_
    exact aw_iret (pc := 18) F dL_allowed_18 rfl (by omega) (Or.inr ⟨0, eIO, rfl, rfl, h9⟩)
  · skip
    obtain ⟨M9, R9⟩ := σ9
    refine aw_nrm ?_
    refine aw_i2l (pc := 10) F dL_allowed_10 nrm_in ?_
    refine aw_last (pc := 11) F dL_allowed_11 rfl (by first | decide | (simp only [inB, cnt, rcnt]; omega)) (by decide) ?_
    refine aw_goto (tgt := 19) (pc := 12) F dL_allowed_12 (by decide) ?_
    refine aw_iconst (pc := 19) F dL_allowed_19 ?_
    exact aw_iret (pc := 20) F dL_allowed_20 rfl (by omega) (Or.inl ⟨rfl, v, M9, R9, h9, rfl⟩)
theorem ch_isAllowed (M : Id4 → Int → Int) (Rf : Id4 → Int → Option Id4) (p0 p1 p2 : Int) {U2 : Nat} {Q2 : Int → Hp → Prop} {QX2 : String → Hp → Prop} (hc : CxI 13 U2 yX8_isAllowed cX8_isAllowed 4 (some .boolean) [aR (8, 0, 0, 0), aI p0, aI p1, aI p2] (M, Rf) Q2 QX2) (hE : ∀ E σ', QX2 E σ' → E ∈ [eIO, eIA]) (hv : ∀ v σ', Q2 v σ' → v = 0 ∨ v = 1) : CtH 14 U2 yL_isAllowed cL_isAllowed 6 (some .int) [(0, 19, 22, 21), (0, 19, 26, 13)] [aR (8, 0, 0, 0), aI p0, aI p1, aI p2, aR (10, 0, 1, 0)] (M, Rf) (WQ [eIO, eIA] Q2 QX2) := by
  refine CtH.mk (by decide +kernel) rfl (Nat.le_of_ble_eq_true rfl) (fun X K F hT hk => ?_)
  refine aw_aload4 (pc := 0) F dL_isAllowed_0 ?_
  refine aw_iconst (pc := 2) F dL_isAllowed_2 ?_
  refine aw_aload0 (pc := 3) F dL_isAllowed_3 ?_
  refine aw_iload1 (pc := 4) F dL_isAllowed_4 ?_
  refine aw_iload2 (pc := 5) F dL_isAllowed_5 ?_
  refine aw_iload3 (pc := 6) F dL_isAllowed_6 ?_
  refine aw_hcallVI (pc := 7) (as9 := [aI p0, aI p1, aI p2]) F dL_isAllowed_7 ml_L_47 rfl (by first | decide | (simp only [inB, cnt, rcnt]; omega)) hc (Nat.le_of_ble_eq_true rfl) (by decide) (by omega) (fun E σ9 h9 => ?_) (fun v σ9 h9 => ?_)
  · have hE9 := hE E σ9 h9
    obtain ⟨M9, R9⟩ := σ9
    rcases (show E = eIO ∨ E = eIA by simpa using hE9) with rfl | rfl
    · refine aw_catch F hT (by decide +kernel) [] (0, 19, 22, 21) [(0, 19, 26, 13)] rfl (fun z hz => absurd hz List.not_mem_nil) (by decide) (by decide) (gwI 934 (by decide +kernel) rfl) (k9 := 5) (n9 := 2) (Or.inl ⟨rfl, dL_isAllowed_22⟩) (by rfl) hk.symm (Nat.le_of_ble_eq_true rfl) ?_
      refine aw_iconst (pc := 24) F dL_isAllowed_24 ?_
      exact aw_iret (pc := 25) F dL_isAllowed_25 rfl (by omega) (Or.inr ⟨0, eIO, rfl, rfl, h9⟩)
    · refine aw_catch F hT (by decide +kernel) [(0, 19, 22, 21)] (0, 19, 26, 13) [] rfl (fun z hz => by
          rcases (show z = (0, 19, 22, 21) by simpa using hz) with rfl
          · exact ⟨by decide, eIO, (gwI 934 (by decide +kernel) rfl), by decide +kernel, by decide +kernel⟩) (by decide) (by decide) (gwI 701 (by decide +kernel) rfl) (k9 := 5) (n9 := 2) (Or.inl ⟨rfl, dL_isAllowed_26⟩) (by rfl) hk.symm (Nat.le_of_ble_eq_true rfl) ?_
      refine aw_iconst (pc := 28) F dL_isAllowed_28 ?_
      exact aw_iret (pc := 29) F dL_isAllowed_29 rfl (by omega) (Or.inr ⟨1, eIA, rfl, rfl, h9⟩)
  · have hv9 := hv v σ9 h9
    obtain ⟨M9, R9⟩ := σ9
    refine aw_if_eq (tgt := 17) (pc := 10) F dL_isAllowed_10 (by decide) (by rcases hv9 with h | h <;> rw [h] <;> unfold inR <;> decide) (fun c9 => ?_) (fun c9 => ?_)
    · subst c9
      refine aw_lconst (pc := 17) F dL_isAllowed_17 ?_
      refine aw_last (pc := 18) F dL_isAllowed_18 rfl (by first | decide | (simp only [inB, cnt, rcnt]; omega)) (by decide) ?_
      refine aw_goto (tgt := 30) (pc := 19) F dL_isAllowed_19 (by decide) ?_
      refine aw_iconst (pc := 30) F dL_isAllowed_30 ?_
      exact aw_iret (pc := 31) F dL_isAllowed_31 rfl (by omega) (Or.inl ⟨rfl, 0, M9, R9, h9, rfl⟩)
    · obtain rfl : v = 1 := hv9.resolve_left c9
      refine aw_lconst (pc := 13) F dL_isAllowed_13 ?_
      refine aw_goto (tgt := 18) (pc := 14) F dL_isAllowed_14 (by decide) ?_
      refine aw_last (pc := 18) F dL_isAllowed_18 rfl (by first | decide | (simp only [inB, cnt, rcnt]; omega)) (by decide) ?_
      refine aw_goto (tgt := 30) (pc := 19) F dL_isAllowed_19 (by decide) ?_
      refine aw_iconst (pc := 30) F dL_isAllowed_30 ?_
      exact aw_iret (pc := 31) F dL_isAllowed_31 rfl (by omega) (Or.inl ⟨rfl, 1, M9, R9, h9, rfl⟩)
theorem ch_bound (M : Id4 → Int → Int) (Rf : Id4 → Int → Option Id4) (p0 p1 : Int) {U2 : Nat} {Q2 : Int → Hp → Prop} {QX2 : String → Hp → Prop} (hc : CxI 13 U2 yX8_bound cX8_bound 6 (some .int) [aR (8, 0, 0, 0), aI p0, aI p1] (M, Rf) Q2 QX2) (hE : ∀ E σ', QX2 E σ' → E ∈ [eIO, eNS])  : CtH 14 U2 yL_bound cL_bound 5 (some .int) [(0, 10, 13, 21), (0, 10, 17, 41)] [aR (8, 0, 0, 0), aI p0, aI p1, aR (10, 0, 1, 0)] (M, Rf) (WQ [eIO, eNS] Q2 QX2) := by
  refine CtH.mk (by decide +kernel) rfl (Nat.le_of_ble_eq_true rfl) (fun X K F hT hk => ?_)
  refine aw_aload3 (pc := 0) F dL_bound_0 ?_
  refine aw_iconst (pc := 1) F dL_bound_1 ?_
  refine aw_aload0 (pc := 2) F dL_bound_2 ?_
  refine aw_iload1 (pc := 3) F dL_bound_3 ?_
  refine aw_iload2 (pc := 4) F dL_bound_4 ?_
  refine aw_hcallVI (pc := 5) (as9 := [aI p0, aI p1]) F dL_bound_5 ml_L_51 rfl (by first | decide | (simp only [inB, cnt, rcnt]; omega)) hc (Nat.le_of_ble_eq_true rfl) (by decide) (by omega) (fun E σ9 h9 => ?_) (fun v σ9 h9 => ?_)
  · have hE9 := hE E σ9 h9
    obtain ⟨M9, R9⟩ := σ9
    rcases (show E = eIO ∨ E = eNS by simpa using hE9) with rfl | rfl
    · refine aw_catch F hT (by decide +kernel) [] (0, 10, 13, 21) [(0, 10, 17, 41)] rfl (fun z hz => absurd hz List.not_mem_nil) (by decide) (by decide) (gwI 934 (by decide +kernel) rfl) (k9 := 4) (n9 := 2) (Or.inl ⟨rfl, dL_bound_13⟩) (by rfl) hk.symm (Nat.le_of_ble_eq_true rfl) ?_
      refine aw_iconst (pc := 15) F dL_bound_15 ?_
      exact aw_iret (pc := 16) F dL_bound_16 rfl (by omega) (Or.inr ⟨0, eIO, rfl, rfl, h9⟩)
    · refine aw_catch F hT (by decide +kernel) [(0, 10, 13, 21)] (0, 10, 17, 41) [] rfl (fun z hz => by
          rcases (show z = (0, 10, 13, 21) by simpa using hz) with rfl
          · exact ⟨by decide, eIO, (gwI 934 (by decide +kernel) rfl), by decide +kernel, by decide +kernel⟩) (by decide) (by decide) (gwI 997 (by decide +kernel) rfl) (k9 := 4) (n9 := 2) (Or.inl ⟨rfl, dL_bound_17⟩) (by rfl) hk.symm (Nat.le_of_ble_eq_true rfl) ?_
      refine aw_iconst (pc := 19) F dL_bound_19 ?_
      exact aw_iret (pc := 20) F dL_bound_20 rfl (by omega) (Or.inr ⟨1, eNS, rfl, rfl, h9⟩)
  · skip
    obtain ⟨M9, R9⟩ := σ9
    refine aw_nrm ?_
    refine aw_i2l (pc := 8) F dL_bound_8 nrm_in ?_
    refine aw_last (pc := 9) F dL_bound_9 rfl (by first | decide | (simp only [inB, cnt, rcnt]; omega)) (by decide) ?_
    refine aw_goto (tgt := 21) (pc := 10) F dL_bound_10 (by decide) ?_
    refine aw_iconst (pc := 21) F dL_bound_21 ?_
    exact aw_iret (pc := 22) F dL_bound_22 rfl (by omega) (Or.inl ⟨rfl, v, M9, R9, h9, rfl⟩)
theorem ch_cycleLength (M : Id4 → Int → Int) (Rf : Id4 → Int → Option Id4) (p0 : Int) {U2 : Nat} {Q2 : Int → Hp → Prop} {QX2 : String → Hp → Prop} (hc : CxI 13 U2 yX8_cycleLength cX8_cycleLength 2 (some .int) [aR (8, 0, 0, 0), aI p0] (M, Rf) Q2 QX2) (hE : ∀ E σ', QX2 E σ' → E ∈ [eIO])  : CtH 14 U2 yL_cycleLength cL_cycleLength 4 (some .int) [(0, 9, 12, 21)] [aR (8, 0, 0, 0), aI p0, aR (10, 0, 1, 0)] (M, Rf) (WQ [eIO] Q2 QX2) := by
  refine CtH.mk (by decide +kernel) rfl (Nat.le_of_ble_eq_true rfl) (fun X K F hT hk => ?_)
  refine aw_aload2 (pc := 0) F dL_cycleLength_0 ?_
  refine aw_iconst (pc := 1) F dL_cycleLength_1 ?_
  refine aw_aload0 (pc := 2) F dL_cycleLength_2 ?_
  refine aw_iload1 (pc := 3) F dL_cycleLength_3 ?_
  refine aw_hcallVI (pc := 4) (as9 := [aI p0]) F dL_cycleLength_4 ml_L_55 rfl (by first | decide | (simp only [inB, cnt, rcnt]; omega)) hc (Nat.le_of_ble_eq_true rfl) (by decide) (by omega) (fun E σ9 h9 => ?_) (fun v σ9 h9 => ?_)
  · have hE9 := hE E σ9 h9
    obtain ⟨M9, R9⟩ := σ9
    obtain rfl : E = eIO := by simpa using hE9
    refine aw_catch F hT (by decide +kernel) [] (0, 9, 12, 21) [] rfl (fun z hz => absurd hz List.not_mem_nil) (by decide) (by decide) (gwI 934 (by decide +kernel) rfl) (k9 := 3) (n9 := 1) (Or.inr ⟨3, rfl, rfl, dL_cycleLength_12⟩) (by rfl) hk.symm (Nat.le_of_ble_eq_true rfl) ?_
    refine aw_iconst (pc := 13) F dL_cycleLength_13 ?_
    exact aw_iret (pc := 14) F dL_cycleLength_14 rfl (by omega) (Or.inr ⟨0, eIO, rfl, rfl, h9⟩)
  · skip
    obtain ⟨M9, R9⟩ := σ9
    refine aw_nrm ?_
    refine aw_i2l (pc := 7) F dL_cycleLength_7 nrm_in ?_
    refine aw_last (pc := 8) F dL_cycleLength_8 rfl (by first | decide | (simp only [inB, cnt, rcnt]; omega)) (by decide) ?_
    refine aw_goto (tgt := 15) (pc := 9) F dL_cycleLength_9 (by decide) ?_
    refine aw_iconst (pc := 15) F dL_cycleLength_15 ?_
    exact aw_iret (pc := 16) F dL_cycleLength_16 rfl (by omega) (Or.inl ⟨rfl, v, M9, R9, h9, rfl⟩)
theorem ch_cycleSpan (M : Id4 → Int → Int) (Rf : Id4 → Int → Option Id4) (p0 p1 : Int) {U2 : Nat} {Q2 : Int → Hp → Prop} {QX2 : String → Hp → Prop} (hc : CxI 14 U2 yX8_cycleSpan cX8_cycleSpan 3 (some .int) [aR (8, 0, 0, 0), aI p0, aI p1] (M, Rf) Q2 QX2) (hE : ∀ E σ', QX2 E σ' → E ∈ [eIO])  : CtH 15 U2 yL_cycleSpan cL_cycleSpan 5 (some .int) [(0, 10, 13, 21)] [aR (8, 0, 0, 0), aI p0, aI p1, aR (10, 0, 1, 0)] (M, Rf) (WQ [eIO] Q2 QX2) := by
  refine CtH.mk (by decide +kernel) rfl (Nat.le_of_ble_eq_true rfl) (fun X K F hT hk => ?_)
  refine aw_aload3 (pc := 0) F dL_cycleSpan_0 ?_
  refine aw_iconst (pc := 1) F dL_cycleSpan_1 ?_
  refine aw_aload0 (pc := 2) F dL_cycleSpan_2 ?_
  refine aw_iload1 (pc := 3) F dL_cycleSpan_3 ?_
  refine aw_iload2 (pc := 4) F dL_cycleSpan_4 ?_
  refine aw_hcallVI (pc := 5) (as9 := [aI p0, aI p1]) F dL_cycleSpan_5 ml_L_58 rfl (by first | decide | (simp only [inB, cnt, rcnt]; omega)) hc (Nat.le_of_ble_eq_true rfl) (by decide) (by omega) (fun E σ9 h9 => ?_) (fun v σ9 h9 => ?_)
  · have hE9 := hE E σ9 h9
    obtain ⟨M9, R9⟩ := σ9
    obtain rfl : E = eIO := by simpa using hE9
    refine aw_catch F hT (by decide +kernel) [] (0, 10, 13, 21) [] rfl (fun z hz => absurd hz List.not_mem_nil) (by decide) (by decide) (gwI 934 (by decide +kernel) rfl) (k9 := 4) (n9 := 2) (Or.inl ⟨rfl, dL_cycleSpan_13⟩) (by rfl) hk.symm (Nat.le_of_ble_eq_true rfl) ?_
    refine aw_iconst (pc := 15) F dL_cycleSpan_15 ?_
    exact aw_iret (pc := 16) F dL_cycleSpan_16 rfl (by omega) (Or.inr ⟨0, eIO, rfl, rfl, h9⟩)
  · skip
    obtain ⟨M9, R9⟩ := σ9
    refine aw_nrm ?_
    refine aw_i2l (pc := 8) F dL_cycleSpan_8 nrm_in ?_
    refine aw_last (pc := 9) F dL_cycleSpan_9 rfl (by first | decide | (simp only [inB, cnt, rcnt]; omega)) (by decide) ?_
    refine aw_goto (tgt := 17) (pc := 10) F dL_cycleSpan_10 (by decide) ?_
    refine aw_iconst (pc := 17) F dL_cycleSpan_17 ?_
    exact aw_iret (pc := 18) F dL_cycleSpan_18 rfl (by omega) (Or.inl ⟨rfl, v, M9, R9, h9, rfl⟩)
theorem ch_isForward (M : Id4 → Int → Int) (Rf : Id4 → Int → Option Id4) (p0 p1 : Int) {U2 : Nat} {Q2 : Int → Hp → Prop} {QX2 : String → Hp → Prop} (hc : CxI 14 U2 yX8_isForward cX8_isForward 3 (some .boolean) [aR (8, 0, 0, 0), aI p0, aI p1] (M, Rf) Q2 QX2) (hE : ∀ E σ', QX2 E σ' → E ∈ [eIO]) (hv : ∀ v σ', Q2 v σ' → v = 0 ∨ v = 1) : CtH 15 U2 yL_isForward cL_isForward 5 (some .int) [(0, 17, 20, 21)] [aR (8, 0, 0, 0), aI p0, aI p1, aR (10, 0, 1, 0)] (M, Rf) (WQ [eIO] Q2 QX2) := by
  refine CtH.mk (by decide +kernel) rfl (Nat.le_of_ble_eq_true rfl) (fun X K F hT hk => ?_)
  refine aw_aload3 (pc := 0) F dL_isForward_0 ?_
  refine aw_iconst (pc := 1) F dL_isForward_1 ?_
  refine aw_aload0 (pc := 2) F dL_isForward_2 ?_
  refine aw_iload1 (pc := 3) F dL_isForward_3 ?_
  refine aw_iload2 (pc := 4) F dL_isForward_4 ?_
  refine aw_hcallVI (pc := 5) (as9 := [aI p0, aI p1]) F dL_isForward_5 ml_L_61 rfl (by first | decide | (simp only [inB, cnt, rcnt]; omega)) hc (Nat.le_of_ble_eq_true rfl) (by decide) (by omega) (fun E σ9 h9 => ?_) (fun v σ9 h9 => ?_)
  · have hE9 := hE E σ9 h9
    obtain ⟨M9, R9⟩ := σ9
    obtain rfl : E = eIO := by simpa using hE9
    refine aw_catch F hT (by decide +kernel) [] (0, 17, 20, 21) [] rfl (fun z hz => absurd hz List.not_mem_nil) (by decide) (by decide) (gwI 934 (by decide +kernel) rfl) (k9 := 4) (n9 := 2) (Or.inl ⟨rfl, dL_isForward_20⟩) (by rfl) hk.symm (Nat.le_of_ble_eq_true rfl) ?_
    refine aw_iconst (pc := 22) F dL_isForward_22 ?_
    exact aw_iret (pc := 23) F dL_isForward_23 rfl (by omega) (Or.inr ⟨0, eIO, rfl, rfl, h9⟩)
  · have hv9 := hv v σ9 h9
    obtain ⟨M9, R9⟩ := σ9
    refine aw_if_eq (tgt := 15) (pc := 8) F dL_isForward_8 (by decide) (by rcases hv9 with h | h <;> rw [h] <;> unfold inR <;> decide) (fun c9 => ?_) (fun c9 => ?_)
    · subst c9
      refine aw_lconst (pc := 15) F dL_isForward_15 ?_
      refine aw_last (pc := 16) F dL_isForward_16 rfl (by first | decide | (simp only [inB, cnt, rcnt]; omega)) (by decide) ?_
      refine aw_goto (tgt := 24) (pc := 17) F dL_isForward_17 (by decide) ?_
      refine aw_iconst (pc := 24) F dL_isForward_24 ?_
      exact aw_iret (pc := 25) F dL_isForward_25 rfl (by omega) (Or.inl ⟨rfl, 0, M9, R9, h9, rfl⟩)
    · obtain rfl : v = 1 := hv9.resolve_left c9
      refine aw_lconst (pc := 11) F dL_isForward_11 ?_
      refine aw_goto (tgt := 16) (pc := 12) F dL_isForward_12 (by decide) ?_
      refine aw_last (pc := 16) F dL_isForward_16 rfl (by first | decide | (simp only [inB, cnt, rcnt]; omega)) (by decide) ?_
      refine aw_goto (tgt := 24) (pc := 17) F dL_isForward_17 (by decide) ?_
      refine aw_iconst (pc := 24) F dL_isForward_24 ?_
      exact aw_iret (pc := 25) F dL_isForward_25 rfl (by omega) (Or.inl ⟨rfl, 1, M9, R9, h9, rfl⟩)
theorem ch_turns (M : Id4 → Int → Int) (Rf : Id4 → Int → Option Id4) (p0 p1 : Int) {U2 : Nat} {Q2 : Int → Hp → Prop} {QX2 : String → Hp → Prop} (hc : CxI 13 U2 yX8_turns cX8_turns 3 (some .int) [aR (8, 0, 0, 0), aI p0, aI p1] (M, Rf) Q2 QX2) (hE : ∀ E σ', QX2 E σ' → E ∈ [eIO, eIA])  : CtH 14 U2 yL_turns cL_turns 5 (some .int) [(0, 10, 13, 21), (0, 10, 17, 13)] [aR (8, 0, 0, 0), aI p0, aI p1, aR (10, 0, 1, 0)] (M, Rf) (WQ [eIO, eIA] Q2 QX2) := by
  refine CtH.mk (by decide +kernel) rfl (Nat.le_of_ble_eq_true rfl) (fun X K F hT hk => ?_)
  refine aw_aload3 (pc := 0) F dL_turns_0 ?_
  refine aw_iconst (pc := 1) F dL_turns_1 ?_
  refine aw_aload0 (pc := 2) F dL_turns_2 ?_
  refine aw_iload1 (pc := 3) F dL_turns_3 ?_
  refine aw_iload2 (pc := 4) F dL_turns_4 ?_
  refine aw_hcallVI (pc := 5) (as9 := [aI p0, aI p1]) F dL_turns_5 ml_L_65 rfl (by first | decide | (simp only [inB, cnt, rcnt]; omega)) hc (Nat.le_of_ble_eq_true rfl) (by decide) (by omega) (fun E σ9 h9 => ?_) (fun v σ9 h9 => ?_)
  · have hE9 := hE E σ9 h9
    obtain ⟨M9, R9⟩ := σ9
    rcases (show E = eIO ∨ E = eIA by simpa using hE9) with rfl | rfl
    · refine aw_catch F hT (by decide +kernel) [] (0, 10, 13, 21) [(0, 10, 17, 13)] rfl (fun z hz => absurd hz List.not_mem_nil) (by decide) (by decide) (gwI 934 (by decide +kernel) rfl) (k9 := 4) (n9 := 2) (Or.inl ⟨rfl, dL_turns_13⟩) (by rfl) hk.symm (Nat.le_of_ble_eq_true rfl) ?_
      refine aw_iconst (pc := 15) F dL_turns_15 ?_
      exact aw_iret (pc := 16) F dL_turns_16 rfl (by omega) (Or.inr ⟨0, eIO, rfl, rfl, h9⟩)
    · refine aw_catch F hT (by decide +kernel) [(0, 10, 13, 21)] (0, 10, 17, 13) [] rfl (fun z hz => by
          rcases (show z = (0, 10, 13, 21) by simpa using hz) with rfl
          · exact ⟨by decide, eIO, (gwI 934 (by decide +kernel) rfl), by decide +kernel, by decide +kernel⟩) (by decide) (by decide) (gwI 701 (by decide +kernel) rfl) (k9 := 4) (n9 := 2) (Or.inl ⟨rfl, dL_turns_17⟩) (by rfl) hk.symm (Nat.le_of_ble_eq_true rfl) ?_
      refine aw_iconst (pc := 19) F dL_turns_19 ?_
      exact aw_iret (pc := 20) F dL_turns_20 rfl (by omega) (Or.inr ⟨1, eIA, rfl, rfl, h9⟩)
  · skip
    obtain ⟨M9, R9⟩ := σ9
    refine aw_nrm ?_
    refine aw_i2l (pc := 8) F dL_turns_8 nrm_in ?_
    refine aw_last (pc := 9) F dL_turns_9 rfl (by first | decide | (simp only [inB, cnt, rcnt]; omega)) (by decide) ?_
    refine aw_goto (tgt := 21) (pc := 10) F dL_turns_10 (by decide) ?_
    refine aw_iconst (pc := 21) F dL_turns_21 ?_
    exact aw_iret (pc := 22) F dL_turns_22 rfl (by omega) (Or.inl ⟨rfl, v, M9, R9, h9, rfl⟩)
theorem ch_firstImpossible (M : Id4 → Int → Int) (Rf : Id4 → Int → Option Id4)  {U2 : Nat} {Q2 : Int → Hp → Prop} {QX2 : String → Hp → Prop} (hc : CxI 12 U2 yX8_firstImpossible cX8_firstImpossible 2 (some .int) [aR (8, 0, 0, 0)] (M, Rf) Q2 QX2) (hE : ∀ E σ', QX2 E σ' → E ∈ [eNS])  : CtH 13 U2 yL_firstImpossible cL_firstImpossible 3 (some .int) [(0, 8, 11, 41)] [aR (8, 0, 0, 0), aR (10, 0, 1, 0)] (M, Rf) (WQ [eNS] Q2 QX2) := by
  refine CtH.mk (by decide +kernel) rfl (Nat.le_of_ble_eq_true rfl) (fun X K F hT hk => ?_)
  refine aw_aload1 (pc := 0) F dL_firstImpossible_0 ?_
  refine aw_iconst (pc := 1) F dL_firstImpossible_1 ?_
  refine aw_aload0 (pc := 2) F dL_firstImpossible_2 ?_
  refine aw_hcallVI (pc := 3) (as9 := []) F dL_firstImpossible_3 ml_L_68 rfl (by first | decide | (simp only [inB, cnt, rcnt]; omega)) hc (Nat.le_of_ble_eq_true rfl) (by decide) (by omega) (fun E σ9 h9 => ?_) (fun v σ9 h9 => ?_)
  · have hE9 := hE E σ9 h9
    obtain ⟨M9, R9⟩ := σ9
    obtain rfl : E = eNS := by simpa using hE9
    refine aw_catch F hT (by decide +kernel) [] (0, 8, 11, 41) [] rfl (fun z hz => absurd hz List.not_mem_nil) (by decide) (by decide) (gwI 997 (by decide +kernel) rfl) (k9 := 2) (n9 := 1) (Or.inr ⟨2, rfl, rfl, dL_firstImpossible_11⟩) (by rfl) hk.symm (Nat.le_of_ble_eq_true rfl) ?_
    refine aw_iconst (pc := 12) F dL_firstImpossible_12 ?_
    exact aw_iret (pc := 13) F dL_firstImpossible_13 rfl (by omega) (Or.inr ⟨0, eNS, rfl, rfl, h9⟩)
  · skip
    obtain ⟨M9, R9⟩ := σ9
    refine aw_nrm ?_
    refine aw_i2l (pc := 6) F dL_firstImpossible_6 nrm_in ?_
    refine aw_last (pc := 7) F dL_firstImpossible_7 rfl (by first | decide | (simp only [inB, cnt, rcnt]; omega)) (by decide) ?_
    refine aw_goto (tgt := 14) (pc := 8) F dL_firstImpossible_8 (by decide) ?_
    refine aw_iconst (pc := 14) F dL_firstImpossible_14 ?_
    exact aw_iret (pc := 15) F dL_firstImpossible_15 rfl (by omega) (Or.inl ⟨rfl, v, M9, R9, h9, rfl⟩)
theorem ch_leastCost (M : Id4 → Int → Int) (Rf : Id4 → Int → Option Id4)  {U2 : Nat} {Q2 : Int → Hp → Prop} {QX2 : String → Hp → Prop} (hc : CxI 30 U2 yX8_leastCost cX8_leastCost 1 (some .int) [aR (8, 0, 0, 0)] (M, Rf) Q2 QX2) (hE : ∀ E σ', QX2 E σ' → E ∈ [eNS])  : CtH 31 U2 yL_leastCost cL_leastCost 3 (some .int) [(0, 8, 11, 41)] [aR (8, 0, 0, 0), aR (10, 0, 1, 0)] (M, Rf) (WQ [eNS] Q2 QX2) := by
  refine CtH.mk (by decide +kernel) rfl (Nat.le_of_ble_eq_true rfl) (fun X K F hT hk => ?_)
  refine aw_aload1 (pc := 0) F dL_leastCost_0 ?_
  refine aw_iconst (pc := 1) F dL_leastCost_1 ?_
  refine aw_aload0 (pc := 2) F dL_leastCost_2 ?_
  refine aw_hcallVI (pc := 3) (as9 := []) F dL_leastCost_3 ml_L_71 rfl (by first | decide | (simp only [inB, cnt, rcnt]; omega)) hc (Nat.le_of_ble_eq_true rfl) (by decide) (by omega) (fun E σ9 h9 => ?_) (fun v σ9 h9 => ?_)
  · have hE9 := hE E σ9 h9
    obtain ⟨M9, R9⟩ := σ9
    obtain rfl : E = eNS := by simpa using hE9
    refine aw_catch F hT (by decide +kernel) [] (0, 8, 11, 41) [] rfl (fun z hz => absurd hz List.not_mem_nil) (by decide) (by decide) (gwI 997 (by decide +kernel) rfl) (k9 := 2) (n9 := 1) (Or.inr ⟨2, rfl, rfl, dL_leastCost_11⟩) (by rfl) hk.symm (Nat.le_of_ble_eq_true rfl) ?_
    refine aw_iconst (pc := 12) F dL_leastCost_12 ?_
    exact aw_iret (pc := 13) F dL_leastCost_13 rfl (by omega) (Or.inr ⟨0, eNS, rfl, rfl, h9⟩)
  · skip
    obtain ⟨M9, R9⟩ := σ9
    refine aw_nrm ?_
    refine aw_i2l (pc := 6) F dL_leastCost_6 nrm_in ?_
    refine aw_last (pc := 7) F dL_leastCost_7 rfl (by first | decide | (simp only [inB, cnt, rcnt]; omega)) (by decide) ?_
    refine aw_goto (tgt := 14) (pc := 8) F dL_leastCost_8 (by decide) ?_
    refine aw_iconst (pc := 14) F dL_leastCost_14 ?_
    exact aw_iret (pc := 15) F dL_leastCost_15 rfl (by omega) (Or.inl ⟨rfl, v, M9, R9, h9, rfl⟩)
theorem ch_costIf (M : Id4 → Int → Int) (Rf : Id4 → Int → Option Id4) (p0 p1 : Int) {U2 : Nat} {Q2 : Int → Hp → Prop} {QX2 : String → Hp → Prop} (hc : CxI 13 U2 yX8_costIf cX8_costIf 3 (some .int) [aR (8, 0, 0, 0), aI p0, aI p1] (M, Rf) Q2 QX2) (hE : ∀ E σ', QX2 E σ' → E ∈ [eIO, eIA])  : CtH 14 U2 yL_costIf cL_costIf 5 (some .int) [(0, 10, 13, 21), (0, 10, 17, 13)] [aR (8, 0, 0, 0), aI p0, aI p1, aR (10, 0, 1, 0)] (M, Rf) (WQ [eIO, eIA] Q2 QX2) := by
  refine CtH.mk (by decide +kernel) rfl (Nat.le_of_ble_eq_true rfl) (fun X K F hT hk => ?_)
  refine aw_aload3 (pc := 0) F dL_costIf_0 ?_
  refine aw_iconst (pc := 1) F dL_costIf_1 ?_
  refine aw_aload0 (pc := 2) F dL_costIf_2 ?_
  refine aw_iload1 (pc := 3) F dL_costIf_3 ?_
  refine aw_iload2 (pc := 4) F dL_costIf_4 ?_
  refine aw_hcallVI (pc := 5) (as9 := [aI p0, aI p1]) F dL_costIf_5 ml_L_74 rfl (by first | decide | (simp only [inB, cnt, rcnt]; omega)) hc (Nat.le_of_ble_eq_true rfl) (by decide) (by omega) (fun E σ9 h9 => ?_) (fun v σ9 h9 => ?_)
  · have hE9 := hE E σ9 h9
    obtain ⟨M9, R9⟩ := σ9
    rcases (show E = eIO ∨ E = eIA by simpa using hE9) with rfl | rfl
    · refine aw_catch F hT (by decide +kernel) [] (0, 10, 13, 21) [(0, 10, 17, 13)] rfl (fun z hz => absurd hz List.not_mem_nil) (by decide) (by decide) (gwI 934 (by decide +kernel) rfl) (k9 := 4) (n9 := 2) (Or.inl ⟨rfl, dL_costIf_13⟩) (by rfl) hk.symm (Nat.le_of_ble_eq_true rfl) ?_
      refine aw_iconst (pc := 15) F dL_costIf_15 ?_
      exact aw_iret (pc := 16) F dL_costIf_16 rfl (by omega) (Or.inr ⟨0, eIO, rfl, rfl, h9⟩)
    · refine aw_catch F hT (by decide +kernel) [(0, 10, 13, 21)] (0, 10, 17, 13) [] rfl (fun z hz => by
          rcases (show z = (0, 10, 13, 21) by simpa using hz) with rfl
          · exact ⟨by decide, eIO, (gwI 934 (by decide +kernel) rfl), by decide +kernel, by decide +kernel⟩) (by decide) (by decide) (gwI 701 (by decide +kernel) rfl) (k9 := 4) (n9 := 2) (Or.inl ⟨rfl, dL_costIf_17⟩) (by rfl) hk.symm (Nat.le_of_ble_eq_true rfl) ?_
      refine aw_iconst (pc := 19) F dL_costIf_19 ?_
      exact aw_iret (pc := 20) F dL_costIf_20 rfl (by omega) (Or.inr ⟨1, eIA, rfl, rfl, h9⟩)
  · skip
    obtain ⟨M9, R9⟩ := σ9
    refine aw_nrm ?_
    refine aw_i2l (pc := 8) F dL_costIf_8 nrm_in ?_
    refine aw_last (pc := 9) F dL_costIf_9 rfl (by first | decide | (simp only [inB, cnt, rcnt]; omega)) (by decide) ?_
    refine aw_goto (tgt := 21) (pc := 10) F dL_costIf_10 (by decide) ?_
    refine aw_iconst (pc := 21) F dL_costIf_21 ?_
    exact aw_iret (pc := 22) F dL_costIf_22 rfl (by omega) (Or.inl ⟨rfl, v, M9, R9, h9, rfl⟩)
theorem ch_canRaise (M : Id4 → Int → Int) (Rf : Id4 → Int → Option Id4) (p0 : Int) {U2 : Nat} {Q2 : Int → Hp → Prop} {QX2 : String → Hp → Prop} (hc : CxI 30 U2 yX8_canRaise cX8_canRaise 3 (some .int) [aR (8, 0, 0, 0), aI p0] (M, Rf) Q2 QX2) (hE : ∀ E σ', QX2 E σ' → E ∈ [eIO])  : CtH 31 U2 yL_canRaise cL_canRaise 4 (some .int) [(0, 9, 12, 21)] [aR (8, 0, 0, 0), aI p0, aR (10, 0, 1, 0)] (M, Rf) (WQ [eIO] Q2 QX2) := by
  refine CtH.mk (by decide +kernel) rfl (Nat.le_of_ble_eq_true rfl) (fun X K F hT hk => ?_)
  refine aw_aload2 (pc := 0) F dL_canRaise_0 ?_
  refine aw_iconst (pc := 1) F dL_canRaise_1 ?_
  refine aw_aload0 (pc := 2) F dL_canRaise_2 ?_
  refine aw_iload1 (pc := 3) F dL_canRaise_3 ?_
  refine aw_hcallVI (pc := 4) (as9 := [aI p0]) F dL_canRaise_4 ml_L_77 rfl (by first | decide | (simp only [inB, cnt, rcnt]; omega)) hc (Nat.le_of_ble_eq_true rfl) (by decide) (by omega) (fun E σ9 h9 => ?_) (fun v σ9 h9 => ?_)
  · have hE9 := hE E σ9 h9
    obtain ⟨M9, R9⟩ := σ9
    obtain rfl : E = eIO := by simpa using hE9
    refine aw_catch F hT (by decide +kernel) [] (0, 9, 12, 21) [] rfl (fun z hz => absurd hz List.not_mem_nil) (by decide) (by decide) (gwI 934 (by decide +kernel) rfl) (k9 := 3) (n9 := 1) (Or.inr ⟨3, rfl, rfl, dL_canRaise_12⟩) (by rfl) hk.symm (Nat.le_of_ble_eq_true rfl) ?_
    refine aw_iconst (pc := 13) F dL_canRaise_13 ?_
    exact aw_iret (pc := 14) F dL_canRaise_14 rfl (by omega) (Or.inr ⟨0, eIO, rfl, rfl, h9⟩)
  · skip
    obtain ⟨M9, R9⟩ := σ9
    refine aw_nrm ?_
    refine aw_i2l (pc := 7) F dL_canRaise_7 nrm_in ?_
    refine aw_last (pc := 8) F dL_canRaise_8 rfl (by first | decide | (simp only [inB, cnt, rcnt]; omega)) (by decide) ?_
    refine aw_goto (tgt := 15) (pc := 9) F dL_canRaise_9 (by decide) ?_
    refine aw_iconst (pc := 15) F dL_canRaise_15 ?_
    exact aw_iret (pc := 16) F dL_canRaise_16 rfl (by omega) (Or.inl ⟨rfl, v, M9, R9, h9, rfl⟩)
theorem ch_isCritical (M : Id4 → Int → Int) (Rf : Id4 → Int → Option Id4) (p0 : Int) {U2 : Nat} {Q2 : Int → Hp → Prop} {QX2 : String → Hp → Prop} (hc : CxI 30 U2 yX8_isCritical cX8_isCritical 2 (some .boolean) [aR (8, 0, 0, 0), aI p0] (M, Rf) Q2 QX2) (hE : ∀ E σ', QX2 E σ' → E ∈ [eIO]) (hv : ∀ v σ', Q2 v σ' → v = 0 ∨ v = 1) : CtH 31 U2 yL_isCritical cL_isCritical 4 (some .int) [(0, 16, 19, 21)] [aR (8, 0, 0, 0), aI p0, aR (10, 0, 1, 0)] (M, Rf) (WQ [eIO] Q2 QX2) := by
  refine CtH.mk (by decide +kernel) rfl (Nat.le_of_ble_eq_true rfl) (fun X K F hT hk => ?_)
  refine aw_aload2 (pc := 0) F dL_isCritical_0 ?_
  refine aw_iconst (pc := 1) F dL_isCritical_1 ?_
  refine aw_aload0 (pc := 2) F dL_isCritical_2 ?_
  refine aw_iload1 (pc := 3) F dL_isCritical_3 ?_
  refine aw_hcallVI (pc := 4) (as9 := [aI p0]) F dL_isCritical_4 ml_L_80 rfl (by first | decide | (simp only [inB, cnt, rcnt]; omega)) hc (Nat.le_of_ble_eq_true rfl) (by decide) (by omega) (fun E σ9 h9 => ?_) (fun v σ9 h9 => ?_)
  · have hE9 := hE E σ9 h9
    obtain ⟨M9, R9⟩ := σ9
    obtain rfl : E = eIO := by simpa using hE9
    refine aw_catch F hT (by decide +kernel) [] (0, 16, 19, 21) [] rfl (fun z hz => absurd hz List.not_mem_nil) (by decide) (by decide) (gwI 934 (by decide +kernel) rfl) (k9 := 3) (n9 := 1) (Or.inr ⟨3, rfl, rfl, dL_isCritical_19⟩) (by rfl) hk.symm (Nat.le_of_ble_eq_true rfl) ?_
    refine aw_iconst (pc := 20) F dL_isCritical_20 ?_
    exact aw_iret (pc := 21) F dL_isCritical_21 rfl (by omega) (Or.inr ⟨0, eIO, rfl, rfl, h9⟩)
  · have hv9 := hv v σ9 h9
    obtain ⟨M9, R9⟩ := σ9
    refine aw_if_eq (tgt := 14) (pc := 7) F dL_isCritical_7 (by decide) (by rcases hv9 with h | h <;> rw [h] <;> unfold inR <;> decide) (fun c9 => ?_) (fun c9 => ?_)
    · subst c9
      refine aw_lconst (pc := 14) F dL_isCritical_14 ?_
      refine aw_last (pc := 15) F dL_isCritical_15 rfl (by first | decide | (simp only [inB, cnt, rcnt]; omega)) (by decide) ?_
      refine aw_goto (tgt := 22) (pc := 16) F dL_isCritical_16 (by decide) ?_
      refine aw_iconst (pc := 22) F dL_isCritical_22 ?_
      exact aw_iret (pc := 23) F dL_isCritical_23 rfl (by omega) (Or.inl ⟨rfl, 0, M9, R9, h9, rfl⟩)
    · obtain rfl : v = 1 := hv9.resolve_left c9
      refine aw_lconst (pc := 10) F dL_isCritical_10 ?_
      refine aw_goto (tgt := 15) (pc := 11) F dL_isCritical_11 (by decide) ?_
      refine aw_last (pc := 15) F dL_isCritical_15 rfl (by first | decide | (simp only [inB, cnt, rcnt]; omega)) (by decide) ?_
      refine aw_goto (tgt := 22) (pc := 16) F dL_isCritical_16 (by decide) ?_
      refine aw_iconst (pc := 22) F dL_isCritical_22 ?_
      exact aw_iret (pc := 23) F dL_isCritical_23 rfl (by omega) (Or.inl ⟨rfl, 1, M9, R9, h9, rfl⟩)
theorem ch_share (M : Id4 → Int → Int) (Rf : Id4 → Int → Option Id4) (p0 p1 : Int) {U2 : Nat} {Q2 : Int → Hp → Prop} {QX2 : String → Hp → Prop} (hc : CxI 13 U2 yX8_share cX8_share 10 (some .int) [aR (8, 0, 0, 0), aI p0, aI p1] (M, Rf) Q2 QX2) (hE : ∀ E σ', QX2 E σ' → E ∈ [eIO, eIA])  : CtH 14 U2 yL_share cL_share 5 (some .int) [(0, 10, 13, 21), (0, 10, 17, 13)] [aR (8, 0, 0, 0), aI p0, aI p1, aR (10, 0, 1, 0)] (M, Rf) (WQ [eIO, eIA] Q2 QX2) := by
  refine CtH.mk (by decide +kernel) rfl (Nat.le_of_ble_eq_true rfl) (fun X K F hT hk => ?_)
  refine aw_aload3 (pc := 0) F dL_share_0 ?_
  refine aw_iconst (pc := 1) F dL_share_1 ?_
  refine aw_aload0 (pc := 2) F dL_share_2 ?_
  refine aw_iload1 (pc := 3) F dL_share_3 ?_
  refine aw_iload2 (pc := 4) F dL_share_4 ?_
  refine aw_hcallVI (pc := 5) (as9 := [aI p0, aI p1]) F dL_share_5 ml_L_83 rfl (by first | decide | (simp only [inB, cnt, rcnt]; omega)) hc (Nat.le_of_ble_eq_true rfl) (by decide) (by omega) (fun E σ9 h9 => ?_) (fun v σ9 h9 => ?_)
  · have hE9 := hE E σ9 h9
    obtain ⟨M9, R9⟩ := σ9
    rcases (show E = eIO ∨ E = eIA by simpa using hE9) with rfl | rfl
    · refine aw_catch F hT (by decide +kernel) [] (0, 10, 13, 21) [(0, 10, 17, 13)] rfl (fun z hz => absurd hz List.not_mem_nil) (by decide) (by decide) (gwI 934 (by decide +kernel) rfl) (k9 := 4) (n9 := 2) (Or.inl ⟨rfl, dL_share_13⟩) (by rfl) hk.symm (Nat.le_of_ble_eq_true rfl) ?_
      refine aw_iconst (pc := 15) F dL_share_15 ?_
      exact aw_iret (pc := 16) F dL_share_16 rfl (by omega) (Or.inr ⟨0, eIO, rfl, rfl, h9⟩)
    · refine aw_catch F hT (by decide +kernel) [(0, 10, 13, 21)] (0, 10, 17, 13) [] rfl (fun z hz => by
          rcases (show z = (0, 10, 13, 21) by simpa using hz) with rfl
          · exact ⟨by decide, eIO, (gwI 934 (by decide +kernel) rfl), by decide +kernel, by decide +kernel⟩) (by decide) (by decide) (gwI 701 (by decide +kernel) rfl) (k9 := 4) (n9 := 2) (Or.inl ⟨rfl, dL_share_17⟩) (by rfl) hk.symm (Nat.le_of_ble_eq_true rfl) ?_
      refine aw_iconst (pc := 19) F dL_share_19 ?_
      exact aw_iret (pc := 20) F dL_share_20 rfl (by omega) (Or.inr ⟨1, eIA, rfl, rfl, h9⟩)
  · skip
    obtain ⟨M9, R9⟩ := σ9
    refine aw_nrm ?_
    refine aw_i2l (pc := 8) F dL_share_8 nrm_in ?_
    refine aw_last (pc := 9) F dL_share_9 rfl (by first | decide | (simp only [inB, cnt, rcnt]; omega)) (by decide) ?_
    refine aw_goto (tgt := 21) (pc := 10) F dL_share_10 (by decide) ?_
    refine aw_iconst (pc := 21) F dL_share_21 ?_
    exact aw_iret (pc := 22) F dL_share_22 rfl (by omega) (Or.inl ⟨rfl, v, M9, R9, h9, rfl⟩)
theorem ch_move (M : Id4 → Int → Int) (Rf : Id4 → Int → Option Id4) (p0 p1 : Int) {U2 : Nat} {Q2 : Int → Hp → Prop} {QX2 : String → Hp → Prop} (hc : CxI 13 U2 yX8_move cX8_move 3 (some .int) [aR (8, 0, 0, 0), aI p0, aI p1] (M, Rf) Q2 QX2) (hE : ∀ E σ', QX2 E σ' → E ∈ [eIO, eIA])  : CtH 14 U2 yL_move cL_move 5 (some .int) [(0, 10, 13, 21), (0, 10, 17, 13)] [aR (8, 0, 0, 0), aI p0, aI p1, aR (10, 0, 1, 0)] (M, Rf) (WQ [eIO, eIA] Q2 QX2) := by
  refine CtH.mk (by decide +kernel) rfl (Nat.le_of_ble_eq_true rfl) (fun X K F hT hk => ?_)
  refine aw_aload3 (pc := 0) F dL_move_0 ?_
  refine aw_iconst (pc := 1) F dL_move_1 ?_
  refine aw_aload0 (pc := 2) F dL_move_2 ?_
  refine aw_iload1 (pc := 3) F dL_move_3 ?_
  refine aw_iload2 (pc := 4) F dL_move_4 ?_
  refine aw_hcallVI (pc := 5) (as9 := [aI p0, aI p1]) F dL_move_5 ml_L_86 rfl (by first | decide | (simp only [inB, cnt, rcnt]; omega)) hc (Nat.le_of_ble_eq_true rfl) (by decide) (by omega) (fun E σ9 h9 => ?_) (fun v σ9 h9 => ?_)
  · have hE9 := hE E σ9 h9
    obtain ⟨M9, R9⟩ := σ9
    rcases (show E = eIO ∨ E = eIA by simpa using hE9) with rfl | rfl
    · refine aw_catch F hT (by decide +kernel) [] (0, 10, 13, 21) [(0, 10, 17, 13)] rfl (fun z hz => absurd hz List.not_mem_nil) (by decide) (by decide) (gwI 934 (by decide +kernel) rfl) (k9 := 4) (n9 := 2) (Or.inl ⟨rfl, dL_move_13⟩) (by rfl) hk.symm (Nat.le_of_ble_eq_true rfl) ?_
      refine aw_iconst (pc := 15) F dL_move_15 ?_
      exact aw_iret (pc := 16) F dL_move_16 rfl (by omega) (Or.inr ⟨0, eIO, rfl, rfl, h9⟩)
    · refine aw_catch F hT (by decide +kernel) [(0, 10, 13, 21)] (0, 10, 17, 13) [] rfl (fun z hz => by
          rcases (show z = (0, 10, 13, 21) by simpa using hz) with rfl
          · exact ⟨by decide, eIO, (gwI 934 (by decide +kernel) rfl), by decide +kernel, by decide +kernel⟩) (by decide) (by decide) (gwI 701 (by decide +kernel) rfl) (k9 := 4) (n9 := 2) (Or.inl ⟨rfl, dL_move_17⟩) (by rfl) hk.symm (Nat.le_of_ble_eq_true rfl) ?_
      refine aw_iconst (pc := 19) F dL_move_19 ?_
      exact aw_iret (pc := 20) F dL_move_20 rfl (by omega) (Or.inr ⟨1, eIA, rfl, rfl, h9⟩)
  · skip
    obtain ⟨M9, R9⟩ := σ9
    refine aw_nrm ?_
    refine aw_i2l (pc := 8) F dL_move_8 nrm_in ?_
    refine aw_last (pc := 9) F dL_move_9 rfl (by first | decide | (simp only [inB, cnt, rcnt]; omega)) (by decide) ?_
    refine aw_goto (tgt := 21) (pc := 10) F dL_move_10 (by decide) ?_
    refine aw_iconst (pc := 21) F dL_move_21 ?_
    exact aw_iret (pc := 22) F dL_move_22 rfl (by omega) (Or.inl ⟨rfl, v, M9, R9, h9, rfl⟩)
theorem ch_setSpan (M : Id4 → Int → Int) (Rf : Id4 → Int → Option Id4) (p0 p1 p2 : Int) {U2 : Nat} {Q2 : Int → Hp → Prop} {QX2 : String → Hp → Prop} (hc : CxI 14 U2 yX8_setSpan cX8_setSpan 4 (some .int) [aR (8, 0, 0, 0), aI p0, aI p1, aI p2] (M, Rf) Q2 QX2) (hE : ∀ E σ', QX2 E σ' → E ∈ [eIO, eIA])  : CtH 15 U2 yL_setSpan cL_setSpan 6 (some .int) [(0, 12, 15, 21), (0, 12, 19, 13)] [aR (8, 0, 0, 0), aI p0, aI p1, aI p2, aR (10, 0, 1, 0)] (M, Rf) (WQ [eIO, eIA] Q2 QX2) := by
  refine CtH.mk (by decide +kernel) rfl (Nat.le_of_ble_eq_true rfl) (fun X K F hT hk => ?_)
  refine aw_aload4 (pc := 0) F dL_setSpan_0 ?_
  refine aw_iconst (pc := 2) F dL_setSpan_2 ?_
  refine aw_aload0 (pc := 3) F dL_setSpan_3 ?_
  refine aw_iload1 (pc := 4) F dL_setSpan_4 ?_
  refine aw_iload2 (pc := 5) F dL_setSpan_5 ?_
  refine aw_iload3 (pc := 6) F dL_setSpan_6 ?_
  refine aw_hcallVI (pc := 7) (as9 := [aI p0, aI p1, aI p2]) F dL_setSpan_7 ml_L_89 rfl (by first | decide | (simp only [inB, cnt, rcnt]; omega)) hc (Nat.le_of_ble_eq_true rfl) (by decide) (by omega) (fun E σ9 h9 => ?_) (fun v σ9 h9 => ?_)
  · have hE9 := hE E σ9 h9
    obtain ⟨M9, R9⟩ := σ9
    rcases (show E = eIO ∨ E = eIA by simpa using hE9) with rfl | rfl
    · refine aw_catch F hT (by decide +kernel) [] (0, 12, 15, 21) [(0, 12, 19, 13)] rfl (fun z hz => absurd hz List.not_mem_nil) (by decide) (by decide) (gwI 934 (by decide +kernel) rfl) (k9 := 5) (n9 := 2) (Or.inl ⟨rfl, dL_setSpan_15⟩) (by rfl) hk.symm (Nat.le_of_ble_eq_true rfl) ?_
      refine aw_iconst (pc := 17) F dL_setSpan_17 ?_
      exact aw_iret (pc := 18) F dL_setSpan_18 rfl (by omega) (Or.inr ⟨0, eIO, rfl, rfl, h9⟩)
    · refine aw_catch F hT (by decide +kernel) [(0, 12, 15, 21)] (0, 12, 19, 13) [] rfl (fun z hz => by
          rcases (show z = (0, 12, 15, 21) by simpa using hz) with rfl
          · exact ⟨by decide, eIO, (gwI 934 (by decide +kernel) rfl), by decide +kernel, by decide +kernel⟩) (by decide) (by decide) (gwI 701 (by decide +kernel) rfl) (k9 := 5) (n9 := 2) (Or.inl ⟨rfl, dL_setSpan_19⟩) (by rfl) hk.symm (Nat.le_of_ble_eq_true rfl) ?_
      refine aw_iconst (pc := 21) F dL_setSpan_21 ?_
      exact aw_iret (pc := 22) F dL_setSpan_22 rfl (by omega) (Or.inr ⟨1, eIA, rfl, rfl, h9⟩)
  · skip
    obtain ⟨M9, R9⟩ := σ9
    refine aw_nrm ?_
    refine aw_i2l (pc := 10) F dL_setSpan_10 nrm_in ?_
    refine aw_last (pc := 11) F dL_setSpan_11 rfl (by first | decide | (simp only [inB, cnt, rcnt]; omega)) (by decide) ?_
    refine aw_goto (tgt := 23) (pc := 12) F dL_setSpan_12 (by decide) ?_
    refine aw_iconst (pc := 23) F dL_setSpan_23 ?_
    exact aw_iret (pc := 24) F dL_setSpan_24 rfl (by omega) (Or.inl ⟨rfl, v, M9, R9, h9, rfl⟩)
theorem ch_setWeight (M : Id4 → Int → Int) (Rf : Id4 → Int → Option Id4) (p0 p1 : Int) {U2 : Nat} {Q2 : Int → Hp → Prop} {QX2 : String → Hp → Prop} (hc : CxI 13 U2 yX8_setWeight cX8_setWeight 4 (some .int) [aR (8, 0, 0, 0), aI p0, aI p1] (M, Rf) Q2 QX2) (hE : ∀ E σ', QX2 E σ' → E ∈ [eIO, eIA])  : CtH 14 U2 yL_setWeight cL_setWeight 5 (some .int) [(0, 10, 13, 21), (0, 10, 17, 13)] [aR (8, 0, 0, 0), aI p0, aI p1, aR (10, 0, 1, 0)] (M, Rf) (WQ [eIO, eIA] Q2 QX2) := by
  refine CtH.mk (by decide +kernel) rfl (Nat.le_of_ble_eq_true rfl) (fun X K F hT hk => ?_)
  refine aw_aload3 (pc := 0) F dL_setWeight_0 ?_
  refine aw_iconst (pc := 1) F dL_setWeight_1 ?_
  refine aw_aload0 (pc := 2) F dL_setWeight_2 ?_
  refine aw_iload1 (pc := 3) F dL_setWeight_3 ?_
  refine aw_iload2 (pc := 4) F dL_setWeight_4 ?_
  refine aw_hcallVI (pc := 5) (as9 := [aI p0, aI p1]) F dL_setWeight_5 ml_L_93 rfl (by first | decide | (simp only [inB, cnt, rcnt]; omega)) hc (Nat.le_of_ble_eq_true rfl) (by decide) (by omega) (fun E σ9 h9 => ?_) (fun v σ9 h9 => ?_)
  · have hE9 := hE E σ9 h9
    obtain ⟨M9, R9⟩ := σ9
    rcases (show E = eIO ∨ E = eIA by simpa using hE9) with rfl | rfl
    · refine aw_catch F hT (by decide +kernel) [] (0, 10, 13, 21) [(0, 10, 17, 13)] rfl (fun z hz => absurd hz List.not_mem_nil) (by decide) (by decide) (gwI 934 (by decide +kernel) rfl) (k9 := 4) (n9 := 2) (Or.inl ⟨rfl, dL_setWeight_13⟩) (by rfl) hk.symm (Nat.le_of_ble_eq_true rfl) ?_
      refine aw_iconst (pc := 15) F dL_setWeight_15 ?_
      exact aw_iret (pc := 16) F dL_setWeight_16 rfl (by omega) (Or.inr ⟨0, eIO, rfl, rfl, h9⟩)
    · refine aw_catch F hT (by decide +kernel) [(0, 10, 13, 21)] (0, 10, 17, 13) [] rfl (fun z hz => by
          rcases (show z = (0, 10, 13, 21) by simpa using hz) with rfl
          · exact ⟨by decide, eIO, (gwI 934 (by decide +kernel) rfl), by decide +kernel, by decide +kernel⟩) (by decide) (by decide) (gwI 701 (by decide +kernel) rfl) (k9 := 4) (n9 := 2) (Or.inl ⟨rfl, dL_setWeight_17⟩) (by rfl) hk.symm (Nat.le_of_ble_eq_true rfl) ?_
      refine aw_iconst (pc := 19) F dL_setWeight_19 ?_
      exact aw_iret (pc := 20) F dL_setWeight_20 rfl (by omega) (Or.inr ⟨1, eIA, rfl, rfl, h9⟩)
  · skip
    obtain ⟨M9, R9⟩ := σ9
    refine aw_nrm ?_
    refine aw_i2l (pc := 8) F dL_setWeight_8 nrm_in ?_
    refine aw_last (pc := 9) F dL_setWeight_9 rfl (by first | decide | (simp only [inB, cnt, rcnt]; omega)) (by decide) ?_
    refine aw_goto (tgt := 21) (pc := 10) F dL_setWeight_10 (by decide) ?_
    refine aw_iconst (pc := 21) F dL_setWeight_21 ?_
    exact aw_iret (pc := 22) F dL_setWeight_22 rfl (by omega) (Or.inl ⟨rfl, v, M9, R9, h9, rfl⟩)
theorem ch_addSpan (M : Id4 → Int → Int) (Rf : Id4 → Int → Option Id4) (p0 p1 p2 p3 p4 : Int) {U2 : Nat} {Q2 : Int → Hp → Prop} {QX2 : String → Hp → Prop} (hc : CxI 14 U2 yX8_addSpan cX8_addSpan 6 (some .int) [aR (8, 0, 0, 0), aI p0, aI p1, aI p2, aI p3, aI p4] (M, Rf) Q2 QX2) (hE : ∀ E σ', QX2 E σ' → E ∈ [eIO, eIA, eIS])  : CtH 15 U2 yL_addSpan cL_addSpan 8 (some .int) [(0, 16, 19, 21), (0, 16, 23, 13), (0, 16, 27, 100)] [aR (8, 0, 0, 0), aI p0, aI p1, aI p2, aI p3, aI p4, aR (10, 0, 1, 0)] (M, Rf) (WQ [eIO, eIA, eIS] Q2 QX2) := by
  refine CtH.mk (by decide +kernel) rfl (Nat.le_of_ble_eq_true rfl) (fun X K F hT hk => ?_)
  refine aw_aload6 (pc := 0) F dL_addSpan_0 ?_
  refine aw_iconst (pc := 2) F dL_addSpan_2 ?_
  refine aw_aload0 (pc := 3) F dL_addSpan_3 ?_
  refine aw_iload1 (pc := 4) F dL_addSpan_4 ?_
  refine aw_iload2 (pc := 5) F dL_addSpan_5 ?_
  refine aw_iload3 (pc := 6) F dL_addSpan_6 ?_
  refine aw_iload4 (pc := 7) F dL_addSpan_7 ?_
  refine aw_iload5 (pc := 9) F dL_addSpan_9 ?_
  refine aw_hcallVI (pc := 11) (as9 := [aI p0, aI p1, aI p2, aI p3, aI p4]) F dL_addSpan_11 ml_L_96 rfl (by first | decide | (simp only [inB, cnt, rcnt]; omega)) hc (Nat.le_of_ble_eq_true rfl) (by decide) (by omega) (fun E σ9 h9 => ?_) (fun v σ9 h9 => ?_)
  · have hE9 := hE E σ9 h9
    obtain ⟨M9, R9⟩ := σ9
    rcases (show E = eIO ∨ E = eIA ∨ E = eIS by simpa using hE9) with rfl | rfl | rfl
    · refine aw_catch F hT (by decide +kernel) [] (0, 16, 19, 21) [(0, 16, 23, 13), (0, 16, 27, 100)] rfl (fun z hz => absurd hz List.not_mem_nil) (by decide) (by decide) (gwI 934 (by decide +kernel) rfl) (k9 := 7) (n9 := 2) (Or.inl ⟨rfl, dL_addSpan_19⟩) (by rfl) hk.symm (Nat.le_of_ble_eq_true rfl) ?_
      refine aw_iconst (pc := 21) F dL_addSpan_21 ?_
      exact aw_iret (pc := 22) F dL_addSpan_22 rfl (by omega) (Or.inr ⟨0, eIO, rfl, rfl, h9⟩)
    · refine aw_catch F hT (by decide +kernel) [(0, 16, 19, 21)] (0, 16, 23, 13) [(0, 16, 27, 100)] rfl (fun z hz => by
          rcases (show z = (0, 16, 19, 21) by simpa using hz) with rfl
          · exact ⟨by decide, eIO, (gwI 934 (by decide +kernel) rfl), by decide +kernel, by decide +kernel⟩) (by decide) (by decide) (gwI 701 (by decide +kernel) rfl) (k9 := 7) (n9 := 2) (Or.inl ⟨rfl, dL_addSpan_23⟩) (by rfl) hk.symm (Nat.le_of_ble_eq_true rfl) ?_
      refine aw_iconst (pc := 25) F dL_addSpan_25 ?_
      exact aw_iret (pc := 26) F dL_addSpan_26 rfl (by omega) (Or.inr ⟨1, eIA, rfl, rfl, h9⟩)
    · refine aw_catch F hT (by decide +kernel) [(0, 16, 19, 21), (0, 16, 23, 13)] (0, 16, 27, 100) [] rfl (fun z hz => by
          rcases (show z = (0, 16, 19, 21) ∨ z = (0, 16, 23, 13) by simpa using hz) with rfl | rfl
          · exact ⟨by decide, eIO, (gwI 934 (by decide +kernel) rfl), by decide +kernel, by decide +kernel⟩
          · exact ⟨by decide, eIA, (gwI 701 (by decide +kernel) rfl), by decide +kernel, by decide +kernel⟩) (by decide) (by decide) (gwI 1189 (by decide +kernel) rfl) (k9 := 7) (n9 := 2) (Or.inl ⟨rfl, dL_addSpan_27⟩) (by rfl) hk.symm (Nat.le_of_ble_eq_true rfl) ?_
      refine aw_iconst (pc := 29) F dL_addSpan_29 ?_
      exact aw_iret (pc := 30) F dL_addSpan_30 rfl (by omega) (Or.inr ⟨2, eIS, rfl, rfl, h9⟩)
  · skip
    obtain ⟨M9, R9⟩ := σ9
    refine aw_nrm ?_
    refine aw_i2l (pc := 14) F dL_addSpan_14 nrm_in ?_
    refine aw_last (pc := 15) F dL_addSpan_15 rfl (by first | decide | (simp only [inB, cnt, rcnt]; omega)) (by decide) ?_
    refine aw_goto (tgt := 31) (pc := 16) F dL_addSpan_16 (by decide) ?_
    refine aw_iconst (pc := 31) F dL_addSpan_31 ?_
    exact aw_iret (pc := 32) F dL_addSpan_32 rfl (by omega) (Or.inl ⟨rfl, v, M9, R9, h9, rfl⟩)
theorem ch_removeSpan (M : Id4 → Int → Int) (Rf : Id4 → Int → Option Id4) (p0 : Int) {U2 : Nat} {Q2 : Int → Hp → Prop} {QX2 : String → Hp → Prop} (hc : CxI 13 U2 yX8_removeSpan cX8_removeSpan 2 (some .int) [aR (8, 0, 0, 0), aI p0] (M, Rf) Q2 QX2) (hE : ∀ E σ', QX2 E σ' → E ∈ [eIO])  : CtH 14 U2 yL_removeSpan cL_removeSpan 4 (some .int) [(0, 9, 12, 21)] [aR (8, 0, 0, 0), aI p0, aR (10, 0, 1, 0)] (M, Rf) (WQ [eIO] Q2 QX2) := by
  refine CtH.mk (by decide +kernel) rfl (Nat.le_of_ble_eq_true rfl) (fun X K F hT hk => ?_)
  refine aw_aload2 (pc := 0) F dL_removeSpan_0 ?_
  refine aw_iconst (pc := 1) F dL_removeSpan_1 ?_
  refine aw_aload0 (pc := 2) F dL_removeSpan_2 ?_
  refine aw_iload1 (pc := 3) F dL_removeSpan_3 ?_
  refine aw_hcallVI (pc := 4) (as9 := [aI p0]) F dL_removeSpan_4 ml_L_102 rfl (by first | decide | (simp only [inB, cnt, rcnt]; omega)) hc (Nat.le_of_ble_eq_true rfl) (by decide) (by omega) (fun E σ9 h9 => ?_) (fun v σ9 h9 => ?_)
  · have hE9 := hE E σ9 h9
    obtain ⟨M9, R9⟩ := σ9
    obtain rfl : E = eIO := by simpa using hE9
    refine aw_catch F hT (by decide +kernel) [] (0, 9, 12, 21) [] rfl (fun z hz => absurd hz List.not_mem_nil) (by decide) (by decide) (gwI 934 (by decide +kernel) rfl) (k9 := 3) (n9 := 1) (Or.inr ⟨3, rfl, rfl, dL_removeSpan_12⟩) (by rfl) hk.symm (Nat.le_of_ble_eq_true rfl) ?_
    refine aw_iconst (pc := 13) F dL_removeSpan_13 ?_
    exact aw_iret (pc := 14) F dL_removeSpan_14 rfl (by omega) (Or.inr ⟨0, eIO, rfl, rfl, h9⟩)
  · skip
    obtain ⟨M9, R9⟩ := σ9
    refine aw_nrm ?_
    refine aw_i2l (pc := 7) F dL_removeSpan_7 nrm_in ?_
    refine aw_last (pc := 8) F dL_removeSpan_8 rfl (by first | decide | (simp only [inB, cnt, rcnt]; omega)) (by decide) ?_
    refine aw_goto (tgt := 15) (pc := 9) F dL_removeSpan_9 (by decide) ?_
    refine aw_iconst (pc := 15) F dL_removeSpan_15 ?_
    exact aw_iret (pc := 16) F dL_removeSpan_16 rfl (by omega) (Or.inl ⟨rfl, v, M9, R9, h9, rfl⟩)
theorem ch_setPeriod (M : Id4 → Int → Int) (Rf : Id4 → Int → Option Id4) (p0 : Int) {U2 : Nat} {Q2 : Int → Hp → Prop} {QX2 : String → Hp → Prop} (hc : CxI 13 U2 yX8_setPeriod cX8_setPeriod 4 (some .int) [aR (8, 0, 0, 0), aI p0] (M, Rf) Q2 QX2) (hE : ∀ E σ', QX2 E σ' → E ∈ [eIA, eIS])  : CtH 14 U2 yL_setPeriod cL_setPeriod 4 (some .int) [(0, 9, 12, 13), (0, 9, 15, 100)] [aR (8, 0, 0, 0), aI p0, aR (10, 0, 1, 0)] (M, Rf) (WQ [eIA, eIS] Q2 QX2) := by
  refine CtH.mk (by decide +kernel) rfl (Nat.le_of_ble_eq_true rfl) (fun X K F hT hk => ?_)
  refine aw_aload2 (pc := 0) F dL_setPeriod_0 ?_
  refine aw_iconst (pc := 1) F dL_setPeriod_1 ?_
  refine aw_aload0 (pc := 2) F dL_setPeriod_2 ?_
  refine aw_iload1 (pc := 3) F dL_setPeriod_3 ?_
  refine aw_hcallVI (pc := 4) (as9 := [aI p0]) F dL_setPeriod_4 ml_L_105 rfl (by first | decide | (simp only [inB, cnt, rcnt]; omega)) hc (Nat.le_of_ble_eq_true rfl) (by decide) (by omega) (fun E σ9 h9 => ?_) (fun v σ9 h9 => ?_)
  · have hE9 := hE E σ9 h9
    obtain ⟨M9, R9⟩ := σ9
    rcases (show E = eIA ∨ E = eIS by simpa using hE9) with rfl | rfl
    · refine aw_catch F hT (by decide +kernel) [] (0, 9, 12, 13) [(0, 9, 15, 100)] rfl (fun z hz => absurd hz List.not_mem_nil) (by decide) (by decide) (gwI 701 (by decide +kernel) rfl) (k9 := 3) (n9 := 1) (Or.inr ⟨3, rfl, rfl, dL_setPeriod_12⟩) (by rfl) hk.symm (Nat.le_of_ble_eq_true rfl) ?_
      refine aw_iconst (pc := 13) F dL_setPeriod_13 ?_
      exact aw_iret (pc := 14) F dL_setPeriod_14 rfl (by omega) (Or.inr ⟨0, eIA, rfl, rfl, h9⟩)
    · refine aw_catch F hT (by decide +kernel) [(0, 9, 12, 13)] (0, 9, 15, 100) [] rfl (fun z hz => by
          rcases (show z = (0, 9, 12, 13) by simpa using hz) with rfl
          · exact ⟨by decide, eIA, (gwI 701 (by decide +kernel) rfl), by decide +kernel, by decide +kernel⟩) (by decide) (by decide) (gwI 1189 (by decide +kernel) rfl) (k9 := 3) (n9 := 1) (Or.inr ⟨3, rfl, rfl, dL_setPeriod_15⟩) (by rfl) hk.symm (Nat.le_of_ble_eq_true rfl) ?_
      refine aw_iconst (pc := 16) F dL_setPeriod_16 ?_
      exact aw_iret (pc := 17) F dL_setPeriod_17 rfl (by omega) (Or.inr ⟨1, eIS, rfl, rfl, h9⟩)
  · skip
    obtain ⟨M9, R9⟩ := σ9
    refine aw_nrm ?_
    refine aw_i2l (pc := 7) F dL_setPeriod_7 nrm_in ?_
    refine aw_last (pc := 8) F dL_setPeriod_8 rfl (by first | decide | (simp only [inB, cnt, rcnt]; omega)) (by decide) ?_
    refine aw_goto (tgt := 18) (pc := 9) F dL_setPeriod_9 (by decide) ?_
    refine aw_iconst (pc := 18) F dL_setPeriod_18 ?_
    exact aw_iret (pc := 19) F dL_setPeriod_19 rfl (by omega) (Or.inl ⟨rfl, v, M9, R9, h9, rfl⟩)
theorem ch_solve (M : Id4 → Int → Int) (Rf : Id4 → Int → Option Id4)  {U2 : Nat} {Q2 : Int → Hp → Prop} {QX2 : String → Hp → Prop} (hc : CxI 30 U2 yX8_solve cX8_solve 1 (some .int) [aR (8, 0, 0, 0)] (M, Rf) Q2 QX2) (hE : ∀ E σ', QX2 E σ' → E ∈ [eNS])  : CtH 31 U2 yL_solve cL_solve 3 (some .int) [(0, 8, 11, 41)] [aR (8, 0, 0, 0), aR (10, 0, 1, 0)] (M, Rf) (WQ [eNS] Q2 QX2) := by
  refine CtH.mk (by decide +kernel) rfl (Nat.le_of_ble_eq_true rfl) (fun X K F hT hk => ?_)
  refine aw_aload1 (pc := 0) F dL_solve_0 ?_
  refine aw_iconst (pc := 1) F dL_solve_1 ?_
  refine aw_aload0 (pc := 2) F dL_solve_2 ?_
  refine aw_hcallVI (pc := 3) (as9 := []) F dL_solve_3 ml_L_108 rfl (by first | decide | (simp only [inB, cnt, rcnt]; omega)) hc (Nat.le_of_ble_eq_true rfl) (by decide) (by omega) (fun E σ9 h9 => ?_) (fun v σ9 h9 => ?_)
  · have hE9 := hE E σ9 h9
    obtain ⟨M9, R9⟩ := σ9
    obtain rfl : E = eNS := by simpa using hE9
    refine aw_catch F hT (by decide +kernel) [] (0, 8, 11, 41) [] rfl (fun z hz => absurd hz List.not_mem_nil) (by decide) (by decide) (gwI 997 (by decide +kernel) rfl) (k9 := 2) (n9 := 1) (Or.inr ⟨2, rfl, rfl, dL_solve_11⟩) (by rfl) hk.symm (Nat.le_of_ble_eq_true rfl) ?_
    refine aw_iconst (pc := 12) F dL_solve_12 ?_
    exact aw_iret (pc := 13) F dL_solve_13 rfl (by omega) (Or.inr ⟨0, eNS, rfl, rfl, h9⟩)
  · skip
    obtain ⟨M9, R9⟩ := σ9
    refine aw_nrm ?_
    refine aw_i2l (pc := 6) F dL_solve_6 nrm_in ?_
    refine aw_last (pc := 7) F dL_solve_7 rfl (by first | decide | (simp only [inB, cnt, rcnt]; omega)) (by decide) ?_
    refine aw_goto (tgt := 14) (pc := 8) F dL_solve_8 (by decide) ?_
    refine aw_iconst (pc := 14) F dL_solve_14 ?_
    exact aw_iret (pc := 15) F dL_solve_15 rfl (by omega) (Or.inl ⟨rfl, v, M9, R9, h9, rfl⟩)
theorem ch_cheapen (M : Id4 → Int → Int) (Rf : Id4 → Int → Option Id4)  {U2 : Nat} {Q2 : Int → Hp → Prop} {QX2 : String → Hp → Prop} (hc : CxI 30 U2 yX8_cheapen cX8_cheapen 1 (some .int) [aR (8, 0, 0, 0)] (M, Rf) Q2 QX2) (hE : ∀ E σ', QX2 E σ' → E ∈ [eNS])  : CtH 31 U2 yL_cheapen cL_cheapen 3 (some .int) [(0, 8, 11, 41)] [aR (8, 0, 0, 0), aR (10, 0, 1, 0)] (M, Rf) (WQ [eNS] Q2 QX2) := by
  refine CtH.mk (by decide +kernel) rfl (Nat.le_of_ble_eq_true rfl) (fun X K F hT hk => ?_)
  refine aw_aload1 (pc := 0) F dL_cheapen_0 ?_
  refine aw_iconst (pc := 1) F dL_cheapen_1 ?_
  refine aw_aload0 (pc := 2) F dL_cheapen_2 ?_
  refine aw_hcallVI (pc := 3) (as9 := []) F dL_cheapen_3 ml_L_111 rfl (by first | decide | (simp only [inB, cnt, rcnt]; omega)) hc (Nat.le_of_ble_eq_true rfl) (by decide) (by omega) (fun E σ9 h9 => ?_) (fun v σ9 h9 => ?_)
  · have hE9 := hE E σ9 h9
    obtain ⟨M9, R9⟩ := σ9
    obtain rfl : E = eNS := by simpa using hE9
    refine aw_catch F hT (by decide +kernel) [] (0, 8, 11, 41) [] rfl (fun z hz => absurd hz List.not_mem_nil) (by decide) (by decide) (gwI 997 (by decide +kernel) rfl) (k9 := 2) (n9 := 1) (Or.inr ⟨2, rfl, rfl, dL_cheapen_11⟩) (by rfl) hk.symm (Nat.le_of_ble_eq_true rfl) ?_
    refine aw_iconst (pc := 12) F dL_cheapen_12 ?_
    exact aw_iret (pc := 13) F dL_cheapen_13 rfl (by omega) (Or.inr ⟨0, eNS, rfl, rfl, h9⟩)
  · skip
    obtain ⟨M9, R9⟩ := σ9
    refine aw_nrm ?_
    refine aw_i2l (pc := 6) F dL_cheapen_6 nrm_in ?_
    refine aw_last (pc := 7) F dL_cheapen_7 rfl (by first | decide | (simp only [inB, cnt, rcnt]; omega)) (by decide) ?_
    refine aw_goto (tgt := 14) (pc := 8) F dL_cheapen_8 (by decide) ?_
    refine aw_iconst (pc := 14) F dL_cheapen_14 ?_
    exact aw_iret (pc := 15) F dL_cheapen_15 rfl (by omega) (Or.inl ⟨rfl, v, M9, R9, h9, rfl⟩)
theorem ch_writeCycle (M : Id4 → Int → Int) (Rf : Id4 → Int → Option Id4) (p0 : Int) {U2 : Nat} {Q2 : Int → Hp → Prop} {QX2 : String → Hp → Prop} (hc : CxI 13 U2 yX8_writeCycle cX8_writeCycle 3 (some .int) [aR (8, 0, 0, 0), aI p0] (M, Rf) Q2 QX2) (hE : ∀ E σ', QX2 E σ' → E ∈ [eIO])  : CtH 14 U2 yL_writeCycle cL_writeCycle 4 (some .int) [(0, 9, 12, 21)] [aR (8, 0, 0, 0), aI p0, aR (10, 0, 1, 0)] (M, Rf) (WQ [eIO] Q2 QX2) := by
  refine CtH.mk (by decide +kernel) rfl (Nat.le_of_ble_eq_true rfl) (fun X K F hT hk => ?_)
  refine aw_aload2 (pc := 0) F dL_writeCycle_0 ?_
  refine aw_iconst (pc := 1) F dL_writeCycle_1 ?_
  refine aw_aload0 (pc := 2) F dL_writeCycle_2 ?_
  refine aw_iload1 (pc := 3) F dL_writeCycle_3 ?_
  refine aw_hcallVI (pc := 4) (as9 := [aI p0]) F dL_writeCycle_4 ml_L_114 rfl (by first | decide | (simp only [inB, cnt, rcnt]; omega)) hc (Nat.le_of_ble_eq_true rfl) (by decide) (by omega) (fun E σ9 h9 => ?_) (fun v σ9 h9 => ?_)
  · have hE9 := hE E σ9 h9
    obtain ⟨M9, R9⟩ := σ9
    obtain rfl : E = eIO := by simpa using hE9
    refine aw_catch F hT (by decide +kernel) [] (0, 9, 12, 21) [] rfl (fun z hz => absurd hz List.not_mem_nil) (by decide) (by decide) (gwI 934 (by decide +kernel) rfl) (k9 := 3) (n9 := 1) (Or.inr ⟨3, rfl, rfl, dL_writeCycle_12⟩) (by rfl) hk.symm (Nat.le_of_ble_eq_true rfl) ?_
    refine aw_iconst (pc := 13) F dL_writeCycle_13 ?_
    exact aw_iret (pc := 14) F dL_writeCycle_14 rfl (by omega) (Or.inr ⟨0, eIO, rfl, rfl, h9⟩)
  · skip
    obtain ⟨M9, R9⟩ := σ9
    refine aw_nrm ?_
    refine aw_i2l (pc := 7) F dL_writeCycle_7 nrm_in ?_
    refine aw_last (pc := 8) F dL_writeCycle_8 rfl (by first | decide | (simp only [inB, cnt, rcnt]; omega)) (by decide) ?_
    refine aw_goto (tgt := 15) (pc := 9) F dL_writeCycle_9 (by decide) ?_
    refine aw_iconst (pc := 15) F dL_writeCycle_15 ?_
    exact aw_iret (pc := 16) F dL_writeCycle_16 rfl (by omega) (Or.inl ⟨rfl, v, M9, R9, h9, rfl⟩)
theorem ch_written (M : Id4 → Int → Int) (Rf : Id4 → Int → Option Id4) (p0 : Int) {U2 : Nat} {Q2 : Int → Hp → Prop} {QX2 : String → Hp → Prop} (hc : CxI 12 U2 yX8_written cX8_written 2 (some .char) [aR (8, 0, 0, 0), aI p0] (M, Rf) Q2 QX2) (hE : ∀ E σ', QX2 E σ' → E ∈ [eIO])  : CtH 13 U2 yL_written cL_written 4 (some .int) [(0, 9, 12, 21)] [aR (8, 0, 0, 0), aI p0, aR (10, 0, 1, 0)] (M, Rf) (WQ [eIO] Q2 QX2) := by
  refine CtH.mk (by decide +kernel) rfl (Nat.le_of_ble_eq_true rfl) (fun X K F hT hk => ?_)
  refine aw_aload2 (pc := 0) F dL_written_0 ?_
  refine aw_iconst (pc := 1) F dL_written_1 ?_
  refine aw_aload0 (pc := 2) F dL_written_2 ?_
  refine aw_iload1 (pc := 3) F dL_written_3 ?_
  refine aw_hcallVI (pc := 4) (as9 := [aI p0]) F dL_written_4 ml_L_117 rfl (by first | decide | (simp only [inB, cnt, rcnt]; omega)) hc (Nat.le_of_ble_eq_true rfl) (by decide) (by omega) (fun E σ9 h9 => ?_) (fun v σ9 h9 => ?_)
  · have hE9 := hE E σ9 h9
    obtain ⟨M9, R9⟩ := σ9
    obtain rfl : E = eIO := by simpa using hE9
    refine aw_catch F hT (by decide +kernel) [] (0, 9, 12, 21) [] rfl (fun z hz => absurd hz List.not_mem_nil) (by decide) (by decide) (gwI 934 (by decide +kernel) rfl) (k9 := 3) (n9 := 1) (Or.inr ⟨3, rfl, rfl, dL_written_12⟩) (by rfl) hk.symm (Nat.le_of_ble_eq_true rfl) ?_
    refine aw_iconst (pc := 13) F dL_written_13 ?_
    exact aw_iret (pc := 14) F dL_written_14 rfl (by omega) (Or.inr ⟨0, eIO, rfl, rfl, h9⟩)
  · skip
    obtain ⟨M9, R9⟩ := σ9
    refine aw_nrm ?_
    refine aw_i2l (pc := 7) F dL_written_7 nrm_in ?_
    refine aw_last (pc := 8) F dL_written_8 rfl (by first | decide | (simp only [inB, cnt, rcnt]; omega)) (by decide) ?_
    refine aw_goto (tgt := 15) (pc := 9) F dL_written_9 (by decide) ?_
    refine aw_iconst (pc := 15) F dL_written_15 ?_
    exact aw_iret (pc := 16) F dL_written_16 rfl (by omega) (Or.inl ⟨rfl, v, M9, R9, h9, rfl⟩)
