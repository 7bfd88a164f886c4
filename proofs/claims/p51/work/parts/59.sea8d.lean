/-! 59: the class finds -/
def FPZ (t f : Nat) : Prop := ∀ r : vw_C, vwCl[t]? = some r → (r.2.1 f).2.2.2 = false ∧ parseFieldDescriptor (r.2.1 f).2.2.1 = some .boolean
theorem fpz_7_9 : FPZ 7 9 := fun r h => by cases h; exact ⟨rfl, by decide +kernel⟩
section
variable {X : Cx} {K : Kx} {cc : ByteArray} {own : String} {ret : Option FieldType} {d U pc u : Nat} {lv st : List AV} {M : Id4 → Int → Int} {Rf : Id4 → Int → Option Id4} {Q : State → Prop} {tb : Bool}
theorem aw_putZ (F : Fx X K cc own ret d U tb) {q : Id4} {t f idx : Nat} {fz : Int}  {x : Int} (hd : decode cc pc = .ok (.putfield idx, 3)) (hf : FL own idx t f) (hg : FPZ t f) (hk : kd q = .inl t) (hm : inB q) (hr : rfF t f = false) (hz : (f : Int) = fz) (h01 : x = 0 ∨ x = 1) (k : AW X K (pc + 3) lv st (updM M q fz x, Rf) u Q) : AW X K pc lv (aI x :: aR q :: st) (M, Rf) u Q := by
  obtain ⟨p, l, e, R, s, m, args, below, meth, c⟩ := X
  obtain ⟨g, cy, A, nL, ρ, L⟩ := K
  obtain ⟨hx, hb, hml, hown, hts, hK, hnd, hD, hA, hlk, hret, hR, htr, hZ, hE⟩ := F
  obtain ⟨hE1, rfl⟩ := hE
  intro H locs ls hP hS hl
  subst hz
  obtain ⟨r, hr1, hr2, hr3, hr4⟩ := hf
  obtain ⟨i, hi, hi2⟩ := ws_at (ρ := ρ) (cy := cy) (σ := (M, Rf)) (memL (by rw [hk]; intro z; cases z; exact absurd (vw_lt hr1) (by decide)) hm)
  rw [ent_obj hk] at hi2
  obtain ⟨ty0, hty, hnm⟩ := (clsOK t r hr1).1
  obtain ⟨hg1, hg2⟩ := hg r hr1
  refine va_put (fs := flds ρ (M, Rf) q t) hx hb hts (clsOK t r hr1).2 ty0 hty hnm hown hK hP (wsD hD (M, Rf)) hS i hi2 hr1 f hr2 (hts _ hr4) (fun _ h => h) hg1 hg2 (nar_bool h01) (by rcases h01 with h | h <;> rw [h] <;> rfl) (by rw [fl_len]; omega) hd (fun H1 locs1 hP1 hD1 hS1 => ?_)
  have e9 := ws_set (ρ := ρ) (cy := cy) (σ := (M, Rf)) (σ' := (updM M q (f : Int) x, Rf)) hnd hi (ent_fld (σ := (M, Rf)) hk hr) (fun q' h => ent_ne (σ := (M, Rf)) h)
  exact k H1 locs1 ls (e9 ▸ hP1) hS1 hl
end
theorem bst0 {f : Int → Int} : bst (-1, f) = 1048576 := if_pos rfl
def scr17 (q : Id4) : Prop := q.1 = 1 ∨ q.1 = 7
def same17 (M M' : Id4 → Int → Int) : Prop := ∀ q, ¬ scr17 q → M' q = M q
theorem same17.rf {M : Id4 → Int → Int} : same17 M M := fun _ _ => rfl
theorem same17.tr {M M1 M2 : Id4 → Int → Int} (h1 : same17 M M1) (h2 : same17 M1 M2) : same17 M M2 := fun q h => (h2 q h).trans (h1 q h)
theorem same17.up {M M1 : Id4 → Int → Int} {q : Id4} {k v : Int} (h1 : same17 M M1) (h : scr17 q) : same17 M (updM M1 q k v) := fun q' h' => by
  rw [← h1 q' h']
  funext j
  exact upd_ne (Or.inl (fun z => h' (z ▸ h)))
theorem same17.st {M M1 : Id4 → Int → Int} {q : Id4} {A : Int → Int} (h1 : same17 M M1) (h : scr17 q) : same17 M (setA M1 q A) := fun q' h' => by
  rw [← h1 q' h']
  exact setA_ne (fun z => h' (z ▸ h))
theorem same17.pl {M M' : Id4 → Int → Int} {p : Int} {S : Int → Int} (h : same17 M M') (hR : plR M p S) : plR M' p S := pl_eq (fun c => h _ (by unfold scr17; simp)) hR
theorem same17.s8 {M M' : Id4 → Int → Int} (h : same17 M M') : same8 M M' := fun q z => h q (fun y => z (y.elim (fun w => Or.inr (Or.inl w)) (fun w => Or.inr (Or.inr (Or.inl w)))))
theorem same7.s17 {M M' : Id4 → Int → Int} (h : same7 M M') : same17 M M' := fun q z => h q (fun y => z (Or.inr y))
theorem scr17_7 {c : Nat} {r : Int} : scr17 (7, 0, c, r) := Or.inr rfl
def same1 (M M' : Id4 → Int → Int) : Prop := ∀ q, ¬ q.1 = 1 → M' q = M q
theorem same1.rf {M : Id4 → Int → Int} : same1 M M := fun _ _ => rfl
theorem same1.up {M M1 : Id4 → Int → Int} {d : Int} {c : Nat} {k v : Int} (h1 : same1 M M1) : same1 M (updM M1 (1, d, c, 0) k v) := fun q' h' => by
  rw [← h1 q' h']
  funext j
  exact upd_ne (Or.inl (fun z => h' (by rw [z])))
theorem same1.st {M M1 : Id4 → Int → Int} {d : Int} {c : Nat} {A : Int → Int} (h1 : same1 M M1) : same1 M (setA M1 (1, d, c, 0) A) := fun q' h' => by
  rw [← h1 q' h']
  exact setA_ne (fun z => h' (by rw [z]))
theorem same1.s17 {M M' : Id4 → Int → Int} (h : same1 M M') : same17 M M' := fun q z => h q (fun y => z (Or.inl y))
theorem dfA_1 {S : Int → Int} {M : Id4 → Int → Int} {d : Int} : same1 M (dfA S M d) := (((same1.rf.up).up).up).up
theorem ct1_tightT (M : Id4 → Int → Int) (b9 : Bool) (S : Int → Int) (d : Int) (A1 : Int → Int) (hd : 0 ≤ d ∧ d < 2) (h : Ok S) (hA : Agr (S 1) A1 (lyS S)) : CtV 4 0 yX1_tighten cX1_tighten 2 none [aR (1, d, 0, 0)] (setA (dfA S M d) (1, d, 2, 0) A1, R0 b9) (fun σ' => ∃ M', σ' = (M', R0 b9) ∧ same1 M M' ∧ dfR S M' d) := by
  have hne : ((1, d, 0, 0) : Id4) ≠ (1, d, 2, 0) := fun z => by cases z
  obtain ⟨d0, d2, d3, d4⟩ := dfA_at (S := S) (M := M) (d := d)
  have hT := h.1
  have hE := h.2.1
  obtain ⟨T, eT⟩ : ∃ T : Nat, S 0 = (T : Int) := ⟨(S 0).toNat, by omega⟩
  obtain ⟨E, eE⟩ : ∃ E : Nat, S 1 = (E : Int) := ⟨(S 1).toNat, by omega⟩
  have tT : (S 0).toNat = T := by omega
  have hm := lyS_ok h
  have hs := lyS_sym h
  rw [tT] at hm hs d4
  rw [eE] at hs
  have hA' := hA
  rw [eE] at hA'
  refine (ct1_tighten (setA (dfA S M d) (1, d, 2, 0) A1) b9 T E d (lyS S) hd (by rw [setA_ne hne]; exact d0) (by rw [setA_ne hne]; exact d3.trans eT) (by rw [setA_ne hne]; exact d2.trans eE) (by rw [setA_ne hne]; exact d4) (by omega) (by omega) (by rw [setA_same]; exact hA') hm hs).mono (fun σ' hq => ?_)
  obtain ⟨k, A', hr, hg, hσ⟩ := hq
  obtain ⟨e1, e2⟩ := tg_agr h eT eE Agr.rf hr
  refine ⟨_, hσ, ((dfA_1.st).up).st, ?_, ?_, ?_⟩
  · rw [setA_ne hne, upd_same, e1]
  · rw [setA_ne hne, upd_ne (Or.inr (by decide)), setA_ne hne]; exact d2
  · rw [setA_same, eE]
    rw [eE] at e2
    exact hg.tr e2
/-- left alone by the differences -/
theorem ct7_findGood (M : Id4 → Int → Int) (b9 : Bool) (S : Int → Int) (p first : Int) (h01 : first = 0 ∨ first = 1) (hp : 0 ≤ p ∧ p < 13) (hR : plR M p S) (h : Ok S) : CtI 29 0 yX7_findGood cX7_findGood 3 (some .boolean) [aR (7, 0, 0, 0), aR (5, p, 0, 0), aI first] (M, R0 b9) (fun v σ' => v = b2i (¬ (goS S first).1 = -1) ∧ ∃ M', σ' = (M', R0 b9) ∧ same17 M M' ∧ stP S M' (goS S first)) := by
  refine CtI.mk (by decide +kernel) rfl (Nat.le_of_ble_eq_true rfl) (fun X K F hk => ?_)
  have hE := h.2.1
  have hT := h.1
  obtain ⟨E, eE⟩ : ∃ E : Nat, S 1 = (E : Int) := ⟨(S 1).toNat, by omega⟩
  have hm := tgS_ok h
  obtain ⟨M1, hM1⟩ : ∃ M1, M1 = updM (updM (updM (updM M (7, 0, 0, 0) 9 first) (7, 0, 0, 0) 7 (S 1)) (7, 0, 0, 0) 8 (S 0)) (7, 0, 0, 0) 0 1048576 := ⟨_, rfl⟩
  have f1 : same17 M M1 := by rw [hM1]; exact (((same17.rf.up scr17_7).up scr17_7).up scr17_7).up scr17_7
  have r1 := f1.pl hR
  have b0 : M1 (7, 0, 0, 0) 0 = 1048576 := by rw [hM1]; exact upd_same
  have b8 : M1 (7, 0, 0, 0) 8 = S 0 := by rw [hM1, upd_ne (Or.inr (by decide))]; exact upd_same
  have b7 : M1 (7, 0, 0, 0) 7 = S 1 := by rw [hM1, upd_ne (Or.inr (by decide)), upd_ne (Or.inr (by decide))]; exact upd_same
  have b9' : M1 (7, 0, 0, 0) 9 = first := by rw [hM1, upd_ne (Or.inr (by decide)), upd_ne (Or.inr (by decide)), upd_ne (Or.inr (by decide))]; exact upd_same
  have fin : ∀ (M' : Id4 → Int → Int) (st : StT), same17 M M' → stP S M' st → goS S first = st → AW X K 72 [aR (7, 0, 0, 0), aR (5, p, 0, 0), aI first] [] (M', R0 b9) 0 (EI X K 0 (fun v σ' => v = b2i (¬ (goS S first).1 = -1) ∧ ∃ M', σ' = (M', R0 b9) ∧ same17 M M' ∧ stP S M' (goS S first))) := by
    intro M' st hs hst hg
    rw [hg]
    obtain ⟨b1, b2, b3⟩ := id hst
    have hb := bst_bd b2
    have e0 : b2i (¬ st.1 = -1) = b2i (bst st < 1048576) := b2i_congr ⟨fun z => by have := hb.2.2.2 z; omega, fun z y => by have := hb.2.2.1 y; omega⟩
    refine aw_aload0 (pc := 72) F dX7_findGood_72 ?_
    refine aw_getI (pc := 73) F dX7_findGood_73 fl_7_12 rfl (by first | decide | (simp only [inB, cnt, rcnt]; omega)) rfl nz0 ?_
    refine aw_ldc (pc := 76) F dX7_findGood_76 kc_7_11 ?_
    refine aw_icmp_ge (tgt := 85) (pc := 78) F dX7_findGood_78 (by decide) (by unfold inR; omega) (by unfold inR; omega) (fun c78 => ?_) (fun c78 => ?_)
    · refine aw_iconst (pc := 85) F dX7_findGood_85 ?_
      exact aw_iret (pc := 86) F dX7_findGood_86 (nar_bool (by first | exact b2i_01 | decide)) (Nat.zero_le _) ⟨by first | exact e0.trans (b2i_pos (by omega)) | exact (e0.trans (b2i_pos (by omega))).symm | exact (e0.trans (b2i_neg (by omega))).symm, M', rfl, hs, hst⟩
    · refine aw_iconst (pc := 81) F dX7_findGood_81 ?_
      refine aw_goto (tgt := 86) (pc := 82) F dX7_findGood_82 (by decide) ?_
      exact aw_iret (pc := 86) F dX7_findGood_86 (nar_bool (by first | exact b2i_01 | decide)) (Nat.zero_le _) ⟨by first | exact e0.trans (b2i_pos (by omega)) | exact (e0.trans (b2i_pos (by omega))).symm | exact (e0.trans (b2i_neg (by omega))).symm, M', rfl, hs, hst⟩
  refine aw_aload0 (pc := 0) F dX7_findGood_0 ?_
  refine aw_iload2 (pc := 1) F dX7_findGood_1 ?_
  refine aw_putZ (pc := 2) F dX7_findGood_2 fl_7_47 fpz_7_9 rfl (by first | decide | (simp only [inB, cnt, rcnt]; omega)) rfl nz9 h01 ?_
  refine aw_aload0 (pc := 5) F dX7_findGood_5 ?_
  refine aw_aload1 (pc := 6) F dX7_findGood_6 ?_
  refine aw_getI (pc := 7) F dX7_findGood_7 fl_7_51 rfl (by first | decide | (simp only [inB, cnt, rcnt]; omega)) rfl nz1 ?_
  rw [show updM M (7, 0, 0, 0) 9 first (5, p, 0, 0) 1 = S 1 by rw [upd_off (by simp)]; exact hR.1.2.1]
  refine aw_putI (pc := 10) F dX7_findGood_10 fl_7_41 fpi_7_7 rfl (by first | decide | (simp only [inB, cnt, rcnt]; omega)) rfl nz7 ?_
  refine aw_aload0 (pc := 13) F dX7_findGood_13 ?_
  refine aw_aload1 (pc := 14) F dX7_findGood_14 ?_
  refine aw_getI (pc := 15) F dX7_findGood_15 fl_7_56 rfl (by first | decide | (simp only [inB, cnt, rcnt]; omega)) rfl nz0 ?_
  rw [show updM (updM M (7, 0, 0, 0) 9 first) (7, 0, 0, 0) 7 (S 1) (5, p, 0, 0) 0 = S 0 by rw [upd_off (by simp), upd_off (by simp)]; exact hR.1.1]
  refine aw_putI (pc := 18) F dX7_findGood_18 fl_7_44 fpi_7_8 rfl (by first | decide | (simp only [inB, cnt, rcnt]; omega)) rfl nz8 ?_
  refine aw_aload0 (pc := 21) F dX7_findGood_21 ?_
  refine aw_ldc (pc := 22) F dX7_findGood_22 kc_7_11 ?_
  refine aw_putI (pc := 24) F dX7_findGood_24 fl_7_12 fpi_7_0 rfl (by first | decide | (simp only [inB, cnt, rcnt]; omega)) rfl nz0 ?_
  rw [← hM1]
  refine aw_aload0 (pc := 27) F dX7_findGood_27 ?_
  refine aw_getR (pc := 28) F dX7_findGood_28 fl_7_23 rfl (by first | decide | (simp only [inB, cnt, rcnt]; omega)) rfl nz2 rfl ?_
  refine aw_aload1 (pc := 31) F dX7_findGood_31 ?_
  refine aw_callVV1 (pc := 32) F dX7_findGood_32 ml_7_57 rfl (by first | decide | (simp only [inB, cnt, rcnt]; omega)) (ct1_startFrom _ _ S _ _ hp (by decide) r1 h) (Nat.le_of_ble_eq_true rfl) (by decide) (Nat.zero_le _) (fun σ9 h9_32 => ?_)
  obtain ⟨A1, hg1, h9⟩ := h9_32
  subst h9
  refine aw_aload0 (pc := 35) F dX7_findGood_35 ?_
  refine aw_getR (pc := 36) F dX7_findGood_36 fl_7_23 rfl (by first | decide | (simp only [inB, cnt, rcnt]; omega)) rfl nz2 rfl ?_
  refine aw_callVV0 (pc := 39) F dX7_findGood_39 ml_7_61 rfl (by first | decide | (simp only [inB, cnt, rcnt]; omega)) (ct1_tightT _ _ S _ _ (by decide) h hg1) (Nat.le_of_ble_eq_true rfl) (by decide) (Nat.zero_le _) (fun σ8 h9_39 => ?_)
  obtain ⟨M2, h8, f2, hd2⟩ := h9_39
  subst h8
  have f3 := f1.tr f2.s17
  have f2b : ∀ k, M2 (7, 0, 0, 0) k = M1 (7, 0, 0, 0) k := fun k => by rw [f2 _ (by decide)]
  refine aw_aload0 (pc := 42) F dX7_findGood_42 ?_
  refine aw_getR (pc := 43) F dX7_findGood_43 fl_7_23 rfl (by first | decide | (simp only [inB, cnt, rcnt]; omega)) rfl nz2 rfl ?_
  refine aw_callVI0 (pc := 46) F dX7_findGood_46 ml_7_64 rfl (by first | decide | (simp only [inB, cnt, rcnt]; omega)) (ct1_hasEmptySet _ _ E _ (by decide) (hd2.2.1.trans eE) (by omega) (fun x y h1 h2 h3 h4 => by have z := (hm (6 * x + y) (by omega) (by omega)).1; rw [hd2.2.2 x y h1 (by omega) h3 (by omega)]; unfold inR; omega)) (Nat.le_of_ble_eq_true rfl) (by decide) (Nat.zero_le _) (fun v7 σ7 h9_46 => ?_)
  obtain ⟨hv, h7⟩ := h9_46
  subst h7
  rw [← eE, emp_agr hd2.2.2] at hv
  have hvb := isB_bd hv
  refine aw_if_ne (tgt := 72) (pc := 49) F dX7_findGood_49 (by decide) (by unfold inR; omega) (fun c49 => ?_) (fun c49 => ?_)
  · first | exact fin M2 (-1, fun _ => 0) f3 ⟨((f2b 0).trans b0).trans bst0.symm, Or.inl rfl, fun z => absurd rfl z⟩ (by unfold goS; rw [if_pos (hv.resolve_left (fun z => by have := z.1; omega)).2]) | exact fin M6 _ (f5.tr f6.s7.s17) hp6 (by unfold goS; rw [if_neg (hv.resolve_right (fun z => by have := z.1; omega)).2]; rfl)
  · refine aw_aload0 (pc := 52) F dX7_findGood_52 ?_
    refine aw_aload1 (pc := 53) F dX7_findGood_53 ?_
    refine aw_callVV1 (pc := 54) F dX7_findGood_54 ml_7_68 rfl (by first | decide | (simp only [inB, cnt, rcnt]; omega)) (ct7_priceDifferences _ _ S p hp (f3.pl hR) h ((f2b 8).trans b8) ((f2b 7).trans b7) hd2.2.2) (Nat.le_of_ble_eq_true rfl) (by decide) (Nat.zero_le _) (fun σ9 h9_54 => ?_)
    obtain ⟨M3, h9, f4, hp3⟩ := h9_54
    subst h9
    have f4b : ∀ k, M3 (7, 0, 0, 0) k = M1 (7, 0, 0, 0) k := fun k => by rw [f4 _ (by simp)]; exact f2b k
    refine aw_aload0 (pc := 57) F dX7_findGood_57 ?_
    refine aw_callVV0 (pc := 58) F dX7_findGood_58 ml_7_71 rfl (by first | decide | (simp only [inB, cnt, rcnt]; omega)) (ct7_sumLeastPrices _ _ S h ((f4b 8).trans b8) ((f4b 7).trans b7) hp3) (Nat.le_of_ble_eq_true rfl) (by decide) (Nat.zero_le _) (fun σ9 h9_58 => ?_)
    obtain ⟨A4, h9, hp4⟩ := h9_58
    subst h9
    refine aw_aload0 (pc := 61) F dX7_findGood_61 ?_
    refine aw_aload1 (pc := 62) F dX7_findGood_62 ?_
    refine aw_callVV1 (pc := 63) F dX7_findGood_63 ml_7_74 rfl (by first | decide | (simp only [inB, cnt, rcnt]; omega)) (ct7_holdFirstEvent _ _ S p hp (same17.pl (f3.tr (f4.s7.s17.st scr17_7)) hR) h (by rw [setA_ne (by decide)]; exact (f4b 8).trans b8) (by rw [setA_ne (by decide)]; exact (f4b 7).trans b7)) (Nat.le_of_ble_eq_true rfl) (by decide) (Nat.zero_le _) (fun σ9 h9_63 => ?_)
    obtain ⟨A5, h9, hp5⟩ := h9_63
    subst h9
    obtain ⟨M5, hM5⟩ : ∃ M5, M5 = setA (setA M3 (7, 0, 6, 0) A4) (7, 0, 15, 0) A5 := ⟨_, rfl⟩
    rw [← hM5]
    have f5b : ∀ k, M5 (7, 0, 0, 0) k = M1 (7, 0, 0, 0) k := fun k => by rw [hM5, setA_ne (by decide), setA_ne (by decide)]; exact f4b k
    have k5 : kR7 S first M5 := ⟨(f5b 7).trans b7, (f5b 8).trans b8, (f5b 9).trans b9', fun x y z q0 q1 q2 q3 q4 => by rw [hM5, setA_ne (by simp), setA_ne (by simp)]; exact hp3 x y z q0 q1 q2 q3 q4, fun x x0 x1 => by rw [hM5, setA_ne (by simp), setA_same]; exact hp4 x x0 x1⟩
    have f5 : same17 M M5 := by rw [hM5]; exact f3.tr ((f4.s7.s17.st scr17_7).st scr17_7)
    refine aw_aload0 (pc := 66) F dX7_findGood_66 ?_
    refine aw_iconst (pc := 67) F dX7_findGood_67 ?_
    refine aw_iconst (pc := 68) F dX7_findGood_68 ?_
    refine aw_callVV2 (pc := 69) F dX7_findGood_69 ml_7_77 rfl (by first | decide | (simp only [inB, cnt, rcnt]; omega)) ((ct7_place h b9 first h01 6 0 rfl).2 M5 (fun _ => 0) (-1, fun _ => 0) (by omega) k5 ⟨((f5b 0).trans b0).trans bst0.symm, Or.inl rfl, fun z => absurd rfl z⟩ (fun a a0 a1 => absurd a1 (by omega)) (fun b t q0 q1 q2 q3 => by
      rw [hM5]
      refine (congrFun setA_same _).trans ((hp5 b t (by omega) q1 q2 q3).trans ?_)
      unfold rwP
      exact (Int.add_zero _).symm) (by show (0 : Int) < bst _; rw [bst0]; decide) (Or.inl rfl)) (Nat.le_of_ble_eq_true rfl) (by decide) (Nat.zero_le _) (fun σ9 h9_69 => ?_)
    obtain ⟨M6, h9, f6, hp6⟩ := h9_69
    subst h9
    first | exact fin M2 (-1, fun _ => 0) f3 ⟨((f2b 0).trans b0).trans bst0.symm, Or.inl rfl, fun z => absurd rfl z⟩ (by unfold goS; rw [if_pos (hv.resolve_left (fun z => by have := z.1; omega)).2]) | exact fin M6 _ (f5.tr f6.s7.s17) hp6 (by unfold goS; rw [if_neg (hv.resolve_right (fun z => by have := z.1; omega)).2]; rfl)
