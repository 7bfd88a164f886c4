/-! 86: the class's load and find -/
def sameL (M M' : Id4 → Int → Int) : Prop := ∀ q, ¬ (q.1 = 6 ∨ q.1 = 3 ∨ (q.1 = 5 ∧ (q.2.1 = 2 ∨ q.2.1 = 0)) ∨ q = (8, 0, 0, 0) ∨ q = (2, 0, 0, 0)) → M' q = M q
/-- what load leaves of the class -/
def L8 (M : Id4 → Int → Int) (B S : Int → Int) (n : Int) : Int → Hp → Prop := fun v σ' => ∃ M', σ' = (M', R0 true) ∧ sameL M M' ∧ M' (8, 0, 0, 0) 1 = 0 ∧ NmB M' ∧ (((prsP B S n).1 = 0 ∧ v = (prsP B S n).2.2.1 20 ∧ plR M' 0 (prsP B S n).2.2.1 ∧ NmR M' 0 ((prsP B S n).2.2.1 1) (prsP B S n).2.2.1 ∧ M' (2, 0, 0, 0) 2 = 0 ∧ M' (2, 0, 0, 0) 1 = M (2, 0, 0, 0) 1 ∧ M' (6, 0, 0, 0) 2 = 0 ∧ M' (6, 0, 0, 0) 3 = -1) ∨ (¬ (prsP B S n).1 = 0 ∧ v = -3 ∧ (∀ q, ¬ (q.1 = 6 ∨ (q.1 = 3 ∧ q.2.1 = 1) ∨ (q.1 = 5 ∧ q.2.1 = 2)) → q ≠ (8, 0, 0, 0) → M' q = M q) ∧ M' (6, 0, 0, 0) 2 = (prsP B S n).1 ∧ M' (6, 0, 0, 0) 3 = (prsP B S n).2.1))
theorem cx8_load (M : Id4 → Int → Int) (b : Bool) (B S : Int → Int) (n bf : Int) (h1 : inR n) (hB : BC B M) (hy : BY B) (hb : NmB M) (hbf : M (8, 0, 0, 0) 1 = bf) (hbf2 : 0 ≤ bf ∧ bf ≤ 500) (hpv : (0 ≤ n ∧ n ≤ bf) → (prsP B S n).1 = 0 → Ok (prsP B S n).2.2.1) : CxI 13 1 yX8_load cX8_load 2 (some .int) [aR (8, 0, 0, 0), aI n] (M, R0 b) (fun v σ' => (0 ≤ n ∧ n ≤ bf) ∧ L8 M B S n v σ') (fun E σ' => E = eIA ∧ σ' = (M, R0 b) ∧ ¬ (0 ≤ n ∧ n ≤ bf)) := by
  refine CxI.mk (by decide +kernel) rfl (Nat.le_of_ble_eq_true rfl) (fun X K F hk => ?_)
  refine aw_iload1 (pc := 0) F dX8_load_0 ?_
  refine aw_iconst (pc := 1) F dX8_load_1 ?_
  refine aw_aload0 (pc := 2) F dX8_load_2 ?_
  refine aw_getI (pc := 3) F dX8_load_3 fl_8_13 rfl (by first | decide | (simp only [inB, cnt, rcnt]; omega)) rfl nz1 ?_
  refine aw_xcallSVI3 (pc := 6) F dX8_load_6 ml_8_80 (cx8_requireRange _ _ _ _ _ h1 (by unfold inR; decide) (by rw [hbf]; unfold inR; omega)) (Nat.le_of_ble_eq_true rfl) (by decide) (by decide) (fun _ _ h => ⟨h.1, h.2.1, by rw [hbf] at h; exact h.2.2⟩) (fun σ9 h9_6 => ?_)
  obtain ⟨rfl, q1, q2⟩ := h9_6
  refine aw_aload0 (pc := 9) F dX8_load_9 ?_
  refine aw_iconst (pc := 10) F dX8_load_10 ?_
  refine aw_putI (pc := 11) F dX8_load_11 fl_8_13 fpi_8_1 rfl (by first | decide | (simp only [inB, cnt, rcnt]; omega)) rfl nz1 ?_
  refine aw_aload0 (pc := 14) F dX8_load_14 ?_
  refine aw_getR (pc := 15) F dX8_load_15 fl_8_20 rfl (by first | decide | (simp only [inB, cnt, rcnt]; omega)) rfl nz2 rfl ?_
  refine aw_aload0 (pc := 18) F dX8_load_18 ?_
  refine aw_getR (pc := 19) F dX8_load_19 fl_8_9 rfl (by first | decide | (simp only [inB, cnt, rcnt]; omega)) rfl nz0 rfl ?_
  refine aw_iload1 (pc := 22) F dX8_load_22 ?_
  refine aw_callVI2 (pc := 23) F dX8_load_23 ml_8_84 rfl (by first | decide | (simp only [inB, cnt, rcnt]; omega)) (ct6_accepts _ b B S n (fun i i0 i1 => by rw [upd_off (by decide)]; exact hB i i0 i1) hy (by omega)) (Nat.le_of_ble_eq_true rfl) (by decide) (by decide) (fun v9 σ9 h9_23 => ?_)
  obtain ⟨M2, rfl, c1, c2⟩ := h9_23
  have s2 : ∀ q, ¬ (q.1 = 6 ∨ (q.1 = 3 ∧ q.2.1 = 1) ∨ (q.1 = 5 ∧ q.2.1 = 2)) → q ≠ (8, 0, 0, 0) → M2 q = M q := fun q z y => (c1.1 q z).trans (upd_off y)
  have b2 : M2 (8, 0, 0, 0) 1 = 0 := by rw [c1.1 _ (by decide), upd_same]
  have nb2 : NmB M2 := c1.2 (fun e k e0 e1 k0 k1 => by rw [upd_off (by simp)]; exact hb e k e0 e1 k0 k1)
  refine aw_if_ne (tgt := 32) (pc := 26) F dX8_load_26 (by decide) (by rcases c2 with z | z <;> rw [z.2.1] <;> (unfold inR; decide)) (fun c26 => ?_) (fun c26 => ?_)
  · obtain ⟨r1, r2, r3, r4, r5, r6⟩ := c2.resolve_right (fun z => by have := z.2.1; omega)
    have ok := hpv (by omega) r1
    have hE := ok.2.1
    refine aw_aload0 (pc := 32) F dX8_load_32 ?_
    refine aw_getR (pc := 33) F dX8_load_33 fl_8_34 rfl (by first | decide | (simp only [inB, cnt, rcnt]; omega)) rfl nz4 rfl ?_
    refine aw_aload0 (pc := 36) F dX8_load_36 ?_
    refine aw_getR (pc := 37) F dX8_load_37 fl_8_20 rfl (by first | decide | (simp only [inB, cnt, rcnt]; omega)) rfl nz2 rfl ?_
    refine aw_getR (pc := 40) F dX8_load_40 fl_8_88 rfl (by first | decide | (simp only [inB, cnt, rcnt]; omega)) rfl nz0 rfl ?_
    refine aw_callVV1 (pc := 43) F dX8_load_43 ml_8_89 rfl (by first | decide | (simp only [inB, cnt, rcnt]; omega)) (ct5_copyFrom _ _ 2 0 (by decide) (by decide) (by decide)) (Nat.le_of_ble_eq_true rfl) (by decide) (by decide) (fun σ9 h9_43 => ?_)
    obtain ⟨M3, rfl, d1, d2⟩ := h9_43
    have R3 := d2 _ ok r3
    have N3 : NmR M3 1 ((prsP B S n).2.2.1 1) (prsP B S n).2.2.1 := by
      obtain ⟨x, y⟩ := r4
      refine ⟨by rw [d1 _ (by simp)]; exact x, fun e e0 e1 => ?_⟩
      rw [d1 _ (by simp), d1 _ (by simp)]
      exact y e e0 e1
    have nb3 : NmB M3 := fun e k e0 e1 k0 k1 => by rw [d1 _ (by simp)]; exact nb2 e k e0 e1 k0 k1
    refine aw_aload0 (pc := 46) F dX8_load_46 ?_
    refine aw_getR (pc := 47) F dX8_load_47 fl_8_27 rfl (by first | decide | (simp only [inB, cnt, rcnt]; omega)) rfl nz3 rfl ?_
    refine aw_aload0 (pc := 50) F dX8_load_50 ?_
    refine aw_getR (pc := 51) F dX8_load_51 fl_8_20 rfl (by first | decide | (simp only [inB, cnt, rcnt]; omega)) rfl nz2 rfl ?_
    refine aw_getR (pc := 54) F dX8_load_54 fl_8_93 rfl (by first | decide | (simp only [inB, cnt, rcnt]; omega)) rfl nz1 rfl ?_
    refine aw_callVV1 (pc := 57) F dX8_load_57 ml_8_94 rfl (by first | decide | (simp only [inB, cnt, rcnt]; omega)) (ct3_copyFrom _ _ _ _ N3 nb3 hE) (Nat.le_of_ble_eq_true rfl) (by decide) (by decide) (fun σ9 h9_57 => ?_)
    obtain ⟨M4, rfl, d3, d4⟩ := h9_57
    refine aw_aload0 (pc := 60) F dX8_load_60 ?_
    refine aw_getR (pc := 61) F dX8_load_61 fl_8_44 rfl (by first | decide | (simp only [inB, cnt, rcnt]; omega)) rfl nz6 rfl ?_
    refine aw_callVV0 (pc := 64) F dX8_load_64 ml_8_97 rfl (by first | decide | (simp only [inB, cnt, rcnt]; omega)) (ct2_clear _ _) (Nat.le_of_ble_eq_true rfl) (by decide) (by decide) (fun σ9 h9_64 => ?_)
    obtain rfl := h9_64
    have R4 : plR M4 0 (prsP B S n).2.2.1 := pl_eq (fun c => d3 _ (by simp)) R3
    have o4 : ∀ k, M4 (6, 0, 0, 0) k = M2 (6, 0, 0, 0) k := fun k => by rw [d3 _ (by simp), d1 _ (by simp)]
    refine aw_aload0 (pc := 67) F dX8_load_67 ?_
    refine aw_getR (pc := 68) F dX8_load_68 fl_8_34 rfl (by first | decide | (simp only [inB, cnt, rcnt]; omega)) rfl nz4 rfl ?_
    refine aw_getI (pc := 71) F dX8_load_71 fl_8_100 rfl (by first | decide | (simp only [inB, cnt, rcnt]; omega)) rfl nz2 ?_
    exact aw_xiret (pc := 74) F dX8_load_74 rfl (by decide) ⟨⟨q1, by omega⟩, _, rfl, fun q z => by
      have z1 : q ≠ (2, 0, 0, 0) := fun y => z (Or.inr (Or.inr (Or.inr (Or.inr y))))
      have z2 : q ≠ (8, 0, 0, 0) := fun y => z (Or.inr (Or.inr (Or.inr (Or.inl y))))
      rw [upd_off z1, d3 _ (fun y => z (Or.inr (Or.inl y.1))), d1 _ (fun y => z (Or.inr (Or.inr (Or.inl ⟨y.1, Or.inr y.2⟩)))), s2 q (fun y => z (by
        rcases y with y | y | y
        · exact Or.inl y
        · exact Or.inr (Or.inl y.1)
        · exact Or.inr (Or.inr (Or.inl ⟨y.1, Or.inl y.2⟩)))) z2], by rw [upd_off (by decide), d3 _ (by decide), d1 _ (by decide), b2], fun e k e0 e1 k0 k1 => by
      rw [upd_off (by simp), d3 _ (by simp)]
      exact nb3 e k e0 e1 k0 k1, Or.inl ⟨r1, by rw [upd_off (by decide)]; exact R4.1.2.2, pl_eq (fun c => upd_off (by simp)) R4, by
        obtain ⟨x, y⟩ := d4
        refine ⟨by rw [upd_off (by decide)]; exact x, fun e e0 e1 => ?_⟩
        rw [upd_off (by simp), upd_off (by simp)]
        exact y e e0 e1, upd_same, by rw [upd_ne (Or.inr (by decide)), d3 _ (by decide), d1 _ (by decide), s2 _ (by decide) (by decide)], by rw [upd_off (by decide), o4, r5], by rw [upd_off (by decide), o4, r6]⟩⟩
  · refine aw_bipush (pc := 29) F dX8_load_29 (by decide) ?_
    exact aw_xiret (pc := 31) F dX8_load_31 rfl (by decide) ⟨⟨q1, by omega⟩, M2, rfl, fun q z => s2 q (fun y => z (by
      rcases y with y | y | y
      · exact Or.inl y
      · exact Or.inr (Or.inl y.1)
      · exact Or.inr (Or.inr (Or.inl ⟨y.1, Or.inl y.2⟩)))) (fun y => z (Or.inr (Or.inr (Or.inr (Or.inl y))))), b2, nb2, by
      obtain ⟨r1, r2, r3, r4⟩ := c2.resolve_left (fun z => by have := z.2.1; omega)
      exact Or.inr ⟨r1, rfl, s2, r3, r4⟩⟩