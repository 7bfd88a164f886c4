/-! 58: the class places the events, finds -/
/-- what the placing of the events from e on changes -/
def chP (e : Int) (M M' : Id4 → Int → Int) : Prop := ∀ q k, ¬ ((q = (7, 0, 0, 0) ∧ k = 0) ∨ q = (7, 0, 2, 0) ∨ (q = (7, 0, 7, 0) ∧ e ≤ k) ∨ (q.1 = 7 ∧ q.2.1 = 0 ∧ q.2.2.1 = 15 ∧ e < q.2.2.2)) → M' q k = M q k
theorem chP.rf {e : Int} {M : Id4 → Int → Int} : chP e M M := fun _ _ _ => rfl
theorem chP.tr {e : Int} {M M1 M2 : Id4 → Int → Int} (h1 : chP e M M1) (h2 : chP e M1 M2) : chP e M M2 := fun q k h => (h2 q k h).trans (h1 q k h)
theorem chP.lo {e e' : Int} {M M' : Id4 → Int → Int} (h : chP e' M M') (he : e ≤ e') : chP e M M' := fun q k z => h q k (fun y => z (by
  rcases y with y | y | y | y
  · exact Or.inl y
  · exact Or.inr (Or.inl y)
  · exact Or.inr (Or.inr (Or.inl ⟨y.1, by omega⟩))
  · exact Or.inr (Or.inr (Or.inr ⟨y.1, y.2.1, y.2.2.1, by omega⟩))))
theorem chP.b {e : Int} {M M1 : Id4 → Int → Int} {v : Int} (h1 : chP e M M1) : chP e M (updM M1 (7, 0, 0, 0) 0 v) := fun q k z => by
  rw [← h1 q k z]
  by_cases y : q = (7, 0, 0, 0)
  · exact upd_ne (Or.inr (fun w => z (Or.inl ⟨y, w⟩)))
  · exact upd_ne (Or.inl y)
theorem chP.t {e : Int} {M M1 : Id4 → Int → Int} {k0 v : Int} (h1 : chP e M M1) (hk : e ≤ k0) : chP e M (updM M1 (7, 0, 7, 0) k0 v) := fun q k z => by
  rw [← h1 q k z]
  by_cases y : q = (7, 0, 7, 0)
  · exact upd_ne (Or.inr (fun w => z (Or.inr (Or.inr (Or.inl ⟨y, by omega⟩)))))
  · exact upd_ne (Or.inl y)
theorem chP.cp {e : Int} {M M1 : Id4 → Int → Int} {q0 : Id4} {a c n : Int} (h1 : chP e M M1) : chP e M (cpyM M1 q0 a (7, 0, 2, 0) c n) := fun q k z => by
  rw [← h1 q k z]
  exact congrFun (cpy_off (fun w => z (Or.inr (Or.inl w)))) k
theorem chP.r {e r : Int} {M M1 : Id4 → Int → Int} {A : Int → Int} (h1 : chP e M M1) (hk : e < r) : chP e M (setA M1 (7, 0, 15, r) A) := fun q k z => by
  rw [← h1 q k z]
  exact congrFun (setA_ne (fun w => z (Or.inr (Or.inr (Or.inr (by rw [w]; exact ⟨rfl, rfl, rfl, hk⟩)))))) k
theorem chP.s7 {e : Int} {M M' : Id4 → Int → Int} (h : chP e M M') : same7 M M' := fun q z => funext fun k => h q k (fun y => z (by
  rcases y with y | y | y | y
  · rw [y.1]
  · rw [y]
  · rw [y.1]
  · exact y.1))
def bst (st : StT) : Int := if st.1 = -1 then 1048576 else st.1
def stP (S : Int → Int) (M : Id4 → Int → Int) (st : StT) : Prop := M (7, 0, 0, 0) 0 = bst st ∧ stB st ∧ (st.1 ≠ -1 → ∀ a, 0 ≤ a → a < S 1 → M (7, 0, 2, 0) a = st.2 a)
def kR7 (S : Int → Int) (first : Int) (M : Id4 → Int → Int) : Prop := M (7, 0, 0, 0) 7 = S 1 ∧ M (7, 0, 0, 0) 8 = S 0 ∧ M (7, 0, 0, 0) 9 = first ∧ prR S (S 20).toNat M ∧ ∀ x, 0 ≤ x → x < S 1 → M (7, 0, 6, 0) x = laP S x
theorem kR7.ch {S : Int → Int} {first e : Int} {M M' : Id4 → Int → Int} (hk : kR7 S first M) (h : chP e M M') : kR7 S first M' := by
  obtain ⟨a, b, c, d, g⟩ := hk
  refine ⟨by rw [h _ _ (by simp)]; exact a, by rw [h _ _ (by simp)]; exact b, by rw [h _ _ (by simp)]; exact c, fun x y z q0 q1 q2 q3 q4 => by rw [h _ _ (by simp)]; exact d x y z q0 q1 q2 q3 q4, fun x x0 x1 => by rw [h _ _ (by simp)]; exact g x x0 x1⟩
theorem bst_bd {st : StT} (h : stB st) : 0 ≤ bst st ∧ bst st ≤ 1048576 ∧ (st.1 = -1 → bst st = 1048576) ∧ (st.1 ≠ -1 → bst st = st.1 ∧ st.1 ≤ 40000) := by
  unfold stB at h
  unfold bst
  by_cases z : st.1 = -1
  · rw [if_pos z]; exact ⟨by decide, by decide, fun _ => rfl, fun y => absurd z y⟩
  · rw [if_neg z]; exact ⟨by omega, by omega, fun y => absurd y z, fun _ => ⟨rfl, by omega⟩⟩
theorem srP_agr {S tau tau' : Int → Int} {e : Nat} (h1 : ∀ a, 0 ≤ a → a < (e : Int) → tau' a = tau a) : srP S tau' e = srP S tau e := by
  unfold srP
  refine sumI_congr _ (fun k k0 k1 => ?_)
  unfold mrP
  congr 1
  exact mnN_congr _ (fun i i0 i1 => rwP_agr h1)
theorem stP_row {S : Int → Int} {M : Id4 → Int → Int} {st : StT} {r : Int} {A : Int → Int} (h : stP S M st) : stP S (setA M (7, 0, 15, r) A) st := by
  obtain ⟨a, b, c⟩ := h
  exact ⟨by rw [setA_ne (by simp)]; exact a, b, fun z x x0 x1 => by rw [setA_ne (by simp)]; exact c z x x0 x1⟩
theorem stP_tr {S : Int → Int} {M : Id4 → Int → Int} {st : StT} {k v : Int} (h : stP S M st) : stP S (updM M (7, 0, 7, 0) k v) st := by
  obtain ⟨a, b, c⟩ := h
  exact ⟨by rw [upd_off (by decide)]; exact a, b, fun z x x0 x1 => by rw [upd_off (by decide)]; exact c z x x0 x1⟩
/-- left out, nothing is lost -/
theorem ful_out {S tau : Int → Int} (h : Ok S) {first : Int} {st : StT} (hst : stB st) {j e : Nat} {x : Int} (hj : (e : Int) + j = S 1) (hn : ¬ (x < bst st ∧ (bst st = 1048576 ∨ first = 0))) (hx : ∀ tau', (∀ a, 0 ≤ a → a < (e : Int) → tau' a = tau a) → (∀ a, (e : Int) ≤ a → a < S 1 → 0 ≤ tau' a ∧ tau' a < S 0) → VAL S tau' → x ≤ CT S tau') : ful S first j e tau st = st := by
  have hb := bst_bd hst
  refine ful_id j e tau (fun tau' h1 h2 hv hw => ?_)
  have h3 := hx tau' h1 (fun a a0 a1 => h2 a a0 (by omega)) hv
  have h4 := CT_lt h (tau := tau')
  unfold wnt at hw
  by_cases z : st.1 = -1
  · have := hb.2.2.1 z
    exact hn ⟨by omega, Or.inl this⟩
  · have h5 := hb.2.2.2 z
    rcases hw with hw | hw
    · exact z hw
    · exact hn ⟨by omega, Or.inr hw.1⟩
theorem ct7_place {S : Int → Int} (h : Ok S) (b : Bool) (first : Int) (h01 : first = 0 ∨ first = 1) : ∀ (f e : Nat), e + f = 6 → (∀ (M : Id4 → Int → Int) (tau : Int → Int) (st : StT) (t : Int), (e : Int) < S 1 → kR7 S first M → stP S M st → (∀ a, 0 ≤ a → a < (e : Int) → M (7, 0, 7, 0) a = tau a ∧ 0 ≤ tau a ∧ tau a < S 0) → RW9 S tau e M → 0 ≤ t ∧ t < S 0 → CtV (15 + 2 * f) 0 yX7_placeAt cX7_placeAt 4 none [aR (7, 0, 0, 0), aI e, aI t, aI (kP S (upS tau e t) (e + 1))] (M, R0 b) (fun σ' => ∃ M', σ' = (M', R0 b) ∧ chP e M M' ∧ stP S M' (ful S first ((S 1).toNat - (e + 1)) (e + 1) (upS tau e t) st))) ∧ (∀ (M : Id4 → Int → Int) (tau : Int → Int) (st : StT), (e : Int) ≤ S 1 → kR7 S first M → stP S M st → (∀ a, 0 ≤ a → a < (e : Int) → M (7, 0, 7, 0) a = tau a ∧ 0 ≤ tau a ∧ tau a < S 0) → RW9 S tau e M → kP S tau e < bst st → (st.1 = -1 ∨ first = 0) → CtV (16 + 2 * f) 0 yX7_placeFrom cX7_placeFrom 4 none [aR (7, 0, 0, 0), aI e, aI (kP S tau e)] (M, R0 b) (fun σ' => ∃ M', σ' = (M', R0 b) ∧ chP e M M' ∧ stP S M' (ful S first ((S 1).toNat - e) e tau st))) := by
  have hE := h.2.1
  have hT := h.1
  have leaf : ∀ (e : Nat) (M : Id4 → Int → Int) (tau : Int → Int) (st : StT), (e : Int) = S 1 → stP S M st → (∀ a, 0 ≤ a → a < (e : Int) → M (7, 0, 7, 0) a = tau a ∧ 0 ≤ tau a ∧ tau a < S 0) → kP S tau e < bst st → (st.1 = -1 ∨ first = 0) → stP S (cpyM (updM M (7, 0, 0, 0) 0 (kP S tau e)) (7, 0, 7, 0) 0 (7, 0, 2, 0) 0 e) (ful S first ((S 1).toNat - e) e tau st) := by
    intro e M tau st he hst htr hlt hw
    have hb := bst_bd hst.2.1
    have e1 : (S 1).toNat = e := by omega
    have kl := kP_leaf (tau := tau) h (by rw [e1]; omega)
    rw [e1] at kl
    have hup : ful S first ((S 1).toNat - e) e tau st = (kP S tau e, tau) := by
      rw [e1, Nat.sub_self]
      show updT S first tau st = _
      unfold updT
      rw [if_pos, kl.2]
      refine ⟨kl.1, ?_⟩
      unfold wnt
      by_cases z : st.1 = -1
      · exact Or.inl z
      · have := hb.2.2.2 z
        exact Or.inr ⟨hw.resolve_left z, by omega⟩
    rw [hup]
    have h0 := kP_nn h (tau := tau) e
    have h9 := cPar_bd h (tau := tau) (S 1).toNat
    have h8 : CT S tau = cPar S tau (S 1).toNat := rfl
    refine ⟨?_, Or.inr (by dsimp only; omega), fun _ a a0 a1 => ?_⟩
    · rw [cpy_off (by decide), upd_same]
      unfold bst
      dsimp only
      rw [if_neg (by omega)]
    · rw [cpy_at ⟨a0, by omega⟩, upd_off (by decide)]
      exact (htr a a0 (by omega)).1
  intro f
  induction f with
  | zero =>
    intro e hf
    refine ⟨fun M tau st t he => absurd he (by omega), fun M tau st he hc hst htr hrw hlt hw => ?_⟩
    have lf := leaf e M tau st (by omega) hst htr hlt hw
    have k1 := hc.1
    have kb := kP_bd h (tau := tau) e (by omega)
    refine CtV.mk (by decide +kernel) rfl (Nat.le_of_ble_eq_true rfl) (fun X K F hk => ?_)
    refine aw_iload1 (pc := 0) F dX7_placeFrom_0 ?_
    refine aw_aload0 (pc := 1) F dX7_placeFrom_1 ?_
    refine aw_getI (pc := 2) F dX7_placeFrom_2 fl_7_41 rfl (by first | decide | (simp only [inB, cnt, rcnt]; omega)) rfl nz7 ?_
    refine aw_icmp_ge (tgt := 14) (pc := 5) F dX7_placeFrom_5 (by decide) (by unfold inR; omega) (by unfold inR; omega) (fun c5 => ?_) (fun c5 => ?_)
    · refine aw_aload0 (pc := 14) F dX7_placeFrom_14 ?_
      refine aw_iload2 (pc := 15) F dX7_placeFrom_15 ?_
      refine aw_putI (pc := 16) F dX7_placeFrom_16 fl_7_12 fpi_7_0 rfl (by first | decide | (simp only [inB, cnt, rcnt]; omega)) rfl nz0 ?_
      refine aw_aload0 (pc := 19) F dX7_placeFrom_19 ?_
      refine aw_getR (pc := 20) F dX7_placeFrom_20 fl_7_38 rfl (by first | decide | (simp only [inB, cnt, rcnt]; omega)) rfl nz6 rfl ?_
      refine aw_iconst (pc := 23) F dX7_placeFrom_23 ?_
      refine aw_aload0 (pc := 24) F dX7_placeFrom_24 ?_
      refine aw_getR (pc := 25) F dX7_placeFrom_25 fl_7_16 rfl (by first | decide | (simp only [inB, cnt, rcnt]; omega)) rfl nz1 rfl ?_
      refine aw_iconst (pc := 28) F dX7_placeFrom_28 ?_
      refine aw_aload0 (pc := 29) F dX7_placeFrom_29 ?_
      refine aw_getI (pc := 30) F dX7_placeFrom_30 fl_7_41 rfl (by first | decide | (simp only [inB, cnt, rcnt]; omega)) rfl nz7 ?_
      rw [show updM M (7, 0, 0, 0) 0 (kP S tau e) (7, 0, 0, 0) 7 = (e : Int) by rw [upd_ne (Or.inr (by decide))]; omega]
      refine aw_copy (pc := 33) F dX7_placeFrom_33 mc_7_120 rfl rfl (by first | decide | omega) (by first | decide | (simp only [inB, cnt, rcnt]; omega)) (by first | decide | (simp only [inB, cnt, rcnt]; omega)) (by omega) (by omega) (by omega) (fun _ _ _ => rfl) (Nat.le_of_ble_eq_true rfl) (by first | decide | omega) ?_
      exact aw_vret (pc := 36) F dX7_placeFrom_36 (Nat.zero_le _) ⟨_, rfl, chP.rf.b.cp, lf⟩
    · omega
  | succ f ih =>
    intro e hf
    have PA : ∀ (M : Id4 → Int → Int) (tau : Int → Int) (st : StT) (t : Int), (e : Int) < S 1 → kR7 S first M → stP S M st → (∀ a, 0 ≤ a → a < (e : Int) → M (7, 0, 7, 0) a = tau a ∧ 0 ≤ tau a ∧ tau a < S 0) → RW9 S tau e M → 0 ≤ t ∧ t < S 0 → CtV (15 + 2 * (f + 1)) 0 yX7_placeAt cX7_placeAt 4 none [aR (7, 0, 0, 0), aI e, aI t, aI (kP S (upS tau e t) (e + 1))] (M, R0 b) (fun σ' => ∃ M', σ' = (M', R0 b) ∧ chP e M M' ∧ stP S M' (ful S first ((S 1).toNat - (e + 1)) (e + 1) (upS tau e t) st)) := by
      intro M tau st t he hc hst htr hrw ht
      have hb := bst_bd hst.2.1
      have k9 := hc.2.2.1
      have k0 := hst.1
      have kb := kP_bd h (tau := upS tau e t) (e + 1) (by omega)
      have lb := laP_bd h (e := e)
      have sb := srP_bd h (tau := upS tau e t) (e := e + 1)
      have tr2 : ∀ (A : Int → Int) (a : Int), 0 ≤ a → a < ((e + 1 : Nat) : Int) → updM (setA M (7, 0, 15, ((e + 1 : Nat) : Int)) A) (7, 0, 7, 0) e t (7, 0, 7, 0) a = upS tau e t a ∧ 0 ≤ upS tau e t a ∧ upS tau e t a < S 0 := fun A a a0 q => by
        by_cases z : a = e
        · rw [z, upd_same, upS_same]; exact ⟨rfl, ht⟩
        · rw [upd_ne (Or.inr z), upS_ne z, setA_ne (by simp)]; exact htr a a0 (by omega)
      have out1 : ¬ (kP S (upS tau e t) (e + 1) < bst st ∧ (bst st = 1048576 ∨ first = 0)) → stP S M (ful S first ((S 1).toNat - (e + 1)) (e + 1) (upS tau e t) st) := fun z => by
        rw [ful_out h hst.2.1 (by omega) z (fun tau' h1 h2 hv => by
          have e2 := kP_agr (S := S) (e + 1) h1
          rw [← kP_CT h hv, ← e2]
          exact kP_mono h _ (by omega))]
        exact hst
      have out2 : ¬ (kP S (upS tau e t) (e + 1) + (laP S e + srP S (upS tau e t) (e + 1)) < bst st ∧ (bst st = 1048576 ∨ first = 0)) → stP S M (ful S first ((S 1).toNat - (e + 1)) (e + 1) (upS tau e t) st) := fun z => by
        rw [ful_out h hst.2.1 (by omega) z (fun tau' h1 h2 hv => by
          have e2 := kP_agr (S := S) (e + 1) h1
          have e3 := srP_agr (S := S) (e := e + 1) h1
          have e4 := kP_low h (tau := tau') (e := e + 1) (by omega) h2
          rw [← kP_CT h hv, ← e2, ← e3]
          have e5 : ((e + 1 : Nat) : Int) - 1 = e := by omega
          rw [e5] at e4
          omega)]
        exact hst
      refine CtV.mk (by decide +kernel) rfl (Nat.le_of_ble_eq_true rfl) (fun X K F hk => ?_)
      refine aw_aload0 (pc := 0) F dX7_placeAt_0 ?_
      refine aw_iload3 (pc := 1) F dX7_placeAt_1 ?_
      refine aw_pcallV1 (pc := 2) F dX7_placeAt_2 ml_7_130 rfl (by first | decide | (simp only [inB, cnt, rcnt]; omega)) (ct7_canGetBest _ _ _ (bst st) first (by unfold inR; omega) (by unfold inR; omega) h01 k0 k9) (Nat.le_of_ble_eq_true rfl) (by omega) (Nat.zero_le _) ?_
      refine aw_ifb_eq (tgt := 38) (pc := 5) F dX7_placeAt_5 (by decide) (fun c5 => ?_) (fun c5 => ?_)
      · exact aw_vret (pc := 38) F dX7_placeAt_38 (Nat.zero_le _) (by first | exact ⟨_, rfl, chP.rf, out1 c5⟩ | exact ⟨_, rfl, chP.rf.r (by omega), stP_row (out2 c20)⟩ | exact ⟨M2, rfl, ((chP.rf.r (show (e : Int) < ((e + 1 : Nat) : Int) by omega)).t (Int.le_refl _)).tr (d1.lo (by omega)), d2⟩)
      · refine aw_aload0 (pc := 8) F dX7_placeAt_8 ?_
        refine aw_iload3 (pc := 9) F dX7_placeAt_9 ?_
        refine aw_aload0 (pc := 10) F dX7_placeAt_10 ?_
        refine aw_iload1 (pc := 11) F dX7_placeAt_11 ?_
        refine aw_iload2 (pc := 12) F dX7_placeAt_12 ?_
        refine aw_callVI2 (pc := 13) F dX7_placeAt_13 ml_7_134 rfl (by first | decide | (simp only [inB, cnt, rcnt]; omega)) (ct7_priceBehind _ _ S tau e t h hc.2.1 hc.1 he ht hc.2.2.2.1 hc.2.2.2.2 hrw) (Nat.le_of_ble_eq_true rfl) (by omega) (Nat.zero_le _) (fun v9 σ9 h9_13 => ?_)
        obtain ⟨rfl, A, rfl, hrw2⟩ := h9_13
        refine aw_iadd (pc := 16) F dX7_placeAt_16 ?_
        refine aw_pcallV1 (pc := 17) F dX7_placeAt_17 ml_7_130 rfl (by first | decide | (simp only [inB, cnt, rcnt]; omega)) (ct7_canGetBest _ _ _ (bst st) first (by unfold inR; omega) (by unfold inR; omega) h01 (by rw [setA_ne (by simp)]; exact k0) (by rw [setA_ne (by simp)]; exact k9)) (Nat.le_of_ble_eq_true rfl) (by omega) (Nat.zero_le _) ?_
        refine aw_ifb_eq (tgt := 38) (pc := 20) F dX7_placeAt_20 (by decide) (fun c20 => ?_) (fun c20 => ?_)
        · exact aw_vret (pc := 38) F dX7_placeAt_38 (Nat.zero_le _) (by first | exact ⟨_, rfl, chP.rf, out1 c5⟩ | exact ⟨_, rfl, chP.rf.r (by omega), stP_row (out2 c20)⟩ | exact ⟨M2, rfl, ((chP.rf.r (show (e : Int) < ((e + 1 : Nat) : Int) by omega)).t (Int.le_refl _)).tr (d1.lo (by omega)), d2⟩)
        · refine aw_aload0 (pc := 23) F dX7_placeAt_23 ?_
          refine aw_getR (pc := 24) F dX7_placeAt_24 fl_7_38 rfl (by first | decide | (simp only [inB, cnt, rcnt]; omega)) rfl nz6 rfl ?_
          refine aw_iload1 (pc := 27) F dX7_placeAt_27 ?_
          refine aw_iload2 (pc := 28) F dX7_placeAt_28 ?_
          refine aw_iast (pc := 29) F dX7_placeAt_29 rfl (by first | decide | (simp only [inB, cnt, rcnt]; omega)) (by omega) ?_
          refine aw_aload0 (pc := 30) F dX7_placeAt_30 ?_
          refine aw_iload1 (pc := 31) F dX7_placeAt_31 ?_
          refine aw_iconst (pc := 32) F dX7_placeAt_32 ?_
          refine aw_iadd (pc := 33) F dX7_placeAt_33 ?_
          rw [show (e : Int) + 1 = ((e + 1 : Nat) : Int) by omega]
          refine aw_iload3 (pc := 34) F dX7_placeAt_34 ?_
          have cz : kP S (upS tau e t) (e + 1) < bst st ∧ (bst st = 1048576 ∨ first = 0) := c5
          refine aw_callVV2 (pc := 35) F dX7_placeAt_35 ml_7_77 rfl (by first | decide | (simp only [inB, cnt, rcnt]; omega)) ((ih (e + 1) (by omega)).2 _ (upS tau e t) st (by omega) (kR7.ch hc ((chP.rf.r (show (e : Int) < ((e + 1 : Nat) : Int) by omega)).t (Int.le_refl _))) (stP_tr (stP_row hst)) (tr2 A) (by
            intro y t' q0 q1 q2 q3
            rw [upd_off (by simp)]
            exact hrw2 y t' q0 q1 q2 q3) cz.1 (cz.2.imp (fun y => Classical.byContradiction fun w => by have := hb.2.2.2 w; omega) id)) (Nat.le_of_ble_eq_true rfl) (by omega) (Nat.zero_le _) (fun σ9 h9_35 => ?_)
          obtain ⟨M2, h9, d1, d2⟩ := h9_35
          subst h9
          exact aw_vret (pc := 38) F dX7_placeAt_38 (Nat.zero_le _) (by first | exact ⟨_, rfl, chP.rf, out1 c5⟩ | exact ⟨_, rfl, chP.rf.r (by omega), stP_row (out2 c20)⟩ | exact ⟨M2, rfl, ((chP.rf.r (show (e : Int) < ((e + 1 : Nat) : Int) by omega)).t (Int.le_refl _)).tr (d1.lo (by omega)), d2⟩)
    refine ⟨PA, fun M tau st he hc hst htr hrw hlt hw => ?_⟩
    have kb := kP_bd h (tau := tau) e (by omega)
    by_cases ee : (e : Int) = S 1
    · have lf := leaf e M tau st ee hst htr hlt hw
      have k1 := hc.1
      refine CtV.mk (by decide +kernel) rfl (Nat.le_of_ble_eq_true rfl) (fun X K F hk => ?_)
      refine aw_iload1 (pc := 0) F dX7_placeFrom_0 ?_
      refine aw_aload0 (pc := 1) F dX7_placeFrom_1 ?_
      refine aw_getI (pc := 2) F dX7_placeFrom_2 fl_7_41 rfl (by first | decide | (simp only [inB, cnt, rcnt]; omega)) rfl nz7 ?_
      refine aw_icmp_ge (tgt := 14) (pc := 5) F dX7_placeFrom_5 (by decide) (by unfold inR; omega) (by unfold inR; omega) (fun c5 => ?_) (fun c5 => ?_)
      · refine aw_aload0 (pc := 14) F dX7_placeFrom_14 ?_
        refine aw_iload2 (pc := 15) F dX7_placeFrom_15 ?_
        refine aw_putI (pc := 16) F dX7_placeFrom_16 fl_7_12 fpi_7_0 rfl (by first | decide | (simp only [inB, cnt, rcnt]; omega)) rfl nz0 ?_
        refine aw_aload0 (pc := 19) F dX7_placeFrom_19 ?_
        refine aw_getR (pc := 20) F dX7_placeFrom_20 fl_7_38 rfl (by first | decide | (simp only [inB, cnt, rcnt]; omega)) rfl nz6 rfl ?_
        refine aw_iconst (pc := 23) F dX7_placeFrom_23 ?_
        refine aw_aload0 (pc := 24) F dX7_placeFrom_24 ?_
        refine aw_getR (pc := 25) F dX7_placeFrom_25 fl_7_16 rfl (by first | decide | (simp only [inB, cnt, rcnt]; omega)) rfl nz1 rfl ?_
        refine aw_iconst (pc := 28) F dX7_placeFrom_28 ?_
        refine aw_aload0 (pc := 29) F dX7_placeFrom_29 ?_
        refine aw_getI (pc := 30) F dX7_placeFrom_30 fl_7_41 rfl (by first | decide | (simp only [inB, cnt, rcnt]; omega)) rfl nz7 ?_
        rw [show updM M (7, 0, 0, 0) 0 (kP S tau e) (7, 0, 0, 0) 7 = (e : Int) by rw [upd_ne (Or.inr (by decide))]; omega]
        refine aw_copy (pc := 33) F dX7_placeFrom_33 mc_7_120 rfl rfl (by first | decide | omega) (by first | decide | (simp only [inB, cnt, rcnt]; omega)) (by first | decide | (simp only [inB, cnt, rcnt]; omega)) (by omega) (by omega) (by omega) (fun _ _ _ => rfl) (Nat.le_of_ble_eq_true rfl) (by first | decide | omega) ?_
        exact aw_vret (pc := 36) F dX7_placeFrom_36 (Nat.zero_le _) ⟨_, rfl, chP.rf.b.cp, lf⟩
      · omega
    · refine CtV.mk (by decide +kernel) rfl (Nat.le_of_ble_eq_true rfl) (fun X K F hk => ?_)
      obtain ⟨Q9, hQ⟩ : ∃ Q9, Q9 = EV X K 0 (fun σ' => ∃ M', σ' = (M', R0 b) ∧ chP e M M' ∧ stP S M' (ful S first ((S 1).toNat - e) e tau st)) := ⟨_, rfl⟩
      obtain ⟨j, hj⟩ : ∃ j, j = (S 1).toNat - (e + 1) := ⟨_, rfl⟩
      have ej : (S 1).toNat - e = j + 1 := by omega
      have k1 := hc.1
      have loop : ∀ (j2 t : Nat) (M' : Id4 → Int → Int), (t : Int) + j2 = S 0 → chP e M M' → stP S M' (flT (fun t st => ful S first j (e + 1) (upS tau e t) st) t st) → AW X K 39 [aR (7, 0, 0, 0), aI e, aI (kP S tau e), aI t] [] (M', R0 b) 0 Q9 := by
        intro j2
        induction j2 with
        | zero =>
          intro t M' ht a1 a2
          have c8 := (kR7.ch hc a1).2.1
          have et : (S 0).toNat = t := by omega
          refine aw_iload3 (pc := 39) F dX7_placeFrom_39 ?_
          refine aw_aload0 (pc := 40) F dX7_placeFrom_40 ?_
          refine aw_getI (pc := 41) F dX7_placeFrom_41 fl_7_44 rfl (by first | decide | (simp only [inB, cnt, rcnt]; omega)) rfl nz8 ?_
          refine aw_icmp_ge (tgt := 74) (pc := 44) F dX7_placeFrom_44 (by decide) (by unfold inR; omega) (by unfold inR; omega) (fun c44 => ?_) (fun c44 => ?_)
          · rw [hQ]
            exact aw_vret (pc := 74) F dX7_placeFrom_74 (Nat.zero_le _) ⟨M', rfl, a1, by rw [ej, ful_s, et]; exact a2⟩
          · omega
        | succ j2 ih2 =>
          intro t M' ht a1 a2
          have c' := kR7.ch hc a1
          have c8 := c'.2.1
          have nxt : flT (fun t st => ful S first j (e + 1) (upS tau e t) st) (t + 1) st = ful S first j (e + 1) (upS tau e t) (flT (fun t st => ful S first j (e + 1) (upS tau e t) st) t st) := rfl
          have rw' : RW9 S tau e M' := fun y t' q0 q1 q2 q3 => by rw [a1 _ _ (by simp)]; exact hrw y t' q0 q1 q2 q3
          have tr' : ∀ a, 0 ≤ a → a < (e : Int) → M' (7, 0, 7, 0) a = tau a ∧ 0 ≤ tau a ∧ tau a < S 0 := fun a a0 q => by rw [a1 _ _ (by simp; omega)]; exact htr a a0 q
          have ek : kP S tau e + rwP S tau e e t = kP S (upS tau e t) (e + 1) := by
            show _ = kP S (upS tau e t) e + lvP S (upS tau e t) e
            unfold lvP
            rw [upS_same, Int.toNat_natCast, kP_agr e (fun a a0 q => upS_ne (by omega)), rwP_agr (fun a a0 q => upS_ne (by omega))]
          refine aw_iload3 (pc := 39) F dX7_placeFrom_39 ?_
          refine aw_aload0 (pc := 40) F dX7_placeFrom_40 ?_
          refine aw_getI (pc := 41) F dX7_placeFrom_41 fl_7_44 rfl (by first | decide | (simp only [inB, cnt, rcnt]; omega)) rfl nz8 ?_
          refine aw_icmp_ge (tgt := 74) (pc := 44) F dX7_placeFrom_44 (by decide) (by unfold inR; omega) (by unfold inR; omega) (fun c44 => ?_) (fun c44 => ?_)
          · omega
          · refine aw_aload0 (pc := 47) F dX7_placeFrom_47 ?_
            refine aw_iload1 (pc := 48) F dX7_placeFrom_48 ?_
            refine aw_iload3 (pc := 49) F dX7_placeFrom_49 ?_
            refine aw_iload2 (pc := 50) F dX7_placeFrom_50 ?_
            refine aw_aload0 (pc := 51) F dX7_placeFrom_51 ?_
            refine aw_getR (pc := 52) F dX7_placeFrom_52 fl_7_32 rfl (by first | decide | (simp only [inB, cnt, rcnt]; omega)) rfl nz4 rfl ?_
            refine aw_iload1 (pc := 55) F dX7_placeFrom_55 ?_
            refine aw_aald (pc := 56) F dX7_placeFrom_56 rfl (by decide) (by first | decide | (simp only [inB, cnt, rcnt]; omega)) (by omega) rfl ?_
            refine aw_iload1 (pc := 57) F dX7_placeFrom_57 ?_
            refine aw_bipush (pc := 58) F dX7_placeFrom_58 (by decide) ?_
            refine aw_imul (pc := 60) F dX7_placeFrom_60 ?_
            refine aw_iload3 (pc := 61) F dX7_placeFrom_61 ?_
            refine aw_iadd (pc := 62) F dX7_placeFrom_62 ?_
            rw [show (e : Int) * 24 + t = 24 * (e : Int) + t by omega]
            refine aw_iald (pc := 63) F dX7_placeFrom_63 rfl (by first | decide | (simp only [inB, cnt, rcnt]; omega)) (by omega) ?_
            rw [rw' e t (by omega) (by omega) (by omega) (by omega)]
            refine aw_iadd (pc := 64) F dX7_placeFrom_64 ?_
            rw [ek]
            refine aw_callVV3 (pc := 65) F dX7_placeFrom_65 ml_7_126 rfl (by first | decide | (simp only [inB, cnt, rcnt]; omega)) (PA M' tau _ t (by omega) c' a2 tr' rw' (by omega)) (Nat.le_of_ble_eq_true rfl) (by omega) (Nat.zero_le _) (fun σ9 h9_65 => ?_)
            obtain ⟨M2, h9, d1, d2⟩ := h9_65
            subst h9
            rw [← hj, ← nxt] at d2
            refine aw_iinc3 (pc := 68) F dX7_placeFrom_68 rfl hk.symm ?_
            refine aw_goto (tgt := 39) (pc := 71) F dX7_placeFrom_71 (by decide) ?_
            exact ih2 (t + 1) M2 (by omega) (a1.tr d1) d2
      refine aw_iload1 (pc := 0) F dX7_placeFrom_0 ?_
      refine aw_aload0 (pc := 1) F dX7_placeFrom_1 ?_
      refine aw_getI (pc := 2) F dX7_placeFrom_2 fl_7_41 rfl (by first | decide | (simp only [inB, cnt, rcnt]; omega)) rfl nz7 ?_
      refine aw_icmp_ge (tgt := 14) (pc := 5) F dX7_placeFrom_5 (by decide) (by unfold inR; omega) (by unfold inR; omega) (fun c5 => ?_) (fun c5 => ?_)
      · omega
      · refine aw_iload1 (pc := 8) F dX7_placeFrom_8 ?_
        refine aw_bipush (pc := 9) F dX7_placeFrom_9 (by decide) ?_
        refine aw_icmp_lt (tgt := 37) (pc := 11) F dX7_placeFrom_11 (by decide) (by unfold inR; omega) (by unfold inR; omega) (fun c11 => ?_) (fun c11 => ?_)
        · refine aw_iconst (pc := 37) F dX7_placeFrom_37 ?_
          refine aw_istore3 (pc := 38) F dX7_placeFrom_38 rfl hk.symm ?_
          rw [← hQ]
          exact loop (S 0).toNat 0 M (by omega) chP.rf hst
        · omega
