/-! 54: the reference tries -/
def stB (st : StT) : Prop := st.1 = -1 ∨ (0 ≤ st.1 ∧ st.1 ≤ 40000)
def stR (S : Int → Int) (M : Id4 → Int → Int) (st : StT) : Prop := M (9, 0, 0, 0) 27 = st.1 ∧ stB st ∧ (st.1 ≠ -1 → ∀ a, 0 ≤ a → a < S 1 → M (9, 0, 27, 0) a = st.2 a)
def chS (M M' : Id4 → Int → Int) : Prop := ∀ q k, ¬ ((q = (9, 0, 0, 0) ∧ k = 27) ∨ q = (9, 0, 26, 0) ∨ q = (9, 0, 27, 0)) → M' q k = M q k
theorem chS.rf {M : Id4 → Int → Int} : chS M M := fun _ _ _ => rfl
theorem chS.tr {M M1 M2 : Id4 → Int → Int} (h1 : chS M M1) (h2 : chS M1 M2) : chS M M2 := fun q k h => (h2 q k h).trans (h1 q k h)
theorem chS.up {M M1 : Id4 → Int → Int} {q : Id4} {k v : Int} (h1 : chS M M1) (h : (q = (9, 0, 0, 0) ∧ k = 27) ∨ q = (9, 0, 26, 0) ∨ q = (9, 0, 27, 0)) : chS M (updM M1 q k v) := fun q' k' h' => by
  rw [upd_ne (by
    by_cases e : q' = q
    · right
      intro z
      rw [e, z] at h'
      exact h' h
    · exact Or.inl e)]
  exact h1 q' k' h'
theorem chS.s {M M' : Id4 → Int → Int} (h : chS M M') : M' (9, 0, 1, 0) = M (9, 0, 1, 0) := funext fun k => h _ k (by simp)
theorem chS.g {M M' : Id4 → Int → Int} (h : chS M M') : M' (9, 0, 17, 0) = M (9, 0, 17, 0) := funext fun k => h _ k (by simp)
theorem chS.q {M M' : Id4 → Int → Int} (h : chS M M') : same9 M M' := fun q k z => h q k (fun y => z (by
  rcases y with ⟨y1, y2⟩ | y | y
  · rw [y1, y2]; unfold scr9; decide
  · rw [y]; unfold scr9; simp
  · rw [y]; unfold scr9; simp))
theorem VL_agr {S tau tau' : Int → Int} {e : Int} (h0 : 0 ≤ e) (h1 : ∀ a, 0 ≤ a → a ≤ e → tau' a = tau a) : VL S tau' e ↔ VL S tau e := by
  unfold VL
  have e0 : tau' 0 = tau 0 := h1 0 (by decide) h0
  have ee : tau' e = tau e := h1 e h0 (Int.le_refl _)
  rw [e0, ee]
  exact and_congr Iff.rfl ⟨fun q a a0 a1 => by rw [← h1 a a0 (by omega)]; exact q a a0 a1, fun q a a0 a1 => by rw [h1 a a0 (by omega)]; exact q a a0 a1⟩
theorem ful_skip {S tau : Int → Int} {first : Int} {st : StT} {j e : Nat} {t : Int} (he : (e : Int) < S 1) (hv : ¬ VL S (upS tau e t) e) : ful S first j (e + 1) (upS tau e t) st = st :=
  ful_id _ _ _ (fun tau' h1 _ hv' _ => hv ((VL_agr (by omega) (fun a a0 a1 => h1 a a0 (by omega))).mp (hv' e (by omega) he)))
theorem ful_prune {S tau : Int → Int} (h : Ok S) {first : Int} {st : StT} {j e : Nat} (he : (e : Int) ≤ S 1) (h1 : st.1 ≠ -1) (h2 : first = 0 → st.1 ≤ cPar S tau e) : ful S first j e tau st = st := by
  have hE := h.2.1
  refine ful_id _ _ _ (fun tau' g1 _ _ w => ?_)
  rcases w with w | ⟨w1, w2⟩
  · exact h1 w
  · have a := cPar_mono h (tau := tau') (m := e) (S 1).toNat (by omega)
    rw [cPar_agr h e g1] at a
    have := h2 w1
    unfold CT at w2
    omega
theorem flT_stop {f : Nat → StT → StT} {st st' : StT} {m : Nat} : ∀ n : Nat, m ≤ n → flT f m st = st' → (∀ i, m ≤ i → i < n → f i st' = st') → flT f n st = st'
  | 0, hm, h, _ => by
    obtain rfl : m = 0 := by omega
    exact h
  | n + 1, hm, h, g => by
    by_cases e : m = n + 1
    · rw [← e]; exact h
    · show f n (flT f n st) = st'
      rw [flT_stop n (by omega) h (fun i q0 q1 => g i q0 (by omega))]
      exact g n (by omega) (by omega)
theorem ct9_fits (M : Id4 → Int → Int) (b : Bool) (S tau : Int → Int) (e : Nat) (t : Int) (hS : M (9, 0, 1, 0) = S) (h : Ok S) (hg : Agr (S 1) (M (9, 0, 17, 0)) (tgS S)) (he : (e : Int) < S 1) (ht : 0 ≤ t ∧ t < S 0) (htr : ∀ a, 0 ≤ a → a < (e : Int) → M (9, 0, 26, 0) a = tau a ∧ 0 ≤ tau a ∧ tau a < S 0) : CtI 2 0 yX9_fits cX9_fits 4 (some .boolean) [aR (9, 0, 0, 0), aI e, aI t] (M, R0 b) (fun v σ' => isB v (∀ a, 0 ≤ a → a < (e : Int) → bit (tgS S (6 * a + e)) (((t - tau a) % S 0).toNat) = true) ∧ σ' = (M, R0 b)) := by
  refine CtI.mk (by decide +kernel) rfl (Nat.le_of_ble_eq_true rfl) (fun X K F hk => ?_)
  have hE := h.2.1
  have hT := h.1
  have s0 := congrFun hS 0
  have hm := tgS_ok h
  have key : ∀ (j i : Nat), i + j = e → (∀ a : Int, 0 ≤ a → a < i → bit (tgS S (6 * a + e)) (((t - tau a) % S 0).toNat) = true) → AW X K 2 [aR (9, 0, 0, 0), aI e, aI t, aI i] [] (M, R0 b) 0 (EI X K 0 (fun v σ' => isB v (∀ a, 0 ≤ a → a < (e : Int) → bit (tgS S (6 * a + e)) (((t - tau a) % S 0).toNat) = true) ∧ σ' = (M, R0 b))) := by
    intro j
    induction j with
    | zero =>
      intro i hi hb
      obtain rfl : i = e := by omega
      refine aw_iload3 (pc := 2) F dX9_fits_2 ?_
      refine aw_iload1 (pc := 3) F dX9_fits_3 ?_
      refine aw_icmp_ge (tgt := 43) (pc := 4) F dX9_fits_4 (by decide) (by unfold inR; omega) (by unfold inR; omega) (fun c4 => ?_) (fun c4 => ?_)
      · refine aw_iconst (pc := 43) F dX9_fits_43 ?_
        exact aw_iret (pc := 44) F dX9_fits_44 (nar_bool (by first | exact b2i_01 | decide)) (Nat.zero_le _) ⟨Or.inr ⟨rfl, hb⟩, rfl⟩
      · omega
    | succ j ih =>
      intro i hi hb
      obtain ⟨t1, t2, t3⟩ := htr i (by omega) (by omega)
      have em : 0 ≤ (t - tau i) % S 0 ∧ (t - tau i) % S 0 < S 0 := ⟨Int.emod_nonneg _ (by omega), Int.emod_lt_of_pos _ (by omega)⟩
      obtain ⟨u, hu⟩ : ∃ u : Nat, (t - tau i) % S 0 = (u : Int) := ⟨((t - tau i) % S 0).toNat, by omega⟩
      have e9 := hg i e (by omega) (by omega) (by omega) he
      have z9 := (hm (6 * (i : Int) + e) (by omega) (by omega)).1
      refine aw_iload3 (pc := 2) F dX9_fits_2 ?_
      refine aw_iload1 (pc := 3) F dX9_fits_3 ?_
      refine aw_icmp_ge (tgt := 43) (pc := 4) F dX9_fits_4 (by decide) (by unfold inR; omega) (by unfold inR; omega) (fun c4 => ?_) (fun c4 => ?_)
      · omega
      · refine aw_aload0 (pc := 7) F dX9_fits_7 ?_
        refine aw_getR (pc := 8) F dX9_fits_8 fl_9_26 rfl (by first | decide | (simp only [inB, cnt, rcnt]; omega)) rfl nz16 rfl ?_
        refine aw_iload3 (pc := 11) F dX9_fits_11 ?_
        refine aw_iload1 (pc := 12) F dX9_fits_12 ?_
        refine aw_pcallS2 (pc := 13) F dX9_fits_13 ml_9_230 (ct9_pair _ _ _ _) (Nat.le_of_ble_eq_true rfl) (by decide) (Nat.zero_le _) ?_
        refine aw_iald (pc := 16) F dX9_fits_16 rfl (by first | decide | (simp only [inB, cnt, rcnt]; omega)) (by omega) ?_
        refine aw_aload0 (pc := 17) F dX9_fits_17 ?_
        refine aw_iload2 (pc := 18) F dX9_fits_18 ?_
        refine aw_aload0 (pc := 19) F dX9_fits_19 ?_
        refine aw_getR (pc := 20) F dX9_fits_20 fl_9_45 rfl (by first | decide | (simp only [inB, cnt, rcnt]; omega)) rfl nz25 rfl ?_
        refine aw_iload3 (pc := 23) F dX9_fits_23 ?_
        refine aw_iald (pc := 24) F dX9_fits_24 rfl (by first | decide | (simp only [inB, cnt, rcnt]; omega)) (by omega) ?_
        rw [t1]
        refine aw_isub (pc := 25) F dX9_fits_25 ?_
        refine aw_pcallV1 (pc := 26) F dX9_fits_26 ml_9_203 rfl (by first | decide | (simp only [inB, cnt, rcnt]; omega)) (ct9_modulo _ _ _ (by unfold inR; omega) (by rw [s0]; omega)) (Nat.le_of_ble_eq_true rfl) (by decide) (Nat.zero_le _) ?_
        rw [s0, hu, e9]
        refine aw_pcallS2 (pc := 29) F dX9_fits_29 ml_9_227 (ct9_has _ _ _ u (by omega) (by omega)) (Nat.le_of_ble_eq_true rfl) (by decide) (Nat.zero_le _) ?_
        refine aw_ifb_ne (tgt := 37) (pc := 32) F dX9_fits_32 (by decide) (fun c32 => ?_) (fun c32 => ?_)
        · refine aw_iinc3 (pc := 37) F dX9_fits_37 rfl hk.symm ?_
          refine aw_goto (tgt := 2) (pc := 40) F dX9_fits_40 (by decide) ?_
          exact ih (i + 1) (by omega) (fun a a0 a1 => by
            by_cases z : a = i
            · rw [z, hu]; exact c32
            · exact hb a a0 (by omega))
        · refine aw_iconst (pc := 35) F dX9_fits_35 ?_
          exact aw_iret (pc := 36) F dX9_fits_36 (nar_bool (by first | exact b2i_01 | decide)) (Nat.zero_le _) ⟨Or.inl ⟨rfl, fun q => c32 (by have := q i (by omega) (by omega); rw [hu] at this; exact this)⟩, rfl⟩
  refine aw_iconst (pc := 0) F dX9_fits_0 ?_
  refine aw_istore3 (pc := 1) F dX9_fits_1 rfl hk.symm ?_
  exact key e 0 (by omega) (fun a a0 a1 => absurd a1 (by omega))
theorem ct9_costAt (M : Id4 → Int → Int) (b : Bool) (S tau : Int → Int) (e : Nat) (hS : M (9, 0, 1, 0) = S) (h : Ok S) (he : (e : Int) < S 1) (htr : ∀ a, 0 ≤ a → a ≤ (e : Int) → M (9, 0, 26, 0) a = tau a ∧ 0 ≤ tau a ∧ tau a < S 0) : CtI 4 0 yX9_costAt cX9_costAt 6 (some .int) [aR (9, 0, 0, 0), aI e] (M, R0 b) (PU (M, R0 b) (cA S tau e)) := by
  refine CtI.mk (by decide +kernel) rfl (Nat.le_of_ble_eq_true rfl) (fun X K F hk => ?_)
  have hE := h.2.1
  have hN := h.2.2.1
  have hT := h.1
  have s20 := congrFun hS 20
  have key : ∀ (j i : Nat) (w4 w5 : AV), (i : Int) + j = S 20 → wide w4 = false → wide w5 = false → AW X K 4 [aR (9, 0, 0, 0), aI e, aI (sumI (fun k => if max (frS S k) (toS S k) = e then spC S tau k else 0) i), aI i, w4, w5] [] (M, R0 b) 0 (EI X K 0 (PU (M, R0 b) (cA S tau e))) := by
    intro j
    induction j with
    | zero =>
      intro i w4 w5 hi g4 g5
      refine aw_iload3 (pc := 4) F dX9_costAt_4 ?_
      refine aw_aload0 (pc := 5) F dX9_costAt_5 ?_
      refine aw_getR (pc := 6) F dX9_costAt_6 fl_9_7 rfl (by first | decide | (simp only [inB, cnt, rcnt]; omega)) rfl nz0 rfl ?_
      refine aw_bipush (pc := 9) F dX9_costAt_9 (by decide) ?_
      refine aw_iald (pc := 11) F dX9_costAt_11 rfl (by first | decide | (simp only [inB, cnt, rcnt]; omega)) (by omega) ?_
      refine aw_icmp_ge (tgt := 78) (pc := 12) F dX9_costAt_12 (by decide) (by unfold inR; omega) (by unfold inR; omega) (fun c12 => ?_) (fun c12 => ?_)
      · refine aw_iload2 (pc := 78) F dX9_costAt_78 ?_
        exact aw_iret (pc := 79) F dX9_costAt_79 rfl (Nat.zero_le _) ⟨by unfold cA; rw [show (S 20).toNat = i by omega], rfl⟩
      · omega
    | succ j ih =>
      intro i w4 w5 hi g4 g5
      have sp := h.2.2.2.2 i (by omega) (by omega)
      unfold SpOk at sp
      have e0 : M (9, 0, 1, 0) (21 + 5 * (i : Int) + 0) = frS S i := by rw [hS]
      have e1 : M (9, 0, 1, 0) (21 + 5 * (i : Int) + 1) = toS S i := by rw [hS]
      have f0 : 0 ≤ frS S i ∧ frS S i < S 1 := sp.1
      have f1 : 0 ≤ toS S i ∧ toS S i < S 1 := sp.2.1
      have g := fun w4 w5 => ih (i + 1) w4 w5 (by omega)
      have e9 : sumI (fun k => if max (frS S k) (toS S k) = (e : Int) then spC S tau k else 0) (i + 1) = sumI (fun k => if max (frS S k) (toS S k) = (e : Int) then spC S tau k else 0) i + (if max (frS S i) (toS S i) = (e : Int) then spC S tau i else 0) := rfl
      refine aw_iload3 (pc := 4) F dX9_costAt_4 ?_
      refine aw_aload0 (pc := 5) F dX9_costAt_5 ?_
      refine aw_getR (pc := 6) F dX9_costAt_6 fl_9_7 rfl (by first | decide | (simp only [inB, cnt, rcnt]; omega)) rfl nz0 rfl ?_
      refine aw_bipush (pc := 9) F dX9_costAt_9 (by decide) ?_
      refine aw_iald (pc := 11) F dX9_costAt_11 rfl (by first | decide | (simp only [inB, cnt, rcnt]; omega)) (by omega) ?_
      refine aw_icmp_ge (tgt := 78) (pc := 12) F dX9_costAt_12 (by decide) (by unfold inR; omega) (by unfold inR; omega) (fun c12 => ?_) (fun c12 => ?_)
      · omega
      · refine aw_aload0 (pc := 15) F dX9_costAt_15 ?_
        refine aw_iload3 (pc := 16) F dX9_costAt_16 ?_
        refine aw_iconst (pc := 17) F dX9_costAt_17 ?_
        refine aw_pcallV2 (pc := 18) F dX9_costAt_18 ml_9_200 rfl (by first | decide | (simp only [inB, cnt, rcnt]; omega)) (ct9_of _ _ _ _ (by omega) (by omega)) (Nat.le_of_ble_eq_true rfl) (by decide) (Nat.zero_le _) ?_
        rw [e0]
        refine aw_istore4 (pc := 21) F dX9_costAt_21 (by simp only [List.all_cons, List.all_nil, g4, g5]; rfl) hk.symm ?_
        refine aw_aload0 (pc := 23) F dX9_costAt_23 ?_
        refine aw_iload3 (pc := 24) F dX9_costAt_24 ?_
        refine aw_iconst (pc := 25) F dX9_costAt_25 ?_
        refine aw_pcallV2 (pc := 26) F dX9_costAt_26 ml_9_200 rfl (by first | decide | (simp only [inB, cnt, rcnt]; omega)) (ct9_of _ _ _ _ (by omega) (by omega)) (Nat.le_of_ble_eq_true rfl) (by decide) (Nat.zero_le _) ?_
        rw [e1]
        refine aw_istore5 (pc := 29) F dX9_costAt_29 (by simp only [List.all_cons, List.all_nil, g4, g5]; rfl) hk.symm ?_
        refine aw_iload4 (pc := 31) F dX9_costAt_31 ?_
        refine aw_iload5 (pc := 33) F dX9_costAt_33 ?_
        refine aw_pcallS2 (pc := 35) F dX9_costAt_35 ml_9_317 (ctJ_max _ _ _ _ (by unfold inR; omega) (by unfold inR; omega)) (Nat.le_of_ble_eq_true rfl) (by decide) (Nat.zero_le _) ?_
        refine aw_iload1 (pc := 38) F dX9_costAt_38 ?_
        refine aw_icmp_ne (tgt := 72) (pc := 39) F dX9_costAt_39 (by decide) (by unfold inR; omega) (by unfold inR; omega) (fun c39 => ?_) (fun c39 => ?_)
        · refine aw_iinc3 (pc := 72) F dX9_costAt_72 (by simp only [List.all_cons, List.all_nil, g4, g5]; rfl) hk.symm ?_
          refine aw_goto (tgt := 4) (pc := 75) F dX9_costAt_75 (by decide) ?_
          have g2 := g (aI (frS S i)) (aI (toS S i)) rfl rfl
          rw [e9] at g2
          first | (rw [if_pos c39] at g2; rw [hS]; exact g2) | (rw [if_neg c39, Int.add_zero] at g2; exact g2)
        · refine aw_iload2 (pc := 42) F dX9_costAt_42 ?_
          refine aw_aload0 (pc := 43) F dX9_costAt_43 ?_
          refine aw_iload3 (pc := 44) F dX9_costAt_44 ?_
          refine aw_iconst (pc := 45) F dX9_costAt_45 ?_
          refine aw_pcallV2 (pc := 46) F dX9_costAt_46 ml_9_200 rfl (by first | decide | (simp only [inB, cnt, rcnt]; omega)) (ct9_of _ _ _ _ (by omega) (by omega)) (Nat.le_of_ble_eq_true rfl) (by decide) (Nat.zero_le _) ?_
          refine aw_aload0 (pc := 49) F dX9_costAt_49 ?_
          refine aw_iload3 (pc := 50) F dX9_costAt_50 ?_
          refine aw_aload0 (pc := 51) F dX9_costAt_51 ?_
          refine aw_getR (pc := 52) F dX9_costAt_52 fl_9_45 rfl (by first | decide | (simp only [inB, cnt, rcnt]; omega)) rfl nz25 rfl ?_
          refine aw_iload5 (pc := 55) F dX9_costAt_55 ?_
          refine aw_iald (pc := 57) F dX9_costAt_57 rfl (by first | decide | (simp only [inB, cnt, rcnt]; omega)) (by omega) ?_
          refine aw_aload0 (pc := 58) F dX9_costAt_58 ?_
          refine aw_getR (pc := 59) F dX9_costAt_59 fl_9_45 rfl (by first | decide | (simp only [inB, cnt, rcnt]; omega)) rfl nz25 rfl ?_
          refine aw_iload4 (pc := 62) F dX9_costAt_62 ?_
          refine aw_iald (pc := 64) F dX9_costAt_64 rfl (by first | decide | (simp only [inB, cnt, rcnt]; omega)) (by omega) ?_
          rw [(htr (toS S i) (by omega) (by omega)).1, (htr (frS S i) (by omega) (by omega)).1]
          refine aw_isub (pc := 65) F dX9_costAt_65 ?_
          refine aw_pcallV2 (pc := 66) F dX9_costAt_66 ml_9_206 rfl (by first | decide | (simp only [inB, cnt, rcnt]; omega)) (ct9_slackBy _ _ _ _ (by rw [hS]; omega) (by have := htr (toS S i) (by omega) (by omega); have := htr (frS S i) (by omega) (by omega); omega) (by rw [hS]; exact h)) (Nat.le_of_ble_eq_true rfl) (by decide) (Nat.zero_le _) ?_
          refine aw_imul (pc := 69) F dX9_costAt_69 ?_
          refine aw_iadd (pc := 70) F dX9_costAt_70 ?_
          refine aw_istore2 (pc := 71) F dX9_costAt_71 (by simp only [List.all_cons, List.all_nil, g4, g5]; rfl) hk.symm ?_
          refine aw_iinc3 (pc := 72) F dX9_costAt_72 (by simp only [List.all_cons, List.all_nil, g4, g5]; rfl) hk.symm ?_
          refine aw_goto (tgt := 4) (pc := 75) F dX9_costAt_75 (by decide) ?_
          have g2 := g (aI (frS S i)) (aI (toS S i)) rfl rfl
          rw [e9] at g2
          first | (rw [if_pos c39] at g2; rw [hS]; exact g2) | (rw [if_neg c39, Int.add_zero] at g2; exact g2)
  refine aw_iconst (pc := 0) F dX9_costAt_0 ?_
  refine aw_istore2 (pc := 1) F dX9_costAt_1 rfl hk.symm ?_
  refine aw_iconst (pc := 2) F dX9_costAt_2 ?_
  refine aw_istore3 (pc := 3) F dX9_costAt_3 rfl hk.symm ?_
  exact key (S 20).toNat 0 aX aX (by omega) rfl rfl
theorem ct9_tries {S : Int → Int} (h : Ok S) (b : Bool) (first : Int) (h01 : first = 0 ∨ first = 1) : ∀ (f e : Nat) (M : Id4 → Int → Int) (tau : Int → Int) (st : StT), e + f = 6 → M (9, 0, 1, 0) = S → Agr (S 1) (M (9, 0, 17, 0)) (tgS S) → (e : Int) ≤ S 1 → (∀ a, 0 ≤ a → a < (e : Int) → M (9, 0, 26, 0) a = tau a ∧ 0 ≤ tau a ∧ tau a < S 0) → (∀ a, 0 ≤ a → a < (e : Int) → VL S tau a) → stR S M st → (first ≠ 0 → st.1 = -1) → CtI (18 + f) 0 yX9_tries cX9_tries 5 (some .boolean) [aR (9, 0, 0, 0), aI e, aI (cPar S tau e), aI first] (M, R0 b) (fun r σ' => ∃ M', σ' = (M', R0 b) ∧ chS M M' ∧ stR S M' (ful S first ((S 1).toNat - e) e tau st) ∧ (∀ a, 0 ≤ a → a < (e : Int) → M' (9, 0, 26, 0) a = tau a) ∧ ((r = 1 ∧ first ≠ 0 ∧ (ful S first ((S 1).toNat - e) e tau st).1 ≠ -1) ∨ (r = 0 ∧ (first ≠ 0 → (ful S first ((S 1).toNat - e) e tau st).1 = -1)))) := by
  intro f
  induction f with
  | zero =>
    intro e M tau st hf hS hg he htr hv hst hfi
    have hE := h.2.1
    have ee : (e : Int) = S 1 := by omega
    have j0 : (S 1).toNat - e = 0 := by omega
    have eT : (S 1).toNat = e := by omega
    have cb := cPar_bd h (tau := tau) e
    have s1e := congrFun hS 1
    obtain ⟨b1, b2, b3⟩ := id hst
    unfold stB at b2
    have hval : VAL S tau := fun a a0 a1 => hv a a0 (by omega)
    have cT : CT S tau = cPar S tau e := by unfold CT; rw [eT]
    have hpr : st.1 ≠ -1 → st.1 ≤ cPar S tau e → ful S first 0 e tau st = st := fun q1 q2 => ful_prune h he q1 (fun _ => q2)
    have hup : (st.1 = -1 ∨ cPar S tau e < st.1) → ful S first 0 e tau st = (cPar S tau e, tau) := fun q => by
      show updT S first tau st = _
      unfold updT
      rw [if_pos, cT]
      refine ⟨hval, ?_⟩
      unfold wnt
      rw [cT]
      by_cases z : first = 0
      · exact q.imp id (fun y => ⟨z, y⟩)
      · exact Or.inl (hfi z)
    refine CtI.mk (by decide +kernel) rfl (Nat.le_of_ble_eq_true rfl) (fun X K F hk => ?_)
    rw [j0]
    obtain ⟨Q9, hQ⟩ : ∃ Q9, Q9 = EI X K 0 (fun r σ' => ∃ M', σ' = (M', R0 b) ∧ chS M M' ∧ stR S M' (ful S first 0 e tau st) ∧ (∀ a, 0 ≤ a → a < (e : Int) → M' (9, 0, 26, 0) a = tau a) ∧ ((r = 1 ∧ first ≠ 0 ∧ (ful S first 0 e tau st).1 ≠ -1) ∨ (r = 0 ∧ (first ≠ 0 → (ful S first 0 e tau st).1 = -1)))) := ⟨_, rfl⟩
    have leaf : (st.1 = -1 ∨ cPar S tau e < st.1) → ∀ (j i : Nat) (M' : Id4 → Int → Int), i + j = e → chS M M' → M' (9, 0, 0, 0) 27 = cPar S tau e → M' (9, 0, 26, 0) = M (9, 0, 26, 0) → (∀ a : Int, 0 ≤ a → a < i → M' (9, 0, 27, 0) a = tau a) → AW X K 35 [aR (9, 0, 0, 0), aI e, aI (cPar S tau e), aI first, aI i] [] (M', R0 b) 0 Q9 := by
      intro hq j
      induction j with
      | zero =>
        intro i M' hi a1 a2 a3 a4
        obtain rfl : i = e := by omega
        have s2 : M' (9, 0, 1, 0) 1 = S 1 := by rw [a1.s, hS]
        refine aw_iload4 (pc := 35) F dX9_tries_35 ?_
        refine aw_aload0 (pc := 37) F dX9_tries_37 ?_
        refine aw_getR (pc := 38) F dX9_tries_38 fl_9_7 rfl (by first | decide | (simp only [inB, cnt, rcnt]; omega)) rfl nz0 rfl ?_
        refine aw_iconst (pc := 41) F dX9_tries_41 ?_
        refine aw_iald (pc := 42) F dX9_tries_42 rfl (by first | decide | (simp only [inB, cnt, rcnt]; omega)) (by omega) ?_
        refine aw_icmp_ge (tgt := 66) (pc := 43) F dX9_tries_43 (by decide) (by unfold inR; omega) (by unfold inR; omega) (fun c43 => ?_) (fun c43 => ?_)
        · rw [hQ]
          refine aw_iload3 (pc := 66) F dX9_tries_66 ?_
          exact aw_iret (pc := 67) F dX9_tries_67 (nar_bool (by omega)) (Nat.zero_le _) ⟨M', rfl, a1, by rw [hup hq]; exact ⟨a2, Or.inr (by dsimp only; omega), fun _ a a0 a1 => a4 a a0 (by omega)⟩, fun a a0 a1 => by rw [a3]; exact (htr a a0 a1).1, by rw [hup hq]; exact h01.elim (fun z => Or.inr ⟨z, fun y => absurd z y⟩) (fun z => Or.inl ⟨z, by omega, by dsimp only; omega⟩)⟩
        · omega
      | succ j ih =>
        intro i M' hi a1 a2 a3 a4
        have s2 : M' (9, 0, 1, 0) 1 = S 1 := by rw [a1.s, hS]
        refine aw_iload4 (pc := 35) F dX9_tries_35 ?_
        refine aw_aload0 (pc := 37) F dX9_tries_37 ?_
        refine aw_getR (pc := 38) F dX9_tries_38 fl_9_7 rfl (by first | decide | (simp only [inB, cnt, rcnt]; omega)) rfl nz0 rfl ?_
        refine aw_iconst (pc := 41) F dX9_tries_41 ?_
        refine aw_iald (pc := 42) F dX9_tries_42 rfl (by first | decide | (simp only [inB, cnt, rcnt]; omega)) (by omega) ?_
        refine aw_icmp_ge (tgt := 66) (pc := 43) F dX9_tries_43 (by decide) (by unfold inR; omega) (by unfold inR; omega) (fun c43 => ?_) (fun c43 => ?_)
        · omega
        · refine aw_aload0 (pc := 46) F dX9_tries_46 ?_
          refine aw_getR (pc := 47) F dX9_tries_47 fl_9_48 rfl (by first | decide | (simp only [inB, cnt, rcnt]; omega)) rfl nz26 rfl ?_
          refine aw_iload4 (pc := 50) F dX9_tries_50 ?_
          refine aw_aload0 (pc := 52) F dX9_tries_52 ?_
          refine aw_getR (pc := 53) F dX9_tries_53 fl_9_45 rfl (by first | decide | (simp only [inB, cnt, rcnt]; omega)) rfl nz25 rfl ?_
          refine aw_iload4 (pc := 56) F dX9_tries_56 ?_
          refine aw_iald (pc := 58) F dX9_tries_58 rfl (by first | decide | (simp only [inB, cnt, rcnt]; omega)) (by omega) ?_
          refine aw_iast (pc := 59) F dX9_tries_59 rfl (by first | decide | (simp only [inB, cnt, rcnt]; omega)) (by omega) ?_
          refine aw_iinc4 (pc := 60) F dX9_tries_60 rfl hk.symm ?_
          refine aw_goto (tgt := 35) (pc := 63) F dX9_tries_63 (by decide) ?_
          exact ih (i + 1) _ (by omega) (a1.up (Or.inr (Or.inr rfl))) (by rw [upd_ne (Or.inl (by decide))]; exact a2) (by rw [upd_off (by decide)]; exact a3) (fun a a0 q => by
            by_cases z : a = i
            · rw [z, upd_same, a3]; exact (htr i (by omega) (by omega)).1
            · rw [upd_ne (Or.inr z)]; exact a4 a a0 (by omega))
    refine aw_aload0 (pc := 0) F dX9_tries_0 ?_
    refine aw_getI (pc := 1) F dX9_tries_1 fl_9_320 rfl (by first | decide | (simp only [inB, cnt, rcnt]; omega)) rfl nz27 ?_
    refine aw_if_lt (tgt := 17) (pc := 4) F dX9_tries_4 (by decide) (by unfold inR; omega) (fun c4 => ?_) (fun c4 => ?_)
    · refine aw_iload1 (pc := 17) F dX9_tries_17 ?_
      refine aw_aload0 (pc := 18) F dX9_tries_18 ?_
      refine aw_getR (pc := 19) F dX9_tries_19 fl_9_7 rfl (by first | decide | (simp only [inB, cnt, rcnt]; omega)) rfl nz0 rfl ?_
      refine aw_iconst (pc := 22) F dX9_tries_22 ?_
      refine aw_iald (pc := 23) F dX9_tries_23 rfl (by first | decide | (simp only [inB, cnt, rcnt]; omega)) (by omega) ?_
      refine aw_icmp_lt (tgt := 68) (pc := 24) F dX9_tries_24 (by decide) (by unfold inR; omega) (by unfold inR; omega) (fun c24 => ?_) (fun c24 => ?_)
      · omega
      · refine aw_aload0 (pc := 27) F dX9_tries_27 ?_
        refine aw_iload2 (pc := 28) F dX9_tries_28 ?_
        refine aw_putI (pc := 29) F dX9_tries_29 fl_9_320 fpi_9_27 rfl (by first | decide | (simp only [inB, cnt, rcnt]; omega)) rfl nz27 ?_
        refine aw_iconst (pc := 32) F dX9_tries_32 ?_
        refine aw_istore4 (pc := 33) F dX9_tries_33 rfl hk.symm ?_
        rw [← hQ]
        exact leaf (by omega) e 0 _ (by omega) (chS.rf.up (Or.inl ⟨rfl, rfl⟩)) upd_same (by rw [upd_off (by decide)]) (fun a a0 a1 => absurd a1 (by omega))
    · refine aw_iload2 (pc := 7) F dX9_tries_7 ?_
      refine aw_aload0 (pc := 8) F dX9_tries_8 ?_
      refine aw_getI (pc := 9) F dX9_tries_9 fl_9_320 rfl (by first | decide | (simp only [inB, cnt, rcnt]; omega)) rfl nz27 ?_
      refine aw_icmp_lt (tgt := 17) (pc := 12) F dX9_tries_12 (by decide) (by unfold inR; omega) (by unfold inR; omega) (fun c12 => ?_) (fun c12 => ?_)
      · refine aw_iload1 (pc := 17) F dX9_tries_17 ?_
        refine aw_aload0 (pc := 18) F dX9_tries_18 ?_
        refine aw_getR (pc := 19) F dX9_tries_19 fl_9_7 rfl (by first | decide | (simp only [inB, cnt, rcnt]; omega)) rfl nz0 rfl ?_
        refine aw_iconst (pc := 22) F dX9_tries_22 ?_
        refine aw_iald (pc := 23) F dX9_tries_23 rfl (by first | decide | (simp only [inB, cnt, rcnt]; omega)) (by omega) ?_
        refine aw_icmp_lt (tgt := 68) (pc := 24) F dX9_tries_24 (by decide) (by unfold inR; omega) (by unfold inR; omega) (fun c24 => ?_) (fun c24 => ?_)
        · omega
        · refine aw_aload0 (pc := 27) F dX9_tries_27 ?_
          refine aw_iload2 (pc := 28) F dX9_tries_28 ?_
          refine aw_putI (pc := 29) F dX9_tries_29 fl_9_320 fpi_9_27 rfl (by first | decide | (simp only [inB, cnt, rcnt]; omega)) rfl nz27 ?_
          refine aw_iconst (pc := 32) F dX9_tries_32 ?_
          refine aw_istore4 (pc := 33) F dX9_tries_33 rfl hk.symm ?_
          rw [← hQ]
          exact leaf (by omega) e 0 _ (by omega) (chS.rf.up (Or.inl ⟨rfl, rfl⟩)) upd_same (by rw [upd_off (by decide)]) (fun a a0 a1 => absurd a1 (by omega))
      · refine aw_iconst (pc := 15) F dX9_tries_15 ?_
        exact aw_iret (pc := 16) F dX9_tries_16 (nar_bool (by first | exact b2i_01 | decide)) (Nat.zero_le _) ⟨M, rfl, chS.rf, by rw [hpr (by omega) (by omega)]; exact hst, fun a a0 a1 => (htr a a0 a1).1, by rw [hpr (by omega) (by omega)]; exact Or.inr ⟨rfl, hfi⟩⟩
  | succ f ih =>
    intro e M tau st hf hS hg he htr hv hst hfi
    have hE := h.2.1
    have hT := h.1
    have cb := cPar_bd h (tau := tau) e
    have s1e := congrFun hS 1
    obtain ⟨b1, b2, b3⟩ := id hst
    unfold stB at b2
    obtain ⟨j, hj⟩ : ∃ j, j = (S 1).toNat - e := ⟨_, rfl⟩
    have hpr : st.1 ≠ -1 → st.1 ≤ cPar S tau e → ful S first j e tau st = st := fun q1 q2 => ful_prune h he q1 (fun _ => q2)
    rw [← hj]
    refine CtI.mk (by decide +kernel) rfl (Nat.le_of_ble_eq_true rfl) (fun X K F hk => ?_)
    obtain ⟨Q9, hQ⟩ : ∃ Q9, Q9 = EI X K 0 (fun r σ' => ∃ M', σ' = (M', R0 b) ∧ chS M M' ∧ stR S M' (ful S first j e tau st) ∧ (∀ a, 0 ≤ a → a < (e : Int) → M' (9, 0, 26, 0) a = tau a) ∧ ((r = 1 ∧ first ≠ 0 ∧ (ful S first j e tau st).1 ≠ -1) ∨ (r = 0 ∧ (first ≠ 0 → (ful S first j e tau st).1 = -1)))) := ⟨_, rfl⟩
    have leaf : (e : Int) = S 1 → (st.1 = -1 ∨ cPar S tau e < st.1) → ∀ (j2 i : Nat) (M' : Id4 → Int → Int), i + j2 = e → chS M M' → M' (9, 0, 0, 0) 27 = cPar S tau e → M' (9, 0, 26, 0) = M (9, 0, 26, 0) → (∀ a : Int, 0 ≤ a → a < i → M' (9, 0, 27, 0) a = tau a) → AW X K 35 [aR (9, 0, 0, 0), aI e, aI (cPar S tau e), aI first, aI i] [] (M', R0 b) 0 Q9 := by
      intro ee hq j2
      have j0 : j = 0 := by omega
      have eT : (S 1).toNat = e := by omega
      have hval : VAL S tau := fun a a0 a1 => hv a a0 (by omega)
      have cT : CT S tau = cPar S tau e := by unfold CT; rw [eT]
      have hup : ful S first j e tau st = (cPar S tau e, tau) := by
        rw [j0]
        show updT S first tau st = _
        unfold updT
        rw [if_pos, cT]
        refine ⟨hval, ?_⟩
        unfold wnt
        rw [cT]
        by_cases z : first = 0
        · exact hq.imp id (fun y => ⟨z, y⟩)
        · exact Or.inl (hfi z)
      induction j2 with
      | zero =>
        intro i M' hi a1 a2 a3 a4
        obtain rfl : i = e := by omega
        have s2 : M' (9, 0, 1, 0) 1 = S 1 := by rw [a1.s, hS]
        refine aw_iload4 (pc := 35) F dX9_tries_35 ?_
        refine aw_aload0 (pc := 37) F dX9_tries_37 ?_
        refine aw_getR (pc := 38) F dX9_tries_38 fl_9_7 rfl (by first | decide | (simp only [inB, cnt, rcnt]; omega)) rfl nz0 rfl ?_
        refine aw_iconst (pc := 41) F dX9_tries_41 ?_
        refine aw_iald (pc := 42) F dX9_tries_42 rfl (by first | decide | (simp only [inB, cnt, rcnt]; omega)) (by omega) ?_
        refine aw_icmp_ge (tgt := 66) (pc := 43) F dX9_tries_43 (by decide) (by unfold inR; omega) (by unfold inR; omega) (fun c43 => ?_) (fun c43 => ?_)
        · rw [hQ]
          refine aw_iload3 (pc := 66) F dX9_tries_66 ?_
          exact aw_iret (pc := 67) F dX9_tries_67 (nar_bool (by omega)) (Nat.zero_le _) ⟨M', rfl, a1, by rw [hup]; exact ⟨a2, Or.inr (by dsimp only; omega), fun _ a a0 a1 => a4 a a0 (by omega)⟩, fun a a0 a1 => by rw [a3]; exact (htr a a0 a1).1, by rw [hup]; exact h01.elim (fun z => Or.inr ⟨z, fun y => absurd z y⟩) (fun z => Or.inl ⟨z, by omega, by dsimp only; omega⟩)⟩
        · omega
      | succ j2 ih2 =>
        intro i M' hi a1 a2 a3 a4
        have s2 : M' (9, 0, 1, 0) 1 = S 1 := by rw [a1.s, hS]
        refine aw_iload4 (pc := 35) F dX9_tries_35 ?_
        refine aw_aload0 (pc := 37) F dX9_tries_37 ?_
        refine aw_getR (pc := 38) F dX9_tries_38 fl_9_7 rfl (by first | decide | (simp only [inB, cnt, rcnt]; omega)) rfl nz0 rfl ?_
        refine aw_iconst (pc := 41) F dX9_tries_41 ?_
        refine aw_iald (pc := 42) F dX9_tries_42 rfl (by first | decide | (simp only [inB, cnt, rcnt]; omega)) (by omega) ?_
        refine aw_icmp_ge (tgt := 66) (pc := 43) F dX9_tries_43 (by decide) (by unfold inR; omega) (by unfold inR; omega) (fun c43 => ?_) (fun c43 => ?_)
        · omega
        · refine aw_aload0 (pc := 46) F dX9_tries_46 ?_
          refine aw_getR (pc := 47) F dX9_tries_47 fl_9_48 rfl (by first | decide | (simp only [inB, cnt, rcnt]; omega)) rfl nz26 rfl ?_
          refine aw_iload4 (pc := 50) F dX9_tries_50 ?_
          refine aw_aload0 (pc := 52) F dX9_tries_52 ?_
          refine aw_getR (pc := 53) F dX9_tries_53 fl_9_45 rfl (by first | decide | (simp only [inB, cnt, rcnt]; omega)) rfl nz25 rfl ?_
          refine aw_iload4 (pc := 56) F dX9_tries_56 ?_
          refine aw_iald (pc := 58) F dX9_tries_58 rfl (by first | decide | (simp only [inB, cnt, rcnt]; omega)) (by omega) ?_
          refine aw_iast (pc := 59) F dX9_tries_59 rfl (by first | decide | (simp only [inB, cnt, rcnt]; omega)) (by omega) ?_
          refine aw_iinc4 (pc := 60) F dX9_tries_60 rfl hk.symm ?_
          refine aw_goto (tgt := 35) (pc := 63) F dX9_tries_63 (by decide) ?_
          exact ih2 (i + 1) _ (by omega) (a1.up (Or.inr (Or.inr rfl))) (by rw [upd_ne (Or.inl (by decide))]; exact a2) (by rw [upd_off (by decide)]; exact a3) (fun a a0 q => by
            by_cases z : a = i
            · rw [z, upd_same, a3]; exact (htr i (by omega) (by omega)).1
            · rw [upd_ne (Or.inr z)]; exact a4 a a0 (by omega))
    have loop : (e : Int) < S 1 → ∀ (j2 t : Nat) (M' : Id4 → Int → Int), (t : Int) + j2 = S 0 → chS M M' → stR S M' (flT (fun t st => ful S first (j - 1) (e + 1) (upS tau e t) st) t st) → (∀ a, 0 ≤ a → a < (e : Int) → M' (9, 0, 26, 0) a = tau a) → (first ≠ 0 → (flT (fun t st => ful S first (j - 1) (e + 1) (upS tau e t) st) t st).1 = -1) → AW X K 71 [aR (9, 0, 0, 0), aI e, aI (cPar S tau e), aI first, aI t] [] (M', R0 b) 0 Q9 := by
      intro eE j2
      have ej : j = j - 1 + 1 := by omega
      have eful : ful S first j e tau st = flT (fun t st => ful S first (j - 1) (e + 1) (upS tau e t) st) (S 0).toNat st := by rw [ej]; rfl
      induction j2 with
      | zero =>
        intro t M' ht a1 a2 a3 a4
        have s0 : M' (9, 0, 1, 0) 0 = S 0 := by rw [a1.s, hS]
        have et : (S 0).toNat = t := by omega
        rw [et] at eful
        refine aw_iload4 (pc := 71) F dX9_tries_71 ?_
        refine aw_aload0 (pc := 73) F dX9_tries_73 ?_
        refine aw_getR (pc := 74) F dX9_tries_74 fl_9_7 rfl (by first | decide | (simp only [inB, cnt, rcnt]; omega)) rfl nz0 rfl ?_
        refine aw_iconst (pc := 77) F dX9_tries_77 ?_
        refine aw_iald (pc := 78) F dX9_tries_78 rfl (by first | decide | (simp only [inB, cnt, rcnt]; omega)) (by omega) ?_
        refine aw_icmp_ge (tgt := 145) (pc := 79) F dX9_tries_79 (by decide) (by unfold inR; omega) (by unfold inR; omega) (fun c79 => ?_) (fun c79 => ?_)
        · refine aw_iconst (pc := 145) F dX9_tries_145 ?_
          rw [hQ]
          exact aw_iret (pc := 146) F dX9_tries_146 (nar_bool (by first | exact b2i_01 | decide)) (Nat.zero_le _) ⟨M', rfl, a1, by rw [eful]; exact a2, a3, by rw [eful]; exact Or.inr ⟨rfl, a4⟩⟩
        · omega
      | succ j2 ih2 =>
        intro t M' ht a1 a2 a3 a4
        have s1 : M' (9, 0, 1, 0) = S := a1.s.trans hS
        have s0 : M' (9, 0, 1, 0) 0 = S 0 := by rw [s1]
        have s14 : M' (9, 0, 1, 0) 14 = S 14 := by rw [s1]
        have t14 : 0 ≤ S 14 ∧ S 14 < S 0 := h.2.2.2.1 0 (by decide) (by omega)
        have nxt : flT (fun t st => ful S first (j - 1) (e + 1) (upS tau e t) st) (t + 1) st = ful S first (j - 1) (e + 1) (upS tau e t) (flT (fun t st => ful S first (j - 1) (e + 1) (upS tau e t) st) t st) := rfl
        have skip : ¬ VL S (upS tau e t) e → AW X K 71 [aR (9, 0, 0, 0), aI e, aI (cPar S tau e), aI first, aI ((t + 1 : Nat) : Int)] [] (M', R0 b) 0 Q9 := fun z => by
          have e2 := nxt.trans (ful_skip eE z)
          exact ih2 (t + 1) M' (by omega) a1 (by rw [e2]; exact a2) a3 (by rw [e2]; exact a4)
        have g17 : Agr (S 1) (M' (9, 0, 17, 0)) (tgS S) := by rw [a1.g]; exact hg
        have tr2 : ∀ a, 0 ≤ a → a < ((e + 1 : Nat) : Int) → updM M' (9, 0, 26, 0) e t (9, 0, 26, 0) a = upS tau e t a ∧ 0 ≤ upS tau e t a ∧ upS tau e t a < S 0 := fun a a0 q => by
          by_cases z : a = e
          · rw [z, upd_same, upS_same]; exact ⟨rfl, by omega, by omega⟩
          · rw [upd_ne (Or.inr z), upS_ne z, a3 a a0 (by omega)]; exact ⟨rfl, (htr a a0 (by omega)).2⟩
        have cs : cPar S tau e + cA S (upS tau e t) e = cPar S (upS tau e t) (e + 1) := by
          show _ = cPar S (upS tau e t) e + cA S (upS tau e t) e
          rw [cPar_agr h e (fun a a0 a1 => upS_ne (show a ≠ e by omega))]
        have fe : (e : Int) = 0 → (t : Int) = S 14 ∨ ¬ VL S (upS tau e t) e := fun z => by
          by_cases y : (t : Int) = S 14
          · exact Or.inl y
          · exact Or.inr (fun w => y (by
              have w1 := w.1 z
              rw [z, upS_same] at w1
              exact w1))
        have vle : ((e : Int) = 0 → (t : Int) = S 14) → (∀ a, 0 ≤ a → a < (e : Int) → bit (tgS S (6 * a + e)) ((((t : Int) - tau a) % S 0).toNat) = true) → VL S (upS tau e t) e := fun q1 q2 => ⟨fun z => by
          have := q1 z
          rw [z, upS_same]; exact this, fun a a0 q => by rw [upS_same, upS_ne (by omega)]; exact q2 a a0 q⟩
        have vln : VL S (upS tau e t) e → ∀ a, 0 ≤ a → a < (e : Int) → bit (tgS S (6 * a + e)) ((((t : Int) - tau a) % S 0).toNat) = true := fun w a a0 q => by
          have := w.2 a a0 q
          rw [upS_same, upS_ne (by omega)] at this
          exact this
        have go : ((e : Int) = 0 → (t : Int) = S 14) → AW X K 98 [aR (9, 0, 0, 0), aI e, aI (cPar S tau e), aI first, aI t] [] (M', R0 b) 0 Q9 := by
          intro h14
          refine aw_aload0 (pc := 98) F dX9_tries_98 ?_
          refine aw_iload1 (pc := 99) F dX9_tries_99 ?_
          refine aw_iload4 (pc := 100) F dX9_tries_100 ?_
          refine aw_callVI2 (pc := 102) F dX9_tries_102 ml_9_323 rfl (by first | decide | (simp only [inB, cnt, rcnt]; omega)) (ct9_fits _ _ S tau e _ s1 h g17 eE (by omega) (fun a a0 q => ⟨a3 a a0 q, (htr a a0 q).2⟩)) (Nat.le_of_ble_eq_true rfl) (by omega) (Nat.zero_le _) (fun v9 σ9 h9_102 => ?_)
          obtain ⟨hv9, h9⟩ := h9_102
          subst h9
          have hvb := isB_bd hv9
          refine aw_if_ne (tgt := 111) (pc := 105) F dX9_tries_105 (by decide) (by unfold inR; omega) (fun c105 => ?_) (fun c105 => ?_)
          · refine aw_aload0 (pc := 111) F dX9_tries_111 ?_
            refine aw_getR (pc := 112) F dX9_tries_112 fl_9_45 rfl (by first | decide | (simp only [inB, cnt, rcnt]; omega)) rfl nz25 rfl ?_
            refine aw_iload1 (pc := 115) F dX9_tries_115 ?_
            refine aw_iload4 (pc := 116) F dX9_tries_116 ?_
            refine aw_iast (pc := 118) F dX9_tries_118 rfl (by first | decide | (simp only [inB, cnt, rcnt]; omega)) (by omega) ?_
            have vl := vle h14 (hv9.resolve_left (fun y => c105 y.1)).2
            refine aw_aload0 (pc := 119) F dX9_tries_119 ?_
            refine aw_iload1 (pc := 120) F dX9_tries_120 ?_
            refine aw_iconst (pc := 121) F dX9_tries_121 ?_
            refine aw_iadd (pc := 122) F dX9_tries_122 ?_
            refine aw_iload2 (pc := 123) F dX9_tries_123 ?_
            refine aw_aload0 (pc := 124) F dX9_tries_124 ?_
            refine aw_iload1 (pc := 125) F dX9_tries_125 ?_
            refine aw_pcallV1 (pc := 126) F dX9_tries_126 ml_9_326 rfl (by first | decide | (simp only [inB, cnt, rcnt]; omega)) (ct9_costAt _ _ S (upS tau e t) e (by rw [upd_off (by decide)]; exact s1) h eE (fun a a0 q => tr2 a a0 (by omega))) (Nat.le_of_ble_eq_true rfl) (by omega) (Nat.zero_le _) ?_
            refine aw_iadd (pc := 129) F dX9_tries_129 ?_
            refine aw_iload3 (pc := 130) F dX9_tries_130 ?_
            rw [cs]
            refine aw_callVI3 (pc := 131) F dX9_tries_131 ml_9_329 rfl (by first | decide | (simp only [inB, cnt, rcnt]; omega)) (ih (e + 1) (updM M' (9, 0, 26, 0) e t) (upS tau e t) (flT (fun t st => ful S first (j - 1) (e + 1) (upS tau e t) st) t st) (by omega) (by rw [upd_off (by decide)]; exact s1) (by rw [upd_off (by decide)]; exact g17) (by omega) tr2 (fun a a0 q => by
              by_cases z : a = e
              · rw [z]; exact vl
              · exact (VL_agr a0 (fun x x0 x1 => upS_ne (by omega))).mpr (hv a a0 (by omega))) ⟨by rw [upd_ne (Or.inl (by decide))]; exact a2.1, a2.2.1, by rw [upd_off (by decide)]; exact a2.2.2⟩ a4) (Nat.le_of_ble_eq_true rfl) (by omega) (Nat.zero_le _) (fun v9 σ9 h9_131 => ?_)
            obtain ⟨M2, h9, d1, d2, d3, d4⟩ := h9_131
            subst h9
            rw [show (S 1).toNat - (e + 1) = j - 1 by omega, ← nxt] at d2 d4
            have c9 : chS M M2 := (a1.up (Or.inr (Or.inl rfl))).tr d1
            have d5 : ∀ a, 0 ≤ a → a < (e : Int) → M2 (9, 0, 26, 0) a = tau a := fun a a0 q => by rw [d3 a a0 (by omega), upS_ne (by omega)]
            refine aw_if_eq (tgt := 139) (pc := 134) F dX9_tries_134 (by decide) (by unfold inR; omega) (fun c134 => ?_) (fun c134 => ?_)
            · refine aw_iinc4 (pc := 139) F dX9_tries_139 rfl hk.symm ?_
              refine aw_goto (tgt := 71) (pc := 142) F dX9_tries_142 (by decide) ?_
              first | exact skip (fun w => (hv9.resolve_right (fun y => by omega)).2 (vln w)) | exact ih2 (t + 1) M2 (by omega) c9 d2 d5 (d4.resolve_left (fun y => by omega)).2
            · refine aw_iconst (pc := 137) F dX9_tries_137 ?_
              rw [hQ]
              exact aw_iret (pc := 138) F dX9_tries_138 (nar_bool (by first | exact b2i_01 | decide)) (Nat.zero_le _) (by
                obtain ⟨-, y1, y2⟩ := d4.resolve_right (fun y => c134 y.1)
                have fs : ful S first j e tau st = flT (fun t st => ful S first (j - 1) (e + 1) (upS tau e t) st) (t + 1) st := by
                  rw [eful]
                  refine flT_stop _ (by omega) rfl (fun i i0 i1 => ?_)
                  exact ful_id _ _ _ (fun _ _ _ _ w => w.elim y2 (fun w => y1 w.1))
                rw [fs]
                exact ⟨M2, rfl, c9, d2, d5, Or.inl ⟨rfl, y1, y2⟩⟩)
          · refine aw_goto (tgt := 139) (pc := 108) F dX9_tries_108 (by decide) ?_
            refine aw_iinc4 (pc := 139) F dX9_tries_139 rfl hk.symm ?_
            refine aw_goto (tgt := 71) (pc := 142) F dX9_tries_142 (by decide) ?_
            first | exact skip (fun w => (hv9.resolve_right (fun y => by omega)).2 (vln w)) | exact ih2 (t + 1) M2 (by omega) c9 d2 d5 (d4.resolve_left (fun y => by omega)).2
        refine aw_iload4 (pc := 71) F dX9_tries_71 ?_
        refine aw_aload0 (pc := 73) F dX9_tries_73 ?_
        refine aw_getR (pc := 74) F dX9_tries_74 fl_9_7 rfl (by first | decide | (simp only [inB, cnt, rcnt]; omega)) rfl nz0 rfl ?_
        refine aw_iconst (pc := 77) F dX9_tries_77 ?_
        refine aw_iald (pc := 78) F dX9_tries_78 rfl (by first | decide | (simp only [inB, cnt, rcnt]; omega)) (by omega) ?_
        refine aw_icmp_ge (tgt := 145) (pc := 79) F dX9_tries_79 (by decide) (by unfold inR; omega) (by unfold inR; omega) (fun c79 => ?_) (fun c79 => ?_)
        · omega
        · refine aw_iload1 (pc := 82) F dX9_tries_82 ?_
          refine aw_if_ne (tgt := 98) (pc := 83) F dX9_tries_83 (by decide) (by unfold inR; omega) (fun c83 => ?_) (fun c83 => ?_)
          · exact go (fun z => by first | omega | exact absurd z c83)
          · refine aw_iload4 (pc := 86) F dX9_tries_86 ?_
            refine aw_aload0 (pc := 88) F dX9_tries_88 ?_
            refine aw_getR (pc := 89) F dX9_tries_89 fl_9_7 rfl (by first | decide | (simp only [inB, cnt, rcnt]; omega)) rfl nz0 rfl ?_
            refine aw_bipush (pc := 92) F dX9_tries_92 (by decide) ?_
            refine aw_iald (pc := 94) F dX9_tries_94 rfl (by first | decide | (simp only [inB, cnt, rcnt]; omega)) (by omega) ?_
            refine aw_icmp_ne (tgt := 139) (pc := 95) F dX9_tries_95 (by decide) (by unfold inR; omega) (by unfold inR; omega) (fun c95 => ?_) (fun c95 => ?_)
            · refine aw_iinc4 (pc := 139) F dX9_tries_139 rfl hk.symm ?_
              refine aw_goto (tgt := 71) (pc := 142) F dX9_tries_142 (by decide) ?_
              exact skip ((fe c83).resolve_left (fun z => c95 (by omega)))
            · exact go (fun z => by first | omega | exact absurd z c83)
    refine aw_aload0 (pc := 0) F dX9_tries_0 ?_
    refine aw_getI (pc := 1) F dX9_tries_1 fl_9_320 rfl (by first | decide | (simp only [inB, cnt, rcnt]; omega)) rfl nz27 ?_
    refine aw_if_lt (tgt := 17) (pc := 4) F dX9_tries_4 (by decide) (by unfold inR; omega) (fun c4 => ?_) (fun c4 => ?_)
    · refine aw_iload1 (pc := 17) F dX9_tries_17 ?_
      refine aw_aload0 (pc := 18) F dX9_tries_18 ?_
      refine aw_getR (pc := 19) F dX9_tries_19 fl_9_7 rfl (by first | decide | (simp only [inB, cnt, rcnt]; omega)) rfl nz0 rfl ?_
      refine aw_iconst (pc := 22) F dX9_tries_22 ?_
      refine aw_iald (pc := 23) F dX9_tries_23 rfl (by first | decide | (simp only [inB, cnt, rcnt]; omega)) (by omega) ?_
      refine aw_icmp_lt (tgt := 68) (pc := 24) F dX9_tries_24 (by decide) (by unfold inR; omega) (by unfold inR; omega) (fun c24 => ?_) (fun c24 => ?_)
      · refine aw_iconst (pc := 68) F dX9_tries_68 ?_
        refine aw_istore4 (pc := 69) F dX9_tries_69 rfl hk.symm ?_
        rw [← hQ]
        exact loop (by omega) (S 0).toNat 0 M (by omega) chS.rf hst (fun a a0 a1 => (htr a a0 a1).1) hfi
      · refine aw_aload0 (pc := 27) F dX9_tries_27 ?_
        refine aw_iload2 (pc := 28) F dX9_tries_28 ?_
        refine aw_putI (pc := 29) F dX9_tries_29 fl_9_320 fpi_9_27 rfl (by first | decide | (simp only [inB, cnt, rcnt]; omega)) rfl nz27 ?_
        refine aw_iconst (pc := 32) F dX9_tries_32 ?_
        refine aw_istore4 (pc := 33) F dX9_tries_33 rfl hk.symm ?_
        rw [← hQ]
        exact leaf (by omega) (by omega) e 0 _ (by omega) (chS.rf.up (Or.inl ⟨rfl, rfl⟩)) upd_same (by rw [upd_off (by decide)]) (fun a a0 a1 => absurd a1 (by omega))
    · refine aw_iload2 (pc := 7) F dX9_tries_7 ?_
      refine aw_aload0 (pc := 8) F dX9_tries_8 ?_
      refine aw_getI (pc := 9) F dX9_tries_9 fl_9_320 rfl (by first | decide | (simp only [inB, cnt, rcnt]; omega)) rfl nz27 ?_
      refine aw_icmp_lt (tgt := 17) (pc := 12) F dX9_tries_12 (by decide) (by unfold inR; omega) (by unfold inR; omega) (fun c12 => ?_) (fun c12 => ?_)
      · refine aw_iload1 (pc := 17) F dX9_tries_17 ?_
        refine aw_aload0 (pc := 18) F dX9_tries_18 ?_
        refine aw_getR (pc := 19) F dX9_tries_19 fl_9_7 rfl (by first | decide | (simp only [inB, cnt, rcnt]; omega)) rfl nz0 rfl ?_
        refine aw_iconst (pc := 22) F dX9_tries_22 ?_
        refine aw_iald (pc := 23) F dX9_tries_23 rfl (by first | decide | (simp only [inB, cnt, rcnt]; omega)) (by omega) ?_
        refine aw_icmp_lt (tgt := 68) (pc := 24) F dX9_tries_24 (by decide) (by unfold inR; omega) (by unfold inR; omega) (fun c24 => ?_) (fun c24 => ?_)
        · refine aw_iconst (pc := 68) F dX9_tries_68 ?_
          refine aw_istore4 (pc := 69) F dX9_tries_69 rfl hk.symm ?_
          rw [← hQ]
          exact loop (by omega) (S 0).toNat 0 M (by omega) chS.rf hst (fun a a0 a1 => (htr a a0 a1).1) hfi
        · refine aw_aload0 (pc := 27) F dX9_tries_27 ?_
          refine aw_iload2 (pc := 28) F dX9_tries_28 ?_
          refine aw_putI (pc := 29) F dX9_tries_29 fl_9_320 fpi_9_27 rfl (by first | decide | (simp only [inB, cnt, rcnt]; omega)) rfl nz27 ?_
          refine aw_iconst (pc := 32) F dX9_tries_32 ?_
          refine aw_istore4 (pc := 33) F dX9_tries_33 rfl hk.symm ?_
          rw [← hQ]
          exact leaf (by omega) (by omega) e 0 _ (by omega) (chS.rf.up (Or.inl ⟨rfl, rfl⟩)) upd_same (by rw [upd_off (by decide)]) (fun a a0 a1 => absurd a1 (by omega))
      · refine aw_iconst (pc := 15) F dX9_tries_15 ?_
        exact aw_iret (pc := 16) F dX9_tries_16 (nar_bool (by first | exact b2i_01 | decide)) (Nat.zero_le _) ⟨M, rfl, chS.rf, by rw [hpr (by omega) (by omega)]; exact hst, fun a a0 a1 => (htr a a0 a1).1, by rw [hpr (by omega) (by omega)]; exact Or.inr ⟨rfl, hfi⟩⟩
