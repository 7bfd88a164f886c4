/-! 44: the reference improves -/
theorem ct9_tellsMove (M : Id4 → Int → Int) (b : Bool) (S : Int → Int) (e t : Int) (hS : M (9, 0, 1, 0) = S) (h : Ok S) (he : 0 ≤ e ∧ e < S 1) (ht : 0 ≤ t ∧ t < S 0) (i1 : inR (M (9, 0, 0, 0) 28)) (i2 : ¬ M (9, 0, 0, 0) 28 = -1 → inR (M (9, 0, 0, 0) 30) ∧ inR (M (9, 0, 0, 0) 31)) : CtV 6 0 yX9_tellsMove cX9_tellsMove 6 none [aR (9, 0, 0, 0), aI e, aI t] (M, R0 b) (fun σ' => (M (9, 0, 0, 0) 28 = -1 ∨ brk (upS S (14 + e) t) < M (9, 0, 0, 0) 30 ∨ (brk (upS S (14 + e) t) = M (9, 0, 0, 0) 30 ∧ cst (upS S (14 + e) t) < M (9, 0, 0, 0) 31) → σ' = (updM (updM (updM (updM M (9, 0, 0, 0) 28 e) (9, 0, 0, 0) 29 t) (9, 0, 0, 0) 30 (brk (upS S (14 + e) t))) (9, 0, 0, 0) 31 (cst (upS S (14 + e) t)), R0 b)) ∧ (¬ (M (9, 0, 0, 0) 28 = -1 ∨ brk (upS S (14 + e) t) < M (9, 0, 0, 0) 30 ∨ (brk (upS S (14 + e) t) = M (9, 0, 0, 0) 30 ∧ cst (upS S (14 + e) t) < M (9, 0, 0, 0) 31)) → σ' = (M, R0 b))) := by
  refine CtV.mk (by decide +kernel) rfl (Nat.le_of_ble_eq_true rfl) (fun X K F hk => ?_)
  have hE := h.2.1
  have s1 : updM M (9, 0, 1, 0) (14 + e) t (9, 0, 1, 0) = upS S (14 + e) t := by rw [upd_row, hS]
  have ho := ok_time h he ht
  have b3 := brk_bd ho
  have b4 := cst_bd ho
  have g1 := ct9_brokenMany (updM M (9, 0, 1, 0) (14 + e) t) b (by rw [s1]; exact ho)
  have g2 := ct9_costNow (updM M (9, 0, 1, 0) (14 + e) t) b (by rw [s1]; exact ho)
  rw [s1] at g1 g2
  refine aw_aload0 (pc := 0) F dX9_tellsMove_0 ?_
  refine aw_getR (pc := 1) F dX9_tellsMove_1 fl_9_7 rfl (by first | decide | (simp only [inB, cnt, rcnt]; omega)) rfl nz0 rfl ?_
  refine aw_bipush (pc := 4) F dX9_tellsMove_4 (by decide) ?_
  refine aw_iload1 (pc := 6) F dX9_tellsMove_6 ?_
  refine aw_iadd (pc := 7) F dX9_tellsMove_7 ?_
  refine aw_iald (pc := 8) F dX9_tellsMove_8 rfl (by first | decide | (simp only [inB, cnt, rcnt]; omega)) (by omega) ?_
  refine aw_istore3 (pc := 9) F dX9_tellsMove_9 rfl hk.symm ?_
  refine aw_aload0 (pc := 10) F dX9_tellsMove_10 ?_
  refine aw_getR (pc := 11) F dX9_tellsMove_11 fl_9_7 rfl (by first | decide | (simp only [inB, cnt, rcnt]; omega)) rfl nz0 rfl ?_
  refine aw_bipush (pc := 14) F dX9_tellsMove_14 (by decide) ?_
  refine aw_iload1 (pc := 16) F dX9_tellsMove_16 ?_
  refine aw_iadd (pc := 17) F dX9_tellsMove_17 ?_
  refine aw_iload2 (pc := 18) F dX9_tellsMove_18 ?_
  refine aw_iast (pc := 19) F dX9_tellsMove_19 rfl (by first | decide | (simp only [inB, cnt, rcnt]; omega)) (by omega) ?_
  refine aw_aload0 (pc := 20) F dX9_tellsMove_20 ?_
  refine aw_pcallV0 (pc := 21) F dX9_tellsMove_21 ml_9_218 rfl (by first | decide | (simp only [inB, cnt, rcnt]; omega)) g1 (Nat.le_of_ble_eq_true rfl) (by decide) (Nat.zero_le _) ?_
  refine aw_istore4 (pc := 24) F dX9_tellsMove_24 rfl hk.symm ?_
  refine aw_aload0 (pc := 26) F dX9_tellsMove_26 ?_
  refine aw_pcallV0 (pc := 27) F dX9_tellsMove_27 ml_9_221 rfl (by first | decide | (simp only [inB, cnt, rcnt]; omega)) g2 (Nat.le_of_ble_eq_true rfl) (by decide) (Nat.zero_le _) ?_
  refine aw_istore5 (pc := 30) F dX9_tellsMove_30 rfl hk.symm ?_
  refine aw_aload0 (pc := 32) F dX9_tellsMove_32 ?_
  refine aw_getR (pc := 33) F dX9_tellsMove_33 fl_9_7 rfl (by first | decide | (simp only [inB, cnt, rcnt]; omega)) rfl nz0 rfl ?_
  refine aw_bipush (pc := 36) F dX9_tellsMove_36 (by decide) ?_
  refine aw_iload1 (pc := 38) F dX9_tellsMove_38 ?_
  refine aw_iadd (pc := 39) F dX9_tellsMove_39 ?_
  refine aw_iload3 (pc := 40) F dX9_tellsMove_40 ?_
  refine aw_iast (pc := 41) F dX9_tellsMove_41 rfl (by first | decide | (simp only [inB, cnt, rcnt]; omega)) (by omega) ?_
  rw [upd_upd, upd_id]
  refine aw_aload0 (pc := 42) F dX9_tellsMove_42 ?_
  refine aw_getI (pc := 43) F dX9_tellsMove_43 fl_9_365 rfl (by first | decide | (simp only [inB, cnt, rcnt]; omega)) rfl nz28 ?_
  refine aw_iconst (pc := 46) F dX9_tellsMove_46 ?_
  refine aw_icmp_eq (tgt := 77) (pc := 47) F dX9_tellsMove_47 (by decide) (by first | exact i1 | (unfold inR; decide)) (by first | exact i1 | (unfold inR; decide)) (fun c47 => ?_) (fun c47 => ?_)
  · refine aw_aload0 (pc := 77) F dX9_tellsMove_77 ?_
    refine aw_iload1 (pc := 78) F dX9_tellsMove_78 ?_
    refine aw_putI (pc := 79) F dX9_tellsMove_79 fl_9_365 fpi_9_28 rfl (by first | decide | (simp only [inB, cnt, rcnt]; omega)) rfl nz28 ?_
    refine aw_aload0 (pc := 82) F dX9_tellsMove_82 ?_
    refine aw_iload2 (pc := 83) F dX9_tellsMove_83 ?_
    refine aw_putI (pc := 84) F dX9_tellsMove_84 fl_9_374 fpi_9_29 rfl (by first | decide | (simp only [inB, cnt, rcnt]; omega)) rfl nz29 ?_
    refine aw_aload0 (pc := 87) F dX9_tellsMove_87 ?_
    refine aw_iload4 (pc := 88) F dX9_tellsMove_88 ?_
    refine aw_putI (pc := 90) F dX9_tellsMove_90 fl_9_368 fpi_9_30 rfl (by first | decide | (simp only [inB, cnt, rcnt]; omega)) rfl nz30 ?_
    refine aw_aload0 (pc := 93) F dX9_tellsMove_93 ?_
    refine aw_iload5 (pc := 94) F dX9_tellsMove_94 ?_
    refine aw_putI (pc := 96) F dX9_tellsMove_96 fl_9_371 fpi_9_31 rfl (by first | decide | (simp only [inB, cnt, rcnt]; omega)) rfl nz31 ?_
    exact aw_vret (pc := 99) F dX9_tellsMove_99 (Nat.zero_le _) (by first | exact ⟨fun _ => rfl, fun z => absurd (Or.inl c47) z⟩ | exact ⟨fun _ => rfl, fun z => absurd (Or.inr (Or.inl c56)) z⟩ | exact ⟨fun _ => rfl, fun z => absurd (Or.inr (Or.inr ⟨c65, c74⟩)) z⟩ | exact ⟨fun z => z.elim (fun y => absurd y c47) (fun y => y.elim (fun x => absurd x (Int.not_lt.mpr c56)) (fun x => absurd x.1 c65)), fun _ => rfl⟩ | exact ⟨fun z => z.elim (fun y => absurd y c47) (fun y => y.elim (fun x => absurd x (Int.not_lt.mpr c56)) (fun x => absurd x.2 (Int.not_lt.mpr c74))), fun _ => rfl⟩)
  · refine aw_iload4 (pc := 50) F dX9_tellsMove_50 ?_
    refine aw_aload0 (pc := 52) F dX9_tellsMove_52 ?_
    refine aw_getI (pc := 53) F dX9_tellsMove_53 fl_9_368 rfl (by first | decide | (simp only [inB, cnt, rcnt]; omega)) rfl nz30 ?_
    refine aw_icmp_lt (tgt := 77) (pc := 56) F dX9_tellsMove_56 (by decide) (by first | exact (i2 c47).1 | (unfold inR; omega)) (by first | exact (i2 c47).1 | (unfold inR; omega)) (fun c56 => ?_) (fun c56 => ?_)
    · refine aw_aload0 (pc := 77) F dX9_tellsMove_77 ?_
      refine aw_iload1 (pc := 78) F dX9_tellsMove_78 ?_
      refine aw_putI (pc := 79) F dX9_tellsMove_79 fl_9_365 fpi_9_28 rfl (by first | decide | (simp only [inB, cnt, rcnt]; omega)) rfl nz28 ?_
      refine aw_aload0 (pc := 82) F dX9_tellsMove_82 ?_
      refine aw_iload2 (pc := 83) F dX9_tellsMove_83 ?_
      refine aw_putI (pc := 84) F dX9_tellsMove_84 fl_9_374 fpi_9_29 rfl (by first | decide | (simp only [inB, cnt, rcnt]; omega)) rfl nz29 ?_
      refine aw_aload0 (pc := 87) F dX9_tellsMove_87 ?_
      refine aw_iload4 (pc := 88) F dX9_tellsMove_88 ?_
      refine aw_putI (pc := 90) F dX9_tellsMove_90 fl_9_368 fpi_9_30 rfl (by first | decide | (simp only [inB, cnt, rcnt]; omega)) rfl nz30 ?_
      refine aw_aload0 (pc := 93) F dX9_tellsMove_93 ?_
      refine aw_iload5 (pc := 94) F dX9_tellsMove_94 ?_
      refine aw_putI (pc := 96) F dX9_tellsMove_96 fl_9_371 fpi_9_31 rfl (by first | decide | (simp only [inB, cnt, rcnt]; omega)) rfl nz31 ?_
      exact aw_vret (pc := 99) F dX9_tellsMove_99 (Nat.zero_le _) (by first | exact ⟨fun _ => rfl, fun z => absurd (Or.inl c47) z⟩ | exact ⟨fun _ => rfl, fun z => absurd (Or.inr (Or.inl c56)) z⟩ | exact ⟨fun _ => rfl, fun z => absurd (Or.inr (Or.inr ⟨c65, c74⟩)) z⟩ | exact ⟨fun z => z.elim (fun y => absurd y c47) (fun y => y.elim (fun x => absurd x (Int.not_lt.mpr c56)) (fun x => absurd x.1 c65)), fun _ => rfl⟩ | exact ⟨fun z => z.elim (fun y => absurd y c47) (fun y => y.elim (fun x => absurd x (Int.not_lt.mpr c56)) (fun x => absurd x.2 (Int.not_lt.mpr c74))), fun _ => rfl⟩)
    · refine aw_iload4 (pc := 59) F dX9_tellsMove_59 ?_
      refine aw_aload0 (pc := 61) F dX9_tellsMove_61 ?_
      refine aw_getI (pc := 62) F dX9_tellsMove_62 fl_9_368 rfl (by first | decide | (simp only [inB, cnt, rcnt]; omega)) rfl nz30 ?_
      refine aw_icmp_ne (tgt := 99) (pc := 65) F dX9_tellsMove_65 (by decide) (by first | exact (i2 c47).1 | (unfold inR; omega)) (by first | exact (i2 c47).1 | (unfold inR; omega)) (fun c65 => ?_) (fun c65 => ?_)
      · exact aw_vret (pc := 99) F dX9_tellsMove_99 (Nat.zero_le _) (by first | exact ⟨fun _ => rfl, fun z => absurd (Or.inl c47) z⟩ | exact ⟨fun _ => rfl, fun z => absurd (Or.inr (Or.inl c56)) z⟩ | exact ⟨fun _ => rfl, fun z => absurd (Or.inr (Or.inr ⟨c65, c74⟩)) z⟩ | exact ⟨fun z => z.elim (fun y => absurd y c47) (fun y => y.elim (fun x => absurd x (Int.not_lt.mpr c56)) (fun x => absurd x.1 c65)), fun _ => rfl⟩ | exact ⟨fun z => z.elim (fun y => absurd y c47) (fun y => y.elim (fun x => absurd x (Int.not_lt.mpr c56)) (fun x => absurd x.2 (Int.not_lt.mpr c74))), fun _ => rfl⟩)
      · refine aw_iload5 (pc := 68) F dX9_tellsMove_68 ?_
        refine aw_aload0 (pc := 70) F dX9_tellsMove_70 ?_
        refine aw_getI (pc := 71) F dX9_tellsMove_71 fl_9_371 rfl (by first | decide | (simp only [inB, cnt, rcnt]; omega)) rfl nz31 ?_
        refine aw_icmp_ge (tgt := 99) (pc := 74) F dX9_tellsMove_74 (by decide) (by first | exact (i2 c47).2 | (unfold inR; omega)) (by first | exact (i2 c47).2 | (unfold inR; omega)) (fun c74 => ?_) (fun c74 => ?_)
        · exact aw_vret (pc := 99) F dX9_tellsMove_99 (Nat.zero_le _) (by first | exact ⟨fun _ => rfl, fun z => absurd (Or.inl c47) z⟩ | exact ⟨fun _ => rfl, fun z => absurd (Or.inr (Or.inl c56)) z⟩ | exact ⟨fun _ => rfl, fun z => absurd (Or.inr (Or.inr ⟨c65, c74⟩)) z⟩ | exact ⟨fun z => z.elim (fun y => absurd y c47) (fun y => y.elim (fun x => absurd x (Int.not_lt.mpr c56)) (fun x => absurd x.1 c65)), fun _ => rfl⟩ | exact ⟨fun z => z.elim (fun y => absurd y c47) (fun y => y.elim (fun x => absurd x (Int.not_lt.mpr c56)) (fun x => absurd x.2 (Int.not_lt.mpr c74))), fun _ => rfl⟩)
        · refine aw_aload0 (pc := 77) F dX9_tellsMove_77 ?_
          refine aw_iload1 (pc := 78) F dX9_tellsMove_78 ?_
          refine aw_putI (pc := 79) F dX9_tellsMove_79 fl_9_365 fpi_9_28 rfl (by first | decide | (simp only [inB, cnt, rcnt]; omega)) rfl nz28 ?_
          refine aw_aload0 (pc := 82) F dX9_tellsMove_82 ?_
          refine aw_iload2 (pc := 83) F dX9_tellsMove_83 ?_
          refine aw_putI (pc := 84) F dX9_tellsMove_84 fl_9_374 fpi_9_29 rfl (by first | decide | (simp only [inB, cnt, rcnt]; omega)) rfl nz29 ?_
          refine aw_aload0 (pc := 87) F dX9_tellsMove_87 ?_
          refine aw_iload4 (pc := 88) F dX9_tellsMove_88 ?_
          refine aw_putI (pc := 90) F dX9_tellsMove_90 fl_9_368 fpi_9_30 rfl (by first | decide | (simp only [inB, cnt, rcnt]; omega)) rfl nz30 ?_
          refine aw_aload0 (pc := 93) F dX9_tellsMove_93 ?_
          refine aw_iload5 (pc := 94) F dX9_tellsMove_94 ?_
          refine aw_putI (pc := 96) F dX9_tellsMove_96 fl_9_371 fpi_9_31 rfl (by first | decide | (simp only [inB, cnt, rcnt]; omega)) rfl nz31 ?_
          exact aw_vret (pc := 99) F dX9_tellsMove_99 (Nat.zero_le _) (by first | exact ⟨fun _ => rfl, fun z => absurd (Or.inl c47) z⟩ | exact ⟨fun _ => rfl, fun z => absurd (Or.inr (Or.inl c56)) z⟩ | exact ⟨fun _ => rfl, fun z => absurd (Or.inr (Or.inr ⟨c65, c74⟩)) z⟩ | exact ⟨fun z => z.elim (fun y => absurd y c47) (fun y => y.elim (fun x => absurd x (Int.not_lt.mpr c56)) (fun x => absurd x.1 c65)), fun _ => rfl⟩ | exact ⟨fun z => z.elim (fun y => absurd y c47) (fun y => y.elim (fun x => absurd x (Int.not_lt.mpr c56)) (fun x => absurd x.2 (Int.not_lt.mpr c74))), fun _ => rfl⟩)
/-- the reference's best move so far -/
def mvOk (S : Int → Int) (m : Nat) (M : Id4 → Int → Int) : Prop := M (9, 0, 0, 0) 28 = (rfN S m).1 ∧ (¬ (rfN S m).1 = -1 → M (9, 0, 0, 0) 29 = (rfN S m).2 ∧ M (9, 0, 0, 0) 30 = brk (cand S (rfN S m)) ∧ M (9, 0, 0, 0) 31 = cst (cand S (rfN S m)))
theorem ct9_laysMove (M : Id4 → Int → Int) (b : Bool) (S : Int → Int) (hS : M (9, 0, 1, 0) = S) (h : Ok S) : CtI 7 0 yX9_laysMove cX9_laysMove 3 (some .boolean) [aR (9, 0, 0, 0)] (M, R0 b) (fun v σ' => v = b2i (bet S) ∧ ∃ M', σ' = (M', R0 b) ∧ same9 M M' ∧ M' (9, 0, 0, 0) 4 = M (9, 0, 0, 0) 4 ∧ (bet S → M' (9, 0, 0, 0) 28 = (bmS S).1 ∧ M' (9, 0, 0, 0) 29 = (bmS S).2)) := by
  refine CtI.mk (by decide +kernel) rfl (Nat.le_of_ble_eq_true rfl) (fun X K F hk => ?_)
  have hT := h.1
  have hE := h.2.1
  obtain ⟨T, eT⟩ : ∃ T : Nat, S 0 = (T : Int) := ⟨(S 0).toNat, by omega⟩
  obtain ⟨E, eE⟩ : ∃ E : Nat, S 1 = (E : Int) := ⟨(S 1).toNat, by omega⟩
  have tT : (S 0).toNat = T := by omega
  have tE : (S 1).toNat = E := by omega
  have cok : ∀ m, m ≤ T * E → Ok (cand S (rfN S m)) := fun m hm => cand_ok h (rfN_bd h m (by rw [tT, tE]; exact hm))
  have i28 : ∀ m, m ≤ T * E → inR (rfN S m).1 := fun m hm => by
    rcases rfN_bd h m (by rw [tT, tE]; exact hm) with z | z
    · rw [z]; unfold inR; decide
    · unfold inR; omega
  obtain ⟨Q9, hQ⟩ : ∃ Q9, Q9 = EI X K 0 (fun v σ' => v = b2i (bet S) ∧ ∃ M', σ' = (M', R0 b) ∧ same9 M M' ∧ M' (9, 0, 0, 0) 4 = M (9, 0, 0, 0) 4 ∧ (bet S → M' (9, 0, 0, 0) 28 = (bmS S).1 ∧ M' (9, 0, 0, 0) 29 = (bmS S).2)) := ⟨_, rfl⟩
  have keyB : ∀ (e : Nat), e < E → (∀ (M' : Id4 → Int → Int) (w : AV), wide w = false → same9 M M' → M' (9, 0, 0, 0) 4 = M (9, 0, 0, 0) 4 → mvOk S (T * (e + 1)) M' → AW X K 7 [aR (9, 0, 0, 0), aI ((e + 1 : Nat) : Int), w] [] (M', R0 b) 0 Q9) → ∀ (j t : Nat) (M' : Id4 → Int → Int), t + j = T → same9 M M' → M' (9, 0, 0, 0) 4 = M (9, 0, 0, 0) 4 → mvOk S (T * e + t) M' → AW X K 19 [aR (9, 0, 0, 0), aI e, aI t] [] (M', R0 b) 0 Q9 := by
    intro e he cont j
    have hm : T * e + T ≤ T * E := by rw [← Nat.mul_succ]; exact Nat.mul_le_mul_left T he
    induction j with
    | zero =>
      intro t M' ht a1 a2 a3
      obtain rfl : t = T := by omega
      have s0 : M' (9, 0, 1, 0) 0 = S 0 := by rw [a1.s, hS]
      refine aw_iload2 (pc := 19) F dX9_laysMove_19 ?_
      refine aw_aload0 (pc := 20) F dX9_laysMove_20 ?_
      refine aw_getR (pc := 21) F dX9_laysMove_21 fl_9_7 rfl (by first | decide | (simp only [inB, cnt, rcnt]; omega)) rfl nz0 rfl ?_
      refine aw_iconst (pc := 24) F dX9_laysMove_24 ?_
      refine aw_iald (pc := 25) F dX9_laysMove_25 rfl (by first | decide | (simp only [inB, cnt, rcnt]; omega)) (by omega) ?_
      refine aw_icmp_ge (tgt := 41) (pc := 26) F dX9_laysMove_26 (by decide) (by unfold inR; omega) (by unfold inR; omega) (fun c26 => ?_) (fun c26 => ?_)
      · refine aw_iinc1 (pc := 41) F dX9_laysMove_41 rfl hk.symm ?_
        refine aw_goto (tgt := 7) (pc := 44) F dX9_laysMove_44 (by decide) ?_
        exact cont M' _ rfl a1 a2 a3
      · omega
    | succ j ih =>
      intro t M' ht a1 a2 a3
      have s1 : M' (9, 0, 1, 0) = S := a1.s.trans hS
      have s0 : M' (9, 0, 1, 0) 0 = S 0 := by rw [s1]
      have ho := ok_time (e := e) (t := t) h (by omega) (by omega)
      obtain ⟨m1, m2⟩ := mvR_at (S := S) (T := T) (e := e) (t := t) tT (by omega)
      have er : mvR S (T * e + t) = upS S (14 + (e : Int)) t := by unfold mvR; rw [m1, m2]
      have hc := cok (T * e + t) (by omega)
      have b1 := brk_bd hc
      have b2 := cst_bd hc
      have cn : cand S ((e : Int), (t : Int)) = upS S (14 + (e : Int)) t := if_neg (natne _)
      have kl := ky_lt ho hc
      obtain ⟨f1, f2⟩ := id a3
      have cond : (M' (9, 0, 0, 0) 28 = -1 ∨ brk (upS S (14 + (e : Int)) t) < M' (9, 0, 0, 0) 30 ∨ (brk (upS S (14 + (e : Int)) t) = M' (9, 0, 0, 0) 30 ∧ cst (upS S (14 + (e : Int)) t) < M' (9, 0, 0, 0) 31)) ↔ ((rfN S (T * e + t)).1 = -1 ∨ kyS (mvR S (T * e + t)) < kyS (cand S (rfN S (T * e + t)))) := by
        rw [f1, er, kl]
        by_cases z : (rfN S (T * e + t)).1 = -1
        · exact ⟨fun _ => Or.inl z, fun _ => Or.inl z⟩
        · rw [(f2 z).2.1, (f2 z).2.2]
      refine aw_iload2 (pc := 19) F dX9_laysMove_19 ?_
      refine aw_aload0 (pc := 20) F dX9_laysMove_20 ?_
      refine aw_getR (pc := 21) F dX9_laysMove_21 fl_9_7 rfl (by first | decide | (simp only [inB, cnt, rcnt]; omega)) rfl nz0 rfl ?_
      refine aw_iconst (pc := 24) F dX9_laysMove_24 ?_
      refine aw_iald (pc := 25) F dX9_laysMove_25 rfl (by first | decide | (simp only [inB, cnt, rcnt]; omega)) (by omega) ?_
      refine aw_icmp_ge (tgt := 41) (pc := 26) F dX9_laysMove_26 (by decide) (by unfold inR; omega) (by unfold inR; omega) (fun c26 => ?_) (fun c26 => ?_)
      · omega
      · refine aw_aload0 (pc := 29) F dX9_laysMove_29 ?_
        refine aw_iload1 (pc := 30) F dX9_laysMove_30 ?_
        refine aw_iload2 (pc := 31) F dX9_laysMove_31 ?_
        refine aw_callVV2 (pc := 32) F dX9_laysMove_32 ml_9_377 rfl (by first | decide | (simp only [inB, cnt, rcnt]; omega)) (ct9_tellsMove _ _ S _ _ s1 h (by omega) (by omega) (by rw [f1]; exact i28 _ (by omega)) (fun z => by rw [f1] at z; rw [(f2 z).2.1, (f2 z).2.2]; exact ⟨by unfold inR; omega, by unfold inR; omega⟩)) (Nat.le_of_ble_eq_true rfl) (by decide) (Nat.zero_le _) (fun σ9 h9_32 => ?_)
        obtain ⟨d1, d2⟩ := h9_32
        refine aw_iinc2 (pc := 35) F dX9_laysMove_35 rfl hk.symm ?_
        refine aw_goto (tgt := 19) (pc := 38) F dX9_laysMove_38 (by decide) ?_
        rw [cond] at d1 d2
        by_cases z : (rfN S (T * e + t)).1 = -1 ∨ kyS (mvR S (T * e + t)) < kyS (cand S (rfN S (T * e + t)))
        · have h9 := d1 z
          subst h9
          have e2 : rfN S (T * e + (t + 1)) = ((e : Int), (t : Int)) := by rw [show T * e + (t + 1) = (T * e + t) + 1 by rfl, rfN_s, if_pos z, m1, m2]
          refine ih (t + 1) _ (by omega) ((((a1.up ?_).up ?_).up ?_).up ?_) ?_ ⟨?_, fun _ => ⟨?_, ?_, ?_⟩⟩
          · unfold scr9; decide
          · unfold scr9; decide
          · unfold scr9; decide
          · unfold scr9; decide
          · dsimp only; rw [upd_ne (Or.inr (by decide)), upd_ne (Or.inr (by decide)), upd_ne (Or.inr (by decide)), upd_ne (Or.inr (by decide))]; exact a2
          · dsimp only; rw [e2, upd_ne (Or.inr (by decide)), upd_ne (Or.inr (by decide)), upd_ne (Or.inr (by decide)), upd_same]
          · dsimp only; rw [e2, upd_ne (Or.inr (by decide)), upd_ne (Or.inr (by decide)), upd_same]
          · dsimp only; rw [e2, cn, upd_ne (Or.inr (by decide)), upd_same]
          · dsimp only; rw [e2, cn, upd_same]
        · have h9 := d2 z
          subst h9
          have e2 : rfN S (T * e + (t + 1)) = rfN S (T * e + t) := by rw [show T * e + (t + 1) = (T * e + t) + 1 by rfl, rfN_s, if_neg z]
          exact ih (t + 1) _ (by omega) a1 a2 (by unfold mvOk; rw [e2]; exact a3)
  have keyA : ∀ (j e : Nat) (M' : Id4 → Int → Int) (w : AV), e + j = E → wide w = false → same9 M M' → M' (9, 0, 0, 0) 4 = M (9, 0, 0, 0) 4 → mvOk S (T * e) M' → AW X K 7 [aR (9, 0, 0, 0), aI e, w] [] (M', R0 b) 0 Q9 := by
    intro j
    induction j with
    | zero =>
      intro e M' w he hw a1 a2 a3
      obtain rfl : e = E := by omega
      have s1 : M' (9, 0, 1, 0) = S := a1.s.trans hS
      have s0 : M' (9, 0, 1, 0) 1 = S 1 := by rw [s1]
      have eb : rfN S ((S 0).toNat * (S 1).toNat) = rfN S (T * e) := by rw [tT, tE]
      have hc := cok (T * e) (Nat.le_refl _)
      have b1 := brk_bd hc
      have b2 := cst_bd hc
      have b3 := brk_bd h
      have b4 := cst_bd h
      have kl := ky_lt hc h
      have bi : bet S ↔ kyS (cand S (rfN S (T * e))) < kyS S := by rw [← eb]; exact bet_iff
      have bm : bet S → bmS S = rfN S (T * e) := fun z => by unfold bmS; rw [tT, tE]; exact (mv_rel (T * e)).1 (bi.mp z)
      have b0 : bet S → ¬ (rfN S (T * e)).1 = -1 := fun z => by rw [← bm z]; exact z
      obtain ⟨f1, f2⟩ := id a3
      have i1 : inR (M' (9, 0, 0, 0) 28) := by rw [f1]; exact i28 _ (Nat.le_refl _)
      have g1 := ct9_brokenMany M' b (by rw [s1]; exact h)
      have g2 := ct9_costNow M' b (by rw [s1]; exact h)
      rw [s1] at g1 g2
      have fin : ∀ v, v = b2i (bet S) → v = b2i (bet S) ∧ ∃ M'', (M', R0 b) = (M'', R0 b) ∧ same9 M M'' ∧ M'' (9, 0, 0, 0) 4 = M (9, 0, 0, 0) 4 ∧ (bet S → M'' (9, 0, 0, 0) 28 = (bmS S).1 ∧ M'' (9, 0, 0, 0) 29 = (bmS S).2) := fun v hv => ⟨hv, M', rfl, a1, a2, fun z => ⟨by rw [bm z]; exact f1, by rw [bm z]; exact (f2 (b0 z)).1⟩⟩
      rw [kl] at bi
      refine aw_iload1 (pc := 7) F dX9_laysMove_7 ?_
      refine aw_aload0 (pc := 8) F dX9_laysMove_8 ?_
      refine aw_getR (pc := 9) F dX9_laysMove_9 fl_9_7 rfl (by first | decide | (simp only [inB, cnt, rcnt]; omega)) rfl nz0 rfl ?_
      refine aw_iconst (pc := 12) F dX9_laysMove_12 ?_
      refine aw_iald (pc := 13) F dX9_laysMove_13 rfl (by first | decide | (simp only [inB, cnt, rcnt]; omega)) (by omega) ?_
      refine aw_icmp_ge (tgt := 47) (pc := 14) F dX9_laysMove_14 (by decide) (by unfold inR; omega) (by unfold inR; omega) (fun c14 => ?_) (fun c14 => ?_)
      · refine aw_aload0 (pc := 47) F dX9_laysMove_47 ?_
        refine aw_pcallV0 (pc := 48) F dX9_laysMove_48 ml_9_218 rfl (by first | decide | (simp only [inB, cnt, rcnt]; omega)) g1 (Nat.le_of_ble_eq_true rfl) (by decide) (Nat.zero_le _) ?_
        refine aw_istore1 (pc := 51) F dX9_laysMove_51 (by simp only [List.all_cons, List.all_nil, hw]; rfl) hk.symm ?_
        refine aw_aload0 (pc := 52) F dX9_laysMove_52 ?_
        refine aw_getI (pc := 53) F dX9_laysMove_53 fl_9_365 rfl (by first | decide | (simp only [inB, cnt, rcnt]; omega)) rfl nz28 ?_
        refine aw_iconst (pc := 56) F dX9_laysMove_56 ?_
        refine aw_icmp_eq (tgt := 91) (pc := 57) F dX9_laysMove_57 (by decide) (by first | exact i1 | (unfold inR; decide)) (by first | exact i1 | (unfold inR; decide)) (fun c57 => ?_) (fun c57 => ?_)
        · refine aw_iconst (pc := 91) F dX9_laysMove_91 ?_
          rw [hQ]
          exact aw_iret (pc := 92) F dX9_laysMove_92 (nar_bool (by first | exact b2i_01 | decide)) (Nat.zero_le _) (by first | exact fin _ (b2i_neg (fun z => b0 z (f1.symm.trans c57))).symm | (rw [(f2 (by rw [← f1]; exact c57)).2.1] at c65; exact fin _ (b2i_pos (bi.mpr (Or.inl c65))).symm) | (rw [(f2 (by rw [← f1]; exact c57)).2.1] at c65 c73; rw [(f2 (by rw [← f1]; exact c57)).2.2] at c84; first | exact fin _ (b2i_pos (bi.mpr (Or.inr ⟨c73, c84⟩))).symm | exact fin _ (b2i_neg (fun z => by have := bi.mp z; omega)).symm) | (rw [(f2 (by rw [← f1]; exact c57)).2.1] at c65 c73; exact fin _ (b2i_neg (fun z => by have := bi.mp z; omega)).symm))
        · refine aw_aload0 (pc := 60) F dX9_laysMove_60 ?_
          refine aw_getI (pc := 61) F dX9_laysMove_61 fl_9_368 rfl (by first | decide | (simp only [inB, cnt, rcnt]; omega)) rfl nz30 ?_
          refine aw_iload1 (pc := 64) F dX9_laysMove_64 ?_
          refine aw_icmp_lt (tgt := 87) (pc := 65) F dX9_laysMove_65 (by decide) (by first | (rw [(f2 (by rw [← f1]; exact c57)).2.1]; unfold inR; omega) | (unfold inR; omega)) (by first | (rw [(f2 (by rw [← f1]; exact c57)).2.1]; unfold inR; omega) | (unfold inR; omega)) (fun c65 => ?_) (fun c65 => ?_)
          · refine aw_iconst (pc := 87) F dX9_laysMove_87 ?_
            refine aw_goto (tgt := 92) (pc := 88) F dX9_laysMove_88 (by decide) ?_
            rw [hQ]
            exact aw_iret (pc := 92) F dX9_laysMove_92 (nar_bool (by first | exact b2i_01 | decide)) (Nat.zero_le _) (by first | exact fin _ (b2i_neg (fun z => b0 z (f1.symm.trans c57))).symm | (rw [(f2 (by rw [← f1]; exact c57)).2.1] at c65; exact fin _ (b2i_pos (bi.mpr (Or.inl c65))).symm) | (rw [(f2 (by rw [← f1]; exact c57)).2.1] at c65 c73; rw [(f2 (by rw [← f1]; exact c57)).2.2] at c84; first | exact fin _ (b2i_pos (bi.mpr (Or.inr ⟨c73, c84⟩))).symm | exact fin _ (b2i_neg (fun z => by have := bi.mp z; omega)).symm) | (rw [(f2 (by rw [← f1]; exact c57)).2.1] at c65 c73; exact fin _ (b2i_neg (fun z => by have := bi.mp z; omega)).symm))
          · refine aw_aload0 (pc := 68) F dX9_laysMove_68 ?_
            refine aw_getI (pc := 69) F dX9_laysMove_69 fl_9_368 rfl (by first | decide | (simp only [inB, cnt, rcnt]; omega)) rfl nz30 ?_
            refine aw_iload1 (pc := 72) F dX9_laysMove_72 ?_
            refine aw_icmp_ne (tgt := 91) (pc := 73) F dX9_laysMove_73 (by decide) (by first | (rw [(f2 (by rw [← f1]; exact c57)).2.1]; unfold inR; omega) | (unfold inR; omega)) (by first | (rw [(f2 (by rw [← f1]; exact c57)).2.1]; unfold inR; omega) | (unfold inR; omega)) (fun c73 => ?_) (fun c73 => ?_)
            · refine aw_iconst (pc := 91) F dX9_laysMove_91 ?_
              rw [hQ]
              exact aw_iret (pc := 92) F dX9_laysMove_92 (nar_bool (by first | exact b2i_01 | decide)) (Nat.zero_le _) (by first | exact fin _ (b2i_neg (fun z => b0 z (f1.symm.trans c57))).symm | (rw [(f2 (by rw [← f1]; exact c57)).2.1] at c65; exact fin _ (b2i_pos (bi.mpr (Or.inl c65))).symm) | (rw [(f2 (by rw [← f1]; exact c57)).2.1] at c65 c73; rw [(f2 (by rw [← f1]; exact c57)).2.2] at c84; first | exact fin _ (b2i_pos (bi.mpr (Or.inr ⟨c73, c84⟩))).symm | exact fin _ (b2i_neg (fun z => by have := bi.mp z; omega)).symm) | (rw [(f2 (by rw [← f1]; exact c57)).2.1] at c65 c73; exact fin _ (b2i_neg (fun z => by have := bi.mp z; omega)).symm))
            · refine aw_aload0 (pc := 76) F dX9_laysMove_76 ?_
              refine aw_getI (pc := 77) F dX9_laysMove_77 fl_9_371 rfl (by first | decide | (simp only [inB, cnt, rcnt]; omega)) rfl nz31 ?_
              refine aw_aload0 (pc := 80) F dX9_laysMove_80 ?_
              refine aw_pcallV0 (pc := 81) F dX9_laysMove_81 ml_9_221 rfl (by first | decide | (simp only [inB, cnt, rcnt]; omega)) g2 (Nat.le_of_ble_eq_true rfl) (by decide) (Nat.zero_le _) ?_
              refine aw_icmp_ge (tgt := 91) (pc := 84) F dX9_laysMove_84 (by decide) (by first | (rw [(f2 (by rw [← f1]; exact c57)).2.2]; unfold inR; omega) | (unfold inR; omega)) (by first | (rw [(f2 (by rw [← f1]; exact c57)).2.2]; unfold inR; omega) | (unfold inR; omega)) (fun c84 => ?_) (fun c84 => ?_)
              · refine aw_iconst (pc := 91) F dX9_laysMove_91 ?_
                rw [hQ]
                exact aw_iret (pc := 92) F dX9_laysMove_92 (nar_bool (by first | exact b2i_01 | decide)) (Nat.zero_le _) (by first | exact fin _ (b2i_neg (fun z => b0 z (f1.symm.trans c57))).symm | (rw [(f2 (by rw [← f1]; exact c57)).2.1] at c65; exact fin _ (b2i_pos (bi.mpr (Or.inl c65))).symm) | (rw [(f2 (by rw [← f1]; exact c57)).2.1] at c65 c73; rw [(f2 (by rw [← f1]; exact c57)).2.2] at c84; first | exact fin _ (b2i_pos (bi.mpr (Or.inr ⟨c73, c84⟩))).symm | exact fin _ (b2i_neg (fun z => by have := bi.mp z; omega)).symm) | (rw [(f2 (by rw [← f1]; exact c57)).2.1] at c65 c73; exact fin _ (b2i_neg (fun z => by have := bi.mp z; omega)).symm))
              · refine aw_iconst (pc := 87) F dX9_laysMove_87 ?_
                refine aw_goto (tgt := 92) (pc := 88) F dX9_laysMove_88 (by decide) ?_
                rw [hQ]
                exact aw_iret (pc := 92) F dX9_laysMove_92 (nar_bool (by first | exact b2i_01 | decide)) (Nat.zero_le _) (by first | exact fin _ (b2i_neg (fun z => b0 z (f1.symm.trans c57))).symm | (rw [(f2 (by rw [← f1]; exact c57)).2.1] at c65; exact fin _ (b2i_pos (bi.mpr (Or.inl c65))).symm) | (rw [(f2 (by rw [← f1]; exact c57)).2.1] at c65 c73; rw [(f2 (by rw [← f1]; exact c57)).2.2] at c84; first | exact fin _ (b2i_pos (bi.mpr (Or.inr ⟨c73, c84⟩))).symm | exact fin _ (b2i_neg (fun z => by have := bi.mp z; omega)).symm) | (rw [(f2 (by rw [← f1]; exact c57)).2.1] at c65 c73; exact fin _ (b2i_neg (fun z => by have := bi.mp z; omega)).symm))
      · omega
    | succ j ih =>
      intro e M' w he hw a1 a2 a3
      have s1 : M' (9, 0, 1, 0) = S := a1.s.trans hS
      have s0 : M' (9, 0, 1, 0) 1 = S 1 := by rw [s1]
      refine aw_iload1 (pc := 7) F dX9_laysMove_7 ?_
      refine aw_aload0 (pc := 8) F dX9_laysMove_8 ?_
      refine aw_getR (pc := 9) F dX9_laysMove_9 fl_9_7 rfl (by first | decide | (simp only [inB, cnt, rcnt]; omega)) rfl nz0 rfl ?_
      refine aw_iconst (pc := 12) F dX9_laysMove_12 ?_
      refine aw_iald (pc := 13) F dX9_laysMove_13 rfl (by first | decide | (simp only [inB, cnt, rcnt]; omega)) (by omega) ?_
      refine aw_icmp_ge (tgt := 47) (pc := 14) F dX9_laysMove_14 (by decide) (by unfold inR; omega) (by unfold inR; omega) (fun c14 => ?_) (fun c14 => ?_)
      · omega
      · refine aw_iconst (pc := 17) F dX9_laysMove_17 ?_
        refine aw_istore2 (pc := 18) F dX9_laysMove_18 (by simp only [List.all_cons, List.all_nil, hw]; rfl) hk.symm ?_
        exact keyB e (by omega) (fun M2 w hw q1 q2 q3 => ih (e + 1) M2 w (by omega) hw q1 q2 q3) T 0 M' (by omega) a1 a2 a3
  refine aw_aload0 (pc := 0) F dX9_laysMove_0 ?_
  refine aw_iconst (pc := 1) F dX9_laysMove_1 ?_
  refine aw_putI (pc := 2) F dX9_laysMove_2 fl_9_365 fpi_9_28 rfl (by first | decide | (simp only [inB, cnt, rcnt]; omega)) rfl nz28 ?_
  refine aw_iconst (pc := 5) F dX9_laysMove_5 ?_
  refine aw_istore1 (pc := 6) F dX9_laysMove_6 rfl hk.symm ?_
  rw [← hQ]
  exact keyA E 0 _ aX (by omega) rfl (same9.rf.up (by unfold scr9; decide)) (by rw [upd_ne (Or.inr (by decide))]) ⟨upd_same, fun z => absurd rfl z⟩
theorem cq9_improve (M : Id4 → Int → Int) (b : Bool) (S : Int → Int) (n : Int) (Hs : Int → Int → Int) (hS : M (9, 0, 1, 0) = S) (h : Ok S) (hH : hR9 M n Hs) : CtI 8 0 yX9_improve cX9_improve 2 (some .int) [aR (9, 0, 0, 0)] (M, R0 b) (fun v σ' => ∃ N : Nat, MvN S N ∧ E9 M b 0 N (itI S N) (min (n + 1) 10) (pushH n Hs S) v σ') := by
  refine CtI.mk (by decide +kernel) rfl (Nat.le_of_ble_eq_true rfl) (fun X K F hk => ?_)
  have hk8 := ky_bd h
  obtain ⟨Q9, hQ⟩ : ∃ Q9, Q9 = EI X K 0 (fun v σ' => ∃ N : Nat, MvN S N ∧ E9 M b 0 N (itI S N) (min (n + 1) 10) (pushH n Hs S) v σ') := ⟨_, rfl⟩
  have key : ∀ (f i : Nat) (M' : Id4 → Int → Int), kyS (itI S i) ≤ f → (∀ k, k < i → bet (itI S k)) → M' (9, 0, 0, 0) 4 = 0 → same9e M M' → M' (9, 0, 1, 0) = itI S i → hR9 M' (min (n + 1) 10) (pushH n Hs S) → AW X K 11 [aR (9, 0, 0, 0), aI i] [] (M', R0 b) 0 Q9 := by
    intro f
    induction f with
    | zero =>
      intro i M' hf hb a0 a1 a2 a3
      have ho := itI_ok h i
      have k0 := ky_bd ho
      have nb : ¬ bet (itI S i) := fun z => by have := bet_ky z; have := ky_bd (nxS_ok ho); omega
      refine aw_aload0 (pc := 11) F dX9_improve_11 ?_
      refine aw_callVI0 (pc := 12) F dX9_improve_12 ml_9_381 rfl (by first | decide | (simp only [inB, cnt, rcnt]; omega)) (ct9_laysMove _ _ _ a2 ho) (Nat.le_of_ble_eq_true rfl) (by decide) (Nat.zero_le _) (fun v9 σ9 h9_12 => ?_)
      obtain ⟨hv, M2, h9, c1, c2, c3⟩ := h9_12
      subst h9
      subst hv
      rw [b2i_neg nb]
      refine aw_if_eq (tgt := 40) (pc := 15) F dX9_improve_15 (by decide) (by unfold inR; omega) (fun _ => ?_) (fun c9 => absurd c9 (by decide))
      rw [hQ]
      refine aw_iload1 (pc := 40) F dX9_improve_40 ?_
      exact aw_iret (pc := 41) F dX9_improve_41 rfl (Nat.zero_le _) ⟨i, ⟨hb, nb⟩, e9_yes rfl (by rw [c2, a0]) rfl (a1.tr c1.e) (by rw [c1.s, a2]) (a3.s9 c1)⟩
    | succ f ih =>
      intro i M' hf hb a0 a1 a2 a3
      have ho := itI_ok h i
      have k0 := ky_bd ho
      have bd := clN_bd ho _ (Nat.le_refl _)
      refine aw_aload0 (pc := 11) F dX9_improve_11 ?_
      refine aw_callVI0 (pc := 12) F dX9_improve_12 ml_9_381 rfl (by first | decide | (simp only [inB, cnt, rcnt]; omega)) (ct9_laysMove _ _ _ a2 ho) (Nat.le_of_ble_eq_true rfl) (by decide) (Nat.zero_le _) (fun v9 σ9 h9_12 => ?_)
      obtain ⟨hv, M2, h9, c1, c2, c3⟩ := h9_12
      subst h9
      subst hv
      refine aw_ifb_eq (tgt := 40) (pc := 15) F dX9_improve_15 (by decide) (fun c15 => ?_) (fun c15 => ?_)
      · rw [hQ]
        refine aw_iload1 (pc := 40) F dX9_improve_40 ?_
        exact aw_iret (pc := 41) F dX9_improve_41 rfl (Nat.zero_le _) ⟨i, ⟨hb, c15⟩, e9_yes rfl (by rw [c2, a0]) rfl (a1.tr c1.e) (by rw [c1.s, a2]) (a3.s9 c1)⟩
      · have bd2 : ((0 ≤ (bmS (itI S i)).1 ∧ (bmS (itI S i)).1 < (itI S i) 1) ∧ 0 ≤ (bmS (itI S i)).2 ∧ (bmS (itI S i)).2 < (itI S i) 0) := bd.resolve_left (fun y => c15 (by unfold bmS; rw [y]))
        have hE := ho.2.1
        obtain ⟨u1, u2⟩ := c3 c15
        have en : nxS (itI S i) = upS (itI S i) (14 + (bmS (itI S i)).1) (bmS (itI S i)).2 := if_neg c15
        refine aw_aload0 (pc := 18) F dX9_improve_18 ?_
        refine aw_getR (pc := 19) F dX9_improve_19 fl_9_7 rfl (by first | decide | (simp only [inB, cnt, rcnt]; omega)) rfl nz0 rfl ?_
        refine aw_bipush (pc := 22) F dX9_improve_22 (by decide) ?_
        refine aw_aload0 (pc := 24) F dX9_improve_24 ?_
        refine aw_getI (pc := 25) F dX9_improve_25 fl_9_365 rfl (by first | decide | (simp only [inB, cnt, rcnt]; omega)) rfl nz28 ?_
        refine aw_iadd (pc := 28) F dX9_improve_28 ?_
        refine aw_aload0 (pc := 29) F dX9_improve_29 ?_
        refine aw_getI (pc := 30) F dX9_improve_30 fl_9_374 rfl (by first | decide | (simp only [inB, cnt, rcnt]; omega)) rfl nz29 ?_
        rw [u1, u2]
        refine aw_iast (pc := 33) F dX9_improve_33 rfl (by first | decide | (simp only [inB, cnt, rcnt]; omega)) (by omega) ?_
        refine aw_iinc1 (pc := 34) F dX9_improve_34 rfl hk.symm ?_
        refine aw_goto (tgt := 11) (pc := 37) F dX9_improve_37 (by decide) ?_
        refine ih (i + 1) _ ?_ (fun k hk1 => ?_) ?_ ((a1.tr c1.e).r) ?_ (a3.s9 c1).st
        · have := bet_ky c15
          show kyS (nxS (itI S i)) ≤ f
          omega
        · by_cases z : k = i
          · rw [z]; exact c15
          · exact hb k (by omega)
        · rw [upd_ne (Or.inl (by decide)), c2, a0]
        · rw [upd_row, c1.s, a2]; exact en.symm
  refine aw_aload0 (pc := 0) F dX9_improve_0 ?_
  refine aw_iconst (pc := 1) F dX9_improve_1 ?_
  refine aw_putI (pc := 2) F dX9_improve_2 fl_9_54 fpi_9_4 rfl (by first | decide | (simp only [inB, cnt, rcnt]; omega)) rfl nz4 ?_
  refine aw_aload0 (pc := 5) F dX9_improve_5 ?_
  refine aw_callVV0 (pc := 6) F dX9_improve_6 ml_9_349 rfl (by first | decide | (simp only [inB, cnt, rcnt]; omega)) (ct9_rememberE _ _ S n Hs (by rw [thr_u]; exact hS) hH.thr) (Nat.le_of_ble_eq_true rfl) (by decide) (Nat.zero_le _) (fun σ9 h9_6 => ?_)
  obtain ⟨M2, h9, d1, d2, d3, d4⟩ := h9_6
  subst h9
  refine aw_iconst (pc := 9) F dX9_improve_9 ?_
  refine aw_istore1 (pc := 10) F dX9_improve_10 rfl hk.symm ?_
  rw [← hQ]
  exact key (kyS S).toNat 0 M2 (by show kyS S ≤ _; omega) (fun k hk1 => absurd hk1 (by omega)) (by rw [d3]; exact upd_same) (same9_thr.e.tr d1) d2 d4
