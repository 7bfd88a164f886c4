/-! 35: the class's first broken span, and its bound -/
theorem cx8_firstBroken (M : Id4 → Int → Int) (b : Bool) (S : Int → Int) (hR : plR M 0 S) (h : Ok S) : CxI 12 1 yX8_firstBroken cX8_firstBroken 2 (some .int) [aR (8, 0, 0, 0)] (M, R0 b) (fun v σ' => v = fbS S ∧ σ' = (M, R0 b) ∧ fbS S < S 20) (fun E σ' => E = eNS ∧ σ' = (M, R0 b) ∧ ¬ fbS S < S 20) := by
  refine CxI.mk (by decide +kernel) rfl (Nat.le_of_ble_eq_true rfl) (fun X K F hk => ?_)
  have hN := h.2.2.1
  have e2 := hR.1.2.2
  have key : ∀ (j i : Nat), (i : Int) + j = S 20 → fstB (fun k => ¬ kept S k) j (i : Int) = fbS S → AW X K 2 [aR (8, 0, 0, 0), aI i] [] (M, R0 b) 0 (XI X K 1 (fun v σ' => v = fbS S ∧ σ' = (M, R0 b) ∧ fbS S < S 20) (fun E σ' => E = eNS ∧ σ' = (M, R0 b) ∧ ¬ fbS S < S 20)) := by
    intro j
    induction j with
    | zero =>
      intro i hi hf
      have e1 : fbS S = i := hf.symm
      refine aw_iload1 (pc := 2) F dX8_firstBroken_2 ?_
      refine aw_aload0 (pc := 3) F dX8_firstBroken_3 ?_
      refine aw_getR (pc := 4) F dX8_firstBroken_4 fl_8_34 rfl (by first | decide | (simp only [inB, cnt, rcnt]; omega)) rfl nz4 rfl ?_
      refine aw_getI (pc := 7) F dX8_firstBroken_7 fl_8_100 rfl (by first | decide | (simp only [inB, cnt, rcnt]; omega)) rfl nz2 ?_
      refine aw_icmp_ge (tgt := 32) (pc := 10) F dX8_firstBroken_10 (by decide) (by unfold inR; omega) (by unfold inR; omega) (fun c10 => ?_) (fun c10 => ?_)
      · exact aw_throwNI (pc := 32) F dX8_firstBroken_32 dX8_firstBroken_35 dX8_firstBroken_36 dX8_firstBroken_38 dX8_firstBroken_41 tn_163_165_167 (by decide) (by decide) (Nat.le_of_ble_eq_true rfl) ⟨rfl, rfl, by omega⟩
      · omega
    | succ j ih =>
      intro i hi hf
      unfold fstB at hf
      have yes : kept S (i : Int) → fstB (fun k => ¬ kept S k) j ((i : Int) + 1) = fbS S := fun z => by rw [if_neg (fun q => q z)] at hf; exact hf
      have no : ¬ kept S (i : Int) → fbS S = i := fun z => by rw [if_pos z] at hf; exact hf.symm
      refine aw_iload1 (pc := 2) F dX8_firstBroken_2 ?_
      refine aw_aload0 (pc := 3) F dX8_firstBroken_3 ?_
      refine aw_getR (pc := 4) F dX8_firstBroken_4 fl_8_34 rfl (by first | decide | (simp only [inB, cnt, rcnt]; omega)) rfl nz4 rfl ?_
      refine aw_getI (pc := 7) F dX8_firstBroken_7 fl_8_100 rfl (by first | decide | (simp only [inB, cnt, rcnt]; omega)) rfl nz2 ?_
      refine aw_icmp_ge (tgt := 32) (pc := 10) F dX8_firstBroken_10 (by decide) (by unfold inR; omega) (by unfold inR; omega) (fun c10 => ?_) (fun c10 => ?_)
      · omega
      · refine aw_aload0 (pc := 13) F dX8_firstBroken_13 ?_
        refine aw_getR (pc := 14) F dX8_firstBroken_14 fl_8_34 rfl (by first | decide | (simp only [inB, cnt, rcnt]; omega)) rfl nz4 rfl ?_
        refine aw_iload1 (pc := 17) F dX8_firstBroken_17 ?_
        refine aw_pcallV1 (pc := 18) F dX8_firstBroken_18 ml_8_155 rfl (by first | decide | (simp only [inB, cnt, rcnt]; omega)) (ct5_keeps _ _ S _ _ (by decide) hR h (by omega)) (Nat.le_of_ble_eq_true rfl) (by decide) (by decide) ?_
        refine aw_ifb_ne (tgt := 26) (pc := 21) F dX8_firstBroken_21 (by decide) (fun c21 => ?_) (fun c21 => ?_)
        · refine aw_iinc1 (pc := 26) F dX8_firstBroken_26 rfl hk.symm ?_
          refine aw_goto (tgt := 2) (pc := 29) F dX8_firstBroken_29 (by decide) ?_
          exact ih (i + 1) (by omega) (yes c21)
        · refine aw_iload1 (pc := 24) F dX8_firstBroken_24 ?_
          exact aw_xiret (pc := 25) F dX8_firstBroken_25 rfl (by decide) ⟨(no c21).symm, rfl, by rw [no c21]; omega⟩
  refine aw_iconst (pc := 0) F dX8_firstBroken_0 ?_
  refine aw_istore1 (pc := 1) F dX8_firstBroken_1 rfl hk.symm ?_
  exact key (S 20).toNat 0 (by omega) rfl
/-- the step that is looked at -/
abbrev bdD (S : Int → Int) (k hi : Int) (i : Int) : Int := if hi = 0 then S (21 + 5 * k + 2) + i else S (21 + 5 * k + 2) + S 0 - 1 - i
abbrev bdOn (S : Int → Int) (k d : Int) : Prop := bit (bdX S k) ((d % S 0).toNat) = true
/-- the lowest step that is allowed: the first n are not -/
theorem bdB_lo0 {S : Int → Int} {k : Int} : ∀ n : Nat, (∀ i : Nat, i < n → ¬ bdOn S k (S (21 + 5 * k + 2) + (i : Int))) → ∀ hi, bdB S k hi n = -1
  | 0, _, _ => rfl
  | n + 1, h, hi => by
    have ih := bdB_lo0 (S := S) (k := k) n (fun i hi => h i (by omega)) hi
    unfold bdB
    rw [if_neg (fun z => h n (by omega) z.1), ih]
theorem bdB_lo {S : Int → Int} {k : Int} {n : Nat} (hlo : 0 ≤ S (21 + 5 * k + 2)) (h0 : ∀ i : Nat, i < n → ¬ bdOn S k (S (21 + 5 * k + 2) + (i : Int))) (h1 : bdOn S k (S (21 + 5 * k + 2) + (n : Int))) : ∀ m : Nat, n < m → bdB S k 0 m = S (21 + 5 * k + 2) + n := by
  intro m hm
  induction m with
  | zero => omega
  | succ m ih =>
    unfold bdB
    by_cases e : m = n
    · subst e
      rw [if_pos ⟨h1, Or.inl (bdB_lo0 m h0 0)⟩]
    · have ih2 := ih (by omega)
      rw [if_neg (fun z => z.2.elim (fun q => by omega) (fun q => q rfl)), ih2]
theorem bdB_hi {S : Int → Int} {k hi : Int} (hh : ¬ hi = 0) {n : Nat} (h1 : bdOn S k (S (21 + 5 * k + 2) + (n : Int))) : ∀ m : Nat, n < m → (∀ i : Nat, n < i → i < m → ¬ bdOn S k (S (21 + 5 * k + 2) + (i : Int))) → bdB S k hi m = S (21 + 5 * k + 2) + n := by
  intro m hm h0
  induction m with
  | zero => omega
  | succ m ih =>
    unfold bdB
    by_cases e : m = n
    · subst e
      rw [if_pos ⟨h1, Or.inr hh⟩]
    · rw [if_neg (fun z => h0 m (by omega) (by omega) z.1), ih (by omega) (fun i h2 h3 => h0 i h2 (by omega))]
theorem cx8_bound (M : Id4 → Int → Int) (b : Bool) (S : Int → Int) (k hi : Int) (h1 : inR k) (hh : hi = 0 ∨ hi = 1) (hR : plR M 0 S) (h : Ok S) : CxI 13 2 yX8_bound cX8_bound 6 (some .int) [aR (8, 0, 0, 0), aI k, aI hi] (M, R0 b) (fun v σ' => v = bdB S k hi (S 0).toNat ∧ (0 ≤ k ∧ k < S 20) ∧ ¬ bdB S k hi (S 0).toNat = -1 ∧ ∃ M', σ' = (M', R0 b) ∧ same8 M M') (fun E σ' => (E = eIO ∧ σ' = (M, R0 b) ∧ ¬ (0 ≤ k ∧ k < S 20)) ∨ (E = eNS ∧ (0 ≤ k ∧ k < S 20) ∧ bdB S k hi (S 0).toNat = -1 ∧ ∃ M', σ' = (M', R0 b) ∧ same8 M M')) := by
  refine CxI.mk (by decide +kernel) rfl (Nat.le_of_ble_eq_true rfl) (fun X K F hk => ?_)
  have hN := h.2.2.1
  have hT := h.1
  have hE := h.2.1
  obtain ⟨T, eT⟩ : ∃ T : Nat, S 0 = (T : Int) := ⟨(S 0).toNat, by omega⟩
  have tT : (S 0).toNat = T := by omega
  obtain ⟨Q9, hQ⟩ : ∃ Q9, Q9 = XI X K 2 (fun v σ' => v = bdB S k hi (S 0).toNat ∧ (0 ≤ k ∧ k < S 20) ∧ ¬ bdB S k hi (S 0).toNat = -1 ∧ ∃ M', σ' = (M', R0 b) ∧ same8 M M') (fun E σ' => (E = eIO ∧ σ' = (M, R0 b) ∧ ¬ (0 ≤ k ∧ k < S 20)) ∨ (E = eNS ∧ (0 ≤ k ∧ k < S 20) ∧ bdB S k hi (S 0).toNat = -1 ∧ ∃ M', σ' = (M', R0 b) ∧ same8 M M')) := ⟨_, rfl⟩
  have key : (0 ≤ k ∧ k < S 20) → ∀ M', same8 M M' → dfR S M' 0 → ∀ (j i : Nat) (w : AV), i + j = T → wide w = false → (∀ i2 : Nat, i2 < i → ¬ bdOn S k (bdD S k hi i2)) → AW X K 22 [aR (8, 0, 0, 0), aI k, aI hi, aI (S (21 + 5 * k + 2)), aI i, w] [] (M', R0 b) 1 Q9 := by
    intro hk9 M' hs hd j
    have hR' := hs.pl hR
    have hp0 := hR'.1.1
    obtain ⟨f0, f1, f2, f3, f4⟩ := hR'.2.2 k hk9.1 hk9.2
    have h3 := h.2.2.2.2 k hk9.1 hk9.2
    unfold SpOk at h3
    have e9 := hd.2.2 (S (21 + 5 * k + 0)) (S (21 + 5 * k + 1)) (by omega) (by omega) (by omega) (by omega)
    have z9 := (tgS_ok h (6 * S (21 + 5 * k + 0) + S (21 + 5 * k + 1)) (by omega) (by omega)).1
    induction j with
    | zero =>
      intro i w hij hw hno
      have none : bdB S k hi (S 0).toNat = -1 := by
        rw [tT]
        refine bdB_lo0 T (fun n hn => ?_) hi
        by_cases e : hi = 0
        · have := hno n (by omega)
          rw [show bdD S k hi n = S (21 + 5 * k + 2) + n from if_pos e] at this
          exact this
        · have := hno (T - 1 - n) (by omega)
          rw [show bdD S k hi ((T - 1 - n : Nat) : Int) = S (21 + 5 * k + 2) + n by unfold bdD; rw [if_neg e]; omega] at this
          exact this
      refine aw_iload4 (pc := 22) F dX8_bound_22 ?_
      refine aw_aload0 (pc := 24) F dX8_bound_24 ?_
      refine aw_getR (pc := 25) F dX8_bound_25 fl_8_34 rfl (by first | decide | (simp only [inB, cnt, rcnt]; omega)) rfl nz4 rfl ?_
      refine aw_getI (pc := 28) F dX8_bound_28 fl_8_109 rfl (by first | decide | (simp only [inB, cnt, rcnt]; omega)) rfl nz0 ?_
      refine aw_icmp_ge (tgt := 110) (pc := 31) F dX8_bound_31 (by decide) (by unfold inR; omega) (by unfold inR; omega) (fun c31 => ?_) (fun c31 => ?_)
      · rw [hQ]
        exact aw_throwNI (pc := 110) F dX8_bound_110 dX8_bound_113 dX8_bound_114 dX8_bound_116 dX8_bound_119 tn_163_206_167 (by decide) (by decide) (Nat.le_of_ble_eq_true rfl) (Or.inr ⟨rfl, hk9, none, M', rfl, hs⟩)
      · omega
    | succ j ih =>
      intro i w hij hw hno
      have go : ∀ d, d = bdD S k hi i → (bit (bdX S k) ((d % S 0).toNat) = true → d = bdB S k hi (S 0).toNat ∧ ¬ bdB S k hi (S 0).toNat = -1) ∧ (¬ bit (bdX S k) ((d % S 0).toNat) = true → ∀ w, wide w = false → AW X K 22 [aR (8, 0, 0, 0), aI k, aI hi, aI (S (21 + 5 * k + 2)), aI ((i + 1 : Nat) : Int), w] [] (M', R0 b) 1 Q9) := by
        intro d hd9
        refine ⟨fun z => ?_, fun z w hw => ih (i + 1) w (by omega) hw (fun i2 h2 => ?_)⟩
        · by_cases e : hi = 0
          · have e8 : ∀ n : Nat, bdD S k hi n = S (21 + 5 * k + 2) + n := fun n => if_pos e
            have := bdB_lo (S := S) (k := k) (n := i) (by omega) (fun n hn => by have := hno n hn; rw [e8] at this; exact this) (by rw [← e8, ← hd9]; exact z) T (by omega)
            rw [tT, e, this, hd9, e8]
            exact ⟨rfl, by omega⟩
          · have e8 : ∀ n : Nat, n < T → bdD S k hi ((T - 1 - n : Nat) : Int) = S (21 + 5 * k + 2) + n := fun n hn => by unfold bdD; rw [if_neg e]; omega
            have ei : bdD S k hi i = S (21 + 5 * k + 2) + ((T - 1 - i : Nat) : Int) := by unfold bdD; rw [if_neg e]; omega
            have := bdB_hi (S := S) (k := k) e (n := T - 1 - i) (by rw [← ei, ← hd9]; exact z) T (by omega) (fun n h2 h3 => by have := hno (T - 1 - n) (by omega); rw [e8 n h3] at this; exact this)
            rw [tT, this, hd9, ei]
            exact ⟨rfl, by omega⟩
        · by_cases e : i2 = i
          · rw [e, ← hd9]; exact z
          · exact hno i2 (by omega)
      obtain ⟨dd, hdd⟩ : ∃ dd, dd = bdD S k hi i := ⟨_, rfl⟩
      have rg : 0 ≤ dd ∧ dd ≤ 200 := by rw [hdd]; unfold bdD; split <;> omega
      have em : 0 ≤ dd % S 0 ∧ dd % S 0 < S 0 := ⟨Int.emod_nonneg _ (by omega), Int.emod_lt_of_pos _ (by omega)⟩
      obtain ⟨u, hu⟩ : ∃ u : Nat, dd % S 0 = (u : Int) := ⟨(dd % S 0).toNat, by omega⟩
      obtain ⟨g1, g2⟩ := go dd hdd
      rw [hu, Int.toNat_natCast] at g1 g2
      refine aw_iload4 (pc := 22) F dX8_bound_22 ?_
      refine aw_aload0 (pc := 24) F dX8_bound_24 ?_
      refine aw_getR (pc := 25) F dX8_bound_25 fl_8_34 rfl (by first | decide | (simp only [inB, cnt, rcnt]; omega)) rfl nz4 rfl ?_
      refine aw_getI (pc := 28) F dX8_bound_28 fl_8_109 rfl (by first | decide | (simp only [inB, cnt, rcnt]; omega)) rfl nz0 ?_
      refine aw_icmp_ge (tgt := 110) (pc := 31) F dX8_bound_31 (by decide) (by unfold inR; omega) (by unfold inR; omega) (fun c31 => ?_) (fun c31 => ?_)
      · omega
      · refine aw_iload2 (pc := 34) F dX8_bound_34 ?_
        refine aw_if_eq (tgt := 55) (pc := 35) F dX8_bound_35 (by decide) (by unfold inR; omega) (fun c35 => ?_) (fun c35 => ?_)
        · refine aw_iload3 (pc := 55) F dX8_bound_55 ?_
          refine aw_iload4 (pc := 56) F dX8_bound_56 ?_
          refine aw_iadd (pc := 58) F dX8_bound_58 ?_
          first | (rw [show S (21 + 5 * k + 2) + (i : Int) = dd by rw [hdd]; exact (if_pos (by assumption)).symm]) | (rw [show S (21 + 5 * k + 2) + M' (5, 0, 0, 0) 0 - 1 - (i : Int) = dd by rw [hdd, hp0]; exact (if_neg (by assumption)).symm])
          refine aw_istore5 (pc := 59) F dX8_bound_59 (by simp only [List.all_cons, List.all_nil, hw]; rfl) hk.symm ?_
          refine aw_aload0 (pc := 61) F dX8_bound_61 ?_
          refine aw_getR (pc := 62) F dX8_bound_62 fl_8_51 rfl (by first | decide | (simp only [inB, cnt, rcnt]; omega)) rfl nz7 rfl ?_
          refine aw_aload0 (pc := 65) F dX8_bound_65 ?_
          refine aw_getR (pc := 66) F dX8_bound_66 fl_8_34 rfl (by first | decide | (simp only [inB, cnt, rcnt]; omega)) rfl nz4 rfl ?_
          refine aw_getR (pc := 69) F dX8_bound_69 fl_8_129 rfl (by first | decide | (simp only [inB, cnt, rcnt]; omega)) rfl nz4 rfl ?_
          refine aw_iload1 (pc := 72) F dX8_bound_72 ?_
          refine aw_iald (pc := 73) F dX8_bound_73 rfl (by first | decide | (simp only [inB, cnt, rcnt]; omega)) (by omega) ?_
          refine aw_aload0 (pc := 74) F dX8_bound_74 ?_
          refine aw_getR (pc := 75) F dX8_bound_75 fl_8_34 rfl (by first | decide | (simp only [inB, cnt, rcnt]; omega)) rfl nz4 rfl ?_
          refine aw_getR (pc := 78) F dX8_bound_78 fl_8_132 rfl (by first | decide | (simp only [inB, cnt, rcnt]; omega)) rfl nz5 rfl ?_
          refine aw_iload1 (pc := 81) F dX8_bound_81 ?_
          refine aw_iald (pc := 82) F dX8_bound_82 rfl (by first | decide | (simp only [inB, cnt, rcnt]; omega)) (by omega) ?_
          refine aw_iload5 (pc := 83) F dX8_bound_83 ?_
          refine aw_aload0 (pc := 85) F dX8_bound_85 ?_
          refine aw_getR (pc := 86) F dX8_bound_86 fl_8_34 rfl (by first | decide | (simp only [inB, cnt, rcnt]; omega)) rfl nz4 rfl ?_
          refine aw_getI (pc := 89) F dX8_bound_89 fl_8_109 rfl (by first | decide | (simp only [inB, cnt, rcnt]; omega)) rfl nz0 ?_
          refine aw_pcallS2 (pc := 92) F dX8_bound_92 ml_8_203 (ct8_modulo _ _ _ _ (by unfold inR; omega) (by omega)) (Nat.le_of_ble_eq_true rfl) (by decide) (by decide) ?_
          rw [f0, f1, hp0, hu]
          refine aw_pcallV3 (pc := 95) F dX8_bound_95 ml_8_192 rfl (by first | decide | (simp only [inB, cnt, rcnt]; omega)) (ct1_allows _ _ _ _ _ u (by decide) (by omega) (by omega) (by rw [e9]; omega) (by omega)) (Nat.le_of_ble_eq_true rfl) (by decide) (by decide) ?_
          refine aw_ifb_eq (tgt := 104) (pc := 98) F dX8_bound_98 (by decide) (fun c98 => ?_) (fun c98 => ?_)
          · rw [e9] at c98
            refine aw_iinc4 (pc := 104) F dX8_bound_104 (by simp only [List.all_cons, List.all_nil, hw]; rfl) hk.symm ?_
            refine aw_goto (tgt := 22) (pc := 107) F dX8_bound_107 (by decide) ?_
            exact g2 c98 _ rfl
          · rw [e9] at c98
            rw [hQ]
            refine aw_iload5 (pc := 101) F dX8_bound_101 ?_
            exact aw_xiret (pc := 103) F dX8_bound_103 rfl (by decide) ⟨(g1 c98).1, hk9, (g1 c98).2, M', rfl, hs⟩
        · refine aw_iload3 (pc := 38) F dX8_bound_38 ?_
          refine aw_aload0 (pc := 39) F dX8_bound_39 ?_
          refine aw_getR (pc := 40) F dX8_bound_40 fl_8_34 rfl (by first | decide | (simp only [inB, cnt, rcnt]; omega)) rfl nz4 rfl ?_
          refine aw_getI (pc := 43) F dX8_bound_43 fl_8_109 rfl (by first | decide | (simp only [inB, cnt, rcnt]; omega)) rfl nz0 ?_
          refine aw_iadd (pc := 46) F dX8_bound_46 ?_
          refine aw_iconst (pc := 47) F dX8_bound_47 ?_
          refine aw_isub (pc := 48) F dX8_bound_48 ?_
          refine aw_iload4 (pc := 49) F dX8_bound_49 ?_
          refine aw_isub (pc := 51) F dX8_bound_51 ?_
          refine aw_goto (tgt := 59) (pc := 52) F dX8_bound_52 (by decide) ?_
          first | (rw [show S (21 + 5 * k + 2) + (i : Int) = dd by rw [hdd]; exact (if_pos (by assumption)).symm]) | (rw [show S (21 + 5 * k + 2) + M' (5, 0, 0, 0) 0 - 1 - (i : Int) = dd by rw [hdd, hp0]; exact (if_neg (by assumption)).symm])
          refine aw_istore5 (pc := 59) F dX8_bound_59 (by simp only [List.all_cons, List.all_nil, hw]; rfl) hk.symm ?_
          refine aw_aload0 (pc := 61) F dX8_bound_61 ?_
          refine aw_getR (pc := 62) F dX8_bound_62 fl_8_51 rfl (by first | decide | (simp only [inB, cnt, rcnt]; omega)) rfl nz7 rfl ?_
          refine aw_aload0 (pc := 65) F dX8_bound_65 ?_
          refine aw_getR (pc := 66) F dX8_bound_66 fl_8_34 rfl (by first | decide | (simp only [inB, cnt, rcnt]; omega)) rfl nz4 rfl ?_
          refine aw_getR (pc := 69) F dX8_bound_69 fl_8_129 rfl (by first | decide | (simp only [inB, cnt, rcnt]; omega)) rfl nz4 rfl ?_
          refine aw_iload1 (pc := 72) F dX8_bound_72 ?_
          refine aw_iald (pc := 73) F dX8_bound_73 rfl (by first | decide | (simp only [inB, cnt, rcnt]; omega)) (by omega) ?_
          refine aw_aload0 (pc := 74) F dX8_bound_74 ?_
          refine aw_getR (pc := 75) F dX8_bound_75 fl_8_34 rfl (by first | decide | (simp only [inB, cnt, rcnt]; omega)) rfl nz4 rfl ?_
          refine aw_getR (pc := 78) F dX8_bound_78 fl_8_132 rfl (by first | decide | (simp only [inB, cnt, rcnt]; omega)) rfl nz5 rfl ?_
          refine aw_iload1 (pc := 81) F dX8_bound_81 ?_
          refine aw_iald (pc := 82) F dX8_bound_82 rfl (by first | decide | (simp only [inB, cnt, rcnt]; omega)) (by omega) ?_
          refine aw_iload5 (pc := 83) F dX8_bound_83 ?_
          refine aw_aload0 (pc := 85) F dX8_bound_85 ?_
          refine aw_getR (pc := 86) F dX8_bound_86 fl_8_34 rfl (by first | decide | (simp only [inB, cnt, rcnt]; omega)) rfl nz4 rfl ?_
          refine aw_getI (pc := 89) F dX8_bound_89 fl_8_109 rfl (by first | decide | (simp only [inB, cnt, rcnt]; omega)) rfl nz0 ?_
          refine aw_pcallS2 (pc := 92) F dX8_bound_92 ml_8_203 (ct8_modulo _ _ _ _ (by unfold inR; omega) (by omega)) (Nat.le_of_ble_eq_true rfl) (by decide) (by decide) ?_
          rw [f0, f1, hp0, hu]
          refine aw_pcallV3 (pc := 95) F dX8_bound_95 ml_8_192 rfl (by first | decide | (simp only [inB, cnt, rcnt]; omega)) (ct1_allows _ _ _ _ _ u (by decide) (by omega) (by omega) (by rw [e9]; omega) (by omega)) (Nat.le_of_ble_eq_true rfl) (by decide) (by decide) ?_
          refine aw_ifb_eq (tgt := 104) (pc := 98) F dX8_bound_98 (by decide) (fun c98 => ?_) (fun c98 => ?_)
          · rw [e9] at c98
            refine aw_iinc4 (pc := 104) F dX8_bound_104 (by simp only [List.all_cons, List.all_nil, hw]; rfl) hk.symm ?_
            refine aw_goto (tgt := 22) (pc := 107) F dX8_bound_107 (by decide) ?_
            exact g2 c98 _ rfl
          · rw [e9] at c98
            rw [hQ]
            refine aw_iload5 (pc := 101) F dX8_bound_101 ?_
            exact aw_xiret (pc := 103) F dX8_bound_103 rfl (by decide) ⟨(g1 c98).1, hk9, (g1 c98).2, M', rfl, hs⟩
  refine aw_aload0 (pc := 0) F dX8_bound_0 ?_
  refine aw_iload1 (pc := 1) F dX8_bound_1 ?_
  refine aw_xcallVVI1 (pc := 2) F dX8_bound_2 ml_8_126 rfl (by first | decide | (simp only [inB, cnt, rcnt]; omega)) (cx8_requireSpan _ _ S _ h1 hR h) (Nat.le_of_ble_eq_true rfl) (by decide) (by decide) (fun _ _ h => Or.inl ⟨h.1, h.2.1, h.2.2⟩) (fun σ9 h9_2 => ?_)
  obtain ⟨rfl, q1, q2⟩ := h9_2
  refine aw_aload0 (pc := 5) F dX8_bound_5 ?_
  refine aw_callVV0 (pc := 6) F dX8_bound_6 ml_8_189 rfl (by first | decide | (simp only [inB, cnt, rcnt]; omega)) (ct8_tightenDifferences _ _ S hR h) (Nat.le_of_ble_eq_true rfl) (by decide) (by decide) (fun σ8 h9_6 => ?_)
  obtain ⟨M2, h8, hs2, hd2⟩ := h9_6
  subst h8
  have f2 := ((hs2.pl hR).2.2 k q1 q2).2.2.1
  refine aw_aload0 (pc := 9) F dX8_bound_9 ?_
  refine aw_getR (pc := 10) F dX8_bound_10 fl_8_34 rfl (by first | decide | (simp only [inB, cnt, rcnt]; omega)) rfl nz4 rfl ?_
  refine aw_getR (pc := 13) F dX8_bound_13 fl_8_135 rfl (by first | decide | (simp only [inB, cnt, rcnt]; omega)) rfl nz6 rfl ?_
  refine aw_iload1 (pc := 16) F dX8_bound_16 ?_
  refine aw_iald (pc := 17) F dX8_bound_17 rfl (by first | decide | (simp only [inB, cnt, rcnt]; omega)) (by omega) ?_
  refine aw_istore3 (pc := 18) F dX8_bound_18 rfl hk.symm ?_
  refine aw_iconst (pc := 19) F dX8_bound_19 ?_
  refine aw_istore4 (pc := 20) F dX8_bound_20 rfl hk.symm ?_
  rw [f2, ← hQ]
  exact key ⟨q1, q2⟩ M2 hs2 hd2 T 0 aX (by omega) rfl (fun i2 h2 => absurd h2 (by omega))
