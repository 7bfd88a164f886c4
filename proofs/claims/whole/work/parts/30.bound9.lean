/-! 30: the reference's bound -/
noncomputable def bdX (S : Int → Int) (k : Int) : Int := tgS S (6 * S (21 + 5 * k + 0) + S (21 + 5 * k + 1))
/-- the first or the last step that is allowed, of the first n; -1 if none -/
noncomputable def bdB (S : Int → Int) (k hi : Int) : Nat → Int
  | 0 => -1
  | n + 1 => if bit (bdX S k) (((S (21 + 5 * k + 2) + (n : Int)) % S 0).toNat) = true ∧ (bdB S k hi n = -1 ∨ ¬ hi = 0) then S (21 + 5 * k + 2) + n else bdB S k hi n
theorem bdB_bd {S : Int → Int} {k hi : Int} (h : 0 ≤ S (21 + 5 * k + 2) ∧ S (21 + 5 * k + 2) ≤ 1000) : ∀ n : Nat, n ≤ 24 → -1 ≤ bdB S k hi n ∧ bdB S k hi n ≤ 1024
  | 0, _ => by unfold bdB; omega
  | n + 1, hn => by
    have ih := bdB_bd (hi := hi) h n (by omega)
    unfold bdB
    split <;> omega
theorem ct9_boundOf (M : Id4 → Int → Int) (b : Bool) (S : Int → Int) (k hi : Int) (hS : M (9, 0, 1, 0) = S) (h : Ok S) (hk9 : 0 ≤ k ∧ k < S 20) (hh : hi = 0 ∨ hi = 1) : CtI 7 0 yX9_boundOf cX9_boundOf 6 (some .int) [aR (9, 0, 0, 0), aI k, aI hi] (M, R0 b) (fun v σ' => v = bdB S k hi (S 0).toNat ∧ ∃ A', σ' = (setA (updM M (9, 0, 0, 0) 17 ((rdS S : Int) + 1)) (9, 0, 17, 0) A', R0 b)) := by
  refine CtI.mk (by decide +kernel) rfl (Nat.le_of_ble_eq_true rfl) (fun X K F hk => ?_)
  have hN := h.2.2.1
  have hT := h.1
  have hE := h.2.1
  have h3 := h.2.2.2.2 k hk9.1 hk9.2
  unfold SpOk at h3
  have hlo : 0 ≤ S (21 + 5 * k + 2) ∧ S (21 + 5 * k + 2) ≤ 1000 := by omega
  obtain ⟨T, eT⟩ : ∃ T : Nat, S 0 = (T : Int) := ⟨(S 0).toNat, by omega⟩
  obtain ⟨Q9, hQ⟩ : ∃ Q9, Q9 = EI X K 0 (fun v σ' => v = bdB S k hi (S 0).toNat ∧ ∃ A', σ' = (setA (updM M (9, 0, 0, 0) 17 ((rdS S : Int) + 1)) (9, 0, 17, 0) A', R0 b)) := ⟨_, rfl⟩
  have hx := (tgS_ok h (6 * S (21 + 5 * k + 0) + S (21 + 5 * k + 1)) (by omega) (by omega)).1
  have hx2 : 0 ≤ bdX S k ∧ bdX S k < 16777216 := hx
  have key : ∀ (M' : Id4 → Int → Int) (A' : Int → Int), M' = setA (updM M (9, 0, 0, 0) 17 ((rdS S : Int) + 1)) (9, 0, 17, 0) A' → ∀ (j i : Nat), i + j = T → AW X K 31 [aR (9, 0, 0, 0), aI k, aI hi, aI (bdX S k), aI (bdB S k hi i), aI i] [] (M', R0 b) 0 Q9 := by
    intro M' A' hM
    have s1 : M' (9, 0, 1, 0) = S := by rw [hM, setA_ne (by decide), ← hS]; exact funext fun j => upd_ne (Or.inl (by decide))
    have s0 := congrFun s1 0
    intro j
    induction j with
    | zero =>
      intro i hi2
      refine aw_iload5 (pc := 31) F dX9_boundOf_31 ?_
      refine aw_aload0 (pc := 33) F dX9_boundOf_33 ?_
      refine aw_getR (pc := 34) F dX9_boundOf_34 fl_9_7 rfl (by first | decide | (simp only [inB, cnt, rcnt]; omega)) rfl nz0 rfl ?_
      refine aw_iconst (pc := 37) F dX9_boundOf_37 ?_
      refine aw_iald (pc := 38) F dX9_boundOf_38 rfl (by first | decide | (simp only [inB, cnt, rcnt]; omega)) (by omega) ?_
      refine aw_icmp_ge (tgt := 89) (pc := 39) F dX9_boundOf_39 (by decide) (by unfold inR; omega) (by unfold inR; omega) (fun c39 => ?_) (fun c39 => ?_)
      · rw [hQ]
        refine aw_iload4 (pc := 89) F dX9_boundOf_89 ?_
        exact aw_iret (pc := 91) F dX9_boundOf_91 rfl (Nat.zero_le _) ⟨by rw [show (S 0).toNat = i by omega], A', by rw [hM]⟩
      · omega
    | succ j ih =>
      intro i hi2
      have g := ih (i + 1) (by omega)
      have bb := bdB_bd (hi := hi) hlo i (by omega)
      have em : 0 ≤ (S (21 + 5 * k + 2) + (i : Int)) % S 0 ∧ (S (21 + 5 * k + 2) + (i : Int)) % S 0 < S 0 := ⟨Int.emod_nonneg _ (by omega), Int.emod_lt_of_pos _ (by omega)⟩
      obtain ⟨u, hu⟩ : ∃ u : Nat, (S (21 + 5 * k + 2) + (i : Int)) % S 0 = (u : Int) := ⟨((S (21 + 5 * k + 2) + (i : Int)) % S 0).toNat, by omega⟩
      have yes : bit (bdX S k) u = true → (bdB S k hi i = -1 ∨ ¬ hi = 0) → bdB S k hi (i + 1) = S (21 + 5 * k + 2) + i := fun z1 z2 => if_pos ⟨by rw [hu]; exact z1, z2⟩
      have no : ¬ (bit (bdX S k) u = true ∧ (bdB S k hi i = -1 ∨ ¬ hi = 0)) → bdB S k hi (i + 1) = bdB S k hi i := fun z => if_neg (fun q => z ⟨by have q1 := q.1; rw [hu] at q1; exact q1, q.2⟩)
      refine aw_iload5 (pc := 31) F dX9_boundOf_31 ?_
      refine aw_aload0 (pc := 33) F dX9_boundOf_33 ?_
      refine aw_getR (pc := 34) F dX9_boundOf_34 fl_9_7 rfl (by first | decide | (simp only [inB, cnt, rcnt]; omega)) rfl nz0 rfl ?_
      refine aw_iconst (pc := 37) F dX9_boundOf_37 ?_
      refine aw_iald (pc := 38) F dX9_boundOf_38 rfl (by first | decide | (simp only [inB, cnt, rcnt]; omega)) (by omega) ?_
      refine aw_icmp_ge (tgt := 89) (pc := 39) F dX9_boundOf_39 (by decide) (by unfold inR; omega) (by unfold inR; omega) (fun c39 => ?_) (fun c39 => ?_)
      · omega
      · refine aw_iload3 (pc := 42) F dX9_boundOf_42 ?_
        refine aw_aload0 (pc := 43) F dX9_boundOf_43 ?_
        refine aw_aload0 (pc := 44) F dX9_boundOf_44 ?_
        refine aw_iload1 (pc := 45) F dX9_boundOf_45 ?_
        refine aw_iconst (pc := 46) F dX9_boundOf_46 ?_
        refine aw_pcallV2 (pc := 47) F dX9_boundOf_47 ml_9_200 rfl (by first | decide | (simp only [inB, cnt, rcnt]; omega)) (ct9_of _ _ _ _ (by omega) (by omega)) (Nat.le_of_ble_eq_true rfl) (by decide) (Nat.zero_le _) ?_
        rw [s1]
        refine aw_iload5 (pc := 50) F dX9_boundOf_50 ?_
        refine aw_iadd (pc := 52) F dX9_boundOf_52 ?_
        refine aw_pcallV1 (pc := 53) F dX9_boundOf_53 ml_9_203 rfl (by first | decide | (simp only [inB, cnt, rcnt]; omega)) (ct9_modulo _ _ _ (by unfold inR; omega) (by rw [s1]; omega)) (Nat.le_of_ble_eq_true rfl) (by decide) (Nat.zero_le _) ?_
        rw [s1, hu]
        refine aw_pcallS2 (pc := 56) F dX9_boundOf_56 ml_9_227 (ct9_has _ _ _ u (by omega) (by omega)) (Nat.le_of_ble_eq_true rfl) (by decide) (Nat.zero_le _) ?_
        refine aw_ifb_eq (tgt := 83) (pc := 59) F dX9_boundOf_59 (by decide) (fun c59 => ?_) (fun c59 => ?_)
        · refine aw_iinc5 (pc := 83) F dX9_boundOf_83 rfl hk.symm ?_
          refine aw_goto (tgt := 31) (pc := 86) F dX9_boundOf_86 (by decide) ?_
          first | (rw [yes c59 (Or.inl c65)] at g; exact g) | (rw [yes c59 (Or.inr c69)] at g; exact g) | (rw [no (fun z => c59 z.1)] at g; exact g) | (rw [no (fun z => z.2.elim c65 (fun q => q c69))] at g; exact g)
        · refine aw_iload4 (pc := 62) F dX9_boundOf_62 ?_
          refine aw_iconst (pc := 64) F dX9_boundOf_64 ?_
          refine aw_icmp_eq (tgt := 72) (pc := 65) F dX9_boundOf_65 (by decide) (by unfold inR; omega) (by unfold inR; omega) (fun c65 => ?_) (fun c65 => ?_)
          · refine aw_aload0 (pc := 72) F dX9_boundOf_72 ?_
            refine aw_iload1 (pc := 73) F dX9_boundOf_73 ?_
            refine aw_iconst (pc := 74) F dX9_boundOf_74 ?_
            refine aw_pcallV2 (pc := 75) F dX9_boundOf_75 ml_9_200 rfl (by first | decide | (simp only [inB, cnt, rcnt]; omega)) (ct9_of _ _ _ _ (by omega) (by omega)) (Nat.le_of_ble_eq_true rfl) (by decide) (Nat.zero_le _) ?_
            rw [s1]
            refine aw_iload5 (pc := 78) F dX9_boundOf_78 ?_
            refine aw_iadd (pc := 80) F dX9_boundOf_80 ?_
            refine aw_istore4 (pc := 81) F dX9_boundOf_81 rfl hk.symm ?_
            refine aw_iinc5 (pc := 83) F dX9_boundOf_83 rfl hk.symm ?_
            refine aw_goto (tgt := 31) (pc := 86) F dX9_boundOf_86 (by decide) ?_
            first | (rw [yes c59 (Or.inl c65)] at g; exact g) | (rw [yes c59 (Or.inr c69)] at g; exact g) | (rw [no (fun z => c59 z.1)] at g; exact g) | (rw [no (fun z => z.2.elim c65 (fun q => q c69))] at g; exact g)
          · refine aw_iload2 (pc := 68) F dX9_boundOf_68 ?_
            refine aw_if_eq (tgt := 83) (pc := 69) F dX9_boundOf_69 (by decide) (by unfold inR; omega) (fun c69 => ?_) (fun c69 => ?_)
            · refine aw_iinc5 (pc := 83) F dX9_boundOf_83 rfl hk.symm ?_
              refine aw_goto (tgt := 31) (pc := 86) F dX9_boundOf_86 (by decide) ?_
              first | (rw [yes c59 (Or.inl c65)] at g; exact g) | (rw [yes c59 (Or.inr c69)] at g; exact g) | (rw [no (fun z => c59 z.1)] at g; exact g) | (rw [no (fun z => z.2.elim c65 (fun q => q c69))] at g; exact g)
            · refine aw_aload0 (pc := 72) F dX9_boundOf_72 ?_
              refine aw_iload1 (pc := 73) F dX9_boundOf_73 ?_
              refine aw_iconst (pc := 74) F dX9_boundOf_74 ?_
              refine aw_pcallV2 (pc := 75) F dX9_boundOf_75 ml_9_200 rfl (by first | decide | (simp only [inB, cnt, rcnt]; omega)) (ct9_of _ _ _ _ (by omega) (by omega)) (Nat.le_of_ble_eq_true rfl) (by decide) (Nat.zero_le _) ?_
              rw [s1]
              refine aw_iload5 (pc := 78) F dX9_boundOf_78 ?_
              refine aw_iadd (pc := 80) F dX9_boundOf_80 ?_
              refine aw_istore4 (pc := 81) F dX9_boundOf_81 rfl hk.symm ?_
              refine aw_iinc5 (pc := 83) F dX9_boundOf_83 rfl hk.symm ?_
              refine aw_goto (tgt := 31) (pc := 86) F dX9_boundOf_86 (by decide) ?_
              first | (rw [yes c59 (Or.inl c65)] at g; exact g) | (rw [yes c59 (Or.inr c69)] at g; exact g) | (rw [no (fun z => c59 z.1)] at g; exact g) | (rw [no (fun z => z.2.elim c65 (fun q => q c69))] at g; exact g)
  refine aw_aload0 (pc := 0) F dX9_boundOf_0 ?_
  refine aw_callVV0 (pc := 1) F dX9_boundOf_1 ml_9_261 rfl (by first | decide | (simp only [inB, cnt, rcnt]; omega)) (ct9_tightensS _ _ S hS h) (Nat.le_of_ble_eq_true rfl) (by decide) (Nat.zero_le _) (fun σ9 h9_1 => ?_)
  obtain ⟨A2, hg2, hm2, h9⟩ := h9_1
  subst h9
  have z1 : (setA (updM M (9, 0, 0, 0) 17 ((rdS S : Int) + 1)) (9, 0, 17, 0) A2) (9, 0, 1, 0) = S := by rw [setA_ne (by decide), ← hS]; exact funext fun j => upd_ne (Or.inl (by decide))
  refine aw_aload0 (pc := 4) F dX9_boundOf_4 ?_
  refine aw_getR (pc := 5) F dX9_boundOf_5 fl_9_26 rfl (by first | decide | (simp only [inB, cnt, rcnt]; omega)) rfl nz16 rfl ?_
  refine aw_aload0 (pc := 8) F dX9_boundOf_8 ?_
  refine aw_iload1 (pc := 9) F dX9_boundOf_9 ?_
  refine aw_iconst (pc := 10) F dX9_boundOf_10 ?_
  refine aw_pcallV2 (pc := 11) F dX9_boundOf_11 ml_9_200 rfl (by first | decide | (simp only [inB, cnt, rcnt]; omega)) (ct9_of _ _ _ _ (by omega) (by omega)) (Nat.le_of_ble_eq_true rfl) (by decide) (Nat.zero_le _) ?_
  refine aw_aload0 (pc := 14) F dX9_boundOf_14 ?_
  refine aw_iload1 (pc := 15) F dX9_boundOf_15 ?_
  refine aw_iconst (pc := 16) F dX9_boundOf_16 ?_
  refine aw_pcallV2 (pc := 17) F dX9_boundOf_17 ml_9_200 rfl (by first | decide | (simp only [inB, cnt, rcnt]; omega)) (ct9_of _ _ _ _ (by omega) (by omega)) (Nat.le_of_ble_eq_true rfl) (by decide) (Nat.zero_le _) ?_
  refine aw_pcallS2 (pc := 20) F dX9_boundOf_20 ml_9_230 (ct9_pair _ _ _ _) (Nat.le_of_ble_eq_true rfl) (by decide) (Nat.zero_le _) ?_
  rw [z1]
  refine aw_iald (pc := 23) F dX9_boundOf_23 rfl (by first | decide | (simp only [inB, cnt, rcnt]; omega)) (by omega) ?_
  refine aw_istore3 (pc := 24) F dX9_boundOf_24 rfl hk.symm ?_
  refine aw_iconst (pc := 25) F dX9_boundOf_25 ?_
  refine aw_istore4 (pc := 26) F dX9_boundOf_26 rfl hk.symm ?_
  refine aw_iconst (pc := 28) F dX9_boundOf_28 ?_
  refine aw_istore5 (pc := 29) F dX9_boundOf_29 rfl hk.symm ?_
  have g := key _ A2 rfl T 0 (by omega)
  have e9 : bdX S k = (setA (updM M (9, 0, 0, 0) 17 ((rdS S : Int) + 1)) (9, 0, 17, 0) A2) (9, 0, 17, 0) (6 * S (21 + 5 * k + 0) + S (21 + 5 * k + 1)) := by rw [setA_same]; exact (hg2 _ _ (by omega) (by omega) (by omega) (by omega)).symm
  rw [e9, hQ] at g
  exact g
