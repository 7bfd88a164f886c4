/-! 29: the first broken span -/
def fbS (S : Int → Int) : Int := fstB (fun k => ¬ kept S k) (S 20).toNat 0
theorem fstB_bd {P : Int → Prop} [DecidablePred P] : ∀ (n : Nat) (i : Int), i ≤ fstB P n i ∧ fstB P n i ≤ i + n
  | 0, i => by unfold fstB; omega
  | n + 1, i => by
    have ih := fstB_bd (P := P) n (i + 1)
    unfold fstB
    split <;> omega
theorem cq9_firstBroken (M : Id4 → Int → Int) (b : Bool) (S : Int → Int) (hS : M (9, 0, 1, 0) = S) (h : Ok S) : CtI 5 0 yX9_firstBroken cX9_firstBroken 2 (some .int) [aR (9, 0, 0, 0)] (M, R0 b) (QP M b (1 - b2i (fbS S < S 20)) (fbS S)) := by
  refine CtI.mk (by decide +kernel) rfl (Nat.le_of_ble_eq_true rfl) (fun X K F hk => ?_)
  have hN := h.2.2.1
  have s20 := congrFun hS 20
  have hO : Ok (M (9, 0, 1, 0)) := by rw [hS]; exact h
  have key : ∀ (j i : Nat), (i : Int) + j = S 20 → fstB (fun k => ¬ kept S k) j (i : Int) = fbS S → AW X K 2 [aR (9, 0, 0, 0), aI i] [] (M, R0 b) 0 (EI X K 0 (QP M b (1 - b2i (fbS S < S 20)) (fbS S))) := by
    intro j
    induction j with
    | zero =>
      intro i hi hf
      have e1 : fbS S = i := hf.symm
      refine aw_iload1 (pc := 2) F dX9_firstBroken_2 ?_
      refine aw_aload0 (pc := 3) F dX9_firstBroken_3 ?_
      refine aw_getR (pc := 4) F dX9_firstBroken_4 fl_9_7 rfl (by first | decide | (simp only [inB, cnt, rcnt]; omega)) rfl nz0 rfl ?_
      refine aw_bipush (pc := 7) F dX9_firstBroken_7 (by decide) ?_
      refine aw_iald (pc := 9) F dX9_firstBroken_9 rfl (by first | decide | (simp only [inB, cnt, rcnt]; omega)) (by omega) ?_
      refine aw_icmp_ge (tgt := 32) (pc := 10) F dX9_firstBroken_10 (by decide) (by unfold inR; omega) (by unfold inR; omega) (fun c10 => ?_) (fun c10 => ?_)
      · refine aw_aload0 (pc := 32) F dX9_firstBroken_32 ?_
        refine aw_iload1 (pc := 33) F dX9_firstBroken_33 ?_
        refine aw_aload0 (pc := 34) F dX9_firstBroken_34 ?_
        refine aw_getR (pc := 35) F dX9_firstBroken_35 fl_9_7 rfl (by first | decide | (simp only [inB, cnt, rcnt]; omega)) rfl nz0 rfl ?_
        refine aw_bipush (pc := 38) F dX9_firstBroken_38 (by decide) ?_
        refine aw_iald (pc := 40) F dX9_firstBroken_40 rfl (by first | decide | (simp only [inB, cnt, rcnt]; omega)) (by omega) ?_
        refine aw_icmp_ge (tgt := 48) (pc := 41) F dX9_firstBroken_41 (by decide) (by unfold inR; omega) (by unfold inR; omega) (fun c41 => ?_) (fun c41 => ?_)
        · refine aw_iconst (pc := 48) F dX9_firstBroken_48 ?_
          refine aw_callVI1 (pc := 49) F dX9_firstBroken_49 ml_9_176 rfl (by first | decide | (simp only [inB, cnt, rcnt]; omega)) (ct9_good1 _ _ _ (by first | exact b2i_01 | decide)) (Nat.le_of_ble_eq_true rfl) (by decide) (Nat.zero_le _) (fun v9 σ9 h9_49 => ?_)
          obtain ⟨rfl, rfl⟩ := h9_49
          refine aw_if_eq (tgt := 59) (pc := 52) F dX9_firstBroken_52 (by decide) (by unfold inR; omega) (fun _ => ?_) (fun c9 => absurd c9 (by decide))
          refine aw_iconst (pc := 59) F dX9_firstBroken_59 ?_
          exact aw_iret (pc := 60) F dX9_firstBroken_60 rfl (Nat.zero_le _) ⟨_, rfl, same9_thr, (by rw [b2i_neg (by omega)]; exact upd_same), fun z => by rw [b2i_neg (by omega)] at z; omega⟩
        · omega
      · omega
    | succ j ih =>
      intro i hi hf
      have hs := slOf_bd h (i : Int)
      unfold fstB at hf
      have yes : kept S (i : Int) → fstB (fun k => ¬ kept S k) j ((i : Int) + 1) = fbS S := fun z => by rw [if_neg (fun q => q z)] at hf; exact hf
      have no : ¬ kept S (i : Int) → fbS S = i := fun z => by rw [if_pos z] at hf; exact hf.symm
      refine aw_iload1 (pc := 2) F dX9_firstBroken_2 ?_
      refine aw_aload0 (pc := 3) F dX9_firstBroken_3 ?_
      refine aw_getR (pc := 4) F dX9_firstBroken_4 fl_9_7 rfl (by first | decide | (simp only [inB, cnt, rcnt]; omega)) rfl nz0 rfl ?_
      refine aw_bipush (pc := 7) F dX9_firstBroken_7 (by decide) ?_
      refine aw_iald (pc := 9) F dX9_firstBroken_9 rfl (by first | decide | (simp only [inB, cnt, rcnt]; omega)) (by omega) ?_
      refine aw_icmp_ge (tgt := 32) (pc := 10) F dX9_firstBroken_10 (by decide) (by unfold inR; omega) (by unfold inR; omega) (fun c10 => ?_) (fun c10 => ?_)
      · omega
      · refine aw_aload0 (pc := 13) F dX9_firstBroken_13 ?_
        refine aw_iload1 (pc := 14) F dX9_firstBroken_14 ?_
        refine aw_aload0 (pc := 15) F dX9_firstBroken_15 ?_
        refine aw_iload1 (pc := 16) F dX9_firstBroken_16 ?_
        refine aw_pcallV1 (pc := 17) F dX9_firstBroken_17 ml_9_209 rfl (by first | decide | (simp only [inB, cnt, rcnt]; omega)) (ct9_slackOf _ _ _ (by omega) hO) (Nat.le_of_ble_eq_true rfl) (by decide) (Nat.zero_le _) ?_
        refine aw_pcallV2 (pc := 20) F dX9_firstBroken_20 ml_9_215 rfl (by first | decide | (simp only [inB, cnt, rcnt]; omega)) (ct9_isKeptBy _ _ _ _ (by omega) (by rw [hS]; unfold inR; omega) hO) (Nat.le_of_ble_eq_true rfl) (by decide) (Nat.zero_le _) ?_
        refine aw_ifb_eq (tgt := 32) (pc := 23) F dX9_firstBroken_23 (by decide) (fun c23 => ?_) (fun c23 => ?_)
        · rw [hS] at c23
          refine aw_aload0 (pc := 32) F dX9_firstBroken_32 ?_
          refine aw_iload1 (pc := 33) F dX9_firstBroken_33 ?_
          refine aw_aload0 (pc := 34) F dX9_firstBroken_34 ?_
          refine aw_getR (pc := 35) F dX9_firstBroken_35 fl_9_7 rfl (by first | decide | (simp only [inB, cnt, rcnt]; omega)) rfl nz0 rfl ?_
          refine aw_bipush (pc := 38) F dX9_firstBroken_38 (by decide) ?_
          refine aw_iald (pc := 40) F dX9_firstBroken_40 rfl (by first | decide | (simp only [inB, cnt, rcnt]; omega)) (by omega) ?_
          refine aw_icmp_ge (tgt := 48) (pc := 41) F dX9_firstBroken_41 (by decide) (by unfold inR; omega) (by unfold inR; omega) (fun c41 => ?_) (fun c41 => ?_)
          · omega
          · refine aw_iconst (pc := 44) F dX9_firstBroken_44 ?_
            refine aw_goto (tgt := 49) (pc := 45) F dX9_firstBroken_45 (by decide) ?_
            refine aw_callVI1 (pc := 49) F dX9_firstBroken_49 ml_9_176 rfl (by first | decide | (simp only [inB, cnt, rcnt]; omega)) (ct9_good1 _ _ _ (by first | exact b2i_01 | decide)) (Nat.le_of_ble_eq_true rfl) (by decide) (Nat.zero_le _) (fun v9 σ9 h9_49 => ?_)
            obtain ⟨rfl, rfl⟩ := h9_49
            refine aw_if_eq (tgt := 59) (pc := 52) F dX9_firstBroken_52 (by decide) (by unfold inR; omega) (fun c9 => absurd c9 (by decide)) (fun _ => ?_)
            refine aw_iload1 (pc := 55) F dX9_firstBroken_55 ?_
            refine aw_goto (tgt := 60) (pc := 56) F dX9_firstBroken_56 (by decide) ?_
            exact aw_iret (pc := 60) F dX9_firstBroken_60 rfl (Nat.zero_le _) ⟨_, rfl, same9_thr, (by have := no c23; rw [b2i_pos (by omega)]; exact upd_same), fun z => (no c23).symm⟩
        · rw [hS] at c23
          refine aw_iinc1 (pc := 26) F dX9_firstBroken_26 rfl hk.symm ?_
          refine aw_goto (tgt := 2) (pc := 29) F dX9_firstBroken_29 (by decide) ?_
          exact ih (i + 1) (by omega) (yes c23)
  refine aw_iconst (pc := 0) F dX9_firstBroken_0 ?_
  refine aw_istore1 (pc := 1) F dX9_firstBroken_1 rfl hk.symm ?_
  exact key (S 20).toNat 0 (by omega) rfl
