/-! 80: the class reads a period, an event -/
/-- the bytes of the reader's names are bytes -/
def NmB (M : Id4 → Int → Int) : Prop := ∀ e k, 0 ≤ e → e < 6 → 0 ≤ k → k < 8 → -128 ≤ M (3, 1, 11, e) k ∧ M (3, 1, 11, e) k ≤ 127
def chRd (M M' : Id4 → Int → Int) : Prop := (∀ q, ¬ (q.1 = 6 ∨ (q.1 = 3 ∧ q.2.1 = 1) ∨ (q.1 = 5 ∧ q.2.1 = 2)) → M' q = M q) ∧ (NmB M → NmB M')
theorem chRd.rf {M : Id4 → Int → Int} : chRd M M := ⟨fun _ _ => rfl, id⟩
theorem chRd.tr {M M1 M2 : Id4 → Int → Int} (h1 : chRd M M1) (h2 : chRd M1 M2) : chRd M M2 := ⟨fun q h => (h2.1 q h).trans (h1.1 q h), fun z => h2.2 (h1.2 z)⟩
theorem chZ.w {M M' : Id4 → Int → Int} (h : chZ M M') : chRd M M' := ⟨fun q z => h.off (fun y => z (Or.inl (by rw [y]))), fun z e k e0 e1 k0 k1 => by rw [h.off (by simp)]; exact z e k e0 e1 k0 k1⟩
theorem chg5.w {M M' : Id4 → Int → Int} (h : chg5 2 M M') : chRd M M' := ⟨fun q z => h q (fun y => z (Or.inr (Or.inr y))), fun z e k e0 e1 k0 k1 => by rw [h _ (by simp)]; exact z e k e0 e1 k0 k1⟩
/-- the cells of the reader's names alone may change -/
def chN3 (M M' : Id4 → Int → Int) : Prop := ∀ q, ¬ (q.1 = 3 ∧ q.2.1 = 1) → M' q = M q
theorem chN3.w {M M' : Id4 → Int → Int} (h : chN3 M M') (hb : NmB M → NmB M') : chRd M M' := ⟨fun q z => h q (fun y => z (Or.inr (Or.inl y))), hb⟩
theorem chN3.up {M M1 : Id4 → Int → Int} {c : Nat} {r k v : Int} (h1 : chN3 M M1) : chN3 M (updM M1 (3, 1, c, r) k v) := fun q h => (upd_off (fun z => h (by rw [z]; exact ⟨rfl, rfl⟩))).trans (h1 q h)
theorem chN3.cp {M M1 : Id4 → Int → Int} {q0 : Id4} {c : Nat} {r a b n : Int} (h1 : chN3 M M1) : chN3 M (cpyM M1 q0 a (3, 1, c, r) b n) := fun q h => (cpy_off (fun z => h (by rw [z]; exact ⟨rfl, rfl⟩))).trans (h1 q h)
theorem chN3.rf {M : Id4 → Int → Int} : chN3 M M := fun _ _ => rfl
theorem BC.w {B : Int → Int} {M M' : Id4 → Int → Int} (hc : BC B M) (h : chRd M M') : BC B M' := fun i i0 i1 => by rw [h.1 _ (by decide)]; exact hc i i0 i1
theorem ct5_startWith (M : Id4 → Int → Int) (b : Bool) (T : Int) : CtV 1 0 yX5_startWith cX5_startWith 2 none [aR (5, 2, 0, 0), aI T] (M, R0 b) (fun σ' => ∃ M', σ' = (M', R0 b) ∧ chg5 2 M M' ∧ ∀ S : Int → Int, S 0 = T → S 1 = 0 → S 20 = 0 → plR M' 2 S) := by
  refine CtV.mk (by decide +kernel) rfl (Nat.le_of_ble_eq_true rfl) (fun X K F hk => ?_)
  refine aw_aload0 (pc := 0) F dX5_startWith_0 ?_
  refine aw_iload1 (pc := 1) F dX5_startWith_1 ?_
  refine aw_putI (pc := 2) F dX5_startWith_2 fl_5_9 fpi_5_0 rfl (by first | decide | (simp only [inB, cnt, rcnt]; omega)) rfl nz0 ?_
  refine aw_aload0 (pc := 5) F dX5_startWith_5 ?_
  refine aw_iconst (pc := 6) F dX5_startWith_6 ?_
  refine aw_putI (pc := 7) F dX5_startWith_7 fl_5_15 fpi_5_1 rfl (by first | decide | (simp only [inB, cnt, rcnt]; omega)) rfl nz1 ?_
  refine aw_aload0 (pc := 10) F dX5_startWith_10 ?_
  refine aw_iconst (pc := 11) F dX5_startWith_11 ?_
  refine aw_putI (pc := 12) F dX5_startWith_12 fl_5_18 fpi_5_2 rfl (by first | decide | (simp only [inB, cnt, rcnt]; omega)) rfl nz2 ?_
  exact aw_vret (pc := 15) F dX5_startWith_15 (Nat.zero_le _) ⟨_, rfl, ((chg5.rf.up).up).up, fun S s0 s1 s2 => ⟨⟨by rw [upd_ne (Or.inr (by decide)), upd_ne (Or.inr (by decide)), upd_same, s0], by rw [upd_ne (Or.inr (by decide)), upd_same, s1], by rw [upd_same, s2]⟩, fun e e0 e1 => absurd e1 (by omega), fun k k0 k1 => absurd k1 (by omega)⟩⟩
theorem ct5_appendEvent (M : Id4 → Int → Int) (b : Bool) (S : Int → Int) (t : Int) (hR : plR M 2 S) (h1 : 0 ≤ S 1 ∧ S 1 < 6) : CtV 1 0 yX5_appendEvent cX5_appendEvent 2 none [aR (5, 2, 0, 0), aI t] (M, R0 b) (fun σ' => ∃ M', σ' = (M', R0 b) ∧ chg5 2 M M' ∧ ∀ S' : Int → Int, S' 0 = S 0 → S' 1 = S 1 + 1 → S' 20 = S 20 → (∀ e, 0 ≤ e → e < S 1 → S' (14 + e) = S (14 + e)) → S' (14 + S 1) = t → (∀ k w, 0 ≤ k → 0 ≤ w → w < 5 → S' (21 + 5 * k + w) = S (21 + 5 * k + w)) → plR M' 2 S') := by
  refine CtV.mk (by decide +kernel) rfl (Nat.le_of_ble_eq_true rfl) (fun X K F hk => ?_)
  obtain ⟨⟨a, c, d⟩, f, g⟩ := hR
  refine aw_aload0 (pc := 0) F dX5_appendEvent_0 ?_
  refine aw_getI (pc := 1) F dX5_appendEvent_1 fl_5_15 rfl (by first | decide | (simp only [inB, cnt, rcnt]; omega)) rfl nz1 ?_
  refine aw_bipush (pc := 4) F dX5_appendEvent_4 (by decide) ?_
  refine aw_icmp_ge (tgt := 29) (pc := 6) F dX5_appendEvent_6 (by decide) (by unfold inR; omega) (by unfold inR; omega) (fun c6 => ?_) (fun c6 => ?_)
  · omega
  · refine aw_aload0 (pc := 9) F dX5_appendEvent_9 ?_
    refine aw_getR (pc := 10) F dX5_appendEvent_10 fl_5_21 rfl (by first | decide | (simp only [inB, cnt, rcnt]; omega)) rfl nz3 rfl ?_
    refine aw_aload0 (pc := 13) F dX5_appendEvent_13 ?_
    refine aw_getI (pc := 14) F dX5_appendEvent_14 fl_5_15 rfl (by first | decide | (simp only [inB, cnt, rcnt]; omega)) rfl nz1 ?_
    refine aw_iload1 (pc := 17) F dX5_appendEvent_17 ?_
    rw [c]
    refine aw_iast (pc := 18) F dX5_appendEvent_18 rfl (by first | decide | (simp only [inB, cnt, rcnt]; omega)) (by omega) ?_
    refine aw_aload0 (pc := 19) F dX5_appendEvent_19 ?_
    refine aw_dupR (pc := 20) F dX5_appendEvent_20 ?_
    refine aw_getI (pc := 21) F dX5_appendEvent_21 fl_5_15 rfl (by first | decide | (simp only [inB, cnt, rcnt]; omega)) rfl nz1 ?_
    refine aw_iconst (pc := 24) F dX5_appendEvent_24 ?_
    refine aw_iadd (pc := 25) F dX5_appendEvent_25 ?_
    refine aw_putI (pc := 26) F dX5_appendEvent_26 fl_5_15 fpi_5_1 rfl (by first | decide | (simp only [inB, cnt, rcnt]; omega)) rfl nz1 ?_
    exact aw_vret (pc := 29) F dX5_appendEvent_29 (Nat.zero_le _) ⟨_, rfl, (chg5.rf.up).up, fun S' s0 s1 s2 s3 s4 s5 => by
      refine ⟨⟨?_, ?_, ?_⟩, fun e e0 e1 => ?_, fun k k0 k1 => ?_⟩
      · rw [upd_ne (Or.inr (by decide)), upd_ne (Or.inl (by decide)), s0]; exact a
      · rw [upd_same, upd_ne (Or.inl (by decide)), s1, c]
      · rw [upd_ne (Or.inr (by decide)), upd_ne (Or.inl (by decide)), s2]; exact d
      · rw [upd_off (by decide)]
        by_cases z : e = S 1
        · rw [z, upd_same, s4]
        · rw [upd_ne (Or.inr z), s3 e e0 (by omega)]; exact f e e0 (by omega)
      · have q := g k k0 (by omega)
        rw [upd_off (by decide), upd_off (by decide), upd_off (by decide), upd_off (by decide), upd_off (by decide), upd_off (by decide), upd_off (by decide), upd_off (by decide), upd_off (by decide), upd_off (by decide), s5 k 0 k0 (by decide) (by decide), s5 k 1 k0 (by decide) (by decide), s5 k 2 k0 (by decide) (by decide), s5 k 3 k0 (by decide) (by decide), s5 k 4 k0 (by decide) (by decide)]
        exact q⟩
theorem nmU_at {B S : Int → Int} {a b : Int} : (∀ e, 0 ≤ e → e < S 1 → nmU B S a b (2 + 2 * e) = S (2 + 2 * e) ∧ nmU B S a b (2 + 2 * e + 1) = S (2 + 2 * e + 1)) ∧ nmU B S a b (2 + 2 * S 1) = cdI B a (min b (a + 4)) ∧ nmU B S a b (2 + 2 * S 1 + 1) = cdI B (min b (a + 4)) b := by
  unfold nmU
  refine ⟨fun e e0 e1 => ⟨?_, ?_⟩, ?_, ?_⟩
  · rw [upS_ne (by omega), upS_ne (by omega)]
  · rw [upS_ne (by omega), upS_ne (by omega)]
  · rw [upS_ne (by omega), upS_same]
  · rw [upS_same]
theorem fit_b0 : ∀ k : Nat, k < 256 → fits .byte (.int (Int32.ofInt ((k : Int) - 128))) = true := by decide +kernel
theorem fit_b {x : Int} (h : -128 ≤ x ∧ x ≤ 127) : fits .byte (.int (Int32.ofInt x)) = true := by
  have := fit_b0 (x + 128).toNat (by omega)
  rw [show (((x + 128).toNat : Nat) : Int) - 128 = x by omega] at this
  exact this
theorem nm_new {B W : Int → Int} {a b : Int} (hl : LT B a b) (h1 : a < b ∧ b ≤ a + 8) (hW : ∀ k, 0 ≤ k → k < b - a → W k = B (a + k)) : nmOk W (b - a) (cdI B a (min b (a + 4))) (cdI B (min b (a + 4)) b) := by
  refine ⟨by omega, fun k k0 k1 => by rw [hW k k0 k1]; exact hl (a + k) (by omega) (by omega), ?_, ?_⟩
  · unfold cdI
    rw [show (min (b - a) 4 - 0).toNat = (min b (a + 4) - a).toNat by omega]
    exact (cdN_congr _ (fun k k0 k1 => by rw [Int.zero_add]; exact hW k k0 (by omega))).symm
  · unfold cdI
    rw [show (b - a - min (b - a) 4).toNat = (b - min b (a + 4)).toNat by omega]
    exact (cdN_congr _ (fun k k0 k1 => by rw [hW (min (b - a) 4 + k) (by omega) (by omega)]; congr 1; omega)).symm
theorem ct3_append (M : Id4 → Int → Int) (b9 : Bool) (B S : Int → Int) (a b : Int) (hN : NmR M 1 (S 1) S) (hc : 0 ≤ S 1 ∧ S 1 < 6) (hB : BC B M) (hl : LT B a b) (h1 : 0 ≤ a ∧ a < b ∧ b ≤ a + 8 ∧ b ≤ 500) : CtV 3 0 yX3_append cX3_append 4 none [aR (3, 1, 0, 0), aR (8, 0, 1, 0), aI a, aI (b - a)] (M, R0 b9) (fun σ' => ∃ M', σ' = (M', R0 b9) ∧ chN3 M M' ∧ NmR M' 1 (S 1 + 1) (nmU B S a b) ∧ (NmB M → NmB M')) := by
  refine CtV.mk (by decide +kernel) rfl (Nat.le_of_ble_eq_true rfl) (fun X K F hk => ?_)
  have c2 := hN.1
  obtain ⟨u1, u2, u3⟩ := nmU_at (B := B) (S := S) (a := a) (b := b)
  refine aw_aload0 (pc := 0) F dX3_append_0 ?_
  refine aw_getI (pc := 1) F dX3_append_1 fl_3_20 rfl (by first | decide | (simp only [inB, cnt, rcnt]; omega)) rfl nz2 ?_
  refine aw_bipush (pc := 4) F dX3_append_4 (by decide) ?_
  refine aw_icmp_ge (tgt := 51) (pc := 6) F dX3_append_6 (by decide) (by unfold inR; omega) (by unfold inR; omega) (fun c6 => ?_) (fun c6 => ?_)
  · omega
  · refine aw_iload3 (pc := 9) F dX3_append_9 ?_
    refine aw_bipush (pc := 10) F dX3_append_10 (by decide) ?_
    refine aw_icmp_gt (tgt := 51) (pc := 12) F dX3_append_12 (by decide) (by unfold inR; omega) (by unfold inR; omega) (fun c12 => ?_) (fun c12 => ?_)
    · omega
    · refine aw_aload1 (pc := 15) F dX3_append_15 ?_
      refine aw_iload2 (pc := 16) F dX3_append_16 ?_
      refine aw_aload0 (pc := 17) F dX3_append_17 ?_
      refine aw_getR (pc := 18) F dX3_append_18 fl_3_11 rfl (by first | decide | (simp only [inB, cnt, rcnt]; omega)) rfl nz0 rfl ?_
      refine aw_aload0 (pc := 21) F dX3_append_21 ?_
      refine aw_getI (pc := 22) F dX3_append_22 fl_3_20 rfl (by first | decide | (simp only [inB, cnt, rcnt]; omega)) rfl nz2 ?_
      rw [c2]
      refine aw_aald (pc := 25) F dX3_append_25 rfl (by decide) (by first | decide | (simp only [inB, cnt, rcnt]; omega)) (by omega) rfl ?_
      refine aw_iconst (pc := 26) F dX3_append_26 ?_
      refine aw_iload3 (pc := 27) F dX3_append_27 ?_
      refine aw_copy (pc := 28) F dX3_append_28 mc_3_24 rfl rfl (by first | decide | omega) (by first | decide | (simp only [inB, cnt, rcnt]; omega)) (by first | decide | (simp only [inB, cnt, rcnt]; omega)) (by omega) (by omega) (by omega) (fun k k0 k1 => fit_b (by have := hB k (by omega) (by omega); have := hl k (by omega) (by omega); omega)) (Nat.le_of_ble_eq_true rfl) (by first | decide | omega) ?_
      refine aw_aload0 (pc := 31) F dX3_append_31 ?_
      refine aw_getR (pc := 32) F dX3_append_32 fl_3_16 rfl (by first | decide | (simp only [inB, cnt, rcnt]; omega)) rfl nz1 rfl ?_
      refine aw_aload0 (pc := 35) F dX3_append_35 ?_
      refine aw_getI (pc := 36) F dX3_append_36 fl_3_20 rfl (by first | decide | (simp only [inB, cnt, rcnt]; omega)) rfl nz2 ?_
      refine aw_iload3 (pc := 39) F dX3_append_39 ?_
      rw [show cpyM M (8, 0, 1, 0) a (3, 1, 11, S 1) 0 (b - a) (3, 1, 0, 0) 2 = S 1 by rw [cpy_off (by simp)]; exact c2]
      refine aw_iast (pc := 40) F dX3_append_40 rfl (by first | decide | (simp only [inB, cnt, rcnt]; omega)) (by omega) ?_
      refine aw_aload0 (pc := 41) F dX3_append_41 ?_
      refine aw_dupR (pc := 42) F dX3_append_42 ?_
      refine aw_getI (pc := 43) F dX3_append_43 fl_3_20 rfl (by first | decide | (simp only [inB, cnt, rcnt]; omega)) rfl nz2 ?_
      refine aw_iconst (pc := 46) F dX3_append_46 ?_
      refine aw_iadd (pc := 47) F dX3_append_47 ?_
      refine aw_putI (pc := 48) F dX3_append_48 fl_3_20 fpi_3_2 rfl (by first | decide | (simp only [inB, cnt, rcnt]; omega)) rfl nz2 ?_
      exact aw_vret (pc := 51) F dX3_append_51 (Nat.zero_le _) ⟨_, rfl, ((chN3.rf.cp).up).up, by
        refine ⟨⟨by rw [upd_same, upd_off (by decide), cpy_off (by simp), c2], fun e e0 e1 => ?_⟩, fun hb e k e0 e1 k0 k1 => ?_⟩
        rotate_left
        · rw [upd_off (by simp), upd_off (by simp)]
          unfold cpyM
          split
          · rename_i w
            have q := hB (a + (k - 0)) (by omega) (by omega)
            have q2 := hl (a + (k - 0)) (by omega) (by omega)
            rw [q.1 (by omega)]
            omega
          · exact hb e k e0 e1 k0 k1
        by_cases z : e = S 1
        · subst z
          rw [upd_off (by simp), upd_off (by simp), upd_off (by simp), upd_same, u2, u3]
          refine nm_new hl ⟨h1.2.1, by omega⟩ (fun k k0 k1 => ?_)
          have q := hB (a + k) (by omega) (by omega)
          have q2 := hl (a + k) (by omega) (by omega)
          rw [← q.1 (by omega)]
          unfold cpyM
          rw [if_pos ⟨rfl, k0, by omega⟩]
          congr 1
          omega
        · have q := hN.2 e e0 (by omega)
          obtain ⟨v1, v2⟩ := u1 e e0 (by omega)
          rw [upd_off (by simp), upd_off (by simp), upd_off (by simp), upd_ne (Or.inr z), cpy_off (by simp; exact z), cpy_off (by simp), v1, v2]
          exact q⟩
