/-! 57: the class's least prices, its first event, the prices behind -/
theorem kP_bd {S : Int → Int} (h : Ok S) {tau : Int → Int} : ∀ n : Nat, n ≤ 6 → 0 ≤ kP S tau n ∧ kP S tau n ≤ 8000000 * n
  | 0, _ => by unfold kP; omega
  | n + 1, hn => by
    have a := kP_bd h (tau := tau) n (by omega)
    have b := rwP_bd h (tau := tau) (e := (n : Int).toNat) (b := n) (t := tau n)
    rw [Int.toNat_natCast] at b
    have c : lvP S tau n = rwP S tau n n (tau n) := by unfold lvP; rw [Int.toNat_natCast]
    show 0 ≤ kP S tau n + lvP S tau n ∧ kP S tau n + lvP S tau n ≤ 8000000 * ((n + 1 : Nat) : Int)
    rw [c]
    omega
theorem mpP_bd {S : Int → Int} (h : Ok S) {a b : Int} : 0 ≤ mpP S a b ∧ mpP S a b ≤ 1048576 := mnN_bd _ (fun _ _ _ => (pc_bd h).1.1)
theorem sbP_bd {S : Int → Int} (h : Ok S) {a : Int} : 0 ≤ sbP S a ∧ sbP S a ≤ 6291456 := by
  have hE := h.2.1
  have := sumI_bd (f := fun b => if a < b then mpP S a b else 0) (c := 1048576) (S 1).toNat (fun k _ _ => by have := mpP_bd h (a := a) (b := k); split <;> omega)
  unfold sbP
  omega
theorem laP_bd {S : Int → Int} (h : Ok S) {e : Int} : 0 ≤ laP S e ∧ laP S e ≤ 37748736 := by
  have hE := h.2.1
  have := sumI_bd (f := fun a => if e < a then sbP S a else 0) (c := 6291456) (S 1).toNat (fun k _ _ => by have := sbP_bd h (a := k); split <;> omega)
  unfold laP
  omega
theorem mrP_bd {S : Int → Int} (h : Ok S) {tau : Int → Int} {e : Nat} {b : Int} : 0 ≤ mrP S tau e b ∧ mrP S tau e b ≤ 1048576 := mnN_bd _ (fun _ _ _ => (rwP_bd h).1)
theorem srP_bd {S : Int → Int} (h : Ok S) {tau : Int → Int} {e : Nat} : 0 ≤ srP S tau e ∧ srP S tau e ≤ 6291456 := by
  have hE := h.2.1
  have := sumI_bd (f := fun b => if (e : Int) ≤ b then mrP S tau e b else 0) (c := 1048576) (S 1).toNat (fun k _ _ => by have := mrP_bd h (tau := tau) (e := e) (b := k); split <;> omega)
  unfold srP
  omega
theorem laP_s {S : Int → Int} {e : Int} (h0 : 0 ≤ e) (h1 : e < S 1) : laP S (e - 1) = laP S e + sbP S e := by
  have t := sumI_one (c := sbP S e) (u := e) (S 1).toNat
  rw [if_pos (by omega)] at t
  unfold laP
  have t2 := sumI_add (f := fun a => if e < a then sbP S a else 0) (g := fun a => if a = e then sbP S e else 0) (S 1).toNat
  rw [t] at t2
  rw [← t2]
  refine sumI_congr _ (fun k k0 k1 => ?_)
  by_cases z : k = e
  · rw [if_pos (by omega), if_neg (by omega), if_pos z, z]; omega
  · rw [if_neg z]
    by_cases y : e < k
    · rw [if_pos (by omega), if_pos y]; omega
    · rw [if_neg (by omega), if_neg y]; rfl
theorem laP_top {S : Int → Int} : laP S (S 1 - 1) = 0 := by
  unfold laP
  have : sumI (fun a => if S 1 - 1 < a then sbP S a else 0) (S 1).toNat = sumI (fun a => if a = -1 then 0 else 0) (S 1).toNat := sumI_congr _ (fun k k0 k1 => by rw [if_neg (by omega)]; split <;> rfl)
  rw [this, sumI_one, if_neg (by omega)]
theorem sumI_0 {f : Int → Int} : ∀ n : Nat, (∀ k : Int, 0 ≤ k → k < n → f k = 0) → sumI f n = 0
  | 0, _ => rfl
  | n + 1, h => by
    show sumI f n + f n = 0
    rw [sumI_0 n (fun k h0 h1 => h k h0 (by omega)), h n (by omega) (by omega)]
    rfl
theorem ct7_sumLeastPrices (M : Id4 → Int → Int) (b9 : Bool) (S : Int → Int) (h : Ok S) (hT : M (7, 0, 0, 0) 8 = S 0) (hEv : M (7, 0, 0, 0) 7 = S 1) (hpr : prR S (S 20).toNat M) : CtV 4 0 yX7_sumLeastPrices cX7_sumLeastPrices 4 none [aR (7, 0, 0, 0)] (M, R0 b9) (fun σ' => ∃ A, σ' = (setA M (7, 0, 6, 0) A, R0 b9) ∧ ∀ e, 0 ≤ e → e < S 1 → A e = laP S e) := by
  refine CtV.mk (by decide +kernel) rfl (Nat.le_of_ble_eq_true rfl) (fun X K F hk => ?_)
  have hN := h.2.2.1
  have hE := h.2.1
  have hP := h.1
  obtain ⟨E, eE⟩ : ∃ E : Nat, S 1 = (E : Int) := ⟨(S 1).toNat, by omega⟩
  obtain ⟨T, eT⟩ : ∃ T : Nat, S 0 = (T : Int) := ⟨(S 0).toNat, by omega⟩
  obtain ⟨Q9, hQ⟩ : ∃ Q9, Q9 = EV X K 0 (fun σ' => ∃ A, σ' = (setA M (7, 0, 6, 0) A, R0 b9) ∧ ∀ e, 0 ≤ e → e < S 1 → A e = laP S e) := ⟨_, rfl⟩
  have keyB : ∀ (e : Nat), e < E → ∀ A, (∀ (x : Int) (w : AV), x = laP S ((e : Int) - 1) → wide w = false → AW X K 9 [aR (7, 0, 0, 0), aI x, aI ((e : Int) - 1), w] [] (setA M (7, 0, 6, 0) A, R0 b9) 0 Q9) → ∀ (j b : Nat), e < b → b + j = E → AW X K 24 [aR (7, 0, 0, 0), aI (laP S e + sumI (fun b => if (e : Int) < b then mpP S e b else 0) b), aI e, aI b] [] (setA M (7, 0, 6, 0) A, R0 b9) 0 Q9 := by
    intro e heE A cont j
    induction j with
    | zero =>
      intro b heb hb
      have hEv' : setA M (7, 0, 6, 0) A (7, 0, 0, 0) 7 = S 1 := by rw [setA_ne (by decide)]; exact hEv
      refine aw_iload3 (pc := 24) F dX7_sumLeastPrices_24 ?_
      refine aw_aload0 (pc := 25) F dX7_sumLeastPrices_25 ?_
      refine aw_getI (pc := 26) F dX7_sumLeastPrices_26 fl_7_41 rfl (by first | decide | (simp only [inB, cnt, rcnt]; omega)) rfl nz7 ?_
      refine aw_icmp_ge (tgt := 56) (pc := 29) F dX7_sumLeastPrices_29 (by decide) (by unfold inR; omega) (by unfold inR; omega) (fun c29 => ?_) (fun c29 => ?_)
      · refine aw_iinc2 (pc := 56) F dX7_sumLeastPrices_56 rfl hk.symm ?_
        refine aw_goto (tgt := 9) (pc := 59) F dX7_sumLeastPrices_59 (by decide) ?_
        exact cont _ _ (by rw [laP_s (by omega) (by omega)]; unfold sbP; rw [show (S 1).toNat = b by omega]) rfl
      · omega
    | succ j ih =>
      intro b heb hb
      have hEv' : setA M (7, 0, 6, 0) A (7, 0, 0, 0) 7 = S 1 := by rw [setA_ne (by decide)]; exact hEv
      have hT' : setA M (7, 0, 6, 0) A (7, 0, 0, 0) 8 = S 0 := by rw [setA_ne (by decide)]; exact hT
      have row : ∀ d : Int, 0 ≤ d → d < T → setA M (7, 0, 6, 0) A (7, 0, 14, 6 * (e : Int) + b) d = pc S e b d := fun d d0 d1 => by rw [setA_ne (by simp)]; exact hpr e b d (by omega) (by omega) (by omega) d0 (by omega)
      have g := ih (b + 1) (by omega) (by omega)
      have e9 : sumI (fun b => if (e : Int) < b then mpP S e b else 0) (b + 1) = sumI (fun b => if (e : Int) < b then mpP S e b else 0) b + mpP S e b := by
        show _ + (if (e : Int) < (b : Int) then mpP S e b else 0) = _
        rw [if_pos (by omega)]
      have em : mnN (setA M (7, 0, 6, 0) A (7, 0, 14, 6 * (e : Int) + b)) T = mpP S e b := by
        unfold mpP
        rw [show (S 0).toNat = T by omega]
        exact mnN_congr _ row
      refine aw_iload3 (pc := 24) F dX7_sumLeastPrices_24 ?_
      refine aw_aload0 (pc := 25) F dX7_sumLeastPrices_25 ?_
      refine aw_getI (pc := 26) F dX7_sumLeastPrices_26 fl_7_41 rfl (by first | decide | (simp only [inB, cnt, rcnt]; omega)) rfl nz7 ?_
      refine aw_icmp_ge (tgt := 56) (pc := 29) F dX7_sumLeastPrices_29 (by decide) (by unfold inR; omega) (by unfold inR; omega) (fun c29 => ?_) (fun c29 => ?_)
      · omega
      · refine aw_iload1 (pc := 32) F dX7_sumLeastPrices_32 ?_
        refine aw_aload0 (pc := 33) F dX7_sumLeastPrices_33 ?_
        refine aw_aload0 (pc := 34) F dX7_sumLeastPrices_34 ?_
        refine aw_getR (pc := 35) F dX7_sumLeastPrices_35 fl_7_29 rfl (by first | decide | (simp only [inB, cnt, rcnt]; omega)) rfl nz3 rfl ?_
        refine aw_iload2 (pc := 38) F dX7_sumLeastPrices_38 ?_
        refine aw_bipush (pc := 39) F dX7_sumLeastPrices_39 (by decide) ?_
        refine aw_imul (pc := 41) F dX7_sumLeastPrices_41 ?_
        refine aw_iload3 (pc := 42) F dX7_sumLeastPrices_42 ?_
        refine aw_iadd (pc := 43) F dX7_sumLeastPrices_43 ?_
        rw [show (e : Int) * 6 + b = 6 * (e : Int) + b by omega]
        refine aw_aald (pc := 44) F dX7_sumLeastPrices_44 rfl (by decide) (by first | decide | (simp only [inB, cnt, rcnt]; omega)) (by omega) rfl ?_
        refine aw_pcallV1 (pc := 45) F dX7_sumLeastPrices_45 ml_7_113 rfl (by first | decide | (simp only [inB, cnt, rcnt]; omega)) (ct7_leastPrice _ _ T _ (by omega) (by rw [hT', eT]) (by omega) (fun d d0 d1 => by rw [row d d0 d1]; have := (pc_bd h (a := e) (b := b) (d := d)).1; omega)) (Nat.le_of_ble_eq_true rfl) (by decide) (Nat.zero_le _) ?_
        refine aw_iadd (pc := 48) F dX7_sumLeastPrices_48 ?_
        refine aw_istore1 (pc := 49) F dX7_sumLeastPrices_49 rfl hk.symm ?_
        refine aw_iinc3 (pc := 50) F dX7_sumLeastPrices_50 rfl hk.symm ?_
        refine aw_goto (tgt := 24) (pc := 53) F dX7_sumLeastPrices_53 (by decide) ?_
        rw [em]
        rw [e9, ← Int.add_assoc] at g
        exact g
  have keyA : ∀ (j : Nat) (A : Int → Int) (w : AV), (j : Int) ≤ S 1 → wide w = false → (∀ x : Int, (j : Int) ≤ x → x < S 1 → A x = laP S x) → AW X K 9 [aR (7, 0, 0, 0), aI (laP S ((j : Int) - 1)), aI ((j : Int) - 1), w] [] (setA M (7, 0, 6, 0) A, R0 b9) 0 Q9 := by
    intro j
    induction j with
    | zero =>
      intro A w hj hw hA
      refine aw_iload2 (pc := 9) F dX7_sumLeastPrices_9 ?_
      refine aw_if_lt (tgt := 62) (pc := 10) F dX7_sumLeastPrices_10 (by decide) (by unfold inR; omega) (fun c10 => ?_) (fun c10 => ?_)
      · rw [hQ]
        exact aw_vret (pc := 62) F dX7_sumLeastPrices_62 (Nat.zero_le _) ⟨A, rfl, fun e e0 e1 => hA e (by omega) e1⟩
      · omega
    | succ j ih =>
      intro A w hj hw hA
      have e1 : ((j + 1 : Nat) : Int) - 1 = (j : Int) := by omega
      rw [e1]
      have z : sumI (fun b => if (j : Int) < b then mpP S j b else 0) (j + 1) = 0 := sumI_0 _ (fun k k0 k1 => by rw [if_neg (by omega)])
      have g := keyB j (by omega) (upS A j (laP S j)) (fun x w hx hw => by
        rw [hx]
        exact ih _ w (by omega) hw (fun y y0 y1 => by
          by_cases q : y = j
          · rw [q, upS_same]
          · rw [upS_ne q]; exact hA y (by omega) y1)) (E - (j + 1)) (j + 1) (by omega) (by omega)
      rw [z, Int.add_zero] at g
      refine aw_iload2 (pc := 9) F dX7_sumLeastPrices_9 ?_
      refine aw_if_lt (tgt := 62) (pc := 10) F dX7_sumLeastPrices_10 (by decide) (by unfold inR; omega) (fun c10 => ?_) (fun c10 => ?_)
      · omega
      · refine aw_aload0 (pc := 13) F dX7_sumLeastPrices_13 ?_
        refine aw_getR (pc := 14) F dX7_sumLeastPrices_14 fl_7_35 rfl (by first | decide | (simp only [inB, cnt, rcnt]; omega)) rfl nz5 rfl ?_
        refine aw_iload2 (pc := 17) F dX7_sumLeastPrices_17 ?_
        refine aw_iload1 (pc := 18) F dX7_sumLeastPrices_18 ?_
        refine aw_iast (pc := 19) F dX7_sumLeastPrices_19 rfl (by first | decide | (simp only [inB, cnt, rcnt]; omega)) (by omega) ?_
        refine aw_iload2 (pc := 20) F dX7_sumLeastPrices_20 ?_
        refine aw_iconst (pc := 21) F dX7_sumLeastPrices_21 ?_
        refine aw_iadd (pc := 22) F dX7_sumLeastPrices_22 ?_
        refine aw_istore3 (pc := 23) F dX7_sumLeastPrices_23 (by simp only [List.all_cons, List.all_nil, hw]; rfl) hk.symm ?_
        rw [upd_setA]
        exact g
  refine aw_iconst (pc := 0) F dX7_sumLeastPrices_0 ?_
  refine aw_istore1 (pc := 1) F dX7_sumLeastPrices_1 rfl hk.symm ?_
  refine aw_aload0 (pc := 2) F dX7_sumLeastPrices_2 ?_
  refine aw_getI (pc := 3) F dX7_sumLeastPrices_3 fl_7_41 rfl (by first | decide | (simp only [inB, cnt, rcnt]; omega)) rfl nz7 ?_
  refine aw_iconst (pc := 6) F dX7_sumLeastPrices_6 ?_
  refine aw_isub (pc := 7) F dX7_sumLeastPrices_7 ?_
  refine aw_istore2 (pc := 8) F dX7_sumLeastPrices_8 rfl hk.symm ?_
  rw [hEv, ← hQ]
  have g := keyA E (M (7, 0, 6, 0)) aX (by omega) rfl (fun x x0 x1 => absurd x1 (by omega))
  rw [setA_id, ← eE, laP_top] at g
  exact g
/-- what the events behind the first e cost -/
def RW9 (S tau : Int → Int) (e : Nat) (M : Id4 → Int → Int) : Prop := ∀ b t, (e : Int) ≤ b → b < S 1 → 0 ≤ t → t < S 0 → M (7, 0, 15, e) (24 * b + t) = rwP S tau e b t
theorem ct7_holdFirstEvent (M : Id4 → Int → Int) (b9 : Bool) (S : Int → Int) (p : Int) (hp : 0 ≤ p ∧ p < 13) (hR : plR M p S) (h : Ok S) (hT : M (7, 0, 0, 0) 8 = S 0) (hEv : M (7, 0, 0, 0) 7 = S 1) : CtV 1 0 yX7_holdFirstEvent cX7_holdFirstEvent 5 none [aR (7, 0, 0, 0), aR (5, p, 0, 0)] (M, R0 b9) (fun σ' => ∃ A, σ' = (setA M (7, 0, 15, 0) A, R0 b9) ∧ ∀ b t, 0 ≤ b → b < S 1 → 0 ≤ t → t < S 0 → A (24 * b + t) = bsP S b t) := by
  refine CtV.mk (by decide +kernel) rfl (Nat.le_of_ble_eq_true rfl) (fun X K F hk => ?_)
  have hE := h.2.1
  have hP := h.1
  obtain ⟨E, eE⟩ : ∃ E : Nat, S 1 = (E : Int) := ⟨(S 1).toNat, by omega⟩
  obtain ⟨T, eT⟩ : ∃ T : Nat, S 0 = (T : Int) := ⟨(S 0).toNat, by omega⟩
  obtain ⟨Q9, hQ⟩ : ∃ Q9, Q9 = EV X K 0 (fun σ' => ∃ A, σ' = (setA M (7, 0, 15, 0) A, R0 b9) ∧ ∀ b t, 0 ≤ b → b < S 1 → 0 ≤ t → t < S 0 → A (24 * b + t) = bsP S b t) := ⟨_, rfl⟩
  have keyB : ∀ (e : Nat), e < E → (∀ (A : Int → Int) (w3 w4 : AV), wide w3 = false → wide w4 = false → (∀ b t, 0 ≤ b → b < ((e + 1 : Nat) : Int) → 0 ≤ t → t < S 0 → A (24 * b + t) = bsP S b t) → AW X K 2 [aR (7, 0, 0, 0), aR (5, p, 0, 0), aI ((e + 1 : Nat) : Int), w3, w4] [] (setA M (7, 0, 15, 0) A, R0 b9) 0 Q9) → ∀ (j i : Nat) (A : Int → Int) (w4 : AV), i + j = T → wide w4 = false → (∀ b t, 0 ≤ b → 0 ≤ t → t < S 0 → (b < (e : Int) ∨ (b = e ∧ t < (i : Int))) → A (24 * b + t) = bsP S b t) → AW X K 12 [aR (7, 0, 0, 0), aR (5, p, 0, 0), aI e, aI i, w4] [] (setA M (7, 0, 15, 0) A, R0 b9) 0 Q9 := by
    intro e heE cont j
    induction j with
    | zero =>
      intro i A w4 hi g4 hA
      have hT' : setA M (7, 0, 15, 0) A (7, 0, 0, 0) 8 = S 0 := by rw [setA_ne (by decide)]; exact hT
      refine aw_iload3 (pc := 12) F dX7_holdFirstEvent_12 ?_
      refine aw_aload0 (pc := 13) F dX7_holdFirstEvent_13 ?_
      refine aw_getI (pc := 14) F dX7_holdFirstEvent_14 fl_7_44 rfl (by first | decide | (simp only [inB, cnt, rcnt]; omega)) rfl nz8 ?_
      refine aw_icmp_ge (tgt := 71) (pc := 17) F dX7_holdFirstEvent_17 (by decide) (by unfold inR; omega) (by unfold inR; omega) (fun c17 => ?_) (fun c17 => ?_)
      · refine aw_iinc2 (pc := 71) F dX7_holdFirstEvent_71 (by simp only [List.all_cons, List.all_nil, g4]; rfl) hk.symm ?_
        refine aw_goto (tgt := 2) (pc := 74) F dX7_holdFirstEvent_74 (by decide) ?_
        exact cont A _ w4 rfl g4 (fun b t q0 q1 q2 q3 => hA b t q0 q2 q3 (by omega))
      · omega
    | succ j ih =>
      intro i A w4 hi g4 hA
      have hT' : setA M (7, 0, 15, 0) A (7, 0, 0, 0) 8 = S 0 := by rw [setA_ne (by decide)]; exact hT
      have t0 : setA M (7, 0, 15, 0) A (5, p, 4, 0) 0 = S 14 := by rw [setA_ne (by simp)]; exact hR.2.1 0 (by decide) (by omega)
      have tb : 0 ≤ S 14 ∧ S 14 < S 0 := h.2.2.2.1 0 (by decide) (by omega)
      have st : ∀ v w, v = bsP S e i → wide w = false → AW X K 12 [aR (7, 0, 0, 0), aR (5, p, 0, 0), aI e, aI ((i + 1 : Nat) : Int), w] [] (updM (setA M (7, 0, 15, 0) A) (7, 0, 15, 0) (24 * (e : Int) + i) v, R0 b9) 0 Q9 := fun v w hv hw => by
        rw [upd_setA]
        refine ih (i + 1) _ w (by omega) hw (fun b t q0 q2 q3 q4 => ?_)
        by_cases z : b = e ∧ t = i
        · rw [z.1, z.2, upS_same]; exact hv
        · rw [upS_ne (fun y => z (by omega))]; exact hA b t q0 q2 q3 (by omega)
      refine aw_iload3 (pc := 12) F dX7_holdFirstEvent_12 ?_
      refine aw_aload0 (pc := 13) F dX7_holdFirstEvent_13 ?_
      refine aw_getI (pc := 14) F dX7_holdFirstEvent_14 fl_7_44 rfl (by first | decide | (simp only [inB, cnt, rcnt]; omega)) rfl nz8 ?_
      refine aw_icmp_ge (tgt := 71) (pc := 17) F dX7_holdFirstEvent_17 (by decide) (by first | (unfold inR; omega) | (rw [t0]; unfold inR; omega)) (by first | (unfold inR; omega) | (rw [t0]; unfold inR; omega)) (fun c17 => ?_) (fun c17 => ?_)
      · omega
      · refine aw_iload2 (pc := 20) F dX7_holdFirstEvent_20 ?_
        refine aw_if_gt (tgt := 34) (pc := 21) F dX7_holdFirstEvent_21 (by decide) (by first | (unfold inR; omega) | (rw [t0]; unfold inR; omega)) (fun c21 => ?_) (fun c21 => ?_)
        · refine aw_iconst (pc := 34) F dX7_holdFirstEvent_34 ?_
          refine aw_goto (tgt := 39) (pc := 35) F dX7_holdFirstEvent_35 (by decide) ?_
          refine aw_istore4 (pc := 39) F dX7_holdFirstEvent_39 (by simp only [List.all_cons, List.all_nil, g4]; rfl) hk.symm ?_
          refine aw_aload0 (pc := 41) F dX7_holdFirstEvent_41 ?_
          refine aw_getR (pc := 42) F dX7_holdFirstEvent_42 fl_7_32 rfl (by first | decide | (simp only [inB, cnt, rcnt]; omega)) rfl nz4 rfl ?_
          refine aw_iconst (pc := 45) F dX7_holdFirstEvent_45 ?_
          refine aw_aald (pc := 46) F dX7_holdFirstEvent_46 rfl (by decide) (by first | decide | (simp only [inB, cnt, rcnt]; omega)) (by omega) rfl ?_
          refine aw_iload2 (pc := 47) F dX7_holdFirstEvent_47 ?_
          refine aw_bipush (pc := 48) F dX7_holdFirstEvent_48 (by decide) ?_
          refine aw_imul (pc := 50) F dX7_holdFirstEvent_50 ?_
          refine aw_iload3 (pc := 51) F dX7_holdFirstEvent_51 ?_
          refine aw_iadd (pc := 52) F dX7_holdFirstEvent_52 ?_
          rw [show (e : Int) * 24 + i = 24 * (e : Int) + i by omega]
          refine aw_iload4 (pc := 53) F dX7_holdFirstEvent_53 ?_
          refine aw_if_eq (tgt := 62) (pc := 55) F dX7_holdFirstEvent_55 (by decide) (by first | (unfold inR; omega) | (rw [t0]; unfold inR; omega)) (fun c55 => ?_) (fun c55 => ?_)
          · refine aw_ldc (pc := 62) F dX7_holdFirstEvent_62 kc_7_11 ?_
            refine aw_iast (pc := 64) F dX7_holdFirstEvent_64 rfl (by first | decide | (simp only [inB, cnt, rcnt]; omega)) (by omega) ?_
            refine aw_iinc3 (pc := 65) F dX7_holdFirstEvent_65 (by simp only [List.all_cons, List.all_nil, g4]; rfl) hk.symm ?_
            refine aw_goto (tgt := 12) (pc := 68) F dX7_holdFirstEvent_68 (by decide) ?_
            first | exact absurd rfl c55 | exact absurd c55 (by decide) | exact st _ _ (by unfold bsP; rw [if_pos (Or.inl (by omega))]) rfl | (rw [t0] at c31; exact st _ _ (by unfold bsP; rw [if_pos (Or.inr c31)]) rfl) | (rw [t0] at c31; exact st _ _ (by unfold bsP; rw [if_neg (by omega)]) rfl)
          · refine aw_iconst (pc := 58) F dX7_holdFirstEvent_58 ?_
            refine aw_goto (tgt := 64) (pc := 59) F dX7_holdFirstEvent_59 (by decide) ?_
            refine aw_iast (pc := 64) F dX7_holdFirstEvent_64 rfl (by first | decide | (simp only [inB, cnt, rcnt]; omega)) (by omega) ?_
            refine aw_iinc3 (pc := 65) F dX7_holdFirstEvent_65 (by simp only [List.all_cons, List.all_nil, g4]; rfl) hk.symm ?_
            refine aw_goto (tgt := 12) (pc := 68) F dX7_holdFirstEvent_68 (by decide) ?_
            first | exact absurd rfl c55 | exact absurd c55 (by decide) | exact st _ _ (by unfold bsP; rw [if_pos (Or.inl (by omega))]) rfl | (rw [t0] at c31; exact st _ _ (by unfold bsP; rw [if_pos (Or.inr c31)]) rfl) | (rw [t0] at c31; exact st _ _ (by unfold bsP; rw [if_neg (by omega)]) rfl)
        · refine aw_iload3 (pc := 24) F dX7_holdFirstEvent_24 ?_
          refine aw_aload1 (pc := 25) F dX7_holdFirstEvent_25 ?_
          refine aw_getR (pc := 26) F dX7_holdFirstEvent_26 fl_7_117 rfl (by first | decide | (simp only [inB, cnt, rcnt]; omega)) rfl nz3 rfl ?_
          refine aw_iconst (pc := 29) F dX7_holdFirstEvent_29 ?_
          refine aw_iald (pc := 30) F dX7_holdFirstEvent_30 rfl (by first | decide | (simp only [inB, cnt, rcnt]; omega)) (by omega) ?_
          refine aw_icmp_ne (tgt := 38) (pc := 31) F dX7_holdFirstEvent_31 (by decide) (by first | (unfold inR; omega) | (rw [t0]; unfold inR; omega)) (by first | (unfold inR; omega) | (rw [t0]; unfold inR; omega)) (fun c31 => ?_) (fun c31 => ?_)
          · refine aw_iconst (pc := 38) F dX7_holdFirstEvent_38 ?_
            refine aw_istore4 (pc := 39) F dX7_holdFirstEvent_39 (by simp only [List.all_cons, List.all_nil, g4]; rfl) hk.symm ?_
            refine aw_aload0 (pc := 41) F dX7_holdFirstEvent_41 ?_
            refine aw_getR (pc := 42) F dX7_holdFirstEvent_42 fl_7_32 rfl (by first | decide | (simp only [inB, cnt, rcnt]; omega)) rfl nz4 rfl ?_
            refine aw_iconst (pc := 45) F dX7_holdFirstEvent_45 ?_
            refine aw_aald (pc := 46) F dX7_holdFirstEvent_46 rfl (by decide) (by first | decide | (simp only [inB, cnt, rcnt]; omega)) (by omega) rfl ?_
            refine aw_iload2 (pc := 47) F dX7_holdFirstEvent_47 ?_
            refine aw_bipush (pc := 48) F dX7_holdFirstEvent_48 (by decide) ?_
            refine aw_imul (pc := 50) F dX7_holdFirstEvent_50 ?_
            refine aw_iload3 (pc := 51) F dX7_holdFirstEvent_51 ?_
            refine aw_iadd (pc := 52) F dX7_holdFirstEvent_52 ?_
            rw [show (e : Int) * 24 + i = 24 * (e : Int) + i by omega]
            refine aw_iload4 (pc := 53) F dX7_holdFirstEvent_53 ?_
            refine aw_if_eq (tgt := 62) (pc := 55) F dX7_holdFirstEvent_55 (by decide) (by first | (unfold inR; omega) | (rw [t0]; unfold inR; omega)) (fun c55 => ?_) (fun c55 => ?_)
            · refine aw_ldc (pc := 62) F dX7_holdFirstEvent_62 kc_7_11 ?_
              refine aw_iast (pc := 64) F dX7_holdFirstEvent_64 rfl (by first | decide | (simp only [inB, cnt, rcnt]; omega)) (by omega) ?_
              refine aw_iinc3 (pc := 65) F dX7_holdFirstEvent_65 (by simp only [List.all_cons, List.all_nil, g4]; rfl) hk.symm ?_
              refine aw_goto (tgt := 12) (pc := 68) F dX7_holdFirstEvent_68 (by decide) ?_
              first | exact absurd rfl c55 | exact absurd c55 (by decide) | exact st _ _ (by unfold bsP; rw [if_pos (Or.inl (by omega))]) rfl | (rw [t0] at c31; exact st _ _ (by unfold bsP; rw [if_pos (Or.inr c31)]) rfl) | (rw [t0] at c31; exact st _ _ (by unfold bsP; rw [if_neg (by omega)]) rfl)
            · refine aw_iconst (pc := 58) F dX7_holdFirstEvent_58 ?_
              refine aw_goto (tgt := 64) (pc := 59) F dX7_holdFirstEvent_59 (by decide) ?_
              refine aw_iast (pc := 64) F dX7_holdFirstEvent_64 rfl (by first | decide | (simp only [inB, cnt, rcnt]; omega)) (by omega) ?_
              refine aw_iinc3 (pc := 65) F dX7_holdFirstEvent_65 (by simp only [List.all_cons, List.all_nil, g4]; rfl) hk.symm ?_
              refine aw_goto (tgt := 12) (pc := 68) F dX7_holdFirstEvent_68 (by decide) ?_
              first | exact absurd rfl c55 | exact absurd c55 (by decide) | exact st _ _ (by unfold bsP; rw [if_pos (Or.inl (by omega))]) rfl | (rw [t0] at c31; exact st _ _ (by unfold bsP; rw [if_pos (Or.inr c31)]) rfl) | (rw [t0] at c31; exact st _ _ (by unfold bsP; rw [if_neg (by omega)]) rfl)
          · refine aw_iconst (pc := 34) F dX7_holdFirstEvent_34 ?_
            refine aw_goto (tgt := 39) (pc := 35) F dX7_holdFirstEvent_35 (by decide) ?_
            refine aw_istore4 (pc := 39) F dX7_holdFirstEvent_39 (by simp only [List.all_cons, List.all_nil, g4]; rfl) hk.symm ?_
            refine aw_aload0 (pc := 41) F dX7_holdFirstEvent_41 ?_
            refine aw_getR (pc := 42) F dX7_holdFirstEvent_42 fl_7_32 rfl (by first | decide | (simp only [inB, cnt, rcnt]; omega)) rfl nz4 rfl ?_
            refine aw_iconst (pc := 45) F dX7_holdFirstEvent_45 ?_
            refine aw_aald (pc := 46) F dX7_holdFirstEvent_46 rfl (by decide) (by first | decide | (simp only [inB, cnt, rcnt]; omega)) (by omega) rfl ?_
            refine aw_iload2 (pc := 47) F dX7_holdFirstEvent_47 ?_
            refine aw_bipush (pc := 48) F dX7_holdFirstEvent_48 (by decide) ?_
            refine aw_imul (pc := 50) F dX7_holdFirstEvent_50 ?_
            refine aw_iload3 (pc := 51) F dX7_holdFirstEvent_51 ?_
            refine aw_iadd (pc := 52) F dX7_holdFirstEvent_52 ?_
            rw [show (e : Int) * 24 + i = 24 * (e : Int) + i by omega]
            refine aw_iload4 (pc := 53) F dX7_holdFirstEvent_53 ?_
            refine aw_if_eq (tgt := 62) (pc := 55) F dX7_holdFirstEvent_55 (by decide) (by first | (unfold inR; omega) | (rw [t0]; unfold inR; omega)) (fun c55 => ?_) (fun c55 => ?_)
            · refine aw_ldc (pc := 62) F dX7_holdFirstEvent_62 kc_7_11 ?_
              refine aw_iast (pc := 64) F dX7_holdFirstEvent_64 rfl (by first | decide | (simp only [inB, cnt, rcnt]; omega)) (by omega) ?_
              refine aw_iinc3 (pc := 65) F dX7_holdFirstEvent_65 (by simp only [List.all_cons, List.all_nil, g4]; rfl) hk.symm ?_
              refine aw_goto (tgt := 12) (pc := 68) F dX7_holdFirstEvent_68 (by decide) ?_
              first | exact absurd rfl c55 | exact absurd c55 (by decide) | exact st _ _ (by unfold bsP; rw [if_pos (Or.inl (by omega))]) rfl | (rw [t0] at c31; exact st _ _ (by unfold bsP; rw [if_pos (Or.inr c31)]) rfl) | (rw [t0] at c31; exact st _ _ (by unfold bsP; rw [if_neg (by omega)]) rfl)
            · refine aw_iconst (pc := 58) F dX7_holdFirstEvent_58 ?_
              refine aw_goto (tgt := 64) (pc := 59) F dX7_holdFirstEvent_59 (by decide) ?_
              refine aw_iast (pc := 64) F dX7_holdFirstEvent_64 rfl (by first | decide | (simp only [inB, cnt, rcnt]; omega)) (by omega) ?_
              refine aw_iinc3 (pc := 65) F dX7_holdFirstEvent_65 (by simp only [List.all_cons, List.all_nil, g4]; rfl) hk.symm ?_
              refine aw_goto (tgt := 12) (pc := 68) F dX7_holdFirstEvent_68 (by decide) ?_
              first | exact absurd rfl c55 | exact absurd c55 (by decide) | exact st _ _ (by unfold bsP; rw [if_pos (Or.inl (by omega))]) rfl | (rw [t0] at c31; exact st _ _ (by unfold bsP; rw [if_pos (Or.inr c31)]) rfl) | (rw [t0] at c31; exact st _ _ (by unfold bsP; rw [if_neg (by omega)]) rfl)
  have keyA : ∀ (j e : Nat) (A : Int → Int) (w3 w4 : AV), e + j = E → wide w3 = false → wide w4 = false → (∀ b t, 0 ≤ b → b < (e : Int) → 0 ≤ t → t < S 0 → A (24 * b + t) = bsP S b t) → AW X K 2 [aR (7, 0, 0, 0), aR (5, p, 0, 0), aI e, w3, w4] [] (setA M (7, 0, 15, 0) A, R0 b9) 0 Q9 := by
    intro j
    induction j with
    | zero =>
      intro e A w3 w4 he g3 g4 hA
      have hEv' : setA M (7, 0, 15, 0) A (7, 0, 0, 0) 7 = S 1 := by rw [setA_ne (by decide)]; exact hEv
      refine aw_iload2 (pc := 2) F dX7_holdFirstEvent_2 ?_
      refine aw_aload0 (pc := 3) F dX7_holdFirstEvent_3 ?_
      refine aw_getI (pc := 4) F dX7_holdFirstEvent_4 fl_7_41 rfl (by first | decide | (simp only [inB, cnt, rcnt]; omega)) rfl nz7 ?_
      refine aw_icmp_ge (tgt := 77) (pc := 7) F dX7_holdFirstEvent_7 (by decide) (by unfold inR; omega) (by unfold inR; omega) (fun c7 => ?_) (fun c7 => ?_)
      · rw [hQ]
        exact aw_vret (pc := 77) F dX7_holdFirstEvent_77 (Nat.zero_le _) ⟨A, rfl, fun b t q0 q1 q2 q3 => hA b t q0 (by omega) q2 q3⟩
      · omega
    | succ j ih =>
      intro e A w3 w4 he g3 g4 hA
      have hEv' : setA M (7, 0, 15, 0) A (7, 0, 0, 0) 7 = S 1 := by rw [setA_ne (by decide)]; exact hEv
      refine aw_iload2 (pc := 2) F dX7_holdFirstEvent_2 ?_
      refine aw_aload0 (pc := 3) F dX7_holdFirstEvent_3 ?_
      refine aw_getI (pc := 4) F dX7_holdFirstEvent_4 fl_7_41 rfl (by first | decide | (simp only [inB, cnt, rcnt]; omega)) rfl nz7 ?_
      refine aw_icmp_ge (tgt := 77) (pc := 7) F dX7_holdFirstEvent_7 (by decide) (by unfold inR; omega) (by unfold inR; omega) (fun c7 => ?_) (fun c7 => ?_)
      · omega
      · refine aw_iconst (pc := 10) F dX7_holdFirstEvent_10 ?_
        refine aw_istore3 (pc := 11) F dX7_holdFirstEvent_11 (by simp only [List.all_cons, List.all_nil, g3, g4]; rfl) hk.symm ?_
        exact keyB e (by omega) (fun A w3 w4 g3 g4 hA => ih (e + 1) A w3 w4 (by omega) g3 g4 hA) T 0 A w4 (by omega) g4 (fun b t q0 q2 q3 q4 => hA b t q0 (by omega) q2 q3)
  refine aw_iconst (pc := 0) F dX7_holdFirstEvent_0 ?_
  refine aw_istore2 (pc := 1) F dX7_holdFirstEvent_1 rfl hk.symm ?_
  rw [← hQ]
  have g := keyA E 0 (M (7, 0, 15, 0)) aX aX (by omega) rfl rfl (fun b t q0 q1 q2 q3 => absurd q1 (by omega))
  rw [setA_id] at g
  exact g
theorem ct7_canGetBest (M : Id4 → Int → Int) (b9 : Bool) (x bc f : Int) (h1 : inR x) (h2 : inR bc) (h3 : f = 0 ∨ f = 1) (hb : M (7, 0, 0, 0) 0 = bc) (hf : M (7, 0, 0, 0) 9 = f) : CtI 1 0 yX7_canGetBest cX7_canGetBest 2 (some .boolean) [aR (7, 0, 0, 0), aI x] (M, R0 b9) (PU (M, R0 b9) (b2i (x < bc ∧ (bc = 1048576 ∨ f = 0)))) := by
  refine CtI.mk (by decide +kernel) rfl (Nat.le_of_ble_eq_true rfl) (fun X K F hk => ?_)
  refine aw_iload1 (pc := 0) F dX7_canGetBest_0 ?_
  refine aw_aload0 (pc := 1) F dX7_canGetBest_1 ?_
  refine aw_getI (pc := 2) F dX7_canGetBest_2 fl_7_12 rfl (by first | decide | (simp only [inB, cnt, rcnt]; omega)) rfl nz0 ?_
  refine aw_icmp_ge (tgt := 28) (pc := 5) F dX7_canGetBest_5 (by decide) (by first | assumption | (rw [hb]; assumption) | (unfold inR; omega)) (by first | assumption | (rw [hb]; assumption) | (unfold inR; omega)) (fun c5 => ?_) (fun c5 => ?_)
  · refine aw_iconst (pc := 28) F dX7_canGetBest_28 ?_
    exact aw_iret (pc := 29) F dX7_canGetBest_29 (nar_bool (by first | exact b2i_01 | decide)) (Nat.zero_le _) ⟨by first | exact (b2i_pos (by omega)).symm | exact (b2i_neg (by omega)).symm, rfl⟩
  · refine aw_aload0 (pc := 8) F dX7_canGetBest_8 ?_
    refine aw_getI (pc := 9) F dX7_canGetBest_9 fl_7_12 rfl (by first | decide | (simp only [inB, cnt, rcnt]; omega)) rfl nz0 ?_
    refine aw_ldc (pc := 12) F dX7_canGetBest_12 kc_7_11 ?_
    refine aw_icmp_eq (tgt := 24) (pc := 14) F dX7_canGetBest_14 (by decide) (by first | assumption | (rw [hb]; assumption) | (unfold inR; omega)) (by first | assumption | (rw [hb]; assumption) | (unfold inR; omega)) (fun c14 => ?_) (fun c14 => ?_)
    · refine aw_iconst (pc := 24) F dX7_canGetBest_24 ?_
      refine aw_goto (tgt := 29) (pc := 25) F dX7_canGetBest_25 (by decide) ?_
      exact aw_iret (pc := 29) F dX7_canGetBest_29 (nar_bool (by first | exact b2i_01 | decide)) (Nat.zero_le _) ⟨by first | exact (b2i_pos (by omega)).symm | exact (b2i_neg (by omega)).symm, rfl⟩
    · refine aw_aload0 (pc := 17) F dX7_canGetBest_17 ?_
      refine aw_getI (pc := 18) F dX7_canGetBest_18 fl_7_47 rfl (by first | decide | (simp only [inB, cnt, rcnt]; omega)) rfl nz9 ?_
      refine aw_if_ne (tgt := 28) (pc := 21) F dX7_canGetBest_21 (by decide) (by first | assumption | (rw [hb]; assumption) | (unfold inR; omega)) (fun c21 => ?_) (fun c21 => ?_)
      · refine aw_iconst (pc := 28) F dX7_canGetBest_28 ?_
        exact aw_iret (pc := 29) F dX7_canGetBest_29 (nar_bool (by first | exact b2i_01 | decide)) (Nat.zero_le _) ⟨by first | exact (b2i_pos (by omega)).symm | exact (b2i_neg (by omega)).symm, rfl⟩
      · refine aw_iconst (pc := 24) F dX7_canGetBest_24 ?_
        refine aw_goto (tgt := 29) (pc := 25) F dX7_canGetBest_25 (by decide) ?_
        exact aw_iret (pc := 29) F dX7_canGetBest_29 (nar_bool (by first | exact b2i_01 | decide)) (Nat.zero_le _) ⟨by first | exact (b2i_pos (by omega)).symm | exact (b2i_neg (by omega)).symm, rfl⟩
theorem ct7_priceBehind (M : Id4 → Int → Int) (b9 : Bool) (S tau : Int → Int) (e : Nat) (t : Int) (h : Ok S) (hT : M (7, 0, 0, 0) 8 = S 0) (hEv : M (7, 0, 0, 0) 7 = S 1) (he : (e : Int) < S 1) (ht : 0 ≤ t ∧ t < S 0) (hpr : prR S (S 20).toNat M) (hla : ∀ x, 0 ≤ x → x < S 1 → M (7, 0, 6, 0) x = laP S x) (hrw : RW9 S tau e M) : CtI 3 0 yX7_priceBehind cX7_priceBehind 11 (some .int) [aR (7, 0, 0, 0), aI e, aI t] (M, R0 b9) (fun v σ' => v = laP S e + srP S (upS tau e t) (e + 1) ∧ ∃ A, σ' = (setA M (7, 0, 15, ((e + 1 : Nat) : Int)) A, R0 b9) ∧ RW9 S (upS tau e t) (e + 1) (setA M (7, 0, 15, ((e + 1 : Nat) : Int)) A)) := by
  refine CtI.mk (by decide +kernel) rfl (Nat.le_of_ble_eq_true rfl) (fun X K F hk => ?_)
  have hE := h.2.1
  have hP := h.1
  obtain ⟨E, eE⟩ : ∃ E : Nat, S 1 = (E : Int) := ⟨(S 1).toNat, by omega⟩
  obtain ⟨T, eT⟩ : ∃ T : Nat, S 0 = (T : Int) := ⟨(S 0).toNat, by omega⟩
  have tT : (S 0).toNat = T := by omega
  obtain ⟨tau', htau⟩ : ∃ tau', tau' = upS tau e t := ⟨_, rfl⟩
  rw [← htau]
  have te : tau' e = t := by rw [htau, upS_same]
  have rs : ∀ b t', rwP S tau' (e + 1) b t' = rwP S tau e b t' + pc S e b ((t' - t) % S 0) := fun b t' => by
    rw [rwP_s, te, htau, rwP_agr (fun a a0 a1 => upS_ne (by omega))]
  obtain ⟨Q9, hQ⟩ : ∃ Q9, Q9 = EI X K 0 (fun v σ' => v = laP S e + srP S tau' (e + 1) ∧ ∃ A, σ' = (setA M (7, 0, 15, ((e + 1 : Nat) : Int)) A, R0 b9) ∧ RW9 S tau' (e + 1) (setA M (7, 0, 15, ((e + 1 : Nat) : Int)) A)) := ⟨_, rfl⟩
  have fx : ∀ (A : Int → Int) (c : Nat) (r : Int), c ≠ 15 → setA M (7, 0, 15, ((e + 1 : Nat) : Int)) A (7, 0, c, r) = M (7, 0, c, r) := fun A c r hc => setA_ne (by simp [hc])
  have keyB : ∀ (b : Nat), e < b → b < E → ∀ x : Int, x = laP S e + sumI (fun b => if ((e + 1 : Nat) : Int) ≤ b then mrP S tau' (e + 1) b else 0) b → (∀ (A : Int → Int) (w5 w6 w7 w8 w9 w10 : AV), wide w5 = false → wide w6 = false → wide w7 = false → wide w8 = false → wide w9 = false → wide w10 = false → (∀ y t', (e : Int) < y → y < ((b + 1 : Nat) : Int) → 0 ≤ t' → t' < S 0 → A (24 * y + t') = rwP S tau' (e + 1) y t') → AW X K 12 [aR (7, 0, 0, 0), aI e, aI t, aI (x + mrP S tau' (e + 1) b), aI ((b + 1 : Nat) : Int), w5, w6, w7, w8, w9, w10] [] (setA M (7, 0, 15, ((e + 1 : Nat) : Int)) A, R0 b9) 0 Q9) → ∀ (j i : Nat) (A : Int → Int) (w8 w9 w10 : AV), i + j = T → wide w8 = false → wide w9 = false → wide w10 = false → (∀ y t', (e : Int) < y → 0 ≤ t' → t' < S 0 → (y < (b : Int) ∨ (y = b ∧ t' < (i : Int))) → A (24 * y + t') = rwP S tau' (e + 1) y t') → AW X K 42 [aR (7, 0, 0, 0), aI e, aI t, aI x, aI b, aR (7, 0, 14, 6 * (e : Int) + b), aI (mnN (fun t' => rwP S tau' (e + 1) b t') i), aI i, w8, w9, w10] [] (setA M (7, 0, 15, ((e + 1 : Nat) : Int)) A, R0 b9) 0 Q9 := by
    intro b heb hbE x hx cont j
    induction j with
    | zero =>
      intro i A w8 w9 w10 hi g8 g9 g10 hA
      obtain rfl : i = T := by omega
      have hT' : setA M (7, 0, 15, ((e + 1 : Nat) : Int)) A (7, 0, 0, 0) 8 = S 0 := by rw [fx A 0 0 (by decide)]; exact hT
      have em : mnN (fun t' => rwP S tau' (e + 1) b t') i = mrP S tau' (e + 1) b := by unfold mrP; rw [tT]
      refine aw_iload7 (pc := 42) F dX7_priceBehind_42 ?_
      refine aw_aload0 (pc := 44) F dX7_priceBehind_44 ?_
      refine aw_getI (pc := 45) F dX7_priceBehind_45 fl_7_44 rfl (by first | decide | (simp only [inB, cnt, rcnt]; omega)) rfl nz8 ?_
      refine aw_icmp_ge (tgt := 130) (pc := 48) F dX7_priceBehind_48 (by decide) (by unfold inR; omega) (by unfold inR; omega) (fun c48 => ?_) (fun c48 => ?_)
      · refine aw_iload3 (pc := 130) F dX7_priceBehind_130 ?_
        refine aw_iload6 (pc := 131) F dX7_priceBehind_131 ?_
        refine aw_iadd (pc := 133) F dX7_priceBehind_133 ?_
        refine aw_istore3 (pc := 134) F dX7_priceBehind_134 (by simp only [List.all_cons, List.all_nil, g8, g9, g10]; rfl) hk.symm ?_
        refine aw_iinc4 (pc := 135) F dX7_priceBehind_135 (by simp only [List.all_cons, List.all_nil, g8, g9, g10]; rfl) hk.symm ?_
        refine aw_goto (tgt := 12) (pc := 138) F dX7_priceBehind_138 (by decide) ?_
        rw [em]
        exact cont A _ _ _ w8 w9 w10 rfl rfl rfl g8 g9 g10 (fun y t' q0 q1 q2 q3 => hA y t' q0 q2 q3 (by omega))
      · omega
    | succ j ih =>
      intro i A w8 w9 w10 hi g8 g9 g10 hA
      have hT' : setA M (7, 0, 15, ((e + 1 : Nat) : Int)) A (7, 0, 0, 0) 8 = S 0 := by rw [fx A 0 0 (by decide)]; exact hT
      have ro : setA M (7, 0, 15, ((e + 1 : Nat) : Int)) A (7, 0, 15, (e : Int)) (24 * (b : Int) + i) = rwP S tau e b i := by
        rw [setA_ne (by simp; omega)]
        exact hrw b i (by omega) (by omega) (by omega) (by omega)
      have em : ∀ d : Int, d = (if (i : Int) < t then (i : Int) - t + S 0 else (i : Int) - t) → d = ((i : Int) - t) % S 0 ∧ 0 ≤ d ∧ d < S 0 := fun d hd => by
        by_cases z : (i : Int) < t
        · rw [if_pos z] at hd
          have : ((i : Int) - t) % S 0 = (i : Int) - t + S 0 := by
            have e2 := Int.add_mul_emod_self_left ((i : Int) - t) (S 0) 1
            rw [Int.mul_one] at e2
            rw [← e2]
            exact Int.emod_eq_of_lt (by omega) (by omega)
          omega
        · rw [if_neg z] at hd
          have : ((i : Int) - t) % S 0 = (i : Int) - t := Int.emod_eq_of_lt (by omega) (by omega)
          omega
      have pr : ∀ d, 0 ≤ d → d < S 0 → setA M (7, 0, 15, ((e + 1 : Nat) : Int)) A (7, 0, 14, 6 * (e : Int) + b) d = pc S e b d := fun d d0 d1 => by rw [fx A 14 _ (by decide)]; exact hpr e b d (by omega) (by omega) (by omega) d0 d1
      have rb := rwP_bd h (tau := tau') (e := e + 1) (b := b) (t := i)
      have mb := mnN_bd (f := fun t' => rwP S tau' (e + 1) b t') i (fun _ _ _ => (rwP_bd h).1)
      have st : ∀ (d : Int) (w8 w9 w10 : AV), wide w8 = false → wide w9 = false → wide w10 = false → AW X K 42 [aR (7, 0, 0, 0), aI e, aI t, aI x, aI b, aR (7, 0, 14, 6 * (e : Int) + b), aI (min (mnN (fun t' => rwP S tau' (e + 1) b t') i) (rwP S tau' (e + 1) b i)), aI ((i + 1 : Nat) : Int), w8, w9, w10] [] (updM (setA M (7, 0, 15, ((e + 1 : Nat) : Int)) A) (7, 0, 15, ((e + 1 : Nat) : Int)) (24 * (b : Int) + i) (rwP S tau' (e + 1) b i), R0 b9) 0 Q9 := fun d w8 w9 w10 g8 g9 g10 => by
        rw [upd_setA]
        refine ih (i + 1) _ w8 w9 w10 (by omega) g8 g9 g10 (fun y t' q0 q2 q3 q4 => ?_)
        by_cases z : y = b ∧ t' = i
        · rw [z.1, z.2, upS_same]
        · rw [upS_ne (fun w => z (by omega))]; exact hA y t' q0 q2 q3 (by omega)
      refine aw_iload7 (pc := 42) F dX7_priceBehind_42 ?_
      refine aw_aload0 (pc := 44) F dX7_priceBehind_44 ?_
      refine aw_getI (pc := 45) F dX7_priceBehind_45 fl_7_44 rfl (by first | decide | (simp only [inB, cnt, rcnt]; omega)) rfl nz8 ?_
      refine aw_icmp_ge (tgt := 130) (pc := 48) F dX7_priceBehind_48 (by decide) (by unfold inR; omega) (by unfold inR; omega) (fun c48 => ?_) (fun c48 => ?_)
      · omega
      · refine aw_iload7 (pc := 51) F dX7_priceBehind_51 ?_
        refine aw_iload2 (pc := 53) F dX7_priceBehind_53 ?_
        refine aw_icmp_ge (tgt := 69) (pc := 54) F dX7_priceBehind_54 (by decide) (by unfold inR; omega) (by unfold inR; omega) (fun c54 => ?_) (fun c54 => ?_)
        · refine aw_iload7 (pc := 69) F dX7_priceBehind_69 ?_
          refine aw_iload2 (pc := 71) F dX7_priceBehind_71 ?_
          refine aw_isub (pc := 72) F dX7_priceBehind_72 ?_
          obtain ⟨d, hd⟩ : ∃ d : Int, d = (if (i : Int) < t then (i : Int) - t + S 0 else (i : Int) - t) := ⟨_, rfl⟩
          obtain ⟨em1, em2, em3⟩ := em d hd
          first | (rw [show (i : Int) - t + setA M (7, 0, 15, ((e + 1 : Nat) : Int)) A (7, 0, 0, 0) 8 = d by rw [hd, hT', if_pos (by assumption)]]; done) | rw [show (i : Int) - t = d by rw [hd, if_neg (by omega)]] | rw [show (i : Int) - t + setA M (7, 0, 15, ((e + 1 : Nat) : Int)) A (7, 0, 0, 0) 8 = d by rw [hd, hT', if_pos (by assumption)]]
          refine aw_istore8 (pc := 73) F dX7_priceBehind_73 (by simp only [List.all_cons, List.all_nil, g8, g9, g10]; rfl) hk.symm ?_
          refine aw_iload4 (pc := 75) F dX7_priceBehind_75 ?_
          refine aw_bipush (pc := 77) F dX7_priceBehind_77 (by decide) ?_
          refine aw_imul (pc := 79) F dX7_priceBehind_79 ?_
          refine aw_iload7 (pc := 80) F dX7_priceBehind_80 ?_
          refine aw_iadd (pc := 82) F dX7_priceBehind_82 ?_
          rw [show (b : Int) * 24 + i = 24 * (b : Int) + i by omega]
          refine aw_istore9 (pc := 83) F dX7_priceBehind_83 (by simp only [List.all_cons, List.all_nil, g8, g9, g10]; rfl) hk.symm ?_
          refine aw_aload0 (pc := 85) F dX7_priceBehind_85 ?_
          refine aw_getR (pc := 86) F dX7_priceBehind_86 fl_7_32 rfl (by first | decide | (simp only [inB, cnt, rcnt]; omega)) rfl nz4 rfl ?_
          refine aw_iload1 (pc := 89) F dX7_priceBehind_89 ?_
          refine aw_aald (pc := 90) F dX7_priceBehind_90 rfl (by decide) (by first | decide | (simp only [inB, cnt, rcnt]; omega)) (by omega) rfl ?_
          refine aw_iload9 (pc := 91) F dX7_priceBehind_91 ?_
          refine aw_iald (pc := 93) F dX7_priceBehind_93 rfl (by first | decide | (simp only [inB, cnt, rcnt]; omega)) (by omega) ?_
          rw [ro]
          refine aw_aload5 (pc := 94) F dX7_priceBehind_94 ?_
          refine aw_iload8 (pc := 96) F dX7_priceBehind_96 ?_
          refine aw_iald (pc := 98) F dX7_priceBehind_98 rfl (by first | decide | (simp only [inB, cnt, rcnt]; omega)) (by omega) ?_
          rw [pr d em2 em3]
          refine aw_iadd (pc := 99) F dX7_priceBehind_99 ?_
          rw [show rwP S tau e b i + pc S e b d = rwP S tau' (e + 1) b i by rw [rs, em1]]
          refine aw_istore10 (pc := 100) F dX7_priceBehind_100 (by simp only [List.all_cons, List.all_nil, g8, g9, g10]; rfl) hk.symm ?_
          refine aw_aload0 (pc := 102) F dX7_priceBehind_102 ?_
          refine aw_getR (pc := 103) F dX7_priceBehind_103 fl_7_32 rfl (by first | decide | (simp only [inB, cnt, rcnt]; omega)) rfl nz4 rfl ?_
          refine aw_iload1 (pc := 106) F dX7_priceBehind_106 ?_
          refine aw_iconst (pc := 107) F dX7_priceBehind_107 ?_
          refine aw_iadd (pc := 108) F dX7_priceBehind_108 ?_
          refine aw_aald (pc := 109) F dX7_priceBehind_109 rfl (by decide) (by first | decide | (simp only [inB, cnt, rcnt]; omega)) (by omega) rfl ?_
          refine aw_iload9 (pc := 110) F dX7_priceBehind_110 ?_
          refine aw_iload10 (pc := 112) F dX7_priceBehind_112 ?_
          refine aw_iast (pc := 114) F dX7_priceBehind_114 rfl (by first | decide | (simp only [inB, cnt, rcnt]; omega)) (by omega) ?_
          refine aw_iload6 (pc := 115) F dX7_priceBehind_115 ?_
          refine aw_iload10 (pc := 117) F dX7_priceBehind_117 ?_
          refine aw_pcallS2 (pc := 119) F dX7_priceBehind_119 ml_7_98 (ctJ_min _ _ _ _ (by unfold inR; omega) (by unfold inR; omega)) (Nat.le_of_ble_eq_true rfl) (by decide) (Nat.zero_le _) ?_
          refine aw_istore6 (pc := 122) F dX7_priceBehind_122 (by simp only [List.all_cons, List.all_nil, g8, g9, g10]; rfl) hk.symm ?_
          refine aw_iinc7 (pc := 124) F dX7_priceBehind_124 (by simp only [List.all_cons, List.all_nil, g8, g9, g10]; rfl) hk.symm ?_
          refine aw_goto (tgt := 42) (pc := 127) F dX7_priceBehind_127 (by decide) ?_
          exact st d _ _ _ rfl rfl rfl
        · refine aw_iload7 (pc := 57) F dX7_priceBehind_57 ?_
          refine aw_iload2 (pc := 59) F dX7_priceBehind_59 ?_
          refine aw_isub (pc := 60) F dX7_priceBehind_60 ?_
          refine aw_aload0 (pc := 61) F dX7_priceBehind_61 ?_
          refine aw_getI (pc := 62) F dX7_priceBehind_62 fl_7_44 rfl (by first | decide | (simp only [inB, cnt, rcnt]; omega)) rfl nz8 ?_
          refine aw_iadd (pc := 65) F dX7_priceBehind_65 ?_
          refine aw_goto (tgt := 73) (pc := 66) F dX7_priceBehind_66 (by decide) ?_
          obtain ⟨d, hd⟩ : ∃ d : Int, d = (if (i : Int) < t then (i : Int) - t + S 0 else (i : Int) - t) := ⟨_, rfl⟩
          obtain ⟨em1, em2, em3⟩ := em d hd
          first | (rw [show (i : Int) - t + setA M (7, 0, 15, ((e + 1 : Nat) : Int)) A (7, 0, 0, 0) 8 = d by rw [hd, hT', if_pos (by assumption)]]; done) | rw [show (i : Int) - t = d by rw [hd, if_neg (by omega)]] | rw [show (i : Int) - t + setA M (7, 0, 15, ((e + 1 : Nat) : Int)) A (7, 0, 0, 0) 8 = d by rw [hd, hT', if_pos (by assumption)]]
          refine aw_istore8 (pc := 73) F dX7_priceBehind_73 (by simp only [List.all_cons, List.all_nil, g8, g9, g10]; rfl) hk.symm ?_
          refine aw_iload4 (pc := 75) F dX7_priceBehind_75 ?_
          refine aw_bipush (pc := 77) F dX7_priceBehind_77 (by decide) ?_
          refine aw_imul (pc := 79) F dX7_priceBehind_79 ?_
          refine aw_iload7 (pc := 80) F dX7_priceBehind_80 ?_
          refine aw_iadd (pc := 82) F dX7_priceBehind_82 ?_
          rw [show (b : Int) * 24 + i = 24 * (b : Int) + i by omega]
          refine aw_istore9 (pc := 83) F dX7_priceBehind_83 (by simp only [List.all_cons, List.all_nil, g8, g9, g10]; rfl) hk.symm ?_
          refine aw_aload0 (pc := 85) F dX7_priceBehind_85 ?_
          refine aw_getR (pc := 86) F dX7_priceBehind_86 fl_7_32 rfl (by first | decide | (simp only [inB, cnt, rcnt]; omega)) rfl nz4 rfl ?_
          refine aw_iload1 (pc := 89) F dX7_priceBehind_89 ?_
          refine aw_aald (pc := 90) F dX7_priceBehind_90 rfl (by decide) (by first | decide | (simp only [inB, cnt, rcnt]; omega)) (by omega) rfl ?_
          refine aw_iload9 (pc := 91) F dX7_priceBehind_91 ?_
          refine aw_iald (pc := 93) F dX7_priceBehind_93 rfl (by first | decide | (simp only [inB, cnt, rcnt]; omega)) (by omega) ?_
          rw [ro]
          refine aw_aload5 (pc := 94) F dX7_priceBehind_94 ?_
          refine aw_iload8 (pc := 96) F dX7_priceBehind_96 ?_
          refine aw_iald (pc := 98) F dX7_priceBehind_98 rfl (by first | decide | (simp only [inB, cnt, rcnt]; omega)) (by omega) ?_
          rw [pr d em2 em3]
          refine aw_iadd (pc := 99) F dX7_priceBehind_99 ?_
          rw [show rwP S tau e b i + pc S e b d = rwP S tau' (e + 1) b i by rw [rs, em1]]
          refine aw_istore10 (pc := 100) F dX7_priceBehind_100 (by simp only [List.all_cons, List.all_nil, g8, g9, g10]; rfl) hk.symm ?_
          refine aw_aload0 (pc := 102) F dX7_priceBehind_102 ?_
          refine aw_getR (pc := 103) F dX7_priceBehind_103 fl_7_32 rfl (by first | decide | (simp only [inB, cnt, rcnt]; omega)) rfl nz4 rfl ?_
          refine aw_iload1 (pc := 106) F dX7_priceBehind_106 ?_
          refine aw_iconst (pc := 107) F dX7_priceBehind_107 ?_
          refine aw_iadd (pc := 108) F dX7_priceBehind_108 ?_
          refine aw_aald (pc := 109) F dX7_priceBehind_109 rfl (by decide) (by first | decide | (simp only [inB, cnt, rcnt]; omega)) (by omega) rfl ?_
          refine aw_iload9 (pc := 110) F dX7_priceBehind_110 ?_
          refine aw_iload10 (pc := 112) F dX7_priceBehind_112 ?_
          refine aw_iast (pc := 114) F dX7_priceBehind_114 rfl (by first | decide | (simp only [inB, cnt, rcnt]; omega)) (by omega) ?_
          refine aw_iload6 (pc := 115) F dX7_priceBehind_115 ?_
          refine aw_iload10 (pc := 117) F dX7_priceBehind_117 ?_
          refine aw_pcallS2 (pc := 119) F dX7_priceBehind_119 ml_7_98 (ctJ_min _ _ _ _ (by unfold inR; omega) (by unfold inR; omega)) (Nat.le_of_ble_eq_true rfl) (by decide) (Nat.zero_le _) ?_
          refine aw_istore6 (pc := 122) F dX7_priceBehind_122 (by simp only [List.all_cons, List.all_nil, g8, g9, g10]; rfl) hk.symm ?_
          refine aw_iinc7 (pc := 124) F dX7_priceBehind_124 (by simp only [List.all_cons, List.all_nil, g8, g9, g10]; rfl) hk.symm ?_
          refine aw_goto (tgt := 42) (pc := 127) F dX7_priceBehind_127 (by decide) ?_
          exact st d _ _ _ rfl rfl rfl
  have keyA : ∀ (j b : Nat) (A : Int → Int) (w5 w6 w7 w8 w9 w10 : AV), e < b → b + j = E → wide w5 = false → wide w6 = false → wide w7 = false → wide w8 = false → wide w9 = false → wide w10 = false → (∀ y t', (e : Int) < y → y < (b : Int) → 0 ≤ t' → t' < S 0 → A (24 * y + t') = rwP S tau' (e + 1) y t') → AW X K 12 [aR (7, 0, 0, 0), aI e, aI t, aI (laP S e + sumI (fun b => if ((e + 1 : Nat) : Int) ≤ b then mrP S tau' (e + 1) b else 0) b), aI b, w5, w6, w7, w8, w9, w10] [] (setA M (7, 0, 15, ((e + 1 : Nat) : Int)) A, R0 b9) 0 Q9 := by
    intro j
    induction j with
    | zero =>
      intro b A w5 w6 w7 w8 w9 w10 heb hb g5 g6 g7 g8 g9 g10 hA
      have hEv' : setA M (7, 0, 15, ((e + 1 : Nat) : Int)) A (7, 0, 0, 0) 7 = S 1 := by rw [fx A 0 0 (by decide)]; exact hEv
      refine aw_iload4 (pc := 12) F dX7_priceBehind_12 ?_
      refine aw_aload0 (pc := 14) F dX7_priceBehind_14 ?_
      refine aw_getI (pc := 15) F dX7_priceBehind_15 fl_7_41 rfl (by first | decide | (simp only [inB, cnt, rcnt]; omega)) rfl nz7 ?_
      refine aw_icmp_ge (tgt := 141) (pc := 18) F dX7_priceBehind_18 (by decide) (by unfold inR; omega) (by unfold inR; omega) (fun c18 => ?_) (fun c18 => ?_)
      · refine aw_iload3 (pc := 141) F dX7_priceBehind_141 ?_
        rw [hQ]
        exact aw_iret (pc := 142) F dX7_priceBehind_142 rfl (Nat.zero_le _) ⟨by unfold srP; rw [show (S 1).toNat = b by omega], A, rfl, fun y t' q0 q1 q2 q3 => by rw [setA_same]; exact hA y t' (by omega) (by omega) q2 q3⟩
      · omega
    | succ j ih =>
      intro b A w5 w6 w7 w8 w9 w10 heb hb g5 g6 g7 g8 g9 g10 hA
      have hEv' : setA M (7, 0, 15, ((e + 1 : Nat) : Int)) A (7, 0, 0, 0) 7 = S 1 := by rw [fx A 0 0 (by decide)]; exact hEv
      have e9 : sumI (fun b => if ((e + 1 : Nat) : Int) ≤ b then mrP S tau' (e + 1) b else 0) (b + 1) = sumI (fun b => if ((e + 1 : Nat) : Int) ≤ b then mrP S tau' (e + 1) b else 0) b + mrP S tau' (e + 1) b := by
        show _ + (if ((e + 1 : Nat) : Int) ≤ (b : Int) then mrP S tau' (e + 1) b else 0) = _
        rw [if_pos (by omega)]
      refine aw_iload4 (pc := 12) F dX7_priceBehind_12 ?_
      refine aw_aload0 (pc := 14) F dX7_priceBehind_14 ?_
      refine aw_getI (pc := 15) F dX7_priceBehind_15 fl_7_41 rfl (by first | decide | (simp only [inB, cnt, rcnt]; omega)) rfl nz7 ?_
      refine aw_icmp_ge (tgt := 141) (pc := 18) F dX7_priceBehind_18 (by decide) (by unfold inR; omega) (by unfold inR; omega) (fun c18 => ?_) (fun c18 => ?_)
      · omega
      · refine aw_aload0 (pc := 21) F dX7_priceBehind_21 ?_
        refine aw_getR (pc := 22) F dX7_priceBehind_22 fl_7_29 rfl (by first | decide | (simp only [inB, cnt, rcnt]; omega)) rfl nz3 rfl ?_
        refine aw_iload1 (pc := 25) F dX7_priceBehind_25 ?_
        refine aw_bipush (pc := 26) F dX7_priceBehind_26 (by decide) ?_
        refine aw_imul (pc := 28) F dX7_priceBehind_28 ?_
        refine aw_iload4 (pc := 29) F dX7_priceBehind_29 ?_
        refine aw_iadd (pc := 31) F dX7_priceBehind_31 ?_
        refine aw_aald (pc := 32) F dX7_priceBehind_32 rfl (by decide) (by first | decide | (simp only [inB, cnt, rcnt]; omega)) (by omega) rfl ?_
        rw [show (e : Int) * 6 + b = 6 * (e : Int) + b by omega]
        refine aw_astore5 (pc := 33) F dX7_priceBehind_33 (by simp only [List.all_cons, List.all_nil, g5, g6, g7, g8, g9, g10]; rfl) hk.symm ?_
        refine aw_ldc (pc := 35) F dX7_priceBehind_35 kc_7_11 ?_
        refine aw_istore6 (pc := 37) F dX7_priceBehind_37 (by simp only [List.all_cons, List.all_nil, g5, g6, g7, g8, g9, g10]; rfl) hk.symm ?_
        refine aw_iconst (pc := 39) F dX7_priceBehind_39 ?_
        refine aw_istore7 (pc := 40) F dX7_priceBehind_40 (by simp only [List.all_cons, List.all_nil, g5, g6, g7, g8, g9, g10]; rfl) hk.symm ?_
        exact keyB b heb (by omega) _ rfl (fun A w5 w6 w7 w8 w9 w10 g5 g6 g7 g8 g9 g10 hA => by
          rw [Int.add_assoc, ← e9]
          exact ih (b + 1) A w5 w6 w7 w8 w9 w10 (by omega) (by omega) g5 g6 g7 g8 g9 g10 hA) T 0 A w8 w9 w10 (by omega) g8 g9 g10 (fun y t' q0 q2 q3 q4 => hA y t' q0 (by omega) q2 q3)
  have z : sumI (fun b => if ((e + 1 : Nat) : Int) ≤ b then mrP S tau' (e + 1) b else 0) (e + 1) = 0 := sumI_0 _ (fun k k0 k1 => by rw [if_neg (by omega)])
  have g := keyA (E - (e + 1)) (e + 1) (M (7, 0, 15, ((e + 1 : Nat) : Int))) aX aX aX aX aX aX (by omega) (by omega) rfl rfl rfl rfl rfl rfl (fun y t' q0 q1 _ _ => absurd q1 (by omega))
  rw [setA_id, z, Int.add_zero] at g
  refine aw_aload0 (pc := 0) F dX7_priceBehind_0 ?_
  refine aw_getR (pc := 1) F dX7_priceBehind_1 fl_7_35 rfl (by first | decide | (simp only [inB, cnt, rcnt]; omega)) rfl nz5 rfl ?_
  refine aw_iload1 (pc := 4) F dX7_priceBehind_4 ?_
  refine aw_iald (pc := 5) F dX7_priceBehind_5 rfl (by first | decide | (simp only [inB, cnt, rcnt]; omega)) (by omega) ?_
  rw [hla e (by omega) he]
  refine aw_istore3 (pc := 6) F dX7_priceBehind_6 rfl hk.symm ?_
  refine aw_iload1 (pc := 7) F dX7_priceBehind_7 ?_
  refine aw_iconst (pc := 8) F dX7_priceBehind_8 ?_
  refine aw_iadd (pc := 9) F dX7_priceBehind_9 ?_
  refine aw_istore4 (pc := 10) F dX7_priceBehind_10 rfl hk.symm ?_
  rw [← hQ]
  exact g
