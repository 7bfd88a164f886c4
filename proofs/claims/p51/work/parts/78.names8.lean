/-! 78: the class's names -/
theorem cdN_nn {B : Int → Int} {a b : Int} (h : LT B a b) : ∀ n : Nat, a + n ≤ b → 0 ≤ cdN B a n
  | 0, _ => Int.le_refl _
  | n + 1, hn => by
    have := cdN_nn h n (by omega)
    have := h (a + n) (by omega) (by omega)
    unfold cdN
    omega
theorem cd_inj {B W : Int → Int} {a b c d : Int} (hB : LT B a b) (hW : LT W c d) : ∀ n m : Nat, a + n ≤ b → c + m ≤ d → cdN B a n = cdN W c m → n = m ∧ ∀ k : Int, 0 ≤ k → k < n → W (c + k) = B (a + k)
  | 0, 0, _, _, _ => ⟨rfl, fun k k0 k1 => absurd k1 (by omega)⟩
  | 0, m + 1, _, hm, e => by
    have := cdN_nn hW m (by omega)
    have := hW (c + m) (by omega) (by omega)
    unfold cdN at e
    omega
  | n + 1, 0, hn, _, e => by
    have := cdN_nn hB n (by omega)
    have := hB (a + n) (by omega) (by omega)
    unfold cdN at e
    omega
  | n + 1, m + 1, hn, hm, e => by
    have b1 := hB (a + n) (by omega) (by omega)
    have b2 := hW (c + m) (by omega) (by omega)
    unfold cdN at e
    obtain ⟨g1, g2⟩ := cd_inj hB hW n m (by omega) (by omega) (by omega)
    subst g1
    refine ⟨rfl, fun k k0 k1 => ?_⟩
    by_cases z : k = n
    · rw [z]; omega
    · exact g2 k k0 (by omega)
theorem cdN_congr {B W : Int → Int} {a c : Int} : ∀ n : Nat, (∀ k : Int, 0 ≤ k → k < n → W (c + k) = B (a + k)) → cdN W c n = cdN B a n
  | 0, _ => rfl
  | n + 1, h => by
    unfold cdN
    rw [cdN_congr n (fun k k0 k1 => h k k0 (by omega)), h n (by omega) (by omega)]
/-- a name W of l letters, with its codes x and y -/
def nmOk (W : Int → Int) (l x y : Int) : Prop := (1 ≤ l ∧ l ≤ 8) ∧ LT W 0 l ∧ x = cdI W 0 (min l 4) ∧ y = cdI W (min l 4) l
theorem nm_key {B W S : Int → Int} {a b e l : Int} (hW : nmOk W l (S (2 + 2 * e)) (S (2 + 2 * e + 1))) (hB : LT B a b) (h1 : 1 ≤ b - a ∧ b - a ≤ 8) : (l = b - a ∧ ∀ k, 0 ≤ k → k < l → W k = B (a + k)) ↔ nmE B S a b e := by
  obtain ⟨hl, hL, hx, hy⟩ := hW
  unfold nmE
  rw [hx, hy]
  unfold cdI
  constructor
  · rintro ⟨e1, e2⟩
    constructor
    · rw [show (min l 4 - 0).toNat = (min b (a + 4) - a).toNat by omega]
      exact cdN_congr _ (fun k k0 k1 => by rw [Int.zero_add]; exact e2 k k0 (by omega))
    · rw [show (l - min l 4).toNat = (b - min b (a + 4)).toNat by omega]
      exact cdN_congr _ (fun k k0 k1 => by rw [e2 (min l 4 + k) (by omega) (by omega)]; congr 1; omega)
  · rintro ⟨e1, e2⟩
    obtain ⟨p1, p2⟩ := cd_inj hL hB (min l 4 - 0).toNat (min b (a + 4) - a).toNat (by omega) (by omega) e1
    obtain ⟨q1, q2⟩ := cd_inj (a := min l 4) (b := l) (c := min b (a + 4)) (d := b) (fun k k0 k1 => hL k (by omega) k1) (fun k k0 k1 => hB k (by omega) k1) (l - min l 4).toNat (b - min b (a + 4)).toNat (by omega) (by omega) e2
    refine ⟨by omega, fun k k0 k1 => ?_⟩
    by_cases z : k < 4
    · have := p2 k k0 (by omega)
      rw [Int.zero_add] at this
      exact this.symm
    · have := q2 (k - 4) (by omega) (by omega)
      rw [show min b (a + 4) + (k - 4) = a + k by omega, show min l 4 + (k - 4) = k by omega] at this
      exact this.symm
/-- the names of object j, c of them, are those of the row S -/
def NmR (M : Id4 → Int → Int) (j c : Int) (S : Int → Int) : Prop := M (3, j, 0, 0) 2 = c ∧ ∀ e, 0 ≤ e → e < c → nmOk (M (3, j, 11, e)) (M (3, j, 2, 0) e) (S (2 + 2 * e)) (S (2 + 2 * e + 1))
noncomputable def fsF (P : Int → Prop) : Nat → Int → Int
  | 0, _ => -1
  | f + 1, e => @ite Int (P e) (Classical.propDecidable _) e (fsF P f (e + 1))
theorem nmF_fs {B S : Int → Int} {a b : Int} : ∀ (f : Nat) (e : Int), nmF B S a b f e = fsF (nmE B S a b) f e
  | 0, _ => rfl
  | f + 1, e => by
    unfold nmF fsF
    rw [nmF_fs f (e + 1)]
theorem ct3_matches (M : Id4 → Int → Int) (b9 : Bool) (B : Int → Int) (j c e a : Int) (S : Int → Int) (hj : 0 ≤ j ∧ j < 2) (hN : NmR M j c S) (hc : c ≤ 6) (hB : BC B M) (hy : BY B) (he : 0 ≤ e ∧ e < c) (ha : 0 ≤ a ∧ a + M (3, j, 2, 0) e ≤ 500) : CtI 1 0 yX3_matches cX3_matches 5 (some .boolean) [aR (3, j, 0, 0), aI e, aR (8, 0, 1, 0), aI a] (M, R0 b9) (fun v σ' => isB v (∀ k, 0 ≤ k → k < M (3, j, 2, 0) e → M (3, j, 11, e) k = B (a + k)) ∧ σ' = (M, R0 b9)) := by
  refine CtI.mk (by decide +kernel) rfl (Nat.le_of_ble_eq_true rfl) (fun X K F hk => ?_)
  obtain ⟨hl, hL, -, -⟩ := hN.2 e he.1 he.2
  obtain ⟨l, hl9⟩ : ∃ l : Nat, M (3, j, 2, 0) e = (l : Int) := ⟨(M (3, j, 2, 0) e).toNat, by omega⟩
  obtain ⟨Q9, hQ⟩ : ∃ Q9, Q9 = EI X K 0 (fun v σ' => isB v (∀ k, 0 ≤ k → k < M (3, j, 2, 0) e → M (3, j, 11, e) k = B (a + k)) ∧ σ' = (M, R0 b9)) := ⟨_, rfl⟩
  have loop : ∀ (f k : Nat), k + f = l → (∀ x : Int, 0 ≤ x → x < (k : Int) → M (3, j, 11, e) x = B (a + x)) → AW X K 3 [aR (3, j, 0, 0), aI e, aR (8, 0, 1, 0), aI a, aI k] [] (M, R0 b9) 0 Q9 := by
    intro f
    induction f with
    | zero =>
      intro k hk9 hx
      refine aw_iload4 (pc := 3) F dX3_matches_3 ?_
      refine aw_aload0 (pc := 5) F dX3_matches_5 ?_
      refine aw_getR (pc := 6) F dX3_matches_6 fl_3_16 rfl (by first | decide | (simp only [inB, cnt, rcnt]; omega)) rfl nz1 rfl ?_
      refine aw_iload1 (pc := 9) F dX3_matches_9 ?_
      refine aw_iald (pc := 10) F dX3_matches_10 rfl (by first | decide | (simp only [inB, cnt, rcnt]; omega)) (by omega) ?_
      refine aw_icmp_ge (tgt := 40) (pc := 11) F dX3_matches_11 (by decide) (by unfold inR; omega) (by unfold inR; omega) (fun c11 => ?_) (fun c11 => ?_)
      · refine aw_iconst (pc := 40) F dX3_matches_40 ?_
        rw [hQ]
        exact aw_iret (pc := 41) F dX3_matches_41 (nar_bool (by first | exact b2i_01 | decide)) (Nat.zero_le _) ⟨Or.inr ⟨rfl, fun x x0 x1 => hx x x0 (by omega)⟩, rfl⟩
      · omega
    | succ f ih =>
      intro k hk9 hx
      have lk := hL k (by omega) (by omega)
      have ck := hB (a + k) (by omega) (by omega)
      have yk := hy (a + k) (by omega) (by omega)
      refine aw_iload4 (pc := 3) F dX3_matches_3 ?_
      refine aw_aload0 (pc := 5) F dX3_matches_5 ?_
      refine aw_getR (pc := 6) F dX3_matches_6 fl_3_16 rfl (by first | decide | (simp only [inB, cnt, rcnt]; omega)) rfl nz1 rfl ?_
      refine aw_iload1 (pc := 9) F dX3_matches_9 ?_
      refine aw_iald (pc := 10) F dX3_matches_10 rfl (by first | decide | (simp only [inB, cnt, rcnt]; omega)) (by omega) ?_
      refine aw_icmp_ge (tgt := 40) (pc := 11) F dX3_matches_11 (by decide) (by unfold inR; omega) (by unfold inR; omega) (fun c11 => ?_) (fun c11 => ?_)
      · omega
      · refine aw_aload0 (pc := 14) F dX3_matches_14 ?_
        refine aw_getR (pc := 15) F dX3_matches_15 fl_3_11 rfl (by first | decide | (simp only [inB, cnt, rcnt]; omega)) rfl nz0 rfl ?_
        refine aw_iload1 (pc := 18) F dX3_matches_18 ?_
        refine aw_aald (pc := 19) F dX3_matches_19 rfl (by decide) (by first | decide | (simp only [inB, cnt, rcnt]; omega)) (by omega) rfl ?_
        refine aw_iload4 (pc := 20) F dX3_matches_20 ?_
        refine aw_bald (pc := 22) F dX3_matches_22 rfl (by first | decide | (simp only [inB, cnt, rcnt]; omega)) (by omega) ?_
        refine aw_aload2 (pc := 23) F dX3_matches_23 ?_
        refine aw_iload3 (pc := 24) F dX3_matches_24 ?_
        refine aw_iload4 (pc := 25) F dX3_matches_25 ?_
        refine aw_iadd (pc := 27) F dX3_matches_27 ?_
        refine aw_bald (pc := 28) F dX3_matches_28 rfl (by first | decide | (simp only [inB, cnt, rcnt]; omega)) (by omega) ?_
        refine aw_icmp_eq (tgt := 34) (pc := 29) F dX3_matches_29 (by decide) (by unfold inR; omega) (by unfold inR; omega) (fun c29 => ?_) (fun c29 => ?_)
        · refine aw_iinc4 (pc := 34) F dX3_matches_34 rfl hk.symm ?_
          refine aw_goto (tgt := 3) (pc := 37) F dX3_matches_37 (by decide) ?_
          exact ih (k + 1) (by omega) (fun x x0 x1 => by
            by_cases z : x = k
            · rw [z]; omega
            · exact hx x x0 (by omega))
        · refine aw_iconst (pc := 32) F dX3_matches_32 ?_
          rw [hQ]
          exact aw_iret (pc := 33) F dX3_matches_33 (nar_bool (by first | exact b2i_01 | decide)) (Nat.zero_le _) ⟨Or.inl ⟨rfl, fun q => c29 (by have := q k (by omega) (by omega); omega)⟩, rfl⟩
  refine aw_iconst (pc := 0) F dX3_matches_0 ?_
  refine aw_istore4 (pc := 1) F dX3_matches_1 rfl hk.symm ?_
  rw [← hQ]
  exact loop l 0 (by omega) (fun x x0 x1 => absurd x1 (by omega))
theorem ct3_indexOf (M : Id4 → Int → Int) (b9 : Bool) (B : Int → Int) (P : Int → Prop) (j c a n : Int) (S : Int → Int) (hj : 0 ≤ j ∧ j < 2) (hN : NmR M j c S) (hc : 0 ≤ c ∧ c ≤ 6) (hB : BC B M) (hy : BY B) (ha : 0 ≤ a ∧ a + n ≤ 500) (hn : 0 ≤ n) (hP : ∀ e, 0 ≤ e → e < c → ((M (3, j, 2, 0) e = n ∧ ∀ k, 0 ≤ k → k < M (3, j, 2, 0) e → M (3, j, 11, e) k = B (a + k)) ↔ P e)) : CtI 2 0 yX3_indexOf cX3_indexOf 5 (some .int) [aR (3, j, 0, 0), aR (8, 0, 1, 0), aI a, aI n] (M, R0 b9) (PU (M, R0 b9) (fsF P c.toNat 0)) := by
  refine CtI.mk (by decide +kernel) rfl (Nat.le_of_ble_eq_true rfl) (fun X K F hk => ?_)
  have c2 := hN.1
  obtain ⟨Q9, hQ⟩ : ∃ Q9, Q9 = EI X K 0 (PU (M, R0 b9) (fsF P c.toNat 0)) := ⟨_, rfl⟩
  have loop : ∀ (f : Nat) (e : Int), 0 ≤ e → e + f = c → fsF P c.toNat 0 = fsF P f e → AW X K 3 [aR (3, j, 0, 0), aR (8, 0, 1, 0), aI a, aI n, aI e] [] (M, R0 b9) 0 Q9 := by
    intro f
    induction f with
    | zero =>
      intro e e0 he hd
      refine aw_iload4 (pc := 3) F dX3_indexOf_3 ?_
      refine aw_aload0 (pc := 5) F dX3_indexOf_5 ?_
      refine aw_getI (pc := 6) F dX3_indexOf_6 fl_3_20 rfl (by first | decide | (simp only [inB, cnt, rcnt]; omega)) rfl nz2 ?_
      refine aw_icmp_ge (tgt := 43) (pc := 9) F dX3_indexOf_9 (by decide) (by unfold inR; omega) (by unfold inR; omega) (fun c9 => ?_) (fun c9 => ?_)
      · refine aw_iconst (pc := 43) F dX3_indexOf_43 ?_
        rw [hQ]
        exact aw_iret (pc := 44) F dX3_indexOf_44 rfl (Nat.zero_le _) ⟨by rw [hd]; rfl, rfl⟩
      · omega
    | succ f ih =>
      intro e e0 he hd
      have hl := (hN.2 e e0 (by omega)).1
      have hp := hP e e0 (by omega)
      have st : fsF P (f + 1) e = @ite Int (P e) (Classical.propDecidable _) e (fsF P f (e + 1)) := rfl
      refine aw_iload4 (pc := 3) F dX3_indexOf_3 ?_
      refine aw_aload0 (pc := 5) F dX3_indexOf_5 ?_
      refine aw_getI (pc := 6) F dX3_indexOf_6 fl_3_20 rfl (by first | decide | (simp only [inB, cnt, rcnt]; omega)) rfl nz2 ?_
      refine aw_icmp_ge (tgt := 43) (pc := 9) F dX3_indexOf_9 (by decide) (by unfold inR; omega) (by unfold inR; omega) (fun c9 => ?_) (fun c9 => ?_)
      · omega
      · refine aw_aload0 (pc := 12) F dX3_indexOf_12 ?_
        refine aw_getR (pc := 13) F dX3_indexOf_13 fl_3_16 rfl (by first | decide | (simp only [inB, cnt, rcnt]; omega)) rfl nz1 rfl ?_
        refine aw_iload4 (pc := 16) F dX3_indexOf_16 ?_
        refine aw_iald (pc := 18) F dX3_indexOf_18 rfl (by first | decide | (simp only [inB, cnt, rcnt]; omega)) (by omega) ?_
        refine aw_iload3 (pc := 19) F dX3_indexOf_19 ?_
        refine aw_icmp_ne (tgt := 37) (pc := 20) F dX3_indexOf_20 (by decide) (by unfold inR; omega) (by unfold inR; omega) (fun c20 => ?_) (fun c20 => ?_)
        · refine aw_iinc4 (pc := 37) F dX3_indexOf_37 rfl hk.symm ?_
          refine aw_goto (tgt := 3) (pc := 40) F dX3_indexOf_40 (by decide) ?_
          exact ih (e + 1) (by omega) (by omega) (by
            rw [hd, st, if_neg (fun z => by
              have q := hp.mpr z
              first
              | exact (hv.resolve_right (fun y => by have := y.1; omega)).2 q.2
              | (have := q.1; omega))])
        · refine aw_aload0 (pc := 23) F dX3_indexOf_23 ?_
          refine aw_iload4 (pc := 24) F dX3_indexOf_24 ?_
          refine aw_aload1 (pc := 26) F dX3_indexOf_26 ?_
          refine aw_iload2 (pc := 27) F dX3_indexOf_27 ?_
          refine aw_callVI3 (pc := 28) F dX3_indexOf_28 ml_3_30 rfl (by first | decide | (simp only [inB, cnt, rcnt]; omega)) (ct3_matches _ _ B j c e a S hj hN hc.2 hB hy ⟨e0, by omega⟩ (by omega)) (Nat.le_of_ble_eq_true rfl) (by decide) (Nat.zero_le _) (fun v9 σ9 h9_28 => ?_)
          obtain ⟨hv, h9⟩ := h9_28
          subst h9
          have hvb := isB_bd hv
          refine aw_if_eq (tgt := 37) (pc := 31) F dX3_indexOf_31 (by decide) (by unfold inR; omega) (fun c31 => ?_) (fun c31 => ?_)
          · refine aw_iinc4 (pc := 37) F dX3_indexOf_37 rfl hk.symm ?_
            refine aw_goto (tgt := 3) (pc := 40) F dX3_indexOf_40 (by decide) ?_
            exact ih (e + 1) (by omega) (by omega) (by
              rw [hd, st, if_neg (fun z => by
                have q := hp.mpr z
                first
                | exact (hv.resolve_right (fun y => by have := y.1; omega)).2 q.2
                | (have := q.1; omega))])
          · refine aw_iload4 (pc := 34) F dX3_indexOf_34 ?_
            rw [hQ]
            exact aw_iret (pc := 36) F dX3_indexOf_36 rfl (Nat.zero_le _) ⟨by rw [hd, st, if_pos (hp.mp ⟨by omega, (hv.resolve_left (fun y => c31 y.1)).2⟩)], rfl⟩
  refine aw_iconst (pc := 0) F dX3_indexOf_0 ?_
  refine aw_istore4 (pc := 1) F dX3_indexOf_1 rfl hk.symm ?_
  rw [← hQ]
  exact loop c.toNat 0 (by omega) (by omega) rfl
