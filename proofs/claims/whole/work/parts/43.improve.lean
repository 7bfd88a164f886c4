/-! 43: the best move, and improving -/
theorem cst_bd {S : Int → Int} (h : Ok S) : 0 ≤ cst S ∧ cst S ≤ 6440 := by
  have hN := h.2.2.1
  have := sumI_bd (f := fun k => S (21 + 5 * k + 4) * slOf S k) (c := 460) (S 20).toNat (fun k h0 h1 => by
    have z := h.2.2.2.2 k h0 (by omega)
    have z2 := slOf_bd h k
    unfold SpOk at z
    have z3 : 0 ≤ S (21 + 5 * k + 4) := z.2.2.2.2.2.1
    have z4 : S (21 + 5 * k + 4) ≤ 20 := z.2.2.2.2.2.2
    have e1 := Int.mul_nonneg z3 z2.1
    have e2 := Int.mul_le_mul z4 z2.2 z2.1 (by decide)
    omega)
  unfold cst
  omega
theorem brk_bd {S : Int → Int} (h : Ok S) : 0 ≤ brk S ∧ brk S ≤ 14 := by
  have hN := h.2.2.1
  have := sumI_bd (f := fun k => if kept S k then 0 else 1) (c := 1) (S 20).toNat (fun k _ _ => by split <;> omega)
  unfold brk
  omega
def kyS (S : Int → Int) : Int := brk S * 6441 + cst S
theorem ky_lt {A B : Int → Int} (hA : Ok A) (hB : Ok B) : kyS A < kyS B ↔ (brk A < brk B ∨ (brk A = brk B ∧ cst A < cst B)) := by
  have a := cst_bd hA
  have b := cst_bd hB
  unfold kyS
  constructor
  · intro h; omega
  · intro h; omega
theorem ky_bd {S : Int → Int} (h : Ok S) : 0 ≤ kyS S ∧ kyS S ≤ 96614 := by
  have a := cst_bd h
  have b := brk_bd h
  unfold kyS
  omega
/-- the row with a move made; (-1, ..): none -/
def cand (S : Int → Int) (p : Int × Int) : Int → Int := if p.1 = -1 then S else upS S (14 + p.1) p.2
def mvR (S : Int → Int) (m : Nat) : Int → Int := upS S (14 + ((m / (S 0).toNat : Nat) : Int)) ((m % (S 0).toNat : Nat) : Int)
/-- the class's best move among the first m, the reference's -/
def clN (S : Int → Int) : Nat → Int × Int
  | 0 => (-1, -1)
  | m + 1 => if kyS (mvR S m) < kyS (cand S (clN S m)) then (((m / (S 0).toNat : Nat) : Int), ((m % (S 0).toNat : Nat) : Int)) else clN S m
def rfN (S : Int → Int) : Nat → Int × Int
  | 0 => (-1, -1)
  | m + 1 => if (rfN S m).1 = -1 ∨ kyS (mvR S m) < kyS (cand S (rfN S m)) then (((m / (S 0).toNat : Nat) : Int), ((m % (S 0).toNat : Nat) : Int)) else rfN S m
theorem natne (n : Nat) : ¬ ((n : Int)) = -1 := by omega
theorem natnn (n : Nat) : 0 ≤ ((n : Int)) := by omega
theorem cand_mv {S : Int → Int} {m : Nat} : cand S (((m / (S 0).toNat : Nat) : Int), ((m % (S 0).toNat : Nat) : Int)) = mvR S m := if_neg (natne _)
theorem clN_s {S : Int → Int} {m : Nat} : clN S (m + 1) = if kyS (mvR S m) < kyS (cand S (clN S m)) then (((m / (S 0).toNat : Nat) : Int), ((m % (S 0).toNat : Nat) : Int)) else clN S m := rfl
theorem rfN_s {S : Int → Int} {m : Nat} : rfN S (m + 1) = if (rfN S m).1 = -1 ∨ kyS (mvR S m) < kyS (cand S (rfN S m)) then (((m / (S 0).toNat : Nat) : Int), ((m % (S 0).toNat : Nat) : Int)) else rfN S m := rfl
theorem mv_rel {S : Int → Int} : ∀ m, (kyS (cand S (rfN S m)) < kyS S → clN S m = rfN S m) ∧ (¬ kyS (cand S (rfN S m)) < kyS S → clN S m = (-1, -1))
  | 0 => ⟨fun _ => rfl, fun _ => rfl⟩
  | m + 1 => by
    obtain ⟨h1, h2⟩ := mv_rel (S := S) m
    have cS : cand S (-1, -1) = S := if_pos rfl
    by_cases r : kyS (cand S (rfN S m)) < kyS S
    · have e := h1 r
      have n1 : ¬ (rfN S m).1 = -1 := fun z => by
        have : cand S (rfN S m) = S := if_pos z
        rw [this] at r
        exact Int.lt_irrefl _ r
      by_cases k : kyS (mvR S m) < kyS (cand S (rfN S m))
      · have e1 : rfN S (m + 1) = (((m / (S 0).toNat : Nat) : Int), ((m % (S 0).toNat : Nat) : Int)) := if_pos (Or.inr k)
        have e2 : clN S (m + 1) = (((m / (S 0).toNat : Nat) : Int), ((m % (S 0).toNat : Nat) : Int)) := if_pos (by rw [e]; exact k)
        rw [e1, e2, cand_mv]
        exact ⟨fun _ => rfl, fun z => absurd (Int.lt_trans k r) z⟩
      · have e1 : rfN S (m + 1) = rfN S m := if_neg (fun z => z.elim n1 k)
        have e2 : clN S (m + 1) = clN S m := if_neg (by rw [e]; exact k)
        rw [e1, e2]
        exact ⟨h1, h2⟩
    · have e := h2 r
      by_cases k : kyS (mvR S m) < kyS S
      · have e2 : clN S (m + 1) = (((m / (S 0).toNat : Nat) : Int), ((m % (S 0).toNat : Nat) : Int)) := if_pos (by rw [e, cS]; exact k)
        have e1 : rfN S (m + 1) = (((m / (S 0).toNat : Nat) : Int), ((m % (S 0).toNat : Nat) : Int)) := if_pos (Or.inr (by omega))
        rw [e1, e2, cand_mv]
        exact ⟨fun _ => rfl, fun z => absurd k z⟩
      · have e2 : clN S (m + 1) = (-1, -1) := (if_neg (by rw [e, cS]; exact k)).trans e
        rw [e2]
        by_cases q : (rfN S m).1 = -1 ∨ kyS (mvR S m) < kyS (cand S (rfN S m))
        · have e1 : rfN S (m + 1) = (((m / (S 0).toNat : Nat) : Int), ((m % (S 0).toNat : Nat) : Int)) := if_pos q
          rw [e1, cand_mv]
          exact ⟨fun z => absurd z k, fun _ => rfl⟩
        · have e1 : rfN S (m + 1) = rfN S m := if_neg q
          rw [e1]
          exact ⟨fun z => absurd z r, fun _ => rfl⟩
theorem mv_in {S : Int → Int} {m : Nat} (h : Ok S) (hm : m < (S 0).toNat * (S 1).toNat) : ((m / (S 0).toNat : Nat) : Int) < S 1 ∧ ((m % (S 0).toNat : Nat) : Int) < S 0 := by
  have hT := h.1
  have hE := h.2.1
  have a := Nat.div_lt_of_lt_mul hm
  have b := Nat.mod_lt m (show (S 0).toNat > 0 by omega)
  omega
theorem clN_bd {S : Int → Int} (h : Ok S) : ∀ m : Nat, m ≤ (S 0).toNat * (S 1).toNat → clN S m = (-1, -1) ∨ ((0 ≤ (clN S m).1 ∧ (clN S m).1 < S 1) ∧ 0 ≤ (clN S m).2 ∧ (clN S m).2 < S 0)
  | 0, _ => Or.inl rfl
  | m + 1, hm => by
    have ih := clN_bd h m (by omega)
    have b := mv_in (m := m) h (by omega)
    unfold clN
    split
    · exact Or.inr ⟨⟨natnn _, b.1⟩, natnn _, b.2⟩
    · exact ih
theorem rfN_bd {S : Int → Int} (h : Ok S) : ∀ m : Nat, m ≤ (S 0).toNat * (S 1).toNat → rfN S m = (-1, -1) ∨ ((0 ≤ (rfN S m).1 ∧ (rfN S m).1 < S 1) ∧ 0 ≤ (rfN S m).2 ∧ (rfN S m).2 < S 0)
  | 0, _ => Or.inl rfl
  | m + 1, hm => by
    have ih := rfN_bd h m (by omega)
    have b := mv_in (m := m) h (by omega)
    unfold rfN
    split
    · exact Or.inr ⟨⟨natnn _, b.1⟩, natnn _, b.2⟩
    · exact ih
theorem cand_ok {S : Int → Int} (h : Ok S) {p : Int × Int} (hp : p = (-1, -1) ∨ ((0 ≤ p.1 ∧ p.1 < S 1) ∧ 0 ≤ p.2 ∧ p.2 < S 0)) : Ok (cand S p) := by
  rcases hp with rfl | hp
  · exact h
  · unfold cand
    rw [if_neg (by omega)]
    exact ok_time h hp.1 hp.2
theorem mvR_at {S : Int → Int} {T e t : Nat} (hT : (S 0).toNat = T) (ht : t < T) : (T * e + t) / (S 0).toNat = e ∧ (T * e + t) % (S 0).toNat = t := by
  rw [hT]
  refine ⟨?_, ?_⟩
  · rw [Nat.mul_add_div (by omega), Nat.div_eq_of_lt ht]
    rfl
  · rw [Nat.mul_add_mod, Nat.mod_eq_of_lt ht]
def bmS (S : Int → Int) : Int × Int := clN S ((S 0).toNat * (S 1).toNat)
abbrev bet (S : Int → Int) : Prop := ¬ (bmS S).1 = -1
def nxS (S : Int → Int) : Int → Int := cand S (bmS S)
theorem nxS_ok {S : Int → Int} (h : Ok S) : Ok (nxS S) := cand_ok h (clN_bd h _ (Nat.le_refl _))
theorem bet_iff {S : Int → Int} : bet S ↔ kyS (cand S (rfN S ((S 0).toNat * (S 1).toNat))) < kyS S := by
  obtain ⟨h1, h2⟩ := mv_rel (S := S) ((S 0).toNat * (S 1).toNat)
  constructor
  · intro h
    exact Classical.byContradiction fun z => h (by unfold bmS; rw [h2 z])
  · intro h z
    unfold bmS at z
    rw [h1 h] at z
    have : cand S (rfN S ((S 0).toNat * (S 1).toNat)) = S := if_pos z
    rw [this] at h
    exact Int.lt_irrefl _ h
theorem bet_ky {S : Int → Int} (h : bet S) : kyS (nxS S) < kyS S := by
  have q := bet_iff.mp h
  unfold nxS bmS
  rw [(mv_rel _).1 q]
  exact q
def itI (S : Int → Int) : Nat → Int → Int
  | 0 => S
  | n + 1 => nxS (itI S n)
theorem itI_ok {S : Int → Int} (h : Ok S) : ∀ n, Ok (itI S n)
  | 0 => h
  | n + 1 => nxS_ok (itI_ok h n)
theorem itI_ky {S : Int → Int} : ∀ n : Nat, (∀ i, i < n → bet (itI S i)) → kyS (itI S n) + n ≤ kyS S
  | 0, _ => by show kyS S + 0 ≤ kyS S; omega
  | n + 1, h => by
    have ih := itI_ky n (fun i hi => h i (by omega))
    have q := bet_ky (h n (by omega))
    show kyS (nxS (itI S n)) + ((n + 1 : Nat) : Int) ≤ kyS S
    omega
def MvN (S : Int → Int) (N : Nat) : Prop := (∀ i, i < N → bet (itI S i)) ∧ ¬ bet (itI S N)
theorem MvN.uniq {S : Int → Int} {a b : Nat} (h : MvN S a) (h' : MvN S b) : a = b := by
  rcases Nat.lt_trichotomy a b with z | z | z
  · exact absurd (h'.1 a z) h.2
  · exact z
  · exact absurd (h.1 b z) h'.2
theorem ct5_moveBest (M : Id4 → Int → Int) (b : Bool) (S : Int → Int) (hR : plR M 0 S) (h : Ok S) : CtI 6 0 yX5_moveBest cX5_moveBest 10 (some .boolean) [aR (5, 0, 0, 0)] (M, R0 b) (fun v σ' => v = b2i (bet S) ∧ ∃ M', σ' = (M', R0 b) ∧ chg5 0 M M' ∧ plR M' 0 (nxS S)) := by
  refine CtI.mk (by decide +kernel) rfl (Nat.le_of_ble_eq_true rfl) (fun X K F hk => ?_)
  have hT := h.1
  have hE := h.2.1
  obtain ⟨⟨p0, p1, p2⟩, p3, p4⟩ := id hR
  obtain ⟨T, eT⟩ : ∃ T : Nat, S 0 = (T : Int) := ⟨(S 0).toNat, by omega⟩
  obtain ⟨E, eE⟩ : ∃ E : Nat, S 1 = (E : Int) := ⟨(S 1).toNat, by omega⟩
  have tT : (S 0).toNat = T := by omega
  have tE : (S 1).toNat = E := by omega
  have cok : ∀ m, m ≤ T * E → Ok (cand S (clN S m)) := fun m hm => cand_ok h (clN_bd h m (by rw [tT, tE]; exact hm))
  obtain ⟨Q9, hQ⟩ : ∃ Q9, Q9 = EI X K 0 (fun v σ' => v = b2i (bet S) ∧ ∃ M', σ' = (M', R0 b) ∧ chg5 0 M M' ∧ plR M' 0 (nxS S)) := ⟨_, rfl⟩
  have keyB : ∀ (e : Nat), e < E → (∀ w6 w7 w8 w9 : AV, wide w6 = false → wide w7 = false → wide w8 = false → wide w9 = false → AW X K 18 [aR (5, 0, 0, 0), aI (brk (cand S (clN S (T * (e + 1))))), aI (cst (cand S (clN S (T * (e + 1))))), aI (clN S (T * (e + 1))).1, aI (clN S (T * (e + 1))).2, aI ((e + 1 : Nat) : Int), w6, w7, w8, w9] [] (M, R0 b) 0 Q9) → ∀ (j t : Nat) (v : Int) (w8 w9 : AV), t + j = T → wide w8 = false → wide w9 = false → AW X K 39 [aR (5, 0, 0, 0), aI (brk (cand S (clN S (T * e + t)))), aI (cst (cand S (clN S (T * e + t)))), aI (clN S (T * e + t)).1, aI (clN S (T * e + t)).2, aI e, aI (M (5, 0, 4, 0) e), aI t, w8, w9] [] (updM M (5, 0, 4, 0) e v, R0 b) 0 Q9 := by
    intro e he cont j
    have hm : T * e + T ≤ T * E := by rw [← Nat.mul_succ]; exact Nat.mul_le_mul_left T he
    induction j with
    | zero =>
      intro t v w8 w9 ht g8 g9
      obtain rfl : t = T := by omega
      have q0 : updM M (5, 0, 4, 0) e v (5, 0, 0, 0) 0 = S 0 := by rw [upd_ne (Or.inl (by decide))]; exact p0
      refine aw_iload7 (pc := 39) F dX5_moveBest_39 ?_
      refine aw_aload0 (pc := 41) F dX5_moveBest_41 ?_
      refine aw_getI (pc := 42) F dX5_moveBest_42 fl_5_9 rfl (by first | decide | (simp only [inB, cnt, rcnt]; omega)) rfl nz0 ?_
      refine aw_icmp_ge (tgt := 106) (pc := 45) F dX5_moveBest_45 (by decide) (by unfold inR; omega) (by unfold inR; omega) (fun c45 => ?_) (fun c45 => ?_)
      · refine aw_aload0 (pc := 106) F dX5_moveBest_106 ?_
        refine aw_getR (pc := 107) F dX5_moveBest_107 fl_5_21 rfl (by first | decide | (simp only [inB, cnt, rcnt]; omega)) rfl nz3 rfl ?_
        refine aw_iload5 (pc := 110) F dX5_moveBest_110 ?_
        refine aw_iload6 (pc := 112) F dX5_moveBest_112 ?_
        refine aw_iast (pc := 114) F dX5_moveBest_114 rfl (by first | decide | (simp only [inB, cnt, rcnt]; omega)) (by omega) ?_
        refine aw_iinc5 (pc := 115) F dX5_moveBest_115 (by simp only [List.all_cons, List.all_nil, g8, g9]; rfl) hk.symm ?_
        refine aw_goto (tgt := 18) (pc := 118) F dX5_moveBest_118 (by decide) ?_
        rw [upd_upd, upd_id]
        exact cont _ _ w8 w9 rfl rfl g8 g9
      · omega
    | succ j ih =>
      intro t v w8 w9 ht g8 g9
      have q0 : updM M (5, 0, 4, 0) e v (5, 0, 0, 0) 0 = S 0 := by rw [upd_ne (Or.inl (by decide))]; exact p0
      have hr := pl_time (e := e) (t := t) (by omega) hR
      have ho := ok_time (e := e) (t := t) h (by omega) (by omega)
      obtain ⟨m1, m2⟩ := mvR_at (S := S) (T := T) (e := e) (t := t) tT (by omega)
      have er : mvR S (T * e + t) = upS S (14 + (e : Int)) t := by unfold mvR; rw [m1, m2]
      have hc := cok (T * e + t) (by omega)
      have yes : kyS (upS S (14 + (e : Int)) t) < kyS (cand S (clN S (T * e + t))) → clN S (T * e + (t + 1)) = ((e : Int), (t : Int)) := fun z => by
        rw [show T * e + (t + 1) = (T * e + t) + 1 by rfl, clN_s, if_pos (by rw [er]; exact z), m1, m2]
      have no : ¬ kyS (upS S (14 + (e : Int)) t) < kyS (cand S (clN S (T * e + t))) → clN S (T * e + (t + 1)) = clN S (T * e + t) := fun z => by
        rw [show T * e + (t + 1) = (T * e + t) + 1 by rfl, clN_s, if_neg (by rw [er]; exact z)]
      rw [ky_lt ho hc] at yes no
      have cn : cand S ((e : Int), (t : Int)) = upS S (14 + (e : Int)) t := if_neg (by dsimp only; omega)
      have g := fun w8 w9 => ih (t + 1) t w8 w9 (by omega)
      have b1 := brk_bd hc
      have b2 := cst_bd hc
      have b3 := brk_bd ho
      have b4 := cst_bd ho
      refine aw_iload7 (pc := 39) F dX5_moveBest_39 ?_
      refine aw_aload0 (pc := 41) F dX5_moveBest_41 ?_
      refine aw_getI (pc := 42) F dX5_moveBest_42 fl_5_9 rfl (by first | decide | (simp only [inB, cnt, rcnt]; omega)) rfl nz0 ?_
      refine aw_icmp_ge (tgt := 106) (pc := 45) F dX5_moveBest_45 (by decide) (by unfold inR; omega) (by unfold inR; omega) (fun c45 => ?_) (fun c45 => ?_)
      · omega
      · refine aw_aload0 (pc := 48) F dX5_moveBest_48 ?_
        refine aw_getR (pc := 49) F dX5_moveBest_49 fl_5_21 rfl (by first | decide | (simp only [inB, cnt, rcnt]; omega)) rfl nz3 rfl ?_
        refine aw_iload5 (pc := 52) F dX5_moveBest_52 ?_
        refine aw_iload7 (pc := 54) F dX5_moveBest_54 ?_
        refine aw_iast (pc := 56) F dX5_moveBest_56 rfl (by first | decide | (simp only [inB, cnt, rcnt]; omega)) (by omega) ?_
        rw [upd_upd]
        refine aw_aload0 (pc := 57) F dX5_moveBest_57 ?_
        refine aw_pcallV0 (pc := 58) F dX5_moveBest_58 ml_5_61 rfl (by first | decide | (simp only [inB, cnt, rcnt]; omega)) (ct5_countBroken _ _ (upS S (14 + (e : Int)) t) _ (by decide) hr ho) (Nat.le_of_ble_eq_true rfl) (by decide) (Nat.zero_le _) ?_
        refine aw_istore8 (pc := 61) F dX5_moveBest_61 (by simp only [List.all_cons, List.all_nil, g8, g9]; rfl) hk.symm ?_
        refine aw_aload0 (pc := 63) F dX5_moveBest_63 ?_
        refine aw_pcallV0 (pc := 64) F dX5_moveBest_64 ml_5_65 rfl (by first | decide | (simp only [inB, cnt, rcnt]; omega)) (ct5_sumCosts _ _ (upS S (14 + (e : Int)) t) _ (by decide) hr ho) (Nat.le_of_ble_eq_true rfl) (by decide) (Nat.zero_le _) ?_
        refine aw_istore9 (pc := 67) F dX5_moveBest_67 (by simp only [List.all_cons, List.all_nil, g8, g9]; rfl) hk.symm ?_
        refine aw_iload8 (pc := 69) F dX5_moveBest_69 ?_
        refine aw_iload1 (pc := 71) F dX5_moveBest_71 ?_
        refine aw_icmp_lt (tgt := 87) (pc := 72) F dX5_moveBest_72 (by decide) (by unfold inR; omega) (by unfold inR; omega) (fun c72 => ?_) (fun c72 => ?_)
        · refine aw_iload8 (pc := 87) F dX5_moveBest_87 ?_
          refine aw_istore1 (pc := 89) F dX5_moveBest_89 (by simp only [List.all_cons, List.all_nil, g8, g9]; rfl) hk.symm ?_
          refine aw_iload9 (pc := 90) F dX5_moveBest_90 ?_
          refine aw_istore2 (pc := 92) F dX5_moveBest_92 (by simp only [List.all_cons, List.all_nil, g8, g9]; rfl) hk.symm ?_
          refine aw_iload5 (pc := 93) F dX5_moveBest_93 ?_
          refine aw_istore3 (pc := 95) F dX5_moveBest_95 (by simp only [List.all_cons, List.all_nil, g8, g9]; rfl) hk.symm ?_
          refine aw_iload7 (pc := 96) F dX5_moveBest_96 ?_
          refine aw_istore4 (pc := 98) F dX5_moveBest_98 (by simp only [List.all_cons, List.all_nil, g8, g9]; rfl) hk.symm ?_
          refine aw_iinc7 (pc := 100) F dX5_moveBest_100 (by simp only [List.all_cons, List.all_nil, g8, g9]; rfl) hk.symm ?_
          refine aw_goto (tgt := 39) (pc := 103) F dX5_moveBest_103 (by decide) ?_
          have g2 := g (aI (brk (upS S (14 + (e : Int)) t))) (aI (cst (upS S (14 + (e : Int)) t))) rfl rfl
          first | (rw [yes (Or.inl c72), cn] at g2; exact g2) | (rw [yes (Or.inr ⟨c78, c84⟩), cn] at g2; exact g2) | (rw [no (by omega)] at g2; exact g2)
        · refine aw_iload8 (pc := 75) F dX5_moveBest_75 ?_
          refine aw_iload1 (pc := 77) F dX5_moveBest_77 ?_
          refine aw_icmp_ne (tgt := 100) (pc := 78) F dX5_moveBest_78 (by decide) (by unfold inR; omega) (by unfold inR; omega) (fun c78 => ?_) (fun c78 => ?_)
          · refine aw_iinc7 (pc := 100) F dX5_moveBest_100 (by simp only [List.all_cons, List.all_nil, g8, g9]; rfl) hk.symm ?_
            refine aw_goto (tgt := 39) (pc := 103) F dX5_moveBest_103 (by decide) ?_
            have g2 := g (aI (brk (upS S (14 + (e : Int)) t))) (aI (cst (upS S (14 + (e : Int)) t))) rfl rfl
            first | (rw [yes (Or.inl c72), cn] at g2; exact g2) | (rw [yes (Or.inr ⟨c78, c84⟩), cn] at g2; exact g2) | (rw [no (by omega)] at g2; exact g2)
          · refine aw_iload9 (pc := 81) F dX5_moveBest_81 ?_
            refine aw_iload2 (pc := 83) F dX5_moveBest_83 ?_
            refine aw_icmp_ge (tgt := 100) (pc := 84) F dX5_moveBest_84 (by decide) (by unfold inR; omega) (by unfold inR; omega) (fun c84 => ?_) (fun c84 => ?_)
            · refine aw_iinc7 (pc := 100) F dX5_moveBest_100 (by simp only [List.all_cons, List.all_nil, g8, g9]; rfl) hk.symm ?_
              refine aw_goto (tgt := 39) (pc := 103) F dX5_moveBest_103 (by decide) ?_
              have g2 := g (aI (brk (upS S (14 + (e : Int)) t))) (aI (cst (upS S (14 + (e : Int)) t))) rfl rfl
              first | (rw [yes (Or.inl c72), cn] at g2; exact g2) | (rw [yes (Or.inr ⟨c78, c84⟩), cn] at g2; exact g2) | (rw [no (by omega)] at g2; exact g2)
            · refine aw_iload8 (pc := 87) F dX5_moveBest_87 ?_
              refine aw_istore1 (pc := 89) F dX5_moveBest_89 (by simp only [List.all_cons, List.all_nil, g8, g9]; rfl) hk.symm ?_
              refine aw_iload9 (pc := 90) F dX5_moveBest_90 ?_
              refine aw_istore2 (pc := 92) F dX5_moveBest_92 (by simp only [List.all_cons, List.all_nil, g8, g9]; rfl) hk.symm ?_
              refine aw_iload5 (pc := 93) F dX5_moveBest_93 ?_
              refine aw_istore3 (pc := 95) F dX5_moveBest_95 (by simp only [List.all_cons, List.all_nil, g8, g9]; rfl) hk.symm ?_
              refine aw_iload7 (pc := 96) F dX5_moveBest_96 ?_
              refine aw_istore4 (pc := 98) F dX5_moveBest_98 (by simp only [List.all_cons, List.all_nil, g8, g9]; rfl) hk.symm ?_
              refine aw_iinc7 (pc := 100) F dX5_moveBest_100 (by simp only [List.all_cons, List.all_nil, g8, g9]; rfl) hk.symm ?_
              refine aw_goto (tgt := 39) (pc := 103) F dX5_moveBest_103 (by decide) ?_
              have g2 := g (aI (brk (upS S (14 + (e : Int)) t))) (aI (cst (upS S (14 + (e : Int)) t))) rfl rfl
              first | (rw [yes (Or.inl c72), cn] at g2; exact g2) | (rw [yes (Or.inr ⟨c78, c84⟩), cn] at g2; exact g2) | (rw [no (by omega)] at g2; exact g2)
  have keyA : ∀ (j e : Nat) (w6 w7 w8 w9 : AV), e + j = E → wide w6 = false → wide w7 = false → wide w8 = false → wide w9 = false → AW X K 18 [aR (5, 0, 0, 0), aI (brk (cand S (clN S (T * e)))), aI (cst (cand S (clN S (T * e)))), aI (clN S (T * e)).1, aI (clN S (T * e)).2, aI e, w6, w7, w8, w9] [] (M, R0 b) 0 Q9 := by
    intro j
    induction j with
    | zero =>
      intro e w6 w7 w8 w9 he g6 g7 g8 g9
      obtain rfl : e = E := by omega
      have eb : bmS S = clN S (T * e) := by unfold bmS; rw [tT, tE]
      have bd := clN_bd h (T * e) (by rw [tT, tE]; exact Nat.le_refl _)
      have i1 : inR (clN S (T * e)).1 := by
        rcases bd with z | z
        · rw [z]; unfold inR; decide
        · unfold inR; omega
      have bd2 : ¬ (clN S (T * e)).1 = -1 → ((0 ≤ (clN S (T * e)).1 ∧ (clN S (T * e)).1 < S 1) ∧ 0 ≤ (clN S (T * e)).2 ∧ (clN S (T * e)).2 < S 0) := fun z => bd.resolve_left (fun y => z (by rw [y]))
      refine aw_iload5 (pc := 18) F dX5_moveBest_18 ?_
      refine aw_aload0 (pc := 20) F dX5_moveBest_20 ?_
      refine aw_getI (pc := 21) F dX5_moveBest_21 fl_5_15 rfl (by first | decide | (simp only [inB, cnt, rcnt]; omega)) rfl nz1 ?_
      refine aw_icmp_ge (tgt := 121) (pc := 24) F dX5_moveBest_24 (by decide) (by unfold inR; omega) (by unfold inR; omega) (fun c24 => ?_) (fun c24 => ?_)
      · refine aw_iload3 (pc := 121) F dX5_moveBest_121 ?_
        refine aw_iconst (pc := 122) F dX5_moveBest_122 ?_
        refine aw_icmp_ne (tgt := 128) (pc := 123) F dX5_moveBest_123 (by decide) (by first | exact i1 | (unfold inR; decide)) (by first | exact i1 | (unfold inR; decide)) (fun c123 => ?_) (fun c123 => ?_)
        · have b3 := bd2 c123
          refine aw_aload0 (pc := 128) F dX5_moveBest_128 ?_
          refine aw_getR (pc := 129) F dX5_moveBest_129 fl_5_21 rfl (by first | decide | (simp only [inB, cnt, rcnt]; omega)) rfl nz3 rfl ?_
          refine aw_iload3 (pc := 132) F dX5_moveBest_132 ?_
          refine aw_iload4 (pc := 133) F dX5_moveBest_133 ?_
          refine aw_iast (pc := 135) F dX5_moveBest_135 rfl (by first | decide | (simp only [inB, cnt, rcnt]; omega)) (by omega) ?_
          rw [hQ]
          refine aw_iconst (pc := 136) F dX5_moveBest_136 ?_
          exact aw_iret (pc := 137) F dX5_moveBest_137 (nar_bool (by first | exact b2i_01 | decide)) (Nat.zero_le _) ⟨(b2i_pos (by show ¬ (bmS S).1 = -1; rw [eb]; exact c123)).symm, _, rfl, chg5.rf.up, by unfold nxS cand; rw [if_neg (by rw [eb]; exact c123), eb]; exact pl_time (by omega) hR⟩
        · rw [hQ]
          refine aw_iconst (pc := 126) F dX5_moveBest_126 ?_
          exact aw_iret (pc := 127) F dX5_moveBest_127 (nar_bool (by first | exact b2i_01 | decide)) (Nat.zero_le _) ⟨(b2i_neg (fun z => z (by rw [eb]; exact c123))).symm, M, rfl, chg5.rf, by unfold nxS cand; rw [if_pos (by rw [eb]; exact c123)]; exact hR⟩
      · omega
    | succ j ih =>
      intro e w6 w7 w8 w9 he g6 g7 g8 g9
      refine aw_iload5 (pc := 18) F dX5_moveBest_18 ?_
      refine aw_aload0 (pc := 20) F dX5_moveBest_20 ?_
      refine aw_getI (pc := 21) F dX5_moveBest_21 fl_5_15 rfl (by first | decide | (simp only [inB, cnt, rcnt]; omega)) rfl nz1 ?_
      refine aw_icmp_ge (tgt := 121) (pc := 24) F dX5_moveBest_24 (by decide) (by unfold inR; omega) (by unfold inR; omega) (fun c24 => ?_) (fun c24 => ?_)
      · omega
      · refine aw_aload0 (pc := 27) F dX5_moveBest_27 ?_
        refine aw_getR (pc := 28) F dX5_moveBest_28 fl_5_21 rfl (by first | decide | (simp only [inB, cnt, rcnt]; omega)) rfl nz3 rfl ?_
        refine aw_iload5 (pc := 31) F dX5_moveBest_31 ?_
        refine aw_iald (pc := 33) F dX5_moveBest_33 rfl (by first | decide | (simp only [inB, cnt, rcnt]; omega)) (by omega) ?_
        refine aw_istore6 (pc := 34) F dX5_moveBest_34 (by simp only [List.all_cons, List.all_nil, g6, g7, g8, g9]; rfl) hk.symm ?_
        refine aw_iconst (pc := 36) F dX5_moveBest_36 ?_
        refine aw_istore7 (pc := 37) F dX5_moveBest_37 (by simp only [List.all_cons, List.all_nil, g6, g7, g8, g9]; rfl) hk.symm ?_
        have g := keyB e (by omega) (fun w6 w7 w8 w9 q6 q7 q8 q9 => ih (e + 1) w6 w7 w8 w9 (by omega) q6 q7 q8 q9) T 0 (M (5, 0, 4, 0) e) w8 w9 (by omega) g8 g9
        rw [upd_id] at g
        exact g
  refine aw_aload0 (pc := 0) F dX5_moveBest_0 ?_
  refine aw_pcallV0 (pc := 1) F dX5_moveBest_1 ml_5_61 rfl (by first | decide | (simp only [inB, cnt, rcnt]; omega)) (ct5_countBroken _ _ S _ (by decide) hR h) (Nat.le_of_ble_eq_true rfl) (by decide) (Nat.zero_le _) ?_
  refine aw_istore1 (pc := 4) F dX5_moveBest_4 rfl hk.symm ?_
  refine aw_aload0 (pc := 5) F dX5_moveBest_5 ?_
  refine aw_pcallV0 (pc := 6) F dX5_moveBest_6 ml_5_65 rfl (by first | decide | (simp only [inB, cnt, rcnt]; omega)) (ct5_sumCosts _ _ S _ (by decide) hR h) (Nat.le_of_ble_eq_true rfl) (by decide) (Nat.zero_le _) ?_
  refine aw_istore2 (pc := 9) F dX5_moveBest_9 rfl hk.symm ?_
  refine aw_iconst (pc := 10) F dX5_moveBest_10 ?_
  refine aw_istore3 (pc := 11) F dX5_moveBest_11 rfl hk.symm ?_
  refine aw_iconst (pc := 12) F dX5_moveBest_12 ?_
  refine aw_istore4 (pc := 13) F dX5_moveBest_13 rfl hk.symm ?_
  refine aw_iconst (pc := 15) F dX5_moveBest_15 ?_
  refine aw_istore5 (pc := 16) F dX5_moveBest_16 rfl hk.symm ?_
  rw [← hQ]
  exact keyA E 0 aX aX aX aX (by omega) rfl rfl rfl rfl
theorem ct8_improve (M : Id4 → Int → Int) (b : Bool) (S : Int → Int) (nx n : Int) (Hs : Int → Int → Int) (hR : plR M 0 S) (h : Ok S) (hH : hR8 M nx n Hs) : CtI 7 0 yX8_improve cX8_improve 2 (some .int) [aR (8, 0, 0, 0)] (M, R0 b) (fun v σ' => ∃ N : Nat, MvN S N ∧ v = N ∧ E8 M b (itI S N) (min (n + 1) 10) (pushH n Hs S) σ') := by
  refine CtI.mk (by decide +kernel) rfl (Nat.le_of_ble_eq_true rfl) (fun X K F hk => ?_)
  have hk8 := ky_bd h
  obtain ⟨Q9, hQ⟩ : ∃ Q9, Q9 = EI X K 0 (fun v σ' => ∃ N : Nat, MvN S N ∧ v = N ∧ E8 M b (itI S N) (min (n + 1) 10) (pushH n Hs S) σ') := ⟨_, rfl⟩
  have key : ∀ (nx1 : Int) (f i : Nat) (M' : Id4 → Int → Int), kyS (itI S i) ≤ f → (∀ k, k < i → bet (itI S k)) → sameE M M' → plR M' 0 (itI S i) → hR8 M' nx1 (min (n + 1) 10) (pushH n Hs S) → AW X K 13 [aR (8, 0, 0, 0), aI i] [] (M', R0 b) 0 Q9 := by
    intro nx1 f
    induction f with
    | zero =>
      intro i M' hf hb a1 a2 a3
      have ho := itI_ok h i
      have hk7 := itI_ky i hb
      have k0 := ky_bd ho
      have nb : ¬ bet (itI S i) := fun z => by have := bet_ky z; have := ky_bd (nxS_ok ho); omega
      refine aw_iload1 (pc := 13) F dX8_improve_13 ?_
      refine aw_ldcw (pc := 14) F dX8_improve_14 kc_8_290 ?_
      refine aw_icmp_ge (tgt := 36) (pc := 17) F dX8_improve_17 (by decide) (by unfold inR; omega) (by unfold inR; omega) (fun c17 => ?_) (fun c17 => ?_)
      · omega
      · refine aw_aload0 (pc := 20) F dX8_improve_20 ?_
        refine aw_getR (pc := 21) F dX8_improve_21 fl_8_34 rfl (by first | decide | (simp only [inB, cnt, rcnt]; omega)) rfl nz4 rfl ?_
        refine aw_callVI0 (pc := 24) F dX8_improve_24 ml_8_291 rfl (by first | decide | (simp only [inB, cnt, rcnt]; omega)) (ct5_moveBest _ _ _ a2 ho) (Nat.le_of_ble_eq_true rfl) (by decide) (Nat.zero_le _) (fun v9 σ9 h9_24 => ?_)
        obtain ⟨hv, M2, h9, c1, c2⟩ := h9_24
        subst h9
        subst hv
        rw [b2i_neg nb]
        have en : nxS (itI S i) = itI S i := if_pos (Classical.byContradiction nb)
        rw [en] at c2
        refine aw_if_eq (tgt := 36) (pc := 27) F dX8_improve_27 (by decide) (by unfold inR; omega) (fun _ => ?_) (fun c9 => absurd c9 (by decide))
        rw [hQ]
        refine aw_iload1 (pc := 36) F dX8_improve_36 ?_
        exact aw_iret (pc := 37) F dX8_improve_37 rfl (Nat.zero_le _) ⟨i, ⟨hb, nb⟩, rfl, M2, nx1, rfl, a1.tr c1.e, c2, a3.c5 (by decide) c1⟩
    | succ f ih =>
      intro i M' hf hb a1 a2 a3
      have ho := itI_ok h i
      have hk7 := itI_ky i hb
      have k0 := ky_bd ho
      refine aw_iload1 (pc := 13) F dX8_improve_13 ?_
      refine aw_ldcw (pc := 14) F dX8_improve_14 kc_8_290 ?_
      refine aw_icmp_ge (tgt := 36) (pc := 17) F dX8_improve_17 (by decide) (by unfold inR; omega) (by unfold inR; omega) (fun c17 => ?_) (fun c17 => ?_)
      · omega
      · refine aw_aload0 (pc := 20) F dX8_improve_20 ?_
        refine aw_getR (pc := 21) F dX8_improve_21 fl_8_34 rfl (by first | decide | (simp only [inB, cnt, rcnt]; omega)) rfl nz4 rfl ?_
        refine aw_callVI0 (pc := 24) F dX8_improve_24 ml_8_291 rfl (by first | decide | (simp only [inB, cnt, rcnt]; omega)) (ct5_moveBest _ _ _ a2 ho) (Nat.le_of_ble_eq_true rfl) (by decide) (Nat.zero_le _) (fun v9 σ9 h9_24 => ?_)
        obtain ⟨hv, M2, h9, c1, c2⟩ := h9_24
        subst h9
        subst hv
        refine aw_ifb_eq (tgt := 36) (pc := 27) F dX8_improve_27 (by decide) (fun c27 => ?_) (fun c27 => ?_)
        · rw [hQ]
          have en : nxS (itI S i) = itI S i := if_pos (Classical.byContradiction c27)
          rw [en] at c2
          refine aw_iload1 (pc := 36) F dX8_improve_36 ?_
          exact aw_iret (pc := 37) F dX8_improve_37 rfl (Nat.zero_le _) ⟨i, ⟨hb, c27⟩, rfl, M2, nx1, rfl, a1.tr c1.e, c2, a3.c5 (by decide) c1⟩
        · refine aw_iinc1 (pc := 30) F dX8_improve_30 rfl hk.symm ?_
          refine aw_goto (tgt := 13) (pc := 33) F dX8_improve_33 (by decide) ?_
          refine ih (i + 1) M2 ?_ (fun k hk1 => ?_) (a1.tr c1.e) c2 (a3.c5 (by decide) c1)
          · have := bet_ky c27
            show kyS (nxS (itI S i)) ≤ f
            omega
          · by_cases z : k = i
            · rw [z]; exact c27
            · exact hb k (by omega)
  refine aw_aload0 (pc := 0) F dX8_improve_0 ?_
  refine aw_getR (pc := 1) F dX8_improve_1 fl_8_44 rfl (by first | decide | (simp only [inB, cnt, rcnt]; omega)) rfl nz6 rfl ?_
  refine aw_aload0 (pc := 4) F dX8_improve_4 ?_
  refine aw_getR (pc := 5) F dX8_improve_5 fl_8_34 rfl (by first | decide | (simp only [inB, cnt, rcnt]; omega)) rfl nz4 rfl ?_
  refine aw_callVV1 (pc := 8) F dX8_improve_8 ml_8_259 rfl (by first | decide | (simp only [inB, cnt, rcnt]; omega)) (ct2_remember _ _ S nx n Hs hR h hH) (Nat.le_of_ble_eq_true rfl) (by decide) (Nat.zero_le _) (fun σ9 h9_8 => ?_)
  obtain ⟨M1, nx1, h9, c1, c2⟩ := h9_8
  subst h9
  refine aw_iconst (pc := 11) F dX8_improve_11 ?_
  refine aw_istore1 (pc := 12) F dX8_improve_12 rfl hk.symm ?_
  rw [← hQ]
  exact key nx1 (kyS S).toNat 0 M1 (by show kyS S ≤ _; omega) (fun k hk1 => absurd hk1 (by omega)) c1.e (c1.pl hR) c2
