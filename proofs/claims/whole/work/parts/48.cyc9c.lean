/-! 48: the reference's tree, its cycles, and the questions of them -/
def chT (M M' : Id4 → Int → Int) : Prop := ∀ q k, ¬ ((q = (9, 0, 0, 0) ∧ k = 21) ∨ q = (9, 0, 19, 0) ∨ q = (9, 0, 20, 0) ∨ q = (9, 0, 21, 0)) → M' q k = M q k
theorem chT.rf {M : Id4 → Int → Int} : chT M M := fun _ _ _ => rfl
theorem chT.up {M M1 : Id4 → Int → Int} {q : Id4} {k v : Int} (h1 : chT M M1) (h : (q = (9, 0, 0, 0) ∧ k = 21) ∨ q = (9, 0, 19, 0) ∨ q = (9, 0, 20, 0) ∨ q = (9, 0, 21, 0)) : chT M (updM M1 q k v) := fun q' k' h' => by
  rw [upd_ne (by
    by_cases e : q' = q
    · right
      intro z
      rw [e, z] at h'
      exact h' h
    · exact Or.inl e)]
  exact h1 q' k' h'
theorem chT.s {M M' : Id4 → Int → Int} (h : chT M M') : M' (9, 0, 1, 0) = M (9, 0, 1, 0) := funext fun k => h _ k (by simp)
theorem chT.q {M M' : Id4 → Int → Int} (h : chT M M') : same9 M M' := fun q k z => h q k (fun y => z (by
  rcases y with ⟨y1, y2⟩ | y | y | y
  · rw [y1, y2]; unfold scr9; decide
  · rw [y]; unfold scr9; simp
  · rw [y]; unfold scr9; simp
  · rw [y]; unfold scr9; simp))
def treK (S : Int → Int) (n : Nat) (M : Id4 → Int → Int) : Prop := M (9, 0, 0, 0) 21 = cyN S n ∧ (∀ k : Nat, k < n → M (9, 0, 19, 0) k = b2i (tre S k)) ∧ ∀ c, 0 ≤ c → c < cyN S n → M (9, 0, 21, 0) c = cloS S n c
abbrev cyM (S : Int → Int) : Int := cyN S (S 20).toNat
abbrev clS (S : Int → Int) : Int → Int := cloS S (S 20).toNat
def treR (S : Int → Int) (M : Id4 → Int → Int) : Prop := treK S (S 20).toNat M
theorem ct9_laysTree (M : Id4 → Int → Int) (b : Bool) (S : Int → Int) (hS : M (9, 0, 1, 0) = S) (h : Ok S) : CtV 3 0 yX9_laysTree cX9_laysTree 5 none [aR (9, 0, 0, 0)] (M, R0 b) (fun σ' => ∃ M', σ' = (M', R0 b) ∧ chT M M' ∧ treR S M') := by
  refine CtV.mk (by decide +kernel) rfl (Nat.le_of_ble_eq_true rfl) (fun X K F hk => ?_)
  have hN := h.2.2.1
  have hE := h.2.1
  obtain ⟨N, eN⟩ : ∃ N : Nat, S 20 = (N : Int) := ⟨(S 20).toNat, by omega⟩
  have tN : (S 20).toNat = N := by omega
  obtain ⟨Q9, hQ⟩ : ∃ Q9, Q9 = EV X K 0 (fun σ' => ∃ M', σ' = (M', R0 b) ∧ chT M M' ∧ treR S M') := ⟨_, rfl⟩
  have key3 : ∀ (k : Nat), k < N → (∀ (M' : Id4 → Int → Int) (w2 w3 w4 : AV), wide w2 = false → wide w3 = false → wide w4 = false → chT M M' → treK S (k + 1) M' → (∀ e, 0 ≤ e → e < 6 → M' (9, 0, 20, 0) e = grp S (k + 1) e) → AW X K 28 [aR (9, 0, 0, 0), aI ((k + 1 : Nat) : Int), w2, w3, w4] [] (M', R0 b) 0 Q9) → ∀ (j e : Nat) (M' : Id4 → Int → Int), e + j = 6 → chT M M' → treK S (k + 1) M' → (∀ x, 0 ≤ x → x < 6 → M' (9, 0, 20, 0) x = if x < e then grp S (k + 1) x else grp S k x) → AW X K 107 [aR (9, 0, 0, 0), aI k, aI (grp S k (frS S k)), aI (grp S k (toS S k)), aI e] [] (M', R0 b) 0 Q9 := by
    intro k hk1 cont j
    have gin : ∀ x, 0 ≤ x → x < 6 → ∀ m : Nat, (m : Int) ≤ S 20 → 0 ≤ grp S m x ∧ grp S m x < 6 := by
      intro x x0 x1 m
      induction m with
      | zero => intro _; exact ⟨x0, x1⟩
      | succ m ih =>
        intro hm
        have sp := h.2.2.2.2 m (by omega) (by omega)
        unfold SpOk at sp
        have fin : ∀ y, 0 ≤ y → y < S 1 → 0 ≤ grp S m y ∧ grp S m y < 6 := by
          intro y y0 y1
          have : ∀ m2 : Nat, m2 ≤ m → ∀ y, 0 ≤ y → y < S 1 → 0 ≤ grp S m2 y ∧ grp S m2 y < 6 := by
            intro m2
            induction m2 with
            | zero => intro _ y y0 y1; exact ⟨y0, by show y < 6; omega⟩
            | succ m2 ih2 =>
              intro hm2 y y0 y1
              have sp2 := h.2.2.2.2 m2 (by omega) (by omega)
              unfold SpOk at sp2
              rw [grp_s]
              split
              · exact ih2 (by omega) _ sp2.1.1 sp2.1.2
              · exact ih2 (by omega) y y0 y1
          exact this m (Nat.le_refl _) y y0 y1
        rw [grp_s]
        split
        · exact fin _ sp.1.1 sp.1.2
        · exact ih (by omega)
    have sp := h.2.2.2.2 k (by omega) (by omega)
    unfold SpOk at sp
    have gt := gin (toS S k) sp.2.1.1 (by show toS S k < 6; have := sp.2.1.2; unfold toS; omega) k (by omega)
    induction j with
    | zero =>
      intro e M' he a1 a2 a3
      obtain rfl : e = 6 := by omega
      refine aw_iload4 (pc := 107) F dX9_laysTree_107 ?_
      refine aw_bipush (pc := 109) F dX9_laysTree_109 (by decide) ?_
      refine aw_icmp_ge (tgt := 149) (pc := 111) F dX9_laysTree_111 (by decide) (by unfold inR; omega) (by unfold inR; omega) (fun c111 => ?_) (fun c111 => ?_)
      · refine aw_iinc1 (pc := 149) F dX9_laysTree_149 rfl hk.symm ?_
        refine aw_goto (tgt := 28) (pc := 152) F dX9_laysTree_152 (by decide) ?_
        exact cont M' _ _ _ rfl rfl rfl a1 a2 (fun x x0 x1 => by rw [a3 x x0 x1, if_pos (by omega)])
      · omega
    | succ j ih =>
      intro e M' he a1 a2 a3
      have ge := gin e (by omega) (by omega) k (by omega)
      have ae := a3 e (by omega) (by omega)
      rw [if_neg (by omega)] at ae
      have st : ∀ v, v = grp S (k + 1) e → AW X K 107 [aR (9, 0, 0, 0), aI k, aI (grp S k (frS S k)), aI (grp S k (toS S k)), aI ((e + 1 : Nat) : Int)] [] (updM M' (9, 0, 20, 0) e v, R0 b) 0 Q9 := fun v hv => by
        refine ih (e + 1) _ (by omega) (a1.up (Or.inr (Or.inr (Or.inl rfl)))) ?_ (fun x x0 x1 => ?_)
        · obtain ⟨b1, b2, b3⟩ := a2
          exact ⟨by rw [upd_ne (Or.inl (by decide))]; exact b1, fun k2 q => by rw [upd_ne (Or.inl (by decide))]; exact b2 k2 q, fun c c0 c1 => by rw [upd_ne (Or.inl (by decide))]; exact b3 c c0 c1⟩
        · by_cases z : x = e
          · rw [z, upd_same, hv, if_pos (by omega)]
          · rw [upd_ne (Or.inr z), a3 x x0 x1]
            by_cases y : x < e
            · rw [if_pos y, if_pos (by omega)]
            · rw [if_neg y, if_neg (by omega)]
      refine aw_iload4 (pc := 107) F dX9_laysTree_107 ?_
      refine aw_bipush (pc := 109) F dX9_laysTree_109 (by decide) ?_
      refine aw_icmp_ge (tgt := 149) (pc := 111) F dX9_laysTree_111 (by decide) (by unfold inR; omega) (by unfold inR; omega) (fun c111 => ?_) (fun c111 => ?_)
      · omega
      · refine aw_aload0 (pc := 114) F dX9_laysTree_114 ?_
        refine aw_getR (pc := 115) F dX9_laysTree_115 fl_9_33 rfl (by first | decide | (simp only [inB, cnt, rcnt]; omega)) rfl nz19 rfl ?_
        refine aw_iload4 (pc := 118) F dX9_laysTree_118 ?_
        refine aw_aload0 (pc := 120) F dX9_laysTree_120 ?_
        refine aw_getR (pc := 121) F dX9_laysTree_121 fl_9_33 rfl (by first | decide | (simp only [inB, cnt, rcnt]; omega)) rfl nz19 rfl ?_
        refine aw_iload4 (pc := 124) F dX9_laysTree_124 ?_
        refine aw_iald (pc := 126) F dX9_laysTree_126 rfl (by first | decide | (simp only [inB, cnt, rcnt]; omega)) (by omega) ?_
        rw [ae]
        refine aw_iload3 (pc := 127) F dX9_laysTree_127 ?_
        refine aw_icmp_ne (tgt := 135) (pc := 128) F dX9_laysTree_128 (by decide) (by unfold inR; omega) (by unfold inR; omega) (fun c128 => ?_) (fun c128 => ?_)
        · refine aw_aload0 (pc := 135) F dX9_laysTree_135 ?_
          refine aw_getR (pc := 136) F dX9_laysTree_136 fl_9_33 rfl (by first | decide | (simp only [inB, cnt, rcnt]; omega)) rfl nz19 rfl ?_
          refine aw_iload4 (pc := 139) F dX9_laysTree_139 ?_
          refine aw_iald (pc := 141) F dX9_laysTree_141 rfl (by first | decide | (simp only [inB, cnt, rcnt]; omega)) (by omega) ?_
          refine aw_iast (pc := 142) F dX9_laysTree_142 rfl (by first | decide | (simp only [inB, cnt, rcnt]; omega)) (by omega) ?_
          refine aw_iinc4 (pc := 143) F dX9_laysTree_143 rfl hk.symm ?_
          refine aw_goto (tgt := 107) (pc := 146) F dX9_laysTree_146 (by decide) ?_
          exact st _ (by rw [grp_s]; first | (rw [if_pos c128]; done) | (rw [if_neg c128]; exact ae))
        · refine aw_iload2 (pc := 131) F dX9_laysTree_131 ?_
          refine aw_goto (tgt := 142) (pc := 132) F dX9_laysTree_132 (by decide) ?_
          refine aw_iast (pc := 142) F dX9_laysTree_142 rfl (by first | decide | (simp only [inB, cnt, rcnt]; omega)) (by omega) ?_
          refine aw_iinc4 (pc := 143) F dX9_laysTree_143 rfl hk.symm ?_
          refine aw_goto (tgt := 107) (pc := 146) F dX9_laysTree_146 (by decide) ?_
          exact st _ (by rw [grp_s]; first | (rw [if_pos c128]; done) | (rw [if_neg c128]; exact ae))
  have key2 : ∀ (j k : Nat) (M' : Id4 → Int → Int) (w2 w3 w4 : AV), k + j = N → wide w2 = false → wide w3 = false → wide w4 = false → chT M M' → treK S k M' → (∀ e, 0 ≤ e → e < 6 → M' (9, 0, 20, 0) e = grp S k e) → AW X K 28 [aR (9, 0, 0, 0), aI k, w2, w3, w4] [] (M', R0 b) 0 Q9 := by
    intro j
    induction j with
    | zero =>
      intro k M' w2 w3 w4 hk1 g2 g3 g4 a1 a2 a3
      obtain rfl : k = N := by omega
      have s20 : M' (9, 0, 1, 0) 20 = S 20 := by rw [a1.s, hS]
      refine aw_iload1 (pc := 28) F dX9_laysTree_28 ?_
      refine aw_aload0 (pc := 29) F dX9_laysTree_29 ?_
      refine aw_getR (pc := 30) F dX9_laysTree_30 fl_9_7 rfl (by first | decide | (simp only [inB, cnt, rcnt]; omega)) rfl nz0 rfl ?_
      refine aw_bipush (pc := 33) F dX9_laysTree_33 (by decide) ?_
      refine aw_iald (pc := 35) F dX9_laysTree_35 rfl (by first | decide | (simp only [inB, cnt, rcnt]; omega)) (by omega) ?_
      refine aw_icmp_ge (tgt := 155) (pc := 36) F dX9_laysTree_36 (by decide) (by unfold inR; omega) (by unfold inR; omega) (fun c36 => ?_) (fun c36 => ?_)
      · rw [hQ]
        exact aw_vret (pc := 155) F dX9_laysTree_155 (Nat.zero_le _) ⟨M', rfl, a1, by unfold treR; rw [tN]; exact a2⟩
      · omega
    | succ j ih =>
      intro k M' w2 w3 w4 hk1 g2 g3 g4 a1 a2 a3
      have s1 : M' (9, 0, 1, 0) = S := a1.s.trans hS
      have s20 : M' (9, 0, 1, 0) 20 = S 20 := by rw [s1]
      have sp := h.2.2.2.2 k (by omega) (by omega)
      unfold SpOk at sp
      have e0 : M' (9, 0, 1, 0) (21 + 5 * (k : Int) + 0) = frS S k := by rw [s1]
      have e1 : M' (9, 0, 1, 0) (21 + 5 * (k : Int) + 1) = toS S k := by rw [s1]
      have f0 : 0 ≤ frS S k ∧ frS S k < 6 := by unfold frS; omega
      have f1 : 0 ≤ toS S k ∧ toS S k < 6 := by unfold toS; omega
      have gf := a3 _ f0.1 f0.2
      have gt := a3 _ f1.1 f1.2
      obtain ⟨b1, b2, b3⟩ := id a2
      have cb := cyN_bd (S := S) k
      have gin : ∀ (m : Nat), (m : Int) ≤ S 20 → ∀ y, 0 ≤ y → y < 6 → 0 ≤ grp S m y ∧ grp S m y < 6 := by
        intro m
        induction m with
        | zero => intro _ y y0 y1; exact ⟨y0, y1⟩
        | succ m ih2 =>
          intro hm y y0 y1
          have sp2 := h.2.2.2.2 m (by omega) (by omega)
          unfold SpOk at sp2
          rw [grp_s]
          split
          · exact ih2 (by omega) _ sp2.1.1 (by unfold frS; omega)
          · exact ih2 (by omega) y y0 y1
      have gf2 := gin k (by omega) _ f0.1 f0.2
      have gt2 := gin k (by omega) _ f1.1 f1.2
      have cont := key3 k (by omega) (fun M2 w2 w3 w4 q2 q3 q4 q5 q6 q7 => ih (k + 1) M2 w2 w3 w4 (by omega) q2 q3 q4 q5 q6 q7) 6 0
      have yes : tre S k → treK S (k + 1) (updM M' (9, 0, 19, 0) k 1) := fun t => by
        have c1 : cyN S (k + 1) = cyN S k := by show cyN S k + (if tre S k then 0 else 1) = _; rw [if_pos t]; omega
        have c2 : cloS S (k + 1) = cloS S k := if_pos t
        refine ⟨?_, fun k2 q => ?_, fun c c0 q => ?_⟩
        · rw [upd_ne (Or.inl (by decide)), c1]; exact b1
        · by_cases z : k2 = k
          · rw [z, upd_same, b2i_pos t]
          · rw [upd_ne (Or.inr (by omega))]; exact b2 k2 (by omega)
        · rw [c1] at q
          rw [upd_ne (Or.inl (by decide)), c2]; exact b3 c c0 q
      have no : ¬ tre S k → treK S (k + 1) (updM (updM (updM M' (9, 0, 19, 0) k 0) (9, 0, 21, 0) (cyN S k) k) (9, 0, 0, 0) 21 (cyN S k + 1)) := fun t => by
        have c1 : cyN S (k + 1) = cyN S k + 1 := by show cyN S k + (if tre S k then 0 else 1) = _; rw [if_neg t]
        have c2 : cloS S (k + 1) = upS (cloS S k) (cyN S k) k := if_neg t
        refine ⟨?_, fun k2 q => ?_, fun c c0 q => ?_⟩
        · rw [upd_same, c1]
        · rw [upd_ne (Or.inl (by decide)), upd_ne (Or.inl (by decide))]
          by_cases z : k2 = k
          · rw [z, upd_same, b2i_neg t]
          · rw [upd_ne (Or.inr (by omega))]; exact b2 k2 (by omega)
        · rw [c1] at q
          rw [upd_ne (Or.inl (by decide)), c2]
          by_cases z : c = cyN S k
          · rw [z, upd_same, upS_same]
          · rw [upd_ne (Or.inr z), upS_ne z, upd_ne (Or.inl (by decide))]
            exact b3 c c0 (by omega)
      refine aw_iload1 (pc := 28) F dX9_laysTree_28 ?_
      refine aw_aload0 (pc := 29) F dX9_laysTree_29 ?_
      refine aw_getR (pc := 30) F dX9_laysTree_30 fl_9_7 rfl (by first | decide | (simp only [inB, cnt, rcnt]; omega)) rfl nz0 rfl ?_
      refine aw_bipush (pc := 33) F dX9_laysTree_33 (by decide) ?_
      refine aw_iald (pc := 35) F dX9_laysTree_35 rfl (by first | decide | (simp only [inB, cnt, rcnt]; omega)) (by omega) ?_
      refine aw_icmp_ge (tgt := 155) (pc := 36) F dX9_laysTree_36 (by decide) (by unfold inR; omega) (by unfold inR; omega) (fun c36 => ?_) (fun c36 => ?_)
      · omega
      · refine aw_aload0 (pc := 39) F dX9_laysTree_39 ?_
        refine aw_getR (pc := 40) F dX9_laysTree_40 fl_9_33 rfl (by first | decide | (simp only [inB, cnt, rcnt]; omega)) rfl nz19 rfl ?_
        refine aw_aload0 (pc := 43) F dX9_laysTree_43 ?_
        refine aw_iload1 (pc := 44) F dX9_laysTree_44 ?_
        refine aw_iconst (pc := 45) F dX9_laysTree_45 ?_
        refine aw_pcallV2 (pc := 46) F dX9_laysTree_46 ml_9_200 rfl (by first | decide | (simp only [inB, cnt, rcnt]; omega)) (ct9_of _ _ _ _ (by omega) (by omega)) (Nat.le_of_ble_eq_true rfl) (by decide) (Nat.zero_le _) ?_
        rw [e0]
        refine aw_iald (pc := 49) F dX9_laysTree_49 rfl (by first | decide | (simp only [inB, cnt, rcnt]; omega)) (by omega) ?_
        rw [gf]
        refine aw_istore2 (pc := 50) F dX9_laysTree_50 (by simp only [List.all_cons, List.all_nil, g2, g3, g4]; rfl) hk.symm ?_
        refine aw_aload0 (pc := 51) F dX9_laysTree_51 ?_
        refine aw_getR (pc := 52) F dX9_laysTree_52 fl_9_33 rfl (by first | decide | (simp only [inB, cnt, rcnt]; omega)) rfl nz19 rfl ?_
        refine aw_aload0 (pc := 55) F dX9_laysTree_55 ?_
        refine aw_iload1 (pc := 56) F dX9_laysTree_56 ?_
        refine aw_iconst (pc := 57) F dX9_laysTree_57 ?_
        refine aw_pcallV2 (pc := 58) F dX9_laysTree_58 ml_9_200 rfl (by first | decide | (simp only [inB, cnt, rcnt]; omega)) (ct9_of _ _ _ _ (by omega) (by omega)) (Nat.le_of_ble_eq_true rfl) (by decide) (Nat.zero_le _) ?_
        rw [e1]
        refine aw_iald (pc := 61) F dX9_laysTree_61 rfl (by first | decide | (simp only [inB, cnt, rcnt]; omega)) (by omega) ?_
        rw [gt]
        refine aw_istore3 (pc := 62) F dX9_laysTree_62 (by simp only [List.all_cons, List.all_nil, g2, g3, g4]; rfl) hk.symm ?_
        refine aw_aload0 (pc := 63) F dX9_laysTree_63 ?_
        refine aw_getR (pc := 64) F dX9_laysTree_64 fl_9_29 rfl (by first | decide | (simp only [inB, cnt, rcnt]; omega)) rfl nz18 rfl ?_
        refine aw_iload1 (pc := 67) F dX9_laysTree_67 ?_
        refine aw_iload2 (pc := 68) F dX9_laysTree_68 ?_
        refine aw_iload3 (pc := 69) F dX9_laysTree_69 ?_
        refine aw_icmp_eq (tgt := 77) (pc := 70) F dX9_laysTree_70 (by decide) (by unfold inR; omega) (by unfold inR; omega) (fun c70 => ?_) (fun c70 => ?_)
        · refine aw_iconst (pc := 77) F dX9_laysTree_77 ?_
          refine aw_zast (pc := 78) F dX9_laysTree_78 rfl (by first | decide | (simp only [inB, cnt, rcnt]; omega)) (by omega) (by rfl) ?_
          refine aw_iload2 (pc := 79) F dX9_laysTree_79 ?_
          refine aw_iload3 (pc := 80) F dX9_laysTree_80 ?_
          refine aw_icmp_ne (tgt := 104) (pc := 81) F dX9_laysTree_81 (by decide) (by unfold inR; omega) (by unfold inR; omega) (fun c81 => ?_) (fun c81 => ?_)
          · refine aw_iconst (pc := 104) F dX9_laysTree_104 ?_
            refine aw_istore4 (pc := 105) F dX9_laysTree_105 (by simp only [List.all_cons, List.all_nil, g2, g3, g4]; rfl) hk.symm ?_
            first | exact absurd c70 c81 | exact absurd c81 c70 | exact cont _ (by omega) ((((a1.up (Or.inr (Or.inl rfl))).up (Or.inr (Or.inr (Or.inr rfl)))).up (Or.inl ⟨rfl, rfl⟩))) (no (fun z => z c70)) (fun x x0 x1 => by rw [upd_ne (Or.inl (by decide)), upd_ne (Or.inl (by decide)), upd_ne (Or.inl (by decide)), if_neg (by omega)]; exact a3 x x0 x1) | exact cont _ (by omega) (a1.up (Or.inr (Or.inl rfl))) (yes c70) (fun x x0 x1 => by rw [upd_ne (Or.inl (by decide)), if_neg (by omega)]; exact a3 x x0 x1)
          · refine aw_aload0 (pc := 84) F dX9_laysTree_84 ?_
            refine aw_getR (pc := 85) F dX9_laysTree_85 fl_9_36 rfl (by first | decide | (simp only [inB, cnt, rcnt]; omega)) rfl nz20 rfl ?_
            refine aw_aload0 (pc := 88) F dX9_laysTree_88 ?_
            refine aw_getI (pc := 89) F dX9_laysTree_89 fl_9_277 rfl (by first | decide | (simp only [inB, cnt, rcnt]; omega)) rfl nz21 ?_
            rw [upd_ne (Or.inl (by decide)), b1]
            refine aw_iload1 (pc := 92) F dX9_laysTree_92 ?_
            refine aw_iast (pc := 93) F dX9_laysTree_93 rfl (by first | decide | (simp only [inB, cnt, rcnt]; omega)) (by omega) ?_
            refine aw_aload0 (pc := 94) F dX9_laysTree_94 ?_
            refine aw_dupR (pc := 95) F dX9_laysTree_95 ?_
            refine aw_getI (pc := 96) F dX9_laysTree_96 fl_9_277 rfl (by first | decide | (simp only [inB, cnt, rcnt]; omega)) rfl nz21 ?_
            rw [upd_ne (Or.inl (by decide)), upd_ne (Or.inl (by decide)), b1]
            refine aw_iconst (pc := 99) F dX9_laysTree_99 ?_
            refine aw_iadd (pc := 100) F dX9_laysTree_100 ?_
            refine aw_putI (pc := 101) F dX9_laysTree_101 fl_9_277 fpi_9_21 rfl (by first | decide | (simp only [inB, cnt, rcnt]; omega)) rfl nz21 ?_
            refine aw_iconst (pc := 104) F dX9_laysTree_104 ?_
            refine aw_istore4 (pc := 105) F dX9_laysTree_105 (by simp only [List.all_cons, List.all_nil, g2, g3, g4]; rfl) hk.symm ?_
            first | exact absurd c70 c81 | exact absurd c81 c70 | exact cont _ (by omega) ((((a1.up (Or.inr (Or.inl rfl))).up (Or.inr (Or.inr (Or.inr rfl)))).up (Or.inl ⟨rfl, rfl⟩))) (no (fun z => z c70)) (fun x x0 x1 => by rw [upd_ne (Or.inl (by decide)), upd_ne (Or.inl (by decide)), upd_ne (Or.inl (by decide)), if_neg (by omega)]; exact a3 x x0 x1) | exact cont _ (by omega) (a1.up (Or.inr (Or.inl rfl))) (yes c70) (fun x x0 x1 => by rw [upd_ne (Or.inl (by decide)), if_neg (by omega)]; exact a3 x x0 x1)
        · refine aw_iconst (pc := 73) F dX9_laysTree_73 ?_
          refine aw_goto (tgt := 78) (pc := 74) F dX9_laysTree_74 (by decide) ?_
          refine aw_zast (pc := 78) F dX9_laysTree_78 rfl (by first | decide | (simp only [inB, cnt, rcnt]; omega)) (by omega) (by rfl) ?_
          refine aw_iload2 (pc := 79) F dX9_laysTree_79 ?_
          refine aw_iload3 (pc := 80) F dX9_laysTree_80 ?_
          refine aw_icmp_ne (tgt := 104) (pc := 81) F dX9_laysTree_81 (by decide) (by unfold inR; omega) (by unfold inR; omega) (fun c81 => ?_) (fun c81 => ?_)
          · refine aw_iconst (pc := 104) F dX9_laysTree_104 ?_
            refine aw_istore4 (pc := 105) F dX9_laysTree_105 (by simp only [List.all_cons, List.all_nil, g2, g3, g4]; rfl) hk.symm ?_
            first | exact absurd c70 c81 | exact absurd c81 c70 | exact cont _ (by omega) ((((a1.up (Or.inr (Or.inl rfl))).up (Or.inr (Or.inr (Or.inr rfl)))).up (Or.inl ⟨rfl, rfl⟩))) (no (fun z => z c70)) (fun x x0 x1 => by rw [upd_ne (Or.inl (by decide)), upd_ne (Or.inl (by decide)), upd_ne (Or.inl (by decide)), if_neg (by omega)]; exact a3 x x0 x1) | exact cont _ (by omega) (a1.up (Or.inr (Or.inl rfl))) (yes c70) (fun x x0 x1 => by rw [upd_ne (Or.inl (by decide)), if_neg (by omega)]; exact a3 x x0 x1)
          · refine aw_aload0 (pc := 84) F dX9_laysTree_84 ?_
            refine aw_getR (pc := 85) F dX9_laysTree_85 fl_9_36 rfl (by first | decide | (simp only [inB, cnt, rcnt]; omega)) rfl nz20 rfl ?_
            refine aw_aload0 (pc := 88) F dX9_laysTree_88 ?_
            refine aw_getI (pc := 89) F dX9_laysTree_89 fl_9_277 rfl (by first | decide | (simp only [inB, cnt, rcnt]; omega)) rfl nz21 ?_
            rw [upd_ne (Or.inl (by decide)), b1]
            refine aw_iload1 (pc := 92) F dX9_laysTree_92 ?_
            refine aw_iast (pc := 93) F dX9_laysTree_93 rfl (by first | decide | (simp only [inB, cnt, rcnt]; omega)) (by omega) ?_
            refine aw_aload0 (pc := 94) F dX9_laysTree_94 ?_
            refine aw_dupR (pc := 95) F dX9_laysTree_95 ?_
            refine aw_getI (pc := 96) F dX9_laysTree_96 fl_9_277 rfl (by first | decide | (simp only [inB, cnt, rcnt]; omega)) rfl nz21 ?_
            rw [upd_ne (Or.inl (by decide)), upd_ne (Or.inl (by decide)), b1]
            refine aw_iconst (pc := 99) F dX9_laysTree_99 ?_
            refine aw_iadd (pc := 100) F dX9_laysTree_100 ?_
            refine aw_putI (pc := 101) F dX9_laysTree_101 fl_9_277 fpi_9_21 rfl (by first | decide | (simp only [inB, cnt, rcnt]; omega)) rfl nz21 ?_
            refine aw_iconst (pc := 104) F dX9_laysTree_104 ?_
            refine aw_istore4 (pc := 105) F dX9_laysTree_105 (by simp only [List.all_cons, List.all_nil, g2, g3, g4]; rfl) hk.symm ?_
            first | exact absurd c70 c81 | exact absurd c81 c70 | exact cont _ (by omega) ((((a1.up (Or.inr (Or.inl rfl))).up (Or.inr (Or.inr (Or.inr rfl)))).up (Or.inl ⟨rfl, rfl⟩))) (no (fun z => z c70)) (fun x x0 x1 => by rw [upd_ne (Or.inl (by decide)), upd_ne (Or.inl (by decide)), upd_ne (Or.inl (by decide)), if_neg (by omega)]; exact a3 x x0 x1) | exact cont _ (by omega) (a1.up (Or.inr (Or.inl rfl))) (yes c70) (fun x x0 x1 => by rw [upd_ne (Or.inl (by decide)), if_neg (by omega)]; exact a3 x x0 x1)
  have key1 : ∀ (j i : Nat) (M' : Id4 → Int → Int), i + j = 6 → chT M M' → M' (9, 0, 0, 0) 21 = 0 → (∀ e : Int, 0 ≤ e → e < i → M' (9, 0, 20, 0) e = e) → AW X K 7 [aR (9, 0, 0, 0), aI i, aX, aX, aX] [] (M', R0 b) 0 Q9 := by
    intro j
    induction j with
    | zero =>
      intro i M' hi a1 a2 a3
      refine aw_iload1 (pc := 7) F dX9_laysTree_7 ?_
      refine aw_bipush (pc := 8) F dX9_laysTree_8 (by decide) ?_
      refine aw_icmp_ge (tgt := 26) (pc := 10) F dX9_laysTree_10 (by decide) (by unfold inR; omega) (by unfold inR; omega) (fun c10 => ?_) (fun c10 => ?_)
      · refine aw_iconst (pc := 26) F dX9_laysTree_26 ?_
        refine aw_istore1 (pc := 27) F dX9_laysTree_27 rfl hk.symm ?_
        exact key2 N 0 M' aX aX aX (by omega) rfl rfl rfl a1 ⟨a2, fun k hk1 => absurd hk1 (by omega), fun c c0 c1 => absurd c1 (by unfold cyN; omega)⟩ (fun e e0 e1 => a3 e e0 (by omega))
      · omega
    | succ j ih =>
      intro i M' hi a1 a2 a3
      refine aw_iload1 (pc := 7) F dX9_laysTree_7 ?_
      refine aw_bipush (pc := 8) F dX9_laysTree_8 (by decide) ?_
      refine aw_icmp_ge (tgt := 26) (pc := 10) F dX9_laysTree_10 (by decide) (by unfold inR; omega) (by unfold inR; omega) (fun c10 => ?_) (fun c10 => ?_)
      · omega
      · refine aw_aload0 (pc := 13) F dX9_laysTree_13 ?_
        refine aw_getR (pc := 14) F dX9_laysTree_14 fl_9_33 rfl (by first | decide | (simp only [inB, cnt, rcnt]; omega)) rfl nz19 rfl ?_
        refine aw_iload1 (pc := 17) F dX9_laysTree_17 ?_
        refine aw_iload1 (pc := 18) F dX9_laysTree_18 ?_
        refine aw_iast (pc := 19) F dX9_laysTree_19 rfl (by first | decide | (simp only [inB, cnt, rcnt]; omega)) (by omega) ?_
        refine aw_iinc1 (pc := 20) F dX9_laysTree_20 rfl hk.symm ?_
        refine aw_goto (tgt := 7) (pc := 23) F dX9_laysTree_23 (by decide) ?_
        exact ih (i + 1) _ (by omega) (a1.up (Or.inr (Or.inr (Or.inl rfl)))) (by rw [upd_ne (Or.inl (by decide))]; exact a2) (fun e e0 e1 => by
          by_cases z : e = i
          · rw [z, upd_same]
          · rw [upd_ne (Or.inr z)]; exact a3 e e0 (by omega))
  refine aw_aload0 (pc := 0) F dX9_laysTree_0 ?_
  refine aw_iconst (pc := 1) F dX9_laysTree_1 ?_
  refine aw_putI (pc := 2) F dX9_laysTree_2 fl_9_277 fpi_9_21 rfl (by first | decide | (simp only [inB, cnt, rcnt]; omega)) rfl nz21 ?_
  refine aw_iconst (pc := 5) F dX9_laysTree_5 ?_
  refine aw_istore1 (pc := 6) F dX9_laysTree_6 rfl hk.symm ?_
  rw [← hQ]
  exact key1 6 0 _ (by omega) (chT.rf.up (Or.inl ⟨rfl, rfl⟩)) upd_same (fun e e0 e1 => absurd e1 (by omega))
/-! a cycle: its spans, their directions, how many -/
abbrev ckS (S : Int → Int) (c : Int) : Int := clS S c
noncomputable def cyK (S : Int → Int) (c : Int) : Nat → Int
  | 0 => ckS S c
  | i + 1 => wyS S (frS S (ckS S c)) (pvS S (frS S (ckS S c)) (toS S (ckS S c)) i)
noncomputable def cyB (S : Int → Int) (c : Int) : Nat → Int
  | 0 => 1
  | i + 1 => b2i (frS S (cyK S c (i + 1)) = pvS S (frS S (ckS S c)) (toS S (ckS S c)) i)
noncomputable def cyL (S : Int → Int) (c : Int) : Nat := dpS S (frS S (ckS S c)) (toS S (ckS S c)) + 1
theorem clo_nt {S : Int → Int} : ∀ n : Nat, ∀ c, 0 ≤ c → c < cyN S n → ∃ k : Nat, cloS S n c = k ∧ k < n ∧ ¬ tre S k
  | 0, c, h0, h1 => by unfold cyN at h1; omega
  | n + 1, c, h0, h1 => by
    unfold cyN at h1
    unfold cloS
    by_cases t : tre S n
    · rw [if_pos t] at h1 ⊢
      obtain ⟨k, q1, q2, q3⟩ := clo_nt (S := S) n c h0 (by omega)
      exact ⟨k, q1, by omega, q3⟩
    · rw [if_neg t] at h1 ⊢
      by_cases e : c = cyN S n
      · exact ⟨n, by rw [e, upS_same], by omega, t⟩
      · rw [upS_ne e]
        obtain ⟨k, q1, q2, q3⟩ := clo_nt (S := S) n c h0 (by omega)
        exact ⟨k, q1, by omega, q3⟩
theorem cy_in {S : Int → Int} (h : Ok S) {c : Int} (h0 : 0 ≤ c) (h1 : c < cyM S) : ∃ k : Nat, ckS S c = k ∧ (k : Int) < S 20 ∧ ¬ tre S k ∧ (0 ≤ frS S k ∧ frS S k < S 1) ∧ (0 ≤ toS S k ∧ toS S k < S 1) ∧ wyS S (frS S k) (toS S k) ≠ -1 := by
  have hN := h.2.2.1
  obtain ⟨k, q1, q2, q3⟩ := clo_nt (S := S) _ c h0 h1
  have hk : (k : Int) < S 20 := by omega
  obtain ⟨f0, t0, -⟩ := ends_in h hk (Or.inr ⟨rfl, rfl⟩ : (frS S k = toS S k ∧ toS S k = frS S k) ∨ (toS S k = toS S k ∧ frS S k = frS S k))
  refine ⟨k, q1, hk, q3, f0, t0, ?_⟩
  exact ((wy_is h f0.1 f0.2).2.2.1 _ t0.1 t0.2).mpr (grp_span q2).symm
theorem cyL_bd {S : Int → Int} (h : Ok S) {c : Int} (h0 : 0 ≤ c) (h1 : c < cyM S) : (cyL S c : Int) ≤ S 1 := by
  obtain ⟨k, q1, q2, q3, f0, t0, w⟩ := cy_in h h0 h1
  have := dp_bd h f0.1 f0.2 t0.1 t0.2 w
  unfold cyL
  rw [q1]
  omega
theorem cyK_in {S : Int → Int} (h : Ok S) {c : Int} (h0 : 0 ≤ c) (h1 : c < cyM S) (i : Nat) (hi : i < cyL S c) : 0 ≤ cyK S c i ∧ cyK S c i < S 20 := by
  obtain ⟨k, q1, q2, q3, f0, t0, w⟩ := cy_in h h0 h1
  unfold cyL at hi
  rw [q1] at hi
  cases i with
  | zero => show 0 ≤ ckS S c ∧ ckS S c < S 20; rw [q1]; omega
  | succ i =>
    show 0 ≤ wyS S (frS S (ckS S c)) (pvS S (frS S (ckS S c)) (toS S (ckS S c)) i) ∧ wyS S (frS S (ckS S c)) (pvS S (frS S (ckS S c)) (toS S (ckS S c)) i) < S 20
    rw [q1]
    obtain ⟨a1, ⟨a2, a3⟩, a4⟩ := pv_d h f0.1 f0.2 t0.1 t0.2 w i (by omega)
    have ng : pvS S (frS S k) (toS S k) i ≠ frS S k := fun z => by
      have := (dp_0 h f0.1 f0.2 a2 a3 a4).mpr z
      omega
    obtain ⟨k2, p1, p2, -⟩ := wy_step h f0.1 f0.2 a2 a3 ng a4
    rw [p1]
    omega
theorem cyB_01 {S : Int → Int} {c : Int} : ∀ i, cyB S c i = 0 ∨ cyB S c i = 1
  | 0 => Or.inr rfl
  | i + 1 => b2i_01
/-- the way round lies there -/
def wayR (S : Int → Int) (c : Int) (M : Id4 → Int → Int) : Prop := M (9, 0, 0, 0) 24 = (cyL S c : Int) ∧ ∀ i : Nat, i < cyL S c → M (9, 0, 23, 0) i = cyK S c i ∧ M (9, 0, 24, 0) i = cyB S c i
theorem ct9_laysCycle (M : Id4 → Int → Int) (b : Bool) (S : Int → Int) (c : Int) (hS : M (9, 0, 1, 0) = S) (h : Ok S) (ht : treR S M) (h0 : 0 ≤ c) (h1 : c < cyM S) : CtI 18 0 yX9_laysCycle cX9_laysCycle 2 (some .boolean) [aR (9, 0, 0, 0), aI c] (M, R0 b) (fun v σ' => v = 1 ∧ ∃ M', σ' = (M', R0 b) ∧ chW M M' ∧ wayR S c M') := by
  refine CtI.mk (by decide +kernel) rfl (Nat.le_of_ble_eq_true rfl) (fun X K F hk => ?_)
  have hN := h.2.2.1
  have hE := h.2.1
  have cb := cyN_bd (S := S) (S 20).toNat
  have h1' : c < 14 := by unfold cyM at h1; omega
  obtain ⟨k, q1, q2, q3, f0, t0, w⟩ := cy_in h h0 h1
  obtain ⟨b1, b2, b3⟩ := ht
  have ec : M (9, 0, 21, 0) c = k := by rw [b3 c h0 h1]; exact q1
  obtain ⟨M0, hM0⟩ : ∃ M0, M0 = updM M (9, 0, 0, 0) 24 0 := ⟨_, rfl⟩
  obtain ⟨M1, hM1⟩ : ∃ M1, M1 = goM M0 0 k 1 := ⟨_, rfl⟩
  have c0 : chW M M0 := by rw [hM0]; exact chW.rf.up (Or.inl ⟨rfl, rfl⟩)
  have c1 : chW M M1 := c0.tr (by rw [hM1]; exact goM_ch)
  have s1 : M1 (9, 0, 1, 0) = S := c1.s.trans hS
  have g0 := goM_at (M := M0) (L := 0) (k := k) (f := 1)
  rw [← hM1] at g0
  have tA : treA S M1 := fun j hj => by rw [c1.t]; exact b2 j (by omega)
  have one : sumI (upS (fun _ => 0) (toS S k) 1) (S 1).toNat = 1 := by
    rw [vis_add h t0 rfl]
    have : ∀ m : Nat, sumI (fun _ => 0) m = 0 := fun m => by
      induction m with
      | zero => rfl
      | succ m ih => show sumI (fun _ => 0) m + 0 = 0; omega
    rw [this]
    rfl
  have lt := ct9_leadsT h f0.1 f0.2 b 6 M1 (toS S k) (-1) (upS (fun _ => 0) (toS S k) 1) s1 tA t0 w (fun z => w z.symm) (by unfold inR; decide) (by have := dp_bd h f0.1 f0.2 t0.1 t0.2 w; omega) (by rw [g0.1, one]; rfl) (fun e => by
    unfold upS
    split
    · exact Or.inr rfl
    · exact Or.inl rfl) upS_same (fun x x0 x1 xv xn => by rw [upS_ne xn] at xv; exact absurd xv (by decide))
  rw [one] at lt
  have e0 : M1 (9, 0, 1, 0) (21 + 5 * (k : Int) + 0) = frS S k := by rw [s1]
  have e1 : M1 (9, 0, 1, 0) (21 + 5 * (k : Int) + 1) = toS S k := by rw [s1]
  have ec1 : M1 (9, 0, 21, 0) c = k := by rw [c1 _ _ (by simp)]; exact ec
  have ec0 : updM M (9, 0, 0, 0) 24 0 (9, 0, 21, 0) c = k := by rw [upd_ne (Or.inl (by decide))]; exact ec
  refine aw_aload0 (pc := 0) F dX9_laysCycle_0 ?_
  refine aw_iconst (pc := 1) F dX9_laysCycle_1 ?_
  refine aw_putI (pc := 2) F dX9_laysCycle_2 fl_9_280 fpi_9_24 rfl (by first | decide | (simp only [inB, cnt, rcnt]; omega)) rfl nz24 ?_
  refine aw_aload0 (pc := 5) F dX9_laysCycle_5 ?_
  refine aw_aload0 (pc := 6) F dX9_laysCycle_6 ?_
  refine aw_getR (pc := 7) F dX9_laysCycle_7 fl_9_36 rfl (by first | decide | (simp only [inB, cnt, rcnt]; omega)) rfl nz20 rfl ?_
  refine aw_iload1 (pc := 10) F dX9_laysCycle_10 ?_
  refine aw_iald (pc := 11) F dX9_laysCycle_11 rfl (by first | decide | (simp only [inB, cnt, rcnt]; omega)) (by omega) ?_
  rw [ec0]
  refine aw_iconst (pc := 12) F dX9_laysCycle_12 ?_
  refine aw_callVV2 (pc := 13) F dX9_laysCycle_13 ml_9_283 rfl (by first | decide | (simp only [inB, cnt, rcnt]; omega)) (ct9_goes _ _ _ _ 0 (Or.inr rfl) upd_same (by decide)) (Nat.le_of_ble_eq_true rfl) (by decide) (Nat.zero_le _) (fun σ9 h9 => ?_)
  subst h9
  rw [← hM0, ← hM1]
  refine aw_aload0 (pc := 16) F dX9_laysCycle_16 ?_
  refine aw_aload0 (pc := 17) F dX9_laysCycle_17 ?_
  refine aw_aload0 (pc := 18) F dX9_laysCycle_18 ?_
  refine aw_getR (pc := 19) F dX9_laysCycle_19 fl_9_36 rfl (by first | decide | (simp only [inB, cnt, rcnt]; omega)) rfl nz20 rfl ?_
  refine aw_iload1 (pc := 22) F dX9_laysCycle_22 ?_
  refine aw_iald (pc := 23) F dX9_laysCycle_23 rfl (by first | decide | (simp only [inB, cnt, rcnt]; omega)) (by omega) ?_
  rw [ec1]
  refine aw_iconst (pc := 24) F dX9_laysCycle_24 ?_
  refine aw_pcallV2 (pc := 25) F dX9_laysCycle_25 ml_9_200 rfl (by first | decide | (simp only [inB, cnt, rcnt]; omega)) (ct9_of _ _ _ _ (by omega) (by omega)) (Nat.le_of_ble_eq_true rfl) (by decide) (Nat.zero_le _) ?_
  refine aw_aload0 (pc := 28) F dX9_laysCycle_28 ?_
  refine aw_aload0 (pc := 29) F dX9_laysCycle_29 ?_
  refine aw_getR (pc := 30) F dX9_laysCycle_30 fl_9_36 rfl (by first | decide | (simp only [inB, cnt, rcnt]; omega)) rfl nz20 rfl ?_
  refine aw_iload1 (pc := 33) F dX9_laysCycle_33 ?_
  refine aw_iald (pc := 34) F dX9_laysCycle_34 rfl (by first | decide | (simp only [inB, cnt, rcnt]; omega)) (by omega) ?_
  rw [ec1]
  refine aw_iconst (pc := 35) F dX9_laysCycle_35 ?_
  refine aw_pcallV2 (pc := 36) F dX9_laysCycle_36 ml_9_200 rfl (by first | decide | (simp only [inB, cnt, rcnt]; omega)) (ct9_of _ _ _ _ (by omega) (by omega)) (Nat.le_of_ble_eq_true rfl) (by decide) (Nat.zero_le _) ?_
  rw [e0, e1]
  refine aw_iconst (pc := 39) F dX9_laysCycle_39 ?_
  refine aw_callVI3 (pc := 40) F dX9_laysCycle_40 ml_9_287 rfl (by first | decide | (simp only [inB, cnt, rcnt]; omega)) lt (Nat.le_of_ble_eq_true rfl) (by decide) (Nat.zero_le _) (fun v9 σ9 h9_40 => ?_)
  obtain ⟨hv, M2, h9, d1, d2, d3, d4⟩ := h9_40
  subst h9
  subst hv
  exact aw_iret (pc := 43) F dX9_laysCycle_43 (nar_bool (by first | exact b2i_01 | decide)) (Nat.zero_le _) ⟨rfl, M2, rfl, c1.tr d1, by unfold cyL; rw [q1, d2]; omega, fun i hi => by
    cases i with
    | zero =>
      have a := d3 0 (by decide) (by decide)
      rw [show ((0 : Nat) : Int) = 0 by rfl, a.1, a.2, g0.2.1, g0.2.2]
      exact ⟨q1.symm, rfl⟩
    | succ i =>
      have a := d4 i (by unfold cyL at hi; rw [q1] at hi; omega)
      rw [show ((i + 1 : Nat) : Int) = 1 + (i : Int) by omega, a.1, a.2]
      show _ = wyS S (frS S (ckS S c)) (pvS S (frS S (ckS S c)) (toS S (ckS S c)) i) ∧ _ = b2i (frS S (wyS S (frS S (ckS S c)) (pvS S (frS S (ckS S c)) (toS S (ckS S c)) i)) = pvS S (frS S (ckS S c)) (toS S (ckS S c)) i)
      rw [q1]
      exact ⟨rfl, rfl⟩⟩
