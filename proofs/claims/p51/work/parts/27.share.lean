/-! 27: the shares -/
def shP (S : Int → Int) (n k : Int) : Int := n * S (21 + 5 * k + 4)
def shR (S : Int → Int) (n k : Int) : Int := (shP S n k).tmod (wts S)
def shL (S : Int → Int) (n : Int) : Nat → Int
  | 0 => n
  | j + 1 => shL S n j - (shP S n (j : Int)).tdiv (wts S)
abbrev shB (S : Int → Int) (n s j : Int) : Prop := shR S n s < shR S n j ∨ (shR S n j = shR S n s ∧ j < s)
def shC (S : Int → Int) (n s : Int) : Nat → Int
  | 0 => 0
  | j + 1 => shC S n s j + b2i (shB S n s (j : Int))
def shS (S : Int → Int) (n s : Int) : Int := if wts S = 0 then 0 else (shP S n s).tdiv (wts S) + b2i (shC S n s (S 20).toNat < shL S n (S 20).toNat)
theorem wts_bd {S : Int → Int} (h : Ok S) : 0 ≤ wts S ∧ wts S ≤ 280 := by
  have hN := h.2.2.1
  have := sumI_bd (f := fun k => S (21 + 5 * k + 4)) (c := 20) (S 20).toNat (fun k h0 h1 => by
    have z := h.2.2.2.2 k h0 (by omega)
    unfold SpOk at z
    exact ⟨z.2.2.2.2.2.1, z.2.2.2.2.2.2⟩)
  unfold wts
  omega
theorem shP_bd {S : Int → Int} (h : Ok S) {n k : Int} (hn : 0 ≤ n ∧ n ≤ 999) (hk9 : 0 ≤ k ∧ k < S 20) : 0 ≤ shP S n k ∧ shP S n k ≤ 19980 := by
  have z := h.2.2.2.2 k hk9.1 hk9.2
  unfold SpOk at z
  have z1 : 0 ≤ S (21 + 5 * k + 4) := z.2.2.2.2.2.1
  have z2 : S (21 + 5 * k + 4) ≤ 20 := z.2.2.2.2.2.2
  have e1 := Int.mul_nonneg hn.1 z1
  have e2 := Int.mul_le_mul hn.2 z2 z1 (by omega)
  unfold shP
  omega
theorem shD_bd {a w : Int} (h : 0 ≤ a ∧ a ≤ 19980) (hw : 0 ≤ w) : 0 ≤ a.tdiv w ∧ a.tdiv w ≤ 19980 := by
  have e1 := Int.tdiv_nonneg h.1 hw
  have e2 := Int.tdiv_le_self w h.1
  omega
theorem shM_bd {a w : Int} (h : 0 ≤ a ∧ a ≤ 19980) (hw : 0 < w ∧ w ≤ 280) : 0 ≤ a.tmod w ∧ a.tmod w ≤ 279 := by
  have e1 := Int.tmod_nonneg w h.1
  have e2 := Int.tmod_lt_of_pos a hw.1
  omega
theorem shL_bd {S : Int → Int} (h : Ok S) {n : Int} (hn : 0 ≤ n ∧ n ≤ 999) : ∀ j : Nat, (j : Int) ≤ S 20 → -19980 * (j : Int) ≤ shL S n j ∧ shL S n j ≤ 999
  | 0, _ => by unfold shL; omega
  | j + 1, hj => by
    have ih := shL_bd h hn j (by omega)
    have z := shD_bd (shP_bd h hn (k := (j : Int)) (by omega)) (wts_bd h).1
    show _ ≤ shL S n j - (shP S n (j : Int)).tdiv (wts S) ∧ shL S n j - (shP S n (j : Int)).tdiv (wts S) ≤ 999
    omega
theorem shC_bd {S : Int → Int} {n s : Int} : ∀ j : Nat, 0 ≤ shC S n s j ∧ shC S n s j ≤ j
  | 0 => by unfold shC; omega
  | j + 1 => by
    have ih := shC_bd (S := S) (n := n) (s := s) j
    have z : b2i (shB S n s (j : Int)) = 0 ∨ b2i (shB S n s (j : Int)) = 1 := b2i_01
    show 0 ≤ shC S n s j + b2i (shB S n s (j : Int)) ∧ shC S n s j + b2i (shB S n s (j : Int)) ≤ ((j + 1 : Nat) : Int)
    omega
theorem cx8_share (M : Id4 → Int → Int) (b : Bool) (S : Int → Int) (s n : Int) (h1 : inR s) (h2 : inR n) (hR : plR M 0 S) (h : Ok S) : CxI 13 2 yX8_share cX8_share 10 (some .int) [aR (8, 0, 0, 0), aI s, aI n] (M, R0 b) (fun v σ' => v = shS S n s ∧ σ' = (M, R0 b) ∧ (0 ≤ s ∧ s < S 20) ∧ 0 ≤ n ∧ n ≤ 999) (fun E σ' => σ' = (M, R0 b) ∧ ((E = eIO ∧ ¬ (0 ≤ s ∧ s < S 20)) ∨ (E = eIA ∧ (0 ≤ s ∧ s < S 20) ∧ ¬ (0 ≤ n ∧ n ≤ 999)))) := by
  refine CxI.mk (by decide +kernel) rfl (Nat.le_of_ble_eq_true rfl) (fun X K F hk => ?_)
  have hN := h.2.2.1
  have hW := wts_bd h
  have hp2 := hR.1.2.2
  obtain ⟨Q9, hQ⟩ : ∃ Q9, Q9 = XI X K 2 (fun v σ' => v = shS S n s ∧ σ' = (M, R0 b) ∧ (0 ≤ s ∧ s < S 20) ∧ 0 ≤ n ∧ n ≤ 999) (fun E σ' => σ' = (M, R0 b) ∧ ((E = eIO ∧ ¬ (0 ≤ s ∧ s < S 20)) ∨ (E = eIA ∧ (0 ≤ s ∧ s < S 20) ∧ ¬ (0 ≤ n ∧ n ≤ 999)))) := ⟨_, rfl⟩
  have key : (0 ≤ s ∧ s < S 20) → (0 ≤ n ∧ n ≤ 999) → 0 < wts S → ∀ (j k : Nat) (w8 w9 : AV), (k : Int) + j = S 20 → wide w8 = false → wide w9 = false → AW X K 51 [aR (8, 0, 0, 0), aI s, aI n, aI (wts S), aI (shL S n k), aI (shC S n s k), aI (shR S n s), aI k, w8, w9] [] (M, R0 b) 2 Q9 := by
    intro hs hn hw j
    have es := (hR.2.2 s hs.1 hs.2).2.2.2.2
    have ps := shP_bd h hn hs
    have ms := shM_bd ps ⟨hw, hW.2⟩
    induction j with
    | zero =>
      intro k w8 w9 hk9 g8 g9
      have bl := shL_bd h hn k (by omega)
      have bc := shC_bd (S := S) (n := n) (s := s) k
      have es' : n * M (5, 0, 9, 0) s = shP S n s := by rw [es]; rfl
      have nk : (S 20).toNat = k := by omega
      refine aw_iload7 (pc := 51) F dX8_share_51 ?_
      refine aw_aload0 (pc := 53) F dX8_share_53 ?_
      refine aw_getR (pc := 54) F dX8_share_54 fl_8_34 rfl (by first | decide | (simp only [inB, cnt, rcnt]; omega)) rfl nz4 rfl ?_
      refine aw_getI (pc := 57) F dX8_share_57 fl_8_100 rfl (by first | decide | (simp only [inB, cnt, rcnt]; omega)) rfl nz2 ?_
      refine aw_icmp_ge (tgt := 121) (pc := 60) F dX8_share_60 (by decide) (by first | (unfold inR; omega) | (rw [es']; unfold inR; omega)) (by first | (unfold inR; omega) | (rw [es']; unfold inR; omega)) (fun c60 => ?_) (fun c60 => ?_)
      · refine aw_iload2 (pc := 121) F dX8_share_121 ?_
        refine aw_aload0 (pc := 122) F dX8_share_122 ?_
        refine aw_getR (pc := 123) F dX8_share_123 fl_8_34 rfl (by first | decide | (simp only [inB, cnt, rcnt]; omega)) rfl nz4 rfl ?_
        refine aw_getR (pc := 126) F dX8_share_126 fl_8_141 rfl (by first | decide | (simp only [inB, cnt, rcnt]; omega)) rfl nz8 rfl ?_
        refine aw_iload1 (pc := 129) F dX8_share_129 ?_
        refine aw_iald (pc := 130) F dX8_share_130 rfl (by first | decide | (simp only [inB, cnt, rcnt]; omega)) (by omega) ?_
        refine aw_imul (pc := 131) F dX8_share_131 ?_
        refine aw_iload3 (pc := 132) F dX8_share_132 ?_
        refine aw_idiv (pc := 133) F dX8_share_133 (by first | (unfold inR; omega) | (rw [es']; unfold inR; omega)) (by first | (unfold inR; omega) | (rw [es']; unfold inR; omega)) (by omega) (by omega) ?_
        refine aw_iload5 (pc := 134) F dX8_share_134 ?_
        refine aw_iload4 (pc := 136) F dX8_share_136 ?_
        refine aw_icmp_ge (tgt := 145) (pc := 138) F dX8_share_138 (by decide) (by first | (unfold inR; omega) | (rw [es']; unfold inR; omega)) (by first | (unfold inR; omega) | (rw [es']; unfold inR; omega)) (fun c138 => ?_) (fun c138 => ?_)
        · refine aw_iconst (pc := 145) F dX8_share_145 ?_
          refine aw_iadd (pc := 146) F dX8_share_146 ?_
          rw [hQ]
          exact aw_xiret (pc := 147) F dX8_share_147 rfl (by decide) ⟨by unfold shS; rw [if_neg (by omega), nk, es']; first | rw [b2i_pos c138] | rw [b2i_neg (Int.not_lt.mpr c138)], rfl, hs, hn⟩
        · refine aw_iconst (pc := 141) F dX8_share_141 ?_
          refine aw_goto (tgt := 146) (pc := 142) F dX8_share_142 (by decide) ?_
          refine aw_iadd (pc := 146) F dX8_share_146 ?_
          rw [hQ]
          exact aw_xiret (pc := 147) F dX8_share_147 rfl (by decide) ⟨by unfold shS; rw [if_neg (by omega), nk, es']; first | rw [b2i_pos c138] | rw [b2i_neg (Int.not_lt.mpr c138)], rfl, hs, hn⟩
      · omega
    | succ j ih =>
      intro k w8 w9 hk9 g8 g9
      have bl := shL_bd h hn k (by omega)
      have bc := shC_bd (S := S) (n := n) (s := s) k
      have ek := (hR.2.2 k (by omega) (by omega)).2.2.2.2
      have ek' : n * M (5, 0, 9, 0) k = shP S n k := by rw [ek]; rfl
      have pk := shP_bd h hn (k := (k : Int)) (by omega)
      have mk9 := shM_bd pk ⟨hw, hW.2⟩
      have yes : shB S n s k → shC S n s (k + 1) = shC S n s k + 1 := fun z => by show _ + b2i (shB S n s (k : Int)) = _; rw [b2i_pos z]
      have no : ¬ shB S n s k → shC S n s (k + 1) = shC S n s k := fun z => by show _ + b2i (shB S n s (k : Int)) = _; rw [b2i_neg z]; omega
      have g := fun w8 w9 => ih (k + 1) w8 w9 (by omega)
      have ri : inR ((shP S n k).tmod (wts S)) := by unfold inR; omega
      have rs : inR (shR S n s) := by show inR ((shP S n s).tmod (wts S)); unfold inR; omega
      refine aw_iload7 (pc := 51) F dX8_share_51 ?_
      refine aw_aload0 (pc := 53) F dX8_share_53 ?_
      refine aw_getR (pc := 54) F dX8_share_54 fl_8_34 rfl (by first | decide | (simp only [inB, cnt, rcnt]; omega)) rfl nz4 rfl ?_
      refine aw_getI (pc := 57) F dX8_share_57 fl_8_100 rfl (by first | decide | (simp only [inB, cnt, rcnt]; omega)) rfl nz2 ?_
      refine aw_icmp_ge (tgt := 121) (pc := 60) F dX8_share_60 (by decide) (by first | exact ri | exact rs | (unfold inR; omega)) (by first | exact ri | exact rs | (unfold inR; omega)) (fun c60 => ?_) (fun c60 => ?_)
      · omega
      · refine aw_iload2 (pc := 63) F dX8_share_63 ?_
        refine aw_aload0 (pc := 64) F dX8_share_64 ?_
        refine aw_getR (pc := 65) F dX8_share_65 fl_8_34 rfl (by first | decide | (simp only [inB, cnt, rcnt]; omega)) rfl nz4 rfl ?_
        refine aw_getR (pc := 68) F dX8_share_68 fl_8_141 rfl (by first | decide | (simp only [inB, cnt, rcnt]; omega)) rfl nz8 rfl ?_
        refine aw_iload7 (pc := 71) F dX8_share_71 ?_
        refine aw_iald (pc := 73) F dX8_share_73 rfl (by first | decide | (simp only [inB, cnt, rcnt]; omega)) (by omega) ?_
        refine aw_imul (pc := 74) F dX8_share_74 ?_
        rw [ek']
        refine aw_istore8 (pc := 75) F dX8_share_75 (by simp only [List.all_cons, List.all_nil, g8, g9]; rfl) hk.symm ?_
        refine aw_iload4 (pc := 77) F dX8_share_77 ?_
        refine aw_iload8 (pc := 79) F dX8_share_79 ?_
        refine aw_iload3 (pc := 81) F dX8_share_81 ?_
        refine aw_idiv (pc := 82) F dX8_share_82 (by first | exact ri | exact rs | (unfold inR; omega)) (by first | exact ri | exact rs | (unfold inR; omega)) (by omega) (by omega) ?_
        refine aw_isub (pc := 83) F dX8_share_83 ?_
        refine aw_istore4 (pc := 84) F dX8_share_84 (by simp only [List.all_cons, List.all_nil, g8, g9]; rfl) hk.symm ?_
        refine aw_iload8 (pc := 86) F dX8_share_86 ?_
        refine aw_iload3 (pc := 88) F dX8_share_88 ?_
        refine aw_irem (pc := 89) F dX8_share_89 (by first | exact ri | exact rs | (unfold inR; omega)) (by first | exact ri | exact rs | (unfold inR; omega)) (by omega) (by omega) ?_
        refine aw_istore9 (pc := 90) F dX8_share_90 (by simp only [List.all_cons, List.all_nil, g8, g9]; rfl) hk.symm ?_
        refine aw_iload9 (pc := 92) F dX8_share_92 ?_
        refine aw_iload6 (pc := 94) F dX8_share_94 ?_
        refine aw_icmp_gt (tgt := 112) (pc := 96) F dX8_share_96 (by decide) (by first | exact ri | exact rs | (unfold inR; omega)) (by first | exact ri | exact rs | (unfold inR; omega)) (fun c96 => ?_) (fun c96 => ?_)
        · refine aw_iinc5 (pc := 112) F dX8_share_112 (by simp only [List.all_cons, List.all_nil, g8, g9]; rfl) hk.symm ?_
          refine aw_iinc7 (pc := 115) F dX8_share_115 (by simp only [List.all_cons, List.all_nil, g8, g9]; rfl) hk.symm ?_
          refine aw_goto (tgt := 51) (pc := 118) F dX8_share_118 (by decide) ?_
          have g2 := g (aI (shP S n k)) (aI (shR S n k)) rfl rfl
          first | (rw [yes (Or.inl c96)] at g2; exact g2) | (rw [yes (Or.inr ⟨c103, c109⟩)] at g2; exact g2) | (rw [no (fun z => z.elim (fun z => Int.not_lt.mpr c96 z) (fun z => by first | exact c103 z.1 | exact Int.not_lt.mpr c109 z.2))] at g2; exact g2)
        · refine aw_iload9 (pc := 99) F dX8_share_99 ?_
          refine aw_iload6 (pc := 101) F dX8_share_101 ?_
          refine aw_icmp_ne (tgt := 115) (pc := 103) F dX8_share_103 (by decide) (by first | exact ri | exact rs | (unfold inR; omega)) (by first | exact ri | exact rs | (unfold inR; omega)) (fun c103 => ?_) (fun c103 => ?_)
          · refine aw_iinc7 (pc := 115) F dX8_share_115 (by simp only [List.all_cons, List.all_nil, g8, g9]; rfl) hk.symm ?_
            refine aw_goto (tgt := 51) (pc := 118) F dX8_share_118 (by decide) ?_
            have g2 := g (aI (shP S n k)) (aI (shR S n k)) rfl rfl
            first | (rw [yes (Or.inl c96)] at g2; exact g2) | (rw [yes (Or.inr ⟨c103, c109⟩)] at g2; exact g2) | (rw [no (fun z => z.elim (fun z => Int.not_lt.mpr c96 z) (fun z => by first | exact c103 z.1 | exact Int.not_lt.mpr c109 z.2))] at g2; exact g2)
          · refine aw_iload7 (pc := 106) F dX8_share_106 ?_
            refine aw_iload1 (pc := 108) F dX8_share_108 ?_
            refine aw_icmp_ge (tgt := 115) (pc := 109) F dX8_share_109 (by decide) (by first | exact ri | exact rs | (unfold inR; omega)) (by first | exact ri | exact rs | (unfold inR; omega)) (fun c109 => ?_) (fun c109 => ?_)
            · refine aw_iinc7 (pc := 115) F dX8_share_115 (by simp only [List.all_cons, List.all_nil, g8, g9]; rfl) hk.symm ?_
              refine aw_goto (tgt := 51) (pc := 118) F dX8_share_118 (by decide) ?_
              have g2 := g (aI (shP S n k)) (aI (shR S n k)) rfl rfl
              first | (rw [yes (Or.inl c96)] at g2; exact g2) | (rw [yes (Or.inr ⟨c103, c109⟩)] at g2; exact g2) | (rw [no (fun z => z.elim (fun z => Int.not_lt.mpr c96 z) (fun z => by first | exact c103 z.1 | exact Int.not_lt.mpr c109 z.2))] at g2; exact g2)
            · refine aw_iinc5 (pc := 112) F dX8_share_112 (by simp only [List.all_cons, List.all_nil, g8, g9]; rfl) hk.symm ?_
              refine aw_iinc7 (pc := 115) F dX8_share_115 (by simp only [List.all_cons, List.all_nil, g8, g9]; rfl) hk.symm ?_
              refine aw_goto (tgt := 51) (pc := 118) F dX8_share_118 (by decide) ?_
              have g2 := g (aI (shP S n k)) (aI (shR S n k)) rfl rfl
              first | (rw [yes (Or.inl c96)] at g2; exact g2) | (rw [yes (Or.inr ⟨c103, c109⟩)] at g2; exact g2) | (rw [no (fun z => z.elim (fun z => Int.not_lt.mpr c96 z) (fun z => by first | exact c103 z.1 | exact Int.not_lt.mpr c109 z.2))] at g2; exact g2)
  refine aw_aload0 (pc := 0) F dX8_share_0 ?_
  refine aw_iload1 (pc := 1) F dX8_share_1 ?_
  refine aw_xcallVVI1 (pc := 2) F dX8_share_2 ml_8_126 rfl (by first | decide | (simp only [inB, cnt, rcnt]; omega)) (cx8_requireSpan _ _ S _ h1 hR h) (Nat.le_of_ble_eq_true rfl) (by decide) (by decide) (fun _ _ h => ⟨h.2.1, Or.inl ⟨h.1, h.2.2⟩⟩) (fun σ9 h9_2 => ?_)
  obtain ⟨rfl, q1, q2⟩ := h9_2
  refine aw_iload2 (pc := 5) F dX8_share_5 ?_
  refine aw_iconst (pc := 6) F dX8_share_6 ?_
  refine aw_sipush (pc := 7) F dX8_share_7 (by decide) ?_
  refine aw_xcallSVI3 (pc := 10) F dX8_share_10 ml_8_80 (cx8_requireRange _ _ _ _ _ h2 (by unfold inR; omega) (by unfold inR; omega)) (Nat.le_of_ble_eq_true rfl) (by decide) (by decide) (fun _ _ h => ⟨h.2.1, Or.inr ⟨h.1, ⟨q1, q2⟩, h.2.2⟩⟩) (fun σ9 h9_10 => ?_)
  obtain ⟨rfl, q3, q4⟩ := h9_10
  have es' : n * M (5, 0, 9, 0) s = shP S n s := by rw [(hR.2.2 s q1 q2).2.2.2.2]; rfl
  have ps := shP_bd h ⟨q3, q4⟩ ⟨q1, q2⟩
  refine aw_aload0 (pc := 13) F dX8_share_13 ?_
  refine aw_getR (pc := 14) F dX8_share_14 fl_8_34 rfl (by first | decide | (simp only [inB, cnt, rcnt]; omega)) rfl nz4 rfl ?_
  refine aw_pcallV0 (pc := 17) F dX8_share_17 ml_8_171 rfl (by first | decide | (simp only [inB, cnt, rcnt]; omega)) (ct5_sumWeights _ _ S _ (by decide) hR h) (Nat.le_of_ble_eq_true rfl) (by decide) (by decide) ?_
  refine aw_istore3 (pc := 20) F dX8_share_20 rfl hk.symm ?_
  refine aw_iload3 (pc := 21) F dX8_share_21 ?_
  refine aw_if_gt (tgt := 27) (pc := 22) F dX8_share_22 (by decide) (by first | assumption | (unfold inR; omega) | (rw [es']; unfold inR; omega)) (fun c22 => ?_) (fun c22 => ?_)
  · refine aw_iload2 (pc := 27) F dX8_share_27 ?_
    refine aw_istore4 (pc := 28) F dX8_share_28 rfl hk.symm ?_
    refine aw_iconst (pc := 30) F dX8_share_30 ?_
    refine aw_istore5 (pc := 31) F dX8_share_31 rfl hk.symm ?_
    refine aw_iload2 (pc := 33) F dX8_share_33 ?_
    refine aw_aload0 (pc := 34) F dX8_share_34 ?_
    refine aw_getR (pc := 35) F dX8_share_35 fl_8_34 rfl (by first | decide | (simp only [inB, cnt, rcnt]; omega)) rfl nz4 rfl ?_
    refine aw_getR (pc := 38) F dX8_share_38 fl_8_141 rfl (by first | decide | (simp only [inB, cnt, rcnt]; omega)) rfl nz8 rfl ?_
    refine aw_iload1 (pc := 41) F dX8_share_41 ?_
    refine aw_iald (pc := 42) F dX8_share_42 rfl (by first | decide | (simp only [inB, cnt, rcnt]; omega)) (by omega) ?_
    refine aw_imul (pc := 43) F dX8_share_43 ?_
    refine aw_iload3 (pc := 44) F dX8_share_44 ?_
    refine aw_irem (pc := 45) F dX8_share_45 (by first | assumption | (unfold inR; omega) | (rw [es']; unfold inR; omega)) (by first | assumption | (unfold inR; omega) | (rw [es']; unfold inR; omega)) (by omega) (by omega) ?_
    refine aw_istore6 (pc := 46) F dX8_share_46 rfl hk.symm ?_
    refine aw_iconst (pc := 48) F dX8_share_48 ?_
    refine aw_istore7 (pc := 49) F dX8_share_49 rfl hk.symm ?_
    have g := key ⟨q1, q2⟩ ⟨q3, q4⟩ (by omega) (S 20).toNat 0 aX aX (by omega) rfl rfl
    rw [es', ← hQ]
    exact g
  · refine aw_iconst (pc := 25) F dX8_share_25 ?_
    exact aw_xiret (pc := 26) F dX8_share_26 rfl (by decide) ⟨by unfold shS; rw [if_pos (by omega)], rfl, ⟨q1, q2⟩, q3, q4⟩
