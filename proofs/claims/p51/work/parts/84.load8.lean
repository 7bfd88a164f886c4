/-! 84: the class reads a text -/
section
variable {X : Cx} {K : Kx} {cc : ByteArray} {own : String} {ret : Option FieldType} {d U pc u : Nat} {lv st : List AV} {M : Id4 → Int → Int} {Rf : Id4 → Int → Option Id4} {Q : State → Prop} {tb : Bool}
theorem aw_alen (F : Fx X K cc own ret d U tb) {q : Id4} {e n : Nat} (hd : decode cc pc = .ok (.arraylength, 1)) (hk : kd q = .inr (e, n)) (he : e ≤ 3) (hm : inB q) (k : AW X K (pc + 1) lv (aI n :: st) (M, Rf) u Q) : AW X K pc lv (aR q :: st) (M, Rf) u Q := by
  obtain ⟨p, l, e9, R, s, m, args, below, meth, c⟩ := X
  obtain ⟨g, cy, A, nL, ρ, L⟩ := K
  obtain ⟨hx, hb, hml, hown, hts, hK, hnd, hD, hA, hlk, hret, hR, htr, hZ, hE⟩ := F
  obtain ⟨hE1, rfl⟩ := hE
  intro H locs ls hP hS hl
  obtain ⟨j, hj, hj2⟩ := ws_at (ρ := ρ) (cy := cy) (σ := (M, Rf)) (memL (by rw [hk]; intro z; cases z) hm)
  rw [ent_arr hk he] at hj2
  exact va_alen hx hb hK hP j e hj2 (ty := eT e) (by have : e = 0 ∨ e = 1 ∨ e = 2 ∨ e = 3 := by { omega }; rcases this with rfl | rfl | rfl | rfl <;> rfl) rfl hd (k H locs ls hP hS hl)
end
theorem bind_assoc {r : PR} {f g : (Int → Int) → Int → PR} : bindP (bindP r f) g = bindP r (fun S i => bindP (f S i) g) := by
  by_cases z : r.1 = 0
  · rw [bind_good z, bind_good z]
  · rw [bind_bad z, bind_bad z, bind_bad z]
theorem kd_lt {B : Int → Int} {n j : Int} (h : ¬ kdT B n j = 0) : j < n := by
  have a := (rn_at (p := isWs) (B := B) (n := n) (i := j)).1
  by_cases z : n ≤ stT B n j
  · exact absurd (tk_e z).2 h
  · unfold stT at z
    omega
theorem ct3_clear (M : Id4 → Int → Int) (b : Bool) : CtV 1 0 yX3_clear cX3_clear 1 none [aR (3, 1, 0, 0)] (M, R0 b) (fun σ' => σ' = (updM M (3, 1, 0, 0) 2 0, R0 b)) := by
  refine CtV.mk (by decide +kernel) rfl (Nat.le_of_ble_eq_true rfl) (fun X K F hk => ?_)
  refine aw_aload0 (pc := 0) F dX3_clear_0 ?_
  refine aw_iconst (pc := 1) F dX3_clear_1 ?_
  refine aw_putI (pc := 2) F dX3_clear_2 fl_3_20 fpi_3_2 rfl (by first | decide | (simp only [inB, cnt, rcnt]; omega)) rfl nz2 ?_
  exact aw_vret (pc := 5) F dX3_clear_5 (Nat.zero_le _) rfl
theorem ct6_accepts (M : Id4 → Int → Int) (b : Bool) (B S : Int → Int) (n : Int) (hB : BC B M) (hy : BY B) (hn : 0 ≤ n ∧ n ≤ 500) : CtI 7 0 yX6_accepts cX6_accepts 5 (some .boolean) [aR (6, 0, 0, 0), aR (8, 0, 1, 0), aI n] (M, R0 b) (fun v σ' => ∃ M', σ' = (M', R0 true) ∧ chRd M M' ∧ (((prsP B S n).1 = 0 ∧ v = 1 ∧ plR M' 2 (prsP B S n).2.2.1 ∧ NmR M' 1 ((prsP B S n).2.2.1 1) (prsP B S n).2.2.1 ∧ M' (6, 0, 0, 0) 2 = 0 ∧ M' (6, 0, 0, 0) 3 = -1) ∨ (¬ (prsP B S n).1 = 0 ∧ v = 0 ∧ M' (6, 0, 0, 0) 2 = (prsP B S n).1 ∧ M' (6, 0, 0, 0) 3 = (prsP B S n).2.1))) := by
  refine CtI.mk (by decide +kernel) rfl (Nat.le_of_ble_eq_true rfl) (fun X K F hk => ?_)
  obtain ⟨Q9, hQ⟩ : ∃ Q9, Q9 = EI X K 0 (fun v σ' => ∃ M', σ' = (M', R0 true) ∧ chRd M M' ∧ (((prsP B S n).1 = 0 ∧ v = 1 ∧ plR M' 2 (prsP B S n).2.2.1 ∧ NmR M' 1 ((prsP B S n).2.2.1 1) (prsP B S n).2.2.1 ∧ M' (6, 0, 0, 0) 2 = 0 ∧ M' (6, 0, 0, 0) 3 = -1) ∨ (¬ (prsP B S n).1 = 0 ∧ v = 0 ∧ M' (6, 0, 0, 0) 2 = (prsP B S n).1 ∧ M' (6, 0, 0, 0) 3 = (prsP B S n).2.1))) := ⟨_, rfl⟩
  have bad : ∀ (M' : Id4 → Int → Int) (k : Int), inR k → chRd M M' → ¬ (prsP B S n).1 = 0 → M' (6, 0, 0, 0) 2 = (prsP B S n).1 → M' (6, 0, 0, 0) 3 = (prsP B S n).2.1 → AW X K 73 [aR (6, 0, 0, 0), aR (8, 0, 1, 0), aI n, aI 0, aI k] [] (M', R0 true) 0 Q9 := by
    intro M' k hk9 a1 a2 a3 a4
    refine aw_iload4 (pc := 73) F dX6_accepts_73 ?_
    refine aw_sipush (pc := 75) F dX6_accepts_75 (by decide) ?_
    refine aw_icmp_ge (tgt := 122) (pc := 78) F dX6_accepts_78 (by decide) (by first | assumption | (unfold inR; decide)) (by first | assumption | (unfold inR; decide)) (fun c78 => ?_) (fun c78 => ?_)
    · refine aw_iload3 (pc := 122) F dX6_accepts_122 ?_
      rw [hQ]
      exact aw_iret (pc := 123) F dX6_accepts_123 (nar_bool (by first | exact b2i_01 | decide)) (Nat.zero_le _) ⟨M', rfl, a1, Or.inr ⟨a2, rfl, a3, a4⟩⟩
    · refine aw_iload3 (pc := 81) F dX6_accepts_81 ?_
      refine aw_if_eq (tgt := 122) (pc := 82) F dX6_accepts_82 (by decide) (by first | assumption | (unfold inR; decide)) (fun c82 => ?_) (fun c82 => ?_)
      · refine aw_iload3 (pc := 122) F dX6_accepts_122 ?_
        rw [hQ]
        exact aw_iret (pc := 123) F dX6_accepts_123 (nar_bool (by first | exact b2i_01 | decide)) (Nat.zero_le _) ⟨M', rfl, a1, Or.inr ⟨a2, rfl, a3, a4⟩⟩
      · omega
  have good : ∀ (M' : Id4 → Int → Int) (k : Int), inR k → chRd M M' → (prsP B S n).1 = 0 → plR M' 2 (prsP B S n).2.2.1 → NmR M' 1 ((prsP B S n).2.2.1 1) (prsP B S n).2.2.1 → M' (6, 0, 0, 0) 2 = 0 → M' (6, 0, 0, 0) 3 = -1 → M' (6, 0, 0, 0) 6 = 0 → AW X K 73 [aR (6, 0, 0, 0), aR (8, 0, 1, 0), aI n, aI 1, aI k] [] (M', R0 true) 0 Q9 := by
    intro M' k hk9 a1 a2 a3 a4 a5 a6 a7
    refine aw_iload4 (pc := 73) F dX6_accepts_73 ?_
    refine aw_sipush (pc := 75) F dX6_accepts_75 (by decide) ?_
    refine aw_icmp_ge (tgt := 122) (pc := 78) F dX6_accepts_78 (by decide) (by first | assumption | (rw [a7]; unfold inR; decide) | (unfold inR; decide)) (by first | assumption | (rw [a7]; unfold inR; decide) | (unfold inR; decide)) (fun c78 => ?_) (fun c78 => ?_)
    · refine aw_iload3 (pc := 122) F dX6_accepts_122 ?_
      rw [hQ]
      exact aw_iret (pc := 123) F dX6_accepts_123 (nar_bool (by first | exact b2i_01 | decide)) (Nat.zero_le _) ⟨M', rfl, a1, Or.inl ⟨a2, rfl, a3, a4, a5, a6⟩⟩
    · refine aw_iload3 (pc := 81) F dX6_accepts_81 ?_
      refine aw_if_eq (tgt := 122) (pc := 82) F dX6_accepts_82 (by decide) (by first | assumption | (rw [a7]; unfold inR; decide) | (unfold inR; decide)) (fun c82 => ?_) (fun c82 => ?_)
      · omega
      · refine aw_aload0 (pc := 85) F dX6_accepts_85 ?_
        refine aw_getI (pc := 86) F dX6_accepts_86 fl_6_39 rfl (by first | decide | (simp only [inB, cnt, rcnt]; omega)) rfl nz6 ?_
        refine aw_if_eq (tgt := 122) (pc := 89) F dX6_accepts_89 (by decide) (by first | assumption | (rw [a7]; unfold inR; decide) | (unfold inR; decide)) (fun c89 => ?_) (fun c89 => ?_)
        · refine aw_iload3 (pc := 122) F dX6_accepts_122 ?_
          rw [hQ]
          exact aw_iret (pc := 123) F dX6_accepts_123 (nar_bool (by first | exact b2i_01 | decide)) (Nat.zero_le _) ⟨M', rfl, a1, Or.inl ⟨a2, rfl, a3, a4, a5, a6⟩⟩
        · omega
  have loop : ∀ (f k : Nat) (S' : Int → Int) (i : Int) (M' : Id4 → Int → Int), k + f = 500 → n - i < (f : Int) → TX B n i → CSx B n S' i M' → Ok S' → NB S' → M' (6, 0, 0, 0) 6 = 4 → chRd M M' → M' (6, 0, 0, 0) 2 = 0 → M' (6, 0, 0, 0) 3 = -1 → prsP B S n = stsP B n f S' i → AW X K 73 [aR (6, 0, 0, 0), aR (8, 0, 1, 0), aI n, aI 1, aI k] [] (M', R0 true) 0 Q9 := by
    intro f
    induction f with
    | zero =>
      intro k S' i M' hk9 hf hx
      have := hx.2.2.2
      omega
    | succ f ih =>
      intro k S' i M' hk9 hf hx hC hO hN h64 a1 a2 a3 a4
      have es : stsP B n (f + 1) S' i = if kdT B n i = 0 then goodP S' i else bindP (stP1 B n S' i) (fun S1 i1 => bindP (closP B n S1 i1) (fun S2 i2 => stsP B n f S2 i2)) := rfl
      refine aw_iload4 (pc := 73) F dX6_accepts_73 ?_
      refine aw_sipush (pc := 75) F dX6_accepts_75 (by decide) ?_
      refine aw_icmp_ge (tgt := 122) (pc := 78) F dX6_accepts_78 (by decide) (by unfold inR; omega) (by unfold inR; omega) (fun c78 => ?_) (fun c78 => ?_)
      · omega
      · refine aw_iload3 (pc := 81) F dX6_accepts_81 ?_
        refine aw_if_eq (tgt := 122) (pc := 82) F dX6_accepts_82 (by decide) (by unfold inR; decide) (fun c82 => ?_) (fun c82 => ?_)
        · omega
        · refine aw_aload0 (pc := 85) F dX6_accepts_85 ?_
          refine aw_getI (pc := 86) F dX6_accepts_86 fl_6_39 rfl (by first | decide | (simp only [inB, cnt, rcnt]; omega)) rfl nz6 ?_
          refine aw_if_eq (tgt := 122) (pc := 89) F dX6_accepts_89 (by decide) (by rw [h64]; unfold inR; decide) (fun c89 => ?_) (fun c89 => ?_)
          · omega
          · rw [es] at a4
            refine aw_aload0 (pc := 92) F dX6_accepts_92 ?_
            refine aw_callVV0 (pc := 93) F dX6_accepts_93 ml_6_64 rfl (by first | decide | (simp only [inB, cnt, rcnt]; omega)) (ct6_nextToken _ B n i hC.1 hx hC.2.1 hC.2.2.2.2) (Nat.le_of_ble_eq_true rfl) (by decide) (Nat.zero_le _) (fun σ9 h9_93 => ?_)
            obtain ⟨M2, rfl, c1, c2⟩ := h9_93
            refine aw_aload0 (pc := 96) F dX6_accepts_96 ?_
            refine aw_getI (pc := 97) F dX6_accepts_97 fl_6_39 rfl (by first | decide | (simp only [inB, cnt, rcnt]; omega)) rfl nz6 ?_
            refine aw_if_eq (tgt := 110) (pc := 100) F dX6_accepts_100 (by decide) c2.bd (fun c100 => ?_) (fun c100 => ?_)
            · refine aw_iconst (pc := 110) F dX6_accepts_110 ?_
              refine aw_goto (tgt := 115) (pc := 111) F dX6_accepts_111 (by decide) ?_
              refine aw_istore3 (pc := 115) F dX6_accepts_115 rfl hk.symm ?_
              refine aw_iinc4 (pc := 116) F dX6_accepts_116 rfl hk.symm ?_
              refine aw_goto (tgt := 73) (pc := 119) F dX6_accepts_119 (by decide) ?_
              first
              | (have k0 : kdT B n i = 0 := by have := c2.2.2.1; omega
                 rw [if_pos k0] at a4
                 refine good M2 ((k : Int) + 1) (by unfold inR; omega) (a1.tr c1.z.w) (by rw [a4]; rfl) ?_ ?_ ((c1 _ _ (by decide)).trans a2) ((c1 _ _ (by decide)).trans a3) (c2.2.2.1.trans k0)
                 · rw [a4]; exact c1.z.pl hC.2.2.1
                 · rw [a4]; exact c1.z.nm hC.2.2.2.1)
              | (rw [if_neg kd0, ← bind_assoc] at a4
                 have v1 : v9 = 1 := (rc_01 h9).resolve_left c107
                 obtain ⟨M3, rfl, d1, d2⟩ := h9
                 obtain ⟨q1, q2, q3, q4, q5, q6, q7⟩ := d2.resolve_right (fun z => by have := z.2.1; omega)
                 rw [bind_good q1] at a4
                 have g1 := bind_0 q1
                 have iv := stP1_inv hx hO hN g1
                 rw [bind_good g1] at q1 q3 q4 a4
                 have xj : TX B n (stP1 B n S' i).2.2.2 := hx.at iv.2.2 (by have := kd_lt (B := B) (n := n) (j := (stP1 B n S' i).2.2.2) (by have := (closP_good q1).2; omega); omega)
                 obtain ⟨ce, cg1, cg2⟩ := closP_ex xj q1
                 rw [ce] at q3 q4 a4
                 exact ih (k + 1) _ _ M3 (by omega) (by dsimp only [goodP]; have := iv.2.2; omega) q4 q3 iv.1 iv.2.1 q5 ((a1.tr c1.z.w).tr d1) (q6.trans ((c1 _ _ (by decide)).trans a2)) (q7.trans ((c1 _ _ (by decide)).trans a3)) a4)
              | (rw [if_neg kd0, ← bind_assoc] at a4
                 obtain ⟨M3, rfl, d1, d2⟩ := h9
                 obtain ⟨q1, q2, q3, q4⟩ := d2.resolve_left (fun z => by have := z.2.1; omega)
                 rw [bind_bad q1] at a4
                 exact bad M3 ((k : Int) + 1) (by unfold inR; omega) ((a1.tr c1.z.w).tr d1) (by rw [a4]; exact q1) (by rw [a4]; exact q3) (by rw [a4]; exact q4))
            · have hC2 : CSx B n S' (nxT B n i) M2 := ⟨hC.1.y c1, c1.n.trans hC.2.1, c1.z.pl hC.2.2.1, c1.z.nm hC.2.2.2.1, c2.2.1⟩
              have kd0 : ¬ kdT B n i = 0 := by have := c2.2.2.1; omega
              refine aw_aload0 (pc := 103) F dX6_accepts_103 ?_
              refine aw_callVI0 (pc := 104) F dX6_accepts_104 ml_6_71 rfl (by first | decide | (simp only [inB, cnt, rcnt]; omega)) (ct6_readStatement _ B S' n i hx c2 hC2 hO) (Nat.le_of_ble_eq_true rfl) (by decide) (Nat.zero_le _) (fun v9 σ9 h9 => ?_)
              refine aw_if_eq (tgt := 114) (pc := 107) F dX6_accepts_107 (by decide) (by rcases rc_01 h9 with z | z <;> rw [z] <;> (unfold inR; decide)) (fun c107 => ?_) (fun c107 => ?_)
              · refine aw_iconst (pc := 114) F dX6_accepts_114 ?_
                refine aw_istore3 (pc := 115) F dX6_accepts_115 rfl hk.symm ?_
                refine aw_iinc4 (pc := 116) F dX6_accepts_116 rfl hk.symm ?_
                refine aw_goto (tgt := 73) (pc := 119) F dX6_accepts_119 (by decide) ?_
                first
                | (have k0 : kdT B n i = 0 := by have := c2.2.2.1; omega
                   rw [if_pos k0] at a4
                   refine good M2 ((k : Int) + 1) (by unfold inR; omega) (a1.tr c1.z.w) (by rw [a4]; rfl) ?_ ?_ ((c1 _ _ (by decide)).trans a2) ((c1 _ _ (by decide)).trans a3) (c2.2.2.1.trans k0)
                   · rw [a4]; exact c1.z.pl hC.2.2.1
                   · rw [a4]; exact c1.z.nm hC.2.2.2.1)
                | (rw [if_neg kd0, ← bind_assoc] at a4
                   have v1 : v9 = 1 := (rc_01 h9).resolve_left c107
                   obtain ⟨M3, rfl, d1, d2⟩ := h9
                   obtain ⟨q1, q2, q3, q4, q5, q6, q7⟩ := d2.resolve_right (fun z => by have := z.2.1; omega)
                   rw [bind_good q1] at a4
                   have g1 := bind_0 q1
                   have iv := stP1_inv hx hO hN g1
                   rw [bind_good g1] at q1 q3 q4 a4
                   have xj : TX B n (stP1 B n S' i).2.2.2 := hx.at iv.2.2 (by have := kd_lt (B := B) (n := n) (j := (stP1 B n S' i).2.2.2) (by have := (closP_good q1).2; omega); omega)
                   obtain ⟨ce, cg1, cg2⟩ := closP_ex xj q1
                   rw [ce] at q3 q4 a4
                   exact ih (k + 1) _ _ M3 (by omega) (by dsimp only [goodP]; have := iv.2.2; omega) q4 q3 iv.1 iv.2.1 q5 ((a1.tr c1.z.w).tr d1) (q6.trans ((c1 _ _ (by decide)).trans a2)) (q7.trans ((c1 _ _ (by decide)).trans a3)) a4)
                | (rw [if_neg kd0, ← bind_assoc] at a4
                   obtain ⟨M3, rfl, d1, d2⟩ := h9
                   obtain ⟨q1, q2, q3, q4⟩ := d2.resolve_left (fun z => by have := z.2.1; omega)
                   rw [bind_bad q1] at a4
                   exact bad M3 ((k : Int) + 1) (by unfold inR; omega) ((a1.tr c1.z.w).tr d1) (by rw [a4]; exact q1) (by rw [a4]; exact q3) (by rw [a4]; exact q4))
              · refine aw_iconst (pc := 110) F dX6_accepts_110 ?_
                refine aw_goto (tgt := 115) (pc := 111) F dX6_accepts_111 (by decide) ?_
                refine aw_istore3 (pc := 115) F dX6_accepts_115 rfl hk.symm ?_
                refine aw_iinc4 (pc := 116) F dX6_accepts_116 rfl hk.symm ?_
                refine aw_goto (tgt := 73) (pc := 119) F dX6_accepts_119 (by decide) ?_
                first
                | (have k0 : kdT B n i = 0 := by have := c2.2.2.1; omega
                   rw [if_pos k0] at a4
                   refine good M2 ((k : Int) + 1) (by unfold inR; omega) (a1.tr c1.z.w) (by rw [a4]; rfl) ?_ ?_ ((c1 _ _ (by decide)).trans a2) ((c1 _ _ (by decide)).trans a3) (c2.2.2.1.trans k0)
                   · rw [a4]; exact c1.z.pl hC.2.2.1
                   · rw [a4]; exact c1.z.nm hC.2.2.2.1)
                | (rw [if_neg kd0, ← bind_assoc] at a4
                   have v1 : v9 = 1 := (rc_01 h9).resolve_left c107
                   obtain ⟨M3, rfl, d1, d2⟩ := h9
                   obtain ⟨q1, q2, q3, q4, q5, q6, q7⟩ := d2.resolve_right (fun z => by have := z.2.1; omega)
                   rw [bind_good q1] at a4
                   have g1 := bind_0 q1
                   have iv := stP1_inv hx hO hN g1
                   rw [bind_good g1] at q1 q3 q4 a4
                   have xj : TX B n (stP1 B n S' i).2.2.2 := hx.at iv.2.2 (by have := kd_lt (B := B) (n := n) (j := (stP1 B n S' i).2.2.2) (by have := (closP_good q1).2; omega); omega)
                   obtain ⟨ce, cg1, cg2⟩ := closP_ex xj q1
                   rw [ce] at q3 q4 a4
                   exact ih (k + 1) _ _ M3 (by omega) (by dsimp only [goodP]; have := iv.2.2; omega) q4 q3 iv.1 iv.2.1 q5 ((a1.tr c1.z.w).tr d1) (q6.trans ((c1 _ _ (by decide)).trans a2)) (q7.trans ((c1 _ _ (by decide)).trans a3)) a4)
                | (rw [if_neg kd0, ← bind_assoc] at a4
                   obtain ⟨M3, rfl, d1, d2⟩ := h9
                   obtain ⟨q1, q2, q3, q4⟩ := d2.resolve_left (fun z => by have := z.2.1; omega)
                   rw [bind_bad q1] at a4
                   exact bad M3 ((k : Int) + 1) (by unfold inR; omega) ((a1.tr c1.z.w).tr d1) (by rw [a4]; exact q1) (by rw [a4]; exact q3) (by rw [a4]; exact q4))
  obtain ⟨Ma, hMa⟩ : ∃ Ma, Ma = updM (updM (updM (updM (updM M (6, 0, 0, 0) 5 n) (6, 0, 0, 0) 8 0) (6, 0, 0, 0) 2 0) (6, 0, 0, 0) 3 (-1)) (3, 1, 0, 0) 2 0 := ⟨_, rfl⟩
  have ra : chRd M Ma := by
    refine ⟨fun q z => ?_, fun z e k e0 e1 k0 k1 => by rw [hMa, upd_off (by simp), upd_off (by simp), upd_off (by simp), upd_off (by simp), upd_off (by simp)]; exact z e k e0 e1 k0 k1⟩
    have z6 : q ≠ (6, 0, 0, 0) := fun y => z (Or.inl (by rw [y]))
    have z3 : q ≠ (3, 1, 0, 0) := fun y => z (Or.inr (Or.inl (by rw [y]; exact ⟨rfl, rfl⟩)))
    rw [hMa, upd_off z3, upd_off z6, upd_off z6, upd_off z6, upd_off z6]
  have o3 : ∀ k, Ma (6, 0, 0, 0) k = updM (updM (updM (updM M (6, 0, 0, 0) 5 n) (6, 0, 0, 0) 8 0) (6, 0, 0, 0) 2 0) (6, 0, 0, 0) 3 (-1) (6, 0, 0, 0) k := fun k => by rw [hMa, upd_ne (Or.inl (by decide))]
  have f5 : Ma (6, 0, 0, 0) 5 = n := by rw [o3, upd_ne (Or.inr (by decide)), upd_ne (Or.inr (by decide)), upd_ne (Or.inr (by decide)), upd_same]
  have f8 : Ma (6, 0, 0, 0) 8 = 0 := by rw [o3, upd_ne (Or.inr (by decide)), upd_ne (Or.inr (by decide)), upd_same]
  have f2 : Ma (6, 0, 0, 0) 2 = 0 := by rw [o3, upd_ne (Or.inr (by decide)), upd_same]
  have f3 : Ma (6, 0, 0, 0) 3 = -1 := by rw [o3, upd_same]
  have fc : Ma (3, 1, 0, 0) 2 = 0 := by rw [hMa, upd_same]
  have tx0 : TX B n 0 := ⟨hy, hn, Int.le_refl _, hn.1⟩
  have r1 : row0 S 1 = 0 := if_pos ⟨by decide, by decide⟩
  have r20 : row0 S 20 = 0 := if_pos ⟨by decide, by decide⟩
  have r0 : row0 S 0 = 12 := if_pos ⟨by decide, by decide⟩
  refine aw_aload0 (pc := 0) F dX6_accepts_0 ?_
  refine aw_aload1 (pc := 1) F dX6_accepts_1 ?_
  refine aw_putText (pc := 2) F dX6_accepts_2 fl_6_32 ?_
  refine aw_aload0 (pc := 5) F dX6_accepts_5 ?_
  refine aw_iload2 (pc := 6) F dX6_accepts_6 ?_
  refine aw_aload1 (pc := 7) F dX6_accepts_7 ?_
  refine aw_alen (pc := 8) F dX6_accepts_8 rfl (by decide) (by first | decide | (simp only [inB, cnt, rcnt]; omega)) ?_
  refine aw_pcallS2 (pc := 9) F dX6_accepts_9 ml_6_51 (ctJ_min _ _ _ _ (by unfold inR; omega) (by unfold inR; omega)) (Nat.le_of_ble_eq_true rfl) (by decide) (Nat.zero_le _) ?_
  rw [show min n ((500 : Nat) : Int) = n by omega]
  refine aw_putI (pc := 12) F dX6_accepts_12 fl_6_36 fpi_6_5 rfl (by first | decide | (simp only [inB, cnt, rcnt]; omega)) rfl nz5 ?_
  refine aw_aload0 (pc := 15) F dX6_accepts_15 ?_
  refine aw_iconst (pc := 16) F dX6_accepts_16 ?_
  refine aw_putI (pc := 17) F dX6_accepts_17 fl_6_45 fpi_6_8 rfl (by first | decide | (simp only [inB, cnt, rcnt]; omega)) rfl nz8 ?_
  refine aw_aload0 (pc := 20) F dX6_accepts_20 ?_
  refine aw_iconst (pc := 21) F dX6_accepts_21 ?_
  refine aw_putI (pc := 22) F dX6_accepts_22 fl_6_25 fpi_6_2 rfl (by first | decide | (simp only [inB, cnt, rcnt]; omega)) rfl nz2 ?_
  refine aw_aload0 (pc := 25) F dX6_accepts_25 ?_
  refine aw_iconst (pc := 26) F dX6_accepts_26 ?_
  refine aw_putI (pc := 27) F dX6_accepts_27 fl_6_29 fpi_6_3 rfl (by first | decide | (simp only [inB, cnt, rcnt]; omega)) rfl nz3 ?_
  refine aw_aload0 (pc := 30) F dX6_accepts_30 ?_
  refine aw_getR (pc := 31) F dX6_accepts_31 fl_6_21 rfl (by first | decide | (simp only [inB, cnt, rcnt]; omega)) rfl nz1 rfl ?_
  refine aw_callVV0 (pc := 34) F dX6_accepts_34 ml_6_57 rfl (by first | decide | (simp only [inB, cnt, rcnt]; omega)) (ct3_clear _ _) (Nat.le_of_ble_eq_true rfl) (by decide) (Nat.zero_le _) (fun σ9 h9_34 => ?_)
  obtain rfl := h9_34
  rw [← hMa]
  refine aw_aload0 (pc := 37) F dX6_accepts_37 ?_
  refine aw_getR (pc := 38) F dX6_accepts_38 fl_6_12 rfl (by first | decide | (simp only [inB, cnt, rcnt]; omega)) rfl nz0 rfl ?_
  refine aw_bipush (pc := 41) F dX6_accepts_41 (by decide) ?_
  refine aw_callVV1 (pc := 43) F dX6_accepts_43 ml_6_60 rfl (by first | decide | (simp only [inB, cnt, rcnt]; omega)) (ct5_startWith _ _ _) (Nat.le_of_ble_eq_true rfl) (by decide) (Nat.zero_le _) (fun σ8 h9_43 => ?_)
  obtain ⟨M1, rfl, d1, d2⟩ := h9_43
  have o1 : ∀ k, M1 (6, 0, 0, 0) k = Ma (6, 0, 0, 0) k := fun k => by rw [d1 _ (by simp)]
  have hR1 := d2 (row0 S) r0 r1 r20
  have hB1 := (hB.w ra).w d1.w
  have hc1 : M1 (3, 1, 0, 0) 2 = 0 := by rw [d1 _ (by simp)]; exact fc
  refine aw_aload0 (pc := 46) F dX6_accepts_46 ?_
  refine aw_callVV0 (pc := 47) F dX6_accepts_47 ml_6_64 rfl (by first | decide | (simp only [inB, cnt, rcnt]; omega)) (ct6_nextToken _ B n 0 hB1 tx0 ((o1 5).trans f5) ((o1 8).trans f8)) (Nat.le_of_ble_eq_true rfl) (by decide) (Nat.zero_le _) (fun σ7 h9_47 => ?_)
  obtain ⟨M2, rfl, c1, c2⟩ := h9_47
  refine aw_aload0 (pc := 50) F dX6_accepts_50 ?_
  refine aw_getI (pc := 51) F dX6_accepts_51 fl_6_39 rfl (by first | decide | (simp only [inB, cnt, rcnt]; omega)) rfl nz6 ?_
  refine aw_if_eq (tgt := 64) (pc := 54) F dX6_accepts_54 (by decide) c2.bd (fun c54 => ?_) (fun c54 => ?_)
  · refine aw_iconst (pc := 64) F dX6_accepts_64 ?_
    refine aw_goto (tgt := 69) (pc := 65) F dX6_accepts_65 (by decide) ?_
    refine aw_istore3 (pc := 69) F dX6_accepts_69 rfl hk.symm ?_
    refine aw_iconst (pc := 70) F dX6_accepts_70 ?_
    refine aw_istore4 (pc := 71) F dX6_accepts_71 rfl hk.symm ?_
    rw [← hQ]
    have w2 : chRd M M2 := (ra.tr d1.w).tr c1.z.w
    have g2 : M2 (6, 0, 0, 0) 2 = 0 := (c1 _ _ (by decide)).trans ((o1 2).trans f2)
    have g3 : M2 (6, 0, 0, 0) 3 = -1 := (c1 _ _ (by decide)).trans ((o1 3).trans f3)
    first
    | (have k0 : kdT B n 0 = 0 := by have := c2.2.2.1; omega
       have ep : prsP B S n = goodP (row0 S) 0 := if_pos k0
       refine good M2 0 (by unfold inR; decide) w2 (by rw [ep]; rfl) ?_ ?_ g2 g3 (c2.2.2.1.trans k0)
       · rw [ep]; exact c1.z.pl hR1
       · rw [ep]
         show NmR M2 1 (row0 S 1) (row0 S)
         rw [r1]
         exact ⟨by rw [c1.off (by decide)]; exact hc1, fun e e0 e1 => absurd e1 (by omega)⟩)
    | (have ep : prsP B S n = bindP (bindP (perP B n (row0 S) 0) (closP B n)) (fun S i => stsP B n 500 S i) := if_neg (by have := c2.2.2.1; omega)
       have v1 : v9 = 1 := (rc_01 h9).resolve_left c61
       obtain ⟨M3, rfl, e1, e2⟩ := h9
       obtain ⟨q1, q2, q3, q4, q5, q6, q7⟩ := e2.resolve_right (fun z => by have := z.2.1; omega)
       rw [bind_good q1] at ep
       have p1 := bind_0 q1
       have iv := perP_inv tx0 row0_ok.1 row0_ok.2 r1 r20 p1
       rw [bind_good p1] at q1 q3 q4 ep
       have xj : TX B n (perP B n (row0 S) 0).2.2.2 := tx0.at iv.2.2.1 iv.2.2.2
       obtain ⟨ce, cg1, cg2⟩ := closP_ex xj q1
       rw [ce] at q3 q4 ep
       exact loop 500 0 _ _ M3 rfl (by dsimp only [goodP]; have := iv.2.2.1; omega) q4 q3 iv.1 iv.2.1 q5 (w2.tr e1) (q6.trans g2) (q7.trans g3) ep)
    | (have ep : prsP B S n = bindP (bindP (perP B n (row0 S) 0) (closP B n)) (fun S i => stsP B n 500 S i) := if_neg (by have := c2.2.2.1; omega)
       obtain ⟨M3, rfl, e1, e2⟩ := h9
       obtain ⟨q1, q2, q3, q4⟩ := e2.resolve_left (fun z => by have := z.2.1; omega)
       rw [bind_bad q1] at ep
       exact bad M3 0 (by unfold inR; decide) (w2.tr e1) (by rw [ep]; exact q1) (by rw [ep]; exact q3) (by rw [ep]; exact q4))
  · refine aw_aload0 (pc := 57) F dX6_accepts_57 ?_
    refine aw_callVI0 (pc := 58) F dX6_accepts_58 ml_6_67 rfl (by first | decide | (simp only [inB, cnt, rcnt]; omega)) (ct6_readPeriod _ B (row0 S) n 0 tx0 (hB1.y c1) (c1.n.trans ((o1 5).trans f5)) c2 (by rw [c1.off (by decide)]; exact hc1) r1 r20) (Nat.le_of_ble_eq_true rfl) (by decide) (Nat.zero_le _) (fun v9 σ9 h9 => ?_)
    refine aw_if_eq (tgt := 68) (pc := 61) F dX6_accepts_61 (by decide) (by rcases rc_01 h9 with z | z <;> rw [z] <;> (unfold inR; decide)) (fun c61 => ?_) (fun c61 => ?_)
    · refine aw_iconst (pc := 68) F dX6_accepts_68 ?_
      refine aw_istore3 (pc := 69) F dX6_accepts_69 rfl hk.symm ?_
      refine aw_iconst (pc := 70) F dX6_accepts_70 ?_
      refine aw_istore4 (pc := 71) F dX6_accepts_71 rfl hk.symm ?_
      rw [← hQ]
      have w2 : chRd M M2 := (ra.tr d1.w).tr c1.z.w
      have g2 : M2 (6, 0, 0, 0) 2 = 0 := (c1 _ _ (by decide)).trans ((o1 2).trans f2)
      have g3 : M2 (6, 0, 0, 0) 3 = -1 := (c1 _ _ (by decide)).trans ((o1 3).trans f3)
      first
      | (have k0 : kdT B n 0 = 0 := by have := c2.2.2.1; omega
         have ep : prsP B S n = goodP (row0 S) 0 := if_pos k0
         refine good M2 0 (by unfold inR; decide) w2 (by rw [ep]; rfl) ?_ ?_ g2 g3 (c2.2.2.1.trans k0)
         · rw [ep]; exact c1.z.pl hR1
         · rw [ep]
           show NmR M2 1 (row0 S 1) (row0 S)
           rw [r1]
           exact ⟨by rw [c1.off (by decide)]; exact hc1, fun e e0 e1 => absurd e1 (by omega)⟩)
      | (have ep : prsP B S n = bindP (bindP (perP B n (row0 S) 0) (closP B n)) (fun S i => stsP B n 500 S i) := if_neg (by have := c2.2.2.1; omega)
         have v1 : v9 = 1 := (rc_01 h9).resolve_left c61
         obtain ⟨M3, rfl, e1, e2⟩ := h9
         obtain ⟨q1, q2, q3, q4, q5, q6, q7⟩ := e2.resolve_right (fun z => by have := z.2.1; omega)
         rw [bind_good q1] at ep
         have p1 := bind_0 q1
         have iv := perP_inv tx0 row0_ok.1 row0_ok.2 r1 r20 p1
         rw [bind_good p1] at q1 q3 q4 ep
         have xj : TX B n (perP B n (row0 S) 0).2.2.2 := tx0.at iv.2.2.1 iv.2.2.2
         obtain ⟨ce, cg1, cg2⟩ := closP_ex xj q1
         rw [ce] at q3 q4 ep
         exact loop 500 0 _ _ M3 rfl (by dsimp only [goodP]; have := iv.2.2.1; omega) q4 q3 iv.1 iv.2.1 q5 (w2.tr e1) (q6.trans g2) (q7.trans g3) ep)
      | (have ep : prsP B S n = bindP (bindP (perP B n (row0 S) 0) (closP B n)) (fun S i => stsP B n 500 S i) := if_neg (by have := c2.2.2.1; omega)
         obtain ⟨M3, rfl, e1, e2⟩ := h9
         obtain ⟨q1, q2, q3, q4⟩ := e2.resolve_left (fun z => by have := z.2.1; omega)
         rw [bind_bad q1] at ep
         exact bad M3 0 (by unfold inR; decide) (w2.tr e1) (by rw [ep]; exact q1) (by rw [ep]; exact q3) (by rw [ep]; exact q4))
    · refine aw_iconst (pc := 64) F dX6_accepts_64 ?_
      refine aw_goto (tgt := 69) (pc := 65) F dX6_accepts_65 (by decide) ?_
      refine aw_istore3 (pc := 69) F dX6_accepts_69 rfl hk.symm ?_
      refine aw_iconst (pc := 70) F dX6_accepts_70 ?_
      refine aw_istore4 (pc := 71) F dX6_accepts_71 rfl hk.symm ?_
      rw [← hQ]
      have w2 : chRd M M2 := (ra.tr d1.w).tr c1.z.w
      have g2 : M2 (6, 0, 0, 0) 2 = 0 := (c1 _ _ (by decide)).trans ((o1 2).trans f2)
      have g3 : M2 (6, 0, 0, 0) 3 = -1 := (c1 _ _ (by decide)).trans ((o1 3).trans f3)
      first
      | (have k0 : kdT B n 0 = 0 := by have := c2.2.2.1; omega
         have ep : prsP B S n = goodP (row0 S) 0 := if_pos k0
         refine good M2 0 (by unfold inR; decide) w2 (by rw [ep]; rfl) ?_ ?_ g2 g3 (c2.2.2.1.trans k0)
         · rw [ep]; exact c1.z.pl hR1
         · rw [ep]
           show NmR M2 1 (row0 S 1) (row0 S)
           rw [r1]
           exact ⟨by rw [c1.off (by decide)]; exact hc1, fun e e0 e1 => absurd e1 (by omega)⟩)
      | (have ep : prsP B S n = bindP (bindP (perP B n (row0 S) 0) (closP B n)) (fun S i => stsP B n 500 S i) := if_neg (by have := c2.2.2.1; omega)
         have v1 : v9 = 1 := (rc_01 h9).resolve_left c61
         obtain ⟨M3, rfl, e1, e2⟩ := h9
         obtain ⟨q1, q2, q3, q4, q5, q6, q7⟩ := e2.resolve_right (fun z => by have := z.2.1; omega)
         rw [bind_good q1] at ep
         have p1 := bind_0 q1
         have iv := perP_inv tx0 row0_ok.1 row0_ok.2 r1 r20 p1
         rw [bind_good p1] at q1 q3 q4 ep
         have xj : TX B n (perP B n (row0 S) 0).2.2.2 := tx0.at iv.2.2.1 iv.2.2.2
         obtain ⟨ce, cg1, cg2⟩ := closP_ex xj q1
         rw [ce] at q3 q4 ep
         exact loop 500 0 _ _ M3 rfl (by dsimp only [goodP]; have := iv.2.2.1; omega) q4 q3 iv.1 iv.2.1 q5 (w2.tr e1) (q6.trans g2) (q7.trans g3) ep)
      | (have ep : prsP B S n = bindP (bindP (perP B n (row0 S) 0) (closP B n)) (fun S i => stsP B n 500 S i) := if_neg (by have := c2.2.2.1; omega)
         obtain ⟨M3, rfl, e1, e2⟩ := h9
         obtain ⟨q1, q2, q3, q4⟩ := e2.resolve_left (fun z => by have := z.2.1; omega)
         rw [bind_bad q1] at ep
         exact bad M3 0 (by unfold inR; decide) (w2.tr e1) (by rw [ep]; exact q1) (by rw [ep]; exact q3) (by rw [ep]; exact q4))
