/-! e8: the law's first two tests -/
def LST (S : Int → Int) (b : Bool) (L : List Id4) (σ : Hp) (c : Int) : Prop := CLd L ∧ CRx b σ.2 ∧ CC S σ.1 ∧ (9, 0, 0, 0) ∈ L ∧ WF S σ.1 ∧ σ.2 (9, 0, 0, 0) 0 = some (30, 0, 0, 0) ∧ (0 ≤ σ.1 (9, 0, 0, 0) 1 ∧ σ.1 (9, 0, 0, 0) 1 ≤ c) ∧ (σ.2 (9, 0, 0, 0) 5 = some (12, 2, 0, 0) ∧ (12, 2, 0, 0) ∈ L ∧ σ.2 (9, 0, 0, 0) 6 = some (12, 3, 0, 0) ∧ (12, 3, 0, 0) ∈ L)
theorem LST.ex {S : Int → Int} {b : Bool} {L : List Id4} {M : Id4 → Int → Int} {Rf : Id4 → Int → Option Id4} {c : Int} (h : LST S b L (M, Rf) c) : CLd L ∧ CRx b Rf ∧ CC S M ∧ (9, 0, 0, 0) ∈ L ∧ WF S M ∧ Rf (9, 0, 0, 0) 0 = some (30, 0, 0, 0) ∧ (0 ≤ M (9, 0, 0, 0) 1 ∧ M (9, 0, 0, 0) 1 ≤ c) ∧ (Rf (9, 0, 0, 0) 5 = some (12, 2, 0, 0) ∧ (12, 2, 0, 0) ∈ L ∧ Rf (9, 0, 0, 0) 6 = some (12, 3, 0, 0) ∧ (12, 3, 0, 0) ∈ L) := h
def K12 (L : List Id4) (σ σ' : Hp) : Prop := ∀ q : Id4, (q.1 ≠ 12 ∨ q ∈ L) → σ'.1 q = σ.1 q ∧ σ'.2 q = σ.2 q
theorem K12.rf {L : List Id4} {σ : Hp} : K12 L σ σ := fun _ _ => ⟨rfl, rfl⟩
theorem LST.k12 {S : Int → Int} {b : Bool} {L L' : List Id4} {σ σ' : Hp} {c : Int} (h : LST S b L σ c) (hL : LE L L') (hC : CLd L') (hk : K12 L σ σ') : LST S b L' σ' c := by
  obtain ⟨h1, h2, h3, h4, h5, h6, h7, h8, h9, h10, h11⟩ := h
  obtain ⟨w1, w2⟩ := hk (9, 0, 0, 0) (Or.inr h4)
  exact ⟨hC, fun q hq => ((hk q (Or.inl (by omega))).2).trans (h2 q hq), h3.cls (fun q hq => (hk q (Or.inl (by omega))).1), hL _ h4, h5.of w1, by rw [w2]; exact h6, by rw [w1]; exact h7, by rw [w2]; exact h8, hL _ h9, by rw [w2]; exact h10, hL _ h11⟩
theorem LST.ch {S : Int → Int} {b : Bool} {L : List Id4} {M : Id4 → Int → Int} {Rf : Id4 → Int → Option Id4} {c : Int} (h : LST S b L (M, Rf) c) : LST S b L (updM M (9, 0, 0, 0) 1 (M (9, 0, 0, 0) 1 + 1), Rf) (c + 1) := by
  obtain ⟨h1, h2, h3, h4, h5, h6, h7, h8⟩ := h
  refine ⟨h1, h2, h3.u (by decide), h4, h5.u1 (by decide), h6, ?_, h8⟩
  show 0 ≤ updM M (9, 0, 0, 0) 1 (M (9, 0, 0, 0) 1 + 1) (9, 0, 0, 0) 1 ∧ updM M (9, 0, 0, 0) 1 (M (9, 0, 0, 0) 1 + 1) (9, 0, 0, 0) 1 ≤ c + 1
  rw [upd_same]
  dsimp only at h7
  omega
/-- a call of the class, between -/
theorem LST.cc {S : Int → Int} {b : Bool} {L : List Id4} {M M' : Id4 → Int → Int} {Rf : Id4 → Int → Option Id4} {c : Int} (h : LST S b L (M, Rf) c) (hC : CC S M') (hO : ∀ q : Id4, ¬ q.1 ≤ 8 → M' q = M q) : LST S b L (M', Rf) c := by
  obtain ⟨h1, h2, h3, h4, h5, h6, h7, h8⟩ := h
  have hw := hO (9, 0, 0, 0) (by decide)
  exact ⟨h1, h2, hC, h4, h5.of hw, h6, by show 0 ≤ M' (9, 0, 0, 0) 1 ∧ M' (9, 0, 0, 0) 1 ≤ c; rw [hw]; exact h7, h8⟩
theorem fst_at {P : Int → Prop} [DecidablePred P] : ∀ (n : Nat) (i j : Int), i ≤ j → j ≤ i + n → (∀ x, i ≤ x → x < j → ¬ P x) → (j = i + n ∨ P j) → fstB P n i = j
  | 0, i, j, h0, h1, _, _ => by
    unfold fstB
    omega
  | n + 1, i, j, h0, h1, h2, h3 => by
    unfold fstB
    by_cases z : i = j
    · by_cases y : P i
      · rw [if_pos y]; exact z
      · rw [if_neg y]
        exact absurd (z ▸ h3) (fun w => w.elim (fun w => by omega) (fun w => y (z ▸ w)))
    · rw [if_neg (h2 i (by omega) (by omega))]
      exact fst_at n (i + 1) j (by omega) (by omega) (fun x x0 x1 => h2 x (by omega) x1) (h3.imp (fun w => by omega) id)
theorem cmp_self {x : UInt32} (h : Jvm.FP.Core.val32 x ≠ .nan) : Op.cmpValue (FP.fcmp x x) .l = Int32.ofInt 0 := by
  rw [show FP.fcmp x x = some .eq from Jvm.FP.Core.fcmp_self h]
  rfl
theorem cst_bd' {S : Int → Int} (h : Ok S) (n : Nat) (hn : (n : Int) ≤ S 20) : 0 ≤ sumI (fun k => S (21 + 5 * k + 4) * slOf S k) n ∧ sumI (fun k => S (21 + 5 * k + 4) * slOf S k) n ≤ 6440 := by
  have hN := h.2.2.1
  have := sumI_bd (f := fun k => S (21 + 5 * k + 4) * slOf S k) (c := 460) n (fun k k0 k1 => by
    have z := h.2.2.2.2 k k0 (by omega)
    unfold SpOk at z
    have s := slOf_bd h k
    have e1 := Int.mul_nonneg z.2.2.2.2.2.1 s.1
    have e2 := Int.mul_le_mul z.2.2.2.2.2.2 s.2 s.1 (by omega)
    omega)
  omega
theorem mnS_val {S : Int → Int} (h : Ok S) : Jvm.FP.Core.val32 (mnS S) ≠ .nan := by
  have h1 := wts_bd h
  have h2 := cst_bd' h (S 20).toNat (by have := h.2.2.1; omega)
  have h3 : cst S = sumI (fun k => S (21 + 5 * k + 4) * slOf S k) (S 20).toNat := rfl
  rw [← h3] at h2
  unfold mnS
  split
  · exact mean_val (by omega) (by omega)
  · decide +kernel
set_option maxRecDepth 100000 in
theorem cdL_areSpans (sx : Sx) (S : Int → Int) (L : List Id4) (M : Id4 → Int → Int) (Rf : Id4 → Int → Option Id4) (b : Bool) (c : Int) (hS : LST S b L (M, Rf) c) : CdI sx 17 700 yL_areSpans cL_areSpans 10 (some .boolean) [aR (9, 0, 0, 0), aR (8, 0, 0, 0)] L (M, Rf) (fun v L' σ' => v = 1 ∧ LST S b L' σ' c) := by
  obtain ⟨hCL, hCR, hCC, hw, hWF, hr0, hat, hfc⟩ := hS.ex
  refine CdI.mk (by decide +kernel) rfl (Nat.le_of_ble_eq_true rfl) (fun X G ρ F hk hsx => ?_)
  subst hsx
  have hok := hCC.2.1
  have hwb := wts_bd hok
  have main : ∀ (T : Id4) (n : Nat) (L1 : List Id4) (M1 : Id4 → Int → Int) (R1 : Id4 → Int → Option Id4), LST S b L1 (M1, R1) c → T ∈ L1 → kd T = .inr (0, n) → (S 1 ≤ n ∧ n ≤ 3072) → (∀ j, 0 ≤ j → j < S 1 → M1 T j = S (14 + j)) → ∀ (f : Nat) (k : Nat) (br co we fi : Int) (a8 a9 : AV) (u : Nat), wide a8 = false → wide a9 = false → (f : Int) + k = S 20 → u + 60 * f + 100 ≤ 700 → br = sumI (fun k => if kept S k then 0 else 1) k → co = sumI (fun k => S (21 + 5 * k + 4) * slOf S k) k → we = sumI (fun k => S (21 + 5 * k + 4)) k → ((fi = -1 ∧ ∀ j : Int, 0 ≤ j → j < k → kept S j) ∨ ((0 ≤ fi ∧ fi < k) ∧ ¬ kept S fi ∧ ∀ j : Int, 0 ≤ j → j < fi → kept S j)) → DW X G ρ L L1 20 [aR (9, 0, 0, 0), aR (8, 0, 0, 0), aR T, aI br, aI co, aI we, aI fi, aI k, a8, a9] [] (M1, R1) u (EId X G ρ L 700 (fun v L' σ' => v = 1 ∧ LST S b L' σ' c)) := by
    intro T n L1 M1 R1 hS1 hT hkT hn hTv
    obtain ⟨hCL, hCR, hCC, hw, hWF, hr0, hat, hfc⟩ := hS1.ex
    obtain ⟨⟨q2, q3, q4⟩, hp, hE, hN⟩ := id hWF
    have hTb : ∀ j, 0 ≤ j → j < S 1 → 0 ≤ M1 T j ∧ M1 T j ≤ 1000 := fun j j0 j1 => by
      have := hok.2.2.2.1 j j0 j1
      rw [hTv j j0 j1]
      omega
    intro f
    induction f with
    | zero =>
      intro k br co we fi a8 a9 u w8 w9 hf hu hbr hco hwe hfi
      have ek : k = (S 20).toNat := by omega
      subst ek
      have hbr' : br = brk S := hbr
      have hco' : co = cst S := hco
      have hwe' : we = wts S := hwe
      have hcb := cst_bd' hok (S 20).toNat (by omega)
      rw [← hco] at hcb
      have hfd : ¬ we = 0 → FP.fdiv (FP.i2f (Int32.ofInt co)) (FP.i2f (Int32.ofInt we)) = mnS S := fun z => by
        unfold mnS
        rw [if_pos (by omega), hco', hwe']
        rfl
      have hf0 : we = 0 → FP.fconst0 = mnS S := fun z => by
        unfold mnS
        rw [if_neg (by omega)]
      have hbb := sumI_bd (f := fun k => if kept S k then 0 else 1) (c := 1) (S 20).toNat (fun k _ _ => by split <;> omega)
      rw [← hbr] at hbb
      have tail : ∀ u : Nat, u ≤ 650 → DW X G ρ L L1 212 [aR (9, 0, 0, 0), aR (8, 0, 0, 0), aR T, aI br, aI co, aI we, aI fi, aI ((S 20).toNat : Nat), a8, a9] [] (M1, R1) u (EId X G ρ L 700 (fun v L' σ' => v = 1 ∧ LST S b L' σ' c)) := by
        intro u hu
        rcases hfi with ⟨hfi, hall⟩ | ⟨hfi, hnk, hall⟩
        · have hfb : ¬ fbS S < S 20 := by
            have e := fst_at (P := fun k => ¬ kept S k) (S 20).toNat 0 (S 20) (by omega) (by omega) (fun x x0 x1 z => z (hall x x0 (by omega))) (Or.inl (by omega))
            unfold fbS
            rw [e]
            omega
          refine dw_iload6 (pc := 212) F dL_areSpans_212 ?_
          refine dw_if_ge (tgt := 224) (pc := 214) F dL_areSpans_214 (by decide) (by unfold inR; omega) (fun c214 => absurd c214 (by omega)) (fun c214 => ?_)
          refine dw_aload1 (pc := 217) F dL_areSpans_217 ?_
          refine dw_hcc (S := S) (Pv := fun v => v = 1) (pc := 218) F dL_areSpans_218 mh_178 (ch_hasNone M1 b S hCC hfb) hCL hCR (fun v σ9 z => ⟨z.1, M1, z.2, hCC⟩) (Nat.le_of_ble_eq_true rfl) (by decide) (by omega) (fun v9 M9 hv9 hCC9 hO9 => ?_)
          subst hv9
          refine dw_goto (tgt := 238) (pc := 221) F dL_areSpans_221 (by decide) ?_
          exact dw_iret (pc := 238) F dL_areSpans_238 (nar_bool (by first | exact b2i_01 | decide | omega)) (by omega) ⟨rfl, hS1.cc hCC9 hO9⟩
        · have hfb : fbS S = fi := fst_at (P := fun k => ¬ kept S k) (S 20).toNat 0 fi (by omega) (by omega) (fun x x0 x1 z => z (hall x x0 x1)) (Or.inr hnk)
          refine dw_iload6 (pc := 212) F dL_areSpans_212 ?_
          refine dw_if_ge (tgt := 224) (pc := 214) F dL_areSpans_214 (by decide) (by unfold inR; omega) (fun c214 => ?_) (fun c214 => absurd c214 (by omega))
          refine dw_aload1 (pc := 224) F dL_areSpans_224 ?_
          refine dw_cp (as := []) (pc := 225) F dL_areSpans_225 ml_L_181 (CxI.ct (cx8_firstBroken _ _ S hCC.1 hCC.2.1) (fun E9 σ9 z => z.2.2 (by omega))) hCL hCR (fun v σ9 z => ⟨z.1, z.2.1⟩) (Nat.le_of_ble_eq_true rfl) (by decide) (by omega) ?_
          refine dw_iload6 (pc := 228) F dL_areSpans_228 ?_
          refine dw_icmp_ne (tgt := 237) (pc := 230) F dL_areSpans_230 (by decide) (by unfold inR; omega) (by unfold inR; omega) (fun c230 => absurd c230 (by omega)) (fun c230 => ?_)
          refine dw_iconst (pc := 233) F dL_areSpans_233 ?_
          refine dw_goto (tgt := 238) (pc := 234) F dL_areSpans_234 (by decide) ?_
          exact dw_iret (pc := 238) F dL_areSpans_238 (nar_bool (by first | exact b2i_01 | decide | omega)) (by omega) ⟨rfl, hS1⟩
      refine dw_iload7 (pc := 20) F dL_areSpans_20 ?_
      refine dw_aload0 (pc := 22) F dL_areSpans_22 ?_
      refine dw_getI (pc := 23) F dL_areSpans_23 fl_L_95 (by first | assumption | rfl) (by first | assumption | (simp [*]; done)) rfl nz4 ?_
      rw [q4]
      refine dw_icmp_ge (tgt := 169) (pc := 26) F dL_areSpans_26 (by decide) (by unfold inR; omega) (by unfold inR; omega) (fun c26 => ?_) (fun c26 => absurd c26 (by omega))
      refine dw_aload1 (pc := 169) F dL_areSpans_169 ?_
      refine dw_cp (as := []) (pc := 170) F dL_areSpans_170 ml_L_168 (ct8_broken _ _ S hCC.1 hCC.2.1) hCL hCR (fun v σ9 z => z) (Nat.le_of_ble_eq_true rfl) (by decide) (by omega) ?_
      refine dw_iload3 (pc := 173) F dL_areSpans_173 ?_
      rw [← hbr']
      refine dw_icmp_ne (tgt := 210) (pc := 174) F dL_areSpans_174 (by decide) (by unfold inR; omega) (by unfold inR; omega) (fun c174 => absurd c174 (fun z => z rfl)) (fun c174 => ?_)
      refine dw_aload1 (pc := 177) F dL_areSpans_177 ?_
      refine dw_cp (as := []) (pc := 178) F dL_areSpans_178 ml_L_171 (ct8_cost _ _ S hCC.1 hCC.2.1) hCL hCR (fun v σ9 z => z) (Nat.le_of_ble_eq_true rfl) (by decide) (by omega) ?_
      refine dw_iload4 (pc := 181) F dL_areSpans_181 ?_
      rw [← hco']
      refine dw_icmp_ne (tgt := 210) (pc := 183) F dL_areSpans_183 (by decide) (by unfold inR; omega) (by unfold inR; omega) (fun c183 => absurd c183 (fun z => z rfl)) (fun c183 => ?_)
      refine dw_aload1 (pc := 186) F dL_areSpans_186 ?_
      refine dw_cpF (as := []) (pc := 187) F dL_areSpans_187 ml_L_174 (ct8_meanSlack _ _ S hCC.1 hCC.2.1) hCL hCR (fun v σ9 z => z) (Nat.le_of_ble_eq_true rfl) (by decide) (by omega) ?_
      refine dw_iload5 (pc := 190) F dL_areSpans_190 ?_
      refine dw_if_ne (tgt := 199) (pc := 192) F dL_areSpans_192 (by decide) (by unfold inR; omega) (fun c192 => ?_) (fun c192 => ?_)
      · refine dw_iload4 (pc := 199) F dL_areSpans_199 ?_
        refine dw_i2f (pc := 201) F dL_areSpans_201 ?_
        refine dw_iload5 (pc := 202) F dL_areSpans_202 ?_
        refine dw_i2f (pc := 204) F dL_areSpans_204 ?_
        refine dw_fdiv (pc := 205) F dL_areSpans_205 (nn32 (mean_val ⟨by omega, by omega⟩ ⟨by omega, by omega⟩)) ?_
        rw [hfd (by assumption)]
        refine dw_fcmpl (pc := 206) F dL_areSpans_206 (cmp_self (mnS_val hok)) ?_
        refine dw_if_eq (tgt := 212) (pc := 207) F dL_areSpans_207 (by decide) (by unfold inR; omega) (fun c207 => ?_) (fun c207 => absurd c207 (fun z => z rfl))
        exact tail _ (by omega)
      · refine dw_fconst0 (pc := 195) F dL_areSpans_195 ?_
        rw [hf0 (by omega)]
        refine dw_goto (tgt := 206) (pc := 196) F dL_areSpans_196 (by decide) ?_
        refine dw_fcmpl (pc := 206) F dL_areSpans_206 (cmp_self (mnS_val hok)) ?_
        refine dw_if_eq (tgt := 212) (pc := 207) F dL_areSpans_207 (by decide) (by unfold inR; omega) (fun c207 => ?_) (fun c207 => absurd c207 (fun z => z rfl))
        exact tail _ (by omega)
    | succ f ih =>
      intro k br co we fi a8 a9 u w8 w9 hf hu hbr hco hwe hfi
      have hkk : (0 : Int) ≤ k ∧ (k : Int) < S 20 := by omega
      have hsp := hok.2.2.2.2 k hkk.1 hkk.2
      unfold SpOk at hsp
      have hsl := slOf_bd hok (k : Int)
      have body : ∀ (v : Int) (u : Nat), u + 60 * f + 115 ≤ 700 → v = b2i (kept S k) → DW X G ρ L L1 58 [aR (9, 0, 0, 0), aR (8, 0, 0, 0), aR T, aI br, aI co, aI we, aI fi, aI k, aI (S (21 + 5 * (k : Int) + 2) + slOf S k), aI v] [] (M1, R1) u (EId X G ρ L 700 (fun v L' σ' => v = 1 ∧ LST S b L' σ' c)) := by
        intro v u hu hv
        have e20 : ∀ v, v = S (21 + 5 * (k : Int) + 4) * slOf S (k : Int) → co + v = sumI (fun k => S (21 + 5 * k + 4) * slOf S k) (k + 1) := fun v hv => by
          show co + v = sumI (fun k => S (21 + 5 * k + 4) * slOf S k) k + S (21 + 5 * (k : Int) + 4) * slOf S (k : Int)
          rw [hv, hco]
        have e21 : we + S (21 + 5 * (k : Int) + 4) = sumI (fun k => S (21 + 5 * k + 4)) (k + 1) := by
          show _ = sumI (fun k => S (21 + 5 * k + 4)) k + S (21 + 5 * (k : Int) + 4)
          rw [hwe]
        have e22 : ∀ v, v = (if kept S (k : Int) then 0 else 1) → br + v = sumI (fun k => if kept S k then 0 else 1) (k + 1) := fun v hv => by
          show br + v = sumI (fun k => if kept S k then 0 else 1) k + (if kept S (k : Int) then 0 else 1)
          rw [hv, hbr]
        have e23 : S (21 + 5 * (k : Int) + 2) + slOf S (k : Int) - S (21 + 5 * (k : Int) + 2) = slOf S (k : Int) := by omega
        by_cases hk9 : kept S (k : Int)
        · rw [b2i_pos hk9] at hv
          subst hv
          refine dw_aload1 (pc := 58) F dL_areSpans_58 ?_
          refine dw_iload7 (pc := 59) F dL_areSpans_59 ?_
          refine dw_cp (as := [_]) (pc := 61) F dL_areSpans_61 ml_L_159 (CxI.ct (cx8_duration _ _ S _ (by unfold inR; omega) hCC.1 hCC.2.1) (fun E9 σ9 z => z.2.2 ⟨by omega, by omega⟩)) hCL hCR (fun v σ9 z => ⟨z.1, z.2.1⟩) (Nat.le_of_ble_eq_true rfl) (by decide) (by omega) ?_
          refine dw_iload8 (pc := 64) F dL_areSpans_64 ?_
          refine dw_icmp_ne (tgt := 99) (pc := 66) F dL_areSpans_66 (by decide) (by unfold inR; omega) (by unfold inR; omega) (fun c66 => absurd c66 (fun z => z rfl)) (fun c66 => ?_)
          refine dw_aload1 (pc := 69) F dL_areSpans_69 ?_
          refine dw_iload7 (pc := 70) F dL_areSpans_70 ?_
          refine dw_cp (as := [_]) (pc := 72) F dL_areSpans_72 ml_L_161 (CxI.ct (cx8_slack _ _ S _ (by unfold inR; omega) hCC.1 hCC.2.1) (fun E9 σ9 z => z.2.2 ⟨by omega, by omega⟩)) hCL hCR (fun v σ9 z => ⟨z.1, z.2.1⟩) (Nat.le_of_ble_eq_true rfl) (by decide) (by omega) ?_
          refine dw_iload8 (pc := 75) F dL_areSpans_75 ?_
          refine dw_aload1 (pc := 77) F dL_areSpans_77 ?_
          refine dw_iload7 (pc := 78) F dL_areSpans_78 ?_
          refine dw_iconst (pc := 80) F dL_areSpans_80 ?_
          refine dw_cp (as := [_, _]) (pc := 81) F dL_areSpans_81 ml_L_113 (ct8_span0 _ _ S _ _ hCC.1 hCC.2.1 (by omega) (by omega)) hCL hCR (fun v σ9 z => z) (Nat.le_of_ble_eq_true rfl) (by decide) (by omega) ?_
          refine dw_isub (pc := 84) F dL_areSpans_84 ?_
          refine dw_icmp_ne (tgt := 99) (pc := 85) F dL_areSpans_85 (by decide) (by unfold inR; omega) (by unfold inR; omega) (fun c85 => absurd c85 (by omega)) (fun c85 => ?_)
          refine dw_aload1 (pc := 88) F dL_areSpans_88 ?_
          refine dw_iload7 (pc := 89) F dL_areSpans_89 ?_
          refine dw_cp (as := [_]) (pc := 91) F dL_areSpans_91 ml_L_164 (CxI.ct (cx8_isKept _ _ S _ (by unfold inR; omega) hCC.1 hCC.2.1) (fun E9 σ9 z => z.2.2 ⟨by omega, by omega⟩)) hCL hCR (fun v σ9 z => ⟨z.1, z.2.1⟩) (Nat.le_of_ble_eq_true rfl) (by decide) (by omega) ?_
          refine dw_iload9 (pc := 94) F dL_areSpans_94 ?_
          rw [b2i_pos hk9]
          refine dw_icmp_eq (tgt := 101) (pc := 96) F dL_areSpans_96 (by decide) (by unfold inR; omega) (by unfold inR; omega) (fun c96 => ?_) (fun c96 => absurd c96 (fun z => z rfl))
          refine dw_iload9 (pc := 101) F dL_areSpans_101 ?_
          refine dw_if_ne (tgt := 115) (pc := 103) F dL_areSpans_103 (by decide) (by unfold inR; omega) (fun c103 => ?_) (fun c103 => absurd c103 (by decide))
          refine dw_iload3 (pc := 115) F dL_areSpans_115 ?_
          refine dw_iload9 (pc := 116) F dL_areSpans_116 ?_
          refine dw_if_eq (tgt := 125) (pc := 118) F dL_areSpans_118 (by decide) (by unfold inR; omega) (fun c118 => absurd c118 (by decide)) (fun c118 => ?_)
          refine dw_iconst (pc := 121) F dL_areSpans_121 ?_
          refine dw_goto (tgt := 126) (pc := 122) F dL_areSpans_122 (by decide) ?_
          refine dw_iadd (pc := 126) F dL_areSpans_126 ?_
          refine dw_istore3 (pc := 127) F dL_areSpans_127 rfl hk.symm ?_
          refine dw_iload4 (pc := 128) F dL_areSpans_128 ?_
          refine dw_aload1 (pc := 130) F dL_areSpans_130 ?_
          refine dw_iload7 (pc := 131) F dL_areSpans_131 ?_
          refine dw_iconst (pc := 133) F dL_areSpans_133 ?_
          refine dw_cp (as := [_, _]) (pc := 134) F dL_areSpans_134 ml_L_113 (ct8_span0 _ _ S _ _ hCC.1 hCC.2.1 (by omega) (by omega)) hCL hCR (fun v σ9 z => z) (Nat.le_of_ble_eq_true rfl) (by decide) (by omega) ?_
          refine dw_iload8 (pc := 137) F dL_areSpans_137 ?_
          refine dw_aload1 (pc := 139) F dL_areSpans_139 ?_
          refine dw_iload7 (pc := 140) F dL_areSpans_140 ?_
          refine dw_iconst (pc := 142) F dL_areSpans_142 ?_
          refine dw_cp (as := [_, _]) (pc := 143) F dL_areSpans_143 ml_L_113 (ct8_span0 _ _ S _ _ hCC.1 hCC.2.1 (by omega) (by omega)) hCL hCR (fun v σ9 z => z) (Nat.le_of_ble_eq_true rfl) (by decide) (by omega) ?_
          refine dw_isub (pc := 146) F dL_areSpans_146 ?_
          refine dw_imul (pc := 147) F dL_areSpans_147 ?_
          refine dw_iadd (pc := 148) F dL_areSpans_148 ?_
          refine dw_istore4 (pc := 149) F dL_areSpans_149 rfl hk.symm ?_
          refine dw_iload5 (pc := 151) F dL_areSpans_151 ?_
          refine dw_aload1 (pc := 153) F dL_areSpans_153 ?_
          refine dw_iload7 (pc := 154) F dL_areSpans_154 ?_
          refine dw_iconst (pc := 156) F dL_areSpans_156 ?_
          refine dw_cp (as := [_, _]) (pc := 157) F dL_areSpans_157 ml_L_113 (ct8_span0 _ _ S _ _ hCC.1 hCC.2.1 (by omega) (by omega)) hCL hCR (fun v σ9 z => z) (Nat.le_of_ble_eq_true rfl) (by decide) (by omega) ?_
          refine dw_iadd (pc := 160) F dL_areSpans_160 ?_
          refine dw_istore5 (pc := 161) F dL_areSpans_161 rfl hk.symm ?_
          refine dw_iinc7 (pc := 163) F dL_areSpans_163 rfl hk.symm ?_
          refine dw_goto (tgt := 20) (pc := 166) F dL_areSpans_166 (by decide) ?_
          rw [show ((k : Int) + 1) = ((k + 1 : Nat) : Int) by omega, e23]
          refine ih (k + 1) _ _ _ _ _ _ _ rfl rfl (by omega) (by omega) (e22 0 (if_pos hk9).symm) (e20 _ rfl) e21 ?_
          rcases hfi with ⟨h1, h2⟩ | ⟨h1, h2, h3⟩
          · refine Or.inl ⟨h1, fun j j0 j1 => ?_⟩
            by_cases z : j = k
            · rw [z]; exact hk9
            · exact h2 j j0 (by omega)
          · exact Or.inr ⟨by omega, h2, h3⟩
        · rw [b2i_neg hk9] at hv
          subst hv
          refine dw_aload1 (pc := 58) F dL_areSpans_58 ?_
          refine dw_iload7 (pc := 59) F dL_areSpans_59 ?_
          refine dw_cp (as := [_]) (pc := 61) F dL_areSpans_61 ml_L_159 (CxI.ct (cx8_duration _ _ S _ (by unfold inR; omega) hCC.1 hCC.2.1) (fun E9 σ9 z => z.2.2 ⟨by omega, by omega⟩)) hCL hCR (fun v σ9 z => ⟨z.1, z.2.1⟩) (Nat.le_of_ble_eq_true rfl) (by decide) (by omega) ?_
          refine dw_iload8 (pc := 64) F dL_areSpans_64 ?_
          refine dw_icmp_ne (tgt := 99) (pc := 66) F dL_areSpans_66 (by decide) (by unfold inR; omega) (by unfold inR; omega) (fun c66 => absurd c66 (fun z => z rfl)) (fun c66 => ?_)
          refine dw_aload1 (pc := 69) F dL_areSpans_69 ?_
          refine dw_iload7 (pc := 70) F dL_areSpans_70 ?_
          refine dw_cp (as := [_]) (pc := 72) F dL_areSpans_72 ml_L_161 (CxI.ct (cx8_slack _ _ S _ (by unfold inR; omega) hCC.1 hCC.2.1) (fun E9 σ9 z => z.2.2 ⟨by omega, by omega⟩)) hCL hCR (fun v σ9 z => ⟨z.1, z.2.1⟩) (Nat.le_of_ble_eq_true rfl) (by decide) (by omega) ?_
          refine dw_iload8 (pc := 75) F dL_areSpans_75 ?_
          refine dw_aload1 (pc := 77) F dL_areSpans_77 ?_
          refine dw_iload7 (pc := 78) F dL_areSpans_78 ?_
          refine dw_iconst (pc := 80) F dL_areSpans_80 ?_
          refine dw_cp (as := [_, _]) (pc := 81) F dL_areSpans_81 ml_L_113 (ct8_span0 _ _ S _ _ hCC.1 hCC.2.1 (by omega) (by omega)) hCL hCR (fun v σ9 z => z) (Nat.le_of_ble_eq_true rfl) (by decide) (by omega) ?_
          refine dw_isub (pc := 84) F dL_areSpans_84 ?_
          refine dw_icmp_ne (tgt := 99) (pc := 85) F dL_areSpans_85 (by decide) (by unfold inR; omega) (by unfold inR; omega) (fun c85 => absurd c85 (by omega)) (fun c85 => ?_)
          refine dw_aload1 (pc := 88) F dL_areSpans_88 ?_
          refine dw_iload7 (pc := 89) F dL_areSpans_89 ?_
          refine dw_cp (as := [_]) (pc := 91) F dL_areSpans_91 ml_L_164 (CxI.ct (cx8_isKept _ _ S _ (by unfold inR; omega) hCC.1 hCC.2.1) (fun E9 σ9 z => z.2.2 ⟨by omega, by omega⟩)) hCL hCR (fun v σ9 z => ⟨z.1, z.2.1⟩) (Nat.le_of_ble_eq_true rfl) (by decide) (by omega) ?_
          refine dw_iload9 (pc := 94) F dL_areSpans_94 ?_
          rw [b2i_neg hk9]
          refine dw_icmp_eq (tgt := 101) (pc := 96) F dL_areSpans_96 (by decide) (by unfold inR; omega) (by unfold inR; omega) (fun c96 => ?_) (fun c96 => absurd c96 (fun z => z rfl))
          refine dw_iload9 (pc := 101) F dL_areSpans_101 ?_
          refine dw_if_ne (tgt := 115) (pc := 103) F dL_areSpans_103 (by decide) (by unfold inR; omega) (fun c103 => absurd c103 (by decide)) (fun c103 => ?_)
          refine dw_iload6 (pc := 106) F dL_areSpans_106 ?_
          refine dw_if_ge (tgt := 115) (pc := 108) F dL_areSpans_108 (by decide) (by unfold inR; omega) (fun c108 => ?_) (fun c108 => ?_)
          · refine dw_iload3 (pc := 115) F dL_areSpans_115 ?_
            refine dw_iload9 (pc := 116) F dL_areSpans_116 ?_
            refine dw_if_eq (tgt := 125) (pc := 118) F dL_areSpans_118 (by decide) (by unfold inR; omega) (fun c118 => ?_) (fun c118 => absurd c118 (by decide))
            refine dw_iconst (pc := 125) F dL_areSpans_125 ?_
            refine dw_iadd (pc := 126) F dL_areSpans_126 ?_
            refine dw_istore3 (pc := 127) F dL_areSpans_127 rfl hk.symm ?_
            refine dw_iload4 (pc := 128) F dL_areSpans_128 ?_
            refine dw_aload1 (pc := 130) F dL_areSpans_130 ?_
            refine dw_iload7 (pc := 131) F dL_areSpans_131 ?_
            refine dw_iconst (pc := 133) F dL_areSpans_133 ?_
            refine dw_cp (as := [_, _]) (pc := 134) F dL_areSpans_134 ml_L_113 (ct8_span0 _ _ S _ _ hCC.1 hCC.2.1 (by omega) (by omega)) hCL hCR (fun v σ9 z => z) (Nat.le_of_ble_eq_true rfl) (by decide) (by omega) ?_
            refine dw_iload8 (pc := 137) F dL_areSpans_137 ?_
            refine dw_aload1 (pc := 139) F dL_areSpans_139 ?_
            refine dw_iload7 (pc := 140) F dL_areSpans_140 ?_
            refine dw_iconst (pc := 142) F dL_areSpans_142 ?_
            refine dw_cp (as := [_, _]) (pc := 143) F dL_areSpans_143 ml_L_113 (ct8_span0 _ _ S _ _ hCC.1 hCC.2.1 (by omega) (by omega)) hCL hCR (fun v σ9 z => z) (Nat.le_of_ble_eq_true rfl) (by decide) (by omega) ?_
            refine dw_isub (pc := 146) F dL_areSpans_146 ?_
            refine dw_imul (pc := 147) F dL_areSpans_147 ?_
            refine dw_iadd (pc := 148) F dL_areSpans_148 ?_
            refine dw_istore4 (pc := 149) F dL_areSpans_149 rfl hk.symm ?_
            refine dw_iload5 (pc := 151) F dL_areSpans_151 ?_
            refine dw_aload1 (pc := 153) F dL_areSpans_153 ?_
            refine dw_iload7 (pc := 154) F dL_areSpans_154 ?_
            refine dw_iconst (pc := 156) F dL_areSpans_156 ?_
            refine dw_cp (as := [_, _]) (pc := 157) F dL_areSpans_157 ml_L_113 (ct8_span0 _ _ S _ _ hCC.1 hCC.2.1 (by omega) (by omega)) hCL hCR (fun v σ9 z => z) (Nat.le_of_ble_eq_true rfl) (by decide) (by omega) ?_
            refine dw_iadd (pc := 160) F dL_areSpans_160 ?_
            refine dw_istore5 (pc := 161) F dL_areSpans_161 rfl hk.symm ?_
            refine dw_iinc7 (pc := 163) F dL_areSpans_163 rfl hk.symm ?_
            refine dw_goto (tgt := 20) (pc := 166) F dL_areSpans_166 (by decide) ?_
            rw [show ((k : Int) + 1) = ((k + 1 : Nat) : Int) by omega, e23]
            refine ih (k + 1) _ _ _ _ _ _ _ rfl rfl (by omega) (by omega) (e22 1 (if_neg hk9).symm) (e20 _ rfl) e21 ?_
            rcases hfi with ⟨h1, h2⟩ | ⟨h1, h2, h3⟩
            · first | exact absurd h1 (by omega) | exact Or.inr ⟨by omega, hk9, fun j j0 j1 => h2 j j0 j1⟩
            · first | exact absurd h1 (by omega) | exact Or.inr ⟨by omega, h2, h3⟩
          · refine dw_iload7 (pc := 111) F dL_areSpans_111 ?_
            refine dw_istore6 (pc := 113) F dL_areSpans_113 rfl hk.symm ?_
            refine dw_iload3 (pc := 115) F dL_areSpans_115 ?_
            refine dw_iload9 (pc := 116) F dL_areSpans_116 ?_
            refine dw_if_eq (tgt := 125) (pc := 118) F dL_areSpans_118 (by decide) (by unfold inR; omega) (fun c118 => ?_) (fun c118 => absurd c118 (by decide))
            refine dw_iconst (pc := 125) F dL_areSpans_125 ?_
            refine dw_iadd (pc := 126) F dL_areSpans_126 ?_
            refine dw_istore3 (pc := 127) F dL_areSpans_127 rfl hk.symm ?_
            refine dw_iload4 (pc := 128) F dL_areSpans_128 ?_
            refine dw_aload1 (pc := 130) F dL_areSpans_130 ?_
            refine dw_iload7 (pc := 131) F dL_areSpans_131 ?_
            refine dw_iconst (pc := 133) F dL_areSpans_133 ?_
            refine dw_cp (as := [_, _]) (pc := 134) F dL_areSpans_134 ml_L_113 (ct8_span0 _ _ S _ _ hCC.1 hCC.2.1 (by omega) (by omega)) hCL hCR (fun v σ9 z => z) (Nat.le_of_ble_eq_true rfl) (by decide) (by omega) ?_
            refine dw_iload8 (pc := 137) F dL_areSpans_137 ?_
            refine dw_aload1 (pc := 139) F dL_areSpans_139 ?_
            refine dw_iload7 (pc := 140) F dL_areSpans_140 ?_
            refine dw_iconst (pc := 142) F dL_areSpans_142 ?_
            refine dw_cp (as := [_, _]) (pc := 143) F dL_areSpans_143 ml_L_113 (ct8_span0 _ _ S _ _ hCC.1 hCC.2.1 (by omega) (by omega)) hCL hCR (fun v σ9 z => z) (Nat.le_of_ble_eq_true rfl) (by decide) (by omega) ?_
            refine dw_isub (pc := 146) F dL_areSpans_146 ?_
            refine dw_imul (pc := 147) F dL_areSpans_147 ?_
            refine dw_iadd (pc := 148) F dL_areSpans_148 ?_
            refine dw_istore4 (pc := 149) F dL_areSpans_149 rfl hk.symm ?_
            refine dw_iload5 (pc := 151) F dL_areSpans_151 ?_
            refine dw_aload1 (pc := 153) F dL_areSpans_153 ?_
            refine dw_iload7 (pc := 154) F dL_areSpans_154 ?_
            refine dw_iconst (pc := 156) F dL_areSpans_156 ?_
            refine dw_cp (as := [_, _]) (pc := 157) F dL_areSpans_157 ml_L_113 (ct8_span0 _ _ S _ _ hCC.1 hCC.2.1 (by omega) (by omega)) hCL hCR (fun v σ9 z => z) (Nat.le_of_ble_eq_true rfl) (by decide) (by omega) ?_
            refine dw_iadd (pc := 160) F dL_areSpans_160 ?_
            refine dw_istore5 (pc := 161) F dL_areSpans_161 rfl hk.symm ?_
            refine dw_iinc7 (pc := 163) F dL_areSpans_163 rfl hk.symm ?_
            refine dw_goto (tgt := 20) (pc := 166) F dL_areSpans_166 (by decide) ?_
            rw [show ((k : Int) + 1) = ((k + 1 : Nat) : Int) by omega, e23]
            refine ih (k + 1) _ _ _ _ _ _ _ rfl rfl (by omega) (by omega) (e22 1 (if_neg hk9).symm) (e20 _ rfl) e21 ?_
            rcases hfi with ⟨h1, h2⟩ | ⟨h1, h2, h3⟩
            · first | exact absurd h1 (by omega) | exact Or.inr ⟨by omega, hk9, fun j j0 j1 => h2 j j0 j1⟩
            · first | exact absurd h1 (by omega) | exact Or.inr ⟨by omega, h2, h3⟩
      refine dw_iload7 (pc := 20) F dL_areSpans_20 ?_
      refine dw_aload0 (pc := 22) F dL_areSpans_22 ?_
      refine dw_getI (pc := 23) F dL_areSpans_23 fl_L_95 (by first | assumption | rfl) (by first | assumption | (simp [*]; done)) rfl nz4 ?_
      rw [q4]
      refine dw_icmp_ge (tgt := 169) (pc := 26) F dL_areSpans_26 (by decide) (by unfold inR; omega) (by unfold inR; omega) (fun c26 => absurd c26 (by omega)) (fun c26 => ?_)
      refine dw_aload0 (pc := 29) F dL_areSpans_29 ?_
      refine dw_aload1 (pc := 30) F dL_areSpans_30 ?_
      refine dw_iload7 (pc := 31) F dL_areSpans_31 ?_
      refine dw_aload2 (pc := 33) F dL_areSpans_33 ?_
      refine dw_callVI (as := [_, _, _]) (pc := 34) F dL_areSpans_34 ml_L_155 (by first | assumption | rfl) (by first | assumption | exact Or.inl (by first | assumption | (simp [*]; done))) (cdL_duration _ S _ _ _ _ _ _ n hCL hCR hCC hw hWF hkk hT hkT hn hTb) (Nat.le_of_ble_eq_true rfl) (by decide) (by omega) (fun v9 L9 s9 h9 _ => ?_)
      obtain ⟨rfl, rfl, rfl⟩ := h9
      rw [hTv _ hsp.2.1.1 hsp.2.1.2, hTv _ hsp.1.1 hsp.1.2, show slBy S (k : Int) (S (14 + S (21 + 5 * (k : Int) + 1)) - S (14 + S (21 + 5 * (k : Int) + 0))) = slOf S (k : Int) from rfl]
      refine dw_istore8 (pc := 37) F dL_areSpans_37 (by simp only [List.all_cons, List.all_nil, w8, w9]; rfl) hk.symm ?_
      refine dw_iload8 (pc := 39) F dL_areSpans_39 ?_
      refine dw_aload1 (pc := 41) F dL_areSpans_41 ?_
      refine dw_iload7 (pc := 42) F dL_areSpans_42 ?_
      refine dw_iconst (pc := 44) F dL_areSpans_44 ?_
      refine dw_cp (as := [_, _]) (pc := 45) F dL_areSpans_45 ml_L_113 (ct8_span0 _ _ S _ _ hCC.1 hCC.2.1 (by omega) (by omega)) hCL hCR (fun v σ9 z => z) (Nat.le_of_ble_eq_true rfl) (by decide) (by omega) ?_
      refine dw_icmp_gt (tgt := 55) (pc := 48) F dL_areSpans_48 (by decide) (by unfold inR; omega) (by unfold inR; omega) (fun c48 => ?_) (fun c48 => ?_)
      · refine dw_iconst (pc := 55) F dL_areSpans_55 ?_
        refine dw_istore9 (pc := 56) F dL_areSpans_56 (by simp only [List.all_cons, List.all_nil, w8, w9]; rfl) hk.symm ?_
        first | exact body 1 _ (by omega) (b2i_pos (show slOf S (k : Int) ≤ S (21 + 5 * (k : Int) + 3) - S (21 + 5 * (k : Int) + 2) by omega)).symm | exact body 0 _ (by omega) (b2i_neg (show ¬ slOf S (k : Int) ≤ S (21 + 5 * (k : Int) + 3) - S (21 + 5 * (k : Int) + 2) by omega)).symm
      · refine dw_iconst (pc := 51) F dL_areSpans_51 ?_
        refine dw_goto (tgt := 56) (pc := 52) F dL_areSpans_52 (by decide) ?_
        refine dw_istore9 (pc := 56) F dL_areSpans_56 (by simp only [List.all_cons, List.all_nil, w8, w9]; rfl) hk.symm ?_
        first | exact body 1 _ (by omega) (b2i_pos (show slOf S (k : Int) ≤ S (21 + 5 * (k : Int) + 3) - S (21 + 5 * (k : Int) + 2) by omega)).symm | exact body 0 _ (by omega) (b2i_neg (show ¬ slOf S (k : Int) ≤ S (21 + 5 * (k : Int) + 3) - S (21 + 5 * (k : Int) + 2) by omega)).symm
  obtain ⟨⟨q2, q3, q4⟩, hp, hE, hN⟩ := id hWF
  refine dw_aload0 (pc := 0) F dL_areSpans_0 ?_
  refine dw_aload1 (pc := 1) F dL_areSpans_1 ?_
  refine dw_callVR (as := [_]) (pc := 2) F dL_areSpans_2 ml_L_151 (by first | assumption | rfl) (by first | assumption | exact Or.inl (by first | assumption | (simp [*]; done))) (cdL_timesOf _ S _ _ _ _ hCL hCR hCC hw hWF) (Nat.le_of_ble_eq_true rfl) (by decide) (by omega) (fun r9 L9 s9 h9 hLE9 hin9 => ?_)
  obtain ⟨hT, hL9, hTf, hz2, hO, hTv⟩ := h9
  obtain ⟨M9, R9⟩ := s9
  have hz3 : R9 = zR Rf r9 := hz2
  have hne : ∀ q : Id4, (q.1 ≠ 12 ∨ q ∈ L) → q ≠ r9 := fun q hq z => hq.elim (fun y => y (by rw [z, hT])) (fun y => hTf (z ▸ y))
  have hS9 := hS.k12 hLE9 (by rw [hL9]; exact hCL.app (by decide)) (σ' := (M9, R9)) (fun q hq => ⟨hO q (hne q hq), by show R9 q = Rf q; rw [hz3, zR_ne (hne q hq)]⟩)
  refine dw_astore2 (pc := 5) F dL_areSpans_5 rfl hk.symm ?_
  refine dw_iconst (pc := 6) F dL_areSpans_6 ?_
  refine dw_istore3 (pc := 7) F dL_areSpans_7 rfl hk.symm ?_
  refine dw_iconst (pc := 8) F dL_areSpans_8 ?_
  refine dw_istore4 (pc := 9) F dL_areSpans_9 rfl hk.symm ?_
  refine dw_iconst (pc := 11) F dL_areSpans_11 ?_
  refine dw_istore5 (pc := 12) F dL_areSpans_12 rfl hk.symm ?_
  refine dw_iconst (pc := 14) F dL_areSpans_14 ?_
  refine dw_istore6 (pc := 15) F dL_areSpans_15 rfl hk.symm ?_
  refine dw_iconst (pc := 17) F dL_areSpans_17 ?_
  refine dw_istore7 (pc := 18) F dL_areSpans_18 rfl hk.symm ?_
  exact main r9 (S 1).toNat L9 M9 R9 hS9 (by rw [hL9, hT]; simp) (by rw [hT]; rfl) (by omega) hTv (S 20).toNat 0 0 0 0 (-1) _ _ _ rfl rfl (by omega) (by omega) rfl rfl rfl (Or.inl ⟨rfl, fun j j0 j1 => by omega⟩)
set_option maxRecDepth 100000 in
theorem cdL_isShared (sx : Sx) (S : Int → Int) (L : List Id4) (M : Id4 → Int → Int) (Rf : Id4 → Int → Option Id4) (b : Bool) (c : Int) (hS : LST S b L (M, Rf) c) (hc9 : c ≤ 1000) : CdI sx 17 200 yL_isShared cL_isShared 8 (some .boolean) [aR (9, 0, 0, 0), aR (8, 0, 0, 0)] L (M, Rf) (fun v L' σ' => v = 1 ∧ LST S b L' σ' (c + 1)) := by
  obtain ⟨hCL, hCR, hCC, hw, hWF, hr0, hat, hfc⟩ := hS.ex
  have hok := hCC.2.1
  have hwb := wts_bd hok
  refine CdI.mk (by decide +kernel) rfl (Nat.le_of_ble_eq_true rfl) (fun X G ρ F hk hsx => ?_)
  subst hsx
  have main : ∀ (am : Int) (M1 : Id4 → Int → Int), (0 ≤ am ∧ am < 100) → LST S b L (M1, Rf) (c + 1) → DW X G ρ L L 7 [aR (9, 0, 0, 0), aR (8, 0, 0, 0), aI am, aX, aX, aX, aX, aX] [] (M1, Rf) 0 (EId X G ρ L 200 (fun v L' σ' => v = 1 ∧ LST S b L' σ' (c + 1))) := by
    intro am M1 ham hS1
    obtain ⟨hCL, hCR, hCC, hw, hWF, hr0, hat, hfc⟩ := hS1.ex
    obtain ⟨⟨q2, q3, q4⟩, hp, hE, hN⟩ := id hWF
    have hsum := sh_sum hok (n := am) (by omega)
    have loop2 : ∀ (f : Nat) (k : Nat) (su : Int) (a6 a7 : AV) (u : Nat), wide a6 = false → wide a7 = false → (f : Int) + k = S 20 → u + 10 * f ≤ 200 → (0 ≤ su ∧ su ≤ 20000 * (k : Int)) → su = sumI (fun k => shS S am k) k → DW X G ρ L L 43 [aR (9, 0, 0, 0), aR (8, 0, 0, 0), aI am, aI (wts S), aI su, aI k, a6, a7] [] (M1, Rf) u (EId X G ρ L 200 (fun v L' σ' => v = 1 ∧ LST S b L' σ' (c + 1))) := by
      intro f
      induction f with
      | zero =>
        intro k su a6 a7 u w6 w7 hf hu hsu0 hsu
        have ek : k = (S 20).toNat := by omega
        rw [ek, hsum] at hsu
        by_cases hz : wts S = 0
        · rw [if_pos hz] at hsu
          refine dw_iload5 (pc := 43) F dL_isShared_43 ?_
          refine dw_aload0 (pc := 45) F dL_isShared_45 ?_
          refine dw_getI (pc := 46) F dL_isShared_46 fl_L_95 (by first | assumption | rfl) (by first | assumption | (simp [*]; done)) rfl nz4 ?_
          rw [q4]
          refine dw_icmp_ge (tgt := 135) (pc := 49) F dL_isShared_49 (by decide) (by unfold inR; omega) (by unfold inR; omega) (fun c49 => ?_) (fun c49 => absurd c49 (by omega))
          refine dw_iload4 (pc := 135) F dL_isShared_135 ?_
          refine dw_iload3 (pc := 137) F dL_isShared_137 ?_
          refine dw_if_ne (tgt := 145) (pc := 138) F dL_isShared_138 (by decide) (by unfold inR; omega) (fun c138 => absurd c138 (by omega)) (fun c138 => ?_)
          refine dw_iconst (pc := 141) F dL_isShared_141 ?_
          refine dw_goto (tgt := 146) (pc := 142) F dL_isShared_142 (by decide) ?_
          refine dw_icmp_ne (tgt := 153) (pc := 146) F dL_isShared_146 (by decide) (by unfold inR; omega) (by unfold inR; omega) (fun c146 => absurd c146 (by omega)) (fun c146 => ?_)
          refine dw_iconst (pc := 149) F dL_isShared_149 ?_
          refine dw_goto (tgt := 154) (pc := 150) F dL_isShared_150 (by decide) ?_
          exact dw_iret (pc := 154) F dL_isShared_154 (nar_bool (by first | exact b2i_01 | decide | omega)) (by omega) ⟨rfl, hS1⟩
        · rw [if_neg hz] at hsu
          refine dw_iload5 (pc := 43) F dL_isShared_43 ?_
          refine dw_aload0 (pc := 45) F dL_isShared_45 ?_
          refine dw_getI (pc := 46) F dL_isShared_46 fl_L_95 (by first | assumption | rfl) (by first | assumption | (simp [*]; done)) rfl nz4 ?_
          rw [q4]
          refine dw_icmp_ge (tgt := 135) (pc := 49) F dL_isShared_49 (by decide) (by unfold inR; omega) (by unfold inR; omega) (fun c49 => ?_) (fun c49 => absurd c49 (by omega))
          refine dw_iload4 (pc := 135) F dL_isShared_135 ?_
          refine dw_iload3 (pc := 137) F dL_isShared_137 ?_
          refine dw_if_ne (tgt := 145) (pc := 138) F dL_isShared_138 (by decide) (by unfold inR; omega) (fun c138 => ?_) (fun c138 => absurd c138 (by omega))
          refine dw_iload2 (pc := 145) F dL_isShared_145 ?_
          refine dw_icmp_ne (tgt := 153) (pc := 146) F dL_isShared_146 (by decide) (by unfold inR; omega) (by unfold inR; omega) (fun c146 => absurd c146 (by omega)) (fun c146 => ?_)
          refine dw_iconst (pc := 149) F dL_isShared_149 ?_
          refine dw_goto (tgt := 154) (pc := 150) F dL_isShared_150 (by decide) ?_
          exact dw_iret (pc := 154) F dL_isShared_154 (nar_bool (by first | exact b2i_01 | decide | omega)) (by omega) ⟨rfl, hS1⟩
      | succ f ih =>
        intro k su a6 a7 u w6 w7 hf hu hsu0 hsu
        have hkk : (0 : Int) ≤ k ∧ (k : Int) < S 20 := by omega
        have hP : 0 ≤ am * S (21 + 5 * (k : Int) + 4) ∧ am * S (21 + 5 * (k : Int) + 4) ≤ 19980 := shP_bd hok (n := am) (k := (k : Int)) (by omega) hkk
        have hD := shD_bd hP hwb.1
        obtain ⟨its, hits⟩ : ∃ its, its = shS S am (k : Int) := ⟨_, rfl⟩
        have i0 : wts S = 0 → its = 0 := fun z => by rw [hits]; unfold shS; rw [if_pos z]
        have i1 : ¬ wts S = 0 → its = (am * S (21 + 5 * (k : Int) + 4)).tdiv (wts S) ∨ (its = (am * S (21 + 5 * (k : Int) + 4)).tdiv (wts S) + 1 ∧ ¬ (am * S (21 + 5 * (k : Int) + 4)).tmod (wts S) = 0) := fun z => by
          have e : its = (am * S (21 + 5 * (k : Int) + 4)).tdiv (wts S) + b2i (shC S am (k : Int) (S 20).toNat < shL S am (S 20).toNat) := by
            rw [hits]; unfold shS; rw [if_neg z]; rfl
          by_cases y : shC S am (k : Int) (S 20).toNat < shL S am (S 20).toNat
          · rw [b2i_pos y] at e
            exact Or.inr ⟨e, fun w => sh_0 hok (by omega) (by omega) w y⟩
          · rw [b2i_neg y] at e
            exact Or.inl (by omega)
        have hts : su + its = sumI (fun k => shS S am k) (k + 1) := by
          show _ = sumI (fun k => shS S am k) k + shS S am (k : Int)
          rw [hsu, hits]
        have ib : 0 ≤ its ∧ its ≤ 20000 := by
          by_cases z : wts S = 0
          · have := i0 z; omega
          · have := i1 z; omega
        by_cases hz : wts S = 0
        · have := i0 hz
          refine dw_iload5 (pc := 43) F dL_isShared_43 ?_
          refine dw_aload0 (pc := 45) F dL_isShared_45 ?_
          refine dw_getI (pc := 46) F dL_isShared_46 fl_L_95 (by first | assumption | rfl) (by first | assumption | (simp [*]; done)) rfl nz4 ?_
          rw [q4]
          refine dw_icmp_ge (tgt := 135) (pc := 49) F dL_isShared_49 (by decide) (by unfold inR; omega) (by unfold inR; omega) (fun c49 => absurd c49 (by omega)) (fun c49 => ?_)
          refine dw_aload1 (pc := 52) F dL_isShared_52 ?_
          refine dw_iload5 (pc := 53) F dL_isShared_53 ?_
          refine dw_iload2 (pc := 55) F dL_isShared_55 ?_
          refine dw_cp (as := [_, _]) (pc := 56) F dL_isShared_56 ml_L_186 (CxI.ct (cx8_share _ _ S _ _ (by unfold inR; omega) (by unfold inR; omega) hCC.1 hCC.2.1) (fun E9 σ9 z => by rcases z.2 with y | y; exact y.2 ⟨by omega, by omega⟩; exact y.2.2 ⟨by omega, by omega⟩)) hCL hCR (fun v σ9 z => ⟨z.1, z.2.1⟩) (Nat.le_of_ble_eq_true rfl) (by decide) (by omega) ?_
          rw [← hits]
          refine dw_istore6 (pc := 59) F dL_isShared_59 (by simp only [List.all_cons, List.all_nil, w6, w7]; rfl) hk.symm ?_
          refine dw_iload3 (pc := 61) F dL_isShared_61 ?_
          refine dw_if_ne (tgt := 69) (pc := 62) F dL_isShared_62 (by decide) (by unfold inR; omega) (fun c62 => absurd c62 (by omega)) (fun c62 => ?_)
          refine dw_iconst (pc := 65) F dL_isShared_65 ?_
          refine dw_goto (tgt := 80) (pc := 66) F dL_isShared_66 (by decide) ?_
          refine dw_istore7 (pc := 80) F dL_isShared_80 (by simp only [List.all_cons, List.all_nil, w6, w7]; rfl) hk.symm ?_
          refine dw_iload6 (pc := 82) F dL_isShared_82 ?_
          refine dw_iload7 (pc := 84) F dL_isShared_84 ?_
          refine dw_icmp_lt (tgt := 120) (pc := 86) F dL_isShared_86 (by decide) (by unfold inR; omega) (by unfold inR; omega) (fun c86 => absurd c86 (by omega)) (fun c86 => ?_)
          refine dw_iload6 (pc := 89) F dL_isShared_89 ?_
          refine dw_iload7 (pc := 91) F dL_isShared_91 ?_
          refine dw_iload3 (pc := 93) F dL_isShared_93 ?_
          refine dw_if_eq (tgt := 111) (pc := 94) F dL_isShared_94 (by decide) (by unfold inR; omega) (fun c94 => ?_) (fun c94 => absurd c94 (by omega))
          refine dw_iconst (pc := 111) F dL_isShared_111 ?_
          refine dw_goto (tgt := 116) (pc := 112) F dL_isShared_112 (by decide) ?_
          refine dw_iadd (pc := 116) F dL_isShared_116 ?_
          refine dw_icmp_le (tgt := 122) (pc := 117) F dL_isShared_117 (by decide) (by unfold inR; omega) (by unfold inR; omega) (fun c117 => ?_) (fun c117 => absurd c117 (by omega))
          refine dw_iload4 (pc := 122) F dL_isShared_122 ?_
          refine dw_iload6 (pc := 124) F dL_isShared_124 ?_
          refine dw_iadd (pc := 126) F dL_isShared_126 ?_
          refine dw_istore4 (pc := 127) F dL_isShared_127 (by simp only [List.all_cons, List.all_nil, w6, w7]; rfl) hk.symm ?_
          refine dw_iinc5 (pc := 129) F dL_isShared_129 (by simp only [List.all_cons, List.all_nil, w6, w7]; rfl) hk.symm ?_
          refine dw_goto (tgt := 43) (pc := 132) F dL_isShared_132 (by decide) ?_
          exact ih (k + 1) _ _ _ _ rfl rfl (by omega) (by omega) (by omega) hts
        · have hi := i1 hz
          have hM := shM_bd hP (show 0 < wts S ∧ wts S ≤ 280 by omega)
          refine dw_iload5 (pc := 43) F dL_isShared_43 ?_
          refine dw_aload0 (pc := 45) F dL_isShared_45 ?_
          refine dw_getI (pc := 46) F dL_isShared_46 fl_L_95 (by first | assumption | rfl) (by first | assumption | (simp [*]; done)) rfl nz4 ?_
          rw [q4]
          refine dw_icmp_ge (tgt := 135) (pc := 49) F dL_isShared_49 (by decide) (by unfold inR; omega) (by unfold inR; omega) (fun c49 => absurd c49 (by omega)) (fun c49 => ?_)
          refine dw_aload1 (pc := 52) F dL_isShared_52 ?_
          refine dw_iload5 (pc := 53) F dL_isShared_53 ?_
          refine dw_iload2 (pc := 55) F dL_isShared_55 ?_
          refine dw_cp (as := [_, _]) (pc := 56) F dL_isShared_56 ml_L_186 (CxI.ct (cx8_share _ _ S _ _ (by unfold inR; omega) (by unfold inR; omega) hCC.1 hCC.2.1) (fun E9 σ9 z => by rcases z.2 with y | y; exact y.2 ⟨by omega, by omega⟩; exact y.2.2 ⟨by omega, by omega⟩)) hCL hCR (fun v σ9 z => ⟨z.1, z.2.1⟩) (Nat.le_of_ble_eq_true rfl) (by decide) (by omega) ?_
          rw [← hits]
          refine dw_istore6 (pc := 59) F dL_isShared_59 (by simp only [List.all_cons, List.all_nil, w6, w7]; rfl) hk.symm ?_
          refine dw_iload3 (pc := 61) F dL_isShared_61 ?_
          refine dw_if_ne (tgt := 69) (pc := 62) F dL_isShared_62 (by decide) (by unfold inR; omega) (fun c62 => ?_) (fun c62 => absurd c62 (by omega))
          refine dw_iload2 (pc := 69) F dL_isShared_69 ?_
          refine dw_aload1 (pc := 70) F dL_isShared_70 ?_
          refine dw_iload5 (pc := 71) F dL_isShared_71 ?_
          refine dw_iconst (pc := 73) F dL_isShared_73 ?_
          refine dw_cp (as := [_, _]) (pc := 74) F dL_isShared_74 ml_L_113 (ct8_span0 _ _ S _ _ hCC.1 hCC.2.1 (by omega) (by omega)) hCL hCR (fun v σ9 z => z) (Nat.le_of_ble_eq_true rfl) (by decide) (by omega) ?_
          refine dw_imul (pc := 77) F dL_isShared_77 ?_
          refine dw_iload3 (pc := 78) F dL_isShared_78 ?_
          refine dw_idiv (pc := 79) F dL_isShared_79 (by unfold inR; omega) (by unfold inR; omega) (by omega) (by omega) ?_
          refine dw_istore7 (pc := 80) F dL_isShared_80 (by simp only [List.all_cons, List.all_nil, w6, w7]; rfl) hk.symm ?_
          refine dw_iload6 (pc := 82) F dL_isShared_82 ?_
          refine dw_iload7 (pc := 84) F dL_isShared_84 ?_
          refine dw_icmp_lt (tgt := 120) (pc := 86) F dL_isShared_86 (by decide) (by unfold inR; omega) (by unfold inR; omega) (fun c86 => absurd c86 (by omega)) (fun c86 => ?_)
          refine dw_iload6 (pc := 89) F dL_isShared_89 ?_
          refine dw_iload7 (pc := 91) F dL_isShared_91 ?_
          refine dw_iload3 (pc := 93) F dL_isShared_93 ?_
          refine dw_if_eq (tgt := 111) (pc := 94) F dL_isShared_94 (by decide) (by unfold inR; omega) (fun c94 => absurd c94 (by omega)) (fun c94 => ?_)
          refine dw_iload2 (pc := 97) F dL_isShared_97 ?_
          refine dw_aload1 (pc := 98) F dL_isShared_98 ?_
          refine dw_iload5 (pc := 99) F dL_isShared_99 ?_
          refine dw_iconst (pc := 101) F dL_isShared_101 ?_
          refine dw_cp (as := [_, _]) (pc := 102) F dL_isShared_102 ml_L_113 (ct8_span0 _ _ S _ _ hCC.1 hCC.2.1 (by omega) (by omega)) hCL hCR (fun v σ9 z => z) (Nat.le_of_ble_eq_true rfl) (by decide) (by omega) ?_
          refine dw_imul (pc := 105) F dL_isShared_105 ?_
          refine dw_iload3 (pc := 106) F dL_isShared_106 ?_
          refine dw_irem (pc := 107) F dL_isShared_107 (by unfold inR; omega) (by unfold inR; omega) (by omega) (by omega) ?_
          refine dw_if_ne (tgt := 115) (pc := 108) F dL_isShared_108 (by decide) (by unfold inR; omega) (fun c108 => ?_) (fun c108 => ?_)
          · refine dw_iconst (pc := 115) F dL_isShared_115 ?_
            refine dw_iadd (pc := 116) F dL_isShared_116 ?_
            refine dw_icmp_le (tgt := 122) (pc := 117) F dL_isShared_117 (by decide) (by unfold inR; omega) (by unfold inR; omega) (fun c117 => ?_) (fun c117 => absurd c117 (by omega))
            refine dw_iload4 (pc := 122) F dL_isShared_122 ?_
            refine dw_iload6 (pc := 124) F dL_isShared_124 ?_
            refine dw_iadd (pc := 126) F dL_isShared_126 ?_
            refine dw_istore4 (pc := 127) F dL_isShared_127 (by simp only [List.all_cons, List.all_nil, w6, w7]; rfl) hk.symm ?_
            refine dw_iinc5 (pc := 129) F dL_isShared_129 (by simp only [List.all_cons, List.all_nil, w6, w7]; rfl) hk.symm ?_
            refine dw_goto (tgt := 43) (pc := 132) F dL_isShared_132 (by decide) ?_
            exact ih (k + 1) _ _ _ _ rfl rfl (by omega) (by omega) (by omega) hts
          · refine dw_iconst (pc := 111) F dL_isShared_111 ?_
            refine dw_goto (tgt := 116) (pc := 112) F dL_isShared_112 (by decide) ?_
            refine dw_iadd (pc := 116) F dL_isShared_116 ?_
            refine dw_icmp_le (tgt := 122) (pc := 117) F dL_isShared_117 (by decide) (by unfold inR; omega) (by unfold inR; omega) (fun c117 => ?_) (fun c117 => absurd c117 (by omega))
            refine dw_iload4 (pc := 122) F dL_isShared_122 ?_
            refine dw_iload6 (pc := 124) F dL_isShared_124 ?_
            refine dw_iadd (pc := 126) F dL_isShared_126 ?_
            refine dw_istore4 (pc := 127) F dL_isShared_127 (by simp only [List.all_cons, List.all_nil, w6, w7]; rfl) hk.symm ?_
            refine dw_iinc5 (pc := 129) F dL_isShared_129 (by simp only [List.all_cons, List.all_nil, w6, w7]; rfl) hk.symm ?_
            refine dw_goto (tgt := 43) (pc := 132) F dL_isShared_132 (by decide) ?_
            exact ih (k + 1) _ _ _ _ rfl rfl (by omega) (by omega) (by omega) hts
    have loop1 : ∀ (f : Nat) (k : Nat) (al : Int) (u : Nat), (f : Int) + k = S 20 → u + 2 * f ≤ 40 → al = sumI (fun k => S (21 + 5 * k + 4)) k → DW X G ρ L L 15 [aR (9, 0, 0, 0), aR (8, 0, 0, 0), aI am, aI al, aI 0, aI k, aX, aX] [] (M1, Rf) u (EId X G ρ L 200 (fun v L' σ' => v = 1 ∧ LST S b L' σ' (c + 1))) := by
      intro f
      induction f with
      | zero =>
        intro k al u hf hu hal
        have ek : k = (S 20).toNat := by omega
        have hal2 : al = wts S := by rw [hal, ek]; rfl
        subst hal2
        refine dw_iload5 (pc := 15) F dL_isShared_15 ?_
        refine dw_aload0 (pc := 17) F dL_isShared_17 ?_
        refine dw_getI (pc := 18) F dL_isShared_18 fl_L_95 (by first | assumption | rfl) (by first | assumption | (simp [*]; done)) rfl nz4 ?_
        rw [q4]
        refine dw_icmp_ge (tgt := 40) (pc := 21) F dL_isShared_21 (by decide) (by unfold inR; omega) (by unfold inR; omega) (fun c21 => ?_) (fun c21 => absurd c21 (by omega))
        refine dw_iconst (pc := 40) F dL_isShared_40 ?_
        refine dw_istore5 (pc := 41) F dL_isShared_41 rfl hk.symm ?_
        exact loop2 (S 20).toNat 0 0 _ _ _ rfl rfl (by omega) (by omega) (by omega) rfl
      | succ f ih =>
        intro k al u hf hu hal
        have e21 : al + S (21 + 5 * (k : Int) + 4) = sumI (fun k => S (21 + 5 * k + 4)) (k + 1) := by
          show _ = sumI (fun k => S (21 + 5 * k + 4)) k + S (21 + 5 * (k : Int) + 4)
          rw [hal]
        refine dw_iload5 (pc := 15) F dL_isShared_15 ?_
        refine dw_aload0 (pc := 17) F dL_isShared_17 ?_
        refine dw_getI (pc := 18) F dL_isShared_18 fl_L_95 (by first | assumption | rfl) (by first | assumption | (simp [*]; done)) rfl nz4 ?_
        rw [q4]
        refine dw_icmp_ge (tgt := 40) (pc := 21) F dL_isShared_21 (by decide) (by unfold inR; omega) (by unfold inR; omega) (fun c21 => absurd c21 (by omega)) (fun c21 => ?_)
        refine dw_iload3 (pc := 24) F dL_isShared_24 ?_
        refine dw_aload1 (pc := 25) F dL_isShared_25 ?_
        refine dw_iload5 (pc := 26) F dL_isShared_26 ?_
        refine dw_iconst (pc := 28) F dL_isShared_28 ?_
        refine dw_cp (as := [_, _]) (pc := 29) F dL_isShared_29 ml_L_113 (ct8_span0 _ _ S _ _ hCC.1 hCC.2.1 (by omega) (by omega)) hCL hCR (fun v σ9 z => z) (Nat.le_of_ble_eq_true rfl) (by decide) (by omega) ?_
        refine dw_iadd (pc := 32) F dL_isShared_32 ?_
        refine dw_istore3 (pc := 33) F dL_isShared_33 rfl hk.symm ?_
        refine dw_iinc5 (pc := 34) F dL_isShared_34 rfl hk.symm ?_
        refine dw_goto (tgt := 15) (pc := 37) F dL_isShared_37 (by decide) ?_
        exact ih (k + 1) _ _ (by omega) (by omega) e21
    refine dw_iconst (pc := 7) F dL_isShared_7 ?_
    refine dw_istore3 (pc := 8) F dL_isShared_8 rfl hk.symm ?_
    refine dw_iconst (pc := 9) F dL_isShared_9 ?_
    refine dw_istore4 (pc := 10) F dL_isShared_10 rfl hk.symm ?_
    refine dw_iconst (pc := 12) F dL_isShared_12 ?_
    refine dw_istore5 (pc := 13) F dL_isShared_13 rfl hk.symm ?_
    exact loop1 (S 20).toNat 0 0 _ (by omega) (by omega) rfl
  refine dw_aload0 (pc := 0) F dL_isShared_0 ?_
  refine dw_bipush (pc := 1) F dL_isShared_1 (by decide) ?_
  refine dw_callVI (as := [_]) (pc := 3) F dL_isShared_3 ml_L_55 (by first | assumption | rfl) (by first | assumption | exact Or.inl (by first | assumption | (simp [*]; done))) (cdL_chosen _ _ _ _ _ hw hr0 ⟨hat.1, by omega⟩ (by omega)) (Nat.le_of_ble_eq_true rfl) (by decide) (by omega) (fun v9 L9 s9 h9 hLE9 => ?_)
  obtain ⟨hv9, hLe, rfl⟩ := h9
  replace hLe := hLe.symm
  subst hLe
  refine dw_istore2 (pc := 6) F dL_isShared_6 rfl hk.symm ?_
  exact main v9 _ hv9 hS.ch
