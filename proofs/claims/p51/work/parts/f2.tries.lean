/-! f2: the law's tries -/
def FQ (S : Int → Int) (L : List Id4) (M : Id4 → Int → Int) (R : Id4 → Int → Option Id4) (k : Int) (st : StT) : Prop := ∃ q, R (9, 0, 0, 0) k = some q ∧ (q ∈ L ∧ q.1 = 12) ∧ ((st.1 = -1 ∧ kd q = .inr (0, 0)) ∨ (¬ st.1 = -1 ∧ kd q = .inr (0, (S 1).toNat) ∧ ∀ j, 0 ≤ j → j < S 1 → M q j = st.2 j))
def TRI (S : Int → Int) (b : Bool) (L : List Id4) (M : Id4 → Int → Int) (R : Id4 → Int → Option Id4) (s1 s0 : StT) : Prop := CLd L ∧ CRx b R ∧ CC S M ∧ (9, 0, 0, 0) ∈ L ∧ WF S M ∧ FQ S L M R 5 s1 ∧ FQ S L M R 6 s0 ∧ (¬ s0.1 = -1 → M (9, 0, 0, 0) 7 = s0.1)
theorem FQ.k12 {S : Int → Int} {L L' : List Id4} {M M' : Id4 → Int → Int} {R R' : Id4 → Int → Option Id4} {k : Int} {st : StT} (h : FQ S L M R k st) (hL : LE L L') (hw : (9, 0, 0, 0) ∈ L) (hk : K12 L (M, R) (M', R')) : FQ S L' M' R' k st := by
  obtain ⟨q, h1, h2, h3⟩ := h
  obtain ⟨w1, w2⟩ := hk (9, 0, 0, 0) (Or.inr hw)
  obtain ⟨w3, -⟩ := hk q (Or.inr h2.1)
  exact ⟨q, (congrFun w2 k).trans h1, ⟨hL _ h2.1, h2.2⟩, h3.imp id (fun z => ⟨z.1, z.2.1, fun j j0 j1 => (congrFun w3 j).trans (z.2.2 j j0 j1)⟩)⟩
theorem TRI.k12 {S : Int → Int} {b : Bool} {L L' : List Id4} {M M' : Id4 → Int → Int} {R R' : Id4 → Int → Option Id4} {s1 s0 : StT} (h : TRI S b L M R s1 s0) (hL : LE L L') (hC : CLd L') (hk : K12 L (M, R) (M', R')) : TRI S b L' M' R' s1 s0 := by
  obtain ⟨h1, h2, h3, h4, h5, h6, h7, h8⟩ := h
  obtain ⟨w1, w2⟩ := hk (9, 0, 0, 0) (Or.inr h4)
  exact ⟨hC, fun q hq => ((hk q (Or.inl (by omega))).2).trans (h2 q hq), h3.cls (fun q hq => (hk q (Or.inl (by omega))).1), hL _ h4, h5.of w1, h6.k12 hL h4 hk, h7.k12 hL h4 hk, fun z => (congrFun w1 7).trans (h8 z)⟩
theorem TRI.p5 {S : Int → Int} {b : Bool} {L : List Id4} {M : Id4 → Int → Int} {R : Id4 → Int → Option Id4} {s1 s0 st : StT} {T : Id4} (h : TRI S b L M R s1 s0) (hT : T ∈ L ∧ T.1 = 12) (hkT : kd T = .inr (0, (S 1).toNat)) (hs : ¬ st.1 = -1) (hv : ∀ j, 0 ≤ j → j < S 1 → M T j = st.2 j) : TRI S b L M (updR R (9, 0, 0, 0) 5 (some T)) st s0 := by
  obtain ⟨h1, h2, h3, h4, h5, h6, ⟨q, g1, g2, g3⟩, h8⟩ := h
  exact ⟨h1, h2.u (by decide), h3, h4, h5, ⟨T, updR_at, hT, Or.inr ⟨hs, hkT, hv⟩⟩, ⟨q, (if_neg (fun z => absurd z.2 (by decide)) : updR R (9, 0, 0, 0) 5 (some T) (9, 0, 0, 0) 6 = R (9, 0, 0, 0) 6).trans g1, g2, g3⟩, h8⟩
theorem TRI.p6 {S : Int → Int} {b : Bool} {L : List Id4} {M : Id4 → Int → Int} {R : Id4 → Int → Option Id4} {s1 s0 st : StT} {T : Id4} (h : TRI S b L M R s1 s0) (hT : T ∈ L ∧ T.1 = 12) (hkT : kd T = .inr (0, (S 1).toNat)) (hs : ¬ st.1 = -1) (hv : ∀ j, 0 ≤ j → j < S 1 → M T j = st.2 j) : TRI S b L (updM M (9, 0, 0, 0) 7 st.1) (updR R (9, 0, 0, 0) 6 (some T)) s1 st := by
  obtain ⟨h1, h2, h3, h4, h5, ⟨q, g1, g2, g3⟩, -, h8⟩ := h
  have ne : ∀ (x : Id4) (n : Nat), kd x = .inr (0, n) → x ≠ (9, 0, 0, 0) := fun x n hx z => by rw [z] at hx; cases hx
  refine ⟨h1, h2.u (by decide), h3.u (by decide), h4, h5.u1 (by omega), ⟨q, (if_neg (fun z => absurd z.2 (by decide)) : updR R (9, 0, 0, 0) 6 (some T) (9, 0, 0, 0) 5 = R (9, 0, 0, 0) 5).trans g1, g2, ?_⟩, ⟨T, updR_at, hT, Or.inr ⟨hs, hkT, fun j j0 j1 => ?_⟩⟩, fun _ => upd_same⟩
  · refine g3.imp id (fun z => ⟨z.1, z.2.1, fun j j0 j1 => ?_⟩)
    rw [updM_ne (ne q _ z.2.1)]
    exact z.2.2 j j0 j1
  · rw [updM_ne (ne T _ hkT)]
    exact hv j j0 j1
theorem FO_bd {S : Int → Int} (h : Ok S) {first : Int} : ∀ m : Nat, (FO S first m).1 = -1 ∨ (0 ≤ (FO S first m).1 ∧ (FO S first m).1 < 1048576)
  | 0 => Or.inl rfl
  | m + 1 => by
    by_cases hk : KEPT S (tL S m)
    · by_cases hw : wnt first (FO S first m) (CT S (tL S m))
      · rw [FO_yes h hk hw]
        exact Or.inr (CT_lt h)
      · rw [FO_not hw]
        exact FO_bd h m
    · rw [FO_no h hk]
      exact FO_bd h m
theorem tL_dig {S : Int → Int} {n : Nat} {e : Int} (h0 : 1 ≤ e) (h1 : e < S 1) : tL S n e = ((n / (S 0).toNat ^ ((S 1).toNat - 1 - e.toNat) % (S 0).toNat : Nat) : Int) := by
  unfold tL tD
  rw [if_pos (by omega), show (S 1).toNat - 1 - 1 - (e - ((1 : Nat) : Int)).toNat = (S 1).toNat - 1 - e.toNat by omega]
set_option maxRecDepth 100000 in
set_option maxHeartbeats 4000000 in
theorem cdL_tries (sx : Sx) (S : Int → Int) (L : List Id4) (M : Id4 → Int → Int) (Rf : Id4 → Int → Option Id4) (b : Bool) (hS : TRI S b L M Rf (-1, fun _ => 0) (-1, fun _ => 0)) : CdV sx 16 1400 yL_tries cL_tries 10 none [aR (9, 0, 0, 0), aR (8, 0, 0, 0)] L (M, Rf) (fun L' σ' => TRI S b L' σ'.1 σ'.2 (goS S 1) (goS S 0)) := by
  have hok := hS.2.2.1.2.1
  obtain ⟨-, hp, hE, hN⟩ := id hS.2.2.2.2.1
  have hpw : ∀ e : Nat, e ≤ 4 → (S 0).toNat ^ e ≤ 1296 := fun e he => Nat.le_trans (Nat.pow_le_pow_left (show (S 0).toNat ≤ 6 by omega) e) (Nat.le_trans (Nat.pow_le_pow_right (show 0 < 6 by omega) he) (by decide))
  have hall := hpw ((S 1).toNat - 1) (by omega)
  have hal9 : nAll S = (S 0).toNat ^ ((S 1).toNat - 1) := rfl
  rw [← hal9] at hall
  refine CdV.mk (by decide +kernel) rfl (Nat.le_of_ble_eq_true rfl) (fun X G ρ F hk hsx => ?_)
  subst hsx
  have main : ∀ (f n : Nat) (L1 : List Id4) (M1 : Id4 → Int → Int) (R1 : Id4 → Int → Option Id4) (a4 a5 a6 a7 a8 a9 : AV) (u : Nat), wide a4 = false → wide a5 = false → wide a6 = false → wide a7 = false → wide a8 = false → wide a9 = false → n + f = nAll S → u + f ≤ 1400 → TRI S b L1 M1 R1 (FO S 1 n) (FO S 0 n) → DW X G ρ L L1 27 [aR (9, 0, 0, 0), aR (8, 0, 0, 0), aI (nAll S : Nat), aI n, a4, a5, a6, a7, a8, a9] [] (M1, R1) u (EVd X G ρ L 1400 (fun L' σ' => TRI S b L' σ'.1 σ'.2 (goS S 1) (goS S 0))) := by
    intro f
    induction f with
    | zero =>
      intro n L1 M1 R1 a4 a5 a6 a7 a8 a9 u w4 w5 w6 w7 w8 w9 hn hu hT1
      refine dw_iload3 (pc := 27) F dL_tries_27 ?_
      refine dw_iload2 (pc := 28) F dL_tries_28 ?_
      refine dw_icmp_ge (tgt := 234) (pc := 29) F dL_tries_29 (by decide) (by unfold inR; omega) (by unfold inR; omega) (fun c29 => ?_) (fun c29 => absurd c29 (by omega))
      exact dw_vret (pc := 234) F dL_tries_234 (by omega) (by rw [goS_FO hok (by omega), goS_FO hok (by omega), ← show n = nAll S by omega]; exact hT1)
    | succ f ih =>
      intro n L1 M1 R1 a4 a5 a6 a7 a8 a9 u w4 w5 w6 w7 w8 w9 hn hu hT1
      obtain ⟨hCL, hCR, hCC, hw, hWF, -⟩ := id hT1
      obtain ⟨⟨q2, q3, q4⟩, -⟩ := id hWF
      obtain ⟨tau, htau⟩ : ∃ tau, tau = tL S n := ⟨_, rfl⟩
      have htb : ∀ j, 0 ≤ j → j < S 1 → 0 ≤ tau j ∧ tau j < S 0 := fun j j0 j1 => by rw [htau]; exact tL_bd hok (by omega) j0 j1
      have after : ∀ (T : Id4) (L2 : List Id4) (M2 : Id4 → Int → Int) (R2 : Id4 → Int → Option Id4) (lf g co : Int) (a8 a9 : AV) (u : Nat), wide a8 = false → wide a9 = false → u + f ≤ 1400 → TRI S b L2 M2 R2 (FO S 1 n) (FO S 0 n) → (T ∈ L2 ∧ T.1 = 12) → kd T = .inr (0, (S 1).toNat) → (∀ j, 0 ≤ j → j < S 1 → M2 T j = tau j) → (g = 1 ∧ KEPT S tau ∧ co = CT S tau) ∨ (g = 0 ∧ ¬ KEPT S tau) → DW X G ρ L L2 174 [aR (9, 0, 0, 0), aR (8, 0, 0, 0), aI (nAll S : Nat), aI n, aR T, aI lf, aI g, aI co, a8, a9] [] (M2, R2) u (EVd X G ρ L 1400 (fun L' σ' => TRI S b L' σ'.1 σ'.2 (goS S 1) (goS S 0))) := by
        intro T L2 M2 R2 lf g co a8 a9 u w8 w9 hu hT2 hTm hkT hTv hg
        rcases hg with ⟨rfl, hkp, rfl⟩ | ⟨rfl, hkp⟩
        · have hct := CT_lt hok (tau := tau)
          have hkp' : KEPT S (tL S n) := htau ▸ hkp
          have part2 : ∀ (R3 : Id4 → Int → Option Id4) (u : Nat), u + f ≤ 1400 → TRI S b L2 M2 R3 (FO S 1 (n + 1)) (FO S 0 n) → DW X G ρ L L2 196 [aR (9, 0, 0, 0), aR (8, 0, 0, 0), aI (nAll S : Nat), aI n, aR T, aI lf, aI 1, aI (CT S tau), a8, a9] [] (M2, R3) u (EVd X G ρ L 1400 (fun L' σ' => TRI S b L' σ'.1 σ'.2 (goS S 1) (goS S 0))) := by
            intro R3 u hu hT3
            obtain ⟨-, -, -, hw, -, -, ⟨q6, g1, g2, g3⟩, h7⟩ := id hT3
            have hbd := FO_bd hok (first := 0) n
            have yes : wnt 0 (FO S 0 n) (CT S tau) → TRI S b L2 (updM M2 (9, 0, 0, 0) 7 (CT S tau)) (updR R3 (9, 0, 0, 0) 6 (some T)) (FO S 1 (n + 1)) (FO S 0 (n + 1)) := fun z => by
              rw [htau] at z
              rw [FO_yes (first := 0) hok hkp' z, ← htau]
              exact hT3.p6 (st := (CT S tau, tau)) hTm hkT (by show ¬ CT S tau = -1; omega) hTv
            rcases g3 with ⟨e1, e2⟩ | ⟨e1, e2, -⟩
            · have hT4 := yes (Or.inl e1)
              refine dw_aload0 (pc := 196) F dL_tries_196 ?_
              refine dw_getR (pc := 197) F dL_tries_197 fl_L_16 (by first | assumption | rfl) (by first | assumption | (simp [*]; done)) rfl nz6 (by assumption) ?_
              refine dw_alen (pc := 200) F dL_tries_200 e2 (by decide) g2.1 rfl ?_
              refine dw_if_le (tgt := 216) (pc := 201) F dL_tries_201 (by decide) (by unfold inR; omega) (fun c201 => ?_) (fun c201 => absurd c201 (by omega))
              refine dw_aload0 (pc := 216) F dL_tries_216 ?_
              refine dw_aload4 (pc := 217) F dL_tries_217 ?_
              refine dw_putR (pc := 219) F dL_tries_219 fl_L_16 pg_9_6 (by first | assumption | rfl) (by first | assumption | (simp [*]; done)) rfl nz6 ?_
              refine dw_aload0 (pc := 222) F dL_tries_222 ?_
              refine dw_iload7 (pc := 223) F dL_tries_223 ?_
              refine dw_putI (pc := 225) F dL_tries_225 fl_L_197 pg_9_7 (by first | assumption | rfl) (by first | assumption | (simp [*]; done)) rfl nz7 ?_
              refine dw_iinc3 (pc := 228) F dL_tries_228 (by simp only [List.all_cons, List.all_nil, w8, w9]; rfl) hk.symm ?_
              refine dw_goto (tgt := 27) (pc := 231) F dL_tries_231 (by decide) ?_
              exact ih (n + 1) _ _ _ _ _ _ _ _ _ _ rfl rfl rfl rfl w8 w9 (by omega) (by omega) hT4
            · have h7' := h7 e1
              by_cases hlt : CT S tau < (FO S 0 n).1
              · have hT4 := yes (Or.inr ⟨rfl, hlt⟩)
                refine dw_aload0 (pc := 196) F dL_tries_196 ?_
                refine dw_getR (pc := 197) F dL_tries_197 fl_L_16 (by first | assumption | rfl) (by first | assumption | (simp [*]; done)) rfl nz6 (by assumption) ?_
                refine dw_alen (pc := 200) F dL_tries_200 e2 (by decide) g2.1 rfl ?_
                refine dw_if_le (tgt := 216) (pc := 201) F dL_tries_201 (by decide) (by unfold inR; omega) (fun c201 => absurd c201 (by omega)) (fun c201 => ?_)
                refine dw_iload7 (pc := 204) F dL_tries_204 ?_
                refine dw_aload0 (pc := 206) F dL_tries_206 ?_
                refine dw_getI (pc := 207) F dL_tries_207 fl_L_197 (by first | assumption | rfl) (by first | assumption | (simp [*]; done)) rfl nz7 ?_
                rw [h7']
                refine dw_icmp_lt (tgt := 216) (pc := 210) F dL_tries_210 (by decide) (by unfold inR; omega) (by unfold inR; omega) (fun c210 => ?_) (fun c210 => absurd c210 (by omega))
                refine dw_aload0 (pc := 216) F dL_tries_216 ?_
                refine dw_aload4 (pc := 217) F dL_tries_217 ?_
                refine dw_putR (pc := 219) F dL_tries_219 fl_L_16 pg_9_6 (by first | assumption | rfl) (by first | assumption | (simp [*]; done)) rfl nz6 ?_
                refine dw_aload0 (pc := 222) F dL_tries_222 ?_
                refine dw_iload7 (pc := 223) F dL_tries_223 ?_
                refine dw_putI (pc := 225) F dL_tries_225 fl_L_197 pg_9_7 (by first | assumption | rfl) (by first | assumption | (simp [*]; done)) rfl nz7 ?_
                refine dw_iinc3 (pc := 228) F dL_tries_228 (by simp only [List.all_cons, List.all_nil, w8, w9]; rfl) hk.symm ?_
                refine dw_goto (tgt := 27) (pc := 231) F dL_tries_231 (by decide) ?_
                exact ih (n + 1) _ _ _ _ _ _ _ _ _ _ rfl rfl rfl rfl w8 w9 (by omega) (by omega) hT4
              · have hno : FO S 0 (n + 1) = FO S 0 n := FO_not (fun z => by
                  rw [← htau] at z
                  exact z.elim e1 (fun z => hlt z.2))
                rw [← hno] at hT3
                refine dw_aload0 (pc := 196) F dL_tries_196 ?_
                refine dw_getR (pc := 197) F dL_tries_197 fl_L_16 (by first | assumption | rfl) (by first | assumption | (simp [*]; done)) rfl nz6 (by assumption) ?_
                refine dw_alen (pc := 200) F dL_tries_200 e2 (by decide) g2.1 rfl ?_
                refine dw_if_le (tgt := 216) (pc := 201) F dL_tries_201 (by decide) (by unfold inR; omega) (fun c201 => absurd c201 (by omega)) (fun c201 => ?_)
                refine dw_iload7 (pc := 204) F dL_tries_204 ?_
                refine dw_aload0 (pc := 206) F dL_tries_206 ?_
                refine dw_getI (pc := 207) F dL_tries_207 fl_L_197 (by first | assumption | rfl) (by first | assumption | (simp [*]; done)) rfl nz7 ?_
                rw [h7']
                refine dw_icmp_lt (tgt := 216) (pc := 210) F dL_tries_210 (by decide) (by unfold inR; omega) (by unfold inR; omega) (fun c210 => absurd c210 (by omega)) (fun c210 => ?_)
                refine dw_goto (tgt := 228) (pc := 213) F dL_tries_213 (by decide) ?_
                refine dw_iinc3 (pc := 228) F dL_tries_228 (by simp only [List.all_cons, List.all_nil, w8, w9]; rfl) hk.symm ?_
                refine dw_goto (tgt := 27) (pc := 231) F dL_tries_231 (by decide) ?_
                exact ih (n + 1) _ _ _ _ _ _ _ _ _ _ rfl rfl rfl rfl w8 w9 (by omega) (by omega) hT3
          obtain ⟨-, -, -, hw, -, ⟨q5, g1, g2, g3⟩, -, -⟩ := id hT2
          rcases g3 with ⟨e1, e2⟩ | ⟨e1, e2, -⟩
          · have hT3 : TRI S b L2 M2 (updR R2 (9, 0, 0, 0) 5 (some T)) (FO S 1 (n + 1)) (FO S 0 n) := by
              rw [FO_yes (first := 1) hok hkp' (Or.inl e1), ← htau]
              exact hT2.p5 (st := (CT S tau, tau)) hTm hkT (by show ¬ CT S tau = -1; omega) hTv
            refine dw_iload6 (pc := 174) F dL_tries_174 ?_
            refine dw_if_ne (tgt := 182) (pc := 176) F dL_tries_176 (by decide) (by unfold inR; omega) (fun c176 => ?_) (fun c176 => absurd c176 (by decide))
            refine dw_aload0 (pc := 182) F dL_tries_182 ?_
            refine dw_getR (pc := 183) F dL_tries_183 fl_L_13 (by first | assumption | rfl) (by first | assumption | (simp [*]; done)) rfl nz5 (by assumption) ?_
            refine dw_alen (pc := 186) F dL_tries_186 e2 (by decide) g2.1 rfl ?_
            refine dw_if_ne (tgt := 196) (pc := 187) F dL_tries_187 (by decide) (by unfold inR; omega) (fun c187 => absurd c187 (by omega)) (fun c187 => ?_)
            refine dw_aload0 (pc := 190) F dL_tries_190 ?_
            refine dw_aload4 (pc := 191) F dL_tries_191 ?_
            refine dw_putR (pc := 193) F dL_tries_193 fl_L_13 pg_9_5 (by first | assumption | rfl) (by first | assumption | (simp [*]; done)) rfl nz5 ?_
            exact part2 _ _ (by omega) hT3
          · have hno : FO S 1 (n + 1) = FO S 1 n := FO_not (fun z => z.elim e1 (fun z => absurd z.1 (by decide)))
            rw [← hno] at hT2
            refine dw_iload6 (pc := 174) F dL_tries_174 ?_
            refine dw_if_ne (tgt := 182) (pc := 176) F dL_tries_176 (by decide) (by unfold inR; omega) (fun c176 => ?_) (fun c176 => absurd c176 (by decide))
            refine dw_aload0 (pc := 182) F dL_tries_182 ?_
            refine dw_getR (pc := 183) F dL_tries_183 fl_L_13 (by first | assumption | rfl) (by first | assumption | (simp [*]; done)) rfl nz5 (by assumption) ?_
            refine dw_alen (pc := 186) F dL_tries_186 e2 (by decide) g2.1 rfl ?_
            refine dw_if_ne (tgt := 196) (pc := 187) F dL_tries_187 (by decide) (by unfold inR; omega) (fun c187 => ?_) (fun c187 => absurd c187 (by omega))
            exact part2 _ _ (by omega) hT2
        · have hkp' : ¬ KEPT S (tL S n) := htau ▸ hkp
          rw [← FO_no (first := 1) hok hkp', ← FO_no (first := 0) hok hkp'] at hT2
          refine dw_iload6 (pc := 174) F dL_tries_174 ?_
          refine dw_if_ne (tgt := 182) (pc := 176) F dL_tries_176 (by decide) (by unfold inR; omega) (fun c176 => absurd c176 (by decide)) (fun c176 => ?_)
          refine dw_goto (tgt := 228) (pc := 179) F dL_tries_179 (by decide) ?_
          refine dw_iinc3 (pc := 228) F dL_tries_228 (by simp only [List.all_cons, List.all_nil, w8, w9]; rfl) hk.symm ?_
          refine dw_goto (tgt := 27) (pc := 231) F dL_tries_231 (by decide) ?_
          exact ih (n + 1) _ _ _ _ _ _ _ _ _ _ rfl rfl rfl rfl w8 w9 (by omega) (by omega) hT2
      have costs : ∀ (T : Id4) (L2 : List Id4) (M2 : Id4 → Int → Int) (R2 : Id4 → Int → Option Id4) (lf : Int), TRI S b L2 M2 R2 (FO S 1 n) (FO S 0 n) → (T ∈ L2 ∧ T.1 = 12) → kd T = .inr (0, (S 1).toNat) → (∀ j, 0 ≤ j → j < S 1 → M2 T j = tau j) → ∀ (g9 : Nat) (k g co : Int) (a9 : AV) (u : Nat), wide a9 = false → u + f ≤ 1400 → k + g9 = S 20 → 0 ≤ k → (g = 1 ∧ (∀ j, 0 ≤ j → j < k → slBy S j (tau (S (21 + 5 * j + 1)) - tau (S (21 + 5 * j + 0))) ≤ S (21 + 5 * j + 3) - S (21 + 5 * j + 2)) ∧ co = sumI (fun j => spC S tau j) k.toNat) ∨ (g = 0 ∧ ¬ KEPT S tau) → DW X G ρ L L2 101 [aR (9, 0, 0, 0), aR (8, 0, 0, 0), aI (nAll S : Nat), aI n, aR T, aI lf, aI g, aI co, aI k, a9] [] (M2, R2) u (EVd X G ρ L 1400 (fun L' σ' => TRI S b L' σ'.1 σ'.2 (goS S 1) (goS S 0))) := by
        intro T L2 M2 R2 lf hT2 hTm hkT hTv
        obtain ⟨hCL, hCR, hCC, hw, hWF, -⟩ := id hT2
        obtain ⟨⟨q2, q3, q4⟩, -⟩ := id hWF
        have hTb : ∀ j, 0 ≤ j → j < S 1 → 0 ≤ M2 T j ∧ M2 T j ≤ 1000 := fun j j0 j1 => by
          have := htb j j0 j1
          rw [hTv j j0 j1]
          omega
        intro g9
        induction g9 with
        | zero =>
          intro k g co a9 u w9 hu hk9 hk0 hg
          have hg' : (g = 1 ∧ KEPT S tau ∧ co = CT S tau) ∨ (g = 0 ∧ ¬ KEPT S tau) := hg.imp (fun z => ⟨z.1, fun j j0 j1 => z.2.1 j j0 (by omega), by rw [CT_sum hok, z.2.2, show k = S 20 by omega]⟩) id
          refine dw_iload8 (pc := 101) F dL_tries_101 ?_
          refine dw_aload0 (pc := 103) F dL_tries_103 ?_
          refine dw_getI (pc := 104) F dL_tries_104 fl_L_95 (by first | assumption | rfl) (by first | assumption | (simp [*]; done)) rfl nz4 ?_
          rw [q4]
          refine dw_icmp_ge (tgt := 174) (pc := 107) F dL_tries_107 (by decide) (by unfold inR; omega) (by unfold inR; omega) (fun c107 => ?_) (fun c107 => absurd c107 (by omega))
          exact after T L2 M2 R2 lf g co _ _ _ rfl w9 (by omega) hT2 hTm hkT hTv hg'
        | succ g9 ihg =>
          intro k g co a9 u w9 hu hk9 hk0 hg
          have hkk : 0 ≤ k ∧ k < S 20 := by omega
          have hsp := hok.2.2.2.2 k hkk.1 hkk.2
          unfold SpOk at hsp
          have hslb := slBy_bd hok k (tau (S (21 + 5 * k + 1)) - tau (S (21 + 5 * k + 0)))
          rcases hg with ⟨rfl, hkp, hco⟩ | ⟨rfl, hkp⟩
          · have e23 : S (21 + 5 * k + 2) + slBy S k (tau (S (21 + 5 * k + 1)) - tau (S (21 + 5 * k + 0))) - S (21 + 5 * k + 2) = slBy S k (tau (S (21 + 5 * k + 1)) - tau (S (21 + 5 * k + 0))) := by omega
            have e24 : co + S (21 + 5 * k + 4) * slBy S k (tau (S (21 + 5 * k + 1)) - tau (S (21 + 5 * k + 0))) = sumI (fun j => spC S tau j) (k + 1).toNat := by
              rw [show (k + 1).toNat = k.toNat + 1 by omega]
              show _ = sumI (fun j => spC S tau j) k.toNat + spC S tau (k.toNat : Int)
              rw [hco, show ((k.toNat : Nat) : Int) = k by omega]
            refine dw_iload8 (pc := 101) F dL_tries_101 ?_
            refine dw_aload0 (pc := 103) F dL_tries_103 ?_
            refine dw_getI (pc := 104) F dL_tries_104 fl_L_95 (by first | assumption | rfl) (by first | assumption | (simp [*]; done)) rfl nz4 ?_
            rw [q4]
            refine dw_icmp_ge (tgt := 174) (pc := 107) F dL_tries_107 (by decide) (by unfold inR; omega) (by unfold inR; omega) (fun c107 => absurd c107 (by omega)) (fun c107 => ?_)
            refine dw_iload6 (pc := 110) F dL_tries_110 ?_
            refine dw_if_eq (tgt := 174) (pc := 112) F dL_tries_112 (by decide) (by unfold inR; omega) (fun c112 => absurd c112 (by decide)) (fun c112 => ?_)
            refine dw_aload0 (pc := 115) F dL_tries_115 ?_
            refine dw_aload1 (pc := 116) F dL_tries_116 ?_
            refine dw_iload8 (pc := 117) F dL_tries_117 ?_
            refine dw_aload4 (pc := 119) F dL_tries_119 ?_
            refine dw_callVI (as := [_, _, _]) (pc := 121) F dL_tries_121 ml_L_155 (by first | assumption | rfl) (by first | assumption | exact Or.inl (by first | assumption | (simp [*]; done))) (cdL_duration _ S _ _ _ _ _ _ (S 1).toNat hCL hCR hCC hw hWF hkk hTm.1 hkT (by omega) hTb) (Nat.le_of_ble_eq_true rfl) (by decide) (by omega) (fun v9 L9 s9 h9 _ => ?_)
            obtain ⟨rfl, rfl, rfl⟩ := h9
            rw [hTv _ hsp.2.1.1 hsp.2.1.2, hTv _ hsp.1.1 hsp.1.2]
            refine dw_istore9 (pc := 124) F dL_tries_124 (by simp only [List.all_cons, List.all_nil, w9]; rfl) hk.symm ?_
            refine dw_iload9 (pc := 126) F dL_tries_126 ?_
            refine dw_aload1 (pc := 128) F dL_tries_128 ?_
            refine dw_iload8 (pc := 129) F dL_tries_129 ?_
            refine dw_iconst (pc := 131) F dL_tries_131 ?_
            refine dw_cp (as := [_, _]) (pc := 132) F dL_tries_132 ml_L_113 (ct8_span0 _ _ S _ _ hCC.1 hCC.2.1 (by omega) (by omega)) hCL hCR (fun v σ9 z => z) (Nat.le_of_ble_eq_true rfl) (by decide) (by omega) ?_
            refine dw_icmp_gt (tgt := 142) (pc := 135) F dL_tries_135 (by decide) (by unfold inR; omega) (by unfold inR; omega) (fun c135 => ?_) (fun c135 => ?_)
            · refine dw_iconst (pc := 142) F dL_tries_142 ?_
              refine dw_istore6 (pc := 143) F dL_tries_143 (by simp only [List.all_cons, List.all_nil, w9]; rfl) hk.symm ?_
              refine dw_iload7 (pc := 145) F dL_tries_145 ?_
              refine dw_aload1 (pc := 147) F dL_tries_147 ?_
              refine dw_iload8 (pc := 148) F dL_tries_148 ?_
              refine dw_iconst (pc := 150) F dL_tries_150 ?_
              refine dw_cp (as := [_, _]) (pc := 151) F dL_tries_151 ml_L_113 (ct8_span0 _ _ S _ _ hCC.1 hCC.2.1 (by omega) (by omega)) hCL hCR (fun v σ9 z => z) (Nat.le_of_ble_eq_true rfl) (by decide) (by omega) ?_
              refine dw_iload9 (pc := 154) F dL_tries_154 ?_
              refine dw_aload1 (pc := 156) F dL_tries_156 ?_
              refine dw_iload8 (pc := 157) F dL_tries_157 ?_
              refine dw_iconst (pc := 159) F dL_tries_159 ?_
              refine dw_cp (as := [_, _]) (pc := 160) F dL_tries_160 ml_L_113 (ct8_span0 _ _ S _ _ hCC.1 hCC.2.1 (by omega) (by omega)) hCL hCR (fun v σ9 z => z) (Nat.le_of_ble_eq_true rfl) (by decide) (by omega) ?_
              refine dw_isub (pc := 163) F dL_tries_163 ?_
              refine dw_imul (pc := 164) F dL_tries_164 ?_
              refine dw_iadd (pc := 165) F dL_tries_165 ?_
              refine dw_istore7 (pc := 166) F dL_tries_166 (by simp only [List.all_cons, List.all_nil, w9]; rfl) hk.symm ?_
              refine dw_iinc8 (pc := 168) F dL_tries_168 (by simp only [List.all_cons, List.all_nil, w9]; rfl) hk.symm ?_
              refine dw_goto (tgt := 101) (pc := 171) F dL_tries_171 (by decide) ?_
              rw [e23]
              first
                | exact ihg (k + 1) 1 _ _ _ rfl (by omega) (by omega) (by omega) (Or.inl ⟨rfl, fun j j0 j1 => by
                    by_cases z : j = k
                    · rw [z]; omega
                    · exact hkp j j0 (by omega), e24⟩)
                | exact ihg (k + 1) 0 _ _ _ rfl (by omega) (by omega) (by omega) (Or.inr ⟨rfl, fun z => absurd (z k hkk.1 hkk.2) (by show ¬ slBy S k (tau (S (21 + 5 * k + 1)) - tau (S (21 + 5 * k + 0))) ≤ S (21 + 5 * k + 3) - S (21 + 5 * k + 2); omega)⟩)
            · refine dw_iconst (pc := 138) F dL_tries_138 ?_
              refine dw_goto (tgt := 143) (pc := 139) F dL_tries_139 (by decide) ?_
              refine dw_istore6 (pc := 143) F dL_tries_143 (by simp only [List.all_cons, List.all_nil, w9]; rfl) hk.symm ?_
              refine dw_iload7 (pc := 145) F dL_tries_145 ?_
              refine dw_aload1 (pc := 147) F dL_tries_147 ?_
              refine dw_iload8 (pc := 148) F dL_tries_148 ?_
              refine dw_iconst (pc := 150) F dL_tries_150 ?_
              refine dw_cp (as := [_, _]) (pc := 151) F dL_tries_151 ml_L_113 (ct8_span0 _ _ S _ _ hCC.1 hCC.2.1 (by omega) (by omega)) hCL hCR (fun v σ9 z => z) (Nat.le_of_ble_eq_true rfl) (by decide) (by omega) ?_
              refine dw_iload9 (pc := 154) F dL_tries_154 ?_
              refine dw_aload1 (pc := 156) F dL_tries_156 ?_
              refine dw_iload8 (pc := 157) F dL_tries_157 ?_
              refine dw_iconst (pc := 159) F dL_tries_159 ?_
              refine dw_cp (as := [_, _]) (pc := 160) F dL_tries_160 ml_L_113 (ct8_span0 _ _ S _ _ hCC.1 hCC.2.1 (by omega) (by omega)) hCL hCR (fun v σ9 z => z) (Nat.le_of_ble_eq_true rfl) (by decide) (by omega) ?_
              refine dw_isub (pc := 163) F dL_tries_163 ?_
              refine dw_imul (pc := 164) F dL_tries_164 ?_
              refine dw_iadd (pc := 165) F dL_tries_165 ?_
              refine dw_istore7 (pc := 166) F dL_tries_166 (by simp only [List.all_cons, List.all_nil, w9]; rfl) hk.symm ?_
              refine dw_iinc8 (pc := 168) F dL_tries_168 (by simp only [List.all_cons, List.all_nil, w9]; rfl) hk.symm ?_
              refine dw_goto (tgt := 101) (pc := 171) F dL_tries_171 (by decide) ?_
              rw [e23]
              first
                | exact ihg (k + 1) 1 _ _ _ rfl (by omega) (by omega) (by omega) (Or.inl ⟨rfl, fun j j0 j1 => by
                    by_cases z : j = k
                    · rw [z]; omega
                    · exact hkp j j0 (by omega), e24⟩)
                | exact ihg (k + 1) 0 _ _ _ rfl (by omega) (by omega) (by omega) (Or.inr ⟨rfl, fun z => absurd (z k hkk.1 hkk.2) (by show ¬ slBy S k (tau (S (21 + 5 * k + 1)) - tau (S (21 + 5 * k + 0))) ≤ S (21 + 5 * k + 3) - S (21 + 5 * k + 2); omega)⟩)
          · skip
            refine dw_iload8 (pc := 101) F dL_tries_101 ?_
            refine dw_aload0 (pc := 103) F dL_tries_103 ?_
            refine dw_getI (pc := 104) F dL_tries_104 fl_L_95 (by first | assumption | rfl) (by first | assumption | (simp [*]; done)) rfl nz4 ?_
            rw [q4]
            refine dw_icmp_ge (tgt := 174) (pc := 107) F dL_tries_107 (by decide) (by unfold inR; omega) (by unfold inR; omega) (fun c107 => absurd c107 (by omega)) (fun c107 => ?_)
            refine dw_iload6 (pc := 110) F dL_tries_110 ?_
            refine dw_if_eq (tgt := 174) (pc := 112) F dL_tries_112 (by decide) (by unfold inR; omega) (fun c112 => ?_) (fun c112 => absurd c112 (by decide))
            exact after T L2 M2 R2 lf 0 co _ _ _ rfl w9 (by omega) hT2 hTm hkT hTv (Or.inr ⟨rfl, hkp⟩)
      refine dw_DI F (fun hI _ _ _ => ?_)
      have hf8 := hI.fresh (t := 12) (c := (S 1).toNat) (r := 0) (by decide)
      obtain ⟨T, hT⟩ : ∃ T : Id4, T = (12, (L1.length : Int), (S 1).toNat, 0) := ⟨_, rfl⟩
      have hT8 : T.1 = 12 := by rw [hT]
      have hkT : kd T = .inr (0, (S 1).toNat) := by rw [hT]; rfl
      rw [← hT] at hf8
      have hm : T ∈ L1 ++ [T] := List.mem_append_right _ List.mem_cons_self
      have hne : ∀ q : Id4, (q.1 ≠ 12 ∨ q ∈ L1) → q ≠ T := fun q hq z => hq.elim (fun y => y (by rw [z, hT8])) (fun y => hf8 (z ▸ y))
      have hCL2 : CLd (L1 ++ [T]) := by rw [hT]; exact hCL.app (by decide)
      have digits : ∀ (e : Nat) (M2 : Id4 → Int → Int) (u : Nat), (e : Int) ≤ S 1 - 1 → u + f ≤ 1400 → (∀ q, q ≠ T → M2 q = M1 q) → (∀ j : Int, (e : Int) < j → j < S 1 → M2 T j = tau j) → DW X G ρ L (L1 ++ [T]) 51 [aR (9, 0, 0, 0), aR (8, 0, 0, 0), aI (nAll S : Nat), aI n, aR T, aI ((n / (S 0).toNat ^ ((S 1).toNat - 1 - e) : Nat) : Int), aI e, a7, a8, a9] [] (M2, zR R1 T) u (EVd X G ρ L 1400 (fun L' σ' => TRI S b L' σ'.1 σ'.2 (goS S 1) (goS S 0))) := by
        intro e
        induction e with
        | zero =>
          intro M2 u he hu hO hV
          have hT2 : TRI S b (L1 ++ [T]) M2 (zR R1 T) (FO S 1 n) (FO S 0 n) := hT1.k12 LE.rf.app hCL2 (fun q hq => ⟨hO q (hne q hq), zR_ne (hne q hq)⟩)
          obtain ⟨hCL, hCR, hCC, hw, hWF, -⟩ := id hT2
          have hT3 : TRI S b (L1 ++ [T]) (updM M2 T 0 (S (14 + 0))) (zR R1 T) (FO S 1 n) (FO S 0 n) := hT1.k12 LE.rf.app hCL2 (fun q hq => ⟨(updM_ne (hne q hq)).trans (hO q (hne q hq)), zR_ne (hne q hq)⟩)
          refine dw_iload6 (pc := 51) F dL_tries_51 ?_
          refine dw_if_le (tgt := 83) (pc := 53) F dL_tries_53 (by decide) (by unfold inR; omega) (fun c53 => ?_) (fun c53 => absurd c53 (by omega))
          refine dw_aload4 (pc := 83) F dL_tries_83 ?_
          refine dw_iconst (pc := 85) F dL_tries_85 ?_
          refine dw_aload1 (pc := 86) F dL_tries_86 ?_
          refine dw_iconst (pc := 87) F dL_tries_87 ?_
          refine dw_cp (as := [_]) (pc := 88) F dL_tries_88 ml_L_106 (ct8_time0 _ _ S _ hCC.1 hCC.2.1 (by omega)) hCL hCR (fun v σ9 z => z) (Nat.le_of_ble_eq_true rfl) (by decide) (by omega) ?_
          refine dw_iast (pc := 91) F dL_tries_91 hkT hm (by omega) (by omega) ?_
          refine dw_iconst (pc := 92) F dL_tries_92 ?_
          refine dw_istore6 (pc := 93) F dL_tries_93 (by simp only [List.all_cons, List.all_nil, w7, w8, w9]; rfl) hk.symm ?_
          refine dw_iconst (pc := 95) F dL_tries_95 ?_
          refine dw_istore7 (pc := 96) F dL_tries_96 (by simp only [List.all_cons, List.all_nil, w7, w8, w9]; rfl) hk.symm ?_
          refine dw_iconst (pc := 98) F dL_tries_98 ?_
          refine dw_istore8 (pc := 99) F dL_tries_99 (by simp only [List.all_cons, List.all_nil, w7, w8, w9]; rfl) hk.symm ?_
          exact costs T _ _ _ _ hT3 ⟨hm, hT8⟩ hkT (fun j j0 j1 => by
            by_cases z : j = 0
            · rw [z, upd_same, htau, tL_0]; rfl
            · rw [upd_ne (Or.inr z)]; exact hV j (by omega) j1) (S 20).toNat 0 1 0 _ _ w9 (by omega) (by omega) (by omega) (Or.inl ⟨rfl, fun j j0 j1 => by omega, rfl⟩)
        | succ e ihe =>
          intro M2 u he hu hO hV
          have hw' : (9, 0, 0, 0) ∈ L1 ++ [T] := List.mem_append_left _ hw
          have h9 : M2 (9, 0, 0, 0) = M1 (9, 0, 0, 0) := hO _ (hne _ (Or.inl (by decide)))
          obtain ⟨lf, hlf⟩ : ∃ lf : Nat, lf = n / (S 0).toNat ^ ((S 1).toNat - 1 - (e + 1)) := ⟨_, rfl⟩
          have hlb : lf ≤ n := by rw [hlf]; exact Nat.div_le_self _ _
          have hs0 : (((S 0).toNat : Nat) : Int) = S 0 := by omega
          have e1 : ((lf : Int)).tmod (S 0) = ((lf % (S 0).toNat : Nat) : Int) := by
            rw [Int.tmod_eq_emod_of_nonneg (by omega), Int.natCast_emod, hs0]
          have e2 : ((lf : Int)).tdiv (S 0) = ((lf / (S 0).toNat : Nat) : Int) := by
            rw [Int.tdiv_eq_ediv_of_nonneg (by omega), Int.natCast_ediv, hs0]
          have e3 : lf / (S 0).toNat = n / (S 0).toNat ^ ((S 1).toNat - 1 - e) := by
            rw [hlf, Nat.div_div_eq_div_mul, ← Nat.pow_succ, show ((S 1).toNat - 1 - (e + 1)).succ = (S 1).toNat - 1 - e by omega]
          have e4 : tau ((e + 1 : Nat) : Int) = ((lf % (S 0).toNat : Nat) : Int) := by
            rw [htau, tL_dig (by omega) (by omega), hlf]
            rfl
          rw [← hlf]
          refine dw_iload6 (pc := 51) F dL_tries_51 ?_
          refine dw_if_le (tgt := 83) (pc := 53) F dL_tries_53 (by decide) (by unfold inR; omega) (fun c53 => absurd c53 (by omega)) (fun c53 => ?_)
          refine dw_aload4 (pc := 56) F dL_tries_56 ?_
          refine dw_iload6 (pc := 58) F dL_tries_58 ?_
          refine dw_iload5 (pc := 60) F dL_tries_60 ?_
          refine dw_aload0 (pc := 62) F dL_tries_62 ?_
          refine dw_getI (pc := 63) F dL_tries_63 fl_L_61 (by first | assumption | rfl) (by first | assumption | (simp [*]; done)) rfl nz2 ?_
          rw [h9, q2]
          refine dw_irem (pc := 66) F dL_tries_66 (by unfold inR; omega) (by unfold inR; omega) (by omega) (by omega) ?_
          refine dw_iast (pc := 67) F dL_tries_67 hkT hm (by omega) (by omega) ?_
          refine dw_iload5 (pc := 68) F dL_tries_68 ?_
          refine dw_aload0 (pc := 70) F dL_tries_70 ?_
          refine dw_getI (pc := 71) F dL_tries_71 fl_L_61 (by first | assumption | rfl) (by first | assumption | (simp [*]; done)) rfl nz2 ?_
          rw [updM_ne (hne _ (Or.inl (by decide))), h9, q2]
          refine dw_idiv (pc := 74) F dL_tries_74 (by unfold inR; omega) (by unfold inR; omega) (by omega) (by omega) ?_
          refine dw_istore5 (pc := 75) F dL_tries_75 (by simp only [List.all_cons, List.all_nil, w7, w8, w9]; rfl) hk.symm ?_
          refine dw_iinc6 (pc := 77) F dL_tries_77 (by simp only [List.all_cons, List.all_nil, w7, w8, w9]; rfl) hk.symm ?_
          refine dw_goto (tgt := 51) (pc := 80) F dL_tries_80 (by decide) ?_
          rw [e1, e2, e3, show ((e + 1 : Nat) : Int) + (-1) = (e : Int) by omega]
          refine ihe _ _ (by omega) (by omega) (fun q hq => (updM_ne hq).trans (hO q hq)) (fun j j0 j1 => ?_)
          by_cases z : j = ((e + 1 : Nat) : Int)
          · rw [z, upd_same, e4]
          · rw [upd_ne (Or.inr z)]; exact hV j (by omega) j1
      refine dw_iload3 (pc := 27) F dL_tries_27 ?_
      refine dw_iload2 (pc := 28) F dL_tries_28 ?_
      refine dw_icmp_ge (tgt := 234) (pc := 29) F dL_tries_29 (by decide) (by unfold inR; omega) (by unfold inR; omega) (fun c29 => absurd c29 (by omega)) (fun c29 => ?_)
      refine dw_aload0 (pc := 32) F dL_tries_32 ?_
      refine dw_getI (pc := 33) F dL_tries_33 fl_L_64 (by first | assumption | rfl) (by first | assumption | (simp [*]; done)) rfl nz3 ?_
      rw [q3]
      refine dw_newI (N := (S 1).toNat) (w := 1) F dL_tries_36 ac_0 (show S 1 = (((S 1).toNat : Nat) : Int) by omega) (by omega) (by omega) (by omega) ?_
      rw [← hT]
      refine dw_astore4 (pc := 38) F dL_tries_38 (by simp only [List.all_cons, List.all_nil, w4, w5, w6, w7, w8, w9]; rfl) hk.symm ?_
      refine dw_iload3 (pc := 40) F dL_tries_40 ?_
      refine dw_istore5 (pc := 41) F dL_tries_41 (by simp only [List.all_cons, List.all_nil, w4, w5, w6, w7, w8, w9]; rfl) hk.symm ?_
      refine dw_aload0 (pc := 43) F dL_tries_43 ?_
      refine dw_getI (pc := 44) F dL_tries_44 fl_L_64 (by first | assumption | rfl) (by first | assumption | (simp [*]; done)) rfl nz3 ?_
      rw [zM_ne (hne _ (Or.inl (by decide))), q3]
      refine dw_iconst (pc := 47) F dL_tries_47 ?_
      refine dw_isub (pc := 48) F dL_tries_48 ?_
      refine dw_istore6 (pc := 49) F dL_tries_49 (by simp only [List.all_cons, List.all_nil, w4, w5, w6, w7, w8, w9]; rfl) hk.symm ?_
      have e := digits ((S 1).toNat - 1) (zM M1 T) (u + 1) (by omega) (by omega) (fun q hq => zM_ne hq) (fun j j0 j1 => by omega)
      rw [Nat.sub_self, Nat.pow_zero, Nat.div_one, show (((S 1).toNat - 1 : Nat) : Int) = S 1 - 1 by omega] at e
      exact e
  obtain ⟨hCL, hCR, hCC, hw, hWF, -⟩ := id hS
  obtain ⟨⟨q2, q3, q4⟩, -⟩ := id hWF
  have loop0 : ∀ (f e : Nat) (u : Nat), f + e = (S 1).toNat → 1 ≤ e → u = 0 → DW X G ρ L L 4 [aR (9, 0, 0, 0), aR (8, 0, 0, 0), aI (((S 0).toNat ^ (e - 1) : Nat) : Int), aI e, aX, aX, aX, aX, aX, aX] [] (M, Rf) u (EVd X G ρ L 1400 (fun L' σ' => TRI S b L' σ'.1 σ'.2 (goS S 1) (goS S 0))) := by
    intro f
    induction f with
    | zero =>
      intro e u hf he hu
      have ee : e = (S 1).toNat := by omega
      subst ee
      refine dw_iload3 (pc := 4) F dL_tries_4 ?_
      refine dw_aload0 (pc := 5) F dL_tries_5 ?_
      refine dw_getI (pc := 6) F dL_tries_6 fl_L_64 (by first | assumption | rfl) (by first | assumption | (simp [*]; done)) rfl nz3 ?_
      rw [q3]
      refine dw_icmp_ge (tgt := 25) (pc := 9) F dL_tries_9 (by decide) (by unfold inR; omega) (by unfold inR; omega) (fun c9 => ?_) (fun c9 => absurd c9 (by omega))
      refine dw_iconst (pc := 25) F dL_tries_25 ?_
      refine dw_istore3 (pc := 26) F dL_tries_26 rfl hk.symm ?_
      exact main (nAll S) 0 _ _ _ _ _ _ _ _ _ _ rfl rfl rfl rfl rfl rfl (by omega) (by omega) hS
    | succ f ih =>
      intro e u hf he hu
      have e1 : (((S 0).toNat ^ (e - 1) : Nat) : Int) * S 0 = (((S 0).toNat ^ (e + 1 - 1) : Nat) : Int) := by
        rw [show e + 1 - 1 = e - 1 + 1 by omega, Nat.pow_succ, Int.natCast_mul, show (((S 0).toNat : Nat) : Int) = S 0 by omega]
      refine dw_iload3 (pc := 4) F dL_tries_4 ?_
      refine dw_aload0 (pc := 5) F dL_tries_5 ?_
      refine dw_getI (pc := 6) F dL_tries_6 fl_L_64 (by first | assumption | rfl) (by first | assumption | (simp [*]; done)) rfl nz3 ?_
      rw [q3]
      refine dw_icmp_ge (tgt := 25) (pc := 9) F dL_tries_9 (by decide) (by unfold inR; omega) (by unfold inR; omega) (fun c9 => absurd c9 (by omega)) (fun c9 => ?_)
      refine dw_iload2 (pc := 12) F dL_tries_12 ?_
      refine dw_aload0 (pc := 13) F dL_tries_13 ?_
      refine dw_getI (pc := 14) F dL_tries_14 fl_L_61 (by first | assumption | rfl) (by first | assumption | (simp [*]; done)) rfl nz2 ?_
      rw [q2]
      refine dw_imul (pc := 17) F dL_tries_17 ?_
      refine dw_istore2 (pc := 18) F dL_tries_18 rfl hk.symm ?_
      refine dw_iinc3 (pc := 19) F dL_tries_19 rfl hk.symm ?_
      refine dw_goto (tgt := 4) (pc := 22) F dL_tries_22 (by decide) ?_
      rw [e1]
      exact ih (e + 1) _ (by omega) (by omega) (by omega)
  refine dw_iconst (pc := 0) F dL_tries_0 ?_
  refine dw_istore2 (pc := 1) F dL_tries_1 rfl hk.symm ?_
  refine dw_iconst (pc := 2) F dL_tries_2 ?_
  refine dw_istore3 (pc := 3) F dL_tries_3 rfl hk.symm ?_
  exact loop0 ((S 1).toNat - 1) 1 _ (by omega) (by omega) rfl
