/-! f0: the law's test of differences -/
theorem pcN_s {x : Int} {d : Int} (hd : 0 ≤ d) : (pcN x (d.toNat + 1) : Int) = pcN x d.toNat + (if bit x d.toNat = true then 1 else 0) := by
  show ((pcN x d.toNat + (if bit x d.toNat then 1 else 0) : Nat) : Int) = _
  rw [Int.natCast_add]
  split <;> rfl
set_option maxRecDepth 100000 in
set_option maxHeartbeats 4000000 in
theorem cdL_areDiffs (sx : Sx) (S : Int → Int) (L : List Id4) (M : Id4 → Int → Int) (Rf : Id4 → Int → Option Id4) (b9 : Bool) (c : Int) (hS : LST S b9 L (M, Rf) c) (hc9 : c ≤ 1000) : CdI sx 17 3000 yL_areDifferences cL_areDifferences 10 (some .boolean) [aR (9, 0, 0, 0), aR (8, 0, 0, 0)] L (M, Rf) (fun v L' σ' => v = 1 ∧ LST S b9 L' σ' (c + 2)) := by
  have hok := hS.ex.2.2.1.2.1
  obtain ⟨-, hp, hE, hN⟩ := id hS.ex.2.2.2.2.1
  refine CdI.mk (by decide +kernel) rfl (Nat.le_of_ble_eq_true rfl) (fun X G ρ F hk hsx => ?_)
  subst hsx
  have main : ∀ (a b : Int), (0 ≤ a ∧ a < S 1) → (0 ≤ b ∧ b < S 1) → ∀ (f : Nat) (d many : Int) (L1 : List Id4) (M1 : Id4 → Int → Int) (R1 : Id4 → Int → Option Id4) (a6 a7 a8 a9 : AV) (u : Nat), wide a6 = false → wide a7 = false → wide a8 = false → wide a9 = false → LST S b9 L1 (M1, R1) (c + 2) → d + f = S 0 → 0 ≤ d → many = pcN (lyS S (6 * a + b)) d.toNat → 0 ≤ many ∧ many ≤ d → u + 450 * f + 20 ≤ 3000 → DW X G ρ L L1 24 [aR (9, 0, 0, 0), aR (8, 0, 0, 0), aI a, aI b, aI many, aI d, a6, a7, a8, a9] [] (M1, R1) u (EId X G ρ L 3000 (fun v L' σ' => v = 1 ∧ LST S b9 L' σ' (c + 2))) := by
    intro a b ha hb f
    induction f with
    | zero =>
      intro d many L1 M1 R1 a6 a7 a8 a9 u w6 w7 w8 w9 hS1 hf hd hmany hmb hu
      obtain ⟨hCL, hCR, hCC, hw, hWF, hr0, hat, hfc⟩ := hS1.ex
      obtain ⟨⟨q2, q3, q4⟩, -⟩ := id hWF
      have hm : many = alS S a b 0 := by rw [al_0 hok ha hb, hmany, show d.toNat = (S 0).toNat by omega]
      have hle := al_le (S := S) (a := a) (b := b)
      have hsy := al_sym hok (by omega) ha hb
      have b1 := al_bd (S := S) (a := a) (b := b) (t := 1)
      have b2 := al_bd (S := S) (a := b) (b := a) (t := 1)
      have b0 := al_bd (S := S) (a := a) (b := b) (t := 0)
      refine dw_iload5 (pc := 24) F dL_areDifferences_24 ?_
      refine dw_aload0 (pc := 26) F dL_areDifferences_26 ?_
      refine dw_getI (pc := 27) F dL_areDifferences_27 fl_L_61 (by first | assumption | rfl) (by first | assumption | (simp [*]; done)) rfl nz2 ?_
      rw [q2]
      refine dw_icmp_ge (tgt := 222) (pc := 30) F dL_areDifferences_30 (by decide) (by unfold inR; omega) (by unfold inR; omega) (fun c30 => ?_) (fun c30 => absurd c30 (by omega))
      refine dw_aload1 (pc := 222) F dL_areDifferences_222 ?_
      refine dw_iload2 (pc := 223) F dL_areDifferences_223 ?_
      refine dw_iload3 (pc := 224) F dL_areDifferences_224 ?_
      refine dw_iconst (pc := 225) F dL_areDifferences_225 ?_
      refine dw_cc (as := [_, _, _]) (pc := 226) F dL_areDifferences_226 ml_L_193 (CxI.ct (cx8_allowed _ _ S _ _ _ (by unfold inR; omega) (by unfold inR; omega) (by first | exact Or.inl rfl | exact Or.inr rfl) hCC.1 hCC.2.1) (fun E9 σ9 z => z.2.2 ⟨by omega, by omega⟩)) hCL hCR (fun v σ9 z => ⟨z.1, by obtain ⟨M9, e9, h9⟩ := z.2.2.2; exact ⟨M9, e9, pl_s8 hCC h9⟩⟩) (Nat.le_of_ble_eq_true rfl) (by decide) (by omega) (fun v9 M9 hv9 hCC9 hO9 => ?_)
      have hS1 := hS1.cc hCC9 hO9
      have hCC := hCC9
      have hv0 := hv9
      refine dw_iload4 (pc := 229) F dL_areDifferences_229 ?_
      refine dw_icmp_ne (tgt := 267) (pc := 231) F dL_areDifferences_231 (by decide) (by unfold inR; omega) (by unfold inR; omega) (fun c231 => absurd c231 (by omega)) (fun c231 => ?_)
      refine dw_aload1 (pc := 234) F dL_areDifferences_234 ?_
      refine dw_iload2 (pc := 235) F dL_areDifferences_235 ?_
      refine dw_iload3 (pc := 236) F dL_areDifferences_236 ?_
      refine dw_iconst (pc := 237) F dL_areDifferences_237 ?_
      refine dw_cc (as := [_, _, _]) (pc := 238) F dL_areDifferences_238 ml_L_193 (CxI.ct (cx8_allowed _ _ S _ _ _ (by unfold inR; omega) (by unfold inR; omega) (by first | exact Or.inl rfl | exact Or.inr rfl) hCC.1 hCC.2.1) (fun E9 σ9 z => z.2.2 ⟨by omega, by omega⟩)) hCL hCR (fun v σ9 z => ⟨z.1, by obtain ⟨M9, e9, h9⟩ := z.2.2.2; exact ⟨M9, e9, pl_s8 hCC h9⟩⟩) (Nat.le_of_ble_eq_true rfl) (by decide) (by omega) (fun v9 M9 hv9 hCC9 hO9 => ?_)
      have hS1 := hS1.cc hCC9 hO9
      have hCC := hCC9
      have hv1 := hv9
      refine dw_iload4 (pc := 241) F dL_areDifferences_241 ?_
      refine dw_icmp_gt (tgt := 267) (pc := 243) F dL_areDifferences_243 (by decide) (by unfold inR; omega) (by unfold inR; omega) (fun c243 => absurd c243 (by omega)) (fun c243 => ?_)
      refine dw_aload1 (pc := 246) F dL_areDifferences_246 ?_
      refine dw_iload2 (pc := 247) F dL_areDifferences_247 ?_
      refine dw_iload3 (pc := 248) F dL_areDifferences_248 ?_
      refine dw_iconst (pc := 249) F dL_areDifferences_249 ?_
      refine dw_cc (as := [_, _, _]) (pc := 250) F dL_areDifferences_250 ml_L_193 (CxI.ct (cx8_allowed _ _ S _ _ _ (by unfold inR; omega) (by unfold inR; omega) (by first | exact Or.inl rfl | exact Or.inr rfl) hCC.1 hCC.2.1) (fun E9 σ9 z => z.2.2 ⟨by omega, by omega⟩)) hCL hCR (fun v σ9 z => ⟨z.1, by obtain ⟨M9, e9, h9⟩ := z.2.2.2; exact ⟨M9, e9, pl_s8 hCC h9⟩⟩) (Nat.le_of_ble_eq_true rfl) (by decide) (by omega) (fun v9 M9 hv9 hCC9 hO9 => ?_)
      have hS1 := hS1.cc hCC9 hO9
      have hCC := hCC9
      have hv2 := hv9
      refine dw_aload1 (pc := 253) F dL_areDifferences_253 ?_
      refine dw_iload3 (pc := 254) F dL_areDifferences_254 ?_
      refine dw_iload2 (pc := 255) F dL_areDifferences_255 ?_
      refine dw_iconst (pc := 256) F dL_areDifferences_256 ?_
      refine dw_cc (as := [_, _, _]) (pc := 257) F dL_areDifferences_257 ml_L_193 (CxI.ct (cx8_allowed _ _ S _ _ _ (by unfold inR; omega) (by unfold inR; omega) (by first | exact Or.inl rfl | exact Or.inr rfl) hCC.1 hCC.2.1) (fun E9 σ9 z => z.2.2 ⟨by omega, by omega⟩)) hCL hCR (fun v σ9 z => ⟨z.1, by obtain ⟨M9, e9, h9⟩ := z.2.2.2; exact ⟨M9, e9, pl_s8 hCC h9⟩⟩) (Nat.le_of_ble_eq_true rfl) (by decide) (by omega) (fun v9 M9 hv9 hCC9 hO9 => ?_)
      have hS1 := hS1.cc hCC9 hO9
      have hCC := hCC9
      refine dw_icmp_ne (tgt := 267) (pc := 260) F dL_areDifferences_260 (by decide) (by unfold inR; omega) (by unfold inR; omega) (fun c260 => absurd c260 (by omega)) (fun c260 => ?_)
      refine dw_iconst (pc := 263) F dL_areDifferences_263 ?_
      refine dw_goto (tgt := 268) (pc := 264) F dL_areDifferences_264 (by decide) ?_
      exact dw_iret (pc := 268) F dL_areDifferences_268 (nar_bool (by first | exact b2i_01 | decide | omega)) (by omega) ⟨rfl, hS1⟩
    | succ f ih =>
      intro d many L1 M1 R1 a6 a7 a8 a9 u w6 w7 w8 w9 hS1 hf hd hmany hmb hu
      obtain ⟨hCL, hCR, hCC, hw, hWF, hr0, hat, hfc⟩ := hS1.ex
      obtain ⟨⟨q2, q3, q4⟩, -⟩ := id hWF
      -- behind the inner loop
      have after : ∀ (v : Int) (L2 : List Id4) (M2 : Id4 → Int → Int) (R2 : Id4 → Int → Option Id4) (a6 a8 a9 : AV) (u : Nat), wide a6 = false → wide a8 = false → wide a9 = false → LST S b9 L2 (M2, R2) (c + 2) → u + 450 * f + 30 ≤ 3000 → (v = 1 ∧ bit (lyS S (6 * a + b)) d.toNat = true) ∨ (v = 0 ∧ ¬ bit (lyS S (6 * a + b)) d.toNat = true) → DW X G ρ L L2 183 [aR (9, 0, 0, 0), aR (8, 0, 0, 0), aI a, aI b, aI many, aI d, a6, aI v, a8, a9] [] (M2, R2) u (EId X G ρ L 3000 (fun v L' σ' => v = 1 ∧ LST S b9 L' σ' (c + 2))) := by
        intro v L2 M2 R2 a6 a8 a9 u w6 w8 w9 hS2 hu hv
        obtain ⟨hCL, hCR, hCC, hw, hWF, hr0, hat, hfc⟩ := hS2.ex
        have hpc := pcN_s (x := lyS S (6 * a + b)) hd
        rcases hv with ⟨rfl, hbit⟩ | ⟨rfl, hbit⟩
        · rw [if_pos hbit] at hpc
          refine dw_iload4 (pc := 183) F dL_areDifferences_183 ?_
          refine dw_iload7 (pc := 185) F dL_areDifferences_185 ?_
          refine dw_if_eq (tgt := 194) (pc := 187) F dL_areDifferences_187 (by decide) (by unfold inR; omega) (fun c187 => absurd c187 (by decide)) (fun c187 => ?_)
          refine dw_iconst (pc := 190) F dL_areDifferences_190 ?_
          refine dw_goto (tgt := 195) (pc := 191) F dL_areDifferences_191 (by decide) ?_
          refine dw_iadd (pc := 195) F dL_areDifferences_195 ?_
          refine dw_istore4 (pc := 196) F dL_areDifferences_196 (by simp only [List.all_cons, List.all_nil, w6, w8, w9]; rfl) hk.symm ?_
          refine dw_iload7 (pc := 198) F dL_areDifferences_198 ?_
          refine dw_if_ne (tgt := 216) (pc := 200) F dL_areDifferences_200 (by decide) (by unfold inR; omega) (fun c200 => ?_) (fun c200 => absurd c200 (by decide))
          refine dw_iinc5 (pc := 216) F dL_areDifferences_216 (by simp only [List.all_cons, List.all_nil, w6, w8, w9]; rfl) hk.symm ?_
          refine dw_goto (tgt := 24) (pc := 219) F dL_areDifferences_219 (by decide) ?_
          exact ih _ _ _ _ _ _ _ _ _ _ w6 rfl w8 w9 hS2 (by omega) (by omega) (by rw [show (d + 1).toNat = d.toNat + 1 by omega, hpc, hmany]) (by omega) (by omega)
        · rw [if_neg hbit] at hpc
          have htg : b2i (bit (tgS S (6 * a + b)) d.toNat = true) = 0 := b2i_neg (fun z => hbit (tg_ly z))
          refine dw_iload4 (pc := 183) F dL_areDifferences_183 ?_
          refine dw_iload7 (pc := 185) F dL_areDifferences_185 ?_
          refine dw_if_eq (tgt := 194) (pc := 187) F dL_areDifferences_187 (by decide) (by unfold inR; omega) (fun c187 => ?_) (fun c187 => absurd c187 (by decide))
          refine dw_iconst (pc := 194) F dL_areDifferences_194 ?_
          refine dw_iadd (pc := 195) F dL_areDifferences_195 ?_
          refine dw_istore4 (pc := 196) F dL_areDifferences_196 (by simp only [List.all_cons, List.all_nil, w6, w8, w9]; rfl) hk.symm ?_
          refine dw_iload7 (pc := 198) F dL_areDifferences_198 ?_
          refine dw_if_ne (tgt := 216) (pc := 200) F dL_areDifferences_200 (by decide) (by unfold inR; omega) (fun c200 => absurd c200 (by decide)) (fun c200 => ?_)
          refine dw_aload1 (pc := 203) F dL_areDifferences_203 ?_
          refine dw_iload2 (pc := 204) F dL_areDifferences_204 ?_
          refine dw_iload3 (pc := 205) F dL_areDifferences_205 ?_
          refine dw_iload5 (pc := 206) F dL_areDifferences_206 ?_
          refine dw_cc (as := [_, _, _]) (pc := 208) F dL_areDifferences_208 ml_L_189 (CxI.ct (cx8_isAllowed _ _ S _ _ _ (by unfold inR; omega) (by unfold inR; omega) (by unfold inR; omega) hCC.1 hCC.2.1) (fun E9 σ9 z => by rcases z.2 with y | y; exact y.2 ⟨⟨by omega, by omega⟩, by omega, by omega⟩; exact y.2.2 ⟨by omega, by omega⟩)) hCL hCR (fun v σ9 z => ⟨z.1, by obtain ⟨M9, e9, h9⟩ := z.2.2.2.2; exact ⟨M9, e9, pl_s8 hCC h9⟩⟩) (Nat.le_of_ble_eq_true rfl) (by decide) (by omega) (fun v9 M9 hv9 hCC9 hO9 => ?_)
          have hS3 := hS2.cc hCC9 hO9
          rw [htg] at hv9
          subst hv9
          refine dw_if_eq (tgt := 216) (pc := 211) F dL_areDifferences_211 (by decide) (by unfold inR; omega) (fun c211 => ?_) (fun c211 => absurd c211 (by decide))
          refine dw_iinc5 (pc := 216) F dL_areDifferences_216 (by simp only [List.all_cons, List.all_nil, w6, w8, w9]; rfl) hk.symm ?_
          refine dw_goto (tgt := 24) (pc := 219) F dL_areDifferences_219 (by decide) ?_
          exact ih _ _ _ _ _ _ _ _ _ _ w6 rfl w8 w9 hS3 (by omega) (by omega) (by rw [show (d + 1).toNat = d.toNat + 1 by omega, hpc, hmany]) (by omega) (by omega)
      -- the inner loop, of two events
      have inner : a ≠ b → ∀ (T : Id4) (n : Nat) (L2 : List Id4) (M2 : Id4 → Int → Int) (R2 : Id4 → Int → Option Id4), LST S b9 L2 (M2, R2) (c + 2) → T ∈ L2 → kd T = .inr (0, n) → (S 1 ≤ n ∧ n ≤ 3072) → (∀ j, 0 ≤ j → j < S 1 → M2 T j = if j = b then d else 0) → ∀ (g : Nat) (k v : Int) (a9 : AV) (u : Nat), wide a9 = false → k + g = S 20 → 0 ≤ k → u + 55 * g + 450 * f + 32 ≤ 3000 → (v = 1 ∧ dOK S a b d k) ∨ (v = 0 ∧ ¬ dOK S a b d k) → DW X G ρ L L2 76 [aR (9, 0, 0, 0), aR (8, 0, 0, 0), aI a, aI b, aI many, aI d, aR T, aI v, aI k, a9] [] (M2, R2) u (EId X G ρ L 3000 (fun v L' σ' => v = 1 ∧ LST S b9 L' σ' (c + 2))) := by
        intro hab T n L2 M2 R2 hS2 hT hkT hn hTv
        obtain ⟨hCL, hCR, hCC, hw, hWF, hr0, hat, hfc⟩ := hS2.ex
        obtain ⟨⟨q2, q3, q4⟩, -⟩ := id hWF
        have hTb : ∀ j, 0 ≤ j → j < S 1 → 0 ≤ M2 T j ∧ M2 T j ≤ 1000 := fun j j0 j1 => by
          rw [hTv j j0 j1]
          split <;> omega
        intro g
        induction g with
        | zero =>
          intro k v a9 u w9 hg hk0 hu hv
          have hkk : k = S 20 := by omega
          subst hkk
          refine dw_iload8 (pc := 76) F dL_areDifferences_76 ?_
          refine dw_aload0 (pc := 78) F dL_areDifferences_78 ?_
          refine dw_getI (pc := 79) F dL_areDifferences_79 fl_L_95 (by first | assumption | rfl) (by first | assumption | (simp [*]; done)) rfl nz4 ?_
          rw [q4]
          refine dw_icmp_ge (tgt := 183) (pc := 82) F dL_areDifferences_82 (by decide) (by unfold inR; omega) (by unfold inR; omega) (fun c82 => ?_) (fun c82 => absurd c82 (by omega))
          exact after v L2 M2 R2 _ _ _ _ rfl rfl w9 hS2 (by omega) (hv.imp (fun z => ⟨z.1, (ly_bit hok ha hb hab (by omega)).mpr z.2⟩) (fun z => ⟨z.1, fun y => z.2 ((ly_bit hok ha hb hab (by omega)).mp y)⟩))
        | succ g ihg =>
          intro k v a9 u w9 hg hk0 hu hv
          have hkk : 0 ≤ k ∧ k < S 20 := by omega
          have hsp := hok.2.2.2.2 k hkk.1 hkk.2
          unfold SpOk at hsp
          have t0 := hTv _ hsp.1.1 hsp.1.2
          have t1 := hTv _ hsp.2.1.1 hsp.2.1.2
          have hslb := slBy_bd hok k (M2 T (S (21 + 5 * k + 1)) - M2 T (S (21 + 5 * k + 0)))
          have step : ∀ v' : Int, (v' = 1 ∧ (dOK S a b d k ∧ (frS S k = a ∧ toS S k = b → kpBy S k (slBy S k d)) ∧ (frS S k = b ∧ toS S k = a → kpBy S k (slBy S k (-d))))) ∨ (v' = 0 ∧ ¬ (dOK S a b d k ∧ (frS S k = a ∧ toS S k = b → kpBy S k (slBy S k d)) ∧ (frS S k = b ∧ toS S k = a → kpBy S k (slBy S k (-d))))) → (v' = 1 ∧ dOK S a b d (k + 1)) ∨ (v' = 0 ∧ ¬ dOK S a b d (k + 1)) := fun v' hv' => by
            have e : dOK S a b d (k + 1) ↔ (dOK S a b d k ∧ (frS S k = a ∧ toS S k = b → kpBy S k (slBy S k d)) ∧ (frS S k = b ∧ toS S k = a → kpBy S k (slBy S k (-d)))) := by
              constructor
              · exact fun h => ⟨fun j j0 j1 => h j j0 (by omega), h k hk0 (by omega)⟩
              · rintro ⟨h, h2⟩ j j0 j1
                by_cases z : j = k
                · rw [z]; exact h2
                · exact h j j0 (by omega)
            rw [e]
            exact hv'
          have body : ∀ (x : Int) (u : Nat), u + 55 * g + 450 * f + 32 + 43 ≤ 3000 → (x = 1 ∧ ((frS S k = a ∧ toS S k = b) ∨ (frS S k = b ∧ toS S k = a))) ∨ (x = 0 ∧ ¬ ((frS S k = a ∧ toS S k = b) ∨ (frS S k = b ∧ toS S k = a))) → DW X G ρ L L2 141 [aR (9, 0, 0, 0), aR (8, 0, 0, 0), aI a, aI b, aI many, aI d, aR T, aI v, aI k, aI x] [] (M2, R2) u (EId X G ρ L 3000 (fun v L' σ' => v = 1 ∧ LST S b9 L' σ' (c + 2))) := by
            intro x u hu hx
            have hval : (frS S k = a ∧ toS S k = b → M2 T (S (21 + 5 * k + 1)) - M2 T (S (21 + 5 * k + 0)) = d) ∧ (frS S k = b ∧ toS S k = a → M2 T (S (21 + 5 * k + 1)) - M2 T (S (21 + 5 * k + 0)) = -d) := by
              have z1 : frS S k = S (21 + 5 * k + 0) := rfl
              have z2 : toS S k = S (21 + 5 * k + 1) := rfl
              rw [t0, t1, z1, z2]
              refine ⟨fun w => ?_, fun w => ?_⟩
              · rw [if_pos w.2, if_neg (by omega)]; omega
              · rw [if_neg (by omega), if_pos w.1]; omega
            have hdu : (frS S k = a ∧ toS S k = b → kpBy S k (slBy S k d)) ∧ (frS S k = b ∧ toS S k = a → kpBy S k (slBy S k (-d))) ↔ (((frS S k = a ∧ toS S k = b) ∨ (frS S k = b ∧ toS S k = a)) → slBy S k (M2 T (S (21 + 5 * k + 1)) - M2 T (S (21 + 5 * k + 0))) ≤ S (21 + 5 * k + 3) - S (21 + 5 * k + 2)) := by
              constructor
              · rintro ⟨h1, h2⟩ (w | w)
                · rw [hval.1 w]; exact h1 w
                · rw [hval.2 w]; exact h2 w
              · intro h1
                refine ⟨fun w => ?_, fun w => ?_⟩
                · have := h1 (Or.inl w); rw [hval.1 w] at this; exact this
                · have := h1 (Or.inr w); rw [hval.2 w] at this; exact this
            rw [hdu] at step
            refine dw_iload7 (pc := 141) F dL_areDifferences_141 ?_
            refine dw_if_eq (tgt := 174) (pc := 143) F dL_areDifferences_143 (by decide) (show inR v by rcases hv with h | h <;> (rw [h.1]; unfold inR; decide)) (fun c143 => ?_) (fun c143 => ?_)
            · refine dw_iconst (pc := 174) F dL_areDifferences_174 ?_
              refine dw_istore7 (pc := 175) F dL_areDifferences_175 rfl hk.symm ?_
              refine dw_iinc8 (pc := 177) F dL_areDifferences_177 rfl hk.symm ?_
              refine dw_goto (tgt := 76) (pc := 180) F dL_areDifferences_180 (by decide) ?_
              refine ihg _ _ _ _ rfl (by omega) (by omega) (by omega) (step _ ?_)
              rcases hv with ⟨h1, h2⟩ | ⟨h1, h2⟩
              · first
                | exact Or.inl ⟨rfl, h2, fun w => (hx.elim (fun z => by omega) (fun z => absurd w z.2))⟩
                | exact Or.inl ⟨rfl, h2, fun _ => by omega⟩
                | exact Or.inr ⟨rfl, fun w => absurd (w.2 (hx.elim (fun z => z.2) (fun z => by omega))) (by omega)⟩
                | exact absurd h1 (by omega)
              · first
                | exact Or.inr ⟨rfl, fun w => h2 w.1⟩
                | exact absurd h1 (by omega)
            · refine dw_iload9 (pc := 146) F dL_areDifferences_146 ?_
              refine dw_if_eq (tgt := 170) (pc := 148) F dL_areDifferences_148 (by decide) (show inR x by rcases hx with h | h <;> (rw [h.1]; unfold inR; decide)) (fun c148 => ?_) (fun c148 => ?_)
              · refine dw_iconst (pc := 170) F dL_areDifferences_170 ?_
                refine dw_goto (tgt := 175) (pc := 171) F dL_areDifferences_171 (by decide) ?_
                refine dw_istore7 (pc := 175) F dL_areDifferences_175 rfl hk.symm ?_
                refine dw_iinc8 (pc := 177) F dL_areDifferences_177 rfl hk.symm ?_
                refine dw_goto (tgt := 76) (pc := 180) F dL_areDifferences_180 (by decide) ?_
                refine ihg _ _ _ _ rfl (by omega) (by omega) (by omega) (step _ ?_)
                rcases hv with ⟨h1, h2⟩ | ⟨h1, h2⟩
                · first
                  | exact Or.inl ⟨rfl, h2, fun w => (hx.elim (fun z => by omega) (fun z => absurd w z.2))⟩
                  | exact Or.inl ⟨rfl, h2, fun _ => by omega⟩
                  | exact Or.inr ⟨rfl, fun w => absurd (w.2 (hx.elim (fun z => z.2) (fun z => by omega))) (by omega)⟩
                  | exact absurd h1 (by omega)
                · first
                  | exact Or.inr ⟨rfl, fun w => h2 w.1⟩
                  | exact absurd h1 (by omega)
              · refine dw_aload0 (pc := 151) F dL_areDifferences_151 ?_
                refine dw_aload1 (pc := 152) F dL_areDifferences_152 ?_
                refine dw_iload8 (pc := 153) F dL_areDifferences_153 ?_
                refine dw_aload6 (pc := 155) F dL_areDifferences_155 ?_
                refine dw_callVI (as := [_, _, _]) (pc := 157) F dL_areDifferences_157 ml_L_155 (by first | assumption | rfl) (by first | assumption | exact Or.inl (by first | assumption | (simp [*]; done))) (cdL_duration _ S _ _ _ _ _ _ n hCL hCR hCC hw hWF hkk hT hkT hn hTb) (Nat.le_of_ble_eq_true rfl) (by decide) (by omega) (fun v9 L9 s9 h9 _ => ?_)
                obtain ⟨rfl, rfl, rfl⟩ := h9
                refine dw_aload1 (pc := 160) F dL_areDifferences_160 ?_
                refine dw_iload8 (pc := 161) F dL_areDifferences_161 ?_
                refine dw_iconst (pc := 163) F dL_areDifferences_163 ?_
                refine dw_cp (as := [_, _]) (pc := 164) F dL_areDifferences_164 ml_L_113 (ct8_span0 _ _ S _ _ hCC.1 hCC.2.1 (by omega) (by omega)) hCL hCR (fun v σ9 z => z) (Nat.le_of_ble_eq_true rfl) (by decide) (by omega) ?_
                refine dw_icmp_gt (tgt := 174) (pc := 167) F dL_areDifferences_167 (by decide) (by unfold inR; omega) (by unfold inR; omega) (fun c167 => ?_) (fun c167 => ?_)
                · refine dw_iconst (pc := 174) F dL_areDifferences_174 ?_
                  refine dw_istore7 (pc := 175) F dL_areDifferences_175 rfl hk.symm ?_
                  refine dw_iinc8 (pc := 177) F dL_areDifferences_177 rfl hk.symm ?_
                  refine dw_goto (tgt := 76) (pc := 180) F dL_areDifferences_180 (by decide) ?_
                  refine ihg _ _ _ _ rfl (by omega) (by omega) (by omega) (step _ ?_)
                  rcases hv with ⟨h1, h2⟩ | ⟨h1, h2⟩
                  · first
                    | exact Or.inl ⟨rfl, h2, fun w => (hx.elim (fun z => by omega) (fun z => absurd w z.2))⟩
                    | exact Or.inl ⟨rfl, h2, fun _ => by omega⟩
                    | exact Or.inr ⟨rfl, fun w => absurd (w.2 (hx.elim (fun z => z.2) (fun z => by omega))) (by omega)⟩
                    | exact absurd h1 (by omega)
                  · first
                    | exact Or.inr ⟨rfl, fun w => h2 w.1⟩
                    | exact absurd h1 (by omega)
                · refine dw_iconst (pc := 170) F dL_areDifferences_170 ?_
                  refine dw_goto (tgt := 175) (pc := 171) F dL_areDifferences_171 (by decide) ?_
                  refine dw_istore7 (pc := 175) F dL_areDifferences_175 rfl hk.symm ?_
                  refine dw_iinc8 (pc := 177) F dL_areDifferences_177 rfl hk.symm ?_
                  refine dw_goto (tgt := 76) (pc := 180) F dL_areDifferences_180 (by decide) ?_
                  refine ihg _ _ _ _ rfl (by omega) (by omega) (by omega) (step _ ?_)
                  rcases hv with ⟨h1, h2⟩ | ⟨h1, h2⟩
                  · first
                    | exact Or.inl ⟨rfl, h2, fun w => (hx.elim (fun z => by omega) (fun z => absurd w z.2))⟩
                    | exact Or.inl ⟨rfl, h2, fun _ => by omega⟩
                    | exact Or.inr ⟨rfl, fun w => absurd (w.2 (hx.elim (fun z => z.2) (fun z => by omega))) (by omega)⟩
                    | exact absurd h1 (by omega)
                  · first
                    | exact Or.inr ⟨rfl, fun w => h2 w.1⟩
                    | exact absurd h1 (by omega)
          refine dw_iload8 (pc := 76) F dL_areDifferences_76 ?_
          refine dw_aload0 (pc := 78) F dL_areDifferences_78 ?_
          refine dw_getI (pc := 79) F dL_areDifferences_79 fl_L_95 (by first | assumption | rfl) (by first | assumption | (simp [*]; done)) rfl nz4 ?_
          rw [q4]
          refine dw_icmp_ge (tgt := 183) (pc := 82) F dL_areDifferences_82 (by decide) (by unfold inR; omega) (by unfold inR; omega) (fun c82 => absurd c82 (by omega)) (fun c82 => ?_)
          refine dw_iload2 (pc := 85) F dL_areDifferences_85 ?_
          refine dw_iload3 (pc := 86) F dL_areDifferences_86 ?_
          refine dw_icmp_eq (tgt := 183) (pc := 87) F dL_areDifferences_87 (by decide) (by unfold inR; omega) (by unfold inR; omega) (fun c87 => absurd c87 hab) (fun c87 => ?_)
          refine dw_aload1 (pc := 90) F dL_areDifferences_90 ?_
          refine dw_iload8 (pc := 91) F dL_areDifferences_91 ?_
          refine dw_iconst (pc := 93) F dL_areDifferences_93 ?_
          refine dw_cp (as := [_, _]) (pc := 94) F dL_areDifferences_94 ml_L_113 (ct8_span0 _ _ S _ _ hCC.1 hCC.2.1 (by omega) (by omega)) hCL hCR (fun v σ9 z => z) (Nat.le_of_ble_eq_true rfl) (by decide) (by omega) ?_
          refine dw_iload2 (pc := 97) F dL_areDifferences_97 ?_
          refine dw_icmp_ne (tgt := 112) (pc := 98) F dL_areDifferences_98 (by decide) (by unfold inR; omega) (by unfold inR; omega) (fun c98 => ?_) (fun c98 => ?_)
          · refine dw_aload1 (pc := 112) F dL_areDifferences_112 ?_
            refine dw_iload8 (pc := 113) F dL_areDifferences_113 ?_
            refine dw_iconst (pc := 115) F dL_areDifferences_115 ?_
            refine dw_cp (as := [_, _]) (pc := 116) F dL_areDifferences_116 ml_L_113 (ct8_span0 _ _ S _ _ hCC.1 hCC.2.1 (by omega) (by omega)) hCL hCR (fun v σ9 z => z) (Nat.le_of_ble_eq_true rfl) (by decide) (by omega) ?_
            refine dw_iload3 (pc := 119) F dL_areDifferences_119 ?_
            refine dw_icmp_ne (tgt := 138) (pc := 120) F dL_areDifferences_120 (by decide) (by unfold inR; omega) (by unfold inR; omega) (fun c120 => ?_) (fun c120 => ?_)
            · refine dw_iconst (pc := 138) F dL_areDifferences_138 ?_
              refine dw_istore9 (pc := 139) F dL_areDifferences_139 (by simp only [List.all_cons, List.all_nil, w9]; rfl) hk.symm ?_
              exact body _ _ (by omega) (by first | exact Or.inl ⟨rfl, Or.inl ⟨by show S (21 + 5 * k + 0) = a; omega, by show S (21 + 5 * k + 1) = b; omega⟩⟩ | exact Or.inl ⟨rfl, Or.inr ⟨by show S (21 + 5 * k + 0) = b; omega, by show S (21 + 5 * k + 1) = a; omega⟩⟩ | exact Or.inr ⟨rfl, fun z => z.elim (fun w => by have w1 : S (21 + 5 * k + 0) = a := w.1; have w2 : S (21 + 5 * k + 1) = b := w.2; omega) (fun w => by have w1 : S (21 + 5 * k + 0) = b := w.1; have w2 : S (21 + 5 * k + 1) = a := w.2; omega)⟩)
            · refine dw_aload1 (pc := 123) F dL_areDifferences_123 ?_
              refine dw_iload8 (pc := 124) F dL_areDifferences_124 ?_
              refine dw_iconst (pc := 126) F dL_areDifferences_126 ?_
              refine dw_cp (as := [_, _]) (pc := 127) F dL_areDifferences_127 ml_L_113 (ct8_span0 _ _ S _ _ hCC.1 hCC.2.1 (by omega) (by omega)) hCL hCR (fun v σ9 z => z) (Nat.le_of_ble_eq_true rfl) (by decide) (by omega) ?_
              refine dw_iload2 (pc := 130) F dL_areDifferences_130 ?_
              refine dw_icmp_ne (tgt := 138) (pc := 131) F dL_areDifferences_131 (by decide) (by unfold inR; omega) (by unfold inR; omega) (fun c131 => ?_) (fun c131 => ?_)
              · refine dw_iconst (pc := 138) F dL_areDifferences_138 ?_
                refine dw_istore9 (pc := 139) F dL_areDifferences_139 (by simp only [List.all_cons, List.all_nil, w9]; rfl) hk.symm ?_
                exact body _ _ (by omega) (by first | exact Or.inl ⟨rfl, Or.inl ⟨by show S (21 + 5 * k + 0) = a; omega, by show S (21 + 5 * k + 1) = b; omega⟩⟩ | exact Or.inl ⟨rfl, Or.inr ⟨by show S (21 + 5 * k + 0) = b; omega, by show S (21 + 5 * k + 1) = a; omega⟩⟩ | exact Or.inr ⟨rfl, fun z => z.elim (fun w => by have w1 : S (21 + 5 * k + 0) = a := w.1; have w2 : S (21 + 5 * k + 1) = b := w.2; omega) (fun w => by have w1 : S (21 + 5 * k + 0) = b := w.1; have w2 : S (21 + 5 * k + 1) = a := w.2; omega)⟩)
              · refine dw_iconst (pc := 134) F dL_areDifferences_134 ?_
                refine dw_goto (tgt := 139) (pc := 135) F dL_areDifferences_135 (by decide) ?_
                refine dw_istore9 (pc := 139) F dL_areDifferences_139 (by simp only [List.all_cons, List.all_nil, w9]; rfl) hk.symm ?_
                exact body _ _ (by omega) (by first | exact Or.inl ⟨rfl, Or.inl ⟨by show S (21 + 5 * k + 0) = a; omega, by show S (21 + 5 * k + 1) = b; omega⟩⟩ | exact Or.inl ⟨rfl, Or.inr ⟨by show S (21 + 5 * k + 0) = b; omega, by show S (21 + 5 * k + 1) = a; omega⟩⟩ | exact Or.inr ⟨rfl, fun z => z.elim (fun w => by have w1 : S (21 + 5 * k + 0) = a := w.1; have w2 : S (21 + 5 * k + 1) = b := w.2; omega) (fun w => by have w1 : S (21 + 5 * k + 0) = b := w.1; have w2 : S (21 + 5 * k + 1) = a := w.2; omega)⟩)
          · refine dw_aload1 (pc := 101) F dL_areDifferences_101 ?_
            refine dw_iload8 (pc := 102) F dL_areDifferences_102 ?_
            refine dw_iconst (pc := 104) F dL_areDifferences_104 ?_
            refine dw_cp (as := [_, _]) (pc := 105) F dL_areDifferences_105 ml_L_113 (ct8_span0 _ _ S _ _ hCC.1 hCC.2.1 (by omega) (by omega)) hCL hCR (fun v σ9 z => z) (Nat.le_of_ble_eq_true rfl) (by decide) (by omega) ?_
            refine dw_iload3 (pc := 108) F dL_areDifferences_108 ?_
            refine dw_icmp_eq (tgt := 134) (pc := 109) F dL_areDifferences_109 (by decide) (by unfold inR; omega) (by unfold inR; omega) (fun c109 => ?_) (fun c109 => ?_)
            · refine dw_iconst (pc := 134) F dL_areDifferences_134 ?_
              refine dw_goto (tgt := 139) (pc := 135) F dL_areDifferences_135 (by decide) ?_
              refine dw_istore9 (pc := 139) F dL_areDifferences_139 (by simp only [List.all_cons, List.all_nil, w9]; rfl) hk.symm ?_
              exact body _ _ (by omega) (by first | exact Or.inl ⟨rfl, Or.inl ⟨by show S (21 + 5 * k + 0) = a; omega, by show S (21 + 5 * k + 1) = b; omega⟩⟩ | exact Or.inl ⟨rfl, Or.inr ⟨by show S (21 + 5 * k + 0) = b; omega, by show S (21 + 5 * k + 1) = a; omega⟩⟩ | exact Or.inr ⟨rfl, fun z => z.elim (fun w => by have w1 : S (21 + 5 * k + 0) = a := w.1; have w2 : S (21 + 5 * k + 1) = b := w.2; omega) (fun w => by have w1 : S (21 + 5 * k + 0) = b := w.1; have w2 : S (21 + 5 * k + 1) = a := w.2; omega)⟩)
            · refine dw_aload1 (pc := 112) F dL_areDifferences_112 ?_
              refine dw_iload8 (pc := 113) F dL_areDifferences_113 ?_
              refine dw_iconst (pc := 115) F dL_areDifferences_115 ?_
              refine dw_cp (as := [_, _]) (pc := 116) F dL_areDifferences_116 ml_L_113 (ct8_span0 _ _ S _ _ hCC.1 hCC.2.1 (by omega) (by omega)) hCL hCR (fun v σ9 z => z) (Nat.le_of_ble_eq_true rfl) (by decide) (by omega) ?_
              refine dw_iload3 (pc := 119) F dL_areDifferences_119 ?_
              refine dw_icmp_ne (tgt := 138) (pc := 120) F dL_areDifferences_120 (by decide) (by unfold inR; omega) (by unfold inR; omega) (fun c120 => ?_) (fun c120 => ?_)
              · refine dw_iconst (pc := 138) F dL_areDifferences_138 ?_
                refine dw_istore9 (pc := 139) F dL_areDifferences_139 (by simp only [List.all_cons, List.all_nil, w9]; rfl) hk.symm ?_
                exact body _ _ (by omega) (by first | exact Or.inl ⟨rfl, Or.inl ⟨by show S (21 + 5 * k + 0) = a; omega, by show S (21 + 5 * k + 1) = b; omega⟩⟩ | exact Or.inl ⟨rfl, Or.inr ⟨by show S (21 + 5 * k + 0) = b; omega, by show S (21 + 5 * k + 1) = a; omega⟩⟩ | exact Or.inr ⟨rfl, fun z => z.elim (fun w => by have w1 : S (21 + 5 * k + 0) = a := w.1; have w2 : S (21 + 5 * k + 1) = b := w.2; omega) (fun w => by have w1 : S (21 + 5 * k + 0) = b := w.1; have w2 : S (21 + 5 * k + 1) = a := w.2; omega)⟩)
              · refine dw_aload1 (pc := 123) F dL_areDifferences_123 ?_
                refine dw_iload8 (pc := 124) F dL_areDifferences_124 ?_
                refine dw_iconst (pc := 126) F dL_areDifferences_126 ?_
                refine dw_cp (as := [_, _]) (pc := 127) F dL_areDifferences_127 ml_L_113 (ct8_span0 _ _ S _ _ hCC.1 hCC.2.1 (by omega) (by omega)) hCL hCR (fun v σ9 z => z) (Nat.le_of_ble_eq_true rfl) (by decide) (by omega) ?_
                refine dw_iload2 (pc := 130) F dL_areDifferences_130 ?_
                refine dw_icmp_ne (tgt := 138) (pc := 131) F dL_areDifferences_131 (by decide) (by unfold inR; omega) (by unfold inR; omega) (fun c131 => ?_) (fun c131 => ?_)
                · refine dw_iconst (pc := 138) F dL_areDifferences_138 ?_
                  refine dw_istore9 (pc := 139) F dL_areDifferences_139 (by simp only [List.all_cons, List.all_nil, w9]; rfl) hk.symm ?_
                  exact body _ _ (by omega) (by first | exact Or.inl ⟨rfl, Or.inl ⟨by show S (21 + 5 * k + 0) = a; omega, by show S (21 + 5 * k + 1) = b; omega⟩⟩ | exact Or.inl ⟨rfl, Or.inr ⟨by show S (21 + 5 * k + 0) = b; omega, by show S (21 + 5 * k + 1) = a; omega⟩⟩ | exact Or.inr ⟨rfl, fun z => z.elim (fun w => by have w1 : S (21 + 5 * k + 0) = a := w.1; have w2 : S (21 + 5 * k + 1) = b := w.2; omega) (fun w => by have w1 : S (21 + 5 * k + 0) = b := w.1; have w2 : S (21 + 5 * k + 1) = a := w.2; omega)⟩)
                · refine dw_iconst (pc := 134) F dL_areDifferences_134 ?_
                  refine dw_goto (tgt := 139) (pc := 135) F dL_areDifferences_135 (by decide) ?_
                  refine dw_istore9 (pc := 139) F dL_areDifferences_139 (by simp only [List.all_cons, List.all_nil, w9]; rfl) hk.symm ?_
                  exact body _ _ (by omega) (by first | exact Or.inl ⟨rfl, Or.inl ⟨by show S (21 + 5 * k + 0) = a; omega, by show S (21 + 5 * k + 1) = b; omega⟩⟩ | exact Or.inl ⟨rfl, Or.inr ⟨by show S (21 + 5 * k + 0) = b; omega, by show S (21 + 5 * k + 1) = a; omega⟩⟩ | exact Or.inr ⟨rfl, fun z => z.elim (fun w => by have w1 : S (21 + 5 * k + 0) = a := w.1; have w2 : S (21 + 5 * k + 1) = b := w.2; omega) (fun w => by have w1 : S (21 + 5 * k + 0) = b := w.1; have w2 : S (21 + 5 * k + 1) = a := w.2; omega)⟩)
      refine dw_DI F (fun hI _ _ _ => ?_)
      have hf8 := hI.fresh (t := 12) (c := (S 1).toNat) (r := 0) (by decide)
      obtain ⟨T, hT⟩ : ∃ T : Id4, T = (12, (L1.length : Int), (S 1).toNat, 0) := ⟨_, rfl⟩
      have hT8 : T.1 = 12 := by rw [hT]
      have hkT : kd T = .inr (0, (S 1).toNat) := by rw [hT]; rfl
      rw [← hT] at hf8
      have hm : T ∈ L1 ++ [T] := List.mem_append_right _ List.mem_cons_self
      have hne : ∀ q : Id4, (q.1 ≠ 12 ∨ q ∈ L1) → q ≠ T := fun q hq z => hq.elim (fun y => y (by rw [z, hT8])) (fun y => hf8 (z ▸ y))
      have hS2 : ∀ x, LST S b9 (L1 ++ [T]) (updM (zM M1 T) T b x, zR R1 T) (c + 2) := fun x => hS1.k12 LE.rf.app (by rw [hT]; exact hCL.app (by decide)) (fun q hq => ⟨(updM_ne (hne q hq)).trans (zM_ne (hne q hq)), zR_ne (hne q hq)⟩)
      have q22 : ∀ x, updM (zM M1 T) T b x (9, 0, 0, 0) 4 = S 20 := fun x => (hS2 x).ex.2.2.2.2.1.1.2.2
      have WD : ∀ w : AV, w = a9 → wide w = false := fun w hw => hw ▸ w9
      by_cases hab : a = b
      · subst hab
        have skip : ∀ (v : Int) (u : Nat), u + 450 * f + 30 ≤ 3000 → (v = 1 ∧ d = 0) ∨ (v = 0 ∧ ¬ d = 0) → DW X G ρ L (L1 ++ [T]) 76 [aR (9, 0, 0, 0), aR (8, 0, 0, 0), aI a, aI a, aI many, aI d, aR T, aI v, aI 0, a9] [] (updM (zM M1 T) T a 0, zR R1 T) u (EId X G ρ L 3000 (fun v L' σ' => v = 1 ∧ LST S b9 L' σ' (c + 2))) := by
          intro v u hu hv
          have e := after v (L1 ++ [T]) (updM (zM M1 T) T a 0) (zR R1 T) (aR T) (aI 0) a9 u rfl rfl w9 (hS2 0) (by omega) (hv.imp (fun z => ⟨z.1, (ly_diag hok ha (by omega)).mpr z.2⟩) (fun z => ⟨z.1, fun y => z.2 ((ly_diag hok ha (by omega)).mp y)⟩))
          refine dw_iload8 (pc := 76) F dL_areDifferences_76 ?_
          refine dw_aload0 (pc := 78) F dL_areDifferences_78 ?_
          refine dw_getI (pc := 79) F dL_areDifferences_79 fl_L_95 (by first | assumption | rfl) (by first | assumption | (simp [*]; done)) rfl nz4 ?_
          rw [q22 0]
          refine dw_icmp_ge (tgt := 183) (pc := 82) F dL_areDifferences_82 (by decide) (by unfold inR; omega) (by unfold inR; omega) (fun c82 => ?_) (fun c82 => ?_)
          · exact e
          · refine dw_iload2 (pc := 85) F dL_areDifferences_85 ?_
            refine dw_iload3 (pc := 86) F dL_areDifferences_86 ?_
            refine dw_icmp_eq (tgt := 183) (pc := 87) F dL_areDifferences_87 (by decide) (by unfold inR; omega) (by unfold inR; omega) (fun c87 => ?_) (fun c87 => absurd c87 (fun z => z rfl))
            exact e
        refine dw_iload5 (pc := 24) F dL_areDifferences_24 ?_
        refine dw_aload0 (pc := 26) F dL_areDifferences_26 ?_
        refine dw_getI (pc := 27) F dL_areDifferences_27 fl_L_61 (by first | assumption | rfl) (by first | assumption | (simp [*]; done)) rfl nz2 ?_
        rw [q2]
        refine dw_icmp_ge (tgt := 222) (pc := 30) F dL_areDifferences_30 (by decide) (by unfold inR; omega) (by unfold inR; omega) (fun c30 => absurd c30 (by omega)) (fun c30 => ?_)
        refine dw_aload0 (pc := 33) F dL_areDifferences_33 ?_
        refine dw_getI (pc := 34) F dL_areDifferences_34 fl_L_64 (by first | assumption | rfl) (by first | assumption | (simp [*]; done)) rfl nz3 ?_
        rw [q3]
        refine dw_newI (N := (S 1).toNat) (w := 1) F dL_areDifferences_37 ac_0 (show S 1 = (((S 1).toNat : Nat) : Int) by omega) (by omega) (by omega) (by omega) ?_
        rw [← hT]
        refine dw_astore6 (pc := 39) F dL_areDifferences_39 (by simp only [List.all_cons, List.all_nil, w6, w7, w8, w9]; rfl) hk.symm ?_
        refine dw_aload6 (pc := 41) F dL_areDifferences_41 ?_
        refine dw_iload3 (pc := 43) F dL_areDifferences_43 ?_
        refine dw_iload2 (pc := 44) F dL_areDifferences_44 ?_
        refine dw_iload3 (pc := 45) F dL_areDifferences_45 ?_
        refine dw_icmp_ne (tgt := 53) (pc := 46) F dL_areDifferences_46 (by decide) (by unfold inR; omega) (by unfold inR; omega) (fun c46 => absurd c46 (fun z => z rfl)) (fun c46 => ?_)
        refine dw_iconst (pc := 49) F dL_areDifferences_49 ?_
        refine dw_goto (tgt := 55) (pc := 50) F dL_areDifferences_50 (by decide) ?_
        refine dw_iast (pc := 55) F dL_areDifferences_55 hkT hm (by omega) (by omega) ?_
        refine dw_iload2 (pc := 56) F dL_areDifferences_56 ?_
        refine dw_iload3 (pc := 57) F dL_areDifferences_57 ?_
        refine dw_icmp_ne (tgt := 66) (pc := 58) F dL_areDifferences_58 (by decide) (by unfold inR; omega) (by unfold inR; omega) (fun c58 => absurd c58 (fun z => z rfl)) (fun c58 => ?_)
        refine dw_iload5 (pc := 61) F dL_areDifferences_61 ?_
        refine dw_if_ne (tgt := 70) (pc := 63) F dL_areDifferences_63 (by decide) (by unfold inR; omega) (fun c63 => ?_) (fun c63 => ?_)
        · refine dw_iconst (pc := 70) F dL_areDifferences_70 ?_
          refine dw_istore7 (pc := 71) F dL_areDifferences_71 (by simp only [List.all_cons, List.all_nil, w6, w7, w8, w9]; rfl) hk.symm ?_
          refine dw_iconst (pc := 73) F dL_areDifferences_73 ?_
          refine dw_istore8 (pc := 74) F dL_areDifferences_74 (by simp only [List.all_cons, List.all_nil, w6, w7, w8, w9]; rfl) hk.symm ?_
          first | exact skip 0 _ (by omega) (Or.inr ⟨rfl, by omega⟩) | exact skip 1 _ (by omega) (Or.inl ⟨rfl, by omega⟩)
        · refine dw_iconst (pc := 66) F dL_areDifferences_66 ?_
          refine dw_goto (tgt := 71) (pc := 67) F dL_areDifferences_67 (by decide) ?_
          refine dw_istore7 (pc := 71) F dL_areDifferences_71 (by simp only [List.all_cons, List.all_nil, w6, w7, w8, w9]; rfl) hk.symm ?_
          refine dw_iconst (pc := 73) F dL_areDifferences_73 ?_
          refine dw_istore8 (pc := 74) F dL_areDifferences_74 (by simp only [List.all_cons, List.all_nil, w6, w7, w8, w9]; rfl) hk.symm ?_
          first | exact skip 0 _ (by omega) (Or.inr ⟨rfl, by omega⟩) | exact skip 1 _ (by omega) (Or.inl ⟨rfl, by omega⟩)
      · skip
        refine dw_iload5 (pc := 24) F dL_areDifferences_24 ?_
        refine dw_aload0 (pc := 26) F dL_areDifferences_26 ?_
        refine dw_getI (pc := 27) F dL_areDifferences_27 fl_L_61 (by first | assumption | rfl) (by first | assumption | (simp [*]; done)) rfl nz2 ?_
        rw [q2]
        refine dw_icmp_ge (tgt := 222) (pc := 30) F dL_areDifferences_30 (by decide) (by unfold inR; omega) (by unfold inR; omega) (fun c30 => absurd c30 (by omega)) (fun c30 => ?_)
        refine dw_aload0 (pc := 33) F dL_areDifferences_33 ?_
        refine dw_getI (pc := 34) F dL_areDifferences_34 fl_L_64 (by first | assumption | rfl) (by first | assumption | (simp [*]; done)) rfl nz3 ?_
        rw [q3]
        refine dw_newI (N := (S 1).toNat) (w := 1) F dL_areDifferences_37 ac_0 (show S 1 = (((S 1).toNat : Nat) : Int) by omega) (by omega) (by omega) (by omega) ?_
        rw [← hT]
        refine dw_astore6 (pc := 39) F dL_areDifferences_39 (by simp only [List.all_cons, List.all_nil, w6, w7, w8, w9]; rfl) hk.symm ?_
        refine dw_aload6 (pc := 41) F dL_areDifferences_41 ?_
        refine dw_iload3 (pc := 43) F dL_areDifferences_43 ?_
        refine dw_iload2 (pc := 44) F dL_areDifferences_44 ?_
        refine dw_iload3 (pc := 45) F dL_areDifferences_45 ?_
        refine dw_icmp_ne (tgt := 53) (pc := 46) F dL_areDifferences_46 (by decide) (by unfold inR; omega) (by unfold inR; omega) (fun c46 => ?_) (fun c46 => absurd c46 hab)
        refine dw_iload5 (pc := 53) F dL_areDifferences_53 ?_
        refine dw_iast (pc := 55) F dL_areDifferences_55 hkT hm (by omega) (by omega) ?_
        refine dw_iload2 (pc := 56) F dL_areDifferences_56 ?_
        refine dw_iload3 (pc := 57) F dL_areDifferences_57 ?_
        refine dw_icmp_ne (tgt := 66) (pc := 58) F dL_areDifferences_58 (by decide) (by unfold inR; omega) (by unfold inR; omega) (fun c58 => ?_) (fun c58 => absurd c58 hab)
        refine dw_iconst (pc := 66) F dL_areDifferences_66 ?_
        refine dw_goto (tgt := 71) (pc := 67) F dL_areDifferences_67 (by decide) ?_
        refine dw_istore7 (pc := 71) F dL_areDifferences_71 (by simp only [List.all_cons, List.all_nil, w6, w7, w8, w9]; rfl) hk.symm ?_
        refine dw_iconst (pc := 73) F dL_areDifferences_73 ?_
        refine dw_istore8 (pc := 74) F dL_areDifferences_74 (by simp only [List.all_cons, List.all_nil, w6, w7, w8, w9]; rfl) hk.symm ?_
        refine inner hab T (S 1).toNat _ _ _ (hS2 d) hm hkT (by omega) (fun j j0 j1 => ?_) (S 20).toNat 0 1 _ _ w9 (by omega) (by omega) (by omega) (Or.inl ⟨rfl, fun k k0 k1 => by omega⟩)
        by_cases z : j = b
        · rw [z, upd_same, if_pos rfl]
        · rw [upd_ne (Or.inr z), if_neg z]
          exact zM_same
  obtain ⟨hCL, hCR, hCC, hw, hWF, hr0, hat, hfc⟩ := hS.ex
  obtain ⟨⟨q2, q3, q4⟩, -⟩ := id hWF
  refine dw_aload0 (pc := 0) F dL_areDifferences_0 ?_
  refine dw_aload0 (pc := 1) F dL_areDifferences_1 ?_
  refine dw_getI (pc := 2) F dL_areDifferences_2 fl_L_64 (by first | assumption | rfl) (by first | assumption | (simp [*]; done)) rfl nz3 ?_
  rw [q3]
  refine dw_callVI (as := [_]) (pc := 5) F dL_areDifferences_5 ml_L_55 (by first | assumption | rfl) (by first | assumption | exact Or.inl (by first | assumption | (simp [*]; done))) (cdL_chosen _ _ _ _ _ hw hr0 ⟨hat.1, by omega⟩ (by omega)) (Nat.le_of_ble_eq_true rfl) (by decide) (by omega) (fun v1 L9 s9 h9 hLE9 => ?_)
  obtain ⟨hv1, hLe, rfl⟩ := h9
  replace hLe := hLe.symm
  subst hLe
  have hSa := hS.ch
  obtain ⟨hCL, hCR, hCC, hw, hWF, hr0, hat, hfc⟩ := hSa.ex
  obtain ⟨⟨q2, q3, q4⟩, -⟩ := id hWF
  refine dw_istore2 (pc := 8) F dL_areDifferences_8 rfl hk.symm ?_
  refine dw_aload0 (pc := 9) F dL_areDifferences_9 ?_
  refine dw_aload0 (pc := 10) F dL_areDifferences_10 ?_
  refine dw_getI (pc := 11) F dL_areDifferences_11 fl_L_64 (by first | assumption | rfl) (by first | assumption | (simp [*]; done)) rfl nz3 ?_
  rw [q3]
  refine dw_callVI (as := [_]) (pc := 14) F dL_areDifferences_14 ml_L_55 (by first | assumption | rfl) (by first | assumption | exact Or.inl (by first | assumption | (simp [*]; done))) (cdL_chosen _ _ _ _ _ hw hr0 ⟨hat.1, by omega⟩ (by omega)) (Nat.le_of_ble_eq_true rfl) (by decide) (by omega) (fun v2 L9 s9 h9 hLE9 => ?_)
  obtain ⟨hv2, hLe, rfl⟩ := h9
  replace hLe := hLe.symm
  subst hLe
  refine dw_istore3 (pc := 17) F dL_areDifferences_17 rfl hk.symm ?_
  refine dw_iconst (pc := 18) F dL_areDifferences_18 ?_
  refine dw_istore4 (pc := 19) F dL_areDifferences_19 rfl hk.symm ?_
  refine dw_iconst (pc := 21) F dL_areDifferences_21 ?_
  refine dw_istore5 (pc := 22) F dL_areDifferences_22 rfl hk.symm ?_
  have hS9 := hSa.ch
  rw [show c + 1 + 1 = c + 2 by omega] at hS9
  exact main v1 v2 hv1 hv2 (S 0).toNat 0 0 _ _ _ _ _ _ _ _ rfl rfl rfl rfl hS9 (by omega) (by omega) rfl (by omega) (by omega)
