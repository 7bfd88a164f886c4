/-! 47: the reference goes round -/
theorem goM_s {M : Id4 → Int → Int} {S : Int → Int} {L k f : Int} (hS : M (9, 0, 1, 0) = S) (ht : treA S M) : goM M L k f (9, 0, 1, 0) = S ∧ treA S (goM M L k f) := ⟨goM_ch.s.trans hS, fun j hj => by rw [goM_ch.t]; exact ht j hj⟩
theorem treA.ch {M M' : Id4 → Int → Int} {S : Int → Int} (ht : treA S M) (hc : chW M M') : treA S M' := fun j hj => by rw [hc.t]; exact ht j hj
/-- away from g: it leads nowhere -/
theorem ct9_leadsF {S : Int → Int} (h : Ok S) {g : Int} (g0 : 0 ≤ g) (g1 : g < S 1) (b : Bool) : ∀ (f : Nat) (M : Id4 → Int → Int) (v : Int) (kb : Nat) (vis : Int → Int), M (9, 0, 1, 0) = S → treA S M → (0 ≤ v ∧ v < S 1) → wyS S g v = kb → v ≠ g → (6 : Int) ≤ (dpS S g v : Int) + f → M (9, 0, 0, 0) 24 = sumI vis (S 1).toNat → (∀ e, vis e = 0 ∨ vis e = 1) → vis v = 1 → (∀ x, 0 ≤ x → x < S 1 → vis x = 1 → wyS S g x ≠ -1 → x ≠ v → ¬ desc S g x v) → CtI (4 + f) 0 yX9_leads cX9_leads 7 (some .boolean) [aR (9, 0, 0, 0), aI v, aI g, aI kb] (M, R0 b) (fun r σ' => r = 0 ∧ ∃ M', σ' = (M', R0 b) ∧ chW M M' ∧ ∀ j, 0 ≤ j → j < sumI vis (S 1).toNat → M' (9, 0, 23, 0) j = M (9, 0, 23, 0) j ∧ M' (9, 0, 24, 0) j = M (9, 0, 24, 0) j) := by
  intro f
  induction f with
  | zero =>
    intro M v kb vis hS ht hv hw vg hf hL hb hvv hvis
    have := dp_bd h g0 g1 hv.1 hv.2 (by rw [hw]; omega)
    have hE := h.2.1
    omega
  | succ f ih =>
    intro M v kb vis hS ht hv hw vg hf hL hb hvv hvis
    refine CtI.mk (by decide +kernel) rfl (Nat.le_of_ble_eq_true rfl) (fun X K F hk => ?_)
    have hN := h.2.2.1
    have hE := h.2.1
    have vW : wyS S g v ≠ -1 := by rw [hw]; omega
    obtain ⟨kb2, hk2, hk3, -⟩ := wy_step h g0 g1 hv.1 hv.2 vg vW
    have hkb : (kb : Int) < S 20 := by omega
    obtain ⟨L, eL⟩ : ∃ L, L = sumI vis (S 1).toNat := ⟨_, rfl⟩
    have bL := vis_bd h hb
    rw [← eL] at hL bL
    rw [← eL]
    obtain ⟨Q9, hQ⟩ : ∃ Q9, Q9 = EI X K 0 (fun r σ' => r = 0 ∧ ∃ M', σ' = (M', R0 b) ∧ chW M M' ∧ ∀ j, 0 ≤ j → j < L → M' (9, 0, 23, 0) j = M (9, 0, 23, 0) j ∧ M' (9, 0, 24, 0) j = M (9, 0, 24, 0) j) := ⟨_, rfl⟩
    have key : ∀ (j k : Nat) (M' : Id4 → Int → Int) (w : AV), (k : Int) + j = S 20 → wide w = false → chW M M' → M' (9, 0, 0, 0) 24 = L → (∀ j, 0 ≤ j → j < L → M' (9, 0, 23, 0) j = M (9, 0, 23, 0) j ∧ M' (9, 0, 24, 0) j = M (9, 0, 24, 0) j) → AW X K 16 [aR (9, 0, 0, 0), aI v, aI g, aI kb, aI L, aI k, w] [] (M', R0 b) 0 Q9 := by
      intro j
      induction j with
      | zero =>
        intro k M' w hk9 hw9 a1 a2 a3
        have s20 : M' (9, 0, 1, 0) 20 = S 20 := by rw [a1.s, hS]
        refine aw_iload5 (pc := 16) F dX9_leads_16 ?_
        refine aw_aload0 (pc := 18) F dX9_leads_18 ?_
        refine aw_getR (pc := 19) F dX9_leads_19 fl_9_7 rfl (by first | decide | (simp only [inB, cnt, rcnt]; omega)) rfl nz0 rfl ?_
        refine aw_bipush (pc := 22) F dX9_leads_22 (by decide) ?_
        refine aw_iald (pc := 24) F dX9_leads_24 rfl (by first | decide | (simp only [inB, cnt, rcnt]; omega)) (by omega) ?_
        refine aw_icmp_ge (tgt := 129) (pc := 25) F dX9_leads_25 (by decide) (by unfold inR; omega) (by unfold inR; omega) (fun c25 => ?_) (fun c25 => ?_)
        · rw [hQ]
          refine aw_iconst (pc := 129) F dX9_leads_129 ?_
          exact aw_iret (pc := 130) F dX9_leads_130 (nar_bool (by first | exact b2i_01 | decide)) (Nat.zero_le _) ⟨rfl, M', rfl, a1, a3⟩
        · omega
      | succ j ih2 =>
        intro k M' w hk9 hw9 a1 a2 a3
        refine leads_iter (d2 := 4 + f) (S := S) F hk (a1.s.trans hS) h (ht.ch a1) (by omega) hv (by unfold inR; omega) hw9 (by omega) (by omega) a2 (by
          by_cases z : ∃ k : Nat, (k : Int) < S 20 ∧ tre S k ∧ (k : Int) ≠ kb ∧ (frS S k = v ∨ toS S k = v)
          · omega
          · omega) (fun kt kk inc => ?_) (fun M2 w6 g6 q1 q2 q3 => ih2 (k + 1) M2 w6 (by omega) g6 (a1.tr q1) q2 (fun j j0 j1 => ⟨(q3 j j0 j1).1.trans (a3 j j0 j1).1, (q3 j j0 j1).2.trans (a3 j j0 j1).2⟩))
        obtain ⟨u0, uk, ug, ud, oo, uv, -⟩ := child_of h g0 g1 hv vW (by omega) kt inc (by rw [hw]; exact kk)
        have uW : wyS S g (othS S k v) ≠ -1 := by rw [uk]; omega
        have duv : desc S g (othS S k v) v := ⟨1, by omega, by show othS S (wyS S g (othS S k v)) (othS S k v) = v; rw [uk]; exact oo⟩
        have nu : vis (othS S k v) = 0 := (hb _).resolve_right (fun z => hvis _ u0.1 u0.2 z uW uv duv)
        have va := vis_add h u0 nu
        obtain ⟨gs, gt⟩ := goM_s (L := L) (k := k) (f := b2i (frS S k = v)) (a1.s.trans hS) (ht.ch a1)
        have c9 := ih (goM M' L k (b2i (frS S k = v))) (othS S k v) k (upS vis (othS S k v) 1) gs gt u0 uk ug (by omega) (by rw [goM_at.1, va, ← eL]) (fun e => by
          unfold upS
          split
          · exact Or.inr rfl
          · exact hb e) upS_same (fun x x0 x1 xv xW xu xd => by
          rw [upS_ne xu] at xv
          by_cases z : x = v
          · have := desc_d h g0 g1 ⟨x0, x1⟩ xW xd
            rw [z] at this
            omega
          · exact hvis x x0 x1 xv xW z (desc_tr h g0 g1 ⟨x0, x1⟩ xW xd duv))
        rw [va, ← eL] at c9
        exact c9
    have sv : M (9, 0, 0, 0) 24 = L := hL
    refine aw_iload1 (pc := 0) F dX9_leads_0 ?_
    refine aw_iload2 (pc := 1) F dX9_leads_1 ?_
    refine aw_icmp_ne (tgt := 7) (pc := 2) F dX9_leads_2 (by decide) (by unfold inR; omega) (by unfold inR; omega) (fun c2 => ?_) (fun c2 => ?_)
    · refine aw_aload0 (pc := 7) F dX9_leads_7 ?_
      refine aw_getI (pc := 8) F dX9_leads_8 fl_9_280 rfl (by first | decide | (simp only [inB, cnt, rcnt]; omega)) rfl nz24 ?_
      rw [sv]
      refine aw_istore4 (pc := 11) F dX9_leads_11 rfl hk.symm ?_
      refine aw_iconst (pc := 13) F dX9_leads_13 ?_
      refine aw_istore5 (pc := 14) F dX9_leads_14 rfl hk.symm ?_
      rw [← hQ]
      exact key (S 20).toNat 0 M aX (by omega) rfl chW.rf hL (fun _ _ _ => ⟨rfl, rfl⟩)
    · refine aw_iconst (pc := 5) F dX9_leads_5 ?_
      exact aw_iret (pc := 6) F dX9_leads_6 (nar_bool (by first | exact b2i_01 | decide)) (Nat.zero_le _) (absurd c2 vg)
/-- from v on: the whole way to g -/
theorem ct9_leadsT {S : Int → Int} (h : Ok S) {g : Int} (g0 : 0 ≤ g) (g1 : g < S 1) (b : Bool) : ∀ (m : Nat) (M : Id4 → Int → Int) (v but : Int) (vis : Int → Int), M (9, 0, 1, 0) = S → treA S M → (0 ≤ v ∧ v < S 1) → wyS S g v ≠ -1 → but ≠ wyS S g v → inR but → (dpS S g v) ≤ m → M (9, 0, 0, 0) 24 = sumI vis (S 1).toNat → (∀ e, vis e = 0 ∨ vis e = 1) → vis v = 1 → (∀ x, 0 ≤ x → x < S 1 → vis x = 1 → x ≠ v → wyS S g x ≠ -1 ∧ ∃ c, (0 ≤ c ∧ c < S 1) ∧ wyS S g c = but ∧ wyS S g c ≠ -1 ∧ dpS S g c = dpS S g v + 1 ∧ othS S but c = v ∧ desc S g x c) → CtI (11 + m) 0 yX9_leads cX9_leads 7 (some .boolean) [aR (9, 0, 0, 0), aI v, aI g, aI but] (M, R0 b) (fun r σ' => r = 1 ∧ ∃ M', σ' = (M', R0 b) ∧ chW M M' ∧ M' (9, 0, 0, 0) 24 = sumI vis (S 1).toNat + (dpS S g v : Int) ∧ (∀ j, 0 ≤ j → j < sumI vis (S 1).toNat → M' (9, 0, 23, 0) j = M (9, 0, 23, 0) j ∧ M' (9, 0, 24, 0) j = M (9, 0, 24, 0) j) ∧ ∀ i : Nat, i < dpS S g v → M' (9, 0, 23, 0) (sumI vis (S 1).toNat + i) = wyS S g (pvS S g v i) ∧ M' (9, 0, 24, 0) (sumI vis (S 1).toNat + i) = b2i (frS S (wyS S g (pvS S g v i)) = pvS S g v i)) := by
  intro m
  induction m with
  | zero =>
    intro M v but vis hS ht hv vW hne hi hm hL hb hvv hvis
    refine CtI.mk (by decide +kernel) rfl (Nat.le_of_ble_eq_true rfl) (fun X K F hk => ?_)
    have vg : v = g := (dp_0 h g0 g1 hv.1 hv.2 vW).mp (by omega)
    have d0 : dpS S g v = 0 := by omega
    have hE := h.2.1
    refine aw_iload1 (pc := 0) F dX9_leads_0 ?_
    refine aw_iload2 (pc := 1) F dX9_leads_1 ?_
    refine aw_icmp_ne (tgt := 7) (pc := 2) F dX9_leads_2 (by decide) (by unfold inR; omega) (by unfold inR; omega) (fun c2 => ?_) (fun c2 => ?_)
    · exact absurd vg c2
    · refine aw_iconst (pc := 5) F dX9_leads_5 ?_
      exact aw_iret (pc := 6) F dX9_leads_6 (nar_bool (by first | exact b2i_01 | decide)) (Nat.zero_le _) ⟨rfl, M, rfl, chW.rf, by rw [d0, hL]; omega, fun _ _ _ => ⟨rfl, rfl⟩, fun i hi => absurd hi (by omega)⟩
  | succ m ih =>
    intro M v but vis hS ht hv vW hne hi hm hL hb hvv hvis
    refine CtI.mk (by decide +kernel) rfl (Nat.le_of_ble_eq_true rfl) (fun X K F hk => ?_)
    have hN := h.2.2.1
    have hE := h.2.1
    obtain ⟨L, eL⟩ : ∃ L, L = sumI vis (S 1).toNat := ⟨_, rfl⟩
    have bL := vis_bd h hb
    rw [← eL] at hL bL
    rw [← eL]
    obtain ⟨Q9, hQ⟩ : ∃ Q9, Q9 = EI X K 0 (fun r σ' => r = 1 ∧ ∃ M', σ' = (M', R0 b) ∧ chW M M' ∧ M' (9, 0, 0, 0) 24 = L + (dpS S g v : Int) ∧ (∀ j, 0 ≤ j → j < L → M' (9, 0, 23, 0) j = M (9, 0, 23, 0) j ∧ M' (9, 0, 24, 0) j = M (9, 0, 24, 0) j) ∧ ∀ i : Nat, i < dpS S g v → M' (9, 0, 23, 0) (L + i) = wyS S g (pvS S g v i) ∧ M' (9, 0, 24, 0) (L + i) = b2i (frS S (wyS S g (pvS S g v i)) = pvS S g v i)) := ⟨_, rfl⟩
    have main : v ≠ g → AW X K 16 [aR (9, 0, 0, 0), aI v, aI g, aI but, aI L, aI 0, aX] [] (M, R0 b) 0 Q9 := by
      intro vg
      obtain ⟨kv, p1, p2, p3, p4, p5, p6, p7⟩ := wy_step h g0 g1 hv.1 hv.2 vg vW
      have visu : ∀ u, u ≠ v → (0 ≤ u ∧ u < S 1) → wyS S g u ≠ -1 → (dpS S g u < dpS S g v + 1 ∨ ((dpS S g u = dpS S g v + 1) ∧ wyS S g u ≠ but)) → vis u = 0 := fun u uv u0 uW hd => (hb u).resolve_right (fun z => by
        obtain ⟨-, c, c0, c1, cW, c2, c3, c4⟩ := hvis u u0.1 u0.2 z uv
        have := desc_d h g0 g1 u0 uW c4
        rcases hd with hd | ⟨hd, hd2⟩
        · omega
        · have := desc_eq h g0 g1 u0 uW (⟨0, by omega, rfl⟩ : desc S g u u) c4 (by omega)
          rw [this] at hd2
          exact hd2 c1)
      have visok : ∀ u e, upS vis u 1 e = 0 ∨ upS vis u 1 e = 1 := fun u e => by
        unfold upS
        split
        · exact Or.inr rfl
        · exact hb e
      have key : ∀ (j k : Nat) (M' : Id4 → Int → Int) (w : AV), k + j = kv → wide w = false → chW M M' → M' (9, 0, 0, 0) 24 = L → (∀ j, 0 ≤ j → j < L → M' (9, 0, 23, 0) j = M (9, 0, 23, 0) j ∧ M' (9, 0, 24, 0) j = M (9, 0, 24, 0) j) → AW X K 16 [aR (9, 0, 0, 0), aI v, aI g, aI but, aI L, aI k, w] [] (M', R0 b) 0 Q9 := by
        intro j
        induction j with
        | zero =>
          intro k M' w hk9 hw9 a1 a2 a3
          obtain rfl : k = kv := by omega
          have s1 : M' (9, 0, 1, 0) = S := a1.s.trans hS
          have s20 : M' (9, 0, 1, 0) 20 = S 20 := by rw [s1]
          have e0 : M' (9, 0, 1, 0) (21 + 5 * (k : Int) + 0) = frS S k := by rw [s1]
          have e1 : M' (9, 0, 1, 0) (21 + 5 * (k : Int) + 1) = toS S k := by rw [s1]
          have et : M' (9, 0, 19, 0) k = 1 := by rw [ht.ch a1 k p2, b2i_pos p3]
          have i0 : inR (frS S k) := by
            have sp := h.2.2.2.2 k (by omega) p2
            unfold SpOk at sp
            unfold frS inR; omega
          have i1 : inR (toS S k) := by
            have sp := h.2.2.2.2 k (by omega) p2
            unfold SpOk at sp
            unfold toS inR; omega
          have pv : othS S k v ≠ v := fun z => by rw [z] at p7; omega
          have nu := visu (othS S k v) pv p5 p6 (Or.inl (by omega))
          have va := vis_add h p5 nu
          have go : ∀ f : Int, f = b2i (frS S k = v) → AW X K 81 [aR (9, 0, 0, 0), aI v, aI g, aI but, aI L, aI k, aI f] [] (M', R0 b) 0 Q9 := by
            intro f hf
            have hf1 : f = 0 ∨ f = 1 := by rw [hf]; exact b2i_01
            obtain ⟨gs, gt⟩ := goM_s (L := L) (k := k) (f := f) s1 (ht.ch a1)
            have c9 := ih (goM M' L k f) (othS S k v) k (upS vis (othS S k v) 1) gs gt p5 p6 (fun z => by
              by_cases og : othS S k v = g
              · rw [og, (wy_is h g0 g1).1.1.1] at z; omega
              · obtain ⟨k2, y1, y2, y3, y4, y5, y6, y7⟩ := wy_step h g0 g1 p5.1 p5.2 og p6
                obtain rfl : k2 = k := by omega
                have : othS S k2 (othS S k2 v) = v := by
                  rcases p4 with ⟨x1, x2⟩ | ⟨x1, x2⟩ <;> rcases y4 with ⟨w1, w2⟩ | ⟨w1, w2⟩ <;> omega
                rw [this] at y7
                omega) (by unfold inR; omega) (by omega) (by rw [goM_at.1, va, ← eL]) (visok _) upS_same (fun x x0 x1 xv xu => by
              rw [upS_ne xu] at xv
              by_cases z : x = v
              · subst z
                exact ⟨vW, x, hv, p1, vW, p7, rfl, ⟨0, by omega, rfl⟩⟩
              · obtain ⟨q0, c, c0, c1, cW, c2, c3, c4⟩ := hvis x x0 x1 xv z
                exact ⟨q0, v, hv, p1, vW, p7, rfl, desc_tr h g0 g1 ⟨x0, x1⟩ q0 c4 ⟨1, by omega, by show othS S (wyS S g c) c = v; rw [c1]; exact c3⟩⟩)
            rw [va, ← eL] at c9
            obtain ⟨M1, hM1⟩ : ∃ M1, M1 = goM M' L k f := ⟨_, rfl⟩
            have t1 : M1 (9, 0, 1, 0) = S := by rw [hM1]; exact gs
            rw [← hM1] at c9
            have eo : ∀ w : Int, (w = (if frS S k = v then 1 else 0)) → M1 (9, 0, 1, 0) (21 + 5 * (k : Int) + w) = othS S k v := fun w hw => by
              rw [t1, hw]
              unfold othS
              split <;> rfl
            refine aw_aload0 (pc := 81) F dX9_leads_81 ?_
            refine aw_iload5 (pc := 82) F dX9_leads_82 ?_
            refine aw_iload6 (pc := 84) F dX9_leads_84 ?_
            refine aw_callVV2 (pc := 86) F dX9_leads_86 ml_9_283 rfl (by first | decide | (simp only [inB, cnt, rcnt]; omega)) (ct9_goes _ _ _ _ L hf1 a2 (by omega)) (Nat.le_of_ble_eq_true rfl) (by omega) (Nat.zero_le _) (fun σ9 h9 => ?_)
            subst h9
            rw [← hM1]
            refine aw_aload0 (pc := 89) F dX9_leads_89 ?_
            refine aw_aload0 (pc := 90) F dX9_leads_90 ?_
            refine aw_iload5 (pc := 91) F dX9_leads_91 ?_
            refine aw_iload6 (pc := 93) F dX9_leads_93 ?_
            refine aw_if_eq (tgt := 102) (pc := 95) F dX9_leads_95 (by decide) (by unfold inR; omega) (fun c95 => ?_) (fun c95 => ?_)
            · refine aw_iconst (pc := 102) F dX9_leads_102 ?_
              refine aw_pcallV2 (pc := 103) F dX9_leads_103 ml_9_200 rfl (by first | decide | (simp only [inB, cnt, rcnt]; omega)) (ct9_of _ _ _ _ (by omega) (by omega)) (Nat.le_of_ble_eq_true rfl) (by omega) (Nat.zero_le _) ?_
              rw [eo _ (by first | (rw [if_pos (b2i_1.mp (by rw [← hf]; omega))]; done) | (rw [if_neg (b2i_0.mp (by rw [← hf]; omega))]; done))]
              refine aw_iload2 (pc := 106) F dX9_leads_106 ?_
              refine aw_iload5 (pc := 107) F dX9_leads_107 ?_
              refine aw_callVI3 (pc := 109) F dX9_leads_109 ml_9_287 rfl (by first | decide | (simp only [inB, cnt, rcnt]; omega)) c9 (Nat.le_of_ble_eq_true rfl) (by omega) (Nat.zero_le _) (fun v9 σ9 h9_109 => ?_)
              obtain ⟨hv9, M2, h9, c1, c2, c3, c4⟩ := h9_109
              subst h9
              subst hv9
              refine aw_if_eq (tgt := 117) (pc := 112) F dX9_leads_112 (by decide) (by unfold inR; omega) (fun c9 => absurd c9 (by decide)) (fun _ => ?_)
              rw [hQ]
              refine aw_iconst (pc := 115) F dX9_leads_115 ?_
              exact aw_iret (pc := 116) F dX9_leads_116 (nar_bool (by first | exact b2i_01 | decide)) (Nat.zero_le _) ⟨rfl, M2, rfl, (a1.tr (hM1 ▸ goM_ch)).tr c1, by rw [c2, p7]; omega, fun j j0 j1 => by
                have a := c3 j j0 (by omega)
                have a2 := goM_lo (M := M') (L := L) (k := k) (f := f) j1
                rw [← hM1] at a2
                rw [a.1, a.2, a2.1, a2.2]
                exact a3 j j0 j1, fun i hi => by
                cases i with
                | zero =>
                  have a := c3 L (by omega) (by omega)
                  have a4 := goM_at (M := M') (L := L) (k := k) (f := f)
                  rw [← hM1] at a4
                  rw [show L + ((0 : Nat) : Int) = L by omega, a.1, a.2, a4.2.1, a4.2.2]
                  show (k : Int) = wyS S g v ∧ f = b2i (frS S (wyS S g v) = v)
                  rw [p1]
                  exact ⟨rfl, hf⟩
                | succ i =>
                  have a := c4 i (by omega)
                  rw [show L + ((i + 1 : Nat) : Int) = L + 1 + (i : Int) by omega, pv_succ, p1]
                  exact a⟩
            · refine aw_iconst (pc := 98) F dX9_leads_98 ?_
              refine aw_goto (tgt := 103) (pc := 99) F dX9_leads_99 (by decide) ?_
              refine aw_pcallV2 (pc := 103) F dX9_leads_103 ml_9_200 rfl (by first | decide | (simp only [inB, cnt, rcnt]; omega)) (ct9_of _ _ _ _ (by omega) (by omega)) (Nat.le_of_ble_eq_true rfl) (by omega) (Nat.zero_le _) ?_
              rw [eo _ (by first | (rw [if_pos (b2i_1.mp (by rw [← hf]; omega))]; done) | (rw [if_neg (b2i_0.mp (by rw [← hf]; omega))]; done))]
              refine aw_iload2 (pc := 106) F dX9_leads_106 ?_
              refine aw_iload5 (pc := 107) F dX9_leads_107 ?_
              refine aw_callVI3 (pc := 109) F dX9_leads_109 ml_9_287 rfl (by first | decide | (simp only [inB, cnt, rcnt]; omega)) c9 (Nat.le_of_ble_eq_true rfl) (by omega) (Nat.zero_le _) (fun v9 σ9 h9_109 => ?_)
              obtain ⟨hv9, M2, h9, c1, c2, c3, c4⟩ := h9_109
              subst h9
              subst hv9
              refine aw_if_eq (tgt := 117) (pc := 112) F dX9_leads_112 (by decide) (by unfold inR; omega) (fun c9 => absurd c9 (by decide)) (fun _ => ?_)
              rw [hQ]
              refine aw_iconst (pc := 115) F dX9_leads_115 ?_
              exact aw_iret (pc := 116) F dX9_leads_116 (nar_bool (by first | exact b2i_01 | decide)) (Nat.zero_le _) ⟨rfl, M2, rfl, (a1.tr (hM1 ▸ goM_ch)).tr c1, by rw [c2, p7]; omega, fun j j0 j1 => by
                have a := c3 j j0 (by omega)
                have a2 := goM_lo (M := M') (L := L) (k := k) (f := f) j1
                rw [← hM1] at a2
                rw [a.1, a.2, a2.1, a2.2]
                exact a3 j j0 j1, fun i hi => by
                cases i with
                | zero =>
                  have a := c3 L (by omega) (by omega)
                  have a4 := goM_at (M := M') (L := L) (k := k) (f := f)
                  rw [← hM1] at a4
                  rw [show L + ((0 : Nat) : Int) = L by omega, a.1, a.2, a4.2.1, a4.2.2]
                  show (k : Int) = wyS S g v ∧ f = b2i (frS S (wyS S g v) = v)
                  rw [p1]
                  exact ⟨rfl, hf⟩
                | succ i =>
                  have a := c4 i (by omega)
                  rw [show L + ((i + 1 : Nat) : Int) = L + 1 + (i : Int) by omega, pv_succ, p1]
                  exact a⟩
          have inc : frS S k = v ∨ toS S k = v := p4.elim (fun z => Or.inl z.1) (fun z => Or.inr z.1)
          refine aw_iload5 (pc := 16) F dX9_leads_16 ?_
          refine aw_aload0 (pc := 18) F dX9_leads_18 ?_
          refine aw_getR (pc := 19) F dX9_leads_19 fl_9_7 rfl (by first | decide | (simp only [inB, cnt, rcnt]; omega)) rfl nz0 rfl ?_
          refine aw_bipush (pc := 22) F dX9_leads_22 (by decide) ?_
          refine aw_iald (pc := 24) F dX9_leads_24 rfl (by first | decide | (simp only [inB, cnt, rcnt]; omega)) (by omega) ?_
          refine aw_icmp_ge (tgt := 129) (pc := 25) F dX9_leads_25 (by decide) (by first | exact i0 | exact i1 | assumption | (unfold inR; omega)) (by first | exact i0 | exact i1 | assumption | (unfold inR; omega)) (fun c25 => ?_) (fun c25 => ?_)
          · omega
          · refine aw_aload0 (pc := 28) F dX9_leads_28 ?_
            refine aw_iload5 (pc := 29) F dX9_leads_29 ?_
            refine aw_iconst (pc := 31) F dX9_leads_31 ?_
            refine aw_pcallV2 (pc := 32) F dX9_leads_32 ml_9_200 rfl (by first | decide | (simp only [inB, cnt, rcnt]; omega)) (ct9_of _ _ _ _ (by omega) (by omega)) (Nat.le_of_ble_eq_true rfl) (by omega) (Nat.zero_le _) ?_
            rw [e0]
            refine aw_iload1 (pc := 35) F dX9_leads_35 ?_
            refine aw_icmp_ne (tgt := 43) (pc := 36) F dX9_leads_36 (by decide) (by first | exact i0 | exact i1 | assumption | (unfold inR; omega)) (by first | exact i0 | exact i1 | assumption | (unfold inR; omega)) (fun c36 => ?_) (fun c36 => ?_)
            · refine aw_iconst (pc := 43) F dX9_leads_43 ?_
              refine aw_istore6 (pc := 44) F dX9_leads_44 (by simp only [List.all_cons, List.all_nil, hw9]; rfl) hk.symm ?_
              refine aw_aload0 (pc := 46) F dX9_leads_46 ?_
              refine aw_getR (pc := 47) F dX9_leads_47 fl_9_29 rfl (by first | decide | (simp only [inB, cnt, rcnt]; omega)) rfl nz18 rfl ?_
              refine aw_iload5 (pc := 50) F dX9_leads_50 ?_
              refine aw_zald (pc := 52) F dX9_leads_52 rfl (by first | decide | (simp only [inB, cnt, rcnt]; omega)) (by omega) ?_
              rw [et]
              refine aw_if_eq (tgt := 123) (pc := 53) F dX9_leads_53 (by decide) (by first | exact i0 | exact i1 | assumption | (unfold inR; omega)) (fun c53 => ?_) (fun c53 => ?_)
              · refine aw_iinc5 (pc := 123) F dX9_leads_123 (by simp only [List.all_cons, List.all_nil, hw9]; rfl) hk.symm ?_
                refine aw_goto (tgt := 16) (pc := 126) F dX9_leads_126 (by decide) ?_
                first | exact absurd c53 (by decide) | exact absurd c59 (fun z => hne (by rw [p1]; exact z.symm)) | exact absurd c64 (by decide) | exact absurd inc (fun z => z.elim c36 c75)
              · refine aw_iload5 (pc := 56) F dX9_leads_56 ?_
                refine aw_iload3 (pc := 58) F dX9_leads_58 ?_
                refine aw_icmp_eq (tgt := 123) (pc := 59) F dX9_leads_59 (by decide) (by first | exact i0 | exact i1 | assumption | (unfold inR; omega)) (by first | exact i0 | exact i1 | assumption | (unfold inR; omega)) (fun c59 => ?_) (fun c59 => ?_)
                · refine aw_iinc5 (pc := 123) F dX9_leads_123 (by simp only [List.all_cons, List.all_nil, hw9]; rfl) hk.symm ?_
                  refine aw_goto (tgt := 16) (pc := 126) F dX9_leads_126 (by decide) ?_
                  first | exact absurd c53 (by decide) | exact absurd c59 (fun z => hne (by rw [p1]; exact z.symm)) | exact absurd c64 (by decide) | exact absurd inc (fun z => z.elim c36 c75)
                · refine aw_iload6 (pc := 62) F dX9_leads_62 ?_
                  refine aw_if_ne (tgt := 81) (pc := 64) F dX9_leads_64 (by decide) (by first | exact i0 | exact i1 | assumption | (unfold inR; omega)) (fun c64 => ?_) (fun c64 => ?_)
                  · first | exact go 1 (b2i_pos c36).symm | exact go 0 (b2i_neg c36).symm | exact absurd rfl c64 | exact absurd (show (1 : Int) = 0 from c64) (by decide)
                  · refine aw_aload0 (pc := 67) F dX9_leads_67 ?_
                    refine aw_iload5 (pc := 68) F dX9_leads_68 ?_
                    refine aw_iconst (pc := 70) F dX9_leads_70 ?_
                    refine aw_pcallV2 (pc := 71) F dX9_leads_71 ml_9_200 rfl (by first | decide | (simp only [inB, cnt, rcnt]; omega)) (ct9_of _ _ _ _ (by omega) (by omega)) (Nat.le_of_ble_eq_true rfl) (by omega) (Nat.zero_le _) ?_
                    rw [e1]
                    refine aw_iload1 (pc := 74) F dX9_leads_74 ?_
                    refine aw_icmp_eq (tgt := 81) (pc := 75) F dX9_leads_75 (by decide) (by first | exact i0 | exact i1 | assumption | (unfold inR; omega)) (by first | exact i0 | exact i1 | assumption | (unfold inR; omega)) (fun c75 => ?_) (fun c75 => ?_)
                    · first | exact go 1 (b2i_pos c36).symm | exact go 0 (b2i_neg c36).symm | exact absurd rfl c64 | exact absurd (show (1 : Int) = 0 from c64) (by decide)
                    · refine aw_goto (tgt := 123) (pc := 78) F dX9_leads_78 (by decide) ?_
                      refine aw_iinc5 (pc := 123) F dX9_leads_123 (by simp only [List.all_cons, List.all_nil, hw9]; rfl) hk.symm ?_
                      refine aw_goto (tgt := 16) (pc := 126) F dX9_leads_126 (by decide) ?_
                      first | exact absurd c53 (by decide) | exact absurd c59 (fun z => hne (by rw [p1]; exact z.symm)) | exact absurd c64 (by decide) | exact absurd inc (fun z => z.elim c36 c75)
            · refine aw_iconst (pc := 39) F dX9_leads_39 ?_
              refine aw_goto (tgt := 44) (pc := 40) F dX9_leads_40 (by decide) ?_
              refine aw_istore6 (pc := 44) F dX9_leads_44 (by simp only [List.all_cons, List.all_nil, hw9]; rfl) hk.symm ?_
              refine aw_aload0 (pc := 46) F dX9_leads_46 ?_
              refine aw_getR (pc := 47) F dX9_leads_47 fl_9_29 rfl (by first | decide | (simp only [inB, cnt, rcnt]; omega)) rfl nz18 rfl ?_
              refine aw_iload5 (pc := 50) F dX9_leads_50 ?_
              refine aw_zald (pc := 52) F dX9_leads_52 rfl (by first | decide | (simp only [inB, cnt, rcnt]; omega)) (by omega) ?_
              rw [et]
              refine aw_if_eq (tgt := 123) (pc := 53) F dX9_leads_53 (by decide) (by first | exact i0 | exact i1 | assumption | (unfold inR; omega)) (fun c53 => ?_) (fun c53 => ?_)
              · refine aw_iinc5 (pc := 123) F dX9_leads_123 (by simp only [List.all_cons, List.all_nil, hw9]; rfl) hk.symm ?_
                refine aw_goto (tgt := 16) (pc := 126) F dX9_leads_126 (by decide) ?_
                first | exact absurd c53 (by decide) | exact absurd c59 (fun z => hne (by rw [p1]; exact z.symm)) | exact absurd c64 (by decide) | exact absurd inc (fun z => z.elim c36 c75)
              · refine aw_iload5 (pc := 56) F dX9_leads_56 ?_
                refine aw_iload3 (pc := 58) F dX9_leads_58 ?_
                refine aw_icmp_eq (tgt := 123) (pc := 59) F dX9_leads_59 (by decide) (by first | exact i0 | exact i1 | assumption | (unfold inR; omega)) (by first | exact i0 | exact i1 | assumption | (unfold inR; omega)) (fun c59 => ?_) (fun c59 => ?_)
                · refine aw_iinc5 (pc := 123) F dX9_leads_123 (by simp only [List.all_cons, List.all_nil, hw9]; rfl) hk.symm ?_
                  refine aw_goto (tgt := 16) (pc := 126) F dX9_leads_126 (by decide) ?_
                  first | exact absurd c53 (by decide) | exact absurd c59 (fun z => hne (by rw [p1]; exact z.symm)) | exact absurd c64 (by decide) | exact absurd inc (fun z => z.elim c36 c75)
                · refine aw_iload6 (pc := 62) F dX9_leads_62 ?_
                  refine aw_if_ne (tgt := 81) (pc := 64) F dX9_leads_64 (by decide) (by first | exact i0 | exact i1 | assumption | (unfold inR; omega)) (fun c64 => ?_) (fun c64 => ?_)
                  · first | exact go 1 (b2i_pos c36).symm | exact go 0 (b2i_neg c36).symm | exact absurd rfl c64 | exact absurd (show (1 : Int) = 0 from c64) (by decide)
                  · refine aw_aload0 (pc := 67) F dX9_leads_67 ?_
                    refine aw_iload5 (pc := 68) F dX9_leads_68 ?_
                    refine aw_iconst (pc := 70) F dX9_leads_70 ?_
                    refine aw_pcallV2 (pc := 71) F dX9_leads_71 ml_9_200 rfl (by first | decide | (simp only [inB, cnt, rcnt]; omega)) (ct9_of _ _ _ _ (by omega) (by omega)) (Nat.le_of_ble_eq_true rfl) (by omega) (Nat.zero_le _) ?_
                    rw [e1]
                    refine aw_iload1 (pc := 74) F dX9_leads_74 ?_
                    refine aw_icmp_eq (tgt := 81) (pc := 75) F dX9_leads_75 (by decide) (by first | exact i0 | exact i1 | assumption | (unfold inR; omega)) (by first | exact i0 | exact i1 | assumption | (unfold inR; omega)) (fun c75 => ?_) (fun c75 => ?_)
                    · first | exact go 1 (b2i_pos c36).symm | exact go 0 (b2i_neg c36).symm | exact absurd rfl c64 | exact absurd (show (1 : Int) = 0 from c64) (by decide)
                    · refine aw_goto (tgt := 123) (pc := 78) F dX9_leads_78 (by decide) ?_
                      refine aw_iinc5 (pc := 123) F dX9_leads_123 (by simp only [List.all_cons, List.all_nil, hw9]; rfl) hk.symm ?_
                      refine aw_goto (tgt := 16) (pc := 126) F dX9_leads_126 (by decide) ?_
                      first | exact absurd c53 (by decide) | exact absurd c59 (fun z => hne (by rw [p1]; exact z.symm)) | exact absurd c64 (by decide) | exact absurd inc (fun z => z.elim c36 c75)
        | succ j ih2 =>
          intro k M' w hk9 hw9 a1 a2 a3
          refine leads_iter (d2 := 10) (S := S) F hk (a1.s.trans hS) h (ht.ch a1) (by omega) hv hi hw9 (by omega) (by omega) a2 (by omega) (fun kt kk inc => ?_) (fun M2 w6 g6 q1 q2 q3 => ih2 (k + 1) M2 w6 (by omega) g6 (a1.tr q1) q2 (fun j j0 j1 => ⟨(q3 j j0 j1).1.trans (a3 j j0 j1).1, (q3 j j0 j1).2.trans (a3 j j0 j1).2⟩))
          obtain ⟨u0, uk, ug, ud, oo, uv, -⟩ := child_of h g0 g1 hv vW (by omega) kt inc (by rw [p1]; omega)
          have uW : wyS S g (othS S k v) ≠ -1 := by rw [uk]; omega
          have nu := visu (othS S k v) uv u0 uW (Or.inr ⟨ud, by rw [uk]; exact kk⟩)
          have va := vis_add h u0 nu
          obtain ⟨gs, gt⟩ := goM_s (L := L) (k := k) (f := b2i (frS S k = v)) (a1.s.trans hS) (ht.ch a1)
          have c9 := ct9_leadsF h g0 g1 b 6 (goM M' L k (b2i (frS S k = v))) (othS S k v) k (upS vis (othS S k v) 1) gs gt u0 uk ug (by omega) (by rw [goM_at.1, va, ← eL]) (visok _) upS_same (fun x x0 x1 xv xW xu xd => by
            rw [upS_ne xu] at xv
            by_cases z : x = v
            · have := desc_d h g0 g1 ⟨x0, x1⟩ xW xd
              rw [z] at this
              omega
            · obtain ⟨-, c, c0, c1, cW, c2, c3, c4⟩ := hvis x x0 x1 xv z
              have := desc_eq h g0 g1 ⟨x0, x1⟩ xW c4 xd (by omega)
              rw [← this, c1] at uk
              exact kk uk.symm)
          rw [va, ← eL] at c9
          exact c9
      exact key kv 0 M aX (by omega) rfl chW.rf hL (fun _ _ _ => ⟨rfl, rfl⟩)
    have sv : M (9, 0, 0, 0) 24 = L := hL
    refine aw_iload1 (pc := 0) F dX9_leads_0 ?_
    refine aw_iload2 (pc := 1) F dX9_leads_1 ?_
    refine aw_icmp_ne (tgt := 7) (pc := 2) F dX9_leads_2 (by decide) (by unfold inR; omega) (by unfold inR; omega) (fun c2 => ?_) (fun c2 => ?_)
    · refine aw_aload0 (pc := 7) F dX9_leads_7 ?_
      refine aw_getI (pc := 8) F dX9_leads_8 fl_9_280 rfl (by first | decide | (simp only [inB, cnt, rcnt]; omega)) rfl nz24 ?_
      rw [sv]
      refine aw_istore4 (pc := 11) F dX9_leads_11 rfl hk.symm ?_
      refine aw_iconst (pc := 13) F dX9_leads_13 ?_
      refine aw_istore5 (pc := 14) F dX9_leads_14 rfl hk.symm ?_
      rw [← hQ]
      exact main c2
    · refine aw_iconst (pc := 5) F dX9_leads_5 ?_
      exact aw_iret (pc := 6) F dX9_leads_6 (nar_bool (by first | exact b2i_01 | decide)) (Nat.zero_le _) ⟨rfl, M, rfl, chW.rf, by rw [(dp_0 h g0 g1 hv.1 hv.2 vW).mpr c2, hL]; omega, fun _ _ _ => ⟨rfl, rfl⟩, fun i hi => absurd hi (by rw [(dp_0 h g0 g1 hv.1 hv.2 vW).mpr c2]; omega)⟩
