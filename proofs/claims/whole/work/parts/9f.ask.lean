/-! 9f: the questions, on both sides -/
theorem op_time (M : Id4 → Int → Int) (b : Bool) (st : ST) (e : Int) (he : inR e) (h8 : I8 M st) (hp : PUs st) : ∃ U t V st', U ≤ 8 ∧ (0 ≤ t ∧ t ≤ 3) ∧ PUs st' ∧ CtH 14 U yL_time cL_time 4 (some .int) [(0, 9, 12, 21)] [aR (8, 0, 0, 0), aI e, aR (10, 0, 1, 0)] (M, R0 b) (AW8 M t V st') ∧ ∀ M' b', I9 M' st → CtI 3 0 yX9_time cX9_time 2 (some .int) [aR (9, 0, 0, 0), aI e] (M', R0 b') (AR9 M' b' t V st') := by
  obtain ⟨S, B, n, Hs, p, bf, ek, ep⟩ := st
  have hR : plR M 0 S := h8.1
  have hO : Ok S := hp.1
  have hT := hO.1
  have hE := hO.2.1
  have hN := hO.2.2.1
  refine ⟨1, 1 - b2i (0 ≤ e ∧ e ≤ S 1 - 1), S (14 + e), (S, B, n, Hs, p, bf, ek, ep), by decide, (by first | exact t1b | exact t2b | exact t3b | decide | omega), hp, ?_, fun M' b' hI => ?_⟩
  · refine (ch_time M (R0 b) e (cx8_time M b S e he hR hO) (fun E σ' h => ?_)).mono (fun r σ' hq => q_wrap (b := b) h8 hq (fun v σ' h => ?_) (fun j E σ' hj h => ?_))
    · obtain ⟨rfl, h2⟩ := h; exact List.mem_cons_self
    · obtain ⟨hv, hs, hc⟩ := h; exact ⟨hv, t1y (c := 0 ≤ e ∧ e ≤ S 1 - 1) (by omega), hs ▸ K8.rf⟩
    · obtain ⟨rfl, -⟩ := nm1 hj; obtain ⟨-, hs, hc⟩ := h; exact ⟨(t1n (c := 0 ≤ e ∧ e ≤ S 1 - 1) (by omega)).symm, hs ▸ K8.rf⟩
  · have z := cq9_time M' b' e he (by rw [show M' (9, 0, 1, 0) = S from hI.1]; exact hO)
    rw [show M' (9, 0, 1, 0) = S from hI.1] at z
    exact z.mono (fun v σ' hq => q_ref hI hq)
theorem op_duration (M : Id4 → Int → Int) (b : Bool) (st : ST) (e : Int) (he : inR e) (h8 : I8 M st) (hp : PUs st) : ∃ U t V st', U ≤ 8 ∧ (0 ≤ t ∧ t ≤ 3) ∧ PUs st' ∧ CtH 14 U yL_duration cL_duration 4 (some .int) [(0, 9, 12, 21)] [aR (8, 0, 0, 0), aI e, aR (10, 0, 1, 0)] (M, R0 b) (AW8 M t V st') ∧ ∀ M' b', I9 M' st → CtI 6 0 yX9_duration cX9_duration 2 (some .int) [aR (9, 0, 0, 0), aI e] (M', R0 b') (AR9 M' b' t V st') := by
  obtain ⟨S, B, n, Hs, p, bf, ek, ep⟩ := st
  have hR : plR M 0 S := h8.1
  have hO : Ok S := hp.1
  have hT := hO.1
  have hE := hO.2.1
  have hN := hO.2.2.1
  refine ⟨1, 1 - b2i (0 ≤ e ∧ e ≤ S 20 - 1), S (21 + 5 * e + 2) + slOf S e, (S, B, n, Hs, p, bf, ek, ep), by decide, (by first | exact t1b | exact t2b | exact t3b | decide | omega), hp, ?_, fun M' b' hI => ?_⟩
  · refine (ch_duration M (R0 b) e (cx8_duration M b S e he hR hO) (fun E σ' h => ?_)).mono (fun r σ' hq => q_wrap (b := b) h8 hq (fun v σ' h => ?_) (fun j E σ' hj h => ?_))
    · obtain ⟨rfl, h2⟩ := h; exact List.mem_cons_self
    · obtain ⟨hv, hs, hc⟩ := h; exact ⟨hv, t1y (c := 0 ≤ e ∧ e ≤ S 20 - 1) (by omega), hs ▸ K8.rf⟩
    · obtain ⟨rfl, -⟩ := nm1 hj; obtain ⟨-, hs, hc⟩ := h; exact ⟨(t1n (c := 0 ≤ e ∧ e ≤ S 20 - 1) (by omega)).symm, hs ▸ K8.rf⟩
  · have z := cq9_duration M' b' e he (by rw [show M' (9, 0, 1, 0) = S from hI.1]; exact hO)
    rw [show M' (9, 0, 1, 0) = S from hI.1] at z
    exact z.mono (fun v σ' hq => q_ref hI hq)
theorem op_slack (M : Id4 → Int → Int) (b : Bool) (st : ST) (e : Int) (he : inR e) (h8 : I8 M st) (hp : PUs st) : ∃ U t V st', U ≤ 8 ∧ (0 ≤ t ∧ t ≤ 3) ∧ PUs st' ∧ CtH 14 U yL_slack cL_slack 4 (some .int) [(0, 9, 12, 21)] [aR (8, 0, 0, 0), aI e, aR (10, 0, 1, 0)] (M, R0 b) (AW8 M t V st') ∧ ∀ M' b', I9 M' st → CtI 5 0 yX9_slack cX9_slack 2 (some .int) [aR (9, 0, 0, 0), aI e] (M', R0 b') (AR9 M' b' t V st') := by
  obtain ⟨S, B, n, Hs, p, bf, ek, ep⟩ := st
  have hR : plR M 0 S := h8.1
  have hO : Ok S := hp.1
  have hT := hO.1
  have hE := hO.2.1
  have hN := hO.2.2.1
  refine ⟨1, 1 - b2i (0 ≤ e ∧ e ≤ S 20 - 1), slOf S e, (S, B, n, Hs, p, bf, ek, ep), by decide, (by first | exact t1b | exact t2b | exact t3b | decide | omega), hp, ?_, fun M' b' hI => ?_⟩
  · refine (ch_slack M (R0 b) e (cx8_slack M b S e he hR hO) (fun E σ' h => ?_)).mono (fun r σ' hq => q_wrap (b := b) h8 hq (fun v σ' h => ?_) (fun j E σ' hj h => ?_))
    · obtain ⟨rfl, h2⟩ := h; exact List.mem_cons_self
    · obtain ⟨hv, hs, hc⟩ := h; exact ⟨hv, t1y (c := 0 ≤ e ∧ e ≤ S 20 - 1) (by omega), hs ▸ K8.rf⟩
    · obtain ⟨rfl, -⟩ := nm1 hj; obtain ⟨-, hs, hc⟩ := h; exact ⟨(t1n (c := 0 ≤ e ∧ e ≤ S 20 - 1) (by omega)).symm, hs ▸ K8.rf⟩
  · have z := cq9_slack M' b' e he (by rw [show M' (9, 0, 1, 0) = S from hI.1]; exact hO)
    rw [show M' (9, 0, 1, 0) = S from hI.1] at z
    exact z.mono (fun v σ' hq => q_ref hI hq)
theorem op_isKept (M : Id4 → Int → Int) (b : Bool) (st : ST) (e : Int) (he : inR e) (h8 : I8 M st) (hp : PUs st) : ∃ U t V st', U ≤ 8 ∧ (0 ≤ t ∧ t ≤ 3) ∧ PUs st' ∧ (V = 0 ∨ V = 1) ∧ CtH 14 U yL_isKept cL_isKept 4 (some .int) [(0, 16, 19, 21)] [aR (8, 0, 0, 0), aI e, aR (10, 0, 1, 0)] (M, R0 b) (AW8 M t V st') ∧ ∀ M' b', I9 M' st → CtI 5 0 yX9_isKept cX9_isKept 2 (some .boolean) [aR (9, 0, 0, 0), aI e] (M', R0 b') (AR9 M' b' t V st') := by
  obtain ⟨S, B, n, Hs, p, bf, ek, ep⟩ := st
  have hR : plR M 0 S := h8.1
  have hO : Ok S := hp.1
  have hT := hO.1
  have hE := hO.2.1
  have hN := hO.2.2.1
  refine ⟨1, 1 - b2i (0 ≤ e ∧ e ≤ S 20 - 1), b2i (kept S e), (S, B, n, Hs, p, bf, ek, ep), by decide, (by first | exact t1b | exact t2b | exact t3b | decide | omega), hp, (by first | exact b2i_01 | exact cyB_01 _), ?_, fun M' b' hI => ?_⟩
  · refine (ch_isKept M (R0 b) e (cx8_isKept M b S e he hR hO) (fun E σ' h => ?_) (fun v σ' h => ?_)).mono (fun r σ' hq => q_wrap (b := b) h8 hq (fun v σ' h => ?_) (fun j E σ' hj h => ?_))
    · obtain ⟨rfl, h2⟩ := h; exact List.mem_cons_self
    · rw [h.1]; exact b2i_01
    · obtain ⟨hv, hs, hc⟩ := h; exact ⟨hv, t1y (c := 0 ≤ e ∧ e ≤ S 20 - 1) (by omega), hs ▸ K8.rf⟩
    · obtain ⟨rfl, -⟩ := nm1 hj; obtain ⟨-, hs, hc⟩ := h; exact ⟨(t1n (c := 0 ≤ e ∧ e ≤ S 20 - 1) (by omega)).symm, hs ▸ K8.rf⟩
  · have z := cq9_isKept M' b' e he (by rw [show M' (9, 0, 1, 0) = S from hI.1]; exact hO)
    rw [show M' (9, 0, 1, 0) = S from hI.1] at z
    exact z.mono (fun v σ' hq => q_ref hI hq)
theorem op_span (M : Id4 → Int → Int) (b : Bool) (st : ST) (e w : Int) (he : inR e) (hw : inR w) (h8 : I8 M st) (hp : PUs st) : ∃ U t V st', U ≤ 8 ∧ (0 ≤ t ∧ t ≤ 3) ∧ PUs st' ∧ CtH 14 U yL_span cL_span 5 (some .int) [(0, 10, 13, 21), (0, 10, 17, 13)] [aR (8, 0, 0, 0), aI e, aI w, aR (10, 0, 1, 0)] (M, R0 b) (AW8 M t V st') ∧ ∀ M' b', I9 M' st → CtI 3 0 yX9_span cX9_span 3 (some .int) [aR (9, 0, 0, 0), aI e, aI w] (M', R0 b') (AR9 M' b' t V st') := by
  obtain ⟨S, B, n, Hs, p, bf, ek, ep⟩ := st
  have hR : plR M 0 S := h8.1
  have hO : Ok S := hp.1
  have hT := hO.1
  have hE := hO.2.1
  have hN := hO.2.2.1
  refine ⟨2, t2 (0 ≤ e ∧ e ≤ S 20 - 1) (0 ≤ w ∧ w ≤ 4), S (21 + 5 * e + w), (S, B, n, Hs, p, bf, ek, ep), by decide, (by first | exact t1b | exact t2b | exact t3b | decide | omega), hp, ?_, fun M' b' hI => ?_⟩
  · refine (ch_span M (R0 b) e w (cx8_span M b S e w he hw hR hO) (fun E σ' h => ?_)).mono (fun r σ' hq => q_wrap (b := b) h8 hq (fun v σ' h => ?_) (fun j E σ' hj h => ?_))
    · rcases h.2 with ⟨rfl, -⟩ | ⟨rfl, -⟩ <;> simp
    · obtain ⟨hv, hs, hc, hc2⟩ := h; exact ⟨hv, t2_0 (c1 := 0 ≤ e ∧ e ≤ S 20 - 1) (c2 := 0 ≤ w ∧ w ≤ 4) (by omega) (by omega), hs ▸ K8.rf⟩
    · obtain ⟨hs, hc⟩ := h
      rcases nm2 hj with ⟨rfl, rfl⟩ | ⟨rfl, rfl⟩
      · rcases hc with ⟨-, hc⟩ | ⟨hc, -⟩
        · exact ⟨(t2_1 (c1 := 0 ≤ e ∧ e ≤ S 20 - 1) (c2 := 0 ≤ w ∧ w ≤ 4) (by omega)).symm, hs ▸ K8.rf⟩
        · exact absurd hc (by decide)
      · rcases hc with ⟨hc, -⟩ | ⟨-, hc, hc2⟩
        · exact absurd hc (by decide)
        · exact ⟨(t2_2 (c1 := 0 ≤ e ∧ e ≤ S 20 - 1) (c2 := 0 ≤ w ∧ w ≤ 4) (by omega) (by omega)).symm, hs ▸ K8.rf⟩
  · have z := cq9_span M' b' e w he hw (by rw [show M' (9, 0, 1, 0) = S from hI.1]; exact hO)
    rw [show M' (9, 0, 1, 0) = S from hI.1] at z
    exact z.mono (fun v σ' hq => q_ref hI hq)
theorem op_share (M : Id4 → Int → Int) (b : Bool) (st : ST) (e w : Int) (he : inR e) (hw : inR w) (h8 : I8 M st) (hp : PUs st) : ∃ U t V st', U ≤ 8 ∧ (0 ≤ t ∧ t ≤ 3) ∧ PUs st' ∧ CtH 14 U yL_share cL_share 5 (some .int) [(0, 10, 13, 21), (0, 10, 17, 13)] [aR (8, 0, 0, 0), aI e, aI w, aR (10, 0, 1, 0)] (M, R0 b) (AW8 M t V st') ∧ ∀ M' b', I9 M' st → CtI 4 0 yX9_share cX9_share 9 (some .int) [aR (9, 0, 0, 0), aI e, aI w] (M', R0 b') (AR9 M' b' t V st') := by
  obtain ⟨S, B, n, Hs, p, bf, ek, ep⟩ := st
  have hR : plR M 0 S := h8.1
  have hO : Ok S := hp.1
  have hT := hO.1
  have hE := hO.2.1
  have hN := hO.2.2.1
  refine ⟨2, t2 (0 ≤ e ∧ e ≤ S 20 - 1) (0 ≤ w ∧ w ≤ 999), shS S w e, (S, B, n, Hs, p, bf, ek, ep), by decide, (by first | exact t1b | exact t2b | exact t3b | decide | omega), hp, ?_, fun M' b' hI => ?_⟩
  · refine (ch_share M (R0 b) e w (cx8_share M b S e w he hw hR hO) (fun E σ' h => ?_)).mono (fun r σ' hq => q_wrap (b := b) h8 hq (fun v σ' h => ?_) (fun j E σ' hj h => ?_))
    · rcases h.2 with ⟨rfl, -⟩ | ⟨rfl, -⟩ <;> simp
    · obtain ⟨hv, hs, hc, hc2⟩ := h; exact ⟨hv, t2_0 (c1 := 0 ≤ e ∧ e ≤ S 20 - 1) (c2 := 0 ≤ w ∧ w ≤ 999) (by omega) (by omega), hs ▸ K8.rf⟩
    · obtain ⟨hs, hc⟩ := h
      rcases nm2 hj with ⟨rfl, rfl⟩ | ⟨rfl, rfl⟩
      · rcases hc with ⟨-, hc⟩ | ⟨hc, -⟩
        · exact ⟨(t2_1 (c1 := 0 ≤ e ∧ e ≤ S 20 - 1) (c2 := 0 ≤ w ∧ w ≤ 999) (by omega)).symm, hs ▸ K8.rf⟩
        · exact absurd hc (by decide)
      · rcases hc with ⟨hc, -⟩ | ⟨-, hc, hc2⟩
        · exact absurd hc (by decide)
        · exact ⟨(t2_2 (c1 := 0 ≤ e ∧ e ≤ S 20 - 1) (c2 := 0 ≤ w ∧ w ≤ 999) (by omega) (by omega)).symm, hs ▸ K8.rf⟩
  · exact (cq9_share M' b' S e w he hw hI.1 hO).mono (fun v σ' hq => q_ref hI hq)
theorem op_costIf (M : Id4 → Int → Int) (b : Bool) (st : ST) (e w : Int) (he : inR e) (hw : inR w) (h8 : I8 M st) (hp : PUs st) : ∃ U t V st', U ≤ 8 ∧ (0 ≤ t ∧ t ≤ 3) ∧ PUs st' ∧ CtH 14 U yL_costIf cL_costIf 5 (some .int) [(0, 10, 13, 21), (0, 10, 17, 13)] [aR (8, 0, 0, 0), aI e, aI w, aR (10, 0, 1, 0)] (M, R0 b) (AW8 M t V st') ∧ ∀ M' b', I9 M' st → CtI 7 0 yX9_costIf cX9_costIf 3 (some .int) [aR (9, 0, 0, 0), aI e, aI w] (M', R0 b') (AR9 M' b' t V st') := by
  obtain ⟨S, B, n, Hs, p, bf, ek, ep⟩ := st
  have hR : plR M 0 S := h8.1
  have hO : Ok S := hp.1
  have hT := hO.1
  have hE := hO.2.1
  have hN := hO.2.2.1
  refine ⟨2, t2 (0 ≤ e ∧ e ≤ S 1 - 1) (0 ≤ w ∧ w ≤ S 0 - 1), cst (upS S (14 + e) w), (S, B, n, Hs, p, bf, ek, ep), by decide, (by first | exact t1b | exact t2b | exact t3b | decide | omega), hp, ?_, fun M' b' hI => ?_⟩
  · refine (ch_costIf M (R0 b) e w (cx8_costIf M b S e w he hw hR hO) (fun E σ' h => ?_)).mono (fun r σ' hq => q_wrap (b := b) h8 hq (fun v σ' h => ?_) (fun j E σ' hj h => ?_))
    · rcases h.2 with ⟨rfl, -⟩ | ⟨rfl, -⟩ <;> simp
    · obtain ⟨hv, hc, M2, hs, hk⟩ := h; exact ⟨hv, t2_0 (c1 := 0 ≤ e ∧ e ≤ S 1 - 1) (c2 := 0 ≤ w ∧ w ≤ S 0 - 1) (by omega) (by omega), M2, hs, hk⟩
    · obtain ⟨hs, hc⟩ := h
      rcases nm2 hj with ⟨rfl, rfl⟩ | ⟨rfl, rfl⟩
      · rcases hc with ⟨-, hc⟩ | ⟨hc, -⟩
        · exact ⟨(t2_1 (c1 := 0 ≤ e ∧ e ≤ S 1 - 1) (c2 := 0 ≤ w ∧ w ≤ S 0 - 1) (by omega)).symm, hs ▸ K8.rf⟩
        · exact absurd hc (by decide)
      · rcases hc with ⟨hc, -⟩ | ⟨-, hc, hc2⟩
        · exact absurd hc (by decide)
        · exact ⟨(t2_2 (c1 := 0 ≤ e ∧ e ≤ S 1 - 1) (c2 := 0 ≤ w ∧ w ≤ S 0 - 1) (by omega) (by omega)).symm, hs ▸ K8.rf⟩
  · exact (cq9_costIf M' b' S e w he hw hI.1 hO).mono (fun v σ' hq => q_ref hI hq)
theorem op_isAllowed (M : Id4 → Int → Int) (b : Bool) (st : ST) (x y w : Int) (hx : inR x) (hy : inR y) (hw : inR w) (h8 : I8 M st) (hp : PUs st) : ∃ U t V st', U ≤ 8 ∧ (0 ≤ t ∧ t ≤ 3) ∧ PUs st' ∧ (V = 0 ∨ V = 1) ∧ CtH 14 U yL_isAllowed cL_isAllowed 6 (some .int) [(0, 19, 22, 21), (0, 19, 26, 13)] [aR (8, 0, 0, 0), aI x, aI y, aI w, aR (10, 0, 1, 0)] (M, R0 b) (AW8 M t V st') ∧ ∀ M' b', I9 M' st → CtI 7 0 yX9_isAllowed cX9_isAllowed 4 (some .boolean) [aR (9, 0, 0, 0), aI x, aI y, aI w] (M', R0 b') (AR9 M' b' t V st') := by
  obtain ⟨S, B, n, Hs, p, bf, ek, ep⟩ := st
  have hR : plR M 0 S := h8.1
  have hO : Ok S := hp.1
  have hT := hO.1
  have hE := hO.2.1
  have hN := hO.2.2.1
  refine ⟨3, t2 ((0 ≤ x ∧ x ≤ S 1 - 1) ∧ (0 ≤ y ∧ y ≤ S 1 - 1)) (0 ≤ w ∧ w ≤ S 0 - 1), b2i (bit (tgS S (6 * x + y)) w.toNat = true), (S, B, n, Hs, p, bf, ek, ep), by decide, (by first | exact t1b | exact t2b | exact t3b | decide | omega), hp, (by first | exact b2i_01 | exact cyB_01 _), ?_, fun M' b' hI => ?_⟩
  · refine (ch_isAllowed M (R0 b) x y w (cx8_isAllowed M b S x y w hx hy hw hR hO) (fun E σ' h => ?_) (fun v σ' h => ?_)).mono (fun r σ' hq => q_wrap (b := b) h8 hq (fun v σ' h => ?_) (fun j E σ' hj h => ?_))
    · rcases h.2 with ⟨rfl, -⟩ | ⟨rfl, -⟩ <;> simp
    · rw [h.1]; exact b2i_01
    · obtain ⟨hv, hc, hc2, hc3, M2, hs, hk⟩ := h; exact ⟨hv, t2_0 (c1 := (0 ≤ x ∧ x ≤ S 1 - 1) ∧ (0 ≤ y ∧ y ≤ S 1 - 1)) (c2 := 0 ≤ w ∧ w ≤ S 0 - 1) (by omega) (by omega), M2, hs, hk⟩
    · obtain ⟨hs, hc⟩ := h
      rcases nm2 hj with ⟨rfl, rfl⟩ | ⟨rfl, rfl⟩
      · rcases hc with ⟨-, hc⟩ | ⟨hc, -⟩
        · exact ⟨(t2_1 (c1 := (0 ≤ x ∧ x ≤ S 1 - 1) ∧ (0 ≤ y ∧ y ≤ S 1 - 1)) (c2 := 0 ≤ w ∧ w ≤ S 0 - 1) (by omega)).symm, hs ▸ K8.rf⟩
        · exact absurd hc (by decide)
      · rcases hc with ⟨hc, -⟩ | ⟨-, hc, hc2⟩
        · exact absurd hc (by decide)
        · exact ⟨(t2_2 (c1 := (0 ≤ x ∧ x ≤ S 1 - 1) ∧ (0 ≤ y ∧ y ≤ S 1 - 1)) (c2 := 0 ≤ w ∧ w ≤ S 0 - 1) (by omega) (by omega)).symm, hs ▸ K8.rf⟩
  · have z := cq9_isAllowed M' b' x y w hx hy hw (by rw [show M' (9, 0, 1, 0) = S from hI.1]; exact hO)
    rw [show M' (9, 0, 1, 0) = S from hI.1] at z
    exact z.mono (fun v σ' hq => q_ref hI hq)
theorem op_allowed (M : Id4 → Int → Int) (b : Bool) (st : ST) (x y w : Int) (hx : inR x) (hy : inR y) (hw : w = 0 ∨ w = 1) (h8 : I8 M st) (hp : PUs st) : ∃ U t V st', U ≤ 8 ∧ (0 ≤ t ∧ t ≤ 3) ∧ PUs st' ∧ CtH 14 U yL_allowed cL_allowed 6 (some .int) [(0, 12, 15, 21)] [aR (8, 0, 0, 0), aI x, aI y, aI w, aR (10, 0, 1, 0)] (M, R0 b) (AW8 M t V st') ∧ ∀ M' b', I9 M' st → CtI 7 0 yX9_allowed cX9_allowed 4 (some .int) [aR (9, 0, 0, 0), aI x, aI y, aI w] (M', R0 b') (AR9 M' b' t V st') := by
  obtain ⟨S, B, n, Hs, p, bf, ek, ep⟩ := st
  have hR : plR M 0 S := h8.1
  have hO : Ok S := hp.1
  have hT := hO.1
  have hE := hO.2.1
  have hN := hO.2.2.1
  refine ⟨2, 1 - b2i ((0 ≤ x ∧ x ≤ S 1 - 1) ∧ (0 ≤ y ∧ y ≤ S 1 - 1)), alS S x y w, (S, B, n, Hs, p, bf, ek, ep), by decide, (by first | exact t1b | exact t2b | exact t3b | decide | omega), hp, ?_, fun M' b' hI => ?_⟩
  · refine (ch_allowed M (R0 b) x y w (cx8_allowed M b S x y w hx hy hw hR hO) (fun E σ' h => ?_)).mono (fun r σ' hq => q_wrap (b := b) h8 hq (fun v σ' h => ?_) (fun j E σ' hj h => ?_))
    · obtain ⟨rfl, h2⟩ := h; exact List.mem_cons_self
    · obtain ⟨hv, hc, hc2, M2, hs, hk⟩ := h; exact ⟨hv, t1y (c := (0 ≤ x ∧ x ≤ S 1 - 1) ∧ (0 ≤ y ∧ y ≤ S 1 - 1)) (by omega), M2, hs, hk⟩
    · obtain ⟨rfl, -⟩ := nm1 hj; obtain ⟨-, hs, hc⟩ := h; exact ⟨(t1n (c := (0 ≤ x ∧ x ≤ S 1 - 1) ∧ (0 ≤ y ∧ y ≤ S 1 - 1)) (by omega)).symm, hs ▸ K8.rf⟩
  · exact (cq9_allowed M' b' x y w hx hy hw S hI.1 hO).mono (fun v σ' hq => q_ref hI hq)
theorem op_firstBroken (M : Id4 → Int → Int) (b : Bool) (st : ST)  (h8 : I8 M st) (hp : PUs st) : ∃ U t V st', U ≤ 8 ∧ (0 ≤ t ∧ t ≤ 3) ∧ PUs st' ∧ CtH 13 U yL_firstBroken cL_firstBroken 3 (some .int) [(0, 8, 11, 41)] [aR (8, 0, 0, 0), aR (10, 0, 1, 0)] (M, R0 b) (AW8 M t V st') ∧ ∀ M' b', I9 M' st → CtI 5 0 yX9_firstBroken cX9_firstBroken 2 (some .int) [aR (9, 0, 0, 0)] (M', R0 b') (AR9 M' b' t V st') := by
  obtain ⟨S, B, n, Hs, p, bf, ek, ep⟩ := st
  have hR : plR M 0 S := h8.1
  have hO : Ok S := hp.1
  have hT := hO.1
  have hE := hO.2.1
  have hN := hO.2.2.1
  refine ⟨1, 1 - b2i (fbS S < S 20), fbS S, (S, B, n, Hs, p, bf, ek, ep), by decide, (by first | exact t1b | exact t2b | exact t3b | decide | omega), hp, ?_, fun M' b' hI => ?_⟩
  · refine (ch_firstBroken M (R0 b) (cx8_firstBroken M b S hR hO) (fun E σ' h => ?_)).mono (fun r σ' hq => q_wrap (b := b) h8 hq (fun v σ' h => ?_) (fun j E σ' hj h => ?_))
    · obtain ⟨rfl, h2⟩ := h; exact List.mem_cons_self
    · obtain ⟨hv, hs, hc⟩ := h; exact ⟨hv, t1y (c := fbS S < S 20) (by omega), hs ▸ K8.rf⟩
    · obtain ⟨rfl, -⟩ := nm1 hj; obtain ⟨-, hs, hc⟩ := h; exact ⟨(t1n (c := fbS S < S 20) (by omega)).symm, hs ▸ K8.rf⟩
  · exact (cq9_firstBroken M' b' S hI.1 hO).mono (fun v σ' hq => q_ref hI hq)
theorem op_bound (M : Id4 → Int → Int) (b : Bool) (st : ST) (e w : Int) (he : inR e) (hw : w = 0 ∨ w = 1) (h8 : I8 M st) (hp : PUs st) : ∃ U t V st', U ≤ 8 ∧ (0 ≤ t ∧ t ≤ 3) ∧ PUs st' ∧ CtH 14 U yL_bound cL_bound 5 (some .int) [(0, 10, 13, 21), (0, 10, 17, 41)] [aR (8, 0, 0, 0), aI e, aI w, aR (10, 0, 1, 0)] (M, R0 b) (AW8 M t V st') ∧ ∀ M' b', I9 M' st → CtI 8 0 yX9_bound cX9_bound 5 (some .int) [aR (9, 0, 0, 0), aI e, aI w] (M', R0 b') (AR9 M' b' t V st') := by
  obtain ⟨S, B, n, Hs, p, bf, ek, ep⟩ := st
  have hR : plR M 0 S := h8.1
  have hO : Ok S := hp.1
  have hT := hO.1
  have hE := hO.2.1
  have hN := hO.2.2.1
  refine ⟨2, t2 (0 ≤ e ∧ e ≤ S 20 - 1) (¬ bdB S e w (S 0).toNat = -1), bdB S e w (S 0).toNat, (S, B, n, Hs, p, bf, ek, ep), by decide, (by first | exact t1b | exact t2b | exact t3b | decide | omega), hp, ?_, fun M' b' hI => ?_⟩
  · refine (ch_bound M (R0 b) e w (cx8_bound M b S e w he hw hR hO) (fun E σ' h => ?_)).mono (fun r σ' hq => q_wrap (b := b) h8 hq (fun v σ' h => ?_) (fun j E σ' hj h => ?_))
    · rcases h with ⟨rfl, -⟩ | ⟨rfl, -⟩ <;> simp
    · obtain ⟨hv, hc, hc2, M2, hs, hk⟩ := h; exact ⟨hv, t2_0 (c1 := 0 ≤ e ∧ e ≤ S 20 - 1) (c2 := ¬ bdB S e w (S 0).toNat = -1) (by omega) hc2, M2, hs, hk⟩
    · rcases nm2 hj with ⟨rfl, rfl⟩ | ⟨rfl, rfl⟩
      · rcases h with ⟨-, hs, hc⟩ | ⟨hc, -⟩
        · exact ⟨(t2_1 (c1 := 0 ≤ e ∧ e ≤ S 20 - 1) (c2 := ¬ bdB S e w (S 0).toNat = -1) (by omega)).symm, hs ▸ K8.rf⟩
        · exact absurd hc (by decide)
      · rcases h with ⟨hc, -⟩ | ⟨-, hc, hc2, M2, hs, hk⟩
        · exact absurd hc (by decide)
        · exact ⟨(t2_2 (c1 := 0 ≤ e ∧ e ≤ S 20 - 1) (c2 := ¬ bdB S e w (S 0).toNat = -1) (by omega) (fun z => z hc2)).symm, M2, hs, hk⟩
  · exact (cq9_bound M' b' S e w he hw hI.1 hO).mono (fun v σ' hq => q_ref hI hq)
theorem op_cycleLength (M : Id4 → Int → Int) (b : Bool) (st : ST) (e : Int) (he : inR e) (h8 : I8 M st) (hp : PUs st) : ∃ U t V st', U ≤ 8 ∧ (0 ≤ t ∧ t ≤ 3) ∧ PUs st' ∧ CtH 14 U yL_cycleLength cL_cycleLength 4 (some .int) [(0, 9, 12, 21)] [aR (8, 0, 0, 0), aI e, aR (10, 0, 1, 0)] (M, R0 b) (AW8 M t V st') ∧ ∀ M' b', I9 M' st → CtI 19 0 yX9_cycleLength cX9_cycleLength 2 (some .int) [aR (9, 0, 0, 0), aI e] (M', R0 b') (AR9 M' b' t V st') := by
  obtain ⟨S, B, n, Hs, p, bf, ek, ep⟩ := st
  have hR : plR M 0 S := h8.1
  have hO : Ok S := hp.1
  have hT := hO.1
  have hE := hO.2.1
  have hN := hO.2.2.1
  refine ⟨1, 1 - b2i (cyc S e), cyL S e, (S, B, n, Hs, p, bf, ek, ep), by decide, (by first | exact t1b | exact t2b | exact t3b | decide | omega), hp, ?_, fun M' b' hI => ?_⟩
  · refine (ch_cycleLength M (R0 b) e (cx8_cycleLength M b S e he hR hO) (fun E σ' h => ?_)).mono (fun r σ' hq => q_wrap (b := b) h8 hq (fun v σ' h => ?_) (fun j E σ' hj h => ?_))
    · obtain ⟨rfl, h2⟩ := h; exact List.mem_cons_self
    · obtain ⟨hv, hc, M2, hs, hk⟩ := h; exact ⟨hv, t1y (c := cyc S e) hc, M2, hs, hk⟩
    · obtain ⟨rfl, -⟩ := nm1 hj; obtain ⟨-, hc, M2, hs, hk⟩ := h; exact ⟨(t1n (c := cyc S e) hc).symm, M2, hs, hk⟩
  · exact (cq9_cycleLength M' b' S e he hI.1 hO).mono (fun v σ' hq => q_ref hI hq)
theorem op_cycleSpan (M : Id4 → Int → Int) (b : Bool) (st : ST) (e w : Int) (he : inR e) (hw : inR w) (h8 : I8 M st) (hp : PUs st) : ∃ U t V st', U ≤ 8 ∧ (0 ≤ t ∧ t ≤ 3) ∧ PUs st' ∧ CtH 15 U yL_cycleSpan cL_cycleSpan 5 (some .int) [(0, 10, 13, 21)] [aR (8, 0, 0, 0), aI e, aI w, aR (10, 0, 1, 0)] (M, R0 b) (AW8 M t V st') ∧ ∀ M' b', I9 M' st → CtI 20 0 yX9_cycleSpan cX9_cycleSpan 3 (some .int) [aR (9, 0, 0, 0), aI e, aI w] (M', R0 b') (AR9 M' b' t V st') := by
  obtain ⟨S, B, n, Hs, p, bf, ek, ep⟩ := st
  have hR : plR M 0 S := h8.1
  have hO : Ok S := hp.1
  have hT := hO.1
  have hE := hO.2.1
  have hN := hO.2.2.1
  refine ⟨2, 1 - b2i (stp S e w), cyK S e w.toNat, (S, B, n, Hs, p, bf, ek, ep), by decide, (by first | exact t1b | exact t2b | exact t3b | decide | omega), hp, ?_, fun M' b' hI => ?_⟩
  · refine (ch_cycleSpan M (R0 b) e w (cx8_cycleSpan M b S e w he hw hR hO) (fun E σ' h => ?_)).mono (fun r σ' hq => q_wrap (b := b) h8 hq (fun v σ' h => ?_) (fun j E σ' hj h => ?_))
    · obtain ⟨rfl, h2⟩ := h; exact List.mem_cons_self
    · obtain ⟨hv, hc, M2, hs, hk⟩ := h; exact ⟨hv, t1y (c := stp S e w) hc, M2, hs, hk⟩
    · obtain ⟨rfl, -⟩ := nm1 hj; obtain ⟨-, hc, M2, hs, hk⟩ := h; exact ⟨(t1n (c := stp S e w) hc).symm, M2, hs, hk⟩
  · exact (cq9_cycleSpan M' b' S e w he hw hI.1 hO).mono (fun v σ' hq => q_ref hI hq)
theorem op_isForward (M : Id4 → Int → Int) (b : Bool) (st : ST) (e w : Int) (he : inR e) (hw : inR w) (h8 : I8 M st) (hp : PUs st) : ∃ U t V st', U ≤ 8 ∧ (0 ≤ t ∧ t ≤ 3) ∧ PUs st' ∧ (V = 0 ∨ V = 1) ∧ CtH 15 U yL_isForward cL_isForward 5 (some .int) [(0, 17, 20, 21)] [aR (8, 0, 0, 0), aI e, aI w, aR (10, 0, 1, 0)] (M, R0 b) (AW8 M t V st') ∧ ∀ M' b', I9 M' st → CtI 20 0 yX9_isForward cX9_isForward 3 (some .boolean) [aR (9, 0, 0, 0), aI e, aI w] (M', R0 b') (AR9 M' b' t V st') := by
  obtain ⟨S, B, n, Hs, p, bf, ek, ep⟩ := st
  have hR : plR M 0 S := h8.1
  have hO : Ok S := hp.1
  have hT := hO.1
  have hE := hO.2.1
  have hN := hO.2.2.1
  refine ⟨2, 1 - b2i (stp S e w), cyB S e w.toNat, (S, B, n, Hs, p, bf, ek, ep), by decide, (by first | exact t1b | exact t2b | exact t3b | decide | omega), hp, (by first | exact b2i_01 | exact cyB_01 _), ?_, fun M' b' hI => ?_⟩
  · refine (ch_isForward M (R0 b) e w (cx8_isForward M b S e w he hw hR hO) (fun E σ' h => ?_) (fun v σ' h => ?_)).mono (fun r σ' hq => q_wrap (b := b) h8 hq (fun v σ' h => ?_) (fun j E σ' hj h => ?_))
    · obtain ⟨rfl, h2⟩ := h; exact List.mem_cons_self
    · rw [h.1]; exact cyB_01 _
    · obtain ⟨hv, hc, M2, hs, hk⟩ := h; exact ⟨hv, t1y (c := stp S e w) hc, M2, hs, hk⟩
    · obtain ⟨rfl, -⟩ := nm1 hj; obtain ⟨-, hc, M2, hs, hk⟩ := h; exact ⟨(t1n (c := stp S e w) hc).symm, M2, hs, hk⟩
  · exact (cq9_isForward M' b' S e w he hw hI.1 hO).mono (fun v σ' hq => q_ref hI hq)
theorem op_firstImpossible (M : Id4 → Int → Int) (b : Bool) (st : ST)  (h8 : I8 M st) (hp : PUs st) : ∃ U t V st', U ≤ 8 ∧ (0 ≤ t ∧ t ≤ 3) ∧ PUs st' ∧ CtH 13 U yL_firstImpossible cL_firstImpossible 3 (some .int) [(0, 8, 11, 41)] [aR (8, 0, 0, 0), aR (10, 0, 1, 0)] (M, R0 b) (AW8 M t V st') ∧ ∀ M' b', I9 M' st → CtI 19 0 yX9_firstImpossible cX9_firstImpossible 2 (some .int) [aR (9, 0, 0, 0)] (M', R0 b') (AR9 M' b' t V st') := by
  obtain ⟨S, B, n, Hs, p, bf, ek, ep⟩ := st
  have hR : plR M 0 S := h8.1
  have hO : Ok S := hp.1
  have hT := hO.1
  have hE := hO.2.1
  have hN := hO.2.2.1
  refine ⟨1, 1 - b2i (fiS S < cyM S), fiS S, (S, B, n, Hs, p, bf, ek, ep), by decide, (by first | exact t1b | exact t2b | exact t3b | decide | omega), hp, ?_, fun M' b' hI => ?_⟩
  · refine (ch_firstImpossible M (R0 b) (cx8_firstImpossible M b S hR hO) (fun E σ' h => ?_)).mono (fun r σ' hq => q_wrap (b := b) h8 hq (fun v σ' h => ?_) (fun j E σ' hj h => ?_))
    · obtain ⟨rfl, h2⟩ := h; exact List.mem_cons_self
    · obtain ⟨hv, hc, M2, hs, hk⟩ := h; exact ⟨hv, t1y (c := fiS S < cyM S) hc, M2, hs, hk⟩
    · obtain ⟨rfl, -⟩ := nm1 hj; obtain ⟨-, hc, M2, hs, hk⟩ := h; exact ⟨(t1n (c := fiS S < cyM S) hc).symm, M2, hs, hk⟩
  · exact (cq9_firstImpossible M' b' S hI.1 hO).mono (fun v σ' hq => q_ref hI hq)
theorem op_turns (M : Id4 → Int → Int) (b : Bool) (st : ST) (e w : Int) (he : inR e) (hw : inR w) (h8 : I8 M st) (hp : PUs st) : ∃ U t V st', U ≤ 8 ∧ (0 ≤ t ∧ t ≤ 3) ∧ PUs st' ∧ CtH 14 U yL_turns cL_turns 5 (some .int) [(0, 10, 13, 21), (0, 10, 17, 13)] [aR (8, 0, 0, 0), aI e, aI w, aR (10, 0, 1, 0)] (M, R0 b) (AW8 M t V st') ∧ ∀ M' b', I9 M' st → CtI 19 0 yX9_turns cX9_turns 3 (some .int) [aR (9, 0, 0, 0), aI e, aI w] (M', R0 b') (AR9 M' b' t V st') := by
  obtain ⟨S, B, n, Hs, p, bf, ek, ep⟩ := st
  have hR : plR M 0 S := h8.1
  have hO : Ok S := hp.1
  have hT := hO.1
  have hE := hO.2.1
  have hN := hO.2.2.1
  refine ⟨2, t2 (cyc S e) (0 ≤ w ∧ w ≤ 2), trnS S e w, (S, B, n, Hs, p, bf, ek, ep), by decide, (by first | exact t1b | exact t2b | exact t3b | decide | omega), hp, ?_, fun M' b' hI => ?_⟩
  · refine (ch_turns M (R0 b) e w (cx8_turns M b S e w he hw hR hO) (fun E σ' h => ?_)).mono (fun r σ' hq => q_wrap (b := b) h8 hq (fun v σ' h => ?_) (fun j E σ' hj h => ?_))
    · rcases h.2 with ⟨rfl, -⟩ | ⟨rfl, -⟩ <;> simp
    · obtain ⟨hv, ⟨hc, hc2⟩, M2, hs, hk⟩ := h; exact ⟨hv, t2_0 (c1 := cyc S e) (c2 := 0 ≤ w ∧ w ≤ 2) hc hc2, M2, hs, hk⟩
    · obtain ⟨⟨M2, hs, hk⟩, hc⟩ := h
      rcases nm2 hj with ⟨rfl, rfl⟩ | ⟨rfl, rfl⟩
      · rcases hc with ⟨-, hc⟩ | ⟨hc, -⟩
        · exact ⟨(t2_1 (c1 := cyc S e) (c2 := 0 ≤ w ∧ w ≤ 2) hc).symm, M2, hs, hk⟩
        · exact absurd hc (by decide)
      · rcases hc with ⟨hc, -⟩ | ⟨-, hc, hc2⟩
        · exact absurd hc (by decide)
        · exact ⟨(t2_2 (c1 := cyc S e) (c2 := 0 ≤ w ∧ w ≤ 2) hc hc2).symm, M2, hs, hk⟩
  · exact (cq9_turns M' b' S e w he hw hI.1 hO).mono (fun v σ' hq => q_ref hI hq)
theorem op_leastCost (M : Id4 → Int → Int) (b : Bool) (st : ST)  (h8 : I8 M st) (hp : PUs st) : ∃ U t V st', U ≤ 8 ∧ (0 ≤ t ∧ t ≤ 3) ∧ PUs st' ∧ CtH 31 U yL_leastCost cL_leastCost 3 (some .int) [(0, 8, 11, 41)] [aR (8, 0, 0, 0), aR (10, 0, 1, 0)] (M, R0 b) (AW8 M t V st') ∧ ∀ M' b', I9 M' st → CtI 26 0 yX9_leastCost cX9_leastCost 1 (some .int) [aR (9, 0, 0, 0)] (M', R0 b') (AR9 M' b' t V st') := by
  obtain ⟨S, B, n, Hs, p, bf, ek, ep⟩ := st
  have hR : plR M 0 S := h8.1
  have hO : Ok S := hp.1
  have hT := hO.1
  have hE := hO.2.1
  have hN := hO.2.2.1
  refine ⟨1, 1 - b2i (¬ (goS S 0).1 = -1), (goS S 0).1, (S, B, n, Hs, p, bf, ek, ep), by decide, (by first | exact t1b | exact t2b | exact t3b | decide | omega), hp, ?_, fun M' b' hI => ?_⟩
  · refine (ch_leastCost M (R0 b) (cx8_leastCost M b S hR hO) (fun E σ' h => ?_)).mono (fun r σ' hq => q_wrap (b := b) h8 hq (fun v σ' h => ?_) (fun j E σ' hj h => ?_))
    · obtain ⟨⟨rfl, h2⟩, h3⟩ := h; exact List.mem_cons_self
    · obtain ⟨hv, hc, M2, hs, hk⟩ := h; exact ⟨hv, t1y (c := ¬ (goS S 0).1 = -1) hc, M2, hs, hk⟩
    · obtain ⟨rfl, -⟩ := nm1 hj; obtain ⟨⟨-, hc⟩, M2, hs, hk⟩ := h; exact ⟨(t1n (c := ¬ (goS S 0).1 = -1) (fun z => z hc)).symm, M2, hs, hk⟩
  · exact (cq9_leastCost M' b' S hI.1 hO).mono (fun v σ' hq => q_ref hI hq)
theorem op_canRaise (M : Id4 → Int → Int) (b : Bool) (st : ST) (e : Int) (he : inR e) (h8 : I8 M st) (hp : PUs st) : ∃ U t V st', U ≤ 8 ∧ (0 ≤ t ∧ t ≤ 3) ∧ PUs st' ∧ CtH 31 U yL_canRaise cL_canRaise 4 (some .int) [(0, 9, 12, 21)] [aR (8, 0, 0, 0), aI e, aR (10, 0, 1, 0)] (M, R0 b) (AW8 M t V st') ∧ ∀ M' b', I9 M' st → CtI 27 0 yX9_canRaise cX9_canRaise 5 (some .int) [aR (9, 0, 0, 0), aI e] (M', R0 b') (AR9 M' b' t V st') := by
  obtain ⟨S, B, n, Hs, p, bf, ek, ep⟩ := st
  have hR : plR M 0 S := h8.1
  have hO : Ok S := hp.1
  have hT := hO.1
  have hE := hO.2.1
  have hN := hO.2.2.1
  refine ⟨1, 1 - b2i (0 ≤ e ∧ e ≤ S 20 - 1), crS S e, (S, B, n, Hs, p, bf, ek, ep), by decide, (by first | exact t1b | exact t2b | exact t3b | decide | omega), hp, ?_, fun M' b' hI => ?_⟩
  · refine (ch_canRaise M (R0 b) e (cx8_canRaise M b S e he hR hO) (fun E σ' h => ?_)).mono (fun r σ' hq => q_wrap (b := b) h8 hq (fun v σ' h => ?_) (fun j E σ' hj h => ?_))
    · obtain ⟨rfl, h2⟩ := h; exact List.mem_cons_self
    · obtain ⟨hv, hc, M2, hs, hk⟩ := h; exact ⟨hv, t1y (c := 0 ≤ e ∧ e ≤ S 20 - 1) (by omega), M2, hs, hk⟩
    · obtain ⟨rfl, -⟩ := nm1 hj; obtain ⟨-, hs, hc⟩ := h; exact ⟨(t1n (c := 0 ≤ e ∧ e ≤ S 20 - 1) (by omega)).symm, hs ▸ K8.rf⟩
  · exact (cq9_canRaise M' b' S e he hI.1 hO).mono (fun v σ' hq => q_ref hI hq)
theorem op_isCritical (M : Id4 → Int → Int) (b : Bool) (st : ST) (e : Int) (he : inR e) (h8 : I8 M st) (hp : PUs st) : ∃ U t V st', U ≤ 8 ∧ (0 ≤ t ∧ t ≤ 3) ∧ PUs st' ∧ (V = 0 ∨ V = 1) ∧ CtH 31 U yL_isCritical cL_isCritical 4 (some .int) [(0, 16, 19, 21)] [aR (8, 0, 0, 0), aI e, aR (10, 0, 1, 0)] (M, R0 b) (AW8 M t V st') ∧ ∀ M' b', I9 M' st → CtI 26 0 yX9_isCritical cX9_isCritical 3 (some .boolean) [aR (9, 0, 0, 0), aI e] (M', R0 b') (AR9 M' b' t V st') := by
  obtain ⟨S, B, n, Hs, p, bf, ek, ep⟩ := st
  have hR : plR M 0 S := h8.1
  have hO : Ok S := hp.1
  have hT := hO.1
  have hE := hO.2.1
  have hN := hO.2.2.1
  refine ⟨1, 1 - b2i (0 ≤ e ∧ e ≤ S 20 - 1), b2i ((goS S 1).1 = -1 ∧ ¬ (goS (drS S e) 1).1 = -1), (S, B, n, Hs, p, bf, ek, ep), by decide, (by first | exact t1b | exact t2b | exact t3b | decide | omega), hp, (by first | exact b2i_01 | exact cyB_01 _), ?_, fun M' b' hI => ?_⟩
  · refine (ch_isCritical M (R0 b) e (cx8_isCritical M b S e he hR hO) (fun E σ' h => ?_) (fun v σ' h => ?_)).mono (fun r σ' hq => q_wrap (b := b) h8 hq (fun v σ' h => ?_) (fun j E σ' hj h => ?_))
    · obtain ⟨rfl, h2⟩ := h; exact List.mem_cons_self
    · rw [h.1]; exact b2i_01
    · obtain ⟨hv, hc, M2, hs, hk⟩ := h; exact ⟨hv, t1y (c := 0 ≤ e ∧ e ≤ S 20 - 1) (by omega), M2, hs, hk⟩
    · obtain ⟨rfl, -⟩ := nm1 hj; obtain ⟨-, hs, hc⟩ := h; exact ⟨(t1n (c := 0 ≤ e ∧ e ≤ S 20 - 1) (by omega)).symm, hs ▸ K8.rf⟩
  · exact (cq9_isCritical M' b' S e he hI.1 hO).mono (fun v σ' hq => q_ref hI hq)
theorem op_period (M : Id4 → Int → Int) (b : Bool) (st : ST) (h8 : I8 M st) (hp : PUs st) : ∃ V st', PUs st' ∧ CtI 1 0 yX8_period cX8_period 1 (some .int) [aR (8, 0, 0, 0)] (M, R0 b) (AP8 M b V st') ∧ ∀ M' b', I9 M' st → CtI 1 0 yX9_period cX9_period 1 (some .int) [aR (9, 0, 0, 0)] (M', R0 b') (AR9 M' b' 0 V st') := by
  obtain ⟨S, B, n, Hs, p, bf, ek, ep⟩ := st
  have hR : plR M 0 S := h8.1
  have hO : Ok S := hp.1
  refine ⟨S 0, (S, B, n, Hs, p, bf, ek, ep), hp, ?_, fun M' b' hI => ?_⟩
  · exact (ct8_period M b).mono (fun v σ' h => q_plain h8 (by obtain ⟨h1, h2⟩ := h; exact ⟨h1.trans hR.1.1, h2 ▸ K8.rf⟩))
  · have z := cq9_period M' b'
    rw [show M' (9, 0, 1, 0) = S from hI.1] at z
    exact z.mono (fun v σ' hq => q_ref hI hq)
theorem op_events (M : Id4 → Int → Int) (b : Bool) (st : ST) (h8 : I8 M st) (hp : PUs st) : ∃ V st', PUs st' ∧ CtI 1 0 yX8_events cX8_events 1 (some .int) [aR (8, 0, 0, 0)] (M, R0 b) (AP8 M b V st') ∧ ∀ M' b', I9 M' st → CtI 1 0 yX9_events cX9_events 1 (some .int) [aR (9, 0, 0, 0)] (M', R0 b') (AR9 M' b' 0 V st') := by
  obtain ⟨S, B, n, Hs, p, bf, ek, ep⟩ := st
  have hR : plR M 0 S := h8.1
  have hO : Ok S := hp.1
  refine ⟨S 1, (S, B, n, Hs, p, bf, ek, ep), hp, ?_, fun M' b' hI => ?_⟩
  · exact (ct8_events M b).mono (fun v σ' h => q_plain h8 (by obtain ⟨h1, h2⟩ := h; exact ⟨h1.trans hR.1.2.1, h2 ▸ K8.rf⟩))
  · have z := cq9_events M' b'
    rw [show M' (9, 0, 1, 0) = S from hI.1] at z
    exact z.mono (fun v σ' hq => q_ref hI hq)
theorem op_spans (M : Id4 → Int → Int) (b : Bool) (st : ST) (h8 : I8 M st) (hp : PUs st) : ∃ V st', PUs st' ∧ CtI 1 0 yX8_spans cX8_spans 1 (some .int) [aR (8, 0, 0, 0)] (M, R0 b) (AP8 M b V st') ∧ ∀ M' b', I9 M' st → CtI 1 0 yX9_spans cX9_spans 1 (some .int) [aR (9, 0, 0, 0)] (M', R0 b') (AR9 M' b' 0 V st') := by
  obtain ⟨S, B, n, Hs, p, bf, ek, ep⟩ := st
  have hR : plR M 0 S := h8.1
  have hO : Ok S := hp.1
  refine ⟨S 20, (S, B, n, Hs, p, bf, ek, ep), hp, ?_, fun M' b' hI => ?_⟩
  · exact (ct8_spans M b).mono (fun v σ' h => q_plain h8 (by obtain ⟨h1, h2⟩ := h; exact ⟨h1.trans hR.1.2.2, h2 ▸ K8.rf⟩))
  · have z := cq9_spans M' b'
    rw [show M' (9, 0, 1, 0) = S from hI.1] at z
    exact z.mono (fun v σ' hq => q_ref hI hq)
theorem op_errorKind (M : Id4 → Int → Int) (b : Bool) (st : ST) (h8 : I8 M st) (hp : PUs st) : ∃ V st', PUs st' ∧ CtI 1 0 yX8_errorKind cX8_errorKind 1 (some .int) [aR (8, 0, 0, 0)] (M, R0 b) (AP8 M b V st') ∧ ∀ M' b', I9 M' st → CtI 1 0 yX9_errorKind cX9_errorKind 1 (some .int) [aR (9, 0, 0, 0)] (M', R0 b') (AR9 M' b' 0 V st') := by
  obtain ⟨S, B, n, Hs, p, bf, ek, ep⟩ := st
  have hR : plR M 0 S := h8.1
  have hO : Ok S := hp.1
  refine ⟨ek, (S, B, n, Hs, p, bf, ek, ep), hp, ?_, fun M' b' hI => ?_⟩
  · exact (ct8_errorKind M b).mono (fun v σ' h => q_plain h8 (by obtain ⟨h1, h2⟩ := h; exact ⟨h1.trans h8.2.2.2.2.2.2.1.1, h2 ▸ K8.rf⟩))
  · have z := cq9_errorKind M' b'
    rw [show M' (9, 0, 0, 0) 7 = ek from hI.2.2.2.2.1.1] at z
    exact z.mono (fun v σ' hq => q_ref hI hq)
theorem op_errorPosition (M : Id4 → Int → Int) (b : Bool) (st : ST) (h8 : I8 M st) (hp : PUs st) : ∃ V st', PUs st' ∧ CtI 1 0 yX8_errorPosition cX8_errorPosition 1 (some .int) [aR (8, 0, 0, 0)] (M, R0 b) (AP8 M b V st') ∧ ∀ M' b', I9 M' st → CtI 1 0 yX9_errorPosition cX9_errorPosition 1 (some .int) [aR (9, 0, 0, 0)] (M', R0 b') (AR9 M' b' 0 V st') := by
  obtain ⟨S, B, n, Hs, p, bf, ek, ep⟩ := st
  have hR : plR M 0 S := h8.1
  have hO : Ok S := hp.1
  refine ⟨ep, (S, B, n, Hs, p, bf, ek, ep), hp, ?_, fun M' b' hI => ?_⟩
  · exact (ct8_errorPosition M b).mono (fun v σ' h => q_plain h8 (by obtain ⟨h1, h2⟩ := h; exact ⟨h1.trans h8.2.2.2.2.2.2.1.2, h2 ▸ K8.rf⟩))
  · have z := cq9_errorPosition M' b'
    rw [show M' (9, 0, 0, 0) 8 = ep from hI.2.2.2.2.1.2] at z
    exact z.mono (fun v σ' hq => q_ref hI hq)
theorem op_broken (M : Id4 → Int → Int) (b : Bool) (st : ST) (h8 : I8 M st) (hp : PUs st) : ∃ V st', PUs st' ∧ CtI 6 0 yX8_broken cX8_broken 1 (some .int) [aR (8, 0, 0, 0)] (M, R0 b) (AP8 M b V st') ∧ ∀ M' b', I9 M' st → CtI 6 0 yX9_broken cX9_broken 1 (some .int) [aR (9, 0, 0, 0)] (M', R0 b') (AR9 M' b' 0 V st') := by
  obtain ⟨S, B, n, Hs, p, bf, ek, ep⟩ := st
  have hR : plR M 0 S := h8.1
  have hO : Ok S := hp.1
  refine ⟨brk S, (S, B, n, Hs, p, bf, ek, ep), hp, ?_, fun M' b' hI => ?_⟩
  · exact (ct8_broken M b S hR hO).mono (fun v σ' h => q_plain h8 ⟨h.1, h.2 ▸ K8.rf⟩)
  · have z := cq9_broken M' b' (by rw [show M' (9, 0, 1, 0) = S from hI.1]; exact hO)
    rw [show M' (9, 0, 1, 0) = S from hI.1] at z
    exact z.mono (fun v σ' hq => q_ref hI hq)
theorem op_cost (M : Id4 → Int → Int) (b : Bool) (st : ST) (h8 : I8 M st) (hp : PUs st) : ∃ V st', PUs st' ∧ CtI 5 0 yX8_cost cX8_cost 1 (some .int) [aR (8, 0, 0, 0)] (M, R0 b) (AP8 M b V st') ∧ ∀ M' b', I9 M' st → CtI 6 0 yX9_cost cX9_cost 1 (some .int) [aR (9, 0, 0, 0)] (M', R0 b') (AR9 M' b' 0 V st') := by
  obtain ⟨S, B, n, Hs, p, bf, ek, ep⟩ := st
  have hR : plR M 0 S := h8.1
  have hO : Ok S := hp.1
  refine ⟨cst S, (S, B, n, Hs, p, bf, ek, ep), hp, ?_, fun M' b' hI => ?_⟩
  · exact (ct8_cost M b S hR hO).mono (fun v σ' h => q_plain h8 ⟨h.1, h.2 ▸ K8.rf⟩)
  · have z := cq9_cost M' b' (by rw [show M' (9, 0, 1, 0) = S from hI.1]; exact hO)
    rw [show M' (9, 0, 1, 0) = S from hI.1] at z
    exact z.mono (fun v σ' hq => q_ref hI hq)
theorem op_rounds (M : Id4 → Int → Int) (b : Bool) (st : ST) (h8 : I8 M st) (hp : PUs st) : ∃ V st', PUs st' ∧ CtI 6 0 yX8_rounds cX8_rounds 1 (some .int) [aR (8, 0, 0, 0)] (M, R0 b) (AP8 M b V st') ∧ ∀ M' b', I9 M' st → CtI 7 0 yX9_rounds cX9_rounds 1 (some .int) [aR (9, 0, 0, 0)] (M', R0 b') (AR9 M' b' 0 V st') := by
  obtain ⟨S, B, n, Hs, p, bf, ek, ep⟩ := st
  have hR : plR M 0 S := h8.1
  have hO : Ok S := hp.1
  refine ⟨(rdS S : Int) + 1, (S, B, n, Hs, p, bf, ek, ep), hp, ?_, fun M' b' hI => ?_⟩
  · exact (ct8_rounds M b S hR hO).mono (fun v σ' h => q_plain h8 h)
  · have z := cq9_rounds M' b' (by rw [show M' (9, 0, 1, 0) = S from hI.1]; exact hO)
    rw [show M' (9, 0, 1, 0) = S from hI.1] at z
    exact z.mono (fun v σ' hq => q_ref hI hq)
theorem op_cycles (M : Id4 → Int → Int) (b : Bool) (st : ST) (h8 : I8 M st) (hp : PUs st) : ∃ V st', PUs st' ∧ CtI 4 0 yX8_cycles cX8_cycles 1 (some .int) [aR (8, 0, 0, 0)] (M, R0 b) (AP8 M b V st') ∧ ∀ M' b', I9 M' st → CtI 4 0 yX9_cycles cX9_cycles 1 (some .int) [aR (9, 0, 0, 0)] (M', R0 b') (AR9 M' b' 0 V st') := by
  obtain ⟨S, B, n, Hs, p, bf, ek, ep⟩ := st
  have hR : plR M 0 S := h8.1
  have hO : Ok S := hp.1
  refine ⟨cyM S, (S, B, n, Hs, p, bf, ek, ep), hp, ?_, fun M' b' hI => ?_⟩
  · exact (ct8_cycles M b S hR hO).mono (fun v σ' h => q_plain h8 h)
  · exact (cq9_cycles M' b' S hI.1 hO).mono (fun v σ' hq => q_ref hI hq)
theorem op_isSolvable (M : Id4 → Int → Int) (b : Bool) (st : ST) (h8 : I8 M st) (hp : PUs st) : ∃ V st', PUs st' ∧ CtI 30 0 yX8_isSolvable cX8_isSolvable 1 (some .boolean) [aR (8, 0, 0, 0)] (M, R0 b) (AP8 M b V st') ∧ ∀ M' b', I9 M' st → CtI 26 0 yX9_isSolvable cX9_isSolvable 1 (some .boolean) [aR (9, 0, 0, 0)] (M', R0 b') (AR9 M' b' 0 V st') := by
  obtain ⟨S, B, n, Hs, p, bf, ek, ep⟩ := st
  have hR : plR M 0 S := h8.1
  have hO : Ok S := hp.1
  refine ⟨b2i (¬ (goS S 1).1 = -1), (S, B, n, Hs, p, bf, ek, ep), hp, ?_, fun M' b' hI => ?_⟩
  · exact (ct8_isSolvable M b S hR hO).mono (fun v σ' h => q_plain h8 h)
  · exact (cq9_isSolvable M' b' S hI.1 hO).mono (fun v σ' hq => q_ref hI hq)
