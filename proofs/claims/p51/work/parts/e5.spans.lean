/-! e5: durations, spans and shares by hand -/
def WF (S : Int → Int) (M : Id4 → Int → Int) : Prop := (M (9, 0, 0, 0) 2 = S 0 ∧ M (9, 0, 0, 0) 3 = S 1 ∧ M (9, 0, 0, 0) 4 = S 20) ∧ (2 ≤ S 0 ∧ S 0 ≤ 6) ∧ (2 ≤ S 1 ∧ S 1 ≤ 5) ∧ (0 ≤ S 20 ∧ S 20 ≤ 7)
theorem WF.of {S : Int → Int} {M M' : Id4 → Int → Int} (h : WF S M) (he : M' (9, 0, 0, 0) = M (9, 0, 0, 0)) : WF S M' := by
  unfold WF at h ⊢
  rw [he]
  exact h
theorem WF.u {S : Int → Int} {M : Id4 → Int → Int} {q : Id4} {k v : Int} (h : WF S M) (hq : (9, 0, 0, 0) ≠ q) : WF S (updM M q k v) := h.of (updM_ne hq)
theorem WF.u1 {S : Int → Int} {M : Id4 → Int → Int} {k v : Int} (h : WF S M) (hk : k < 2 ∨ 4 < k) : WF S (updM M (9, 0, 0, 0) k v) := by
  unfold WF at h ⊢
  rw [upd_ne (Or.inr (by omega)), upd_ne (Or.inr (by omega)), upd_ne (Or.inr (by omega))]
  exact h
theorem dur_0 {a lo x c T : Int} (hT : 0 < T) (h0 : 0 ≤ x) (h1 : x ≤ (c - a - lo) % T) : (a + (lo + x) - c).tmod T = 0 ↔ x = (c - a - lo) % T := by
  have h2 := Int.emod_lt_of_pos (c - a - lo) hT
  have e1 : a + (lo + x) - c = x - (c - a - lo) := by omega
  have h3 := Int.mul_ediv_add_emod (c - a - lo) T
  constructor
  · intro h
    obtain ⟨w, hw⟩ := Int.dvd_of_tmod_eq_zero h
    have e2 : (c - a - lo) % T - x = T * (-w - (c - a - lo) / T) := by
      rw [Int.mul_sub, Int.mul_neg]
      omega
    have e3 : ((c - a - lo) % T - x) % T = 0 := by rw [e2]; exact Int.mul_emod_right T _
    rw [Int.emod_eq_of_lt (by omega) (by omega)] at e3
    omega
  · intro h
    refine Int.tmod_eq_zero_of_dvd ⟨-((c - a - lo) / T), ?_⟩
    rw [Int.mul_neg]
    omega
set_option maxRecDepth 100000 in
theorem cdL_duration (sx : Sx) (S : Int → Int) (L : List Id4) (M : Id4 → Int → Int) (Rf : Id4 → Int → Option Id4) (b : Bool) (k : Int) (T : Id4) (n : Nat) (hCL : CLd L) (hCR : CRx b Rf) (hCC : CC S M) (hw : (9, 0, 0, 0) ∈ L) (hWF : WF S M) (hkk : 0 ≤ k ∧ k < S 20) (hT : T ∈ L) (hkT : kd T = .inr (0, n)) (hn : S 1 ≤ n ∧ n ≤ 3072) (hb : ∀ j, 0 ≤ j → j < S 1 → 0 ≤ M T j ∧ M T j ≤ 1000) : CdI sx 15 0 yL_duration cL_duration 6 (some .int) [aR (9, 0, 0, 0), aR (8, 0, 0, 0), aI k, aR T] L (M, Rf) (PUd L (M, Rf) (S (21 + 5 * k + 2) + slBy S k (M T (S (21 + 5 * k + 1)) - M T (S (21 + 5 * k + 0))))) := by
  obtain ⟨⟨q2, q3, q4⟩, hp, hE, hN⟩ := id hWF
  have hsp := hCC.2.1.2.2.2.2 k hkk.1 hkk.2
  unfold SpOk at hsp
  have b0 := hb _ hsp.1.1 hsp.1.2
  have b1 := hb _ hsp.2.1.1 hsp.2.1.2
  obtain ⟨sl, hsl⟩ : ∃ sl, sl = (M T (S (21 + 5 * k + 1)) - M T (S (21 + 5 * k + 0)) - S (21 + 5 * k + 2)) % S 0 := ⟨_, rfl⟩
  have s0 := Int.emod_nonneg (M T (S (21 + 5 * k + 1)) - M T (S (21 + 5 * k + 0)) - S (21 + 5 * k + 2)) (show S 0 ≠ 0 by omega)
  have s1 := Int.emod_lt_of_pos (M T (S (21 + 5 * k + 1)) - M T (S (21 + 5 * k + 0)) - S (21 + 5 * k + 2)) (show 0 < S 0 by omega)
  rw [← hsl] at s0 s1
  have hst : ∀ x, 0 ≤ x → x ≤ sl → ((M T (S (21 + 5 * k + 0)) + (S (21 + 5 * k + 2) + x) - M T (S (21 + 5 * k + 1))).tmod (S 0) = 0 ↔ x = sl) := fun x x0 x1 => by
    rw [hsl] at x1 ⊢
    exact dur_0 (by omega) x0 x1
  have hval : slBy S k (M T (S (21 + 5 * k + 1)) - M T (S (21 + 5 * k + 0))) = sl := hsl.symm
  rw [hval]
  refine CdI.mk (by decide +kernel) rfl (Nat.le_of_ble_eq_true rfl) (fun X G ρ F hk hsx => ?_)
  subst hsx
  have loop : ∀ (f : Nat) (x : Int) (u : Nat), x + f = sl → 0 ≤ x → u ≤ 0 → DW X G ρ L L 12 [aR (9, 0, 0, 0), aR (8, 0, 0, 0), aI k, aR T, aI (S (21 + 5 * k + 2)), aI (S (21 + 5 * k + 2) + x)] [] (M, Rf) u (EId X G ρ L 0 (PUd L (M, Rf) (S (21 + 5 * k + 2) + sl))) := by
    intro f
    induction f with
    | zero =>
      intro x u hx hx0 hu
      have hxs := (hst x hx0 (by omega)).mpr (by omega)
      refine dw_aload3 (pc := 12) F dL_duration_12 ?_
      refine dw_aload1 (pc := 13) F dL_duration_13 ?_
      refine dw_iload2 (pc := 14) F dL_duration_14 ?_
      refine dw_iconst (pc := 15) F dL_duration_15 ?_
      refine dw_cp (as := [_, _]) (pc := 16) F dL_duration_16 ml_L_113 (ct8_span0 _ _ S _ _ hCC.1 hCC.2.1 (by omega) (by omega)) hCL hCR (fun v σ9 z => z) (Nat.le_of_ble_eq_true rfl) (by decide) (by omega) ?_
      refine dw_iald (pc := 19) F dL_duration_19 hkT hT (by omega) (by omega) ?_
      refine dw_iload5 (pc := 20) F dL_duration_20 ?_
      refine dw_iadd (pc := 22) F dL_duration_22 ?_
      refine dw_aload3 (pc := 23) F dL_duration_23 ?_
      refine dw_aload1 (pc := 24) F dL_duration_24 ?_
      refine dw_iload2 (pc := 25) F dL_duration_25 ?_
      refine dw_iconst (pc := 26) F dL_duration_26 ?_
      refine dw_cp (as := [_, _]) (pc := 27) F dL_duration_27 ml_L_113 (ct8_span0 _ _ S _ _ hCC.1 hCC.2.1 (by omega) (by omega)) hCL hCR (fun v σ9 z => z) (Nat.le_of_ble_eq_true rfl) (by decide) (by omega) ?_
      refine dw_iald (pc := 30) F dL_duration_30 hkT hT (by omega) (by omega) ?_
      refine dw_isub (pc := 31) F dL_duration_31 ?_
      refine dw_aload0 (pc := 32) F dL_duration_32 ?_
      refine dw_getI (pc := 33) F dL_duration_33 fl_L_61 (by first | assumption | rfl) (by first | assumption | (simp [*]; done)) rfl nz2 ?_
      rw [q2]
      refine dw_irem (pc := 36) F dL_duration_36 (by unfold inR; omega) (by unfold inR; omega) (by omega) (by omega) ?_
      rw [hxs]
      refine dw_if_eq (tgt := 46) (pc := 37) F dL_duration_37 (by decide) (by unfold inR; omega) (fun c37 => ?_) (fun c37 => absurd c37 (fun z => z rfl))
      refine dw_iload5 (pc := 46) F dL_duration_46 ?_
      exact dw_iret (pc := 48) F dL_duration_48 rfl (by omega) ⟨by omega, rfl, rfl⟩
    | succ f ih =>
      intro x u hx hx0 hu
      have hxs : ¬ _ := fun z => absurd ((hst x hx0 (by omega)).mp z) (by omega)
      have t1 := Int.lt_tmod_of_pos (M T (S (21 + 5 * k + 0)) + (S (21 + 5 * k + 2) + x) - M T (S (21 + 5 * k + 1))) (show 0 < S 0 by omega)
      have t2 := Int.tmod_lt_of_pos (M T (S (21 + 5 * k + 0)) + (S (21 + 5 * k + 2) + x) - M T (S (21 + 5 * k + 1))) (show 0 < S 0 by omega)
      refine dw_aload3 (pc := 12) F dL_duration_12 ?_
      refine dw_aload1 (pc := 13) F dL_duration_13 ?_
      refine dw_iload2 (pc := 14) F dL_duration_14 ?_
      refine dw_iconst (pc := 15) F dL_duration_15 ?_
      refine dw_cp (as := [_, _]) (pc := 16) F dL_duration_16 ml_L_113 (ct8_span0 _ _ S _ _ hCC.1 hCC.2.1 (by omega) (by omega)) hCL hCR (fun v σ9 z => z) (Nat.le_of_ble_eq_true rfl) (by decide) (by omega) ?_
      refine dw_iald (pc := 19) F dL_duration_19 hkT hT (by omega) (by omega) ?_
      refine dw_iload5 (pc := 20) F dL_duration_20 ?_
      refine dw_iadd (pc := 22) F dL_duration_22 ?_
      refine dw_aload3 (pc := 23) F dL_duration_23 ?_
      refine dw_aload1 (pc := 24) F dL_duration_24 ?_
      refine dw_iload2 (pc := 25) F dL_duration_25 ?_
      refine dw_iconst (pc := 26) F dL_duration_26 ?_
      refine dw_cp (as := [_, _]) (pc := 27) F dL_duration_27 ml_L_113 (ct8_span0 _ _ S _ _ hCC.1 hCC.2.1 (by omega) (by omega)) hCL hCR (fun v σ9 z => z) (Nat.le_of_ble_eq_true rfl) (by decide) (by omega) ?_
      refine dw_iald (pc := 30) F dL_duration_30 hkT hT (by omega) (by omega) ?_
      refine dw_isub (pc := 31) F dL_duration_31 ?_
      refine dw_aload0 (pc := 32) F dL_duration_32 ?_
      refine dw_getI (pc := 33) F dL_duration_33 fl_L_61 (by first | assumption | rfl) (by first | assumption | (simp [*]; done)) rfl nz2 ?_
      rw [q2]
      refine dw_irem (pc := 36) F dL_duration_36 (by unfold inR; omega) (by unfold inR; omega) (by omega) (by omega) ?_
      refine dw_if_eq (tgt := 46) (pc := 37) F dL_duration_37 (by decide) (by unfold inR; omega) (fun c37 => absurd c37 hxs) (fun c37 => ?_)
      refine dw_iinc5 (pc := 40) F dL_duration_40 rfl hk.symm ?_
      refine dw_goto (tgt := 12) (pc := 43) F dL_duration_43 (by decide) ?_
      rw [show S (21 + 5 * k + 2) + x + 1 = S (21 + 5 * k + 2) + (x + 1) by omega]
      exact ih (x + 1) _ (by omega) (by omega) (by omega)
  refine dw_aload1 (pc := 0) F dL_duration_0 ?_
  refine dw_iload2 (pc := 1) F dL_duration_1 ?_
  refine dw_iconst (pc := 2) F dL_duration_2 ?_
  refine dw_cp (as := [_, _]) (pc := 3) F dL_duration_3 ml_L_113 (ct8_span0 _ _ S _ _ hCC.1 hCC.2.1 (by omega) (by omega)) hCL hCR (fun v σ9 z => z) (Nat.le_of_ble_eq_true rfl) (by decide) (by omega) ?_
  refine dw_istore4 (pc := 6) F dL_duration_6 rfl hk.symm ?_
  refine dw_iload4 (pc := 8) F dL_duration_8 ?_
  refine dw_istore5 (pc := 10) F dL_duration_10 rfl hk.symm ?_
  have e := loop sl.toNat 0 _ (by omega) (by omega) (Nat.le_refl 0)
  rw [show S (21 + 5 * k + 2) + 0 = S (21 + 5 * k + 2) by omega] at e
  exact e
set_option maxRecDepth 100000 in
theorem cdL_timesOf (sx : Sx) (S : Int → Int) (L : List Id4) (M : Id4 → Int → Int) (Rf : Id4 → Int → Option Id4) (b : Bool) (hCL : CLd L) (hCR : CRx b Rf) (hCC : CC S M) (hw : (9, 0, 0, 0) ∈ L) (hWF : WF S M) : CdR sx 15 10 yL_timesOf cL_timesOf 4 (some (.array .int)) [aR (9, 0, 0, 0), aR (8, 0, 0, 0)] L (M, Rf) (fun r L' σ' => r = (12, (L.length : Int), (S 1).toNat, 0) ∧ L' = L ++ [(12, (L.length : Int), (S 1).toNat, 0)] ∧ r ∉ L ∧ σ'.2 = zR Rf r ∧ (∀ q, q ≠ r → σ'.1 q = M q) ∧ ∀ j, 0 ≤ j → j < S 1 → σ'.1 r j = S (14 + j)) := by
  obtain ⟨⟨q2, q3, q4⟩, hp, hE, hN⟩ := id hWF
  refine CdR.mk (by decide +kernel) rfl (Nat.le_of_ble_eq_true rfl) (fun X G ρ F hk hsx => ?_)
  subst hsx
  refine dw_DI F (fun hI _ _ _ => ?_)
  have hf := hI.fresh (t := 12) (c := (S 1).toNat) (r := 0) (by decide)
  obtain ⟨T, hT⟩ : ∃ T : Id4, T = (12, (L.length : Int), (S 1).toNat, 0) := ⟨_, rfl⟩
  have hT8 : ¬ T.1 ≤ 8 := by rw [hT]; exact Nat.not_le_of_lt (Nat.le_of_ble_eq_true rfl)
  have hkT : kd T = .inr (0, (S 1).toNat) := by rw [hT]; rfl
  have hTw : (9, 0, 0, 0) ≠ T := by rw [hT]; intro z; cases z
  rw [← hT] at hf ⊢
  have hm : T ∈ L ++ [T] := List.mem_append_right _ List.mem_cons_self
  have hw' : (9, 0, 0, 0) ∈ L ++ [T] := List.mem_append_left _ hw
  have hCL' : CLd (L ++ [T]) := by rw [hT]; exact hCL.app (by decide)
  have loop : ∀ (f e : Nat) (M1 : Id4 → Int → Int) (u : Nat), (f : Int) + e = S 1 → u + f ≤ 10 → CC S M1 → M1 (9, 0, 0, 0) = M (9, 0, 0, 0) → (∀ q, q ≠ T → M1 q = M q) → (∀ j : Int, 0 ≤ j → j < e → M1 T j = S (14 + j)) → DW X G ρ L (L ++ [T]) 9 [aR (9, 0, 0, 0), aR (8, 0, 0, 0), aR T, aI e] [] (M1, zR Rf T) u (ERd X G ρ L 10 (fun r L' σ' => r = T ∧ L' = L ++ [T] ∧ r ∉ L ∧ σ'.2 = zR Rf r ∧ (∀ q, q ≠ r → σ'.1 q = M q) ∧ ∀ j, 0 ≤ j → j < S 1 → σ'.1 r j = S (14 + j))) := by
    intro f
    have hCL := hCL'
    have hCR := hCR.z hT8
    induction f with
    | zero =>
      intro e M1 u hf9 hu hCC h9 hO hV
      refine dw_iload3 (pc := 9) F dL_timesOf_9 ?_
      refine dw_aload0 (pc := 10) F dL_timesOf_10 ?_
      refine dw_getI (pc := 11) F dL_timesOf_11 fl_L_64 (by first | assumption | rfl) (by first | assumption | (simp [*]; done)) rfl nz3 ?_
      rw [h9, q3]
      refine dw_icmp_ge (tgt := 31) (pc := 14) F dL_timesOf_14 (by decide) (by unfold inR; omega) (by unfold inR; omega) (fun c14 => ?_) (fun c14 => absurd c14 (by omega))
      refine dw_aload2 (pc := 31) F dL_timesOf_31 ?_
      exact dw_aret (pc := 32) F dL_timesOf_32 (Or.inr ⟨_, rfl⟩) (by omega) ⟨rfl, rfl, hf, rfl, hO, fun j j0 j1 => hV j j0 (by omega)⟩
    | succ f ih =>
      intro e M1 u hf9 hu hCC h9 hO hV
      refine dw_iload3 (pc := 9) F dL_timesOf_9 ?_
      refine dw_aload0 (pc := 10) F dL_timesOf_10 ?_
      refine dw_getI (pc := 11) F dL_timesOf_11 fl_L_64 (by first | assumption | rfl) (by first | assumption | (simp [*]; done)) rfl nz3 ?_
      rw [h9, q3]
      refine dw_icmp_ge (tgt := 31) (pc := 14) F dL_timesOf_14 (by decide) (by unfold inR; omega) (by unfold inR; omega) (fun c14 => absurd c14 (by omega)) (fun c14 => ?_)
      refine dw_aload2 (pc := 17) F dL_timesOf_17 ?_
      refine dw_iload3 (pc := 18) F dL_timesOf_18 ?_
      refine dw_aload1 (pc := 19) F dL_timesOf_19 ?_
      refine dw_iload3 (pc := 20) F dL_timesOf_20 ?_
      refine dw_cp (as := [_]) (pc := 21) F dL_timesOf_21 ml_L_106 (ct8_time0 _ _ S _ hCC.1 hCC.2.1 (by omega)) hCL hCR (fun v σ9 z => z) (Nat.le_of_ble_eq_true rfl) (by decide) (by omega) ?_
      refine dw_iast (pc := 24) F dL_timesOf_24 hkT hm (by omega) (by omega) ?_
      refine dw_iinc3 (pc := 25) F dL_timesOf_25 rfl hk.symm ?_
      refine dw_goto (tgt := 9) (pc := 28) F dL_timesOf_28 (by decide) ?_
      rw [show ((e : Int) + 1) = ((e + 1 : Nat) : Int) by omega]
      refine ih (e + 1) _ _ (by omega) (by omega) (hCC.u hT8) ((updM_ne hTw).trans h9) (fun q hq => (updM_ne hq).trans (hO q hq)) (fun j j0 j1 => ?_)
      by_cases z : j = e
      · rw [z, upd_same]
      · rw [upd_ne (Or.inr z)]
        exact hV j j0 (by omega)
  refine dw_aload0 (pc := 0) F dL_timesOf_0 ?_
  refine dw_getI (pc := 1) F dL_timesOf_1 fl_L_64 (by first | assumption | rfl) (by first | assumption | (simp [*]; done)) rfl nz3 ?_
  rw [q3]
  refine dw_newI (N := (S 1).toNat) (w := 1) F dL_timesOf_4 ac_0 (show S 1 = (((S 1).toNat : Nat) : Int) by omega) (by omega) (by omega) (by omega) ?_
  refine dw_astore2 (pc := 6) F dL_timesOf_6 rfl hk.symm ?_
  refine dw_iconst (pc := 7) F dL_timesOf_7 ?_
  refine dw_istore3 (pc := 8) F dL_timesOf_8 rfl hk.symm ?_
  rw [← hT]
  exact loop (S 1).toNat 0 _ _ (by omega) (by omega) (hCC.z hT8) (zM_ne hTw) (fun q hq => zM_ne hq) (fun j j0 j1 => by omega)
