/-! d6: Strings made anew -/
theorem bK_ne {bq q : Id4} (h : bK bq) (hq : q.1 < 20) : bq ≠ q := fun z => by
  obtain ⟨i, _, e⟩ := h
  rw [← z, e] at hq
  exact absurd hq (by dsimp only; omega)
set_option maxRecDepth 100000 in
theorem cdJ_checkLength (sx : Sx) (L : List Id4) (M : Id4 → Int → Int) (Rf : Id4 → Int → Option Id4) (x y : Int) (h : 0 ≤ x ∧ x ≤ y) (h2 : y ≤ 100000) : CdV sx 1 0 yJ7_checkLength_df160 cJ7_checkLength_df160 2 none [aI x, aI y] L (M, Rf) (PVd L (M, Rf)) := by
  refine CdV.mk (by decide +kernel) rfl (Nat.le_of_ble_eq_true rfl) (fun X G ρ F hk hsx => ?_)
  subst hsx
  refine dw_iload1 (pc := 0) F dJ7_checkLength_df160_0 ?_
  refine dw_iload0 (pc := 1) F dJ7_checkLength_df160_1 ?_
  refine dw_icmp_ge (tgt := 37) (pc := 2) F dJ7_checkLength_df160_2 (by decide) (by unfold inR; omega) (by unfold inR; omega) (fun c2 => ?_) (fun c2 => absurd c2 (by omega))
  exact dw_vret (pc := 37) F dJ7_checkLength_df160_37 (by omega) ⟨rfl, rfl⟩
set_option maxRecDepth 100000 in
theorem cdJ_cpRangeB (sx : Sx) (L : List Id4) (M : Id4 → Int → Int) (Rf : Id4 → Int → Option Id4) (bq : Id4) (n N : Nat) (x y : Int) (hkb : kd bq = .inr (1, n)) (hmb : bq ∈ L ∨ bK bq) (hn : n ≤ 1000) (hx : 0 ≤ x ∧ y = x + N ∧ y ≤ n) (hby : byt M bq n) : CdR sx 2 16 yJ7_copyOfRangeByte_39247 cJ7_copyOfRangeByte_39247 5 (some (.array .byte)) [aR bq, aI x, aI y] L (M, Rf) (fun r L' σ' => r = (13, (L.length : Int), N, 0) ∧ L' = L ++ [(13, (L.length : Int), N, 0)] ∧ (13, (L.length : Int), N, 0) ∉ L ∧ σ' = (cpyM (zM M (13, (L.length : Int), N, 0)) bq x (13, (L.length : Int), N, 0) 0 (min (n - x) N), zR Rf (13, (L.length : Int), N, 0))) := by
  obtain ⟨hx0, rfl, hx2⟩ := hx
  refine CdR.mk (by decide +kernel) rfl (Nat.le_of_ble_eq_true rfl) (fun X G ρ F hk hsx => ?_)
  subst hsx
  refine dw_DI F (fun hI _ _ _ => ?_)
  have hfr : (13, (L.length : Int), N, 0) ∉ L := hI.fresh (by decide)
  have hmb3 : bq ∈ L ++ [(13, (L.length : Int), N, 0)] ∨ bK bq := hmb.imp (fun z => List.mem_append_left _ z) id
  have hb9 : zM M (13, (L.length : Int), N, 0) bq = M bq := zM_ne (hmb.elim (fun z => ne_of z hfr) (fun z => bK_ne z (Nat.le_of_ble_eq_true rfl)))
  refine dw_iload1 (pc := 0) F dJ7_copyOfRangeByte_39247_0 ?_
  refine dw_iload2 (pc := 1) F dJ7_copyOfRangeByte_39247_1 ?_
  refine dw_callSV (as := [_, _]) (pc := 2) F dJ7_copyOfRangeByte_39247_2 ml_J7_343 (cdJ_checkLength _ _ _ _ _ _ (by omega) (by omega)) (Nat.le_of_ble_eq_true rfl) (by decide) (by omega) (fun L9 s9 h9 hLE9 => ?_)
  obtain ⟨rfl, rfl⟩ := h9
  refine dw_iload2 (pc := 5) F dJ7_copyOfRangeByte_39247_5 ?_
  refine dw_iload1 (pc := 6) F dJ7_copyOfRangeByte_39247_6 ?_
  refine dw_isub (pc := 7) F dJ7_copyOfRangeByte_39247_7 ?_
  rw [show x + (N : Int) - x = (N : Int) by omega]
  refine dw_istore3 (pc := 8) F dJ7_copyOfRangeByte_39247_8 rfl hk.symm ?_
  refine dw_iload3 (pc := 9) F dJ7_copyOfRangeByte_39247_9 ?_
  refine dw_newB (N := N) (w := 16) (pc := 10) F dJ7_copyOfRangeByte_39247_10 ac_1 rfl (by omega) (by omega) (by omega) ?_
  refine dw_astore4 (pc := 12) F dJ7_copyOfRangeByte_39247_12 rfl hk.symm ?_
  refine dw_aload0 (pc := 14) F dJ7_copyOfRangeByte_39247_14 ?_
  refine dw_iload1 (pc := 15) F dJ7_copyOfRangeByte_39247_15 ?_
  refine dw_aload4 (pc := 16) F dJ7_copyOfRangeByte_39247_16 ?_
  refine dw_iconst (pc := 18) F dJ7_copyOfRangeByte_39247_18 ?_
  refine dw_aload0 (pc := 19) F dJ7_copyOfRangeByte_39247_19 ?_
  refine dw_balen (pc := 20) F dJ7_copyOfRangeByte_39247_20 (by first | assumption | rfl) (by first | assumption | (simp [*]; done)) rfl ?_
  refine dw_iload1 (pc := 21) F dJ7_copyOfRangeByte_39247_21 ?_
  refine dw_isub (pc := 22) F dJ7_copyOfRangeByte_39247_22 ?_
  refine dw_iload3 (pc := 23) F dJ7_copyOfRangeByte_39247_23 ?_
  refine dw_callSI (as := [_, _]) (pc := 24) F dJ7_copyOfRangeByte_39247_24 ml_J7_304 (cdJ_min _ _ _ _ _ _ (by unfold inR; omega) (by unfold inR; omega)) (Nat.le_of_ble_eq_true rfl) (by decide) (by omega) (fun v9 L9 s9 h9 _ => ?_)
  obtain ⟨rfl, rfl, rfl⟩ := h9
  refine dw_copyB (pc := 27) F dJ7_copyOfRangeByte_39247_27 mc_J7_150 hkb (show kd (13, (L9.length : Int), N, 0) = .inr (1, N) from rfl) hmb3 (by simp) (by omega) (by omega) (by omega) (by omega) (by omega) (by rw [hb9]; exact byt8 hby) (Nat.le_of_ble_eq_true rfl) (by decide) ?_
  refine dw_aload4 (pc := 30) F dJ7_copyOfRangeByte_39247_30 ?_
  exact dw_aret (pc := 32) F dJ7_copyOfRangeByte_39247_32 (Or.inr ⟨_, rfl⟩) (by omega) ⟨rfl, rfl, hfr, rfl⟩
/-- a fresh row of N bytes, bq's from x on -/
def NWd (L : List Id4) (M : Id4 → Int → Int) (Rf : Id4 → Int → Option Id4) (bq : Id4) (x : Int) (N : Nat) (r : Id4) (L' : List Id4) (σ' : Hp) : Prop := r = (13, (L.length : Int), N, 0) ∧ L' = L ++ [(13, (L.length : Int), N, 0)] ∧ (13, (L.length : Int), N, 0) ∉ L ∧ (∀ j : Int, 0 ≤ j → j < N → σ'.1 (13, (L.length : Int), N, 0) j = M bq (x + j)) ∧ KP L (fun _ => False) (M, Rf) σ'
set_option maxRecDepth 100000 in
theorem cdJ_cpRange (sx : Sx) (L : List Id4) (M : Id4 → Int → Int) (Rf : Id4 → Int → Option Id4) (bq : Id4) (n N : Nat) (x y : Int) (hkb : kd bq = .inr (1, n)) (hmb : bq ∈ L ∨ bK bq) (hw : bq ∈ L ∨ ¬ (x = 0 ∧ y = n)) (hn : n ≤ 1000) (hx : 0 ≤ x ∧ y = x + N ∧ y ≤ n) (hby : byt M bq n) : CdR sx 3 16 yJ7_copyOfRange_39247 cJ7_copyOfRange_39247 3 (some (.array .byte)) [aR bq, aI x, aI y] L (M, Rf) (NWd L M Rf bq x N) := by
  have fin : ∀ (r : Id4) (L' : List Id4) (σ' : Hp), (r = (13, (L.length : Int), N, 0) ∧ L' = L ++ [(13, (L.length : Int), N, 0)] ∧ (13, (L.length : Int), N, 0) ∉ L ∧ σ' = (cpyM (zM M (13, (L.length : Int), N, 0)) bq x (13, (L.length : Int), N, 0) 0 (min (n - x) N), zR Rf (13, (L.length : Int), N, 0))) → NWd L M Rf bq x N r L' σ' := fun r L' σ' ⟨h1, h2, h3, h4⟩ => by
    have hb9 : zM M (13, (L.length : Int), N, 0) bq = M bq := zM_ne (hmb.elim (fun z => ne_of z h3) (fun z => bK_ne z (Nat.le_of_ble_eq_true rfl)))
    subst h4
    refine ⟨h1, h2, h3, fun j j0 j1 => ?_, fun z hz _ => ⟨?_, ?_⟩⟩
    · show cpyM (zM M (13, (L.length : Int), N, 0)) bq x (13, (L.length : Int), N, 0) 0 (min (n - x) N) (13, (L.length : Int), N, 0) j = _
      rw [cpy_in (by omega), hb9, show x + (j - 0) = x + j by omega]
    · show cpyM (zM M (13, (L.length : Int), N, 0)) bq x (13, (L.length : Int), N, 0) 0 (min (n - x) N) z = M z
      rw [cpy_ne (inK_ne hz h3 (Nat.le_of_ble_eq_true rfl)), zM_ne (inK_ne hz h3 (Nat.le_of_ble_eq_true rfl))]
    · exact zR_ne (inK_ne hz h3 (Nat.le_of_ble_eq_true rfl))
  refine CdR.mk (by decide +kernel) rfl (Nat.le_of_ble_eq_true rfl) (fun X G ρ F hk hsx => ?_)
  subst hsx
  refine dw_DI F (fun hI _ _ _ => ?_)
  have hfr : ∀ c : Nat, (13, (L.length : Int), c, 0) ∉ L := fun c => hI.fresh (by decide)
  have hby8 := byt8 hby
  refine dw_iload1 (pc := 0) F dJ7_copyOfRange_39247_0 ?_
  refine dw_if_ne (tgt := 10) (pc := 1) F dJ7_copyOfRange_39247_1 (by decide) (by unfold inR; omega) (fun c1 => ?_) (fun c1 => ?_)
  · refine dw_aload0 (pc := 10) F dJ7_copyOfRange_39247_10 ?_
    refine dw_iload1 (pc := 11) F dJ7_copyOfRange_39247_11 ?_
    refine dw_iload2 (pc := 12) F dJ7_copyOfRange_39247_12 ?_
    refine dw_callSR (as := [_, _, _]) (pc := 13) F dJ7_copyOfRange_39247_13 ml_J7_339 (cdJ_cpRangeB _ _ _ _ _ _ N _ _ (by assumption) (by assumption) (by omega) (by omega) (by assumption)) (Nat.le_of_ble_eq_true rfl) (by decide) (by omega) (fun r9 L9 s9 h9 hLE9 hin9 => ?_)
    exact dw_aret (pc := 16) F dJ7_copyOfRange_39247_16 (Or.inr ⟨_, rfl⟩) (by omega) (fin _ _ _ h9)
  · refine dw_iload2 (pc := 4) F dJ7_copyOfRange_39247_4 ?_
    refine dw_aload0 (pc := 5) F dJ7_copyOfRange_39247_5 ?_
    refine dw_balen (pc := 6) F dJ7_copyOfRange_39247_6 (by first | assumption | rfl) (by first | assumption | (simp [*]; done)) rfl ?_
    refine dw_icmp_eq (tgt := 17) (pc := 7) F dJ7_copyOfRange_39247_7 (by decide) (by unfold inR; omega) (by unfold inR; omega) (fun c7 => ?_) (fun c7 => ?_)
    · refine dw_aload0 (pc := 17) F dJ7_copyOfRange_39247_17 ?_
      have hN9 : n = N := by omega
      subst hN9
      have hmL : bq ∈ L := hw.elim id (fun z => absurd ⟨by omega, by omega⟩ z)
      refine dw_clone (w := 16) (pc := 18) F dJ7_copyOfRange_39247_18 kl1 kl2 kl3 kl4 kl5 hkb hmL hby8 (Nat.le_of_ble_eq_true rfl) (by decide) (by omega) (by omega) ?_
      refine dw_castB (pc := 21) F dJ7_copyOfRange_39247_21 kl6 (show kd (13, (L.length : Int), n, 0) = .inr (1, n) from rfl) (by simp) ?_
      exact dw_aret (pc := 24) F dJ7_copyOfRange_39247_24 (Or.inr ⟨_, rfl⟩) (by omega) ⟨rfl, rfl, hfr n, fun j j0 j1 => by show setA M (13, (L.length : Int), n, 0) (M bq) (13, (L.length : Int), n, 0) j = _; rw [setA_same, show x + j = j by omega], fun z hz _ => ⟨if_neg (inK_ne hz (hfr n) (Nat.le_of_ble_eq_true rfl)), zR_ne (inK_ne hz (hfr n) (Nat.le_of_ble_eq_true rfl))⟩⟩
    · refine dw_aload0 (pc := 10) F dJ7_copyOfRange_39247_10 ?_
      refine dw_iload1 (pc := 11) F dJ7_copyOfRange_39247_11 ?_
      refine dw_iload2 (pc := 12) F dJ7_copyOfRange_39247_12 ?_
      refine dw_callSR (as := [_, _, _]) (pc := 13) F dJ7_copyOfRange_39247_13 ml_J7_339 (cdJ_cpRangeB _ _ _ _ _ _ N _ _ (by assumption) (by assumption) (by omega) (by omega) (by assumption)) (Nat.le_of_ble_eq_true rfl) (by decide) (by omega) (fun r9 L9 s9 h9 hLE9 hin9 => ?_)
      exact dw_aret (pc := 16) F dJ7_copyOfRange_39247_16 (Or.inr ⟨_, rfl⟩) (by omega) (fin _ _ _ h9)
set_option maxRecDepth 100000 in
theorem cdJ_getValue (sx : Sx) (L : List Id4) (M : Id4 → Int → Int) (Rf : Id4 → Int → Option Id4) (q bq : Id4) (hm : q ∈ L) (hkq : kd q = .inl 11) (hv : Rf q 0 = some bq) : CdR sx 1 0 yJ5_getValue_6d5f1 cJ5_getValue_6d5f1 1 (some (.array .byte)) [aR q] L (M, Rf) (fun r L' σ' => r = bq ∧ L' = L ∧ σ' = (M, Rf)) := by
  refine CdR.mk (by decide +kernel) rfl (Nat.le_of_ble_eq_true rfl) (fun X G ρ F hk hsx => ?_)
  subst hsx
  refine dw_aload0 (pc := 0) F dJ5_getValue_6d5f1_0 ?_
  refine dw_getR (pc := 1) F dJ5_getValue_6d5f1_1 fl_J5_15 (by first | assumption | rfl) (by first | assumption | (simp [*]; done)) rfl nz0 (by assumption) ?_
  exact dw_aret (pc := 4) F dJ5_getValue_6d5f1_4 (Or.inr ⟨_, rfl⟩) (by omega) ⟨rfl, rfl, rfl⟩
set_option maxRecDepth 100000 in
theorem cdJ_length5 (sx : Sx) (L : List Id4) (M : Id4 → Int → Int) (Rf : Id4 → Int → Option Id4) (q : Id4) (n : Int) (hm : q ∈ L) (hkq : kd q = .inl 11) (hn : M q 3 = n) : CdI sx 1 0 yJ5_length_8abf5 cJ5_length_8abf5 1 (some .int) [aR q] L (M, Rf) (PUd L (M, Rf) n) := by
  refine CdI.mk (by decide +kernel) rfl (Nat.le_of_ble_eq_true rfl) (fun X G ρ F hk hsx => ?_)
  subst hsx
  refine dw_aload0 (pc := 0) F dJ5_length_8abf5_0 ?_
  refine dw_getI (pc := 1) F dJ5_length_8abf5_1 fl_J5_79 (by first | assumption | rfl) (by first | assumption | (simp [*]; done)) rfl nz3 ?_
  exact dw_iret (pc := 4) F dJ5_length_8abf5_4 rfl (by omega) ⟨hn, rfl, rfl⟩
set_option maxRecDepth 100000 in
theorem cdJ_length4 (sx : Sx) (L : List Id4) (M : Id4 → Int → Int) (Rf : Id4 → Int → Option Id4) (q : Id4) (n : Int) (hm : q ∈ L) (hkq : kd q = .inl 11) (hn : M q 3 = n) : CdI sx 2 0 yJ4_length_8abf5 cJ4_length_8abf5 1 (some .int) [aR q] L (M, Rf) (PUd L (M, Rf) n) := by
  refine CdI.mk (by decide +kernel) rfl (Nat.le_of_ble_eq_true rfl) (fun X G ρ F hk hsx => ?_)
  subst hsx
  refine dw_aload0 (pc := 0) F dJ4_length_8abf5_0 ?_
  refine dw_callSUI (as := []) (pc := 1) F dJ4_length_8abf5_1 ml_J4_343 (by first | assumption | rfl) (by first | assumption | (simp [*]; done)) rfl (cdJ_length5 _ _ _ _ _ _ (by assumption) (by assumption) (by assumption)) (Nat.le_of_ble_eq_true rfl) (by decide) (by omega) (fun v9 L9 s9 h9 _ => ?_)
  obtain ⟨rfl, rfl, rfl⟩ := h9
  exact dw_iret (pc := 4) F dJ4_length_8abf5_4 rfl (by omega) ⟨rfl, rfl, rfl⟩
/-- a String made anew: r with N bytes bs, those of bq from x on; all else stays -/
def NSd (L : List Id4) (M : Id4 → Int → Int) (Rf : Id4 → Int → Option Id4) (bq : Id4) (x : Int) (N : Nat) (r : Id4) (L' : List Id4) (σ' : Hp) : Prop := ∃ bs, Str L' σ' r bs N ∧ (∀ j : Int, 0 ≤ j → j < N → σ'.1 bs j = M bq (x + j)) ∧ KP L (fun z => z = r) (M, Rf) σ' ∧ bs ∉ L ∧ r ∈ L'
theorem ns_end {L1 : List Id4} {M1 : Id4 → Int → Int} {R1 : Id4 → Int → Option Id4} {r bq : Id4} {x : Int} {n N : Nat} {L' : List Id4} {M2 : Id4 → Int → Int} {R2 : Id4 → Int → Option Id4} {p : Id4} (hr : r ∈ L1) (hkr : kd r = .inl 10) (hbq : byt M1 bq n) (hx : 0 ≤ x ∧ x + N ≤ n) (hN : N ≤ 400) (h : NWd L1 M1 R1 bq x N p L' (M2, R2)) (M3 : Id4 → Int → Int) (h3 : ∀ z, z ≠ r → M3 z = M2 z) (h4 : M3 r 1 = 0) : NSd L1 M1 R1 bq x N r L' (M3, updR R2 r 0 (some p)) := by
  obtain ⟨rfl, rfl, hfr, hcp, hK⟩ := h
  have hne : (13, (L1.length : Int), N, 0) ≠ r := Ne.symm (ne_of hr hfr)
  refine ⟨_, ⟨Or.inl ⟨List.mem_append_left _ hr, hkr⟩, h4, if_pos ⟨rfl, rfl⟩, rfl, Or.inl (List.mem_append_right _ List.mem_cons_self), hN, fun j j0 j1 => ?_⟩, fun j j0 j1 => ?_, fun z hz hn => ⟨?_, ?_⟩, hfr, List.mem_append_left _ hr⟩
  · show 0 ≤ M3 (13, (L1.length : Int), N, 0) j ∧ M3 (13, (L1.length : Int), N, 0) j ≤ 127
    have e := hcp j j0 j1
    have e2 : M2 (13, (L1.length : Int), N, 0) j = M1 bq (x + j) := e
    rw [h3 _ hne, e2]
    exact hbq _ (by omega) (by omega)
  · show M3 (13, (L1.length : Int), N, 0) j = _
    rw [h3 _ hne]
    exact hcp j j0 j1
  · show M3 z = M1 z
    rw [h3 z hn]
    exact (hK z hz id).1
  · show updR R2 r 0 _ z = R1 z
    rw [updR_ne hn]
    exact (hK z hz id).2
theorem iv_end {sx : Sx} {L : List Id4} {M : Id4 → Int → Int} {Rf : Id4 → Int → Option Id4} {r bq : Id4} {n N : Nat} {L' : List Id4} {M2 : Id4 → Int → Int} {R2 : Id4 → Int → Option Id4} {p : Id4} (hr : r ∈ L) (hkr : kd r = .inl 10) (hby : byt (updM M r 1 0) bq n) (hbr : bq ≠ r) (hn : (N : Int) ≤ n) (hN : N ≤ 400) (h : NWd L (updM M r 1 0) Rf bq 0 N p L' (M2, R2)) : NSd L M Rf bq 0 N r L' (M2, updR R2 r 0 (some p)) := by
  have hK := h.2.2.2.2
  have h4 : M2 r 1 = 0 := by
    have e : M2 r = updM M r 1 0 r := (hK r (Or.inl hr) id).1
    rw [e, upd_same]
  obtain ⟨bs, a, b, c, d, e⟩ := ns_end hr hkr hby (by omega) hN h M2 (fun _ _ => rfl) h4
  refine ⟨bs, a, fun j j0 j1 => by rw [b j j0 j1, updM_ne hbr], fun z hz hn9 => ?_, d, e⟩
  obtain ⟨c1, c2⟩ := c z hz hn9
  exact ⟨c1.trans (updM_ne hn9), c2⟩
set_option maxRecDepth 100000 in
theorem cdJ_initV (sx : Sx) (L : List Id4) (M : Id4 → Int → Int) (Rf : Id4 → Int → Option Id4) (r q bq : Id4) (m N : Nat) (hr : r ∈ L) (hkr : kd r = .inl 10) (hS : SBd L (M, Rf) q bq m N) (hN : N ≤ 400) : CdV sx 4 16 yJ0_init_db425 cJ0_init_db425 5 none [aR r, aR q, aN] L (M, Rf) (fun L' σ' => NSd L M Rf bq 0 N r L' σ') := by
  obtain ⟨hm, hkq, hc, hv, hkb, hmb, hm9, hn, hn2, hby⟩ := id hS
  have hcM : M q 1 = 0 := hc
  have hvM : Rf q 0 = some bq := hv
  have hnM : M q 3 = (N : Int) := hn
  have hmb2 : bq ∈ L ∨ bK bq := Or.inl hmb
  have hqr : q ≠ r := fun z => by rw [z, hkr] at hkq; cases hkq
  have hbr : bq ≠ r := fun z => by rw [z, hkr] at hkb; cases hkb
  have hbyM : byt (updM M r 1 0) bq m := fun j j0 j1 => by rw [updM_ne hbr]; exact hby j j0 j1
  refine CdV.mkI (by decide +kernel) rfl rfl (Nat.le_of_ble_eq_true rfl) (fun X G ρ F hin hk hsx => ?_)
  subst hsx
  refine dw_aload0 (pc := 0) F dJ0_init_db425_0 ?_
  refine dw_objinit (pc := 1) F dJ0_init_db425_1 oi1_J0 oi2 oi3 (by decide) (Nat.le_of_ble_eq_true rfl) ?_
  refine dw_aload1 (pc := 4) F dJ0_init_db425_4 ?_
  refine dw_callUR (as := []) (pc := 5) F dJ0_init_db425_5 ml_J0_552 (by first | assumption | rfl) (by first | assumption | (simp [*]; done)) (cdJ_getValue _ _ _ _ _ _ (by assumption) (by assumption) (by assumption)) (Nat.le_of_ble_eq_true rfl) (by decide) (by omega) (fun r9 L9 s9 h9 hLE9 hin9 => ?_)
  obtain ⟨rfl, rfl, rfl⟩ := h9
  refine dw_astore3 (pc := 8) F dJ0_init_db425_8 rfl hk.symm ?_
  refine dw_aload1 (pc := 9) F dJ0_init_db425_9 ?_
  refine dw_callUI (as := []) (pc := 10) F dJ0_init_db425_10 ml_J0_549 (by first | assumption | rfl) (by first | assumption | (simp [*]; done)) (cdJ_length4 _ _ _ _ _ _ (by assumption) (by assumption) (by assumption)) (Nat.le_of_ble_eq_true rfl) (by decide) (by omega) (fun v9 L9 s9 h9 _ => ?_)
  obtain ⟨rfl, rfl, rfl⟩ := h9
  refine dw_istore4 (pc := 13) F dJ0_init_db425_13 rfl hk.symm ?_
  refine dw_aload1 (pc := 15) F dJ0_init_db425_15 ?_
  refine dw_callUI (as := []) (pc := 16) F dJ0_init_db425_16 ml_J0_1047 (by first | assumption | rfl) (by first | assumption | (simp [*]; done)) (cdJ_isLatin5 _ _ _ _ _ (by assumption) (by assumption) (by assumption)) (Nat.le_of_ble_eq_true rfl) (by decide) (by omega) (fun v9 L9 s9 h9 _ => ?_)
  obtain ⟨rfl, rfl, rfl⟩ := h9
  refine dw_if_eq (tgt := 41) (pc := 19) F dJ0_init_db425_19 (by decide) (by unfold inR; omega) (fun c19 => absurd c19 (by decide)) (fun c19 => ?_)
  refine dw_aload0 (pc := 22) F dJ0_init_db425_22 ?_
  refine dw_iconst (pc := 23) F dJ0_init_db425_23 ?_
  refine dw_putI (pc := 24) F dJ0_init_db425_24 fl_J0_15 (pg_10_1 rfl hin) (by first | assumption | rfl) (by first | assumption | (simp [*]; done)) rfl nz1 ?_
  refine dw_aload0 (pc := 27) F dJ0_init_db425_27 ?_
  refine dw_aload3 (pc := 28) F dJ0_init_db425_28 ?_
  refine dw_iconst (pc := 29) F dJ0_init_db425_29 ?_
  refine dw_iload4 (pc := 30) F dJ0_init_db425_30 ?_
  refine dw_callSR (as := [_, _, _]) (pc := 32) F dJ0_init_db425_32 ml_J0_54 (cdJ_cpRange _ _ _ _ _ _ N _ _ hkb hmb2 (Or.inl hmb) (by omega) (by omega) hbyM) (Nat.le_of_ble_eq_true rfl) (by decide) (by omega) (fun r9 L9 s9 h9 hLE9 hin9 => ?_)
  obtain ⟨M2, R2⟩ := s9
  have hrL : r ∈ L9 := hLE9 r hr
  refine dw_putR (pc := 35) F dJ0_init_db425_35 fl_J0_9 (pg_10_0 rfl hin) (by first | assumption | rfl) hrL rfl nz0 ?_
  refine dw_goto (tgt := 97) (pc := 38) F dJ0_init_db425_38 (by decide) ?_
  exact dw_vret (pc := 97) F dJ0_init_db425_97 (by omega) (iv_end (sx := G.2.2.2.2) hr hkr hbyM hbr (by omega) hN h9)
set_option maxRecDepth 100000 in
theorem cdJ_initS (sx : Sx) (L : List Id4) (M : Id4 → Int → Int) (Rf : Id4 → Int → Option Id4) (r q bq : Id4) (m N : Nat) (hr : r ∈ L) (hkr : kd r = .inl 10) (hS : SBd L (M, Rf) q bq m N) (hN : N ≤ 400) : CdV sx 5 16 yJ0_init_81219 cJ0_init_81219 2 none [aR r, aR q] L (M, Rf) (fun L' σ' => NSd L M Rf bq 0 N r L' σ') := by
  refine CdV.mkI (by decide +kernel) rfl rfl (Nat.le_of_ble_eq_true rfl) (fun X G ρ F hin hk hsx => ?_)
  subst hsx
  refine dw_aload0 (pc := 0) F dJ0_init_81219_0 ?_
  refine dw_aload1 (pc := 1) F dJ0_init_81219_1 ?_
  refine dw_null (pc := 2) F dJ0_init_81219_2 ?_
  refine dw_callNV (as := [_, _]) (pc := 3) F dJ0_init_81219_3 ml_J0_489 (cdJ_initV _ _ _ _ _ _ _ _ _ (by assumption) (by assumption) (by assumption) (by omega)) (Nat.le_of_ble_eq_true rfl) (by decide) (by omega) (fun L9 s9 h9 hLE9 => ?_)
  exact dw_vret (pc := 6) F dJ0_init_81219_6 (by omega) h9
set_option maxRecDepth 100000 in
theorem cdJ_toString (sx : Sx) (L : List Id4) (M : Id4 → Int → Int) (Rf : Id4 → Int → Option Id4) (q bq : Id4) (m N : Nat) (hS : SBd L (M, Rf) q bq m N) (hN : N ≤ 400) : CdR sx 6 17 yJ4_toString_0e30d cJ4_toString_0e30d 1 (some (.object "java/lang/String")) [aR q] L (M, Rf) (fun r L' σ' => r ∉ L ∧ ∃ bs, Str L' σ' r bs N ∧ (∀ j : Int, 0 ≤ j → j < N → σ'.1 bs j = M bq j) ∧ KP L (fun _ => False) (M, Rf) σ' ∧ bs ∉ L) := by
  refine CdR.mk (by decide +kernel) rfl (Nat.le_of_ble_eq_true rfl) (fun X G ρ F hk hsx => ?_)
  subst hsx
  refine dw_DI F (fun hI _ _ _ => ?_)
  have hfr : (10, (L.length : Int), 0, 0) ∉ L := hI.fresh (by decide)
  obtain ⟨hm, hkq, hc, hv, hkb, hmb, hm9, hn, hn2, hby⟩ := id hS
  have hS1 : SBd (L ++ [(10, (L.length : Int), 0, 0)]) (zM M (10, (L.length : Int), 0, 0), zR Rf (10, (L.length : Int), 0, 0)) q bq m N := ⟨List.mem_append_left _ hm, hkq, by show zM M _ q 1 = 0; rw [zM_ne (ne_of hm hfr)]; exact hc, by show zR Rf _ q 0 = _; rw [zR_ne (ne_of hm hfr)]; exact hv, hkb, List.mem_append_left _ hmb, hm9, by show zM M _ q 3 = _; rw [zM_ne (ne_of hm hfr)]; exact hn, hn2, fun j j0 j1 => by show 0 ≤ zM M _ bq j ∧ zM M _ bq j ≤ 127; rw [zM_ne (ne_of hmb hfr)]; exact hby j j0 j1⟩
  refine dw_new (t := 10) (w := 1) F (by decide) dJ4_toString_0e30d_0 nc_10 cl_J4_18 ni_10 df_10 (fun _ => rfl) (by decide) (by omega) ?_
  refine dw_dupR (pc := 3) F dJ4_toString_0e30d_3 ?_
  refine dw_aload0 (pc := 4) F dJ4_toString_0e30d_4 ?_
  refine dw_callNV (as := [_]) (pc := 5) F dJ4_toString_0e30d_5 ml_J4_137 (cdJ_initS _ _ _ _ _ _ _ _ N (by simp) rfl hS1 hN) (Nat.le_of_ble_eq_true rfl) (by decide) (by omega) (fun L9 s9 h9 hLE9 => ?_)
  obtain ⟨bs, h1, h2, h3, h4, h5⟩ := h9
  exact dw_aret (pc := 8) F dJ4_toString_0e30d_8 (Or.inl ⟨_, rfl⟩) (by omega) ⟨hfr, bs, h1, fun j j0 j1 => by rw [h2 j j0 j1, zM_ne (ne_of hmb hfr), show (0 : Int) + j = j by omega], (KP.tr (Y := fun z => z = (10, (L.length : Int), 0, 0)) LE.rf.app (fun x hx y => inK_ne hx hfr (Nat.le_of_ble_eq_true rfl) y) (fun x hx _ => ⟨zM_ne (inK_ne hx hfr (Nat.le_of_ble_eq_true rfl)), zR_ne (inK_ne hx hfr (Nat.le_of_ble_eq_true rfl))⟩) h3), fun z => h4 (List.mem_append_left _ z)⟩
set_option maxRecDepth 100000 in
theorem cdJ_initB (sx : Sx) (L : List Id4) (M : Id4 → Int → Int) (Rf : Id4 → Int → Option Id4) (r p : Id4) (hr : r ∈ L) (hkr : kd r = .inl 10) : CdV sx 2 0 yJ0_init_031fb cJ0_init_031fb 3 none [aR r, aR p, aI 0] L (M, Rf) (PVd L (updM M r 1 0, updR Rf r 0 (some p))) := by
  refine CdV.mkI (by decide +kernel) rfl rfl (Nat.le_of_ble_eq_true rfl) (fun X G ρ F hin hk hsx => ?_)
  subst hsx
  refine dw_aload0 (pc := 0) F dJ0_init_031fb_0 ?_
  refine dw_objinit (pc := 1) F dJ0_init_031fb_1 oi1_J0 oi2 oi3 (by decide) (Nat.le_of_ble_eq_true rfl) ?_
  refine dw_aload0 (pc := 4) F dJ0_init_031fb_4 ?_
  refine dw_aload1 (pc := 5) F dJ0_init_031fb_5 ?_
  refine dw_putR (pc := 6) F dJ0_init_031fb_6 fl_J0_9 (pg_10_0 rfl hin) (by first | assumption | rfl) (by first | assumption | (simp [*]; done)) rfl nz0 ?_
  refine dw_aload0 (pc := 9) F dJ0_init_031fb_9 ?_
  refine dw_iload2 (pc := 10) F dJ0_init_031fb_10 ?_
  refine dw_putI (pc := 11) F dJ0_init_031fb_11 fl_J0_15 (pg_10_1 rfl hin) (by first | assumption | rfl) (by first | assumption | (simp [*]; done)) rfl nz1 ?_
  exact dw_vret (pc := 14) F dJ0_init_031fb_14 (by omega) ⟨rfl, rfl⟩
set_option maxRecDepth 100000 in
theorem cdJ_newString (sx : Sx) (L : List Id4) (M : Id4 → Int → Int) (Rf : Id4 → Int → Option Id4) (bq : Id4) (n N : Nat) (x : Int) (hkb : kd bq = .inr (1, n)) (hmb : bq ∈ L ∨ bK bq) (hw : bq ∈ L ∨ ¬ (x = 0 ∧ x + N = n)) (hn : n ≤ 1000) (hx : 0 ≤ x ∧ x + N ≤ n) (hN : 0 < N ∧ N ≤ 400) (hby : byt M bq n) : CdR sx 4 17 yJ1_newString_b4f7a cJ1_newString_b4f7a 3 (some (.object "java/lang/String")) [aR bq, aI x, aI N] L (M, Rf) (fun r L' σ' => r ∉ L ∧ ∃ bs, Str L' σ' r bs N ∧ (∀ j : Int, 0 ≤ j → j < N → σ'.1 bs j = M bq (x + j)) ∧ KP L (fun _ => False) (M, Rf) σ' ∧ bs ∉ L) := by
  refine CdR.mk (by decide +kernel) rfl (Nat.le_of_ble_eq_true rfl) (fun X G ρ F hk hsx => ?_)
  subst hsx
  refine dw_DI F (fun hI _ _ _ => ?_)
  have hfr : (10, (L.length : Int), 0, 0) ∉ L := hI.fresh (by decide)
  have hbr : bq ≠ (10, (L.length : Int), 0, 0) := hmb.elim (fun z => ne_of z hfr) (fun z => bK_ne z (Nat.le_of_ble_eq_true rfl))
  have hbyM : byt (zM M (10, (L.length : Int), 0, 0)) bq n := fun j j0 j1 => by rw [zM_ne hbr]; exact hby j j0 j1
  refine dw_iload2 (pc := 0) F dJ1_newString_b4f7a_0 ?_
  refine dw_if_ne (tgt := 7) (pc := 1) F dJ1_newString_b4f7a_1 (by decide) (by unfold inR; omega) (fun c1 => ?_) (fun c1 => absurd c1 (by omega))
  refine dw_new (t := 10) (w := 1) F (by decide) dJ1_newString_b4f7a_7 nc_10 cl_J1_1 ni_10 df_10 (fun _ => rfl) (by decide) (by omega) ?_
  refine dw_dupR (pc := 10) F dJ1_newString_b4f7a_10 ?_
  refine dw_aload0 (pc := 11) F dJ1_newString_b4f7a_11 ?_
  refine dw_iload1 (pc := 12) F dJ1_newString_b4f7a_12 ?_
  refine dw_iload1 (pc := 13) F dJ1_newString_b4f7a_13 ?_
  refine dw_iload2 (pc := 14) F dJ1_newString_b4f7a_14 ?_
  refine dw_iadd (pc := 15) F dJ1_newString_b4f7a_15 ?_
  refine dw_callSR (as := [_, _, _]) (pc := 16) F dJ1_newString_b4f7a_16 ml_J1_232 (cdJ_cpRange _ _ _ _ _ _ N _ _ hkb (hmb.imp (fun z => List.mem_append_left _ z) id) (hw.imp (fun z => List.mem_append_left _ z) id) (by omega) (by omega) hbyM) (Nat.le_of_ble_eq_true rfl) (by decide) (by omega) (fun r9 L9 s9 h9 hLE9 hin9 => ?_)
  obtain ⟨M2, R2⟩ := s9
  have hrL : (10, (L.length : Int), 0, 0) ∈ L9 := hLE9 _ (by simp)
  refine dw_iconst (pc := 19) F dJ1_newString_b4f7a_19 ?_
  refine dw_callNV (as := [_, _]) (pc := 20) F dJ1_newString_b4f7a_20 ml_J1_112 (cdJ_initB _ _ _ _ _ _ hrL rfl) (Nat.le_of_ble_eq_true rfl) (by decide) (by omega) (fun L9 s9 h8 hLE9 => ?_)
  obtain ⟨rfl, rfl⟩ := h8
  have hE := ns_end (x := x) (by simp) (show kd (10, (L.length : Int), 0, 0) = .inl 10 from rfl) hbyM (by omega) hN.2 h9 (updM M2 (10, (L.length : Int), 0, 0) 1 0) (fun z hz => updM_ne hz) upd_same
  obtain ⟨bs, h1, h2, h3, h4, h5⟩ := hE
  exact dw_aret (pc := 23) F dJ1_newString_b4f7a_23 (Or.inl ⟨_, rfl⟩) (by omega) ⟨hfr, bs, h1, fun j j0 j1 => by rw [h2 j j0 j1, zM_ne hbr], (KP.tr (Y := fun z => z = (10, (L.length : Int), 0, 0)) LE.rf.app (fun x hx y => inK_ne hx hfr (Nat.le_of_ble_eq_true rfl) y) (fun x hx _ => ⟨zM_ne (inK_ne hx hfr (Nat.le_of_ble_eq_true rfl)), zR_ne (inK_ne hx hfr (Nat.le_of_ble_eq_true rfl))⟩) h3), fun z => h4 (List.mem_append_left _ z)⟩
set_option maxRecDepth 100000 in
theorem cdJ_pcheckFT (sx : Sx) (L : List Id4) (σ : Hp) (x y z : Int) (o : Option Id4) (h : 0 ≤ x ∧ x ≤ y ∧ y ≤ z) (h2 : z ≤ 100000) : CdI sx 1 0 yJ3_checkFromToIndex_8c36e cJ3_checkFromToIndex_8c36e 4 (some .int) [aI x, aI y, aI z, .inr (.inl o)] L σ (PUd L σ x) := by
  obtain ⟨M, Rf⟩ := σ
  refine CdI.mk (by decide +kernel) rfl (Nat.le_of_ble_eq_true rfl) (fun X G ρ F hk hsx => ?_)
  subst hsx
  refine dw_iload0 (pc := 0) F dJ3_checkFromToIndex_8c36e_0 ?_
  refine dw_if_lt (tgt := 14) (pc := 1) F dJ3_checkFromToIndex_8c36e_1 (by decide) (by unfold inR; omega) (fun c1 => absurd c1 (by omega)) (fun c1 => ?_)
  refine dw_iload0 (pc := 4) F dJ3_checkFromToIndex_8c36e_4 ?_
  refine dw_iload1 (pc := 5) F dJ3_checkFromToIndex_8c36e_5 ?_
  refine dw_icmp_gt (tgt := 14) (pc := 6) F dJ3_checkFromToIndex_8c36e_6 (by decide) (by unfold inR; omega) (by unfold inR; omega) (fun c6 => absurd c6 (by omega)) (fun c6 => ?_)
  refine dw_iload1 (pc := 9) F dJ3_checkFromToIndex_8c36e_9 ?_
  refine dw_iload2 (pc := 10) F dJ3_checkFromToIndex_8c36e_10 ?_
  refine dw_icmp_le (tgt := 22) (pc := 11) F dJ3_checkFromToIndex_8c36e_11 (by decide) (by unfold inR; omega) (by unfold inR; omega) (fun c11 => ?_) (fun c11 => absurd c11 (by omega))
  refine dw_iload0 (pc := 22) F dJ3_checkFromToIndex_8c36e_22 ?_
  exact dw_iret (pc := 23) F dJ3_checkFromToIndex_8c36e_23 rfl (by omega) ⟨rfl, rfl, rfl⟩
set_option maxRecDepth 100000 in
theorem cdJ_checkBE (sx : Sx) (L : List Id4) (M : Id4 → Int → Int) (Rf : Id4 → Int → Option Id4) (x y z : Int) (h : 0 ≤ x ∧ x ≤ y ∧ y ≤ z) (h2 : z ≤ 100000) : CdV sx 2 0 yJ0_checkBoundsBeginEnd_23922 cJ0_checkBoundsBeginEnd_23922 3 none [aI x, aI y, aI z] L (M, Rf) (PVd L (M, Rf)) := by
  refine CdV.mk (by decide +kernel) rfl (Nat.le_of_ble_eq_true rfl) (fun X G ρ F hk hsx => ?_)
  subst hsx
  refine dw_iload0 (pc := 0) F dJ0_checkBoundsBeginEnd_23922_0 ?_
  refine dw_iload1 (pc := 1) F dJ0_checkBoundsBeginEnd_23922_1 ?_
  refine dw_iload2 (pc := 2) F dJ0_checkBoundsBeginEnd_23922_2 ?_
  refine dw_fmt (pc := 3) F dJ0_checkBoundsBeginEnd_23922_3 gs_J0_1053 (fun o9 ho9 => ?_)
  refine dw_callSI (as := [_, _, _, _]) (pc := 6) F dJ0_checkBoundsBeginEnd_23922_6 ml_J0_1062 (cdJ_pcheckFT _ _ _ _ _ _ _ (by omega) (by omega)) (Nat.le_of_ble_eq_true rfl) (by decide) (by omega) (fun v9 L9 s9 h9 _ => ?_)
  obtain ⟨rfl, rfl, rfl⟩ := h9
  refine dw_popI (pc := 9) F dJ0_checkBoundsBeginEnd_23922_9 ?_
  exact dw_vret (pc := 10) F dJ0_checkBoundsBeginEnd_23922_10 (by omega) ⟨rfl, rfl⟩
set_option maxRecDepth 100000 in
theorem cdJ_substring (sx : Sx) (L : List Id4) (M : Id4 → Int → Int) (Rf : Id4 → Int → Option Id4) (q bq : Id4) (n : Nat) (x : Int) (hX : Str L (M, Rf) q bq n) (hx : 0 ≤ x ∧ x + 1 ≤ n) (hn2 : 2 ≤ n) : CdR sx 5 17 yJ0_substring_37a41 cJ0_substring_37a41 5 (some (.object "java/lang/String")) [aR q, aI x, aI (x + 1)] L (M, Rf) (fun r L' σ' => r ∉ L ∧ ∃ bs, Str L' σ' r bs 1 ∧ (∀ j : Int, 0 ≤ j → j < 1 → σ'.1 bs j = M bq (x + j)) ∧ KP L (fun _ => False) (M, Rf) σ' ∧ bs ∉ L) := by
  obtain ⟨hq, hc, hv, hkb, hmb, hn, hby⟩ := id hX
  have hcM : M q 1 = 0 := hc
  have hvM : Rf q 0 = some bq := hv
  refine CdR.mk (by decide +kernel) rfl (Nat.le_of_ble_eq_true rfl) (fun X G ρ F hk hsx => ?_)
  subst hsx
  refine dw_aload0 (pc := 0) F dJ0_substring_37a41_0 ?_
  refine dw_callVI (as := []) (pc := 1) F dJ0_substring_37a41_1 ml_J0_505 (isS_kd hq) (isS_mem hq) (cdJ_length _ _ _ _ _ _ _ (by assumption) (by assumption) (by assumption) (by assumption) (by assumption) (by omega)) (Nat.le_of_ble_eq_true rfl) (by decide) (by omega) (fun v9 L9 s9 h9 _ => ?_)
  obtain ⟨rfl, rfl, rfl⟩ := h9
  refine dw_istore3 (pc := 4) F dJ0_substring_37a41_4 rfl hk.symm ?_
  refine dw_iload1 (pc := 5) F dJ0_substring_37a41_5 ?_
  refine dw_iload2 (pc := 6) F dJ0_substring_37a41_6 ?_
  refine dw_iload3 (pc := 7) F dJ0_substring_37a41_7 ?_
  refine dw_callSV (as := [_, _, _]) (pc := 8) F dJ0_substring_37a41_8 ml_J0_521 (cdJ_checkBE _ _ _ _ _ _ _ (by omega) (by omega)) (Nat.le_of_ble_eq_true rfl) (by decide) (by omega) (fun L9 s9 h9 hLE9 => ?_)
  obtain ⟨rfl, rfl⟩ := h9
  refine dw_iload1 (pc := 11) F dJ0_substring_37a41_11 ?_
  refine dw_if_ne (tgt := 22) (pc := 12) F dJ0_substring_37a41_12 (by decide) (by unfold inR; omega) (fun c12 => ?_) (fun c12 => ?_)
  · refine dw_iload2 (pc := 22) F dJ0_substring_37a41_22 ?_
    refine dw_iload1 (pc := 23) F dJ0_substring_37a41_23 ?_
    refine dw_isub (pc := 24) F dJ0_substring_37a41_24 ?_
    rw [show x + 1 - x = ((1 : Nat) : Int) by omega]
    refine dw_istore4 (pc := 25) F dJ0_substring_37a41_25 rfl hk.symm ?_
    refine dw_aload0 (pc := 27) F dJ0_substring_37a41_27 ?_
    refine dw_callVI (as := []) (pc := 28) F dJ0_substring_37a41_28 ml_J0_492 (isS_kd hq) (isS_mem hq) (cdJ_isLatin1 _ _ _ _ _ (by assumption) (by assumption)) (Nat.le_of_ble_eq_true rfl) (by decide) (by omega) (fun v9 L9 s9 h9 _ => ?_)
    obtain ⟨rfl, rfl, rfl⟩ := h9
    refine dw_if_eq (tgt := 47) (pc := 31) F dJ0_substring_37a41_31 (by decide) (by unfold inR; omega) (fun c31 => absurd c31 (by decide)) (fun c31 => ?_)
    refine dw_aload0 (pc := 34) F dJ0_substring_37a41_34 ?_
    refine dw_sgetR (pc := 35) F dJ0_substring_37a41_35 fl_J0_9 (by first | assumption | (simp [*]; done)) (by assumption) ?_
    refine dw_iload1 (pc := 38) F dJ0_substring_37a41_38 ?_
    refine dw_iload4 (pc := 39) F dJ0_substring_37a41_39 ?_
    refine dw_callSR (as := [_, _, _]) (pc := 41) F dJ0_substring_37a41_41 ml_J0_685 (cdJ_newString _ _ _ _ _ _ 1 _ hkb hmb (Or.inr (by omega)) (by omega) (by omega) (by omega) hby) (Nat.le_of_ble_eq_true rfl) (by decide) (by omega) (fun r9 L9 s9 h9 hLE9 hin9 => ?_)
    refine dw_goto (tgt := 57) (pc := 44) F dJ0_substring_37a41_44 (by decide) ?_
    exact dw_aret (pc := 57) F dJ0_substring_37a41_57 (Or.inl ⟨_, rfl⟩) (by omega) h9
  · refine dw_iload2 (pc := 15) F dJ0_substring_37a41_15 ?_
    refine dw_iload3 (pc := 16) F dJ0_substring_37a41_16 ?_
    refine dw_icmp_ne (tgt := 22) (pc := 17) F dJ0_substring_37a41_17 (by decide) (by unfold inR; omega) (by unfold inR; omega) (fun c17 => ?_) (fun c17 => absurd c17 (by omega))
    refine dw_iload2 (pc := 22) F dJ0_substring_37a41_22 ?_
    refine dw_iload1 (pc := 23) F dJ0_substring_37a41_23 ?_
    refine dw_isub (pc := 24) F dJ0_substring_37a41_24 ?_
    rw [show x + 1 - x = ((1 : Nat) : Int) by omega]
    refine dw_istore4 (pc := 25) F dJ0_substring_37a41_25 rfl hk.symm ?_
    refine dw_aload0 (pc := 27) F dJ0_substring_37a41_27 ?_
    refine dw_callVI (as := []) (pc := 28) F dJ0_substring_37a41_28 ml_J0_492 (isS_kd hq) (isS_mem hq) (cdJ_isLatin1 _ _ _ _ _ (by assumption) (by assumption)) (Nat.le_of_ble_eq_true rfl) (by decide) (by omega) (fun v9 L9 s9 h9 _ => ?_)
    obtain ⟨rfl, rfl, rfl⟩ := h9
    refine dw_if_eq (tgt := 47) (pc := 31) F dJ0_substring_37a41_31 (by decide) (by unfold inR; omega) (fun c31 => absurd c31 (by decide)) (fun c31 => ?_)
    refine dw_aload0 (pc := 34) F dJ0_substring_37a41_34 ?_
    refine dw_sgetR (pc := 35) F dJ0_substring_37a41_35 fl_J0_9 (by first | assumption | (simp [*]; done)) (by assumption) ?_
    refine dw_iload1 (pc := 38) F dJ0_substring_37a41_38 ?_
    refine dw_iload4 (pc := 39) F dJ0_substring_37a41_39 ?_
    refine dw_callSR (as := [_, _, _]) (pc := 41) F dJ0_substring_37a41_41 ml_J0_685 (cdJ_newString _ _ _ _ _ _ 1 _ hkb hmb (Or.inr (by omega)) (by omega) (by omega) (by omega) hby) (Nat.le_of_ble_eq_true rfl) (by decide) (by omega) (fun r9 L9 s9 h9 hLE9 hin9 => ?_)
    refine dw_goto (tgt := 57) (pc := 44) F dJ0_substring_37a41_44 (by decide) ?_
    exact dw_aret (pc := 57) F dJ0_substring_37a41_57 (Or.inl ⟨_, rfl⟩) (by omega) h9
