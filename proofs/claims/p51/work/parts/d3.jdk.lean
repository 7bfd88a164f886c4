/-! d3: the JDK's own methods on texts: what asks -/
abbrev isS (L : List Id4) (q : Id4) : Prop := (q ∈ L ∧ kd q = .inl 10) ∨ sK q
def PUd (L : List Id4) (σ : Hp) (e : Int) : Int → List Id4 → Hp → Prop := fun v L' σ' => v = e ∧ L' = L ∧ σ' = σ
def PVd (L : List Id4) (σ : Hp) : List Id4 → Hp → Prop := fun L' σ' => L' = L ∧ σ' = σ
theorem bShr0 {x : Int} (h : inR x) : bShr x 0 = x := by
  unfold bShr
  rw [show (Int32.ofInt 0 : Int32) = 0 from rfl, sb_shr0, oi_inR h]
theorem bShl0 {x : Int} (h : inR x) : bShl x 0 = x := by
  unfold bShl
  rw [show (Int32.ofInt 0 : Int32) = 0 from rfl, sb_shl0, oi_inR h]
theorem bAnd255 {x : Int} (h : 0 ≤ x ∧ x ≤ 127) : bAnd x 255 = x := by
  obtain ⟨n, rfl⟩ : ∃ n : Nat, x = (n : Int) := ⟨x.toNat, by omega⟩
  have key : ∀ n : Nat, n < 128 → bAnd (n : Int) 255 = n := by decide +kernel
  exact key n (by omega)
theorem nar_ascii {v : Int} (h : 0 ≤ v ∧ v < 65536) : narrow .char (.int (Int32.ofInt v)) = .int (Int32.ofInt v) := congrArg Value.int (oi_char h.1 h.2)
theorem isS_mem {L : List Id4} {q : Id4} (h : isS L q) : q ∈ L ∨ ((10 : Nat) = 10 ∧ sK q) := h.imp And.left (fun z => ⟨rfl, z⟩)
theorem isS_kd {L : List Id4} {q : Id4} (h : isS L q) : kd q = .inl 10 := by
  rcases h with h | ⟨i, -, rfl⟩
  · exact h.2
  · rfl
set_option maxRecDepth 100000 in
theorem cdJ_coder (sx : Sx) (L : List Id4) (M : Id4 → Int → Int) (Rf : Id4 → Int → Option Id4) (q : Id4) (hq : isS L q) (hc : M q 1 = 0) : CdI sx 1 0 yJ0_coder_7d493 cJ0_coder_7d493 1 (some .byte) [aR q] L (M, Rf) (PUd L (M, Rf) 0) := by
  refine CdI.mk (by decide +kernel) rfl (Nat.le_of_ble_eq_true rfl) (fun X G ρ F hk hsx => ?_)
  subst hsx
  refine dw_comp (pc := 0) F dJ0_coder_7d493_0 gs_J0_38 ?_
  refine dw_if_eq (tgt := 13) (pc := 3) F dJ0_coder_7d493_3 (by decide) (by unfold inR; omega) (fun c9 => absurd c9 (by decide)) (fun _ => ?_)
  refine dw_aload0 (pc := 6) F dJ0_coder_7d493_6 ?_
  refine dw_sgetI (pc := 7) F dJ0_coder_7d493_7 fl_J0_15 (by first | assumption | (simp [*]; done)) (by assumption) ?_
  refine dw_goto (tgt := 14) (pc := 10) F dJ0_coder_7d493_10 (by decide) ?_
  exact dw_iret (pc := 14) F dJ0_coder_7d493_14 rfl (by omega) ⟨rfl, rfl, rfl⟩
set_option maxRecDepth 100000 in
theorem cdJ_isLatin1 (sx : Sx) (L : List Id4) (M : Id4 → Int → Int) (Rf : Id4 → Int → Option Id4) (q : Id4) (hq : isS L q) (hc : M q 1 = 0) : CdI sx 1 0 yJ0_isLatin1_aae02 cJ0_isLatin1_aae02 1 (some .boolean) [aR q] L (M, Rf) (PUd L (M, Rf) 1) := by
  refine CdI.mk (by decide +kernel) rfl (Nat.le_of_ble_eq_true rfl) (fun X G ρ F hk hsx => ?_)
  subst hsx
  refine dw_comp (pc := 0) F dJ0_isLatin1_aae02_0 gs_J0_38 ?_
  refine dw_if_eq (tgt := 17) (pc := 3) F dJ0_isLatin1_aae02_3 (by decide) (by unfold inR; omega) (fun c9 => absurd c9 (by decide)) (fun _ => ?_)
  refine dw_aload0 (pc := 6) F dJ0_isLatin1_aae02_6 ?_
  refine dw_sgetI (pc := 7) F dJ0_isLatin1_aae02_7 fl_J0_15 (by first | assumption | (simp [*]; done)) (by assumption) ?_
  refine dw_if_ne (tgt := 17) (pc := 10) F dJ0_isLatin1_aae02_10 (by decide) (by unfold inR; omega) (fun c10 => absurd c10 (fun z => z rfl)) (fun c10 => ?_)
  refine dw_iconst (pc := 13) F dJ0_isLatin1_aae02_13 ?_
  refine dw_goto (tgt := 18) (pc := 14) F dJ0_isLatin1_aae02_14 (by decide) ?_
  exact dw_iret (pc := 18) F dJ0_isLatin1_aae02_18 (nar_bool (by first | exact b2i_01 | decide | omega)) (by omega) ⟨rfl, rfl, rfl⟩
set_option maxRecDepth 100000 in
theorem cdJ_length (sx : Sx) (L : List Id4) (M : Id4 → Int → Int) (Rf : Id4 → Int → Option Id4) (q bq : Id4) (n : Nat) (hq : isS L q) (hc : M q 1 = 0) (hv : Rf q 0 = some bq) (hkb : kd bq = .inr (1, n)) (hmb : bq ∈ L ∨ bK bq) (hn : n ≤ 3072) : CdI sx 2 0 yJ0_length_8abf5 cJ0_length_8abf5 1 (some .int) [aR q] L (M, Rf) (PUd L (M, Rf) n) := by
  refine CdI.mk (by decide +kernel) rfl (Nat.le_of_ble_eq_true rfl) (fun X G ρ F hk hsx => ?_)
  subst hsx
  refine dw_aload0 (pc := 0) F dJ0_length_8abf5_0 ?_
  refine dw_sgetR (pc := 1) F dJ0_length_8abf5_1 fl_J0_9 (by first | assumption | (simp [*]; done)) (by assumption) ?_
  refine dw_balen (pc := 4) F dJ0_length_8abf5_4 (by first | assumption | rfl) (by first | assumption | (simp [*]; done)) rfl ?_
  refine dw_aload0 (pc := 5) F dJ0_length_8abf5_5 ?_
  refine dw_callVI (as := []) (pc := 6) F dJ0_length_8abf5_6 ml_J0_335 (isS_kd hq) (isS_mem hq) (cdJ_coder _ _ _ _ _ (by assumption) (by assumption)) (Nat.le_of_ble_eq_true rfl) (by decide) (by omega) (fun v9 L9 s9 h9 _ => ?_)
  obtain ⟨rfl, rfl, rfl⟩ := h9
  refine dw_ishr (pc := 9) F dJ0_length_8abf5_9 ?_
  exact dw_iret (pc := 10) F dJ0_length_8abf5_10 rfl (by omega) ⟨bShr0 (by unfold inR; omega), rfl, rfl⟩
set_option maxRecDepth 100000 in
theorem cdJ_pcheck (sx : Sx) (L : List Id4) (σ : Hp) (x y : Int) (o : Option Id4) (h : 0 ≤ x ∧ x < y) (h2 : y ≤ 100000) : CdI sx 1 0 yJ3_checkIndex_8e157 cJ3_checkIndex_8e157 3 (some .int) [aI x, aI y, .inr (.inl o)] L σ (PUd L σ x) := by
  obtain ⟨M, Rf⟩ := σ
  refine CdI.mk (by decide +kernel) rfl (Nat.le_of_ble_eq_true rfl) (fun X G ρ F hk hsx => ?_)
  subst hsx
  refine dw_iload0 (pc := 0) F dJ3_checkIndex_8e157_0 ?_
  refine dw_if_lt (tgt := 9) (pc := 1) F dJ3_checkIndex_8e157_1 (by decide) (by unfold inR; omega) (fun c1 => absurd c1 (by omega)) (fun c1 => ?_)
  refine dw_iload0 (pc := 4) F dJ3_checkIndex_8e157_4 ?_
  refine dw_iload1 (pc := 5) F dJ3_checkIndex_8e157_5 ?_
  refine dw_icmp_lt (tgt := 16) (pc := 6) F dJ3_checkIndex_8e157_6 (by decide) (by unfold inR; omega) (by unfold inR; omega) (fun c6 => ?_) (fun c6 => absurd c6 (by omega))
  refine dw_iload0 (pc := 16) F dJ3_checkIndex_8e157_16 ?_
  exact dw_iret (pc := 17) F dJ3_checkIndex_8e157_17 rfl (by omega) ⟨rfl, rfl, rfl⟩
set_option maxRecDepth 100000 in
theorem cdJ_check (sx : Sx) (L : List Id4) (M : Id4 → Int → Int) (Rf : Id4 → Int → Option Id4) (x y : Int) (h : 0 ≤ x ∧ x < y) (h2 : y ≤ 100000) : CdV sx 2 0 yJ0_checkIndex_df160 cJ0_checkIndex_df160 2 none [aI x, aI y] L (M, Rf) (PVd L (M, Rf)) := by
  refine CdV.mk (by decide +kernel) rfl (Nat.le_of_ble_eq_true rfl) (fun X G ρ F hk hsx => ?_)
  subst hsx
  refine dw_iload0 (pc := 0) F dJ0_checkIndex_df160_0 ?_
  refine dw_iload1 (pc := 1) F dJ0_checkIndex_df160_1 ?_
  refine dw_fmt (pc := 2) F dJ0_checkIndex_df160_2 gs_J0_1053 (fun o9 ho9 => ?_)
  refine dw_callSI (as := [_, _, _]) (pc := 5) F dJ0_checkIndex_df160_5 ml_J0_1059 (cdJ_pcheck _ _ _ _ _ _ (by omega) (by omega)) (Nat.le_of_ble_eq_true rfl) (by decide) (by omega) (fun v9 L9 s9 h9 _ => ?_)
  obtain ⟨rfl, rfl, rfl⟩ := h9
  refine dw_popI (pc := 8) F dJ0_checkIndex_df160_8 ?_
  exact dw_vret (pc := 9) F dJ0_checkIndex_df160_9 (by omega) ⟨rfl, rfl⟩
set_option maxRecDepth 100000 in
theorem cdJ_charAt1 (sx : Sx) (L : List Id4) (M : Id4 → Int → Int) (Rf : Id4 → Int → Option Id4) (bq : Id4) (n : Nat) (i : Int) (hkb : kd bq = .inr (1, n)) (hmb : bq ∈ L ∨ bK bq) (hn : n ≤ 3072) (hi : 0 ≤ i ∧ i < n) (hby : 0 ≤ M bq i ∧ M bq i ≤ 127) : CdI sx 3 0 yJ1_charAt_3b067 cJ1_charAt_3b067 2 (some .char) [aR bq, aI i] L (M, Rf) (PUd L (M, Rf) (M bq i)) := by
  refine CdI.mk (by decide +kernel) rfl (Nat.le_of_ble_eq_true rfl) (fun X G ρ F hk hsx => ?_)
  subst hsx
  refine dw_iload1 (pc := 0) F dJ1_charAt_3b067_0 ?_
  refine dw_aload0 (pc := 1) F dJ1_charAt_3b067_1 ?_
  refine dw_balen (pc := 2) F dJ1_charAt_3b067_2 (by first | assumption | rfl) (by first | assumption | (simp [*]; done)) rfl ?_
  refine dw_callSV (as := [_, _]) (pc := 3) F dJ1_charAt_3b067_3 ml_J1_9 (cdJ_check _ _ _ _ _ _ (by omega) (by omega)) (Nat.le_of_ble_eq_true rfl) (by decide) (by omega) (fun L9 s9 h9 _ => ?_)
  obtain ⟨rfl, rfl⟩ := h9
  refine dw_aload0 (pc := 6) F dJ1_charAt_3b067_6 ?_
  refine dw_iload1 (pc := 7) F dJ1_charAt_3b067_7 ?_
  refine dw_sbald (pc := 8) F dJ1_charAt_3b067_8 hkb hmb hn hi ?_
  refine dw_sipush (pc := 9) F dJ1_charAt_3b067_9 (by decide) ?_
  refine dw_iand (pc := 12) F dJ1_charAt_3b067_12 ?_
  rw [bAnd255 hby]
  refine dw_i2c (pc := 13) F dJ1_charAt_3b067_13 (by omega) (by omega) ?_
  exact dw_iret (pc := 14) F dJ1_charAt_3b067_14 (nar_ascii (by omega)) (by omega) ⟨rfl, rfl, rfl⟩
set_option maxRecDepth 100000 in
theorem cdJ_charAt (sx : Sx) (L : List Id4) (M : Id4 → Int → Int) (Rf : Id4 → Int → Option Id4) (q bq : Id4) (n : Nat) (i : Int) (hq : isS L q) (hc : M q 1 = 0) (hv : Rf q 0 = some bq) (hkb : kd bq = .inr (1, n)) (hmb : bq ∈ L ∨ bK bq) (hn : n ≤ 3072) (hi : 0 ≤ i ∧ i < n) (hby : 0 ≤ M bq i ∧ M bq i ≤ 127) : CdI sx 4 0 yJ0_charAt_5068e cJ0_charAt_5068e 2 (some .char) [aR q, aI i] L (M, Rf) (PUd L (M, Rf) (M bq i)) := by
  refine CdI.mk (by decide +kernel) rfl (Nat.le_of_ble_eq_true rfl) (fun X G ρ F hk hsx => ?_)
  subst hsx
  refine dw_aload0 (pc := 0) F dJ0_charAt_5068e_0 ?_
  refine dw_callVI (as := []) (pc := 1) F dJ0_charAt_5068e_1 ml_J0_492 (isS_kd hq) (isS_mem hq) (cdJ_isLatin1 _ _ _ _ _ (by assumption) (by assumption)) (Nat.le_of_ble_eq_true rfl) (by decide) (by omega) (fun v9 L9 s9 h9 _ => ?_)
  obtain ⟨rfl, rfl, rfl⟩ := h9
  refine dw_if_eq (tgt := 16) (pc := 4) F dJ0_charAt_5068e_4 (by decide) (by unfold inR; omega) (fun c4 => absurd c4 (by decide)) (fun c4 => ?_)
  refine dw_aload0 (pc := 7) F dJ0_charAt_5068e_7 ?_
  refine dw_sgetR (pc := 8) F dJ0_charAt_5068e_8 fl_J0_9 (by first | assumption | (simp [*]; done)) (by assumption) ?_
  refine dw_iload1 (pc := 11) F dJ0_charAt_5068e_11 ?_
  refine dw_callSI (as := [_, _]) (pc := 12) F dJ0_charAt_5068e_12 ml_J0_495 (cdJ_charAt1 _ _ _ _ _ _ _ (by assumption) (by assumption) (by assumption) (by assumption) (by assumption)) (Nat.le_of_ble_eq_true rfl) (by decide) (by omega) (fun v9 L9 s9 h9 _ => ?_)
  obtain ⟨rfl, rfl, rfl⟩ := h9
  exact dw_iret (pc := 15) F dJ0_charAt_5068e_15 (nar_ascii (by omega)) (by omega) ⟨rfl, rfl, rfl⟩
set_option maxRecDepth 100000 in
theorem cdJ_max (sx : Sx) (L : List Id4) (M : Id4 → Int → Int) (Rf : Id4 → Int → Option Id4) (x y : Int) (h : inR x) (h2 : inR y) : CdI sx 1 0 yJ9_max_7cf53 cJ9_max_7cf53 2 (some .int) [aI x, aI y] L (M, Rf) (PUd L (M, Rf) (max x y)) := by
  refine CdI.mk (by decide +kernel) rfl (Nat.le_of_ble_eq_true rfl) (fun X G ρ F hk hsx => ?_)
  subst hsx
  refine dw_iload0 (pc := 0) F dJ9_max_7cf53_0 ?_
  refine dw_iload1 (pc := 1) F dJ9_max_7cf53_1 ?_
  refine dw_icmp_lt (tgt := 9) (pc := 2) F dJ9_max_7cf53_2 (by decide) (by assumption) (by assumption) (fun c2 => ?_) (fun c2 => ?_)
  · refine dw_iload1 (pc := 9) F dJ9_max_7cf53_9 ?_
    exact dw_iret (pc := 10) F dJ9_max_7cf53_10 rfl (by omega) ⟨by omega, rfl, rfl⟩
  · refine dw_iload0 (pc := 5) F dJ9_max_7cf53_5 ?_
    refine dw_goto (tgt := 10) (pc := 6) F dJ9_max_7cf53_6 (by decide) ?_
    exact dw_iret (pc := 10) F dJ9_max_7cf53_10 rfl (by omega) ⟨by omega, rfl, rfl⟩
set_option maxRecDepth 100000 in
theorem cdJ_min (sx : Sx) (L : List Id4) (M : Id4 → Int → Int) (Rf : Id4 → Int → Option Id4) (x y : Int) (h : inR x) (h2 : inR y) : CdI sx 1 0 yJ9_min_7cf53 cJ9_min_7cf53 2 (some .int) [aI x, aI y] L (M, Rf) (PUd L (M, Rf) (min x y)) := by
  refine CdI.mk (by decide +kernel) rfl (Nat.le_of_ble_eq_true rfl) (fun X G ρ F hk hsx => ?_)
  subst hsx
  refine dw_iload0 (pc := 0) F dJ9_min_7cf53_0 ?_
  refine dw_iload1 (pc := 1) F dJ9_min_7cf53_1 ?_
  refine dw_icmp_gt (tgt := 9) (pc := 2) F dJ9_min_7cf53_2 (by decide) (by assumption) (by assumption) (fun c2 => ?_) (fun c2 => ?_)
  · refine dw_iload1 (pc := 9) F dJ9_min_7cf53_9 ?_
    exact dw_iret (pc := 10) F dJ9_min_7cf53_10 rfl (by omega) ⟨by omega, rfl, rfl⟩
  · refine dw_iload0 (pc := 5) F dJ9_min_7cf53_5 ?_
    refine dw_goto (tgt := 10) (pc := 6) F dJ9_min_7cf53_6 (by decide) ?_
    exact dw_iret (pc := 10) F dJ9_min_7cf53_10 rfl (by omega) ⟨by omega, rfl, rfl⟩
set_option maxRecDepth 100000 in
theorem cdJ_newLength (sx : Sx) (L : List Id4) (M : Id4 → Int → Int) (Rf : Id4 → Int → Option Id4) (x y z : Int) (h : 0 ≤ x ∧ x ≤ 10000) (h2 : 0 < y ∧ y ≤ 10000) (h3 : 0 ≤ z ∧ z ≤ 20000) : CdI sx 2 0 yJ8_newLength_cabcc cJ8_newLength_cabcc 4 (some .int) [aI x, aI y, aI z] L (M, Rf) (PUd L (M, Rf) (x + max y z)) := by
  refine CdI.mk (by decide +kernel) rfl (Nat.le_of_ble_eq_true rfl) (fun X G ρ F hk hsx => ?_)
  subst hsx
  refine dw_iload0 (pc := 0) F dJ8_newLength_cabcc_0 ?_
  refine dw_iload1 (pc := 1) F dJ8_newLength_cabcc_1 ?_
  refine dw_iload2 (pc := 2) F dJ8_newLength_cabcc_2 ?_
  refine dw_callSI (as := [_, _]) (pc := 3) F dJ8_newLength_cabcc_3 ml_J8_194 (cdJ_max _ _ _ _ _ _ (by unfold inR; omega) (by unfold inR; omega)) (Nat.le_of_ble_eq_true rfl) (by decide) (by omega) (fun v9 L9 s9 h9 _ => ?_)
  obtain ⟨rfl, rfl, rfl⟩ := h9
  refine dw_iadd (pc := 6) F dJ8_newLength_cabcc_6 ?_
  refine dw_istore3 (pc := 7) F dJ8_newLength_cabcc_7 rfl hk.symm ?_
  refine dw_iconst (pc := 8) F dJ8_newLength_cabcc_8 ?_
  refine dw_iload3 (pc := 9) F dJ8_newLength_cabcc_9 ?_
  refine dw_icmp_ge (tgt := 21) (pc := 10) F dJ8_newLength_cabcc_10 (by decide) (by unfold inR; omega) (by unfold inR; omega) (fun c10 => absurd c10 (by omega)) (fun c10 => ?_)
  refine dw_iload3 (pc := 13) F dJ8_newLength_cabcc_13 ?_
  refine dw_ldc (pc := 14) F dJ8_newLength_cabcc_14 kc_J8_200 ?_
  refine dw_icmp_gt (tgt := 21) (pc := 16) F dJ8_newLength_cabcc_16 (by decide) (by unfold inR; omega) (by unfold inR; omega) (fun c16 => absurd c16 (by omega)) (fun c16 => ?_)
  refine dw_iload3 (pc := 19) F dJ8_newLength_cabcc_19 ?_
  exact dw_iret (pc := 20) F dJ8_newLength_cabcc_20 rfl (by omega) ⟨rfl, rfl, rfl⟩
set_option maxRecDepth 100000 in
theorem cdJ_newCapacity (sx : Sx) (L : List Id4) (M : Id4 → Int → Int) (Rf : Id4 → Int → Option Id4) (q bq : Id4) (m : Nat) (c : Int) (hm : q ∈ L) (hkq : kd q = .inl 11) (hc : M q 1 = 0) (hv : Rf q 0 = some bq) (hkb : kd bq = .inr (1, m)) (hmb : bq ∈ L) (hm9 : m ≤ 3072) (hcc : (m : Int) < c ∧ c ≤ 3072) : CdI sx 3 0 yJ5_newCapacity_0f7a4 cJ5_newCapacity_0f7a4 6 (some .int) [aR q, aI c] L (M, Rf) (PUd L (M, Rf) (m + max (c - m) (m + 2))) := by
  have hmb2 : bq ∈ L ∨ bK bq := Or.inl hmb
  refine CdI.mk (by decide +kernel) rfl (Nat.le_of_ble_eq_true rfl) (fun X G ρ F hk hsx => ?_)
  subst hsx
  refine dw_aload0 (pc := 0) F dJ5_newCapacity_0f7a4_0 ?_
  refine dw_getR (pc := 1) F dJ5_newCapacity_0f7a4_1 fl_J5_15 (by first | assumption | rfl) (by first | assumption | (simp [*]; done)) rfl nz0 (by assumption) ?_
  refine dw_balen (pc := 4) F dJ5_newCapacity_0f7a4_4 (by first | assumption | rfl) (by first | assumption | (simp [*]; done)) rfl ?_
  refine dw_istore2 (pc := 5) F dJ5_newCapacity_0f7a4_5 rfl hk.symm ?_
  refine dw_iload1 (pc := 6) F dJ5_newCapacity_0f7a4_6 ?_
  refine dw_aload0 (pc := 7) F dJ5_newCapacity_0f7a4_7 ?_
  refine dw_getI (pc := 8) F dJ5_newCapacity_0f7a4_8 fl_J5_22 (by first | assumption | rfl) (by first | assumption | (simp [*]; done)) rfl nz1 ?_
  rw [hc]
  refine dw_ishl (pc := 11) F dJ5_newCapacity_0f7a4_11 ?_
  rw [bShl0 (x := c) (by unfold inR; omega)]
  refine dw_istore3 (pc := 12) F dJ5_newCapacity_0f7a4_12 rfl hk.symm ?_
  refine dw_iload3 (pc := 13) F dJ5_newCapacity_0f7a4_13 ?_
  refine dw_iload2 (pc := 14) F dJ5_newCapacity_0f7a4_14 ?_
  refine dw_isub (pc := 15) F dJ5_newCapacity_0f7a4_15 ?_
  refine dw_istore4 (pc := 16) F dJ5_newCapacity_0f7a4_16 rfl hk.symm ?_
  refine dw_iload2 (pc := 18) F dJ5_newCapacity_0f7a4_18 ?_
  refine dw_iload4 (pc := 19) F dJ5_newCapacity_0f7a4_19 ?_
  refine dw_iload2 (pc := 21) F dJ5_newCapacity_0f7a4_21 ?_
  refine dw_iconst (pc := 22) F dJ5_newCapacity_0f7a4_22 ?_
  refine dw_aload0 (pc := 23) F dJ5_newCapacity_0f7a4_23 ?_
  refine dw_getI (pc := 24) F dJ5_newCapacity_0f7a4_24 fl_J5_22 (by first | assumption | rfl) (by first | assumption | (simp [*]; done)) rfl nz1 ?_
  rw [hc]
  refine dw_ishl (pc := 27) F dJ5_newCapacity_0f7a4_27 ?_
  rw [bShl0 (x := 2) (by unfold inR; omega)]
  refine dw_iadd (pc := 28) F dJ5_newCapacity_0f7a4_28 ?_
  refine dw_callSI (as := [_, _, _]) (pc := 29) F dJ5_newCapacity_0f7a4_29 ml_J5_114 (cdJ_newLength _ _ _ _ _ _ _ (by omega) (by omega) (by omega)) (Nat.le_of_ble_eq_true rfl) (by decide) (by omega) (fun v9 L9 s9 h9 _ => ?_)
  obtain ⟨rfl, rfl, rfl⟩ := h9
  refine dw_istore5 (pc := 32) F dJ5_newCapacity_0f7a4_32 rfl hk.symm ?_
  refine dw_iload5 (pc := 34) F dJ5_newCapacity_0f7a4_34 ?_
  refine dw_ldc (pc := 36) F dJ5_newCapacity_0f7a4_36 kc_J5_39 ?_
  refine dw_icmp_ne (tgt := 51) (pc := 38) F dJ5_newCapacity_0f7a4_38 (by decide) (by unfold inR; omega) (by unfold inR; omega) (fun c38 => ?_) (fun c38 => absurd c38 (by omega))
  refine dw_iload5 (pc := 51) F dJ5_newCapacity_0f7a4_51 ?_
  refine dw_aload0 (pc := 53) F dJ5_newCapacity_0f7a4_53 ?_
  refine dw_getI (pc := 54) F dJ5_newCapacity_0f7a4_54 fl_J5_22 (by first | assumption | rfl) (by first | assumption | (simp [*]; done)) rfl nz1 ?_
  rw [hc]
  refine dw_ishr (pc := 57) F dJ5_newCapacity_0f7a4_57 ?_
  rw [bShr0 (by unfold inR; omega)]
  exact dw_iret (pc := 58) F dJ5_newCapacity_0f7a4_58 rfl (by omega) ⟨rfl, rfl, rfl⟩
