/-! d4: a StringBuilder -/
/-- what stays: all that there was, but X -/
def KP (L : List Id4) (X : Id4 → Prop) (σ σ' : Hp) : Prop := ∀ x, inK L x → ¬ X x → σ'.1 x = σ.1 x ∧ σ'.2 x = σ.2 x
theorem KP.rf {L : List Id4} {X : Id4 → Prop} {σ : Hp} : KP L X σ σ := fun _ _ _ => ⟨rfl, rfl⟩
theorem KP.tr {L L1 : List Id4} {X Y : Id4 → Prop} {σ σ1 σ2 : Hp} (hL : LE L L1) (hXY : ∀ x, inK L x → Y x → X x) (h1 : KP L X σ σ1) (h2 : KP L1 Y σ1 σ2) : KP L X σ σ2 := fun x hx hn => by
  obtain ⟨a, b⟩ := h1 x hx hn
  obtain ⟨c, d⟩ := h2 x (hx.le hL) (fun z => hn (hXY x hx z))
  exact ⟨c.trans a, d.trans b⟩
theorem KP.wk {L : List Id4} {X Y : Id4 → Prop} {σ σ' : Hp} (h : KP L X σ σ') (hXY : ∀ x, inK L x → X x → Y x) : KP L Y σ σ' := fun x hx hn => h x hx (fun z => hn (hXY x hx z))
theorem inK_ne {L : List Id4} {x q : Id4} (hx : inK L x) (hq : q ∉ L) (h9 : q.1 < 20) : x ≠ q := fun z => by
  rcases hx with h | h
  · exact hq (z ▸ h)
  · rw [z] at h; omega
abbrev byt (M : Id4 → Int → Int) (bq : Id4) (n : Nat) : Prop := ∀ j : Int, 0 ≤ j → j < n → 0 ≤ M bq j ∧ M bq j ≤ 127
theorem byt8 {M : Id4 → Int → Int} {bq : Id4} {n : Nat} (h : byt M bq n) : ∀ j : Int, 0 ≤ j → j < n → -128 ≤ M bq j ∧ M bq j ≤ 127 := fun j h0 h1 => by
  have := h j h0 h1
  omega
theorem zM_ne {M : Id4 → Int → Int} {q x : Id4} (h : x ≠ q) : zM M q x = M x := if_neg h
theorem zM_same {M : Id4 → Int → Int} {q : Id4} {k : Int} : zM M q q k = 0 := congrFun (if_pos rfl) k
theorem zR_ne {R : Id4 → Int → Option Id4} {q x : Id4} (h : x ≠ q) : zR R q x = R x := if_neg h
theorem ne_of {L : List Id4} {x q : Id4} (hx : x ∈ L) (hq : q ∉ L) : x ≠ q := fun z => hq (z ▸ hx)
theorem updR_ne {R : Id4 → Int → Option Id4} {q x : Id4} {k : Int} {v : Option Id4} (h : x ≠ q) : updR R q k v x = R x := funext fun k' => if_neg (fun z => h z.1)
theorem updM_ne {M : Id4 → Int → Int} {q x : Id4} {k v : Int} (h : x ≠ q) : updM M q k v x = M x := funext fun k' => if_neg (fun z => h z.1)
theorem updR_at {R : Id4 → Int → Option Id4} {q : Id4} {k : Int} {v : Option Id4} : updR R q k v q k = v := if_pos ⟨rfl, rfl⟩
theorem cpy_ne {M : Id4 → Int → Int} {q0 q1 x : Id4} {sp dp n : Int} (h : x ≠ q1) : cpyM M q0 sp q1 dp n x = M x := funext fun k => if_neg (fun z => h z.1)
theorem cpy_in {M : Id4 → Int → Int} {q0 q1 : Id4} {sp dp n k : Int} (h : dp ≤ k ∧ k < dp + n) : cpyM M q0 sp q1 dp n q1 k = M q0 (sp + (k - dp)) := if_pos ⟨rfl, h⟩
theorem cpy_out {M : Id4 → Int → Int} {q0 q1 : Id4} {sp dp n k : Int} (h : ¬ (dp ≤ k ∧ k < dp + n)) : cpyM M q0 sp q1 dp n q1 k = M q1 k := if_neg (fun z => h z.2)
/-- the builder q with the bytes bq, m of them, n in use -/
def SBd (L : List Id4) (σ : Hp) (q bq : Id4) (m : Nat) (n : Int) : Prop := q ∈ L ∧ kd q = .inl 11 ∧ σ.1 q 1 = 0 ∧ σ.2 q 0 = some bq ∧ kd bq = .inr (1, m) ∧ bq ∈ L ∧ m ≤ 1000 ∧ σ.1 q 3 = n ∧ (0 ≤ n ∧ n ≤ m) ∧ byt σ.1 bq m
set_option maxRecDepth 100000 in
theorem cdJ_copyOf (sx : Sx) (L : List Id4) (M : Id4 → Int → Int) (Rf : Id4 → Int → Option Id4) (bq : Id4) (n C : Nat) (hkb : kd bq = .inr (1, n)) (hmb : bq ∈ L) (hn : n ≤ 1000) (hC : C ≤ 1000) (hne : n ≠ C) (hby : byt M bq n) : CdR sx 2 16 yJ7_copyOf_9075b cJ7_copyOf_9075b 3 (some (.array .byte)) [aR bq, aI C] L (M, Rf) (fun r L' σ' => r = (13, (L.length : Int), C, 0) ∧ L' = L ++ [(13, (L.length : Int), C, 0)] ∧ (13, (L.length : Int), C, 0) ∉ L ∧ σ' = (cpyM (zM M (13, (L.length : Int), C, 0)) bq 0 (13, (L.length : Int), C, 0) 0 (min n C), zR Rf (13, (L.length : Int), C, 0))) := by
  have hmb2 : bq ∈ L ∨ bK bq := Or.inl hmb
  refine CdR.mk (by decide +kernel) rfl (Nat.le_of_ble_eq_true rfl) (fun X G ρ F hk hsx => ?_)
  subst hsx
  refine dw_DI F (fun hI _ _ _ => ?_)
  have hfr : (13, (L.length : Int), C, 0) ∉ L := hI.fresh (by decide)
  have hmb3 : bq ∈ L ++ [(13, (L.length : Int), C, 0)] ∨ bK bq := Or.inl (List.mem_append_left _ hmb)
  have hb9 : zM M (13, (L.length : Int), C, 0) bq = M bq := zM_ne (ne_of hmb hfr)
  refine dw_iload1 (pc := 0) F dJ7_copyOf_9075b_0 ?_
  refine dw_aload0 (pc := 1) F dJ7_copyOf_9075b_1 ?_
  refine dw_balen (pc := 2) F dJ7_copyOf_9075b_2 (by first | assumption | rfl) (by first | assumption | (simp [*]; done)) rfl ?_
  refine dw_icmp_ne (tgt := 14) (pc := 3) F dJ7_copyOf_9075b_3 (by decide) (by unfold inR; omega) (by unfold inR; omega) (fun c3 => ?_) (fun c3 => absurd c3 (by omega))
  refine dw_iload1 (pc := 14) F dJ7_copyOf_9075b_14 ?_
  refine dw_newB (N := C) (w := 16) (pc := 15) F dJ7_copyOf_9075b_15 ac_1 rfl (by omega) (by omega) (by omega) ?_
  refine dw_astore2 (pc := 17) F dJ7_copyOf_9075b_17 rfl hk.symm ?_
  refine dw_aload0 (pc := 18) F dJ7_copyOf_9075b_18 ?_
  refine dw_iconst (pc := 19) F dJ7_copyOf_9075b_19 ?_
  refine dw_aload2 (pc := 20) F dJ7_copyOf_9075b_20 ?_
  refine dw_iconst (pc := 21) F dJ7_copyOf_9075b_21 ?_
  refine dw_aload0 (pc := 22) F dJ7_copyOf_9075b_22 ?_
  refine dw_balen (pc := 23) F dJ7_copyOf_9075b_23 (by first | assumption | rfl) (by first | assumption | (simp [*]; done)) rfl ?_
  refine dw_iload1 (pc := 24) F dJ7_copyOf_9075b_24 ?_
  refine dw_callSI (as := [_, _]) (pc := 25) F dJ7_copyOf_9075b_25 ml_J7_304 (cdJ_min _ _ _ _ _ _ (by unfold inR; omega) (by unfold inR; omega)) (Nat.le_of_ble_eq_true rfl) (by decide) (by omega) (fun v9 L9 s9 h9 _ => ?_)
  obtain ⟨rfl, rfl, rfl⟩ := h9
  refine dw_copyB (pc := 28) F dJ7_copyOf_9075b_28 mc_J7_150 hkb (show kd (13, (L.length : Int), C, 0) = .inr (1, C) from rfl) hmb3 (by simp) (by omega) (by omega) (by omega) (by omega) (by omega) (by rw [hb9]; exact byt8 hby) (Nat.le_of_ble_eq_true rfl) (by decide) ?_
  refine dw_aload2 (pc := 31) F dJ7_copyOf_9075b_31 ?_
  exact dw_aret (pc := 32) F dJ7_copyOf_9075b_32 (Or.inr ⟨_, rfl⟩) (by omega) ⟨rfl, rfl, hfr, by rw [Int.min_comm]⟩
theorem ens_cpy {L : List Id4} {M : Id4 → Int → Int} {bq q1 : Id4} {n C : Nat} {j : Int} (hfr : q1 ∉ L) (hmb : bq ∈ L) (hC : n ≤ C) (h0 : 0 ≤ j) (h1 : j < n) : cpyM (zM M q1) bq 0 q1 0 (min n C) q1 j = M bq j := by
  rw [cpy_in (by omega), zM_ne (ne_of hmb hfr), show (0 : Int) + (j - 0) = j by omega]
theorem ens_byt {L : List Id4} {M : Id4 → Int → Int} {bq q1 : Id4} {n C : Nat} (hfr : q1 ∉ L) (hmb : bq ∈ L) (hby : byt M bq n) (hC : n ≤ C) (j : Int) (h0 : 0 ≤ j) (h1 : j < C) : 0 ≤ cpyM (zM M q1) bq 0 q1 0 (min n C) q1 j ∧ cpyM (zM M q1) bq 0 q1 0 (min n C) q1 j ≤ 127 := by
  by_cases z : j < n
  · rw [ens_cpy hfr hmb hC h0 z]
    exact hby j h0 z
  · rw [cpy_out (by omega), zM_same]
    exact ⟨Int.le_refl 0, by omega⟩
theorem ens_keep {L : List Id4} {M : Id4 → Int → Int} {Rf : Id4 → Int → Option Id4} {q bq : Id4} {i : Int} {C : Nat} {n : Int} {r : Option Id4} {k : Int} (hfr : (13, i, C, k) ∉ L) (hm : q ∈ L) : KP L (fun x => x = q) (M, Rf) (cpyM (zM M (13, i, C, k)) bq 0 (13, i, C, k) 0 n, updR (zR Rf (13, i, C, k)) q 0 r) := fun x hx hn => by
  have hne := inK_ne hx hfr (Nat.le_of_ble_eq_true rfl)
  refine ⟨?_, ?_⟩
  · show cpyM (zM M (13, i, C, k)) bq 0 (13, i, C, k) 0 n x = M x
    rw [cpy_ne hne, zM_ne hne]
  · show updR (zR Rf (13, i, C, k)) q 0 r x = Rf x
    rw [updR_ne hn, zR_ne hne]
set_option maxRecDepth 100000 in
theorem cdJ_ensure (sx : Sx) (L : List Id4) (M : Id4 → Int → Int) (Rf : Id4 → Int → Option Id4) (q bq : Id4) (m : Nat) (n c : Int) (hS : SBd L (M, Rf) q bq m n) (hc9 : 0 ≤ c ∧ c ≤ 400) : CdV sx 4 16 yJ5_ensureCapacityInternal_d00df cJ5_ensureCapacityInternal_d00df 3 none [aR q, aI c] L (M, Rf) (fun L' σ' => ∃ bq' m', SBd L' σ' q bq' m' n ∧ c ≤ m' ∧ (∀ j : Int, 0 ≤ j → j < m → σ'.1 bq' j = M bq j) ∧ KP L (fun x => x = q) (M, Rf) σ' ∧ (bq' = bq ∨ bq' ∉ L)) := by
  obtain ⟨hm, hkq, hc, hv, hkb, hmb, hm9, hn, hn2, hby⟩ := id hS
  have hmb2 : bq ∈ L ∨ bK bq := Or.inl hmb
  have hcM : M q 1 = 0 := hc
  have hvM : Rf q 0 = some bq := hv
  have hbyM : byt M bq m := hby
  refine CdV.mk (by decide +kernel) rfl (Nat.le_of_ble_eq_true rfl) (fun X G ρ F hk hsx => ?_)
  subst hsx
  refine dw_aload0 (pc := 0) F dJ5_ensureCapacityInternal_d00df_0 ?_
  refine dw_getR (pc := 1) F dJ5_ensureCapacityInternal_d00df_1 fl_J5_15 (by first | assumption | rfl) (by first | assumption | (simp [*]; done)) rfl nz0 (by assumption) ?_
  refine dw_balen (pc := 4) F dJ5_ensureCapacityInternal_d00df_4 (by first | assumption | rfl) (by first | assumption | (simp [*]; done)) rfl ?_
  refine dw_aload0 (pc := 5) F dJ5_ensureCapacityInternal_d00df_5 ?_
  refine dw_getI (pc := 6) F dJ5_ensureCapacityInternal_d00df_6 fl_J5_22 (by first | assumption | rfl) (by first | assumption | (simp [*]; done)) rfl nz1 ?_
  rw [hcM]
  refine dw_ishr (pc := 9) F dJ5_ensureCapacityInternal_d00df_9 ?_
  rw [bShr0 (by unfold inR; omega)]
  refine dw_istore2 (pc := 10) F dJ5_ensureCapacityInternal_d00df_10 rfl hk.symm ?_
  refine dw_iload1 (pc := 11) F dJ5_ensureCapacityInternal_d00df_11 ?_
  refine dw_iload2 (pc := 12) F dJ5_ensureCapacityInternal_d00df_12 ?_
  refine dw_isub (pc := 13) F dJ5_ensureCapacityInternal_d00df_13 ?_
  refine dw_if_le (tgt := 38) (pc := 14) F dJ5_ensureCapacityInternal_d00df_14 (by decide) (by unfold inR; omega) (fun c14 => ?_) (fun c14 => ?_)
  · exact dw_vret F dJ5_ensureCapacityInternal_d00df_38 (Nat.zero_le _) ⟨bq, m, hS, by omega, fun _ _ _ => rfl, KP.rf, Or.inl rfl⟩
  · refine dw_aload0 (pc := 17) F dJ5_ensureCapacityInternal_d00df_17 ?_
    refine dw_aload0 (pc := 18) F dJ5_ensureCapacityInternal_d00df_18 ?_
    refine dw_getR (pc := 19) F dJ5_ensureCapacityInternal_d00df_19 fl_J5_15 (by first | assumption | rfl) (by first | assumption | (simp [*]; done)) rfl nz0 (by assumption) ?_
    refine dw_aload0 (pc := 22) F dJ5_ensureCapacityInternal_d00df_22 ?_
    refine dw_iload1 (pc := 23) F dJ5_ensureCapacityInternal_d00df_23 ?_
    refine dw_callUI (as := [_]) (pc := 24) F dJ5_ensureCapacityInternal_d00df_24 ml_J5_104 (by first | assumption | rfl) (by first | assumption | (simp [*]; done)) (cdJ_newCapacity _ _ _ _ _ _ _ _ (by assumption) (by assumption) (by assumption) (by assumption) (by assumption) (by assumption) (by omega) (by omega)) (Nat.le_of_ble_eq_true rfl) (by decide) (by omega) (fun v9 L9 s9 h9 _ => ?_)
    obtain ⟨rfl, rfl, rfl⟩ := h9
    refine dw_aload0 (pc := 27) F dJ5_ensureCapacityInternal_d00df_27 ?_
    refine dw_getI (pc := 28) F dJ5_ensureCapacityInternal_d00df_28 fl_J5_22 (by first | assumption | rfl) (by first | assumption | (simp [*]; done)) rfl nz1 ?_
    rw [hcM]
    refine dw_ishl (pc := 31) F dJ5_ensureCapacityInternal_d00df_31 ?_
    obtain ⟨C, hC9⟩ : ∃ C : Nat, (m : Int) + max (c - m) (m + 2) = (C : Int) := ⟨((m : Int) + max (c - m) (m + 2)).toNat, by omega⟩
    rw [bShl0 (by unfold inR; omega), hC9]
    refine dw_callSR (as := [_, _]) (pc := 32) F dJ5_ensureCapacityInternal_d00df_32 ml_J5_108 (cdJ_copyOf _ _ _ _ _ _ _ (by assumption) (by assumption) (by omega) (by omega) (by omega) (by assumption)) (Nat.le_of_ble_eq_true rfl) (by decide) (by omega) (fun r9 L9 s9 h9 hLE9 hin9 => ?_)
    obtain ⟨rfl, rfl, hfr, rfl⟩ := h9
    refine dw_putR (pc := 35) F dJ5_ensureCapacityInternal_d00df_35 fl_J5_15 pg_11_0 (by first | assumption | rfl) (List.mem_append_left _ hm) rfl nz0 ?_
    exact dw_vret (pc := 38) F dJ5_ensureCapacityInternal_d00df_38 (by omega) ⟨_, C, ⟨List.mem_append_left _ hm, hkq, by show cpyM (zM M _) bq 0 _ 0 _ q 1 = 0; rw [cpy_ne (ne_of hm hfr), zM_ne (ne_of hm hfr)]; exact hcM, if_pos ⟨rfl, rfl⟩, rfl, List.mem_append_right _ List.mem_cons_self, by omega, by show cpyM (zM M _) bq 0 _ 0 _ q 3 = n; rw [cpy_ne (ne_of hm hfr), zM_ne (ne_of hm hfr)]; exact hn, by omega, fun j j0 j1 => ens_byt hfr hmb hbyM (by omega) j j0 j1⟩, by omega, fun j j0 j1 => ens_cpy hfr hmb (by omega) j0 (by omega), ens_keep hfr hm, Or.inr hfr⟩
set_option maxRecDepth 100000 in
theorem cdJ_getBytes (sx : Sx) (L : List Id4) (M : Id4 → Int → Int) (Rf : Id4 → Int → Option Id4) (q sq dq : Id4) (n m : Nat) (k : Int) (hq : isS L q) (hc : M q 1 = 0) (hv : Rf q 0 = some sq) (hks : kd sq = .inr (1, n)) (hms : sq ∈ L ∨ bK sq) (hn : n ≤ 1000) (hby : byt M sq n) (hkd : kd dq = .inr (1, m)) (hmd : dq ∈ L) (hm : m ≤ 1000) (hk0 : 0 ≤ k ∧ k + n ≤ m) : CdV sx 2 0 yJ0_getBytes_840e7 cJ0_getBytes_840e7 4 none [aR q, aR dq, aI k, aI 0] L (M, Rf) (PVd L (cpyM M sq 0 dq k n, Rf)) := by
  refine CdV.mk (by decide +kernel) rfl (Nat.le_of_ble_eq_true rfl) (fun X G ρ F hk hsx => ?_)
  subst hsx
  refine dw_aload0 (pc := 0) F dJ0_getBytes_840e7_0 ?_
  refine dw_callVI (as := []) (pc := 1) F dJ0_getBytes_840e7_1 ml_J0_335 (isS_kd hq) (isS_mem hq) (cdJ_coder _ _ _ _ _ (by assumption) (by assumption)) (Nat.le_of_ble_eq_true rfl) (by decide) (by omega) (fun v9 L9 s9 h9 _ => ?_)
  obtain ⟨rfl, rfl, rfl⟩ := h9
  refine dw_iload3 (pc := 4) F dJ0_getBytes_840e7_4 ?_
  refine dw_icmp_ne (tgt := 28) (pc := 5) F dJ0_getBytes_840e7_5 (by decide) (by unfold inR; omega) (by unfold inR; omega) (fun c5 => absurd c5 (fun z => z rfl)) (fun c5 => ?_)
  refine dw_aload0 (pc := 8) F dJ0_getBytes_840e7_8 ?_
  refine dw_sgetR (pc := 9) F dJ0_getBytes_840e7_9 fl_J0_9 (by first | assumption | (simp [*]; done)) (by assumption) ?_
  refine dw_iconst (pc := 12) F dJ0_getBytes_840e7_12 ?_
  refine dw_aload1 (pc := 13) F dJ0_getBytes_840e7_13 ?_
  refine dw_iload2 (pc := 14) F dJ0_getBytes_840e7_14 ?_
  refine dw_iload3 (pc := 15) F dJ0_getBytes_840e7_15 ?_
  refine dw_ishl (pc := 16) F dJ0_getBytes_840e7_16 ?_
  rw [bShl0 (x := k) (by unfold inR; omega)]
  refine dw_aload0 (pc := 17) F dJ0_getBytes_840e7_17 ?_
  refine dw_sgetR (pc := 18) F dJ0_getBytes_840e7_18 fl_J0_9 (by first | assumption | (simp [*]; done)) (by assumption) ?_
  refine dw_balen (pc := 21) F dJ0_getBytes_840e7_21 (by first | assumption | rfl) (by first | assumption | (simp [*]; done)) rfl ?_
  refine dw_copyB (pc := 22) F dJ0_getBytes_840e7_22 mc_J0_212 hks hkd hms hmd (by omega) (by omega) (by omega) (by omega) (by omega) (byt8 hby) (Nat.le_of_ble_eq_true rfl) (by decide) ?_
  refine dw_goto (tgt := 43) (pc := 25) F dJ0_getBytes_840e7_25 (by decide) ?_
  exact dw_vret (pc := 43) F dJ0_getBytes_840e7_43 (by omega) ⟨rfl, rfl⟩
set_option maxRecDepth 100000 in
theorem cdJ_inflateIf (sx : Sx) (L : List Id4) (M : Id4 → Int → Int) (Rf : Id4 → Int → Option Id4) (q x : Id4) (hm : q ∈ L) (hkq : kd q = .inl 11) (hc : M q 1 = 0) (hx : isS L x) (hxc : M x 1 = 0) : CdV sx 2 0 yJ5_inflateIfNeededFor_a7421 cJ5_inflateIfNeededFor_a7421 2 none [aR q, aR x] L (M, Rf) (PVd L (M, Rf)) := by
  refine CdV.mk (by decide +kernel) rfl (Nat.le_of_ble_eq_true rfl) (fun X G ρ F hk hsx => ?_)
  subst hsx
  refine dw_comp (pc := 0) F dJ5_inflateIfNeededFor_a7421_0 gs_J5_18 ?_
  refine dw_if_eq (tgt := 21) (pc := 3) F dJ5_inflateIfNeededFor_a7421_3 (by decide) (by unfold inR; omega) (fun c9 => absurd c9 (by decide)) (fun _ => ?_)
  refine dw_aload0 (pc := 6) F dJ5_inflateIfNeededFor_a7421_6 ?_
  refine dw_getI (pc := 7) F dJ5_inflateIfNeededFor_a7421_7 fl_J5_22 (by first | assumption | rfl) (by first | assumption | (simp [*]; done)) rfl nz1 ?_
  rw [hc]
  refine dw_aload1 (pc := 10) F dJ5_inflateIfNeededFor_a7421_10 ?_
  refine dw_callVI (as := []) (pc := 11) F dJ5_inflateIfNeededFor_a7421_11 ml_J5_40 (isS_kd hx) (isS_mem hx) (cdJ_coder _ _ _ _ _ (by assumption) (by assumption)) (Nat.le_of_ble_eq_true rfl) (by decide) (by omega) (fun v9 L9 s9 h9 _ => ?_)
  obtain ⟨rfl, rfl, rfl⟩ := h9
  refine dw_icmp_eq (tgt := 21) (pc := 14) F dJ5_inflateIfNeededFor_a7421_14 (by decide) (by unfold inR; omega) (by unfold inR; omega) (fun c14 => ?_) (fun c14 => absurd c14 (fun z => z rfl))
  exact dw_vret (pc := 21) F dJ5_inflateIfNeededFor_a7421_21 (by omega) ⟨rfl, rfl⟩
set_option maxRecDepth 100000 in
theorem cdJ_putStringAt (sx : Sx) (L : List Id4) (M : Id4 → Int → Int) (Rf : Id4 → Int → Option Id4) (q bq x sq : Id4) (n m : Nat) (k : Int) (hm : q ∈ L) (hkq : kd q = .inl 11) (hc : M q 1 = 0) (hvb : Rf q 0 = some bq) (hkb : kd bq = .inr (1, m)) (hmb : bq ∈ L) (hm9 : m ≤ 1000) (hx : isS L x) (hxc : M x 1 = 0) (hv : Rf x 0 = some sq) (hks : kd sq = .inr (1, n)) (hms : sq ∈ L ∨ bK sq) (hn : n ≤ 1000) (hby : byt M sq n) (hk0 : 0 ≤ k ∧ k + n ≤ m) : CdV sx 3 0 yJ5_putStringAt_47b60 cJ5_putStringAt_47b60 3 none [aR q, aI k, aR x] L (M, Rf) (PVd L (cpyM M sq 0 bq k n, Rf)) := by
  refine CdV.mk (by decide +kernel) rfl (Nat.le_of_ble_eq_true rfl) (fun X G ρ F hk hsx => ?_)
  subst hsx
  refine dw_aload0 (pc := 0) F dJ5_putStringAt_47b60_0 ?_
  refine dw_aload2 (pc := 1) F dJ5_putStringAt_47b60_1 ?_
  refine dw_callUV (as := [_]) (pc := 2) F dJ5_putStringAt_47b60_2 ml_J5_397 (by first | assumption | rfl) (by first | assumption | (simp [*]; done)) (cdJ_inflateIf _ _ _ _ _ _ (by assumption) (by assumption) (by assumption) (by assumption) (by assumption)) (Nat.le_of_ble_eq_true rfl) (by decide) (by omega) (fun L9 s9 h9 hLE9 => ?_)
  obtain ⟨rfl, rfl⟩ := h9
  refine dw_aload2 (pc := 5) F dJ5_putStringAt_47b60_5 ?_
  refine dw_aload0 (pc := 6) F dJ5_putStringAt_47b60_6 ?_
  refine dw_getR (pc := 7) F dJ5_putStringAt_47b60_7 fl_J5_15 (by first | assumption | rfl) (by first | assumption | (simp [*]; done)) rfl nz0 (by assumption) ?_
  refine dw_iload1 (pc := 10) F dJ5_putStringAt_47b60_10 ?_
  refine dw_aload0 (pc := 11) F dJ5_putStringAt_47b60_11 ?_
  refine dw_getI (pc := 12) F dJ5_putStringAt_47b60_12 fl_J5_22 (by first | assumption | rfl) (by first | assumption | (simp [*]; done)) rfl nz1 ?_
  rw [hc]
  refine dw_callVV (as := [_, _, _]) (pc := 15) F dJ5_putStringAt_47b60_15 ml_J5_399 (isS_kd hx) (isS_mem hx) (cdJ_getBytes _ _ _ _ _ _ _ _ _ _ (by assumption) (by assumption) (by assumption) (by assumption) (by assumption) (by omega) (by assumption) (by assumption) (by assumption) (by omega) (by omega)) (Nat.le_of_ble_eq_true rfl) (by decide) (by omega) (fun L9 s9 h9 hLE9 => ?_)
  obtain ⟨rfl, rfl⟩ := h9
  exact dw_vret (pc := 18) F dJ5_putStringAt_47b60_18 (by omega) ⟨rfl, rfl⟩
/-- a String x with the bytes sq, n of them -/
def Str (L : List Id4) (σ : Hp) (x sq : Id4) (n : Nat) : Prop := isS L x ∧ σ.1 x 1 = 0 ∧ σ.2 x 0 = some sq ∧ kd sq = .inr (1, n) ∧ (sq ∈ L ∨ bK sq) ∧ n ≤ 400 ∧ byt σ.1 sq n
/-- what an appending leaves -/
def APd (L : List Id4) (M : Id4 → Int → Int) (Rf : Id4 → Int → Option Id4) (q bq : Id4) (n : Int) (n2 : Nat) (t : Int → Int) (L' : List Id4) (σ' : Hp) : Prop := ∃ bq' m', SBd L' σ' q bq' m' (n + n2) ∧ (∀ j : Int, 0 ≤ j → j < n → σ'.1 bq' j = M bq j) ∧ (∀ j : Int, 0 ≤ j → j < n2 → σ'.1 bq' (n + j) = t j) ∧ KP L (fun x => x = q ∨ x = bq) (M, Rf) σ' ∧ (bq' = bq ∨ bq' ∉ L)
theorem Str.kp {L L1 : List Id4} {X : Id4 → Prop} {σ σ1 : Hp} {x sq : Id4} {n : Nat} (h : Str L σ x sq n) (hL : LE L L1) (hK : KP L X σ σ1) (h1 : ¬ X x) (h2 : ¬ X sq) : Str L1 σ1 x sq n ∧ σ1.1 sq = σ.1 sq := by
  obtain ⟨a, b, c, d, e, f, g⟩ := h
  have ix : inK L x := a.elim (fun z => Or.inl z.1) (fun ⟨i, _, z⟩ => Or.inr (by rw [z]; exact Nat.le_refl 20))
  have is : inK L sq := e.elim (fun z => Or.inl z) (fun ⟨i, _, z⟩ => Or.inr (by rw [z]; exact Nat.le_succ 20))
  have k1 := hK x ix h1
  have k2 := hK sq is h2
  refine ⟨⟨a.imp (fun z => ⟨hL x z.1, z.2⟩) id, by rw [k1.1]; exact b, by rw [k1.2]; exact c, d, e.imp (hL sq) id, f, fun j j0 j1 => ?_⟩, k2.1⟩
  rw [k2.1]
  exact g j j0 j1
theorem ap_end {sx : Sx} {L L1 : List Id4} {M M1 : Id4 → Int → Int} {Rf R1 : Id4 → Int → Option Id4} {q bq bq1 sq : Id4} {m m1 n2 : Nat} {n : Int} (hS1 : SBd L1 (M1, R1) q bq1 m1 n) (hS : SBd L (M, Rf) q bq m n) (hc1 : n + (n2 : Int) ≤ (m1 : Int)) (hcp1 : ∀ j : Int, 0 ≤ j → j < m → (M1, R1).1 bq1 j = M bq j) (hK1 : KP L (fun x => x = q) (M, Rf) (M1, R1)) (hb1 : bq1 = bq ∨ bq1 ∉ L) (hsb1 : sq ≠ bq1) (hqb1 : q ≠ bq1) (hI1 : DI sx L1 (M1, R1)) (yeM : M1 sq = M sq) (xby : byt M sq n2) : APd L M Rf q bq n n2 (M sq) L1 (updM (cpyM M1 sq 0 bq1 n n2) q 3 (n + n2), R1) := by
  obtain ⟨gm, gkq, gc, gv, gkb, gmb, gm9, gn, gn2, gby⟩ := id hS1
  obtain ⟨hm, hkq, hc, hv, hkb, hmb, hm9, hn, hn2, hby⟩ := id hS
  have e1 : updM (cpyM M1 sq 0 bq1 n n2) q 3 (n + n2) bq1 = cpyM M1 sq 0 bq1 n n2 bq1 := updM_ne (Ne.symm hqb1)
  have e2 : ∀ j : Int, 0 ≤ j → j < n2 → cpyM M1 sq 0 bq1 n n2 bq1 (n + j) = M sq j := fun j j0 j1 => by
    rw [cpy_in (by omega), show (0 : Int) + (n + j - n) = j by omega, yeM]
  refine ⟨bq1, m1, ⟨gm, gkq, ?_, gv, gkb, gmb, gm9, upd_same, by omega, fun j j0 j1 => ?_⟩, fun j j0 j1 => ?_, fun j j0 j1 => ?_, fun x hx hn9 => ⟨?_, ?_⟩, hb1⟩
  · show updM (cpyM M1 sq 0 bq1 n n2) q 3 (n + n2) q 1 = 0
    rw [upd_ne (Or.inr (by decide)), cpy_ne hqb1]
    exact gc
  · show 0 ≤ updM (cpyM M1 sq 0 bq1 n n2) q 3 (n + n2) bq1 j ∧ updM (cpyM M1 sq 0 bq1 n n2) q 3 (n + n2) bq1 j ≤ 127
    rw [e1]
    by_cases z : n ≤ j ∧ j < n + n2
    · have := e2 (j - n) (by omega) (by omega)
      rw [show n + (j - n) = j by omega] at this
      rw [this]
      exact xby _ (by omega) (by omega)
    · rw [cpy_out z]
      exact gby j j0 j1
  · show updM (cpyM M1 sq 0 bq1 n n2) q 3 (n + n2) bq1 j = M bq j
    rw [e1, cpy_out (by omega)]
    exact hcp1 j j0 (by omega)
  · show updM (cpyM M1 sq 0 bq1 n n2) q 3 (n + n2) bq1 (n + j) = M sq j
    rw [e1, e2 j j0 j1]
  · have hx1 : x ≠ bq1 := hb1.elim (fun z w => hn9 (Or.inr (w.trans z))) (fun z => inK_ne hx z (hI1.1 _ gmb))
    show updM (cpyM M1 sq 0 bq1 n n2) q 3 (n + n2) x = M x
    rw [updM_ne (fun z => hn9 (Or.inl z)), cpy_ne hx1]
    exact (hK1 x hx (fun z => hn9 (Or.inl z))).1
  · exact (hK1 x hx (fun z => hn9 (Or.inl z))).2
set_option maxRecDepth 100000 in
theorem cdJ_append5 (sx : Sx) (L : List Id4) (M : Id4 → Int → Int) (Rf : Id4 → Int → Option Id4) (q bq x sq : Id4) (m n2 : Nat) (n : Int) (hS : SBd L (M, Rf) q bq m n) (hX : Str L (M, Rf) x sq n2) (hne : sq ≠ bq) (hn9 : n + n2 ≤ 400) : CdR sx 5 16 yJ5_append_cf1ce cJ5_append_cf1ce 3 (some (.object "java/lang/AbstractStringBuilder")) [aR q, aR x] L (M, Rf) (fun r L' σ' => r = q ∧ APd L M Rf q bq n n2 (M sq) L' σ') := by
  obtain ⟨hm, hkq, hc, hv, hkb, hmb, hm9, hn, hn2, hby⟩ := id hS
  obtain ⟨xS, xc, xv, xk, xm, xn, xby⟩ := id hX
  have hxc : M x 1 = 0 := xc
  have hxv : Rf x 0 = some sq := xv
  have hnM : M q 3 = n := hn
  have hxq : x ≠ q := fun z => by
    have h1 := isS_kd xS
    rw [z, hkq] at h1
    cases h1
  have hsq : sq ≠ q := fun z => by rw [z, hkq] at xk; cases xk
  refine CdR.mk (by decide +kernel) rfl (Nat.le_of_ble_eq_true rfl) (fun X G ρ F hk hsx => ?_)
  subst hsx
  refine dw_aload1 (pc := 0) F dJ5_append_cf1ce_0 ?_
  refine dw_nonnull (tgt := 9) (pc := 1) F dJ5_append_cf1ce_1 (by decide) ?_
  refine dw_aload1 (pc := 9) F dJ5_append_cf1ce_9 ?_
  refine dw_callVI (as := []) (pc := 10) F dJ5_append_cf1ce_10 ml_J5_32 (isS_kd xS) (isS_mem xS) (cdJ_length _ _ _ _ _ _ _ (by assumption) (by assumption) (by assumption) (by assumption) (by assumption) (by omega)) (Nat.le_of_ble_eq_true rfl) (by decide) (by omega) (fun v9 L9 s9 h9 _ => ?_)
  obtain ⟨rfl, rfl, rfl⟩ := h9
  refine dw_istore2 (pc := 13) F dJ5_append_cf1ce_13 rfl hk.symm ?_
  refine dw_aload0 (pc := 14) F dJ5_append_cf1ce_14 ?_
  refine dw_aload0 (pc := 15) F dJ5_append_cf1ce_15 ?_
  refine dw_getI (pc := 16) F dJ5_append_cf1ce_16 fl_J5_79 (by first | assumption | rfl) (by first | assumption | (simp [*]; done)) rfl nz3 ?_
  rw [hnM]
  refine dw_iload2 (pc := 19) F dJ5_append_cf1ce_19 ?_
  refine dw_iadd (pc := 20) F dJ5_append_cf1ce_20 ?_
  refine dw_callUV (as := [_]) (pc := 21) F dJ5_append_cf1ce_21 ml_J5_100 (by first | assumption | rfl) (by first | assumption | (simp [*]; done)) (cdJ_ensure _ _ _ _ _ _ _ _ _ (by assumption) (by omega)) (Nat.le_of_ble_eq_true rfl) (by decide) (by omega) (fun L9 s9 h9 hLE9 => ?_)
  obtain ⟨bq1, m1, hS1, hc1, hcp1, hK1, hb1⟩ := h9
  obtain ⟨M1, R1⟩ := s9
  obtain ⟨gm, gkq, gc, gv, gkb, gmb, gm9, gn, gn2, gby⟩ := id hS1
  have gnM : M1 q 3 = n := gn
  have gcM : M1 q 1 = 0 := gc
  have gvM : R1 q 0 = some bq1 := gv
  obtain ⟨⟨yS, yc, yv, yk, ym, yn, yby⟩, ye⟩ := hX.kp hLE9 hK1 hxq hsq
  have ycM : M1 x 1 = 0 := yc
  have yvM : R1 x 0 = some sq := yv
  have yeM : M1 sq = M sq := ye
  refine dw_DI F (fun hI1 _ _ _ => ?_)
  have hsb1 : sq ≠ bq1 := hb1.elim (fun z => z ▸ hne) (fun z w => by
    rcases xm with y | ⟨i, -, y⟩
    · exact z (w ▸ y)
    · have h9 := hI1.1 bq1 gmb
      rw [← w, y] at h9
      exact absurd h9 (by dsimp only; omega))
  have hqb1 : q ≠ bq1 := fun z => by rw [← z, gkq] at gkb; cases gkb
  refine dw_aload0 (pc := 24) F dJ5_append_cf1ce_24 ?_
  refine dw_aload0 (pc := 25) F dJ5_append_cf1ce_25 ?_
  refine dw_getI (pc := 26) F dJ5_append_cf1ce_26 fl_J5_79 (by first | assumption | rfl) (by first | assumption | (simp [*]; done)) rfl nz3 ?_
  rw [gnM]
  refine dw_aload1 (pc := 29) F dJ5_append_cf1ce_29 ?_
  refine dw_callUV (as := [_, _]) (pc := 30) F dJ5_append_cf1ce_30 ml_J5_208 (by first | assumption | rfl) (by first | assumption | (simp [*]; done)) (cdJ_putStringAt _ _ _ _ _ _ _ _ _ _ _ (by assumption) (by assumption) (by assumption) (by assumption) (by assumption) (by assumption) (by omega) (by assumption) (by assumption) (by assumption) (by assumption) (by assumption) (by omega) (by assumption) (by omega)) (Nat.le_of_ble_eq_true rfl) (by decide) (by omega) (fun L9 s9 h9 hLE9 => ?_)
  obtain ⟨rfl, rfl⟩ := h9
  refine dw_aload0 (pc := 33) F dJ5_append_cf1ce_33 ?_
  refine dw_dupR (pc := 34) F dJ5_append_cf1ce_34 ?_
  refine dw_getI (pc := 35) F dJ5_append_cf1ce_35 fl_J5_79 (by first | assumption | rfl) (by first | assumption | (simp [*]; done)) rfl nz3 ?_
  rw [cpy_ne hqb1, gnM]
  refine dw_iload2 (pc := 38) F dJ5_append_cf1ce_38 ?_
  refine dw_iadd (pc := 39) F dJ5_append_cf1ce_39 ?_
  refine dw_putI (pc := 40) F dJ5_append_cf1ce_40 fl_J5_79 pg_11_3 (by first | assumption | rfl) (by first | assumption | (simp [*]; done)) rfl nz3 ?_
  refine dw_aload0 (pc := 43) F dJ5_append_cf1ce_43 ?_
  exact dw_aret (pc := 44) F dJ5_append_cf1ce_44 (Or.inl ⟨_, rfl⟩) (by omega) ⟨rfl, ap_end hS1 hS hc1 hcp1 hK1 hb1 hsb1 hqb1 hI1 yeM xby⟩
set_option maxRecDepth 100000 in
theorem cdJ_appendS (sx : Sx) (L : List Id4) (M : Id4 → Int → Int) (Rf : Id4 → Int → Option Id4) (q bq x sq : Id4) (m n2 : Nat) (n : Int) (hS : SBd L (M, Rf) q bq m n) (hX : Str L (M, Rf) x sq n2) (hne : sq ≠ bq) (hn9 : n + n2 ≤ 400) : CdR sx 6 16 yJ4_append_15ec4 cJ4_append_15ec4 2 (some (.object "java/lang/StringBuilder")) [aR q, aR x] L (M, Rf) (fun r L' σ' => r = q ∧ APd L M Rf q bq n n2 (M sq) L' σ') := by
  have hkq := hS.2.1
  have hm := hS.1
  refine CdR.mk (by decide +kernel) rfl (Nat.le_of_ble_eq_true rfl) (fun X G ρ F hk hsx => ?_)
  subst hsx
  refine dw_aload0 (pc := 0) F dJ4_append_15ec4_0 ?_
  refine dw_aload1 (pc := 1) F dJ4_append_15ec4_1 ?_
  refine dw_callSUR (as := [_]) (pc := 2) F dJ4_append_15ec4_2 ml_J4_29 (by first | assumption | rfl) (by first | assumption | (simp [*]; done)) rfl (cdJ_append5 _ _ _ _ _ _ _ _ _ _ _ (by assumption) (by assumption) (by assumption) (by omega)) (Nat.le_of_ble_eq_true rfl) (by decide) (by omega) (fun r9 L9 s9 h9 hLE9 hin9 => ?_)
  obtain ⟨rfl, h9⟩ := h9
  obtain ⟨M1, R1⟩ := s9
  refine dw_popR (pc := 5) F dJ4_append_15ec4_5 ?_
  refine dw_aload0 (pc := 6) F dJ4_append_15ec4_6 ?_
  exact dw_aret (pc := 7) F dJ4_append_15ec4_7 (Or.inl ⟨_, rfl⟩) (by omega) ⟨rfl, h9⟩
