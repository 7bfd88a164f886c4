/-! d9: the law's small methods -/
theorem FD.sx {X : Cx} {G : Gd} {ρ0 : Id4 → Nat} {cc : ByteArray} {own : String} {ret : Option FieldType} {d U : Nat} (F : FD X G ρ0 cc own ret d U) : G.2.2.2.2.1 ≤ 260 := by
  obtain ⟨p, l, e, R, s, m, args, below, meth, c⟩ := X
  obtain ⟨g, cy, A, nL, sx⟩ := G
  obtain ⟨hx, hb, hml, hown, hts, hK, hA, hlk, hret, hR, htr, hZ, hY⟩ := F
  exact hY.2.2.2.2.2.2.2
set_option maxRecDepth 100000 in
theorem cdL_among (sx : Sx) (L : List Id4) (M : Id4 → Int → Int) (Rf : Id4 → Int → Option Id4) (v n : Int) (hv : inR v) (hn : 0 < n ∧ n ≤ 1000) : CdI sx 0 0 yL_among cL_among 3 (some .int) [aI v, aI n] L (M, Rf) (fun r L' σ' => (0 ≤ r ∧ r < n) ∧ L' = L ∧ σ' = (M, Rf)) := by
  have e1 := Int.emod_nonneg v (show n ≠ 0 by omega)
  have e2 := Int.emod_lt_of_pos v hn.1
  have e3 := Int.lt_tmod_of_pos v hn.1
  have e4 := Int.tmod_lt_of_pos v hn.1
  refine CdI.mk (by decide +kernel) rfl (Nat.le_of_ble_eq_true rfl) (fun X G ρ F hk hsx => ?_)
  subst hsx
  refine dw_iload0 (pc := 0) F dL_among_0 ?_
  refine dw_iload1 (pc := 1) F dL_among_1 ?_
  refine dw_irem (pc := 2) F dL_among_2 (by first | assumption | (unfold inR; omega)) (by first | assumption | (unfold inR; omega)) (by omega) (by omega) ?_
  refine dw_istore2 (pc := 3) F dL_among_3 rfl hk.symm ?_
  refine dw_iload2 (pc := 4) F dL_among_4 ?_
  refine dw_if_ge (tgt := 14) (pc := 5) F dL_among_5 (by decide) (by unfold inR; omega) (fun c5 => ?_) (fun c5 => ?_)
  · refine dw_iload2 (pc := 14) F dL_among_14 ?_
    exact dw_iret (pc := 15) F dL_among_15 rfl (by omega) ⟨by omega, rfl, rfl⟩
  · refine dw_iload2 (pc := 8) F dL_among_8 ?_
    refine dw_iload1 (pc := 9) F dL_among_9 ?_
    refine dw_iadd (pc := 10) F dL_among_10 ?_
    refine dw_goto (tgt := 15) (pc := 11) F dL_among_11 (by decide) ?_
    exact dw_iret (pc := 15) F dL_among_15 rfl (by omega) ⟨by omega, rfl, rfl⟩
set_option maxRecDepth 100000 in
theorem cdL_cell (sx : Sx) (L : List Id4) (M : Id4 → Int → Int) (Rf : Id4 → Int → Option Id4) (k : Int) (hk9 : 0 ≤ k ∧ k ≤ 100000) : CdI sx 0 0 yL_cell cL_cell 2 (some .int) [aR (30, 0, 0, 0), aI k] L (M, Rf) (fun r L' σ' => inR r ∧ L' = L ∧ σ' = (M, Rf)) := by
  refine CdI.mk (by decide +kernel) rfl (Nat.le_of_ble_eq_true rfl) (fun X G ρ F hk hsx => ?_)
  subst hsx
  have h260 := F.sx
  refine dw_DI F (fun hI _ _ _ => ?_)
  have hks := hI.2.2.2.2.2.2
  have e1 := Int.lt_tmod_of_pos k (show (0 : Int) < 1000 by decide)
  have e2 := Int.tmod_lt_of_pos k (show (0 : Int) < 1000 by decide)
  refine dw_iload1 (pc := 0) F dL_cell_0 ?_
  refine dw_aload0 (pc := 1) F dL_cell_1 ?_
  refine dw_slen (pc := 2) F dL_cell_2 rfl ?_
  refine dw_icmp_ge (tgt := 12) (pc := 3) F dL_cell_3 (by decide) (by unfold inR; omega) (by unfold inR; omega) (fun c3 => ?_) (fun c3 => ?_)
  · refine dw_sipush (pc := 12) F dL_cell_12 (by decide) ?_
    refine dw_iload1 (pc := 15) F dL_cell_15 ?_
    refine dw_sipush (pc := 16) F dL_cell_16 (by decide) ?_
    refine dw_irem (pc := 19) F dL_cell_19 (by unfold inR; omega) (by unfold inR; omega) (by omega) (by omega) ?_
    refine dw_imul (pc := 20) F dL_cell_20 ?_
    refine dw_iconst (pc := 21) F dL_cell_21 ?_
    refine dw_iadd (pc := 22) F dL_cell_22 ?_
    exact dw_iret (pc := 23) F dL_cell_23 rfl (by omega) ⟨by first | (unfold inR; omega) | (have h8 := hks k.toNat (by omega); rw [show ((k.toNat : Nat) : Int) = k by omega] at h8; show inR (M (30, 0, 0, 0) k); rw [show M (30, 0, 0, 0) k = _ from h8]; exact inR_toInt _), rfl, rfl⟩
  · refine dw_aload0 (pc := 6) F dL_cell_6 ?_
    refine dw_iload1 (pc := 7) F dL_cell_7 ?_
    refine dw_sld (pc := 8) F dL_cell_8 (by omega) ?_
    refine dw_goto (tgt := 23) (pc := 9) F dL_cell_9 (by decide) ?_
    exact dw_iret (pc := 23) F dL_cell_23 rfl (by omega) ⟨by first | (unfold inR; omega) | (have h8 := hks k.toNat (by omega); rw [show ((k.toNat : Nat) : Int) = k by omega] at h8; show inR (M (30, 0, 0, 0) k); rw [show M (30, 0, 0, 0) k = _ from h8]; exact inR_toInt _), rfl, rfl⟩
/-- a choice made: nothing but the place in the script moves on -/
def CHd (L : List Id4) (M : Id4 → Int → Int) (Rf : Id4 → Int → Option Id4) (m : Int) : Int → List Id4 → Hp → Prop := fun v L' σ' => (0 ≤ v ∧ v < m) ∧ L' = L ∧ σ' = (updM M (9, 0, 0, 0) 1 (M (9, 0, 0, 0) 1 + 1), Rf)
set_option maxRecDepth 100000 in
theorem cdL_chosen (sx : Sx) (L : List Id4) (M : Id4 → Int → Int) (Rf : Id4 → Int → Option Id4) (m : Int) (hm : (9, 0, 0, 0) ∈ L) (hr : Rf (9, 0, 0, 0) 0 = some (30, 0, 0, 0)) (ha : 0 ≤ M (9, 0, 0, 0) 1 ∧ M (9, 0, 0, 0) 1 ≤ 100000) (hn : 0 < m ∧ m ≤ 1000) : CdI sx 1 0 yL_chosen cL_chosen 3 (some .int) [aR (9, 0, 0, 0), aI m] L (M, Rf) (CHd L M Rf m) := by
  refine CdI.mk (by decide +kernel) rfl (Nat.le_of_ble_eq_true rfl) (fun X G ρ F hk hsx => ?_)
  subst hsx
  refine dw_aload0 (pc := 0) F dL_chosen_0 ?_
  refine dw_getR (pc := 1) F dL_chosen_1 fl_L_7 (by first | assumption | rfl) (by first | assumption | (simp [*]; done)) rfl nz0 (by assumption) ?_
  refine dw_aload0 (pc := 4) F dL_chosen_4 ?_
  refine dw_getI (pc := 5) F dL_chosen_5 fl_L_43 (by first | assumption | rfl) (by first | assumption | (simp [*]; done)) rfl nz1 ?_
  refine dw_callSI (as := [_, _]) (pc := 8) F dL_chosen_8 ml_L_47 (cdL_cell _ _ _ _ _ (by omega)) (Nat.le_of_ble_eq_true rfl) (by decide) (by omega) (fun v9 L9 s9 h9 hLE9 => ?_)
  obtain ⟨hi9, rfl, rfl⟩ := h9
  refine dw_iload1 (pc := 11) F dL_chosen_11 ?_
  refine dw_callSI (as := [_, _]) (pc := 12) F dL_chosen_12 ml_L_51 (cdL_among _ _ _ _ _ _ (by assumption) (by omega)) (Nat.le_of_ble_eq_true rfl) (by decide) (by omega) (fun v9 L9 s9 h9 hLE9 => ?_)
  obtain ⟨hv9, rfl, rfl⟩ := h9
  refine dw_istore2 (pc := 15) F dL_chosen_15 rfl hk.symm ?_
  refine dw_aload0 (pc := 16) F dL_chosen_16 ?_
  refine dw_dupR (pc := 17) F dL_chosen_17 ?_
  refine dw_getI (pc := 18) F dL_chosen_18 fl_L_43 (by first | assumption | rfl) (by first | assumption | (simp [*]; done)) rfl nz1 ?_
  refine dw_iconst (pc := 21) F dL_chosen_21 ?_
  refine dw_iadd (pc := 22) F dL_chosen_22 ?_
  refine dw_putI (pc := 23) F dL_chosen_23 fl_L_43 pg_9_1 (by first | assumption | rfl) (by first | assumption | (simp [*]; done)) rfl nz1 ?_
  refine dw_iload2 (pc := 26) F dL_chosen_26 ?_
  exact dw_iret (pc := 27) F dL_chosen_27 rfl (by omega) ⟨by omega, rfl, rfl⟩
set_option maxRecDepth 100000 in
theorem cdL_from (sx : Sx) (L : List Id4) (M : Id4 → Int → Int) (Rf : Id4 → Int → Option Id4) (a b : Int) (hm : (9, 0, 0, 0) ∈ L) (hr : Rf (9, 0, 0, 0) 0 = some (30, 0, 0, 0)) (ha : 0 ≤ M (9, 0, 0, 0) 1 ∧ M (9, 0, 0, 0) 1 ≤ 100000) (hn : 0 ≤ a ∧ a ≤ b ∧ b ≤ 100) : CdI sx 2 0 yL_from cL_from 3 (some .int) [aR (9, 0, 0, 0), aI a, aI b] L (M, Rf) (fun v L' σ' => (a ≤ v ∧ v ≤ b) ∧ L' = L ∧ σ' = (updM M (9, 0, 0, 0) 1 (M (9, 0, 0, 0) 1 + 1), Rf)) := by
  refine CdI.mk (by decide +kernel) rfl (Nat.le_of_ble_eq_true rfl) (fun X G ρ F hk hsx => ?_)
  subst hsx
  refine dw_iload1 (pc := 0) F dL_from_0 ?_
  refine dw_aload0 (pc := 1) F dL_from_1 ?_
  refine dw_iload2 (pc := 2) F dL_from_2 ?_
  refine dw_iload1 (pc := 3) F dL_from_3 ?_
  refine dw_isub (pc := 4) F dL_from_4 ?_
  refine dw_iconst (pc := 5) F dL_from_5 ?_
  refine dw_iadd (pc := 6) F dL_from_6 ?_
  refine dw_callVI (as := [_]) (pc := 7) F dL_from_7 ml_L_55 (by first | assumption | rfl) (by first | assumption | exact Or.inl (by first | assumption | (simp [*]; done))) (cdL_chosen _ _ _ _ _ (by assumption) (by assumption) (by assumption) (by omega)) (Nat.le_of_ble_eq_true rfl) (by decide) (by omega) (fun v9 L9 s9 h9 hLE9 => ?_)
  obtain ⟨hv9, rfl, rfl⟩ := h9
  refine dw_iadd (pc := 10) F dL_from_10 ?_
  exact dw_iret (pc := 11) F dL_from_11 rfl (by omega) ⟨by omega, rfl, rfl⟩
set_option maxRecDepth 100000 in
theorem cdL_init (sx : Sx) (L : List Id4) (M : Id4 → Int → Int) (Rf : Id4 → Int → Option Id4) (hL : L = [(9, 0, 0, 0)]) : CdV sx 1 3 yL_init cL_init 1 none [aR (9, 0, 0, 0)] L (M, Rf) (fun L' σ' => L' = [(9, 0, 0, 0), (12, 1, 0, 0), (12, 2, 0, 0), (12, 3, 0, 0)] ∧ σ' = (zM (zM (zM M (12, 1, 0, 0)) (12, 2, 0, 0)) (12, 3, 0, 0), updR (zR (updR (zR (updR (zR Rf (12, 1, 0, 0)) (9, 0, 0, 0) 0 (some (12, 1, 0, 0))) (12, 2, 0, 0)) (9, 0, 0, 0) 5 (some (12, 2, 0, 0))) (12, 3, 0, 0)) (9, 0, 0, 0) 6 (some (12, 3, 0, 0)))) := by
  refine CdV.mkI (by decide +kernel) rfl rfl (Nat.le_of_ble_eq_true rfl) (fun X G ρ F hin hk hsx => ?_)
  subst hsx
  subst hL
  refine dw_aload0 (pc := 0) F dL_init_0 ?_
  refine dw_objinit (pc := 1) F dL_init_1 oi1_L oi2 oi3 (by decide) (Nat.le_of_ble_eq_true rfl) ?_
  refine dw_aload0 (pc := 4) F dL_init_4 ?_
  refine dw_iconst (pc := 5) F dL_init_5 ?_
  refine dw_newI (N := 0) (w := 1) (pc := 6) F dL_init_6 ac_0 rfl (by omega) (by omega) (by omega) ?_
  refine dw_putR (pc := 8) F dL_init_8 fl_L_7 pg_9_0 (by first | assumption | rfl) (by first | assumption | (simp [*]; done)) rfl nz0 ?_
  refine dw_aload0 (pc := 11) F dL_init_11 ?_
  refine dw_iconst (pc := 12) F dL_init_12 ?_
  refine dw_newI (N := 0) (w := 1) (pc := 13) F dL_init_13 ac_0 rfl (by omega) (by omega) (by omega) ?_
  refine dw_putR (pc := 15) F dL_init_15 fl_L_13 pg_9_5 (by first | assumption | rfl) (by first | assumption | (simp [*]; done)) rfl nz5 ?_
  refine dw_aload0 (pc := 18) F dL_init_18 ?_
  refine dw_iconst (pc := 19) F dL_init_19 ?_
  refine dw_newI (N := 0) (w := 1) (pc := 20) F dL_init_20 ac_0 rfl (by omega) (by omega) (by omega) ?_
  refine dw_putR (pc := 22) F dL_init_22 fl_L_16 pg_9_6 (by first | assumption | rfl) (by first | assumption | (simp [*]; done)) rfl nz6 ?_
  exact dw_vret (pc := 25) F dL_init_25 (by omega) ⟨rfl, rfl⟩
/-- the letters of four places, from k on -/
def f4 (f : Int → Int) : Nat → Int
  | 0 => 0
  | n + 1 => bOr (bShl (f4 f n) 8) (f n)
def chA (M : Id4 → Int → Int) (sq : Id4) (n i : Int) : Int := if i < n then M sq i else 32
set_option maxRecDepth 100000 in
theorem cdL_four (sx : Sx) (L : List Id4) (M : Id4 → Int → Int) (Rf : Id4 → Int → Option Id4) (x sq : Id4) (n : Nat) (k : Int) (hX : Str L (M, Rf) x sq n) (hk9 : 0 ≤ k ∧ k ≤ 1000) : CdI sx 5 0 yL_four cL_four 4 (some .int) [aR x, aI k] L (M, Rf) (PUd L (M, Rf) (f4 (fun j => chA M sq n (k + j)) 4)) := by
  obtain ⟨hq, hc, hv, hkb, hmb, hn, hby⟩ := hX
  have hb2 : ∀ j : Int, 0 ≤ j → j < n → 0 ≤ M sq j ∧ M sq j ≤ 127 := fun j j0 j1 => hby j j0 j1
  have hn7 : n ≤ 3072 := by omega
  refine CdI.mk (by decide +kernel) rfl (Nat.le_of_ble_eq_true rfl) (fun X G ρ F hk hsx => ?_)
  subst hsx
  have loop : ∀ f i : Nat, f + i = 4 → DW X G ρ L L 4 [aR x, aI k, aI (f4 (fun j => chA M sq n (k + j)) i), aI (k + i)] [] (M, Rf) 0 (EId X G ρ L 0 (PUd L (M, Rf) (f4 (fun j => chA M sq n (k + j)) 4))) := by
    intro f
    induction f with
    | zero =>
      intro i hi
      have hi4 : i = 4 := by omega
      subst hi4
      refine dw_iload3 (pc := 4) F dL_four_4 ?_
      refine dw_iload1 (pc := 5) F dL_four_5 ?_
      refine dw_iconst (pc := 6) F dL_four_6 ?_
      refine dw_iadd (pc := 7) F dL_four_7 ?_
      refine dw_icmp_ge (tgt := 41) (pc := 8) F dL_four_8 (by decide) (by unfold inR; omega) (by unfold inR; omega) (fun c8 => ?_) (fun c8 => absurd c8 (by omega))
      refine dw_iload2 (pc := 41) F dL_four_41 ?_
      exact dw_iret (pc := 42) F dL_four_42 rfl (by omega) ⟨rfl, rfl, rfl⟩
    | succ f ih =>
      intro i hi
      refine dw_iload3 (pc := 4) F dL_four_4 ?_
      refine dw_iload1 (pc := 5) F dL_four_5 ?_
      refine dw_iconst (pc := 6) F dL_four_6 ?_
      refine dw_iadd (pc := 7) F dL_four_7 ?_
      refine dw_icmp_ge (tgt := 41) (pc := 8) F dL_four_8 (by decide) (by unfold inR; omega) (by unfold inR; omega) (fun c8 => absurd c8 (by omega)) (fun c8 => ?_)
      refine dw_iload2 (pc := 11) F dL_four_11 ?_
      refine dw_bipush (pc := 12) F dL_four_12 (by decide) ?_
      refine dw_ishl (pc := 14) F dL_four_14 ?_
      refine dw_iload3 (pc := 15) F dL_four_15 ?_
      refine dw_aload0 (pc := 16) F dL_four_16 ?_
      refine dw_callVI (as := []) (pc := 17) F dL_four_17 ml_L_19 (isS_kd hq) (isS_mem hq) (cdJ_length _ _ _ _ _ _ _ (by assumption) (by assumption) (by assumption) (by assumption) (by assumption) (by assumption)) (Nat.le_of_ble_eq_true rfl) (by decide) (by omega) (fun v9 L9 s9 h9 _ => ?_)
      obtain ⟨rfl, rfl, rfl⟩ := h9
      refine dw_icmp_ge (tgt := 31) (pc := 20) F dL_four_20 (by decide) (by unfold inR; omega) (by unfold inR; omega) (fun c20 => ?_) (fun c20 => ?_)
      · refine dw_bipush (pc := 31) F dL_four_31 (by decide) ?_
        refine dw_ior (pc := 33) F dL_four_33 ?_
        refine dw_istore2 (pc := 34) F dL_four_34 rfl hk.symm ?_
        refine dw_iinc3 (pc := 35) F dL_four_35 rfl hk.symm ?_
        refine dw_goto (tgt := 4) (pc := 38) F dL_four_38 (by decide) ?_
        have e := ih (i + 1) (by omega)
        rw [show ((i + 1 : Nat) : Int) = (i : Int) + 1 by omega, show k + ((i : Int) + 1) = k + (i : Int) + 1 by omega, show f4 (fun j => chA M sq n (k + j)) (i + 1) = bOr (bShl (f4 (fun j => chA M sq n (k + j)) i) 8) (chA M sq n (k + i)) from rfl] at e
        first | rw [show chA M sq n (k + i) = M sq (k + i) from if_pos (by omega)] at e; exact e | rw [show chA M sq n (k + i) = 32 from if_neg (by omega)] at e; exact e
      · refine dw_aload0 (pc := 23) F dL_four_23 ?_
        refine dw_iload3 (pc := 24) F dL_four_24 ?_
        refine dw_callVI (as := [_]) (pc := 25) F dL_four_25 ml_L_25 (isS_kd hq) (isS_mem hq) (cdJ_charAt _ _ _ _ _ _ _ _ (by assumption) (by assumption) (by assumption) (by assumption) (by assumption) (by assumption) (by omega) (hb2 _ (by omega) (by omega))) (Nat.le_of_ble_eq_true rfl) (by decide) (by omega) (fun v9 L9 s9 h9 _ => ?_)
        obtain ⟨rfl, rfl, rfl⟩ := h9
        refine dw_goto (tgt := 33) (pc := 28) F dL_four_28 (by decide) ?_
        refine dw_ior (pc := 33) F dL_four_33 ?_
        refine dw_istore2 (pc := 34) F dL_four_34 rfl hk.symm ?_
        refine dw_iinc3 (pc := 35) F dL_four_35 rfl hk.symm ?_
        refine dw_goto (tgt := 4) (pc := 38) F dL_four_38 (by decide) ?_
        have e := ih (i + 1) (by omega)
        rw [show ((i + 1 : Nat) : Int) = (i : Int) + 1 by omega, show k + ((i : Int) + 1) = k + (i : Int) + 1 by omega, show f4 (fun j => chA M sq n (k + j)) (i + 1) = bOr (bShl (f4 (fun j => chA M sq n (k + j)) i) 8) (chA M sq n (k + i)) from rfl] at e
        first | rw [show chA M sq n (k + i) = M sq (k + i) from if_pos (by omega)] at e; exact e | rw [show chA M sq n (k + i) = 32 from if_neg (by omega)] at e; exact e
  refine dw_iconst (pc := 0) F dL_four_0 ?_
  refine dw_istore2 (pc := 1) F dL_four_1 rfl hk.symm ?_
  refine dw_iload1 (pc := 2) F dL_four_2 ?_
  refine dw_istore3 (pc := 3) F dL_four_3 rfl hk.symm ?_
  have e := loop 4 0 rfl
  rw [show k + ((0 : Nat) : Int) = k by omega] at e
  exact e
