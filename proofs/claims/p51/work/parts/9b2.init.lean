/-! 9b2: the constructors of the larger classes -/
def B4 (k : Int) : Option Id4 := if k = 0 then some (4, 0, 1, 0) else none
theorem cn4_init (M : Id4 → Int → Int) (R : Id4 → Int → Option Id4) (hz : ∀ c, M (4, 0, c, 0) = fun _ => 0) (hz2 : R (4, 0, 0, 0) = fun _ => none) : CnV 1 3 yX4_init cX4_init 1 202 203 (4, 0, 0, 0) (M, R) (fun σ' => σ' = (setA M (4, 0, 0, 0) (fun _ => 0), setR R (4, 0, 0, 0) B4)) := by
  refine CnV.mk (by decide +kernel) rfl (by decide) (fun X G ρ F hin hk => ?_)
  refine bw_aload0 F dX4_init_0 ?_
  refine bw_objinit F dX4_init_1 oi1_4 oi2 oi3 (by decide) (Nat.le_of_ble_eq_true rfl) ?_
  refine bw_aload0 F dX4_init_4 ?_
  refine bw_sipush F dX4_init_5 (by decide) ?_
  refine bw_newa (q := (4, 0, 1, 0)) (N := 160) (w := 3) F dX4_init_8 rfl (by decide) ac_3 (by decide +kernel) rfl (fun k => by simp [updM, hz]) ⟨fun x h => (by cases h; exact Or.inl (by decide +kernel)), trivial⟩ ⟨fun x h => (by cases h; exact Or.inl (by decide +kernel)), trivial⟩ (by omega) (by decide) (by decide) ?_
  refine bw_putR F dX4_init_10 fl_4_9 (fpr_4_0 hin) rfl (by decide +kernel) (by decide +kernel) rfl nz0 ?_
  refine bw_aload0 F dX4_init_13 ?_
  refine bw_iconst F dX4_init_14 ?_
  refine bw_putI F dX4_init_15 fl_4_15 fpi_4_1 rfl (by decide +kernel) rfl nz1 ?_
  refine bw_vret F dX4_init_18 (by decide) ?_
  refine congr (congrArg Prod.mk ?_) ?_
  · rw [updM_first (hz 0)]
    congr 1
    funext k
    simp only [upS]
    split <;> rfl
  · rw [updR_first hz2]
    congr 1
def B0 (k : Int) : Option Id4 := if k = 1 then some (0, 0, 2, 0) else if k = 2 then some (0, 0, 3, 0) else if k = 3 then some (0, 0, 4, 0) else if k = 4 then some (0, 0, 5, 0) else if k = 5 then some (0, 0, 6, 0) else none
def W0 (c : Nat) (k : Int) : Option Id4 := if 0 ≤ k ∧ k < (14 : Nat) then some (0, 0, c, k) else none
theorem cn0_init (M : Id4 → Int → Int) (R : Id4 → Int → Option Id4) (hz : ∀ c r, M (0, 0, c, r) = fun _ => 0) (hz2 : ∀ c, R (0, 0, c, 0) = fun _ => none) : CnV 1 33 yX0_init cX0_init 1 118 151 (0, 0, 0, 0) (M, R) (fun σ' => σ' = (setA M (0, 0, 0, 0) (fun _ => 0), setR (setR (setR R (0, 0, 0, 0) B0) (0, 0, 3, 0) (W0 13)) (0, 0, 4, 0) (W0 14))) := by
  refine CnV.mk (by decide +kernel) rfl (by decide) (fun X G ρ F hin hk => ?_)
  refine bw_aload0 F dX0_init_0 ?_
  refine bw_objinit F dX0_init_1 oi1_0 oi2 oi3 (by decide) (Nat.le_of_ble_eq_true rfl) ?_
  refine bw_aload0 F dX0_init_4 ?_
  refine bw_iconst F dX0_init_5 ?_
  refine bw_putI F dX0_init_6 fl_0_9 fpi_0_0 rfl (by decide +kernel) rfl nz0 ?_
  refine bw_aload0 F dX0_init_9 ?_
  refine bw_bipush F dX0_init_10 (by decide) ?_
  refine bw_newa (q := (0, 0, 2, 0)) (N := 14) (w := 1) F dX0_init_12 rfl (by decide) ac_0 (by decide +kernel) rfl (fun k => by simp [updM, hz]) ⟨fun x h => (by cases h; exact Or.inl (by decide +kernel)), trivial⟩ ⟨fun x h => (by cases h; exact Or.inl (by decide +kernel)), trivial⟩ (by omega) (by decide) (by decide) ?_
  refine bw_putR F dX0_init_14 fl_0_15 (fpr_0_1 hin) rfl (by decide +kernel) (by decide +kernel) rfl nz1 ?_
  refine bw_aload0 F dX0_init_17 ?_
  refine bw_bipush F dX0_init_18 (by decide) ?_
  refine bw_bipush F dX0_init_20 (by decide) ?_
  refine bw_mna (q := (0, 0, 3, 0)) (N := 14) (K9 := 6) (w := 15) (t := 0) (i := 0) (c := 13) (ei := 0) F (by decide) dX0_init_22 (by decide) cl_0_19 ac_0 (by decide +kernel) rfl (fun _ _ => rfl) (fun j k => by simp [updM, hz]) (fun k => by simp [updR, setR, hz2]) (fun j => by simp) ⟨fun x h => (by cases h; exact Or.inl (by decide +kernel)), trivial⟩ ⟨fun x h => (by cases h; exact Or.inl (by decide +kernel)), trivial⟩ (by omega) (by decide) (by decide) ?_
  refine bw_putR F dX0_init_26 fl_0_21 (fpr_0_2 hin) rfl (by decide +kernel) (by decide +kernel) rfl nz2 ?_
  refine bw_aload0 F dX0_init_29 ?_
  refine bw_bipush F dX0_init_30 (by decide) ?_
  refine bw_bipush F dX0_init_32 (by decide) ?_
  refine bw_mna (q := (0, 0, 4, 0)) (N := 14) (K9 := 6) (w := 15) (t := 0) (i := 0) (c := 14) (ei := 0) F (by decide) dX0_init_34 (by decide) cl_0_19 ac_0 (by decide +kernel) rfl (fun _ _ => rfl) (fun j k => by simp [updM, hz]) (fun k => by simp [updR, setR, hz2]) (fun j => by simp) ⟨fun x h => (by cases h; exact Or.inl (by decide +kernel)), trivial⟩ ⟨fun x h => (by cases h; exact Or.inl (by decide +kernel)), trivial⟩ (by omega) (by decide) (by decide) ?_
  refine bw_putR F dX0_init_38 fl_0_24 (fpr_0_3 hin) rfl (by decide +kernel) (by decide +kernel) rfl nz3 ?_
  refine bw_aload0 F dX0_init_41 ?_
  refine bw_bipush F dX0_init_42 (by decide) ?_
  refine bw_newa (q := (0, 0, 5, 0)) (N := 14) (w := 1) F dX0_init_44 rfl (by decide) ac_2 (by decide +kernel) rfl (fun k => by simp [updM, hz]) ⟨fun x h => (by cases h; exact Or.inl (by decide +kernel)), trivial⟩ ⟨fun x h => (by cases h; exact Or.inl (by decide +kernel)), trivial⟩ (by omega) (by decide) (by decide) ?_
  refine bw_putR F dX0_init_46 fl_0_27 (fpr_0_4 hin) rfl (by decide +kernel) (by decide +kernel) rfl nz4 ?_
  refine bw_aload0 F dX0_init_49 ?_
  refine bw_bipush F dX0_init_50 (by decide) ?_
  refine bw_newa (q := (0, 0, 6, 0)) (N := 6) (w := 1) F dX0_init_52 rfl (by decide) ac_0 (by decide +kernel) rfl (fun k => by simp [updM, hz]) ⟨fun x h => (by cases h; exact Or.inl (by decide +kernel)), trivial⟩ ⟨fun x h => (by cases h; exact Or.inl (by decide +kernel)), trivial⟩ (by omega) (by decide) (by decide) ?_
  refine bw_putR F dX0_init_54 fl_0_31 (fpr_0_5 hin) rfl (by decide +kernel) (by decide +kernel) rfl nz5 ?_
  refine bw_vret F dX0_init_57 (by decide) ?_
  refine congr (congrArg Prod.mk ?_) ?_
  · rw [updM_first (hz 0 0)]
    congr 1
    funext k
    simp only [upS]
    split <;> rfl
  · simp only [updR_past (show ((0, 0, 3, 0) : Id4) ≠ (0, 0, 0, 0) by decide), updR_past (show ((0, 0, 4, 0) : Id4) ≠ (0, 0, 0, 0) by decide)]
    rw [updR_first (q := (0, 0, 0, 0)) (hz2 0), updR_next, updR_next, updR_next, updR_next]
    congr 3
    funext k
    simp only [upR, B0]
    repeat' split
    all_goals first | rfl | (exfalso; omega)
def A7 (k : Int) : Int := if k = 0 then 1048576 else if k = 8 then 12 else 0
def B7 (k : Int) : Option Id4 := if k = 1 then some (7, 0, 2, 0) else if k = 2 then some (1, 1, 0, 0) else if k = 3 then some (7, 0, 4, 0) else if k = 4 then some (7, 0, 5, 0) else if k = 5 then some (7, 0, 6, 0) else if k = 6 then some (7, 0, 7, 0) else none
def W7 (c N : Nat) (k : Int) : Option Id4 := if 0 ≤ k ∧ k < N then some (7, 0, c, k) else none
theorem cn7_init (M : Id4 → Int → Int) (R : Id4 → Int → Option Id4) (hz : ∀ c r, M (7, 0, c, r) = fun _ => 0) (hz2 : ∀ c, R (7, 0, c, 0) = fun _ => none) (hz3 : ∀ c, M (1, 1, c, 0) = fun _ => 0) (hz4 : R (1, 1, 0, 0) = fun _ => none) : CnV 2 56 yX7_init cX7_init 1 152 201 (7, 0, 0, 0) (M, R) (fun σ' => σ' = (setA (setA M (7, 0, 0, 0) A7) (1, 1, 0, 0) A1, setR (setR (setR (setR R (7, 0, 0, 0) B7) (1, 1, 0, 0) (B1 1)) (7, 0, 4, 0) (W7 14 36)) (7, 0, 5, 0) (W7 15 6))) := by
  refine CnV.mk (by decide +kernel) rfl (by decide) (fun X G ρ F hin hk => ?_)
  refine bw_aload0 F dX7_init_0 ?_
  refine bw_objinit F dX7_init_1 oi1_7 oi2 oi3 (by decide) (Nat.le_of_ble_eq_true rfl) ?_
  refine bw_aload0 F dX7_init_4 ?_
  refine bw_ldc F dX7_init_5 kc_7_11 ?_
  refine bw_putI F dX7_init_7 fl_7_12 fpi_7_0 rfl (by decide +kernel) rfl nz0 ?_
  refine bw_aload0 F dX7_init_10 ?_
  refine bw_bipush F dX7_init_11 (by decide) ?_
  refine bw_newa (q := (7, 0, 2, 0)) (N := 6) (w := 1) F dX7_init_13 rfl (by decide) ac_0 (by decide +kernel) rfl (fun k => by simp [updM, setA, hz]) ⟨fun x h => (by cases h; exact Or.inl (by decide +kernel)), trivial⟩ ⟨fun x h => (by cases h; exact Or.inl (by decide +kernel)), trivial⟩ (by omega) (by decide) (by decide) ?_
  refine bw_putR F dX7_init_15 fl_7_16 (fpr_7_1 hin) rfl (by decide +kernel) (by decide +kernel) rfl nz1 ?_
  refine bw_aload0 F dX7_init_18 ?_
  refine bw_new (q := (1, 1, 0, 0)) (w := 1) F dX7_init_19 nc_1 cl_7_20 ni_1 df_1 (by decide +kernel) rfl (fun k => by simp [updM, hz3]) (fun k => by simp [updR, hz4]) ⟨fun x h => (by cases h; exact Or.inl (by decide +kernel)), trivial⟩ ⟨fun x h => (by cases h; exact Or.inl (by decide +kernel)), trivial⟩ (by omega) (by decide) (by decide) ?_
  refine bw_dupR F dX7_init_22 ?_
  refine bw_init F dX7_init_23 mi_7_22 (cn1_init 1 _ _ _ (by decide +kernel) (by decide +kernel) (fun c => by funext k; simp [updM, hz3]) (by funext k; simp [updR, hz4])) ⟨fun x h => (by cases h; exact Or.inl (by decide +kernel)), trivial⟩ ⟨fun x h => (by cases h; exact Or.inl (by decide +kernel)), ⟨fun x h => (by cases h; exact Or.inl (by decide +kernel)), trivial⟩⟩ (Nat.le_of_ble_eq_true rfl) (by omega) (by omega) (by decide) (by decide) (fun σ9 h9 => ?_)
  subst h9
  refine bw_putR F dX7_init_26 fl_7_23 (fpr_7_2 hin) rfl (by decide +kernel) (by decide +kernel) rfl nz2 ?_
  refine bw_aload0 F dX7_init_29 ?_
  refine bw_bipush F dX7_init_30 (by decide) ?_
  refine bw_bipush F dX7_init_32 (by decide) ?_
  refine bw_mna (q := (7, 0, 4, 0)) (N := 36) (K9 := 24) (w := 37) (t := 7) (i := 0) (c := 14) (ei := 0) F (by decide) dX7_init_34 (by decide) cl_7_27 ac_0 (by decide +kernel) rfl (fun _ _ => rfl) (fun j k => by simp [updM, setA, hz]) (fun k => by simp [updR, setR, hz2]) (fun j => by simp) ⟨fun x h => (by cases h; exact Or.inl (by decide +kernel)), trivial⟩ ⟨fun x h => (by cases h; exact Or.inl (by decide +kernel)), trivial⟩ (by omega) (by decide) (by decide) ?_
  refine bw_putR F dX7_init_38 fl_7_29 (fpr_7_3 hin) rfl (by decide +kernel) (by decide +kernel) rfl nz3 ?_
  refine bw_aload0 F dX7_init_41 ?_
  refine bw_bipush F dX7_init_42 (by decide) ?_
  refine bw_sipush F dX7_init_44 (by decide) ?_
  refine bw_mna (q := (7, 0, 5, 0)) (N := 6) (K9 := 144) (w := 14) (t := 7) (i := 0) (c := 15) (ei := 0) F (by decide) dX7_init_47 (by decide) cl_7_27 ac_0 (by decide +kernel) rfl (fun _ _ => rfl) (fun j k => by simp [updM, setA, hz]) (fun k => by simp [updR, setR, hz2]) (fun j => by simp) ⟨fun x h => (by cases h; exact Or.inl (by decide +kernel)), trivial⟩ ⟨fun x h => (by cases h; exact Or.inl (by decide +kernel)), trivial⟩ (by omega) (by decide) (by decide) ?_
  refine bw_putR F dX7_init_51 fl_7_32 (fpr_7_4 hin) rfl (by decide +kernel) (by decide +kernel) rfl nz4 ?_
  refine bw_aload0 F dX7_init_54 ?_
  refine bw_bipush F dX7_init_55 (by decide) ?_
  refine bw_newa (q := (7, 0, 6, 0)) (N := 6) (w := 1) F dX7_init_57 rfl (by decide) ac_0 (by decide +kernel) rfl (fun k => by simp [updM, setA, hz]) ⟨fun x h => (by cases h; exact Or.inl (by decide +kernel)), trivial⟩ ⟨fun x h => (by cases h; exact Or.inl (by decide +kernel)), trivial⟩ (by omega) (by decide) (by decide) ?_
  refine bw_putR F dX7_init_59 fl_7_35 (fpr_7_5 hin) rfl (by decide +kernel) (by decide +kernel) rfl nz5 ?_
  refine bw_aload0 F dX7_init_62 ?_
  refine bw_bipush F dX7_init_63 (by decide) ?_
  refine bw_newa (q := (7, 0, 7, 0)) (N := 6) (w := 1) F dX7_init_65 rfl (by decide) ac_0 (by decide +kernel) rfl (fun k => by simp [updM, setA, hz]) ⟨fun x h => (by cases h; exact Or.inl (by decide +kernel)), trivial⟩ ⟨fun x h => (by cases h; exact Or.inl (by decide +kernel)), trivial⟩ (by omega) (by decide) (by decide) ?_
  refine bw_putR F dX7_init_67 fl_7_38 (fpr_7_6 hin) rfl (by decide +kernel) (by decide +kernel) rfl nz6 ?_
  refine bw_aload0 F dX7_init_70 ?_
  refine bw_iconst F dX7_init_71 ?_
  refine bw_putI F dX7_init_72 fl_7_41 fpi_7_7 rfl (by decide +kernel) rfl nz7 ?_
  refine bw_aload0 F dX7_init_75 ?_
  refine bw_bipush F dX7_init_76 (by decide) ?_
  refine bw_putI F dX7_init_78 fl_7_44 fpi_7_8 rfl (by decide +kernel) rfl nz8 ?_
  refine bw_aload0 F dX7_init_81 ?_
  refine bw_iconst F dX7_init_82 ?_
  refine bw_putZ F dX7_init_83 fl_7_47 fpz_7_9 rfl (by decide +kernel) rfl nz9 (by decide) ?_
  refine bw_vret F dX7_init_86 (by decide) ?_
  refine congr (congrArg Prod.mk ?_) ?_
  · simp only [updM_past (show ((1, 1, 0, 0) : Id4) ≠ (7, 0, 0, 0) by decide)]
    rw [updM_first (q := (7, 0, 0, 0)) (hz 0 0), updM_next, updM_next, updM_next]
    congr 2
    funext k
    simp only [upS, A7]
    repeat' split
    all_goals omega
  · simp only [updR_past (show ((1, 1, 0, 0) : Id4) ≠ (7, 0, 0, 0) by decide), updR_past (show ((7, 0, 4, 0) : Id4) ≠ (7, 0, 0, 0) by decide), updR_past (show ((7, 0, 5, 0) : Id4) ≠ (7, 0, 0, 0) by decide)]
    rw [updR_first (q := (7, 0, 0, 0)) (hz2 0), updR_next, updR_next, updR_next, updR_next, updR_next]
    congr 4
    funext k
    simp only [upR, B7]
    repeat' split
    all_goals first | rfl | (exfalso; omega)
def A6 (k : Int) : Int := if k = 3 then -1 else 0
def B6 (k : Int) : Option Id4 := if k = 0 then some (5, 2, 0, 0) else if k = 1 then some (3, 1, 0, 0) else if k = 4 then some (6, 0, 5, 0) else none
theorem cn6_init (M : Id4 → Int → Int) (R : Id4 → Int → Option Id4) (hz : ∀ c, M (6, 0, c, 0) = fun _ => 0) (hz2 : R (6, 0, 0, 0) = fun _ => none) (hz3 : ∀ c, M (5, 2, c, 0) = fun _ => 0) (hz4 : R (5, 2, 0, 0) = fun _ => none) (hz5 : ∀ c r, M (3, 1, c, r) = fun _ => 0) (hz6 : ∀ c, R (3, 1, c, 0) = fun _ => none) : CnV 2 17 yX6_init cX6_init 1 3 20 (6, 0, 0, 0) (M, R) (fun σ' => σ' = (setA (setA (setA M (6, 0, 0, 0) A6) (5, 2, 0, 0) A5) (3, 1, 0, 0) (fun _ => 0), setR (setR (setR (setR R (6, 0, 0, 0) B6) (5, 2, 0, 0) (B5 2)) (3, 1, 1, 0) (W3 1)) (3, 1, 0, 0) (B3 1))) := by
  refine CnV.mk (by decide +kernel) rfl (by decide) (fun X G ρ F hin hk => ?_)
  refine bw_aload0 F dX6_init_0 ?_
  refine bw_objinit F dX6_init_1 oi1_6 oi2 oi3 (by decide) (Nat.le_of_ble_eq_true rfl) ?_
  refine bw_aload0 F dX6_init_4 ?_
  refine bw_new (q := (5, 2, 0, 0)) (w := 1) F dX6_init_5 nc_5 cl_6_9 ni_5 df_5 (by decide +kernel) rfl (fun k => by rw [hz3]) (fun k => by rw [hz4]) ⟨fun x h => (by cases h; exact Or.inl (by decide +kernel)), trivial⟩ ⟨fun x h => (by cases h; exact Or.inl (by decide +kernel)), trivial⟩ (by omega) (by decide) (by decide) ?_
  refine bw_dupR F dX6_init_8 ?_
  refine bw_init F dX6_init_9 mi_6_11 (cn5_init 2 _ _ _ (by decide +kernel) (by decide +kernel) hz3 hz4) ⟨fun x h => (by cases h; exact Or.inl (by decide +kernel)), trivial⟩ ⟨fun x h => (by cases h; exact Or.inl (by decide +kernel)), ⟨fun x h => (by cases h; exact Or.inl (by decide +kernel)), trivial⟩⟩ (Nat.le_of_ble_eq_true rfl) (by omega) (by omega) (by decide) (by decide) (fun σ9 h9 => ?_)
  subst h9
  refine bw_putR F dX6_init_12 fl_6_12 (fpr_6_0 hin) rfl (by decide +kernel) (by decide +kernel) rfl nz0 ?_
  refine bw_aload0 F dX6_init_15 ?_
  refine bw_new (q := (3, 1, 0, 0)) (w := 1) F dX6_init_16 nc_3 cl_6_18 ni_3 df_3 (by decide +kernel) rfl (fun k => by simp [setA, hz5]) (fun k => by simp [updR, setR, hz6]) ⟨fun x h => (by cases h; exact Or.inl (by decide +kernel)), trivial⟩ ⟨fun x h => (by cases h; exact Or.inl (by decide +kernel)), trivial⟩ (by omega) (by decide) (by decide) ?_
  refine bw_dupR F dX6_init_19 ?_
  refine bw_init F dX6_init_20 mi_6_20 (cn3_init 1 _ _ _ (by decide +kernel) (by decide +kernel) (by decide +kernel) (fun c r => by funext k; simp [setA, hz5]) (fun c => by funext k; simp [updR, setR, hz6])) ⟨fun x h => (by cases h; exact Or.inl (by decide +kernel)), trivial⟩ ⟨fun x h => (by cases h; exact Or.inl (by decide +kernel)), ⟨fun x h => (by cases h; exact Or.inl (by decide +kernel)), trivial⟩⟩ (Nat.le_of_ble_eq_true rfl) (by omega) (by omega) (by decide) (by decide) (fun σ9 h9 => ?_)
  subst h9
  refine bw_putR F dX6_init_23 fl_6_21 (fpr_6_1 hin) rfl (by decide +kernel) (by decide +kernel) rfl nz1 ?_
  refine bw_aload0 F dX6_init_26 ?_
  refine bw_iconst F dX6_init_27 ?_
  refine bw_putI F dX6_init_28 fl_6_25 fpi_6_2 rfl (by decide +kernel) rfl nz2 ?_
  refine bw_aload0 F dX6_init_31 ?_
  refine bw_iconst F dX6_init_32 ?_
  refine bw_putI F dX6_init_33 fl_6_29 fpi_6_3 rfl (by decide +kernel) rfl nz3 ?_
  refine bw_aload0 F dX6_init_36 ?_
  refine bw_iconst F dX6_init_37 ?_
  refine bw_newa (q := (6, 0, 5, 0)) (N := 0) (w := 1) F dX6_init_38 rfl (by decide) ac_1 (by decide +kernel) rfl (fun k => by simp [updM, setA, hz]) ⟨fun x h => (by cases h; exact Or.inl (by decide +kernel)), trivial⟩ ⟨fun x h => (by cases h; exact Or.inl (by decide +kernel)), trivial⟩ (by omega) (by decide) (by decide) ?_
  refine bw_putR F dX6_init_40 fl_6_32 (fpr_6_4 hin) rfl (by decide +kernel) (by decide +kernel) rfl nz4 ?_
  refine bw_aload0 F dX6_init_43 ?_
  refine bw_iconst F dX6_init_44 ?_
  refine bw_putI F dX6_init_45 fl_6_36 fpi_6_5 rfl (by decide +kernel) rfl nz5 ?_
  refine bw_aload0 F dX6_init_48 ?_
  refine bw_iconst F dX6_init_49 ?_
  refine bw_putI F dX6_init_50 fl_6_39 fpi_6_6 rfl (by decide +kernel) rfl nz6 ?_
  refine bw_aload0 F dX6_init_53 ?_
  refine bw_iconst F dX6_init_54 ?_
  refine bw_putI F dX6_init_55 fl_6_42 fpi_6_7 rfl (by decide +kernel) rfl nz7 ?_
  refine bw_aload0 F dX6_init_58 ?_
  refine bw_iconst F dX6_init_59 ?_
  refine bw_putI F dX6_init_60 fl_6_45 fpi_6_8 rfl (by decide +kernel) rfl nz8 ?_
  refine bw_aload0 F dX6_init_63 ?_
  refine bw_iconst F dX6_init_64 ?_
  refine bw_putI F dX6_init_65 fl_6_48 fpi_6_9 rfl (by decide +kernel) rfl nz9 ?_
  refine bw_vret F dX6_init_68 (by decide) ?_
  refine congr (congrArg Prod.mk ?_) ?_
  · simp only [updM_past (show ((5, 2, 0, 0) : Id4) ≠ (6, 0, 0, 0) by decide), updM_past (show ((3, 1, 0, 0) : Id4) ≠ (6, 0, 0, 0) by decide)]
    rw [updM_first (q := (6, 0, 0, 0)) (hz 0), updM_next, updM_next, updM_next, updM_next, updM_next, updM_next]
    congr 3
    funext k
    simp only [upS, A6]
    repeat' split
    all_goals omega
  · simp only [updR_past (show ((5, 2, 0, 0) : Id4) ≠ (6, 0, 0, 0) by decide), updR_past (show ((3, 1, 1, 0) : Id4) ≠ (6, 0, 0, 0) by decide), updR_past (show ((3, 1, 0, 0) : Id4) ≠ (6, 0, 0, 0) by decide)]
    rw [updR_first (q := (6, 0, 0, 0)) hz2, updR_next, updR_next]
    congr 4
    funext k
    simp only [upR, B6]
    repeat' split
    all_goals first | rfl | (exfalso; omega)
def B2 (k : Int) : Option Id4 := if k = 0 then some (2, 0, 1, 0) else none
def hM (M : Id4 → Int → Int) : Nat → Id4 → Int → Int
  | 0 => M
  | n + 1 => setA (hM M n) (5, 3 + (n : Int), 0, 0) A5
def hR (R : Id4 → Int → Option Id4) : Nat → Id4 → Int → Option Id4
  | 0 => R
  | n + 1 => updR (setR (hR R n) (5, 3 + (n : Int), 0, 0) (B5 (3 + (n : Int)))) (2, 0, 1, 0) n (some (5, 3 + (n : Int), 0, 0))
theorem hM_off {M : Id4 → Int → Int} {q : Id4} : ∀ n : Nat, (∀ m : Nat, m < n → q ≠ (5, 3 + (m : Int), 0, 0)) → hM M n q = M q
  | 0, _ => rfl
  | n + 1, h => (setA_ne (h n (by omega))).trans (hM_off n (fun m hm => h m (by omega)))
theorem hR_off {R : Id4 → Int → Option Id4} {q : Id4} (h2 : q ≠ (2, 0, 1, 0)) : ∀ n : Nat, (∀ m : Nat, m < n → q ≠ (5, 3 + (m : Int), 0, 0)) → hR R n q = R q
  | 0, _ => rfl
  | n + 1, h => by
    funext k
    show updR _ _ _ _ q k = _
    unfold updR
    rw [if_neg (fun z => h2 z.1), setR_ne (h n (by omega)), hR_off h2 n (fun m hm => h m (by omega))]
theorem lo2 : ∀ n : Nat, n < 10 → Lord[45 + 7 * n]? = some (5, 3 + (n : Int), 0, 0) ∧ (Lord.drop (45 + 7 * n + 1)).take 6 = cells 5 (3 + (n : Int)) [4, 5, 6, 7, 8, 9] := by
  intro n hn
  rcases (show n = 0 ∨ n = 1 ∨ n = 2 ∨ n = 3 ∨ n = 4 ∨ n = 5 ∨ n = 6 ∨ n = 7 ∨ n = 8 ∨ n = 9 by omega) with rfl | rfl | rfl | rfl | rfl | rfl | rfl | rfl | rfl | rfl
  all_goals exact ⟨by decide +kernel, by decide +kernel⟩
theorem cn2_init (M : Id4 → Int → Int) (R : Id4 → Int → Option Id4) (hz : ∀ c, M (2, 0, c, 0) = fun _ => 0) (hz2 : ∀ c, R (2, 0, c, 0) = fun _ => none) (hz3 : ∀ (n : Nat) (c : Nat), M (5, 3 + (n : Int), c, 0) = fun _ => 0) (hz4 : ∀ n : Nat, R (5, 3 + (n : Int), 0, 0) = fun _ => none) : CnV 2 71 yX2_init cX2_init 2 44 115 (2, 0, 0, 0) (M, R) (fun σ' => σ' = (hM (setA M (2, 0, 0, 0) (fun _ => 0)) 10, hR (setR R (2, 0, 0, 0) B2) 10)) := by
  refine CnV.mk (by decide +kernel) rfl (by decide) (fun X G ρ F hin hk => ?_)
  have loop : ∀ (f n : Nat), n + f = 10 → BW X G ρ 44 (45 + 7 * n) 25 [aR (2, 0, 0, 0), aI n] [] (hM (setA M (2, 0, 0, 0) (fun _ => 0)) n, hR (setR R (2, 0, 0, 0) B2) n) (1 + 7 * n) (EBN X G ρ 44 115 71 (fun σ' => σ' = (hM (setA M (2, 0, 0, 0) (fun _ => 0)) 10, hR (setR R (2, 0, 0, 0) B2) 10))) := by
    intro f
    induction f with
    | zero =>
      intro n hn
      obtain rfl : n = 10 := by omega
      refine bw_iload1 F dX2_init_25 ?_
      refine bw_bipush F dX2_init_26 (by decide) ?_
      refine bw_icmp_ge (tgt := 50) F dX2_init_28 (by decide) (by unfold inR; omega) (by unfold inR; omega) (fun c28 => ?_) (fun c28 => absurd c28 (by decide))
      exact bw_vret F dX2_init_50 (by decide) rfl
    | succ f ih =>
      intro n hn
      have l2 := lo2 n (by omega)
      have r0 : hR (setR R (2, 0, 0, 0) B2) n (2, 0, 0, 0) 0 = some (2, 0, 1, 0) := by
        rw [hR_off (by decide) n (fun m hm => by simp), setR_same]
        rfl
      have m5 : ∀ c, hM (setA M (2, 0, 0, 0) (fun _ => 0)) n (5, 3 + (n : Int), c, 0) = fun _ => 0 := fun c => by
        rw [hM_off n (fun m hm => by simp; omega), setA_ne (by simp), hz3]
      have r5 : hR (setR R (2, 0, 0, 0) B2) n (5, 3 + (n : Int), 0, 0) = fun _ => none := by
        rw [hR_off (by simp) n (fun m hm => by simp; omega), setR_ne (by simp), hz4]
      have g0 : (2, 0, 0, 0) ∈ Lord.take (45 + 7 * n) := take_le (n := 45) (by omega) (by decide +kernel)
      have g1 : (2, 0, 1, 0) ∈ Lord.take (45 + 7 * n) := take_le (n := 45) (by omega) (by decide +kernel)
      have g2 := take_in l2.1
      have rf1 : RF (45 + 7 * n) [aR (2, 0, 0, 0), aI n] := ⟨fun x h => (by cases h; exact Or.inl (g0)), ⟨fun x h => (by cases h), trivial⟩⟩
      have rf2 : RF (45 + 7 * n) [aI n, aR (2, 0, 1, 0)] := ⟨fun x h => (by cases h), ⟨fun x h => (by cases h; exact Or.inl (g1)), trivial⟩⟩
      have rf3 : RF (45 + 7 * n + 1) [aR (2, 0, 0, 0), aI n] := ⟨fun x h => (by cases h; exact Or.inl (take_le (by omega) g0)), ⟨fun x h => (by cases h), trivial⟩⟩
      have rf4 : RF (45 + 7 * n + 1) [aR (5, 3 + (n : Int), 0, 0), aI n, aR (2, 0, 1, 0)] := ⟨fun x h => (by cases h; exact Or.inl (g2)), ⟨fun x h => (by cases h), ⟨fun x h => (by cases h; exact Or.inl (take_le (by omega) g1)), trivial⟩⟩⟩
      refine bw_iload1 F dX2_init_25 ?_
      refine bw_bipush F dX2_init_26 (by decide) ?_
      refine bw_icmp_ge (tgt := 50) F dX2_init_28 (by decide) (by unfold inR; omega) (by unfold inR; omega) (fun c28 => absurd c28 (by omega)) (fun c28 => ?_)
      refine bw_aload0 F dX2_init_31 ?_
      refine bw_getR F dX2_init_32 fl_2_11 rfl g0 rfl nz0 r0 ?_
      refine bw_iload1 F dX2_init_35 ?_
      refine bw_new (w := 1) F dX2_init_36 nc_5 cl_2_9 ni_5 df_5 l2.1 rfl (fun k => by rw [m5]) (fun k => by rw [r5]) rf1 rf2 (by omega) (by decide) (by omega) ?_
      refine bw_dupR F dX2_init_39 ?_
      refine bw_init F dX2_init_40 mi_2_24 (cn5_init (3 + (n : Int)) _ _ _ g2 l2.2 m5 r5) rf3 rf4 (Nat.le_of_ble_eq_true rfl) (by omega) (by omega) (by decide) (by omega) (fun σ9 h9 => ?_)
      subst h9
      refine bw_astq F dX2_init_43 rfl rfl (take_le (by omega) g1) (take_le (by omega) g2) (by omega) ?_
      refine bw_iinc1 F dX2_init_44 rfl hk.symm ?_
      refine bw_goto (tgt := 25) F dX2_init_47 (by decide) ?_
      exact ih (n + 1) (by omega)
  refine bw_aload0 F dX2_init_0 ?_
  refine bw_objinit F dX2_init_1 oi1_2 oi2 oi3 (by decide) (Nat.le_of_ble_eq_true rfl) ?_
  refine bw_aload0 F dX2_init_4 ?_
  refine bw_bipush F dX2_init_5 (by decide) ?_
  refine bw_newq (q := (2, 0, 1, 0)) (N := 10) F dX2_init_7 cl_2_9 (by decide +kernel) rfl (fun k => by rw [hz2]) ⟨fun x h => (by cases h; exact Or.inl (by decide +kernel)), ⟨fun x h => (by cases h), trivial⟩⟩ ⟨fun x h => (by cases h; exact Or.inl (by decide +kernel)), trivial⟩ (by omega) (by decide) (by decide) ?_
  refine bw_putR F dX2_init_10 fl_2_11 (fpr_2_0 hin) rfl (by decide +kernel) (by decide +kernel) rfl nz0 ?_
  refine bw_aload0 F dX2_init_13 ?_
  refine bw_iconst F dX2_init_14 ?_
  refine bw_putI F dX2_init_15 fl_2_17 fpi_2_1 rfl (by decide +kernel) rfl nz1 ?_
  refine bw_aload0 F dX2_init_18 ?_
  refine bw_iconst F dX2_init_19 ?_
  refine bw_putI F dX2_init_20 fl_2_21 fpi_2_2 rfl (by decide +kernel) rfl nz2 ?_
  refine bw_iconst F dX2_init_23 ?_
  refine bw_istore1 F dX2_init_24 rfl hk.symm ?_
  refine bw_eq (σ' := (hM (setA M (2, 0, 0, 0) (fun _ => 0)) 0, hR (setR R (2, 0, 0, 0) B2) 0)) ?_ (loop 10 0 rfl)
  refine congr (congrArg Prod.mk ?_) ?_
  · show _ = setA M (2, 0, 0, 0) (fun _ => 0)
    rw [updM_first (hz 0), updM_next]
    congr 1
    funext k
    simp only [upS]
    repeat' split
    all_goals rfl
  · show _ = setR R (2, 0, 0, 0) B2
    rw [updR_first (hz2 0)]
    congr 1
def B8 (k : Int) : Option Id4 := if k = 0 then some (8, 0, 1, 0) else if k = 2 then some (6, 0, 0, 0) else if k = 3 then some (3, 0, 0, 0) else if k = 4 then some (5, 0, 0, 0) else if k = 5 then some (5, 1, 0, 0) else if k = 6 then some (2, 0, 0, 0) else if k = 7 then some (1, 0, 0, 0) else if k = 8 then some (0, 0, 0, 0) else if k = 9 then some (7, 0, 0, 0) else if k = 10 then some (4, 0, 0, 0) else none
def Z0 : Id4 → Int → Int := fun _ _ => 0
def N0 : Id4 → Int → Option Id4 := fun _ _ => none
def M8 : Id4 → Int → Int := (setA (setA (setA (setA (setA (hM (setA (setA (setA (setA (setA (setA (setA (updM Z0 (8, 0, 0, 0) 1 0) (6, 0, 0, 0) A6) (5, 2, 0, 0) A5) (3, 1, 0, 0) (fun _ => 0)) (3, 0, 0, 0) (fun _ => 0)) (5, 0, 0, 0) A5) (5, 1, 0, 0) A5) (2, 0, 0, 0) (fun _ => 0)) 10) (1, 0, 0, 0) A1) (0, 0, 0, 0) (fun _ => 0)) (7, 0, 0, 0) A7) (1, 1, 0, 0) A1) (4, 0, 0, 0) (fun _ => 0))
def R8 : Id4 → Int → Option Id4 := (updR (setR (updR (setR (setR (setR (setR (updR (setR (setR (setR (updR (setR (updR (hR (setR (updR (setR (updR (setR (updR (setR (setR (updR (setR (setR (setR (setR (updR N0 (8, 0, 0, 0) 0 (some (8, 0, 1, 0))) (6, 0, 0, 0) B6) (5, 2, 0, 0) (B5 2)) (3, 1, 1, 0) (W3 1)) (3, 1, 0, 0) (B3 1)) (8, 0, 0, 0) 2 (some (6, 0, 0, 0))) (3, 0, 1, 0) (W3 0)) (3, 0, 0, 0) (B3 0)) (8, 0, 0, 0) 3 (some (3, 0, 0, 0))) (5, 0, 0, 0) (B5 0)) (8, 0, 0, 0) 4 (some (5, 0, 0, 0))) (5, 1, 0, 0) (B5 1)) (8, 0, 0, 0) 5 (some (5, 1, 0, 0))) (2, 0, 0, 0) B2) 10) (8, 0, 0, 0) 6 (some (2, 0, 0, 0))) (1, 0, 0, 0) (B1 0)) (8, 0, 0, 0) 7 (some (1, 0, 0, 0))) (0, 0, 0, 0) B0) (0, 0, 3, 0) (W0 13)) (0, 0, 4, 0) (W0 14)) (8, 0, 0, 0) 8 (some (0, 0, 0, 0))) (7, 0, 0, 0) B7) (1, 1, 0, 0) (B1 1)) (7, 0, 4, 0) (W7 14 36)) (7, 0, 5, 0) (W7 15 6)) (8, 0, 0, 0) 9 (some (7, 0, 0, 0))) (4, 0, 0, 0) B4) (8, 0, 0, 0) 10 (some (4, 0, 0, 0)))
theorem z5 {n c : Nat} {r i : Int} (hi : i < 3) : ((5, 3 + (n : Int), c, r) : Id4) ≠ (5, i, 0, 0) := fun z => by
  have h := congrArg (fun q : Id4 => q.2.1) z
  dsimp only at h
  omega
theorem cn8_init : CnV 3 218 yX8_init cX8_init 1 1 203 (8, 0, 0, 0) (Z0, N0) (fun σ' => σ' = (M8, R8)) := by
  refine CnV.mk (by decide +kernel) rfl (by decide) (fun X G ρ F hin hk => ?_)
  refine bw_aload0 F dX8_init_0 ?_
  refine bw_objinit F dX8_init_1 oi1_8 oi2 oi3 (by decide) (Nat.le_of_ble_eq_true rfl) ?_
  refine bw_aload0 F dX8_init_4 ?_
  refine bw_sipush F dX8_init_5 (by decide) ?_
  refine bw_newa (q := (8, 0, 1, 0)) (N := 500) (w := 8) F dX8_init_8 rfl (by decide) ac_1 (by decide +kernel) rfl (fun k => rfl) ⟨fun x h => (by cases h; exact Or.inl (by decide +kernel)), trivial⟩ ⟨fun x h => (by cases h; exact Or.inl (by decide +kernel)), trivial⟩ (by omega) (by decide) (by decide) ?_
  refine bw_putR F dX8_init_10 fl_8_9 (fpr_8_0 hin) rfl (by decide +kernel) (by decide +kernel) rfl nz0 ?_
  refine bw_aload0 F dX8_init_13 ?_
  refine bw_iconst F dX8_init_14 ?_
  refine bw_putI F dX8_init_15 fl_8_13 fpi_8_1 rfl (by decide +kernel) rfl nz1 ?_
  refine bw_aload0 F dX8_init_18 ?_
  refine bw_new (q := (6, 0, 0, 0)) (w := 1) F dX8_init_19 nc_6 cl_8_17 ni_6 df_6 (by decide +kernel) rfl (fun k => rfl) (fun k => rfl) ⟨fun x h => (by cases h; exact Or.inl (by decide +kernel)), trivial⟩ ⟨fun x h => (by cases h; exact Or.inl (by decide +kernel)), trivial⟩ (by omega) (by decide) (by decide) ?_
  refine bw_dupR F dX8_init_22 ?_
  refine bw_init F dX8_init_23 mi_8_19 (cn6_init _ _ (fun c => by funext k; rfl) (by funext k; rfl) (fun c => by funext k; rfl) (by funext k; rfl) (fun c r => by funext k; rfl) (fun c => by funext k; rfl)) ⟨fun x h => (by cases h; exact Or.inl (by decide +kernel)), trivial⟩ ⟨fun x h => (by cases h; exact Or.inl (by decide +kernel)), ⟨fun x h => (by cases h; exact Or.inl (by decide +kernel)), trivial⟩⟩ (Nat.le_of_ble_eq_true rfl) (by omega) (by omega) (by decide) (by decide) (fun σ9 h9 => ?_)
  subst h9
  refine bw_putR F dX8_init_26 fl_8_20 (fpr_8_2 hin) rfl (by decide +kernel) (by decide +kernel) rfl nz2 ?_
  refine bw_aload0 F dX8_init_29 ?_
  refine bw_new (q := (3, 0, 0, 0)) (w := 1) F dX8_init_30 nc_3 cl_8_24 ni_3 df_3 (by decide +kernel) rfl (fun k => rfl) (fun k => rfl) ⟨fun x h => (by cases h; exact Or.inl (by decide +kernel)), trivial⟩ ⟨fun x h => (by cases h; exact Or.inl (by decide +kernel)), trivial⟩ (by omega) (by decide) (by decide) ?_
  refine bw_dupR F dX8_init_33 ?_
  refine bw_init F dX8_init_34 mi_8_26 (cn3_init 0 _ _ _ (by decide +kernel) (by decide +kernel) (by decide +kernel) (fun c r => by funext k; rfl) (fun c => by funext k; rfl)) ⟨fun x h => (by cases h; exact Or.inl (by decide +kernel)), trivial⟩ ⟨fun x h => (by cases h; exact Or.inl (by decide +kernel)), ⟨fun x h => (by cases h; exact Or.inl (by decide +kernel)), trivial⟩⟩ (Nat.le_of_ble_eq_true rfl) (by omega) (by omega) (by decide) (by decide) (fun σ9 h9 => ?_)
  subst h9
  refine bw_putR F dX8_init_37 fl_8_27 (fpr_8_3 hin) rfl (by decide +kernel) (by decide +kernel) rfl nz3 ?_
  refine bw_aload0 F dX8_init_40 ?_
  refine bw_new (q := (5, 0, 0, 0)) (w := 1) F dX8_init_41 nc_5 cl_8_31 ni_5 df_5 (by decide +kernel) rfl (fun k => rfl) (fun k => rfl) ⟨fun x h => (by cases h; exact Or.inl (by decide +kernel)), trivial⟩ ⟨fun x h => (by cases h; exact Or.inl (by decide +kernel)), trivial⟩ (by omega) (by decide) (by decide) ?_
  refine bw_dupR F dX8_init_44 ?_
  refine bw_init F dX8_init_45 mi_8_33 (cn5_init 0 _ _ _ (by decide +kernel) (by decide +kernel) (fun c => by funext k; rfl) (by funext k; rfl)) ⟨fun x h => (by cases h; exact Or.inl (by decide +kernel)), trivial⟩ ⟨fun x h => (by cases h; exact Or.inl (by decide +kernel)), ⟨fun x h => (by cases h; exact Or.inl (by decide +kernel)), trivial⟩⟩ (Nat.le_of_ble_eq_true rfl) (by omega) (by omega) (by decide) (by decide) (fun σ9 h9 => ?_)
  subst h9
  refine bw_putR F dX8_init_48 fl_8_34 (fpr_8_4 hin) rfl (by decide +kernel) (by decide +kernel) rfl nz4 ?_
  refine bw_aload0 F dX8_init_51 ?_
  refine bw_new (q := (5, 1, 0, 0)) (w := 1) F dX8_init_52 nc_5 cl_8_31 ni_5 df_5 (by decide +kernel) rfl (fun k => rfl) (fun k => rfl) ⟨fun x h => (by cases h; exact Or.inl (by decide +kernel)), trivial⟩ ⟨fun x h => (by cases h; exact Or.inl (by decide +kernel)), trivial⟩ (by omega) (by decide) (by decide) ?_
  refine bw_dupR F dX8_init_55 ?_
  refine bw_init F dX8_init_56 mi_8_33 (cn5_init 1 _ _ _ (by decide +kernel) (by decide +kernel) (fun c => by funext k; rfl) (by funext k; rfl)) ⟨fun x h => (by cases h; exact Or.inl (by decide +kernel)), trivial⟩ ⟨fun x h => (by cases h; exact Or.inl (by decide +kernel)), ⟨fun x h => (by cases h; exact Or.inl (by decide +kernel)), trivial⟩⟩ (Nat.le_of_ble_eq_true rfl) (by omega) (by omega) (by decide) (by decide) (fun σ9 h9 => ?_)
  subst h9
  refine bw_putR F dX8_init_59 fl_8_38 (fpr_8_5 hin) rfl (by decide +kernel) (by decide +kernel) rfl nz5 ?_
  refine bw_aload0 F dX8_init_62 ?_
  refine bw_new (q := (2, 0, 0, 0)) (w := 1) F dX8_init_63 nc_2 cl_8_41 ni_2 df_2 (by decide +kernel) rfl (fun k => rfl) (fun k => rfl) ⟨fun x h => (by cases h; exact Or.inl (by decide +kernel)), trivial⟩ ⟨fun x h => (by cases h; exact Or.inl (by decide +kernel)), trivial⟩ (by omega) (by decide) (by decide) ?_
  refine bw_dupR F dX8_init_66 ?_
  refine bw_init F dX8_init_67 mi_8_43 (cn2_init _ _ (fun c => by funext k; rfl) (fun c => by funext k; rfl) (fun n c => by funext k; simp [updM, setA, Z0, show ¬ (3 + (n : Int) = 1) by omega, show ¬ (3 + (n : Int) = 0) by omega, show ¬ (3 + (n : Int) = 2) by omega]) (fun n => by funext k; simp [updR, setR, N0, show ¬ (3 + (n : Int) = 1) by omega, show ¬ (3 + (n : Int) = 0) by omega, show ¬ (3 + (n : Int) = 2) by omega])) ⟨fun x h => (by cases h; exact Or.inl (by decide +kernel)), trivial⟩ ⟨fun x h => (by cases h; exact Or.inl (by decide +kernel)), ⟨fun x h => (by cases h; exact Or.inl (by decide +kernel)), trivial⟩⟩ (Nat.le_of_ble_eq_true rfl) (by omega) (by omega) (by decide) (by decide) (fun σ9 h9 => ?_)
  subst h9
  refine bw_putR F dX8_init_70 fl_8_44 (fpr_8_6 hin) rfl (by decide +kernel) (by decide +kernel) rfl nz6 ?_
  refine bw_aload0 F dX8_init_73 ?_
  refine bw_new (q := (1, 0, 0, 0)) (w := 1) F dX8_init_74 nc_1 cl_8_48 ni_1 df_1 (by decide +kernel) rfl (fun k => rfl) (fun k => rfl) ⟨fun x h => (by cases h; exact Or.inl (by decide +kernel)), trivial⟩ ⟨fun x h => (by cases h; exact Or.inl (by decide +kernel)), trivial⟩ (by omega) (by decide) (by decide) ?_
  refine bw_dupR F dX8_init_77 ?_
  refine bw_init F dX8_init_78 mi_8_50 (cn1_init 0 _ _ _ (by decide +kernel) (by decide +kernel) (fun c => by funext k; rfl) (by funext k; rfl)) ⟨fun x h => (by cases h; exact Or.inl (by decide +kernel)), trivial⟩ ⟨fun x h => (by cases h; exact Or.inl (by decide +kernel)), ⟨fun x h => (by cases h; exact Or.inl (by decide +kernel)), trivial⟩⟩ (Nat.le_of_ble_eq_true rfl) (by omega) (by omega) (by decide) (by decide) (fun σ9 h9 => ?_)
  subst h9
  refine bw_putR F dX8_init_81 fl_8_51 (fpr_8_7 hin) rfl (by decide +kernel) (by decide +kernel) rfl nz7 ?_
  refine bw_aload0 F dX8_init_84 ?_
  refine bw_new (q := (0, 0, 0, 0)) (w := 1) F dX8_init_85 nc_0 cl_8_55 ni_0 df_0 (by decide +kernel) rfl (fun k => rfl) (fun k => rfl) ⟨fun x h => (by cases h; exact Or.inl (by decide +kernel)), trivial⟩ ⟨fun x h => (by cases h; exact Or.inl (by decide +kernel)), trivial⟩ (by omega) (by decide) (by decide) ?_
  refine bw_dupR F dX8_init_88 ?_
  refine bw_init F dX8_init_89 mi_8_57 (cn0_init _ _ (fun c r => by funext k; rfl) (fun c => by funext k; rfl)) ⟨fun x h => (by cases h; exact Or.inl (by decide +kernel)), trivial⟩ ⟨fun x h => (by cases h; exact Or.inl (by decide +kernel)), ⟨fun x h => (by cases h; exact Or.inl (by decide +kernel)), trivial⟩⟩ (Nat.le_of_ble_eq_true rfl) (by omega) (by omega) (by decide) (by decide) (fun σ9 h9 => ?_)
  subst h9
  refine bw_putR F dX8_init_92 fl_8_58 (fpr_8_8 hin) rfl (by decide +kernel) (by decide +kernel) rfl nz8 ?_
  refine bw_aload0 F dX8_init_95 ?_
  refine bw_new (q := (7, 0, 0, 0)) (w := 1) F dX8_init_96 nc_7 cl_8_62 ni_7 df_7 (by decide +kernel) rfl (fun k => rfl) (fun k => rfl) ⟨fun x h => (by cases h; exact Or.inl (by decide +kernel)), trivial⟩ ⟨fun x h => (by cases h; exact Or.inl (by decide +kernel)), trivial⟩ (by omega) (by decide) (by decide) ?_
  refine bw_dupR F dX8_init_99 ?_
  refine bw_init F dX8_init_100 mi_8_64 (cn7_init _ _ (fun c r => by funext k; rfl) (fun c => by funext k; rfl) (fun c => by funext k; rfl) (by funext k; rfl)) ⟨fun x h => (by cases h; exact Or.inl (by decide +kernel)), trivial⟩ ⟨fun x h => (by cases h; exact Or.inl (by decide +kernel)), ⟨fun x h => (by cases h; exact Or.inl (by decide +kernel)), trivial⟩⟩ (Nat.le_of_ble_eq_true rfl) (by omega) (by omega) (by decide) (by decide) (fun σ9 h9 => ?_)
  subst h9
  refine bw_putR F dX8_init_103 fl_8_65 (fpr_8_9 hin) rfl (by decide +kernel) (by decide +kernel) rfl nz9 ?_
  refine bw_aload0 F dX8_init_106 ?_
  refine bw_new (q := (4, 0, 0, 0)) (w := 1) F dX8_init_107 nc_4 cl_8_69 ni_4 df_4 (by decide +kernel) rfl (fun k => rfl) (fun k => rfl) ⟨fun x h => (by cases h; exact Or.inl (by decide +kernel)), trivial⟩ ⟨fun x h => (by cases h; exact Or.inl (by decide +kernel)), trivial⟩ (by omega) (by decide) (by decide) ?_
  refine bw_dupR F dX8_init_110 ?_
  refine bw_init F dX8_init_111 mi_8_71 (cn4_init _ _ (fun c => by funext k; rfl) (by funext k; rfl)) ⟨fun x h => (by cases h; exact Or.inl (by decide +kernel)), trivial⟩ ⟨fun x h => (by cases h; exact Or.inl (by decide +kernel)), ⟨fun x h => (by cases h; exact Or.inl (by decide +kernel)), trivial⟩⟩ (Nat.le_of_ble_eq_true rfl) (by omega) (by omega) (by decide) (by decide) (fun σ9 h9 => ?_)
  subst h9
  refine bw_putR F dX8_init_114 fl_8_72 (fpr_8_10 hin) rfl (by decide +kernel) (by decide +kernel) rfl nz10 ?_
  refine bw_vret F dX8_init_117 (by decide) ?_
  rfl
