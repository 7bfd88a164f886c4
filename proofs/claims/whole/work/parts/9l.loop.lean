/-! 9l: the mean, the loop -/
theorem lc_16 {X : Cx} {K : Kx} {Ln : Nat} {xs : Nat → Int32} {U9 : Nat} (F : Fx X K cL_law RL (some .boolean) 60 U9 false) (hk : K.2.2.2.1 = 9) (hX : LX X K Ln xs) (hL : Ln ≤ 3072) (i : Int) (hi : 0 ≤ i ∧ i + 6 ≤ Ln) (M : Id4 → Int → Int) (b : Bool) (hI : INV M) (u : Nat) (hu : u + 8 ≤ U9) {Q : State → Prop} (head : HDL X K i u Q) : AW X K 867 (lvH i) [] (M, R0 b) u Q := by
  obtain ⟨st, h8, h9, hp⟩ := hI
  obtain ⟨V, hV, c8, c9⟩ := op_meanSlack M b st h8 hp
  refine aw_aload1 (pc := 867) F dL_law_867 ?_
  refine aw_callVF0 (pc := 868) F dL_law_868 ml_L_189 rfl (by first | decide | (simp only [inB, cnt, rcnt]; omega)) c8 (Nat.le_of_ble_eq_true rfl) (Nat.le_of_ble_eq_true rfl) (by omega) (fun v σ9 g9 => ?_)
  obtain ⟨M1, ge, i8, f9, hv⟩ := g9
  subst ge
  rw [hv]
  refine aw_f2d (pc := 871) F hV dL_law_871 ?_
  refine aw_dstore (pc := 872) F dL_law_872 (Nat.le_of_ble_eq_true rfl) (fun v h => by cases h; rfl) hk.symm ?_
  refine aw_aload2 (pc := 874) F dL_law_874 ?_
  refine aw_callVF0 (pc := 875) F dL_law_875 ml_L_193 rfl (by first | decide | (simp only [inB, cnt, rcnt]; omega)) (c9 M1 b (h9.f9 f9)) (Nat.le_of_ble_eq_true rfl) (Nat.le_of_ble_eq_true rfl) (by omega) (fun w σ9 g9 => ?_)
  obtain ⟨M2, ge, i9, f8, hw⟩ := g9
  subst ge
  rw [hw]
  refine aw_f2d (pc := 878) F hV dL_law_878 ?_
  refine aw_dstore (pc := 879) F dL_law_879 (Nat.le_of_ble_eq_true rfl) (fun v h => by cases h; rfl) hk.symm ?_
  refine aw_dload (pc := 881) F dL_law_881 rfl ?_
  refine aw_dload (pc := 883) F dL_law_883 rfl ?_
  refine aw_dcmp (pc := 885) F dL_law_885 (dcmp_id (f2d_val hV)) ?_
  refine aw_if_eq (tgt := 907) (pc := 886) F dL_law_886 (by decide) inR0 (fun _ => ?_) (fun c => absurd rfl c)
  refine aw_goto (tgt := 2535) (pc := 907) F dL_law_907 (by decide) ?_
  exact head.fin ⟨_, i8.f8 f8, i9, hp⟩ (by omega)
theorem law_loop {X : Cx} {K : Kx} {Ln : Nat} {xs : Nat → Int32} {U9 : Nat} (F : Fx X K cL_law RL (some .boolean) 60 U9 false) (hk : K.2.2.2.1 = 9) (hX : LX X K Ln xs) (hL : Ln ≤ 3072) {Q : State → Prop} (hend : ∀ (i : Int) (M : Id4 → Int → Int) (b : Bool) (u : Nat), u ≤ U9 → AW X K 2541 (lvH i) [] (M, R0 b) u Q) : ∀ (f : Nat) (i : Int) (M : Id4 → Int → Int) (b : Bool) (u : Nat), 0 ≤ i → i ≤ 4000 → (Ln : Int) - i < 6 * f → u + 8 * f ≤ U9 → INV M → AW X K 23 (lvH i) [] (M, R0 b) u Q := by
  intro f
  induction f with
  | zero =>
    intro i M b u i0 i9 h1 h2 hI
    refine aw_iload4 (pc := 23) F dL_law_23 ?_
    refine aw_aload0 (pc := 25) F dL_law_25 ?_
    refine aw_slen (pc := 26) F hX dL_law_26 ?_
    refine aw_bipush (pc := 27) F dL_law_27 (by decide) ?_
    refine aw_isub (pc := 29) F dL_law_29 ?_
    refine aw_icmp_gt (tgt := 2541) (pc := 30) F dL_law_30 (by decide) (by unfold inR; omega) (by unfold inR; omega) (fun c => ?_) (fun c => ?_)
    · exact hend i M b u (by omega)
    · exfalso; omega
  | succ f ih =>
    intro i M b u i0 i9 h1 h2 hI
    refine aw_iload4 (pc := 23) F dL_law_23 ?_
    refine aw_aload0 (pc := 25) F dL_law_25 ?_
    refine aw_slen (pc := 26) F hX dL_law_26 ?_
    refine aw_bipush (pc := 27) F dL_law_27 (by decide) ?_
    refine aw_isub (pc := 29) F dL_law_29 ?_
    refine aw_icmp_gt (tgt := 2541) (pc := 30) F dL_law_30 (by decide) (by unfold inR; omega) (by unfold inR; omega) (fun c => ?_) (fun c => ?_)
    · exact hend i M b u (by omega)
    · have hi : 0 ≤ i ∧ i + 6 ≤ Ln := by omega
      have head : HDL X K i u Q := fun M' b' u' hI' hu' => by
        refine aw_iinc4 (pc := 2535) F dL_law_2535 rfl hk.symm ?_
        refine aw_goto (tgt := 23) (pc := 2538) F dL_law_2538 (by decide) ?_
        exact ih (i + 6) M' b' u' (by omega) (by omega) (by omega) (by omega) hI'
      refine aw_aload0 (pc := 33) F dL_law_33 ?_
      refine aw_iload4 (pc := 34) F dL_law_34 ?_
      refine aw_sld (pc := 36) F hX dL_law_36 (by omega) hL ?_
      refine aw_bipush (pc := 37) F dL_law_37 (by decide) ?_
      refine aw_iand (pc := 39) F dL_law_39 ?_
      obtain ⟨v, hv⟩ : ∃ v, v = bAnd (sI xs i) 63 := ⟨_, rfl⟩
      have vR : inR v := by rw [hv]; exact inR_toInt _
      rw [← hv]
      by_cases z : v < 0 ∨ 47 < v
      · refine aw_tabOut (tgt := 2535) (pc := 40) F dL_law_40 vR z (by decide) ?_
        exact head.fin hI (by omega)
      · have hu8 : u + 8 ≤ U9 := by omega
        rcases (show v = 0 ∨ v = 1 ∨ v = 2 ∨ v = 3 ∨ v = 4 ∨ v = 5 ∨ v = 6 ∨ v = 7 ∨ v = 8 ∨ v = 9 ∨ v = 10 ∨ v = 11 ∨ v = 12 ∨ v = 13 ∨ v = 14 ∨ v = 15 ∨ v = 16 ∨ v = 17 ∨ v = 18 ∨ v = 19 ∨ v = 20 ∨ v = 21 ∨ v = 22 ∨ v = 23 ∨ v = 24 ∨ v = 25 ∨ v = 26 ∨ v = 27 ∨ v = 28 ∨ v = 29 ∨ v = 30 ∨ v = 31 ∨ v = 32 ∨ v = 33 ∨ v = 34 ∨ v = 35 ∨ v = 36 ∨ v = 37 ∨ v = 38 ∨ v = 39 ∨ v = 40 ∨ v = 41 ∨ v = 42 ∨ v = 43 ∨ v = 44 ∨ v = 45 ∨ v = 46 ∨ v = 47 by omega) with c | c | c | c | c | c | c | c | c | c | c | c | c | c | c | c | c | c | c | c | c | c | c | c | c | c | c | c | c | c | c | c | c | c | c | c | c | c | c | c | c | c | c | c | c | c | c | c
        · refine aw_tabIn (tgt := 248) (pc := 40) F dL_law_40 vR (by omega) (by rw [c]; rfl) (by decide) ?_
          exact lc_0 F hk hX hL i hi M b hI u hu8 head
        · refine aw_tabIn (tgt := 321) (pc := 40) F dL_law_40 vR (by omega) (by rw [c]; rfl) (by decide) ?_
          exact lc_1 F hk hX hL i hi M b hI u hu8 head
        · refine aw_tabIn (tgt := 377) (pc := 40) F dL_law_40 vR (by omega) (by rw [c]; rfl) (by decide) ?_
          exact lc_2 F hk hX hL i hi M b hI u hu8 head
        · refine aw_tabIn (tgt := 390) (pc := 40) F dL_law_40 vR (by omega) (by rw [c]; rfl) (by decide) ?_
          exact lc_3 F hk hX hL i hi M b hI u hu8 head
        · refine aw_tabIn (tgt := 403) (pc := 40) F dL_law_40 vR (by omega) (by rw [c]; rfl) (by decide) ?_
          exact lc_4 F hk hX hL i hi M b hI u hu8 head
        · refine aw_tabIn (tgt := 416) (pc := 40) F dL_law_40 vR (by omega) (by rw [c]; rfl) (by decide) ?_
          exact lc_5 F hk hX hL i hi M b hI u hu8 head
        · refine aw_tabIn (tgt := 429) (pc := 40) F dL_law_40 vR (by omega) (by rw [c]; rfl) (by decide) ?_
          exact lc_6 F hk hX hL i hi M b hI u hu8 head
        · refine aw_tabIn (tgt := 442) (pc := 40) F dL_law_40 vR (by omega) (by rw [c]; rfl) (by decide) ?_
          exact lc_7 F hk hX hL i hi M b hI u hu8 head
        · refine aw_tabIn (tgt := 498) (pc := 40) F dL_law_40 vR (by omega) (by rw [c]; rfl) (by decide) ?_
          exact lc_8 F hk hX hL i hi M b hI u hu8 head
        · refine aw_tabIn (tgt := 554) (pc := 40) F dL_law_40 vR (by omega) (by rw [c]; rfl) (by decide) ?_
          exact lc_9 F hk hX hL i hi M b hI u hu8 head
        · refine aw_tabIn (tgt := 622) (pc := 40) F dL_law_40 vR (by omega) (by rw [c]; rfl) (by decide) ?_
          exact lc_10 F hk hX hL i hi M b hI u hu8 head
        · refine aw_tabIn (tgt := 678) (pc := 40) F dL_law_40 vR (by omega) (by rw [c]; rfl) (by decide) ?_
          exact lc_11 F hk hX hL i hi M b hI u hu8 head
        · refine aw_tabIn (tgt := 734) (pc := 40) F dL_law_40 vR (by omega) (by rw [c]; rfl) (by decide) ?_
          exact lc_12 F hk hX hL i hi M b hI u hu8 head
        · refine aw_tabIn (tgt := 797) (pc := 40) F dL_law_40 vR (by omega) (by rw [c]; rfl) (by decide) ?_
          exact lc_13 F hk hX hL i hi M b hI u hu8 head
        · refine aw_tabIn (tgt := 810) (pc := 40) F dL_law_40 vR (by omega) (by rw [c]; rfl) (by decide) ?_
          exact lc_14 F hk hX hL i hi M b hI u hu8 head
        · refine aw_tabIn (tgt := 854) (pc := 40) F dL_law_40 vR (by omega) (by rw [c]; rfl) (by decide) ?_
          exact lc_15 F hk hX hL i hi M b hI u hu8 head
        · refine aw_tabIn (tgt := 867) (pc := 40) F dL_law_40 vR (by omega) (by rw [c]; rfl) (by decide) ?_
          exact lc_16 F hk hX hL i hi M b hI u hu8 head
        · refine aw_tabIn (tgt := 910) (pc := 40) F dL_law_40 vR (by omega) (by rw [c]; rfl) (by decide) ?_
          exact lc_17 F hk hX hL i hi M b hI u hu8 head
        · refine aw_tabIn (tgt := 1006) (pc := 40) F dL_law_40 vR (by omega) (by rw [c]; rfl) (by decide) ?_
          exact lc_18 F hk hX hL i hi M b hI u hu8 head
        · refine aw_tabIn (tgt := 1093) (pc := 40) F dL_law_40 vR (by omega) (by rw [c]; rfl) (by decide) ?_
          exact lc_19 F hk hX hL i hi M b hI u hu8 head
        · refine aw_tabIn (tgt := 1106) (pc := 40) F dL_law_40 vR (by omega) (by rw [c]; rfl) (by decide) ?_
          exact lc_20 F hk hX hL i hi M b hI u hu8 head
        · refine aw_tabIn (tgt := 1119) (pc := 40) F dL_law_40 vR (by omega) (by rw [c]; rfl) (by decide) ?_
          exact lc_21 F hk hX hL i hi M b hI u hu8 head
        · refine aw_tabIn (tgt := 1203) (pc := 40) F dL_law_40 vR (by omega) (by rw [c]; rfl) (by decide) ?_
          exact lc_22 F hk hX hL i hi M b hI u hu8 head
        · refine aw_tabIn (tgt := 1216) (pc := 40) F dL_law_40 vR (by omega) (by rw [c]; rfl) (by decide) ?_
          exact lc_23 F hk hX hL i hi M b hI u hu8 head
        · refine aw_tabIn (tgt := 1272) (pc := 40) F dL_law_40 vR (by omega) (by rw [c]; rfl) (by decide) ?_
          exact lc_24 F hk hX hL i hi M b hI u hu8 head
        · refine aw_tabIn (tgt := 1340) (pc := 40) F dL_law_40 vR (by omega) (by rw [c]; rfl) (by decide) ?_
          exact lc_25 F hk hX hL i hi M b hI u hu8 head
        · refine aw_tabIn (tgt := 1415) (pc := 40) F dL_law_40 vR (by omega) (by rw [c]; rfl) (by decide) ?_
          exact lc_26 F hk hX hL i hi M b hI u hu8 head
        · refine aw_tabIn (tgt := 1483) (pc := 40) F dL_law_40 vR (by omega) (by rw [c]; rfl) (by decide) ?_
          exact lc_27 F hk hX hL i hi M b hI u hu8 head
        · refine aw_tabIn (tgt := 1527) (pc := 40) F dL_law_40 vR (by omega) (by rw [c]; rfl) (by decide) ?_
          exact lc_28 F hk hX hL i hi M b hI u hu8 head
        · refine aw_tabIn (tgt := 1540) (pc := 40) F dL_law_40 vR (by omega) (by rw [c]; rfl) (by decide) ?_
          exact lc_29 F hk hX hL i hi M b hI u hu8 head
        · refine aw_tabIn (tgt := 1584) (pc := 40) F dL_law_40 vR (by omega) (by rw [c]; rfl) (by decide) ?_
          exact lc_30 F hk hX hL i hi M b hI u hu8 head
        · refine aw_tabIn (tgt := 1652) (pc := 40) F dL_law_40 vR (by omega) (by rw [c]; rfl) (by decide) ?_
          exact lc_31 F hk hX hL i hi M b hI u hu8 head
        · refine aw_tabIn (tgt := 1708) (pc := 40) F dL_law_40 vR (by omega) (by rw [c]; rfl) (by decide) ?_
          exact lc_32 F hk hX hL i hi M b hI u hu8 head
        · refine aw_tabIn (tgt := 1771) (pc := 40) F dL_law_40 vR (by omega) (by rw [c]; rfl) (by decide) ?_
          exact lc_33 F hk hX hL i hi M b hI u hu8 head
        · refine aw_tabIn (tgt := 1839) (pc := 40) F dL_law_40 vR (by omega) (by rw [c]; rfl) (by decide) ?_
          exact lc_34 F hk hX hL i hi M b hI u hu8 head
        · refine aw_tabIn (tgt := 1907) (pc := 40) F dL_law_40 vR (by omega) (by rw [c]; rfl) (by decide) ?_
          exact lc_35 F hk hX hL i hi M b hI u hu8 head
        · refine aw_tabIn (tgt := 1932) (pc := 40) F dL_law_40 vR (by omega) (by rw [c]; rfl) (by decide) ?_
          exact lc_36 F hk hX hL i hi M b hI u hu8 head
        · refine aw_tabIn (tgt := 2012) (pc := 40) F dL_law_40 vR (by omega) (by rw [c]; rfl) (by decide) ?_
          exact lc_37 F hk hX hL i hi M b hI u hu8 head
        · refine aw_tabIn (tgt := 2080) (pc := 40) F dL_law_40 vR (by omega) (by rw [c]; rfl) (by decide) ?_
          exact lc_38 F hk hX hL i hi M b hI u hu8 head
        · refine aw_tabIn (tgt := 2184) (pc := 40) F dL_law_40 vR (by omega) (by rw [c]; rfl) (by decide) ?_
          exact lc_39 F hk hX hL i hi M b hI u hu8 head
        · refine aw_tabIn (tgt := 2240) (pc := 40) F dL_law_40 vR (by omega) (by rw [c]; rfl) (by decide) ?_
          exact lc_40 F hk hX hL i hi M b hI u hu8 head
        · refine aw_tabIn (tgt := 2296) (pc := 40) F dL_law_40 vR (by omega) (by rw [c]; rfl) (by decide) ?_
          exact lc_41 F hk hX hL i hi M b hI u hu8 head
        · refine aw_tabIn (tgt := 2340) (pc := 40) F dL_law_40 vR (by omega) (by rw [c]; rfl) (by decide) ?_
          exact lc_42 F hk hX hL i hi M b hI u hu8 head
        · refine aw_tabIn (tgt := 2384) (pc := 40) F dL_law_40 vR (by omega) (by rw [c]; rfl) (by decide) ?_
          exact lc_43 F hk hX hL i hi M b hI u hu8 head
        · refine aw_tabIn (tgt := 2397) (pc := 40) F dL_law_40 vR (by omega) (by rw [c]; rfl) (by decide) ?_
          exact lc_44 F hk hX hL i hi M b hI u hu8 head
        · refine aw_tabIn (tgt := 2410) (pc := 40) F dL_law_40 vR (by omega) (by rw [c]; rfl) (by decide) ?_
          exact lc_45 F hk hX hL i hi M b hI u hu8 head
        · refine aw_tabIn (tgt := 2423) (pc := 40) F dL_law_40 vR (by omega) (by rw [c]; rfl) (by decide) ?_
          exact lc_46 F hk hX hL i hi M b hI u hu8 head
        · refine aw_tabIn (tgt := 2479) (pc := 40) F dL_law_40 vR (by omega) (by rw [c]; rfl) (by decide) ?_
          exact lc_47 F hk hX hL i hi M b hI u hu8 head
