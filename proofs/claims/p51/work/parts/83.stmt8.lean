/-! 83: the class reads a statement; the reader's text -/
def FPB (t f : Nat) : Prop := ∀ r : vw_C, vwCl[t]? = some r → (r.2.1 f).2.2.2 = false ∧ parseFieldDescriptor (r.2.1 f).2.2.1 = some (.array .byte)
theorem fpb_6_4 : FPB 6 4 := fun r h => by cases h; exact ⟨rfl, by decide +kernel⟩
theorem R0_off {b : Bool} {q : Id4} {k : Int} (h : ¬ (q.1 = 6 ∧ q.2.2.1 = 0)) : R0 b q k = R0 true q k := by
  obtain ⟨t, i, c, r⟩ := q
  unfold R0
  dsimp only
  split <;> first | rfl | exact absurd ⟨rfl, rfl⟩ h
theorem Lall_6 : ∀ q ∈ Lall, q.1 = 6 → q.2.2.1 = 0 → q = (6, 0, 0, 0) := by decide +kernel
theorem ws_set2 {ρ : Id4 → Nat} {cy : Nat → ClassId} {L : List Id4} {σ σ' : Hp} {q : Id4} {i : Nat} (hn : L.Nodup) (hi : L[i]? = some q) {e : va_E} (he : ent ρ cy σ' q = e) (ho : ∀ q' ∈ L, q' ≠ q → ent ρ cy σ' q' = ent ρ cy σ q') : (wsOf ρ cy L σ).set i (ρ q, e) = wsOf ρ cy L σ' := by
  apply List.ext_getElem?
  intro j
  unfold wsOf
  by_cases hj : j = i
  · subst hj
    have hl := (List.getElem?_eq_some_iff.mp hi).1
    rw [List.getElem?_set_self (by simpa using hl), List.getElem?_map, hi, ← he]
    rfl
  · rw [List.getElem?_set_ne (Ne.symm hj), List.getElem?_map, List.getElem?_map]
    cases hq : L[j]? with
    | none => rfl
    | some q' =>
      have hne : q' ≠ q := by
        intro h
        subst h
        have h1 := (List.getElem?_eq_some_iff.mp hi)
        have h2 := (List.getElem?_eq_some_iff.mp hq)
        obtain ⟨l1, e1⟩ := h1
        obtain ⟨l2, e2⟩ := h2
        rcases Nat.lt_or_gt_of_ne hj with z | z
        · exact List.pairwise_iff_getElem.mp hn j i l2 l1 z (e2.trans e1.symm)
        · exact List.pairwise_iff_getElem.mp hn i j l1 l2 z (e1.trans e2.symm)
      show some (ρ q', ent ρ cy σ q') = some (ρ q', ent ρ cy σ' q')
      rw [ho q' (List.mem_of_getElem? hq) hne]
theorem fl_text {ρ : Id4 → Nat} {M : Id4 → Int → Int} {b : Bool} : ent ρ (fun _ => 0) (M, R0 true) (6, 0, 0, 0) = .inr (6, (flds ρ (M, R0 b) (6, 0, 0, 0) 6).set 4 (.ref (ρ (8, 0, 1, 0)))) := by
  cases b <;> rfl
theorem R0_ent {ρ : Id4 → Nat} {cy : Nat → ClassId} {M : Id4 → Int → Int} {b : Bool} : ∀ q ∈ Lall, q ≠ (6, 0, 0, 0) → ent ρ cy (M, R0 true) q = ent ρ cy (M, R0 b) q := fun q hq hne => by
  have e : ∀ k, R0 b q k = R0 true q k := fun k => R0_off (fun z => hne (Lall_6 q hq z.1 z.2))
  unfold ent flds arrs
  simp only [e]
section
variable {X : Cx} {K : Kx} {cc : ByteArray} {own : String} {ret : Option FieldType} {d U pc u : Nat} {lv st : List AV} {M : Id4 → Int → Int} {Rf : Id4 → Int → Option Id4} {Q : State → Prop} {tb : Bool}
theorem aw_putText {b : Bool} {idx : Nat} (F : Fx X K cc own ret d U tb) (hd : decode cc pc = .ok (.putfield idx, 3)) (hf : FL own idx 6 4) (k : AW X K (pc + 3) lv st (M, R0 true) u Q) : AW X K pc lv (aR (8, 0, 1, 0) :: aR (6, 0, 0, 0) :: st) (M, R0 b) u Q := by
  obtain ⟨p, l, e, R, s, m, args, below, meth, c⟩ := X
  obtain ⟨g, cy, A, nL, ρ, L⟩ := K
  obtain ⟨hx, hb, hml, hown, hts, hK, hnd, hD, hA, hlk, hret, hR, htr, hZ, hE⟩ := F
  obtain ⟨hE1, rfl⟩ := hE
  intro H locs ls hP hS hl
  obtain ⟨r, hr1, hr2, hr3, hr4⟩ := hf
  have hk : kd (6, 0, 0, 0) = .inl 6 := rfl
  obtain ⟨i, hi, hi2⟩ := ws_at (ρ := ρ) (cy := cy) (σ := (M, R0 b)) (memL (q := (6, 0, 0, 0)) (by rw [hk]; intro z; cases z) (by simp only [inB, cnt, rcnt]; omega))
  rw [ent_obj hk] at hi2
  obtain ⟨ty0, hty, hnm⟩ := (clsOK 6 r hr1).1
  obtain ⟨hg1, hg2⟩ := fpb_6_4 r hr1
  refine va_put (fs := flds ρ (M, R0 b) (6, 0, 0, 0) 6) hx hb hts (clsOK 6 r hr1).2 ty0 hty hnm hown hK hP (wsD hD (M, R0 b)) hS i hi2 hr1 4 hr2 (hts _ hr4) (fun _ h => h) hg1 hg2 rfl rfl (by rw [fl_len]; decide) hd (fun H1 locs1 hP1 hD1 hS1 => ?_)
  have e9 := ws_set2 (ρ := ρ) (cy := cy) (σ := (M, R0 b)) (σ' := (M, R0 true)) hnd hi (e := .inr (6, (flds ρ (M, R0 b) (6, 0, 0, 0) 6).set 4 (.ref (ρ (8, 0, 1, 0))))) fl_text R0_ent
  exact k H1 locs1 ls (e9 ▸ hP1) hS1 hl
end
theorem rc_01 {B : Int → Int} {n : Int} {M : Id4 → Int → Int} {r : PR} {v : Int} {σ' : Hp} (h : RCx B n M r v σ') : v = 0 ∨ v = 1 := by
  obtain ⟨M', -, -, h3⟩ := h
  rcases h3 with z | z
  · exact Or.inr z.2.1
  · exact Or.inl z.2.1
theorem ct6_readStatement (M : Id4 → Int → Int) (B S : Int → Int) (n i : Int) (hx : TX B n i) (hM : TC B n i M) (hC : CSx B n S (nxT B n i) M) (hO : Ok S) : CtI 6 0 yX6_readStatement cX6_readStatement 1 (some .boolean) [aR (6, 0, 0, 0)] (M, R0 true) (RCx B n M (bindP (stP1 B n S i) (closP B n))) := by
  refine CtI.mk (by decide +kernel) rfl (Nat.le_of_ble_eq_true rfl) (fun X K F hk => ?_)
  have hE := hO.2.1
  have hW := hO.2.2.1
  have p1 : M (5, 2, 0, 0) 1 = S 1 := hC.2.2.1.1.2.1
  have p2 : M (5, 2, 0, 0) 2 = S 20 := hC.2.2.1.1.2.2
  have kw : ∀ w, ¬ wdI B n i w = 0 → kdT B n i = 2 := fun w h => Classical.byContradiction fun z => h (wdI_0 (fun y => z y.1))
  refine aw_aload0 (pc := 0) F dX6_readStatement_0 ?_
  refine aw_ldcS F (tx := "event") (i := 1) dX6_readStatement_1 (by decide +kernel) ?_
  refine aw_pcallV1 (pc := 3) F dX6_readStatement_3 ml_6_76 rfl (by first | decide | (simp only [inB, cnt, rcnt]; omega)) (ct6_isWord _ B n i 1 (by decide) hC.1 hx hM) (Nat.le_of_ble_eq_true rfl) (by decide) (Nat.zero_le _) ?_
  refine aw_if_eq (tgt := 34) (pc := 6) F dX6_readStatement_6 (by decide) (by rcases wdI_01 (B := B) (n := n) (i := i) (w := ((1 : Nat) : Int)) with z | z <;> rw [z] <;> (unfold inR; decide)) (fun c6 => ?_) (fun c6 => ?_)
  · refine aw_aload0 (pc := 34) F dX6_readStatement_34 ?_
    refine aw_ldcS F (tx := "span") (i := 2) dX6_readStatement_35 (by decide +kernel) ?_
    refine aw_pcallV1 (pc := 37) F dX6_readStatement_37 ml_6_76 rfl (by first | decide | (simp only [inB, cnt, rcnt]; omega)) (ct6_isWord _ B n i 2 (by decide) hC.1 hx hM) (Nat.le_of_ble_eq_true rfl) (by decide) (Nat.zero_le _) ?_
    refine aw_if_eq (tgt := 68) (pc := 40) F dX6_readStatement_40 (by decide) (by rcases wdI_01 (B := B) (n := n) (i := i) (w := ((2 : Nat) : Int)) with z | z <;> rw [z] <;> (unfold inR; decide)) (fun c40 => ?_) (fun c40 => ?_)
    · refine aw_aload0 (pc := 68) F dX6_readStatement_68 ?_
      refine aw_callVI0 (pc := 69) F dX6_readStatement_69 ml_6_80 rfl (by first | decide | (simp only [inB, cnt, rcnt]; omega)) (ct6_unexpected _ _ B n i hM) (Nat.le_of_ble_eq_true rfl) (by decide) (Nat.zero_le _) (fun v9 σ9 h9_69 => ?_)
      obtain ⟨rfl, M3, rfl, c3, c4⟩ := h9_69
      exact aw_iret (pc := 72) F dX6_readStatement_72 (nar_bool (Or.inl rfl)) (Nat.zero_le _) (rc_bad (i := i) (w := 2) (by rw [show stP1 B n S i = badP B n i 2 from (if_neg (fun z => z c6)).trans (if_neg (fun z => z c40))]; exact bind_bad (badP_ne (by decide))) (by decide) c3.w c4)
    · refine aw_aload0 (pc := 43) F dX6_readStatement_43 ?_
      refine aw_getR (pc := 44) F dX6_readStatement_44 fl_6_12 rfl (by first | decide | (simp only [inB, cnt, rcnt]; omega)) rfl nz0 rfl ?_
      refine aw_getI (pc := 47) F dX6_readStatement_47 fl_6_103 rfl (by first | decide | (simp only [inB, cnt, rcnt]; omega)) rfl nz2 ?_
      refine aw_bipush (pc := 50) F dX6_readStatement_50 (by decide) ?_
      refine aw_icmp_ge (tgt := 62) (pc := 52) F dX6_readStatement_52 (by decide) (by unfold inR; omega) (by unfold inR; omega) (fun c52 => ?_) (fun c52 => ?_)
      · refine aw_aload0 (pc := 62) F dX6_readStatement_62 ?_
        refine aw_iconst (pc := 63) F dX6_readStatement_63 ?_
        refine aw_callVI1 (pc := 64) F dX6_readStatement_64 ml_6_97 rfl (by first | decide | (simp only [inB, cnt, rcnt]; omega)) (ct6_fail _ _ _) (Nat.le_of_ble_eq_true rfl) (by decide) (Nat.zero_le _) (fun v9 σ9 h9_64 => ?_)
        obtain ⟨rfl, rfl⟩ := h9_64
        exact aw_iret (pc := 67) F dX6_readStatement_67 (by first | exact nar_bool (rc_01 h9) | exact nar_bool (Or.inl rfl)) (Nat.zero_le _) (by
          have e1 : stP1 B n S i = spP B n S i := (if_neg (fun z => z c6)).trans (if_pos c40)
          first
          | (rw [e1]; exact h9)
          | (have e2 : spP B n S i = badP B n i 5 := if_pos (by omega)
             exact rc_bad (i := i) (w := 5) (by rw [e1, e2]; exact bind_bad (badP_ne (by decide))) (by decide) ((chZ.rf.up (by decide)).up (by decide)).w (tc_fail hM (by have := kw _ c40; omega))))
      · refine aw_aload0 (pc := 55) F dX6_readStatement_55 ?_
        refine aw_callVI0 (pc := 56) F dX6_readStatement_56 ml_6_106 rfl (by first | decide | (simp only [inB, cnt, rcnt]; omega)) (ct6_readSpan _ B S n i hx hC hO (by omega)) (Nat.le_of_ble_eq_true rfl) (by decide) (Nat.zero_le _) (fun v9 σ9 h9 => ?_)
        refine aw_goto (tgt := 67) (pc := 59) F dX6_readStatement_59 (by decide) ?_
        exact aw_iret (pc := 67) F dX6_readStatement_67 (by first | exact nar_bool (rc_01 h9) | exact nar_bool (Or.inl rfl)) (Nat.zero_le _) (by
          have e1 : stP1 B n S i = spP B n S i := (if_neg (fun z => z c6)).trans (if_pos c40)
          first
          | (rw [e1]; exact h9)
          | (have e2 : spP B n S i = badP B n i 5 := if_pos (by omega)
             exact rc_bad (i := i) (w := 5) (by rw [e1, e2]; exact bind_bad (badP_ne (by decide))) (by decide) ((chZ.rf.up (by decide)).up (by decide)).w (tc_fail hM (by have := kw _ c40; omega))))
  · refine aw_aload0 (pc := 9) F dX6_readStatement_9 ?_
    refine aw_getR (pc := 10) F dX6_readStatement_10 fl_6_12 rfl (by first | decide | (simp only [inB, cnt, rcnt]; omega)) rfl nz0 rfl ?_
    refine aw_getI (pc := 13) F dX6_readStatement_13 fl_6_91 rfl (by first | decide | (simp only [inB, cnt, rcnt]; omega)) rfl nz1 ?_
    refine aw_bipush (pc := 16) F dX6_readStatement_16 (by decide) ?_
    refine aw_icmp_ge (tgt := 28) (pc := 18) F dX6_readStatement_18 (by decide) (by unfold inR; omega) (by unfold inR; omega) (fun c18 => ?_) (fun c18 => ?_)
    · refine aw_aload0 (pc := 28) F dX6_readStatement_28 ?_
      refine aw_iconst (pc := 29) F dX6_readStatement_29 ?_
      refine aw_callVI1 (pc := 30) F dX6_readStatement_30 ml_6_97 rfl (by first | decide | (simp only [inB, cnt, rcnt]; omega)) (ct6_fail _ _ _) (Nat.le_of_ble_eq_true rfl) (by decide) (Nat.zero_le _) (fun v9 σ9 h9_30 => ?_)
      obtain ⟨rfl, rfl⟩ := h9_30
      exact aw_iret (pc := 33) F dX6_readStatement_33 (by first | exact nar_bool (rc_01 h9) | exact nar_bool (Or.inl rfl)) (Nat.zero_le _) (by
        have e1 : stP1 B n S i = evP B n S i := if_pos c6
        first
        | (rw [e1]; exact h9)
        | (have e2 : evP B n S i = badP B n i 5 := if_pos (by omega)
           exact rc_bad (i := i) (w := 5) (by rw [e1, e2]; exact bind_bad (badP_ne (by decide))) (by decide) ((chZ.rf.up (by decide)).up (by decide)).w (tc_fail hM (by have := kw _ c6; omega))))
    · refine aw_aload0 (pc := 21) F dX6_readStatement_21 ?_
      refine aw_callVI0 (pc := 22) F dX6_readStatement_22 ml_6_94 rfl (by first | decide | (simp only [inB, cnt, rcnt]; omega)) (ct6_readEvent _ B S n i hx hC hO (by omega)) (Nat.le_of_ble_eq_true rfl) (by decide) (Nat.zero_le _) (fun v9 σ9 h9 => ?_)
      refine aw_goto (tgt := 33) (pc := 25) F dX6_readStatement_25 (by decide) ?_
      exact aw_iret (pc := 33) F dX6_readStatement_33 (by first | exact nar_bool (rc_01 h9) | exact nar_bool (Or.inl rfl)) (Nat.zero_le _) (by
        have e1 : stP1 B n S i = evP B n S i := if_pos c6
        first
        | (rw [e1]; exact h9)
        | (have e2 : evP B n S i = badP B n i 5 := if_pos (by omega)
           exact rc_bad (i := i) (w := 5) (by rw [e1, e2]; exact bind_bad (badP_ne (by decide))) (by decide) ((chZ.rf.up (by decide)).up (by decide)).w (tc_fail hM (by have := kw _ c6; omega))))
