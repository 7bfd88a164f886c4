/-! 51: the class closes its cycles, and answers about them -/
theorem clo_stable {S : Int → Int} {n : Nat} {c : Int} (h0 : 0 ≤ c) (h1 : c < cyN S n) : ∀ m : Nat, n ≤ m → cloS S m c = cloS S n c ∧ c < cyN S m
  | 0, hm => by
    obtain rfl : n = 0 := by omega
    exact ⟨rfl, h1⟩
  | m + 1, hm => by
    by_cases e : n = m + 1
    · rw [e] at h1 ⊢; exact ⟨rfl, h1⟩
    · obtain ⟨q1, q2⟩ := clo_stable h0 h1 m (by omega)
      show (if tre S m then cloS S m else upS (cloS S m) (cyN S m) m) c = _ ∧ c < cyN S m + (if tre S m then 0 else 1)
      by_cases t : tre S m
      · rw [if_pos t, if_pos t]; exact ⟨q1, by omega⟩
      · rw [if_neg t, if_neg t, upS_ne (by omega)]; exact ⟨q1, by omega⟩
noncomputable def cyG (S : Int → Int) (c : Int) (i : Nat) : Int := if cyB S c i = 0 then -1 else 1
/-- cycle c lies there -/
def cyR (S : Int → Int) (M : Id4 → Int → Int) (c : Int) : Prop := M (0, 0, 2, 0) c = (cyL S c : Int) ∧ ∀ i : Nat, i < cyL S c → M (0, 0, 13, c) i = cyK S c i ∧ M (0, 0, 14, c) i = cyG S c i
/-- the class of cycles alone -/
def same0 (M M' : Id4 → Int → Int) : Prop := ∀ q, ¬ q.1 = 0 → M' q = M q
theorem same0.rf {M : Id4 → Int → Int} : same0 M M := fun _ _ => rfl
theorem same0.tr {M M1 M2 : Id4 → Int → Int} (h1 : same0 M M1) (h2 : same0 M1 M2) : same0 M M2 := fun q h => (h2 q h).trans (h1 q h)
theorem same0.up {M M1 : Id4 → Int → Int} {i : Int} {c : Nat} {r k v : Int} (h1 : same0 M M1) : same0 M (updM M1 (0, i, c, r) k v) := fun q h => (upd_off (fun z => h (by rw [z]))).trans (h1 q h)
theorem same0.st {M M1 : Id4 → Int → Int} {i : Int} {c : Nat} {r : Int} {A : Int → Int} (h1 : same0 M M1) : same0 M (setA M1 (0, i, c, r) A) := fun q h => (setA_ne (fun z => h (by rw [z]))).trans (h1 q h)
theorem same0.s8 {M M' : Id4 → Int → Int} (h : same0 M M') : same8 M M' := fun q z => h q (fun y => z (Or.inl y))
theorem same0.pl {M M' : Id4 → Int → Int} {S : Int → Int} (h : same0 M M') (hR : plR M 0 S) : plR M' 0 S := pl_eq (fun c => h _ (by simp)) hR
theorem ct0_closeWith (M : Id4 → Int → Int) (b9 : Bool) (S : Int → Int) (n : Nat) (c : Int) (hR : plR M 0 S) (h : Ok S) (hn : (n : Int) < S 20) (ht : ¬ tre S n) (hc : M (0, 0, 0, 0) 0 = c) (hcn : c = cyN S n) (hw : FW S n (frS S n) (M (0, 0, 6, 0))) : CtV 1 0 yX0_closeWith cX0_closeWith 7 none [aR (0, 0, 0, 0), aR (5, 0, 0, 0), aI n] (M, R0 b9) (fun σ' => ∃ M', σ' = (M', R0 b9) ∧ same0 M M' ∧ M' (0, 0, 5, 0) = M (0, 0, 5, 0) ∧ M' (0, 0, 0, 0) 0 = c + 1 ∧ cyR S M' c ∧ ∀ x, x ≠ c → M' (0, 0, 2, 0) x = M (0, 0, 2, 0) x ∧ M' (0, 0, 13, x) = M (0, 0, 13, x) ∧ M' (0, 0, 14, x) = M (0, 0, 14, x)) := by
  refine CtV.mk (by decide +kernel) rfl (Nat.le_of_ble_eq_true rfl) (fun X K F hk => ?_)
  have hN := h.2.2.1
  have hE := h.2.1
  have cb := cyN_bd (S := S) n
  obtain ⟨tb, fb, tf⟩ := ends_in h hn (Or.inl ⟨rfl, rfl⟩ : (frS S n = frS S n ∧ toS S n = toS S n) ∨ (toS S n = frS S n ∧ frS S n = toS S n))
  obtain ⟨d, w1, w2, w3⟩ := hw
  obtain ⟨W, hW⟩ : ∃ W, W = M (0, 0, 6, 0) := ⟨_, rfl⟩
  rw [← hW] at w1 w2 w3
  have e12 : cyN S (n + 1) = c + 1 := by rw [hcn]; show cyN S n + (if tre S n then 0 else 1) = _; rw [if_neg ht]
  have st := clo_stable (S := S) (n := n + 1) (c := c) (by omega) (by omega) (S 20).toNat (by omega)
  have ck : ckS S c = n := by
    show cloS S (S 20).toNat c = n
    rw [st.1]
    show (if tre S n then cloS S n else upS (cloS S n) (cyN S n) n) c = n
    rw [if_neg ht, hcn, upS_same]
  have c1 : c < cyM S := st.2
  have ag : ∀ v, 0 ≤ v → v < S 1 → W v ≠ -1 → wyS S (frS S n) v = W v ∧ dpS S (frS S n) v = d v := fun v v0 v1 vW => ws_agr h (by omega) (by omega) w1 (wy_is h fb.1 fb.2) (d v) v (Nat.le_refl _) v0 v1 vW
  have tW : W (toS S n) ≠ -1 := (w3 _ tb.1 tb.2).mpr (Classical.not_not.mp ht).symm
  have t8 : wyS S (frS S n) (toS S n) ≠ -1 := by rw [(ag _ tb.1 tb.2 tW).1]; exact tW
  obtain ⟨D, hD⟩ : ∃ D, D = dpS S (frS S n) (toS S n) := ⟨_, rfl⟩
  have Db := dp_bd h fb.1 fb.2 tb.1 tb.2 t8
  rw [← hD] at Db
  have eL : cyL S c = D + 1 := by unfold cyL; rw [ck, ← hD]
  have pvr : ∀ i : Nat, i ≤ D → W (pvS S (frS S n) (toS S n) i) ≠ -1 := by
    intro i
    induction i with
    | zero => intro _; exact tW
    | succ i ih =>
      intro hi
      have iW := ih (by omega)
      obtain ⟨a1, ⟨a2, a3⟩, a4⟩ := pv_d h fb.1 fb.2 tb.1 tb.2 t8 i (by omega)
      have ng : pvS S (frS S n) (toS S n) i ≠ frS S n := fun z => by
        have := (dp_0 h fb.1 fb.2 a2 a3 a4).mpr z
        omega
      obtain ⟨k, q1, q2, q3, u, q4, q5, q6⟩ := w1.2 _ a2 a3 ng iW
      have e : othS S k (pvS S (frS S n) (toS S n) i) = u := by
        obtain ⟨-, -, uv⟩ := ends_in h (show (k : Int) < S 20 by omega) q4
        unfold othS
        rcases q4 with ⟨x1, x2⟩ | ⟨x1, x2⟩
        · rw [if_pos x1, x2]
        · rw [if_neg (by rw [x2]; exact uv), x2]
      show W (othS S (wyS S (frS S n) (pvS S (frS S n) (toS S n) i)) _) ≠ -1
      rw [(ag _ a2 a3 iW).1, q1, e]
      exact q5
  have p1 := hR.2.2 n (by omega) hn
  have ptn : M (5, 0, 6, 0) n = toS S n := p1.2.1
  obtain ⟨Q9, hQ⟩ : ∃ Q9, Q9 = EV X K 0 (fun σ' => ∃ M', σ' = (M', R0 b9) ∧ same0 M M' ∧ M' (0, 0, 5, 0) = M (0, 0, 5, 0) ∧ M' (0, 0, 0, 0) 0 = c + 1 ∧ cyR S M' c ∧ ∀ x, x ≠ c → M' (0, 0, 2, 0) x = M (0, 0, 2, 0) x ∧ M' (0, 0, 13, x) = M (0, 0, 13, x) ∧ M' (0, 0, 14, x) = M (0, 0, 14, x)) := ⟨_, rfl⟩
  have key : ∀ (j i : Nat) (M' : Id4 → Int → Int) (w5 w6 : AV), i + j = D → wide w5 = false → wide w6 = false → same0 M M' → M' (0, 0, 5, 0) = M (0, 0, 5, 0) → M' (0, 0, 6, 0) = W → M' (0, 0, 0, 0) 0 = c → (∀ k : Nat, k < i + 1 → M' (0, 0, 13, c) k = cyK S c k ∧ M' (0, 0, 14, c) k = cyG S c k) → (∀ x, M' (0, 0, 2, 0) x = M (0, 0, 2, 0) x) → (∀ x, x ≠ c → M' (0, 0, 13, x) = M (0, 0, 13, x) ∧ M' (0, 0, 14, x) = M (0, 0, 14, x)) → AW X K 34 [aR (0, 0, 0, 0), aR (5, 0, 0, 0), aI n, aI ((i + 1 : Nat) : Int), aI (pvS S (frS S n) (toS S n) i), w5, w6] [] (M', R0 b9) 0 Q9 := by
    intro j
    induction j with
    | zero =>
      intro i M' w5 w6 hi g5 g6 a1 a2 a3 a4 a5 a6 a7
      obtain rfl : i = D := by omega
      obtain ⟨x1, ⟨x2, x3⟩, x4⟩ := pv_d h fb.1 fb.2 tb.1 tb.2 t8 i (by omega)
      have pg : pvS S (frS S n) (toS S n) i = frS S n := (dp_0 h fb.1 fb.2 x2 x3 x4).mp (by omega)
      have Wg : M' (0, 0, 6, 0) (pvS S (frS S n) (toS S n) i) = -2 := by rw [a3, pg]; exact w1.1.1
      refine aw_iload3 (pc := 34) F dX0_closeWith_34 ?_
      refine aw_bipush (pc := 35) F dX0_closeWith_35 (by decide) ?_
      refine aw_icmp_ge (tgt := 142) (pc := 37) F dX0_closeWith_37 (by decide) (by unfold inR; omega) (by unfold inR; omega) (fun c37 => ?_) (fun c37 => ?_)
      · refine aw_aload0 (pc := 142) F dX0_closeWith_142 ?_
        refine aw_getR (pc := 143) F dX0_closeWith_143 fl_0_15 rfl (by first | decide | (simp only [inB, cnt, rcnt]; omega)) rfl nz1 rfl ?_
        refine aw_aload0 (pc := 146) F dX0_closeWith_146 ?_
        refine aw_getI (pc := 147) F dX0_closeWith_147 fl_0_9 rfl (by first | decide | (simp only [inB, cnt, rcnt]; omega)) rfl nz0 ?_
        refine aw_iload3 (pc := 150) F dX0_closeWith_150 ?_
        rw [a4]
        refine aw_iast (pc := 151) F dX0_closeWith_151 rfl (by first | decide | (simp only [inB, cnt, rcnt]; omega)) (by omega) ?_
        refine aw_aload0 (pc := 152) F dX0_closeWith_152 ?_
        refine aw_dupR (pc := 153) F dX0_closeWith_153 ?_
        refine aw_getI (pc := 154) F dX0_closeWith_154 fl_0_9 rfl (by first | decide | (simp only [inB, cnt, rcnt]; omega)) rfl nz0 ?_
        refine aw_iconst (pc := 157) F dX0_closeWith_157 ?_
        refine aw_iadd (pc := 158) F dX0_closeWith_158 ?_
        refine aw_putI (pc := 159) F dX0_closeWith_159 fl_0_9 fpi_0_0 rfl (by first | decide | (simp only [inB, cnt, rcnt]; omega)) rfl nz0 ?_
        rw [hQ]
        exact aw_vret (pc := 162) F dX0_closeWith_162 (Nat.zero_le _) ⟨_, rfl, (a1.up).up, by rw [upd_off (by decide), upd_off (by decide)]; exact a2, by rw [upd_same, upd_ne (Or.inl (by decide)), a4], ⟨by rw [upd_ne (Or.inl (by decide)), upd_same, eL], fun k hk1 => by rw [upd_off (by simp), upd_off (by simp), upd_off (by simp), upd_off (by simp)]; exact a5 k (by omega)⟩, fun x hx => ⟨by rw [upd_ne (Or.inl (by decide)), upd_ne (Or.inr hx)]; exact a6 x, by rw [upd_off (by simp), upd_off (by simp)]; exact (a7 x hx).1, by rw [upd_off (by simp), upd_off (by simp)]; exact (a7 x hx).2⟩⟩
      · refine aw_aload0 (pc := 40) F dX0_closeWith_40 ?_
        refine aw_getR (pc := 41) F dX0_closeWith_41 fl_0_31 rfl (by first | decide | (simp only [inB, cnt, rcnt]; omega)) rfl nz5 rfl ?_
        refine aw_iload4 (pc := 44) F dX0_closeWith_44 ?_
        refine aw_iald (pc := 46) F dX0_closeWith_46 rfl (by first | decide | (simp only [inB, cnt, rcnt]; omega)) (by omega) ?_
        refine aw_if_lt (tgt := 142) (pc := 47) F dX0_closeWith_47 (by decide) (by rw [Wg]; unfold inR; decide) (fun c47 => ?_) (fun c47 => ?_)
        · refine aw_aload0 (pc := 142) F dX0_closeWith_142 ?_
          refine aw_getR (pc := 143) F dX0_closeWith_143 fl_0_15 rfl (by first | decide | (simp only [inB, cnt, rcnt]; omega)) rfl nz1 rfl ?_
          refine aw_aload0 (pc := 146) F dX0_closeWith_146 ?_
          refine aw_getI (pc := 147) F dX0_closeWith_147 fl_0_9 rfl (by first | decide | (simp only [inB, cnt, rcnt]; omega)) rfl nz0 ?_
          refine aw_iload3 (pc := 150) F dX0_closeWith_150 ?_
          rw [a4]
          refine aw_iast (pc := 151) F dX0_closeWith_151 rfl (by first | decide | (simp only [inB, cnt, rcnt]; omega)) (by omega) ?_
          refine aw_aload0 (pc := 152) F dX0_closeWith_152 ?_
          refine aw_dupR (pc := 153) F dX0_closeWith_153 ?_
          refine aw_getI (pc := 154) F dX0_closeWith_154 fl_0_9 rfl (by first | decide | (simp only [inB, cnt, rcnt]; omega)) rfl nz0 ?_
          refine aw_iconst (pc := 157) F dX0_closeWith_157 ?_
          refine aw_iadd (pc := 158) F dX0_closeWith_158 ?_
          refine aw_putI (pc := 159) F dX0_closeWith_159 fl_0_9 fpi_0_0 rfl (by first | decide | (simp only [inB, cnt, rcnt]; omega)) rfl nz0 ?_
          rw [hQ]
          exact aw_vret (pc := 162) F dX0_closeWith_162 (Nat.zero_le _) ⟨_, rfl, (a1.up).up, by rw [upd_off (by decide), upd_off (by decide)]; exact a2, by rw [upd_same, upd_ne (Or.inl (by decide)), a4], ⟨by rw [upd_ne (Or.inl (by decide)), upd_same, eL], fun k hk1 => by rw [upd_off (by simp), upd_off (by simp), upd_off (by simp), upd_off (by simp)]; exact a5 k (by omega)⟩, fun x hx => ⟨by rw [upd_ne (Or.inl (by decide)), upd_ne (Or.inr hx)]; exact a6 x, by rw [upd_off (by simp), upd_off (by simp)]; exact (a7 x hx).1, by rw [upd_off (by simp), upd_off (by simp)]; exact (a7 x hx).2⟩⟩
        · omega
    | succ j ih =>
      intro i M' w5 w6 hi g5 g6 a1 a2 a3 a4 a5 a6 a7
      obtain ⟨x1, ⟨x2, x3⟩, x4⟩ := pv_d h fb.1 fb.2 tb.1 tb.2 t8 i (by omega)
      have ng : pvS S (frS S n) (toS S n) i ≠ frS S n := fun z => by
        have := (dp_0 h fb.1 fb.2 x2 x3 x4).mpr z
        omega
      obtain ⟨k, q1, q2, q3, q4, q5, q6, q7⟩ := wy_step h fb.1 fb.2 x2 x3 ng x4
      have ek : cyK S c (i + 1) = k := by
        show wyS S (frS S (ckS S c)) (pvS S (frS S (ckS S c)) (toS S (ckS S c)) i) = k
        rw [ck]; exact q1
      have eb : cyB S c (i + 1) = b2i (frS S k = pvS S (frS S n) (toS S n) i) := by
        show b2i (frS S (cyK S c (i + 1)) = pvS S (frS S (ckS S c)) (toS S (ckS S c)) i) = _
        rw [ek, ck]
      have ev : pvS S (frS S n) (toS S n) (i + 1) = othS S k (pvS S (frS S n) (toS S n) i) := by
        show othS S (wyS S (frS S n) (pvS S (frS S n) (toS S n) i)) _ = _
        rw [q1]
      have Wk : M' (0, 0, 6, 0) (pvS S (frS S n) (toS S n) i) = k := by rw [a3, ← (ag _ x2 x3 (pvr i (by omega))).1]; exact q1
      obtain ⟨f0, f1, -⟩ := (a1.pl hR).2.2 k (by omega) q2
      have f0' : M' (5, 0, 5, 0) k = frS S k := f0
      have f1' : M' (5, 0, 6, 0) k = toS S k := f1
      have sp := h.2.2.2.2 k (by omega) q2
      unfold SpOk at sp
      have fi : inR (frS S k) := by unfold frS inR; omega
      have vi : inR (pvS S (frS S n) (toS S n) i) := by unfold inR; omega
      have fin : ∀ (sg v w5' w6' : Int), sg = cyG S c (i + 1) → v = pvS S (frS S n) (toS S n) (i + 1) → AW X K 34 [aR (0, 0, 0, 0), aR (5, 0, 0, 0), aI n, aI ((i + 1 + 1 : Nat) : Int), aI v, aI w5', aI w6'] [] (updM (updM M' (0, 0, 13, c) ((i + 1 : Nat) : Int) k) (0, 0, 14, c) ((i + 1 : Nat) : Int) sg, R0 b9) 0 Q9 := by
        intro sg v w5' w6' hsg hv
        rw [hv]
        refine ih (i + 1) _ _ _ (by omega) rfl rfl ((a1.up).up) (by rw [upd_off (by simp), upd_off (by simp)]; exact a2) (by rw [upd_off (by simp), upd_off (by simp)]; exact a3) (by rw [upd_off (by simp), upd_off (by simp)]; exact a4) (fun k2 hk2 => ?_) (fun x => by rw [upd_off (by simp), upd_off (by simp)]; exact a6 x) (fun x hx => ⟨by rw [upd_off (by simp), upd_off (by simp [hx])]; exact (a7 x hx).1, by rw [upd_off (by simp [hx]), upd_off (by simp)]; exact (a7 x hx).2⟩)
        by_cases z : k2 = i + 1
        · rw [z]
          refine ⟨?_, ?_⟩
          · rw [upd_off (by simp), upd_same, ek]
          · rw [upd_same, hsg]
        · refine ⟨?_, ?_⟩
          · rw [upd_off (by simp), upd_ne (Or.inr (by omega))]; exact (a5 k2 (by omega)).1
          · rw [upd_ne (Or.inr (by omega)), upd_off (by simp)]; exact (a5 k2 (by omega)).2
      refine aw_iload3 (pc := 34) F dX0_closeWith_34 ?_
      refine aw_bipush (pc := 35) F dX0_closeWith_35 (by decide) ?_
      refine aw_icmp_ge (tgt := 142) (pc := 37) F dX0_closeWith_37 (by decide) (by unfold inR; omega) (by unfold inR; omega) (fun c37 => ?_) (fun c37 => ?_)
      · omega
      · refine aw_aload0 (pc := 40) F dX0_closeWith_40 ?_
        refine aw_getR (pc := 41) F dX0_closeWith_41 fl_0_31 rfl (by first | decide | (simp only [inB, cnt, rcnt]; omega)) rfl nz5 rfl ?_
        refine aw_iload4 (pc := 44) F dX0_closeWith_44 ?_
        refine aw_iald (pc := 46) F dX0_closeWith_46 rfl (by first | decide | (simp only [inB, cnt, rcnt]; omega)) (by omega) ?_
        refine aw_if_lt (tgt := 142) (pc := 47) F dX0_closeWith_47 (by decide) (by rw [Wk]; unfold inR; omega) (fun c47 => ?_) (fun c47 => ?_)
        · omega
        · refine aw_aload0 (pc := 50) F dX0_closeWith_50 ?_
          refine aw_getR (pc := 51) F dX0_closeWith_51 fl_0_31 rfl (by first | decide | (simp only [inB, cnt, rcnt]; omega)) rfl nz5 rfl ?_
          refine aw_iload4 (pc := 54) F dX0_closeWith_54 ?_
          refine aw_iald (pc := 56) F dX0_closeWith_56 rfl (by first | decide | (simp only [inB, cnt, rcnt]; omega)) (by omega) ?_
          rw [Wk]
          refine aw_istore5 (pc := 57) F dX0_closeWith_57 (by simp only [List.all_cons, List.all_nil, g5, g6]; rfl) hk.symm ?_
          refine aw_aload1 (pc := 59) F dX0_closeWith_59 ?_
          refine aw_getR (pc := 60) F dX0_closeWith_60 fl_0_39 rfl (by first | decide | (simp only [inB, cnt, rcnt]; omega)) rfl nz4 rfl ?_
          refine aw_iload5 (pc := 63) F dX0_closeWith_63 ?_
          refine aw_iald (pc := 65) F dX0_closeWith_65 rfl (by first | decide | (simp only [inB, cnt, rcnt]; omega)) (by omega) ?_
          rw [f0']
          refine aw_iload4 (pc := 66) F dX0_closeWith_66 ?_
          refine aw_icmp_ne (tgt := 75) (pc := 68) F dX0_closeWith_68 (by decide) (by first | exact fi | exact vi) (by first | exact fi | exact vi) (fun c68 => ?_) (fun c68 => ?_)
          · refine aw_iconst (pc := 75) F dX0_closeWith_75 ?_
            refine aw_istore6 (pc := 76) F dX0_closeWith_76 (by simp only [List.all_cons, List.all_nil, g5, g6]; rfl) hk.symm ?_
            refine aw_aload0 (pc := 78) F dX0_closeWith_78 ?_
            refine aw_getR (pc := 79) F dX0_closeWith_79 fl_0_21 rfl (by first | decide | (simp only [inB, cnt, rcnt]; omega)) rfl nz2 rfl ?_
            refine aw_aload0 (pc := 82) F dX0_closeWith_82 ?_
            refine aw_getI (pc := 83) F dX0_closeWith_83 fl_0_9 rfl (by first | decide | (simp only [inB, cnt, rcnt]; omega)) rfl nz0 ?_
            rw [a4]
            refine aw_aald (pc := 86) F dX0_closeWith_86 rfl (by decide) (by first | decide | (simp only [inB, cnt, rcnt]; omega)) (by omega) rfl ?_
            refine aw_iload3 (pc := 87) F dX0_closeWith_87 ?_
            refine aw_iload5 (pc := 88) F dX0_closeWith_88 ?_
            refine aw_iast (pc := 90) F dX0_closeWith_90 rfl (by first | decide | (simp only [inB, cnt, rcnt]; omega)) (by omega) ?_
            refine aw_aload0 (pc := 91) F dX0_closeWith_91 ?_
            refine aw_getR (pc := 92) F dX0_closeWith_92 fl_0_24 rfl (by first | decide | (simp only [inB, cnt, rcnt]; omega)) rfl nz3 rfl ?_
            refine aw_aload0 (pc := 95) F dX0_closeWith_95 ?_
            refine aw_getI (pc := 96) F dX0_closeWith_96 fl_0_9 rfl (by first | decide | (simp only [inB, cnt, rcnt]; omega)) rfl nz0 ?_
            rw [upd_off (by simp), a4]
            refine aw_aald (pc := 99) F dX0_closeWith_99 rfl (by decide) (by first | decide | (simp only [inB, cnt, rcnt]; omega)) (by omega) rfl ?_
            refine aw_iload3 (pc := 100) F dX0_closeWith_100 ?_
            refine aw_iload6 (pc := 101) F dX0_closeWith_101 ?_
            refine aw_if_eq (tgt := 110) (pc := 103) F dX0_closeWith_103 (by decide) (by unfold inR; omega) (fun c103 => ?_) (fun c103 => ?_)
            · refine aw_iconst (pc := 110) F dX0_closeWith_110 ?_
              refine aw_iast (pc := 111) F dX0_closeWith_111 rfl (by first | decide | (simp only [inB, cnt, rcnt]; omega)) (by omega) ?_
              refine aw_iload6 (pc := 112) F dX0_closeWith_112 ?_
              refine aw_if_eq (tgt := 127) (pc := 114) F dX0_closeWith_114 (by decide) (by unfold inR; omega) (fun c114 => ?_) (fun c114 => ?_)
              · refine aw_aload1 (pc := 127) F dX0_closeWith_127 ?_
                refine aw_getR (pc := 128) F dX0_closeWith_128 fl_0_39 rfl (by first | decide | (simp only [inB, cnt, rcnt]; omega)) rfl nz4 rfl ?_
                refine aw_iload5 (pc := 131) F dX0_closeWith_131 ?_
                refine aw_iald (pc := 133) F dX0_closeWith_133 rfl (by first | decide | (simp only [inB, cnt, rcnt]; omega)) (by omega) ?_
                skip
                refine aw_istore4 (pc := 134) F dX0_closeWith_134 (by simp only [List.all_cons, List.all_nil, g5, g6]; rfl) hk.symm ?_
                refine aw_iinc3 (pc := 136) F dX0_closeWith_136 (by simp only [List.all_cons, List.all_nil, g5, g6]; rfl) hk.symm ?_
                refine aw_goto (tgt := 34) (pc := 139) F dX0_closeWith_139 (by decide) ?_
                first | exact absurd c103 (by decide) | exact absurd c114 (by decide) | exact absurd rfl c103 | exact absurd rfl c114 | exact fin _ _ _ _ (by unfold cyG; rw [eb, b2i_pos c68]; rfl) (by rw [ev]; unfold othS; rw [if_pos c68]) | exact fin _ _ _ _ (by unfold cyG; rw [eb, b2i_neg c68]; rfl) (by rw [ev]; unfold othS; rw [if_neg c68, upd_off (by simp), upd_off (by simp), f0'])
              · refine aw_aload1 (pc := 117) F dX0_closeWith_117 ?_
                refine aw_getR (pc := 118) F dX0_closeWith_118 fl_0_46 rfl (by first | decide | (simp only [inB, cnt, rcnt]; omega)) rfl nz5 rfl ?_
                refine aw_iload5 (pc := 121) F dX0_closeWith_121 ?_
                refine aw_iald (pc := 123) F dX0_closeWith_123 rfl (by first | decide | (simp only [inB, cnt, rcnt]; omega)) (by omega) ?_
                rw [upd_off (by simp), upd_off (by simp), f1']
                refine aw_goto (tgt := 134) (pc := 124) F dX0_closeWith_124 (by decide) ?_
                skip
                refine aw_istore4 (pc := 134) F dX0_closeWith_134 (by simp only [List.all_cons, List.all_nil, g5, g6]; rfl) hk.symm ?_
                refine aw_iinc3 (pc := 136) F dX0_closeWith_136 (by simp only [List.all_cons, List.all_nil, g5, g6]; rfl) hk.symm ?_
                refine aw_goto (tgt := 34) (pc := 139) F dX0_closeWith_139 (by decide) ?_
                first | exact absurd c103 (by decide) | exact absurd c114 (by decide) | exact absurd rfl c103 | exact absurd rfl c114 | exact fin _ _ _ _ (by unfold cyG; rw [eb, b2i_pos c68]; rfl) (by rw [ev]; unfold othS; rw [if_pos c68]) | exact fin _ _ _ _ (by unfold cyG; rw [eb, b2i_neg c68]; rfl) (by rw [ev]; unfold othS; rw [if_neg c68, upd_off (by simp), upd_off (by simp), f0'])
            · refine aw_iconst (pc := 106) F dX0_closeWith_106 ?_
              refine aw_goto (tgt := 111) (pc := 107) F dX0_closeWith_107 (by decide) ?_
              refine aw_iast (pc := 111) F dX0_closeWith_111 rfl (by first | decide | (simp only [inB, cnt, rcnt]; omega)) (by omega) ?_
              refine aw_iload6 (pc := 112) F dX0_closeWith_112 ?_
              refine aw_if_eq (tgt := 127) (pc := 114) F dX0_closeWith_114 (by decide) (by unfold inR; omega) (fun c114 => ?_) (fun c114 => ?_)
              · refine aw_aload1 (pc := 127) F dX0_closeWith_127 ?_
                refine aw_getR (pc := 128) F dX0_closeWith_128 fl_0_39 rfl (by first | decide | (simp only [inB, cnt, rcnt]; omega)) rfl nz4 rfl ?_
                refine aw_iload5 (pc := 131) F dX0_closeWith_131 ?_
                refine aw_iald (pc := 133) F dX0_closeWith_133 rfl (by first | decide | (simp only [inB, cnt, rcnt]; omega)) (by omega) ?_
                skip
                refine aw_istore4 (pc := 134) F dX0_closeWith_134 (by simp only [List.all_cons, List.all_nil, g5, g6]; rfl) hk.symm ?_
                refine aw_iinc3 (pc := 136) F dX0_closeWith_136 (by simp only [List.all_cons, List.all_nil, g5, g6]; rfl) hk.symm ?_
                refine aw_goto (tgt := 34) (pc := 139) F dX0_closeWith_139 (by decide) ?_
                first | exact absurd c103 (by decide) | exact absurd c114 (by decide) | exact absurd rfl c103 | exact absurd rfl c114 | exact fin _ _ _ _ (by unfold cyG; rw [eb, b2i_pos c68]; rfl) (by rw [ev]; unfold othS; rw [if_pos c68]) | exact fin _ _ _ _ (by unfold cyG; rw [eb, b2i_neg c68]; rfl) (by rw [ev]; unfold othS; rw [if_neg c68, upd_off (by simp), upd_off (by simp), f0'])
              · refine aw_aload1 (pc := 117) F dX0_closeWith_117 ?_
                refine aw_getR (pc := 118) F dX0_closeWith_118 fl_0_46 rfl (by first | decide | (simp only [inB, cnt, rcnt]; omega)) rfl nz5 rfl ?_
                refine aw_iload5 (pc := 121) F dX0_closeWith_121 ?_
                refine aw_iald (pc := 123) F dX0_closeWith_123 rfl (by first | decide | (simp only [inB, cnt, rcnt]; omega)) (by omega) ?_
                rw [upd_off (by simp), upd_off (by simp), f1']
                refine aw_goto (tgt := 134) (pc := 124) F dX0_closeWith_124 (by decide) ?_
                skip
                refine aw_istore4 (pc := 134) F dX0_closeWith_134 (by simp only [List.all_cons, List.all_nil, g5, g6]; rfl) hk.symm ?_
                refine aw_iinc3 (pc := 136) F dX0_closeWith_136 (by simp only [List.all_cons, List.all_nil, g5, g6]; rfl) hk.symm ?_
                refine aw_goto (tgt := 34) (pc := 139) F dX0_closeWith_139 (by decide) ?_
                first | exact absurd c103 (by decide) | exact absurd c114 (by decide) | exact absurd rfl c103 | exact absurd rfl c114 | exact fin _ _ _ _ (by unfold cyG; rw [eb, b2i_pos c68]; rfl) (by rw [ev]; unfold othS; rw [if_pos c68]) | exact fin _ _ _ _ (by unfold cyG; rw [eb, b2i_neg c68]; rfl) (by rw [ev]; unfold othS; rw [if_neg c68, upd_off (by simp), upd_off (by simp), f0'])
          · refine aw_iconst (pc := 71) F dX0_closeWith_71 ?_
            refine aw_goto (tgt := 76) (pc := 72) F dX0_closeWith_72 (by decide) ?_
            refine aw_istore6 (pc := 76) F dX0_closeWith_76 (by simp only [List.all_cons, List.all_nil, g5, g6]; rfl) hk.symm ?_
            refine aw_aload0 (pc := 78) F dX0_closeWith_78 ?_
            refine aw_getR (pc := 79) F dX0_closeWith_79 fl_0_21 rfl (by first | decide | (simp only [inB, cnt, rcnt]; omega)) rfl nz2 rfl ?_
            refine aw_aload0 (pc := 82) F dX0_closeWith_82 ?_
            refine aw_getI (pc := 83) F dX0_closeWith_83 fl_0_9 rfl (by first | decide | (simp only [inB, cnt, rcnt]; omega)) rfl nz0 ?_
            rw [a4]
            refine aw_aald (pc := 86) F dX0_closeWith_86 rfl (by decide) (by first | decide | (simp only [inB, cnt, rcnt]; omega)) (by omega) rfl ?_
            refine aw_iload3 (pc := 87) F dX0_closeWith_87 ?_
            refine aw_iload5 (pc := 88) F dX0_closeWith_88 ?_
            refine aw_iast (pc := 90) F dX0_closeWith_90 rfl (by first | decide | (simp only [inB, cnt, rcnt]; omega)) (by omega) ?_
            refine aw_aload0 (pc := 91) F dX0_closeWith_91 ?_
            refine aw_getR (pc := 92) F dX0_closeWith_92 fl_0_24 rfl (by first | decide | (simp only [inB, cnt, rcnt]; omega)) rfl nz3 rfl ?_
            refine aw_aload0 (pc := 95) F dX0_closeWith_95 ?_
            refine aw_getI (pc := 96) F dX0_closeWith_96 fl_0_9 rfl (by first | decide | (simp only [inB, cnt, rcnt]; omega)) rfl nz0 ?_
            rw [upd_off (by simp), a4]
            refine aw_aald (pc := 99) F dX0_closeWith_99 rfl (by decide) (by first | decide | (simp only [inB, cnt, rcnt]; omega)) (by omega) rfl ?_
            refine aw_iload3 (pc := 100) F dX0_closeWith_100 ?_
            refine aw_iload6 (pc := 101) F dX0_closeWith_101 ?_
            refine aw_if_eq (tgt := 110) (pc := 103) F dX0_closeWith_103 (by decide) (by unfold inR; omega) (fun c103 => ?_) (fun c103 => ?_)
            · refine aw_iconst (pc := 110) F dX0_closeWith_110 ?_
              refine aw_iast (pc := 111) F dX0_closeWith_111 rfl (by first | decide | (simp only [inB, cnt, rcnt]; omega)) (by omega) ?_
              refine aw_iload6 (pc := 112) F dX0_closeWith_112 ?_
              refine aw_if_eq (tgt := 127) (pc := 114) F dX0_closeWith_114 (by decide) (by unfold inR; omega) (fun c114 => ?_) (fun c114 => ?_)
              · refine aw_aload1 (pc := 127) F dX0_closeWith_127 ?_
                refine aw_getR (pc := 128) F dX0_closeWith_128 fl_0_39 rfl (by first | decide | (simp only [inB, cnt, rcnt]; omega)) rfl nz4 rfl ?_
                refine aw_iload5 (pc := 131) F dX0_closeWith_131 ?_
                refine aw_iald (pc := 133) F dX0_closeWith_133 rfl (by first | decide | (simp only [inB, cnt, rcnt]; omega)) (by omega) ?_
                skip
                refine aw_istore4 (pc := 134) F dX0_closeWith_134 (by simp only [List.all_cons, List.all_nil, g5, g6]; rfl) hk.symm ?_
                refine aw_iinc3 (pc := 136) F dX0_closeWith_136 (by simp only [List.all_cons, List.all_nil, g5, g6]; rfl) hk.symm ?_
                refine aw_goto (tgt := 34) (pc := 139) F dX0_closeWith_139 (by decide) ?_
                first | exact absurd c103 (by decide) | exact absurd c114 (by decide) | exact absurd rfl c103 | exact absurd rfl c114 | exact fin _ _ _ _ (by unfold cyG; rw [eb, b2i_pos c68]; rfl) (by rw [ev]; unfold othS; rw [if_pos c68]) | exact fin _ _ _ _ (by unfold cyG; rw [eb, b2i_neg c68]; rfl) (by rw [ev]; unfold othS; rw [if_neg c68, upd_off (by simp), upd_off (by simp), f0'])
              · refine aw_aload1 (pc := 117) F dX0_closeWith_117 ?_
                refine aw_getR (pc := 118) F dX0_closeWith_118 fl_0_46 rfl (by first | decide | (simp only [inB, cnt, rcnt]; omega)) rfl nz5 rfl ?_
                refine aw_iload5 (pc := 121) F dX0_closeWith_121 ?_
                refine aw_iald (pc := 123) F dX0_closeWith_123 rfl (by first | decide | (simp only [inB, cnt, rcnt]; omega)) (by omega) ?_
                rw [upd_off (by simp), upd_off (by simp), f1']
                refine aw_goto (tgt := 134) (pc := 124) F dX0_closeWith_124 (by decide) ?_
                skip
                refine aw_istore4 (pc := 134) F dX0_closeWith_134 (by simp only [List.all_cons, List.all_nil, g5, g6]; rfl) hk.symm ?_
                refine aw_iinc3 (pc := 136) F dX0_closeWith_136 (by simp only [List.all_cons, List.all_nil, g5, g6]; rfl) hk.symm ?_
                refine aw_goto (tgt := 34) (pc := 139) F dX0_closeWith_139 (by decide) ?_
                first | exact absurd c103 (by decide) | exact absurd c114 (by decide) | exact absurd rfl c103 | exact absurd rfl c114 | exact fin _ _ _ _ (by unfold cyG; rw [eb, b2i_pos c68]; rfl) (by rw [ev]; unfold othS; rw [if_pos c68]) | exact fin _ _ _ _ (by unfold cyG; rw [eb, b2i_neg c68]; rfl) (by rw [ev]; unfold othS; rw [if_neg c68, upd_off (by simp), upd_off (by simp), f0'])
            · refine aw_iconst (pc := 106) F dX0_closeWith_106 ?_
              refine aw_goto (tgt := 111) (pc := 107) F dX0_closeWith_107 (by decide) ?_
              refine aw_iast (pc := 111) F dX0_closeWith_111 rfl (by first | decide | (simp only [inB, cnt, rcnt]; omega)) (by omega) ?_
              refine aw_iload6 (pc := 112) F dX0_closeWith_112 ?_
              refine aw_if_eq (tgt := 127) (pc := 114) F dX0_closeWith_114 (by decide) (by unfold inR; omega) (fun c114 => ?_) (fun c114 => ?_)
              · refine aw_aload1 (pc := 127) F dX0_closeWith_127 ?_
                refine aw_getR (pc := 128) F dX0_closeWith_128 fl_0_39 rfl (by first | decide | (simp only [inB, cnt, rcnt]; omega)) rfl nz4 rfl ?_
                refine aw_iload5 (pc := 131) F dX0_closeWith_131 ?_
                refine aw_iald (pc := 133) F dX0_closeWith_133 rfl (by first | decide | (simp only [inB, cnt, rcnt]; omega)) (by omega) ?_
                skip
                refine aw_istore4 (pc := 134) F dX0_closeWith_134 (by simp only [List.all_cons, List.all_nil, g5, g6]; rfl) hk.symm ?_
                refine aw_iinc3 (pc := 136) F dX0_closeWith_136 (by simp only [List.all_cons, List.all_nil, g5, g6]; rfl) hk.symm ?_
                refine aw_goto (tgt := 34) (pc := 139) F dX0_closeWith_139 (by decide) ?_
                first | exact absurd c103 (by decide) | exact absurd c114 (by decide) | exact absurd rfl c103 | exact absurd rfl c114 | exact fin _ _ _ _ (by unfold cyG; rw [eb, b2i_pos c68]; rfl) (by rw [ev]; unfold othS; rw [if_pos c68]) | exact fin _ _ _ _ (by unfold cyG; rw [eb, b2i_neg c68]; rfl) (by rw [ev]; unfold othS; rw [if_neg c68, upd_off (by simp), upd_off (by simp), f0'])
              · refine aw_aload1 (pc := 117) F dX0_closeWith_117 ?_
                refine aw_getR (pc := 118) F dX0_closeWith_118 fl_0_46 rfl (by first | decide | (simp only [inB, cnt, rcnt]; omega)) rfl nz5 rfl ?_
                refine aw_iload5 (pc := 121) F dX0_closeWith_121 ?_
                refine aw_iald (pc := 123) F dX0_closeWith_123 rfl (by first | decide | (simp only [inB, cnt, rcnt]; omega)) (by omega) ?_
                rw [upd_off (by simp), upd_off (by simp), f1']
                refine aw_goto (tgt := 134) (pc := 124) F dX0_closeWith_124 (by decide) ?_
                skip
                refine aw_istore4 (pc := 134) F dX0_closeWith_134 (by simp only [List.all_cons, List.all_nil, g5, g6]; rfl) hk.symm ?_
                refine aw_iinc3 (pc := 136) F dX0_closeWith_136 (by simp only [List.all_cons, List.all_nil, g5, g6]; rfl) hk.symm ?_
                refine aw_goto (tgt := 34) (pc := 139) F dX0_closeWith_139 (by decide) ?_
                first | exact absurd c103 (by decide) | exact absurd c114 (by decide) | exact absurd rfl c103 | exact absurd rfl c114 | exact fin _ _ _ _ (by unfold cyG; rw [eb, b2i_pos c68]; rfl) (by rw [ev]; unfold othS; rw [if_pos c68]) | exact fin _ _ _ _ (by unfold cyG; rw [eb, b2i_neg c68]; rfl) (by rw [ev]; unfold othS; rw [if_neg c68, upd_off (by simp), upd_off (by simp), f0'])
  refine aw_aload0 (pc := 0) F dX0_closeWith_0 ?_
  refine aw_getR (pc := 1) F dX0_closeWith_1 fl_0_21 rfl (by first | decide | (simp only [inB, cnt, rcnt]; omega)) rfl nz2 rfl ?_
  refine aw_aload0 (pc := 4) F dX0_closeWith_4 ?_
  refine aw_getI (pc := 5) F dX0_closeWith_5 fl_0_9 rfl (by first | decide | (simp only [inB, cnt, rcnt]; omega)) rfl nz0 ?_
  rw [hc]
  refine aw_aald (pc := 8) F dX0_closeWith_8 rfl (by decide) (by first | decide | (simp only [inB, cnt, rcnt]; omega)) (by omega) rfl ?_
  refine aw_iconst (pc := 9) F dX0_closeWith_9 ?_
  refine aw_iload2 (pc := 10) F dX0_closeWith_10 ?_
  refine aw_iast (pc := 11) F dX0_closeWith_11 rfl (by first | decide | (simp only [inB, cnt, rcnt]; omega)) (by omega) ?_
  refine aw_aload0 (pc := 12) F dX0_closeWith_12 ?_
  refine aw_getR (pc := 13) F dX0_closeWith_13 fl_0_24 rfl (by first | decide | (simp only [inB, cnt, rcnt]; omega)) rfl nz3 rfl ?_
  refine aw_aload0 (pc := 16) F dX0_closeWith_16 ?_
  refine aw_getI (pc := 17) F dX0_closeWith_17 fl_0_9 rfl (by first | decide | (simp only [inB, cnt, rcnt]; omega)) rfl nz0 ?_
  rw [upd_off (by simp), hc]
  refine aw_aald (pc := 20) F dX0_closeWith_20 rfl (by decide) (by first | decide | (simp only [inB, cnt, rcnt]; omega)) (by omega) rfl ?_
  refine aw_iconst (pc := 21) F dX0_closeWith_21 ?_
  refine aw_iconst (pc := 22) F dX0_closeWith_22 ?_
  refine aw_iast (pc := 23) F dX0_closeWith_23 rfl (by first | decide | (simp only [inB, cnt, rcnt]; omega)) (by omega) ?_
  refine aw_iconst (pc := 24) F dX0_closeWith_24 ?_
  refine aw_istore3 (pc := 25) F dX0_closeWith_25 rfl hk.symm ?_
  refine aw_aload1 (pc := 26) F dX0_closeWith_26 ?_
  refine aw_getR (pc := 27) F dX0_closeWith_27 fl_0_46 rfl (by first | decide | (simp only [inB, cnt, rcnt]; omega)) rfl nz5 rfl ?_
  refine aw_iload2 (pc := 30) F dX0_closeWith_30 ?_
  refine aw_iald (pc := 31) F dX0_closeWith_31 rfl (by first | decide | (simp only [inB, cnt, rcnt]; omega)) (by omega) ?_
  rw [upd_off (by simp), upd_off (by simp), ptn]
  refine aw_istore4 (pc := 32) F dX0_closeWith_32 rfl hk.symm ?_
  rw [← hQ]
  refine key D 0 _ aX aX (by omega) rfl rfl ((same0.rf.up).up) (by rw [upd_off (by simp), upd_off (by simp)]) (by rw [upd_off (by simp), upd_off (by simp), hW]) (by rw [upd_off (by simp), upd_off (by simp)]; exact hc) (fun k hk1 => ?_) (fun x => by rw [upd_off (by simp), upd_off (by simp)]) (fun x hx => ⟨by rw [upd_off (by simp), upd_off (by simp [hx])], by rw [upd_off (by simp [hx]), upd_off (by simp)]⟩)
  obtain rfl : k = 0 := by omega
  refine ⟨?_, ?_⟩
  · rw [upd_off (by simp)]; exact upd_same.trans ck.symm
  · exact upd_same
theorem ct0_closeAll (M : Id4 → Int → Int) (b9 : Bool) (S : Int → Int) (hR : plR M 0 S) (h : Ok S) : CtV 3 0 yX0_closeAll cX0_closeAll 3 none [aR (0, 0, 0, 0), aR (5, 0, 0, 0)] (M, R0 b9) (fun σ' => ∃ M', σ' = (M', R0 b9) ∧ same0 M M' ∧ M' (0, 0, 0, 0) 0 = cyM S ∧ ∀ c, 0 ≤ c → c < cyM S → cyR S M' c) := by
  refine CtV.mk (by decide +kernel) rfl (Nat.le_of_ble_eq_true rfl) (fun X K F hk => ?_)
  have hN := h.2.2.1
  have hE := h.2.1
  obtain ⟨N, eN⟩ : ∃ N : Nat, S 20 = (N : Int) := ⟨(S 20).toNat, by omega⟩
  have tN : (S 20).toNat = N := by omega
  obtain ⟨Q9, hQ⟩ : ∃ Q9, Q9 = EV X K 0 (fun σ' => ∃ M', σ' = (M', R0 b9) ∧ same0 M M' ∧ M' (0, 0, 0, 0) 0 = cyM S ∧ ∀ c, 0 ≤ c → c < cyM S → cyR S M' c) := ⟨_, rfl⟩
  have key : ∀ (j n : Nat) (M' : Id4 → Int → Int), n + j = N → same0 M M' → M' (0, 0, 0, 0) 0 = cyN S n → (∀ k : Nat, k < n → M' (0, 0, 5, 0) k = b2i (tre S k)) → (∀ c, 0 ≤ c → c < cyN S n → cyR S M' c) → AW X K 7 [aR (0, 0, 0, 0), aR (5, 0, 0, 0), aI n] [] (M', R0 b9) 0 Q9 := by
    intro j
    induction j with
    | zero =>
      intro n M' hn a1 a2 a3 a4
      obtain rfl : n = N := by omega
      have e2 := (a1.pl hR).1.2.2
      have ecm : cyM S = cyN S n := by unfold cyM; rw [tN]
      refine aw_iload2 (pc := 7) F dX0_closeAll_7 ?_
      refine aw_aload1 (pc := 8) F dX0_closeAll_8 ?_
      refine aw_getI (pc := 9) F dX0_closeAll_9 fl_0_34 rfl (by first | decide | (simp only [inB, cnt, rcnt]; omega)) rfl nz2 ?_
      refine aw_icmp_ge (tgt := 74) (pc := 12) F dX0_closeAll_12 (by decide) (by unfold inR; omega) (by unfold inR; omega) (fun c12 => ?_) (fun c12 => ?_)
      · rw [hQ]
        exact aw_vret (pc := 74) F dX0_closeAll_74 (Nat.zero_le _) ⟨M', rfl, a1, by rw [ecm]; exact a2, fun c c0 c1 => a4 c c0 (by rw [ecm] at c1; exact c1)⟩
      · omega
    | succ j ih =>
      intro n M' hn a1 a2 a3 a4
      have hR' := a1.pl hR
      have e2 := hR'.1.2.2
      obtain ⟨f0, f1, -⟩ := hR'.2.2 n (by omega) (by omega)
      have f0' : M' (5, 0, 5, 0) n = frS S n := f0
      have f1' : M' (5, 0, 6, 0) n = toS S n := f1
      obtain ⟨tb, fb, tf⟩ := ends_in h (show (n : Int) < S 20 by omega) (Or.inl ⟨rfl, rfl⟩ : (frS S n = frS S n ∧ toS S n = toS S n) ∨ (toS S n = frS S n ∧ frS S n = toS S n))
      refine aw_iload2 (pc := 7) F dX0_closeAll_7 ?_
      refine aw_aload1 (pc := 8) F dX0_closeAll_8 ?_
      refine aw_getI (pc := 9) F dX0_closeAll_9 fl_0_34 rfl (by first | decide | (simp only [inB, cnt, rcnt]; omega)) rfl nz2 ?_
      refine aw_icmp_ge (tgt := 74) (pc := 12) F dX0_closeAll_12 (by decide) (by unfold inR; omega) (by unfold inR; omega) (fun c12 => ?_) (fun c12 => ?_)
      · omega
      · refine aw_aload0 (pc := 15) F dX0_closeAll_15 ?_
        refine aw_aload1 (pc := 16) F dX0_closeAll_16 ?_
        refine aw_aload1 (pc := 17) F dX0_closeAll_17 ?_
        refine aw_getR (pc := 18) F dX0_closeAll_18 fl_0_39 rfl (by first | decide | (simp only [inB, cnt, rcnt]; omega)) rfl nz4 rfl ?_
        refine aw_iload2 (pc := 21) F dX0_closeAll_21 ?_
        refine aw_iald (pc := 22) F dX0_closeAll_22 rfl (by first | decide | (simp only [inB, cnt, rcnt]; omega)) (by omega) ?_
        rw [f0']
        refine aw_iload2 (pc := 23) F dX0_closeAll_23 ?_
        refine aw_callVV3 (pc := 24) F dX0_closeAll_24 ml_0_42 rfl (by first | decide | (simp only [inB, cnt, rcnt]; omega)) (ct0_findWays _ _ S _ _ hR' h fb (by omega) a3) (Nat.le_of_ble_eq_true rfl) (by decide) (Nat.zero_le _) (fun σ9 h9_24 => ?_)
        obtain ⟨W, h9, w9⟩ := h9_24
        subst h9
        have f1'' : setA M' (0, 0, 6, 0) W (5, 0, 6, 0) n = toS S n := by rw [setA_ne (by simp)]; exact f1'
        have wt : (W (toS S n) ≠ -1 ↔ grp S n (toS S n) = grp S n (frS S n)) := w9.choose_spec.2.2 _ tb.1 tb.2
        have wb := w9.choose_spec.2.1 _ tb.1 tb.2
        have ntr : W (toS S n) = -1 → tre S n := fun z y => (wt.mpr y.symm) z
        have ctr : ¬ W (toS S n) = -1 → ¬ tre S n := fun z y => y (wt.mp z).symm
        have yes : W (toS S n) = -1 → AW X K 7 [aR (0, 0, 0, 0), aR (5, 0, 0, 0), aI ((n + 1 : Nat) : Int)] [] (updM (setA M' (0, 0, 6, 0) W) (0, 0, 5, 0) n 1, R0 b9) 0 Q9 := fun z => by
          have e1 : cyN S (n + 1) = cyN S n := by show cyN S n + (if tre S n then 0 else 1) = _; rw [if_pos (ntr z)]; omega
          refine ih (n + 1) _ (by omega) ((a1.st).up) (by rw [e1, upd_off (by simp), setA_ne (by simp)]; exact a2) (fun k hk1 => ?_) (fun c c0 c1 => ?_)
          · by_cases y : k = n
            · rw [y, upd_same, b2i_pos (ntr z)]
            · rw [upd_ne (Or.inr (by omega)), setA_ne (by simp)]; exact a3 k (by omega)
          · rw [e1] at c1
            have a := a4 c c0 c1
            unfold cyR at a ⊢
            rw [upd_off (by simp), setA_ne (by simp), upd_off (by simp), setA_ne (by simp), upd_off (by simp), setA_ne (by simp)]
            exact a
        have no : ¬ W (toS S n) = -1 → ∀ M2, same0 (updM (setA M' (0, 0, 6, 0) W) (0, 0, 5, 0) n 0) M2 → M2 (0, 0, 5, 0) = updM (setA M' (0, 0, 6, 0) W) (0, 0, 5, 0) n 0 (0, 0, 5, 0) → M2 (0, 0, 0, 0) 0 = cyN S n + 1 → cyR S M2 (cyN S n) → (∀ x, x ≠ cyN S n → M2 (0, 0, 2, 0) x = updM (setA M' (0, 0, 6, 0) W) (0, 0, 5, 0) n 0 (0, 0, 2, 0) x ∧ M2 (0, 0, 13, x) = updM (setA M' (0, 0, 6, 0) W) (0, 0, 5, 0) n 0 (0, 0, 13, x) ∧ M2 (0, 0, 14, x) = updM (setA M' (0, 0, 6, 0) W) (0, 0, 5, 0) n 0 (0, 0, 14, x)) → AW X K 7 [aR (0, 0, 0, 0), aR (5, 0, 0, 0), aI ((n + 1 : Nat) : Int)] [] (M2, R0 b9) 0 Q9 := fun z M2 d1 d2 d3 d4 d5 => by
          have e1 : cyN S (n + 1) = cyN S n + 1 := by show cyN S n + (if tre S n then 0 else 1) = _; rw [if_neg (ctr z)]
          refine ih (n + 1) _ (by omega) (((a1.st).up).tr d1) (by rw [e1]; exact d3) (fun k hk1 => ?_) (fun c c0 c1 => ?_)
          · rw [d2]
            by_cases y : k = n
            · rw [y, upd_same, b2i_neg (ctr z)]
            · rw [upd_ne (Or.inr (by omega)), setA_ne (by simp)]; exact a3 k (by omega)
          · rw [e1] at c1
            by_cases y : c = cyN S n
            · rw [y]; exact d4
            · have a := a4 c c0 (by omega)
              obtain ⟨y1, y2, y3⟩ := d5 c y
              unfold cyR at a ⊢
              rw [y1, y2, y3, upd_off (by simp), setA_ne (by simp), upd_off (by simp), setA_ne (by simp), upd_off (by simp), setA_ne (by simp)]
              exact a
        refine aw_aload0 (pc := 27) F dX0_closeAll_27 ?_
        refine aw_getR (pc := 28) F dX0_closeAll_28 fl_0_27 rfl (by first | decide | (simp only [inB, cnt, rcnt]; omega)) rfl nz4 rfl ?_
        refine aw_iload2 (pc := 31) F dX0_closeAll_31 ?_
        refine aw_aload0 (pc := 32) F dX0_closeAll_32 ?_
        refine aw_getR (pc := 33) F dX0_closeAll_33 fl_0_31 rfl (by first | decide | (simp only [inB, cnt, rcnt]; omega)) rfl nz5 rfl ?_
        refine aw_aload1 (pc := 36) F dX0_closeAll_36 ?_
        refine aw_getR (pc := 37) F dX0_closeAll_37 fl_0_46 rfl (by first | decide | (simp only [inB, cnt, rcnt]; omega)) rfl nz5 rfl ?_
        refine aw_iload2 (pc := 40) F dX0_closeAll_40 ?_
        refine aw_iald (pc := 41) F dX0_closeAll_41 rfl (by first | decide | (simp only [inB, cnt, rcnt]; omega)) (by omega) ?_
        rw [f1'']
        refine aw_iald (pc := 42) F dX0_closeAll_42 rfl (by first | decide | (simp only [inB, cnt, rcnt]; omega)) (by omega) ?_
        rw [setA_same]
        refine aw_iconst (pc := 43) F dX0_closeAll_43 ?_
        refine aw_icmp_ne (tgt := 51) (pc := 44) F dX0_closeAll_44 (by decide) (by unfold inR; omega) (by unfold inR; omega) (fun c44 => ?_) (fun c44 => ?_)
        · refine aw_iconst (pc := 51) F dX0_closeAll_51 ?_
          refine aw_zast (pc := 52) F dX0_closeAll_52 rfl (by first | decide | (simp only [inB, cnt, rcnt]; omega)) (by omega) (by rfl) ?_
          refine aw_aload0 (pc := 53) F dX0_closeAll_53 ?_
          refine aw_getR (pc := 54) F dX0_closeAll_54 fl_0_27 rfl (by first | decide | (simp only [inB, cnt, rcnt]; omega)) rfl nz4 rfl ?_
          refine aw_iload2 (pc := 57) F dX0_closeAll_57 ?_
          refine aw_zald (pc := 58) F dX0_closeAll_58 rfl (by first | decide | (simp only [inB, cnt, rcnt]; omega)) (by omega) ?_
          rw [upd_same]
          refine aw_if_ne (tgt := 68) (pc := 59) F dX0_closeAll_59 (by decide) (by unfold inR; omega) (fun c59 => ?_) (fun c59 => ?_)
          · refine aw_iinc2 (pc := 68) F dX0_closeAll_68 rfl hk.symm ?_
            refine aw_goto (tgt := 7) (pc := 71) F dX0_closeAll_71 (by decide) ?_
            first | exact absurd c59 (by decide) | exact absurd rfl c59 | exact yes c44 | exact no (by assumption) M2 d1 d2 d3 d4 d5
          · refine aw_aload0 (pc := 62) F dX0_closeAll_62 ?_
            refine aw_aload1 (pc := 63) F dX0_closeAll_63 ?_
            refine aw_iload2 (pc := 64) F dX0_closeAll_64 ?_
            refine aw_callVV2 (pc := 65) F dX0_closeAll_65 ml_0_49 rfl (by first | decide | (simp only [inB, cnt, rcnt]; omega)) (ct0_closeWith _ _ S n (cyN S n) (pl_eq (fun c => by rw [upd_off (by simp), setA_ne (by simp)]) hR') h (by omega) (by first | exact ctr c44 | exact absurd c59 (by decide)) (by rw [upd_off (by simp), setA_ne (by simp)]; exact a2) rfl (by rw [upd_off (by simp), setA_same]; exact w9)) (Nat.le_of_ble_eq_true rfl) (by decide) (Nat.zero_le _) (fun σ9 h9_65 => ?_)
            obtain ⟨M2, h9, d1, d2, d3, d4, d5⟩ := h9_65
            subst h9
            refine aw_iinc2 (pc := 68) F dX0_closeAll_68 rfl hk.symm ?_
            refine aw_goto (tgt := 7) (pc := 71) F dX0_closeAll_71 (by decide) ?_
            first | exact absurd c59 (by decide) | exact absurd rfl c59 | exact yes c44 | exact no (by assumption) M2 d1 d2 d3 d4 d5
        · refine aw_iconst (pc := 47) F dX0_closeAll_47 ?_
          refine aw_goto (tgt := 52) (pc := 48) F dX0_closeAll_48 (by decide) ?_
          refine aw_zast (pc := 52) F dX0_closeAll_52 rfl (by first | decide | (simp only [inB, cnt, rcnt]; omega)) (by omega) (by rfl) ?_
          refine aw_aload0 (pc := 53) F dX0_closeAll_53 ?_
          refine aw_getR (pc := 54) F dX0_closeAll_54 fl_0_27 rfl (by first | decide | (simp only [inB, cnt, rcnt]; omega)) rfl nz4 rfl ?_
          refine aw_iload2 (pc := 57) F dX0_closeAll_57 ?_
          refine aw_zald (pc := 58) F dX0_closeAll_58 rfl (by first | decide | (simp only [inB, cnt, rcnt]; omega)) (by omega) ?_
          rw [upd_same]
          refine aw_if_ne (tgt := 68) (pc := 59) F dX0_closeAll_59 (by decide) (by unfold inR; omega) (fun c59 => ?_) (fun c59 => ?_)
          · refine aw_iinc2 (pc := 68) F dX0_closeAll_68 rfl hk.symm ?_
            refine aw_goto (tgt := 7) (pc := 71) F dX0_closeAll_71 (by decide) ?_
            first | exact absurd c59 (by decide) | exact absurd rfl c59 | exact yes c44 | exact no (by assumption) M2 d1 d2 d3 d4 d5
          · refine aw_aload0 (pc := 62) F dX0_closeAll_62 ?_
            refine aw_aload1 (pc := 63) F dX0_closeAll_63 ?_
            refine aw_iload2 (pc := 64) F dX0_closeAll_64 ?_
            refine aw_callVV2 (pc := 65) F dX0_closeAll_65 ml_0_49 rfl (by first | decide | (simp only [inB, cnt, rcnt]; omega)) (ct0_closeWith _ _ S n (cyN S n) (pl_eq (fun c => by rw [upd_off (by simp), setA_ne (by simp)]) hR') h (by omega) (by first | exact ctr c44 | exact absurd c59 (by decide)) (by rw [upd_off (by simp), setA_ne (by simp)]; exact a2) rfl (by rw [upd_off (by simp), setA_same]; exact w9)) (Nat.le_of_ble_eq_true rfl) (by decide) (Nat.zero_le _) (fun σ9 h9_65 => ?_)
            obtain ⟨M2, h9, d1, d2, d3, d4, d5⟩ := h9_65
            subst h9
            refine aw_iinc2 (pc := 68) F dX0_closeAll_68 rfl hk.symm ?_
            refine aw_goto (tgt := 7) (pc := 71) F dX0_closeAll_71 (by decide) ?_
            first | exact absurd c59 (by decide) | exact absurd rfl c59 | exact yes c44 | exact no (by assumption) M2 d1 d2 d3 d4 d5
  refine aw_aload0 (pc := 0) F dX0_closeAll_0 ?_
  refine aw_iconst (pc := 1) F dX0_closeAll_1 ?_
  refine aw_putI (pc := 2) F dX0_closeAll_2 fl_0_9 fpi_0_0 rfl (by first | decide | (simp only [inB, cnt, rcnt]; omega)) rfl nz0 ?_
  refine aw_iconst (pc := 5) F dX0_closeAll_5 ?_
  refine aw_istore2 (pc := 6) F dX0_closeAll_6 rfl hk.symm ?_
  rw [← hQ]
  exact key N 0 _ (by omega) (same0.rf.up) upd_same (fun k hk1 => absurd hk1 (by omega)) (fun c c0 c1 => absurd c1 (by unfold cyN; omega))
