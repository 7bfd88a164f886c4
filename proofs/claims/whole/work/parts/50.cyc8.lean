/-! 50: the class's cycles -/
def fwA (A : Int → Int) (a b k : Int) : Int → Int := if A a = -1 ∧ A b ≠ -1 then upS A a k else if A b = -1 ∧ A a ≠ -1 then upS A b k else A
theorem ct0_findWay (M : Id4 → Int → Int) (b9 : Bool) (a b k : Int) (ha : 0 ≤ a ∧ a < 6) (hb : 0 ≤ b ∧ b < 6) (i1 : inR (M (0, 0, 6, 0) a)) (i2 : inR (M (0, 0, 6, 0) b)) : CtV 1 0 yX0_findWay cX0_findWay 4 none [aR (0, 0, 0, 0), aI a, aI b, aI k] (M, R0 b9) (fun σ' => σ' = (setA M (0, 0, 6, 0) (fwA (M (0, 0, 6, 0)) a b k), R0 b9)) := by
  refine CtV.mk (by decide +kernel) rfl (Nat.le_of_ble_eq_true rfl) (fun X K F hk => ?_)
  have im : inR (-1) := by unfold inR; decide
  have e1 : M (0, 0, 6, 0) a = -1 → M (0, 0, 6, 0) b ≠ -1 → updM M (0, 0, 6, 0) a k = setA M (0, 0, 6, 0) (fwA (M (0, 0, 6, 0)) a b k) := fun q1 q2 => by unfold fwA; rw [if_pos ⟨q1, q2⟩]; exact upd_asA
  have e2 : M (0, 0, 6, 0) b = -1 → M (0, 0, 6, 0) a ≠ -1 → updM M (0, 0, 6, 0) b k = setA M (0, 0, 6, 0) (fwA (M (0, 0, 6, 0)) a b k) := fun q1 q2 => by unfold fwA; rw [if_neg (fun z => q2 z.1), if_pos ⟨q1, q2⟩]; exact upd_asA
  have e3 : ((M (0, 0, 6, 0) a = -1 ∧ M (0, 0, 6, 0) b = -1) ∨ (M (0, 0, 6, 0) a ≠ -1 ∧ M (0, 0, 6, 0) b ≠ -1)) → M = setA M (0, 0, 6, 0) (fwA (M (0, 0, 6, 0)) a b k) := fun q => by
    unfold fwA
    rw [if_neg (by omega), if_neg (by omega), setA_id]
  refine aw_aload0 (pc := 0) F dX0_findWay_0 ?_
  refine aw_getR (pc := 1) F dX0_findWay_1 fl_0_31 rfl (by first | decide | (simp only [inB, cnt, rcnt]; omega)) rfl nz5 rfl ?_
  refine aw_iload1 (pc := 4) F dX0_findWay_4 ?_
  refine aw_iald (pc := 5) F dX0_findWay_5 rfl (by first | decide | (simp only [inB, cnt, rcnt]; omega)) (by omega) ?_
  refine aw_iconst (pc := 6) F dX0_findWay_6 ?_
  refine aw_icmp_ne (tgt := 30) (pc := 7) F dX0_findWay_7 (by decide) (by assumption) (by assumption) (fun c7 => ?_) (fun c7 => ?_)
  · refine aw_aload0 (pc := 30) F dX0_findWay_30 ?_
    refine aw_getR (pc := 31) F dX0_findWay_31 fl_0_31 rfl (by first | decide | (simp only [inB, cnt, rcnt]; omega)) rfl nz5 rfl ?_
    refine aw_iload2 (pc := 34) F dX0_findWay_34 ?_
    refine aw_iald (pc := 35) F dX0_findWay_35 rfl (by first | decide | (simp only [inB, cnt, rcnt]; omega)) (by omega) ?_
    refine aw_iconst (pc := 36) F dX0_findWay_36 ?_
    refine aw_icmp_ne (tgt := 57) (pc := 37) F dX0_findWay_37 (by decide) (by assumption) (by assumption) (fun c37 => ?_) (fun c37 => ?_)
    · exact aw_vret (pc := 57) F dX0_findWay_57 (Nat.zero_le _) (by first | (rw [← e1 (by assumption) (by assumption)]; done) | (rw [← e2 (by assumption) (by assumption)]; done) | (rw [← e3 (by omega)]; done))
    · refine aw_aload0 (pc := 40) F dX0_findWay_40 ?_
      refine aw_getR (pc := 41) F dX0_findWay_41 fl_0_31 rfl (by first | decide | (simp only [inB, cnt, rcnt]; omega)) rfl nz5 rfl ?_
      refine aw_iload1 (pc := 44) F dX0_findWay_44 ?_
      refine aw_iald (pc := 45) F dX0_findWay_45 rfl (by first | decide | (simp only [inB, cnt, rcnt]; omega)) (by omega) ?_
      refine aw_iconst (pc := 46) F dX0_findWay_46 ?_
      refine aw_icmp_eq (tgt := 57) (pc := 47) F dX0_findWay_47 (by decide) (by assumption) (by assumption) (fun c47 => ?_) (fun c47 => ?_)
      · exact aw_vret (pc := 57) F dX0_findWay_57 (Nat.zero_le _) (by first | (rw [← e1 (by assumption) (by assumption)]; done) | (rw [← e2 (by assumption) (by assumption)]; done) | (rw [← e3 (by omega)]; done))
      · refine aw_aload0 (pc := 50) F dX0_findWay_50 ?_
        refine aw_getR (pc := 51) F dX0_findWay_51 fl_0_31 rfl (by first | decide | (simp only [inB, cnt, rcnt]; omega)) rfl nz5 rfl ?_
        refine aw_iload2 (pc := 54) F dX0_findWay_54 ?_
        refine aw_iload3 (pc := 55) F dX0_findWay_55 ?_
        refine aw_iast (pc := 56) F dX0_findWay_56 rfl (by first | decide | (simp only [inB, cnt, rcnt]; omega)) (by omega) ?_
        exact aw_vret (pc := 57) F dX0_findWay_57 (Nat.zero_le _) (by first | (rw [← e1 (by assumption) (by assumption)]; done) | (rw [← e2 (by assumption) (by assumption)]; done) | (rw [← e3 (by omega)]; done))
  · refine aw_aload0 (pc := 10) F dX0_findWay_10 ?_
    refine aw_getR (pc := 11) F dX0_findWay_11 fl_0_31 rfl (by first | decide | (simp only [inB, cnt, rcnt]; omega)) rfl nz5 rfl ?_
    refine aw_iload2 (pc := 14) F dX0_findWay_14 ?_
    refine aw_iald (pc := 15) F dX0_findWay_15 rfl (by first | decide | (simp only [inB, cnt, rcnt]; omega)) (by omega) ?_
    refine aw_iconst (pc := 16) F dX0_findWay_16 ?_
    refine aw_icmp_eq (tgt := 30) (pc := 17) F dX0_findWay_17 (by decide) (by assumption) (by assumption) (fun c17 => ?_) (fun c17 => ?_)
    · refine aw_aload0 (pc := 30) F dX0_findWay_30 ?_
      refine aw_getR (pc := 31) F dX0_findWay_31 fl_0_31 rfl (by first | decide | (simp only [inB, cnt, rcnt]; omega)) rfl nz5 rfl ?_
      refine aw_iload2 (pc := 34) F dX0_findWay_34 ?_
      refine aw_iald (pc := 35) F dX0_findWay_35 rfl (by first | decide | (simp only [inB, cnt, rcnt]; omega)) (by omega) ?_
      refine aw_iconst (pc := 36) F dX0_findWay_36 ?_
      refine aw_icmp_ne (tgt := 57) (pc := 37) F dX0_findWay_37 (by decide) (by assumption) (by assumption) (fun c37 => ?_) (fun c37 => ?_)
      · exact aw_vret (pc := 57) F dX0_findWay_57 (Nat.zero_le _) (by first | (rw [← e1 (by assumption) (by assumption)]; done) | (rw [← e2 (by assumption) (by assumption)]; done) | (rw [← e3 (by omega)]; done))
      · refine aw_aload0 (pc := 40) F dX0_findWay_40 ?_
        refine aw_getR (pc := 41) F dX0_findWay_41 fl_0_31 rfl (by first | decide | (simp only [inB, cnt, rcnt]; omega)) rfl nz5 rfl ?_
        refine aw_iload1 (pc := 44) F dX0_findWay_44 ?_
        refine aw_iald (pc := 45) F dX0_findWay_45 rfl (by first | decide | (simp only [inB, cnt, rcnt]; omega)) (by omega) ?_
        refine aw_iconst (pc := 46) F dX0_findWay_46 ?_
        refine aw_icmp_eq (tgt := 57) (pc := 47) F dX0_findWay_47 (by decide) (by assumption) (by assumption) (fun c47 => ?_) (fun c47 => ?_)
        · exact aw_vret (pc := 57) F dX0_findWay_57 (Nat.zero_le _) (by first | (rw [← e1 (by assumption) (by assumption)]; done) | (rw [← e2 (by assumption) (by assumption)]; done) | (rw [← e3 (by omega)]; done))
        · refine aw_aload0 (pc := 50) F dX0_findWay_50 ?_
          refine aw_getR (pc := 51) F dX0_findWay_51 fl_0_31 rfl (by first | decide | (simp only [inB, cnt, rcnt]; omega)) rfl nz5 rfl ?_
          refine aw_iload2 (pc := 54) F dX0_findWay_54 ?_
          refine aw_iload3 (pc := 55) F dX0_findWay_55 ?_
          refine aw_iast (pc := 56) F dX0_findWay_56 rfl (by first | decide | (simp only [inB, cnt, rcnt]; omega)) (by omega) ?_
          exact aw_vret (pc := 57) F dX0_findWay_57 (Nat.zero_le _) (by first | (rw [← e1 (by assumption) (by assumption)]; done) | (rw [← e2 (by assumption) (by assumption)]; done) | (rw [← e3 (by omega)]; done))
    · refine aw_aload0 (pc := 20) F dX0_findWay_20 ?_
      refine aw_getR (pc := 21) F dX0_findWay_21 fl_0_31 rfl (by first | decide | (simp only [inB, cnt, rcnt]; omega)) rfl nz5 rfl ?_
      refine aw_iload1 (pc := 24) F dX0_findWay_24 ?_
      refine aw_iload3 (pc := 25) F dX0_findWay_25 ?_
      refine aw_iast (pc := 26) F dX0_findWay_26 rfl (by first | decide | (simp only [inB, cnt, rcnt]; omega)) (by omega) ?_
      refine aw_goto (tgt := 57) (pc := 27) F dX0_findWay_27 (by decide) ?_
      exact aw_vret (pc := 57) F dX0_findWay_57 (Nat.zero_le _) (by first | (rw [← e1 (by assumption) (by assumption)]; done) | (rw [← e2 (by assumption) (by assumption)]; done) | (rw [← e3 (by omega)]; done))
/-- the ways W so far, in sweep m before span k; W0, d0: a whole structure -/
def WI (S : Int → Int) (n : Nat) (g : Int) (W0 : Int → Int) (d0 : Int → Nat) (W : Int → Int) (d : Int → Nat) (m : Nat) (k : Nat) : Prop := PS S n g W d ∧ (∀ v, 0 ≤ v → v < S 1 → -2 ≤ W v ∧ W v < 14) ∧ (∀ v, 0 ≤ v → v < S 1 → W v ≠ -1 → grp S n v = grp S n g) ∧ (∀ v, 0 ≤ v → v < S 1 → W0 v ≠ -1 → d0 v < m → W v ≠ -1) ∧ ∀ v, 0 ≤ v → v < S 1 → W0 v ≠ -1 → d0 v = m → W0 v < k → W v ≠ -1
theorem wi_assign {S : Int → Int} (h : Ok S) {n : Nat} (hn : (n : Int) ≤ S 20) {g : Int} {W0 : Int → Int} {d0 : Int → Nat} (r0 : RS S n g W0 d0) {W : Int → Int} {d : Int → Nat} {m k : Nat} (hm : 1 ≤ m) (hk : k < n) (ht : tre S k) (w : WI S n g W0 d0 W d m k) {x y : Int} (e : (frS S k = x ∧ toS S k = y) ∨ (toS S k = x ∧ frS S k = y)) (hx : W x = -1) (hy : W y ≠ -1) : ∃ d', WI S n g W0 d0 (upS W x k) d' m (k + 1) := by
  obtain ⟨⟨⟨a1, a2⟩, a3⟩, b1, b2, b3, b4⟩ := w
  have hN := h.2.2.1
  have hkS : (k : Int) < S 20 := by omega
  obtain ⟨y0, x0, yx⟩ := ends_in h hkS e
  have gx : grp S n x = grp S n y := by
    have := grp_span (S := S) hk
    rcases e with ⟨e1, e2⟩ | ⟨e1, e2⟩
    · rw [← e1, ← e2]; exact this
    · rw [← e1, ← e2]; exact this.symm
  have up : ∀ v, W v ≠ -1 → upS W x k v ≠ -1 := fun v q => by
    by_cases z : v = x
    · rw [z, upS_same]; omega
    · rw [upS_ne z]; exact q
  refine ⟨fun v => if v = x then d y + 1 else d v, ⟨⟨?_, ?_⟩, fun v v0 v1 vg vW => ?_⟩, fun v v0 v1 => ?_, fun v v0 v1 vW => ?_, fun v v0 v1 q1 q2 => up v (b3 v v0 v1 q1 q2), fun v v0 v1 q1 q2 q3 => ?_⟩
  · rw [upS_ne (fun z => by rw [z] at a1; omega)]; exact a1
  · show (if g = x then d y + 1 else d g) = 0
    rw [if_neg (fun z => by rw [z] at a1; omega)]; exact a2
  · by_cases z : v = x
    · subst z
      refine ⟨k, upS_same, hk, ht, y, e, up y hy, ?_⟩
      show (if v = v then d y + 1 else d v) = (if y = v then d y + 1 else d y) + 1
      rw [if_pos rfl, if_neg yx]
    · rw [upS_ne z] at vW ⊢
      obtain ⟨k2, q1, q2, q3, u, q4, q5, q6⟩ := a3 v v0 v1 vg vW
      refine ⟨k2, q1, q2, q3, u, q4, up u q5, ?_⟩
      show (if v = x then d y + 1 else d v) = (if u = x then d y + 1 else d u) + 1
      rw [if_neg z, if_neg (fun w => by rw [w] at q5; exact q5 hx)]; exact q6
  · by_cases z : v = x
    · rw [z, upS_same]; omega
    · rw [upS_ne z]; exact b1 v v0 v1
  · by_cases z : v = x
    · rw [z, gx]; exact b2 y y0.1 y0.2 hy
    · rw [upS_ne z] at vW; exact b2 v v0 v1 vW
  · by_cases z : W0 v < k
    · exact up v (b4 v v0 v1 q1 q2 z)
    · have ek : W0 v = k := by omega
      obtain ⟨⟨⟨c1, c2⟩, c3⟩, -⟩ := r0
      have vg : v ≠ g := fun w => by rw [w, c1] at ek; omega
      obtain ⟨k2, p1, p2, p3, u, p4, p5, p6⟩ := c3 v v0 v1 vg q1
      obtain rfl : k2 = k := by omega
      obtain ⟨u0, -, -⟩ := ends_in h hkS p4
      have uW := b3 u u0.1 u0.2 p5 (by omega)
      by_cases w : v = x
      · rw [w, upS_same]; omega
      · have : v = y := by
          rcases e with ⟨e1, e2⟩ | ⟨e1, e2⟩ <;> rcases p4 with ⟨f1, f2⟩ | ⟨f1, f2⟩ <;> omega
        rw [this]; exact up y hy
theorem wi_pass {S : Int → Int} (h : Ok S) {n : Nat} (hn : (n : Int) ≤ S 20) {g : Int} {W0 : Int → Int} {d0 : Int → Nat} (r0 : RS S n g W0 d0) {W : Int → Int} {d : Int → Nat} {m k : Nat} (hm : 1 ≤ m) (hk : k < n) (w : WI S n g W0 d0 W d m k) (e : ¬ tre S k ∨ (W (frS S k) = -1 ∧ W (toS S k) = -1) ∨ (W (frS S k) ≠ -1 ∧ W (toS S k) ≠ -1)) : WI S n g W0 d0 W d m (k + 1) := by
  obtain ⟨a, b1, b2, b3, b4⟩ := w
  have hN := h.2.2.1
  have hkS : (k : Int) < S 20 := by omega
  refine ⟨a, b1, b2, b3, fun v v0 v1 q1 q2 q3 => ?_⟩
  by_cases z : W0 v < k
  · exact b4 v v0 v1 q1 q2 z
  · have ek : W0 v = k := by omega
    obtain ⟨⟨⟨c1, c2⟩, c3⟩, -⟩ := r0
    have vg : v ≠ g := fun w => by rw [w, c1] at ek; omega
    obtain ⟨k2, p1, p2, p3, u, p4, p5, p6⟩ := c3 v v0 v1 vg q1
    obtain rfl : k2 = k := by omega
    obtain ⟨u0, -, -⟩ := ends_in h hkS p4
    have uW := b3 u u0.1 u0.2 p5 (by omega)
    rcases e with e | e | e
    · exact absurd p3 e
    · rcases p4 with ⟨f1, f2⟩ | ⟨f1, f2⟩
      · rw [f2] at e; exact absurd e.2 uW
      · rw [f2] at e; exact absurd e.1 uW
    · rcases p4 with ⟨f1, f2⟩ | ⟨f1, f2⟩
      · rw [f1] at e; exact e.1
      · rw [f1] at e; exact e.2
theorem wi_fw {S : Int → Int} (h : Ok S) {n : Nat} (hn : (n : Int) ≤ S 20) {g : Int} {W0 : Int → Int} {d0 : Int → Nat} (r0 : RS S n g W0 d0) {W : Int → Int} {d : Int → Nat} {m k : Nat} (hm : 1 ≤ m) (hk : k < n) (ht : tre S k) (w : WI S n g W0 d0 W d m k) : ∃ d', WI S n g W0 d0 (fwA W (frS S k) (toS S k) k) d' m (k + 1) := by
  unfold fwA
  by_cases c1 : W (frS S k) = -1 ∧ W (toS S k) ≠ -1
  · rw [if_pos c1]
    exact wi_assign h hn r0 hm hk ht w (Or.inl ⟨rfl, rfl⟩) c1.1 c1.2
  · rw [if_neg c1]
    by_cases c2 : W (toS S k) = -1 ∧ W (frS S k) ≠ -1
    · rw [if_pos c2]
      exact wi_assign h hn r0 hm hk ht w (Or.inr ⟨rfl, rfl⟩) c2.1 c2.2
    · rw [if_neg c2]
      exact ⟨d, wi_pass h hn r0 hm hk w (Or.inr (by omega))⟩
/-- what findWays leaves -/
def FW (S : Int → Int) (n : Nat) (g : Int) (W : Int → Int) : Prop := ∃ d, PS S n g W d ∧ (∀ v, 0 ≤ v → v < S 1 → -2 ≤ W v ∧ W v < 14) ∧ ∀ v, 0 ≤ v → v < S 1 → (W v ≠ -1 ↔ grp S n v = grp S n g)
theorem ct0_findWays (M : Id4 → Int → Int) (b9 : Bool) (S : Int → Int) (g : Int) (n : Nat) (hR : plR M 0 S) (h : Ok S) (g0 : 0 ≤ g ∧ g < S 1) (hn : (n : Int) ≤ S 20) (hT : ∀ k : Nat, k < n → M (0, 0, 5, 0) k = b2i (tre S k)) : CtV 2 0 yX0_findWays cX0_findWays 6 none [aR (0, 0, 0, 0), aR (5, 0, 0, 0), aI g, aI n] (M, R0 b9) (fun σ' => ∃ W, σ' = (setA M (0, 0, 6, 0) W, R0 b9) ∧ FW S n g W) := by
  refine CtV.mk (by decide +kernel) rfl (Nat.le_of_ble_eq_true rfl) (fun X K F hk => ?_)
  have hN := h.2.2.1
  have hE := h.2.1
  obtain ⟨E, eE⟩ : ∃ E : Nat, S 1 = (E : Int) := ⟨(S 1).toNat, by omega⟩
  obtain ⟨W0, d0, r0⟩ := rs_ex h n hn g g0.1 g0.2
  have e1 := hR.1.2.1
  obtain ⟨Q9, hQ⟩ : ∃ Q9, Q9 = EV X K 0 (fun σ' => ∃ W, σ' = (setA M (0, 0, 6, 0) W, R0 b9) ∧ FW S n g W) := ⟨_, rfl⟩
  have pl : ∀ W, plR (setA M (0, 0, 6, 0) W) 0 S := fun W => pl_eq (fun c => setA_ne (by simp)) hR
  have keyB : ∀ (m : Nat), 1 ≤ m → m < E → (∀ (W : Int → Int) (d : Int → Nat) (w5 : AV), wide w5 = false → WI S n g W0 d0 W d (m + 1) 0 → AW X K 40 [aR (0, 0, 0, 0), aR (5, 0, 0, 0), aI g, aI n, aI ((m + 1 : Nat) : Int), w5] [] (setA M (0, 0, 6, 0) W, R0 b9) 0 Q9) → ∀ (j k : Nat) (W : Int → Int) (d : Int → Nat), k + j = n → WI S n g W0 d0 W d m k → AW X K 52 [aR (0, 0, 0, 0), aR (5, 0, 0, 0), aI g, aI n, aI m, aI k] [] (setA M (0, 0, 6, 0) W, R0 b9) 0 Q9 := by
    intro m hm hmE cont j
    induction j with
    | zero =>
      intro k W d hk1 w
      obtain rfl : k = n := by omega
      refine aw_iload5 (pc := 52) F dX0_findWays_52 ?_
      refine aw_iload3 (pc := 54) F dX0_findWays_54 ?_
      refine aw_icmp_ge (tgt := 94) (pc := 55) F dX0_findWays_55 (by decide) (by unfold inR; omega) (by unfold inR; omega) (fun c55 => ?_) (fun c55 => ?_)
      · refine aw_iinc4 (pc := 94) F dX0_findWays_94 rfl hk.symm ?_
        refine aw_goto (tgt := 40) (pc := 97) F dX0_findWays_97 (by decide) ?_
        refine cont W d _ rfl ?_
        obtain ⟨a, b1, b2, b3, b4⟩ := w
        refine ⟨a, b1, b2, fun v v0 v1 q1 q2 => ?_, fun v v0 v1 q1 q2 q3 => ?_⟩
        · by_cases z : d0 v < m
          · exact b3 v v0 v1 q1 z
          · refine b4 v v0 v1 q1 (by omega) ?_
            obtain ⟨⟨⟨c1, c2⟩, c3⟩, -⟩ := r0
            have vg : v ≠ g := fun w => by rw [w, c2] at z; omega
            obtain ⟨k2, p1, p2, -⟩ := c3 v v0 v1 vg q1
            omega
        · obtain ⟨⟨⟨c1, c2⟩, c3⟩, -⟩ := r0
          have vg : v ≠ g := fun w => by rw [w, c2] at q2; omega
          obtain ⟨k2, p1, p2, -⟩ := c3 v v0 v1 vg q1
          omega
      · omega
    | succ j ih =>
      intro k W d hk1 w
      have hR' := pl W
      obtain ⟨f0, f1, -⟩ := hR'.2.2 k (by omega) (by omega)
      have f0' : setA M (0, 0, 6, 0) W (5, 0, 5, 0) k = frS S k := f0
      have f1' : setA M (0, 0, 6, 0) W (5, 0, 6, 0) k = toS S k := f1
      have sp := h.2.2.2.2 k (by omega) (by omega)
      unfold SpOk at sp
      have fb : 0 ≤ frS S k ∧ frS S k < S 1 := sp.1
      have tb : 0 ≤ toS S k ∧ toS S k < S 1 := sp.2.1
      have et : setA M (0, 0, 6, 0) W (0, 0, 5, 0) k = b2i (tre S k) := by rw [setA_ne (by decide)]; exact hT k (by omega)
      have bW := w.2.1
      have bf := bW _ fb.1 fb.2
      have bt := bW _ tb.1 tb.2
      refine aw_iload5 (pc := 52) F dX0_findWays_52 ?_
      refine aw_iload3 (pc := 54) F dX0_findWays_54 ?_
      refine aw_icmp_ge (tgt := 94) (pc := 55) F dX0_findWays_55 (by decide) (by unfold inR; omega) (by unfold inR; omega) (fun c55 => ?_) (fun c55 => ?_)
      · omega
      · refine aw_aload0 (pc := 58) F dX0_findWays_58 ?_
        refine aw_getR (pc := 59) F dX0_findWays_59 fl_0_27 rfl (by first | decide | (simp only [inB, cnt, rcnt]; omega)) rfl nz4 rfl ?_
        refine aw_iload5 (pc := 62) F dX0_findWays_62 ?_
        refine aw_zald (pc := 64) F dX0_findWays_64 rfl (by first | decide | (simp only [inB, cnt, rcnt]; omega)) (by omega) ?_
        rw [et]
        refine aw_if_eq (tgt := 88) (pc := 65) F dX0_findWays_65 (by decide) b2i_inR (fun c65 => ?_) (fun c65 => ?_)
        · refine aw_iinc5 (pc := 88) F dX0_findWays_88 rfl hk.symm ?_
          refine aw_goto (tgt := 52) (pc := 91) F dX0_findWays_91 (by decide) ?_
          first | exact ih (k + 1) W d (by omega) (wi_pass h hn r0 hm (by omega) w (Or.inl (b2i_0.mp c65))) | (obtain ⟨d', w'⟩ := wi_fw h hn r0 hm (by omega) (Classical.byContradiction fun z => c65 (b2i_neg z)) w; exact ih (k + 1) _ d' (by omega) w')
        · refine aw_aload0 (pc := 68) F dX0_findWays_68 ?_
          refine aw_aload1 (pc := 69) F dX0_findWays_69 ?_
          refine aw_getR (pc := 70) F dX0_findWays_70 fl_0_39 rfl (by first | decide | (simp only [inB, cnt, rcnt]; omega)) rfl nz4 rfl ?_
          refine aw_iload5 (pc := 73) F dX0_findWays_73 ?_
          refine aw_iald (pc := 75) F dX0_findWays_75 rfl (by first | decide | (simp only [inB, cnt, rcnt]; omega)) (by omega) ?_
          refine aw_aload1 (pc := 76) F dX0_findWays_76 ?_
          refine aw_getR (pc := 77) F dX0_findWays_77 fl_0_46 rfl (by first | decide | (simp only [inB, cnt, rcnt]; omega)) rfl nz5 rfl ?_
          refine aw_iload5 (pc := 80) F dX0_findWays_80 ?_
          refine aw_iald (pc := 82) F dX0_findWays_82 rfl (by first | decide | (simp only [inB, cnt, rcnt]; omega)) (by omega) ?_
          refine aw_iload5 (pc := 83) F dX0_findWays_83 ?_
          rw [f0', f1']
          refine aw_callVV3 (pc := 85) F dX0_findWays_85 ml_0_56 rfl (by first | decide | (simp only [inB, cnt, rcnt]; omega)) (ct0_findWay _ _ _ _ _ (by omega) (by omega) (by rw [setA_same]; unfold inR; omega) (by rw [setA_same]; unfold inR; omega)) (Nat.le_of_ble_eq_true rfl) (by decide) (Nat.zero_le _) (fun σ9 h9 => ?_)
          subst h9
          rw [setA_same, setA_setA]
          refine aw_iinc5 (pc := 88) F dX0_findWays_88 rfl hk.symm ?_
          refine aw_goto (tgt := 52) (pc := 91) F dX0_findWays_91 (by decide) ?_
          first | exact ih (k + 1) W d (by omega) (wi_pass h hn r0 hm (by omega) w (Or.inl (b2i_0.mp c65))) | (obtain ⟨d', w'⟩ := wi_fw h hn r0 hm (by omega) (Classical.byContradiction fun z => c65 (b2i_neg z)) w; exact ih (k + 1) _ d' (by omega) w')
  have keyA : ∀ (j m : Nat) (W : Int → Int) (d : Int → Nat) (w5 : AV), 1 ≤ m → m + j = E → wide w5 = false → WI S n g W0 d0 W d m 0 → AW X K 40 [aR (0, 0, 0, 0), aR (5, 0, 0, 0), aI g, aI n, aI m, w5] [] (setA M (0, 0, 6, 0) W, R0 b9) 0 Q9 := by
    intro j
    induction j with
    | zero =>
      intro m W d w5 hm hmE g5 w
      obtain rfl : m = E := by omega
      have e1' := (pl W).1.2.1
      refine aw_iload4 (pc := 40) F dX0_findWays_40 ?_
      refine aw_aload1 (pc := 42) F dX0_findWays_42 ?_
      refine aw_getI (pc := 43) F dX0_findWays_43 fl_0_53 rfl (by first | decide | (simp only [inB, cnt, rcnt]; omega)) rfl nz1 ?_
      refine aw_icmp_ge (tgt := 100) (pc := 46) F dX0_findWays_46 (by decide) (by unfold inR; omega) (by unfold inR; omega) (fun c46 => ?_) (fun c46 => ?_)
      · rw [hQ]
        exact aw_vret (pc := 100) F dX0_findWays_100 (Nat.zero_le _) ⟨W, rfl, d, w.1, w.2.1, fun v v0 v1 => ⟨w.2.2.1 v v0 v1, fun q => by
          have q0 := (r0.2.2.1 v v0 v1).mpr q
          have q1 := r0.2.2.2 v v0 v1 q0
          have q2 := sumI_bd (f := fun e => if W0 e = -1 then 0 else 1) (c := 1) (S 1).toNat (fun k _ _ => by split <;> omega)
          unfold cntW at q1
          exact w.2.2.2.1 v v0 v1 q0 (by omega)⟩⟩
      · omega
    | succ j ih =>
      intro m W d w5 hm hmE g5 w
      have e1' := (pl W).1.2.1
      refine aw_iload4 (pc := 40) F dX0_findWays_40 ?_
      refine aw_aload1 (pc := 42) F dX0_findWays_42 ?_
      refine aw_getI (pc := 43) F dX0_findWays_43 fl_0_53 rfl (by first | decide | (simp only [inB, cnt, rcnt]; omega)) rfl nz1 ?_
      refine aw_icmp_ge (tgt := 100) (pc := 46) F dX0_findWays_46 (by decide) (by unfold inR; omega) (by unfold inR; omega) (fun c46 => ?_) (fun c46 => ?_)
      · omega
      · refine aw_iconst (pc := 49) F dX0_findWays_49 ?_
        refine aw_istore5 (pc := 50) F dX0_findWays_50 (by simp only [List.all_cons, List.all_nil, g5]; rfl) hk.symm ?_
        exact keyB m hm (by omega) (fun W2 d2 w5 q5 w2 => ih (m + 1) W2 d2 w5 (by omega) (by omega) q5 w2) n 0 W d (by omega) w
  have key0 : ∀ (j i : Nat) (W : Int → Int), i + j = E → (∀ v : Int, 0 ≤ v → v < i → W v = if v = g then -2 else -1) → AW X K 3 [aR (0, 0, 0, 0), aR (5, 0, 0, 0), aI g, aI n, aI i, aX] [] (setA M (0, 0, 6, 0) W, R0 b9) 0 Q9 := by
    intro j
    induction j with
    | zero =>
      intro i W hi hw
      have e1' := (pl W).1.2.1
      have hv : ∀ v : Int, 0 ≤ v → v < S 1 → W v = if v = g then -2 else -1 := fun v v0 v1 => hw v v0 (by omega)
      have no : ∀ v : Int, 0 ≤ v → v < S 1 → W v ≠ -1 → v = g := fun v v0 v1 q => Classical.byContradiction fun z => q (by rw [hv v v0 v1, if_neg z])
      have Wg : W g = -2 := by rw [hv g g0.1 g0.2, if_pos rfl]
      refine aw_iload4 (pc := 3) F dX0_findWays_3 ?_
      refine aw_aload1 (pc := 5) F dX0_findWays_5 ?_
      refine aw_getI (pc := 6) F dX0_findWays_6 fl_0_53 rfl (by first | decide | (simp only [inB, cnt, rcnt]; omega)) rfl nz1 ?_
      refine aw_icmp_ge (tgt := 37) (pc := 9) F dX0_findWays_9 (by decide) (by unfold inR; omega) (by unfold inR; omega) (fun c9 => ?_) (fun c9 => ?_)
      · refine aw_iconst (pc := 37) F dX0_findWays_37 ?_
        refine aw_istore4 (pc := 38) F dX0_findWays_38 rfl hk.symm ?_
        refine keyA (E - 1) 1 W (fun _ => 0) _ (by omega) (by omega) rfl ⟨⟨⟨Wg, rfl⟩, fun v v0 v1 vg vW => absurd (no v v0 v1 vW) vg⟩, fun v v0 v1 => ?_, fun v v0 v1 q => by rw [no v v0 v1 q], fun v v0 v1 q1 q2 => ?_, fun v v0 v1 q1 q2 q3 => ?_⟩
        · rw [hv v v0 v1]; split <;> omega
        · obtain ⟨⟨⟨c1, c2⟩, c3⟩, -⟩ := r0
          by_cases vg : v = g
          · rw [vg, Wg]; decide
          · obtain ⟨k2, p1, p2, p3, u, p4, p5, p6⟩ := c3 v v0 v1 vg q1
            omega
        · obtain ⟨⟨⟨c1, c2⟩, c3⟩, -⟩ := r0
          have vg : v ≠ g := fun w => by rw [w, c2] at q2; omega
          obtain ⟨k2, p1, p2, -⟩ := c3 v v0 v1 vg q1
          omega
      · omega
    | succ j ih =>
      intro i W hi hw
      have e1' := (pl W).1.2.1
      have st : ∀ x, x = (if (i : Int) = g then -2 else -1) → AW X K 3 [aR (0, 0, 0, 0), aR (5, 0, 0, 0), aI g, aI n, aI ((i + 1 : Nat) : Int), aX] [] (updM (setA M (0, 0, 6, 0) W) (0, 0, 6, 0) i x, R0 b9) 0 Q9 := fun x hx => by
        rw [upd_setA]
        refine ih (i + 1) _ (by omega) (fun v v0 v1 => ?_)
        by_cases z : v = i
        · rw [z, upS_same]; exact hx
        · rw [upS_ne z]; exact hw v v0 (by omega)
      refine aw_iload4 (pc := 3) F dX0_findWays_3 ?_
      refine aw_aload1 (pc := 5) F dX0_findWays_5 ?_
      refine aw_getI (pc := 6) F dX0_findWays_6 fl_0_53 rfl (by first | decide | (simp only [inB, cnt, rcnt]; omega)) rfl nz1 ?_
      refine aw_icmp_ge (tgt := 37) (pc := 9) F dX0_findWays_9 (by decide) (by unfold inR; omega) (by unfold inR; omega) (fun c9 => ?_) (fun c9 => ?_)
      · omega
      · refine aw_aload0 (pc := 12) F dX0_findWays_12 ?_
        refine aw_getR (pc := 13) F dX0_findWays_13 fl_0_31 rfl (by first | decide | (simp only [inB, cnt, rcnt]; omega)) rfl nz5 rfl ?_
        refine aw_iload4 (pc := 16) F dX0_findWays_16 ?_
        refine aw_iload4 (pc := 18) F dX0_findWays_18 ?_
        refine aw_iload2 (pc := 20) F dX0_findWays_20 ?_
        refine aw_icmp_ne (tgt := 29) (pc := 21) F dX0_findWays_21 (by decide) (by unfold inR; omega) (by unfold inR; omega) (fun c21 => ?_) (fun c21 => ?_)
        · refine aw_iconst (pc := 29) F dX0_findWays_29 ?_
          refine aw_iast (pc := 30) F dX0_findWays_30 rfl (by first | decide | (simp only [inB, cnt, rcnt]; omega)) (by omega) ?_
          refine aw_iinc4 (pc := 31) F dX0_findWays_31 rfl hk.symm ?_
          refine aw_goto (tgt := 3) (pc := 34) F dX0_findWays_34 (by decide) ?_
          exact st _ (by first | exact (if_pos c21).symm | exact (if_neg c21).symm)
        · refine aw_bipush (pc := 24) F dX0_findWays_24 (by decide) ?_
          refine aw_goto (tgt := 30) (pc := 26) F dX0_findWays_26 (by decide) ?_
          refine aw_iast (pc := 30) F dX0_findWays_30 rfl (by first | decide | (simp only [inB, cnt, rcnt]; omega)) (by omega) ?_
          refine aw_iinc4 (pc := 31) F dX0_findWays_31 rfl hk.symm ?_
          refine aw_goto (tgt := 3) (pc := 34) F dX0_findWays_34 (by decide) ?_
          exact st _ (by first | exact (if_pos c21).symm | exact (if_neg c21).symm)
  refine aw_iconst (pc := 0) F dX0_findWays_0 ?_
  refine aw_istore4 (pc := 1) F dX0_findWays_1 rfl hk.symm ?_
  rw [← hQ]
  have g := key0 E 0 (M (0, 0, 6, 0)) (by omega) (fun v v0 v1 => absurd v1 (by omega))
  rw [setA_id] at g
  exact g
