/-! 46: the reference's cycles -/
def desc (S : Int → Int) (g x v : Int) : Prop := ∃ i : Nat, i ≤ dpS S g x ∧ pvS S g x i = v
theorem pv_add {S : Int → Int} {g x : Int} (i : Nat) : ∀ j : Nat, pvS S g x (i + j) = pvS S g (pvS S g x i) j
  | 0 => rfl
  | j + 1 => by
    have ih := pv_add (S := S) (g := g) (x := x) i j
    show othS S (wyS S g (pvS S g x (i + j))) (pvS S g x (i + j)) = othS S (wyS S g (pvS S g (pvS S g x i) j)) (pvS S g (pvS S g x i) j)
    rw [ih]
theorem desc_d {S : Int → Int} {g : Int} (h : Ok S) (g0 : 0 ≤ g) (g1 : g < S 1) {x v : Int} (x0 : 0 ≤ x ∧ x < S 1) (xW : wyS S g x ≠ -1) (d : desc S g x v) : dpS S g v ≤ dpS S g x := by
  obtain ⟨i, hi, e⟩ := d
  have := (pv_d h g0 g1 x0.1 x0.2 xW i hi).1
  rw [e] at this
  omega
theorem desc_tr {S : Int → Int} {g : Int} (h : Ok S) (g0 : 0 ≤ g) (g1 : g < S 1) {x v u : Int} (x0 : 0 ≤ x ∧ x < S 1) (xW : wyS S g x ≠ -1) (d : desc S g x v) (d2 : desc S g v u) : desc S g x u := by
  obtain ⟨i, hi, e⟩ := d
  obtain ⟨j, hj, e2⟩ := d2
  have := (pv_d h g0 g1 x0.1 x0.2 xW i hi).1
  rw [e] at this
  exact ⟨i + j, by omega, by rw [pv_add, e, e2]⟩
theorem desc_eq {S : Int → Int} {g : Int} (h : Ok S) (g0 : 0 ≤ g) (g1 : g < S 1) {x v u : Int} (x0 : 0 ≤ x ∧ x < S 1) (xW : wyS S g x ≠ -1) (d : desc S g x v) (d2 : desc S g x u) (e9 : dpS S g v = dpS S g u) : v = u := by
  obtain ⟨i, hi, e⟩ := d
  obtain ⟨j, hj, e2⟩ := d2
  have a := (pv_d h g0 g1 x0.1 x0.2 xW i hi).1
  have b := (pv_d h g0 g1 x0.1 x0.2 xW j hj).1
  rw [e] at a
  rw [e2] at b
  obtain rfl : i = j := by omega
  rw [← e, ← e2]
/-- a tree span at v that isn't v's own way: its other end's way is that span -/
theorem child_of {S : Int → Int} {g : Int} (h : Ok S) (g0 : 0 ≤ g) (g1 : g < S 1) {v : Int} {k : Nat} (v0 : 0 ≤ v ∧ v < S 1) (vW : wyS S g v ≠ -1) (hk : (k : Int) < S 20) (kt : tre S k) (inc : frS S k = v ∨ toS S k = v) (kv : (k : Int) ≠ wyS S g v) : (0 ≤ othS S k v ∧ othS S k v < S 1) ∧ wyS S g (othS S k v) = k ∧ othS S k v ≠ g ∧ dpS S g (othS S k v) = dpS S g v + 1 ∧ othS S k (othS S k v) = v ∧ othS S k v ≠ v ∧ ((frS S k = v ∧ toS S k = othS S k v) ∨ (toS S k = v ∧ frS S k = othS S k v)) := by
  have hN := h.2.2.1
  obtain ⟨u, hu⟩ : ∃ u, u = othS S k v := ⟨_, rfl⟩
  have e : (frS S k = v ∧ toS S k = u) ∨ (toS S k = v ∧ frS S k = u) := by
    by_cases z : frS S k = v
    · exact Or.inl ⟨z, by rw [hu]; unfold othS; rw [if_pos z]⟩
    · exact Or.inr ⟨inc.resolve_left z, by rw [hu]; unfold othS; rw [if_neg z]⟩
  obtain ⟨u0, -, uv⟩ := ends_in h hk e
  obtain ⟨⟨⟨b1, b2⟩, b3⟩, b4, b5, b6⟩ := wy_is h g0 g1
  have uk : wyS S g u = k := by
    rcases b4 k (by omega) kt with y | y | y
    · rcases e with ⟨x1, x2⟩ | ⟨x1, x2⟩
      · rw [x1] at y; exact absurd y.1 vW
      · rw [x1] at y; exact absurd y.2 vW
    · rcases e with ⟨x1, x2⟩ | ⟨x1, x2⟩
      · rw [x1] at y; exact absurd y.symm kv
      · rw [x2] at y; exact y
    · rcases e with ⟨x1, x2⟩ | ⟨x1, x2⟩
      · rw [x2] at y; exact y
      · rw [x1] at y; exact absurd y.symm kv
  have ug : u ≠ g := fun z => by rw [z, b1] at uk; omega
  have oo : othS S k u = v := by
    unfold othS
    rcases e with ⟨x1, x2⟩ | ⟨x1, x2⟩
    · rw [if_neg (by rw [x1]; exact fun z => uv z.symm), x1]
    · rw [if_pos x2, x1]
  obtain ⟨k2, q1, q2, q3, q4, q5, q6, q7⟩ := wy_step h g0 g1 u0.1 u0.2 ug (by rw [uk]; omega)
  obtain rfl : k2 = k := by omega
  rw [oo] at q7
  rw [← hu]
  exact ⟨u0, uk, ug, q7, oo, uv, e⟩
/-- who has been visited: v anew -/
theorem vis_add {S vis : Int → Int} {u : Int} (h : Ok S) (u0 : 0 ≤ u ∧ u < S 1) (z : vis u = 0) : sumI (upS vis u 1) (S 1).toNat = sumI vis (S 1).toNat + 1 := by
  have one : ∀ n : Nat, u < n → sumI (fun e => if e = u then 1 else 0) n = 1 := by
    intro n
    induction n with
    | zero => intro q; omega
    | succ n ih =>
      intro q
      show sumI (fun e => if e = u then 1 else 0) n + (if (n : Int) = u then 1 else 0) = 1
      by_cases y : (n : Int) = u
      · rw [if_pos y]
        have : sumI (fun e => if e = u then 1 else 0) n = sumI (fun _ => 0) n := sumI_congr n (fun k k0 k1 => if_neg (by omega))
        have z9 : ∀ m : Nat, sumI (fun _ => 0) m = 0 := fun m => by
          induction m with
          | zero => rfl
          | succ m ih => show sumI (fun _ => 0) m + 0 = 0; omega
        rw [this, z9]
        rfl
      · rw [if_neg y, ih (by omega)]
        rfl
  have := one (S 1).toNat (by omega)
  have t9 := sumI_add (f := vis) (g := fun e => if e = u then 1 else 0) (S 1).toNat
  rw [this] at t9
  rw [← t9]
  refine sumI_congr _ (fun k k0 k1 => ?_)
  unfold upS
  by_cases y : k = u
  · rw [if_pos y, if_pos y, y, z]; rfl
  · rw [if_neg y, if_neg y]; omega
theorem vis_bd {S vis : Int → Int} (h : Ok S) (hv : ∀ e, vis e = 0 ∨ vis e = 1) : 0 ≤ sumI vis (S 1).toNat ∧ sumI vis (S 1).toNat ≤ S 1 := by
  have hE := h.2.1
  have := sumI_bd (f := vis) (c := 1) (S 1).toNat (fun k _ _ => by have := hv k; omega)
  omega
def chW (M M' : Id4 → Int → Int) : Prop := ∀ q k, ¬ ((q = (9, 0, 0, 0) ∧ k = 24) ∨ q = (9, 0, 23, 0) ∨ q = (9, 0, 24, 0)) → M' q k = M q k
theorem chW.rf {M : Id4 → Int → Int} : chW M M := fun _ _ _ => rfl
theorem chW.tr {M M1 M2 : Id4 → Int → Int} (h1 : chW M M1) (h2 : chW M1 M2) : chW M M2 := fun q k h => (h2 q k h).trans (h1 q k h)
theorem chW.up {M M1 : Id4 → Int → Int} {q : Id4} {k v : Int} (h1 : chW M M1) (h : (q = (9, 0, 0, 0) ∧ k = 24) ∨ q = (9, 0, 23, 0) ∨ q = (9, 0, 24, 0)) : chW M (updM M1 q k v) := fun q' k' h' => by
  rw [upd_ne (by
    by_cases e : q' = q
    · right
      intro z
      rw [e, z] at h'
      exact h' h
    · exact Or.inl e)]
  exact h1 q' k' h'
theorem chW.s {M M' : Id4 → Int → Int} (h : chW M M') : M' (9, 0, 1, 0) = M (9, 0, 1, 0) := funext fun k => h _ k (by simp)
theorem chW.t {M M' : Id4 → Int → Int} (h : chW M M') : M' (9, 0, 19, 0) = M (9, 0, 19, 0) := funext fun k => h _ k (by simp)
theorem chW.q {M M' : Id4 → Int → Int} (h : chW M M') : same9 M M' := fun q k z => h q k (fun y => z (by
  rcases y with ⟨y1, y2⟩ | y | y
  · rw [y1, y2]; unfold scr9; decide
  · rw [y]; unfold scr9; simp
  · rw [y]; unfold scr9; simp))
def goM (M : Id4 → Int → Int) (L k f : Int) : Id4 → Int → Int := updM (updM (updM M (9, 0, 23, 0) L k) (9, 0, 24, 0) L f) (9, 0, 0, 0) 24 (L + 1)
theorem goM_ch {M : Id4 → Int → Int} {L k f : Int} : chW M (goM M L k f) := ((chW.rf.up (Or.inr (Or.inl rfl))).up (Or.inr (Or.inr rfl))).up (Or.inl ⟨rfl, rfl⟩)
theorem goM_at {M : Id4 → Int → Int} {L k f : Int} : goM M L k f (9, 0, 0, 0) 24 = L + 1 ∧ goM M L k f (9, 0, 23, 0) L = k ∧ goM M L k f (9, 0, 24, 0) L = f := by
  unfold goM
  refine ⟨upd_same, ?_, ?_⟩
  · rw [upd_ne (Or.inl (by decide)), upd_ne (Or.inl (by decide)), upd_same]
  · rw [upd_ne (Or.inl (by decide)), upd_same]
theorem goM_lo {M : Id4 → Int → Int} {L k f j : Int} (hj : j < L) : goM M L k f (9, 0, 23, 0) j = M (9, 0, 23, 0) j ∧ goM M L k f (9, 0, 24, 0) j = M (9, 0, 24, 0) j := by
  unfold goM
  refine ⟨?_, ?_⟩
  · rw [upd_ne (Or.inl (by decide)), upd_ne (Or.inl (by decide)), upd_ne (Or.inr (by omega))]
  · rw [upd_ne (Or.inl (by decide)), upd_ne (Or.inr (by omega)), upd_ne (Or.inl (by decide))]
theorem ct9_goes (M : Id4 → Int → Int) (b : Bool) (k f L : Int) (hf : f = 0 ∨ f = 1) (hL : M (9, 0, 0, 0) 24 = L) (h1 : 0 ≤ L ∧ L < 8) : CtV 1 0 yX9_goes cX9_goes 3 none [aR (9, 0, 0, 0), aI k, aI f] (M, R0 b) (fun σ' => σ' = (goM M L k f, R0 b)) := by
  refine CtV.mk (by decide +kernel) rfl (Nat.le_of_ble_eq_true rfl) (fun X K F hk => ?_)
  refine aw_aload0 (pc := 0) F dX9_goes_0 ?_
  refine aw_getR (pc := 1) F dX9_goes_1 fl_9_39 rfl (by first | decide | (simp only [inB, cnt, rcnt]; omega)) rfl nz22 rfl ?_
  refine aw_aload0 (pc := 4) F dX9_goes_4 ?_
  refine aw_getI (pc := 5) F dX9_goes_5 fl_9_280 rfl (by first | decide | (simp only [inB, cnt, rcnt]; omega)) rfl nz24 ?_
  refine aw_iload1 (pc := 8) F dX9_goes_8 ?_
  rw [hL]
  refine aw_iast (pc := 9) F dX9_goes_9 rfl (by first | decide | (simp only [inB, cnt, rcnt]; omega)) (by omega) ?_
  refine aw_aload0 (pc := 10) F dX9_goes_10 ?_
  refine aw_getR (pc := 11) F dX9_goes_11 fl_9_42 rfl (by first | decide | (simp only [inB, cnt, rcnt]; omega)) rfl nz23 rfl ?_
  refine aw_aload0 (pc := 14) F dX9_goes_14 ?_
  refine aw_getI (pc := 15) F dX9_goes_15 fl_9_280 rfl (by first | decide | (simp only [inB, cnt, rcnt]; omega)) rfl nz24 ?_
  rw [upd_ne (Or.inl (by decide)), hL]
  refine aw_iload2 (pc := 18) F dX9_goes_18 ?_
  refine aw_zast (pc := 19) F dX9_goes_19 rfl (by first | decide | (simp only [inB, cnt, rcnt]; omega)) (by omega) (by rcases hf with rfl | rfl <;> rfl) ?_
  refine aw_aload0 (pc := 20) F dX9_goes_20 ?_
  refine aw_dupR (pc := 21) F dX9_goes_21 ?_
  refine aw_getI (pc := 22) F dX9_goes_22 fl_9_280 rfl (by first | decide | (simp only [inB, cnt, rcnt]; omega)) rfl nz24 ?_
  refine aw_iconst (pc := 25) F dX9_goes_25 ?_
  refine aw_iadd (pc := 26) F dX9_goes_26 ?_
  refine aw_putI (pc := 27) F dX9_goes_27 fl_9_280 fpi_9_24 rfl (by first | decide | (simp only [inB, cnt, rcnt]; omega)) rfl nz24 ?_
  exact aw_vret (pc := 30) F dX9_goes_30 (Nat.zero_le _) (by unfold goM; rw [upd_ne (Or.inl (by decide)), upd_ne (Or.inl (by decide)), hL])
/-- the tree is told -/
def treA (S : Int → Int) (M : Id4 → Int → Int) : Prop := ∀ k : Nat, (k : Int) < S 20 → M (9, 0, 19, 0) k = b2i (tre S k)
/-- one span looked at: it is passed over, or leads nowhere -/
theorem leads_iter {X : Cx} {K : Kx} {d d2 : Nat} {Q : State → Prop} {S : Int → Int} {M : Id4 → Int → Int} {b : Bool} {v g but L : Int} {k : Nat} {w6 : AV} (F : Fx X K cX9_leads yX9_leads.cls (some .boolean) d 0 false) (hk : K.2.2.2.1 = 7) (hS : M (9, 0, 1, 0) = S) (h : Ok S) (ht : treA S M) (hkN : (k : Int) < S 20) (hv : 0 ≤ v ∧ v < S 1) (hbut : inR but) (hw6 : wide w6 = false) (h4 : 4 ≤ d) (hd : d2 + 1 ≤ d) (hL : M (9, 0, 0, 0) 24 = L) (h1 : 0 ≤ L ∧ L < 8)
    (hc : tre S k → (k : Int) ≠ but → (frS S k = v ∨ toS S k = v) → CtI d2 0 yX9_leads cX9_leads 7 (some .boolean) [aR (9, 0, 0, 0), aI (othS S k v), aI g, aI k] (goM M L k (b2i (frS S k = v)), R0 b) (fun r σ' => r = 0 ∧ ∃ M', σ' = (M', R0 b) ∧ chW (goM M L k (b2i (frS S k = v))) M' ∧ ∀ j, 0 ≤ j → j < L + 1 → M' (9, 0, 23, 0) j = goM M L k (b2i (frS S k = v)) (9, 0, 23, 0) j ∧ M' (9, 0, 24, 0) j = goM M L k (b2i (frS S k = v)) (9, 0, 24, 0) j))
    (cont : ∀ (M' : Id4 → Int → Int) (w6 : AV), wide w6 = false → chW M M' → M' (9, 0, 0, 0) 24 = L → (∀ j, 0 ≤ j → j < L → M' (9, 0, 23, 0) j = M (9, 0, 23, 0) j ∧ M' (9, 0, 24, 0) j = M (9, 0, 24, 0) j) → AW X K 16 [aR (9, 0, 0, 0), aI v, aI g, aI but, aI L, aI ((k + 1 : Nat) : Int), w6] [] (M', R0 b) 0 Q) :
    AW X K 16 [aR (9, 0, 0, 0), aI v, aI g, aI but, aI L, aI k, w6] [] (M, R0 b) 0 Q := by
  have hN := h.2.2.1
  have hE := h.2.1
  have s20 := congrFun hS 20
  have e0 : M (9, 0, 1, 0) (21 + 5 * (k : Int) + 0) = frS S k := by rw [hS]
  have e1 : M (9, 0, 1, 0) (21 + 5 * (k : Int) + 1) = toS S k := by rw [hS]
  have et := ht k hkN
  have sp := h.2.2.2.2 k (by omega) hkN
  unfold SpOk at sp
  have i0 : inR (frS S k) := by unfold frS inR; omega
  have i1 : inR (toS S k) := by unfold toS inR; omega
  have skip : ∀ w, wide w = false → AW X K 16 [aR (9, 0, 0, 0), aI v, aI g, aI but, aI L, aI ((k + 1 : Nat) : Int), w] [] (M, R0 b) 0 Q := fun w hw => cont M w hw chW.rf hL (fun _ _ _ => ⟨rfl, rfl⟩)
  have go : tre S k → (k : Int) ≠ but → ∀ f : Int, f = b2i (frS S k = v) → (frS S k = v ∨ toS S k = v) → AW X K 81 [aR (9, 0, 0, 0), aI v, aI g, aI but, aI L, aI k, aI f] [] (M, R0 b) 0 Q := by
    intro kt kb f hf inc
    have hf1 : f = 0 ∨ f = 1 := by rw [hf]; exact b2i_01
    have hc2 := hc kt kb inc
    rw [← hf] at hc2
    obtain ⟨M1, hM1⟩ : ∃ M1, M1 = goM M L k f := ⟨_, rfl⟩
    have s1 : M1 (9, 0, 1, 0) = S := by rw [hM1, goM_ch.s, hS]
    rw [← hM1] at hc2
    have eo : ∀ w : Int, (w = (if frS S k = v then 1 else 0)) → M1 (9, 0, 1, 0) (21 + 5 * (k : Int) + w) = othS S k v := fun w hw => by
      rw [s1, hw]
      unfold othS
      split <;> rfl
    refine aw_aload0 (pc := 81) F dX9_leads_81 ?_
    refine aw_iload5 (pc := 82) F dX9_leads_82 ?_
    refine aw_iload6 (pc := 84) F dX9_leads_84 ?_
    refine aw_callVV2 (pc := 86) F dX9_leads_86 ml_9_283 rfl (by first | decide | (simp only [inB, cnt, rcnt]; omega)) (ct9_goes _ _ _ _ L hf1 hL h1) (Nat.le_of_ble_eq_true rfl) (by omega) (Nat.zero_le _) (fun σ9 h9 => ?_)
    subst h9
    rw [← hM1]
    refine aw_aload0 (pc := 89) F dX9_leads_89 ?_
    refine aw_aload0 (pc := 90) F dX9_leads_90 ?_
    refine aw_iload5 (pc := 91) F dX9_leads_91 ?_
    refine aw_iload6 (pc := 93) F dX9_leads_93 ?_
    refine aw_if_eq (tgt := 102) (pc := 95) F dX9_leads_95 (by decide) (by unfold inR; omega) (fun c95 => ?_) (fun c95 => ?_)
    · refine aw_iconst (pc := 102) F dX9_leads_102 ?_
      refine aw_pcallV2 (pc := 103) F dX9_leads_103 ml_9_200 rfl (by first | decide | (simp only [inB, cnt, rcnt]; omega)) (ct9_of _ _ _ _ (by omega) (by omega)) (Nat.le_of_ble_eq_true rfl) (by omega) (Nat.zero_le _) ?_
      rw [eo _ (by first | (rw [if_pos (b2i_1.mp (by rw [← hf]; omega))]; done) | (rw [if_neg (b2i_0.mp (by rw [← hf]; omega))]; done))]
      refine aw_iload2 (pc := 106) F dX9_leads_106 ?_
      refine aw_iload5 (pc := 107) F dX9_leads_107 ?_
      refine aw_callVI3 (pc := 109) F dX9_leads_109 ml_9_287 rfl (by first | decide | (simp only [inB, cnt, rcnt]; omega)) hc2 (Nat.le_of_ble_eq_true rfl) hd (Nat.zero_le _) (fun v9 σ9 h9_109 => ?_)
      obtain ⟨hv9, M2, h9, c1, c2⟩ := h9_109
      subst h9
      subst hv9
      refine aw_if_eq (tgt := 117) (pc := 112) F dX9_leads_112 (by decide) (by unfold inR; omega) (fun _ => ?_) (fun c9 => absurd c9 (by decide))
      refine aw_aload0 (pc := 117) F dX9_leads_117 ?_
      refine aw_iload4 (pc := 118) F dX9_leads_118 ?_
      refine aw_putI (pc := 120) F dX9_leads_120 fl_9_280 fpi_9_24 rfl (by first | decide | (simp only [inB, cnt, rcnt]; omega)) rfl nz24 ?_
      refine aw_iinc5 (pc := 123) F dX9_leads_123 rfl hk.symm ?_
      refine aw_goto (tgt := 16) (pc := 126) F dX9_leads_126 (by decide) ?_
      have q1 : chW M M2 := (hM1 ▸ goM_ch).tr c1
      exact cont _ _ rfl (q1.up (Or.inl ⟨rfl, rfl⟩)) upd_same (fun j j0 j1 => by
        have a := c2 j j0 (by omega)
        have a2 := goM_lo (M := M) (L := L) (k := k) (f := f) j1
        rw [← hM1] at a2
        rw [upd_ne (Or.inl (by decide)), upd_ne (Or.inl (by decide)), a.1, a.2, a2.1, a2.2]
        exact ⟨rfl, rfl⟩)
    · refine aw_iconst (pc := 98) F dX9_leads_98 ?_
      refine aw_goto (tgt := 103) (pc := 99) F dX9_leads_99 (by decide) ?_
      refine aw_pcallV2 (pc := 103) F dX9_leads_103 ml_9_200 rfl (by first | decide | (simp only [inB, cnt, rcnt]; omega)) (ct9_of _ _ _ _ (by omega) (by omega)) (Nat.le_of_ble_eq_true rfl) (by omega) (Nat.zero_le _) ?_
      rw [eo _ (by first | (rw [if_pos (b2i_1.mp (by rw [← hf]; omega))]; done) | (rw [if_neg (b2i_0.mp (by rw [← hf]; omega))]; done))]
      refine aw_iload2 (pc := 106) F dX9_leads_106 ?_
      refine aw_iload5 (pc := 107) F dX9_leads_107 ?_
      refine aw_callVI3 (pc := 109) F dX9_leads_109 ml_9_287 rfl (by first | decide | (simp only [inB, cnt, rcnt]; omega)) hc2 (Nat.le_of_ble_eq_true rfl) hd (Nat.zero_le _) (fun v9 σ9 h9_109 => ?_)
      obtain ⟨hv9, M2, h9, c1, c2⟩ := h9_109
      subst h9
      subst hv9
      refine aw_if_eq (tgt := 117) (pc := 112) F dX9_leads_112 (by decide) (by unfold inR; omega) (fun _ => ?_) (fun c9 => absurd c9 (by decide))
      refine aw_aload0 (pc := 117) F dX9_leads_117 ?_
      refine aw_iload4 (pc := 118) F dX9_leads_118 ?_
      refine aw_putI (pc := 120) F dX9_leads_120 fl_9_280 fpi_9_24 rfl (by first | decide | (simp only [inB, cnt, rcnt]; omega)) rfl nz24 ?_
      refine aw_iinc5 (pc := 123) F dX9_leads_123 rfl hk.symm ?_
      refine aw_goto (tgt := 16) (pc := 126) F dX9_leads_126 (by decide) ?_
      have q1 : chW M M2 := (hM1 ▸ goM_ch).tr c1
      exact cont _ _ rfl (q1.up (Or.inl ⟨rfl, rfl⟩)) upd_same (fun j j0 j1 => by
        have a := c2 j j0 (by omega)
        have a2 := goM_lo (M := M) (L := L) (k := k) (f := f) j1
        rw [← hM1] at a2
        rw [upd_ne (Or.inl (by decide)), upd_ne (Or.inl (by decide)), a.1, a.2, a2.1, a2.2]
        exact ⟨rfl, rfl⟩)
  refine aw_iload5 (pc := 16) F dX9_leads_16 ?_
  refine aw_aload0 (pc := 18) F dX9_leads_18 ?_
  refine aw_getR (pc := 19) F dX9_leads_19 fl_9_7 rfl (by first | decide | (simp only [inB, cnt, rcnt]; omega)) rfl nz0 rfl ?_
  refine aw_bipush (pc := 22) F dX9_leads_22 (by decide) ?_
  refine aw_iald (pc := 24) F dX9_leads_24 rfl (by first | decide | (simp only [inB, cnt, rcnt]; omega)) (by omega) ?_
  refine aw_icmp_ge (tgt := 129) (pc := 25) F dX9_leads_25 (by decide) (by first | exact i0 | exact i1 | exact b2i_inR | assumption | (unfold inR; omega)) (by first | exact i0 | exact i1 | exact b2i_inR | assumption | (unfold inR; omega)) (fun c25 => ?_) (fun c25 => ?_)
  · omega
  · refine aw_aload0 (pc := 28) F dX9_leads_28 ?_
    refine aw_iload5 (pc := 29) F dX9_leads_29 ?_
    refine aw_iconst (pc := 31) F dX9_leads_31 ?_
    refine aw_pcallV2 (pc := 32) F dX9_leads_32 ml_9_200 rfl (by first | decide | (simp only [inB, cnt, rcnt]; omega)) (ct9_of _ _ _ _ (by omega) (by omega)) (Nat.le_of_ble_eq_true rfl) (by omega) (Nat.zero_le _) ?_
    rw [e0]
    refine aw_iload1 (pc := 35) F dX9_leads_35 ?_
    refine aw_icmp_ne (tgt := 43) (pc := 36) F dX9_leads_36 (by decide) (by first | exact i0 | exact i1 | exact b2i_inR | assumption | (unfold inR; omega)) (by first | exact i0 | exact i1 | exact b2i_inR | assumption | (unfold inR; omega)) (fun c36 => ?_) (fun c36 => ?_)
    · refine aw_iconst (pc := 43) F dX9_leads_43 ?_
      refine aw_istore6 (pc := 44) F dX9_leads_44 (by simp only [List.all_cons, List.all_nil, hw6]; rfl) hk.symm ?_
      refine aw_aload0 (pc := 46) F dX9_leads_46 ?_
      refine aw_getR (pc := 47) F dX9_leads_47 fl_9_29 rfl (by first | decide | (simp only [inB, cnt, rcnt]; omega)) rfl nz18 rfl ?_
      refine aw_iload5 (pc := 50) F dX9_leads_50 ?_
      refine aw_zald (pc := 52) F dX9_leads_52 rfl (by first | decide | (simp only [inB, cnt, rcnt]; omega)) (by omega) ?_
      rw [et]
      refine aw_if_eq (tgt := 123) (pc := 53) F dX9_leads_53 (by decide) (by first | exact i0 | exact i1 | exact b2i_inR | assumption | (unfold inR; omega)) (fun c53 => ?_) (fun c53 => ?_)
      · refine aw_iinc5 (pc := 123) F dX9_leads_123 (by simp only [List.all_cons, List.all_nil, hw6]; rfl) hk.symm ?_
        refine aw_goto (tgt := 16) (pc := 126) F dX9_leads_126 (by decide) ?_
        exact skip _ rfl
      · refine aw_iload5 (pc := 56) F dX9_leads_56 ?_
        refine aw_iload3 (pc := 58) F dX9_leads_58 ?_
        refine aw_icmp_eq (tgt := 123) (pc := 59) F dX9_leads_59 (by decide) (by first | exact i0 | exact i1 | exact b2i_inR | assumption | (unfold inR; omega)) (by first | exact i0 | exact i1 | exact b2i_inR | assumption | (unfold inR; omega)) (fun c59 => ?_) (fun c59 => ?_)
        · refine aw_iinc5 (pc := 123) F dX9_leads_123 (by simp only [List.all_cons, List.all_nil, hw6]; rfl) hk.symm ?_
          refine aw_goto (tgt := 16) (pc := 126) F dX9_leads_126 (by decide) ?_
          exact skip _ rfl
        · refine aw_iload6 (pc := 62) F dX9_leads_62 ?_
          refine aw_if_ne (tgt := 81) (pc := 64) F dX9_leads_64 (by decide) (by first | exact i0 | exact i1 | exact b2i_inR | assumption | (unfold inR; omega)) (fun c64 => ?_) (fun c64 => ?_)
          · first | exact go (Classical.byContradiction fun z => c53 (b2i_neg z)) c59 1 (b2i_pos c36).symm (Or.inl c36) | exact go (Classical.byContradiction fun z => c53 (b2i_neg z)) c59 0 (b2i_neg c36).symm (Or.inr c75) | exact absurd rfl c64 | exact absurd (show (1 : Int) = 0 from c64) (by decide)
          · refine aw_aload0 (pc := 67) F dX9_leads_67 ?_
            refine aw_iload5 (pc := 68) F dX9_leads_68 ?_
            refine aw_iconst (pc := 70) F dX9_leads_70 ?_
            refine aw_pcallV2 (pc := 71) F dX9_leads_71 ml_9_200 rfl (by first | decide | (simp only [inB, cnt, rcnt]; omega)) (ct9_of _ _ _ _ (by omega) (by omega)) (Nat.le_of_ble_eq_true rfl) (by omega) (Nat.zero_le _) ?_
            rw [e1]
            refine aw_iload1 (pc := 74) F dX9_leads_74 ?_
            refine aw_icmp_eq (tgt := 81) (pc := 75) F dX9_leads_75 (by decide) (by first | exact i0 | exact i1 | exact b2i_inR | assumption | (unfold inR; omega)) (by first | exact i0 | exact i1 | exact b2i_inR | assumption | (unfold inR; omega)) (fun c75 => ?_) (fun c75 => ?_)
            · first | exact go (Classical.byContradiction fun z => c53 (b2i_neg z)) c59 1 (b2i_pos c36).symm (Or.inl c36) | exact go (Classical.byContradiction fun z => c53 (b2i_neg z)) c59 0 (b2i_neg c36).symm (Or.inr c75) | exact absurd rfl c64 | exact absurd (show (1 : Int) = 0 from c64) (by decide)
            · refine aw_goto (tgt := 123) (pc := 78) F dX9_leads_78 (by decide) ?_
              refine aw_iinc5 (pc := 123) F dX9_leads_123 (by simp only [List.all_cons, List.all_nil, hw6]; rfl) hk.symm ?_
              refine aw_goto (tgt := 16) (pc := 126) F dX9_leads_126 (by decide) ?_
              exact skip _ rfl
    · refine aw_iconst (pc := 39) F dX9_leads_39 ?_
      refine aw_goto (tgt := 44) (pc := 40) F dX9_leads_40 (by decide) ?_
      refine aw_istore6 (pc := 44) F dX9_leads_44 (by simp only [List.all_cons, List.all_nil, hw6]; rfl) hk.symm ?_
      refine aw_aload0 (pc := 46) F dX9_leads_46 ?_
      refine aw_getR (pc := 47) F dX9_leads_47 fl_9_29 rfl (by first | decide | (simp only [inB, cnt, rcnt]; omega)) rfl nz18 rfl ?_
      refine aw_iload5 (pc := 50) F dX9_leads_50 ?_
      refine aw_zald (pc := 52) F dX9_leads_52 rfl (by first | decide | (simp only [inB, cnt, rcnt]; omega)) (by omega) ?_
      rw [et]
      refine aw_if_eq (tgt := 123) (pc := 53) F dX9_leads_53 (by decide) (by first | exact i0 | exact i1 | exact b2i_inR | assumption | (unfold inR; omega)) (fun c53 => ?_) (fun c53 => ?_)
      · refine aw_iinc5 (pc := 123) F dX9_leads_123 (by simp only [List.all_cons, List.all_nil, hw6]; rfl) hk.symm ?_
        refine aw_goto (tgt := 16) (pc := 126) F dX9_leads_126 (by decide) ?_
        exact skip _ rfl
      · refine aw_iload5 (pc := 56) F dX9_leads_56 ?_
        refine aw_iload3 (pc := 58) F dX9_leads_58 ?_
        refine aw_icmp_eq (tgt := 123) (pc := 59) F dX9_leads_59 (by decide) (by first | exact i0 | exact i1 | exact b2i_inR | assumption | (unfold inR; omega)) (by first | exact i0 | exact i1 | exact b2i_inR | assumption | (unfold inR; omega)) (fun c59 => ?_) (fun c59 => ?_)
        · refine aw_iinc5 (pc := 123) F dX9_leads_123 (by simp only [List.all_cons, List.all_nil, hw6]; rfl) hk.symm ?_
          refine aw_goto (tgt := 16) (pc := 126) F dX9_leads_126 (by decide) ?_
          exact skip _ rfl
        · refine aw_iload6 (pc := 62) F dX9_leads_62 ?_
          refine aw_if_ne (tgt := 81) (pc := 64) F dX9_leads_64 (by decide) (by first | exact i0 | exact i1 | exact b2i_inR | assumption | (unfold inR; omega)) (fun c64 => ?_) (fun c64 => ?_)
          · first | exact go (Classical.byContradiction fun z => c53 (b2i_neg z)) c59 1 (b2i_pos c36).symm (Or.inl c36) | exact go (Classical.byContradiction fun z => c53 (b2i_neg z)) c59 0 (b2i_neg c36).symm (Or.inr c75) | exact absurd rfl c64 | exact absurd (show (1 : Int) = 0 from c64) (by decide)
          · refine aw_aload0 (pc := 67) F dX9_leads_67 ?_
            refine aw_iload5 (pc := 68) F dX9_leads_68 ?_
            refine aw_iconst (pc := 70) F dX9_leads_70 ?_
            refine aw_pcallV2 (pc := 71) F dX9_leads_71 ml_9_200 rfl (by first | decide | (simp only [inB, cnt, rcnt]; omega)) (ct9_of _ _ _ _ (by omega) (by omega)) (Nat.le_of_ble_eq_true rfl) (by omega) (Nat.zero_le _) ?_
            rw [e1]
            refine aw_iload1 (pc := 74) F dX9_leads_74 ?_
            refine aw_icmp_eq (tgt := 81) (pc := 75) F dX9_leads_75 (by decide) (by first | exact i0 | exact i1 | exact b2i_inR | assumption | (unfold inR; omega)) (by first | exact i0 | exact i1 | exact b2i_inR | assumption | (unfold inR; omega)) (fun c75 => ?_) (fun c75 => ?_)
            · first | exact go (Classical.byContradiction fun z => c53 (b2i_neg z)) c59 1 (b2i_pos c36).symm (Or.inl c36) | exact go (Classical.byContradiction fun z => c53 (b2i_neg z)) c59 0 (b2i_neg c36).symm (Or.inr c75) | exact absurd rfl c64 | exact absurd (show (1 : Int) = 0 from c64) (by decide)
            · refine aw_goto (tgt := 123) (pc := 78) F dX9_leads_78 (by decide) ?_
              refine aw_iinc5 (pc := 123) F dX9_leads_123 (by simp only [List.all_cons, List.all_nil, hw6]; rfl) hk.symm ?_
              refine aw_goto (tgt := 16) (pc := 126) F dX9_leads_126 (by decide) ?_
              exact skip _ rfl
