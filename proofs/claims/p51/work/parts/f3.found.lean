/-! f3: what the law's tries found is what the timetable finds -/
def CN (S : Int → Int) (M : Id4 → Int → Int) : Prop := plR M 0 S ∧ Ok S ∧ ∃ nx n Hs, hR8 M nx n Hs
theorem hR8.cls {M M' : Id4 → Int → Int} {nx n : Int} {Hs : Int → Int → Int} (h : hR8 M nx n Hs) (he : ∀ q : Id4, q.1 ≤ 8 → M' q = M q) : hR8 M' nx n Hs := h.chg (he _ (Nat.le_of_ble_eq_true rfl)) (fun p c _ => he _ (Nat.le_of_ble_eq_true rfl))
theorem CN.cls {S : Int → Int} {M M' : Id4 → Int → Int} (h : CN S M) (he : ∀ q : Id4, q.1 ≤ 8 → M' q = M q) : CN S M' := by
  obtain ⟨h1, h2, nx, n, Hs, h3⟩ := h
  exact ⟨pl_eq (fun c => he _ (Nat.le_of_ble_eq_true rfl)) h1, h2, nx, n, Hs, h3.cls he⟩
theorem CC.cn {S : Int → Int} {M : Id4 → Int → Int} (h : CC S M) : CN S M := by
  obtain ⟨h1, h2, nx, Hs, h3⟩ := h
  exact ⟨h1, h2, nx, 0, Hs, h3⟩
section CNR
variable {X : Cx} {G : Gd} {ρ0 : Id4 → Nat} {L0 L : List Id4} {cc bc : ByteArray} {own : String} {ret ry : Option FieldType} {d U d2 U2 pc u mL idx : Nat} {lv st as : List AV} {M : Id4 → Int → Int} {Rf : Id4 → Int → Option Id4} {y : MethodName} {Q : State → Prop} {b : Bool}
theorem dw_cn {Q2 : Int → Hp → Prop} {Pv : Int → Prop} {S : Int → Int} (F : FD X G ρ0 cc own ret d U) (hd : decode cc pc = .ok (.invokevirtual idx, 3)) (hl9 : MLV own idx y bc mL ry 8 as.length) (hc : CtI d2 U2 y bc mL ry (aR (8, 0, 0, 0) :: as) (M, R0 b) Q2) (hCL : CLd L) (hCR : CRx b Rf) (hQ : ∀ v σ', Q2 v σ' → Pv v ∧ ∃ M', σ' = (M', R0 b) ∧ CN S M') (hst : stW st ≤ 8) (hdd : d2 + 1 ≤ d) (hu : u + U2 ≤ U) (k : ∀ (v : Int) (M' : Id4 → Int → Int), Pv v → CN S M' → (∀ q : Id4, ¬ q.1 ≤ 8 → M' q = M q) → DW X G ρ0 L0 L (pc + 3) lv (aI v :: st) (M', Rf) (u + U2) Q) : DW X G ρ0 L0 L pc lv (as.reverse ++ aR (8, 0, 0, 0) :: st) (M, Rf) u Q :=
  dw_ccall F hd hl9 hc hCL hCR.cr (fun v σ' h => by
    obtain ⟨-, M', e, -⟩ := hQ v σ' h
    exact ⟨b, by rw [e]⟩) hst hdd hu (fun v M' b' h => by
    obtain ⟨e1, M1, e2, e5⟩ := hQ _ _ h
    have e3 := congrArg Prod.fst e2
    have e4 := R0_in (congrArg Prod.snd e2)
    dsimp only at e3
    rw [e4, hCR.self]
    exact k v (mgM M M') e1 ((e3 ▸ e5).cls fun q hq => mgM_c hq) (fun q hq => mgM_o hq))
end CNR
/-- the search does not look at the times that stand, but the first -/
def AGT (S S' : Int → Int) : Prop := ∀ j, ¬ (15 ≤ j ∧ j < 20) → S' j = S j
theorem AGT.tLx {S S' : Int → Int} (h : AGT S S') (n : Nat) : tL S' n = tL S n := by
  unfold tL
  rw [h 0 (by omega), h 1 (by omega), h 14 (by omega)]
theorem AGT.sl {S S' : Int → Int} (h : AGT S S') {k d : Int} (hk : 0 ≤ k) : slBy S' k d = slBy S k d := by
  unfold slBy
  rw [h 0 (by omega), h (21 + 5 * k + 2) (by omega)]
theorem AGT.kept {S S' : Int → Int} (h : AGT S S') {tau : Int → Int} : KEPT S' tau ↔ KEPT S tau := by
  rw [kept_of, kept_of, h 20 (by omega)]
  constructor
  · intro z k k0 k1
    have := z k k0 k1
    rw [h.sl k0, h (21 + 5 * k + 0) (by omega), h (21 + 5 * k + 1) (by omega), h (21 + 5 * k + 2) (by omega), h (21 + 5 * k + 3) (by omega)] at this
    exact this
  · intro z k k0 k1
    rw [h.sl k0, h (21 + 5 * k + 0) (by omega), h (21 + 5 * k + 1) (by omega), h (21 + 5 * k + 2) (by omega), h (21 + 5 * k + 3) (by omega)]
    exact z k k0 k1
theorem AGT.ct {S S' : Int → Int} (h : AGT S S') (hO : Ok S) (hO' : Ok S') {tau : Int → Int} : CT S' tau = CT S tau := by
  rw [CT_sum hO, CT_sum hO', h 20 (by omega)]
  refine sumI_cg _ (fun k k0 _ => ?_)
  show S' (21 + 5 * k + 4) * slBy S' k (tau (S' (21 + 5 * k + 1)) - tau (S' (21 + 5 * k + 0))) = S (21 + 5 * k + 4) * slBy S k (tau (S (21 + 5 * k + 1)) - tau (S (21 + 5 * k + 0)))
  rw [h.sl k0, h (21 + 5 * k + 0) (by omega), h (21 + 5 * k + 1) (by omega), h (21 + 5 * k + 4) (by omega)]
theorem AGT.fo {S S' : Int → Int} (h : AGT S S') (hO : Ok S) (hO' : Ok S') {first : Int} : ∀ m : Nat, FO S' first m = FO S first m
  | 0 => rfl
  | m + 1 => by
    have ih := AGT.fo h hO hO' (first := first) m
    by_cases hk : KEPT S (tL S m)
    · have hk' : KEPT S' (tL S' m) := by rw [h.tLx]; exact h.kept.mpr hk
      have hc : CT S' (tL S' m) = CT S (tL S m) := by rw [h.tLx, h.ct hO hO']
      by_cases hw : wnt first (FO S first m) (CT S (tL S m))
      · rw [FO_yes hO hk hw, FO_yes hO' hk' (by rw [ih, hc]; exact hw), hc, h.tLx]
      · rw [FO_not hw, FO_not (by rw [ih, hc]; exact hw), ih]
    · have hk' : ¬ KEPT S' (tL S' m) := by rw [h.tLx]; exact fun z => hk (h.kept.mp z)
      rw [FO_no hO hk, FO_no hO' hk', ih]
theorem AGT.go {S S' : Int → Int} (h : AGT S S') (hO : Ok S) (hO' : Ok S') (h1 : 0 < S 1) {first : Int} : goS S' first = goS S first := by
  rw [goS_FO hO h1, goS_FO hO' (by rw [h 1 (by omega)]; exact h1), h.fo hO hO']
  unfold nAll
  rw [h 0 (by omega), h 1 (by omega)]
theorem FO_inv {S : Int → Int} (h : Ok S) {first : Int} : ∀ m : Nat, (FO S first m).1 = -1 ∨ ∃ n, KEPT S (tL S n) ∧ FO S first m = (CT S (tL S n), tL S n)
  | 0 => Or.inl rfl
  | m + 1 => by
    by_cases hk : KEPT S (tL S m)
    · by_cases hw : wnt first (FO S first m) (CT S (tL S m))
      · exact Or.inr ⟨m, hk, FO_yes h hk hw⟩
      · rw [FO_not hw]
        exact FO_inv h m
    · rw [FO_no h hk]
      exact FO_inv h m
theorem FO_min {S : Int → Int} (h : Ok S) : ∀ m : Nat, ((FO S 1 m).1 = -1 ∧ (FO S 0 m).1 = -1) ∨ (¬ (FO S 1 m).1 = -1 ∧ ¬ (FO S 0 m).1 = -1 ∧ (FO S 0 m).1 ≤ (FO S 1 m).1)
  | 0 => Or.inl ⟨rfl, rfl⟩
  | m + 1 => by
    have ih := FO_min h m
    by_cases hk : KEPT S (tL S m)
    · have hc := CT_lt h (tau := tL S m)
      by_cases hw1 : wnt 1 (FO S 1 m) (CT S (tL S m))
      · have e1 := FO_yes h hk hw1
        have z1 : (FO S 1 m).1 = -1 := hw1.resolve_right (fun z => absurd z.1 (by decide))
        have z0 : (FO S 0 m).1 = -1 := by omega
        rw [e1, FO_yes (first := 0) h hk (Or.inl z0)]
        exact Or.inr ⟨by show ¬ CT S (tL S m) = -1; omega, by show ¬ CT S (tL S m) = -1; omega, Int.le_refl _⟩
      · have z1 : ¬ (FO S 1 m).1 = -1 := fun z => hw1 (Or.inl z)
        rw [FO_not hw1]
        by_cases hw0 : wnt 0 (FO S 0 m) (CT S (tL S m))
        · rw [FO_yes (first := 0) h hk hw0]
          have : CT S (tL S m) < (FO S 0 m).1 := hw0.elim (fun z => by omega) (fun z => z.2)
          exact Or.inr ⟨z1, by show ¬ CT S (tL S m) = -1; omega, by show CT S (tL S m) ≤ _; omega⟩
        · rw [FO_not hw0]
          exact Or.inr ⟨z1, by omega, by omega⟩
    · rw [FO_no h hk, FO_no h hk]
      exact ih
theorem go_inv {S : Int → Int} (h : Ok S) (h1 : 0 < S 1) {first : Int} (hg : ¬ (goS S first).1 = -1) : ∃ n, KEPT S (tL S n) ∧ goS S first = (CT S (tL S n), tL S n) := by
  rw [goS_FO h h1] at hg ⊢
  exact (FO_inv h _).resolve_left hg
theorem so_ok {S tau : Int → Int} (h : Ok S) (ht : ∀ a, 0 ≤ a → a < S 1 → 0 ≤ tau a ∧ tau a < S 0) : Ok (soS2 S tau (S 1)) := by
  obtain ⟨a, b, c, d, g⟩ := h
  have e0 : soS2 S tau (S 1) 0 = S 0 := soS2_off (by omega)
  have e1 : soS2 S tau (S 1) 1 = S 1 := soS2_off (by omega)
  have e2 : soS2 S tau (S 1) 20 = S 20 := soS2_off (by omega)
  refine ⟨by omega, by omega, by omega, fun x x0 x1 => ?_, fun k k0 k1 => SpOk_eq e1 e0 (fun w w0 w1 => soS2_off (by omega)) (g k k0 (by omega))⟩
  rw [e0, soS2_at (by omega)]
  exact ht x x0 (by omega)
theorem solR_is {S : Int → Int} {first : Int} : solR S first = soS2 S (goS S first).2 (S 1) := rfl
theorem sol_agt {S : Int → Int} (h : Ok S) (h1 : 0 < S 1) (h5 : S 1 ≤ 5) {first : Int} (hg : ¬ (goS S first).1 = -1) : AGT S (solR S first) ∧ Ok (solR S first) ∧ (∀ e, 0 ≤ e → e < S 1 → solR S first (14 + e) = (goS S first).2 e) ∧ KEPT S (goS S first).2 := by
  obtain ⟨n, hk, e⟩ := go_inv h h1 hg
  rw [solR_is, e]
  refine ⟨fun j hj => ?_, so_ok h (fun a a0 a1 => tL_bd h h1 a0 a1), fun a a0 a1 => soS2_at ⟨a0, a1⟩, hk⟩
  by_cases z : j = 14
  · have := soS2_at (S := S) (tau := tL S n) (i := S 1) (a := 0) ⟨by omega, h1⟩
    rw [z]
    rw [show (14 : Int) + 0 = 14 from rfl, tL_0] at this
    exact this
  · exact soS2_off (by omega)
theorem sol_brk {S : Int → Int} (h : Ok S) (h1 : 0 < S 1) (h5 : S 1 ≤ 5) {first : Int} (hg : ¬ (goS S first).1 = -1) : brk (solR S first) = 0 := by
  obtain ⟨ha, ho, ht, hk⟩ := sol_agt h h1 h5 hg
  unfold brk
  refine (sumI_cg (g := fun _ => 0) _ (fun k k0 k1 => ?_)).trans ?_
  · refine if_pos ?_
    have k2 : k < S 20 := by rw [ha 20 (by omega)] at k1; omega
    have z := h.2.2.2.2 k k0 k2
    unfold SpOk at z
    have := hk k k0 k2
    show slBy (solR S first) k (solR S first (14 + solR S first (21 + 5 * k + 1)) - solR S first (14 + solR S first (21 + 5 * k + 0))) ≤ solR S first (21 + 5 * k + 3) - solR S first (21 + 5 * k + 2)
    rw [ha.sl k0, ha (21 + 5 * k + 0) (by omega), ha (21 + 5 * k + 1) (by omega), ha (21 + 5 * k + 2) (by omega), ha (21 + 5 * k + 3) (by omega), ht _ z.2.1.1 z.2.1.2, ht _ z.1.1 z.1.2]
    exact this
  · have hz : ∀ n : Nat, sumI (fun _ => 0) n = 0 := fun n => by
      induction n with
      | zero => rfl
      | succ n ih => show sumI (fun _ => 0) n + 0 = 0; omega
    exact hz _
