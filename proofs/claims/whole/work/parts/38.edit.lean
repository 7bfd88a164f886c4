/-! 38: edits: the rows that they make -/
theorem upd_row {M : Id4 → Int → Int} {q : Id4} {k v : Int} : updM M q k v q = upS (M q) k v := by
  funext j
  unfold updM upS
  simp
theorem upd_off {M : Id4 → Int → Int} {q q' : Id4} {k v : Int} (h : q' ≠ q) : updM M q k v q' = M q' := funext fun _ => upd_ne (Or.inl h)
theorem SpOk_eq {S S' : Int → Int} {k : Int} (h1 : S' 1 = S 1) (h0 : S' 0 = S 0) (h : ∀ w, 0 ≤ w → w < 5 → S' (21 + 5 * k + w) = S (21 + 5 * k + w)) (hS : SpOk S k) : SpOk S' k := by
  unfold SpOk at hS ⊢
  rw [h1, h0, h 0 (by decide) (by decide), h 1 (by decide) (by decide), h 2 (by decide) (by decide), h 3 (by decide) (by decide), h 4 (by decide) (by decide)]
  exact hS
theorem Ok_eq {S S' : Int → Int} (h : ∀ j, 0 ≤ j → j < 91 → S' j = S j) (hS : Ok S) : Ok S' := by
  obtain ⟨a, b, c, d, e⟩ := hS
  have h0 := h 0 (by decide) (by decide)
  have h1 := h 1 (by decide) (by decide)
  have h20 := h 20 (by decide) (by decide)
  refine ⟨by omega, by omega, by omega, fun x x0 x1 => ?_, fun k k0 k1 => SpOk_eq h1 h0 (fun w w0 w1 => h _ (by omega) (by omega)) (e k k0 (by omega))⟩
  rw [h _ (by omega) (by omega), h0]
  exact d x x0 (by omega)
/-- the times by f, of the first i events -/
def mtS (S : Int → Int) (f : Int → Int) (i : Int) : Int → Int := fun j => if 14 ≤ j ∧ j < 14 + i then f (S j) else S j
theorem mtS_0 {S f : Int → Int} : mtS S f 0 = S := funext fun j => if_neg (by omega)
theorem mtS_off {S f : Int → Int} {i j : Int} (h : ¬ (14 ≤ j ∧ j < 14 + i)) : mtS S f i j = S j := if_neg h
theorem mtS_step {S f : Int → Int} {i v : Int} (h : 0 ≤ i) (hv : v = f (S (14 + i))) : upS (mtS S f i) (14 + i) v = mtS S f (i + 1) := by
  funext j
  unfold upS mtS
  by_cases z : j = 14 + i
  · rw [if_pos z, if_pos (by omega), z, hv]
  · rw [if_neg z]
    by_cases g : 14 ≤ j ∧ j < 14 + i
    · rw [if_pos g, if_pos (by omega)]
    · rw [if_neg g, if_neg (by omega)]
theorem ok_mt {S f : Int → Int} (h0 : 2 ≤ S 0 ∧ S 0 ≤ 24) (h1 : 0 ≤ S 1 ∧ S 1 ≤ 6) (h2 : 0 ≤ S 20 ∧ S 20 ≤ 14) (hs : ∀ k, 0 ≤ k → k < S 20 → SpOk S k) (hf : ∀ x, 0 ≤ f x ∧ f x < S 0) : Ok (mtS S f (S 1)) := by
  have a0 : mtS S f (S 1) 0 = S 0 := mtS_off (by omega)
  have a1 : mtS S f (S 1) 1 = S 1 := mtS_off (by omega)
  have a2 : mtS S f (S 1) 20 = S 20 := mtS_off (by omega)
  refine ⟨by omega, by omega, by omega, fun x x0 x1 => ?_, fun k k0 k1 => SpOk_eq a1 a0 (fun w w0 w1 => mtS_off (by omega)) (hs k k0 (by omega))⟩
  rw [a0, show mtS S f (S 1) (14 + x) = f (S (14 + x)) from if_pos (by omega)]
  exact hf _
theorem ok_time {S : Int → Int} {e t : Int} (h : Ok S) (he : 0 ≤ e ∧ e < S 1) (ht : 0 ≤ t ∧ t < S 0) : Ok (upS S (14 + e) t) := by
  obtain ⟨a, b, c, d, g⟩ := h
  have h0 : upS S (14 + e) t 0 = S 0 := upS_ne (by omega)
  have h1 : upS S (14 + e) t 1 = S 1 := upS_ne (by omega)
  have h2 : upS S (14 + e) t 20 = S 20 := upS_ne (by omega)
  refine ⟨by omega, by omega, by omega, fun x x0 x1 => ?_, fun k k0 k1 => SpOk_eq h1 h0 (fun w w0 w1 => upS_ne (by omega)) (g k k0 (by omega))⟩
  rw [h0]
  by_cases z : x = e
  · rw [z, upS_same]; exact ht
  · rw [upS_ne (by omega)]; exact d x x0 (by omega)
theorem pl_time {M : Id4 → Int → Int} {p : Int} {S : Int → Int} {e t : Int} (he : 0 ≤ e ∧ e < 6) (hR : plR M p S) : plR (updM M (5, p, 4, 0) e t) p (upS S (14 + e) t) := by
  obtain ⟨⟨a, b, c⟩, d, g⟩ := hR
  have h0 : upS S (14 + e) t 0 = S 0 := upS_ne (by omega)
  have h1 : upS S (14 + e) t 1 = S 1 := upS_ne (by omega)
  have h2 : upS S (14 + e) t 20 = S 20 := upS_ne (by omega)
  refine ⟨⟨?_, ?_, ?_⟩, fun x x0 x1 => ?_, fun k k0 k1 => ?_⟩
  · rw [h0, upd_off (by simp)]; exact a
  · rw [h1, upd_off (by simp)]; exact b
  · rw [h2, upd_off (by simp)]; exact c
  · rw [h1] at x1
    by_cases z : x = e
    · rw [z, upd_same, upS_same]
    · rw [upd_ne (Or.inr z), upS_ne (by omega)]; exact d x x0 x1
  · rw [h2] at k1
    rw [upd_off (by simp), upd_off (by simp), upd_off (by simp), upd_off (by simp), upd_off (by simp), upS_ne (by omega), upS_ne (by omega), upS_ne (by omega), upS_ne (by omega), upS_ne (by omega)]
    exact g k k0 k1
/-- one field of one span -/
theorem pl_span {M : Id4 → Int → Int} {p : Int} {S : Int → Int} {k w v : Int} (c : Nat) (hE : S 1 ≤ 6) (hk9 : 0 ≤ k ∧ k < 14) (hc : (w = 0 ∧ c = 5) ∨ (w = 1 ∧ c = 6) ∨ (w = 2 ∧ c = 7) ∨ (w = 3 ∧ c = 8) ∨ (w = 4 ∧ c = 9)) (hR : plR M p S) : plR (updM M (5, p, c, 0) k v) p (upS S (21 + 5 * k + w) v) := by
  obtain ⟨⟨a, b, e⟩, d, g⟩ := hR
  have hw : 0 ≤ w ∧ w < 5 := by omega
  have h0 : upS S (21 + 5 * k + w) v 0 = S 0 := upS_ne (by omega)
  have h1 : upS S (21 + 5 * k + w) v 1 = S 1 := upS_ne (by omega)
  have h2 : upS S (21 + 5 * k + w) v 20 = S 20 := upS_ne (by omega)
  have one : ∀ (k2 w2 : Int) (c2 : Nat), 0 ≤ w2 → w2 < 5 → (c2 = c ↔ w2 = w) → M (5, p, c2, 0) k2 = S (21 + 5 * k2 + w2) → updM M (5, p, c, 0) k v (5, p, c2, 0) k2 = upS S (21 + 5 * k + w) v (21 + 5 * k2 + w2) := by
    intro k2 w2 c2 q0 q1 q2 q3
    by_cases z : k2 = k ∧ w2 = w
    · obtain ⟨rfl, rfl⟩ := z
      rw [upS_same, q2.mpr rfl, upd_same]
    · rw [upS_ne (by omega), ← q3]
      by_cases y : c2 = c
      · rw [upd_ne (Or.inr (fun x => z ⟨x, q2.mp y⟩))]
      · rw [upd_off (by simp [y])]
  refine ⟨⟨?_, ?_, ?_⟩, fun x x0 x1 => ?_, fun k2 k0 k1 => ?_⟩
  · rw [h0, upd_off (by simp; omega)]; exact a
  · rw [h1, upd_off (by simp; omega)]; exact b
  · rw [h2, upd_off (by simp; omega)]; exact e
  · rw [h1] at x1
    rw [upd_off (by simp; omega), upS_ne (by omega)]; exact d x x0 x1
  · rw [h2] at k1
    obtain ⟨g0, g1, g2, g3, g4⟩ := g k2 k0 k1
    exact ⟨one k2 0 5 (by decide) (by decide) (by omega) g0, one k2 1 6 (by decide) (by decide) (by omega) g1, one k2 2 7 (by decide) (by decide) (by omega) g2, one k2 3 8 (by decide) (by decide) (by omega) g3, one k2 4 9 (by decide) (by decide) (by omega) g4⟩
theorem ok_set {S : Int → Int} {k lo hi : Int} (h : Ok S) (hk9 : 0 ≤ k ∧ k < S 20) (h1 : 0 ≤ lo ∧ lo ≤ 48) (h2 : lo ≤ hi ∧ hi ≤ lo + S 0 - 1) : Ok (upS (upS S (21 + 5 * k + 2) lo) (21 + 5 * k + 3) hi) := by
  obtain ⟨a, b, c, d, g⟩ := h
  have e : ∀ j, j ≠ 21 + 5 * k + 2 → j ≠ 21 + 5 * k + 3 → upS (upS S (21 + 5 * k + 2) lo) (21 + 5 * k + 3) hi j = S j := fun j q1 q2 => by rw [upS_ne q2, upS_ne q1]
  have e0 := e 0 (by omega) (by omega)
  have e1 := e 1 (by omega) (by omega)
  have e2 := e 20 (by omega) (by omega)
  refine ⟨by omega, by omega, by omega, fun x x0 x1 => ?_, fun k2 k0 k1 => ?_⟩
  · rw [e _ (by omega) (by omega), e0]; exact d x x0 (by omega)
  · by_cases z : k2 = k
    · subst z
      have s := g k2 k0 (by omega)
      unfold SpOk at s ⊢
      rw [e0, e1, e _ (by omega) (by omega), e _ (by omega) (by omega), e (21 + 5 * k2 + 4) (by omega) (by omega), upS_same, upS_ne (show 21 + 5 * k2 + 2 ≠ 21 + 5 * k2 + 3 by omega), upS_same]
      omega
    · exact SpOk_eq e1 e0 (fun w w0 w1 => e _ (by omega) (by omega)) (g k2 k0 (by omega))
theorem ok_weight {S : Int → Int} {k w : Int} (h : Ok S) (hk9 : 0 ≤ k ∧ k < S 20) (h1 : 0 ≤ w ∧ w ≤ 20) : Ok (upS S (21 + 5 * k + 4) w) := by
  obtain ⟨a, b, c, d, g⟩ := h
  have e0 : upS S (21 + 5 * k + 4) w 0 = S 0 := upS_ne (by omega)
  have e1 : upS S (21 + 5 * k + 4) w 1 = S 1 := upS_ne (by omega)
  have e2 : upS S (21 + 5 * k + 4) w 20 = S 20 := upS_ne (by omega)
  refine ⟨by omega, by omega, by omega, fun x x0 x1 => ?_, fun k2 k0 k1 => ?_⟩
  · rw [upS_ne (by omega), e0]; exact d x x0 (by omega)
  · by_cases z : k2 = k
    · subst z
      have s := g k2 k0 (by omega)
      unfold SpOk at s ⊢
      rw [e0, e1, upS_same, upS_ne (by omega), upS_ne (by omega), upS_ne (by omega), upS_ne (by omega)]
      omega
    · exact SpOk_eq e1 e0 (fun w w0 w1 => upS_ne (by omega)) (g k2 k0 (by omega))
theorem ok_ap {S : Int → Int} {x y lo hi w : Int} (h : Ok S) (hx : 0 ≤ x ∧ x < S 1) (hy : 0 ≤ y ∧ y < S 1) (hne : x ≠ y) (h1 : 0 ≤ lo ∧ lo ≤ 48) (h2 : lo ≤ hi ∧ hi ≤ lo + S 0 - 1) (hw : 0 ≤ w ∧ w ≤ 20) (hn : S 20 < 14) : Ok (apS S x y lo hi w) := by
  obtain ⟨a, b, c, d, g⟩ := h
  have e0 : apS S x y lo hi w 0 = S 0 := apS_lo (by decide) (by omega)
  have e1 : apS S x y lo hi w 1 = S 1 := apS_lo (by decide) (by omega)
  have e2 : apS S x y lo hi w 20 = S 20 + 1 := apS_n c.1
  refine ⟨by omega, by omega, by omega, fun x x0 x1 => ?_, fun k k0 k1 => ?_⟩
  · rw [apS_lo (by omega) (by omega), e0]; exact d x x0 (by omega)
  · by_cases z : k = S 20
    · obtain ⟨q0, q1, q2, q3, q4⟩ := apS_at (S := S) (x := x) (y := y) (lo := lo) (hi := hi) (w := w)
      unfold SpOk
      rw [z, q0, q1, q2, q3, q4, e0, e1]
      omega
    · exact SpOk_eq e1 e0 (fun w w0 w1 => apS_lo (by omega) (by omega)) (g k k0 (by omega))
theorem ok_dr {S : Int → Int} {k : Int} (h : Ok S) (hk9 : 0 ≤ k ∧ k < S 20) : Ok (drS S k) := by
  obtain ⟨a, b, c, d, g⟩ := h
  have e : ∀ j, j < 20 → drS S k j = S j := fun j hj => by unfold drS; rw [if_neg (by omega), if_neg (by omega)]
  have e2 : drS S k 20 = S 20 - 1 := rfl
  have e0 := e 0 (by decide)
  have e1 := e 1 (by decide)
  refine ⟨by omega, by omega, by omega, fun x x0 x1 => ?_, fun k2 k0 k1 => ?_⟩
  · rw [e _ (by omega), e0]; exact d x x0 (by omega)
  · rw [e2] at k1
    by_cases z : k ≤ k2
    · have s := g (k2 + 1) (by omega) (by omega)
      have f : ∀ w, 0 ≤ w → w < 5 → drS S k (21 + 5 * k2 + w) = S (21 + 5 * (k2 + 1) + w) := fun w w0 w1 => by
        unfold drS
        rw [if_neg (by omega), if_pos (by omega)]
        congr 1
        omega
      unfold SpOk at s ⊢
      rw [e0, e1, f 0 (by decide) (by decide), f 1 (by decide) (by decide), f 2 (by decide) (by decide), f 3 (by decide) (by decide), f 4 (by decide) (by decide)]
      exact s
    · exact SpOk_eq e1 e0 (fun w w0 w1 => by unfold drS; rw [if_neg (by omega), if_neg (by omega)]) (g k2 k0 (by omega))
/-! the class's frames -/
def sameE (M M' : Id4 → Int → Int) : Prop := ∀ q, ¬ (q.1 = 0 ∨ q.1 = 1 ∨ q.1 = 7 ∨ q.1 = 5 ∨ q.1 = 2) → M' q = M q
theorem sameE.rf {M : Id4 → Int → Int} : sameE M M := fun _ _ => rfl
theorem sameE.tr {M M1 M2 : Id4 → Int → Int} (h1 : sameE M M1) (h2 : sameE M1 M2) : sameE M M2 := fun q h => (h2 q h).trans (h1 q h)
theorem sameE.up {M M1 : Id4 → Int → Int} {p : Int} {c : Nat} {k v : Int} (h1 : sameE M M1) : sameE M (updM M1 (5, p, c, 0) k v) := fun q h => by
  rw [← h1 q h]
  exact upd_off (fun z => h (by rw [z]; exact Or.inr (Or.inr (Or.inr (Or.inl rfl)))))
theorem chgH.e {M M' : Id4 → Int → Int} (h : chgH M M') : sameE M M' := fun q z => h q (fun y => z (by rw [y]; exact Or.inr (Or.inr (Or.inr (Or.inr rfl))))) (fun y => z (Or.inr (Or.inr (Or.inr (Or.inl y.1)))))
theorem chg5.e {p : Int} {M M' : Id4 → Int → Int} (h : chg5 p M M') : sameE M M' := fun q z => h q (fun y => z (Or.inr (Or.inr (Or.inr (Or.inl y.1)))))
theorem same8.e {M M' : Id4 → Int → Int} (h : same8 M M') : sameE M M' := fun q z => h q (fun y => z (by
  rcases y with y | y | y | y
  · exact Or.inl y
  · exact Or.inr (Or.inl y)
  · exact Or.inr (Or.inr (Or.inl y))
  · exact Or.inr (Or.inr (Or.inr (Or.inl y.1)))))
theorem chgH.pl {M M' : Id4 → Int → Int} {S : Int → Int} (h : chgH M M') (hR : plR M 0 S) : plR M' 0 S := pl_eq (fun c => h _ (by simp) (fun z => by have := z.2; dsimp only at this; omega)) hR
theorem hR8.chg {M M' : Id4 → Int → Int} {nx n : Int} {Hs : Int → Int → Int} (h : hR8 M nx n Hs) (h2 : M' (2, 0, 0, 0) = M (2, 0, 0, 0)) (h5 : ∀ (p : Int) (c : Nat), 3 ≤ p → M' (5, p, c, 0) = M (5, p, c, 0)) : hR8 M' nx n Hs := by
  obtain ⟨⟨g1, g2, g3, g4⟩, g5⟩ := h
  exact ⟨⟨by rw [h2]; exact g1, by rw [h2]; exact g2, g3, g4⟩, fun i i0 i1 => pl_eq (fun c => h5 _ c (by omega)) (g5 i i0 i1)⟩
theorem hR8.up {M : Id4 → Int → Int} {nx n : Int} {Hs : Int → Int → Int} {p : Int} {c : Nat} {k v : Int} (hp : p < 3) (h : hR8 M nx n Hs) : hR8 (updM M (5, p, c, 0) k v) nx n Hs := h.chg (upd_off (by simp)) (fun p2 c2 hp2 => upd_off (fun z => by
  have : p2 = p := congrArg (fun q : Id4 => q.2.1) z
  omega))
theorem hR8.c5 {M M' : Id4 → Int → Int} {nx n : Int} {Hs : Int → Int → Int} {p : Int} (hp : p < 3) (hc : chg5 p M M') (h : hR8 M nx n Hs) : hR8 M' nx n Hs := h.chg (hc _ (fun z => absurd z.1 (by decide))) (fun p2 c2 hp2 => hc _ (fun z => by
  have : p2 = p := z.2
  omega))
theorem hR8.s8 {M M' : Id4 → Int → Int} {nx n : Int} {Hs : Int → Int → Int} (hc : same8 M M') (h : hR8 M nx n Hs) : hR8 M' nx n Hs := h.chg (hc _ (by unfold scr8; decide)) (fun p2 c2 hp2 => hc _ (by unfold scr8; simp; omega))
/-- what an edit of the class leaves -/
def E8 (M : Id4 → Int → Int) (b : Bool) (S' : Int → Int) (n' : Int) (Hs' : Int → Int → Int) (σ' : Hp) : Prop := ∃ M' nx', σ' = (M', R0 b) ∧ sameE M M' ∧ plR M' 0 S' ∧ hR8 M' nx' n' Hs'
