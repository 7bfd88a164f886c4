/-! 38: edits: the rows that they make -/
theorem upd_row {M : Id4 → Int → Int} {q : Id4} {k v : Int} : updM M q k v q = upS (M q) k v := by
  funext j
  unfold updM upS
  simp
theorem upd_off {M : Id4 → Int → Int} {q q' : Id4} {k v : Int} (h : q' ≠ q) : updM M q k v q' = M q' := funext fun _ => upd_ne (Or.inl h)
theorem SpOk_eq {S S' : Int → Int} {k : Int} (h1 : S' 1 = S 1) (h0 : S' 0 = S 0) (h : ∀ w, 0 ≤ w → w < 5 → S' (21 + 5 * k + w) = S (21 + 5 * k + w)) (hS : SpOk S k) : SpOk S' k := by
  unfold SpOk at hS ⊢
  rw [h1, h0, h 0 (by decide) (by decide), h 1 (by decide) (by decide), h 2 (by decide) (by decide), h 3 (by decide) (by decide), h 4 (by decide) (by decide)]
  exact hS
/-- the times by f, of the first i events -/
def mtS (S : Int → Int) (f : Int → Int) (i : Int) : Int → Int := fun j => if 14 ≤ j ∧ j < 14 + i then f (S j) else S j
theorem mtS_0 {S f : Int → Int} : mtS S f 0 = S := funext fun j => if_neg (by omega)
theorem mtS_off {S f : Int → Int} {i j : Int} (h : ¬ (14 ≤ j ∧ j < 14 + i)) : mtS S f i j = S j := if_neg h
theorem mtS_step {S f : Int → Int} {i v : Int} (h : 0 ≤ i) (hv : v = f (S (14 + i))) : upS (mtS S f i) (14 + i) v = mtS S f (i + 1) := by
  funext j
  unfold upS mtS
  by_cases z : j = 14 + i
  · rw [if_pos z, if_pos (by omega), z, hv]
  · rw [if_neg z]
    by_cases g : 14 ≤ j ∧ j < 14 + i
    · rw [if_pos g, if_pos (by omega)]
    · rw [if_neg g, if_neg (by omega)]
theorem pl_time {M : Id4 → Int → Int} {p : Int} {S : Int → Int} {e t : Int} (he : 0 ≤ e ∧ e < 6) (hR : plR M p S) : plR (updM M (5, p, 4, 0) e t) p (upS S (14 + e) t) := by
  obtain ⟨⟨a, b, c⟩, d, g⟩ := hR
  have h0 : upS S (14 + e) t 0 = S 0 := upS_ne (by omega)
  have h1 : upS S (14 + e) t 1 = S 1 := upS_ne (by omega)
  have h2 : upS S (14 + e) t 20 = S 20 := upS_ne (by omega)
  refine ⟨⟨?_, ?_, ?_⟩, fun x x0 x1 => ?_, fun k k0 k1 => ?_⟩
  · rw [h0, upd_off (by simp)]; exact a
  · rw [h1, upd_off (by simp)]; exact b
  · rw [h2, upd_off (by simp)]; exact c
  · rw [h1] at x1
    by_cases z : x = e
    · rw [z, upd_same, upS_same]
    · rw [upd_ne (Or.inr z), upS_ne (by omega)]; exact d x x0 x1
  · rw [h2] at k1
    rw [upd_off (by simp), upd_off (by simp), upd_off (by simp), upd_off (by simp), upd_off (by simp), upS_ne (by omega), upS_ne (by omega), upS_ne (by omega), upS_ne (by omega), upS_ne (by omega)]
    exact g k k0 k1
theorem ok_ap {S : Int → Int} {x y lo hi w : Int} (h : Ok S) (hx : 0 ≤ x ∧ x < S 1) (hy : 0 ≤ y ∧ y < S 1) (hne : x ≠ y) (h1 : 0 ≤ lo ∧ lo ≤ 48) (h2 : lo ≤ hi ∧ hi ≤ lo + S 0 - 1) (hw : 0 ≤ w ∧ w ≤ 20) (hn : S 20 < 14) : Ok (apS S x y lo hi w) := by
  obtain ⟨a, b, c, d, g⟩ := h
  have e0 : apS S x y lo hi w 0 = S 0 := apS_lo (by decide) (by omega)
  have e1 : apS S x y lo hi w 1 = S 1 := apS_lo (by decide) (by omega)
  have e2 : apS S x y lo hi w 20 = S 20 + 1 := apS_n c.1
  refine ⟨by omega, by omega, by omega, fun x x0 x1 => ?_, fun k k0 k1 => ?_⟩
  · rw [apS_lo (by omega) (by omega), e0]; exact d x x0 (by omega)
  · by_cases z : k = S 20
    · obtain ⟨q0, q1, q2, q3, q4⟩ := apS_at (S := S) (x := x) (y := y) (lo := lo) (hi := hi) (w := w)
      unfold SpOk
      rw [z, q0, q1, q2, q3, q4, e0, e1]
      omega
    · exact SpOk_eq e1 e0 (fun w w0 w1 => apS_lo (by omega) (by omega)) (g k k0 (by omega))
/-! the class's frames -/
def sameE (M M' : Id4 → Int → Int) : Prop := ∀ q, ¬ (q.1 = 0 ∨ q.1 = 1 ∨ q.1 = 7 ∨ q.1 = 5 ∨ q.1 = 2) → M' q = M q
theorem sameE.rf {M : Id4 → Int → Int} : sameE M M := fun _ _ => rfl
theorem sameE.tr {M M1 M2 : Id4 → Int → Int} (h1 : sameE M M1) (h2 : sameE M1 M2) : sameE M M2 := fun q h => (h2 q h).trans (h1 q h)
theorem sameE.up {M M1 : Id4 → Int → Int} {p : Int} {c : Nat} {k v : Int} (h1 : sameE M M1) : sameE M (updM M1 (5, p, c, 0) k v) := fun q h => by
  rw [← h1 q h]
  exact upd_off (fun z => h (by rw [z]; exact Or.inr (Or.inr (Or.inr (Or.inl rfl)))))
theorem chgH.e {M M' : Id4 → Int → Int} (h : chgH M M') : sameE M M' := fun q z => h q (fun y => z (by rw [y]; exact Or.inr (Or.inr (Or.inr (Or.inr rfl))))) (fun y => z (Or.inr (Or.inr (Or.inr (Or.inl y.1)))))
theorem chg5.e {p : Int} {M M' : Id4 → Int → Int} (h : chg5 p M M') : sameE M M' := fun q z => h q (fun y => z (Or.inr (Or.inr (Or.inr (Or.inl y.1)))))
theorem same8.e {M M' : Id4 → Int → Int} (h : same8 M M') : sameE M M' := fun q z => h q (fun y => z (by
  rcases y with y | y | y | y
  · exact Or.inl y
  · exact Or.inr (Or.inl y)
  · exact Or.inr (Or.inr (Or.inl y))
  · exact Or.inr (Or.inr (Or.inr (Or.inl y.1)))))
theorem chgH.pl {M M' : Id4 → Int → Int} {S : Int → Int} (h : chgH M M') (hR : plR M 0 S) : plR M' 0 S := pl_eq (fun c => h _ (by simp) (fun z => by have := z.2; dsimp only at this; omega)) hR
theorem hR8.chg {M M' : Id4 → Int → Int} {nx n : Int} {Hs : Int → Int → Int} (h : hR8 M nx n Hs) (h2 : M' (2, 0, 0, 0) = M (2, 0, 0, 0)) (h5 : ∀ (p : Int) (c : Nat), 3 ≤ p → M' (5, p, c, 0) = M (5, p, c, 0)) : hR8 M' nx n Hs := by
  obtain ⟨⟨g1, g2, g3, g4⟩, g5⟩ := h
  exact ⟨⟨by rw [h2]; exact g1, by rw [h2]; exact g2, g3, g4⟩, fun i i0 i1 => pl_eq (fun c => h5 _ c (by omega)) (g5 i i0 i1)⟩
theorem hR8.up {M : Id4 → Int → Int} {nx n : Int} {Hs : Int → Int → Int} {p : Int} {c : Nat} {k v : Int} (hp : p < 3) (h : hR8 M nx n Hs) : hR8 (updM M (5, p, c, 0) k v) nx n Hs := h.chg (upd_off (by simp)) (fun p2 c2 hp2 => upd_off (fun z => by
  have : p2 = p := congrArg (fun q : Id4 => q.2.1) z
  omega))
theorem hR8.s8 {M M' : Id4 → Int → Int} {nx n : Int} {Hs : Int → Int → Int} (hc : same8 M M') (h : hR8 M nx n Hs) : hR8 M' nx n Hs := h.chg (hc _ (by unfold scr8; decide)) (fun p2 c2 hp2 => hc _ (by unfold scr8; simp; omega))
/-- what an edit of the class leaves -/
def E8 (M : Id4 → Int → Int) (b : Bool) (S' : Int → Int) (n' : Int) (Hs' : Int → Int → Int) (σ' : Hp) : Prop := ∃ M' nx', σ' = (M', R0 b) ∧ sameE M M' ∧ plR M' 0 S' ∧ hR8 M' nx' n' Hs'
