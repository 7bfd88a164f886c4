/-! 09d: a whole array as a function; the matrix of sets -/
def setA (M : Id4 → Int → Int) (q : Id4) (A : Int → Int) : Id4 → Int → Int := fun q' => if q' = q then A else M q'
theorem setA_same {M : Id4 → Int → Int} {q : Id4} {A : Int → Int} : setA M q A q = A := if_pos rfl
theorem setA_ne {M : Id4 → Int → Int} {q q' : Id4} {A : Int → Int} (h : q' ≠ q) : setA M q A q' = M q' := if_neg h
theorem setA_id {M : Id4 → Int → Int} {q : Id4} : setA M q (M q) = M := by
  funext q'
  unfold setA
  split
  · rename_i h; rw [h]
  · rfl
theorem setA_setA {M : Id4 → Int → Int} {q : Id4} {A B : Int → Int} : setA (setA M q A) q B = setA M q B := by
  funext q'
  unfold setA
  split <;> rfl
theorem upd_setA {M : Id4 → Int → Int} {q : Id4} {A : Int → Int} {k v : Int} : updM (setA M q A) q k v = setA M q (upS A k v) := by
  funext q' k'
  unfold updM setA upS
  by_cases h : q' = q
  · subst h
    simp
  · simp [h]
theorem upd_asA {M : Id4 → Int → Int} {q : Id4} {k v : Int} : updM M q k v = setA M q (upS (M q) k v) := by
  have := upd_setA (M := M) (q := q) (A := M q) (k := k) (v := v)
  rw [setA_id] at this
  exact this
theorem upS_same {A : Int → Int} {k v : Int} : upS A k v k = v := if_pos rfl
theorem upS_ne {A : Int → Int} {k v j : Int} (h : j ≠ k) : upS A k v j = A j := if_neg h
/-- what narrows does to the matrix -/
def narA (T : Nat) (A : Int → Int) (a b x : Int) : Int → Int := upS (upS A (6 * a + b) (bAnd (A (6 * a + b)) x)) (6 * b + a) (turnI T (bAnd (A (6 * a + b)) x))
/-- all sets lie below T -/
def MatOk (T : Nat) (A : Int → Int) : Prop := ∀ j, 0 ≤ j → j < 36 → Set24 T (A j)
theorem narA_ok {T : Nat} (hT : T ≤ 24) {A : Int → Int} (h : MatOk T A) {a b x : Int} (ha : 0 ≤ a ∧ a < 6) (hb : 0 ≤ b ∧ b < 6) : MatOk T (narA T A a b x) := by
  intro j h0 h1
  unfold narA
  by_cases e : j = 6 * b + a
  · rw [e, upS_same]
    exact setI_S hT
  · rw [upS_ne e]
    by_cases e2 : j = 6 * a + b
    · rw [e2, upS_same]
      exact (h _ (by omega) (by omega)).and hT x
    · rw [upS_ne e2]
      exact h j h0 h1
/-- f below n, A from there on -/
def fillA (A f : Int → Int) (n : Int) : Int → Int := fun j => if 0 ≤ j ∧ j < n then f j else A j
/-- the matrix before any span -/
def lay0 (T : Nat) (j : Int) : Int := if j / 6 = j % 6 then 1 else allI T
/-- .. with the first n spans -/
def layN (S : Int → Int) (A : Int → Int) : Nat → Int → Int
  | 0 => A
  | n + 1 => narA (S 0).toNat (layN S A n) (S (21 + 5 * (n : Int) + 0)) (S (21 + 5 * (n : Int) + 1)) (keptI S n)
theorem set1 {T : Nat} (h : 0 < T) : Set24 T 1 := ⟨by decide, fun i hi => by rw [bit_1]; simp; omega⟩
theorem lay0_ok {T : Nat} (h : 0 < T) (hT : T ≤ 24) (A : Int → Int) : MatOk T (fillA A (lay0 T) 36) := by
  intro j h0 h1
  unfold fillA
  rw [if_pos ⟨h0, h1⟩]
  unfold lay0
  split
  · exact set1 h
  · exact setI_S hT
theorem layN_ok {S A : Int → Int} (hS : Ok S) (hA : MatOk (S 0).toNat A) : ∀ n : Nat, (n : Int) ≤ S 20 → MatOk (S 0).toNat (layN S A n)
  | 0, _ => hA
  | n + 1, hn => by
    have ih := layN_ok hS hA n (by omega)
    have h1 := hS.1
    have h2 := hS.2.1
    have h3 := hS.2.2.2.2 n (by omega) (by omega)
    unfold SpOk at h3
    exact narA_ok (by omega) ih (by omega) (by omega)
theorem lay0_at {T : Nat} {i k : Int} (hk : 0 ≤ k ∧ k < 6) : lay0 T (6 * i + k) = if i = k then 1 else allI T := by
  unfold lay0
  rw [show (6 * i + k) / 6 = i by omega, show (6 * i + k) % 6 = k by omega]
