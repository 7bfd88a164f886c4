/-! 09f: the rounds come to an end: each one that changes something takes a difference away -/
theorem phN_ok {T : Nat} {E : Int} {A : Int → Int} (hT : T ≤ 24) (hE : E ≤ 6) (h : MatOk T A) : ∀ n, MatOk T (phN T E A n)
  | 0 => h
  | n + 1 => phA_ok hT (phN_ok hT hE h n) hE
theorem phN_sym {T : Nat} {E : Int} {A : Int → Int} (hT : T ≤ 24) (hE : E ≤ 6) (h : SymA T E A) : ∀ n : Nat, (n : Int) ≤ E → SymA T E (phN T E A n)
  | 0, _ => h
  | n + 1, hn => phA_sym hT hE (phN_sym hT hE h n (by omega)) (by omega)
def pcN (x : Int) : Nat → Nat
  | 0 => 0
  | n + 1 => pcN x n + (if bit x n then 1 else 0)
theorem pcN_le {x y : Int} (h : ∀ i, bit x i = true → bit y i = true) : ∀ n, pcN x n ≤ pcN y n
  | 0 => Nat.le_refl _
  | n + 1 => by
    have ih := pcN_le h n
    show pcN x n + (if bit x n then 1 else 0) ≤ pcN y n + (if bit y n then 1 else 0)
    by_cases g : bit x n = true
    · rw [if_pos g, if_pos (h n g)]; omega
    · rw [if_neg g]; split <;> omega
theorem pcN_lt {x y : Int} (h : ∀ i, bit x i = true → bit y i = true) : ∀ n i, i < n → bit x i = false → bit y i = true → pcN x n < pcN y n
  | 0, i, hi, _, _ => absurd hi (by omega)
  | n + 1, i, hi, h1, h2 => by
    show pcN x n + (if bit x n then 1 else 0) < pcN y n + (if bit y n then 1 else 0)
    by_cases e : i = n
    · subst e
      have ih := pcN_le h i
      rw [if_neg (by rw [h1]; decide), if_pos h2]
      omega
    · have ih := pcN_lt h n i (by omega) h1 h2
      by_cases g : bit x n = true
      · rw [if_pos g, if_pos (h n g)]; omega
      · rw [if_neg g]; split <;> omega
theorem pcN_bd (x : Int) : ∀ n, pcN x n ≤ n
  | 0 => Nat.le_refl _
  | n + 1 => by
    have ih := pcN_bd x n
    show pcN x n + (if bit x n then 1 else 0) ≤ n + 1
    split <;> omega
/-- how many differences the first n sets have -/
def muN (A : Int → Int) : Nat → Nat
  | 0 => 0
  | n + 1 => muN A n + pcN (A (n : Int)) 24
theorem muN_bd (A : Int → Int) : ∀ n, muN A n ≤ 24 * n
  | 0 => Nat.le_refl _
  | n + 1 => by
    have ih := muN_bd A n
    have := pcN_bd (A (n : Int)) 24
    show muN A n + pcN (A (n : Int)) 24 ≤ 24 * (n + 1)
    omega
def SubA (A B : Int → Int) : Prop := ∀ j i, bit (A j) i = true → bit (B j) i = true
theorem SubA.rf {A : Int → Int} : SubA A A := fun _ _ h => h
theorem SubA.tr {A B C : Int → Int} (h1 : SubA A B) (h2 : SubA B C) : SubA A C := fun j i h => h2 j i (h1 j i h)
theorem muN_le {A B : Int → Int} (h : SubA A B) : ∀ n, muN A n ≤ muN B n
  | 0 => Nat.le_refl _
  | n + 1 => Nat.add_le_add (muN_le h n) (pcN_le (h n) 24)
theorem muN_lt {A B : Int → Int} (h : SubA A B) {j : Nat} {i : Nat} (hi : i < 24) (h1 : bit (A j) i = false) (h2 : bit (B j) i = true) : ∀ n, j < n → muN A n < muN B n
  | 0, hj => absurd hj (by omega)
  | n + 1, hj => by
    show muN A n + pcN (A (n : Int)) 24 < muN B n + pcN (B (n : Int)) 24
    by_cases e : j = n
    · subst e
      have := muN_le h j
      have := pcN_lt (h j) 24 i hi h1 h2
      omega
    · have := muN_lt h hi h1 h2 n (by omega)
      have := pcN_le (h n) 24
      omega
theorem phA_sub {T : Nat} {E : Int} {A : Int → Int} {c : Int} : SubA (phA T E A c) A := by
  intro j i h
  unfold phA at h
  split at h
  · rename_i g
    unfold phV at h
    rw [bit_and, Bool.and_eq_true] at h
    rw [show 6 * (j / 6) + j % 6 = j by omega] at h
    exact h.1
  · exact h
theorem phN_sub {T : Nat} {E : Int} {A : Int → Int} : ∀ n, SubA (phN T E A n) A
  | 0 => SubA.rf
  | n + 1 => SubA.tr phA_sub (phN_sub n)
theorem bit_diff {T : Nat} {x y : Int} (hT : T ≤ 24) (hx : Set24 T x) (hy : Set24 T y) (hs : ∀ i, bit x i = true → bit y i = true) (h : x ≠ y) : ∃ i, i < 24 ∧ bit x i = false ∧ bit y i = true := by
  apply Classical.byContradiction
  intro hn
  apply h
  refine hx.ext hy (fun i hi => ?_)
  by_cases g : bit x i = true
  · rw [g, hs i g]
  · by_cases g2 : bit y i = true
    · exact absurd ⟨i, by omega, by simpa using g, g2⟩ hn
    · simp_all
theorem phA_mu {T : Nat} {E : Int} {A : Int → Int} {c : Int} (hT : T ≤ 24) (hE : E ≤ 6) (h : MatOk T A) (hc : chg T E A c (fun _ _ => True)) : muN (phA T E A c) 36 < muN A 36 := by
  obtain ⟨x, y, -, hd, hne⟩ := hc
  obtain ⟨h1, h2, h3⟩ := id hd
  obtain ⟨k, hk⟩ : ∃ k : Nat, 6 * x + y = (k : Int) := ⟨(6 * x + y).toNat, by omega⟩
  have e1 := phA_in (T := T) (A := A) hE hd
  have s1 := phA_ok (c := c) hT h hE (6 * x + y) (by omega) (by omega)
  have s2 := h (6 * x + y) (by omega) (by omega)
  obtain ⟨i, hi, b1, b2⟩ := bit_diff hT s1 s2 (fun i => phA_sub _ i) (by rw [e1]; exact hne)
  rw [hk] at b1 b2
  exact muN_lt phA_sub hi b1 b2 36 (by omega)
theorem phN_mu {T : Nat} {E : Int} {A : Int → Int} (hT : T ≤ 24) (hE : E ≤ 6) (h : MatOk T A) : ∀ n, chN T E A n → muN (phN T E A n) 36 < muN A 36
  | 0, hc => absurd hc id
  | n + 1, hc => by
    rcases hc with hc | hc
    · exact Nat.lt_of_le_of_lt (muN_le phA_sub 36) (phN_mu hT hE h n hc)
    · exact Nat.lt_of_lt_of_le (phA_mu hT hE (phN_ok hT hE h n) hc) (muN_le (phN_sub n) 36)
/-- the matrix after k rounds of E phases -/
noncomputable def itR (T E : Nat) (A : Int → Int) : Nat → Int → Int
  | 0 => A
  | k + 1 => phN T E (itR T E A k) E
def chK (T E : Nat) (A : Int → Int) (k : Nat) : Prop := chN T E (itR T E A k) E
/-- k rounds change something, the next one doesn't -/
def Rnd (T E : Nat) (A : Int → Int) (k : Nat) : Prop := (∀ i, i < k → chK T E A i) ∧ ¬ chK T E A k
theorem Rnd.uniq {T E : Nat} {A : Int → Int} {k k' : Nat} (h : Rnd T E A k) (h' : Rnd T E A k') : k = k' := by
  rcases Nat.lt_trichotomy k k' with z | z | z
  · exact absurd (h'.1 k z) h.2
  · exact z
  · exact absurd (h.1 k' z) h'.2
theorem itR_ok {T E : Nat} {A : Int → Int} (hT : T ≤ 24) (hE : E ≤ 6) (h : MatOk T A) : ∀ k, MatOk T (itR T E A k)
  | 0 => h
  | k + 1 => phN_ok hT (by omega) (itR_ok hT hE h k) E
theorem itR_sym {T E : Nat} {A : Int → Int} (hT : T ≤ 24) (hE : E ≤ 6) (h : SymA T E A) : ∀ k, SymA T E (itR T E A k)
  | 0 => h
  | k + 1 => phN_sym hT (by omega) (itR_sym hT hE h k) E (Int.le_refl _)
theorem itR_mu {T E : Nat} {A : Int → Int} (hT : T ≤ 24) (hE : E ≤ 6) (h : MatOk T A) {k : Nat} (hc : chK T E A k) : muN (itR T E A (k + 1)) 36 < muN (itR T E A k) 36 := phN_mu hT (by omega) (itR_ok hT hE h k) E hc
theorem itR_cnt {T E : Nat} {A : Int → Int} (hT : T ≤ 24) (hE : E ≤ 6) (h : MatOk T A) : ∀ k, (∀ i, i < k → chK T E A i) → muN (itR T E A k) 36 + k ≤ 864
  | 0, _ => by have := muN_bd A 36; show muN A 36 + 0 ≤ 864; omega
  | k + 1, hc => by
    have ih := itR_cnt hT hE h k (fun i hi => hc i (by omega))
    have := itR_mu hT hE h (hc k (by omega))
    omega
theorem upd_setA_ne {M : Id4 → Int → Int} {q q' : Id4} {A : Int → Int} {k v : Int} (h : q' ≠ q) : updM (setA M q A) q' k v = setA (updM M q' k v) q A := by
  funext z k'
  unfold updM setA
  by_cases e : z = q
  · subst e
    simp [show ¬ z = q' from fun y => h y.symm]
  · simp [e]
