/-! 09g: the matrices of a row S, told once for both -/
def Agr (E : Int) (A B : Int → Int) : Prop := ∀ a b, 0 ≤ a → a < E → 0 ≤ b → b < E → A (6 * a + b) = B (6 * a + b)
theorem Agr.rf {E : Int} {A : Int → Int} : Agr E A A := fun _ _ _ _ _ _ => rfl
theorem Agr.tr {E : Int} {A B C : Int → Int} (h1 : Agr E A B) (h2 : Agr E B C) : Agr E A C := fun a b p q r s => (h1 a b p q r s).trans (h2 a b p q r s)
theorem Agr.sy {E : Int} {A B : Int → Int} (h1 : Agr E A B) : Agr E B A := fun a b p q r s => (h1 a b p q r s).symm
theorem narA_agr {T : Nat} {E : Int} {A B : Int → Int} {a b x : Int} (hE : E ≤ 6) (h : Agr E A B) (ha : 0 ≤ a ∧ a < E) (hb : 0 ≤ b ∧ b < E) : Agr E (narA T A a b x) (narA T B a b x) := by
  intro c d h1 h2 h3 h4
  unfold narA
  rw [h a b ha.1 ha.2 hb.1 hb.2]
  by_cases e : 6 * c + d = 6 * b + a
  · rw [e, upS_same, upS_same]
  · rw [upS_ne e, upS_ne e]
    by_cases e2 : 6 * c + d = 6 * a + b
    · rw [e2, upS_same, upS_same]
    · rw [upS_ne e2, upS_ne e2]
      exact h c d h1 h2 h3 h4
theorem phV_agr {T : Nat} {E : Int} {A B : Int → Int} {a b c : Int} (h : Agr E A B) (hc : 0 ≤ c ∧ c < E) (hd : dst E a b c) : phV T A c a b = phV T B c a b := by
  obtain ⟨h1, h2, -⟩ := hd
  unfold phV
  rw [h a b h1.1 h1.2 h2.1 h2.2, h a c h1.1 h1.2 hc.1 hc.2, h c b hc.1 hc.2 h2.1 h2.2]
theorem phA_agr {T : Nat} {E : Int} {A B : Int → Int} {c : Int} (hE : E ≤ 6) (h : Agr E A B) (hc : 0 ≤ c ∧ c < E) : Agr E (phA T E A c) (phA T E B c) := by
  intro a b h1 h2 h3 h4
  by_cases hd : dst E a b c
  · rw [phA_in hE hd, phA_in hE hd, phV_agr h hc hd]
  · rw [phA_out (by omega) hd, phA_out (by omega) hd, h a b h1 h2 h3 h4]
theorem chg_agr {T : Nat} {E : Int} {A B : Int → Int} {c : Int} {Pr : Int → Int → Prop} (h : Agr E A B) (hc : 0 ≤ c ∧ c < E) : chg T E A c Pr ↔ chg T E B c Pr := by
  have key : ∀ {A B : Int → Int}, Agr E A B → chg T E A c Pr → chg T E B c Pr := by
    rintro A B h ⟨x, y, q1, q2, q3⟩
    exact ⟨x, y, q1, q2, by rw [← phV_agr h hc q2, ← h x y q2.1.1 q2.1.2 q2.2.1.1 q2.2.1.2]; exact q3⟩
  exact ⟨key h, key h.sy⟩
theorem phN_agr {T : Nat} {E : Int} {A B : Int → Int} (hE : E ≤ 6) (h : Agr E A B) : ∀ n : Nat, (n : Int) ≤ E → Agr E (phN T E A n) (phN T E B n)
  | 0, _ => h
  | n + 1, hn => phA_agr hE (phN_agr hE h n (by omega)) (by omega)
theorem chN_agr {T : Nat} {E : Int} {A B : Int → Int} (hE : E ≤ 6) (h : Agr E A B) : ∀ n : Nat, (n : Int) ≤ E → (chN T E A n ↔ chN T E B n)
  | 0, _ => Iff.rfl
  | n + 1, hn => or_congr (chN_agr hE h n (by omega)) (chg_agr (phN_agr hE h n (by omega)) (by omega))
theorem itR_agr {T E : Nat} {A B : Int → Int} (hE : E ≤ 6) (h : Agr E A B) : ∀ k, Agr E (itR T E A k) (itR T E B k)
  | 0 => h
  | k + 1 => phN_agr (by omega) (itR_agr hE h k) E (Int.le_refl _)
theorem chK_agr {T E : Nat} {A B : Int → Int} (hE : E ≤ 6) (h : Agr E A B) (k : Nat) : chK T E A k ↔ chK T E B k := chN_agr (by omega) (itR_agr hE h k) E (Int.le_refl _)
theorem Rnd_agr {T E : Nat} {A B : Int → Int} (hE : E ≤ 6) (h : Agr E A B) {k : Nat} (hr : Rnd T E A k) : Rnd T E B k := ⟨fun i hi => (chK_agr hE h i).mp (hr.1 i hi), fun z => hr.2 ((chK_agr hE h k).mpr z)⟩
theorem Rnd_ex {T E : Nat} {A : Int → Int} (hT : T ≤ 24) (hE : E ≤ 6) (h : MatOk T A) : ∃ k, Rnd T E A k ∧ k ≤ 864 := by
  apply Classical.byContradiction
  intro hn
  have key : ∀ k, k ≤ 865 → ∀ i, i < k → chK T E A i := by
    intro k
    induction k with
    | zero => intro _ i hi; omega
    | succ k ih =>
      intro hk i hi
      by_cases e : i = k
      · subst e
        apply Classical.byContradiction
        intro z
        exact hn ⟨i, ⟨ih (by omega), z⟩, by omega⟩
      · exact ih (by omega) i (by omega)
  have := itR_cnt hT hE h 865 (key 865 (Nat.le_refl _))
  omega
-- symmetry of what is laid
theorem narA_sym {T : Nat} {E : Int} {A : Int → Int} {a b x : Int} (hT : T ≤ 24) (hE : E ≤ 6) (hA : MatOk T A) (h : SymA T E A) (ha : 0 ≤ a ∧ a < E) (hb : 0 ≤ b ∧ b < E) (hab : a ≠ b) : SymA T E (narA T A a b x) := by
  intro c d h1 h2 h3 h4 h5
  have s := (hA (6 * a + b) (by omega) (by omega)).and hT x
  unfold narA
  by_cases e1 : c = a ∧ d = b
  · obtain ⟨rfl, rfl⟩ := e1
    rw [upS_same, upS_ne (by omega), upS_same]
  · by_cases e2 : c = b ∧ d = a
    · obtain ⟨rfl, rfl⟩ := e2
      rw [upS_ne (by omega), upS_same, upS_same, turn_turn hT s]
    · rw [upS_ne (by omega), upS_ne (by omega), upS_ne (by omega), upS_ne (by omega)]
      exact h c d h1 h2 h3 h4 h5
theorem turn_all {T : Nat} (hT : T ≤ 24) : turnI T (allI T) = allI T := by
  refine (setI_S hT).ext (setI_S hT) (fun i hi => ?_)
  show bit (turnI T (allI T)) i = bit (allI T) i
  rw [turn_bit hT, allI_bit hT, allI_bit hT, decide_eq_true hi, decide_eq_true (Nat.mod_lt _ (by omega))]
  rfl
theorem lay0_sym {T : Nat} {E : Int} (hT : T ≤ 24) (hE : E ≤ 6) (A : Int → Int) : SymA T E (fillA A (lay0 T) 36) := by
  intro a b h1 h2 h3 h4 h5
  unfold fillA
  rw [if_pos (by omega), if_pos (by omega), lay0_at (by omega), lay0_at (by omega), if_neg (fun z => h5 z.symm), if_neg h5, turn_all hT]
theorem layN_sym {S A : Int → Int} (hS : Ok S) (hA : MatOk (S 0).toNat A) (h : SymA (S 0).toNat (S 1) A) : ∀ n : Nat, (n : Int) ≤ S 20 → SymA (S 0).toNat (S 1) (layN S A n)
  | 0, _ => h
  | n + 1, hn => by
    have ih := layN_sym hS hA h n (by omega)
    have h1 := hS.1
    have h2 := hS.2.1
    have h3 := hS.2.2.2.2 n (by omega) (by omega)
    unfold SpOk at h3
    exact narA_sym (by omega) (by omega) (layN_ok hS hA n (by omega)) ih h3.1 h3.2.1 h3.2.2.1
/-- the matrix by the spans alone -/
def lyS (S : Int → Int) : Int → Int := layN S (fillA (fun _ => 0) (lay0 (S 0).toNat) 36) (S 20).toNat
theorem lyS_ok {S : Int → Int} (h : Ok S) : MatOk (S 0).toNat (lyS S) := by
  have h1 := h.1
  have h3 := h.2.2.1
  exact layN_ok h (lay0_ok (by omega) (by omega) _) _ (by omega)
theorem lyS_sym {S : Int → Int} (h : Ok S) : SymA (S 0).toNat (S 1) (lyS S) := by
  have h1 := h.1
  have h2 := h.2.1
  have h3 := h.2.2.1
  exact layN_sym h (lay0_ok (by omega) (by omega) _) (lay0_sym (by omega) (by omega) _) _ (by omega)
theorem lyS_ex {S : Int → Int} (h : Ok S) : ∃ k, Rnd (S 0).toNat (S 1).toNat (lyS S) k ∧ k ≤ 864 := by
  have h1 := h.1
  have h2 := h.2.1
  exact Rnd_ex (by omega) (by omega) (lyS_ok h)
noncomputable def rdS (S : Int → Int) : Nat := @dite _ (∃ k, Rnd (S 0).toNat (S 1).toNat (lyS S) k ∧ k ≤ 864) (Classical.propDecidable _) (fun h => Classical.choose h) (fun _ => 0)
theorem rdS_is {S : Int → Int} (h : Ok S) : Rnd (S 0).toNat (S 1).toNat (lyS S) (rdS S) ∧ rdS S ≤ 864 := by
  unfold rdS
  rw [dif_pos (lyS_ex h)]
  exact Classical.choose_spec (lyS_ex h)
/-- the matrix, tightened -/
noncomputable def tgS (S : Int → Int) : Int → Int := itR (S 0).toNat (S 1).toNat (lyS S) (rdS S + 1)
theorem tgS_ok {S : Int → Int} (h : Ok S) : MatOk (S 0).toNat (tgS S) := by
  have h1 := h.1
  have h2 := h.2.1
  exact itR_ok (by omega) (by omega) (lyS_ok h) _
theorem tgS_sym {S : Int → Int} (h : Ok S) : SymA (S 0).toNat (S 1) (tgS S) := by
  have h1 := h.1
  have h2 := h.2.1
  have := itR_sym (E := (S 1).toNat) (show (S 0).toNat ≤ 24 by omega) (by omega) (A := lyS S) (by rw [Int.toNat_of_nonneg h2.1]; exact lyS_sym h) (rdS S + 1)
  rw [Int.toNat_of_nonneg h2.1] at this
  exact this
