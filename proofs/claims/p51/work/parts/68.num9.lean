/-! 68: the reference's pieces of a statement -/
def chF (M M' : Id4 → Int → Int) : Prop := ∀ q k, ¬ ((q = (9, 0, 0, 0) ∧ 10 ≤ k ∧ k ≤ 15) ∨ q = (9, 0, 1, 0)) → M' q k = M q k
theorem chF.rf {M : Id4 → Int → Int} : chF M M := fun _ _ _ => rfl
theorem chF.tr {M M1 M2 : Id4 → Int → Int} (h1 : chF M M1) (h2 : chF M1 M2) : chF M M2 := fun q k h => (h2 q k h).trans (h1 q k h)
theorem chF.up {M M1 : Id4 → Int → Int} {k v : Int} (h1 : chF M M1) (hk : 10 ≤ k ∧ k ≤ 15) : chF M (updM M1 (9, 0, 0, 0) k v) := fun q j z => by
  rw [← h1 q j z]
  by_cases y : q = (9, 0, 0, 0)
  · exact upd_ne (Or.inr (fun w => z (Or.inl ⟨y, by omega⟩)))
  · exact upd_ne (Or.inl y)
theorem chF.st {M M1 : Id4 → Int → Int} {k v : Int} (h1 : chF M M1) : chF M (updM M1 (9, 0, 1, 0) k v) := fun q j z => by
  rw [← h1 q j z]
  exact upd_ne (Or.inl (fun w => z (Or.inr w)))
theorem chF.off {M M' : Id4 → Int → Int} (h : chF M M') {q : Id4} (hq : q ≠ (9, 0, 0, 0)) (hq2 : q ≠ (9, 0, 1, 0)) : M' q = M q := funext fun k => h q k (fun z => z.elim (fun y => hq y.1) hq2)
/-- the text and the place are in order -/
def TX (B : Int → Int) (n i : Int) : Prop := BY B ∧ (0 ≤ n ∧ n ≤ 500) ∧ 0 ≤ i ∧ i ≤ n
theorem TX.nx {B : Int → Int} {n i : Int} (h : TX B n i) : TX B n (nxT B n i) := by
  have := nxT_bd (B := B) h.2.2.2
  exact ⟨h.1, h.2.1, by have := h.2.2.1; omega, this.2⟩
theorem TK.bd {B : Int → Int} {n i : Int} {M : Id4 → Int → Int} (h : TK B n i M) : inR (M (9, 0, 0, 0) 12) := by
  rw [h.2.2.1]
  have := tkS_bd (B := B) (n := n) (s := stT B n i)
  unfold kdT inR
  omega
theorem vlT_bd {B : Int → Int} {n i : Int} (h : TX B n i) (hk : kdT B n i = 3) : 0 ≤ vlT B n i ∧ vlT B n i ≤ 99 := by
  obtain ⟨hy, hn, h0, h1⟩ := h
  have sb := stT_bd (B := B) h1
  unfold kdT tkS at hk
  by_cases z : n ≤ stT B n i
  · rw [if_pos z] at hk; exact absurd hk (by decide)
  · rw [if_neg z] at hk
    by_cases y : isLt (B (stT B n i)) = true
    · rw [if_pos y] at hk; exact absurd hk ite12
    · rw [if_neg y] at hk
      by_cases x : isDg (B (stT B n i)) = true
      · rw [if_pos x] at hk
        have w : ¬ 2 < rn isDg B n (stT B n i) - stT B n i := fun w => by rw [if_pos w] at hk; exact absurd hk (by decide)
        have d0 := isDg_iff.mp x
        have ra := (rn_at (p := isDg) (B := B) (n := n) (i := stT B n i))
        have g := (tk_d (n := n) ⟨by omega, y, x⟩).1
        have g2 := tnS_gt (B := B) (n := n) (s := stT B n i) (by omega)
        rw [g] at g2
        unfold vlT tvS
        by_cases u : rn isDg B n (stT B n i) - stT B n i = 1
        · rw [if_pos u]; omega
        · rw [if_neg u]
          have d1 := isDg_iff.mp (ra.2.1 (stT B n i + 1) (by omega) (by omega)).2
          omega
      · rw [if_neg x] at hk; exact absurd hk ite14