/-! 65: the reference's tokens -/
def BY (B : Int → Int) : Prop := ∀ i, 0 ≤ i → i < 500 → 0 ≤ B i ∧ B i ≤ 255
/-- the token's fields alone may change -/
def chX (M M' : Id4 → Int → Int) : Prop := ∀ q k, ¬ (q = (9, 0, 0, 0) ∧ 10 ≤ k ∧ k ≤ 13) → M' q k = M q k
theorem chX.rf {M : Id4 → Int → Int} : chX M M := fun _ _ _ => rfl
theorem chX.tr {M M1 M2 : Id4 → Int → Int} (h1 : chX M M1) (h2 : chX M1 M2) : chX M M2 := fun q k h => (h2 q k h).trans (h1 q k h)
theorem chX.up {M M1 : Id4 → Int → Int} {k v : Int} (h1 : chX M M1) (hk : 10 ≤ k ∧ k ≤ 13) : chX M (updM M1 (9, 0, 0, 0) k v) := fun q j z => by
  rw [← h1 q j z]
  by_cases y : q = (9, 0, 0, 0)
  · exact upd_ne (Or.inr (fun w => z ⟨y, by omega⟩))
  · exact upd_ne (Or.inl y)
theorem chX.off {M M' : Id4 → Int → Int} (h : chX M M') {q : Id4} (hq : q ≠ (9, 0, 0, 0)) : M' q = M q := funext fun k => h q k (fun z => hq z.1)
theorem chX.n {M M' : Id4 → Int → Int} (h : chX M M') : M' (9, 0, 0, 0) 9 = M (9, 0, 0, 0) 9 := h _ _ (fun z => absurd z.2.1 (by decide))
theorem isLt_iff {c : Int} : isLt c = true ↔ 97 ≤ c ∧ c ≤ 122 := decide_eq_true_iff
theorem isDg_iff {c : Int} : isDg c = true ↔ 48 ≤ c ∧ c ≤ 57 := decide_eq_true_iff
theorem isWs_iff {c : Int} : isWs c = true ↔ c = 32 ∨ c = 10 := decide_eq_true_iff