/-! 9e: what both sides hold, between two calls of the law -/
theorem CtH.mono {d U : Nat} {y : MethodName} {bc : ByteArray} {mL : Nat} {ret : Option FieldType} {hh : List (Nat × Nat × Nat × Nat)} {args : List AV} {σ : Hp} {Q Q' : Int → Hp → Prop} (h : CtH d U y bc mL ret hh args σ Q) (hq : ∀ v σ', Q v σ' → Q' v σ') : CtH d U y bc mL ret hh args σ Q' := by
  intro l g cy ρ sz hl
  refine MetFree.imp (h l g cy ρ sz hl) (fun a s o s' z => ?_)
  obtain ⟨⟨⟨v, u, e, q, w⟩, f⟩, r⟩ := z
  exact ⟨⟨⟨v, u, e, ⟨q.1, hq _ _ q.2⟩, w⟩, f⟩, r⟩
theorem CtF.mono {d U : Nat} {y : MethodName} {bc : ByteArray} {mL : Nat} {ret : Option FieldType} {args : List AV} {σ : Hp} {Q Q' : UInt32 → Hp → Prop} (h : CtF d U y bc mL ret args σ Q) (hq : ∀ v σ', Q v σ' → Q' v σ') : CtF d U y bc mL ret args σ Q' := by
  intro l g cy ρ sz hl
  refine MetFree.imp (h l g cy ρ sz hl) (fun a s o s' z => ?_)
  obtain ⟨⟨⟨v, u, e, q, w⟩, f⟩, r⟩ := z
  exact ⟨⟨⟨v, u, e, ⟨q.1, hq _ _ q.2⟩, w⟩, f⟩, r⟩
/-- row, buffer, edits, their rows, page, buffered, error's kind and place -/
abbrev ST : Type := (Int → Int) × (Int → Int) × Int × (Int → Int → Int) × Pg × Int × Int × Int
/-- the same names -/
def NQ (S H : Int → Int) : Prop := ∀ j, 1 ≤ j → j < 14 → H j = S j
def PCh (p : Pg) : Prop := ∀ k, 0 ≤ k → k < p.2 → 0 ≤ p.1 k ∧ p.1 k < 65536
def I8 (M : Id4 → Int → Int) (st : ST) : Prop := match st with
  | (S, B, n, Hs, p, bf, ek, ep) => plR M 0 S ∧ NmR M 0 (S 1) S ∧ NmB M ∧ BC B M ∧ M (8, 0, 0, 0) 1 = bf ∧ (∃ nx, hR8 M nx n Hs) ∧ (M (6, 0, 0, 0) 2 = ek ∧ M (6, 0, 0, 0) 3 = ep) ∧ PgR M p
def I9 (M : Id4 → Int → Int) (st : ST) : Prop := match st with
  | (S, B, n, Hs, p, bf, ek, ep) => M (9, 0, 1, 0) = S ∧ M (9, 0, 6, 0) = B ∧ M (9, 0, 0, 0) 6 = bf ∧ hR9 M n Hs ∧ (M (9, 0, 0, 0) 7 = ek ∧ M (9, 0, 0, 0) 8 = ep) ∧ PgR9 M p
def PUs (st : ST) : Prop := match st with
  | (S, B, n, Hs, p, bf, _, _) => Ok S ∧ NB S ∧ BY B ∧ (0 ≤ bf ∧ bf ≤ 500) ∧ (∀ i, 0 ≤ i → i < n → Ok (Hs i) ∧ NQ S (Hs i)) ∧ PCh p
/-- what is told of the class, of the reference alone -/
def F9 (M M' : Id4 → Int → Int) : Prop := ∀ q, q.1 = 9 → M' q = M q
def F8 (M M' : Id4 → Int → Int) : Prop := ∀ q, ¬ q.1 = 9 → M' q = M q
theorem F9.rf {M : Id4 → Int → Int} : F9 M M := fun _ _ => rfl
theorem F9.tr {M M1 M2 : Id4 → Int → Int} (h1 : F9 M M1) (h2 : F9 M1 M2) : F9 M M2 := fun q h => (h2 q h).trans (h1 q h)
theorem F9.up {M M1 : Id4 → Int → Int} {c t : Nat} {i r k v : Int} (ht : t ≠ 9) (h1 : F9 M M1) : F9 M (updM M1 (t, i, c, r) k v) := fun q h => (upd_off (fun z => ht (by rw [z] at h; exact h))).trans (h1 q h)
theorem same8.f9 {M M' : Id4 → Int → Int} (h : same8 M M') : F9 M M' := fun q hq => h q (by unfold scr8; omega)
theorem sameE.f9 {M M' : Id4 → Int → Int} (h : sameE M M') : F9 M M' := fun q hq => h q (by omega)
theorem same9.f8 {M M' : Id4 → Int → Int} (h : same9 M M') : F8 M M' := fun q hq => funext fun k => h q k (fun z => hq z.1)
theorem same9e.f8 {M M' : Id4 → Int → Int} (h : same9e M M') : F8 M M' := fun q hq => funext fun k => h q k (fun z => by
  rcases z with z | z | z | z
  · exact hq z.1
  · exact hq (by rw [z])
  · exact hq (by rw [z])
  · exact hq (by rw [z.1]))
/-- cells of the class that hold something between two calls -/
def prs8 (q : Id4) : Prop := q.1 = 2 ∨ q.1 = 3 ∨ q.1 = 4 ∨ (q.1 = 5 ∧ q.2.1 ≠ 1) ∨ q.1 = 6 ∨ q.1 = 8
theorem I8.of {M M' : Id4 → Int → Int} {st : ST} (h : ∀ q, prs8 q → M' q = M q) (hI : I8 M st) : I8 M' st := by
  obtain ⟨S, B, n, Hs, p, bf, ek, ep⟩ := st
  obtain ⟨h1, h2, h3, h4, h5, ⟨nx, h6⟩, ⟨h7, h8⟩, h9⟩ := hI
  refine ⟨pl_eq (fun c => h _ (by unfold prs8; simp)) h1, ⟨by rw [h _ (by unfold prs8; simp)]; exact h2.1, fun e e0 e1 => by rw [h (3, 0, 11, e) (by unfold prs8; simp), h (3, 0, 2, 0) (by unfold prs8; simp)]; exact h2.2 e e0 e1⟩, fun e k e0 e1 k0 k1 => by rw [h (3, 1, 11, e) (by unfold prs8; simp)]; exact h3 e k e0 e1 k0 k1, fun i i0 i1 => by rw [h (8, 0, 1, 0) (by unfold prs8; simp)]; exact h4 i i0 i1, by rw [h _ (by unfold prs8; simp)]; exact h5, ⟨nx, h6.chg (h _ (by unfold prs8; simp)) (fun q c hq => h _ (by unfold prs8; simp; omega))⟩, ⟨by rw [h _ (by unfold prs8; simp)]; exact h7, by rw [h _ (by unfold prs8; simp)]; exact h8⟩, ⟨by rw [h _ (by unfold prs8; simp)]; exact h9.1, by rw [h _ (by unfold prs8; simp)]; exact h9.2.1, h9.2.2⟩⟩
theorem I8.s8 {M M' : Id4 → Int → Int} {st : ST} (h : same8 M M') (hI : I8 M st) : I8 M' st := hI.of (fun q hq => h q (by unfold prs8 at hq; unfold scr8; omega))
theorem I8.f8 {M M' : Id4 → Int → Int} {st : ST} (h : F8 M M') (hI : I8 M st) : I8 M' st := hI.of (fun q hq => h q (by unfold prs8 at hq; omega))
theorem I8.out {M : Id4 → Int → Int} {st : ST} {v : Int} (hI : I8 M st) : I8 (updM M (10, 0, 1, 0) 0 v) st := hI.of (fun q hq => upd_off (fun z => by rw [z] at hq; unfold prs8 at hq; simp at hq))
theorem I9.of {M M' : Id4 → Int → Int} {st : ST} (h : ∀ q k, q.1 = 9 → ¬ scr9 q k → M' q k = M q k) (hI : I9 M st) : I9 M' st := by
  obtain ⟨S, B, n, Hs, p, bf, ek, ep⟩ := st
  obtain ⟨h1, h2, h3, h4, ⟨h5, h6⟩, h7⟩ := hI
  refine ⟨(funext fun k => h _ k rfl (by unfold scr9; simp) : M' (9, 0, 1, 0) = M (9, 0, 1, 0)).trans h1, (funext fun k => h _ k rfl (by unfold scr9; simp) : M' (9, 0, 6, 0) = M (9, 0, 6, 0)).trans h2, (h _ _ rfl (by unfold scr9; simp)).trans h3, ⟨⟨(h _ _ rfl (by unfold scr9; simp)).trans h4.1.1, h4.1.2⟩, fun i j i0 i1 j0 j1 => (h _ _ rfl (by unfold scr9; simp)).trans (h4.2 i j i0 i1 j0 j1)⟩, ⟨(h _ _ rfl (by unfold scr9; simp)).trans h5, (h _ _ rfl (by unfold scr9; simp)).trans h6⟩, ⟨(funext fun k => h _ k rfl (by unfold scr9; simp) : M' (9, 0, 33, 0) = M (9, 0, 33, 0)).trans h7.1, (h _ _ rfl (by unfold scr9; simp)).trans h7.2.1, h7.2.2⟩⟩
theorem I9.s9 {M M' : Id4 → Int → Int} {st : ST} (h : same9 M M') (hI : I9 M st) : I9 M' st := hI.of (fun q k _ hk => h q k hk)
theorem I9.f9 {M M' : Id4 → Int → Int} {st : ST} (h : F9 M M') (hI : I9 M st) : I9 M' st := hI.of (fun q k hq _ => congrFun (h q hq) k)
/-- what an operation leaves: of the class (through the law's method that catches, or plain), of the reference -/
def AW8 (M : Id4 → Int → Int) (t V : Int) (st : ST) (r : Int) (σ' : Hp) : Prop := ∃ M' b', σ' = (M', R0 b') ∧ I8 M' st ∧ F9 M M' ∧ r = t ∧ (t = 0 → M' (10, 0, 1, 0) 0 = nrm V)
def AP8 (M : Id4 → Int → Int) (b : Bool) (V : Int) (st : ST) (v : Int) (σ' : Hp) : Prop := ∃ M', σ' = (M', R0 b) ∧ I8 M' st ∧ F9 M M' ∧ v = V
def AR9 (M : Id4 → Int → Int) (b : Bool) (t V : Int) (st : ST) (v : Int) (σ' : Hp) : Prop := ∃ M', σ' = (M', R0 b) ∧ I9 M' st ∧ F8 M M' ∧ M' (9, 0, 0, 0) 4 = t ∧ (t = 0 → v = V)
def K8 (M : Id4 → Int → Int) (b : Bool) (σ' : Hp) : Prop := ∃ M', σ' = (M', R0 b) ∧ same8 M M'
theorem K8.rf {M : Id4 → Int → Int} {b : Bool} : K8 M b (M, R0 b) := ⟨M, rfl, same8.rf⟩
theorem nm1 {a E : String} {j : Nat} (h : ([a] : List String)[j]? = some E) : j = 0 ∧ E = a := by
  match j, h with
  | 0, h => exact ⟨rfl, (Option.some.inj h).symm⟩
theorem nm2 {a b E : String} {j : Nat} (h : ([a, b] : List String)[j]? = some E) : (j = 0 ∧ E = a) ∨ (j = 1 ∧ E = b) := by
  match j, h with
  | 0, h => exact Or.inl ⟨rfl, (Option.some.inj h).symm⟩
  | 1, h => exact Or.inr ⟨rfl, (Option.some.inj h).symm⟩
theorem nm3 {a b c E : String} {j : Nat} (h : ([a, b, c] : List String)[j]? = some E) : (j = 0 ∧ E = a) ∨ (j = 1 ∧ E = b) ∨ (j = 2 ∧ E = c) := by
  match j, h with
  | 0, h => exact Or.inl ⟨rfl, (Option.some.inj h).symm⟩
  | 1, h => exact Or.inr (Or.inl ⟨rfl, (Option.some.inj h).symm⟩)
  | 2, h => exact Or.inr (Or.inr ⟨rfl, (Option.some.inj h).symm⟩)
/-- a question, through the law's method that catches -/
theorem q_wrap {M : Id4 → Int → Int} {b : Bool} {st : ST} {t V r : Int} {names : List String} {Q2 : Int → Hp → Prop} {QX2 : String → Hp → Prop} {σ' : Hp} (hI : I8 M st) (h : WQ names Q2 QX2 r σ') (h1 : ∀ v σ', Q2 v σ' → v = V ∧ t = 0 ∧ K8 M b σ') (h2 : ∀ (j : Nat) E σ', names[j]? = some E → QX2 E σ' → (j : Int) + 1 = t ∧ K8 M b σ') : AW8 M t V st r σ' := by
  rcases h with ⟨rfl, v, M1, R1, hq, rfl⟩ | ⟨j, E, hj, rfl, hq⟩
  · obtain ⟨rfl, rfl, M2, he, hs⟩ := h1 _ _ hq
    cases he
    exact ⟨_, b, rfl, (hI.s8 hs).out, hs.f9.up (by decide), rfl, fun _ => upd_same⟩
  · obtain ⟨rfl, M2, rfl, hs⟩ := h2 j E σ' hj hq
    exact ⟨M2, b, rfl, hI.s8 hs, hs.f9, rfl, fun z => by omega⟩
theorem q_ref {M : Id4 → Int → Int} {b : Bool} {st : ST} {t V v : Int} {σ' : Hp} (hI : I9 M st) (h : QP M b t V v σ') : AR9 M b t V st v σ' := by
  obtain ⟨M2, rfl, h2, h3, h4⟩ := h
  exact ⟨M2, rfl, hI.s9 h2, h2.f8, h3, h4⟩
theorem q_plain {M : Id4 → Int → Int} {b : Bool} {st : ST} {V v : Int} {σ' : Hp} (hI : I8 M st) (h : v = V ∧ K8 M b σ') : AP8 M b V st v σ' := by
  obtain ⟨rfl, M2, rfl, hs⟩ := h
  exact ⟨M2, rfl, hI.s8 hs, hs.f9, rfl⟩
theorem t1y {c : Prop} [Decidable c] (h : c) : (1 : Int) - b2i c = 0 := by rw [b2i_pos h]; rfl
theorem t1n {c : Prop} [Decidable c] (h : ¬ c) : (1 : Int) - b2i c = 1 := by rw [b2i_neg h]; rfl
theorem t1b {c : Prop} [Decidable c] : (0 : Int) ≤ 1 - b2i c ∧ (1 : Int) - b2i c ≤ 3 := by
  rcases b2i_01 (c := c) with h | h <;> rw [h] <;> decide
theorem t2b {c1 c2 : Prop} [Decidable c1] [Decidable c2] : 0 ≤ t2 c1 c2 ∧ t2 c1 c2 ≤ 3 := by
  unfold t2
  split
  · decide
  · split <;> decide
theorem t3b {c1 c2 c3 : Prop} [Decidable c1] [Decidable c2] [Decidable c3] : 0 ≤ t3 c1 c2 c3 ∧ t3 c1 c2 c3 ≤ 3 := by
  unfold t3
  split
  · decide
  · split
    · decide
    · split <;> decide
