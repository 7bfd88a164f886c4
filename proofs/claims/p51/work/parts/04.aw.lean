/-! 02: the abstract walk. A value of the machine is an AV (whole numbers are Int), an object or an array an Id4 (class, which one, which of its arrays, row),
the heap a pair of functions (numbers, references). AW says of a frame over such a heap what the kit's W says of the machine's. -/
abbrev Id4 : Type := Nat × Int × Nat × Int
abbrev AV : Type := Int ⊕ (Option Id4 ⊕ (Int ⊕ (UInt32 ⊕ (UInt64 ⊕ Unit))))
abbrev aI (i : Int) : AV := .inl i
abbrev aR (o : Id4) : AV := .inr (.inl (some o))
abbrev aN : AV := .inr (.inl none)
abbrev aL (i : Int) : AV := .inr (.inr (.inl i))
abbrev aF (x : UInt32) : AV := .inr (.inr (.inr (.inl x)))
abbrev aD (x : UInt64) : AV := .inr (.inr (.inr (.inr (.inl x))))
abbrev aX : AV := .inr (.inr (.inr (.inr (.inr ()))))
def cv (ρ : Id4 → Nat) (v : AV) : Value := match v with
  | .inl i => .int (Int32.ofInt i)
  | .inr (.inl o) => va_rf (o.map ρ)
  | .inr (.inr (.inl i)) => .long (Int64.ofInt i)
  | .inr (.inr (.inr (.inl x))) => .float x
  | .inr (.inr (.inr (.inr (.inl x)))) => .double x
  | .inr (.inr (.inr (.inr (.inr _)))) => .null
def isX (v : AV) : Bool := match v with
  | .inr (.inr (.inr (.inr (.inr _)))) => true
  | _ => false
def wide (v : AV) : Bool := match v with
  | .inr (.inr (.inl _)) => true
  | .inr (.inr (.inr (.inr (.inl _)))) => true
  | _ => false
abbrev Hp : Type := (Id4 → Int → Int) × (Id4 → Int → Option Id4)
def inR (i : Int) : Prop := -2147483648 ≤ i ∧ i ≤ 2147483647
theorem inR0 : inR 0 := by unfold inR; omega
theorem oi_inR {i : Int} (h : inR i) : (Int32.ofInt i).toInt = i := by
  unfold inR at h
  exact Int32.toInt_ofInt_of_le (by omega) (by omega)
theorem oi_inj {i j : Int} (h : inR i) (h2 : inR j) (e : Int32.ofInt i = Int32.ofInt j) : i = j := by
  rw [← oi_inR h, ← oi_inR h2, e]
theorem oi_lt {i j : Int} (h : inR i) (h2 : inR j) : Int32.ofInt i < Int32.ofInt j ↔ i < j := by
  rw [Int32.lt_iff_toInt_lt, oi_inR h, oi_inR h2]
theorem oi_le {i j : Int} (h : inR i) (h2 : inR j) : Int32.ofInt i ≤ Int32.ofInt j ↔ i ≤ j := by
  rw [Int32.le_iff_toInt_le, oi_inR h, oi_inR h2]
theorem oi_eq {i j : Int} (h : inR i) (h2 : inR j) : Int32.ofInt i = Int32.ofInt j ↔ i = j := ⟨oi_inj h h2, fun e => by rw [e]⟩
def b2i (c : Prop) [Decidable c] : Int := if c then 1 else 0
theorem b2i_pos {c : Prop} [Decidable c] (h : c) : b2i c = 1 := if_pos h
theorem b2i_neg {c : Prop} [Decidable c] (h : ¬ c) : b2i c = 0 := if_neg h
theorem b2i_01 {c : Prop} [Decidable c] : b2i c = 0 ∨ b2i c = 1 := by
  unfold b2i
  split
  · exact Or.inr rfl
  · exact Or.inl rfl
theorem b2i_inR {c : Prop} [Decidable c] : inR (b2i c) := by
  rcases b2i_01 (c := c) with h | h <;> rw [h] <;> unfold inR <;> omega
theorem b2i_congr {c d : Prop} [Decidable c] [Decidable d] (h : c ↔ d) : b2i c = b2i d := by
  unfold b2i
  by_cases hc : c
  · rw [if_pos hc, if_pos (h.mp hc)]
  · rw [if_neg hc, if_neg (fun z => hc (h.mpr z))]
theorem nar_bool {v : Int} (h : v = 0 ∨ v = 1) : narrow .boolean (.int (Int32.ofInt v)) = .int (Int32.ofInt v) := by
  rcases h with rfl | rfl <;> rfl
theorem inR_toInt (x : Int32) : inR x.toInt := by
  have h1 := Int32.le_toInt x
  have h2 := Int32.toInt_lt x
  unfold inR
  omega
theorem oi_in {i : Int} {n : Nat} (h0 : 0 ≤ i) (h1 : i < n) (hn : n ≤ 3072) : vp_in (Int32.ofInt i) n := by
  rw [vp_in_iff, oi_inR (by unfold inR; omega)]
  exact ⟨h0, h1⟩
theorem oi_nat {i : Int} (h0 : 0 ≤ i) (h1 : i ≤ 2147483647) : (Int32.ofInt i).toNatClampNeg = i.toNat := by
  show (Int32.ofInt i).toInt.toNat = i.toNat
  rw [oi_inR (by unfold inR; omega)]
-- which class or array an Id4 is, how many there are
/-- the String constants: how long, their bytes, by their numbers -/
def wLen : List Nat := [6, 5, 4, 7, 1, 6, 5, 1, 5]
def wByt : List (List Int32) := [[112, 101, 114, 105, 111, 100], [101, 118, 101, 110, 116], [115, 112, 97, 110], [112, 101, 114, 105, 111, 100, 32], [59], [101, 118, 101, 110, 116, 32], [97, 98, 99, 100, 101], [32], [115, 112, 97, 110, 32]]
def kLen (i : Int) : Nat := wLen.getD i.toNat 0
def kd (q : Id4) : Nat ⊕ (Nat × Nat) := match q.1, q.2.2.1 with
  | 0, 0 => .inl 0 | 0, 2 => .inr (0, 14) | 0, 3 => .inr (7, 14) | 0, 13 => .inr (0, 6) | 0, 4 => .inr (7, 14) | 0, 14 => .inr (0, 6) | 0, 5 => .inr (2, 14) | 0, 6 => .inr (0, 6)
  | 1, 0 => .inl 1 | 1, 2 => .inr (0, 36)
  | 2, 0 => .inl 2 | 2, 1 => .inr (5, 10)
  | 3, 0 => .inl 3 | 3, 1 => .inr (6, 6) | 3, 11 => .inr (1, 8) | 3, 2 => .inr (0, 6)
  | 4, 0 => .inl 4 | 4, 1 => .inr (3, 160)
  | 5, 0 => .inl 5 | 5, 4 => .inr (0, 6) | 5, 5 => .inr (0, 14) | 5, 6 => .inr (0, 14) | 5, 7 => .inr (0, 14) | 5, 8 => .inr (0, 14) | 5, 9 => .inr (0, 14)
  | 6, 0 => .inl 6 | 6, 5 => .inr (1, 0)
  | 7, 0 => .inl 7 | 7, 2 => .inr (0, 6) | 7, 4 => .inr (7, 36) | 7, 14 => .inr (0, 24) | 7, 5 => .inr (7, 6) | 7, 15 => .inr (0, 144) | 7, 6 => .inr (0, 6) | 7, 7 => .inr (0, 6)
  | 8, 0 => .inl 8 | 8, 1 => .inr (1, 500)
  | 9, 0 => .inl 9 | 10, 0 => .inl 10 | 11, 0 => .inl 11 | 12, n => .inr (0, n) | 13, n => .inr (1, n)
  | 20, 0 => .inl 10 | 21, _ => .inr (1, kLen q.2.1) | 23, _ => .inr (1, 100)
  | _, _ => .inl 99
def tcs : List (Nat × Nat) := [(0,0),(0,2),(0,3),(0,13),(0,4),(0,14),(0,5),(0,6),(1,0),(1,2),(2,0),(2,1),(3,0),(3,1),(3,11),(3,2),(4,0),(4,1),(5,0),(5,4),(5,5),(5,6),(5,7),(5,8),(5,9),(6,0),(6,5),(7,0),(7,2),(7,4),(7,14),(7,5),(7,15),(7,6),(7,7),(8,0),(8,1)]
def cnt (t : Nat) : Nat := match t with
  | 5 => 13 | 3 => 2 | 1 => 2 | 0 => 1 | 2 => 1 | 4 => 1 | 6 => 1 | 7 => 1 | 8 => 1 | _ => 0
def rcnt (t c : Nat) : Nat := match t, c with
  | 0, 13 => 14 | 0, 14 => 14 | 3, 11 => 6 | 7, 14 => 36 | 7, 15 => 6 | _, _ => 1
def Lall : List Id4 := tcs.flatMap fun tc => (List.range (cnt tc.1)).flatMap fun (i : Nat) => (List.range (rcnt tc.1 tc.2)).map fun (r : Nat) => (tc.1, (i : Int), tc.2, (r : Int))
def inB (q : Id4) : Prop := (0 ≤ q.2.1 ∧ q.2.1 < cnt q.1) ∧ 0 ≤ q.2.2.2 ∧ q.2.2.2 < rcnt q.1 q.2.2.1
theorem kd_tcs {q : Id4} (h : kd q ≠ .inl 99) (h9 : q.1 < 9) : (q.1, q.2.2.1) ∈ tcs := by
  revert h h9
  unfold kd
  split <;> first | (rename_i e1 e2; rw [e1, e2]; intro _ _; decide) | (rename_i e1 e2; rw [e1]; intro _ h9; exact absurd h9 (by decide)) | (rename_i e1; rw [e1]; intro _ h9; exact absurd h9 (by decide)) | exact fun h => absurd rfl h
theorem inB9 {q : Id4} (hb : inB q) : q.1 < 9 := by
  have h1 := hb.1.1
  have h2 := hb.1.2
  revert h2
  unfold cnt
  split <;> intro h2 <;> omega
theorem memL {q : Id4} (h : kd q ≠ .inl 99) (hb : inB q) : q ∈ Lall := by
  have h9 := inB9 hb
  obtain ⟨t, i, c, r⟩ := q
  obtain ⟨⟨h1, h2⟩, h3, h4⟩ := hb
  refine List.mem_flatMap.mpr ⟨(t, c), kd_tcs h h9, List.mem_flatMap.mpr ⟨i.toNat, List.mem_range.mpr (by dsimp only at *; omega), List.mem_map.mpr ⟨r.toNat, List.mem_range.mpr (by dsimp only at *; omega), ?_⟩⟩⟩
  dsimp only at *
  rw [Int.toNat_of_nonneg h1, Int.toNat_of_nonneg h3]
theorem Lall_nodup : Lall.Nodup := by decide +kernel
theorem kd_small {q : Id4} {e n : Nat} (h : kd q = .inr (e, n)) (hb : inB q) : n ≤ 910 ∧ e ≤ 7 := by
  have h9 := inB9 hb
  revert h h9
  unfold kd
  split <;> intro h h9 <;> first | (cases h; exact ⟨by decide, by decide⟩) | (rename_i e1 e2; rw [e1] at h9; exact absurd h9 (by decide)) | (rename_i e1; rw [e1] at h9; exact absurd h9 (by decide)) | cases h
-- the references, once all is made (b: the reader's text is the buffer)
def R0 (b : Bool) (q : Id4) (k : Int) : Option Id4 := match q with
  | (t, i, c, _) => match t, c with
    | 0, 0 => if k = 1 then some (0, 0, 2, 0) else if k = 2 then some (0, 0, 3, 0) else if k = 3 then some (0, 0, 4, 0) else if k = 4 then some (0, 0, 5, 0) else if k = 5 then some (0, 0, 6, 0) else none
    | 0, 3 => some (0, 0, 13, k)
    | 0, 4 => some (0, 0, 14, k)
    | 1, 0 => some (1, i, 2, 0)
    | 2, 0 => some (2, 0, 1, 0)
    | 2, 1 => some (5, 3 + k, 0, 0)
    | 3, 0 => if k = 0 then some (3, i, 1, 0) else some (3, i, 2, 0)
    | 3, 1 => some (3, i, 11, k)
    | 4, 0 => some (4, 0, 1, 0)
    | 5, 0 => if k = 3 then some (5, i, 4, 0) else if k = 4 then some (5, i, 5, 0) else if k = 5 then some (5, i, 6, 0) else if k = 6 then some (5, i, 7, 0) else if k = 7 then some (5, i, 8, 0) else if k = 8 then some (5, i, 9, 0) else none
    | 6, 0 => if k = 0 then some (5, 2, 0, 0) else if k = 1 then some (3, 1, 0, 0) else if b then some (8, 0, 1, 0) else some (6, 0, 5, 0)
    | 7, 0 => if k = 1 then some (7, 0, 2, 0) else if k = 2 then some (1, 1, 0, 0) else if k = 3 then some (7, 0, 4, 0) else if k = 4 then some (7, 0, 5, 0) else if k = 5 then some (7, 0, 6, 0) else if k = 6 then some (7, 0, 7, 0) else none
    | 7, 4 => some (7, 0, 14, k)
    | 7, 5 => some (7, 0, 15, k)
    | 8, 0 => if k = 0 then some (8, 0, 1, 0) else if k = 2 then some (6, 0, 0, 0) else if k = 3 then some (3, 0, 0, 0) else if k = 4 then some (5, 0, 0, 0) else if k = 5 then some (5, 1, 0, 0) else if k = 6 then some (2, 0, 0, 0) else if k = 7 then some (1, 0, 0, 0) else if k = 8 then some (0, 0, 0, 0) else if k = 9 then some (7, 0, 0, 0) else if k = 10 then some (4, 0, 0, 0) else none
    | _, _ => none
-- fields: how many a class has, which are references
def nfl (t : Nat) : Nat := match t with
  | 0 => 6 | 1 => 5 | 2 => 3 | 3 => 3 | 4 => 2 | 5 => 9 | 6 => 10 | 7 => 10 | 8 => 11 | 9 => 8 | 10 => 4 | 11 => 4 | _ => 0
def rfF (t k : Nat) : Bool := match t with
  | 0 => k != 0 | 1 => k == 1 | 2 => k == 0 | 3 => k == 0 || k == 1 | 4 => k == 0 | 5 => decide (3 ≤ k) | 6 => k == 0 || k == 1 || k == 4 | 7 => decide (1 ≤ k ∧ k ≤ 6) | 8 => k != 1
  | 9 => k == 0 || k == 5 || k == 6 | 10 => k == 0 | 11 => k == 0 | _ => false
def eT (e : Nat) : FieldType := match e with
  | 0 => .int | 1 => .byte | 2 => .boolean | 3 => .char | 4 => .int | 5 => .object "SpanTimetable$Plan" | 6 => .array .byte | _ => .array .int
def tysOf (cy : Nat → ClassId) : List (ClassId × FieldType) := (List.range 8).map fun e => (cy e, eT e)
def flds (ρ : Id4 → Nat) (σ : Hp) (q : Id4) (t : Nat) : List Value := (List.range (nfl t)).map fun (k : Nat) => if rfF t k then va_rf ((σ.2 q (k : Int)).map ρ) else .int (Int32.ofInt (σ.1 q (k : Int)))
def arrs (ρ : Id4 → Nat) (σ : Hp) (q : Id4) (e : Nat) : (Nat → Int32) ⊕ (Nat → Int64) ⊕ (Nat → UInt32) ⊕ (Nat → UInt64) ⊕ (Nat → Option Nat) :=
  if e ≤ 3 then .inl (fun j => Int32.ofInt (σ.1 q (j : Int))) else if e = 4 then .inr (.inl (fun j => Int64.ofInt (σ.1 q (j : Int)))) else .inr (.inr (.inr (.inr (fun j => (σ.2 q (j : Int)).map ρ))))
def ent (ρ : Id4 → Nat) (cy : Nat → ClassId) (σ : Hp) (q : Id4) : va_E := match kd q with
  | .inl t => .inr (t, flds ρ σ q t)
  | .inr (e, n) => .inl (cy e, (n, arrs ρ σ q e))
def wsOf (ρ : Id4 → Nat) (cy : Nat → ClassId) (L : List Id4) (σ : Hp) : va_W := L.map fun q => (ρ q, ent ρ cy σ q)
def updM (M : Id4 → Int → Int) (q : Id4) (k v : Int) : Id4 → Int → Int := fun q' k' => if q' = q ∧ k' = k then v else M q' k'
def updR (M : Id4 → Int → Option Id4) (q : Id4) (k : Int) (v : Option Id4) : Id4 → Int → Option Id4 := fun q' k' => if q' = q ∧ k' = k then v else M q' k'
theorem ws_at {ρ : Id4 → Nat} {cy : Nat → ClassId} {L : List Id4} {σ : Hp} {q : Id4} (h : q ∈ L) : ∃ i : Nat, L[i]? = some q ∧ (wsOf ρ cy L σ)[i]? = some (ρ q, ent ρ cy σ q) := by
  obtain ⟨i, hi⟩ := List.getElem?_of_mem h
  refine ⟨i, hi, ?_⟩
  unfold wsOf
  rw [List.getElem?_map, hi]
  rfl
theorem ws_set {ρ : Id4 → Nat} {cy : Nat → ClassId} {L : List Id4} {σ σ' : Hp} {q : Id4} {i : Nat} (hn : L.Nodup) (hi : L[i]? = some q) {e : va_E} (he : ent ρ cy σ' q = e) (ho : ∀ q', q' ≠ q → ent ρ cy σ' q' = ent ρ cy σ q') : (wsOf ρ cy L σ).set i (ρ q, e) = wsOf ρ cy L σ' := by
  apply List.ext_getElem?
  intro j
  unfold wsOf
  by_cases hj : j = i
  · subst hj
    have hl := (List.getElem?_eq_some_iff.mp hi).1
    rw [List.getElem?_set_self (by simpa using hl), List.getElem?_map, hi, ← he]
    rfl
  · rw [List.getElem?_set_ne (Ne.symm hj), List.getElem?_map, List.getElem?_map]
    cases hq : L[j]? with
    | none => rfl
    | some q' =>
      have hne : q' ≠ q := by
        intro h
        subst h
        have h1 := (List.getElem?_eq_some_iff.mp hi)
        have h2 := (List.getElem?_eq_some_iff.mp hq)
        obtain ⟨l1, e1⟩ := h1
        obtain ⟨l2, e2⟩ := h2
        rcases Nat.lt_or_gt_of_ne hj with z | z
        · exact List.pairwise_iff_getElem.mp hn j i l2 l1 z (e2.trans e1.symm)
        · exact List.pairwise_iff_getElem.mp hn i j l1 l2 z (e1.trans e2.symm)
      show some (ρ q', ent ρ cy σ q') = some (ρ q', ent ρ cy σ' q')
      rw [ho q' hne]
theorem ent_ne {ρ : Id4 → Nat} {cy : Nat → ClassId} {σ : Hp} {q q' : Id4} {k v : Int} (h : q' ≠ q) : ent ρ cy (updM σ.1 q k v, σ.2) q' = ent ρ cy σ q' := by
  have e : ∀ k', updM σ.1 q k v q' k' = σ.1 q' k' := fun k' => if_neg (fun z => h z.1)
  unfold ent flds arrs
  simp only [e]
theorem ent_neR {ρ : Id4 → Nat} {cy : Nat → ClassId} {σ : Hp} {q q' : Id4} {k : Int} {v : Option Id4} (h : q' ≠ q) : ent ρ cy (σ.1, updR σ.2 q k v) q' = ent ρ cy σ q' := by
  have e : ∀ k', updR σ.2 q k v q' k' = σ.2 q' k' := fun k' => if_neg (fun z => h z.1)
  unfold ent flds arrs
  simp only [e]
theorem ent_fld {ρ : Id4 → Nat} {cy : Nat → ClassId} {σ : Hp} {q : Id4} {t k : Nat} {v : Int} (hk : kd q = .inl t) (hf : rfF t k = false) : ent ρ cy (updM σ.1 q k v, σ.2) q = .inr (t, (flds ρ σ q t).set k (.int (Int32.ofInt v))) := by
  unfold ent
  rw [hk]
  show Sum.inr (t, flds ρ (updM σ.1 q k v, σ.2) q t) = Sum.inr (t, _)
  congr 2
  apply List.ext_getElem?
  intro j
  unfold flds
  by_cases hj : j = k
  · subst hj
    by_cases hl : j < nfl t
    · rw [List.getElem?_set_self (by simpa using hl), List.getElem?_map, List.getElem?_range hl]
      simp [hf, updM]
    · rw [List.getElem?_eq_none (by simpa using hl), List.getElem?_eq_none (by simpa using hl)]
  · rw [List.getElem?_set_ne (Ne.symm hj), List.getElem?_map, List.getElem?_map]
    have e : updM σ.1 q k v q (j : Int) = σ.1 q (j : Int) := if_neg (fun z => hj (by have := z.2; omega))
    cases hz : (List.range (nfl t))[j]? with
    | none => rfl
    | some j' =>
      have hj' : j' = j := by
        have := List.getElem?_eq_some_iff.mp hz
        obtain ⟨h1, h2⟩ := this
        rw [List.getElem_range] at h2
        exact h2.symm
      subst hj'
      show some _ = some _
      dsimp only
      rw [e]
theorem ent_obj {ρ : Id4 → Nat} {cy : Nat → ClassId} {σ : Hp} {q : Id4} {t : Nat} (hk : kd q = .inl t) : ent ρ cy σ q = .inr (t, flds ρ σ q t) := by
  unfold ent
  rw [hk]
theorem ent_arr {ρ : Id4 → Nat} {cy : Nat → ClassId} {σ : Hp} {q : Id4} {e n : Nat} (hk : kd q = .inr (e, n)) (he : e ≤ 3 := by decide) : ent ρ cy σ q = .inl (cy e, (n, .inl (fun j => Int32.ofInt (σ.1 q (j : Int))))) := by
  unfold ent arrs
  rw [hk]
  dsimp only
  rw [if_pos he]
theorem ent_arrR {ρ : Id4 → Nat} {cy : Nat → ClassId} {σ : Hp} {q : Id4} {e n : Nat} (hk : kd q = .inr (e, n)) (he : 5 ≤ e) : ent ρ cy σ q = .inl (cy e, (n, .inr (.inr (.inr (.inr (fun j => (σ.2 q (j : Int)).map ρ)))))) := by
  unfold ent arrs
  rw [hk]
  dsimp only
  rw [if_neg (by omega), if_neg (by omega)]
theorem ent_upd {ρ : Id4 → Nat} {cy : Nat → ClassId} {σ : Hp} {q : Id4} {e n : Nat} {i x : Int} (hk : kd q = .inr (e, n)) (he : e ≤ 3) (h0 : 0 ≤ i) (h1 : i ≤ 2147483647) : ent ρ cy (updM σ.1 q i x, σ.2) q = .inl (cy e, (n, .inl (upd (fun j => Int32.ofInt (σ.1 q (j : Int))) (Int32.ofInt i).toNatClampNeg (Int32.ofInt x)))) := by
  rw [ent_arr hk he]
  congr 4
  funext j
  rw [oi_nat h0 h1]
  show Int32.ofInt (if q = q ∧ (j : Int) = i then x else σ.1 q (j : Int)) = if j = i.toNat then Int32.ofInt x else Int32.ofInt (σ.1 q (j : Int))
  by_cases hj : j = i.toNat
  · rw [if_pos hj, if_pos ⟨rfl, by omega⟩]
  · rw [if_neg hj, if_neg (fun z => hj (by have := z.2; omega))]
theorem fl_len {ρ : Id4 → Nat} {σ : Hp} {q : Id4} {t : Nat} : (flds ρ σ q t).length = nfl t := by unfold flds; rw [List.length_map, List.length_range]
theorem fl_int {ρ : Id4 → Nat} {σ : Hp} {q : Id4} {t k : Nat} (hk : k < nfl t) (hr : rfF t k = false) : (flds ρ σ q t)[k]? = some (.int (Int32.ofInt (σ.1 q (k : Int)))) := by
  unfold flds
  rw [List.getElem?_map, List.getElem?_range hk]
  simp [hr]
theorem fl_ref {ρ : Id4 → Nat} {σ : Hp} {q q2 : Id4} {t k : Nat} (hk : k < nfl t) (hr : rfF t k = true) (hq : σ.2 q (k : Int) = some q2) : (flds ρ σ q t)[k]? = some (.ref (ρ q2)) := by
  unfold flds
  rw [List.getElem?_map, List.getElem?_range hk]
  simp [hr, hq, va_rf]
def wsA (ρ : Id4 → Nat) (L : List Id4) : va_W := L.map fun q => (ρ q, .inr (0, []))
theorem vaD_map {A : Nat → Prop} {ρ : Id4 → Nat} {L : List Id4} {f1 f2 : Id4 → va_E} (h : va_D A (L.map fun q => (ρ q, f1 q))) : va_D A (L.map fun q => (ρ q, f2 q)) := by
  have key : ∀ (k : Nat) (x : Nat × va_E), (L.map fun q => (ρ q, f2 q))[k]? = some x → ∃ y, (L.map fun q => (ρ q, f1 q))[k]? = some y ∧ y.1 = x.1 := by
    intro k x hx
    rw [List.getElem?_map] at hx ⊢
    cases hq : L[k]? with
    | none => rw [hq] at hx; cases hx
    | some q => rw [hq] at hx; cases hx; exact ⟨_, rfl, rfl⟩
  refine ⟨fun i j x y hx hy hxy => ?_, fun k x hx => ?_⟩
  · obtain ⟨x', h1, h2⟩ := key i x hx
    obtain ⟨y', h3, h4⟩ := key j y hy
    exact h.1 i j x' y' h1 h3 (by rw [h2, h4, hxy])
  · obtain ⟨x', h1, h2⟩ := key k x hx
    rw [← h2]
    exact h.2 k x' h1
theorem wsD {A : Nat → Prop} {ρ : Id4 → Nat} {cy : Nat → ClassId} {L : List Id4} (h : va_D A (wsA ρ L)) (σ : Hp) : va_D A (wsOf ρ cy L σ) := vaD_map h
theorem Dws {A : Nat → Prop} {ρ : Id4 → Nat} {cy : Nat → ClassId} {L : List Id4} {σ : Hp} (h : va_D A (wsOf ρ cy L σ)) : va_D A (wsA ρ L) := vaD_map h
-- numbers of the machine
def bShl (x y : Int) : Int := (Int32.ofInt x <<< (Int32.ofInt y &&& 31)).toInt
def bShr (x y : Int) : Int := (Int32.ofInt x >>> (Int32.ofInt y &&& 31)).toInt
def bAnd (x y : Int) : Int := (Int32.ofInt x &&& Int32.ofInt y).toInt
def bOr (x y : Int) : Int := (Int32.ofInt x ||| Int32.ofInt y).toInt
def bXor (x y : Int) : Int := (Int32.ofInt x ^^^ Int32.ofInt y).toInt
def bUshr (x y : Int) : Int := ((Int32.ofInt x).toUInt32 >>> ((Int32.ofInt y).toUInt32 &&& Int32.toUInt32 31)).toInt32.toInt
def bI2b (x : Int) : Int := ((Int32.ofInt x).toInt8.toInt32).toInt
theorem oi_div {x y : Int} (hx : inR x) (hy : inR y) (h0 : 0 ≤ y) : Int32.ofInt x / Int32.ofInt y = Int32.ofInt (x.tdiv y) := by
  have h1 := Int32.toInt_div (Int32.ofInt x) (Int32.ofInt y)
  rw [oi_inR hx, oi_inR hy] at h1
  apply Int32.toInt_inj.mp
  rw [h1, Int32.toInt_ofInt]
theorem emod_le' {x y : Int} (hx : 0 ≤ x) (hy : 0 < y) : x % y ≤ x := by
  by_cases h : x < y
  · rw [Int.emod_eq_of_lt hx h]
    exact Int.le_refl x
  · have := Int.emod_lt_of_pos x hy
    omega
theorem tmod_inR {x y : Int} (hx : inR x) (h0 : 0 < y) : inR (x.tmod y) := by
  unfold inR at hx ⊢
  by_cases h : 0 ≤ x
  · rw [Int.tmod_eq_emod_of_nonneg h]
    have h1 := Int.emod_nonneg x (show y ≠ 0 by omega)
    have h2 : x % y ≤ x := emod_le' h h0
    omega
  · obtain ⟨z, rfl⟩ : ∃ z, x = -z := ⟨-x, by omega⟩
    rw [Int.neg_tmod, Int.tmod_eq_emod_of_nonneg (by omega)]
    have h1 := Int.emod_nonneg z (show y ≠ 0 by omega)
    have h2 : z % y ≤ z := emod_le' (by omega) h0
    omega
theorem oi_mod {x y : Int} (hx : inR x) (hy : inR y) (h0 : 0 < y) : Int32.ofInt x % Int32.ofInt y = Int32.ofInt (x.tmod y) := by
  have h1 := Int32.toInt_mod (Int32.ofInt x) (Int32.ofInt y)
  rw [oi_inR hx, oi_inR hy] at h1
  apply Int32.toInt_inj.mp
  rw [h1, oi_inR (tmod_inR hx h0)]
theorem oi_char {x : Int} (h0 : 0 ≤ x) (h1 : x < 65536) : ((Int32.ofInt x).toUInt32 % 65536).toInt32 = Int32.ofInt x := by
  obtain ⟨n, rfl⟩ : ∃ n : Nat, x = (n : Int) := ⟨x.toNat, by omega⟩
  have h2 : n < 65536 := by omega
  have e : (Int32.ofInt (n : Int)) = Int32.ofNat n := rfl
  have e1 : (Int32.ofInt (n : Int)).toUInt32 % 65536 = (Int32.ofInt (n : Int)).toUInt32 := by
    apply UInt32.toNat_inj.mp
    rw [UInt32.toNat_mod]
    have : (Int32.ofInt (n : Int)).toUInt32.toNat = n := by
      rw [e]
      show (Int32.ofNat n).toUInt32.toBitVec.toNat = n
      simp [Int32.ofNat]
      omega
    rw [this]
    exact Nat.mod_eq_of_lt h2
  rw [e1]
  rfl
theorem oi_long {x : Int} (h : inR x) : (Int32.ofInt x).toInt64 = Int64.ofInt x := by
  apply Int64.toInt_inj.mp
  have h2 := h
  unfold inR at h2
  rw [Int32.toInt_toInt64, oi_inR h, Int64.toInt_ofInt_of_le (by omega) (by omega)]
-- the locals
def LH (ρ : Id4 → Nat) (ls : Array Slot) (nL : Nat) (lv : List AV) : Prop := ls.size = nL ∧ lv_wf ls ∧ ∀ (i : Nat) (v : AV), lv[i]? = some v → isX v = false → ls[i]? = some (.val (cv ρ v))
def asL (ρ : Id4 → Nat) : Nat → List AV → List (Nat × Value)
  | _, [] => []
  | i, v :: r => if isX v then asL ρ (i + 1) r else (i, cv ρ v) :: asL ρ (i + 1) r
theorem asL_mem {ρ : Id4 → Nat} : ∀ (lv : List AV) (i : Nat) (x : Nat × Value), x ∈ asL ρ i lv ↔ ∃ (j : Nat) (v : AV), lv[j]? = some v ∧ isX v = false ∧ x = (i + j, cv ρ v)
  | [], i, x => by simp [asL]
  | v :: r, i, x => by
    unfold asL
    have ih := asL_mem (ρ := ρ) r (i + 1) x
    constructor
    · intro h
      by_cases hv : isX v = true
      · rw [if_pos hv] at h
        obtain ⟨j, w, h1, h2, h3⟩ := ih.mp h
        exact ⟨j + 1, w, by simpa using h1, h2, by rw [h3, Nat.add_assoc, Nat.add_comm 1 j]⟩
      · rw [if_neg hv] at h
        rcases List.mem_cons.mp h with h | h
        · exact ⟨0, v, rfl, by simpa using hv, by rw [h]; rfl⟩
        · obtain ⟨j, w, h1, h2, h3⟩ := ih.mp h
          exact ⟨j + 1, w, by simpa using h1, h2, by rw [h3, Nat.add_assoc, Nat.add_comm 1 j]⟩
    · rintro ⟨j, w, h1, h2, h3⟩
      cases j with
      | zero =>
        cases h1
        rw [if_neg (by rw [h2]; decide)]
        exact List.mem_cons.mpr (Or.inl h3)
      | succ j =>
        have h4 : x ∈ asL ρ (i + 1) r := ih.mpr ⟨j, w, by simpa using h1, h2, by rw [h3, Nat.add_assoc, Nat.add_comm 1 j]⟩
        by_cases hv : isX v = true
        · rw [if_pos hv]; exact h4
        · rw [if_neg hv]; exact List.mem_cons.mpr (Or.inr h4)
theorem lh_as {ρ : Id4 → Nat} {ls : Array Slot} {nL : Nat} {lv : List AV} (h : LH ρ ls nL lv) : lv_has ls nL (asL ρ 0 lv) := by
  refine ⟨h.1, h.2.1, fun x hx => ?_⟩
  obtain ⟨j, v, h1, h2, h3⟩ := (asL_mem lv 0 x).mp hx
  rw [h3, Nat.zero_add]
  exact h.2.2 j v h1 h2
theorem lh_mem {ρ : Id4 → Nat} {ls : Array Slot} {nL : Nat} {lv : List AV} {i : Nat} {v : AV} (_ : LH ρ ls nL lv) (hi : lv[i]? = some v) (hx : isX v = false) : ∃ j : Nat, (asL ρ 0 lv)[j]? = some (i, cv ρ v) :=
  List.getElem?_of_mem ((asL_mem lv 0 _).mpr ⟨i, v, hi, hx, by rw [Nat.zero_add]⟩)
theorem cv_cat {ρ : Id4 → Nat} {v : AV} (h : wide v = false) : (cv ρ v).category = 1 := by
  rcases v with i | o | i | x | x | x
  · rfl
  · cases o <;> rfl
  · exact absurd h (by simp [wide])
  · rfl
  · exact absurd h (by simp [wide])
  · rfl
theorem lh_set {ρ : Id4 → Nat} {ls ls' : Array Slot} {nL i : Nat} {lv : List AV} {v : AV} (_ : LH ρ ls nL lv) (hw : lv.all (fun v => !wide v) = true) (hi : i < lv.length)
    (h' : lv_has ls' nL ((i, cv ρ v) :: (asL ρ 0 lv).filter (fun q => !(q.1 == i) && !(q.1 + 1 == i && q.2.category == 2)))) : LH ρ ls' nL (lv.set i v) := by
  refine ⟨h'.1, h'.2.1, fun j w hj hx => ?_⟩
  by_cases hji : j = i
  · subst hji
    rw [List.getElem?_set_self hi] at hj
    cases hj
    exact h'.2.2 _ List.mem_cons_self
  · rw [List.getElem?_set_ne (Ne.symm hji)] at hj
    refine h'.2.2 (j, cv ρ w) (List.mem_cons.mpr (Or.inr (List.mem_filter.mpr ⟨(asL_mem lv 0 _).mpr ⟨j, w, hj, hx, by rw [Nat.zero_add]⟩, ?_⟩)))
    have hwd : wide w = false := by
      have := List.all_eq_true.mp hw w (List.mem_of_getElem? hj)
      simpa using this
    simp [hji, cv_cat (ρ := ρ) hwd]
-- the tables' words that are good in every frame
def Gw : List Cond := lw_tbl.filter goodWord
theorem gwI {w : Cond} (i : Nat) (h : lw_tbl[i]? = some w) (hg : goodWord w = true) : w ∈ Gw := List.mem_filter.mpr ⟨List.mem_of_getElem? h, hg⟩
theorem uwsG : ∀ w, w ∈ (vwCl.flatMap fun r => u_ws r.1 r.2.1 r.2.2) → w ∈ Gw := by decide +kernel
theorem clsOK (t : Nat) (r : vw_C) (h : vwCl[t]? = some r) : (∃ ty0 : Nat → FieldType, (∀ k, k < r.2.2 → parseFieldDescriptor (r.2.1 k).2.2.1 = some (ty0 k)) ∧ ∀ a, a < r.2.2 → ∀ b, b < r.2.2 → a ≠ b → (r.2.1 a).2.1 ≠ (r.2.1 b).2.1) ∧ ∀ w ∈ u_ws r.1 r.2.1 r.2.2, w ∈ Gw := by
  refine ⟨?_, fun w hw => uwsG w (List.mem_flatMap.mpr ⟨r, List.mem_of_getElem? h, hw⟩)⟩
  match t, h with
  | 0, h => cases h; exact ⟨tyX0, tyX0_ok, nmX0⟩
  | 1, h => cases h; exact ⟨tyX1, tyX1_ok, nmX1⟩
  | 2, h => cases h; exact ⟨tyX2, tyX2_ok, nmX2⟩
  | 3, h => cases h; exact ⟨tyX3, tyX3_ok, nmX3⟩
  | 4, h => cases h; exact ⟨tyX4, tyX4_ok, nmX4⟩
  | 5, h => cases h; exact ⟨tyX5, tyX5_ok, nmX5⟩
  | 6, h => cases h; exact ⟨tyX6, tyX6_ok, nmX6⟩
  | 7, h => cases h; exact ⟨tyX7, tyX7_ok, nmX7⟩
  | 8, h => cases h; exact ⟨tyX8, tyX8_ok, nmX8⟩
  | 9, h => cases h; exact ⟨tyL, tyL_ok, nmL⟩
  | 10, h => cases h; exact ⟨tyJ0, tyJ0_ok, nmJ0⟩
  | 11, h => cases h; exact ⟨tyJ4, tyJ4_ok, nmJ4⟩
  | t + 12, h => simp [vwCl] at h
theorem vw_lt {t : Nat} {r : vw_C} (h : vwCl[t]? = some r) : t < 12 := (List.getElem?_eq_some_iff.mp h).1
def FL (own : String) (idx t f : Nat) : Prop := ∃ r : vw_C, vwCl[t]? = some r ∧ f < r.2.2 ∧ r.2.2 = nfl t ∧ Cond.fieldLink own idx (r.2.1 f).1 (r.2.1 f).2.1 (r.2.1 f).2.2.1 ∈ Gw
def FPI (t f : Nat) : Prop := ∀ r : vw_C, vwCl[t]? = some r → (r.2.1 f).2.2.2 = false ∧ parseFieldDescriptor (r.2.1 f).2.2.1 = some .int
-- the frame and its world
def rmOf (d U : Nat) : Room := { frames := d, cells := U, slots := 64 * U, locals := 80 * d }
/-- the links between nest mates -/
def NL : List (String × Nat × MethodName × String) := [(RX8, 19, yX6_init, RX8), (RX6, 11, yX5_init, RX8), (RX6, 20, yX3_init, RX8), (RX8, 26, yX3_init, RX8), (RX8, 33, yX5_init, RX8), (RX2, 24, yX5_init, RX8), (RX8, 50, yX1_init, RX8), (RX8, 57, yX0_init, RX8), (RX8, 64, yX7_init, RX8), (RX7, 22, yX1_init, RX8), (RX8, 71, yX4_init, RX8), (RX5, 50, yX8_modulo, RX8)]
def NW (s : State) : Prop := ∀ x ∈ NL, va_Nw (.methodLinkNest x.1 x.2.1 x.2.2.1 x.2.2.2) s
/-- the texts of the exceptions; the three words, at the addresses of (20, i, 0, 0) -/
def SL : List (String × Nat × String) := [(RX8, 329, "a number is out of its range"), (RX8, 321, "no such event"), (RX8, 323, "no such span"), (RX8, 146, "what is 0 to 4"), (RX8, 165, "no span is broken"), (RX8, 331, "there is no good timetable"), (RX8, 276, "HIGH of a span is too great for the period")]
def WL : List (String × Nat × String × Int) := [(RX6, 74, "period", 0), (RX6, 89, "event", 1), (RX6, 101, "span", 2), (RL, 70, "period ", 3), (RL, 79, ";", 4), (RL, 85, "event ", 5), (RL, 87, "abcde", 6), (RL, 93, " ", 7), (RL, 98, "span ", 8)]
/-- the exceptions, and what of their making isn't good in every frame -/
def EL : List String := ["java/lang/IndexOutOfBoundsException", "java/lang/IllegalArgumentException", "java/lang/IllegalStateException", "java/util/NoSuchElementException"]
def EN : List String := ["java/lang/RuntimeException", "java/lang/Exception"]
def DL : List MethodName := [Bundle.initS "java/lang/RuntimeException", Bundle.initS "java/lang/Exception", Bundle.initS "java/lang/Throwable"]
/-- what the law catches -/
def CL : List String := ["java/lang/IndexOutOfBoundsException", "java/lang/IllegalArgumentException", "java/util/NoSuchElementException"]
def EX (s : State) : Prop := (∀ x ∈ DL, va_Nw (.declares x) s) ∧ (∀ x ∈ EL, va_Nw (.castable x x) s) ∧ ∀ x ∈ EL, ∀ y ∈ CL, x ≠ y → va_Nc x y s
/-- the formatter that String.checkIndex names; never called -/
def fmN : String := "jdk/internal/util/Preconditions"
def fmF : String := "SIOOBE_FORMATTER"
def fmD : String := "Ljava/util/function/BiFunction;"
def ZF (ρ : Id4 → Nat) (A : Nat → Prop) (U : State) (H : Heap) : Prop := va_Z fmN fmF fmD .null A U H ∨ va_Z fmN fmF fmD (.ref (ρ (22, 0, 0, 0))) A U H
theorem ZF.moved {ρ : Id4 → Nat} {A : Nat → Prop} {u U : State} {H : Heap} (hvm : u.vm.Alike U.vm) (h : ZF ρ A u H) : ZF ρ A U H := h.imp (va_Z.moved hvm) (va_Z.moved hvm)
theorem ZF.kept {ρ : Id4 → Nat} {A : Nat → Prop} {U : State} {H H1 : Heap} (h : ZF ρ A U H) (hq : ∀ a : Nat, a < H.size → ¬ A a → H1[a]? = H[a]?) : ZF ρ A U H1 := h.imp (fun z => z.kept hq) (fun z => z.kept hq)
theorem ZF.narrow {ρ : Id4 → Nat} {A B : Nat → Prop} {U : State} {H : Heap} (h : ZF ρ A U H) (hAB : ∀ q, B q → A q) : ZF ρ B U H := h.imp (fun z => z.narrow hAB) (fun z => z.narrow hAB)
def ZZ (ρ : Id4 → Nat) (A : Nat → Prop) (s : State) : Prop := vx_Zq Bundle.tN "UNASSIGNED_STACK" Bundle.steD A s s.heap ∧ vx_Zq Bundle.tN "SUPPRESSED_SENTINEL" Bundle.listD A s s.heap ∧ NW s ∧ (∀ x ∈ SL, ∃ a, vk_R x.1 x.2.1 x.2.2 a s) ∧ (∀ x ∈ WL, vk_R x.1 x.2.1 x.2.2.1 (ρ (20, x.2.2.2, 0, 0)) s) ∧ vk_S 9 wLen wByt (fun i => ρ (20, (i : Int), 0, 0)) (fun i => ρ (21, (i : Int), 0, 0)) A s s.heap ∧ (va_Z "java/lang/String" "COMPACT_STRINGS" "Z" (.int 1) A s s.heap ∧ ZF ρ A s s.heap) ∧ EX s
abbrev Cx : Type := Program × Launch × Env × Room × State × MethodId × Array Value × List Frame × Method × Code
abbrev Kx : Type := va_G × (Nat → ClassId) × (Nat → Prop) × Nat × (Id4 → Nat) × List Id4
def AW (X : Cx) (K : Kx) (pc : Nat) (lv st : List AV) (σ : Hp) (u : Nat) (Q : State → Prop) : Prop :=
  match X, K with
  | (p, l, e, R, s, m, args, below, meth, c), (g, cy, A, nL, ρ, L) =>
    ∀ (H : Heap) (locs : List Loc) (ls : Array Slot), va_P g vwCl (wsOf ρ cy L σ) H → va_S A s.heap H locs → LH ρ ls nL lv → W p l e R s m args below meth c H locs u (64 * u) Q (F0 m pc ls (st.map (cv ρ)))
def Fx (X : Cx) (K : Kx) (cc : ByteArray) (own : String) (ret : Option FieldType) (d U : Nat) (tb : Bool) : Prop :=
  match X, K with
  | (p, l, _, R, s, m, args, _, meth, c), (g, cy, A, nL, ρ, L) =>
    p.tables.exec = Jvm.exec ∧ c.code = cc ∧ c.maxLocals = nL ∧ s.vm.findClass own = some m.cls ∧ (∀ w ∈ Gw, w.before args s = true) ∧ va_K g vwCl (tysOf cy) s ∧ L.Nodup ∧ va_D A (wsA ρ L) ∧ (∀ q, s.heap.size ≤ q → A q) ∧ meth.locks = false ∧ meth.sig.returnType = ret ∧ R = rmOf d U ∧ l.stackTraces = false ∧ ZZ ρ A s ∧ (tb = true → ∀ x ∈ c.exceptionTable.toList, False) ∧ L = Lall
/-- what a call site and its callee's words must be -/
def MLV (own : String) (idx : Nat) (y : MethodName) (bc : ByteArray) (mL : Nat) (ret : Option FieldType) (t n : Nat) : Prop :=
  (∃ r : vw_C, vwCl[t]? = some r ∧ y.cls = r.1) ∧ (y.cls ≠ "java/lang/invoke/MethodHandle" ∧ y.cls ≠ "java/lang/invoke/VarHandle" ∧ (parseMethodDescriptor y.desc).map (fun d => d.parameters.length) = some n) ∧ mL ≤ 40 ∧ Cond.methodLink own idx y ∈ Gw ∧ Cond.instanceMethod y ∈ Gw ∧ Cond.selects y.cls y y ∈ Gw ∧ Cond.initialized y.cls ∈ Gw ∧ Cond.code y bc mL ret ∈ Gw
def MLS (own : String) (idx : Nat) (y : MethodName) (bc : ByteArray) (mL : Nat) (ret : Option FieldType) (n : Nat) : Prop :=
  (y.cls ≠ "java/lang/invoke/MethodHandle" ∧ y.cls ≠ "java/lang/invoke/VarHandle" ∧ (parseMethodDescriptor y.desc).map (fun d => d.parameters.length) = some n) ∧ mL ≤ 40 ∧ Cond.methodLink own idx y ∈ Gw ∧ Cond.static y ∈ Gw ∧ Cond.initialized y.cls ∈ Gw ∧ Cond.code y bc mL ret ∈ Gw
def MLN (own : String) (idx : Nat) (host : String) (y : MethodName) (bc : ByteArray) (mL : Nat) (ret : Option FieldType) (n : Nat) : Prop :=
  (y.cls ≠ "java/lang/invoke/MethodHandle" ∧ y.cls ≠ "java/lang/invoke/VarHandle" ∧ (parseMethodDescriptor y.desc).map (fun d => d.parameters.length) = some n) ∧ mL ≤ 40 ∧ (own, idx, y, host) ∈ NL ∧ Cond.static y ∈ Gw ∧ Cond.initialized y.cls ∈ Gw ∧ Cond.code y bc mL ret ∈ Gw
/-- what a place that throws must be: 'new cls("text")', its constants' places -/
def TH (own : String) (ik is ic : Nat) (cls text : String) : Prop := cls ∈ EL ∧ (own, is, text) ∈ SL ∧ Bundle.fit cls = true ∧ Cond.classLink own ik cls ∈ Gw ∧ Cond.initialized cls ∈ Gw ∧ (∀ w ∈ (vx_atS own ic cls EN).filter goodWord, w ∈ Gw) ∧ ((vx_atS own ic cls EN).filter (fun w => !goodWord w) = [.declares (Bundle.initS "java/lang/RuntimeException"), .declares (Bundle.initS "java/lang/Exception"), .declares (Bundle.initS "java/lang/Throwable"), .castable cls cls]) ∧ ∀ w ∈ Cond.classLink own ik cls :: Cond.initialized cls :: vx_atS own ic cls EN, vx_ot w = true
/-- what a call of System.arraycopy asks of the tables -/
def MLC (own : String) (idx : Nat) : Prop := Cond.methodLink own idx arraycopyName ∈ Gw ∧ Cond.native arraycopyName ∈ Gw ∧ Cond.static arraycopyName ∈ Gw ∧ Cond.initialized "java/lang/System" ∈ Gw
