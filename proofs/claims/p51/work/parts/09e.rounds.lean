/-! 09e: a round of tightening, in phases: for each third event c, all pairs at once -/
theorem sumsP_iff {T : Nat} {x y : Int} {n m : Nat} : sumsP T x y n m = true ↔ ∃ a, a < n ∧ bit x a = true ∧ bit y ((m + T - a) % T) = true := by
  unfold sumsP
  rw [List.any_eq_true]
  constructor
  · rintro ⟨a, h1, h2⟩
    rw [Bool.and_eq_true] at h2
    exact ⟨a, List.mem_range.mp h1, h2.1, h2.2⟩
  · rintro ⟨a, h1, h2, h3⟩
    exact ⟨a, List.mem_range.mpr h1, by rw [Bool.and_eq_true]; exact ⟨h2, h3⟩⟩
theorem sub_sub_mod {T m a : Nat} (hm : m < T) (ha : a < T) : (m + T - (m + T - a) % T) % T = a := by
  by_cases g : a ≤ m
  · rw [show m + T - a = (m - a) + T by omega, Nat.add_mod_right, Nat.mod_eq_of_lt (show m - a < T by omega), show m + T - (m - a) = a + T by omega, Nat.add_mod_right, Nat.mod_eq_of_lt ha]
  · rw [Nat.mod_eq_of_lt (show m + T - a < T by omega), show m + T - (m + T - a) = a by omega, Nat.mod_eq_of_lt ha]
theorem sums_comm {T : Nat} (hT : T ≤ 24) (x y : Int) : sumsI T x y = sumsI T y x := by
  refine setI_congr hT (fun m hm => ?_)
  have key : ∀ x y : Int, sumsP T x y T m = true → sumsP T y x T m = true := by
    intro x y h
    obtain ⟨a, h1, h2, h3⟩ := sumsP_iff.mp h
    exact sumsP_iff.mpr ⟨(m + T - a) % T, Nat.mod_lt _ (by omega), h3, by rw [sub_sub_mod hm h1]; exact h2⟩
  exact Bool.eq_iff_iff.mpr ⟨key x y, key y x⟩
theorem sums_turn {T : Nat} (hT : T ≤ 24) (x y : Int) : sumsI T (turnI T x) (turnI T y) = turnI T (sumsI T x y) := by
  refine setI_congr hT (fun m hm => ?_)
  unfold turnP
  rw [sums_bit hT]
  have h0 : (T - m) % T < T := Nat.mod_lt _ (by omega)
  rw [decide_eq_true h0, Bool.true_and]
  have e1 : ∀ a, a < T → ((T - m) % T + T - (T - a) % T) % T = (T - (m + T - a) % T) % T := by
    intro a ha
    by_cases g0 : m = 0
    · subst g0
      by_cases g1 : a = 0
      · subst g1; simp
      · rw [Nat.sub_zero, Nat.mod_self, Nat.mod_eq_of_lt (show T - a < T by omega), Nat.mod_eq_of_lt (show 0 + T - a < T by omega), show 0 + T - (T - a) = a by omega, show T - (0 + T - a) = a by omega]
    · rw [Nat.mod_eq_of_lt (show T - m < T by omega)]
      by_cases g1 : a = 0
      · subst g1
        rw [Nat.sub_zero, Nat.mod_self, Nat.sub_zero, Nat.add_mod_right, Nat.sub_zero, Nat.add_mod_right, Nat.mod_eq_of_lt (show m < T by omega)]
      · rw [Nat.mod_eq_of_lt (show T - a < T by omega), show T - m + T - (T - a) = T - m + a by omega]
        by_cases g : a ≤ m
        · rw [show m + T - a = (m - a) + T by omega, Nat.add_mod_right, Nat.mod_eq_of_lt (show m - a < T by omega), show T - (m - a) = T - m + a by omega]
        · rw [Nat.mod_eq_of_lt (show m + T - a < T by omega), show T - m + a = (a - m) + T by omega, Nat.add_mod_right, show T - (m + T - a) = a - m by omega]
  apply Bool.eq_iff_iff.mpr
  constructor
  · intro h
    obtain ⟨a, h1, h2, h3⟩ := sumsP_iff.mp h
    rw [turn_bit hT, Bool.and_eq_true] at h2 h3
    exact sumsP_iff.mpr ⟨(T - a) % T, Nat.mod_lt _ (by omega), h2.2, by rw [e1 a h1]; exact h3.2⟩
  · intro h
    obtain ⟨a, h1, h2, h3⟩ := sumsP_iff.mp h
    have h4 : (T - a) % T < T := Nat.mod_lt _ (by omega)
    refine sumsP_iff.mpr ⟨(T - a) % T, h4, ?_, ?_⟩
    · rw [turn_bit hT, mod_turn h1, decide_eq_true h4]
      simpa using h2
    · rw [turn_bit hT, decide_eq_true (Nat.mod_lt _ (by omega)), Bool.true_and, ← e1 _ h4, mod_turn h1]
      exact h3
theorem turn_and {T : Nat} (hT : T ≤ 24) (x y : Int) : turnI T (bAnd x y) = bAnd (turnI T x) (turnI T y) := by
  have h1 : Set24 T (turnI T (bAnd x y)) := setI_S hT
  have h2 : Set24 T (bAnd (turnI T x) (turnI T y)) := Set24.and hT (setI_S hT) _
  refine h1.ext h2 (fun i hi => ?_)
  rw [turn_bit hT, bit_and, bit_and, turn_bit hT, turn_bit hT, decide_eq_true hi]
  simp
theorem and_and (x y : Int) : bAnd (bAnd x y) y = bAnd x y := by
  refine bit_ext (bAnd_inR _ _) (bAnd_inR _ _) (fun i hi => ?_)
  rw [bit_and, bit_and, Bool.and_assoc, Bool.and_self]
/-- the pairs (a, b) that the third event c narrows -/
def dst (E a b c : Int) : Prop := (0 ≤ a ∧ a < E) ∧ (0 ≤ b ∧ b < E) ∧ a ≠ b ∧ a ≠ c ∧ b ≠ c
def phV (T : Nat) (A : Int → Int) (c a b : Int) : Int := bAnd (A (6 * a + b)) (sumsI T (A (6 * a + c)) (A (6 * c + b)))
noncomputable def phA (T : Nat) (E : Int) (A : Int → Int) (c : Int) : Int → Int := fun j => @ite _ (0 ≤ j ∧ j < 36 ∧ dst E (j / 6) (j % 6) c) (Classical.propDecidable _) (phV T A c (j / 6) (j % 6)) (A j)
theorem phA_in {T : Nat} {E : Int} {A : Int → Int} {c a b : Int} (hE : E ≤ 6) (h : dst E a b c) : phA T E A c (6 * a + b) = phV T A c a b := by
  obtain ⟨h1, h2, h3⟩ := id h
  unfold phA
  rw [show (6 * a + b) / 6 = a by omega, show (6 * a + b) % 6 = b by omega]
  exact if_pos ⟨by omega, by omega, h⟩
theorem phA_out {T : Nat} {E : Int} {A : Int → Int} {c a b : Int} (ha : 0 ≤ b ∧ b < 6) (h : ¬ dst E a b c) : phA T E A c (6 * a + b) = A (6 * a + b) := by
  unfold phA
  rw [show (6 * a + b) / 6 = a by omega, show (6 * a + b) % 6 = b by omega]
  exact if_neg (fun z => h z.2.2)
/-- each set is the other way round of its mirror's -/
def SymA (T : Nat) (E : Int) (A : Int → Int) : Prop := ∀ a b, 0 ≤ a → a < E → 0 ≤ b → b < E → a ≠ b → A (6 * b + a) = turnI T (A (6 * a + b))
theorem phV_sym {T : Nat} {E : Int} {A : Int → Int} {c a b : Int} (hT : T ≤ 24) (hs : SymA T E A) (hc : 0 ≤ c ∧ c < E) (h : dst E a b c) : phV T A c b a = turnI T (phV T A c a b) := by
  obtain ⟨h1, h2, h3, h4, h5⟩ := h
  unfold phV
  rw [turn_and hT, ← sums_turn hT, hs a b h1.1 h1.2 h2.1 h2.2 h3, hs c b hc.1 hc.2 h2.1 h2.2 (fun z => h5 z.symm), hs a c h1.1 h1.2 hc.1 hc.2 h4, sums_comm hT]
theorem dst_comm {E a b c : Int} (h : dst E a b c) : dst E b a c := ⟨h.2.1, h.1, fun z => h.2.2.1 z.symm, h.2.2.2.2, h.2.2.2.1⟩
theorem phA_sym {T : Nat} {E : Int} {A : Int → Int} {c : Int} (hT : T ≤ 24) (hE : E ≤ 6) (hs : SymA T E A) (hc : 0 ≤ c ∧ c < E) : SymA T E (phA T E A c) := by
  intro a b h1 h2 h3 h4 h5
  by_cases h : dst E a b c
  · rw [phA_in hE h, phA_in hE (dst_comm h), phV_sym hT hs hc h]
  · rw [phA_out (by omega) h, phA_out (by omega) (fun z => h (dst_comm z)), hs a b h1 h2 h3 h4 h5]
theorem phA_ok {T : Nat} {E : Int} {A : Int → Int} {c : Int} (hT : T ≤ 24) (h : MatOk T A) (hE : E ≤ 6) : MatOk T (phA T E A c) := by
  intro j h0 h1
  unfold phA
  split
  · rename_i g
    unfold phV
    exact (h _ (by omega) (by omega)).and hT _
  · exact h j h0 h1
/-- the matrix while the pairs of Pr are done -/
noncomputable def mixA (T : Nat) (E : Int) (A : Int → Int) (c : Int) (Pr : Int → Int → Prop) : Int → Int := fun j => @ite _ (Pr (j / 6) (j % 6) ∨ Pr (j % 6) (j / 6)) (Classical.propDecidable _) (phA T E A c j) (A j)
theorem mixA_at {T : Nat} {E : Int} {A : Int → Int} {c : Int} {Pr : Int → Int → Prop} {a b : Int} (hb : 0 ≤ b ∧ b < 6) : mixA T E A c Pr (6 * a + b) = @ite _ (Pr a b ∨ Pr b a) (Classical.propDecidable _) (phA T E A c (6 * a + b)) (A (6 * a + b)) := by
  unfold mixA
  rw [show (6 * a + b) / 6 = a by omega, show (6 * a + b) % 6 = b by omega]
theorem mixA_c {T : Nat} {E : Int} {A : Int → Int} {c : Int} {Pr : Int → Int → Prop} {a : Int} (hc : 0 ≤ c ∧ c < 6) : mixA T E A c Pr (6 * a + c) = A (6 * a + c) := by
  rw [mixA_at hc, phA_out hc (fun z => z.2.2.2.2 rfl)]
  split <;> rfl
theorem mixA_c2 {T : Nat} {E : Int} {A : Int → Int} {c : Int} {Pr : Int → Int → Prop} {b : Int} (hb : 0 ≤ b ∧ b < 6) : mixA T E A c Pr (6 * c + b) = A (6 * c + b) := by
  rw [mixA_at hb, phA_out hb (fun z => z.2.2.2.1 rfl)]
  split <;> rfl
/-- one pair more, narrowed -/
theorem mix_step {T : Nat} {E : Int} {A : Int → Int} {c a b : Int} {Pr Pr2 : Int → Int → Prop} (hT : T ≤ 24) (hE : E ≤ 6) (hs : SymA T E A) (hc : 0 ≤ c ∧ c < E) (h : dst E a b c) (hP : ∀ x y, Pr2 x y ↔ (Pr x y ∨ (x = a ∧ y = b))) :
    narA T (mixA T E A c Pr) a b (sumsI T (A (6 * a + c)) (A (6 * c + b))) = mixA T E A c Pr2 ∧ mixA T E A c Pr2 (6 * a + b) = phA T E A c (6 * a + b) := by
  obtain ⟨h1, h2, h3, h4, h5⟩ := id h
  have e0 : bAnd (mixA T E A c Pr (6 * a + b)) (sumsI T (A (6 * a + c)) (A (6 * c + b))) = phA T E A c (6 * a + b) := by
    rw [mixA_at (by omega), phA_in hE h]
    split
    · unfold phV
      exact and_and _ _
    · rfl
  have e1 : turnI T (phA T E A c (6 * a + b)) = phA T E A c (6 * b + a) := by
    rw [phA_in hE h, phA_in hE (dst_comm h), phV_sym hT hs hc h]
  refine ⟨?_, ?_⟩
  · unfold narA
    rw [e0, e1]
    funext j
    by_cases g1 : j = 6 * b + a
    · rw [g1, upS_same, mixA_at (by omega), if_pos (Or.inr ((hP a b).mpr (Or.inr ⟨rfl, rfl⟩)))]
    · rw [upS_ne g1]
      by_cases g2 : j = 6 * a + b
      · rw [g2, upS_same, mixA_at (by omega), if_pos (Or.inl ((hP a b).mpr (Or.inr ⟨rfl, rfl⟩)))]
      · rw [upS_ne g2]
        unfold mixA
        have k1 : Pr2 (j / 6) (j % 6) ↔ Pr (j / 6) (j % 6) := by
          rw [hP]
          exact ⟨fun z => z.elim id (fun z => absurd (show j = 6 * a + b by omega) g2), Or.inl⟩
        have k2 : Pr2 (j % 6) (j / 6) ↔ Pr (j % 6) (j / 6) := by
          rw [hP]
          exact ⟨fun z => z.elim id (fun z => absurd (show j = 6 * b + a by omega) g1), Or.inl⟩
        by_cases q : Pr (j / 6) (j % 6) ∨ Pr (j % 6) (j / 6)
        · rw [if_pos q, if_pos (q.imp k1.mpr k2.mpr)]
        · rw [if_neg q, if_neg (fun z => q (z.imp k1.mp k2.mp))]
  · rw [mixA_at (by omega), if_pos (Or.inl ((hP a b).mpr (Or.inr ⟨rfl, rfl⟩)))]
/-- one pair more, that isn't narrowed -/
theorem mix_skip {T : Nat} {E : Int} {A : Int → Int} {c a b : Int} {Pr Pr2 : Int → Int → Prop} (ha : 0 ≤ a ∧ a < 6) (hb : 0 ≤ b ∧ b < 6) (h : ¬ dst E a b c) (hP : ∀ x y, Pr2 x y ↔ (Pr x y ∨ (x = a ∧ y = b))) : mixA T E A c Pr = mixA T E A c Pr2 := by
  funext j
  unfold mixA
  by_cases q : Pr (j / 6) (j % 6) ∨ Pr (j % 6) (j / 6)
  · rw [if_pos q, if_pos (q.imp (fun z => (hP _ _).mpr (Or.inl z)) (fun z => (hP _ _).mpr (Or.inl z)))]
  · rw [if_neg q]
    by_cases q2 : Pr2 (j / 6) (j % 6) ∨ Pr2 (j % 6) (j / 6)
    · rw [if_pos q2]
      have : j = 6 * a + b ∨ j = 6 * b + a := by
        rcases q2 with z | z
        · rcases (hP _ _).mp z with z | z
          · exact absurd (Or.inl z) q
          · left; omega
        · rcases (hP _ _).mp z with z | z
          · exact absurd (Or.inr z) q
          · right; omega
      rcases this with z | z
      · rw [z, phA_out hb h]
      · rw [z, phA_out ha (fun y => h (dst_comm y))]
    · rw [if_neg q2]
theorem mix_none {T : Nat} {E : Int} {A : Int → Int} {c : Int} {Pr : Int → Int → Prop} (h : ∀ x y, ¬ Pr x y) : mixA T E A c Pr = A := by
  funext j
  unfold mixA
  rw [if_neg (fun z => z.elim (h _ _) (h _ _))]
theorem mix_all {T : Nat} {E : Int} {A : Int → Int} {c : Int} {Pr : Int → Int → Prop} (h : ∀ x y, dst E x y c → Pr x y ∨ Pr y x) : mixA T E A c Pr = phA T E A c := by
  funext j
  unfold mixA
  by_cases q : Pr (j / 6) (j % 6) ∨ Pr (j % 6) (j / 6)
  · rw [if_pos q]
  · rw [if_neg q]
    unfold phA
    rw [if_neg (fun z => q (h _ _ z.2.2))]
theorem mixA_ok {T : Nat} {E : Int} {A : Int → Int} {c : Int} {Pr : Int → Int → Prop} (hT : T ≤ 24) (hE : E ≤ 6) (h : MatOk T A) : MatOk T (mixA T E A c Pr) := by
  intro j h0 h1
  unfold mixA
  split
  · exact phA_ok hT h hE j h0 h1
  · exact h j h0 h1
theorem mix_congr {T : Nat} {E : Int} {A : Int → Int} {c : Int} {Pr Pr2 : Int → Int → Prop} (h : ∀ x y, Pr x y ↔ Pr2 x y) : mixA T E A c Pr = mixA T E A c Pr2 := by
  rw [show Pr = Pr2 from funext fun x => funext fun y => propext (h x y)]
/-- whether a pair of Pr has changed -/
def chg (T : Nat) (E : Int) (A : Int → Int) (c : Int) (Pr : Int → Int → Prop) : Prop := ∃ x y, (Pr x y ∨ Pr y x) ∧ dst E x y c ∧ phV T A c x y ≠ A (6 * x + y)
theorem chg_congr {T : Nat} {E : Int} {A : Int → Int} {c : Int} {Pr Pr2 : Int → Int → Prop} (h : ∀ x y, Pr x y ↔ Pr2 x y) : chg T E A c Pr ↔ chg T E A c Pr2 := by
  rw [show Pr = Pr2 from funext fun x => funext fun y => propext (h x y)]
theorem chg_step {T : Nat} {E : Int} {A : Int → Int} {c a b : Int} {Pr Pr2 : Int → Int → Prop} (hT : T ≤ 24) (hE : E ≤ 6) (hs : SymA T E A) (hc : 0 ≤ c ∧ c < E) (h : dst E a b c) (hP : ∀ x y, Pr2 x y ↔ (Pr x y ∨ (x = a ∧ y = b))) : chg T E A c Pr2 ↔ (chg T E A c Pr ∨ phV T A c a b ≠ mixA T E A c Pr (6 * a + b)) := by
  obtain ⟨h1, h2, h3, h4, h5⟩ := id h
  constructor
  · rintro ⟨x, y, q1, q2, q3⟩
    by_cases g : Pr x y ∨ Pr y x
    · exact Or.inl ⟨x, y, g, q2, q3⟩
    · right
      have : (x = a ∧ y = b) ∨ (x = b ∧ y = a) := by
        rcases q1 with z | z
        · exact Or.inl (((hP _ _).mp z).resolve_left (fun z => g (Or.inl z)))
        · have := ((hP _ _).mp z).resolve_left (fun z => g (Or.inr z))
          exact Or.inr ⟨this.2, this.1⟩
      have g' : ¬ (Pr a b ∨ Pr b a) := by
        rcases this with ⟨rfl, rfl⟩ | ⟨rfl, rfl⟩
        · exact g
        · exact fun z => g z.symm
      rw [mixA_at (by omega), if_neg g']
      rcases this with ⟨rfl, rfl⟩ | ⟨rfl, rfl⟩
      · exact q3
      · intro z
        apply q3
        rw [phV_sym hT hs hc h, z, hs _ _ h1.1 h1.2 h2.1 h2.2 h3]
  · rintro (⟨x, y, q1, q2, q3⟩ | q)
    · exact ⟨x, y, q1.imp (fun z => (hP _ _).mpr (Or.inl z)) (fun z => (hP _ _).mpr (Or.inl z)), q2, q3⟩
    · refine ⟨a, b, Or.inl ((hP _ _).mpr (Or.inr ⟨rfl, rfl⟩)), h, ?_⟩
      rw [mixA_at (by omega)] at q
      by_cases g : Pr a b ∨ Pr b a
      · rw [if_pos g, phA_in hE h] at q
        exact absurd rfl q
      · rw [if_neg g] at q
        exact q
theorem chg_skip {T : Nat} {E : Int} {A : Int → Int} {c a b : Int} {Pr Pr2 : Int → Int → Prop} (h : ¬ dst E a b c) (hP : ∀ x y, Pr2 x y ↔ (Pr x y ∨ (x = a ∧ y = b))) : chg T E A c Pr2 ↔ chg T E A c Pr := by
  constructor
  · rintro ⟨x, y, q1, q2, q3⟩
    refine ⟨x, y, ?_, q2, q3⟩
    rcases q1 with z | z
    · rcases (hP _ _).mp z with z | ⟨rfl, rfl⟩
      · exact Or.inl z
      · exact absurd q2 h
    · rcases (hP _ _).mp z with z | ⟨rfl, rfl⟩
      · exact Or.inr z
      · exact absurd (dst_comm q2) h
  · rintro ⟨x, y, q1, q2, q3⟩
    exact ⟨x, y, q1.imp (fun z => (hP _ _).mpr (Or.inl z)) (fun z => (hP _ _).mpr (Or.inl z)), q2, q3⟩
/-- a number that tells whether P -/
def isB (x : Int) (P : Prop) : Prop := (x = 0 ∧ ¬ P) ∨ (x = 1 ∧ P)
theorem isB_congr {x : Int} {P Q : Prop} (h : P ↔ Q) (hx : isB x P) : isB x Q := by
  rcases hx with ⟨h1, h2⟩ | ⟨h1, h2⟩
  · exact Or.inl ⟨h1, fun z => h2 (h.mpr z)⟩
  · exact Or.inr ⟨h1, h.mp h2⟩
theorem isB_bd {x : Int} {P : Prop} (hx : isB x P) : 0 ≤ x ∧ x ≤ 1 := by
  rcases hx with ⟨h1, h2⟩ | ⟨h1, h2⟩ <;> omega
/-- the matrix after n phases, whether one of them changed something -/
noncomputable def phN (T : Nat) (E : Int) (A : Int → Int) : Nat → Int → Int
  | 0 => A
  | n + 1 => phA T E (phN T E A n) n
def chN (T : Nat) (E : Int) (A : Int → Int) : Nat → Prop
  | 0 => False
  | n + 1 => chN T E A n ∨ chg T E (phN T E A n) n (fun _ _ => True)